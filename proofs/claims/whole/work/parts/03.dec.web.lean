theorem d_AB_init_0 : decode k_AB_init 0 = .ok (.aload_n 0, 1) := by decide +kernel
theorem d_AB_init_1 : decode k_AB_init 1 = .ok (.invokespecial 3, 3) := by decide +kernel
theorem d_AB_init_4 : decode k_AB_init 4 = .ok (.aload_n 0, 1) := by decide +kernel
theorem d_AB_init_5 : decode k_AB_init 5 = .ok (.new 9, 3) := by decide +kernel
theorem d_AB_init_8 : decode k_AB_init 8 = .ok (.dup, 1) := by decide +kernel
theorem d_AB_init_9 : decode k_AB_init 9 = .ok (.invokespecial 11, 3) := by decide +kernel
theorem d_AB_init_12 : decode k_AB_init 12 = .ok (.putfield 12, 3) := by decide +kernel
theorem d_AB_init_15 : decode k_AB_init 15 = .ok (.aload_n 0, 1) := by decide +kernel
theorem d_AB_init_16 : decode k_AB_init 16 = .ok (.new 16, 3) := by decide +kernel
theorem d_AB_init_19 : decode k_AB_init 19 = .ok (.dup, 1) := by decide +kernel
theorem d_AB_init_20 : decode k_AB_init 20 = .ok (.invokespecial 18, 3) := by decide +kernel
theorem d_AB_init_23 : decode k_AB_init 23 = .ok (.putfield 19, 3) := by decide +kernel
theorem d_AB_init_26 : decode k_AB_init 26 = .ok (.aload_n 0, 1) := by decide +kernel
theorem d_AB_init_27 : decode k_AB_init 27 = .ok (.new 23, 3) := by decide +kernel
theorem d_AB_init_30 : decode k_AB_init 30 = .ok (.dup, 1) := by decide +kernel
theorem d_AB_init_31 : decode k_AB_init 31 = .ok (.invokespecial 25, 3) := by decide +kernel
theorem d_AB_init_34 : decode k_AB_init 34 = .ok (.putfield 26, 3) := by decide +kernel
theorem d_AB_init_37 : decode k_AB_init 37 = .ok (.aload_n 0, 1) := by decide +kernel
theorem d_AB_init_38 : decode k_AB_init 38 = .ok (.new 30, 3) := by decide +kernel
theorem d_AB_init_41 : decode k_AB_init 41 = .ok (.dup, 1) := by decide +kernel
theorem d_AB_init_42 : decode k_AB_init 42 = .ok (.invokespecial 32, 3) := by decide +kernel
theorem d_AB_init_45 : decode k_AB_init 45 = .ok (.putfield 33, 3) := by decide +kernel
theorem d_AB_init_48 : decode k_AB_init 48 = .ok (.aload_n 0, 1) := by decide +kernel
theorem d_AB_init_49 : decode k_AB_init 49 = .ok (.new 37, 3) := by decide +kernel
theorem d_AB_init_52 : decode k_AB_init 52 = .ok (.dup, 1) := by decide +kernel
theorem d_AB_init_53 : decode k_AB_init 53 = .ok (.invokespecial 39, 3) := by decide +kernel
theorem d_AB_init_56 : decode k_AB_init 56 = .ok (.putfield 40, 3) := by decide +kernel
theorem d_AB_init_59 : decode k_AB_init 59 = .ok (.aload_n 0, 1) := by decide +kernel
theorem d_AB_init_60 : decode k_AB_init 60 = .ok (.new 44, 3) := by decide +kernel
theorem d_AB_init_63 : decode k_AB_init 63 = .ok (.dup, 1) := by decide +kernel
theorem d_AB_init_64 : decode k_AB_init 64 = .ok (.invokespecial 46, 3) := by decide +kernel
theorem d_AB_init_67 : decode k_AB_init 67 = .ok (.putfield 47, 3) := by decide +kernel
theorem d_AB_init_70 : decode k_AB_init 70 = .ok (.return_, 1) := by decide +kernel
theorem d_Web_init_0 : decode k_Web_init 0 = .ok (.aload_n 0, 1) := by decide +kernel
theorem d_Web_init_1 : decode k_Web_init 1 = .ok (.invokespecial 3, 3) := by decide +kernel
theorem d_Web_init_4 : decode k_Web_init 4 = .ok (.aload_n 0, 1) := by decide +kernel
theorem d_Web_init_5 : decode k_Web_init 5 = .ok (.bipush 12, 2) := by decide +kernel
theorem d_Web_init_7 : decode k_Web_init 7 = .ok (.newarray .int, 2) := by decide +kernel
theorem d_Web_init_9 : decode k_Web_init 9 = .ok (.putfield 9, 3) := by decide +kernel
theorem d_Web_init_12 : decode k_Web_init 12 = .ok (.aload_n 0, 1) := by decide +kernel
theorem d_Web_init_13 : decode k_Web_init 13 = .ok (.bipush 12, 2) := by decide +kernel
theorem d_Web_init_15 : decode k_Web_init 15 = .ok (.newarray .int, 2) := by decide +kernel
theorem d_Web_init_17 : decode k_Web_init 17 = .ok (.putfield 15, 3) := by decide +kernel
theorem d_Web_init_20 : decode k_Web_init 20 = .ok (.aload_n 0, 1) := by decide +kernel
theorem d_Web_init_21 : decode k_Web_init 21 = .ok (.iconst 0, 1) := by decide +kernel
theorem d_Web_init_22 : decode k_Web_init 22 = .ok (.putfield 18, 3) := by decide +kernel
theorem d_Web_init_25 : decode k_Web_init 25 = .ok (.return_, 1) := by decide +kernel
theorem d_AB_claim_0 : decode k_AB_claim 0 = .ok (.aload_n 0, 1) := by decide +kernel
theorem d_AB_claim_1 : decode k_AB_claim 1 = .ok (.getfield 12, 3) := by decide +kernel
theorem d_AB_claim_4 : decode k_AB_claim 4 = .ok (.iconst 1, 1) := by decide +kernel
theorem d_AB_claim_5 : decode k_AB_claim 5 = .ok (.invokevirtual 51, 3) := by decide +kernel
theorem d_AB_claim_8 : decode k_AB_claim 8 = .ok (.ifCond .ne 5, 3) := by decide +kernel
theorem d_AB_claim_11 : decode k_AB_claim 11 = .ok (.iconst (-1), 1) := by decide +kernel
theorem d_AB_claim_12 : decode k_AB_claim 12 = .ok (.ireturn, 1) := by decide +kernel
theorem d_AB_claim_13 : decode k_AB_claim 13 = .ok (.aload_n 0, 1) := by decide +kernel
theorem d_AB_claim_14 : decode k_AB_claim 14 = .ok (.getfield 12, 3) := by decide +kernel
theorem d_AB_claim_17 : decode k_AB_claim 17 = .ok (.invokevirtual 55, 3) := by decide +kernel
theorem d_AB_claim_20 : decode k_AB_claim 20 = .ok (.istore_n 1, 1) := by decide +kernel
theorem d_AB_claim_21 : decode k_AB_claim 21 = .ok (.aload_n 0, 1) := by decide +kernel
theorem d_AB_claim_22 : decode k_AB_claim 22 = .ok (.invokevirtual 59, 3) := by decide +kernel
theorem d_AB_claim_25 : decode k_AB_claim 25 = .ok (.iload_n 1, 1) := by decide +kernel
theorem d_AB_claim_26 : decode k_AB_claim 26 = .ok (.ireturn, 1) := by decide +kernel
theorem d_Web_hasRoomFor_0 : decode k_Web_hasRoomFor 0 = .ok (.aload_n 0, 1) := by decide +kernel
theorem d_Web_hasRoomFor_1 : decode k_Web_hasRoomFor 1 = .ok (.getfield 18, 3) := by decide +kernel
theorem d_Web_hasRoomFor_4 : decode k_Web_hasRoomFor 4 = .ok (.iload_n 1, 1) := by decide +kernel
theorem d_Web_hasRoomFor_5 : decode k_Web_hasRoomFor 5 = .ok (.iadd, 1) := by decide +kernel
theorem d_Web_hasRoomFor_6 : decode k_Web_hasRoomFor 6 = .ok (.bipush 12, 2) := by decide +kernel
theorem d_Web_hasRoomFor_8 : decode k_Web_hasRoomFor 8 = .ok (.if_icmp .gt 7, 3) := by decide +kernel
theorem d_Web_hasRoomFor_11 : decode k_Web_hasRoomFor 11 = .ok (.iconst 1, 1) := by decide +kernel
theorem d_Web_hasRoomFor_12 : decode k_Web_hasRoomFor 12 = .ok (.goto 4, 3) := by decide +kernel
theorem d_Web_hasRoomFor_15 : decode k_Web_hasRoomFor 15 = .ok (.iconst 0, 1) := by decide +kernel
theorem d_Web_hasRoomFor_16 : decode k_Web_hasRoomFor 16 = .ok (.ireturn, 1) := by decide +kernel
theorem d_Web_add_0 : decode k_Web_add 0 = .ok (.aload_n 0, 1) := by decide +kernel
theorem d_Web_add_1 : decode k_Web_add 1 = .ok (.iconst 1, 1) := by decide +kernel
theorem d_Web_add_2 : decode k_Web_add 2 = .ok (.invokevirtual 30, 3) := by decide +kernel
theorem d_Web_add_5 : decode k_Web_add 5 = .ok (.ifCond .ne 5, 3) := by decide +kernel
theorem d_Web_add_8 : decode k_Web_add 8 = .ok (.iconst (-1), 1) := by decide +kernel
theorem d_Web_add_9 : decode k_Web_add 9 = .ok (.ireturn, 1) := by decide +kernel
theorem d_Web_add_10 : decode k_Web_add 10 = .ok (.aload_n 0, 1) := by decide +kernel
theorem d_Web_add_11 : decode k_Web_add 11 = .ok (.dup, 1) := by decide +kernel
theorem d_Web_add_12 : decode k_Web_add 12 = .ok (.getfield 18, 3) := by decide +kernel
theorem d_Web_add_15 : decode k_Web_add 15 = .ok (.iconst 1, 1) := by decide +kernel
theorem d_Web_add_16 : decode k_Web_add 16 = .ok (.iadd, 1) := by decide +kernel
theorem d_Web_add_17 : decode k_Web_add 17 = .ok (.putfield 18, 3) := by decide +kernel
theorem d_Web_add_20 : decode k_Web_add 20 = .ok (.aload_n 0, 1) := by decide +kernel
theorem d_Web_add_21 : decode k_Web_add 21 = .ok (.getfield 18, 3) := by decide +kernel
theorem d_Web_add_24 : decode k_Web_add 24 = .ok (.iconst 1, 1) := by decide +kernel
theorem d_Web_add_25 : decode k_Web_add 25 = .ok (.isub, 1) := by decide +kernel
theorem d_Web_add_26 : decode k_Web_add 26 = .ok (.ireturn, 1) := by decide +kernel
theorem d_AB_changed_0 : decode k_AB_changed 0 = .ok (.aload_n 0, 1) := by decide +kernel
theorem d_AB_changed_1 : decode k_AB_changed 1 = .ok (.getfield 26, 3) := by decide +kernel
theorem d_AB_changed_4 : decode k_AB_changed 4 = .ok (.invokevirtual 167, 3) := by decide +kernel
theorem d_AB_changed_7 : decode k_AB_changed 7 = .ok (.aload_n 0, 1) := by decide +kernel
theorem d_AB_changed_8 : decode k_AB_changed 8 = .ok (.getfield 19, 3) := by decide +kernel
theorem d_AB_changed_11 : decode k_AB_changed 11 = .ok (.invokevirtual 170, 3) := by decide +kernel
theorem d_AB_changed_14 : decode k_AB_changed 14 = .ok (.return_, 1) := by decide +kernel
theorem d_AB_attack_0 : decode k_AB_attack 0 = .ok (.aload_n 0, 1) := by decide +kernel
theorem d_AB_attack_1 : decode k_AB_attack 1 = .ok (.getfield 12, 3) := by decide +kernel
theorem d_AB_attack_4 : decode k_AB_attack 4 = .ok (.iload_n 1, 1) := by decide +kernel
theorem d_AB_attack_5 : decode k_AB_attack 5 = .ok (.invokevirtual 62, 3) := by decide +kernel
theorem d_AB_attack_8 : decode k_AB_attack 8 = .ok (.ifCond .eq 14, 3) := by decide +kernel
theorem d_AB_attack_11 : decode k_AB_attack 11 = .ok (.aload_n 0, 1) := by decide +kernel
theorem d_AB_attack_12 : decode k_AB_attack 12 = .ok (.getfield 12, 3) := by decide +kernel
theorem d_AB_attack_15 : decode k_AB_attack 15 = .ok (.iload_n 2, 1) := by decide +kernel
theorem d_AB_attack_16 : decode k_AB_attack 16 = .ok (.invokevirtual 62, 3) := by decide +kernel
theorem d_AB_attack_19 : decode k_AB_attack 19 = .ok (.ifCond .ne 5, 3) := by decide +kernel
theorem d_AB_attack_22 : decode k_AB_attack 22 = .ok (.iconst 0, 1) := by decide +kernel
theorem d_AB_attack_23 : decode k_AB_attack 23 = .ok (.ireturn, 1) := by decide +kernel
theorem d_AB_attack_24 : decode k_AB_attack 24 = .ok (.aload_n 0, 1) := by decide +kernel
theorem d_AB_attack_25 : decode k_AB_attack 25 = .ok (.getfield 12, 3) := by decide +kernel
theorem d_AB_attack_28 : decode k_AB_attack 28 = .ok (.iload_n 1, 1) := by decide +kernel
theorem d_AB_attack_29 : decode k_AB_attack 29 = .ok (.iload_n 2, 1) := by decide +kernel
theorem d_AB_attack_30 : decode k_AB_attack 30 = .ok (.invokevirtual 65, 3) := by decide +kernel
theorem d_AB_attack_33 : decode k_AB_attack 33 = .ok (.iload_n 3, 1) := by decide +kernel
theorem d_AB_attack_34 : decode k_AB_attack 34 = .ok (.if_icmp .eq 17, 3) := by decide +kernel
theorem d_AB_attack_37 : decode k_AB_attack 37 = .ok (.aload_n 0, 1) := by decide +kernel
theorem d_AB_attack_38 : decode k_AB_attack 38 = .ok (.getfield 12, 3) := by decide +kernel
theorem d_AB_attack_41 : decode k_AB_attack 41 = .ok (.iload_n 1, 1) := by decide +kernel
theorem d_AB_attack_42 : decode k_AB_attack 42 = .ok (.iload_n 2, 1) := by decide +kernel
theorem d_AB_attack_43 : decode k_AB_attack 43 = .ok (.iload_n 3, 1) := by decide +kernel
theorem d_AB_attack_44 : decode k_AB_attack 44 = .ok (.invokevirtual 69, 3) := by decide +kernel
theorem d_AB_attack_47 : decode k_AB_attack 47 = .ok (.aload_n 0, 1) := by decide +kernel
theorem d_AB_attack_48 : decode k_AB_attack 48 = .ok (.invokevirtual 59, 3) := by decide +kernel
theorem d_AB_attack_51 : decode k_AB_attack 51 = .ok (.iconst 1, 1) := by decide +kernel
theorem d_AB_attack_52 : decode k_AB_attack 52 = .ok (.ireturn, 1) := by decide +kernel
theorem d_Web_has_0 : decode k_Web_has 0 = .ok (.iload_n 1, 1) := by decide +kernel
theorem d_Web_has_1 : decode k_Web_has 1 = .ok (.ifCond .lt 15, 3) := by decide +kernel
theorem d_Web_has_4 : decode k_Web_has 4 = .ok (.iload_n 1, 1) := by decide +kernel
theorem d_Web_has_5 : decode k_Web_has 5 = .ok (.aload_n 0, 1) := by decide +kernel
theorem d_Web_has_6 : decode k_Web_has 6 = .ok (.getfield 18, 3) := by decide +kernel
theorem d_Web_has_9 : decode k_Web_has 9 = .ok (.if_icmp .ge 7, 3) := by decide +kernel
theorem d_Web_has_12 : decode k_Web_has 12 = .ok (.iconst 1, 1) := by decide +kernel
theorem d_Web_has_13 : decode k_Web_has 13 = .ok (.goto 4, 3) := by decide +kernel
theorem d_Web_has_16 : decode k_Web_has 16 = .ok (.iconst 0, 1) := by decide +kernel
theorem d_Web_has_17 : decode k_Web_has 17 = .ok (.ireturn, 1) := by decide +kernel
theorem d_Web_leads_0 : decode k_Web_leads 0 = .ok (.aload_n 0, 1) := by decide +kernel
theorem d_Web_leads_1 : decode k_Web_leads 1 = .ok (.iload_n 1, 1) := by decide +kernel
theorem d_Web_leads_2 : decode k_Web_leads 2 = .ok (.invokevirtual 34, 3) := by decide +kernel
theorem d_Web_leads_5 : decode k_Web_leads 5 = .ok (.ifCond .eq 28, 3) := by decide +kernel
theorem d_Web_leads_8 : decode k_Web_leads 8 = .ok (.aload_n 0, 1) := by decide +kernel
theorem d_Web_leads_9 : decode k_Web_leads 9 = .ok (.iload_n 2, 1) := by decide +kernel
theorem d_Web_leads_10 : decode k_Web_leads 10 = .ok (.invokevirtual 34, 3) := by decide +kernel
theorem d_Web_leads_13 : decode k_Web_leads 13 = .ok (.ifCond .eq 20, 3) := by decide +kernel
theorem d_Web_leads_16 : decode k_Web_leads 16 = .ok (.iload_n 2, 1) := by decide +kernel
theorem d_Web_leads_17 : decode k_Web_leads 17 = .ok (.aload_n 0, 1) := by decide +kernel
theorem d_Web_leads_18 : decode k_Web_leads 18 = .ok (.getfield 9, 3) := by decide +kernel
theorem d_Web_leads_21 : decode k_Web_leads 21 = .ok (.iload_n 1, 1) := by decide +kernel
theorem d_Web_leads_22 : decode k_Web_leads 22 = .ok (.iaload, 1) := by decide +kernel
theorem d_Web_leads_23 : decode k_Web_leads 23 = .ok (.invokestatic 37, 3) := by decide +kernel
theorem d_Web_leads_26 : decode k_Web_leads 26 = .ok (.ifCond .eq 7, 3) := by decide +kernel
theorem d_Web_leads_29 : decode k_Web_leads 29 = .ok (.iconst 1, 1) := by decide +kernel
theorem d_Web_leads_30 : decode k_Web_leads 30 = .ok (.goto 4, 3) := by decide +kernel
theorem d_Web_leads_33 : decode k_Web_leads 33 = .ok (.iconst 0, 1) := by decide +kernel
theorem d_Web_leads_34 : decode k_Web_leads 34 = .ok (.ireturn, 1) := by decide +kernel
theorem d_AB_isIn_0 : decode k_AB_isIn 0 = .ok (.iload_n 1, 1) := by decide +kernel
theorem d_AB_isIn_1 : decode k_AB_isIn 1 = .ok (.iconst 1, 1) := by decide +kernel
theorem d_AB_isIn_2 : decode k_AB_isIn 2 = .ok (.iload_n 0, 1) := by decide +kernel
theorem d_AB_isIn_3 : decode k_AB_isIn 3 = .ok (.ishl, 1) := by decide +kernel
theorem d_AB_isIn_4 : decode k_AB_isIn 4 = .ok (.iand, 1) := by decide +kernel
theorem d_AB_isIn_5 : decode k_AB_isIn 5 = .ok (.ifCond .eq 7, 3) := by decide +kernel
theorem d_AB_isIn_8 : decode k_AB_isIn 8 = .ok (.iconst 1, 1) := by decide +kernel
theorem d_AB_isIn_9 : decode k_AB_isIn 9 = .ok (.goto 4, 3) := by decide +kernel
theorem d_AB_isIn_12 : decode k_AB_isIn 12 = .ok (.iconst 0, 1) := by decide +kernel
theorem d_AB_isIn_13 : decode k_AB_isIn 13 = .ok (.ireturn, 1) := by decide +kernel
theorem d_Web_put_0 : decode k_Web_put 0 = .ok (.aload_n 0, 1) := by decide +kernel
theorem d_Web_put_1 : decode k_Web_put 1 = .ok (.iload_n 1, 1) := by decide +kernel
theorem d_Web_put_2 : decode k_Web_put 2 = .ok (.invokevirtual 34, 3) := by decide +kernel
theorem d_Web_put_5 : decode k_Web_put 5 = .ok (.ifCond .eq 11, 3) := by decide +kernel
theorem d_Web_put_8 : decode k_Web_put 8 = .ok (.aload_n 0, 1) := by decide +kernel
theorem d_Web_put_9 : decode k_Web_put 9 = .ok (.iload_n 2, 1) := by decide +kernel
theorem d_Web_put_10 : decode k_Web_put 10 = .ok (.invokevirtual 34, 3) := by decide +kernel
theorem d_Web_put_13 : decode k_Web_put 13 = .ok (.ifCond .ne 4, 3) := by decide +kernel
theorem d_Web_put_16 : decode k_Web_put 16 = .ok (.return_, 1) := by decide +kernel
theorem d_Web_put_17 : decode k_Web_put 17 = .ok (.iload_n 3, 1) := by decide +kernel
theorem d_Web_put_18 : decode k_Web_put 18 = .ok (.ifCond .eq 30, 3) := by decide +kernel
theorem d_Web_put_21 : decode k_Web_put 21 = .ok (.aload_n 0, 1) := by decide +kernel
theorem d_Web_put_22 : decode k_Web_put 22 = .ok (.getfield 9, 3) := by decide +kernel
theorem d_Web_put_25 : decode k_Web_put 25 = .ok (.iload_n 1, 1) := by decide +kernel
theorem d_Web_put_26 : decode k_Web_put 26 = .ok (.dup2, 1) := by decide +kernel
theorem d_Web_put_27 : decode k_Web_put 27 = .ok (.iaload, 1) := by decide +kernel
theorem d_Web_put_28 : decode k_Web_put 28 = .ok (.iconst 1, 1) := by decide +kernel
theorem d_Web_put_29 : decode k_Web_put 29 = .ok (.iload_n 2, 1) := by decide +kernel
theorem d_Web_put_30 : decode k_Web_put 30 = .ok (.ishl, 1) := by decide +kernel
theorem d_Web_put_31 : decode k_Web_put 31 = .ok (.ior, 1) := by decide +kernel
theorem d_Web_put_32 : decode k_Web_put 32 = .ok (.iastore, 1) := by decide +kernel
theorem d_Web_put_33 : decode k_Web_put 33 = .ok (.aload_n 0, 1) := by decide +kernel
theorem d_Web_put_34 : decode k_Web_put 34 = .ok (.getfield 15, 3) := by decide +kernel
theorem d_Web_put_37 : decode k_Web_put 37 = .ok (.iload_n 2, 1) := by decide +kernel
theorem d_Web_put_38 : decode k_Web_put 38 = .ok (.dup2, 1) := by decide +kernel
theorem d_Web_put_39 : decode k_Web_put 39 = .ok (.iaload, 1) := by decide +kernel
theorem d_Web_put_40 : decode k_Web_put 40 = .ok (.iconst 1, 1) := by decide +kernel
theorem d_Web_put_41 : decode k_Web_put 41 = .ok (.iload_n 1, 1) := by decide +kernel
theorem d_Web_put_42 : decode k_Web_put 42 = .ok (.ishl, 1) := by decide +kernel
theorem d_Web_put_43 : decode k_Web_put 43 = .ok (.ior, 1) := by decide +kernel
theorem d_Web_put_44 : decode k_Web_put 44 = .ok (.iastore, 1) := by decide +kernel
theorem d_Web_put_45 : decode k_Web_put 45 = .ok (.goto 31, 3) := by decide +kernel
theorem d_Web_put_48 : decode k_Web_put 48 = .ok (.aload_n 0, 1) := by decide +kernel
theorem d_Web_put_49 : decode k_Web_put 49 = .ok (.getfield 9, 3) := by decide +kernel
theorem d_Web_put_52 : decode k_Web_put 52 = .ok (.iload_n 1, 1) := by decide +kernel
theorem d_Web_put_53 : decode k_Web_put 53 = .ok (.dup2, 1) := by decide +kernel
theorem d_Web_put_54 : decode k_Web_put 54 = .ok (.iaload, 1) := by decide +kernel
theorem d_Web_put_55 : decode k_Web_put 55 = .ok (.iconst 1, 1) := by decide +kernel
theorem d_Web_put_56 : decode k_Web_put 56 = .ok (.iload_n 2, 1) := by decide +kernel
theorem d_Web_put_57 : decode k_Web_put 57 = .ok (.ishl, 1) := by decide +kernel
theorem d_Web_put_58 : decode k_Web_put 58 = .ok (.iconst (-1), 1) := by decide +kernel
theorem d_Web_put_59 : decode k_Web_put 59 = .ok (.ixor, 1) := by decide +kernel
theorem d_Web_put_60 : decode k_Web_put 60 = .ok (.iand, 1) := by decide +kernel
theorem d_Web_put_61 : decode k_Web_put 61 = .ok (.iastore, 1) := by decide +kernel
theorem d_Web_put_62 : decode k_Web_put 62 = .ok (.aload_n 0, 1) := by decide +kernel
theorem d_Web_put_63 : decode k_Web_put 63 = .ok (.getfield 15, 3) := by decide +kernel
theorem d_Web_put_66 : decode k_Web_put 66 = .ok (.iload_n 2, 1) := by decide +kernel
theorem d_Web_put_67 : decode k_Web_put 67 = .ok (.dup2, 1) := by decide +kernel
theorem d_Web_put_68 : decode k_Web_put 68 = .ok (.iaload, 1) := by decide +kernel
theorem d_Web_put_69 : decode k_Web_put 69 = .ok (.iconst 1, 1) := by decide +kernel
theorem d_Web_put_70 : decode k_Web_put 70 = .ok (.iload_n 1, 1) := by decide +kernel
theorem d_Web_put_71 : decode k_Web_put 71 = .ok (.ishl, 1) := by decide +kernel
theorem d_Web_put_72 : decode k_Web_put 72 = .ok (.iconst (-1), 1) := by decide +kernel
theorem d_Web_put_73 : decode k_Web_put 73 = .ok (.ixor, 1) := by decide +kernel
theorem d_Web_put_74 : decode k_Web_put 74 = .ok (.iand, 1) := by decide +kernel
theorem d_Web_put_75 : decode k_Web_put 75 = .ok (.iastore, 1) := by decide +kernel
theorem d_Web_put_76 : decode k_Web_put 76 = .ok (.return_, 1) := by decide +kernel
theorem d_AB_attacks_0 : decode k_AB_attacks 0 = .ok (.aload_n 0, 1) := by decide +kernel
theorem d_AB_attacks_1 : decode k_AB_attacks 1 = .ok (.getfield 12, 3) := by decide +kernel
theorem d_AB_attacks_4 : decode k_AB_attacks 4 = .ok (.iload_n 1, 1) := by decide +kernel
theorem d_AB_attacks_5 : decode k_AB_attacks 5 = .ok (.iload_n 2, 1) := by decide +kernel
theorem d_AB_attacks_6 : decode k_AB_attacks 6 = .ok (.invokevirtual 65, 3) := by decide +kernel
theorem d_AB_attacks_9 : decode k_AB_attacks 9 = .ok (.ireturn, 1) := by decide +kernel
theorem d_AB_joint_0 : decode k_AB_joint 0 = .ok (.aload_n 0, 1) := by decide +kernel
theorem d_AB_joint_1 : decode k_AB_joint 1 = .ok (.getfield 12, 3) := by decide +kernel
theorem d_AB_joint_4 : decode k_AB_joint 4 = .ok (.iload_n 1, 1) := by decide +kernel
theorem d_AB_joint_5 : decode k_AB_joint 5 = .ok (.invokevirtual 62, 3) := by decide +kernel
theorem d_AB_joint_8 : decode k_AB_joint 8 = .ok (.ifCond .eq 36, 3) := by decide +kernel
theorem d_AB_joint_11 : decode k_AB_joint 11 = .ok (.aload_n 0, 1) := by decide +kernel
theorem d_AB_joint_12 : decode k_AB_joint 12 = .ok (.getfield 12, 3) := by decide +kernel
theorem d_AB_joint_15 : decode k_AB_joint 15 = .ok (.iload_n 2, 1) := by decide +kernel
theorem d_AB_joint_16 : decode k_AB_joint 16 = .ok (.invokevirtual 62, 3) := by decide +kernel
theorem d_AB_joint_19 : decode k_AB_joint 19 = .ok (.ifCond .eq 25, 3) := by decide +kernel
theorem d_AB_joint_22 : decode k_AB_joint 22 = .ok (.aload_n 0, 1) := by decide +kernel
theorem d_AB_joint_23 : decode k_AB_joint 23 = .ok (.getfield 12, 3) := by decide +kernel
theorem d_AB_joint_26 : decode k_AB_joint 26 = .ok (.iload_n 3, 1) := by decide +kernel
theorem d_AB_joint_27 : decode k_AB_joint 27 = .ok (.invokevirtual 62, 3) := by decide +kernel
theorem d_AB_joint_30 : decode k_AB_joint 30 = .ok (.ifCond .eq 14, 3) := by decide +kernel
theorem d_AB_joint_33 : decode k_AB_joint 33 = .ok (.aload_n 0, 1) := by decide +kernel
theorem d_AB_joint_34 : decode k_AB_joint 34 = .ok (.getfield 12, 3) := by decide +kernel
theorem d_AB_joint_37 : decode k_AB_joint 37 = .ok (.iconst 3, 1) := by decide +kernel
theorem d_AB_joint_38 : decode k_AB_joint 38 = .ok (.invokevirtual 51, 3) := by decide +kernel
theorem d_AB_joint_41 : decode k_AB_joint 41 = .ok (.ifCond .ne 5, 3) := by decide +kernel
theorem d_AB_joint_44 : decode k_AB_joint 44 = .ok (.iconst (-1), 1) := by decide +kernel
theorem d_AB_joint_45 : decode k_AB_joint 45 = .ok (.ireturn, 1) := by decide +kernel
theorem d_AB_joint_46 : decode k_AB_joint 46 = .ok (.aload_n 0, 1) := by decide +kernel
theorem d_AB_joint_47 : decode k_AB_joint 47 = .ok (.getfield 12, 3) := by decide +kernel
theorem d_AB_joint_50 : decode k_AB_joint 50 = .ok (.invokevirtual 55, 3) := by decide +kernel
theorem d_AB_joint_53 : decode k_AB_joint 53 = .ok (.istore 4, 2) := by decide +kernel
theorem d_AB_joint_55 : decode k_AB_joint 55 = .ok (.aload_n 0, 1) := by decide +kernel
theorem d_AB_joint_56 : decode k_AB_joint 56 = .ok (.getfield 12, 3) := by decide +kernel
theorem d_AB_joint_59 : decode k_AB_joint 59 = .ok (.invokevirtual 55, 3) := by decide +kernel
theorem d_AB_joint_62 : decode k_AB_joint 62 = .ok (.istore 5, 2) := by decide +kernel
theorem d_AB_joint_64 : decode k_AB_joint 64 = .ok (.aload_n 0, 1) := by decide +kernel
theorem d_AB_joint_65 : decode k_AB_joint 65 = .ok (.getfield 12, 3) := by decide +kernel
theorem d_AB_joint_68 : decode k_AB_joint 68 = .ok (.invokevirtual 55, 3) := by decide +kernel
theorem d_AB_joint_71 : decode k_AB_joint 71 = .ok (.istore 6, 2) := by decide +kernel
theorem d_AB_joint_73 : decode k_AB_joint 73 = .ok (.aload_n 0, 1) := by decide +kernel
theorem d_AB_joint_74 : decode k_AB_joint 74 = .ok (.getfield 12, 3) := by decide +kernel
theorem d_AB_joint_77 : decode k_AB_joint 77 = .ok (.iload_n 1, 1) := by decide +kernel
theorem d_AB_joint_78 : decode k_AB_joint 78 = .ok (.iload 4, 2) := by decide +kernel
theorem d_AB_joint_80 : decode k_AB_joint 80 = .ok (.iconst 1, 1) := by decide +kernel
theorem d_AB_joint_81 : decode k_AB_joint 81 = .ok (.invokevirtual 69, 3) := by decide +kernel
theorem d_AB_joint_84 : decode k_AB_joint 84 = .ok (.aload_n 0, 1) := by decide +kernel
theorem d_AB_joint_85 : decode k_AB_joint 85 = .ok (.getfield 12, 3) := by decide +kernel
theorem d_AB_joint_88 : decode k_AB_joint 88 = .ok (.iload_n 2, 1) := by decide +kernel
theorem d_AB_joint_89 : decode k_AB_joint 89 = .ok (.iload 5, 2) := by decide +kernel
theorem d_AB_joint_91 : decode k_AB_joint 91 = .ok (.iconst 1, 1) := by decide +kernel
theorem d_AB_joint_92 : decode k_AB_joint 92 = .ok (.invokevirtual 69, 3) := by decide +kernel
theorem d_AB_joint_95 : decode k_AB_joint 95 = .ok (.aload_n 0, 1) := by decide +kernel
theorem d_AB_joint_96 : decode k_AB_joint 96 = .ok (.getfield 12, 3) := by decide +kernel
theorem d_AB_joint_99 : decode k_AB_joint 99 = .ok (.iload 4, 2) := by decide +kernel
theorem d_AB_joint_101 : decode k_AB_joint 101 = .ok (.iload 6, 2) := by decide +kernel
theorem d_AB_joint_103 : decode k_AB_joint 103 = .ok (.iconst 1, 1) := by decide +kernel
theorem d_AB_joint_104 : decode k_AB_joint 104 = .ok (.invokevirtual 69, 3) := by decide +kernel
theorem d_AB_joint_107 : decode k_AB_joint 107 = .ok (.aload_n 0, 1) := by decide +kernel
theorem d_AB_joint_108 : decode k_AB_joint 108 = .ok (.getfield 12, 3) := by decide +kernel
theorem d_AB_joint_111 : decode k_AB_joint 111 = .ok (.iload 5, 2) := by decide +kernel
theorem d_AB_joint_113 : decode k_AB_joint 113 = .ok (.iload 6, 2) := by decide +kernel
theorem d_AB_joint_115 : decode k_AB_joint 115 = .ok (.iconst 1, 1) := by decide +kernel
theorem d_AB_joint_116 : decode k_AB_joint 116 = .ok (.invokevirtual 69, 3) := by decide +kernel
theorem d_AB_joint_119 : decode k_AB_joint 119 = .ok (.aload_n 0, 1) := by decide +kernel
theorem d_AB_joint_120 : decode k_AB_joint 120 = .ok (.getfield 12, 3) := by decide +kernel
theorem d_AB_joint_123 : decode k_AB_joint 123 = .ok (.iload 6, 2) := by decide +kernel
theorem d_AB_joint_125 : decode k_AB_joint 125 = .ok (.iload_n 3, 1) := by decide +kernel
theorem d_AB_joint_126 : decode k_AB_joint 126 = .ok (.iconst 1, 1) := by decide +kernel
theorem d_AB_joint_127 : decode k_AB_joint 127 = .ok (.invokevirtual 69, 3) := by decide +kernel
theorem d_AB_joint_130 : decode k_AB_joint 130 = .ok (.aload_n 0, 1) := by decide +kernel
theorem d_AB_joint_131 : decode k_AB_joint 131 = .ok (.invokevirtual 59, 3) := by decide +kernel
theorem d_AB_joint_134 : decode k_AB_joint 134 = .ok (.iload 4, 2) := by decide +kernel
theorem d_AB_joint_136 : decode k_AB_joint 136 = .ok (.ireturn, 1) := by decide +kernel
theorem d_AB_support_0 : decode k_AB_support 0 = .ok (.aload_n 0, 1) := by decide +kernel
theorem d_AB_support_1 : decode k_AB_support 1 = .ok (.getfield 12, 3) := by decide +kernel
theorem d_AB_support_4 : decode k_AB_support 4 = .ok (.iload_n 1, 1) := by decide +kernel
theorem d_AB_support_5 : decode k_AB_support 5 = .ok (.invokevirtual 62, 3) := by decide +kernel
theorem d_AB_support_8 : decode k_AB_support 8 = .ok (.ifCond .eq 25, 3) := by decide +kernel
theorem d_AB_support_11 : decode k_AB_support 11 = .ok (.aload_n 0, 1) := by decide +kernel
theorem d_AB_support_12 : decode k_AB_support 12 = .ok (.getfield 12, 3) := by decide +kernel
theorem d_AB_support_15 : decode k_AB_support 15 = .ok (.iload_n 2, 1) := by decide +kernel
theorem d_AB_support_16 : decode k_AB_support 16 = .ok (.invokevirtual 62, 3) := by decide +kernel
theorem d_AB_support_19 : decode k_AB_support 19 = .ok (.ifCond .eq 14, 3) := by decide +kernel
theorem d_AB_support_22 : decode k_AB_support 22 = .ok (.aload_n 0, 1) := by decide +kernel
theorem d_AB_support_23 : decode k_AB_support 23 = .ok (.getfield 12, 3) := by decide +kernel
theorem d_AB_support_26 : decode k_AB_support 26 = .ok (.iconst 1, 1) := by decide +kernel
theorem d_AB_support_27 : decode k_AB_support 27 = .ok (.invokevirtual 51, 3) := by decide +kernel
theorem d_AB_support_30 : decode k_AB_support 30 = .ok (.ifCond .ne 5, 3) := by decide +kernel
theorem d_AB_support_33 : decode k_AB_support 33 = .ok (.iconst (-1), 1) := by decide +kernel
theorem d_AB_support_34 : decode k_AB_support 34 = .ok (.ireturn, 1) := by decide +kernel
theorem d_AB_support_35 : decode k_AB_support 35 = .ok (.aload_n 0, 1) := by decide +kernel
theorem d_AB_support_36 : decode k_AB_support 36 = .ok (.getfield 12, 3) := by decide +kernel
theorem d_AB_support_39 : decode k_AB_support 39 = .ok (.invokevirtual 55, 3) := by decide +kernel
theorem d_AB_support_42 : decode k_AB_support 42 = .ok (.istore_n 3, 1) := by decide +kernel
theorem d_AB_support_43 : decode k_AB_support 43 = .ok (.aload_n 0, 1) := by decide +kernel
theorem d_AB_support_44 : decode k_AB_support 44 = .ok (.getfield 12, 3) := by decide +kernel
theorem d_AB_support_47 : decode k_AB_support 47 = .ok (.iload_n 1, 1) := by decide +kernel
theorem d_AB_support_48 : decode k_AB_support 48 = .ok (.iload_n 3, 1) := by decide +kernel
theorem d_AB_support_49 : decode k_AB_support 49 = .ok (.iconst 1, 1) := by decide +kernel
theorem d_AB_support_50 : decode k_AB_support 50 = .ok (.invokevirtual 69, 3) := by decide +kernel
theorem d_AB_support_53 : decode k_AB_support 53 = .ok (.aload_n 0, 1) := by decide +kernel
theorem d_AB_support_54 : decode k_AB_support 54 = .ok (.getfield 12, 3) := by decide +kernel
theorem d_AB_support_57 : decode k_AB_support 57 = .ok (.iload_n 3, 1) := by decide +kernel
theorem d_AB_support_58 : decode k_AB_support 58 = .ok (.iload_n 2, 1) := by decide +kernel
theorem d_AB_support_59 : decode k_AB_support 59 = .ok (.iconst 1, 1) := by decide +kernel
theorem d_AB_support_60 : decode k_AB_support 60 = .ok (.invokevirtual 69, 3) := by decide +kernel
theorem d_AB_support_63 : decode k_AB_support 63 = .ok (.aload_n 0, 1) := by decide +kernel
theorem d_AB_support_64 : decode k_AB_support 64 = .ok (.invokevirtual 59, 3) := by decide +kernel
theorem d_AB_support_67 : decode k_AB_support 67 = .ok (.iload_n 3, 1) := by decide +kernel
theorem d_AB_support_68 : decode k_AB_support 68 = .ok (.ireturn, 1) := by decide +kernel
theorem d_AB_arguments_0 : decode k_AB_arguments 0 = .ok (.aload_n 0, 1) := by decide +kernel
theorem d_AB_arguments_1 : decode k_AB_arguments 1 = .ok (.getfield 12, 3) := by decide +kernel
theorem d_AB_arguments_4 : decode k_AB_arguments 4 = .ok (.invokevirtual 73, 3) := by decide +kernel
theorem d_AB_arguments_7 : decode k_AB_arguments 7 = .ok (.ireturn, 1) := by decide +kernel
theorem d_Web_size_0 : decode k_Web_size 0 = .ok (.aload_n 0, 1) := by decide +kernel
theorem d_Web_size_1 : decode k_Web_size 1 = .ok (.getfield 18, 3) := by decide +kernel
theorem d_Web_size_4 : decode k_Web_size 4 = .ok (.ireturn, 1) := by decide +kernel
theorem d_AB_isFree_0 : decode k_AB_isFree 0 = .ok (.aload_n 0, 1) := by decide +kernel
theorem d_AB_isFree_1 : decode k_AB_isFree 1 = .ok (.getfield 12, 3) := by decide +kernel
theorem d_AB_isFree_4 : decode k_AB_isFree 4 = .ok (.iload_n 1, 1) := by decide +kernel
theorem d_AB_isFree_5 : decode k_AB_isFree 5 = .ok (.invokevirtual 76, 3) := by decide +kernel
theorem d_AB_isFree_8 : decode k_AB_isFree 8 = .ok (.ifCond .eq 20, 3) := by decide +kernel
theorem d_AB_isFree_11 : decode k_AB_isFree 11 = .ok (.aload_n 0, 1) := by decide +kernel
theorem d_AB_isFree_12 : decode k_AB_isFree 12 = .ok (.getfield 12, 3) := by decide +kernel
theorem d_AB_isFree_15 : decode k_AB_isFree 15 = .ok (.iload_n 1, 1) := by decide +kernel
theorem d_AB_isFree_16 : decode k_AB_isFree 16 = .ok (.invokevirtual 79, 3) := by decide +kernel
theorem d_AB_isFree_19 : decode k_AB_isFree 19 = .ok (.iload_n 1, 1) := by decide +kernel
theorem d_AB_isFree_20 : decode k_AB_isFree 20 = .ok (.iand, 1) := by decide +kernel
theorem d_AB_isFree_21 : decode k_AB_isFree 21 = .ok (.ifCond .ne 7, 3) := by decide +kernel
theorem d_AB_isFree_24 : decode k_AB_isFree 24 = .ok (.iconst 1, 1) := by decide +kernel
theorem d_AB_isFree_25 : decode k_AB_isFree 25 = .ok (.goto 4, 3) := by decide +kernel
theorem d_AB_isFree_28 : decode k_AB_isFree 28 = .ok (.iconst 0, 1) := by decide +kernel
theorem d_AB_isFree_29 : decode k_AB_isFree 29 = .ok (.ireturn, 1) := by decide +kernel
theorem d_Web_hasSet_0 : decode k_Web_hasSet 0 = .ok (.iload_n 1, 1) := by decide +kernel
theorem d_Web_hasSet_1 : decode k_Web_hasSet 1 = .ok (.aload_n 0, 1) := by decide +kernel
theorem d_Web_hasSet_2 : decode k_Web_hasSet 2 = .ok (.invokevirtual 22, 3) := by decide +kernel
theorem d_Web_hasSet_5 : decode k_Web_hasSet 5 = .ok (.invokestatic 26, 3) := by decide +kernel
theorem d_Web_hasSet_8 : decode k_Web_hasSet 8 = .ok (.ireturn, 1) := by decide +kernel
theorem d_Web_everything_0 : decode k_Web_everything 0 = .ok (.iconst 1, 1) := by decide +kernel
theorem d_Web_everything_1 : decode k_Web_everything 1 = .ok (.aload_n 0, 1) := by decide +kernel
theorem d_Web_everything_2 : decode k_Web_everything 2 = .ok (.getfield 18, 3) := by decide +kernel
theorem d_Web_everything_5 : decode k_Web_everything 5 = .ok (.ishl, 1) := by decide +kernel
theorem d_Web_everything_6 : decode k_Web_everything 6 = .ok (.iconst 1, 1) := by decide +kernel
theorem d_Web_everything_7 : decode k_Web_everything 7 = .ok (.isub, 1) := by decide +kernel
theorem d_Web_everything_8 : decode k_Web_everything 8 = .ok (.ireturn, 1) := by decide +kernel
theorem d_AB_isWithin_0 : decode k_AB_isWithin 0 = .ok (.iload_n 0, 1) := by decide +kernel
theorem d_AB_isWithin_1 : decode k_AB_isWithin 1 = .ok (.iload_n 1, 1) := by decide +kernel
theorem d_AB_isWithin_2 : decode k_AB_isWithin 2 = .ok (.iconst (-1), 1) := by decide +kernel
theorem d_AB_isWithin_3 : decode k_AB_isWithin 3 = .ok (.ixor, 1) := by decide +kernel
theorem d_AB_isWithin_4 : decode k_AB_isWithin 4 = .ok (.iand, 1) := by decide +kernel
theorem d_AB_isWithin_5 : decode k_AB_isWithin 5 = .ok (.ifCond .ne 7, 3) := by decide +kernel
theorem d_AB_isWithin_8 : decode k_AB_isWithin 8 = .ok (.iconst 1, 1) := by decide +kernel
theorem d_AB_isWithin_9 : decode k_AB_isWithin 9 = .ok (.goto 4, 3) := by decide +kernel
theorem d_AB_isWithin_12 : decode k_AB_isWithin 12 = .ok (.iconst 0, 1) := by decide +kernel
theorem d_AB_isWithin_13 : decode k_AB_isWithin 13 = .ok (.ireturn, 1) := by decide +kernel
theorem d_Web_targetsOf_0 : decode k_Web_targetsOf 0 = .ok (.iconst 0, 1) := by decide +kernel
theorem d_Web_targetsOf_1 : decode k_Web_targetsOf 1 = .ok (.istore_n 2, 1) := by decide +kernel
theorem d_Web_targetsOf_2 : decode k_Web_targetsOf 2 = .ok (.iconst 0, 1) := by decide +kernel
theorem d_Web_targetsOf_3 : decode k_Web_targetsOf 3 = .ok (.istore_n 3, 1) := by decide +kernel
theorem d_Web_targetsOf_4 : decode k_Web_targetsOf 4 = .ok (.iload_n 3, 1) := by decide +kernel
theorem d_Web_targetsOf_5 : decode k_Web_targetsOf 5 = .ok (.aload_n 0, 1) := by decide +kernel
theorem d_Web_targetsOf_6 : decode k_Web_targetsOf 6 = .ok (.getfield 18, 3) := by decide +kernel
theorem d_Web_targetsOf_9 : decode k_Web_targetsOf 9 = .ok (.if_icmp .ge 26, 3) := by decide +kernel
theorem d_Web_targetsOf_12 : decode k_Web_targetsOf 12 = .ok (.iload_n 3, 1) := by decide +kernel
theorem d_Web_targetsOf_13 : decode k_Web_targetsOf 13 = .ok (.iload_n 1, 1) := by decide +kernel
theorem d_Web_targetsOf_14 : decode k_Web_targetsOf 14 = .ok (.invokestatic 37, 3) := by decide +kernel
theorem d_Web_targetsOf_17 : decode k_Web_targetsOf 17 = .ok (.ifCond .eq 12, 3) := by decide +kernel
theorem d_Web_targetsOf_20 : decode k_Web_targetsOf 20 = .ok (.iload_n 2, 1) := by decide +kernel
theorem d_Web_targetsOf_21 : decode k_Web_targetsOf 21 = .ok (.aload_n 0, 1) := by decide +kernel
theorem d_Web_targetsOf_22 : decode k_Web_targetsOf 22 = .ok (.getfield 9, 3) := by decide +kernel
theorem d_Web_targetsOf_25 : decode k_Web_targetsOf 25 = .ok (.iload_n 3, 1) := by decide +kernel
theorem d_Web_targetsOf_26 : decode k_Web_targetsOf 26 = .ok (.iaload, 1) := by decide +kernel
theorem d_Web_targetsOf_27 : decode k_Web_targetsOf 27 = .ok (.ior, 1) := by decide +kernel
theorem d_Web_targetsOf_28 : decode k_Web_targetsOf 28 = .ok (.istore_n 2, 1) := by decide +kernel
theorem d_Web_targetsOf_29 : decode k_Web_targetsOf 29 = .ok (.iinc 3 1, 3) := by decide +kernel
theorem d_Web_targetsOf_32 : decode k_Web_targetsOf 32 = .ok (.goto (-28), 3) := by decide +kernel
theorem d_Web_targetsOf_35 : decode k_Web_targetsOf 35 = .ok (.iload_n 2, 1) := by decide +kernel
theorem d_Web_targetsOf_36 : decode k_Web_targetsOf 36 = .ok (.ireturn, 1) := by decide +kernel
theorem d_AB_is_0 : decode k_AB_is 0 = .ok (.iload_n 1, 1) := by decide +kernel
theorem d_AB_is_1 : decode k_AB_is 1 = .ok (.invokestatic 83, 3) := by decide +kernel
theorem d_AB_is_4 : decode k_AB_is 4 = .ok (.ifCond .eq 14, 3) := by decide +kernel
theorem d_AB_is_7 : decode k_AB_is 7 = .ok (.aload_n 0, 1) := by decide +kernel
theorem d_AB_is_8 : decode k_AB_is 8 = .ok (.getfield 12, 3) := by decide +kernel
theorem d_AB_is_11 : decode k_AB_is 11 = .ok (.iload_n 2, 1) := by decide +kernel
theorem d_AB_is_12 : decode k_AB_is 12 = .ok (.invokevirtual 76, 3) := by decide +kernel
theorem d_AB_is_15 : decode k_AB_is 15 = .ok (.ifCond .ne 5, 3) := by decide +kernel
theorem d_AB_is_18 : decode k_AB_is 18 = .ok (.iconst 0, 1) := by decide +kernel
theorem d_AB_is_19 : decode k_AB_is 19 = .ok (.ireturn, 1) := by decide +kernel
theorem d_AB_is_20 : decode k_AB_is 20 = .ok (.aload_n 0, 1) := by decide +kernel
theorem d_AB_is_21 : decode k_AB_is 21 = .ok (.getfield 19, 3) := by decide +kernel
theorem d_AB_is_24 : decode k_AB_is 24 = .ok (.aload_n 0, 1) := by decide +kernel
theorem d_AB_is_25 : decode k_AB_is 25 = .ok (.getfield 12, 3) := by decide +kernel
theorem d_AB_is_28 : decode k_AB_is 28 = .ok (.invokevirtual 86, 3) := by decide +kernel
theorem d_AB_is_31 : decode k_AB_is 31 = .ok (.aload_n 0, 1) := by decide +kernel
theorem d_AB_is_32 : decode k_AB_is 32 = .ok (.getfield 19, 3) := by decide +kernel
theorem d_AB_is_35 : decode k_AB_is 35 = .ok (.iload_n 1, 1) := by decide +kernel
theorem d_AB_is_36 : decode k_AB_is 36 = .ok (.iload_n 2, 1) := by decide +kernel
theorem d_AB_is_37 : decode k_AB_is 37 = .ok (.invokevirtual 90, 3) := by decide +kernel
theorem d_AB_is_40 : decode k_AB_is 40 = .ok (.ireturn, 1) := by decide +kernel
theorem d_AB_isKind_0 : decode k_AB_isKind 0 = .ok (.iload_n 0, 1) := by decide +kernel
theorem d_AB_isKind_1 : decode k_AB_isKind 1 = .ok (.ifCond .lt 12, 3) := by decide +kernel
theorem d_AB_isKind_4 : decode k_AB_isKind 4 = .ok (.iload_n 0, 1) := by decide +kernel
theorem d_AB_isKind_5 : decode k_AB_isKind 5 = .ok (.iconst 5, 1) := by decide +kernel
theorem d_AB_isKind_6 : decode k_AB_isKind 6 = .ok (.if_icmp .ge 7, 3) := by decide +kernel
theorem d_AB_isKind_9 : decode k_AB_isKind 9 = .ok (.iconst 1, 1) := by decide +kernel
theorem d_AB_isKind_10 : decode k_AB_isKind 10 = .ok (.goto 4, 3) := by decide +kernel
theorem d_AB_isKind_13 : decode k_AB_isKind 13 = .ok (.iconst 0, 1) := by decide +kernel
theorem d_AB_isKind_14 : decode k_AB_isKind 14 = .ok (.ireturn, 1) := by decide +kernel
theorem d_Web_targetsOfOne_0 : decode k_Web_targetsOfOne 0 = .ok (.aload_n 0, 1) := by decide +kernel
theorem d_Web_targetsOfOne_1 : decode k_Web_targetsOfOne 1 = .ok (.iload_n 1, 1) := by decide +kernel
theorem d_Web_targetsOfOne_2 : decode k_Web_targetsOfOne 2 = .ok (.invokevirtual 34, 3) := by decide +kernel
theorem d_Web_targetsOfOne_5 : decode k_Web_targetsOfOne 5 = .ok (.ifCond .eq 12, 3) := by decide +kernel
theorem d_Web_targetsOfOne_8 : decode k_Web_targetsOfOne 8 = .ok (.aload_n 0, 1) := by decide +kernel
theorem d_Web_targetsOfOne_9 : decode k_Web_targetsOfOne 9 = .ok (.getfield 9, 3) := by decide +kernel
theorem d_Web_targetsOfOne_12 : decode k_Web_targetsOfOne 12 = .ok (.iload_n 1, 1) := by decide +kernel
theorem d_Web_targetsOfOne_13 : decode k_Web_targetsOfOne 13 = .ok (.iaload, 1) := by decide +kernel
theorem d_Web_targetsOfOne_14 : decode k_Web_targetsOfOne 14 = .ok (.goto 4, 3) := by decide +kernel
theorem d_Web_targetsOfOne_17 : decode k_Web_targetsOfOne 17 = .ok (.iconst 0, 1) := by decide +kernel
theorem d_Web_targetsOfOne_18 : decode k_Web_targetsOfOne 18 = .ok (.ireturn, 1) := by decide +kernel
theorem d_AB_attackedBy_0 : decode k_AB_attackedBy 0 = .ok (.aload_n 0, 1) := by decide +kernel
theorem d_AB_attackedBy_1 : decode k_AB_attackedBy 1 = .ok (.getfield 12, 3) := by decide +kernel
theorem d_AB_attackedBy_4 : decode k_AB_attackedBy 4 = .ok (.iload_n 1, 1) := by decide +kernel
theorem d_AB_attackedBy_5 : decode k_AB_attackedBy 5 = .ok (.invokevirtual 76, 3) := by decide +kernel
theorem d_AB_attackedBy_8 : decode k_AB_attackedBy 8 = .ok (.ifCond .eq 14, 3) := by decide +kernel
theorem d_AB_attackedBy_11 : decode k_AB_attackedBy 11 = .ok (.aload_n 0, 1) := by decide +kernel
theorem d_AB_attackedBy_12 : decode k_AB_attackedBy 12 = .ok (.getfield 12, 3) := by decide +kernel
theorem d_AB_attackedBy_15 : decode k_AB_attackedBy 15 = .ok (.iload_n 1, 1) := by decide +kernel
theorem d_AB_attackedBy_16 : decode k_AB_attackedBy 16 = .ok (.invokevirtual 79, 3) := by decide +kernel
theorem d_AB_attackedBy_19 : decode k_AB_attackedBy 19 = .ok (.goto 4, 3) := by decide +kernel
theorem d_AB_attackedBy_22 : decode k_AB_attackedBy 22 = .ok (.iconst (-1), 1) := by decide +kernel
theorem d_AB_attackedBy_23 : decode k_AB_attackedBy 23 = .ok (.ireturn, 1) := by decide +kernel
theorem d_AB_defendedBy_0 : decode k_AB_defendedBy 0 = .ok (.aload_n 0, 1) := by decide +kernel
theorem d_AB_defendedBy_1 : decode k_AB_defendedBy 1 = .ok (.getfield 12, 3) := by decide +kernel
theorem d_AB_defendedBy_4 : decode k_AB_defendedBy 4 = .ok (.iload_n 1, 1) := by decide +kernel
theorem d_AB_defendedBy_5 : decode k_AB_defendedBy 5 = .ok (.invokevirtual 76, 3) := by decide +kernel
theorem d_AB_defendedBy_8 : decode k_AB_defendedBy 8 = .ok (.ifCond .eq 14, 3) := by decide +kernel
theorem d_AB_defendedBy_11 : decode k_AB_defendedBy 11 = .ok (.aload_n 0, 1) := by decide +kernel
theorem d_AB_defendedBy_12 : decode k_AB_defendedBy 12 = .ok (.getfield 12, 3) := by decide +kernel
theorem d_AB_defendedBy_15 : decode k_AB_defendedBy 15 = .ok (.iload_n 1, 1) := by decide +kernel
theorem d_AB_defendedBy_16 : decode k_AB_defendedBy 16 = .ok (.invokevirtual 93, 3) := by decide +kernel
theorem d_AB_defendedBy_19 : decode k_AB_defendedBy 19 = .ok (.goto 4, 3) := by decide +kernel
theorem d_AB_defendedBy_22 : decode k_AB_defendedBy 22 = .ok (.iconst (-1), 1) := by decide +kernel
theorem d_AB_defendedBy_23 : decode k_AB_defendedBy 23 = .ok (.ireturn, 1) := by decide +kernel
theorem d_Web_defendedOf_0 : decode k_Web_defendedOf 0 = .ok (.aload_n 0, 1) := by decide +kernel
theorem d_Web_defendedOf_1 : decode k_Web_defendedOf 1 = .ok (.invokevirtual 22, 3) := by decide +kernel
theorem d_Web_defendedOf_4 : decode k_Web_defendedOf 4 = .ok (.aload_n 0, 1) := by decide +kernel
theorem d_Web_defendedOf_5 : decode k_Web_defendedOf 5 = .ok (.iload_n 1, 1) := by decide +kernel
theorem d_Web_defendedOf_6 : decode k_Web_defendedOf 6 = .ok (.invokevirtual 40, 3) := by decide +kernel
theorem d_Web_defendedOf_9 : decode k_Web_defendedOf 9 = .ok (.iconst (-1), 1) := by decide +kernel
theorem d_Web_defendedOf_10 : decode k_Web_defendedOf 10 = .ok (.ixor, 1) := by decide +kernel
theorem d_Web_defendedOf_11 : decode k_Web_defendedOf 11 = .ok (.iand, 1) := by decide +kernel
theorem d_Web_defendedOf_12 : decode k_Web_defendedOf 12 = .ok (.istore_n 2, 1) := by decide +kernel
theorem d_Web_defendedOf_13 : decode k_Web_defendedOf 13 = .ok (.aload_n 0, 1) := by decide +kernel
theorem d_Web_defendedOf_14 : decode k_Web_defendedOf 14 = .ok (.invokevirtual 22, 3) := by decide +kernel
theorem d_Web_defendedOf_17 : decode k_Web_defendedOf 17 = .ok (.aload_n 0, 1) := by decide +kernel
theorem d_Web_defendedOf_18 : decode k_Web_defendedOf 18 = .ok (.iload_n 2, 1) := by decide +kernel
theorem d_Web_defendedOf_19 : decode k_Web_defendedOf 19 = .ok (.invokevirtual 40, 3) := by decide +kernel
theorem d_Web_defendedOf_22 : decode k_Web_defendedOf 22 = .ok (.iconst (-1), 1) := by decide +kernel
theorem d_Web_defendedOf_23 : decode k_Web_defendedOf 23 = .ok (.ixor, 1) := by decide +kernel
theorem d_Web_defendedOf_24 : decode k_Web_defendedOf 24 = .ok (.iand, 1) := by decide +kernel
theorem d_Web_defendedOf_25 : decode k_Web_defendedOf 25 = .ok (.ireturn, 1) := by decide +kernel
theorem d_AB_grounded_0 : decode k_AB_grounded 0 = .ok (.aload_n 0, 1) := by decide +kernel
theorem d_AB_grounded_1 : decode k_AB_grounded 1 = .ok (.getfield 33, 3) := by decide +kernel
theorem d_AB_grounded_4 : decode k_AB_grounded 4 = .ok (.aload_n 0, 1) := by decide +kernel
theorem d_AB_grounded_5 : decode k_AB_grounded 5 = .ok (.getfield 12, 3) := by decide +kernel
theorem d_AB_grounded_8 : decode k_AB_grounded 8 = .ok (.invokevirtual 96, 3) := by decide +kernel
theorem d_AB_grounded_11 : decode k_AB_grounded 11 = .ok (.aload_n 0, 1) := by decide +kernel
theorem d_AB_grounded_12 : decode k_AB_grounded 12 = .ok (.getfield 33, 3) := by decide +kernel
theorem d_AB_grounded_15 : decode k_AB_grounded 15 = .ok (.invokevirtual 99, 3) := by decide +kernel
theorem d_AB_grounded_18 : decode k_AB_grounded 18 = .ok (.ireturn, 1) := by decide +kernel
theorem d_AB_round_0 : decode k_AB_round 0 = .ok (.aload_n 0, 1) := by decide +kernel
theorem d_AB_round_1 : decode k_AB_round 1 = .ok (.getfield 12, 3) := by decide +kernel
theorem d_AB_round_4 : decode k_AB_round 4 = .ok (.iload_n 1, 1) := by decide +kernel
theorem d_AB_round_5 : decode k_AB_round 5 = .ok (.invokevirtual 62, 3) := by decide +kernel
theorem d_AB_round_8 : decode k_AB_round 8 = .ok (.ifCond .ne 5, 3) := by decide +kernel
theorem d_AB_round_11 : decode k_AB_round 11 = .ok (.iconst 0, 1) := by decide +kernel
theorem d_AB_round_12 : decode k_AB_round 12 = .ok (.ireturn, 1) := by decide +kernel
theorem d_AB_round_13 : decode k_AB_round 13 = .ok (.aload_n 0, 1) := by decide +kernel
theorem d_AB_round_14 : decode k_AB_round 14 = .ok (.getfield 33, 3) := by decide +kernel
theorem d_AB_round_17 : decode k_AB_round 17 = .ok (.aload_n 0, 1) := by decide +kernel
theorem d_AB_round_18 : decode k_AB_round 18 = .ok (.getfield 12, 3) := by decide +kernel
theorem d_AB_round_21 : decode k_AB_round 21 = .ok (.invokevirtual 96, 3) := by decide +kernel
theorem d_AB_round_24 : decode k_AB_round 24 = .ok (.aload_n 0, 1) := by decide +kernel
theorem d_AB_round_25 : decode k_AB_round 25 = .ok (.getfield 33, 3) := by decide +kernel
theorem d_AB_round_28 : decode k_AB_round 28 = .ok (.iload_n 1, 1) := by decide +kernel
theorem d_AB_round_29 : decode k_AB_round 29 = .ok (.invokevirtual 102, 3) := by decide +kernel
theorem d_AB_round_32 : decode k_AB_round 32 = .ok (.ireturn, 1) := by decide +kernel
theorem d_AB_ideal_0 : decode k_AB_ideal 0 = .ok (.aload_n 0, 1) := by decide +kernel
theorem d_AB_ideal_1 : decode k_AB_ideal 1 = .ok (.getfield 19, 3) := by decide +kernel
theorem d_AB_ideal_4 : decode k_AB_ideal 4 = .ok (.aload_n 0, 1) := by decide +kernel
theorem d_AB_ideal_5 : decode k_AB_ideal 5 = .ok (.getfield 12, 3) := by decide +kernel
theorem d_AB_ideal_8 : decode k_AB_ideal 8 = .ok (.invokevirtual 86, 3) := by decide +kernel
theorem d_AB_ideal_11 : decode k_AB_ideal 11 = .ok (.aload_n 0, 1) := by decide +kernel
theorem d_AB_ideal_12 : decode k_AB_ideal 12 = .ok (.getfield 19, 3) := by decide +kernel
theorem d_AB_ideal_15 : decode k_AB_ideal 15 = .ok (.iconst 4, 1) := by decide +kernel
theorem d_AB_ideal_16 : decode k_AB_ideal 16 = .ok (.aload_n 0, 1) := by decide +kernel
theorem d_AB_ideal_17 : decode k_AB_ideal 17 = .ok (.getfield 19, 3) := by decide +kernel
theorem d_AB_ideal_20 : decode k_AB_ideal 20 = .ok (.iconst 1, 1) := by decide +kernel
theorem d_AB_ideal_21 : decode k_AB_ideal 21 = .ok (.invokevirtual 105, 3) := by decide +kernel
theorem d_AB_ideal_24 : decode k_AB_ideal 24 = .ok (.invokevirtual 108, 3) := by decide +kernel
theorem d_AB_ideal_27 : decode k_AB_ideal 27 = .ok (.ireturn, 1) := by decide +kernel
theorem d_AB_move_0 : decode k_AB_move 0 = .ok (.aload_n 0, 1) := by decide +kernel
theorem d_AB_move_1 : decode k_AB_move 1 = .ok (.getfield 40, 3) := by decide +kernel
theorem d_AB_move_4 : decode k_AB_move 4 = .ok (.iload_n 1, 1) := by decide +kernel
theorem d_AB_move_5 : decode k_AB_move 5 = .ok (.iload_n 2, 1) := by decide +kernel
theorem d_AB_move_6 : decode k_AB_move 6 = .ok (.invokevirtual 158, 3) := by decide +kernel
theorem d_AB_move_9 : decode k_AB_move 9 = .ok (.ireturn, 1) := by decide +kernel
theorem d_AB_circle_0 : decode k_AB_circle 0 = .ok (.aload_n 0, 1) := by decide +kernel
theorem d_AB_circle_1 : decode k_AB_circle 1 = .ok (.getfield 12, 3) := by decide +kernel
theorem d_AB_circle_4 : decode k_AB_circle 4 = .ok (.iload_n 1, 1) := by decide +kernel
theorem d_AB_circle_5 : decode k_AB_circle 5 = .ok (.invokevirtual 62, 3) := by decide +kernel
theorem d_AB_circle_8 : decode k_AB_circle 8 = .ok (.ifCond .ne 5, 3) := by decide +kernel
theorem d_AB_circle_11 : decode k_AB_circle 11 = .ok (.iconst (-1), 1) := by decide +kernel
theorem d_AB_circle_12 : decode k_AB_circle 12 = .ok (.ireturn, 1) := by decide +kernel
theorem d_AB_circle_13 : decode k_AB_circle 13 = .ok (.aload_n 0, 1) := by decide +kernel
theorem d_AB_circle_14 : decode k_AB_circle 14 = .ok (.getfield 47, 3) := by decide +kernel
theorem d_AB_circle_17 : decode k_AB_circle 17 = .ok (.aload_n 0, 1) := by decide +kernel
theorem d_AB_circle_18 : decode k_AB_circle 18 = .ok (.getfield 12, 3) := by decide +kernel
theorem d_AB_circle_21 : decode k_AB_circle 21 = .ok (.invokevirtual 160, 3) := by decide +kernel
theorem d_AB_circle_24 : decode k_AB_circle 24 = .ok (.aload_n 0, 1) := by decide +kernel
theorem d_AB_circle_25 : decode k_AB_circle 25 = .ok (.getfield 47, 3) := by decide +kernel
theorem d_AB_circle_28 : decode k_AB_circle 28 = .ok (.iload_n 1, 1) := by decide +kernel
theorem d_AB_circle_29 : decode k_AB_circle 29 = .ok (.invokevirtual 163, 3) := by decide +kernel
theorem d_AB_circle_32 : decode k_AB_circle 32 = .ok (.ireturn, 1) := by decide +kernel
theorem d_Web_attackersOf_0 : decode k_Web_attackersOf 0 = .ok (.iconst 0, 1) := by decide +kernel
theorem d_Web_attackersOf_1 : decode k_Web_attackersOf 1 = .ok (.istore_n 2, 1) := by decide +kernel
theorem d_Web_attackersOf_2 : decode k_Web_attackersOf 2 = .ok (.iconst 0, 1) := by decide +kernel
theorem d_Web_attackersOf_3 : decode k_Web_attackersOf 3 = .ok (.istore_n 3, 1) := by decide +kernel
theorem d_Web_attackersOf_4 : decode k_Web_attackersOf 4 = .ok (.iload_n 3, 1) := by decide +kernel
theorem d_Web_attackersOf_5 : decode k_Web_attackersOf 5 = .ok (.aload_n 0, 1) := by decide +kernel
theorem d_Web_attackersOf_6 : decode k_Web_attackersOf 6 = .ok (.getfield 18, 3) := by decide +kernel
theorem d_Web_attackersOf_9 : decode k_Web_attackersOf 9 = .ok (.if_icmp .ge 26, 3) := by decide +kernel
theorem d_Web_attackersOf_12 : decode k_Web_attackersOf 12 = .ok (.iload_n 3, 1) := by decide +kernel
theorem d_Web_attackersOf_13 : decode k_Web_attackersOf 13 = .ok (.iload_n 1, 1) := by decide +kernel
theorem d_Web_attackersOf_14 : decode k_Web_attackersOf 14 = .ok (.invokestatic 37, 3) := by decide +kernel
theorem d_Web_attackersOf_17 : decode k_Web_attackersOf 17 = .ok (.ifCond .eq 12, 3) := by decide +kernel
theorem d_Web_attackersOf_20 : decode k_Web_attackersOf 20 = .ok (.iload_n 2, 1) := by decide +kernel
theorem d_Web_attackersOf_21 : decode k_Web_attackersOf 21 = .ok (.aload_n 0, 1) := by decide +kernel
theorem d_Web_attackersOf_22 : decode k_Web_attackersOf 22 = .ok (.getfield 15, 3) := by decide +kernel
theorem d_Web_attackersOf_25 : decode k_Web_attackersOf 25 = .ok (.iload_n 3, 1) := by decide +kernel
theorem d_Web_attackersOf_26 : decode k_Web_attackersOf 26 = .ok (.iaload, 1) := by decide +kernel
theorem d_Web_attackersOf_27 : decode k_Web_attackersOf 27 = .ok (.ior, 1) := by decide +kernel
theorem d_Web_attackersOf_28 : decode k_Web_attackersOf 28 = .ok (.istore_n 2, 1) := by decide +kernel
theorem d_Web_attackersOf_29 : decode k_Web_attackersOf 29 = .ok (.iinc 3 1, 3) := by decide +kernel
theorem d_Web_attackersOf_32 : decode k_Web_attackersOf 32 = .ok (.goto (-28), 3) := by decide +kernel
theorem d_Web_attackersOf_35 : decode k_Web_attackersOf 35 = .ok (.iload_n 2, 1) := by decide +kernel
theorem d_Web_attackersOf_36 : decode k_Web_attackersOf 36 = .ok (.ireturn, 1) := by decide +kernel
theorem d_AB_circles_0 : decode k_AB_circles 0 = .ok (.aload_n 0, 1) := by decide +kernel
theorem d_AB_circles_1 : decode k_AB_circles 1 = .ok (.getfield 47, 3) := by decide +kernel
theorem d_AB_circles_4 : decode k_AB_circles 4 = .ok (.aload_n 0, 1) := by decide +kernel
theorem d_AB_circles_5 : decode k_AB_circles 5 = .ok (.getfield 12, 3) := by decide +kernel
theorem d_AB_circles_8 : decode k_AB_circles 8 = .ok (.invokevirtual 160, 3) := by decide +kernel
theorem d_AB_circles_11 : decode k_AB_circles 11 = .ok (.aload_n 0, 1) := by decide +kernel
theorem d_AB_circles_12 : decode k_AB_circles 12 = .ok (.getfield 47, 3) := by decide +kernel
theorem d_AB_circles_15 : decode k_AB_circles 15 = .ok (.invokevirtual 166, 3) := by decide +kernel
theorem d_AB_circles_18 : decode k_AB_circles 18 = .ok (.ireturn, 1) := by decide +kernel
theorem d_AB_start_0 : decode k_AB_start 0 = .ok (.iload_n 1, 1) := by decide +kernel
theorem d_AB_start_1 : decode k_AB_start 1 = .ok (.invokestatic 83, 3) := by decide +kernel
theorem d_AB_start_4 : decode k_AB_start 4 = .ok (.ifCond .ne 13, 3) := by decide +kernel
theorem d_AB_start_7 : decode k_AB_start 7 = .ok (.new 112, 3) := by decide +kernel
theorem d_AB_start_10 : decode k_AB_start 10 = .ok (.dup, 1) := by decide +kernel
theorem d_AB_start_11 : decode k_AB_start 11 = .ok (.ldc 114, 2) := by decide +kernel
theorem d_AB_start_13 : decode k_AB_start 13 = .ok (.invokespecial 116, 3) := by decide +kernel
theorem d_AB_start_16 : decode k_AB_start 16 = .ok (.athrow, 1) := by decide +kernel
theorem d_AB_start_17 : decode k_AB_start 17 = .ok (.aload_n 0, 1) := by decide +kernel
theorem d_AB_start_18 : decode k_AB_start 18 = .ok (.getfield 26, 3) := by decide +kernel
theorem d_AB_start_21 : decode k_AB_start 21 = .ok (.iload_n 1, 1) := by decide +kernel
theorem d_AB_start_22 : decode k_AB_start 22 = .ok (.invokevirtual 119, 3) := by decide +kernel
theorem d_AB_start_25 : decode k_AB_start 25 = .ok (.return_, 1) := by decide +kernel
theorem d_AB_next_0 : decode k_AB_next 0 = .ok (.aload_n 0, 1) := by decide +kernel
theorem d_AB_next_1 : decode k_AB_next 1 = .ok (.getfield 26, 3) := by decide +kernel
theorem d_AB_next_4 : decode k_AB_next 4 = .ok (.invokevirtual 123, 3) := by decide +kernel
theorem d_AB_next_7 : decode k_AB_next 7 = .ok (.ifCond .ne 13, 3) := by decide +kernel
theorem d_AB_next_10 : decode k_AB_next 10 = .ok (.new 127, 3) := by decide +kernel
theorem d_AB_next_13 : decode k_AB_next 13 = .ok (.dup, 1) := by decide +kernel
theorem d_AB_next_14 : decode k_AB_next 14 = .ok (.ldc 129, 2) := by decide +kernel
theorem d_AB_next_16 : decode k_AB_next 16 = .ok (.invokespecial 131, 3) := by decide +kernel
theorem d_AB_next_19 : decode k_AB_next 19 = .ok (.athrow, 1) := by decide +kernel
theorem d_AB_next_20 : decode k_AB_next 20 = .ok (.aload_n 0, 1) := by decide +kernel
theorem d_AB_next_21 : decode k_AB_next 21 = .ok (.getfield 19, 3) := by decide +kernel
theorem d_AB_next_24 : decode k_AB_next 24 = .ok (.aload_n 0, 1) := by decide +kernel
theorem d_AB_next_25 : decode k_AB_next 25 = .ok (.getfield 12, 3) := by decide +kernel
theorem d_AB_next_28 : decode k_AB_next 28 = .ok (.invokevirtual 86, 3) := by decide +kernel
theorem d_AB_next_31 : decode k_AB_next 31 = .ok (.aload_n 0, 1) := by decide +kernel
theorem d_AB_next_32 : decode k_AB_next 32 = .ok (.getfield 26, 3) := by decide +kernel
theorem d_AB_next_35 : decode k_AB_next 35 = .ok (.aload_n 0, 1) := by decide +kernel
theorem d_AB_next_36 : decode k_AB_next 36 = .ok (.getfield 19, 3) := by decide +kernel
theorem d_AB_next_39 : decode k_AB_next 39 = .ok (.invokevirtual 132, 3) := by decide +kernel
theorem d_AB_next_42 : decode k_AB_next 42 = .ok (.ireturn, 1) := by decide +kernel
theorem d_AB_label_0 : decode k_AB_label 0 = .ok (.aload_n 0, 1) := by decide +kernel
theorem d_AB_label_1 : decode k_AB_label 1 = .ok (.getfield 12, 3) := by decide +kernel
theorem d_AB_label_4 : decode k_AB_label 4 = .ok (.iload_n 1, 1) := by decide +kernel
theorem d_AB_label_5 : decode k_AB_label 5 = .ok (.invokevirtual 62, 3) := by decide +kernel
theorem d_AB_label_8 : decode k_AB_label 8 = .ok (.ifCond .ne 13, 3) := by decide +kernel
theorem d_AB_label_11 : decode k_AB_label 11 = .ok (.new 112, 3) := by decide +kernel
theorem d_AB_label_14 : decode k_AB_label 14 = .ok (.dup, 1) := by decide +kernel
theorem d_AB_label_15 : decode k_AB_label 15 = .ok (.ldc 136, 2) := by decide +kernel
theorem d_AB_label_17 : decode k_AB_label 17 = .ok (.invokespecial 116, 3) := by decide +kernel
theorem d_AB_label_20 : decode k_AB_label 20 = .ok (.athrow, 1) := by decide +kernel
theorem d_AB_label_21 : decode k_AB_label 21 = .ok (.aload_n 0, 1) := by decide +kernel
theorem d_AB_label_22 : decode k_AB_label 22 = .ok (.getfield 26, 3) := by decide +kernel
theorem d_AB_label_25 : decode k_AB_label 25 = .ok (.invokevirtual 138, 3) := by decide +kernel
theorem d_AB_label_28 : decode k_AB_label 28 = .ok (.istore_n 2, 1) := by decide +kernel
theorem d_AB_label_29 : decode k_AB_label 29 = .ok (.iload_n 2, 1) := by decide +kernel
theorem d_AB_label_30 : decode k_AB_label 30 = .ok (.iconst (-1), 1) := by decide +kernel
theorem d_AB_label_31 : decode k_AB_label 31 = .ok (.if_icmp .ne 13, 3) := by decide +kernel
theorem d_AB_label_34 : decode k_AB_label 34 = .ok (.new 127, 3) := by decide +kernel
theorem d_AB_label_37 : decode k_AB_label 37 = .ok (.dup, 1) := by decide +kernel
theorem d_AB_label_38 : decode k_AB_label 38 = .ok (.ldc 141, 2) := by decide +kernel
theorem d_AB_label_40 : decode k_AB_label 40 = .ok (.invokespecial 131, 3) := by decide +kernel
theorem d_AB_label_43 : decode k_AB_label 43 = .ok (.athrow, 1) := by decide +kernel
theorem d_AB_label_44 : decode k_AB_label 44 = .ok (.iload_n 1, 1) := by decide +kernel
theorem d_AB_label_45 : decode k_AB_label 45 = .ok (.iload_n 2, 1) := by decide +kernel
theorem d_AB_label_46 : decode k_AB_label 46 = .ok (.invokestatic 143, 3) := by decide +kernel
theorem d_AB_label_49 : decode k_AB_label 49 = .ok (.ifCond .eq 5, 3) := by decide +kernel
theorem d_AB_label_52 : decode k_AB_label 52 = .ok (.iconst 1, 1) := by decide +kernel
theorem d_AB_label_53 : decode k_AB_label 53 = .ok (.ireturn, 1) := by decide +kernel
theorem d_AB_label_54 : decode k_AB_label 54 = .ok (.iload_n 1, 1) := by decide +kernel
theorem d_AB_label_55 : decode k_AB_label 55 = .ok (.aload_n 0, 1) := by decide +kernel
theorem d_AB_label_56 : decode k_AB_label 56 = .ok (.getfield 12, 3) := by decide +kernel
theorem d_AB_label_59 : decode k_AB_label 59 = .ok (.iload_n 2, 1) := by decide +kernel
theorem d_AB_label_60 : decode k_AB_label 60 = .ok (.invokevirtual 79, 3) := by decide +kernel
theorem d_AB_label_63 : decode k_AB_label 63 = .ok (.invokestatic 143, 3) := by decide +kernel
theorem d_AB_label_66 : decode k_AB_label 66 = .ok (.ifCond .eq 7, 3) := by decide +kernel
theorem d_AB_label_69 : decode k_AB_label 69 = .ok (.iconst 0, 1) := by decide +kernel
theorem d_AB_label_70 : decode k_AB_label 70 = .ok (.goto 4, 3) := by decide +kernel
theorem d_AB_label_73 : decode k_AB_label 73 = .ok (.iconst 2, 1) := by decide +kernel
theorem d_AB_label_74 : decode k_AB_label 74 = .ok (.ireturn, 1) := by decide +kernel
theorem d_AB_count_0 : decode k_AB_count 0 = .ok (.iload_n 1, 1) := by decide +kernel
theorem d_AB_count_1 : decode k_AB_count 1 = .ok (.invokestatic 83, 3) := by decide +kernel
theorem d_AB_count_4 : decode k_AB_count 4 = .ok (.ifCond .ne 13, 3) := by decide +kernel
theorem d_AB_count_7 : decode k_AB_count 7 = .ok (.new 112, 3) := by decide +kernel
theorem d_AB_count_10 : decode k_AB_count 10 = .ok (.dup, 1) := by decide +kernel
theorem d_AB_count_11 : decode k_AB_count 11 = .ok (.ldc 114, 2) := by decide +kernel
theorem d_AB_count_13 : decode k_AB_count 13 = .ok (.invokespecial 116, 3) := by decide +kernel
theorem d_AB_count_16 : decode k_AB_count 16 = .ok (.athrow, 1) := by decide +kernel
theorem d_AB_count_17 : decode k_AB_count 17 = .ok (.aload_n 0, 1) := by decide +kernel
theorem d_AB_count_18 : decode k_AB_count 18 = .ok (.getfield 19, 3) := by decide +kernel
theorem d_AB_count_21 : decode k_AB_count 21 = .ok (.aload_n 0, 1) := by decide +kernel
theorem d_AB_count_22 : decode k_AB_count 22 = .ok (.getfield 12, 3) := by decide +kernel
theorem d_AB_count_25 : decode k_AB_count 25 = .ok (.invokevirtual 86, 3) := by decide +kernel
theorem d_AB_count_28 : decode k_AB_count 28 = .ok (.aload_n 0, 1) := by decide +kernel
theorem d_AB_count_29 : decode k_AB_count 29 = .ok (.getfield 19, 3) := by decide +kernel
theorem d_AB_count_32 : decode k_AB_count 32 = .ok (.iload_n 1, 1) := by decide +kernel
theorem d_AB_count_33 : decode k_AB_count 33 = .ok (.invokevirtual 146, 3) := by decide +kernel
theorem d_AB_count_36 : decode k_AB_count 36 = .ok (.ireturn, 1) := by decide +kernel
theorem d_AB_holds_0 : decode k_AB_holds 0 = .ok (.iload_n 1, 1) := by decide +kernel
theorem d_AB_holds_1 : decode k_AB_holds 1 = .ok (.invokestatic 83, 3) := by decide +kernel
theorem d_AB_holds_4 : decode k_AB_holds 4 = .ok (.ifCond .eq 14, 3) := by decide +kernel
theorem d_AB_holds_7 : decode k_AB_holds 7 = .ok (.aload_n 0, 1) := by decide +kernel
theorem d_AB_holds_8 : decode k_AB_holds 8 = .ok (.getfield 12, 3) := by decide +kernel
theorem d_AB_holds_11 : decode k_AB_holds 11 = .ok (.iload_n 2, 1) := by decide +kernel
theorem d_AB_holds_12 : decode k_AB_holds 12 = .ok (.invokevirtual 62, 3) := by decide +kernel
theorem d_AB_holds_15 : decode k_AB_holds 15 = .ok (.ifCond .ne 13, 3) := by decide +kernel
theorem d_AB_holds_18 : decode k_AB_holds 18 = .ok (.new 112, 3) := by decide +kernel
theorem d_AB_holds_21 : decode k_AB_holds 21 = .ok (.dup, 1) := by decide +kernel
theorem d_AB_holds_22 : decode k_AB_holds 22 = .ok (.ldc 149, 2) := by decide +kernel
theorem d_AB_holds_24 : decode k_AB_holds 24 = .ok (.invokespecial 116, 3) := by decide +kernel
theorem d_AB_holds_27 : decode k_AB_holds 27 = .ok (.athrow, 1) := by decide +kernel
theorem d_AB_holds_28 : decode k_AB_holds 28 = .ok (.aload_n 0, 1) := by decide +kernel
theorem d_AB_holds_29 : decode k_AB_holds 29 = .ok (.getfield 19, 3) := by decide +kernel
theorem d_AB_holds_32 : decode k_AB_holds 32 = .ok (.aload_n 0, 1) := by decide +kernel
theorem d_AB_holds_33 : decode k_AB_holds 33 = .ok (.getfield 12, 3) := by decide +kernel
theorem d_AB_holds_36 : decode k_AB_holds 36 = .ok (.invokevirtual 86, 3) := by decide +kernel
theorem d_AB_holds_39 : decode k_AB_holds 39 = .ok (.iload_n 2, 1) := by decide +kernel
theorem d_AB_holds_40 : decode k_AB_holds 40 = .ok (.iload_n 3, 1) := by decide +kernel
theorem d_AB_holds_41 : decode k_AB_holds 41 = .ok (.ifCond .eq 14, 3) := by decide +kernel
theorem d_AB_holds_44 : decode k_AB_holds 44 = .ok (.aload_n 0, 1) := by decide +kernel
theorem d_AB_holds_45 : decode k_AB_holds 45 = .ok (.getfield 19, 3) := by decide +kernel
theorem d_AB_holds_48 : decode k_AB_holds 48 = .ok (.iload_n 1, 1) := by decide +kernel
theorem d_AB_holds_49 : decode k_AB_holds 49 = .ok (.invokevirtual 105, 3) := by decide +kernel
theorem d_AB_holds_52 : decode k_AB_holds 52 = .ok (.goto 18, 3) := by decide +kernel
theorem d_AB_holds_55 : decode k_AB_holds 55 = .ok (.aload_n 0, 1) := by decide +kernel
theorem d_AB_holds_56 : decode k_AB_holds 56 = .ok (.getfield 19, 3) := by decide +kernel
theorem d_AB_holds_59 : decode k_AB_holds 59 = .ok (.iload_n 1, 1) := by decide +kernel
theorem d_AB_holds_60 : decode k_AB_holds 60 = .ok (.aload_n 0, 1) := by decide +kernel
theorem d_AB_holds_61 : decode k_AB_holds 61 = .ok (.getfield 12, 3) := by decide +kernel
theorem d_AB_holds_64 : decode k_AB_holds 64 = .ok (.invokevirtual 151, 3) := by decide +kernel
theorem d_AB_holds_67 : decode k_AB_holds 67 = .ok (.invokevirtual 108, 3) := by decide +kernel
theorem d_AB_holds_70 : decode k_AB_holds 70 = .ok (.invokestatic 143, 3) := by decide +kernel
theorem d_AB_holds_73 : decode k_AB_holds 73 = .ok (.ireturn, 1) := by decide +kernel
theorem d_AB_dialogue_0 : decode k_AB_dialogue 0 = .ok (.aload_n 0, 1) := by decide +kernel
theorem d_AB_dialogue_1 : decode k_AB_dialogue 1 = .ok (.getfield 12, 3) := by decide +kernel
theorem d_AB_dialogue_4 : decode k_AB_dialogue 4 = .ok (.iload_n 1, 1) := by decide +kernel
theorem d_AB_dialogue_5 : decode k_AB_dialogue 5 = .ok (.invokevirtual 62, 3) := by decide +kernel
theorem d_AB_dialogue_8 : decode k_AB_dialogue 8 = .ok (.ifCond .ne 13, 3) := by decide +kernel
theorem d_AB_dialogue_11 : decode k_AB_dialogue 11 = .ok (.new 112, 3) := by decide +kernel
theorem d_AB_dialogue_14 : decode k_AB_dialogue 14 = .ok (.dup, 1) := by decide +kernel
theorem d_AB_dialogue_15 : decode k_AB_dialogue 15 = .ok (.ldc 136, 2) := by decide +kernel
theorem d_AB_dialogue_17 : decode k_AB_dialogue 17 = .ok (.invokespecial 116, 3) := by decide +kernel
theorem d_AB_dialogue_20 : decode k_AB_dialogue 20 = .ok (.athrow, 1) := by decide +kernel
theorem d_AB_dialogue_21 : decode k_AB_dialogue 21 = .ok (.aload_n 0, 1) := by decide +kernel
theorem d_AB_dialogue_22 : decode k_AB_dialogue 22 = .ok (.getfield 33, 3) := by decide +kernel
theorem d_AB_dialogue_25 : decode k_AB_dialogue 25 = .ok (.aload_n 0, 1) := by decide +kernel
theorem d_AB_dialogue_26 : decode k_AB_dialogue 26 = .ok (.getfield 12, 3) := by decide +kernel
theorem d_AB_dialogue_29 : decode k_AB_dialogue 29 = .ok (.invokevirtual 96, 3) := by decide +kernel
theorem d_AB_dialogue_32 : decode k_AB_dialogue 32 = .ok (.aload_n 0, 1) := by decide +kernel
theorem d_AB_dialogue_33 : decode k_AB_dialogue 33 = .ok (.getfield 40, 3) := by decide +kernel
theorem d_AB_dialogue_36 : decode k_AB_dialogue 36 = .ok (.iload_n 1, 1) := by decide +kernel
theorem d_AB_dialogue_37 : decode k_AB_dialogue 37 = .ok (.aload_n 0, 1) := by decide +kernel
theorem d_AB_dialogue_38 : decode k_AB_dialogue 38 = .ok (.getfield 12, 3) := by decide +kernel
theorem d_AB_dialogue_41 : decode k_AB_dialogue 41 = .ok (.aload_n 0, 1) := by decide +kernel
theorem d_AB_dialogue_42 : decode k_AB_dialogue 42 = .ok (.getfield 33, 3) := by decide +kernel
theorem d_AB_dialogue_45 : decode k_AB_dialogue 45 = .ok (.invokevirtual 154, 3) := by decide +kernel
theorem d_AB_dialogue_48 : decode k_AB_dialogue 48 = .ok (.ireturn, 1) := by decide +kernel
theorem d_Web_attackersOfOne_0 : decode k_Web_attackersOfOne 0 = .ok (.aload_n 0, 1) := by decide +kernel
theorem d_Web_attackersOfOne_1 : decode k_Web_attackersOfOne 1 = .ok (.iload_n 1, 1) := by decide +kernel
theorem d_Web_attackersOfOne_2 : decode k_Web_attackersOfOne 2 = .ok (.invokevirtual 34, 3) := by decide +kernel
theorem d_Web_attackersOfOne_5 : decode k_Web_attackersOfOne 5 = .ok (.ifCond .eq 12, 3) := by decide +kernel
theorem d_Web_attackersOfOne_8 : decode k_Web_attackersOfOne 8 = .ok (.aload_n 0, 1) := by decide +kernel
theorem d_Web_attackersOfOne_9 : decode k_Web_attackersOfOne 9 = .ok (.getfield 15, 3) := by decide +kernel
theorem d_Web_attackersOfOne_12 : decode k_Web_attackersOfOne 12 = .ok (.iload_n 1, 1) := by decide +kernel
theorem d_Web_attackersOfOne_13 : decode k_Web_attackersOfOne 13 = .ok (.iaload, 1) := by decide +kernel
theorem d_Web_attackersOfOne_14 : decode k_Web_attackersOfOne 14 = .ok (.goto 4, 3) := by decide +kernel
theorem d_Web_attackersOfOne_17 : decode k_Web_attackersOfOne 17 = .ok (.iconst 0, 1) := by decide +kernel
theorem d_Web_attackersOfOne_18 : decode k_Web_attackersOfOne 18 = .ok (.ireturn, 1) := by decide +kernel
