theorem dX0_init_0 : decode cX0_init 0 = .ok (.aload_n 0, 1) := by decide +kernel
theorem dX0_init_1 : decode cX0_init 1 = .ok (.invokespecial 3, 3) := by decide +kernel
theorem dX0_init_4 : decode cX0_init 4 = .ok (.return_, 1) := by decide +kernel
theorem dX0_isTrait_0 : decode cX0_isTrait 0 = .ok (.iload_n 0, 1) := by decide +kernel
theorem dX0_isTrait_1 : decode cX0_isTrait 1 = .ok (.iconst 1, 1) := by decide +kernel
theorem dX0_isTrait_2 : decode cX0_isTrait 2 = .ok (.if_icmp .eq 19, 3) := by decide +kernel
theorem dX0_isTrait_5 : decode cX0_isTrait 5 = .ok (.iload_n 0, 1) := by decide +kernel
theorem dX0_isTrait_6 : decode cX0_isTrait 6 = .ok (.iconst 2, 1) := by decide +kernel
theorem dX0_isTrait_7 : decode cX0_isTrait 7 = .ok (.if_icmp .eq 14, 3) := by decide +kernel
theorem dX0_isTrait_10 : decode cX0_isTrait 10 = .ok (.iload_n 0, 1) := by decide +kernel
theorem dX0_isTrait_11 : decode cX0_isTrait 11 = .ok (.iconst 3, 1) := by decide +kernel
theorem dX0_isTrait_12 : decode cX0_isTrait 12 = .ok (.if_icmp .eq 9, 3) := by decide +kernel
theorem dX0_isTrait_15 : decode cX0_isTrait 15 = .ok (.iload_n 0, 1) := by decide +kernel
theorem dX0_isTrait_16 : decode cX0_isTrait 16 = .ok (.bipush 6, 2) := by decide +kernel
theorem dX0_isTrait_18 : decode cX0_isTrait 18 = .ok (.if_icmp .ne 7, 3) := by decide +kernel
theorem dX0_isTrait_21 : decode cX0_isTrait 21 = .ok (.iconst 1, 1) := by decide +kernel
theorem dX0_isTrait_22 : decode cX0_isTrait 22 = .ok (.goto 4, 3) := by decide +kernel
theorem dX0_isTrait_25 : decode cX0_isTrait 25 = .ok (.iconst 0, 1) := by decide +kernel
theorem dX0_isTrait_26 : decode cX0_isTrait 26 = .ok (.ireturn, 1) := by decide +kernel
theorem dX0_mayBe_0 : decode cX0_mayBe 0 = .ok (.iload_n 0, 1) := by decide +kernel
theorem dX0_mayBe_1 : decode cX0_mayBe 1 = .ok (.tableswitch 105 1 6 #[39, 55, 72, 105, 105, 90], 39) := by decide +kernel
theorem dX0_mayBe_40 : decode cX0_mayBe 40 = .ok (.iload_n 1, 1) := by decide +kernel
theorem dX0_mayBe_41 : decode cX0_mayBe 41 = .ok (.ifCond .lt 13, 3) := by decide +kernel
theorem dX0_mayBe_44 : decode cX0_mayBe 44 = .ok (.iload_n 1, 1) := by decide +kernel
theorem dX0_mayBe_45 : decode cX0_mayBe 45 = .ok (.bipush 100, 2) := by decide +kernel
theorem dX0_mayBe_47 : decode cX0_mayBe 47 = .ok (.if_icmp .ge 7, 3) := by decide +kernel
theorem dX0_mayBe_50 : decode cX0_mayBe 50 = .ok (.iconst 1, 1) := by decide +kernel
theorem dX0_mayBe_51 : decode cX0_mayBe 51 = .ok (.goto 4, 3) := by decide +kernel
theorem dX0_mayBe_54 : decode cX0_mayBe 54 = .ok (.iconst 0, 1) := by decide +kernel
theorem dX0_mayBe_55 : decode cX0_mayBe 55 = .ok (.ireturn, 1) := by decide +kernel
theorem dX0_mayBe_56 : decode cX0_mayBe 56 = .ok (.iload_n 1, 1) := by decide +kernel
theorem dX0_mayBe_57 : decode cX0_mayBe 57 = .ok (.iconst 1, 1) := by decide +kernel
theorem dX0_mayBe_58 : decode cX0_mayBe 58 = .ok (.if_icmp .lt 13, 3) := by decide +kernel
theorem dX0_mayBe_61 : decode cX0_mayBe 61 = .ok (.iload_n 1, 1) := by decide +kernel
theorem dX0_mayBe_62 : decode cX0_mayBe 62 = .ok (.bipush 9, 2) := by decide +kernel
theorem dX0_mayBe_64 : decode cX0_mayBe 64 = .ok (.if_icmp .gt 7, 3) := by decide +kernel
theorem dX0_mayBe_67 : decode cX0_mayBe 67 = .ok (.iconst 1, 1) := by decide +kernel
theorem dX0_mayBe_68 : decode cX0_mayBe 68 = .ok (.goto 4, 3) := by decide +kernel
theorem dX0_mayBe_71 : decode cX0_mayBe 71 = .ok (.iconst 0, 1) := by decide +kernel
theorem dX0_mayBe_72 : decode cX0_mayBe 72 = .ok (.ireturn, 1) := by decide +kernel
theorem dX0_mayBe_73 : decode cX0_mayBe 73 = .ok (.iload_n 1, 1) := by decide +kernel
theorem dX0_mayBe_74 : decode cX0_mayBe 74 = .ok (.bipush (-20), 2) := by decide +kernel
theorem dX0_mayBe_76 : decode cX0_mayBe 76 = .ok (.if_icmp .lt 13, 3) := by decide +kernel
theorem dX0_mayBe_79 : decode cX0_mayBe 79 = .ok (.iload_n 1, 1) := by decide +kernel
theorem dX0_mayBe_80 : decode cX0_mayBe 80 = .ok (.bipush 20, 2) := by decide +kernel
theorem dX0_mayBe_82 : decode cX0_mayBe 82 = .ok (.if_icmp .gt 7, 3) := by decide +kernel
theorem dX0_mayBe_85 : decode cX0_mayBe 85 = .ok (.iconst 1, 1) := by decide +kernel
theorem dX0_mayBe_86 : decode cX0_mayBe 86 = .ok (.goto 4, 3) := by decide +kernel
theorem dX0_mayBe_89 : decode cX0_mayBe 89 = .ok (.iconst 0, 1) := by decide +kernel
theorem dX0_mayBe_90 : decode cX0_mayBe 90 = .ok (.ireturn, 1) := by decide +kernel
theorem dX0_mayBe_91 : decode cX0_mayBe 91 = .ok (.iload_n 1, 1) := by decide +kernel
theorem dX0_mayBe_92 : decode cX0_mayBe 92 = .ok (.ifCond .eq 8, 3) := by decide +kernel
theorem dX0_mayBe_95 : decode cX0_mayBe 95 = .ok (.iload_n 1, 1) := by decide +kernel
theorem dX0_mayBe_96 : decode cX0_mayBe 96 = .ok (.iconst 1, 1) := by decide +kernel
theorem dX0_mayBe_97 : decode cX0_mayBe 97 = .ok (.if_icmp .ne 7, 3) := by decide +kernel
theorem dX0_mayBe_100 : decode cX0_mayBe 100 = .ok (.iconst 1, 1) := by decide +kernel
theorem dX0_mayBe_101 : decode cX0_mayBe 101 = .ok (.goto 4, 3) := by decide +kernel
theorem dX0_mayBe_104 : decode cX0_mayBe 104 = .ok (.iconst 0, 1) := by decide +kernel
theorem dX0_mayBe_105 : decode cX0_mayBe 105 = .ok (.ireturn, 1) := by decide +kernel
theorem dX0_mayBe_106 : decode cX0_mayBe 106 = .ok (.iconst 0, 1) := by decide +kernel
theorem dX0_mayBe_107 : decode cX0_mayBe 107 = .ok (.ireturn, 1) := by decide +kernel
theorem dX0_trait_0 : decode cX0_trait 0 = .ok (.iload_n 1, 1) := by decide +kernel
theorem dX0_trait_1 : decode cX0_trait 1 = .ok (.tableswitch 42 1 3 #[27, 32, 37], 27) := by decide +kernel
theorem dX0_trait_28 : decode cX0_trait 28 = .ok (.aload_n 0, 1) := by decide +kernel
theorem dX0_trait_29 : decode cX0_trait 29 = .ok (.getfield 11, 3) := by decide +kernel
theorem dX0_trait_32 : decode cX0_trait 32 = .ok (.ireturn, 1) := by decide +kernel
theorem dX0_trait_33 : decode cX0_trait 33 = .ok (.aload_n 0, 1) := by decide +kernel
theorem dX0_trait_34 : decode cX0_trait 34 = .ok (.getfield 15, 3) := by decide +kernel
theorem dX0_trait_37 : decode cX0_trait 37 = .ok (.ireturn, 1) := by decide +kernel
theorem dX0_trait_38 : decode cX0_trait 38 = .ok (.aload_n 0, 1) := by decide +kernel
theorem dX0_trait_39 : decode cX0_trait 39 = .ok (.getfield 18, 3) := by decide +kernel
theorem dX0_trait_42 : decode cX0_trait 42 = .ok (.ireturn, 1) := by decide +kernel
theorem dX0_trait_43 : decode cX0_trait 43 = .ok (.aload_n 0, 1) := by decide +kernel
theorem dX0_trait_44 : decode cX0_trait 44 = .ok (.getfield 21, 3) := by decide +kernel
theorem dX0_trait_47 : decode cX0_trait 47 = .ok (.ifCond .eq 7, 3) := by decide +kernel
theorem dX0_trait_50 : decode cX0_trait 50 = .ok (.iconst 1, 1) := by decide +kernel
theorem dX0_trait_51 : decode cX0_trait 51 = .ok (.goto 4, 3) := by decide +kernel
theorem dX0_trait_54 : decode cX0_trait 54 = .ok (.iconst 0, 1) := by decide +kernel
theorem dX0_trait_55 : decode cX0_trait 55 = .ok (.ireturn, 1) := by decide +kernel
theorem dX0_change_0 : decode cX0_change 0 = .ok (.iload_n 1, 1) := by decide +kernel
theorem dX0_change_1 : decode cX0_change 1 = .ok (.tableswitch 51 1 3 #[27, 35, 43], 27) := by decide +kernel
theorem dX0_change_28 : decode cX0_change 28 = .ok (.aload_n 0, 1) := by decide +kernel
theorem dX0_change_29 : decode cX0_change 29 = .ok (.iload_n 2, 1) := by decide +kernel
theorem dX0_change_30 : decode cX0_change 30 = .ok (.putfield 11, 3) := by decide +kernel
theorem dX0_change_33 : decode cX0_change 33 = .ok (.goto 33, 3) := by decide +kernel
theorem dX0_change_36 : decode cX0_change 36 = .ok (.aload_n 0, 1) := by decide +kernel
theorem dX0_change_37 : decode cX0_change 37 = .ok (.iload_n 2, 1) := by decide +kernel
theorem dX0_change_38 : decode cX0_change 38 = .ok (.putfield 15, 3) := by decide +kernel
theorem dX0_change_41 : decode cX0_change 41 = .ok (.goto 25, 3) := by decide +kernel
theorem dX0_change_44 : decode cX0_change 44 = .ok (.aload_n 0, 1) := by decide +kernel
theorem dX0_change_45 : decode cX0_change 45 = .ok (.iload_n 2, 1) := by decide +kernel
theorem dX0_change_46 : decode cX0_change 46 = .ok (.putfield 18, 3) := by decide +kernel
theorem dX0_change_49 : decode cX0_change 49 = .ok (.goto 17, 3) := by decide +kernel
theorem dX0_change_52 : decode cX0_change 52 = .ok (.aload_n 0, 1) := by decide +kernel
theorem dX0_change_53 : decode cX0_change 53 = .ok (.iload_n 2, 1) := by decide +kernel
theorem dX0_change_54 : decode cX0_change 54 = .ok (.iconst 1, 1) := by decide +kernel
theorem dX0_change_55 : decode cX0_change 55 = .ok (.if_icmp .ne 7, 3) := by decide +kernel
theorem dX0_change_58 : decode cX0_change 58 = .ok (.iconst 1, 1) := by decide +kernel
theorem dX0_change_59 : decode cX0_change 59 = .ok (.goto 4, 3) := by decide +kernel
theorem dX0_change_62 : decode cX0_change 62 = .ok (.iconst 0, 1) := by decide +kernel
theorem dX0_change_63 : decode cX0_change 63 = .ok (.putfield 21, 3) := by decide +kernel
theorem dX0_change_66 : decode cX0_change 66 = .ok (.return_, 1) := by decide +kernel
theorem dX0_become_0 : decode cX0_become 0 = .ok (.aload_n 0, 1) := by decide +kernel
theorem dX0_become_1 : decode cX0_become 1 = .ok (.aload_n 1, 1) := by decide +kernel
theorem dX0_become_2 : decode cX0_become 2 = .ok (.getfield 25, 3) := by decide +kernel
theorem dX0_become_5 : decode cX0_become 5 = .ok (.putfield 25, 3) := by decide +kernel
theorem dX0_become_8 : decode cX0_become 8 = .ok (.aload_n 0, 1) := by decide +kernel
theorem dX0_become_9 : decode cX0_become 9 = .ok (.aload_n 1, 1) := by decide +kernel
theorem dX0_become_10 : decode cX0_become 10 = .ok (.getfield 11, 3) := by decide +kernel
theorem dX0_become_13 : decode cX0_become 13 = .ok (.putfield 11, 3) := by decide +kernel
theorem dX0_become_16 : decode cX0_become 16 = .ok (.aload_n 0, 1) := by decide +kernel
theorem dX0_become_17 : decode cX0_become 17 = .ok (.aload_n 1, 1) := by decide +kernel
theorem dX0_become_18 : decode cX0_become 18 = .ok (.getfield 15, 3) := by decide +kernel
theorem dX0_become_21 : decode cX0_become 21 = .ok (.putfield 15, 3) := by decide +kernel
theorem dX0_become_24 : decode cX0_become 24 = .ok (.aload_n 0, 1) := by decide +kernel
theorem dX0_become_25 : decode cX0_become 25 = .ok (.aload_n 1, 1) := by decide +kernel
theorem dX0_become_26 : decode cX0_become 26 = .ok (.getfield 18, 3) := by decide +kernel
theorem dX0_become_29 : decode cX0_become 29 = .ok (.putfield 18, 3) := by decide +kernel
theorem dX0_become_32 : decode cX0_become 32 = .ok (.aload_n 0, 1) := by decide +kernel
theorem dX0_become_33 : decode cX0_become 33 = .ok (.aload_n 1, 1) := by decide +kernel
theorem dX0_become_34 : decode cX0_become 34 = .ok (.getfield 28, 3) := by decide +kernel
theorem dX0_become_37 : decode cX0_become 37 = .ok (.putfield 28, 3) := by decide +kernel
theorem dX0_become_40 : decode cX0_become 40 = .ok (.aload_n 0, 1) := by decide +kernel
theorem dX0_become_41 : decode cX0_become 41 = .ok (.aload_n 1, 1) := by decide +kernel
theorem dX0_become_42 : decode cX0_become 42 = .ok (.getfield 31, 3) := by decide +kernel
theorem dX0_become_45 : decode cX0_become 45 = .ok (.putfield 31, 3) := by decide +kernel
theorem dX0_become_48 : decode cX0_become 48 = .ok (.aload_n 0, 1) := by decide +kernel
theorem dX0_become_49 : decode cX0_become 49 = .ok (.aload_n 1, 1) := by decide +kernel
theorem dX0_become_50 : decode cX0_become 50 = .ok (.getfield 21, 3) := by decide +kernel
theorem dX0_become_53 : decode cX0_become 53 = .ok (.putfield 21, 3) := by decide +kernel
theorem dX0_become_56 : decode cX0_become 56 = .ok (.return_, 1) := by decide +kernel
theorem dX0_believeAll_0 : decode cX0_believeAll 0 = .ok (.aload_n 0, 1) := by decide +kernel
theorem dX0_believeAll_1 : decode cX0_believeAll 1 = .ok (.iconst 0, 1) := by decide +kernel
theorem dX0_believeAll_2 : decode cX0_believeAll 2 = .ok (.putfield 28, 3) := by decide +kernel
theorem dX0_believeAll_5 : decode cX0_believeAll 5 = .ok (.aload_n 0, 1) := by decide +kernel
theorem dX0_believeAll_6 : decode cX0_believeAll 6 = .ok (.bipush 99, 2) := by decide +kernel
theorem dX0_believeAll_8 : decode cX0_believeAll 8 = .ok (.putfield 31, 3) := by decide +kernel
theorem dX0_believeAll_11 : decode cX0_believeAll 11 = .ok (.return_, 1) := by decide +kernel
theorem dX0_isOf_0 : decode cX0_isOf 0 = .ok (.aload_n 0, 1) := by decide +kernel
theorem dX0_isOf_1 : decode cX0_isOf 1 = .ok (.getfield 25, 3) := by decide +kernel
theorem dX0_isOf_4 : decode cX0_isOf 4 = .ok (.istore_n 2, 1) := by decide +kernel
theorem dX0_isOf_5 : decode cX0_isOf 5 = .ok (.iconst 0, 1) := by decide +kernel
theorem dX0_isOf_6 : decode cX0_isOf 6 = .ok (.istore_n 3, 1) := by decide +kernel
theorem dX0_isOf_7 : decode cX0_isOf 7 = .ok (.iload_n 3, 1) := by decide +kernel
theorem dX0_isOf_8 : decode cX0_isOf 8 = .ok (.bipush 6, 2) := by decide +kernel
theorem dX0_isOf_10 : decode cX0_isOf 10 = .ok (.if_icmp .ge 32, 3) := by decide +kernel
theorem dX0_isOf_13 : decode cX0_isOf 13 = .ok (.iload_n 2, 1) := by decide +kernel
theorem dX0_isOf_14 : decode cX0_isOf 14 = .ok (.ifCond .lt 28, 3) := by decide +kernel
theorem dX0_isOf_17 : decode cX0_isOf 17 = .ok (.iload_n 2, 1) := by decide +kernel
theorem dX0_isOf_18 : decode cX0_isOf 18 = .ok (.bipush 6, 2) := by decide +kernel
theorem dX0_isOf_20 : decode cX0_isOf 20 = .ok (.if_icmp .ge 22, 3) := by decide +kernel
theorem dX0_isOf_23 : decode cX0_isOf 23 = .ok (.iload_n 2, 1) := by decide +kernel
theorem dX0_isOf_24 : decode cX0_isOf 24 = .ok (.iload_n 1, 1) := by decide +kernel
theorem dX0_isOf_25 : decode cX0_isOf 25 = .ok (.if_icmp .ne 5, 3) := by decide +kernel
theorem dX0_isOf_28 : decode cX0_isOf 28 = .ok (.iconst 1, 1) := by decide +kernel
theorem dX0_isOf_29 : decode cX0_isOf 29 = .ok (.ireturn, 1) := by decide +kernel
theorem dX0_isOf_30 : decode cX0_isOf 30 = .ok (.getstatic 34, 3) := by decide +kernel
theorem dX0_isOf_33 : decode cX0_isOf 33 = .ok (.iload_n 2, 1) := by decide +kernel
theorem dX0_isOf_34 : decode cX0_isOf 34 = .ok (.iaload, 1) := by decide +kernel
theorem dX0_isOf_35 : decode cX0_isOf 35 = .ok (.istore_n 2, 1) := by decide +kernel
theorem dX0_isOf_36 : decode cX0_isOf 36 = .ok (.iinc 3 1, 3) := by decide +kernel
theorem dX0_isOf_39 : decode cX0_isOf 39 = .ok (.goto (-32), 3) := by decide +kernel
theorem dX0_isOf_42 : decode cX0_isOf 42 = .ok (.iconst 0, 1) := by decide +kernel
theorem dX0_isOf_43 : decode cX0_isOf 43 = .ok (.ireturn, 1) := by decide +kernel
theorem dX0_worth_0 : decode cX0_worth 0 = .ok (.aload_n 0, 1) := by decide +kernel
theorem dX0_worth_1 : decode cX0_worth 1 = .ok (.getfield 25, 3) := by decide +kernel
theorem dX0_worth_4 : decode cX0_worth 4 = .ok (.tableswitch 74 1 5 #[36, 54, 44, 62, 72], 36) := by decide +kernel
theorem dX0_worth_40 : decode cX0_worth 40 = .ok (.aload_n 0, 1) := by decide +kernel
theorem dX0_worth_41 : decode cX0_worth 41 = .ok (.getfield 15, 3) := by decide +kernel
theorem dX0_worth_44 : decode cX0_worth 44 = .ok (.bipush 10, 2) := by decide +kernel
theorem dX0_worth_46 : decode cX0_worth 46 = .ok (.iadd, 1) := by decide +kernel
theorem dX0_worth_47 : decode cX0_worth 47 = .ok (.ireturn, 1) := by decide +kernel
theorem dX0_worth_48 : decode cX0_worth 48 = .ok (.iconst 2, 1) := by decide +kernel
theorem dX0_worth_49 : decode cX0_worth 49 = .ok (.aload_n 0, 1) := by decide +kernel
theorem dX0_worth_50 : decode cX0_worth 50 = .ok (.getfield 15, 3) := by decide +kernel
theorem dX0_worth_53 : decode cX0_worth 53 = .ok (.bipush 10, 2) := by decide +kernel
theorem dX0_worth_55 : decode cX0_worth 55 = .ok (.iadd, 1) := by decide +kernel
theorem dX0_worth_56 : decode cX0_worth 56 = .ok (.imul, 1) := by decide +kernel
theorem dX0_worth_57 : decode cX0_worth 57 = .ok (.ireturn, 1) := by decide +kernel
theorem dX0_worth_58 : decode cX0_worth 58 = .ok (.bipush 50, 2) := by decide +kernel
theorem dX0_worth_60 : decode cX0_worth 60 = .ok (.aload_n 0, 1) := by decide +kernel
theorem dX0_worth_61 : decode cX0_worth 61 = .ok (.getfield 18, 3) := by decide +kernel
theorem dX0_worth_64 : decode cX0_worth 64 = .ok (.isub, 1) := by decide +kernel
theorem dX0_worth_65 : decode cX0_worth 65 = .ok (.ireturn, 1) := by decide +kernel
theorem dX0_worth_66 : decode cX0_worth 66 = .ok (.bipush 50, 2) := by decide +kernel
theorem dX0_worth_68 : decode cX0_worth 68 = .ok (.aload_n 0, 1) := by decide +kernel
theorem dX0_worth_69 : decode cX0_worth 69 = .ok (.getfield 18, 3) := by decide +kernel
theorem dX0_worth_72 : decode cX0_worth 72 = .ok (.isub, 1) := by decide +kernel
theorem dX0_worth_73 : decode cX0_worth 73 = .ok (.iconst 3, 1) := by decide +kernel
theorem dX0_worth_74 : decode cX0_worth 74 = .ok (.isub, 1) := by decide +kernel
theorem dX0_worth_75 : decode cX0_worth 75 = .ok (.ireturn, 1) := by decide +kernel
theorem dX0_worth_76 : decode cX0_worth 76 = .ok (.iconst 1, 1) := by decide +kernel
theorem dX0_worth_77 : decode cX0_worth 77 = .ok (.ireturn, 1) := by decide +kernel
theorem dX0_worth_78 : decode cX0_worth 78 = .ok (.aload_n 0, 1) := by decide +kernel
theorem dX0_worth_79 : decode cX0_worth 79 = .ok (.getfield 15, 3) := by decide +kernel
theorem dX0_worth_82 : decode cX0_worth 82 = .ok (.ireturn, 1) := by decide +kernel
theorem dX0_setting_0 : decode cX0_setting 0 = .ok (.aload_n 0, 1) := by decide +kernel
theorem dX0_setting_1 : decode cX0_setting 1 = .ok (.getfield 25, 3) := by decide +kernel
theorem dX0_setting_4 : decode cX0_setting 4 = .ok (.iconst 3, 1) := by decide +kernel
theorem dX0_setting_5 : decode cX0_setting 5 = .ok (.if_icmp .ne 8, 3) := by decide +kernel
theorem dX0_setting_8 : decode cX0_setting 8 = .ok (.aload_n 0, 1) := by decide +kernel
theorem dX0_setting_9 : decode cX0_setting 9 = .ok (.getfield 11, 3) := by decide +kernel
theorem dX0_setting_12 : decode cX0_setting 12 = .ok (.ireturn, 1) := by decide +kernel
theorem dX0_setting_13 : decode cX0_setting 13 = .ok (.iload_n 2, 1) := by decide +kernel
theorem dX0_setting_14 : decode cX0_setting 14 = .ok (.ifCond .ge 17, 3) := by decide +kernel
theorem dX0_setting_17 : decode cX0_setting 17 = .ok (.aload_n 0, 1) := by decide +kernel
theorem dX0_setting_18 : decode cX0_setting 18 = .ok (.getfield 28, 3) := by decide +kernel
theorem dX0_setting_21 : decode cX0_setting 21 = .ok (.aload_n 0, 1) := by decide +kernel
theorem dX0_setting_22 : decode cX0_setting 22 = .ok (.getfield 31, 3) := by decide +kernel
theorem dX0_setting_25 : decode cX0_setting 25 = .ok (.iadd, 1) := by decide +kernel
theorem dX0_setting_26 : decode cX0_setting 26 = .ok (.iconst 2, 1) := by decide +kernel
theorem dX0_setting_27 : decode cX0_setting 27 = .ok (.idiv, 1) := by decide +kernel
theorem dX0_setting_28 : decode cX0_setting 28 = .ok (.goto 20, 3) := by decide +kernel
theorem dX0_setting_31 : decode cX0_setting 31 = .ok (.aload_n 1, 1) := by decide +kernel
theorem dX0_setting_32 : decode cX0_setting 32 = .ok (.iload_n 2, 1) := by decide +kernel
theorem dX0_setting_33 : decode cX0_setting 33 = .ok (.aload_n 0, 1) := by decide +kernel
theorem dX0_setting_34 : decode cX0_setting 34 = .ok (.getfield 28, 3) := by decide +kernel
theorem dX0_setting_37 : decode cX0_setting 37 = .ok (.aload_n 0, 1) := by decide +kernel
theorem dX0_setting_38 : decode cX0_setting 38 = .ok (.getfield 31, 3) := by decide +kernel
theorem dX0_setting_41 : decode cX0_setting 41 = .ok (.aload_n 0, 1) := by decide +kernel
theorem dX0_setting_42 : decode cX0_setting 42 = .ok (.getfield 11, 3) := by decide +kernel
theorem dX0_setting_45 : decode cX0_setting 45 = .ok (.invokevirtual 38, 3) := by decide +kernel
theorem dX0_setting_48 : decode cX0_setting 48 = .ok (.invokestatic 44, 3) := by decide +kernel
theorem dX0_setting_51 : decode cX0_setting 51 = .ok (.istore_n 3, 1) := by decide +kernel
theorem dX0_setting_52 : decode cX0_setting 52 = .ok (.aload_n 0, 1) := by decide +kernel
theorem dX0_setting_53 : decode cX0_setting 53 = .ok (.getfield 25, 3) := by decide +kernel
theorem dX0_setting_56 : decode cX0_setting 56 = .ok (.tableswitch 86 1 5 #[36, 45, 86, 55, 73], 36) := by decide +kernel
theorem dX0_setting_92 : decode cX0_setting 92 = .ok (.aload_n 0, 1) := by decide +kernel
theorem dX0_setting_93 : decode cX0_setting 93 = .ok (.getfield 11, 3) := by decide +kernel
theorem dX0_setting_96 : decode cX0_setting 96 = .ok (.iload_n 3, 1) := by decide +kernel
theorem dX0_setting_97 : decode cX0_setting 97 = .ok (.iadd, 1) := by decide +kernel
theorem dX0_setting_98 : decode cX0_setting 98 = .ok (.iconst 2, 1) := by decide +kernel
theorem dX0_setting_99 : decode cX0_setting 99 = .ok (.idiv, 1) := by decide +kernel
theorem dX0_setting_100 : decode cX0_setting 100 = .ok (.ireturn, 1) := by decide +kernel
theorem dX0_setting_101 : decode cX0_setting 101 = .ok (.iload_n 3, 1) := by decide +kernel
theorem dX0_setting_102 : decode cX0_setting 102 = .ok (.aload_n 0, 1) := by decide +kernel
theorem dX0_setting_103 : decode cX0_setting 103 = .ok (.getfield 18, 3) := by decide +kernel
theorem dX0_setting_106 : decode cX0_setting 106 = .ok (.iadd, 1) := by decide +kernel
theorem dX0_setting_107 : decode cX0_setting 107 = .ok (.invokestatic 44, 3) := by decide +kernel
theorem dX0_setting_110 : decode cX0_setting 110 = .ok (.ireturn, 1) := by decide +kernel
theorem dX0_setting_111 : decode cX0_setting 111 = .ok (.iload_n 3, 1) := by decide +kernel
theorem dX0_setting_112 : decode cX0_setting 112 = .ok (.aload_n 0, 1) := by decide +kernel
theorem dX0_setting_113 : decode cX0_setting 113 = .ok (.getfield 18, 3) := by decide +kernel
theorem dX0_setting_116 : decode cX0_setting 116 = .ok (.iadd, 1) := by decide +kernel
theorem dX0_setting_117 : decode cX0_setting 117 = .ok (.invokestatic 44, 3) := by decide +kernel
theorem dX0_setting_120 : decode cX0_setting 120 = .ok (.aload_n 0, 1) := by decide +kernel
theorem dX0_setting_121 : decode cX0_setting 121 = .ok (.getfield 18, 3) := by decide +kernel
theorem dX0_setting_124 : decode cX0_setting 124 = .ok (.iadd, 1) := by decide +kernel
theorem dX0_setting_125 : decode cX0_setting 125 = .ok (.invokestatic 44, 3) := by decide +kernel
theorem dX0_setting_128 : decode cX0_setting 128 = .ok (.ireturn, 1) := by decide +kernel
theorem dX0_setting_129 : decode cX0_setting 129 = .ok (.iload_n 3, 1) := by decide +kernel
theorem dX0_setting_130 : decode cX0_setting 130 = .ok (.bipush 50, 2) := by decide +kernel
theorem dX0_setting_132 : decode cX0_setting 132 = .ok (.if_icmp .lt 7, 3) := by decide +kernel
theorem dX0_setting_135 : decode cX0_setting 135 = .ok (.iconst 0, 1) := by decide +kernel
theorem dX0_setting_136 : decode cX0_setting 136 = .ok (.goto 5, 3) := by decide +kernel
theorem dX0_setting_139 : decode cX0_setting 139 = .ok (.bipush 99, 2) := by decide +kernel
theorem dX0_setting_141 : decode cX0_setting 141 = .ok (.ireturn, 1) := by decide +kernel
theorem dX0_setting_142 : decode cX0_setting 142 = .ok (.iload_n 3, 1) := by decide +kernel
theorem dX0_setting_143 : decode cX0_setting 143 = .ok (.ireturn, 1) := by decide +kernel
theorem dX0_hear_0 : decode cX0_hear 0 = .ok (.aload_n 0, 1) := by decide +kernel
theorem dX0_hear_1 : decode cX0_hear 1 = .ok (.getfield 21, 3) := by decide +kernel
theorem dX0_hear_4 : decode cX0_hear 4 = .ok (.ifCond .ne 4, 3) := by decide +kernel
theorem dX0_hear_7 : decode cX0_hear 7 = .ok (.return_, 1) := by decide +kernel
theorem dX0_hear_8 : decode cX0_hear 8 = .ok (.iload_n 2, 1) := by decide +kernel
theorem dX0_hear_9 : decode cX0_hear 9 = .ok (.ifCond .eq 16, 3) := by decide +kernel
theorem dX0_hear_12 : decode cX0_hear 12 = .ok (.aload_n 0, 1) := by decide +kernel
theorem dX0_hear_13 : decode cX0_hear 13 = .ok (.iload_n 1, 1) := by decide +kernel
theorem dX0_hear_14 : decode cX0_hear 14 = .ok (.iconst 1, 1) := by decide +kernel
theorem dX0_hear_15 : decode cX0_hear 15 = .ok (.isub, 1) := by decide +kernel
theorem dX0_hear_16 : decode cX0_hear 16 = .ok (.invokestatic 44, 3) := by decide +kernel
theorem dX0_hear_19 : decode cX0_hear 19 = .ok (.putfield 31, 3) := by decide +kernel
theorem dX0_hear_22 : decode cX0_hear 22 = .ok (.goto 13, 3) := by decide +kernel
theorem dX0_hear_25 : decode cX0_hear 25 = .ok (.aload_n 0, 1) := by decide +kernel
theorem dX0_hear_26 : decode cX0_hear 26 = .ok (.iload_n 1, 1) := by decide +kernel
theorem dX0_hear_27 : decode cX0_hear 27 = .ok (.iconst 1, 1) := by decide +kernel
theorem dX0_hear_28 : decode cX0_hear 28 = .ok (.iadd, 1) := by decide +kernel
theorem dX0_hear_29 : decode cX0_hear 29 = .ok (.invokestatic 44, 3) := by decide +kernel
theorem dX0_hear_32 : decode cX0_hear 32 = .ok (.putfield 28, 3) := by decide +kernel
theorem dX0_hear_35 : decode cX0_hear 35 = .ok (.aload_n 0, 1) := by decide +kernel
theorem dX0_hear_36 : decode cX0_hear 36 = .ok (.getfield 28, 3) := by decide +kernel
theorem dX0_hear_39 : decode cX0_hear 39 = .ok (.aload_n 0, 1) := by decide +kernel
theorem dX0_hear_40 : decode cX0_hear 40 = .ok (.getfield 31, 3) := by decide +kernel
theorem dX0_hear_43 : decode cX0_hear 43 = .ok (.if_icmp .le 7, 3) := by decide +kernel
theorem dX0_hear_46 : decode cX0_hear 46 = .ok (.aload_n 0, 1) := by decide +kernel
theorem dX0_hear_47 : decode cX0_hear 47 = .ok (.invokevirtual 48, 3) := by decide +kernel
theorem dX0_hear_50 : decode cX0_hear 50 = .ok (.return_, 1) := by decide +kernel
theorem dX1_init_0 : decode cX1_init 0 = .ok (.aload_n 0, 1) := by decide +kernel
theorem dX1_init_1 : decode cX1_init 1 = .ok (.invokespecial 3, 3) := by decide +kernel
theorem dX1_init_4 : decode cX1_init 4 = .ok (.aload_n 0, 1) := by decide +kernel
theorem dX1_init_5 : decode cX1_init 5 = .ok (.new 9, 3) := by decide +kernel
theorem dX1_init_8 : decode cX1_init 8 = .ok (.dup, 1) := by decide +kernel
theorem dX1_init_9 : decode cX1_init 9 = .ok (.invokespecial 11, 3) := by decide +kernel
theorem dX1_init_12 : decode cX1_init 12 = .ok (.putfield 12, 3) := by decide +kernel
theorem dX1_init_15 : decode cX1_init 15 = .ok (.aload_n 0, 1) := by decide +kernel
theorem dX1_init_16 : decode cX1_init 16 = .ok (.iconst 0, 1) := by decide +kernel
theorem dX1_init_17 : decode cX1_init 17 = .ok (.putfield 18, 3) := by decide +kernel
theorem dX1_init_20 : decode cX1_init 20 = .ok (.aload_n 0, 1) := by decide +kernel
theorem dX1_init_21 : decode cX1_init 21 = .ok (.iconst 0, 1) := by decide +kernel
theorem dX1_init_22 : decode cX1_init 22 = .ok (.putfield 22, 3) := by decide +kernel
theorem dX1_init_25 : decode cX1_init 25 = .ok (.aload_n 0, 1) := by decide +kernel
theorem dX1_init_26 : decode cX1_init 26 = .ok (.iconst 0, 1) := by decide +kernel
theorem dX1_init_27 : decode cX1_init 27 = .ok (.putfield 25, 3) := by decide +kernel
theorem dX1_init_30 : decode cX1_init 30 = .ok (.aload_n 0, 1) := by decide +kernel
theorem dX1_init_31 : decode cX1_init 31 = .ok (.iconst 0, 1) := by decide +kernel
theorem dX1_init_32 : decode cX1_init 32 = .ok (.putfield 28, 3) := by decide +kernel
theorem dX1_init_35 : decode cX1_init 35 = .ok (.aload_n 0, 1) := by decide +kernel
theorem dX1_init_36 : decode cX1_init 36 = .ok (.iconst 0, 1) := by decide +kernel
theorem dX1_init_37 : decode cX1_init 37 = .ok (.putfield 32, 3) := by decide +kernel
theorem dX1_init_40 : decode cX1_init 40 = .ok (.aload_n 0, 1) := by decide +kernel
theorem dX1_init_41 : decode cX1_init 41 = .ok (.iconst 0, 1) := by decide +kernel
theorem dX1_init_42 : decode cX1_init 42 = .ok (.putfield 35, 3) := by decide +kernel
theorem dX1_init_45 : decode cX1_init 45 = .ok (.aload_n 0, 1) := by decide +kernel
theorem dX1_init_46 : decode cX1_init 46 = .ok (.iconst 0, 1) := by decide +kernel
theorem dX1_init_47 : decode cX1_init 47 = .ok (.putfield 38, 3) := by decide +kernel
theorem dX1_init_50 : decode cX1_init 50 = .ok (.aload_n 0, 1) := by decide +kernel
theorem dX1_init_51 : decode cX1_init 51 = .ok (.aload_n 1, 1) := by decide +kernel
theorem dX1_init_52 : decode cX1_init 52 = .ok (.putfield 41, 3) := by decide +kernel
theorem dX1_init_55 : decode cX1_init 55 = .ok (.return_, 1) := by decide +kernel
theorem dX1_readsWhole_0 : decode cX1_readsWhole 0 = .ok (.aload_n 0, 1) := by decide +kernel
theorem dX1_readsWhole_1 : decode cX1_readsWhole 1 = .ok (.getfield 12, 3) := by decide +kernel
theorem dX1_readsWhole_4 : decode cX1_readsWhole 4 = .ok (.iconst 0, 1) := by decide +kernel
theorem dX1_readsWhole_5 : decode cX1_readsWhole 5 = .ok (.putfield 45, 3) := by decide +kernel
theorem dX1_readsWhole_8 : decode cX1_readsWhole 8 = .ok (.aload_n 0, 1) := by decide +kernel
theorem dX1_readsWhole_9 : decode cX1_readsWhole 9 = .ok (.getfield 12, 3) := by decide +kernel
theorem dX1_readsWhole_12 : decode cX1_readsWhole 12 = .ok (.iconst 0, 1) := by decide +kernel
theorem dX1_readsWhole_13 : decode cX1_readsWhole 13 = .ok (.putfield 48, 3) := by decide +kernel
theorem dX1_readsWhole_16 : decode cX1_readsWhole 16 = .ok (.aload_n 0, 1) := by decide +kernel
theorem dX1_readsWhole_17 : decode cX1_readsWhole 17 = .ok (.iconst 0, 1) := by decide +kernel
theorem dX1_readsWhole_18 : decode cX1_readsWhole 18 = .ok (.putfield 18, 3) := by decide +kernel
theorem dX1_readsWhole_21 : decode cX1_readsWhole 21 = .ok (.aload_n 0, 1) := by decide +kernel
theorem dX1_readsWhole_22 : decode cX1_readsWhole 22 = .ok (.iconst 0, 1) := by decide +kernel
theorem dX1_readsWhole_23 : decode cX1_readsWhole 23 = .ok (.putfield 22, 3) := by decide +kernel
theorem dX1_readsWhole_26 : decode cX1_readsWhole 26 = .ok (.aload_n 0, 1) := by decide +kernel
theorem dX1_readsWhole_27 : decode cX1_readsWhole 27 = .ok (.iconst 0, 1) := by decide +kernel
theorem dX1_readsWhole_28 : decode cX1_readsWhole 28 = .ok (.putfield 25, 3) := by decide +kernel
theorem dX1_readsWhole_31 : decode cX1_readsWhole 31 = .ok (.aload_n 0, 1) := by decide +kernel
theorem dX1_readsWhole_32 : decode cX1_readsWhole 32 = .ok (.iconst 0, 1) := by decide +kernel
theorem dX1_readsWhole_33 : decode cX1_readsWhole 33 = .ok (.putfield 32, 3) := by decide +kernel
theorem dX1_readsWhole_36 : decode cX1_readsWhole 36 = .ok (.aload_n 0, 1) := by decide +kernel
theorem dX1_readsWhole_37 : decode cX1_readsWhole 37 = .ok (.iconst 0, 1) := by decide +kernel
theorem dX1_readsWhole_38 : decode cX1_readsWhole 38 = .ok (.putfield 35, 3) := by decide +kernel
theorem dX1_readsWhole_41 : decode cX1_readsWhole 41 = .ok (.aload_n 0, 1) := by decide +kernel
theorem dX1_readsWhole_42 : decode cX1_readsWhole 42 = .ok (.iconst 0, 1) := by decide +kernel
theorem dX1_readsWhole_43 : decode cX1_readsWhole 43 = .ok (.putfield 38, 3) := by decide +kernel
theorem dX1_readsWhole_46 : decode cX1_readsWhole 46 = .ok (.aload_n 0, 1) := by decide +kernel
theorem dX1_readsWhole_47 : decode cX1_readsWhole 47 = .ok (.invokevirtual 51, 3) := by decide +kernel
theorem dX1_readsWhole_50 : decode cX1_readsWhole 50 = .ok (.aload_n 0, 1) := by decide +kernel
theorem dX1_readsWhole_51 : decode cX1_readsWhole 51 = .ok (.invokevirtual 54, 3) := by decide +kernel
theorem dX1_readsWhole_54 : decode cX1_readsWhole 54 = .ok (.aload_n 0, 1) := by decide +kernel
theorem dX1_readsWhole_55 : decode cX1_readsWhole 55 = .ok (.getfield 32, 3) := by decide +kernel
theorem dX1_readsWhole_58 : decode cX1_readsWhole 58 = .ok (.ifCond .ne 8, 3) := by decide +kernel
theorem dX1_readsWhole_61 : decode cX1_readsWhole 61 = .ok (.aload_n 0, 1) := by decide +kernel
theorem dX1_readsWhole_62 : decode cX1_readsWhole 62 = .ok (.iconst 0, 1) := by decide +kernel
theorem dX1_readsWhole_63 : decode cX1_readsWhole 63 = .ok (.invokevirtual 57, 3) := by decide +kernel
theorem dX1_readsWhole_66 : decode cX1_readsWhole 66 = .ok (.aload_n 0, 1) := by decide +kernel
theorem dX1_readsWhole_67 : decode cX1_readsWhole 67 = .ok (.getfield 32, 3) := by decide +kernel
theorem dX1_readsWhole_70 : decode cX1_readsWhole 70 = .ok (.ifCond .ne 14, 3) := by decide +kernel
theorem dX1_readsWhole_73 : decode cX1_readsWhole 73 = .ok (.aload_n 0, 1) := by decide +kernel
theorem dX1_readsWhole_74 : decode cX1_readsWhole 74 = .ok (.getfield 25, 3) := by decide +kernel
theorem dX1_readsWhole_77 : decode cX1_readsWhole 77 = .ok (.ifCond .ne 7, 3) := by decide +kernel
theorem dX1_readsWhole_80 : decode cX1_readsWhole 80 = .ok (.iconst 1, 1) := by decide +kernel
theorem dX1_readsWhole_81 : decode cX1_readsWhole 81 = .ok (.goto 4, 3) := by decide +kernel
theorem dX1_readsWhole_84 : decode cX1_readsWhole 84 = .ok (.iconst 0, 1) := by decide +kernel
theorem dX1_readsWhole_85 : decode cX1_readsWhole 85 = .ok (.ireturn, 1) := by decide +kernel
theorem dX1_advance_0 : decode cX1_advance 0 = .ok (.aload_n 0, 1) := by decide +kernel
theorem dX1_advance_1 : decode cX1_advance 1 = .ok (.getfield 25, 3) := by decide +kernel
theorem dX1_advance_4 : decode cX1_advance 4 = .ok (.iconst 1, 1) := by decide +kernel
theorem dX1_advance_5 : decode cX1_advance 5 = .ok (.if_icmp .eq 11, 3) := by decide +kernel
theorem dX1_advance_8 : decode cX1_advance 8 = .ok (.aload_n 0, 1) := by decide +kernel
theorem dX1_advance_9 : decode cX1_advance 9 = .ok (.getfield 25, 3) := by decide +kernel
theorem dX1_advance_12 : decode cX1_advance 12 = .ok (.iconst 2, 1) := by decide +kernel
theorem dX1_advance_13 : decode cX1_advance 13 = .ok (.if_icmp .ne 7, 3) := by decide +kernel
theorem dX1_advance_16 : decode cX1_advance 16 = .ok (.iconst 1, 1) := by decide +kernel
theorem dX1_advance_17 : decode cX1_advance 17 = .ok (.goto 4, 3) := by decide +kernel
theorem dX1_advance_20 : decode cX1_advance 20 = .ok (.iconst 0, 1) := by decide +kernel
theorem dX1_advance_21 : decode cX1_advance 21 = .ok (.istore_n 1, 1) := by decide +kernel
theorem dX1_advance_22 : decode cX1_advance 22 = .ok (.aload_n 0, 1) := by decide +kernel
theorem dX1_advance_23 : decode cX1_advance 23 = .ok (.getfield 22, 3) := by decide +kernel
theorem dX1_advance_26 : decode cX1_advance 26 = .ok (.istore_n 2, 1) := by decide +kernel
theorem dX1_advance_27 : decode cX1_advance 27 = .ok (.aload_n 0, 1) := by decide +kernel
theorem dX1_advance_28 : decode cX1_advance 28 = .ok (.aload_n 0, 1) := by decide +kernel
theorem dX1_advance_29 : decode cX1_advance 29 = .ok (.getfield 22, 3) := by decide +kernel
theorem dX1_advance_32 : decode cX1_advance 32 = .ok (.putfield 18, 3) := by decide +kernel
theorem dX1_advance_35 : decode cX1_advance 35 = .ok (.aload_n 0, 1) := by decide +kernel
theorem dX1_advance_36 : decode cX1_advance 36 = .ok (.getfield 18, 3) := by decide +kernel
theorem dX1_advance_39 : decode cX1_advance 39 = .ok (.aload_n 0, 1) := by decide +kernel
theorem dX1_advance_40 : decode cX1_advance 40 = .ok (.getfield 41, 3) := by decide +kernel
theorem dX1_advance_43 : decode cX1_advance 43 = .ok (.getfield 61, 3) := by decide +kernel
theorem dX1_advance_46 : decode cX1_advance 46 = .ok (.if_icmp .ge 32, 3) := by decide +kernel
theorem dX1_advance_49 : decode cX1_advance 49 = .ok (.aload_n 0, 1) := by decide +kernel
theorem dX1_advance_50 : decode cX1_advance 50 = .ok (.getfield 41, 3) := by decide +kernel
theorem dX1_advance_53 : decode cX1_advance 53 = .ok (.aload_n 0, 1) := by decide +kernel
theorem dX1_advance_54 : decode cX1_advance 54 = .ok (.getfield 18, 3) := by decide +kernel
theorem dX1_advance_57 : decode cX1_advance 57 = .ok (.invokevirtual 64, 3) := by decide +kernel
theorem dX1_advance_60 : decode cX1_advance 60 = .ok (.bipush 32, 2) := by decide +kernel
theorem dX1_advance_62 : decode cX1_advance 62 = .ok (.if_icmp .ne 16, 3) := by decide +kernel
theorem dX1_advance_65 : decode cX1_advance 65 = .ok (.aload_n 0, 1) := by decide +kernel
theorem dX1_advance_66 : decode cX1_advance 66 = .ok (.dup, 1) := by decide +kernel
theorem dX1_advance_67 : decode cX1_advance 67 = .ok (.getfield 18, 3) := by decide +kernel
theorem dX1_advance_70 : decode cX1_advance 70 = .ok (.iconst 1, 1) := by decide +kernel
theorem dX1_advance_71 : decode cX1_advance 71 = .ok (.iadd, 1) := by decide +kernel
theorem dX1_advance_72 : decode cX1_advance 72 = .ok (.putfield 18, 3) := by decide +kernel
theorem dX1_advance_75 : decode cX1_advance 75 = .ok (.goto (-40), 3) := by decide +kernel
theorem dX1_advance_78 : decode cX1_advance 78 = .ok (.aload_n 0, 1) := by decide +kernel
theorem dX1_advance_79 : decode cX1_advance 79 = .ok (.aload_n 0, 1) := by decide +kernel
theorem dX1_advance_80 : decode cX1_advance 80 = .ok (.getfield 41, 3) := by decide +kernel
theorem dX1_advance_83 : decode cX1_advance 83 = .ok (.aload_n 0, 1) := by decide +kernel
theorem dX1_advance_84 : decode cX1_advance 84 = .ok (.getfield 18, 3) := by decide +kernel
theorem dX1_advance_87 : decode cX1_advance 87 = .ok (.invokevirtual 64, 3) := by decide +kernel
theorem dX1_advance_90 : decode cX1_advance 90 = .ok (.invokestatic 68, 3) := by decide +kernel
theorem dX1_advance_93 : decode cX1_advance 93 = .ok (.putfield 25, 3) := by decide +kernel
theorem dX1_advance_96 : decode cX1_advance 96 = .ok (.aload_n 0, 1) := by decide +kernel
theorem dX1_advance_97 : decode cX1_advance 97 = .ok (.aload_n 0, 1) := by decide +kernel
theorem dX1_advance_98 : decode cX1_advance 98 = .ok (.getfield 18, 3) := by decide +kernel
theorem dX1_advance_101 : decode cX1_advance 101 = .ok (.putfield 22, 3) := by decide +kernel
theorem dX1_advance_104 : decode cX1_advance 104 = .ok (.aload_n 0, 1) := by decide +kernel
theorem dX1_advance_105 : decode cX1_advance 105 = .ok (.getfield 25, 3) := by decide +kernel
theorem dX1_advance_108 : decode cX1_advance 108 = .ok (.iconst 3, 1) := by decide +kernel
theorem dX1_advance_109 : decode cX1_advance 109 = .ok (.if_icmp .ne 16, 3) := by decide +kernel
theorem dX1_advance_112 : decode cX1_advance 112 = .ok (.aload_n 0, 1) := by decide +kernel
theorem dX1_advance_113 : decode cX1_advance 113 = .ok (.dup, 1) := by decide +kernel
theorem dX1_advance_114 : decode cX1_advance 114 = .ok (.getfield 22, 3) := by decide +kernel
theorem dX1_advance_117 : decode cX1_advance 117 = .ok (.iconst 1, 1) := by decide +kernel
theorem dX1_advance_118 : decode cX1_advance 118 = .ok (.iadd, 1) := by decide +kernel
theorem dX1_advance_119 : decode cX1_advance 119 = .ok (.putfield 22, 3) := by decide +kernel
theorem dX1_advance_122 : decode cX1_advance 122 = .ok (.goto 58, 3) := by decide +kernel
theorem dX1_advance_125 : decode cX1_advance 125 = .ok (.aload_n 0, 1) := by decide +kernel
theorem dX1_advance_126 : decode cX1_advance 126 = .ok (.getfield 25, 3) := by decide +kernel
theorem dX1_advance_129 : decode cX1_advance 129 = .ok (.ifCond .eq 51, 3) := by decide +kernel
theorem dX1_advance_132 : decode cX1_advance 132 = .ok (.aload_n 0, 1) := by decide +kernel
theorem dX1_advance_133 : decode cX1_advance 133 = .ok (.getfield 22, 3) := by decide +kernel
theorem dX1_advance_136 : decode cX1_advance 136 = .ok (.aload_n 0, 1) := by decide +kernel
theorem dX1_advance_137 : decode cX1_advance 137 = .ok (.getfield 41, 3) := by decide +kernel
theorem dX1_advance_140 : decode cX1_advance 140 = .ok (.getfield 61, 3) := by decide +kernel
theorem dX1_advance_143 : decode cX1_advance 143 = .ok (.if_icmp .ge 37, 3) := by decide +kernel
theorem dX1_advance_146 : decode cX1_advance 146 = .ok (.aload_n 0, 1) := by decide +kernel
theorem dX1_advance_147 : decode cX1_advance 147 = .ok (.getfield 41, 3) := by decide +kernel
theorem dX1_advance_150 : decode cX1_advance 150 = .ok (.aload_n 0, 1) := by decide +kernel
theorem dX1_advance_151 : decode cX1_advance 151 = .ok (.getfield 22, 3) := by decide +kernel
theorem dX1_advance_154 : decode cX1_advance 154 = .ok (.invokevirtual 64, 3) := by decide +kernel
theorem dX1_advance_157 : decode cX1_advance 157 = .ok (.invokestatic 68, 3) := by decide +kernel
theorem dX1_advance_160 : decode cX1_advance 160 = .ok (.aload_n 0, 1) := by decide +kernel
theorem dX1_advance_161 : decode cX1_advance 161 = .ok (.getfield 25, 3) := by decide +kernel
theorem dX1_advance_164 : decode cX1_advance 164 = .ok (.if_icmp .ne 16, 3) := by decide +kernel
theorem dX1_advance_167 : decode cX1_advance 167 = .ok (.aload_n 0, 1) := by decide +kernel
theorem dX1_advance_168 : decode cX1_advance 168 = .ok (.dup, 1) := by decide +kernel
theorem dX1_advance_169 : decode cX1_advance 169 = .ok (.getfield 22, 3) := by decide +kernel
theorem dX1_advance_172 : decode cX1_advance 172 = .ok (.iconst 1, 1) := by decide +kernel
theorem dX1_advance_173 : decode cX1_advance 173 = .ok (.iadd, 1) := by decide +kernel
theorem dX1_advance_174 : decode cX1_advance 174 = .ok (.putfield 22, 3) := by decide +kernel
theorem dX1_advance_177 : decode cX1_advance 177 = .ok (.goto (-45), 3) := by decide +kernel
theorem dX1_advance_180 : decode cX1_advance 180 = .ok (.aload_n 0, 1) := by decide +kernel
theorem dX1_advance_181 : decode cX1_advance 181 = .ok (.iload_n 1, 1) := by decide +kernel
theorem dX1_advance_182 : decode cX1_advance 182 = .ok (.ifCond .eq 31, 3) := by decide +kernel
theorem dX1_advance_185 : decode cX1_advance 185 = .ok (.aload_n 0, 1) := by decide +kernel
theorem dX1_advance_186 : decode cX1_advance 186 = .ok (.getfield 18, 3) := by decide +kernel
theorem dX1_advance_189 : decode cX1_advance 189 = .ok (.iload_n 2, 1) := by decide +kernel
theorem dX1_advance_190 : decode cX1_advance 190 = .ok (.if_icmp .ne 23, 3) := by decide +kernel
theorem dX1_advance_193 : decode cX1_advance 193 = .ok (.aload_n 0, 1) := by decide +kernel
theorem dX1_advance_194 : decode cX1_advance 194 = .ok (.getfield 25, 3) := by decide +kernel
theorem dX1_advance_197 : decode cX1_advance 197 = .ok (.iconst 1, 1) := by decide +kernel
theorem dX1_advance_198 : decode cX1_advance 198 = .ok (.if_icmp .eq 11, 3) := by decide +kernel
theorem dX1_advance_201 : decode cX1_advance 201 = .ok (.aload_n 0, 1) := by decide +kernel
theorem dX1_advance_202 : decode cX1_advance 202 = .ok (.getfield 25, 3) := by decide +kernel
theorem dX1_advance_205 : decode cX1_advance 205 = .ok (.iconst 2, 1) := by decide +kernel
theorem dX1_advance_206 : decode cX1_advance 206 = .ok (.if_icmp .ne 7, 3) := by decide +kernel
theorem dX1_advance_209 : decode cX1_advance 209 = .ok (.iconst 1, 1) := by decide +kernel
theorem dX1_advance_210 : decode cX1_advance 210 = .ok (.goto 4, 3) := by decide +kernel
theorem dX1_advance_213 : decode cX1_advance 213 = .ok (.iconst 0, 1) := by decide +kernel
theorem dX1_advance_214 : decode cX1_advance 214 = .ok (.putfield 28, 3) := by decide +kernel
theorem dX1_advance_217 : decode cX1_advance 217 = .ok (.return_, 1) := by decide +kernel
theorem dX1_sortOf_0 : decode cX1_sortOf 0 = .ok (.iload_n 0, 1) := by decide +kernel
theorem dX1_sortOf_1 : decode cX1_sortOf 1 = .ok (.ifCond .ge 5, 3) := by decide +kernel
theorem dX1_sortOf_4 : decode cX1_sortOf 4 = .ok (.iconst 0, 1) := by decide +kernel
theorem dX1_sortOf_5 : decode cX1_sortOf 5 = .ok (.ireturn, 1) := by decide +kernel
theorem dX1_sortOf_6 : decode cX1_sortOf 6 = .ok (.iload_n 0, 1) := by decide +kernel
theorem dX1_sortOf_7 : decode cX1_sortOf 7 = .ok (.bipush 97, 2) := by decide +kernel
theorem dX1_sortOf_9 : decode cX1_sortOf 9 = .ok (.if_icmp .lt 11, 3) := by decide +kernel
theorem dX1_sortOf_12 : decode cX1_sortOf 12 = .ok (.iload_n 0, 1) := by decide +kernel
theorem dX1_sortOf_13 : decode cX1_sortOf 13 = .ok (.bipush 122, 2) := by decide +kernel
theorem dX1_sortOf_15 : decode cX1_sortOf 15 = .ok (.if_icmp .gt 5, 3) := by decide +kernel
theorem dX1_sortOf_18 : decode cX1_sortOf 18 = .ok (.iconst 1, 1) := by decide +kernel
theorem dX1_sortOf_19 : decode cX1_sortOf 19 = .ok (.ireturn, 1) := by decide +kernel
theorem dX1_sortOf_20 : decode cX1_sortOf 20 = .ok (.iload_n 0, 1) := by decide +kernel
theorem dX1_sortOf_21 : decode cX1_sortOf 21 = .ok (.bipush 48, 2) := by decide +kernel
theorem dX1_sortOf_23 : decode cX1_sortOf 23 = .ok (.if_icmp .lt 13, 3) := by decide +kernel
theorem dX1_sortOf_26 : decode cX1_sortOf 26 = .ok (.iload_n 0, 1) := by decide +kernel
theorem dX1_sortOf_27 : decode cX1_sortOf 27 = .ok (.bipush 57, 2) := by decide +kernel
theorem dX1_sortOf_29 : decode cX1_sortOf 29 = .ok (.if_icmp .gt 7, 3) := by decide +kernel
theorem dX1_sortOf_32 : decode cX1_sortOf 32 = .ok (.iconst 2, 1) := by decide +kernel
theorem dX1_sortOf_33 : decode cX1_sortOf 33 = .ok (.goto 4, 3) := by decide +kernel
theorem dX1_sortOf_36 : decode cX1_sortOf 36 = .ok (.iconst 3, 1) := by decide +kernel
theorem dX1_sortOf_37 : decode cX1_sortOf 37 = .ok (.ireturn, 1) := by decide +kernel
theorem dX1_readKey_0 : decode cX1_readKey 0 = .ok (.aload_n 0, 1) := by decide +kernel
theorem dX1_readKey_1 : decode cX1_readKey 1 = .ok (.ldc 71, 2) := by decide +kernel
theorem dX1_readKey_3 : decode cX1_readKey 3 = .ok (.invokevirtual 73, 3) := by decide +kernel
theorem dX1_readKey_6 : decode cX1_readKey 6 = .ok (.ifCond .eq 14, 3) := by decide +kernel
theorem dX1_readKey_9 : decode cX1_readKey 9 = .ok (.aload_n 0, 1) := by decide +kernel
theorem dX1_readKey_10 : decode cX1_readKey 10 = .ok (.getfield 12, 3) := by decide +kernel
theorem dX1_readKey_13 : decode cX1_readKey 13 = .ok (.iconst 0, 1) := by decide +kernel
theorem dX1_readKey_14 : decode cX1_readKey 14 = .ok (.putfield 77, 3) := by decide +kernel
theorem dX1_readKey_17 : decode cX1_readKey 17 = .ok (.goto 49, 3) := by decide +kernel
theorem dX1_readKey_20 : decode cX1_readKey 20 = .ok (.aload_n 0, 1) := by decide +kernel
theorem dX1_readKey_21 : decode cX1_readKey 21 = .ok (.ldc 80, 2) := by decide +kernel
theorem dX1_readKey_23 : decode cX1_readKey 23 = .ok (.invokevirtual 73, 3) := by decide +kernel
theorem dX1_readKey_26 : decode cX1_readKey 26 = .ok (.ifCond .eq 14, 3) := by decide +kernel
theorem dX1_readKey_29 : decode cX1_readKey 29 = .ok (.aload_n 0, 1) := by decide +kernel
theorem dX1_readKey_30 : decode cX1_readKey 30 = .ok (.getfield 12, 3) := by decide +kernel
theorem dX1_readKey_33 : decode cX1_readKey 33 = .ok (.iconst 1, 1) := by decide +kernel
theorem dX1_readKey_34 : decode cX1_readKey 34 = .ok (.putfield 77, 3) := by decide +kernel
theorem dX1_readKey_37 : decode cX1_readKey 37 = .ok (.goto 29, 3) := by decide +kernel
theorem dX1_readKey_40 : decode cX1_readKey 40 = .ok (.aload_n 0, 1) := by decide +kernel
theorem dX1_readKey_41 : decode cX1_readKey 41 = .ok (.ldc 82, 2) := by decide +kernel
theorem dX1_readKey_43 : decode cX1_readKey 43 = .ok (.invokevirtual 73, 3) := by decide +kernel
theorem dX1_readKey_46 : decode cX1_readKey 46 = .ok (.ifCond .eq 14, 3) := by decide +kernel
theorem dX1_readKey_49 : decode cX1_readKey 49 = .ok (.aload_n 0, 1) := by decide +kernel
theorem dX1_readKey_50 : decode cX1_readKey 50 = .ok (.getfield 12, 3) := by decide +kernel
theorem dX1_readKey_53 : decode cX1_readKey 53 = .ok (.iconst 2, 1) := by decide +kernel
theorem dX1_readKey_54 : decode cX1_readKey 54 = .ok (.putfield 77, 3) := by decide +kernel
theorem dX1_readKey_57 : decode cX1_readKey 57 = .ok (.goto 9, 3) := by decide +kernel
theorem dX1_readKey_60 : decode cX1_readKey 60 = .ok (.aload_n 0, 1) := by decide +kernel
theorem dX1_readKey_61 : decode cX1_readKey 61 = .ok (.iconst 1, 1) := by decide +kernel
theorem dX1_readKey_62 : decode cX1_readKey 62 = .ok (.putfield 32, 3) := by decide +kernel
theorem dX1_readKey_65 : decode cX1_readKey 65 = .ok (.return_, 1) := by decide +kernel
theorem dX1_readKey_66 : decode cX1_readKey 66 = .ok (.aload_n 0, 1) := by decide +kernel
theorem dX1_readKey_67 : decode cX1_readKey 67 = .ok (.invokevirtual 51, 3) := by decide +kernel
theorem dX1_readKey_70 : decode cX1_readKey 70 = .ok (.return_, 1) := by decide +kernel
theorem dX1_isWord_0 : decode cX1_isWord 0 = .ok (.aload_n 0, 1) := by decide +kernel
theorem dX1_isWord_1 : decode cX1_isWord 1 = .ok (.getfield 22, 3) := by decide +kernel
theorem dX1_isWord_4 : decode cX1_isWord 4 = .ok (.aload_n 0, 1) := by decide +kernel
theorem dX1_isWord_5 : decode cX1_isWord 5 = .ok (.getfield 18, 3) := by decide +kernel
theorem dX1_isWord_8 : decode cX1_isWord 8 = .ok (.isub, 1) := by decide +kernel
theorem dX1_isWord_9 : decode cX1_isWord 9 = .ok (.aload_n 1, 1) := by decide +kernel
theorem dX1_isWord_10 : decode cX1_isWord 10 = .ok (.invokevirtual 84, 3) := by decide +kernel
theorem dX1_isWord_13 : decode cX1_isWord 13 = .ok (.if_icmp .eq 5, 3) := by decide +kernel
theorem dX1_isWord_16 : decode cX1_isWord 16 = .ok (.iconst 0, 1) := by decide +kernel
theorem dX1_isWord_17 : decode cX1_isWord 17 = .ok (.ireturn, 1) := by decide +kernel
theorem dX1_isWord_18 : decode cX1_isWord 18 = .ok (.iconst 0, 1) := by decide +kernel
theorem dX1_isWord_19 : decode cX1_isWord 19 = .ok (.istore_n 2, 1) := by decide +kernel
theorem dX1_isWord_20 : decode cX1_isWord 20 = .ok (.iload_n 2, 1) := by decide +kernel
theorem dX1_isWord_21 : decode cX1_isWord 21 = .ok (.aload_n 1, 1) := by decide +kernel
theorem dX1_isWord_22 : decode cX1_isWord 22 = .ok (.invokevirtual 84, 3) := by decide +kernel
theorem dX1_isWord_25 : decode cX1_isWord 25 = .ok (.if_icmp .ge 32, 3) := by decide +kernel
theorem dX1_isWord_28 : decode cX1_isWord 28 = .ok (.aload_n 0, 1) := by decide +kernel
theorem dX1_isWord_29 : decode cX1_isWord 29 = .ok (.getfield 41, 3) := by decide +kernel
theorem dX1_isWord_32 : decode cX1_isWord 32 = .ok (.aload_n 0, 1) := by decide +kernel
theorem dX1_isWord_33 : decode cX1_isWord 33 = .ok (.getfield 18, 3) := by decide +kernel
theorem dX1_isWord_36 : decode cX1_isWord 36 = .ok (.iload_n 2, 1) := by decide +kernel
theorem dX1_isWord_37 : decode cX1_isWord 37 = .ok (.iadd, 1) := by decide +kernel
theorem dX1_isWord_38 : decode cX1_isWord 38 = .ok (.invokevirtual 64, 3) := by decide +kernel
theorem dX1_isWord_41 : decode cX1_isWord 41 = .ok (.aload_n 1, 1) := by decide +kernel
theorem dX1_isWord_42 : decode cX1_isWord 42 = .ok (.iload_n 2, 1) := by decide +kernel
theorem dX1_isWord_43 : decode cX1_isWord 43 = .ok (.invokevirtual 89, 3) := by decide +kernel
theorem dX1_isWord_46 : decode cX1_isWord 46 = .ok (.if_icmp .eq 5, 3) := by decide +kernel
theorem dX1_isWord_49 : decode cX1_isWord 49 = .ok (.iconst 0, 1) := by decide +kernel
theorem dX1_isWord_50 : decode cX1_isWord 50 = .ok (.ireturn, 1) := by decide +kernel
theorem dX1_isWord_51 : decode cX1_isWord 51 = .ok (.iinc 2 1, 3) := by decide +kernel
theorem dX1_isWord_54 : decode cX1_isWord 54 = .ok (.goto (-34), 3) := by decide +kernel
theorem dX1_isWord_57 : decode cX1_isWord 57 = .ok (.iconst 1, 1) := by decide +kernel
theorem dX1_isWord_58 : decode cX1_isWord 58 = .ok (.ireturn, 1) := by decide +kernel
theorem dX1_level_0 : decode cX1_level 0 = .ok (.iload_n 1, 1) := by decide +kernel
theorem dX1_level_1 : decode cX1_level 1 = .ok (.iconst 5, 1) := by decide +kernel
theorem dX1_level_2 : decode cX1_level 2 = .ok (.if_icmp .lt 8, 3) := by decide +kernel
theorem dX1_level_5 : decode cX1_level 5 = .ok (.aload_n 0, 1) := by decide +kernel
theorem dX1_level_6 : decode cX1_level 6 = .ok (.invokevirtual 93, 3) := by decide +kernel
theorem dX1_level_9 : decode cX1_level 9 = .ok (.return_, 1) := by decide +kernel
theorem dX1_level_10 : decode cX1_level 10 = .ok (.aload_n 0, 1) := by decide +kernel
theorem dX1_level_11 : decode cX1_level 11 = .ok (.iload_n 1, 1) := by decide +kernel
theorem dX1_level_12 : decode cX1_level 12 = .ok (.iconst 1, 1) := by decide +kernel
theorem dX1_level_13 : decode cX1_level 13 = .ok (.iadd, 1) := by decide +kernel
theorem dX1_level_14 : decode cX1_level 14 = .ok (.invokevirtual 57, 3) := by decide +kernel
theorem dX1_level_17 : decode cX1_level 17 = .ok (.iload_n 1, 1) := by decide +kernel
theorem dX1_level_18 : decode cX1_level 18 = .ok (.iconst 2, 1) := by decide +kernel
theorem dX1_level_19 : decode cX1_level 19 = .ok (.if_icmp .ne 7, 3) := by decide +kernel
theorem dX1_level_22 : decode cX1_level 22 = .ok (.iconst 1, 1) := by decide +kernel
theorem dX1_level_23 : decode cX1_level 23 = .ok (.goto 5, 3) := by decide +kernel
theorem dX1_level_26 : decode cX1_level 26 = .ok (.bipush 96, 2) := by decide +kernel
theorem dX1_level_28 : decode cX1_level 28 = .ok (.istore_n 2, 1) := by decide +kernel
theorem dX1_level_29 : decode cX1_level 29 = .ok (.iconst 0, 1) := by decide +kernel
theorem dX1_level_30 : decode cX1_level 30 = .ok (.istore_n 3, 1) := by decide +kernel
theorem dX1_level_31 : decode cX1_level 31 = .ok (.iload_n 3, 1) := by decide +kernel
theorem dX1_level_32 : decode cX1_level 32 = .ok (.iload_n 2, 1) := by decide +kernel
theorem dX1_level_33 : decode cX1_level 33 = .ok (.if_icmp .ge 57, 3) := by decide +kernel
theorem dX1_level_36 : decode cX1_level 36 = .ok (.aload_n 0, 1) := by decide +kernel
theorem dX1_level_37 : decode cX1_level 37 = .ok (.getfield 32, 3) := by decide +kernel
theorem dX1_level_40 : decode cX1_level 40 = .ok (.ifCond .ne 50, 3) := by decide +kernel
theorem dX1_level_43 : decode cX1_level 43 = .ok (.aload_n 0, 1) := by decide +kernel
theorem dX1_level_44 : decode cX1_level 44 = .ok (.invokevirtual 96, 3) := by decide +kernel
theorem dX1_level_47 : decode cX1_level 47 = .ok (.invokestatic 99, 3) := by decide +kernel
theorem dX1_level_50 : decode cX1_level 50 = .ok (.iload_n 1, 1) := by decide +kernel
theorem dX1_level_51 : decode cX1_level 51 = .ok (.if_icmp .ne 39, 3) := by decide +kernel
theorem dX1_level_54 : decode cX1_level 54 = .ok (.aload_n 0, 1) := by decide +kernel
theorem dX1_level_55 : decode cX1_level 55 = .ok (.invokevirtual 96, 3) := by decide +kernel
theorem dX1_level_58 : decode cX1_level 58 = .ok (.istore 4, 2) := by decide +kernel
theorem dX1_level_60 : decode cX1_level 60 = .ok (.aload_n 0, 1) := by decide +kernel
theorem dX1_level_61 : decode cX1_level 61 = .ok (.invokevirtual 51, 3) := by decide +kernel
theorem dX1_level_64 : decode cX1_level 64 = .ok (.aload_n 0, 1) := by decide +kernel
theorem dX1_level_65 : decode cX1_level 65 = .ok (.iload_n 1, 1) := by decide +kernel
theorem dX1_level_66 : decode cX1_level 66 = .ok (.iconst 1, 1) := by decide +kernel
theorem dX1_level_67 : decode cX1_level 67 = .ok (.iadd, 1) := by decide +kernel
theorem dX1_level_68 : decode cX1_level 68 = .ok (.invokevirtual 57, 3) := by decide +kernel
theorem dX1_level_71 : decode cX1_level 71 = .ok (.aload_n 0, 1) := by decide +kernel
theorem dX1_level_72 : decode cX1_level 72 = .ok (.getfield 12, 3) := by decide +kernel
theorem dX1_level_75 : decode cX1_level 75 = .ok (.sipush 20000, 3) := by decide +kernel
theorem dX1_level_78 : decode cX1_level 78 = .ok (.iload 4, 2) := by decide +kernel
theorem dX1_level_80 : decode cX1_level 80 = .ok (.iadd, 1) := by decide +kernel
theorem dX1_level_81 : decode cX1_level 81 = .ok (.invokevirtual 102, 3) := by decide +kernel
theorem dX1_level_84 : decode cX1_level 84 = .ok (.iinc 3 1, 3) := by decide +kernel
theorem dX1_level_87 : decode cX1_level 87 = .ok (.goto (-56), 3) := by decide +kernel
theorem dX1_level_90 : decode cX1_level 90 = .ok (.return_, 1) := by decide +kernel
theorem dX1_levelOf_0 : decode cX1_levelOf 0 = .ok (.iload_n 0, 1) := by decide +kernel
theorem dX1_levelOf_1 : decode cX1_levelOf 1 = .ok (.lookupswitch 93 #[(38, 85), (42, 91), (43, 89), (45, 89), (47, 91), (60, 87), (61, 87), (62, 87), (124, 83)], 83) := by decide +kernel
theorem dX1_levelOf_84 : decode cX1_levelOf 84 = .ok (.iconst 0, 1) := by decide +kernel
theorem dX1_levelOf_85 : decode cX1_levelOf 85 = .ok (.ireturn, 1) := by decide +kernel
theorem dX1_levelOf_86 : decode cX1_levelOf 86 = .ok (.iconst 1, 1) := by decide +kernel
theorem dX1_levelOf_87 : decode cX1_levelOf 87 = .ok (.ireturn, 1) := by decide +kernel
theorem dX1_levelOf_88 : decode cX1_levelOf 88 = .ok (.iconst 2, 1) := by decide +kernel
theorem dX1_levelOf_89 : decode cX1_levelOf 89 = .ok (.ireturn, 1) := by decide +kernel
theorem dX1_levelOf_90 : decode cX1_levelOf 90 = .ok (.iconst 3, 1) := by decide +kernel
theorem dX1_levelOf_91 : decode cX1_levelOf 91 = .ok (.ireturn, 1) := by decide +kernel
theorem dX1_levelOf_92 : decode cX1_levelOf 92 = .ok (.iconst 4, 1) := by decide +kernel
theorem dX1_levelOf_93 : decode cX1_levelOf 93 = .ok (.ireturn, 1) := by decide +kernel
theorem dX1_levelOf_94 : decode cX1_levelOf 94 = .ok (.iconst (-1), 1) := by decide +kernel
theorem dX1_levelOf_95 : decode cX1_levelOf 95 = .ok (.ireturn, 1) := by decide +kernel
theorem dX1_sign_0 : decode cX1_sign 0 = .ok (.aload_n 0, 1) := by decide +kernel
theorem dX1_sign_1 : decode cX1_sign 1 = .ok (.getfield 25, 3) := by decide +kernel
theorem dX1_sign_4 : decode cX1_sign 4 = .ok (.iconst 3, 1) := by decide +kernel
theorem dX1_sign_5 : decode cX1_sign 5 = .ok (.if_icmp .ne 17, 3) := by decide +kernel
theorem dX1_sign_8 : decode cX1_sign 8 = .ok (.aload_n 0, 1) := by decide +kernel
theorem dX1_sign_9 : decode cX1_sign 9 = .ok (.getfield 41, 3) := by decide +kernel
theorem dX1_sign_12 : decode cX1_sign 12 = .ok (.aload_n 0, 1) := by decide +kernel
theorem dX1_sign_13 : decode cX1_sign 13 = .ok (.getfield 18, 3) := by decide +kernel
theorem dX1_sign_16 : decode cX1_sign 16 = .ok (.invokevirtual 64, 3) := by decide +kernel
theorem dX1_sign_19 : decode cX1_sign 19 = .ok (.goto 4, 3) := by decide +kernel
theorem dX1_sign_22 : decode cX1_sign 22 = .ok (.iconst (-1), 1) := by decide +kernel
theorem dX1_sign_23 : decode cX1_sign 23 = .ok (.ireturn, 1) := by decide +kernel
theorem dX1_piece_0 : decode cX1_piece 0 = .ok (.aload_n 0, 1) := by decide +kernel
theorem dX1_piece_1 : decode cX1_piece 1 = .ok (.getfield 28, 3) := by decide +kernel
theorem dX1_piece_4 : decode cX1_piece 4 = .ok (.ifCond .eq 11, 3) := by decide +kernel
theorem dX1_piece_7 : decode cX1_piece 7 = .ok (.aload_n 0, 1) := by decide +kernel
theorem dX1_piece_8 : decode cX1_piece 8 = .ok (.iconst 1, 1) := by decide +kernel
theorem dX1_piece_9 : decode cX1_piece 9 = .ok (.putfield 32, 3) := by decide +kernel
theorem dX1_piece_12 : decode cX1_piece 12 = .ok (.goto 70, 3) := by decide +kernel
theorem dX1_piece_15 : decode cX1_piece 15 = .ok (.aload_n 0, 1) := by decide +kernel
theorem dX1_piece_16 : decode cX1_piece 16 = .ok (.getfield 25, 3) := by decide +kernel
theorem dX1_piece_19 : decode cX1_piece 19 = .ok (.iconst 2, 1) := by decide +kernel
theorem dX1_piece_20 : decode cX1_piece 20 = .ok (.if_icmp .ne 10, 3) := by decide +kernel
theorem dX1_piece_23 : decode cX1_piece 23 = .ok (.aload_n 0, 1) := by decide +kernel
theorem dX1_piece_24 : decode cX1_piece 24 = .ok (.invokevirtual 105, 3) := by decide +kernel
theorem dX1_piece_27 : decode cX1_piece 27 = .ok (.goto 55, 3) := by decide +kernel
theorem dX1_piece_30 : decode cX1_piece 30 = .ok (.aload_n 0, 1) := by decide +kernel
theorem dX1_piece_31 : decode cX1_piece 31 = .ok (.getfield 25, 3) := by decide +kernel
theorem dX1_piece_34 : decode cX1_piece 34 = .ok (.iconst 1, 1) := by decide +kernel
theorem dX1_piece_35 : decode cX1_piece 35 = .ok (.if_icmp .ne 10, 3) := by decide +kernel
theorem dX1_piece_38 : decode cX1_piece 38 = .ok (.aload_n 0, 1) := by decide +kernel
theorem dX1_piece_39 : decode cX1_piece 39 = .ok (.invokevirtual 108, 3) := by decide +kernel
theorem dX1_piece_42 : decode cX1_piece 42 = .ok (.goto 40, 3) := by decide +kernel
theorem dX1_piece_45 : decode cX1_piece 45 = .ok (.aload_n 0, 1) := by decide +kernel
theorem dX1_piece_46 : decode cX1_piece 46 = .ok (.invokevirtual 96, 3) := by decide +kernel
theorem dX1_piece_49 : decode cX1_piece 49 = .ok (.bipush 33, 2) := by decide +kernel
theorem dX1_piece_51 : decode cX1_piece 51 = .ok (.if_icmp .ne 10, 3) := by decide +kernel
theorem dX1_piece_54 : decode cX1_piece 54 = .ok (.aload_n 0, 1) := by decide +kernel
theorem dX1_piece_55 : decode cX1_piece 55 = .ok (.invokevirtual 111, 3) := by decide +kernel
theorem dX1_piece_58 : decode cX1_piece 58 = .ok (.goto 24, 3) := by decide +kernel
theorem dX1_piece_61 : decode cX1_piece 61 = .ok (.aload_n 0, 1) := by decide +kernel
theorem dX1_piece_62 : decode cX1_piece 62 = .ok (.invokevirtual 96, 3) := by decide +kernel
theorem dX1_piece_65 : decode cX1_piece 65 = .ok (.bipush 40, 2) := by decide +kernel
theorem dX1_piece_67 : decode cX1_piece 67 = .ok (.if_icmp .ne 10, 3) := by decide +kernel
theorem dX1_piece_70 : decode cX1_piece 70 = .ok (.aload_n 0, 1) := by decide +kernel
theorem dX1_piece_71 : decode cX1_piece 71 = .ok (.invokevirtual 114, 3) := by decide +kernel
theorem dX1_piece_74 : decode cX1_piece 74 = .ok (.goto 8, 3) := by decide +kernel
theorem dX1_piece_77 : decode cX1_piece 77 = .ok (.aload_n 0, 1) := by decide +kernel
theorem dX1_piece_78 : decode cX1_piece 78 = .ok (.iconst 1, 1) := by decide +kernel
theorem dX1_piece_79 : decode cX1_piece 79 = .ok (.putfield 32, 3) := by decide +kernel
theorem dX1_piece_82 : decode cX1_piece 82 = .ok (.return_, 1) := by decide +kernel
theorem dX1_readNumber_0 : decode cX1_readNumber 0 = .ok (.aload_n 0, 1) := by decide +kernel
theorem dX1_readNumber_1 : decode cX1_readNumber 1 = .ok (.getfield 22, 3) := by decide +kernel
theorem dX1_readNumber_4 : decode cX1_readNumber 4 = .ok (.aload_n 0, 1) := by decide +kernel
theorem dX1_readNumber_5 : decode cX1_readNumber 5 = .ok (.getfield 18, 3) := by decide +kernel
theorem dX1_readNumber_8 : decode cX1_readNumber 8 = .ok (.isub, 1) := by decide +kernel
theorem dX1_readNumber_9 : decode cX1_readNumber 9 = .ok (.iconst 4, 1) := by decide +kernel
theorem dX1_readNumber_10 : decode cX1_readNumber 10 = .ok (.if_icmp .le 9, 3) := by decide +kernel
theorem dX1_readNumber_13 : decode cX1_readNumber 13 = .ok (.aload_n 0, 1) := by decide +kernel
theorem dX1_readNumber_14 : decode cX1_readNumber 14 = .ok (.iconst 1, 1) := by decide +kernel
theorem dX1_readNumber_15 : decode cX1_readNumber 15 = .ok (.putfield 32, 3) := by decide +kernel
theorem dX1_readNumber_18 : decode cX1_readNumber 18 = .ok (.return_, 1) := by decide +kernel
theorem dX1_readNumber_19 : decode cX1_readNumber 19 = .ok (.iconst 0, 1) := by decide +kernel
theorem dX1_readNumber_20 : decode cX1_readNumber 20 = .ok (.istore_n 1, 1) := by decide +kernel
theorem dX1_readNumber_21 : decode cX1_readNumber 21 = .ok (.aload_n 0, 1) := by decide +kernel
theorem dX1_readNumber_22 : decode cX1_readNumber 22 = .ok (.getfield 18, 3) := by decide +kernel
theorem dX1_readNumber_25 : decode cX1_readNumber 25 = .ok (.istore_n 2, 1) := by decide +kernel
theorem dX1_readNumber_26 : decode cX1_readNumber 26 = .ok (.iload_n 2, 1) := by decide +kernel
theorem dX1_readNumber_27 : decode cX1_readNumber 27 = .ok (.aload_n 0, 1) := by decide +kernel
theorem dX1_readNumber_28 : decode cX1_readNumber 28 = .ok (.getfield 22, 3) := by decide +kernel
theorem dX1_readNumber_31 : decode cX1_readNumber 31 = .ok (.if_icmp .ge 26, 3) := by decide +kernel
theorem dX1_readNumber_34 : decode cX1_readNumber 34 = .ok (.iload_n 1, 1) := by decide +kernel
theorem dX1_readNumber_35 : decode cX1_readNumber 35 = .ok (.bipush 10, 2) := by decide +kernel
theorem dX1_readNumber_37 : decode cX1_readNumber 37 = .ok (.imul, 1) := by decide +kernel
theorem dX1_readNumber_38 : decode cX1_readNumber 38 = .ok (.aload_n 0, 1) := by decide +kernel
theorem dX1_readNumber_39 : decode cX1_readNumber 39 = .ok (.getfield 41, 3) := by decide +kernel
theorem dX1_readNumber_42 : decode cX1_readNumber 42 = .ok (.iload_n 2, 1) := by decide +kernel
theorem dX1_readNumber_43 : decode cX1_readNumber 43 = .ok (.invokevirtual 64, 3) := by decide +kernel
theorem dX1_readNumber_46 : decode cX1_readNumber 46 = .ok (.iadd, 1) := by decide +kernel
theorem dX1_readNumber_47 : decode cX1_readNumber 47 = .ok (.bipush 48, 2) := by decide +kernel
theorem dX1_readNumber_49 : decode cX1_readNumber 49 = .ok (.isub, 1) := by decide +kernel
theorem dX1_readNumber_50 : decode cX1_readNumber 50 = .ok (.istore_n 1, 1) := by decide +kernel
theorem dX1_readNumber_51 : decode cX1_readNumber 51 = .ok (.iinc 2 1, 3) := by decide +kernel
theorem dX1_readNumber_54 : decode cX1_readNumber 54 = .ok (.goto (-28), 3) := by decide +kernel
theorem dX1_readNumber_57 : decode cX1_readNumber 57 = .ok (.aload_n 0, 1) := by decide +kernel
theorem dX1_readNumber_58 : decode cX1_readNumber 58 = .ok (.getfield 12, 3) := by decide +kernel
theorem dX1_readNumber_61 : decode cX1_readNumber 61 = .ok (.iload_n 1, 1) := by decide +kernel
theorem dX1_readNumber_62 : decode cX1_readNumber 62 = .ok (.invokevirtual 102, 3) := by decide +kernel
theorem dX1_readNumber_65 : decode cX1_readNumber 65 = .ok (.aload_n 0, 1) := by decide +kernel
theorem dX1_readNumber_66 : decode cX1_readNumber 66 = .ok (.invokevirtual 51, 3) := by decide +kernel
theorem dX1_readNumber_69 : decode cX1_readNumber 69 = .ok (.return_, 1) := by decide +kernel
theorem dX1_readName_0 : decode cX1_readName 0 = .ok (.aload_n 0, 1) := by decide +kernel
theorem dX1_readName_1 : decode cX1_readName 1 = .ok (.getfield 22, 3) := by decide +kernel
theorem dX1_readName_4 : decode cX1_readName 4 = .ok (.aload_n 0, 1) := by decide +kernel
theorem dX1_readName_5 : decode cX1_readName 5 = .ok (.getfield 18, 3) := by decide +kernel
theorem dX1_readName_8 : decode cX1_readName 8 = .ok (.isub, 1) := by decide +kernel
theorem dX1_readName_9 : decode cX1_readName 9 = .ok (.iconst 1, 1) := by decide +kernel
theorem dX1_readName_10 : decode cX1_readName 10 = .ok (.if_icmp .ne 31, 3) := by decide +kernel
theorem dX1_readName_13 : decode cX1_readName 13 = .ok (.aload_n 0, 1) := by decide +kernel
theorem dX1_readName_14 : decode cX1_readName 14 = .ok (.getfield 12, 3) := by decide +kernel
theorem dX1_readName_17 : decode cX1_readName 17 = .ok (.getfield 77, 3) := by decide +kernel
theorem dX1_readName_20 : decode cX1_readName 20 = .ok (.invokestatic 117, 3) := by decide +kernel
theorem dX1_readName_23 : decode cX1_readName 23 = .ok (.aload_n 0, 1) := by decide +kernel
theorem dX1_readName_24 : decode cX1_readName 24 = .ok (.getfield 41, 3) := by decide +kernel
theorem dX1_readName_27 : decode cX1_readName 27 = .ok (.aload_n 0, 1) := by decide +kernel
theorem dX1_readName_28 : decode cX1_readName 28 = .ok (.getfield 18, 3) := by decide +kernel
theorem dX1_readName_31 : decode cX1_readName 31 = .ok (.invokevirtual 64, 3) := by decide +kernel
theorem dX1_readName_34 : decode cX1_readName 34 = .ok (.i2c, 1) := by decide +kernel
theorem dX1_readName_35 : decode cX1_readName 35 = .ok (.invokevirtual 121, 3) := by decide +kernel
theorem dX1_readName_38 : decode cX1_readName 38 = .ok (.goto 4, 3) := by decide +kernel
theorem dX1_readName_41 : decode cX1_readName 41 = .ok (.iconst (-1), 1) := by decide +kernel
theorem dX1_readName_42 : decode cX1_readName 42 = .ok (.istore_n 1, 1) := by decide +kernel
theorem dX1_readName_43 : decode cX1_readName 43 = .ok (.iload_n 1, 1) := by decide +kernel
theorem dX1_readName_44 : decode cX1_readName 44 = .ok (.ifCond .ge 9, 3) := by decide +kernel
theorem dX1_readName_47 : decode cX1_readName 47 = .ok (.aload_n 0, 1) := by decide +kernel
theorem dX1_readName_48 : decode cX1_readName 48 = .ok (.iconst 1, 1) := by decide +kernel
theorem dX1_readName_49 : decode cX1_readName 49 = .ok (.putfield 32, 3) := by decide +kernel
theorem dX1_readName_52 : decode cX1_readName 52 = .ok (.return_, 1) := by decide +kernel
theorem dX1_readName_53 : decode cX1_readName 53 = .ok (.aload_n 0, 1) := by decide +kernel
theorem dX1_readName_54 : decode cX1_readName 54 = .ok (.getfield 12, 3) := by decide +kernel
theorem dX1_readName_57 : decode cX1_readName 57 = .ok (.sipush 10000, 3) := by decide +kernel
theorem dX1_readName_60 : decode cX1_readName 60 = .ok (.iload_n 1, 1) := by decide +kernel
theorem dX1_readName_61 : decode cX1_readName 61 = .ok (.iadd, 1) := by decide +kernel
theorem dX1_readName_62 : decode cX1_readName 62 = .ok (.invokevirtual 102, 3) := by decide +kernel
theorem dX1_readName_65 : decode cX1_readName 65 = .ok (.aload_n 0, 1) := by decide +kernel
theorem dX1_readName_66 : decode cX1_readName 66 = .ok (.invokevirtual 51, 3) := by decide +kernel
theorem dX1_readName_69 : decode cX1_readName 69 = .ok (.return_, 1) := by decide +kernel
theorem dX1_lettersOf_0 : decode cX1_lettersOf 0 = .ok (.iload_n 0, 1) := by decide +kernel
theorem dX1_lettersOf_1 : decode cX1_lettersOf 1 = .ok (.lookupswitch 33 #[(0, 27), (1, 30)], 27) := by decide +kernel
theorem dX1_lettersOf_28 : decode cX1_lettersOf 28 = .ok (.ldc 124, 2) := by decide +kernel
theorem dX1_lettersOf_30 : decode cX1_lettersOf 30 = .ok (.areturn, 1) := by decide +kernel
theorem dX1_lettersOf_31 : decode cX1_lettersOf 31 = .ok (.ldc 126, 2) := by decide +kernel
theorem dX1_lettersOf_33 : decode cX1_lettersOf 33 = .ok (.areturn, 1) := by decide +kernel
theorem dX1_lettersOf_34 : decode cX1_lettersOf 34 = .ok (.ldc 128, 2) := by decide +kernel
theorem dX1_lettersOf_36 : decode cX1_lettersOf 36 = .ok (.areturn, 1) := by decide +kernel
theorem dX1_readNot_0 : decode cX1_readNot 0 = .ok (.aload_n 0, 1) := by decide +kernel
theorem dX1_readNot_1 : decode cX1_readNot 1 = .ok (.getfield 38, 3) := by decide +kernel
theorem dX1_readNot_4 : decode cX1_readNot 4 = .ok (.bipush 8, 2) := by decide +kernel
theorem dX1_readNot_6 : decode cX1_readNot 6 = .ok (.if_icmp .lt 9, 3) := by decide +kernel
theorem dX1_readNot_9 : decode cX1_readNot 9 = .ok (.aload_n 0, 1) := by decide +kernel
theorem dX1_readNot_10 : decode cX1_readNot 10 = .ok (.iconst 1, 1) := by decide +kernel
theorem dX1_readNot_11 : decode cX1_readNot 11 = .ok (.putfield 32, 3) := by decide +kernel
theorem dX1_readNot_14 : decode cX1_readNot 14 = .ok (.return_, 1) := by decide +kernel
theorem dX1_readNot_15 : decode cX1_readNot 15 = .ok (.aload_n 0, 1) := by decide +kernel
theorem dX1_readNot_16 : decode cX1_readNot 16 = .ok (.dup, 1) := by decide +kernel
theorem dX1_readNot_17 : decode cX1_readNot 17 = .ok (.getfield 38, 3) := by decide +kernel
theorem dX1_readNot_20 : decode cX1_readNot 20 = .ok (.iconst 1, 1) := by decide +kernel
theorem dX1_readNot_21 : decode cX1_readNot 21 = .ok (.iadd, 1) := by decide +kernel
theorem dX1_readNot_22 : decode cX1_readNot 22 = .ok (.putfield 38, 3) := by decide +kernel
theorem dX1_readNot_25 : decode cX1_readNot 25 = .ok (.aload_n 0, 1) := by decide +kernel
theorem dX1_readNot_26 : decode cX1_readNot 26 = .ok (.invokevirtual 51, 3) := by decide +kernel
theorem dX1_readNot_29 : decode cX1_readNot 29 = .ok (.aload_n 0, 1) := by decide +kernel
theorem dX1_readNot_30 : decode cX1_readNot 30 = .ok (.invokevirtual 93, 3) := by decide +kernel
theorem dX1_readNot_33 : decode cX1_readNot 33 = .ok (.aload_n 0, 1) := by decide +kernel
theorem dX1_readNot_34 : decode cX1_readNot 34 = .ok (.dup, 1) := by decide +kernel
theorem dX1_readNot_35 : decode cX1_readNot 35 = .ok (.getfield 38, 3) := by decide +kernel
theorem dX1_readNot_38 : decode cX1_readNot 38 = .ok (.iconst 1, 1) := by decide +kernel
theorem dX1_readNot_39 : decode cX1_readNot 39 = .ok (.isub, 1) := by decide +kernel
theorem dX1_readNot_40 : decode cX1_readNot 40 = .ok (.putfield 38, 3) := by decide +kernel
theorem dX1_readNot_43 : decode cX1_readNot 43 = .ok (.aload_n 0, 1) := by decide +kernel
theorem dX1_readNot_44 : decode cX1_readNot 44 = .ok (.getfield 12, 3) := by decide +kernel
theorem dX1_readNot_47 : decode cX1_readNot 47 = .ok (.sipush 20033, 3) := by decide +kernel
theorem dX1_readNot_50 : decode cX1_readNot 50 = .ok (.invokevirtual 102, 3) := by decide +kernel
theorem dX1_readNot_53 : decode cX1_readNot 53 = .ok (.return_, 1) := by decide +kernel
theorem dX1_readBracket_0 : decode cX1_readBracket 0 = .ok (.aload_n 0, 1) := by decide +kernel
theorem dX1_readBracket_1 : decode cX1_readBracket 1 = .ok (.getfield 35, 3) := by decide +kernel
theorem dX1_readBracket_4 : decode cX1_readBracket 4 = .ok (.bipush 8, 2) := by decide +kernel
theorem dX1_readBracket_6 : decode cX1_readBracket 6 = .ok (.if_icmp .lt 9, 3) := by decide +kernel
theorem dX1_readBracket_9 : decode cX1_readBracket 9 = .ok (.aload_n 0, 1) := by decide +kernel
theorem dX1_readBracket_10 : decode cX1_readBracket 10 = .ok (.iconst 1, 1) := by decide +kernel
theorem dX1_readBracket_11 : decode cX1_readBracket 11 = .ok (.putfield 32, 3) := by decide +kernel
theorem dX1_readBracket_14 : decode cX1_readBracket 14 = .ok (.return_, 1) := by decide +kernel
theorem dX1_readBracket_15 : decode cX1_readBracket 15 = .ok (.aload_n 0, 1) := by decide +kernel
theorem dX1_readBracket_16 : decode cX1_readBracket 16 = .ok (.dup, 1) := by decide +kernel
theorem dX1_readBracket_17 : decode cX1_readBracket 17 = .ok (.getfield 35, 3) := by decide +kernel
theorem dX1_readBracket_20 : decode cX1_readBracket 20 = .ok (.iconst 1, 1) := by decide +kernel
theorem dX1_readBracket_21 : decode cX1_readBracket 21 = .ok (.iadd, 1) := by decide +kernel
theorem dX1_readBracket_22 : decode cX1_readBracket 22 = .ok (.putfield 35, 3) := by decide +kernel
theorem dX1_readBracket_25 : decode cX1_readBracket 25 = .ok (.aload_n 0, 1) := by decide +kernel
theorem dX1_readBracket_26 : decode cX1_readBracket 26 = .ok (.invokevirtual 51, 3) := by decide +kernel
theorem dX1_readBracket_29 : decode cX1_readBracket 29 = .ok (.aload_n 0, 1) := by decide +kernel
theorem dX1_readBracket_30 : decode cX1_readBracket 30 = .ok (.iconst 0, 1) := by decide +kernel
theorem dX1_readBracket_31 : decode cX1_readBracket 31 = .ok (.invokevirtual 57, 3) := by decide +kernel
theorem dX1_readBracket_34 : decode cX1_readBracket 34 = .ok (.aload_n 0, 1) := by decide +kernel
theorem dX1_readBracket_35 : decode cX1_readBracket 35 = .ok (.dup, 1) := by decide +kernel
theorem dX1_readBracket_36 : decode cX1_readBracket 36 = .ok (.getfield 35, 3) := by decide +kernel
theorem dX1_readBracket_39 : decode cX1_readBracket 39 = .ok (.iconst 1, 1) := by decide +kernel
theorem dX1_readBracket_40 : decode cX1_readBracket 40 = .ok (.isub, 1) := by decide +kernel
theorem dX1_readBracket_41 : decode cX1_readBracket 41 = .ok (.putfield 35, 3) := by decide +kernel
theorem dX1_readBracket_44 : decode cX1_readBracket 44 = .ok (.aload_n 0, 1) := by decide +kernel
theorem dX1_readBracket_45 : decode cX1_readBracket 45 = .ok (.getfield 32, 3) := by decide +kernel
theorem dX1_readBracket_48 : decode cX1_readBracket 48 = .ok (.ifCond .ne 12, 3) := by decide +kernel
theorem dX1_readBracket_51 : decode cX1_readBracket 51 = .ok (.aload_n 0, 1) := by decide +kernel
theorem dX1_readBracket_52 : decode cX1_readBracket 52 = .ok (.invokevirtual 96, 3) := by decide +kernel
theorem dX1_readBracket_55 : decode cX1_readBracket 55 = .ok (.bipush 41, 2) := by decide +kernel
theorem dX1_readBracket_57 : decode cX1_readBracket 57 = .ok (.if_icmp .eq 9, 3) := by decide +kernel
theorem dX1_readBracket_60 : decode cX1_readBracket 60 = .ok (.aload_n 0, 1) := by decide +kernel
theorem dX1_readBracket_61 : decode cX1_readBracket 61 = .ok (.iconst 1, 1) := by decide +kernel
theorem dX1_readBracket_62 : decode cX1_readBracket 62 = .ok (.putfield 32, 3) := by decide +kernel
theorem dX1_readBracket_65 : decode cX1_readBracket 65 = .ok (.return_, 1) := by decide +kernel
theorem dX1_readBracket_66 : decode cX1_readBracket 66 = .ok (.aload_n 0, 1) := by decide +kernel
theorem dX1_readBracket_67 : decode cX1_readBracket 67 = .ok (.invokevirtual 51, 3) := by decide +kernel
theorem dX1_readBracket_70 : decode cX1_readBracket 70 = .ok (.return_, 1) := by decide +kernel
theorem dX2_init_0 : decode cX2_init 0 = .ok (.aload_n 0, 1) := by decide +kernel
theorem dX2_init_1 : decode cX2_init 1 = .ok (.invokespecial 3, 3) := by decide +kernel
theorem dX2_init_4 : decode cX2_init 4 = .ok (.aload_n 0, 1) := by decide +kernel
theorem dX2_init_5 : decode cX2_init 5 = .ok (.iconst (-1), 1) := by decide +kernel
theorem dX2_init_6 : decode cX2_init 6 = .ok (.putfield 9, 3) := by decide +kernel
theorem dX2_init_9 : decode cX2_init 9 = .ok (.aload_n 0, 1) := by decide +kernel
theorem dX2_init_10 : decode cX2_init 10 = .ok (.iconst 0, 1) := by decide +kernel
theorem dX2_init_11 : decode cX2_init 11 = .ok (.putfield 15, 3) := by decide +kernel
theorem dX2_init_14 : decode cX2_init 14 = .ok (.aload_n 0, 1) := by decide +kernel
theorem dX2_init_15 : decode cX2_init 15 = .ok (.bipush 24, 2) := by decide +kernel
theorem dX2_init_17 : decode cX2_init 17 = .ok (.newarray .int, 2) := by decide +kernel
theorem dX2_init_19 : decode cX2_init 19 = .ok (.putfield 18, 3) := by decide +kernel
theorem dX2_init_22 : decode cX2_init 22 = .ok (.return_, 1) := by decide +kernel
theorem dX2_become_0 : decode cX2_become 0 = .ok (.aload_n 0, 1) := by decide +kernel
theorem dX2_become_1 : decode cX2_become 1 = .ok (.iload_n 1, 1) := by decide +kernel
theorem dX2_become_2 : decode cX2_become 2 = .ok (.putfield 9, 3) := by decide +kernel
theorem dX2_become_5 : decode cX2_become 5 = .ok (.aload_n 0, 1) := by decide +kernel
theorem dX2_become_6 : decode cX2_become 6 = .ok (.iload_n 2, 1) := by decide +kernel
theorem dX2_become_7 : decode cX2_become 7 = .ok (.putfield 15, 3) := by decide +kernel
theorem dX2_become_10 : decode cX2_become 10 = .ok (.iconst 0, 1) := by decide +kernel
theorem dX2_become_11 : decode cX2_become 11 = .ok (.istore_n 3, 1) := by decide +kernel
theorem dX2_become_12 : decode cX2_become 12 = .ok (.iload_n 3, 1) := by decide +kernel
theorem dX2_become_13 : decode cX2_become 13 = .ok (.bipush 24, 2) := by decide +kernel
theorem dX2_become_15 : decode cX2_become 15 = .ok (.if_icmp .ge 16, 3) := by decide +kernel
theorem dX2_become_18 : decode cX2_become 18 = .ok (.aload_n 0, 1) := by decide +kernel
theorem dX2_become_19 : decode cX2_become 19 = .ok (.getfield 18, 3) := by decide +kernel
theorem dX2_become_22 : decode cX2_become 22 = .ok (.iload_n 3, 1) := by decide +kernel
theorem dX2_become_23 : decode cX2_become 23 = .ok (.iconst 0, 1) := by decide +kernel
theorem dX2_become_24 : decode cX2_become 24 = .ok (.iastore, 1) := by decide +kernel
theorem dX2_become_25 : decode cX2_become 25 = .ok (.iinc 3 1, 3) := by decide +kernel
theorem dX2_become_28 : decode cX2_become 28 = .ok (.goto (-16), 3) := by decide +kernel
theorem dX2_become_31 : decode cX2_become 31 = .ok (.return_, 1) := by decide +kernel
theorem dX2_become__0 : decode cX2_become_ 0 = .ok (.aload_n 0, 1) := by decide +kernel
theorem dX2_become__1 : decode cX2_become_ 1 = .ok (.aload_n 1, 1) := by decide +kernel
theorem dX2_become__2 : decode cX2_become_ 2 = .ok (.getfield 9, 3) := by decide +kernel
theorem dX2_become__5 : decode cX2_become_ 5 = .ok (.putfield 9, 3) := by decide +kernel
theorem dX2_become__8 : decode cX2_become_ 8 = .ok (.aload_n 0, 1) := by decide +kernel
theorem dX2_become__9 : decode cX2_become_ 9 = .ok (.aload_n 1, 1) := by decide +kernel
theorem dX2_become__10 : decode cX2_become_ 10 = .ok (.getfield 15, 3) := by decide +kernel
theorem dX2_become__13 : decode cX2_become_ 13 = .ok (.putfield 15, 3) := by decide +kernel
theorem dX2_become__16 : decode cX2_become_ 16 = .ok (.aload_n 1, 1) := by decide +kernel
theorem dX2_become__17 : decode cX2_become_ 17 = .ok (.getfield 18, 3) := by decide +kernel
theorem dX2_become__20 : decode cX2_become_ 20 = .ok (.iconst 0, 1) := by decide +kernel
theorem dX2_become__21 : decode cX2_become_ 21 = .ok (.aload_n 0, 1) := by decide +kernel
theorem dX2_become__22 : decode cX2_become_ 22 = .ok (.getfield 18, 3) := by decide +kernel
theorem dX2_become__25 : decode cX2_become_ 25 = .ok (.iconst 0, 1) := by decide +kernel
theorem dX2_become__26 : decode cX2_become_ 26 = .ok (.bipush 24, 2) := by decide +kernel
theorem dX2_become__28 : decode cX2_become_ 28 = .ok (.invokestatic 22, 3) := by decide +kernel
theorem dX2_become__31 : decode cX2_become_ 31 = .ok (.return_, 1) := by decide +kernel
theorem dX2_hasPlace_0 : decode cX2_hasPlace 0 = .ok (.iload_n 1, 1) := by decide +kernel
theorem dX2_hasPlace_1 : decode cX2_hasPlace 1 = .ok (.ifCond .lt 15, 3) := by decide +kernel
theorem dX2_hasPlace_4 : decode cX2_hasPlace 4 = .ok (.iload_n 1, 1) := by decide +kernel
theorem dX2_hasPlace_5 : decode cX2_hasPlace 5 = .ok (.aload_n 0, 1) := by decide +kernel
theorem dX2_hasPlace_6 : decode cX2_hasPlace 6 = .ok (.getfield 15, 3) := by decide +kernel
theorem dX2_hasPlace_9 : decode cX2_hasPlace 9 = .ok (.if_icmp .ge 7, 3) := by decide +kernel
theorem dX2_hasPlace_12 : decode cX2_hasPlace 12 = .ok (.iconst 1, 1) := by decide +kernel
theorem dX2_hasPlace_13 : decode cX2_hasPlace 13 = .ok (.goto 4, 3) := by decide +kernel
theorem dX2_hasPlace_16 : decode cX2_hasPlace 16 = .ok (.iconst 0, 1) := by decide +kernel
theorem dX2_hasPlace_17 : decode cX2_hasPlace 17 = .ok (.ireturn, 1) := by decide +kernel
theorem dX2_hasRun_0 : decode cX2_hasRun 0 = .ok (.iload_n 1, 1) := by decide +kernel
theorem dX2_hasRun_1 : decode cX2_hasRun 1 = .ok (.ifCond .lt 29, 3) := by decide +kernel
theorem dX2_hasRun_4 : decode cX2_hasRun 4 = .ok (.iload_n 2, 1) := by decide +kernel
theorem dX2_hasRun_5 : decode cX2_hasRun 5 = .ok (.ifCond .lt 25, 3) := by decide +kernel
theorem dX2_hasRun_8 : decode cX2_hasRun 8 = .ok (.iload_n 1, 1) := by decide +kernel
theorem dX2_hasRun_9 : decode cX2_hasRun 9 = .ok (.aload_n 0, 1) := by decide +kernel
theorem dX2_hasRun_10 : decode cX2_hasRun 10 = .ok (.getfield 15, 3) := by decide +kernel
theorem dX2_hasRun_13 : decode cX2_hasRun 13 = .ok (.if_icmp .gt 17, 3) := by decide +kernel
theorem dX2_hasRun_16 : decode cX2_hasRun 16 = .ok (.iload_n 2, 1) := by decide +kernel
theorem dX2_hasRun_17 : decode cX2_hasRun 17 = .ok (.aload_n 0, 1) := by decide +kernel
theorem dX2_hasRun_18 : decode cX2_hasRun 18 = .ok (.getfield 15, 3) := by decide +kernel
theorem dX2_hasRun_21 : decode cX2_hasRun 21 = .ok (.iload_n 1, 1) := by decide +kernel
theorem dX2_hasRun_22 : decode cX2_hasRun 22 = .ok (.isub, 1) := by decide +kernel
theorem dX2_hasRun_23 : decode cX2_hasRun 23 = .ok (.if_icmp .gt 7, 3) := by decide +kernel
theorem dX2_hasRun_26 : decode cX2_hasRun 26 = .ok (.iconst 1, 1) := by decide +kernel
theorem dX2_hasRun_27 : decode cX2_hasRun 27 = .ok (.goto 4, 3) := by decide +kernel
theorem dX2_hasRun_30 : decode cX2_hasRun 30 = .ok (.iconst 0, 1) := by decide +kernel
theorem dX2_hasRun_31 : decode cX2_hasRun 31 = .ok (.ireturn, 1) := by decide +kernel
theorem dX3_init_0 : decode cX3_init 0 = .ok (.aload_n 0, 1) := by decide +kernel
theorem dX3_init_1 : decode cX3_init 1 = .ok (.invokespecial 3, 3) := by decide +kernel
theorem dX3_init_4 : decode cX3_init 4 = .ok (.aload_n 0, 1) := by decide +kernel
theorem dX3_init_5 : decode cX3_init 5 = .ok (.iconst 0, 1) := by decide +kernel
theorem dX3_init_6 : decode cX3_init 6 = .ok (.putfield 9, 3) := by decide +kernel
theorem dX3_init_9 : decode cX3_init 9 = .ok (.aload_n 0, 1) := by decide +kernel
theorem dX3_init_10 : decode cX3_init 10 = .ok (.new 15, 3) := by decide +kernel
theorem dX3_init_13 : decode cX3_init 13 = .ok (.dup, 1) := by decide +kernel
theorem dX3_init_14 : decode cX3_init 14 = .ok (.invokespecial 17, 3) := by decide +kernel
theorem dX3_init_17 : decode cX3_init 17 = .ok (.putfield 18, 3) := by decide +kernel
theorem dX3_init_20 : decode cX3_init 20 = .ok (.aload_n 0, 1) := by decide +kernel
theorem dX3_init_21 : decode cX3_init 21 = .ok (.new 22, 3) := by decide +kernel
theorem dX3_init_24 : decode cX3_init 24 = .ok (.dup, 1) := by decide +kernel
theorem dX3_init_25 : decode cX3_init 25 = .ok (.invokespecial 24, 3) := by decide +kernel
theorem dX3_init_28 : decode cX3_init 28 = .ok (.putfield 25, 3) := by decide +kernel
theorem dX3_init_31 : decode cX3_init 31 = .ok (.aload_n 0, 1) := by decide +kernel
theorem dX3_init_32 : decode cX3_init 32 = .ok (.iconst 0, 1) := by decide +kernel
theorem dX3_init_33 : decode cX3_init 33 = .ok (.putfield 29, 3) := by decide +kernel
theorem dX3_init_36 : decode cX3_init 36 = .ok (.return_, 1) := by decide +kernel
theorem dX4_init_0 : decode cX4_init 0 = .ok (.aload_n 0, 1) := by decide +kernel
theorem dX4_init_1 : decode cX4_init 1 = .ok (.invokespecial 3, 3) := by decide +kernel
theorem dX4_init_4 : decode cX4_init 4 = .ok (.aload_n 0, 1) := by decide +kernel
theorem dX4_init_5 : decode cX4_init 5 = .ok (.bipush 96, 2) := by decide +kernel
theorem dX4_init_7 : decode cX4_init 7 = .ok (.newarray .int, 2) := by decide +kernel
theorem dX4_init_9 : decode cX4_init 9 = .ok (.putfield 9, 3) := by decide +kernel
theorem dX4_init_12 : decode cX4_init 12 = .ok (.aload_n 0, 1) := by decide +kernel
theorem dX4_init_13 : decode cX4_init 13 = .ok (.iconst 0, 1) := by decide +kernel
theorem dX4_init_14 : decode cX4_init 14 = .ok (.putfield 15, 3) := by decide +kernel
theorem dX4_init_17 : decode cX4_init 17 = .ok (.return_, 1) := by decide +kernel
theorem dX4_take_0 : decode cX4_take 0 = .ok (.bipush 24, 2) := by decide +kernel
theorem dX4_take_2 : decode cX4_take 2 = .ok (.istore_n 2, 1) := by decide +kernel
theorem dX4_take_3 : decode cX4_take 3 = .ok (.iload_n 2, 1) := by decide +kernel
theorem dX4_take_4 : decode cX4_take 4 = .ok (.ifCond .lt 44, 3) := by decide +kernel
theorem dX4_take_7 : decode cX4_take 7 = .ok (.aload_n 0, 1) := by decide +kernel
theorem dX4_take_8 : decode cX4_take 8 = .ok (.getfield 15, 3) := by decide +kernel
theorem dX4_take_11 : decode cX4_take 11 = .ok (.bipush 96, 2) := by decide +kernel
theorem dX4_take_13 : decode cX4_take 13 = .ok (.if_icmp .ge 35, 3) := by decide +kernel
theorem dX4_take_16 : decode cX4_take 16 = .ok (.aload_n 0, 1) := by decide +kernel
theorem dX4_take_17 : decode cX4_take 17 = .ok (.getfield 9, 3) := by decide +kernel
theorem dX4_take_20 : decode cX4_take 20 = .ok (.aload_n 0, 1) := by decide +kernel
theorem dX4_take_21 : decode cX4_take 21 = .ok (.getfield 15, 3) := by decide +kernel
theorem dX4_take_24 : decode cX4_take 24 = .ok (.iload_n 1, 1) := by decide +kernel
theorem dX4_take_25 : decode cX4_take 25 = .ok (.iload_n 2, 1) := by decide +kernel
theorem dX4_take_26 : decode cX4_take 26 = .ok (.iushr, 1) := by decide +kernel
theorem dX4_take_27 : decode cX4_take 27 = .ok (.sipush 255, 3) := by decide +kernel
theorem dX4_take_30 : decode cX4_take 30 = .ok (.iand, 1) := by decide +kernel
theorem dX4_take_31 : decode cX4_take 31 = .ok (.iastore, 1) := by decide +kernel
theorem dX4_take_32 : decode cX4_take 32 = .ok (.aload_n 0, 1) := by decide +kernel
theorem dX4_take_33 : decode cX4_take 33 = .ok (.dup, 1) := by decide +kernel
theorem dX4_take_34 : decode cX4_take 34 = .ok (.getfield 15, 3) := by decide +kernel
theorem dX4_take_37 : decode cX4_take 37 = .ok (.iconst 1, 1) := by decide +kernel
theorem dX4_take_38 : decode cX4_take 38 = .ok (.iadd, 1) := by decide +kernel
theorem dX4_take_39 : decode cX4_take 39 = .ok (.putfield 15, 3) := by decide +kernel
theorem dX4_take_42 : decode cX4_take 42 = .ok (.iinc 2 (-8), 3) := by decide +kernel
theorem dX4_take_45 : decode cX4_take 45 = .ok (.goto (-42), 3) := by decide +kernel
theorem dX4_take_48 : decode cX4_take 48 = .ok (.return_, 1) := by decide +kernel
theorem dX4_at_0 : decode cX4_at 0 = .ok (.iload_n 1, 1) := by decide +kernel
theorem dX4_at_1 : decode cX4_at 1 = .ok (.ifCond .lt 26, 3) := by decide +kernel
theorem dX4_at_4 : decode cX4_at 4 = .ok (.iload_n 1, 1) := by decide +kernel
theorem dX4_at_5 : decode cX4_at 5 = .ok (.aload_n 0, 1) := by decide +kernel
theorem dX4_at_6 : decode cX4_at 6 = .ok (.getfield 15, 3) := by decide +kernel
theorem dX4_at_9 : decode cX4_at 9 = .ok (.if_icmp .ge 18, 3) := by decide +kernel
theorem dX4_at_12 : decode cX4_at 12 = .ok (.iload_n 1, 1) := by decide +kernel
theorem dX4_at_13 : decode cX4_at 13 = .ok (.bipush 96, 2) := by decide +kernel
theorem dX4_at_15 : decode cX4_at 15 = .ok (.if_icmp .ge 12, 3) := by decide +kernel
theorem dX4_at_18 : decode cX4_at 18 = .ok (.aload_n 0, 1) := by decide +kernel
theorem dX4_at_19 : decode cX4_at 19 = .ok (.getfield 9, 3) := by decide +kernel
theorem dX4_at_22 : decode cX4_at 22 = .ok (.iload_n 1, 1) := by decide +kernel
theorem dX4_at_23 : decode cX4_at 23 = .ok (.iaload, 1) := by decide +kernel
theorem dX4_at_24 : decode cX4_at 24 = .ok (.goto 4, 3) := by decide +kernel
theorem dX4_at_27 : decode cX4_at 27 = .ok (.iconst (-1), 1) := by decide +kernel
theorem dX4_at_28 : decode cX4_at 28 = .ok (.ireturn, 1) := by decide +kernel
theorem dX5_init_0 : decode cX5_init 0 = .ok (.aload_n 0, 1) := by decide +kernel
theorem dX5_init_1 : decode cX5_init 1 = .ok (.invokespecial 3, 3) := by decide +kernel
theorem dX5_init_4 : decode cX5_init 4 = .ok (.aload_n 0, 1) := by decide +kernel
theorem dX5_init_5 : decode cX5_init 5 = .ok (.iconst 0, 1) := by decide +kernel
theorem dX5_init_6 : decode cX5_init 6 = .ok (.putfield 9, 3) := by decide +kernel
theorem dX5_init_9 : decode cX5_init 9 = .ok (.aload_n 0, 1) := by decide +kernel
theorem dX5_init_10 : decode cX5_init 10 = .ok (.iconst 0, 1) := by decide +kernel
theorem dX5_init_11 : decode cX5_init 11 = .ok (.putfield 15, 3) := by decide +kernel
theorem dX5_init_14 : decode cX5_init 14 = .ok (.aload_n 0, 1) := by decide +kernel
theorem dX5_init_15 : decode cX5_init 15 = .ok (.iconst 0, 1) := by decide +kernel
theorem dX5_init_16 : decode cX5_init 16 = .ok (.putfield 18, 3) := by decide +kernel
theorem dX5_init_19 : decode cX5_init 19 = .ok (.aload_n 0, 1) := by decide +kernel
theorem dX5_init_20 : decode cX5_init 20 = .ok (.bipush 96, 2) := by decide +kernel
theorem dX5_init_22 : decode cX5_init 22 = .ok (.newarray .int, 2) := by decide +kernel
theorem dX5_init_24 : decode cX5_init 24 = .ok (.putfield 21, 3) := by decide +kernel
theorem dX5_init_27 : decode cX5_init 27 = .ok (.return_, 1) := by decide +kernel
theorem dX5_add_0 : decode cX5_add 0 = .ok (.aload_n 0, 1) := by decide +kernel
theorem dX5_add_1 : decode cX5_add 1 = .ok (.getfield 18, 3) := by decide +kernel
theorem dX5_add_4 : decode cX5_add 4 = .ok (.bipush 96, 2) := by decide +kernel
theorem dX5_add_6 : decode cX5_add 6 = .ok (.if_icmp .ge 23, 3) := by decide +kernel
theorem dX5_add_9 : decode cX5_add 9 = .ok (.aload_n 0, 1) := by decide +kernel
theorem dX5_add_10 : decode cX5_add 10 = .ok (.getfield 21, 3) := by decide +kernel
theorem dX5_add_13 : decode cX5_add 13 = .ok (.aload_n 0, 1) := by decide +kernel
theorem dX5_add_14 : decode cX5_add 14 = .ok (.getfield 18, 3) := by decide +kernel
theorem dX5_add_17 : decode cX5_add 17 = .ok (.iload_n 1, 1) := by decide +kernel
theorem dX5_add_18 : decode cX5_add 18 = .ok (.iastore, 1) := by decide +kernel
theorem dX5_add_19 : decode cX5_add 19 = .ok (.aload_n 0, 1) := by decide +kernel
theorem dX5_add_20 : decode cX5_add 20 = .ok (.dup, 1) := by decide +kernel
theorem dX5_add_21 : decode cX5_add 21 = .ok (.getfield 18, 3) := by decide +kernel
theorem dX5_add_24 : decode cX5_add 24 = .ok (.iconst 1, 1) := by decide +kernel
theorem dX5_add_25 : decode cX5_add 25 = .ok (.iadd, 1) := by decide +kernel
theorem dX5_add_26 : decode cX5_add 26 = .ok (.putfield 18, 3) := by decide +kernel
theorem dX5_add_29 : decode cX5_add 29 = .ok (.iload_n 1, 1) := by decide +kernel
theorem dX5_add_30 : decode cX5_add 30 = .ok (.sipush 20000, 3) := by decide +kernel
theorem dX5_add_33 : decode cX5_add 33 = .ok (.if_icmp .ge 13, 3) := by decide +kernel
theorem dX5_add_36 : decode cX5_add 36 = .ok (.aload_n 0, 1) := by decide +kernel
theorem dX5_add_37 : decode cX5_add 37 = .ok (.dup, 1) := by decide +kernel
theorem dX5_add_38 : decode cX5_add 38 = .ok (.getfield 15, 3) := by decide +kernel
theorem dX5_add_41 : decode cX5_add 41 = .ok (.iconst 1, 1) := by decide +kernel
theorem dX5_add_42 : decode cX5_add 42 = .ok (.iadd, 1) := by decide +kernel
theorem dX5_add_43 : decode cX5_add 43 = .ok (.putfield 15, 3) := by decide +kernel
theorem dX5_add_46 : decode cX5_add 46 = .ok (.return_, 1) := by decide +kernel
theorem dX5_write_0 : decode cX5_write 0 = .ok (.aload_n 1, 1) := by decide +kernel
theorem dX5_write_1 : decode cX5_write 1 = .ok (.getfield 25, 3) := by decide +kernel
theorem dX5_write_4 : decode cX5_write 4 = .ok (.astore_n 2, 1) := by decide +kernel
theorem dX5_write_5 : decode cX5_write 5 = .ok (.aload_n 0, 1) := by decide +kernel
theorem dX5_write_6 : decode cX5_write 6 = .ok (.aload_n 2, 1) := by decide +kernel
theorem dX5_write_7 : decode cX5_write 7 = .ok (.getfield 9, 3) := by decide +kernel
theorem dX5_write_10 : decode cX5_write 10 = .ok (.putfield 9, 3) := by decide +kernel
theorem dX5_write_13 : decode cX5_write 13 = .ok (.aload_n 0, 1) := by decide +kernel
theorem dX5_write_14 : decode cX5_write 14 = .ok (.aload_n 2, 1) := by decide +kernel
theorem dX5_write_15 : decode cX5_write 15 = .ok (.getfield 15, 3) := by decide +kernel
theorem dX5_write_18 : decode cX5_write 18 = .ok (.putfield 15, 3) := by decide +kernel
theorem dX5_write_21 : decode cX5_write 21 = .ok (.aload_n 0, 1) := by decide +kernel
theorem dX5_write_22 : decode cX5_write 22 = .ok (.aload_n 2, 1) := by decide +kernel
theorem dX5_write_23 : decode cX5_write 23 = .ok (.getfield 18, 3) := by decide +kernel
theorem dX5_write_26 : decode cX5_write 26 = .ok (.putfield 18, 3) := by decide +kernel
theorem dX5_write_29 : decode cX5_write 29 = .ok (.aload_n 2, 1) := by decide +kernel
theorem dX5_write_30 : decode cX5_write 30 = .ok (.getfield 21, 3) := by decide +kernel
theorem dX5_write_33 : decode cX5_write 33 = .ok (.iconst 0, 1) := by decide +kernel
theorem dX5_write_34 : decode cX5_write 34 = .ok (.aload_n 0, 1) := by decide +kernel
theorem dX5_write_35 : decode cX5_write 35 = .ok (.getfield 21, 3) := by decide +kernel
theorem dX5_write_38 : decode cX5_write 38 = .ok (.iconst 0, 1) := by decide +kernel
theorem dX5_write_39 : decode cX5_write 39 = .ok (.aload_n 0, 1) := by decide +kernel
theorem dX5_write_40 : decode cX5_write 40 = .ok (.getfield 18, 3) := by decide +kernel
theorem dX5_write_43 : decode cX5_write 43 = .ok (.invokestatic 31, 3) := by decide +kernel
theorem dX5_write_46 : decode cX5_write 46 = .ok (.return_, 1) := by decide +kernel
theorem dX6_init_0 : decode cX6_init 0 = .ok (.aload_n 0, 1) := by decide +kernel
theorem dX6_init_1 : decode cX6_init 1 = .ok (.invokespecial 3, 3) := by decide +kernel
theorem dX6_init_4 : decode cX6_init 4 = .ok (.aload_n 0, 1) := by decide +kernel
theorem dX6_init_5 : decode cX6_init 5 = .ok (.bipush 14, 2) := by decide +kernel
theorem dX6_init_7 : decode cX6_init 7 = .ok (.anewarray 9, 3) := by decide +kernel
theorem dX6_init_10 : decode cX6_init 10 = .ok (.putfield 11, 3) := by decide +kernel
theorem dX6_init_13 : decode cX6_init 13 = .ok (.aload_n 0, 1) := by decide +kernel
theorem dX6_init_14 : decode cX6_init 14 = .ok (.bipush 96, 2) := by decide +kernel
theorem dX6_init_16 : decode cX6_init 16 = .ok (.newarray .int, 2) := by decide +kernel
theorem dX6_init_18 : decode cX6_init 18 = .ok (.putfield 17, 3) := by decide +kernel
theorem dX6_init_21 : decode cX6_init 21 = .ok (.iconst 0, 1) := by decide +kernel
theorem dX6_init_22 : decode cX6_init 22 = .ok (.istore_n 1, 1) := by decide +kernel
theorem dX6_init_23 : decode cX6_init 23 = .ok (.iload_n 1, 1) := by decide +kernel
theorem dX6_init_24 : decode cX6_init 24 = .ok (.bipush 14, 2) := by decide +kernel
theorem dX6_init_26 : decode cX6_init 26 = .ok (.if_icmp .ge 22, 3) := by decide +kernel
theorem dX6_init_29 : decode cX6_init 29 = .ok (.aload_n 0, 1) := by decide +kernel
theorem dX6_init_30 : decode cX6_init 30 = .ok (.getfield 11, 3) := by decide +kernel
theorem dX6_init_33 : decode cX6_init 33 = .ok (.iload_n 1, 1) := by decide +kernel
theorem dX6_init_34 : decode cX6_init 34 = .ok (.new 9, 3) := by decide +kernel
theorem dX6_init_37 : decode cX6_init 37 = .ok (.dup, 1) := by decide +kernel
theorem dX6_init_38 : decode cX6_init 38 = .ok (.invokespecial 21, 3) := by decide +kernel
theorem dX6_init_41 : decode cX6_init 41 = .ok (.aastore, 1) := by decide +kernel
theorem dX6_init_42 : decode cX6_init 42 = .ok (.iinc 1 1, 3) := by decide +kernel
theorem dX6_init_45 : decode cX6_init 45 = .ok (.goto (-22), 3) := by decide +kernel
theorem dX6_init_48 : decode cX6_init 48 = .ok (.return_, 1) := by decide +kernel
theorem dX6_give_0 : decode cX6_give 0 = .ok (.iload_n 1, 1) := by decide +kernel
theorem dX6_give_1 : decode cX6_give 1 = .ok (.ifCond .lt 9, 3) := by decide +kernel
theorem dX6_give_4 : decode cX6_give 4 = .ok (.iload_n 1, 1) := by decide +kernel
theorem dX6_give_5 : decode cX6_give 5 = .ok (.bipush 14, 2) := by decide +kernel
theorem dX6_give_7 : decode cX6_give 7 = .ok (.if_icmp .lt 5, 3) := by decide +kernel
theorem dX6_give_10 : decode cX6_give 10 = .ok (.iconst 0, 1) := by decide +kernel
theorem dX6_give_11 : decode cX6_give 11 = .ok (.ireturn, 1) := by decide +kernel
theorem dX6_give_12 : decode cX6_give 12 = .ok (.aload_n 0, 1) := by decide +kernel
theorem dX6_give_13 : decode cX6_give 13 = .ok (.getfield 11, 3) := by decide +kernel
theorem dX6_give_16 : decode cX6_give 16 = .ok (.iload_n 1, 1) := by decide +kernel
theorem dX6_give_17 : decode cX6_give 17 = .ok (.aaload, 1) := by decide +kernel
theorem dX6_give_18 : decode cX6_give 18 = .ok (.astore 5, 2) := by decide +kernel
theorem dX6_give_20 : decode cX6_give 20 = .ok (.iconst 0, 1) := by decide +kernel
theorem dX6_give_21 : decode cX6_give 21 = .ok (.istore 6, 2) := by decide +kernel
theorem dX6_give_23 : decode cX6_give 23 = .ok (.iconst 0, 1) := by decide +kernel
theorem dX6_give_24 : decode cX6_give 24 = .ok (.istore 7, 2) := by decide +kernel
theorem dX6_give_26 : decode cX6_give 26 = .ok (.iload 7, 2) := by decide +kernel
theorem dX6_give_28 : decode cX6_give 28 = .ok (.aload 5, 2) := by decide +kernel
theorem dX6_give_30 : decode cX6_give 30 = .ok (.getfield 22, 3) := by decide +kernel
theorem dX6_give_33 : decode cX6_give 33 = .ok (.if_icmp .ge 141, 3) := by decide +kernel
theorem dX6_give_36 : decode cX6_give 36 = .ok (.aload 5, 2) := by decide +kernel
theorem dX6_give_38 : decode cX6_give 38 = .ok (.getfield 26, 3) := by decide +kernel
theorem dX6_give_41 : decode cX6_give 41 = .ok (.iload 7, 2) := by decide +kernel
theorem dX6_give_43 : decode cX6_give 43 = .ok (.iaload, 1) := by decide +kernel
theorem dX6_give_44 : decode cX6_give 44 = .ok (.istore 8, 2) := by decide +kernel
theorem dX6_give_46 : decode cX6_give 46 = .ok (.iload 8, 2) := by decide +kernel
theorem dX6_give_48 : decode cX6_give 48 = .ok (.sipush 20000, 3) := by decide +kernel
theorem dX6_give_51 : decode cX6_give 51 = .ok (.if_icmp .ge 32, 3) := by decide +kernel
theorem dX6_give_54 : decode cX6_give 54 = .ok (.iload 6, 2) := by decide +kernel
theorem dX6_give_56 : decode cX6_give 56 = .ok (.bipush 96, 2) := by decide +kernel
theorem dX6_give_58 : decode cX6_give 58 = .ok (.if_icmp .ge 110, 3) := by decide +kernel
theorem dX6_give_61 : decode cX6_give 61 = .ok (.aload_n 0, 1) := by decide +kernel
theorem dX6_give_62 : decode cX6_give 62 = .ok (.getfield 17, 3) := by decide +kernel
theorem dX6_give_65 : decode cX6_give 65 = .ok (.iload 6, 2) := by decide +kernel
theorem dX6_give_67 : decode cX6_give 67 = .ok (.iload 8, 2) := by decide +kernel
theorem dX6_give_69 : decode cX6_give 69 = .ok (.iload_n 2, 1) := by decide +kernel
theorem dX6_give_70 : decode cX6_give 70 = .ok (.iload_n 3, 1) := by decide +kernel
theorem dX6_give_71 : decode cX6_give 71 = .ok (.iload 4, 2) := by decide +kernel
theorem dX6_give_73 : decode cX6_give 73 = .ok (.invokestatic 29, 3) := by decide +kernel
theorem dX6_give_76 : decode cX6_give 76 = .ok (.iastore, 1) := by decide +kernel
theorem dX6_give_77 : decode cX6_give 77 = .ok (.iinc 6 1, 3) := by decide +kernel
theorem dX6_give_80 : decode cX6_give 80 = .ok (.goto 88, 3) := by decide +kernel
theorem dX6_give_83 : decode cX6_give 83 = .ok (.iload 8, 2) := by decide +kernel
theorem dX6_give_85 : decode cX6_give 85 = .ok (.sipush 20033, 3) := by decide +kernel
theorem dX6_give_88 : decode cX6_give 88 = .ok (.if_icmp .ne 37, 3) := by decide +kernel
theorem dX6_give_91 : decode cX6_give 91 = .ok (.iload 6, 2) := by decide +kernel
theorem dX6_give_93 : decode cX6_give 93 = .ok (.ifCond .le 75, 3) := by decide +kernel
theorem dX6_give_96 : decode cX6_give 96 = .ok (.aload_n 0, 1) := by decide +kernel
theorem dX6_give_97 : decode cX6_give 97 = .ok (.getfield 17, 3) := by decide +kernel
theorem dX6_give_100 : decode cX6_give 100 = .ok (.iload 6, 2) := by decide +kernel
theorem dX6_give_102 : decode cX6_give 102 = .ok (.iconst 1, 1) := by decide +kernel
theorem dX6_give_103 : decode cX6_give 103 = .ok (.isub, 1) := by decide +kernel
theorem dX6_give_104 : decode cX6_give 104 = .ok (.aload_n 0, 1) := by decide +kernel
theorem dX6_give_105 : decode cX6_give 105 = .ok (.getfield 17, 3) := by decide +kernel
theorem dX6_give_108 : decode cX6_give 108 = .ok (.iload 6, 2) := by decide +kernel
theorem dX6_give_110 : decode cX6_give 110 = .ok (.iconst 1, 1) := by decide +kernel
theorem dX6_give_111 : decode cX6_give 111 = .ok (.isub, 1) := by decide +kernel
theorem dX6_give_112 : decode cX6_give 112 = .ok (.iaload, 1) := by decide +kernel
theorem dX6_give_113 : decode cX6_give 113 = .ok (.ifCond .ne 7, 3) := by decide +kernel
theorem dX6_give_116 : decode cX6_give 116 = .ok (.iconst 1, 1) := by decide +kernel
theorem dX6_give_117 : decode cX6_give 117 = .ok (.goto 4, 3) := by decide +kernel
theorem dX6_give_120 : decode cX6_give 120 = .ok (.iconst 0, 1) := by decide +kernel
theorem dX6_give_121 : decode cX6_give 121 = .ok (.iastore, 1) := by decide +kernel
theorem dX6_give_122 : decode cX6_give 122 = .ok (.goto 46, 3) := by decide +kernel
theorem dX6_give_125 : decode cX6_give 125 = .ok (.iload 6, 2) := by decide +kernel
theorem dX6_give_127 : decode cX6_give 127 = .ok (.iconst 1, 1) := by decide +kernel
theorem dX6_give_128 : decode cX6_give 128 = .ok (.if_icmp .le 40, 3) := by decide +kernel
theorem dX6_give_131 : decode cX6_give 131 = .ok (.iinc 6 (-1), 3) := by decide +kernel
theorem dX6_give_134 : decode cX6_give 134 = .ok (.aload_n 0, 1) := by decide +kernel
theorem dX6_give_135 : decode cX6_give 135 = .ok (.getfield 17, 3) := by decide +kernel
theorem dX6_give_138 : decode cX6_give 138 = .ok (.iload 6, 2) := by decide +kernel
theorem dX6_give_140 : decode cX6_give 140 = .ok (.iconst 1, 1) := by decide +kernel
theorem dX6_give_141 : decode cX6_give 141 = .ok (.isub, 1) := by decide +kernel
theorem dX6_give_142 : decode cX6_give 142 = .ok (.iload 8, 2) := by decide +kernel
theorem dX6_give_144 : decode cX6_give 144 = .ok (.sipush 20000, 3) := by decide +kernel
theorem dX6_give_147 : decode cX6_give 147 = .ok (.isub, 1) := by decide +kernel
theorem dX6_give_148 : decode cX6_give 148 = .ok (.aload_n 0, 1) := by decide +kernel
theorem dX6_give_149 : decode cX6_give 149 = .ok (.getfield 17, 3) := by decide +kernel
theorem dX6_give_152 : decode cX6_give 152 = .ok (.iload 6, 2) := by decide +kernel
theorem dX6_give_154 : decode cX6_give 154 = .ok (.iconst 1, 1) := by decide +kernel
theorem dX6_give_155 : decode cX6_give 155 = .ok (.isub, 1) := by decide +kernel
theorem dX6_give_156 : decode cX6_give 156 = .ok (.iaload, 1) := by decide +kernel
theorem dX6_give_157 : decode cX6_give 157 = .ok (.aload_n 0, 1) := by decide +kernel
theorem dX6_give_158 : decode cX6_give 158 = .ok (.getfield 17, 3) := by decide +kernel
theorem dX6_give_161 : decode cX6_give 161 = .ok (.iload 6, 2) := by decide +kernel
theorem dX6_give_163 : decode cX6_give 163 = .ok (.iaload, 1) := by decide +kernel
theorem dX6_give_164 : decode cX6_give 164 = .ok (.invokestatic 33, 3) := by decide +kernel
theorem dX6_give_167 : decode cX6_give 167 = .ok (.iastore, 1) := by decide +kernel
theorem dX6_give_168 : decode cX6_give 168 = .ok (.iinc 7 1, 3) := by decide +kernel
theorem dX6_give_171 : decode cX6_give 171 = .ok (.goto (-145), 3) := by decide +kernel
theorem dX6_give_174 : decode cX6_give 174 = .ok (.aload_n 0, 1) := by decide +kernel
theorem dX6_give_175 : decode cX6_give 175 = .ok (.getfield 17, 3) := by decide +kernel
theorem dX6_give_178 : decode cX6_give 178 = .ok (.iconst 0, 1) := by decide +kernel
theorem dX6_give_179 : decode cX6_give 179 = .ok (.iaload, 1) := by decide +kernel
theorem dX6_give_180 : decode cX6_give 180 = .ok (.ireturn, 1) := by decide +kernel
theorem dX6_leaf_0 : decode cX6_leaf 0 = .ok (.iload_n 0, 1) := by decide +kernel
theorem dX6_leaf_1 : decode cX6_leaf 1 = .ok (.tableswitch 33 10000 10002 #[27, 29, 31], 27) := by decide +kernel
theorem dX6_leaf_28 : decode cX6_leaf 28 = .ok (.iload_n 1, 1) := by decide +kernel
theorem dX6_leaf_29 : decode cX6_leaf 29 = .ok (.ireturn, 1) := by decide +kernel
theorem dX6_leaf_30 : decode cX6_leaf 30 = .ok (.iload_n 2, 1) := by decide +kernel
theorem dX6_leaf_31 : decode cX6_leaf 31 = .ok (.ireturn, 1) := by decide +kernel
theorem dX6_leaf_32 : decode cX6_leaf 32 = .ok (.iload_n 3, 1) := by decide +kernel
theorem dX6_leaf_33 : decode cX6_leaf 33 = .ok (.ireturn, 1) := by decide +kernel
theorem dX6_leaf_34 : decode cX6_leaf 34 = .ok (.iload_n 0, 1) := by decide +kernel
theorem dX6_leaf_35 : decode cX6_leaf 35 = .ok (.ireturn, 1) := by decide +kernel
theorem dX6_join_0 : decode cX6_join 0 = .ok (.iload_n 0, 1) := by decide +kernel
theorem dX6_join_1 : decode cX6_join 1 = .ok (.lookupswitch 148 #[(38, 89), (42, 144), (43, 136), (45, 140), (60, 103), (61, 114), (62, 125), (124, 75)], 75) := by decide +kernel
theorem dX6_join_76 : decode cX6_join 76 = .ok (.iload_n 1, 1) := by decide +kernel
theorem dX6_join_77 : decode cX6_join 77 = .ok (.ifCond .ne 7, 3) := by decide +kernel
theorem dX6_join_80 : decode cX6_join 80 = .ok (.iload_n 2, 1) := by decide +kernel
theorem dX6_join_81 : decode cX6_join 81 = .ok (.ifCond .eq 7, 3) := by decide +kernel
theorem dX6_join_84 : decode cX6_join 84 = .ok (.iconst 1, 1) := by decide +kernel
theorem dX6_join_85 : decode cX6_join 85 = .ok (.goto 4, 3) := by decide +kernel
theorem dX6_join_88 : decode cX6_join 88 = .ok (.iconst 0, 1) := by decide +kernel
theorem dX6_join_89 : decode cX6_join 89 = .ok (.ireturn, 1) := by decide +kernel
theorem dX6_join_90 : decode cX6_join 90 = .ok (.iload_n 1, 1) := by decide +kernel
theorem dX6_join_91 : decode cX6_join 91 = .ok (.ifCond .eq 11, 3) := by decide +kernel
theorem dX6_join_94 : decode cX6_join 94 = .ok (.iload_n 2, 1) := by decide +kernel
theorem dX6_join_95 : decode cX6_join 95 = .ok (.ifCond .eq 7, 3) := by decide +kernel
theorem dX6_join_98 : decode cX6_join 98 = .ok (.iconst 1, 1) := by decide +kernel
theorem dX6_join_99 : decode cX6_join 99 = .ok (.goto 4, 3) := by decide +kernel
theorem dX6_join_102 : decode cX6_join 102 = .ok (.iconst 0, 1) := by decide +kernel
theorem dX6_join_103 : decode cX6_join 103 = .ok (.ireturn, 1) := by decide +kernel
theorem dX6_join_104 : decode cX6_join 104 = .ok (.iload_n 1, 1) := by decide +kernel
theorem dX6_join_105 : decode cX6_join 105 = .ok (.iload_n 2, 1) := by decide +kernel
theorem dX6_join_106 : decode cX6_join 106 = .ok (.if_icmp .ge 7, 3) := by decide +kernel
theorem dX6_join_109 : decode cX6_join 109 = .ok (.iconst 1, 1) := by decide +kernel
theorem dX6_join_110 : decode cX6_join 110 = .ok (.goto 4, 3) := by decide +kernel
theorem dX6_join_113 : decode cX6_join 113 = .ok (.iconst 0, 1) := by decide +kernel
theorem dX6_join_114 : decode cX6_join 114 = .ok (.ireturn, 1) := by decide +kernel
theorem dX6_join_115 : decode cX6_join 115 = .ok (.iload_n 1, 1) := by decide +kernel
theorem dX6_join_116 : decode cX6_join 116 = .ok (.iload_n 2, 1) := by decide +kernel
theorem dX6_join_117 : decode cX6_join 117 = .ok (.if_icmp .ne 7, 3) := by decide +kernel
theorem dX6_join_120 : decode cX6_join 120 = .ok (.iconst 1, 1) := by decide +kernel
theorem dX6_join_121 : decode cX6_join 121 = .ok (.goto 4, 3) := by decide +kernel
theorem dX6_join_124 : decode cX6_join 124 = .ok (.iconst 0, 1) := by decide +kernel
theorem dX6_join_125 : decode cX6_join 125 = .ok (.ireturn, 1) := by decide +kernel
theorem dX6_join_126 : decode cX6_join 126 = .ok (.iload_n 1, 1) := by decide +kernel
theorem dX6_join_127 : decode cX6_join 127 = .ok (.iload_n 2, 1) := by decide +kernel
theorem dX6_join_128 : decode cX6_join 128 = .ok (.if_icmp .le 7, 3) := by decide +kernel
theorem dX6_join_131 : decode cX6_join 131 = .ok (.iconst 1, 1) := by decide +kernel
theorem dX6_join_132 : decode cX6_join 132 = .ok (.goto 4, 3) := by decide +kernel
theorem dX6_join_135 : decode cX6_join 135 = .ok (.iconst 0, 1) := by decide +kernel
theorem dX6_join_136 : decode cX6_join 136 = .ok (.ireturn, 1) := by decide +kernel
theorem dX6_join_137 : decode cX6_join 137 = .ok (.iload_n 1, 1) := by decide +kernel
theorem dX6_join_138 : decode cX6_join 138 = .ok (.iload_n 2, 1) := by decide +kernel
theorem dX6_join_139 : decode cX6_join 139 = .ok (.iadd, 1) := by decide +kernel
theorem dX6_join_140 : decode cX6_join 140 = .ok (.ireturn, 1) := by decide +kernel
theorem dX6_join_141 : decode cX6_join 141 = .ok (.iload_n 1, 1) := by decide +kernel
theorem dX6_join_142 : decode cX6_join 142 = .ok (.iload_n 2, 1) := by decide +kernel
theorem dX6_join_143 : decode cX6_join 143 = .ok (.isub, 1) := by decide +kernel
theorem dX6_join_144 : decode cX6_join 144 = .ok (.ireturn, 1) := by decide +kernel
theorem dX6_join_145 : decode cX6_join 145 = .ok (.iload_n 1, 1) := by decide +kernel
theorem dX6_join_146 : decode cX6_join 146 = .ok (.iload_n 2, 1) := by decide +kernel
theorem dX6_join_147 : decode cX6_join 147 = .ok (.imul, 1) := by decide +kernel
theorem dX6_join_148 : decode cX6_join 148 = .ok (.ireturn, 1) := by decide +kernel
theorem dX6_join_149 : decode cX6_join 149 = .ok (.iload_n 2, 1) := by decide +kernel
theorem dX6_join_150 : decode cX6_join 150 = .ok (.ifCond .ne 7, 3) := by decide +kernel
theorem dX6_join_153 : decode cX6_join 153 = .ok (.iconst 0, 1) := by decide +kernel
theorem dX6_join_154 : decode cX6_join 154 = .ok (.goto 6, 3) := by decide +kernel
theorem dX6_join_157 : decode cX6_join 157 = .ok (.iload_n 1, 1) := by decide +kernel
theorem dX6_join_158 : decode cX6_join 158 = .ok (.iload_n 2, 1) := by decide +kernel
theorem dX6_join_159 : decode cX6_join 159 = .ok (.idiv, 1) := by decide +kernel
theorem dX6_join_160 : decode cX6_join 160 = .ok (.ireturn, 1) := by decide +kernel
theorem dX7_init_0 : decode cX7_init 0 = .ok (.aload_n 0, 1) := by decide +kernel
theorem dX7_init_1 : decode cX7_init 1 = .ok (.invokespecial 3, 3) := by decide +kernel
theorem dX7_init_4 : decode cX7_init 4 = .ok (.aload_n 0, 1) := by decide +kernel
theorem dX7_init_5 : decode cX7_init 5 = .ok (.bipush 12, 2) := by decide +kernel
theorem dX7_init_7 : decode cX7_init 7 = .ok (.anewarray 9, 3) := by decide +kernel
theorem dX7_init_10 : decode cX7_init 10 = .ok (.putfield 11, 3) := by decide +kernel
theorem dX7_init_13 : decode cX7_init 13 = .ok (.aload_n 0, 1) := by decide +kernel
theorem dX7_init_14 : decode cX7_init 14 = .ok (.bipush 12, 2) := by decide +kernel
theorem dX7_init_16 : decode cX7_init 16 = .ok (.bipush 100, 2) := by decide +kernel
theorem dX7_init_18 : decode cX7_init 18 = .ok (.multianewarray 17 2, 4) := by decide +kernel
theorem dX7_init_22 : decode cX7_init 22 = .ok (.putfield 19, 3) := by decide +kernel
theorem dX7_init_25 : decode cX7_init 25 = .ok (.aload_n 0, 1) := by decide +kernel
theorem dX7_init_26 : decode cX7_init 26 = .ok (.bipush 12, 2) := by decide +kernel
theorem dX7_init_28 : decode cX7_init 28 = .ok (.newarray .int, 2) := by decide +kernel
theorem dX7_init_30 : decode cX7_init 30 = .ok (.putfield 22, 3) := by decide +kernel
theorem dX7_init_33 : decode cX7_init 33 = .ok (.aload_n 0, 1) := by decide +kernel
theorem dX7_init_34 : decode cX7_init 34 = .ok (.bipush 100, 2) := by decide +kernel
theorem dX7_init_36 : decode cX7_init 36 = .ok (.newarray .int, 2) := by decide +kernel
theorem dX7_init_38 : decode cX7_init 38 = .ok (.putfield 26, 3) := by decide +kernel
theorem dX7_init_41 : decode cX7_init 41 = .ok (.iconst 0, 1) := by decide +kernel
theorem dX7_init_42 : decode cX7_init 42 = .ok (.istore_n 2, 1) := by decide +kernel
theorem dX7_init_43 : decode cX7_init 43 = .ok (.iload_n 2, 1) := by decide +kernel
theorem dX7_init_44 : decode cX7_init 44 = .ok (.bipush 12, 2) := by decide +kernel
theorem dX7_init_46 : decode cX7_init 46 = .ok (.if_icmp .ge 23, 3) := by decide +kernel
theorem dX7_init_49 : decode cX7_init 49 = .ok (.aload_n 0, 1) := by decide +kernel
theorem dX7_init_50 : decode cX7_init 50 = .ok (.getfield 11, 3) := by decide +kernel
theorem dX7_init_53 : decode cX7_init 53 = .ok (.iload_n 2, 1) := by decide +kernel
theorem dX7_init_54 : decode cX7_init 54 = .ok (.new 9, 3) := by decide +kernel
theorem dX7_init_57 : decode cX7_init 57 = .ok (.dup, 1) := by decide +kernel
theorem dX7_init_58 : decode cX7_init 58 = .ok (.aload_n 1, 1) := by decide +kernel
theorem dX7_init_59 : decode cX7_init 59 = .ok (.invokespecial 29, 3) := by decide +kernel
theorem dX7_init_62 : decode cX7_init 62 = .ok (.aastore, 1) := by decide +kernel
theorem dX7_init_63 : decode cX7_init 63 = .ok (.iinc 2 1, 3) := by decide +kernel
theorem dX7_init_66 : decode cX7_init 66 = .ok (.goto (-23), 3) := by decide +kernel
theorem dX7_init_69 : decode cX7_init 69 = .ok (.return_, 1) := by decide +kernel
theorem dX7_begin_0 : decode cX7_begin 0 = .ok (.aload_n 0, 1) := by decide +kernel
theorem dX7_begin_1 : decode cX7_begin 1 = .ok (.getfield 11, 3) := by decide +kernel
theorem dX7_begin_4 : decode cX7_begin 4 = .ok (.iconst 0, 1) := by decide +kernel
theorem dX7_begin_5 : decode cX7_begin 5 = .ok (.aaload, 1) := by decide +kernel
theorem dX7_begin_6 : decode cX7_begin 6 = .ok (.aload_n 1, 1) := by decide +kernel
theorem dX7_begin_7 : decode cX7_begin 7 = .ok (.invokevirtual 32, 3) := by decide +kernel
theorem dX7_begin_10 : decode cX7_begin 10 = .ok (.aload_n 0, 1) := by decide +kernel
theorem dX7_begin_11 : decode cX7_begin 11 = .ok (.getfield 11, 3) := by decide +kernel
theorem dX7_begin_14 : decode cX7_begin 14 = .ok (.iconst 0, 1) := by decide +kernel
theorem dX7_begin_15 : decode cX7_begin 15 = .ok (.aaload, 1) := by decide +kernel
theorem dX7_begin_16 : decode cX7_begin 16 = .ok (.areturn, 1) := by decide +kernel
theorem dX7_ponder_0 : decode cX7_ponder 0 = .ok (.aload_n 0, 1) := by decide +kernel
theorem dX7_ponder_1 : decode cX7_ponder 1 = .ok (.getfield 11, 3) := by decide +kernel
theorem dX7_ponder_4 : decode cX7_ponder 4 = .ok (.iconst 0, 1) := by decide +kernel
theorem dX7_ponder_5 : decode cX7_ponder 5 = .ok (.aaload, 1) := by decide +kernel
theorem dX7_ponder_6 : decode cX7_ponder 6 = .ok (.astore_n 3, 1) := by decide +kernel
theorem dX7_ponder_7 : decode cX7_ponder 7 = .ok (.iconst 0, 1) := by decide +kernel
theorem dX7_ponder_8 : decode cX7_ponder 8 = .ok (.istore 4, 2) := by decide +kernel
theorem dX7_ponder_10 : decode cX7_ponder 10 = .ok (.iconst 0, 1) := by decide +kernel
theorem dX7_ponder_11 : decode cX7_ponder 11 = .ok (.iload_n 1, 1) := by decide +kernel
theorem dX7_ponder_12 : decode cX7_ponder 12 = .ok (.invokestatic 36, 3) := by decide +kernel
theorem dX7_ponder_15 : decode cX7_ponder 15 = .ok (.istore 5, 2) := by decide +kernel
theorem dX7_ponder_17 : decode cX7_ponder 17 = .ok (.iload 5, 2) := by decide +kernel
theorem dX7_ponder_19 : decode cX7_ponder 19 = .ok (.iload_n 2, 1) := by decide +kernel
theorem dX7_ponder_20 : decode cX7_ponder 20 = .ok (.if_icmp .gt 50, 3) := by decide +kernel
theorem dX7_ponder_23 : decode cX7_ponder 23 = .ok (.iload 5, 2) := by decide +kernel
theorem dX7_ponder_25 : decode cX7_ponder 25 = .ok (.bipush 100, 2) := by decide +kernel
theorem dX7_ponder_27 : decode cX7_ponder 27 = .ok (.if_icmp .ge 43, 3) := by decide +kernel
theorem dX7_ponder_30 : decode cX7_ponder 30 = .ok (.aload_n 0, 1) := by decide +kernel
theorem dX7_ponder_31 : decode cX7_ponder 31 = .ok (.getfield 26, 3) := by decide +kernel
theorem dX7_ponder_34 : decode cX7_ponder 34 = .ok (.iload 5, 2) := by decide +kernel
theorem dX7_ponder_36 : decode cX7_ponder 36 = .ok (.aload_n 3, 1) := by decide +kernel
theorem dX7_ponder_37 : decode cX7_ponder 37 = .ok (.getfield 42, 3) := by decide +kernel
theorem dX7_ponder_40 : decode cX7_ponder 40 = .ok (.ifCond .eq 7, 3) := by decide +kernel
theorem dX7_ponder_43 : decode cX7_ponder 43 = .ok (.iconst 0, 1) := by decide +kernel
theorem dX7_ponder_44 : decode cX7_ponder 44 = .ok (.goto 5, 3) := by decide +kernel
theorem dX7_ponder_47 : decode cX7_ponder 47 = .ok (.bipush 13, 2) := by decide +kernel
theorem dX7_ponder_49 : decode cX7_ponder 49 = .ok (.iastore, 1) := by decide +kernel
theorem dX7_ponder_50 : decode cX7_ponder 50 = .ok (.aload_n 0, 1) := by decide +kernel
theorem dX7_ponder_51 : decode cX7_ponder 51 = .ok (.getfield 19, 3) := by decide +kernel
theorem dX7_ponder_54 : decode cX7_ponder 54 = .ok (.iconst 0, 1) := by decide +kernel
theorem dX7_ponder_55 : decode cX7_ponder 55 = .ok (.aaload, 1) := by decide +kernel
theorem dX7_ponder_56 : decode cX7_ponder 56 = .ok (.iload 4, 2) := by decide +kernel
theorem dX7_ponder_58 : decode cX7_ponder 58 = .ok (.iload 5, 2) := by decide +kernel
theorem dX7_ponder_60 : decode cX7_ponder 60 = .ok (.iastore, 1) := by decide +kernel
theorem dX7_ponder_61 : decode cX7_ponder 61 = .ok (.iinc 4 1, 3) := by decide +kernel
theorem dX7_ponder_64 : decode cX7_ponder 64 = .ok (.iinc 5 1, 3) := by decide +kernel
theorem dX7_ponder_67 : decode cX7_ponder 67 = .ok (.goto (-50), 3) := by decide +kernel
theorem dX7_ponder_70 : decode cX7_ponder 70 = .ok (.aload_n 0, 1) := by decide +kernel
theorem dX7_ponder_71 : decode cX7_ponder 71 = .ok (.getfield 22, 3) := by decide +kernel
theorem dX7_ponder_74 : decode cX7_ponder 74 = .ok (.iconst 0, 1) := by decide +kernel
theorem dX7_ponder_75 : decode cX7_ponder 75 = .ok (.iload 4, 2) := by decide +kernel
theorem dX7_ponder_77 : decode cX7_ponder 77 = .ok (.iastore, 1) := by decide +kernel
theorem dX7_ponder_78 : decode cX7_ponder 78 = .ok (.aload_n 3, 1) := by decide +kernel
theorem dX7_ponder_79 : decode cX7_ponder 79 = .ok (.getfield 42, 3) := by decide +kernel
theorem dX7_ponder_82 : decode cX7_ponder 82 = .ok (.ifCond .ne 15, 3) := by decide +kernel
theorem dX7_ponder_85 : decode cX7_ponder 85 = .ok (.aload_n 3, 1) := by decide +kernel
theorem dX7_ponder_86 : decode cX7_ponder 86 = .ok (.getfield 46, 3) := by decide +kernel
theorem dX7_ponder_89 : decode cX7_ponder 89 = .ok (.ifCond .le 8, 3) := by decide +kernel
theorem dX7_ponder_92 : decode cX7_ponder 92 = .ok (.aload_n 0, 1) := by decide +kernel
theorem dX7_ponder_93 : decode cX7_ponder 93 = .ok (.iconst 0, 1) := by decide +kernel
theorem dX7_ponder_94 : decode cX7_ponder 94 = .ok (.invokevirtual 50, 3) := by decide +kernel
theorem dX7_ponder_97 : decode cX7_ponder 97 = .ok (.iconst 0, 1) := by decide +kernel
theorem dX7_ponder_98 : decode cX7_ponder 98 = .ok (.istore 5, 2) := by decide +kernel
theorem dX7_ponder_100 : decode cX7_ponder 100 = .ok (.iconst 0, 1) := by decide +kernel
theorem dX7_ponder_101 : decode cX7_ponder 101 = .ok (.istore 6, 2) := by decide +kernel
theorem dX7_ponder_103 : decode cX7_ponder 103 = .ok (.iload 6, 2) := by decide +kernel
theorem dX7_ponder_105 : decode cX7_ponder 105 = .ok (.iload 4, 2) := by decide +kernel
theorem dX7_ponder_107 : decode cX7_ponder 107 = .ok (.if_icmp .ge 28, 3) := by decide +kernel
theorem dX7_ponder_110 : decode cX7_ponder 110 = .ok (.iload 5, 2) := by decide +kernel
theorem dX7_ponder_112 : decode cX7_ponder 112 = .ok (.aload_n 0, 1) := by decide +kernel
theorem dX7_ponder_113 : decode cX7_ponder 113 = .ok (.getfield 26, 3) := by decide +kernel
theorem dX7_ponder_116 : decode cX7_ponder 116 = .ok (.aload_n 0, 1) := by decide +kernel
theorem dX7_ponder_117 : decode cX7_ponder 117 = .ok (.getfield 19, 3) := by decide +kernel
theorem dX7_ponder_120 : decode cX7_ponder 120 = .ok (.iconst 0, 1) := by decide +kernel
theorem dX7_ponder_121 : decode cX7_ponder 121 = .ok (.aaload, 1) := by decide +kernel
theorem dX7_ponder_122 : decode cX7_ponder 122 = .ok (.iload 6, 2) := by decide +kernel
theorem dX7_ponder_124 : decode cX7_ponder 124 = .ok (.iaload, 1) := by decide +kernel
theorem dX7_ponder_125 : decode cX7_ponder 125 = .ok (.iaload, 1) := by decide +kernel
theorem dX7_ponder_126 : decode cX7_ponder 126 = .ok (.iadd, 1) := by decide +kernel
theorem dX7_ponder_127 : decode cX7_ponder 127 = .ok (.istore 5, 2) := by decide +kernel
theorem dX7_ponder_129 : decode cX7_ponder 129 = .ok (.iinc 6 1, 3) := by decide +kernel
theorem dX7_ponder_132 : decode cX7_ponder 132 = .ok (.goto (-29), 3) := by decide +kernel
theorem dX7_ponder_135 : decode cX7_ponder 135 = .ok (.iload 5, 2) := by decide +kernel
theorem dX7_ponder_137 : decode cX7_ponder 137 = .ok (.ireturn, 1) := by decide +kernel
theorem dX7_branch_0 : decode cX7_branch 0 = .ok (.aload_n 0, 1) := by decide +kernel
theorem dX7_branch_1 : decode cX7_branch 1 = .ok (.getfield 11, 3) := by decide +kernel
theorem dX7_branch_4 : decode cX7_branch 4 = .ok (.iload_n 1, 1) := by decide +kernel
theorem dX7_branch_5 : decode cX7_branch 5 = .ok (.aaload, 1) := by decide +kernel
theorem dX7_branch_6 : decode cX7_branch 6 = .ok (.astore_n 2, 1) := by decide +kernel
theorem dX7_branch_7 : decode cX7_branch 7 = .ok (.aload_n 2, 1) := by decide +kernel
theorem dX7_branch_8 : decode cX7_branch 8 = .ok (.invokevirtual 54, 3) := by decide +kernel
theorem dX7_branch_11 : decode cX7_branch 11 = .ok (.istore_n 3, 1) := by decide +kernel
theorem dX7_branch_12 : decode cX7_branch 12 = .ok (.iload_n 1, 1) := by decide +kernel
theorem dX7_branch_13 : decode cX7_branch 13 = .ok (.iconst 1, 1) := by decide +kernel
theorem dX7_branch_14 : decode cX7_branch 14 = .ok (.iadd, 1) := by decide +kernel
theorem dX7_branch_15 : decode cX7_branch 15 = .ok (.istore 4, 2) := by decide +kernel
theorem dX7_branch_17 : decode cX7_branch 17 = .ok (.iconst 0, 1) := by decide +kernel
theorem dX7_branch_18 : decode cX7_branch 18 = .ok (.istore 5, 2) := by decide +kernel
theorem dX7_branch_20 : decode cX7_branch 20 = .ok (.iload 5, 2) := by decide +kernel
theorem dX7_branch_22 : decode cX7_branch 22 = .ok (.aload_n 0, 1) := by decide +kernel
theorem dX7_branch_23 : decode cX7_branch 23 = .ok (.getfield 22, 3) := by decide +kernel
theorem dX7_branch_26 : decode cX7_branch 26 = .ok (.iload_n 1, 1) := by decide +kernel
theorem dX7_branch_27 : decode cX7_branch 27 = .ok (.iaload, 1) := by decide +kernel
theorem dX7_branch_28 : decode cX7_branch 28 = .ok (.if_icmp .ge 40, 3) := by decide +kernel
theorem dX7_branch_31 : decode cX7_branch 31 = .ok (.aload_n 0, 1) := by decide +kernel
theorem dX7_branch_32 : decode cX7_branch 32 = .ok (.getfield 19, 3) := by decide +kernel
theorem dX7_branch_35 : decode cX7_branch 35 = .ok (.iload_n 1, 1) := by decide +kernel
theorem dX7_branch_36 : decode cX7_branch 36 = .ok (.aaload, 1) := by decide +kernel
theorem dX7_branch_37 : decode cX7_branch 37 = .ok (.iload 5, 2) := by decide +kernel
theorem dX7_branch_39 : decode cX7_branch 39 = .ok (.iaload, 1) := by decide +kernel
theorem dX7_branch_40 : decode cX7_branch 40 = .ok (.istore 6, 2) := by decide +kernel
theorem dX7_branch_42 : decode cX7_branch 42 = .ok (.aload_n 2, 1) := by decide +kernel
theorem dX7_branch_43 : decode cX7_branch 43 = .ok (.iload 6, 2) := by decide +kernel
theorem dX7_branch_45 : decode cX7_branch 45 = .ok (.iload_n 1, 1) := by decide +kernel
theorem dX7_branch_46 : decode cX7_branch 46 = .ok (.invokevirtual 58, 3) := by decide +kernel
theorem dX7_branch_49 : decode cX7_branch 49 = .ok (.iload_n 3, 1) := by decide +kernel
theorem dX7_branch_50 : decode cX7_branch 50 = .ok (.if_icmp .ne 12, 3) := by decide +kernel
theorem dX7_branch_53 : decode cX7_branch 53 = .ok (.aload_n 0, 1) := by decide +kernel
theorem dX7_branch_54 : decode cX7_branch 54 = .ok (.getfield 26, 3) := by decide +kernel
theorem dX7_branch_57 : decode cX7_branch 57 = .ok (.iload 6, 2) := by decide +kernel
theorem dX7_branch_59 : decode cX7_branch 59 = .ok (.iload 4, 2) := by decide +kernel
theorem dX7_branch_61 : decode cX7_branch 61 = .ok (.iastore, 1) := by decide +kernel
theorem dX7_branch_62 : decode cX7_branch 62 = .ok (.iinc 5 1, 3) := by decide +kernel
theorem dX7_branch_65 : decode cX7_branch 65 = .ok (.goto (-45), 3) := by decide +kernel
theorem dX7_branch_68 : decode cX7_branch 68 = .ok (.iload 4, 2) := by decide +kernel
theorem dX7_branch_70 : decode cX7_branch 70 = .ok (.bipush 12, 2) := by decide +kernel
theorem dX7_branch_72 : decode cX7_branch 72 = .ok (.if_icmp .lt 4, 3) := by decide +kernel
theorem dX7_branch_75 : decode cX7_branch 75 = .ok (.return_, 1) := by decide +kernel
theorem dX7_branch_76 : decode cX7_branch 76 = .ok (.iconst (-1), 1) := by decide +kernel
theorem dX7_branch_77 : decode cX7_branch 77 = .ok (.istore 5, 2) := by decide +kernel
theorem dX7_branch_79 : decode cX7_branch 79 = .ok (.iload 5, 2) := by decide +kernel
theorem dX7_branch_81 : decode cX7_branch 81 = .ok (.iconst 1, 1) := by decide +kernel
theorem dX7_branch_82 : decode cX7_branch 82 = .ok (.if_icmp .gt 72, 3) := by decide +kernel
theorem dX7_branch_85 : decode cX7_branch 85 = .ok (.aload_n 0, 1) := by decide +kernel
theorem dX7_branch_86 : decode cX7_branch 86 = .ok (.getfield 22, 3) := by decide +kernel
theorem dX7_branch_89 : decode cX7_branch 89 = .ok (.iload 4, 2) := by decide +kernel
theorem dX7_branch_91 : decode cX7_branch 91 = .ok (.aload_n 0, 1) := by decide +kernel
theorem dX7_branch_92 : decode cX7_branch 92 = .ok (.iload_n 1, 1) := by decide +kernel
theorem dX7_branch_93 : decode cX7_branch 93 = .ok (.iload_n 3, 1) := by decide +kernel
theorem dX7_branch_94 : decode cX7_branch 94 = .ok (.iload 5, 2) := by decide +kernel
theorem dX7_branch_96 : decode cX7_branch 96 = .ok (.invokevirtual 61, 3) := by decide +kernel
theorem dX7_branch_99 : decode cX7_branch 99 = .ok (.iastore, 1) := by decide +kernel
theorem dX7_branch_100 : decode cX7_branch 100 = .ok (.aload_n 0, 1) := by decide +kernel
theorem dX7_branch_101 : decode cX7_branch 101 = .ok (.getfield 22, 3) := by decide +kernel
theorem dX7_branch_104 : decode cX7_branch 104 = .ok (.iload 4, 2) := by decide +kernel
theorem dX7_branch_106 : decode cX7_branch 106 = .ok (.iaload, 1) := by decide +kernel
theorem dX7_branch_107 : decode cX7_branch 107 = .ok (.ifCond .le 41, 3) := by decide +kernel
theorem dX7_branch_110 : decode cX7_branch 110 = .ok (.aload_n 0, 1) := by decide +kernel
theorem dX7_branch_111 : decode cX7_branch 111 = .ok (.getfield 11, 3) := by decide +kernel
theorem dX7_branch_114 : decode cX7_branch 114 = .ok (.iload 4, 2) := by decide +kernel
theorem dX7_branch_116 : decode cX7_branch 116 = .ok (.aaload, 1) := by decide +kernel
theorem dX7_branch_117 : decode cX7_branch 117 = .ok (.aload_n 2, 1) := by decide +kernel
theorem dX7_branch_118 : decode cX7_branch 118 = .ok (.invokevirtual 32, 3) := by decide +kernel
theorem dX7_branch_121 : decode cX7_branch 121 = .ok (.aload_n 0, 1) := by decide +kernel
theorem dX7_branch_122 : decode cX7_branch 122 = .ok (.getfield 11, 3) := by decide +kernel
theorem dX7_branch_125 : decode cX7_branch 125 = .ok (.iload 4, 2) := by decide +kernel
theorem dX7_branch_127 : decode cX7_branch 127 = .ok (.aaload, 1) := by decide +kernel
theorem dX7_branch_128 : decode cX7_branch 128 = .ok (.iload_n 3, 1) := by decide +kernel
theorem dX7_branch_129 : decode cX7_branch 129 = .ok (.iload 5, 2) := by decide +kernel
theorem dX7_branch_131 : decode cX7_branch 131 = .ok (.ifCond .le 7, 3) := by decide +kernel
theorem dX7_branch_134 : decode cX7_branch 134 = .ok (.iconst 1, 1) := by decide +kernel
theorem dX7_branch_135 : decode cX7_branch 135 = .ok (.goto 4, 3) := by decide +kernel
theorem dX7_branch_138 : decode cX7_branch 138 = .ok (.iconst 0, 1) := by decide +kernel
theorem dX7_branch_139 : decode cX7_branch 139 = .ok (.invokevirtual 65, 3) := by decide +kernel
theorem dX7_branch_142 : decode cX7_branch 142 = .ok (.aload_n 0, 1) := by decide +kernel
theorem dX7_branch_143 : decode cX7_branch 143 = .ok (.iload 4, 2) := by decide +kernel
theorem dX7_branch_145 : decode cX7_branch 145 = .ok (.invokevirtual 50, 3) := by decide +kernel
theorem dX7_branch_148 : decode cX7_branch 148 = .ok (.iinc 5 2, 3) := by decide +kernel
theorem dX7_branch_151 : decode cX7_branch 151 = .ok (.goto (-72), 3) := by decide +kernel
theorem dX7_branch_154 : decode cX7_branch 154 = .ok (.return_, 1) := by decide +kernel
theorem dX7_gather_0 : decode cX7_gather 0 = .ok (.iconst 0, 1) := by decide +kernel
theorem dX7_gather_1 : decode cX7_gather 1 = .ok (.istore 4, 2) := by decide +kernel
theorem dX7_gather_3 : decode cX7_gather 3 = .ok (.iconst 0, 1) := by decide +kernel
theorem dX7_gather_4 : decode cX7_gather 4 = .ok (.istore 5, 2) := by decide +kernel
theorem dX7_gather_6 : decode cX7_gather 6 = .ok (.iload 5, 2) := by decide +kernel
theorem dX7_gather_8 : decode cX7_gather 8 = .ok (.aload_n 0, 1) := by decide +kernel
theorem dX7_gather_9 : decode cX7_gather 9 = .ok (.getfield 22, 3) := by decide +kernel
theorem dX7_gather_12 : decode cX7_gather 12 = .ok (.iload_n 1, 1) := by decide +kernel
theorem dX7_gather_13 : decode cX7_gather 13 = .ok (.iaload, 1) := by decide +kernel
theorem dX7_gather_14 : decode cX7_gather 14 = .ok (.if_icmp .ge 56, 3) := by decide +kernel
theorem dX7_gather_17 : decode cX7_gather 17 = .ok (.aload_n 0, 1) := by decide +kernel
theorem dX7_gather_18 : decode cX7_gather 18 = .ok (.getfield 19, 3) := by decide +kernel
theorem dX7_gather_21 : decode cX7_gather 21 = .ok (.iload_n 1, 1) := by decide +kernel
theorem dX7_gather_22 : decode cX7_gather 22 = .ok (.aaload, 1) := by decide +kernel
theorem dX7_gather_23 : decode cX7_gather 23 = .ok (.iload 5, 2) := by decide +kernel
theorem dX7_gather_25 : decode cX7_gather 25 = .ok (.iaload, 1) := by decide +kernel
theorem dX7_gather_26 : decode cX7_gather 26 = .ok (.istore 6, 2) := by decide +kernel
theorem dX7_gather_28 : decode cX7_gather 28 = .ok (.iload_n 2, 1) := by decide +kernel
theorem dX7_gather_29 : decode cX7_gather 29 = .ok (.aload_n 0, 1) := by decide +kernel
theorem dX7_gather_30 : decode cX7_gather 30 = .ok (.getfield 11, 3) := by decide +kernel
theorem dX7_gather_33 : decode cX7_gather 33 = .ok (.iload_n 1, 1) := by decide +kernel
theorem dX7_gather_34 : decode cX7_gather 34 = .ok (.aaload, 1) := by decide +kernel
theorem dX7_gather_35 : decode cX7_gather 35 = .ok (.iload 6, 2) := by decide +kernel
theorem dX7_gather_37 : decode cX7_gather 37 = .ok (.iload_n 1, 1) := by decide +kernel
theorem dX7_gather_38 : decode cX7_gather 38 = .ok (.invokevirtual 58, 3) := by decide +kernel
theorem dX7_gather_41 : decode cX7_gather 41 = .ok (.invokestatic 69, 3) := by decide +kernel
theorem dX7_gather_44 : decode cX7_gather 44 = .ok (.iload_n 3, 1) := by decide +kernel
theorem dX7_gather_45 : decode cX7_gather 45 = .ok (.if_icmp .ne 19, 3) := by decide +kernel
theorem dX7_gather_48 : decode cX7_gather 48 = .ok (.aload_n 0, 1) := by decide +kernel
theorem dX7_gather_49 : decode cX7_gather 49 = .ok (.getfield 19, 3) := by decide +kernel
theorem dX7_gather_52 : decode cX7_gather 52 = .ok (.iload_n 1, 1) := by decide +kernel
theorem dX7_gather_53 : decode cX7_gather 53 = .ok (.iconst 1, 1) := by decide +kernel
theorem dX7_gather_54 : decode cX7_gather 54 = .ok (.iadd, 1) := by decide +kernel
theorem dX7_gather_55 : decode cX7_gather 55 = .ok (.aaload, 1) := by decide +kernel
theorem dX7_gather_56 : decode cX7_gather 56 = .ok (.iload 4, 2) := by decide +kernel
theorem dX7_gather_58 : decode cX7_gather 58 = .ok (.iload 6, 2) := by decide +kernel
theorem dX7_gather_60 : decode cX7_gather 60 = .ok (.iastore, 1) := by decide +kernel
theorem dX7_gather_61 : decode cX7_gather 61 = .ok (.iinc 4 1, 3) := by decide +kernel
theorem dX7_gather_64 : decode cX7_gather 64 = .ok (.iinc 5 1, 3) := by decide +kernel
theorem dX7_gather_67 : decode cX7_gather 67 = .ok (.goto (-61), 3) := by decide +kernel
theorem dX7_gather_70 : decode cX7_gather 70 = .ok (.iload 4, 2) := by decide +kernel
theorem dX7_gather_72 : decode cX7_gather 72 = .ok (.ireturn, 1) := by decide +kernel
theorem dX8_init_0 : decode cX8_init 0 = .ok (.aload_n 0, 1) := by decide +kernel
theorem dX8_init_1 : decode cX8_init 1 = .ok (.invokespecial 3, 3) := by decide +kernel
theorem dX8_init_4 : decode cX8_init 4 = .ok (.aload_n 0, 1) := by decide +kernel
theorem dX8_init_5 : decode cX8_init 5 = .ok (.bipush 8, 2) := by decide +kernel
theorem dX8_init_7 : decode cX8_init 7 = .ok (.anewarray 9, 3) := by decide +kernel
theorem dX8_init_10 : decode cX8_init 10 = .ok (.putfield 11, 3) := by decide +kernel
theorem dX8_init_13 : decode cX8_init 13 = .ok (.aload_n 0, 1) := by decide +kernel
theorem dX8_init_14 : decode cX8_init 14 = .ok (.iconst 0, 1) := by decide +kernel
theorem dX8_init_15 : decode cX8_init 15 = .ok (.putfield 17, 3) := by decide +kernel
theorem dX8_init_18 : decode cX8_init 18 = .ok (.aload_n 0, 1) := by decide +kernel
theorem dX8_init_19 : decode cX8_init 19 = .ok (.iconst 0, 1) := by decide +kernel
theorem dX8_init_20 : decode cX8_init 20 = .ok (.putfield 21, 3) := by decide +kernel
theorem dX8_init_23 : decode cX8_init 23 = .ok (.aload_n 0, 1) := by decide +kernel
theorem dX8_init_24 : decode cX8_init 24 = .ok (.iconst 0, 1) := by decide +kernel
theorem dX8_init_25 : decode cX8_init 25 = .ok (.putfield 24, 3) := by decide +kernel
theorem dX8_init_28 : decode cX8_init 28 = .ok (.aload_n 0, 1) := by decide +kernel
theorem dX8_init_29 : decode cX8_init 29 = .ok (.iconst 0, 1) := by decide +kernel
theorem dX8_init_30 : decode cX8_init 30 = .ok (.putfield 27, 3) := by decide +kernel
theorem dX8_init_33 : decode cX8_init 33 = .ok (.aload_n 0, 1) := by decide +kernel
theorem dX8_init_34 : decode cX8_init 34 = .ok (.bipush 99, 2) := by decide +kernel
theorem dX8_init_36 : decode cX8_init 36 = .ok (.putfield 30, 3) := by decide +kernel
theorem dX8_init_39 : decode cX8_init 39 = .ok (.aload_n 0, 1) := by decide +kernel
theorem dX8_init_40 : decode cX8_init 40 = .ok (.iconst 0, 1) := by decide +kernel
theorem dX8_init_41 : decode cX8_init 41 = .ok (.putfield 33, 3) := by decide +kernel
theorem dX8_init_44 : decode cX8_init 44 = .ok (.aload_n 0, 1) := by decide +kernel
theorem dX8_init_45 : decode cX8_init 45 = .ok (.iconst 0, 1) := by decide +kernel
theorem dX8_init_46 : decode cX8_init 46 = .ok (.putfield 37, 3) := by decide +kernel
theorem dX8_init_49 : decode cX8_init 49 = .ok (.aload_n 0, 1) := by decide +kernel
theorem dX8_init_50 : decode cX8_init 50 = .ok (.iconst 1, 1) := by decide +kernel
theorem dX8_init_51 : decode cX8_init 51 = .ok (.putfield 40, 3) := by decide +kernel
theorem dX8_init_54 : decode cX8_init 54 = .ok (.aload_n 0, 1) := by decide +kernel
theorem dX8_init_55 : decode cX8_init 55 = .ok (.iconst 0, 1) := by decide +kernel
theorem dX8_init_56 : decode cX8_init 56 = .ok (.putfield 43, 3) := by decide +kernel
theorem dX8_init_59 : decode cX8_init 59 = .ok (.aload_n 0, 1) := by decide +kernel
theorem dX8_init_60 : decode cX8_init 60 = .ok (.iconst 3, 1) := by decide +kernel
theorem dX8_init_61 : decode cX8_init 61 = .ok (.newarray .int, 2) := by decide +kernel
theorem dX8_init_63 : decode cX8_init 63 = .ok (.putfield 46, 3) := by decide +kernel
theorem dX8_init_66 : decode cX8_init 66 = .ok (.aload_n 0, 1) := by decide +kernel
theorem dX8_init_67 : decode cX8_init 67 = .ok (.aload_n 1, 1) := by decide +kernel
theorem dX8_init_68 : decode cX8_init 68 = .ok (.putfield 50, 3) := by decide +kernel
theorem dX8_init_71 : decode cX8_init 71 = .ok (.iconst 0, 1) := by decide +kernel
theorem dX8_init_72 : decode cX8_init 72 = .ok (.istore_n 2, 1) := by decide +kernel
theorem dX8_init_73 : decode cX8_init 73 = .ok (.iload_n 2, 1) := by decide +kernel
theorem dX8_init_74 : decode cX8_init 74 = .ok (.bipush 8, 2) := by decide +kernel
theorem dX8_init_76 : decode cX8_init 76 = .ok (.if_icmp .ge 22, 3) := by decide +kernel
theorem dX8_init_79 : decode cX8_init 79 = .ok (.aload_n 0, 1) := by decide +kernel
theorem dX8_init_80 : decode cX8_init 80 = .ok (.getfield 11, 3) := by decide +kernel
theorem dX8_init_83 : decode cX8_init 83 = .ok (.iload_n 2, 1) := by decide +kernel
theorem dX8_init_84 : decode cX8_init 84 = .ok (.new 9, 3) := by decide +kernel
theorem dX8_init_87 : decode cX8_init 87 = .ok (.dup, 1) := by decide +kernel
theorem dX8_init_88 : decode cX8_init 88 = .ok (.invokespecial 54, 3) := by decide +kernel
theorem dX8_init_91 : decode cX8_init 91 = .ok (.aastore, 1) := by decide +kernel
theorem dX8_init_92 : decode cX8_init 92 = .ok (.iinc 2 1, 3) := by decide +kernel
theorem dX8_init_95 : decode cX8_init 95 = .ok (.goto (-22), 3) := by decide +kernel
theorem dX8_init_98 : decode cX8_init 98 = .ok (.iconst 0, 1) := by decide +kernel
theorem dX8_init_99 : decode cX8_init 99 = .ok (.istore_n 2, 1) := by decide +kernel
theorem dX8_init_100 : decode cX8_init 100 = .ok (.iload_n 2, 1) := by decide +kernel
theorem dX8_init_101 : decode cX8_init 101 = .ok (.iconst 3, 1) := by decide +kernel
theorem dX8_init_102 : decode cX8_init 102 = .ok (.if_icmp .ge 16, 3) := by decide +kernel
theorem dX8_init_105 : decode cX8_init 105 = .ok (.aload_n 0, 1) := by decide +kernel
theorem dX8_init_106 : decode cX8_init 106 = .ok (.getfield 46, 3) := by decide +kernel
theorem dX8_init_109 : decode cX8_init 109 = .ok (.iload_n 2, 1) := by decide +kernel
theorem dX8_init_110 : decode cX8_init 110 = .ok (.iconst (-1), 1) := by decide +kernel
theorem dX8_init_111 : decode cX8_init 111 = .ok (.iastore, 1) := by decide +kernel
theorem dX8_init_112 : decode cX8_init 112 = .ok (.iinc 2 1, 3) := by decide +kernel
theorem dX8_init_115 : decode cX8_init 115 = .ok (.goto (-15), 3) := by decide +kernel
theorem dX8_init_118 : decode cX8_init 118 = .ok (.return_, 1) := by decide +kernel
theorem dX8_become_0 : decode cX8_become 0 = .ok (.aload_n 0, 1) := by decide +kernel
theorem dX8_become_1 : decode cX8_become 1 = .ok (.aload_n 1, 1) := by decide +kernel
theorem dX8_become_2 : decode cX8_become 2 = .ok (.getfield 17, 3) := by decide +kernel
theorem dX8_become_5 : decode cX8_become 5 = .ok (.putfield 17, 3) := by decide +kernel
theorem dX8_become_8 : decode cX8_become 8 = .ok (.iconst 0, 1) := by decide +kernel
theorem dX8_become_9 : decode cX8_become 9 = .ok (.istore_n 2, 1) := by decide +kernel
theorem dX8_become_10 : decode cX8_become 10 = .ok (.iload_n 2, 1) := by decide +kernel
theorem dX8_become_11 : decode cX8_become 11 = .ok (.aload_n 0, 1) := by decide +kernel
theorem dX8_become_12 : decode cX8_become 12 = .ok (.getfield 17, 3) := by decide +kernel
theorem dX8_become_15 : decode cX8_become 15 = .ok (.if_icmp .ge 24, 3) := by decide +kernel
theorem dX8_become_18 : decode cX8_become 18 = .ok (.aload_n 0, 1) := by decide +kernel
theorem dX8_become_19 : decode cX8_become 19 = .ok (.getfield 11, 3) := by decide +kernel
theorem dX8_become_22 : decode cX8_become 22 = .ok (.iload_n 2, 1) := by decide +kernel
theorem dX8_become_23 : decode cX8_become 23 = .ok (.aaload, 1) := by decide +kernel
theorem dX8_become_24 : decode cX8_become 24 = .ok (.aload_n 1, 1) := by decide +kernel
theorem dX8_become_25 : decode cX8_become 25 = .ok (.getfield 11, 3) := by decide +kernel
theorem dX8_become_28 : decode cX8_become 28 = .ok (.iload_n 2, 1) := by decide +kernel
theorem dX8_become_29 : decode cX8_become 29 = .ok (.aaload, 1) := by decide +kernel
theorem dX8_become_30 : decode cX8_become 30 = .ok (.invokevirtual 55, 3) := by decide +kernel
theorem dX8_become_33 : decode cX8_become 33 = .ok (.iinc 2 1, 3) := by decide +kernel
theorem dX8_become_36 : decode cX8_become 36 = .ok (.goto (-26), 3) := by decide +kernel
theorem dX8_become_39 : decode cX8_become 39 = .ok (.aload_n 0, 1) := by decide +kernel
theorem dX8_become_40 : decode cX8_become 40 = .ok (.aload_n 1, 1) := by decide +kernel
theorem dX8_become_41 : decode cX8_become 41 = .ok (.getfield 21, 3) := by decide +kernel
theorem dX8_become_44 : decode cX8_become 44 = .ok (.putfield 21, 3) := by decide +kernel
theorem dX8_become_47 : decode cX8_become 47 = .ok (.aload_n 0, 1) := by decide +kernel
theorem dX8_become_48 : decode cX8_become 48 = .ok (.aload_n 1, 1) := by decide +kernel
theorem dX8_become_49 : decode cX8_become 49 = .ok (.getfield 24, 3) := by decide +kernel
theorem dX8_become_52 : decode cX8_become 52 = .ok (.putfield 24, 3) := by decide +kernel
theorem dX8_become_55 : decode cX8_become 55 = .ok (.aload_n 0, 1) := by decide +kernel
theorem dX8_become_56 : decode cX8_become 56 = .ok (.aload_n 1, 1) := by decide +kernel
theorem dX8_become_57 : decode cX8_become 57 = .ok (.getfield 27, 3) := by decide +kernel
theorem dX8_become_60 : decode cX8_become 60 = .ok (.putfield 27, 3) := by decide +kernel
theorem dX8_become_63 : decode cX8_become 63 = .ok (.aload_n 0, 1) := by decide +kernel
theorem dX8_become_64 : decode cX8_become 64 = .ok (.aload_n 1, 1) := by decide +kernel
theorem dX8_become_65 : decode cX8_become 65 = .ok (.getfield 30, 3) := by decide +kernel
theorem dX8_become_68 : decode cX8_become 68 = .ok (.putfield 30, 3) := by decide +kernel
theorem dX8_become_71 : decode cX8_become 71 = .ok (.aload_n 0, 1) := by decide +kernel
theorem dX8_become_72 : decode cX8_become 72 = .ok (.aload_n 1, 1) := by decide +kernel
theorem dX8_become_73 : decode cX8_become 73 = .ok (.getfield 33, 3) := by decide +kernel
theorem dX8_become_76 : decode cX8_become 76 = .ok (.putfield 33, 3) := by decide +kernel
theorem dX8_become_79 : decode cX8_become 79 = .ok (.aload_n 0, 1) := by decide +kernel
theorem dX8_become_80 : decode cX8_become 80 = .ok (.aload_n 1, 1) := by decide +kernel
theorem dX8_become_81 : decode cX8_become 81 = .ok (.getfield 37, 3) := by decide +kernel
theorem dX8_become_84 : decode cX8_become 84 = .ok (.putfield 37, 3) := by decide +kernel
theorem dX8_become_87 : decode cX8_become 87 = .ok (.aload_n 0, 1) := by decide +kernel
theorem dX8_become_88 : decode cX8_become 88 = .ok (.aload_n 1, 1) := by decide +kernel
theorem dX8_become_89 : decode cX8_become 89 = .ok (.getfield 40, 3) := by decide +kernel
theorem dX8_become_92 : decode cX8_become 92 = .ok (.putfield 40, 3) := by decide +kernel
theorem dX8_become_95 : decode cX8_become 95 = .ok (.aload_n 0, 1) := by decide +kernel
theorem dX8_become_96 : decode cX8_become 96 = .ok (.aload_n 1, 1) := by decide +kernel
theorem dX8_become_97 : decode cX8_become 97 = .ok (.getfield 43, 3) := by decide +kernel
theorem dX8_become_100 : decode cX8_become 100 = .ok (.putfield 43, 3) := by decide +kernel
theorem dX8_become_103 : decode cX8_become 103 = .ok (.iconst 0, 1) := by decide +kernel
theorem dX8_become_104 : decode cX8_become 104 = .ok (.istore_n 2, 1) := by decide +kernel
theorem dX8_become_105 : decode cX8_become 105 = .ok (.iload_n 2, 1) := by decide +kernel
theorem dX8_become_106 : decode cX8_become 106 = .ok (.iconst 3, 1) := by decide +kernel
theorem dX8_become_107 : decode cX8_become 107 = .ok (.if_icmp .ge 21, 3) := by decide +kernel
theorem dX8_become_110 : decode cX8_become 110 = .ok (.aload_n 0, 1) := by decide +kernel
theorem dX8_become_111 : decode cX8_become 111 = .ok (.getfield 46, 3) := by decide +kernel
theorem dX8_become_114 : decode cX8_become 114 = .ok (.iload_n 2, 1) := by decide +kernel
theorem dX8_become_115 : decode cX8_become 115 = .ok (.aload_n 1, 1) := by decide +kernel
theorem dX8_become_116 : decode cX8_become 116 = .ok (.getfield 46, 3) := by decide +kernel
theorem dX8_become_119 : decode cX8_become 119 = .ok (.iload_n 2, 1) := by decide +kernel
theorem dX8_become_120 : decode cX8_become 120 = .ok (.iaload, 1) := by decide +kernel
theorem dX8_become_121 : decode cX8_become 121 = .ok (.iastore, 1) := by decide +kernel
theorem dX8_become_122 : decode cX8_become 122 = .ok (.iinc 2 1, 3) := by decide +kernel
theorem dX8_become_125 : decode cX8_become 125 = .ok (.goto (-20), 3) := by decide +kernel
theorem dX8_become_128 : decode cX8_become 128 = .ok (.return_, 1) := by decide +kernel
theorem dX8_mayBe_0 : decode cX8_mayBe 0 = .ok (.iload_n 0, 1) := by decide +kernel
theorem dX8_mayBe_1 : decode cX8_mayBe 1 = .ok (.tableswitch 114 0 4 #[35, 51, 66, 83, 99], 35) := by decide +kernel
theorem dX8_mayBe_36 : decode cX8_mayBe 36 = .ok (.iload_n 1, 1) := by decide +kernel
theorem dX8_mayBe_37 : decode cX8_mayBe 37 = .ok (.ifCond .lt 13, 3) := by decide +kernel
theorem dX8_mayBe_40 : decode cX8_mayBe 40 = .ok (.iload_n 1, 1) := by decide +kernel
theorem dX8_mayBe_41 : decode cX8_mayBe 41 = .ok (.bipush 100, 2) := by decide +kernel
theorem dX8_mayBe_43 : decode cX8_mayBe 43 = .ok (.if_icmp .ge 7, 3) := by decide +kernel
theorem dX8_mayBe_46 : decode cX8_mayBe 46 = .ok (.iconst 1, 1) := by decide +kernel
theorem dX8_mayBe_47 : decode cX8_mayBe 47 = .ok (.goto 4, 3) := by decide +kernel
theorem dX8_mayBe_50 : decode cX8_mayBe 50 = .ok (.iconst 0, 1) := by decide +kernel
theorem dX8_mayBe_51 : decode cX8_mayBe 51 = .ok (.ireturn, 1) := by decide +kernel
theorem dX8_mayBe_52 : decode cX8_mayBe 52 = .ok (.iload_n 1, 1) := by decide +kernel
theorem dX8_mayBe_53 : decode cX8_mayBe 53 = .ok (.ifCond .lt 12, 3) := by decide +kernel
theorem dX8_mayBe_56 : decode cX8_mayBe 56 = .ok (.iload_n 1, 1) := by decide +kernel
theorem dX8_mayBe_57 : decode cX8_mayBe 57 = .ok (.iconst 2, 1) := by decide +kernel
theorem dX8_mayBe_58 : decode cX8_mayBe 58 = .ok (.if_icmp .gt 7, 3) := by decide +kernel
theorem dX8_mayBe_61 : decode cX8_mayBe 61 = .ok (.iconst 1, 1) := by decide +kernel
theorem dX8_mayBe_62 : decode cX8_mayBe 62 = .ok (.goto 4, 3) := by decide +kernel
theorem dX8_mayBe_65 : decode cX8_mayBe 65 = .ok (.iconst 0, 1) := by decide +kernel
theorem dX8_mayBe_66 : decode cX8_mayBe 66 = .ok (.ireturn, 1) := by decide +kernel
theorem dX8_mayBe_67 : decode cX8_mayBe 67 = .ok (.iload_n 1, 1) := by decide +kernel
theorem dX8_mayBe_68 : decode cX8_mayBe 68 = .ok (.bipush (-5), 2) := by decide +kernel
theorem dX8_mayBe_70 : decode cX8_mayBe 70 = .ok (.if_icmp .lt 12, 3) := by decide +kernel
theorem dX8_mayBe_73 : decode cX8_mayBe 73 = .ok (.iload_n 1, 1) := by decide +kernel
theorem dX8_mayBe_74 : decode cX8_mayBe 74 = .ok (.iconst 5, 1) := by decide +kernel
theorem dX8_mayBe_75 : decode cX8_mayBe 75 = .ok (.if_icmp .gt 7, 3) := by decide +kernel
theorem dX8_mayBe_78 : decode cX8_mayBe 78 = .ok (.iconst 1, 1) := by decide +kernel
theorem dX8_mayBe_79 : decode cX8_mayBe 79 = .ok (.goto 4, 3) := by decide +kernel
theorem dX8_mayBe_82 : decode cX8_mayBe 82 = .ok (.iconst 0, 1) := by decide +kernel
theorem dX8_mayBe_83 : decode cX8_mayBe 83 = .ok (.ireturn, 1) := by decide +kernel
theorem dX8_mayBe_84 : decode cX8_mayBe 84 = .ok (.iload_n 1, 1) := by decide +kernel
theorem dX8_mayBe_85 : decode cX8_mayBe 85 = .ok (.ifCond .lt 13, 3) := by decide +kernel
theorem dX8_mayBe_88 : decode cX8_mayBe 88 = .ok (.iload_n 1, 1) := by decide +kernel
theorem dX8_mayBe_89 : decode cX8_mayBe 89 = .ok (.bipush 99, 2) := by decide +kernel
theorem dX8_mayBe_91 : decode cX8_mayBe 91 = .ok (.if_icmp .gt 7, 3) := by decide +kernel
theorem dX8_mayBe_94 : decode cX8_mayBe 94 = .ok (.iconst 1, 1) := by decide +kernel
theorem dX8_mayBe_95 : decode cX8_mayBe 95 = .ok (.goto 4, 3) := by decide +kernel
theorem dX8_mayBe_98 : decode cX8_mayBe 98 = .ok (.iconst 0, 1) := by decide +kernel
theorem dX8_mayBe_99 : decode cX8_mayBe 99 = .ok (.ireturn, 1) := by decide +kernel
theorem dX8_mayBe_100 : decode cX8_mayBe 100 = .ok (.iload_n 1, 1) := by decide +kernel
theorem dX8_mayBe_101 : decode cX8_mayBe 101 = .ok (.ifCond .eq 8, 3) := by decide +kernel
theorem dX8_mayBe_104 : decode cX8_mayBe 104 = .ok (.iload_n 1, 1) := by decide +kernel
theorem dX8_mayBe_105 : decode cX8_mayBe 105 = .ok (.iconst 1, 1) := by decide +kernel
theorem dX8_mayBe_106 : decode cX8_mayBe 106 = .ok (.if_icmp .ne 7, 3) := by decide +kernel
theorem dX8_mayBe_109 : decode cX8_mayBe 109 = .ok (.iconst 1, 1) := by decide +kernel
theorem dX8_mayBe_110 : decode cX8_mayBe 110 = .ok (.goto 4, 3) := by decide +kernel
theorem dX8_mayBe_113 : decode cX8_mayBe 113 = .ok (.iconst 0, 1) := by decide +kernel
theorem dX8_mayBe_114 : decode cX8_mayBe 114 = .ok (.ireturn, 1) := by decide +kernel
theorem dX8_mayBe_115 : decode cX8_mayBe 115 = .ok (.iconst 0, 1) := by decide +kernel
theorem dX8_mayBe_116 : decode cX8_mayBe 116 = .ok (.ireturn, 1) := by decide +kernel
theorem dX8_part_0 : decode cX8_part 0 = .ok (.iload_n 1, 1) := by decide +kernel
theorem dX8_part_1 : decode cX8_part 1 = .ok (.tableswitch 51 0 3 #[31, 36, 41, 46], 31) := by decide +kernel
theorem dX8_part_32 : decode cX8_part 32 = .ok (.aload_n 0, 1) := by decide +kernel
theorem dX8_part_33 : decode cX8_part 33 = .ok (.getfield 21, 3) := by decide +kernel
theorem dX8_part_36 : decode cX8_part 36 = .ok (.ireturn, 1) := by decide +kernel
theorem dX8_part_37 : decode cX8_part 37 = .ok (.aload_n 0, 1) := by decide +kernel
theorem dX8_part_38 : decode cX8_part 38 = .ok (.getfield 24, 3) := by decide +kernel
theorem dX8_part_41 : decode cX8_part 41 = .ok (.ireturn, 1) := by decide +kernel
theorem dX8_part_42 : decode cX8_part 42 = .ok (.aload_n 0, 1) := by decide +kernel
theorem dX8_part_43 : decode cX8_part 43 = .ok (.getfield 27, 3) := by decide +kernel
theorem dX8_part_46 : decode cX8_part 46 = .ok (.ireturn, 1) := by decide +kernel
theorem dX8_part_47 : decode cX8_part 47 = .ok (.aload_n 0, 1) := by decide +kernel
theorem dX8_part_48 : decode cX8_part 48 = .ok (.getfield 30, 3) := by decide +kernel
theorem dX8_part_51 : decode cX8_part 51 = .ok (.ireturn, 1) := by decide +kernel
theorem dX8_part_52 : decode cX8_part 52 = .ok (.aload_n 0, 1) := by decide +kernel
theorem dX8_part_53 : decode cX8_part 53 = .ok (.getfield 33, 3) := by decide +kernel
theorem dX8_part_56 : decode cX8_part 56 = .ok (.ifCond .eq 7, 3) := by decide +kernel
theorem dX8_part_59 : decode cX8_part 59 = .ok (.iconst 1, 1) := by decide +kernel
theorem dX8_part_60 : decode cX8_part 60 = .ok (.goto 4, 3) := by decide +kernel
theorem dX8_part_63 : decode cX8_part 63 = .ok (.iconst 0, 1) := by decide +kernel
theorem dX8_part_64 : decode cX8_part 64 = .ok (.ireturn, 1) := by decide +kernel
theorem dX8_change_0 : decode cX8_change 0 = .ok (.iload_n 1, 1) := by decide +kernel
theorem dX8_change_1 : decode cX8_change 1 = .ok (.tableswitch 63 0 3 #[31, 39, 47, 55], 31) := by decide +kernel
theorem dX8_change_32 : decode cX8_change 32 = .ok (.aload_n 0, 1) := by decide +kernel
theorem dX8_change_33 : decode cX8_change 33 = .ok (.iload_n 2, 1) := by decide +kernel
theorem dX8_change_34 : decode cX8_change 34 = .ok (.putfield 21, 3) := by decide +kernel
theorem dX8_change_37 : decode cX8_change 37 = .ok (.goto 41, 3) := by decide +kernel
theorem dX8_change_40 : decode cX8_change 40 = .ok (.aload_n 0, 1) := by decide +kernel
theorem dX8_change_41 : decode cX8_change 41 = .ok (.iload_n 2, 1) := by decide +kernel
theorem dX8_change_42 : decode cX8_change 42 = .ok (.putfield 24, 3) := by decide +kernel
theorem dX8_change_45 : decode cX8_change 45 = .ok (.goto 33, 3) := by decide +kernel
theorem dX8_change_48 : decode cX8_change 48 = .ok (.aload_n 0, 1) := by decide +kernel
theorem dX8_change_49 : decode cX8_change 49 = .ok (.iload_n 2, 1) := by decide +kernel
theorem dX8_change_50 : decode cX8_change 50 = .ok (.putfield 27, 3) := by decide +kernel
theorem dX8_change_53 : decode cX8_change 53 = .ok (.goto 25, 3) := by decide +kernel
theorem dX8_change_56 : decode cX8_change 56 = .ok (.aload_n 0, 1) := by decide +kernel
theorem dX8_change_57 : decode cX8_change 57 = .ok (.iload_n 2, 1) := by decide +kernel
theorem dX8_change_58 : decode cX8_change 58 = .ok (.putfield 30, 3) := by decide +kernel
theorem dX8_change_61 : decode cX8_change 61 = .ok (.goto 17, 3) := by decide +kernel
theorem dX8_change_64 : decode cX8_change 64 = .ok (.aload_n 0, 1) := by decide +kernel
theorem dX8_change_65 : decode cX8_change 65 = .ok (.iload_n 2, 1) := by decide +kernel
theorem dX8_change_66 : decode cX8_change 66 = .ok (.iconst 1, 1) := by decide +kernel
theorem dX8_change_67 : decode cX8_change 67 = .ok (.if_icmp .ne 7, 3) := by decide +kernel
theorem dX8_change_70 : decode cX8_change 70 = .ok (.iconst 1, 1) := by decide +kernel
theorem dX8_change_71 : decode cX8_change 71 = .ok (.goto 4, 3) := by decide +kernel
theorem dX8_change_74 : decode cX8_change 74 = .ok (.iconst 0, 1) := by decide +kernel
theorem dX8_change_75 : decode cX8_change 75 = .ok (.putfield 33, 3) := by decide +kernel
theorem dX8_change_78 : decode cX8_change 78 = .ok (.return_, 1) := by decide +kernel
theorem dX8_lawOf_0 : decode cX8_lawOf 0 = .ok (.iload_n 1, 1) := by decide +kernel
theorem dX8_lawOf_1 : decode cX8_lawOf 1 = .ok (.ifCond .lt 17, 3) := by decide +kernel
theorem dX8_lawOf_4 : decode cX8_lawOf 4 = .ok (.iload_n 1, 1) := by decide +kernel
theorem dX8_lawOf_5 : decode cX8_lawOf 5 = .ok (.iconst 3, 1) := by decide +kernel
theorem dX8_lawOf_6 : decode cX8_lawOf 6 = .ok (.if_icmp .ge 12, 3) := by decide +kernel
theorem dX8_lawOf_9 : decode cX8_lawOf 9 = .ok (.aload_n 0, 1) := by decide +kernel
theorem dX8_lawOf_10 : decode cX8_lawOf 10 = .ok (.getfield 46, 3) := by decide +kernel
theorem dX8_lawOf_13 : decode cX8_lawOf 13 = .ok (.iload_n 1, 1) := by decide +kernel
theorem dX8_lawOf_14 : decode cX8_lawOf 14 = .ok (.iaload, 1) := by decide +kernel
theorem dX8_lawOf_15 : decode cX8_lawOf 15 = .ok (.goto 4, 3) := by decide +kernel
theorem dX8_lawOf_18 : decode cX8_lawOf 18 = .ok (.iconst (-1), 1) := by decide +kernel
theorem dX8_lawOf_19 : decode cX8_lawOf 19 = .ok (.ireturn, 1) := by decide +kernel
theorem dX8_addText_0 : decode cX8_addText 0 = .ok (.aload_n 0, 1) := by decide +kernel
theorem dX8_addText_1 : decode cX8_addText 1 = .ok (.getfield 43, 3) := by decide +kernel
theorem dX8_addText_4 : decode cX8_addText 4 = .ok (.istore_n 1, 1) := by decide +kernel
theorem dX8_addText_5 : decode cX8_addText 5 = .ok (.aload_n 0, 1) := by decide +kernel
theorem dX8_addText_6 : decode cX8_addText 6 = .ok (.getfield 50, 3) := by decide +kernel
theorem dX8_addText_9 : decode cX8_addText 9 = .ok (.getfield 59, 3) := by decide +kernel
theorem dX8_addText_12 : decode cX8_addText 12 = .ok (.iload_n 1, 1) := by decide +kernel
theorem dX8_addText_13 : decode cX8_addText 13 = .ok (.aaload, 1) := by decide +kernel
theorem dX8_addText_14 : decode cX8_addText 14 = .ok (.getfield 65, 3) := by decide +kernel
theorem dX8_addText_17 : decode cX8_addText 17 = .ok (.istore_n 2, 1) := by decide +kernel
theorem dX8_addText_18 : decode cX8_addText 18 = .ok (.iload_n 2, 1) := by decide +kernel
theorem dX8_addText_19 : decode cX8_addText 19 = .ok (.ifCond .lt 15, 3) := by decide +kernel
theorem dX8_addText_22 : decode cX8_addText 22 = .ok (.iload_n 2, 1) := by decide +kernel
theorem dX8_addText_23 : decode cX8_addText 23 = .ok (.iconst 3, 1) := by decide +kernel
theorem dX8_addText_24 : decode cX8_addText 24 = .ok (.if_icmp .ge 10, 3) := by decide +kernel
theorem dX8_addText_27 : decode cX8_addText 27 = .ok (.aload_n 0, 1) := by decide +kernel
theorem dX8_addText_28 : decode cX8_addText 28 = .ok (.getfield 46, 3) := by decide +kernel
theorem dX8_addText_31 : decode cX8_addText 31 = .ok (.iload_n 2, 1) := by decide +kernel
theorem dX8_addText_32 : decode cX8_addText 32 = .ok (.iload_n 1, 1) := by decide +kernel
theorem dX8_addText_33 : decode cX8_addText 33 = .ok (.iastore, 1) := by decide +kernel
theorem dX8_addText_34 : decode cX8_addText 34 = .ok (.aload_n 0, 1) := by decide +kernel
theorem dX8_addText_35 : decode cX8_addText 35 = .ok (.dup, 1) := by decide +kernel
theorem dX8_addText_36 : decode cX8_addText 36 = .ok (.getfield 43, 3) := by decide +kernel
theorem dX8_addText_39 : decode cX8_addText 39 = .ok (.iconst 1, 1) := by decide +kernel
theorem dX8_addText_40 : decode cX8_addText 40 = .ok (.iadd, 1) := by decide +kernel
theorem dX8_addText_41 : decode cX8_addText 41 = .ok (.putfield 43, 3) := by decide +kernel
theorem dX8_addText_44 : decode cX8_addText 44 = .ok (.iload_n 1, 1) := by decide +kernel
theorem dX8_addText_45 : decode cX8_addText 45 = .ok (.ireturn, 1) := by decide +kernel
theorem dX8_welcome_0 : decode cX8_welcome 0 = .ok (.aload_n 0, 1) := by decide +kernel
theorem dX8_welcome_1 : decode cX8_welcome 1 = .ok (.getfield 17, 3) := by decide +kernel
theorem dX8_welcome_4 : decode cX8_welcome 4 = .ok (.istore 5, 2) := by decide +kernel
theorem dX8_welcome_6 : decode cX8_welcome 6 = .ok (.aload_n 0, 1) := by decide +kernel
theorem dX8_welcome_7 : decode cX8_welcome 7 = .ok (.getfield 11, 3) := by decide +kernel
theorem dX8_welcome_10 : decode cX8_welcome 10 = .ok (.iload 5, 2) := by decide +kernel
theorem dX8_welcome_12 : decode cX8_welcome 12 = .ok (.aaload, 1) := by decide +kernel
theorem dX8_welcome_13 : decode cX8_welcome 13 = .ok (.astore 6, 2) := by decide +kernel
theorem dX8_welcome_15 : decode cX8_welcome 15 = .ok (.aload 6, 2) := by decide +kernel
theorem dX8_welcome_17 : decode cX8_welcome 17 = .ok (.iload_n 1, 1) := by decide +kernel
theorem dX8_welcome_18 : decode cX8_welcome 18 = .ok (.putfield 70, 3) := by decide +kernel
theorem dX8_welcome_21 : decode cX8_welcome 21 = .ok (.aload 6, 2) := by decide +kernel
theorem dX8_welcome_23 : decode cX8_welcome 23 = .ok (.iload_n 2, 1) := by decide +kernel
theorem dX8_welcome_24 : decode cX8_welcome 24 = .ok (.putfield 73, 3) := by decide +kernel
theorem dX8_welcome_27 : decode cX8_welcome 27 = .ok (.aload 6, 2) := by decide +kernel
theorem dX8_welcome_29 : decode cX8_welcome 29 = .ok (.iload_n 3, 1) := by decide +kernel
theorem dX8_welcome_30 : decode cX8_welcome 30 = .ok (.putfield 76, 3) := by decide +kernel
theorem dX8_welcome_33 : decode cX8_welcome 33 = .ok (.aload 6, 2) := by decide +kernel
theorem dX8_welcome_35 : decode cX8_welcome 35 = .ok (.iload 4, 2) := by decide +kernel
theorem dX8_welcome_37 : decode cX8_welcome 37 = .ok (.putfield 79, 3) := by decide +kernel
theorem dX8_welcome_40 : decode cX8_welcome 40 = .ok (.aload 6, 2) := by decide +kernel
theorem dX8_welcome_42 : decode cX8_welcome 42 = .ok (.iconst 1, 1) := by decide +kernel
theorem dX8_welcome_43 : decode cX8_welcome 43 = .ok (.putfield 82, 3) := by decide +kernel
theorem dX8_welcome_46 : decode cX8_welcome 46 = .ok (.aload 6, 2) := by decide +kernel
theorem dX8_welcome_48 : decode cX8_welcome 48 = .ok (.invokevirtual 85, 3) := by decide +kernel
theorem dX8_welcome_51 : decode cX8_welcome 51 = .ok (.aload_n 0, 1) := by decide +kernel
theorem dX8_welcome_52 : decode cX8_welcome 52 = .ok (.dup, 1) := by decide +kernel
theorem dX8_welcome_53 : decode cX8_welcome 53 = .ok (.getfield 17, 3) := by decide +kernel
theorem dX8_welcome_56 : decode cX8_welcome 56 = .ok (.iconst 1, 1) := by decide +kernel
theorem dX8_welcome_57 : decode cX8_welcome 57 = .ok (.iadd, 1) := by decide +kernel
theorem dX8_welcome_58 : decode cX8_welcome 58 = .ok (.putfield 17, 3) := by decide +kernel
theorem dX8_welcome_61 : decode cX8_welcome 61 = .ok (.iload 5, 2) := by decide +kernel
theorem dX8_welcome_63 : decode cX8_welcome 63 = .ok (.ireturn, 1) := by decide +kernel
theorem dX8_drawOne_0 : decode cX8_drawOne 0 = .ok (.aload_n 0, 1) := by decide +kernel
theorem dX8_drawOne_1 : decode cX8_drawOne 1 = .ok (.invokevirtual 88, 3) := by decide +kernel
theorem dX8_drawOne_4 : decode cX8_drawOne 4 = .ok (.bipush 6, 2) := by decide +kernel
theorem dX8_drawOne_6 : decode cX8_drawOne 6 = .ok (.irem, 1) := by decide +kernel
theorem dX8_drawOne_7 : decode cX8_drawOne 7 = .ok (.istore_n 1, 1) := by decide +kernel
theorem dX8_drawOne_8 : decode cX8_drawOne 8 = .ok (.aload_n 0, 1) := by decide +kernel
theorem dX8_drawOne_9 : decode cX8_drawOne 9 = .ok (.invokevirtual 88, 3) := by decide +kernel
theorem dX8_drawOne_12 : decode cX8_drawOne 12 = .ok (.bipush 100, 2) := by decide +kernel
theorem dX8_drawOne_14 : decode cX8_drawOne 14 = .ok (.irem, 1) := by decide +kernel
theorem dX8_drawOne_15 : decode cX8_drawOne 15 = .ok (.istore_n 2, 1) := by decide +kernel
theorem dX8_drawOne_16 : decode cX8_drawOne 16 = .ok (.iconst 1, 1) := by decide +kernel
theorem dX8_drawOne_17 : decode cX8_drawOne 17 = .ok (.aload_n 0, 1) := by decide +kernel
theorem dX8_drawOne_18 : decode cX8_drawOne 18 = .ok (.invokevirtual 88, 3) := by decide +kernel
theorem dX8_drawOne_21 : decode cX8_drawOne 21 = .ok (.iconst 5, 1) := by decide +kernel
theorem dX8_drawOne_22 : decode cX8_drawOne 22 = .ok (.irem, 1) := by decide +kernel
theorem dX8_drawOne_23 : decode cX8_drawOne 23 = .ok (.iadd, 1) := by decide +kernel
theorem dX8_drawOne_24 : decode cX8_drawOne 24 = .ok (.istore_n 3, 1) := by decide +kernel
theorem dX8_drawOne_25 : decode cX8_drawOne 25 = .ok (.aload_n 0, 1) := by decide +kernel
theorem dX8_drawOne_26 : decode cX8_drawOne 26 = .ok (.invokevirtual 88, 3) := by decide +kernel
theorem dX8_drawOne_29 : decode cX8_drawOne 29 = .ok (.bipush 21, 2) := by decide +kernel
theorem dX8_drawOne_31 : decode cX8_drawOne 31 = .ok (.irem, 1) := by decide +kernel
theorem dX8_drawOne_32 : decode cX8_drawOne 32 = .ok (.bipush 10, 2) := by decide +kernel
theorem dX8_drawOne_34 : decode cX8_drawOne 34 = .ok (.isub, 1) := by decide +kernel
theorem dX8_drawOne_35 : decode cX8_drawOne 35 = .ok (.istore 4, 2) := by decide +kernel
theorem dX8_drawOne_37 : decode cX8_drawOne 37 = .ok (.aload_n 0, 1) := by decide +kernel
theorem dX8_drawOne_38 : decode cX8_drawOne 38 = .ok (.iload_n 1, 1) := by decide +kernel
theorem dX8_drawOne_39 : decode cX8_drawOne 39 = .ok (.iload_n 2, 1) := by decide +kernel
theorem dX8_drawOne_40 : decode cX8_drawOne 40 = .ok (.iload_n 3, 1) := by decide +kernel
theorem dX8_drawOne_41 : decode cX8_drawOne 41 = .ok (.iload 4, 2) := by decide +kernel
theorem dX8_drawOne_43 : decode cX8_drawOne 43 = .ok (.invokevirtual 92, 3) := by decide +kernel
theorem dX8_drawOne_46 : decode cX8_drawOne 46 = .ok (.pop, 1) := by decide +kernel
theorem dX8_drawOne_47 : decode cX8_drawOne 47 = .ok (.return_, 1) := by decide +kernel
theorem dX8_draw_0 : decode cX8_draw 0 = .ok (.aload_n 0, 1) := by decide +kernel
theorem dX8_draw_1 : decode cX8_draw 1 = .ok (.aload_n 0, 1) := by decide +kernel
theorem dX8_draw_2 : decode cX8_draw 2 = .ok (.getfield 40, 3) := by decide +kernel
theorem dX8_draw_5 : decode cX8_draw 5 = .ok (.ldc 96, 2) := by decide +kernel
theorem dX8_draw_7 : decode cX8_draw 7 = .ok (.imul, 1) := by decide +kernel
theorem dX8_draw_8 : decode cX8_draw 8 = .ok (.sipush 12345, 3) := by decide +kernel
theorem dX8_draw_11 : decode cX8_draw 11 = .ok (.iadd, 1) := by decide +kernel
theorem dX8_draw_12 : decode cX8_draw 12 = .ok (.putfield 40, 3) := by decide +kernel
theorem dX8_draw_15 : decode cX8_draw 15 = .ok (.aload_n 0, 1) := by decide +kernel
theorem dX8_draw_16 : decode cX8_draw 16 = .ok (.getfield 40, 3) := by decide +kernel
theorem dX8_draw_19 : decode cX8_draw 19 = .ok (.bipush 8, 2) := by decide +kernel
theorem dX8_draw_21 : decode cX8_draw 21 = .ok (.iushr, 1) := by decide +kernel
theorem dX8_draw_22 : decode cX8_draw 22 = .ok (.ireturn, 1) := by decide +kernel
theorem dX8_whoHear_0 : decode cX8_whoHear 0 = .ok (.iconst 0, 1) := by decide +kernel
theorem dX8_whoHear_1 : decode cX8_whoHear 1 = .ok (.istore_n 1, 1) := by decide +kernel
theorem dX8_whoHear_2 : decode cX8_whoHear 2 = .ok (.iconst 0, 1) := by decide +kernel
theorem dX8_whoHear_3 : decode cX8_whoHear 3 = .ok (.istore_n 2, 1) := by decide +kernel
theorem dX8_whoHear_4 : decode cX8_whoHear 4 = .ok (.iload_n 2, 1) := by decide +kernel
theorem dX8_whoHear_5 : decode cX8_whoHear 5 = .ok (.aload_n 0, 1) := by decide +kernel
theorem dX8_whoHear_6 : decode cX8_whoHear 6 = .ok (.getfield 17, 3) := by decide +kernel
theorem dX8_whoHear_9 : decode cX8_whoHear 9 = .ok (.if_icmp .ge 27, 3) := by decide +kernel
theorem dX8_whoHear_12 : decode cX8_whoHear 12 = .ok (.aload_n 0, 1) := by decide +kernel
theorem dX8_whoHear_13 : decode cX8_whoHear 13 = .ok (.getfield 11, 3) := by decide +kernel
theorem dX8_whoHear_16 : decode cX8_whoHear 16 = .ok (.iload_n 2, 1) := by decide +kernel
theorem dX8_whoHear_17 : decode cX8_whoHear 17 = .ok (.aaload, 1) := by decide +kernel
theorem dX8_whoHear_18 : decode cX8_whoHear 18 = .ok (.getfield 82, 3) := by decide +kernel
theorem dX8_whoHear_21 : decode cX8_whoHear 21 = .ok (.ifCond .eq 9, 3) := by decide +kernel
theorem dX8_whoHear_24 : decode cX8_whoHear 24 = .ok (.iload_n 1, 1) := by decide +kernel
theorem dX8_whoHear_25 : decode cX8_whoHear 25 = .ok (.iconst 1, 1) := by decide +kernel
theorem dX8_whoHear_26 : decode cX8_whoHear 26 = .ok (.iload_n 2, 1) := by decide +kernel
theorem dX8_whoHear_27 : decode cX8_whoHear 27 = .ok (.ishl, 1) := by decide +kernel
theorem dX8_whoHear_28 : decode cX8_whoHear 28 = .ok (.ior, 1) := by decide +kernel
theorem dX8_whoHear_29 : decode cX8_whoHear 29 = .ok (.istore_n 1, 1) := by decide +kernel
theorem dX8_whoHear_30 : decode cX8_whoHear 30 = .ok (.iinc 2 1, 3) := by decide +kernel
theorem dX8_whoHear_33 : decode cX8_whoHear 33 = .ok (.goto (-29), 3) := by decide +kernel
theorem dX8_whoHear_36 : decode cX8_whoHear 36 = .ok (.iload_n 1, 1) := by decide +kernel
theorem dX8_whoHear_37 : decode cX8_whoHear 37 = .ok (.ireturn, 1) := by decide +kernel
theorem dX8_onlyHears_0 : decode cX8_onlyHears 0 = .ok (.iconst 0, 1) := by decide +kernel
theorem dX8_onlyHears_1 : decode cX8_onlyHears 1 = .ok (.istore_n 2, 1) := by decide +kernel
theorem dX8_onlyHears_2 : decode cX8_onlyHears 2 = .ok (.iload_n 2, 1) := by decide +kernel
theorem dX8_onlyHears_3 : decode cX8_onlyHears 3 = .ok (.aload_n 0, 1) := by decide +kernel
theorem dX8_onlyHears_4 : decode cX8_onlyHears 4 = .ok (.getfield 17, 3) := by decide +kernel
theorem dX8_onlyHears_7 : decode cX8_onlyHears 7 = .ok (.if_icmp .ge 28, 3) := by decide +kernel
theorem dX8_onlyHears_10 : decode cX8_onlyHears 10 = .ok (.aload_n 0, 1) := by decide +kernel
theorem dX8_onlyHears_11 : decode cX8_onlyHears 11 = .ok (.getfield 11, 3) := by decide +kernel
theorem dX8_onlyHears_14 : decode cX8_onlyHears 14 = .ok (.iload_n 2, 1) := by decide +kernel
theorem dX8_onlyHears_15 : decode cX8_onlyHears 15 = .ok (.aaload, 1) := by decide +kernel
theorem dX8_onlyHears_16 : decode cX8_onlyHears 16 = .ok (.iload_n 2, 1) := by decide +kernel
theorem dX8_onlyHears_17 : decode cX8_onlyHears 17 = .ok (.iload_n 1, 1) := by decide +kernel
theorem dX8_onlyHears_18 : decode cX8_onlyHears 18 = .ok (.if_icmp .ne 7, 3) := by decide +kernel
theorem dX8_onlyHears_21 : decode cX8_onlyHears 21 = .ok (.iconst 1, 1) := by decide +kernel
theorem dX8_onlyHears_22 : decode cX8_onlyHears 22 = .ok (.goto 4, 3) := by decide +kernel
theorem dX8_onlyHears_25 : decode cX8_onlyHears 25 = .ok (.iconst 0, 1) := by decide +kernel
theorem dX8_onlyHears_26 : decode cX8_onlyHears 26 = .ok (.putfield 82, 3) := by decide +kernel
theorem dX8_onlyHears_29 : decode cX8_onlyHears 29 = .ok (.iinc 2 1, 3) := by decide +kernel
theorem dX8_onlyHears_32 : decode cX8_onlyHears 32 = .ok (.goto (-30), 3) := by decide +kernel
theorem dX8_onlyHears_35 : decode cX8_onlyHears 35 = .ok (.return_, 1) := by decide +kernel
theorem dX8_voice_0 : decode cX8_voice 0 = .ok (.aload_n 0, 1) := by decide +kernel
theorem dX8_voice_1 : decode cX8_voice 1 = .ok (.getfield 17, 3) := by decide +kernel
theorem dX8_voice_4 : decode cX8_voice 4 = .ok (.ifCond .ne 5, 3) := by decide +kernel
theorem dX8_voice_7 : decode cX8_voice 7 = .ok (.iconst (-1), 1) := by decide +kernel
theorem dX8_voice_8 : decode cX8_voice 8 = .ok (.ireturn, 1) := by decide +kernel
theorem dX8_voice_9 : decode cX8_voice 9 = .ok (.aload_n 0, 1) := by decide +kernel
theorem dX8_voice_10 : decode cX8_voice 10 = .ok (.getfield 24, 3) := by decide +kernel
theorem dX8_voice_13 : decode cX8_voice 13 = .ok (.ifCond .ne 8, 3) := by decide +kernel
theorem dX8_voice_16 : decode cX8_voice 16 = .ok (.aload_n 0, 1) := by decide +kernel
theorem dX8_voice_17 : decode cX8_voice 17 = .ok (.invokevirtual 97, 3) := by decide +kernel
theorem dX8_voice_20 : decode cX8_voice 20 = .ok (.ireturn, 1) := by decide +kernel
theorem dX8_voice_21 : decode cX8_voice 21 = .ok (.aload_n 0, 1) := by decide +kernel
theorem dX8_voice_22 : decode cX8_voice 22 = .ok (.getfield 24, 3) := by decide +kernel
theorem dX8_voice_25 : decode cX8_voice 25 = .ok (.iconst 1, 1) := by decide +kernel
theorem dX8_voice_26 : decode cX8_voice 26 = .ok (.if_icmp .ne 10, 3) := by decide +kernel
theorem dX8_voice_29 : decode cX8_voice 29 = .ok (.aload_n 0, 1) := by decide +kernel
theorem dX8_voice_30 : decode cX8_voice 30 = .ok (.invokevirtual 100, 3) := by decide +kernel
theorem dX8_voice_33 : decode cX8_voice 33 = .ok (.goto 7, 3) := by decide +kernel
theorem dX8_voice_36 : decode cX8_voice 36 = .ok (.aload_n 0, 1) := by decide +kernel
theorem dX8_voice_37 : decode cX8_voice 37 = .ok (.invokevirtual 103, 3) := by decide +kernel
theorem dX8_voice_40 : decode cX8_voice 40 = .ok (.ireturn, 1) := by decide +kernel
theorem dX8_mean_0 : decode cX8_mean 0 = .ok (.iconst 0, 1) := by decide +kernel
theorem dX8_mean_1 : decode cX8_mean 1 = .ok (.istore_n 1, 1) := by decide +kernel
theorem dX8_mean_2 : decode cX8_mean 2 = .ok (.iconst 0, 1) := by decide +kernel
theorem dX8_mean_3 : decode cX8_mean 3 = .ok (.istore_n 2, 1) := by decide +kernel
theorem dX8_mean_4 : decode cX8_mean 4 = .ok (.iload_n 2, 1) := by decide +kernel
theorem dX8_mean_5 : decode cX8_mean 5 = .ok (.aload_n 0, 1) := by decide +kernel
theorem dX8_mean_6 : decode cX8_mean 6 = .ok (.getfield 17, 3) := by decide +kernel
theorem dX8_mean_9 : decode cX8_mean 9 = .ok (.if_icmp .ge 31, 3) := by decide +kernel
theorem dX8_mean_12 : decode cX8_mean 12 = .ok (.iload_n 1, 1) := by decide +kernel
theorem dX8_mean_13 : decode cX8_mean 13 = .ok (.aload_n 0, 1) := by decide +kernel
theorem dX8_mean_14 : decode cX8_mean 14 = .ok (.getfield 11, 3) := by decide +kernel
theorem dX8_mean_17 : decode cX8_mean 17 = .ok (.iload_n 2, 1) := by decide +kernel
theorem dX8_mean_18 : decode cX8_mean 18 = .ok (.aaload, 1) := by decide +kernel
theorem dX8_mean_19 : decode cX8_mean 19 = .ok (.getfield 73, 3) := by decide +kernel
theorem dX8_mean_22 : decode cX8_mean 22 = .ok (.aload_n 0, 1) := by decide +kernel
theorem dX8_mean_23 : decode cX8_mean 23 = .ok (.getfield 11, 3) := by decide +kernel
theorem dX8_mean_26 : decode cX8_mean 26 = .ok (.iload_n 2, 1) := by decide +kernel
theorem dX8_mean_27 : decode cX8_mean 27 = .ok (.aaload, 1) := by decide +kernel
theorem dX8_mean_28 : decode cX8_mean 28 = .ok (.getfield 76, 3) := by decide +kernel
theorem dX8_mean_31 : decode cX8_mean 31 = .ok (.imul, 1) := by decide +kernel
theorem dX8_mean_32 : decode cX8_mean 32 = .ok (.iadd, 1) := by decide +kernel
theorem dX8_mean_33 : decode cX8_mean 33 = .ok (.istore_n 1, 1) := by decide +kernel
theorem dX8_mean_34 : decode cX8_mean 34 = .ok (.iinc 2 1, 3) := by decide +kernel
theorem dX8_mean_37 : decode cX8_mean 37 = .ok (.goto (-33), 3) := by decide +kernel
theorem dX8_mean_40 : decode cX8_mean 40 = .ok (.aload_n 0, 1) := by decide +kernel
theorem dX8_mean_41 : decode cX8_mean 41 = .ok (.bipush 99, 2) := by decide +kernel
theorem dX8_mean_43 : decode cX8_mean 43 = .ok (.invokevirtual 106, 3) := by decide +kernel
theorem dX8_mean_46 : decode cX8_mean 46 = .ok (.istore_n 2, 1) := by decide +kernel
theorem dX8_mean_47 : decode cX8_mean 47 = .ok (.iload_n 2, 1) := by decide +kernel
theorem dX8_mean_48 : decode cX8_mean 48 = .ok (.ifCond .ne 7, 3) := by decide +kernel
theorem dX8_mean_51 : decode cX8_mean 51 = .ok (.iconst (-1), 1) := by decide +kernel
theorem dX8_mean_52 : decode cX8_mean 52 = .ok (.goto 6, 3) := by decide +kernel
theorem dX8_mean_55 : decode cX8_mean 55 = .ok (.iload_n 1, 1) := by decide +kernel
theorem dX8_mean_56 : decode cX8_mean 56 = .ok (.iload_n 2, 1) := by decide +kernel
theorem dX8_mean_57 : decode cX8_mean 57 = .ok (.idiv, 1) := by decide +kernel
theorem dX8_mean_58 : decode cX8_mean 58 = .ok (.ireturn, 1) := by decide +kernel
theorem dX8_middle_0 : decode cX8_middle 0 = .ok (.aload_n 0, 1) := by decide +kernel
theorem dX8_middle_1 : decode cX8_middle 1 = .ok (.bipush 99, 2) := by decide +kernel
theorem dX8_middle_3 : decode cX8_middle 3 = .ok (.invokevirtual 106, 3) := by decide +kernel
theorem dX8_middle_6 : decode cX8_middle 6 = .ok (.iconst 2, 1) := by decide +kernel
theorem dX8_middle_7 : decode cX8_middle 7 = .ok (.idiv, 1) := by decide +kernel
theorem dX8_middle_8 : decode cX8_middle 8 = .ok (.istore_n 1, 1) := by decide +kernel
theorem dX8_middle_9 : decode cX8_middle 9 = .ok (.bipush 99, 2) := by decide +kernel
theorem dX8_middle_11 : decode cX8_middle 11 = .ok (.istore_n 2, 1) := by decide +kernel
theorem dX8_middle_12 : decode cX8_middle 12 = .ok (.iconst 0, 1) := by decide +kernel
theorem dX8_middle_13 : decode cX8_middle 13 = .ok (.istore_n 3, 1) := by decide +kernel
theorem dX8_middle_14 : decode cX8_middle 14 = .ok (.iload_n 3, 1) := by decide +kernel
theorem dX8_middle_15 : decode cX8_middle 15 = .ok (.aload_n 0, 1) := by decide +kernel
theorem dX8_middle_16 : decode cX8_middle 16 = .ok (.getfield 17, 3) := by decide +kernel
theorem dX8_middle_19 : decode cX8_middle 19 = .ok (.if_icmp .ge 39, 3) := by decide +kernel
theorem dX8_middle_22 : decode cX8_middle 22 = .ok (.aload_n 0, 1) := by decide +kernel
theorem dX8_middle_23 : decode cX8_middle 23 = .ok (.getfield 11, 3) := by decide +kernel
theorem dX8_middle_26 : decode cX8_middle 26 = .ok (.iload_n 3, 1) := by decide +kernel
theorem dX8_middle_27 : decode cX8_middle 27 = .ok (.aaload, 1) := by decide +kernel
theorem dX8_middle_28 : decode cX8_middle 28 = .ok (.getfield 73, 3) := by decide +kernel
theorem dX8_middle_31 : decode cX8_middle 31 = .ok (.istore 4, 2) := by decide +kernel
theorem dX8_middle_33 : decode cX8_middle 33 = .ok (.iload 4, 2) := by decide +kernel
theorem dX8_middle_35 : decode cX8_middle 35 = .ok (.iload_n 2, 1) := by decide +kernel
theorem dX8_middle_36 : decode cX8_middle 36 = .ok (.if_icmp .ge 16, 3) := by decide +kernel
theorem dX8_middle_39 : decode cX8_middle 39 = .ok (.aload_n 0, 1) := by decide +kernel
theorem dX8_middle_40 : decode cX8_middle 40 = .ok (.iload 4, 2) := by decide +kernel
theorem dX8_middle_42 : decode cX8_middle 42 = .ok (.invokevirtual 106, 3) := by decide +kernel
theorem dX8_middle_45 : decode cX8_middle 45 = .ok (.iload_n 1, 1) := by decide +kernel
theorem dX8_middle_46 : decode cX8_middle 46 = .ok (.if_icmp .le 6, 3) := by decide +kernel
theorem dX8_middle_49 : decode cX8_middle 49 = .ok (.iload 4, 2) := by decide +kernel
theorem dX8_middle_51 : decode cX8_middle 51 = .ok (.istore_n 2, 1) := by decide +kernel
theorem dX8_middle_52 : decode cX8_middle 52 = .ok (.iinc 3 1, 3) := by decide +kernel
theorem dX8_middle_55 : decode cX8_middle 55 = .ok (.goto (-41), 3) := by decide +kernel
theorem dX8_middle_58 : decode cX8_middle 58 = .ok (.iload_n 2, 1) := by decide +kernel
theorem dX8_middle_59 : decode cX8_middle 59 = .ok (.ireturn, 1) := by decide +kernel
theorem dX8_weightUpTo_0 : decode cX8_weightUpTo 0 = .ok (.iconst 0, 1) := by decide +kernel
theorem dX8_weightUpTo_1 : decode cX8_weightUpTo 1 = .ok (.istore_n 2, 1) := by decide +kernel
theorem dX8_weightUpTo_2 : decode cX8_weightUpTo 2 = .ok (.iconst 0, 1) := by decide +kernel
theorem dX8_weightUpTo_3 : decode cX8_weightUpTo 3 = .ok (.istore_n 3, 1) := by decide +kernel
theorem dX8_weightUpTo_4 : decode cX8_weightUpTo 4 = .ok (.iload_n 3, 1) := by decide +kernel
theorem dX8_weightUpTo_5 : decode cX8_weightUpTo 5 = .ok (.aload_n 0, 1) := by decide +kernel
theorem dX8_weightUpTo_6 : decode cX8_weightUpTo 6 = .ok (.getfield 17, 3) := by decide +kernel
theorem dX8_weightUpTo_9 : decode cX8_weightUpTo 9 = .ok (.if_icmp .ge 34, 3) := by decide +kernel
theorem dX8_weightUpTo_12 : decode cX8_weightUpTo 12 = .ok (.aload_n 0, 1) := by decide +kernel
theorem dX8_weightUpTo_13 : decode cX8_weightUpTo 13 = .ok (.getfield 11, 3) := by decide +kernel
theorem dX8_weightUpTo_16 : decode cX8_weightUpTo 16 = .ok (.iload_n 3, 1) := by decide +kernel
theorem dX8_weightUpTo_17 : decode cX8_weightUpTo 17 = .ok (.aaload, 1) := by decide +kernel
theorem dX8_weightUpTo_18 : decode cX8_weightUpTo 18 = .ok (.getfield 73, 3) := by decide +kernel
theorem dX8_weightUpTo_21 : decode cX8_weightUpTo 21 = .ok (.iload_n 1, 1) := by decide +kernel
theorem dX8_weightUpTo_22 : decode cX8_weightUpTo 22 = .ok (.if_icmp .gt 15, 3) := by decide +kernel
theorem dX8_weightUpTo_25 : decode cX8_weightUpTo 25 = .ok (.iload_n 2, 1) := by decide +kernel
theorem dX8_weightUpTo_26 : decode cX8_weightUpTo 26 = .ok (.aload_n 0, 1) := by decide +kernel
theorem dX8_weightUpTo_27 : decode cX8_weightUpTo 27 = .ok (.getfield 11, 3) := by decide +kernel
theorem dX8_weightUpTo_30 : decode cX8_weightUpTo 30 = .ok (.iload_n 3, 1) := by decide +kernel
theorem dX8_weightUpTo_31 : decode cX8_weightUpTo 31 = .ok (.aaload, 1) := by decide +kernel
theorem dX8_weightUpTo_32 : decode cX8_weightUpTo 32 = .ok (.getfield 76, 3) := by decide +kernel
theorem dX8_weightUpTo_35 : decode cX8_weightUpTo 35 = .ok (.iadd, 1) := by decide +kernel
theorem dX8_weightUpTo_36 : decode cX8_weightUpTo 36 = .ok (.istore_n 2, 1) := by decide +kernel
theorem dX8_weightUpTo_37 : decode cX8_weightUpTo 37 = .ok (.iinc 3 1, 3) := by decide +kernel
theorem dX8_weightUpTo_40 : decode cX8_weightUpTo 40 = .ok (.goto (-36), 3) := by decide +kernel
theorem dX8_weightUpTo_43 : decode cX8_weightUpTo 43 = .ok (.iload_n 2, 1) := by decide +kernel
theorem dX8_weightUpTo_44 : decode cX8_weightUpTo 44 = .ok (.ireturn, 1) := by decide +kernel
theorem dX8_greatest_0 : decode cX8_greatest 0 = .ok (.iconst 0, 1) := by decide +kernel
theorem dX8_greatest_1 : decode cX8_greatest 1 = .ok (.istore_n 1, 1) := by decide +kernel
theorem dX8_greatest_2 : decode cX8_greatest 2 = .ok (.iconst 0, 1) := by decide +kernel
theorem dX8_greatest_3 : decode cX8_greatest 3 = .ok (.istore_n 2, 1) := by decide +kernel
theorem dX8_greatest_4 : decode cX8_greatest 4 = .ok (.iload_n 2, 1) := by decide +kernel
theorem dX8_greatest_5 : decode cX8_greatest 5 = .ok (.aload_n 0, 1) := by decide +kernel
theorem dX8_greatest_6 : decode cX8_greatest 6 = .ok (.getfield 17, 3) := by decide +kernel
theorem dX8_greatest_9 : decode cX8_greatest 9 = .ok (.if_icmp .ge 23, 3) := by decide +kernel
theorem dX8_greatest_12 : decode cX8_greatest 12 = .ok (.iload_n 1, 1) := by decide +kernel
theorem dX8_greatest_13 : decode cX8_greatest 13 = .ok (.aload_n 0, 1) := by decide +kernel
theorem dX8_greatest_14 : decode cX8_greatest 14 = .ok (.getfield 11, 3) := by decide +kernel
theorem dX8_greatest_17 : decode cX8_greatest 17 = .ok (.iload_n 2, 1) := by decide +kernel
theorem dX8_greatest_18 : decode cX8_greatest 18 = .ok (.aaload, 1) := by decide +kernel
theorem dX8_greatest_19 : decode cX8_greatest 19 = .ok (.getfield 73, 3) := by decide +kernel
theorem dX8_greatest_22 : decode cX8_greatest 22 = .ok (.invokestatic 110, 3) := by decide +kernel
theorem dX8_greatest_25 : decode cX8_greatest 25 = .ok (.istore_n 1, 1) := by decide +kernel
theorem dX8_greatest_26 : decode cX8_greatest 26 = .ok (.iinc 2 1, 3) := by decide +kernel
theorem dX8_greatest_29 : decode cX8_greatest 29 = .ok (.goto (-25), 3) := by decide +kernel
theorem dX8_greatest_32 : decode cX8_greatest 32 = .ok (.iload_n 1, 1) := by decide +kernel
theorem dX8_greatest_33 : decode cX8_greatest 33 = .ok (.ireturn, 1) := by decide +kernel
theorem dX8_attempt_0 : decode cX8_attempt 0 = .ok (.aload_n 0, 1) := by decide +kernel
theorem dX8_attempt_1 : decode cX8_attempt 1 = .ok (.getfield 33, 3) := by decide +kernel
theorem dX8_attempt_4 : decode cX8_attempt 4 = .ok (.ifCond .ne 17, 3) := by decide +kernel
theorem dX8_attempt_7 : decode cX8_attempt 7 = .ok (.aload_n 0, 1) := by decide +kernel
theorem dX8_attempt_8 : decode cX8_attempt 8 = .ok (.getfield 17, 3) := by decide +kernel
theorem dX8_attempt_11 : decode cX8_attempt 11 = .ok (.ifCond .eq 10, 3) := by decide +kernel
theorem dX8_attempt_14 : decode cX8_attempt 14 = .ok (.aload_n 0, 1) := by decide +kernel
theorem dX8_attempt_15 : decode cX8_attempt 15 = .ok (.getfield 30, 3) := by decide +kernel
theorem dX8_attempt_18 : decode cX8_attempt 18 = .ok (.ifCond .ne 5, 3) := by decide +kernel
theorem dX8_attempt_21 : decode cX8_attempt 21 = .ok (.iconst 0, 1) := by decide +kernel
theorem dX8_attempt_22 : decode cX8_attempt 22 = .ok (.ireturn, 1) := by decide +kernel
theorem dX8_attempt_23 : decode cX8_attempt 23 = .ok (.aload_n 0, 1) := by decide +kernel
theorem dX8_attempt_24 : decode cX8_attempt 24 = .ok (.dup, 1) := by decide +kernel
theorem dX8_attempt_25 : decode cX8_attempt 25 = .ok (.getfield 30, 3) := by decide +kernel
theorem dX8_attempt_28 : decode cX8_attempt 28 = .ok (.iconst 1, 1) := by decide +kernel
theorem dX8_attempt_29 : decode cX8_attempt 29 = .ok (.isub, 1) := by decide +kernel
theorem dX8_attempt_30 : decode cX8_attempt 30 = .ok (.putfield 30, 3) := by decide +kernel
theorem dX8_attempt_33 : decode cX8_attempt 33 = .ok (.aload_n 0, 1) := by decide +kernel
theorem dX8_attempt_34 : decode cX8_attempt 34 = .ok (.dup, 1) := by decide +kernel
theorem dX8_attempt_35 : decode cX8_attempt 35 = .ok (.getfield 37, 3) := by decide +kernel
theorem dX8_attempt_38 : decode cX8_attempt 38 = .ok (.iconst 1, 1) := by decide +kernel
theorem dX8_attempt_39 : decode cX8_attempt 39 = .ok (.iadd, 1) := by decide +kernel
theorem dX8_attempt_40 : decode cX8_attempt 40 = .ok (.putfield 37, 3) := by decide +kernel
theorem dX8_attempt_43 : decode cX8_attempt 43 = .ok (.aload_n 0, 1) := by decide +kernel
theorem dX8_attempt_44 : decode cX8_attempt 44 = .ok (.invokevirtual 116, 3) := by decide +kernel
theorem dX8_attempt_47 : decode cX8_attempt 47 = .ok (.pop, 1) := by decide +kernel
theorem dX8_attempt_48 : decode cX8_attempt 48 = .ok (.iconst 1, 1) := by decide +kernel
theorem dX8_attempt_49 : decode cX8_attempt 49 = .ok (.ireturn, 1) := by decide +kernel
theorem dX8_turn_0 : decode cX8_turn 0 = .ok (.aload_n 0, 1) := by decide +kernel
theorem dX8_turn_1 : decode cX8_turn 1 = .ok (.invokevirtual 119, 3) := by decide +kernel
theorem dX8_turn_4 : decode cX8_turn 4 = .ok (.istore_n 1, 1) := by decide +kernel
theorem dX8_turn_5 : decode cX8_turn 5 = .ok (.iload_n 1, 1) := by decide +kernel
theorem dX8_turn_6 : decode cX8_turn 6 = .ok (.aload_n 0, 1) := by decide +kernel
theorem dX8_turn_7 : decode cX8_turn 7 = .ok (.getfield 21, 3) := by decide +kernel
theorem dX8_turn_10 : decode cX8_turn 10 = .ok (.invokestatic 122, 3) := by decide +kernel
theorem dX8_turn_13 : decode cX8_turn 13 = .ok (.istore_n 2, 1) := by decide +kernel
theorem dX8_turn_14 : decode cX8_turn 14 = .ok (.iload_n 2, 1) := by decide +kernel
theorem dX8_turn_15 : decode cX8_turn 15 = .ok (.ifCond .ne 10, 3) := by decide +kernel
theorem dX8_turn_18 : decode cX8_turn 18 = .ok (.aload_n 0, 1) := by decide +kernel
theorem dX8_turn_19 : decode cX8_turn 19 = .ok (.iconst 1, 1) := by decide +kernel
theorem dX8_turn_20 : decode cX8_turn 20 = .ok (.putfield 33, 3) := by decide +kernel
theorem dX8_turn_23 : decode cX8_turn 23 = .ok (.iconst 0, 1) := by decide +kernel
theorem dX8_turn_24 : decode cX8_turn 24 = .ok (.ireturn, 1) := by decide +kernel
theorem dX8_turn_25 : decode cX8_turn 25 = .ok (.aload_n 0, 1) := by decide +kernel
theorem dX8_turn_26 : decode cX8_turn 26 = .ok (.iload_n 1, 1) := by decide +kernel
theorem dX8_turn_27 : decode cX8_turn 27 = .ok (.iload_n 2, 1) := by decide +kernel
theorem dX8_turn_28 : decode cX8_turn 28 = .ok (.ifCond .le 7, 3) := by decide +kernel
theorem dX8_turn_31 : decode cX8_turn 31 = .ok (.iconst 1, 1) := by decide +kernel
theorem dX8_turn_32 : decode cX8_turn 32 = .ok (.goto 4, 3) := by decide +kernel
theorem dX8_turn_35 : decode cX8_turn 35 = .ok (.iconst 0, 1) := by decide +kernel
theorem dX8_turn_36 : decode cX8_turn 36 = .ok (.invokevirtual 127, 3) := by decide +kernel
theorem dX8_turn_39 : decode cX8_turn 39 = .ok (.aload_n 0, 1) := by decide +kernel
theorem dX8_turn_40 : decode cX8_turn 40 = .ok (.aload_n 0, 1) := by decide +kernel
theorem dX8_turn_41 : decode cX8_turn 41 = .ok (.aload_n 0, 1) := by decide +kernel
theorem dX8_turn_42 : decode cX8_turn 42 = .ok (.getfield 21, 3) := by decide +kernel
theorem dX8_turn_45 : decode cX8_turn 45 = .ok (.iconst 1, 1) := by decide +kernel
theorem dX8_turn_46 : decode cX8_turn 46 = .ok (.invokevirtual 131, 3) := by decide +kernel
theorem dX8_turn_49 : decode cX8_turn 49 = .ok (.putfield 21, 3) := by decide +kernel
theorem dX8_turn_52 : decode cX8_turn 52 = .ok (.iload_n 2, 1) := by decide +kernel
theorem dX8_turn_53 : decode cX8_turn 53 = .ok (.ireturn, 1) := by decide +kernel
theorem dX8_spread_0 : decode cX8_spread 0 = .ok (.aload_n 0, 1) := by decide +kernel
theorem dX8_spread_1 : decode cX8_spread 1 = .ok (.getfield 46, 3) := by decide +kernel
theorem dX8_spread_4 : decode cX8_spread 4 = .ok (.iconst 0, 1) := by decide +kernel
theorem dX8_spread_5 : decode cX8_spread 5 = .ok (.iaload, 1) := by decide +kernel
theorem dX8_spread_6 : decode cX8_spread 6 = .ok (.istore_n 3, 1) := by decide +kernel
theorem dX8_spread_7 : decode cX8_spread 7 = .ok (.iconst 0, 1) := by decide +kernel
theorem dX8_spread_8 : decode cX8_spread 8 = .ok (.istore 4, 2) := by decide +kernel
theorem dX8_spread_10 : decode cX8_spread 10 = .ok (.iload 4, 2) := by decide +kernel
theorem dX8_spread_12 : decode cX8_spread 12 = .ok (.aload_n 0, 1) := by decide +kernel
theorem dX8_spread_13 : decode cX8_spread 13 = .ok (.getfield 17, 3) := by decide +kernel
theorem dX8_spread_16 : decode cX8_spread 16 = .ok (.if_icmp .ge 40, 3) := by decide +kernel
theorem dX8_spread_19 : decode cX8_spread 19 = .ok (.aload_n 0, 1) := by decide +kernel
theorem dX8_spread_20 : decode cX8_spread 20 = .ok (.getfield 11, 3) := by decide +kernel
theorem dX8_spread_23 : decode cX8_spread 23 = .ok (.iload 4, 2) := by decide +kernel
theorem dX8_spread_25 : decode cX8_spread 25 = .ok (.aaload, 1) := by decide +kernel
theorem dX8_spread_26 : decode cX8_spread 26 = .ok (.astore 5, 2) := by decide +kernel
theorem dX8_spread_28 : decode cX8_spread 28 = .ok (.aload 5, 2) := by decide +kernel
theorem dX8_spread_30 : decode cX8_spread 30 = .ok (.iload_n 1, 1) := by decide +kernel
theorem dX8_spread_31 : decode cX8_spread 31 = .ok (.iload_n 2, 1) := by decide +kernel
theorem dX8_spread_32 : decode cX8_spread 32 = .ok (.invokevirtual 134, 3) := by decide +kernel
theorem dX8_spread_35 : decode cX8_spread 35 = .ok (.aload 5, 2) := by decide +kernel
theorem dX8_spread_37 : decode cX8_spread 37 = .ok (.aload 5, 2) := by decide +kernel
theorem dX8_spread_39 : decode cX8_spread 39 = .ok (.aload_n 0, 1) := by decide +kernel
theorem dX8_spread_40 : decode cX8_spread 40 = .ok (.getfield 50, 3) := by decide +kernel
theorem dX8_spread_43 : decode cX8_spread 43 = .ok (.iload_n 3, 1) := by decide +kernel
theorem dX8_spread_44 : decode cX8_spread 44 = .ok (.invokevirtual 137, 3) := by decide +kernel
theorem dX8_spread_47 : decode cX8_spread 47 = .ok (.putfield 73, 3) := by decide +kernel
theorem dX8_spread_50 : decode cX8_spread 50 = .ok (.iinc 4 1, 3) := by decide +kernel
theorem dX8_spread_53 : decode cX8_spread 53 = .ok (.goto (-43), 3) := by decide +kernel
theorem dX8_spread_56 : decode cX8_spread 56 = .ok (.return_, 1) := by decide +kernel
theorem dX8_drifted_0 : decode cX8_drifted 0 = .ok (.iload_n 1, 1) := by decide +kernel
theorem dX8_drifted_1 : decode cX8_drifted 1 = .ok (.aload_n 0, 1) := by decide +kernel
theorem dX8_drifted_2 : decode cX8_drifted 2 = .ok (.getfield 27, 3) := by decide +kernel
theorem dX8_drifted_5 : decode cX8_drifted 5 = .ok (.iload_n 2, 1) := by decide +kernel
theorem dX8_drifted_6 : decode cX8_drifted 6 = .ok (.imul, 1) := by decide +kernel
theorem dX8_drifted_7 : decode cX8_drifted 7 = .ok (.iadd, 1) := by decide +kernel
theorem dX8_drifted_8 : decode cX8_drifted 8 = .ok (.bipush 100, 2) := by decide +kernel
theorem dX8_drifted_10 : decode cX8_drifted 10 = .ok (.invokestatic 141, 3) := by decide +kernel
theorem dX8_drifted_13 : decode cX8_drifted 13 = .ok (.ireturn, 1) := by decide +kernel
theorem dX8_wouldAnswer_0 : decode cX8_wouldAnswer 0 = .ok (.aload_n 0, 1) := by decide +kernel
theorem dX8_wouldAnswer_1 : decode cX8_wouldAnswer 1 = .ok (.iload_n 1, 1) := by decide +kernel
theorem dX8_wouldAnswer_2 : decode cX8_wouldAnswer 2 = .ok (.putfield 21, 3) := by decide +kernel
theorem dX8_wouldAnswer_5 : decode cX8_wouldAnswer 5 = .ok (.iconst 0, 1) := by decide +kernel
theorem dX8_wouldAnswer_6 : decode cX8_wouldAnswer 6 = .ok (.istore_n 3, 1) := by decide +kernel
theorem dX8_wouldAnswer_7 : decode cX8_wouldAnswer 7 = .ok (.iload_n 3, 1) := by decide +kernel
theorem dX8_wouldAnswer_8 : decode cX8_wouldAnswer 8 = .ok (.aload_n 2, 1) := by decide +kernel
theorem dX8_wouldAnswer_9 : decode cX8_wouldAnswer 9 = .ok (.getfield 144, 3) := by decide +kernel
theorem dX8_wouldAnswer_12 : decode cX8_wouldAnswer 12 = .ok (.if_icmp .ge 50, 3) := by decide +kernel
theorem dX8_wouldAnswer_15 : decode cX8_wouldAnswer 15 = .ok (.aload_n 0, 1) := by decide +kernel
theorem dX8_wouldAnswer_16 : decode cX8_wouldAnswer 16 = .ok (.getfield 33, 3) := by decide +kernel
theorem dX8_wouldAnswer_19 : decode cX8_wouldAnswer 19 = .ok (.ifCond .eq 7, 3) := by decide +kernel
theorem dX8_wouldAnswer_22 : decode cX8_wouldAnswer 22 = .ok (.iconst 0, 1) := by decide +kernel
theorem dX8_wouldAnswer_23 : decode cX8_wouldAnswer 23 = .ok (.goto 7, 3) := by decide +kernel
theorem dX8_wouldAnswer_26 : decode cX8_wouldAnswer 26 = .ok (.aload_n 0, 1) := by decide +kernel
theorem dX8_wouldAnswer_27 : decode cX8_wouldAnswer 27 = .ok (.invokevirtual 116, 3) := by decide +kernel
theorem dX8_wouldAnswer_30 : decode cX8_wouldAnswer 30 = .ok (.istore 4, 2) := by decide +kernel
theorem dX8_wouldAnswer_32 : decode cX8_wouldAnswer 32 = .ok (.aload_n 2, 1) := by decide +kernel
theorem dX8_wouldAnswer_33 : decode cX8_wouldAnswer 33 = .ok (.getfield 147, 3) := by decide +kernel
theorem dX8_wouldAnswer_36 : decode cX8_wouldAnswer 36 = .ok (.iload_n 3, 1) := by decide +kernel
theorem dX8_wouldAnswer_37 : decode cX8_wouldAnswer 37 = .ok (.iaload, 1) := by decide +kernel
theorem dX8_wouldAnswer_38 : decode cX8_wouldAnswer 38 = .ok (.ldc 150, 2) := by decide +kernel
theorem dX8_wouldAnswer_40 : decode cX8_wouldAnswer 40 = .ok (.if_icmp .eq 16, 3) := by decide +kernel
theorem dX8_wouldAnswer_43 : decode cX8_wouldAnswer 43 = .ok (.aload_n 2, 1) := by decide +kernel
theorem dX8_wouldAnswer_44 : decode cX8_wouldAnswer 44 = .ok (.getfield 147, 3) := by decide +kernel
theorem dX8_wouldAnswer_47 : decode cX8_wouldAnswer 47 = .ok (.iload_n 3, 1) := by decide +kernel
theorem dX8_wouldAnswer_48 : decode cX8_wouldAnswer 48 = .ok (.iaload, 1) := by decide +kernel
theorem dX8_wouldAnswer_49 : decode cX8_wouldAnswer 49 = .ok (.iload 4, 2) := by decide +kernel
theorem dX8_wouldAnswer_51 : decode cX8_wouldAnswer 51 = .ok (.if_icmp .eq 5, 3) := by decide +kernel
theorem dX8_wouldAnswer_54 : decode cX8_wouldAnswer 54 = .ok (.iconst 0, 1) := by decide +kernel
theorem dX8_wouldAnswer_55 : decode cX8_wouldAnswer 55 = .ok (.ireturn, 1) := by decide +kernel
theorem dX8_wouldAnswer_56 : decode cX8_wouldAnswer 56 = .ok (.iinc 3 1, 3) := by decide +kernel
theorem dX8_wouldAnswer_59 : decode cX8_wouldAnswer 59 = .ok (.goto (-52), 3) := by decide +kernel
theorem dX8_wouldAnswer_62 : decode cX8_wouldAnswer 62 = .ok (.iconst 1, 1) := by decide +kernel
theorem dX8_wouldAnswer_63 : decode cX8_wouldAnswer 63 = .ok (.ireturn, 1) := by decide +kernel
theorem dX9_init_0 : decode cX9_init 0 = .ok (.aload_n 0, 1) := by decide +kernel
theorem dX9_init_1 : decode cX9_init 1 = .ok (.invokespecial 3, 3) := by decide +kernel
theorem dX9_init_4 : decode cX9_init 4 = .ok (.aload_n 0, 1) := by decide +kernel
theorem dX9_init_5 : decode cX9_init 5 = .ok (.new 9, 3) := by decide +kernel
theorem dX9_init_8 : decode cX9_init 8 = .ok (.dup, 1) := by decide +kernel
theorem dX9_init_9 : decode cX9_init 9 = .ok (.invokespecial 11, 3) := by decide +kernel
theorem dX9_init_12 : decode cX9_init 12 = .ok (.putfield 12, 3) := by decide +kernel
theorem dX9_init_15 : decode cX9_init 15 = .ok (.aload_n 0, 1) := by decide +kernel
theorem dX9_init_16 : decode cX9_init 16 = .ok (.new 16, 3) := by decide +kernel
theorem dX9_init_19 : decode cX9_init 19 = .ok (.dup, 1) := by decide +kernel
theorem dX9_init_20 : decode cX9_init 20 = .ok (.aload_n 0, 1) := by decide +kernel
theorem dX9_init_21 : decode cX9_init 21 = .ok (.getfield 12, 3) := by decide +kernel
theorem dX9_init_24 : decode cX9_init 24 = .ok (.invokespecial 18, 3) := by decide +kernel
theorem dX9_init_27 : decode cX9_init 27 = .ok (.putfield 21, 3) := by decide +kernel
theorem dX9_init_30 : decode cX9_init 30 = .ok (.aload_n 0, 1) := by decide +kernel
theorem dX9_init_31 : decode cX9_init 31 = .ok (.new 16, 3) := by decide +kernel
theorem dX9_init_34 : decode cX9_init 34 = .ok (.dup, 1) := by decide +kernel
theorem dX9_init_35 : decode cX9_init 35 = .ok (.aload_n 0, 1) := by decide +kernel
theorem dX9_init_36 : decode cX9_init 36 = .ok (.getfield 12, 3) := by decide +kernel
theorem dX9_init_39 : decode cX9_init 39 = .ok (.invokespecial 18, 3) := by decide +kernel
theorem dX9_init_42 : decode cX9_init 42 = .ok (.putfield 25, 3) := by decide +kernel
theorem dX9_init_45 : decode cX9_init 45 = .ok (.aload_n 0, 1) := by decide +kernel
theorem dX9_init_46 : decode cX9_init 46 = .ok (.new 28, 3) := by decide +kernel
theorem dX9_init_49 : decode cX9_init 49 = .ok (.dup, 1) := by decide +kernel
theorem dX9_init_50 : decode cX9_init 50 = .ok (.aload_n 0, 1) := by decide +kernel
theorem dX9_init_51 : decode cX9_init 51 = .ok (.getfield 12, 3) := by decide +kernel
theorem dX9_init_54 : decode cX9_init 54 = .ok (.invokespecial 30, 3) := by decide +kernel
theorem dX9_init_57 : decode cX9_init 57 = .ok (.putfield 31, 3) := by decide +kernel
theorem dX9_init_60 : decode cX9_init 60 = .ok (.aload_n 0, 1) := by decide +kernel
theorem dX9_init_61 : decode cX9_init 61 = .ok (.new 35, 3) := by decide +kernel
theorem dX9_init_64 : decode cX9_init 64 = .ok (.dup, 1) := by decide +kernel
theorem dX9_init_65 : decode cX9_init 65 = .ok (.invokespecial 37, 3) := by decide +kernel
theorem dX9_init_68 : decode cX9_init 68 = .ok (.putfield 38, 3) := by decide +kernel
theorem dX9_init_71 : decode cX9_init 71 = .ok (.aload_n 0, 1) := by decide +kernel
theorem dX9_init_72 : decode cX9_init 72 = .ok (.new 42, 3) := by decide +kernel
theorem dX9_init_75 : decode cX9_init 75 = .ok (.dup, 1) := by decide +kernel
theorem dX9_init_76 : decode cX9_init 76 = .ok (.aload_n 0, 1) := by decide +kernel
theorem dX9_init_77 : decode cX9_init 77 = .ok (.getfield 38, 3) := by decide +kernel
theorem dX9_init_80 : decode cX9_init 80 = .ok (.invokespecial 44, 3) := by decide +kernel
theorem dX9_init_83 : decode cX9_init 83 = .ok (.putfield 47, 3) := by decide +kernel
theorem dX9_init_86 : decode cX9_init 86 = .ok (.aload_n 0, 1) := by decide +kernel
theorem dX9_init_87 : decode cX9_init 87 = .ok (.iconst 4, 1) := by decide +kernel
theorem dX9_init_88 : decode cX9_init 88 = .ok (.anewarray 51, 3) := by decide +kernel
theorem dX9_init_91 : decode cX9_init 91 = .ok (.putfield 53, 3) := by decide +kernel
theorem dX9_init_94 : decode cX9_init 94 = .ok (.aload_n 0, 1) := by decide +kernel
theorem dX9_init_95 : decode cX9_init 95 = .ok (.iconst 5, 1) := by decide +kernel
theorem dX9_init_96 : decode cX9_init 96 = .ok (.anewarray 57, 3) := by decide +kernel
theorem dX9_init_99 : decode cX9_init 99 = .ok (.putfield 59, 3) := by decide +kernel
theorem dX9_init_102 : decode cX9_init 102 = .ok (.aload_n 0, 1) := by decide +kernel
theorem dX9_init_103 : decode cX9_init 103 = .ok (.bipush 60, 2) := by decide +kernel
theorem dX9_init_105 : decode cX9_init 105 = .ok (.newarray .int, 2) := by decide +kernel
theorem dX9_init_107 : decode cX9_init 107 = .ok (.putfield 63, 3) := by decide +kernel
theorem dX9_init_110 : decode cX9_init 110 = .ok (.aload_n 0, 1) := by decide +kernel
theorem dX9_init_111 : decode cX9_init 111 = .ok (.iconst 0, 1) := by decide +kernel
theorem dX9_init_112 : decode cX9_init 112 = .ok (.putfield 67, 3) := by decide +kernel
theorem dX9_init_115 : decode cX9_init 115 = .ok (.aload_n 0, 1) := by decide +kernel
theorem dX9_init_116 : decode cX9_init 116 = .ok (.iconst 0, 1) := by decide +kernel
theorem dX9_init_117 : decode cX9_init 117 = .ok (.putfield 71, 3) := by decide +kernel
theorem dX9_init_120 : decode cX9_init 120 = .ok (.iconst 0, 1) := by decide +kernel
theorem dX9_init_121 : decode cX9_init 121 = .ok (.istore_n 1, 1) := by decide +kernel
theorem dX9_init_122 : decode cX9_init 122 = .ok (.iload_n 1, 1) := by decide +kernel
theorem dX9_init_123 : decode cX9_init 123 = .ok (.iconst 4, 1) := by decide +kernel
theorem dX9_init_124 : decode cX9_init 124 = .ok (.if_icmp .ge 22, 3) := by decide +kernel
theorem dX9_init_127 : decode cX9_init 127 = .ok (.aload_n 0, 1) := by decide +kernel
theorem dX9_init_128 : decode cX9_init 128 = .ok (.getfield 53, 3) := by decide +kernel
theorem dX9_init_131 : decode cX9_init 131 = .ok (.iload_n 1, 1) := by decide +kernel
theorem dX9_init_132 : decode cX9_init 132 = .ok (.new 51, 3) := by decide +kernel
theorem dX9_init_135 : decode cX9_init 135 = .ok (.dup, 1) := by decide +kernel
theorem dX9_init_136 : decode cX9_init 136 = .ok (.invokespecial 75, 3) := by decide +kernel
theorem dX9_init_139 : decode cX9_init 139 = .ok (.aastore, 1) := by decide +kernel
theorem dX9_init_140 : decode cX9_init 140 = .ok (.iinc 1 1, 3) := by decide +kernel
theorem dX9_init_143 : decode cX9_init 143 = .ok (.goto (-21), 3) := by decide +kernel
theorem dX9_init_146 : decode cX9_init 146 = .ok (.iconst 0, 1) := by decide +kernel
theorem dX9_init_147 : decode cX9_init 147 = .ok (.istore_n 1, 1) := by decide +kernel
theorem dX9_init_148 : decode cX9_init 148 = .ok (.iload_n 1, 1) := by decide +kernel
theorem dX9_init_149 : decode cX9_init 149 = .ok (.iconst 5, 1) := by decide +kernel
theorem dX9_init_150 : decode cX9_init 150 = .ok (.if_icmp .ge 22, 3) := by decide +kernel
theorem dX9_init_153 : decode cX9_init 153 = .ok (.aload_n 0, 1) := by decide +kernel
theorem dX9_init_154 : decode cX9_init 154 = .ok (.getfield 59, 3) := by decide +kernel
theorem dX9_init_157 : decode cX9_init 157 = .ok (.iload_n 1, 1) := by decide +kernel
theorem dX9_init_158 : decode cX9_init 158 = .ok (.new 57, 3) := by decide +kernel
theorem dX9_init_161 : decode cX9_init 161 = .ok (.dup, 1) := by decide +kernel
theorem dX9_init_162 : decode cX9_init 162 = .ok (.invokespecial 76, 3) := by decide +kernel
theorem dX9_init_165 : decode cX9_init 165 = .ok (.aastore, 1) := by decide +kernel
theorem dX9_init_166 : decode cX9_init 166 = .ok (.iinc 1 1, 3) := by decide +kernel
theorem dX9_init_169 : decode cX9_init 169 = .ok (.goto (-21), 3) := by decide +kernel
theorem dX9_init_172 : decode cX9_init 172 = .ok (.return_, 1) := by decide +kernel
theorem dX9_person_0 : decode cX9_person 0 = .ok (.iload_n 1, 1) := by decide +kernel
theorem dX9_person_1 : decode cX9_person 1 = .ok (.invokestatic 77, 3) := by decide +kernel
theorem dX9_person_4 : decode cX9_person 4 = .ok (.ifCond .eq 19, 3) := by decide +kernel
theorem dX9_person_7 : decode cX9_person 7 = .ok (.iconst 1, 1) := by decide +kernel
theorem dX9_person_8 : decode cX9_person 8 = .ok (.iload_n 2, 1) := by decide +kernel
theorem dX9_person_9 : decode cX9_person 9 = .ok (.invokestatic 83, 3) := by decide +kernel
theorem dX9_person_12 : decode cX9_person 12 = .ok (.ifCond .eq 11, 3) := by decide +kernel
theorem dX9_person_15 : decode cX9_person 15 = .ok (.iconst 2, 1) := by decide +kernel
theorem dX9_person_16 : decode cX9_person 16 = .ok (.iload_n 3, 1) := by decide +kernel
theorem dX9_person_17 : decode cX9_person 17 = .ok (.invokestatic 83, 3) := by decide +kernel
theorem dX9_person_20 : decode cX9_person 20 = .ok (.ifCond .ne 6, 3) := by decide +kernel
theorem dX9_person_23 : decode cX9_person 23 = .ok (.ldc 87, 2) := by decide +kernel
theorem dX9_person_25 : decode cX9_person 25 = .ok (.ireturn, 1) := by decide +kernel
theorem dX9_person_26 : decode cX9_person 26 = .ok (.aload_n 0, 1) := by decide +kernel
theorem dX9_person_27 : decode cX9_person 27 = .ok (.getfield 21, 3) := by decide +kernel
theorem dX9_person_30 : decode cX9_person 30 = .ok (.getfield 88, 3) := by decide +kernel
theorem dX9_person_33 : decode cX9_person 33 = .ok (.bipush 8, 2) := by decide +kernel
theorem dX9_person_35 : decode cX9_person 35 = .ok (.if_icmp .lt 6, 3) := by decide +kernel
theorem dX9_person_38 : decode cX9_person 38 = .ok (.ldc 91, 2) := by decide +kernel
theorem dX9_person_40 : decode cX9_person 40 = .ok (.ireturn, 1) := by decide +kernel
theorem dX9_person_41 : decode cX9_person 41 = .ok (.aload_n 0, 1) := by decide +kernel
theorem dX9_person_42 : decode cX9_person 42 = .ok (.getfield 21, 3) := by decide +kernel
theorem dX9_person_45 : decode cX9_person 45 = .ok (.iload_n 1, 1) := by decide +kernel
theorem dX9_person_46 : decode cX9_person 46 = .ok (.iload_n 2, 1) := by decide +kernel
theorem dX9_person_47 : decode cX9_person 47 = .ok (.iload_n 3, 1) := by decide +kernel
theorem dX9_person_48 : decode cX9_person 48 = .ok (.iconst 0, 1) := by decide +kernel
theorem dX9_person_49 : decode cX9_person 49 = .ok (.invokevirtual 92, 3) := by decide +kernel
theorem dX9_person_52 : decode cX9_person 52 = .ok (.ireturn, 1) := by decide +kernel
theorem dX9_told_0 : decode cX9_told 0 = .ok (.aload_n 0, 1) := by decide +kernel
theorem dX9_told_1 : decode cX9_told 1 = .ok (.iload_n 1, 1) := by decide +kernel
theorem dX9_told_2 : decode cX9_told 2 = .ok (.invokevirtual 96, 3) := by decide +kernel
theorem dX9_told_5 : decode cX9_told 5 = .ok (.ifCond .ne 6, 3) := by decide +kernel
theorem dX9_told_8 : decode cX9_told 8 = .ok (.ldc 87, 2) := by decide +kernel
theorem dX9_told_10 : decode cX9_told 10 = .ok (.ireturn, 1) := by decide +kernel
theorem dX9_told_11 : decode cX9_told 11 = .ok (.aload_n 0, 1) := by decide +kernel
theorem dX9_told_12 : decode cX9_told 12 = .ok (.getfield 21, 3) := by decide +kernel
theorem dX9_told_15 : decode cX9_told 15 = .ok (.getfield 99, 3) := by decide +kernel
theorem dX9_told_18 : decode cX9_told 18 = .ok (.iload_n 1, 1) := by decide +kernel
theorem dX9_told_19 : decode cX9_told 19 = .ok (.aaload, 1) := by decide +kernel
theorem dX9_told_20 : decode cX9_told 20 = .ok (.astore_n 3, 1) := by decide +kernel
theorem dX9_told_21 : decode cX9_told 21 = .ok (.iload_n 2, 1) := by decide +kernel
theorem dX9_told_22 : decode cX9_told 22 = .ok (.tableswitch 87 0 8 #[50, 87, 87, 87, 55, 60, 87, 65, 82], 50) := by decide +kernel
theorem dX9_told_72 : decode cX9_told 72 = .ok (.aload_n 3, 1) := by decide +kernel
theorem dX9_told_73 : decode cX9_told 73 = .ok (.getfield 103, 3) := by decide +kernel
theorem dX9_told_76 : decode cX9_told 76 = .ok (.ireturn, 1) := by decide +kernel
theorem dX9_told_77 : decode cX9_told 77 = .ok (.aload_n 3, 1) := by decide +kernel
theorem dX9_told_78 : decode cX9_told 78 = .ok (.getfield 106, 3) := by decide +kernel
theorem dX9_told_81 : decode cX9_told 81 = .ok (.ireturn, 1) := by decide +kernel
theorem dX9_told_82 : decode cX9_told 82 = .ok (.aload_n 3, 1) := by decide +kernel
theorem dX9_told_83 : decode cX9_told 83 = .ok (.getfield 109, 3) := by decide +kernel
theorem dX9_told_86 : decode cX9_told 86 = .ok (.ireturn, 1) := by decide +kernel
theorem dX9_told_87 : decode cX9_told 87 = .ok (.aload_n 3, 1) := by decide +kernel
theorem dX9_told_88 : decode cX9_told 88 = .ok (.aload_n 0, 1) := by decide +kernel
theorem dX9_told_89 : decode cX9_told 89 = .ok (.getfield 12, 3) := by decide +kernel
theorem dX9_told_92 : decode cX9_told 92 = .ok (.aload_n 0, 1) := by decide +kernel
theorem dX9_told_93 : decode cX9_told 93 = .ok (.getfield 21, 3) := by decide +kernel
theorem dX9_told_96 : decode cX9_told 96 = .ok (.iconst 0, 1) := by decide +kernel
theorem dX9_told_97 : decode cX9_told 97 = .ok (.invokevirtual 112, 3) := by decide +kernel
theorem dX9_told_100 : decode cX9_told 100 = .ok (.invokevirtual 116, 3) := by decide +kernel
theorem dX9_told_103 : decode cX9_told 103 = .ok (.ireturn, 1) := by decide +kernel
theorem dX9_told_104 : decode cX9_told 104 = .ok (.aload_n 3, 1) := by decide +kernel
theorem dX9_told_105 : decode cX9_told 105 = .ok (.invokevirtual 120, 3) := by decide +kernel
theorem dX9_told_108 : decode cX9_told 108 = .ok (.ireturn, 1) := by decide +kernel
theorem dX9_told_109 : decode cX9_told 109 = .ok (.iload_n 2, 1) := by decide +kernel
theorem dX9_told_110 : decode cX9_told 110 = .ok (.invokestatic 124, 3) := by decide +kernel
theorem dX9_told_113 : decode cX9_told 113 = .ok (.ifCond .eq 11, 3) := by decide +kernel
theorem dX9_told_116 : decode cX9_told 116 = .ok (.aload_n 3, 1) := by decide +kernel
theorem dX9_told_117 : decode cX9_told 117 = .ok (.iload_n 2, 1) := by decide +kernel
theorem dX9_told_118 : decode cX9_told 118 = .ok (.invokevirtual 127, 3) := by decide +kernel
theorem dX9_told_121 : decode cX9_told 121 = .ok (.goto 5, 3) := by decide +kernel
theorem dX9_told_124 : decode cX9_told 124 = .ok (.ldc 87, 2) := by decide +kernel
theorem dX9_told_126 : decode cX9_told 126 = .ok (.ireturn, 1) := by decide +kernel
theorem dX9_as_0 : decode cX9_as 0 = .ok (.aload_n 0, 1) := by decide +kernel
theorem dX9_as_1 : decode cX9_as 1 = .ok (.iload_n 1, 1) := by decide +kernel
theorem dX9_as_2 : decode cX9_as 2 = .ok (.invokevirtual 96, 3) := by decide +kernel
theorem dX9_as_5 : decode cX9_as 5 = .ok (.ifCond .eq 10, 3) := by decide +kernel
theorem dX9_as_8 : decode cX9_as 8 = .ok (.iload_n 2, 1) := by decide +kernel
theorem dX9_as_9 : decode cX9_as 9 = .ok (.invokestatic 77, 3) := by decide +kernel
theorem dX9_as_12 : decode cX9_as 12 = .ok (.ifCond .ne 6, 3) := by decide +kernel
theorem dX9_as_15 : decode cX9_as 15 = .ok (.ldc 87, 2) := by decide +kernel
theorem dX9_as_17 : decode cX9_as 17 = .ok (.ireturn, 1) := by decide +kernel
theorem dX9_as_18 : decode cX9_as 18 = .ok (.aload_n 0, 1) := by decide +kernel
theorem dX9_as_19 : decode cX9_as 19 = .ok (.getfield 21, 3) := by decide +kernel
theorem dX9_as_22 : decode cX9_as 22 = .ok (.getfield 99, 3) := by decide +kernel
theorem dX9_as_25 : decode cX9_as 25 = .ok (.iload_n 1, 1) := by decide +kernel
theorem dX9_as_26 : decode cX9_as 26 = .ok (.aaload, 1) := by decide +kernel
theorem dX9_as_27 : decode cX9_as 27 = .ok (.astore_n 3, 1) := by decide +kernel
theorem dX9_as_28 : decode cX9_as 28 = .ok (.aload_n 3, 1) := by decide +kernel
theorem dX9_as_29 : decode cX9_as 29 = .ok (.iload_n 2, 1) := by decide +kernel
theorem dX9_as_30 : decode cX9_as 30 = .ok (.invokevirtual 130, 3) := by decide +kernel
theorem dX9_as_33 : decode cX9_as 33 = .ok (.ifCond .eq 10, 3) := by decide +kernel
theorem dX9_as_36 : decode cX9_as 36 = .ok (.aload_n 3, 1) := by decide +kernel
theorem dX9_as_37 : decode cX9_as 37 = .ok (.getfield 133, 3) := by decide +kernel
theorem dX9_as_40 : decode cX9_as 40 = .ok (.goto 5, 3) := by decide +kernel
theorem dX9_as_43 : decode cX9_as 43 = .ok (.ldc 136, 2) := by decide +kernel
theorem dX9_as_45 : decode cX9_as 45 = .ok (.ireturn, 1) := by decide +kernel
theorem dX9_turns_0 : decode cX9_turns 0 = .ok (.aload_n 0, 1) := by decide +kernel
theorem dX9_turns_1 : decode cX9_turns 1 = .ok (.iload_n 1, 1) := by decide +kernel
theorem dX9_turns_2 : decode cX9_turns 2 = .ok (.invokevirtual 96, 3) := by decide +kernel
theorem dX9_turns_5 : decode cX9_turns 5 = .ok (.ifCond .eq 10, 3) := by decide +kernel
theorem dX9_turns_8 : decode cX9_turns 8 = .ok (.iload_n 2, 1) := by decide +kernel
theorem dX9_turns_9 : decode cX9_turns 9 = .ok (.invokestatic 77, 3) := by decide +kernel
theorem dX9_turns_12 : decode cX9_turns 12 = .ok (.ifCond .ne 6, 3) := by decide +kernel
theorem dX9_turns_15 : decode cX9_turns 15 = .ok (.ldc 87, 2) := by decide +kernel
theorem dX9_turns_17 : decode cX9_turns 17 = .ok (.ireturn, 1) := by decide +kernel
theorem dX9_turns_18 : decode cX9_turns 18 = .ok (.aload_n 0, 1) := by decide +kernel
theorem dX9_turns_19 : decode cX9_turns 19 = .ok (.getfield 21, 3) := by decide +kernel
theorem dX9_turns_22 : decode cX9_turns 22 = .ok (.getfield 99, 3) := by decide +kernel
theorem dX9_turns_25 : decode cX9_turns 25 = .ok (.iload_n 1, 1) := by decide +kernel
theorem dX9_turns_26 : decode cX9_turns 26 = .ok (.aaload, 1) := by decide +kernel
theorem dX9_turns_27 : decode cX9_turns 27 = .ok (.astore_n 3, 1) := by decide +kernel
theorem dX9_turns_28 : decode cX9_turns 28 = .ok (.aload_n 3, 1) := by decide +kernel
theorem dX9_turns_29 : decode cX9_turns 29 = .ok (.getfield 103, 3) := by decide +kernel
theorem dX9_turns_32 : decode cX9_turns 32 = .ok (.istore 4, 2) := by decide +kernel
theorem dX9_turns_34 : decode cX9_turns 34 = .ok (.aload_n 3, 1) := by decide +kernel
theorem dX9_turns_35 : decode cX9_turns 35 = .ok (.iload_n 2, 1) := by decide +kernel
theorem dX9_turns_36 : decode cX9_turns 36 = .ok (.putfield 103, 3) := by decide +kernel
theorem dX9_turns_39 : decode cX9_turns 39 = .ok (.iload 4, 2) := by decide +kernel
theorem dX9_turns_41 : decode cX9_turns 41 = .ok (.ireturn, 1) := by decide +kernel
theorem dX9_set_0 : decode cX9_set 0 = .ok (.aload_n 0, 1) := by decide +kernel
theorem dX9_set_1 : decode cX9_set 1 = .ok (.iload_n 1, 1) := by decide +kernel
theorem dX9_set_2 : decode cX9_set 2 = .ok (.invokevirtual 96, 3) := by decide +kernel
theorem dX9_set_5 : decode cX9_set 5 = .ok (.ifCond .eq 11, 3) := by decide +kernel
theorem dX9_set_8 : decode cX9_set 8 = .ok (.iload_n 2, 1) := by decide +kernel
theorem dX9_set_9 : decode cX9_set 9 = .ok (.iload_n 3, 1) := by decide +kernel
theorem dX9_set_10 : decode cX9_set 10 = .ok (.invokestatic 83, 3) := by decide +kernel
theorem dX9_set_13 : decode cX9_set 13 = .ok (.ifCond .ne 6, 3) := by decide +kernel
theorem dX9_set_16 : decode cX9_set 16 = .ok (.ldc 87, 2) := by decide +kernel
theorem dX9_set_18 : decode cX9_set 18 = .ok (.ireturn, 1) := by decide +kernel
theorem dX9_set_19 : decode cX9_set 19 = .ok (.aload_n 0, 1) := by decide +kernel
theorem dX9_set_20 : decode cX9_set 20 = .ok (.getfield 21, 3) := by decide +kernel
theorem dX9_set_23 : decode cX9_set 23 = .ok (.getfield 99, 3) := by decide +kernel
theorem dX9_set_26 : decode cX9_set 26 = .ok (.iload_n 1, 1) := by decide +kernel
theorem dX9_set_27 : decode cX9_set 27 = .ok (.aaload, 1) := by decide +kernel
theorem dX9_set_28 : decode cX9_set 28 = .ok (.astore 4, 2) := by decide +kernel
theorem dX9_set_30 : decode cX9_set 30 = .ok (.aload 4, 2) := by decide +kernel
theorem dX9_set_32 : decode cX9_set 32 = .ok (.iload_n 2, 1) := by decide +kernel
theorem dX9_set_33 : decode cX9_set 33 = .ok (.invokevirtual 127, 3) := by decide +kernel
theorem dX9_set_36 : decode cX9_set 36 = .ok (.istore 5, 2) := by decide +kernel
theorem dX9_set_38 : decode cX9_set 38 = .ok (.aload 4, 2) := by decide +kernel
theorem dX9_set_40 : decode cX9_set 40 = .ok (.iload_n 2, 1) := by decide +kernel
theorem dX9_set_41 : decode cX9_set 41 = .ok (.iload_n 3, 1) := by decide +kernel
theorem dX9_set_42 : decode cX9_set 42 = .ok (.invokevirtual 137, 3) := by decide +kernel
theorem dX9_set_45 : decode cX9_set 45 = .ok (.iload 5, 2) := by decide +kernel
theorem dX9_set_47 : decode cX9_set 47 = .ok (.ireturn, 1) := by decide +kernel
theorem dX9_forget_0 : decode cX9_forget 0 = .ok (.iconst 0, 1) := by decide +kernel
theorem dX9_forget_1 : decode cX9_forget 1 = .ok (.istore_n 1, 1) := by decide +kernel
theorem dX9_forget_2 : decode cX9_forget 2 = .ok (.iconst 0, 1) := by decide +kernel
theorem dX9_forget_3 : decode cX9_forget 3 = .ok (.istore_n 2, 1) := by decide +kernel
theorem dX9_forget_4 : decode cX9_forget 4 = .ok (.iload_n 2, 1) := by decide +kernel
theorem dX9_forget_5 : decode cX9_forget 5 = .ok (.aload_n 0, 1) := by decide +kernel
theorem dX9_forget_6 : decode cX9_forget 6 = .ok (.getfield 21, 3) := by decide +kernel
theorem dX9_forget_9 : decode cX9_forget 9 = .ok (.getfield 88, 3) := by decide +kernel
theorem dX9_forget_12 : decode cX9_forget 12 = .ok (.if_icmp .ge 42, 3) := by decide +kernel
theorem dX9_forget_15 : decode cX9_forget 15 = .ok (.aload_n 0, 1) := by decide +kernel
theorem dX9_forget_16 : decode cX9_forget 16 = .ok (.getfield 21, 3) := by decide +kernel
theorem dX9_forget_19 : decode cX9_forget 19 = .ok (.getfield 99, 3) := by decide +kernel
theorem dX9_forget_22 : decode cX9_forget 22 = .ok (.iload_n 2, 1) := by decide +kernel
theorem dX9_forget_23 : decode cX9_forget 23 = .ok (.aaload, 1) := by decide +kernel
theorem dX9_forget_24 : decode cX9_forget 24 = .ok (.astore_n 3, 1) := by decide +kernel
theorem dX9_forget_25 : decode cX9_forget 25 = .ok (.aload_n 3, 1) := by decide +kernel
theorem dX9_forget_26 : decode cX9_forget 26 = .ok (.getfield 106, 3) := by decide +kernel
theorem dX9_forget_29 : decode cX9_forget 29 = .ok (.ifCond .ne 12, 3) := by decide +kernel
theorem dX9_forget_32 : decode cX9_forget 32 = .ok (.aload_n 3, 1) := by decide +kernel
theorem dX9_forget_33 : decode cX9_forget 33 = .ok (.getfield 109, 3) := by decide +kernel
theorem dX9_forget_36 : decode cX9_forget 36 = .ok (.bipush 99, 2) := by decide +kernel
theorem dX9_forget_38 : decode cX9_forget 38 = .ok (.if_icmp .eq 6, 3) := by decide +kernel
theorem dX9_forget_41 : decode cX9_forget 41 = .ok (.iinc 1 1, 3) := by decide +kernel
theorem dX9_forget_44 : decode cX9_forget 44 = .ok (.aload_n 3, 1) := by decide +kernel
theorem dX9_forget_45 : decode cX9_forget 45 = .ok (.invokevirtual 141, 3) := by decide +kernel
theorem dX9_forget_48 : decode cX9_forget 48 = .ok (.iinc 2 1, 3) := by decide +kernel
theorem dX9_forget_51 : decode cX9_forget 51 = .ok (.goto (-47), 3) := by decide +kernel
theorem dX9_forget_54 : decode cX9_forget 54 = .ok (.iload_n 1, 1) := by decide +kernel
theorem dX9_forget_55 : decode cX9_forget 55 = .ok (.ireturn, 1) := by decide +kernel
theorem dX9_deal_0 : decode cX9_deal 0 = .ok (.iload_n 1, 1) := by decide +kernel
theorem dX9_deal_1 : decode cX9_deal 1 = .ok (.iconst 1, 1) := by decide +kernel
theorem dX9_deal_2 : decode cX9_deal 2 = .ok (.if_icmp .lt 9, 3) := by decide +kernel
theorem dX9_deal_5 : decode cX9_deal 5 = .ok (.iload_n 1, 1) := by decide +kernel
theorem dX9_deal_6 : decode cX9_deal 6 = .ok (.bipush 8, 2) := by decide +kernel
theorem dX9_deal_8 : decode cX9_deal 8 = .ok (.if_icmp .le 6, 3) := by decide +kernel
theorem dX9_deal_11 : decode cX9_deal 11 = .ok (.ldc 87, 2) := by decide +kernel
theorem dX9_deal_13 : decode cX9_deal 13 = .ok (.ireturn, 1) := by decide +kernel
theorem dX9_deal_14 : decode cX9_deal 14 = .ok (.bipush 8, 2) := by decide +kernel
theorem dX9_deal_16 : decode cX9_deal 16 = .ok (.aload_n 0, 1) := by decide +kernel
theorem dX9_deal_17 : decode cX9_deal 17 = .ok (.getfield 21, 3) := by decide +kernel
theorem dX9_deal_20 : decode cX9_deal 20 = .ok (.getfield 88, 3) := by decide +kernel
theorem dX9_deal_23 : decode cX9_deal 23 = .ok (.isub, 1) := by decide +kernel
theorem dX9_deal_24 : decode cX9_deal 24 = .ok (.istore_n 2, 1) := by decide +kernel
theorem dX9_deal_25 : decode cX9_deal 25 = .ok (.iload_n 1, 1) := by decide +kernel
theorem dX9_deal_26 : decode cX9_deal 26 = .ok (.iload_n 2, 1) := by decide +kernel
theorem dX9_deal_27 : decode cX9_deal 27 = .ok (.invokestatic 144, 3) := by decide +kernel
theorem dX9_deal_30 : decode cX9_deal 30 = .ok (.istore_n 3, 1) := by decide +kernel
theorem dX9_deal_31 : decode cX9_deal 31 = .ok (.iconst 0, 1) := by decide +kernel
theorem dX9_deal_32 : decode cX9_deal 32 = .ok (.istore 4, 2) := by decide +kernel
theorem dX9_deal_34 : decode cX9_deal 34 = .ok (.iload 4, 2) := by decide +kernel
theorem dX9_deal_36 : decode cX9_deal 36 = .ok (.iload_n 3, 1) := by decide +kernel
theorem dX9_deal_37 : decode cX9_deal 37 = .ok (.if_icmp .ge 16, 3) := by decide +kernel
theorem dX9_deal_40 : decode cX9_deal 40 = .ok (.aload_n 0, 1) := by decide +kernel
theorem dX9_deal_41 : decode cX9_deal 41 = .ok (.getfield 21, 3) := by decide +kernel
theorem dX9_deal_44 : decode cX9_deal 44 = .ok (.invokevirtual 150, 3) := by decide +kernel
theorem dX9_deal_47 : decode cX9_deal 47 = .ok (.iinc 4 1, 3) := by decide +kernel
theorem dX9_deal_50 : decode cX9_deal 50 = .ok (.goto (-16), 3) := by decide +kernel
theorem dX9_deal_53 : decode cX9_deal 53 = .ok (.iload_n 3, 1) := by decide +kernel
theorem dX9_deal_54 : decode cX9_deal 54 = .ok (.ireturn, 1) := by decide +kernel
theorem dX9_seed_0 : decode cX9_seed 0 = .ok (.aload_n 0, 1) := by decide +kernel
theorem dX9_seed_1 : decode cX9_seed 1 = .ok (.getfield 21, 3) := by decide +kernel
theorem dX9_seed_4 : decode cX9_seed 4 = .ok (.getfield 153, 3) := by decide +kernel
theorem dX9_seed_7 : decode cX9_seed 7 = .ok (.istore_n 2, 1) := by decide +kernel
theorem dX9_seed_8 : decode cX9_seed 8 = .ok (.aload_n 0, 1) := by decide +kernel
theorem dX9_seed_9 : decode cX9_seed 9 = .ok (.getfield 21, 3) := by decide +kernel
theorem dX9_seed_12 : decode cX9_seed 12 = .ok (.iload_n 1, 1) := by decide +kernel
theorem dX9_seed_13 : decode cX9_seed 13 = .ok (.putfield 153, 3) := by decide +kernel
theorem dX9_seed_16 : decode cX9_seed 16 = .ok (.iload_n 2, 1) := by decide +kernel
theorem dX9_seed_17 : decode cX9_seed 17 = .ok (.ireturn, 1) := by decide +kernel
theorem dX9_safe_0 : decode cX9_safe 0 = .ok (.iload_n 1, 1) := by decide +kernel
theorem dX9_safe_1 : decode cX9_safe 1 = .ok (.iload_n 2, 1) := by decide +kernel
theorem dX9_safe_2 : decode cX9_safe 2 = .ok (.invokestatic 156, 3) := by decide +kernel
theorem dX9_safe_5 : decode cX9_safe 5 = .ok (.ifCond .ne 6, 3) := by decide +kernel
theorem dX9_safe_8 : decode cX9_safe 8 = .ok (.ldc 87, 2) := by decide +kernel
theorem dX9_safe_10 : decode cX9_safe 10 = .ok (.ireturn, 1) := by decide +kernel
theorem dX9_safe_11 : decode cX9_safe 11 = .ok (.aload_n 0, 1) := by decide +kernel
theorem dX9_safe_12 : decode cX9_safe 12 = .ok (.getfield 21, 3) := by decide +kernel
theorem dX9_safe_15 : decode cX9_safe 15 = .ok (.iload_n 1, 1) := by decide +kernel
theorem dX9_safe_16 : decode cX9_safe 16 = .ok (.invokevirtual 157, 3) := by decide +kernel
theorem dX9_safe_19 : decode cX9_safe 19 = .ok (.istore_n 3, 1) := by decide +kernel
theorem dX9_safe_20 : decode cX9_safe 20 = .ok (.aload_n 0, 1) := by decide +kernel
theorem dX9_safe_21 : decode cX9_safe 21 = .ok (.getfield 21, 3) := by decide +kernel
theorem dX9_safe_24 : decode cX9_safe 24 = .ok (.iload_n 1, 1) := by decide +kernel
theorem dX9_safe_25 : decode cX9_safe 25 = .ok (.iload_n 2, 1) := by decide +kernel
theorem dX9_safe_26 : decode cX9_safe 26 = .ok (.invokevirtual 160, 3) := by decide +kernel
theorem dX9_safe_29 : decode cX9_safe 29 = .ok (.iload_n 3, 1) := by decide +kernel
theorem dX9_safe_30 : decode cX9_safe 30 = .ok (.ireturn, 1) := by decide +kernel
theorem dX9_says_0 : decode cX9_says 0 = .ok (.aload_n 0, 1) := by decide +kernel
theorem dX9_says_1 : decode cX9_says 1 = .ok (.getfield 21, 3) := by decide +kernel
theorem dX9_says_4 : decode cX9_says 4 = .ok (.invokevirtual 161, 3) := by decide +kernel
theorem dX9_says_7 : decode cX9_says 7 = .ok (.ireturn, 1) := by decide +kernel
theorem dX9_tries_0 : decode cX9_tries 0 = .ok (.iload_n 1, 1) := by decide +kernel
theorem dX9_tries_1 : decode cX9_tries 1 = .ok (.iconst 1, 1) := by decide +kernel
theorem dX9_tries_2 : decode cX9_tries 2 = .ok (.if_icmp .lt 9, 3) := by decide +kernel
theorem dX9_tries_5 : decode cX9_tries 5 = .ok (.iload_n 1, 1) := by decide +kernel
theorem dX9_tries_6 : decode cX9_tries 6 = .ok (.bipush 100, 2) := by decide +kernel
theorem dX9_tries_8 : decode cX9_tries 8 = .ok (.if_icmp .le 6, 3) := by decide +kernel
theorem dX9_tries_11 : decode cX9_tries 11 = .ok (.ldc 87, 2) := by decide +kernel
theorem dX9_tries_13 : decode cX9_tries 13 = .ok (.ireturn, 1) := by decide +kernel
theorem dX9_tries_14 : decode cX9_tries 14 = .ok (.iconst 0, 1) := by decide +kernel
theorem dX9_tries_15 : decode cX9_tries 15 = .ok (.istore_n 2, 1) := by decide +kernel
theorem dX9_tries_16 : decode cX9_tries 16 = .ok (.iload_n 2, 1) := by decide +kernel
theorem dX9_tries_17 : decode cX9_tries 17 = .ok (.iload_n 1, 1) := by decide +kernel
theorem dX9_tries_18 : decode cX9_tries 18 = .ok (.if_icmp .ge 32, 3) := by decide +kernel
theorem dX9_tries_21 : decode cX9_tries 21 = .ok (.aload_n 0, 1) := by decide +kernel
theorem dX9_tries_22 : decode cX9_tries 22 = .ok (.getfield 21, 3) := by decide +kernel
theorem dX9_tries_25 : decode cX9_tries 25 = .ok (.getfield 164, 3) := by decide +kernel
theorem dX9_tries_28 : decode cX9_tries 28 = .ok (.sipush 9999, 3) := by decide +kernel
theorem dX9_tries_31 : decode cX9_tries 31 = .ok (.if_icmp .ge 19, 3) := by decide +kernel
theorem dX9_tries_34 : decode cX9_tries 34 = .ok (.aload_n 0, 1) := by decide +kernel
theorem dX9_tries_35 : decode cX9_tries 35 = .ok (.getfield 21, 3) := by decide +kernel
theorem dX9_tries_38 : decode cX9_tries 38 = .ok (.invokevirtual 167, 3) := by decide +kernel
theorem dX9_tries_41 : decode cX9_tries 41 = .ok (.ifCond .eq 9, 3) := by decide +kernel
theorem dX9_tries_44 : decode cX9_tries 44 = .ok (.iinc 2 1, 3) := by decide +kernel
theorem dX9_tries_47 : decode cX9_tries 47 = .ok (.goto (-31), 3) := by decide +kernel
theorem dX9_tries_50 : decode cX9_tries 50 = .ok (.iload_n 2, 1) := by decide +kernel
theorem dX9_tries_51 : decode cX9_tries 51 = .ok (.ireturn, 1) := by decide +kernel
theorem dX9_needs_0 : decode cX9_needs 0 = .ok (.iload_n 1, 1) := by decide +kernel
theorem dX9_needs_1 : decode cX9_needs 1 = .ok (.ifCond .lt 9, 3) := by decide +kernel
theorem dX9_needs_4 : decode cX9_needs 4 = .ok (.iload_n 1, 1) := by decide +kernel
theorem dX9_needs_5 : decode cX9_needs 5 = .ok (.bipush 100, 2) := by decide +kernel
theorem dX9_needs_7 : decode cX9_needs 7 = .ok (.if_icmp .lt 6, 3) := by decide +kernel
theorem dX9_needs_10 : decode cX9_needs 10 = .ok (.ldc 87, 2) := by decide +kernel
theorem dX9_needs_12 : decode cX9_needs 12 = .ok (.ireturn, 1) := by decide +kernel
theorem dX9_needs_13 : decode cX9_needs 13 = .ok (.aload_n 0, 1) := by decide +kernel
theorem dX9_needs_14 : decode cX9_needs 14 = .ok (.getfield 31, 3) := by decide +kernel
theorem dX9_needs_17 : decode cX9_needs 17 = .ok (.aload_n 0, 1) := by decide +kernel
theorem dX9_needs_18 : decode cX9_needs 18 = .ok (.getfield 21, 3) := by decide +kernel
theorem dX9_needs_21 : decode cX9_needs 21 = .ok (.invokevirtual 171, 3) := by decide +kernel
theorem dX9_needs_24 : decode cX9_needs 24 = .ok (.pop, 1) := by decide +kernel
theorem dX9_needs_25 : decode cX9_needs 25 = .ok (.aload_n 0, 1) := by decide +kernel
theorem dX9_needs_26 : decode cX9_needs 26 = .ok (.getfield 31, 3) := by decide +kernel
theorem dX9_needs_29 : decode cX9_needs 29 = .ok (.iload_n 1, 1) := by decide +kernel
theorem dX9_needs_30 : decode cX9_needs 30 = .ok (.iload_n 1, 1) := by decide +kernel
theorem dX9_needs_31 : decode cX9_needs 31 = .ok (.invokevirtual 175, 3) := by decide +kernel
theorem dX9_needs_34 : decode cX9_needs 34 = .ok (.istore_n 2, 1) := by decide +kernel
theorem dX9_needs_35 : decode cX9_needs 35 = .ok (.iload_n 2, 1) := by decide +kernel
theorem dX9_needs_36 : decode cX9_needs 36 = .ok (.bipush 13, 2) := by decide +kernel
theorem dX9_needs_38 : decode cX9_needs 38 = .ok (.if_icmp .ne 8, 3) := by decide +kernel
theorem dX9_needs_41 : decode cX9_needs 41 = .ok (.ldc 178, 2) := by decide +kernel
theorem dX9_needs_43 : decode cX9_needs 43 = .ok (.goto 4, 3) := by decide +kernel
theorem dX9_needs_46 : decode cX9_needs 46 = .ok (.iload_n 2, 1) := by decide +kernel
theorem dX9_needs_47 : decode cX9_needs 47 = .ok (.ireturn, 1) := by decide +kernel
theorem dX9_worst_0 : decode cX9_worst 0 = .ok (.iload_n 1, 1) := by decide +kernel
theorem dX9_worst_1 : decode cX9_worst 1 = .ok (.ifCond .lt 8, 3) := by decide +kernel
theorem dX9_worst_4 : decode cX9_worst 4 = .ok (.iload_n 1, 1) := by decide +kernel
theorem dX9_worst_5 : decode cX9_worst 5 = .ok (.iconst 1, 1) := by decide +kernel
theorem dX9_worst_6 : decode cX9_worst 6 = .ok (.if_icmp .le 6, 3) := by decide +kernel
theorem dX9_worst_9 : decode cX9_worst 9 = .ok (.ldc 87, 2) := by decide +kernel
theorem dX9_worst_11 : decode cX9_worst 11 = .ok (.ireturn, 1) := by decide +kernel
theorem dX9_worst_12 : decode cX9_worst 12 = .ok (.aload_n 0, 1) := by decide +kernel
theorem dX9_worst_13 : decode cX9_worst 13 = .ok (.getfield 31, 3) := by decide +kernel
theorem dX9_worst_16 : decode cX9_worst 16 = .ok (.aload_n 0, 1) := by decide +kernel
theorem dX9_worst_17 : decode cX9_worst 17 = .ok (.getfield 21, 3) := by decide +kernel
theorem dX9_worst_20 : decode cX9_worst 20 = .ok (.invokevirtual 171, 3) := by decide +kernel
theorem dX9_worst_23 : decode cX9_worst 23 = .ok (.pop, 1) := by decide +kernel
theorem dX9_worst_24 : decode cX9_worst 24 = .ok (.aload_n 0, 1) := by decide +kernel
theorem dX9_worst_25 : decode cX9_worst 25 = .ok (.getfield 31, 3) := by decide +kernel
theorem dX9_worst_28 : decode cX9_worst 28 = .ok (.iconst 0, 1) := by decide +kernel
theorem dX9_worst_29 : decode cX9_worst 29 = .ok (.bipush 99, 2) := by decide +kernel
theorem dX9_worst_31 : decode cX9_worst 31 = .ok (.invokevirtual 175, 3) := by decide +kernel
theorem dX9_worst_34 : decode cX9_worst 34 = .ok (.pop, 1) := by decide +kernel
theorem dX9_worst_35 : decode cX9_worst 35 = .ok (.iconst 0, 1) := by decide +kernel
theorem dX9_worst_36 : decode cX9_worst 36 = .ok (.istore_n 2, 1) := by decide +kernel
theorem dX9_worst_37 : decode cX9_worst 37 = .ok (.iconst 1, 1) := by decide +kernel
theorem dX9_worst_38 : decode cX9_worst 38 = .ok (.istore_n 3, 1) := by decide +kernel
theorem dX9_worst_39 : decode cX9_worst 39 = .ok (.iload_n 3, 1) := by decide +kernel
theorem dX9_worst_40 : decode cX9_worst 40 = .ok (.bipush 100, 2) := by decide +kernel
theorem dX9_worst_42 : decode cX9_worst 42 = .ok (.if_icmp .ge 32, 3) := by decide +kernel
theorem dX9_worst_45 : decode cX9_worst 45 = .ok (.aload_n 0, 1) := by decide +kernel
theorem dX9_worst_46 : decode cX9_worst 46 = .ok (.getfield 31, 3) := by decide +kernel
theorem dX9_worst_49 : decode cX9_worst 49 = .ok (.getfield 179, 3) := by decide +kernel
theorem dX9_worst_52 : decode cX9_worst 52 = .ok (.iload_n 3, 1) := by decide +kernel
theorem dX9_worst_53 : decode cX9_worst 53 = .ok (.iaload, 1) := by decide +kernel
theorem dX9_worst_54 : decode cX9_worst 54 = .ok (.aload_n 0, 1) := by decide +kernel
theorem dX9_worst_55 : decode cX9_worst 55 = .ok (.getfield 31, 3) := by decide +kernel
theorem dX9_worst_58 : decode cX9_worst 58 = .ok (.getfield 179, 3) := by decide +kernel
theorem dX9_worst_61 : decode cX9_worst 61 = .ok (.iload_n 2, 1) := by decide +kernel
theorem dX9_worst_62 : decode cX9_worst 62 = .ok (.iaload, 1) := by decide +kernel
theorem dX9_worst_63 : decode cX9_worst 63 = .ok (.if_icmp .le 5, 3) := by decide +kernel
theorem dX9_worst_66 : decode cX9_worst 66 = .ok (.iload_n 3, 1) := by decide +kernel
theorem dX9_worst_67 : decode cX9_worst 67 = .ok (.istore_n 2, 1) := by decide +kernel
theorem dX9_worst_68 : decode cX9_worst 68 = .ok (.iinc 3 1, 3) := by decide +kernel
theorem dX9_worst_71 : decode cX9_worst 71 = .ok (.goto (-32), 3) := by decide +kernel
theorem dX9_worst_74 : decode cX9_worst 74 = .ok (.iload_n 1, 1) := by decide +kernel
theorem dX9_worst_75 : decode cX9_worst 75 = .ok (.ifCond .ne 7, 3) := by decide +kernel
theorem dX9_worst_78 : decode cX9_worst 78 = .ok (.iload_n 2, 1) := by decide +kernel
theorem dX9_worst_79 : decode cX9_worst 79 = .ok (.goto 12, 3) := by decide +kernel
theorem dX9_worst_82 : decode cX9_worst 82 = .ok (.aload_n 0, 1) := by decide +kernel
theorem dX9_worst_83 : decode cX9_worst 83 = .ok (.getfield 31, 3) := by decide +kernel
theorem dX9_worst_86 : decode cX9_worst 86 = .ok (.getfield 179, 3) := by decide +kernel
theorem dX9_worst_89 : decode cX9_worst 89 = .ok (.iload_n 2, 1) := by decide +kernel
theorem dX9_worst_90 : decode cX9_worst 90 = .ok (.iaload, 1) := by decide +kernel
theorem dX9_worst_91 : decode cX9_worst 91 = .ok (.ireturn, 1) := by decide +kernel
theorem dX9_had_0 : decode cX9_had 0 = .ok (.iload_n 1, 1) := by decide +kernel
theorem dX9_had_1 : decode cX9_had 1 = .ok (.ifCond .lt 9, 3) := by decide +kernel
theorem dX9_had_4 : decode cX9_had 4 = .ok (.iload_n 1, 1) := by decide +kernel
theorem dX9_had_5 : decode cX9_had 5 = .ok (.bipush 12, 2) := by decide +kernel
theorem dX9_had_7 : decode cX9_had 7 = .ok (.if_icmp .le 6, 3) := by decide +kernel
theorem dX9_had_10 : decode cX9_had 10 = .ok (.ldc 87, 2) := by decide +kernel
theorem dX9_had_12 : decode cX9_had 12 = .ok (.ireturn, 1) := by decide +kernel
theorem dX9_had_13 : decode cX9_had 13 = .ok (.aload_n 0, 1) := by decide +kernel
theorem dX9_had_14 : decode cX9_had 14 = .ok (.getfield 31, 3) := by decide +kernel
theorem dX9_had_17 : decode cX9_had 17 = .ok (.aload_n 0, 1) := by decide +kernel
theorem dX9_had_18 : decode cX9_had 18 = .ok (.getfield 21, 3) := by decide +kernel
theorem dX9_had_21 : decode cX9_had 21 = .ok (.invokevirtual 171, 3) := by decide +kernel
theorem dX9_had_24 : decode cX9_had 24 = .ok (.pop, 1) := by decide +kernel
theorem dX9_had_25 : decode cX9_had 25 = .ok (.aload_n 0, 1) := by decide +kernel
theorem dX9_had_26 : decode cX9_had 26 = .ok (.getfield 31, 3) := by decide +kernel
theorem dX9_had_29 : decode cX9_had 29 = .ok (.iconst 0, 1) := by decide +kernel
theorem dX9_had_30 : decode cX9_had 30 = .ok (.bipush 99, 2) := by decide +kernel
theorem dX9_had_32 : decode cX9_had 32 = .ok (.invokevirtual 175, 3) := by decide +kernel
theorem dX9_had_35 : decode cX9_had 35 = .ok (.pop, 1) := by decide +kernel
theorem dX9_had_36 : decode cX9_had 36 = .ok (.iconst 0, 1) := by decide +kernel
theorem dX9_had_37 : decode cX9_had 37 = .ok (.istore_n 2, 1) := by decide +kernel
theorem dX9_had_38 : decode cX9_had 38 = .ok (.iconst 0, 1) := by decide +kernel
theorem dX9_had_39 : decode cX9_had 39 = .ok (.istore_n 3, 1) := by decide +kernel
theorem dX9_had_40 : decode cX9_had 40 = .ok (.iload_n 3, 1) := by decide +kernel
theorem dX9_had_41 : decode cX9_had 41 = .ok (.bipush 100, 2) := by decide +kernel
theorem dX9_had_43 : decode cX9_had 43 = .ok (.if_icmp .ge 25, 3) := by decide +kernel
theorem dX9_had_46 : decode cX9_had 46 = .ok (.aload_n 0, 1) := by decide +kernel
theorem dX9_had_47 : decode cX9_had 47 = .ok (.getfield 31, 3) := by decide +kernel
theorem dX9_had_50 : decode cX9_had 50 = .ok (.getfield 179, 3) := by decide +kernel
theorem dX9_had_53 : decode cX9_had 53 = .ok (.iload_n 3, 1) := by decide +kernel
theorem dX9_had_54 : decode cX9_had 54 = .ok (.iaload, 1) := by decide +kernel
theorem dX9_had_55 : decode cX9_had 55 = .ok (.iload_n 1, 1) := by decide +kernel
theorem dX9_had_56 : decode cX9_had 56 = .ok (.if_icmp .gt 6, 3) := by decide +kernel
theorem dX9_had_59 : decode cX9_had 59 = .ok (.iinc 2 1, 3) := by decide +kernel
theorem dX9_had_62 : decode cX9_had 62 = .ok (.iinc 3 1, 3) := by decide +kernel
theorem dX9_had_65 : decode cX9_had 65 = .ok (.goto (-25), 3) := by decide +kernel
theorem dX9_had_68 : decode cX9_had 68 = .ok (.iload_n 2, 1) := by decide +kernel
theorem dX9_had_69 : decode cX9_had 69 = .ok (.ireturn, 1) := by decide +kernel
theorem dX9_start_0 : decode cX9_start 0 = .ok (.aload_n 0, 1) := by decide +kernel
theorem dX9_start_1 : decode cX9_start 1 = .ok (.iload_n 1, 1) := by decide +kernel
theorem dX9_start_2 : decode cX9_start 2 = .ok (.invokevirtual 96, 3) := by decide +kernel
theorem dX9_start_5 : decode cX9_start 5 = .ok (.ifCond .eq 12, 3) := by decide +kernel
theorem dX9_start_8 : decode cX9_start 8 = .ok (.iload_n 2, 1) := by decide +kernel
theorem dX9_start_9 : decode cX9_start 9 = .ok (.ifCond .lt 8, 3) := by decide +kernel
theorem dX9_start_12 : decode cX9_start 12 = .ok (.iload_n 2, 1) := by decide +kernel
theorem dX9_start_13 : decode cX9_start 13 = .ok (.iconst 1, 1) := by decide +kernel
theorem dX9_start_14 : decode cX9_start 14 = .ok (.if_icmp .le 6, 3) := by decide +kernel
theorem dX9_start_17 : decode cX9_start 17 = .ok (.ldc 87, 2) := by decide +kernel
theorem dX9_start_19 : decode cX9_start 19 = .ok (.ireturn, 1) := by decide +kernel
theorem dX9_start_20 : decode cX9_start 20 = .ok (.ldc 178, 2) := by decide +kernel
theorem dX9_start_22 : decode cX9_start 22 = .ok (.istore_n 3, 1) := by decide +kernel
theorem dX9_start_23 : decode cX9_start 23 = .ok (.ldc 178, 2) := by decide +kernel
theorem dX9_start_25 : decode cX9_start 25 = .ok (.istore 4, 2) := by decide +kernel
theorem dX9_start_27 : decode cX9_start 27 = .ok (.iconst 0, 1) := by decide +kernel
theorem dX9_start_28 : decode cX9_start 28 = .ok (.istore 5, 2) := by decide +kernel
theorem dX9_start_30 : decode cX9_start 30 = .ok (.iload 5, 2) := by decide +kernel
theorem dX9_start_32 : decode cX9_start 32 = .ok (.bipush 100, 2) := by decide +kernel
theorem dX9_start_34 : decode cX9_start 34 = .ok (.if_icmp .ge 66, 3) := by decide +kernel
theorem dX9_start_37 : decode cX9_start 37 = .ok (.aload_n 0, 1) := by decide +kernel
theorem dX9_start_38 : decode cX9_start 38 = .ok (.getfield 31, 3) := by decide +kernel
theorem dX9_start_41 : decode cX9_start 41 = .ok (.aload_n 0, 1) := by decide +kernel
theorem dX9_start_42 : decode cX9_start 42 = .ok (.getfield 21, 3) := by decide +kernel
theorem dX9_start_45 : decode cX9_start 45 = .ok (.invokevirtual 171, 3) := by decide +kernel
theorem dX9_start_48 : decode cX9_start 48 = .ok (.astore 6, 2) := by decide +kernel
theorem dX9_start_50 : decode cX9_start 50 = .ok (.aload 6, 2) := by decide +kernel
theorem dX9_start_52 : decode cX9_start 52 = .ok (.getfield 99, 3) := by decide +kernel
theorem dX9_start_55 : decode cX9_start 55 = .ok (.iload_n 1, 1) := by decide +kernel
theorem dX9_start_56 : decode cX9_start 56 = .ok (.aaload, 1) := by decide +kernel
theorem dX9_start_57 : decode cX9_start 57 = .ok (.iload 5, 2) := by decide +kernel
theorem dX9_start_59 : decode cX9_start 59 = .ok (.putfield 133, 3) := by decide +kernel
theorem dX9_start_62 : decode cX9_start 62 = .ok (.aload_n 0, 1) := by decide +kernel
theorem dX9_start_63 : decode cX9_start 63 = .ok (.getfield 31, 3) := by decide +kernel
theorem dX9_start_66 : decode cX9_start 66 = .ok (.iconst 0, 1) := by decide +kernel
theorem dX9_start_67 : decode cX9_start 67 = .ok (.bipush 99, 2) := by decide +kernel
theorem dX9_start_69 : decode cX9_start 69 = .ok (.invokevirtual 175, 3) := by decide +kernel
theorem dX9_start_72 : decode cX9_start 72 = .ok (.istore 7, 2) := by decide +kernel
theorem dX9_start_74 : decode cX9_start 74 = .ok (.iload_n 3, 1) := by decide +kernel
theorem dX9_start_75 : decode cX9_start 75 = .ok (.ldc 178, 2) := by decide +kernel
theorem dX9_start_77 : decode cX9_start 77 = .ok (.if_icmp .eq 10, 3) := by decide +kernel
theorem dX9_start_80 : decode cX9_start 80 = .ok (.iload 7, 2) := by decide +kernel
theorem dX9_start_82 : decode cX9_start 82 = .ok (.iload 4, 2) := by decide +kernel
theorem dX9_start_84 : decode cX9_start 84 = .ok (.if_icmp .ge 10, 3) := by decide +kernel
theorem dX9_start_87 : decode cX9_start 87 = .ok (.iload 7, 2) := by decide +kernel
theorem dX9_start_89 : decode cX9_start 89 = .ok (.istore 4, 2) := by decide +kernel
theorem dX9_start_91 : decode cX9_start 91 = .ok (.iload 5, 2) := by decide +kernel
theorem dX9_start_93 : decode cX9_start 93 = .ok (.istore_n 3, 1) := by decide +kernel
theorem dX9_start_94 : decode cX9_start 94 = .ok (.iinc 5 10, 3) := by decide +kernel
theorem dX9_start_97 : decode cX9_start 97 = .ok (.goto (-67), 3) := by decide +kernel
theorem dX9_start_100 : decode cX9_start 100 = .ok (.iload_n 2, 1) := by decide +kernel
theorem dX9_start_101 : decode cX9_start 101 = .ok (.ifCond .ne 7, 3) := by decide +kernel
theorem dX9_start_104 : decode cX9_start 104 = .ok (.iload_n 3, 1) := by decide +kernel
theorem dX9_start_105 : decode cX9_start 105 = .ok (.goto 5, 3) := by decide +kernel
theorem dX9_start_108 : decode cX9_start 108 = .ok (.iload 4, 2) := by decide +kernel
theorem dX9_start_110 : decode cX9_start 110 = .ok (.ireturn, 1) := by decide +kernel
theorem dX9_tells_0 : decode cX9_tells 0 = .ok (.iload_n 1, 1) := by decide +kernel
theorem dX9_tells_1 : decode cX9_tells 1 = .ok (.ifCond .lt 8, 3) := by decide +kernel
theorem dX9_tells_4 : decode cX9_tells 4 = .ok (.iload_n 1, 1) := by decide +kernel
theorem dX9_tells_5 : decode cX9_tells 5 = .ok (.iconst 1, 1) := by decide +kernel
theorem dX9_tells_6 : decode cX9_tells 6 = .ok (.if_icmp .le 6, 3) := by decide +kernel
theorem dX9_tells_9 : decode cX9_tells 9 = .ok (.ldc 87, 2) := by decide +kernel
theorem dX9_tells_11 : decode cX9_tells 11 = .ok (.ireturn, 1) := by decide +kernel
theorem dX9_tells_12 : decode cX9_tells 12 = .ok (.ldc 178, 2) := by decide +kernel
theorem dX9_tells_14 : decode cX9_tells 14 = .ok (.istore_n 2, 1) := by decide +kernel
theorem dX9_tells_15 : decode cX9_tells 15 = .ok (.ldc 178, 2) := by decide +kernel
theorem dX9_tells_17 : decode cX9_tells 17 = .ok (.istore_n 3, 1) := by decide +kernel
theorem dX9_tells_18 : decode cX9_tells 18 = .ok (.iconst 0, 1) := by decide +kernel
theorem dX9_tells_19 : decode cX9_tells 19 = .ok (.istore 4, 2) := by decide +kernel
theorem dX9_tells_21 : decode cX9_tells 21 = .ok (.iload 4, 2) := by decide +kernel
theorem dX9_tells_23 : decode cX9_tells 23 = .ok (.aload_n 0, 1) := by decide +kernel
theorem dX9_tells_24 : decode cX9_tells 24 = .ok (.getfield 21, 3) := by decide +kernel
theorem dX9_tells_27 : decode cX9_tells 27 = .ok (.getfield 88, 3) := by decide +kernel
theorem dX9_tells_30 : decode cX9_tells 30 = .ok (.if_icmp .ge 55, 3) := by decide +kernel
theorem dX9_tells_33 : decode cX9_tells 33 = .ok (.aload_n 0, 1) := by decide +kernel
theorem dX9_tells_34 : decode cX9_tells 34 = .ok (.getfield 31, 3) := by decide +kernel
theorem dX9_tells_37 : decode cX9_tells 37 = .ok (.aload_n 0, 1) := by decide +kernel
theorem dX9_tells_38 : decode cX9_tells 38 = .ok (.getfield 21, 3) := by decide +kernel
theorem dX9_tells_41 : decode cX9_tells 41 = .ok (.invokevirtual 171, 3) := by decide +kernel
theorem dX9_tells_44 : decode cX9_tells 44 = .ok (.iload 4, 2) := by decide +kernel
theorem dX9_tells_46 : decode cX9_tells 46 = .ok (.invokevirtual 182, 3) := by decide +kernel
theorem dX9_tells_49 : decode cX9_tells 49 = .ok (.aload_n 0, 1) := by decide +kernel
theorem dX9_tells_50 : decode cX9_tells 50 = .ok (.getfield 31, 3) := by decide +kernel
theorem dX9_tells_53 : decode cX9_tells 53 = .ok (.iconst 0, 1) := by decide +kernel
theorem dX9_tells_54 : decode cX9_tells 54 = .ok (.bipush 99, 2) := by decide +kernel
theorem dX9_tells_56 : decode cX9_tells 56 = .ok (.invokevirtual 175, 3) := by decide +kernel
theorem dX9_tells_59 : decode cX9_tells 59 = .ok (.istore 5, 2) := by decide +kernel
theorem dX9_tells_61 : decode cX9_tells 61 = .ok (.iload_n 2, 1) := by decide +kernel
theorem dX9_tells_62 : decode cX9_tells 62 = .ok (.ldc 178, 2) := by decide +kernel
theorem dX9_tells_64 : decode cX9_tells 64 = .ok (.if_icmp .eq 9, 3) := by decide +kernel
theorem dX9_tells_67 : decode cX9_tells 67 = .ok (.iload 5, 2) := by decide +kernel
theorem dX9_tells_69 : decode cX9_tells 69 = .ok (.iload_n 3, 1) := by decide +kernel
theorem dX9_tells_70 : decode cX9_tells 70 = .ok (.if_icmp .ge 9, 3) := by decide +kernel
theorem dX9_tells_73 : decode cX9_tells 73 = .ok (.iload 5, 2) := by decide +kernel
theorem dX9_tells_75 : decode cX9_tells 75 = .ok (.istore_n 3, 1) := by decide +kernel
theorem dX9_tells_76 : decode cX9_tells 76 = .ok (.iload 4, 2) := by decide +kernel
theorem dX9_tells_78 : decode cX9_tells 78 = .ok (.istore_n 2, 1) := by decide +kernel
theorem dX9_tells_79 : decode cX9_tells 79 = .ok (.iinc 4 1, 3) := by decide +kernel
theorem dX9_tells_82 : decode cX9_tells 82 = .ok (.goto (-61), 3) := by decide +kernel
theorem dX9_tells_85 : decode cX9_tells 85 = .ok (.iload_n 1, 1) := by decide +kernel
theorem dX9_tells_86 : decode cX9_tells 86 = .ok (.ifCond .ne 7, 3) := by decide +kernel
theorem dX9_tells_89 : decode cX9_tells 89 = .ok (.iload_n 2, 1) := by decide +kernel
theorem dX9_tells_90 : decode cX9_tells 90 = .ok (.goto 4, 3) := by decide +kernel
theorem dX9_tells_93 : decode cX9_tells 93 = .ok (.iload_n 3, 1) := by decide +kernel
theorem dX9_tells_94 : decode cX9_tells 94 = .ok (.ireturn, 1) := by decide +kernel
theorem dX9_keeps_0 : decode cX9_keeps 0 = .ok (.aload_n 0, 1) := by decide +kernel
theorem dX9_keeps_1 : decode cX9_keeps 1 = .ok (.iload_n 1, 1) := by decide +kernel
theorem dX9_keeps_2 : decode cX9_keeps 2 = .ok (.invokevirtual 96, 3) := by decide +kernel
theorem dX9_keeps_5 : decode cX9_keeps 5 = .ok (.ifCond .ne 6, 3) := by decide +kernel
theorem dX9_keeps_8 : decode cX9_keeps 8 = .ok (.ldc 87, 2) := by decide +kernel
theorem dX9_keeps_10 : decode cX9_keeps 10 = .ok (.ireturn, 1) := by decide +kernel
theorem dX9_keeps_11 : decode cX9_keeps 11 = .ok (.aload_n 0, 1) := by decide +kernel
theorem dX9_keeps_12 : decode cX9_keeps 12 = .ok (.getfield 31, 3) := by decide +kernel
theorem dX9_keeps_15 : decode cX9_keeps 15 = .ok (.aload_n 0, 1) := by decide +kernel
theorem dX9_keeps_16 : decode cX9_keeps 16 = .ok (.getfield 21, 3) := by decide +kernel
theorem dX9_keeps_19 : decode cX9_keeps 19 = .ok (.invokevirtual 171, 3) := by decide +kernel
theorem dX9_keeps_22 : decode cX9_keeps 22 = .ok (.pop, 1) := by decide +kernel
theorem dX9_keeps_23 : decode cX9_keeps 23 = .ok (.aload_n 0, 1) := by decide +kernel
theorem dX9_keeps_24 : decode cX9_keeps 24 = .ok (.getfield 31, 3) := by decide +kernel
theorem dX9_keeps_27 : decode cX9_keeps 27 = .ok (.aload_n 0, 1) := by decide +kernel
theorem dX9_keeps_28 : decode cX9_keeps 28 = .ok (.getfield 21, 3) := by decide +kernel
theorem dX9_keeps_31 : decode cX9_keeps 31 = .ok (.getfield 186, 3) := by decide +kernel
theorem dX9_keeps_34 : decode cX9_keeps 34 = .ok (.aload_n 0, 1) := by decide +kernel
theorem dX9_keeps_35 : decode cX9_keeps 35 = .ok (.getfield 21, 3) := by decide +kernel
theorem dX9_keeps_38 : decode cX9_keeps 38 = .ok (.getfield 186, 3) := by decide +kernel
theorem dX9_keeps_41 : decode cX9_keeps 41 = .ok (.invokevirtual 175, 3) := by decide +kernel
theorem dX9_keeps_44 : decode cX9_keeps 44 = .ok (.istore_n 2, 1) := by decide +kernel
theorem dX9_keeps_45 : decode cX9_keeps 45 = .ok (.aload_n 0, 1) := by decide +kernel
theorem dX9_keeps_46 : decode cX9_keeps 46 = .ok (.getfield 31, 3) := by decide +kernel
theorem dX9_keeps_49 : decode cX9_keeps 49 = .ok (.aload_n 0, 1) := by decide +kernel
theorem dX9_keeps_50 : decode cX9_keeps 50 = .ok (.getfield 21, 3) := by decide +kernel
theorem dX9_keeps_53 : decode cX9_keeps 53 = .ok (.invokevirtual 171, 3) := by decide +kernel
theorem dX9_keeps_56 : decode cX9_keeps 56 = .ok (.astore_n 3, 1) := by decide +kernel
theorem dX9_keeps_57 : decode cX9_keeps 57 = .ok (.aload_n 3, 1) := by decide +kernel
theorem dX9_keeps_58 : decode cX9_keeps 58 = .ok (.getfield 99, 3) := by decide +kernel
theorem dX9_keeps_61 : decode cX9_keeps 61 = .ok (.iload_n 1, 1) := by decide +kernel
theorem dX9_keeps_62 : decode cX9_keeps 62 = .ok (.aaload, 1) := by decide +kernel
theorem dX9_keeps_63 : decode cX9_keeps 63 = .ok (.iconst 5, 1) := by decide +kernel
theorem dX9_keeps_64 : decode cX9_keeps 64 = .ok (.putfield 103, 3) := by decide +kernel
theorem dX9_keeps_67 : decode cX9_keeps 67 = .ok (.aload_n 0, 1) := by decide +kernel
theorem dX9_keeps_68 : decode cX9_keeps 68 = .ok (.getfield 31, 3) := by decide +kernel
theorem dX9_keeps_71 : decode cX9_keeps 71 = .ok (.aload_n 0, 1) := by decide +kernel
theorem dX9_keeps_72 : decode cX9_keeps 72 = .ok (.getfield 21, 3) := by decide +kernel
theorem dX9_keeps_75 : decode cX9_keeps 75 = .ok (.getfield 186, 3) := by decide +kernel
theorem dX9_keeps_78 : decode cX9_keeps 78 = .ok (.aload_n 0, 1) := by decide +kernel
theorem dX9_keeps_79 : decode cX9_keeps 79 = .ok (.getfield 21, 3) := by decide +kernel
theorem dX9_keeps_82 : decode cX9_keeps 82 = .ok (.getfield 186, 3) := by decide +kernel
theorem dX9_keeps_85 : decode cX9_keeps 85 = .ok (.invokevirtual 175, 3) := by decide +kernel
theorem dX9_keeps_88 : decode cX9_keeps 88 = .ok (.iload_n 2, 1) := by decide +kernel
theorem dX9_keeps_89 : decode cX9_keeps 89 = .ok (.isub, 1) := by decide +kernel
theorem dX9_keeps_90 : decode cX9_keeps 90 = .ok (.ireturn, 1) := by decide +kernel
theorem dX9_behind_0 : decode cX9_behind 0 = .ok (.aload_n 0, 1) := by decide +kernel
theorem dX9_behind_1 : decode cX9_behind 1 = .ok (.iload_n 1, 1) := by decide +kernel
theorem dX9_behind_2 : decode cX9_behind 2 = .ok (.invokevirtual 96, 3) := by decide +kernel
theorem dX9_behind_5 : decode cX9_behind 5 = .ok (.ifCond .eq 22, 3) := by decide +kernel
theorem dX9_behind_8 : decode cX9_behind 8 = .ok (.iload_n 2, 1) := by decide +kernel
theorem dX9_behind_9 : decode cX9_behind 9 = .ok (.ifCond .lt 18, 3) := by decide +kernel
theorem dX9_behind_12 : decode cX9_behind 12 = .ok (.iload_n 2, 1) := by decide +kernel
theorem dX9_behind_13 : decode cX9_behind 13 = .ok (.bipush 100, 2) := by decide +kernel
theorem dX9_behind_15 : decode cX9_behind 15 = .ok (.if_icmp .gt 12, 3) := by decide +kernel
theorem dX9_behind_18 : decode cX9_behind 18 = .ok (.iload_n 3, 1) := by decide +kernel
theorem dX9_behind_19 : decode cX9_behind 19 = .ok (.ifCond .lt 8, 3) := by decide +kernel
theorem dX9_behind_22 : decode cX9_behind 22 = .ok (.iload_n 3, 1) := by decide +kernel
theorem dX9_behind_23 : decode cX9_behind 23 = .ok (.iconst 3, 1) := by decide +kernel
theorem dX9_behind_24 : decode cX9_behind 24 = .ok (.if_icmp .le 6, 3) := by decide +kernel
theorem dX9_behind_27 : decode cX9_behind 27 = .ok (.ldc 87, 2) := by decide +kernel
theorem dX9_behind_29 : decode cX9_behind 29 = .ok (.ireturn, 1) := by decide +kernel
theorem dX9_behind_30 : decode cX9_behind 30 = .ok (.aload_n 0, 1) := by decide +kernel
theorem dX9_behind_31 : decode cX9_behind 31 = .ok (.getfield 31, 3) := by decide +kernel
theorem dX9_behind_34 : decode cX9_behind 34 = .ok (.aload_n 0, 1) := by decide +kernel
theorem dX9_behind_35 : decode cX9_behind 35 = .ok (.getfield 21, 3) := by decide +kernel
theorem dX9_behind_38 : decode cX9_behind 38 = .ok (.invokevirtual 171, 3) := by decide +kernel
theorem dX9_behind_41 : decode cX9_behind 41 = .ok (.astore 4, 2) := by decide +kernel
theorem dX9_behind_43 : decode cX9_behind 43 = .ok (.iconst 0, 1) := by decide +kernel
theorem dX9_behind_44 : decode cX9_behind 44 = .ok (.istore 5, 2) := by decide +kernel
theorem dX9_behind_46 : decode cX9_behind 46 = .ok (.iload 5, 2) := by decide +kernel
theorem dX9_behind_48 : decode cX9_behind 48 = .ok (.iload_n 2, 1) := by decide +kernel
theorem dX9_behind_49 : decode cX9_behind 49 = .ok (.if_icmp .ge 15, 3) := by decide +kernel
theorem dX9_behind_52 : decode cX9_behind 52 = .ok (.aload 4, 2) := by decide +kernel
theorem dX9_behind_54 : decode cX9_behind 54 = .ok (.invokevirtual 167, 3) := by decide +kernel
theorem dX9_behind_57 : decode cX9_behind 57 = .ok (.pop, 1) := by decide +kernel
theorem dX9_behind_58 : decode cX9_behind 58 = .ok (.iinc 5 1, 3) := by decide +kernel
theorem dX9_behind_61 : decode cX9_behind 61 = .ok (.goto (-15), 3) := by decide +kernel
theorem dX9_behind_64 : decode cX9_behind 64 = .ok (.iload_n 3, 1) := by decide +kernel
theorem dX9_behind_65 : decode cX9_behind 65 = .ok (.tableswitch 50 0 2 #[27, 33, 44], 27) := by decide +kernel
theorem dX9_behind_92 : decode cX9_behind 92 = .ok (.aload 4, 2) := by decide +kernel
theorem dX9_behind_94 : decode cX9_behind 94 = .ok (.invokevirtual 161, 3) := by decide +kernel
theorem dX9_behind_97 : decode cX9_behind 97 = .ok (.ireturn, 1) := by decide +kernel
theorem dX9_behind_98 : decode cX9_behind 98 = .ok (.aload 4, 2) := by decide +kernel
theorem dX9_behind_100 : decode cX9_behind 100 = .ok (.getfield 99, 3) := by decide +kernel
theorem dX9_behind_103 : decode cX9_behind 103 = .ok (.iload_n 1, 1) := by decide +kernel
theorem dX9_behind_104 : decode cX9_behind 104 = .ok (.aaload, 1) := by decide +kernel
theorem dX9_behind_105 : decode cX9_behind 105 = .ok (.getfield 133, 3) := by decide +kernel
theorem dX9_behind_108 : decode cX9_behind 108 = .ok (.ireturn, 1) := by decide +kernel
theorem dX9_behind_109 : decode cX9_behind 109 = .ok (.aload 4, 2) := by decide +kernel
theorem dX9_behind_111 : decode cX9_behind 111 = .ok (.getfield 186, 3) := by decide +kernel
theorem dX9_behind_114 : decode cX9_behind 114 = .ok (.ireturn, 1) := by decide +kernel
theorem dX9_behind_115 : decode cX9_behind 115 = .ok (.aload 4, 2) := by decide +kernel
theorem dX9_behind_117 : decode cX9_behind 117 = .ok (.getfield 189, 3) := by decide +kernel
theorem dX9_behind_120 : decode cX9_behind 120 = .ok (.ifCond .eq 7, 3) := by decide +kernel
theorem dX9_behind_123 : decode cX9_behind 123 = .ok (.iconst 1, 1) := by decide +kernel
theorem dX9_behind_124 : decode cX9_behind 124 = .ok (.goto 4, 3) := by decide +kernel
theorem dX9_behind_127 : decode cX9_behind 127 = .ok (.iconst 0, 1) := by decide +kernel
theorem dX9_behind_128 : decode cX9_behind 128 = .ok (.ireturn, 1) := by decide +kernel
theorem dX9_left_0 : decode cX9_left 0 = .ok (.iload_n 1, 1) := by decide +kernel
theorem dX9_left_1 : decode cX9_left 1 = .ok (.invokestatic 192, 3) := by decide +kernel
theorem dX9_left_4 : decode cX9_left 4 = .ok (.ifCond .eq 12, 3) := by decide +kernel
theorem dX9_left_7 : decode cX9_left 7 = .ok (.iload_n 2, 1) := by decide +kernel
theorem dX9_left_8 : decode cX9_left 8 = .ok (.ifCond .lt 8, 3) := by decide +kernel
theorem dX9_left_11 : decode cX9_left 11 = .ok (.iload_n 2, 1) := by decide +kernel
theorem dX9_left_12 : decode cX9_left 12 = .ok (.iconst 1, 1) := by decide +kernel
theorem dX9_left_13 : decode cX9_left 13 = .ok (.if_icmp .le 6, 3) := by decide +kernel
theorem dX9_left_16 : decode cX9_left 16 = .ok (.ldc 87, 2) := by decide +kernel
theorem dX9_left_18 : decode cX9_left 18 = .ok (.ireturn, 1) := by decide +kernel
theorem dX9_left_19 : decode cX9_left 19 = .ok (.aload_n 0, 1) := by decide +kernel
theorem dX9_left_20 : decode cX9_left 20 = .ok (.getfield 53, 3) := by decide +kernel
theorem dX9_left_23 : decode cX9_left 23 = .ok (.iload_n 1, 1) := by decide +kernel
theorem dX9_left_24 : decode cX9_left 24 = .ok (.aaload, 1) := by decide +kernel
theorem dX9_left_25 : decode cX9_left 25 = .ok (.astore_n 3, 1) := by decide +kernel
theorem dX9_left_26 : decode cX9_left 26 = .ok (.aload_n 3, 1) := by decide +kernel
theorem dX9_left_27 : decode cX9_left 27 = .ok (.getfield 195, 3) := by decide +kernel
theorem dX9_left_30 : decode cX9_left 30 = .ok (.iconst (-1), 1) := by decide +kernel
theorem dX9_left_31 : decode cX9_left 31 = .ok (.if_icmp .ne 6, 3) := by decide +kernel
theorem dX9_left_34 : decode cX9_left 34 = .ok (.ldc 198, 2) := by decide +kernel
theorem dX9_left_36 : decode cX9_left 36 = .ok (.ireturn, 1) := by decide +kernel
theorem dX9_left_37 : decode cX9_left 37 = .ok (.iconst 0, 1) := by decide +kernel
theorem dX9_left_38 : decode cX9_left 38 = .ok (.istore 4, 2) := by decide +kernel
theorem dX9_left_40 : decode cX9_left 40 = .ok (.ldc 178, 2) := by decide +kernel
theorem dX9_left_42 : decode cX9_left 42 = .ok (.istore 5, 2) := by decide +kernel
theorem dX9_left_44 : decode cX9_left 44 = .ok (.bipush 99, 2) := by decide +kernel
theorem dX9_left_46 : decode cX9_left 46 = .ok (.istore 6, 2) := by decide +kernel
theorem dX9_left_48 : decode cX9_left 48 = .ok (.iload 6, 2) := by decide +kernel
theorem dX9_left_50 : decode cX9_left 50 = .ok (.ifCond .lt 46, 3) := by decide +kernel
theorem dX9_left_53 : decode cX9_left 53 = .ok (.aload_n 0, 1) := by decide +kernel
theorem dX9_left_54 : decode cX9_left 54 = .ok (.getfield 21, 3) := by decide +kernel
theorem dX9_left_57 : decode cX9_left 57 = .ok (.getfield 88, 3) := by decide +kernel
theorem dX9_left_60 : decode cX9_left 60 = .ok (.ifCond .le 36, 3) := by decide +kernel
theorem dX9_left_63 : decode cX9_left 63 = .ok (.aload_n 0, 1) := by decide +kernel
theorem dX9_left_64 : decode cX9_left 64 = .ok (.getfield 31, 3) := by decide +kernel
theorem dX9_left_67 : decode cX9_left 67 = .ok (.aload_n 0, 1) := by decide +kernel
theorem dX9_left_68 : decode cX9_left 68 = .ok (.getfield 21, 3) := by decide +kernel
theorem dX9_left_71 : decode cX9_left 71 = .ok (.invokevirtual 171, 3) := by decide +kernel
theorem dX9_left_74 : decode cX9_left 74 = .ok (.iload 6, 2) := by decide +kernel
theorem dX9_left_76 : decode cX9_left 76 = .ok (.aload_n 3, 1) := by decide +kernel
theorem dX9_left_77 : decode cX9_left 77 = .ok (.invokevirtual 199, 3) := by decide +kernel
theorem dX9_left_80 : decode cX9_left 80 = .ok (.ifCond .eq 10, 3) := by decide +kernel
theorem dX9_left_83 : decode cX9_left 83 = .ok (.iinc 4 1, 3) := by decide +kernel
theorem dX9_left_86 : decode cX9_left 86 = .ok (.iload 6, 2) := by decide +kernel
theorem dX9_left_88 : decode cX9_left 88 = .ok (.istore 5, 2) := by decide +kernel
theorem dX9_left_90 : decode cX9_left 90 = .ok (.iinc 6 (-1), 3) := by decide +kernel
theorem dX9_left_93 : decode cX9_left 93 = .ok (.goto (-45), 3) := by decide +kernel
theorem dX9_left_96 : decode cX9_left 96 = .ok (.iload_n 2, 1) := by decide +kernel
theorem dX9_left_97 : decode cX9_left 97 = .ok (.ifCond .ne 8, 3) := by decide +kernel
theorem dX9_left_100 : decode cX9_left 100 = .ok (.iload 4, 2) := by decide +kernel
theorem dX9_left_102 : decode cX9_left 102 = .ok (.goto 5, 3) := by decide +kernel
theorem dX9_left_105 : decode cX9_left 105 = .ok (.iload 5, 2) := by decide +kernel
theorem dX9_left_107 : decode cX9_left 107 = .ok (.ireturn, 1) := by decide +kernel
theorem dX9_fee_0 : decode cX9_fee 0 = .ok (.aload_n 0, 1) := by decide +kernel
theorem dX9_fee_1 : decode cX9_fee 1 = .ok (.getfield 21, 3) := by decide +kernel
theorem dX9_fee_4 : decode cX9_fee 4 = .ok (.iconst 1, 1) := by decide +kernel
theorem dX9_fee_5 : decode cX9_fee 5 = .ok (.invokevirtual 112, 3) := by decide +kernel
theorem dX9_fee_8 : decode cX9_fee 8 = .ok (.istore_n 1, 1) := by decide +kernel
theorem dX9_fee_9 : decode cX9_fee 9 = .ok (.iload_n 1, 1) := by decide +kernel
theorem dX9_fee_10 : decode cX9_fee 10 = .ok (.ifCond .ge 13, 3) := by decide +kernel
theorem dX9_fee_13 : decode cX9_fee 13 = .ok (.aload_n 0, 1) := by decide +kernel
theorem dX9_fee_14 : decode cX9_fee 14 = .ok (.getfield 21, 3) := by decide +kernel
theorem dX9_fee_17 : decode cX9_fee 17 = .ok (.getfield 164, 3) := by decide +kernel
theorem dX9_fee_20 : decode cX9_fee 20 = .ok (.goto 26, 3) := by decide +kernel
theorem dX9_fee_23 : decode cX9_fee 23 = .ok (.aload_n 0, 1) := by decide +kernel
theorem dX9_fee_24 : decode cX9_fee 24 = .ok (.getfield 12, 3) := by decide +kernel
theorem dX9_fee_27 : decode cX9_fee 27 = .ok (.iload_n 1, 1) := by decide +kernel
theorem dX9_fee_28 : decode cX9_fee 28 = .ok (.aload_n 0, 1) := by decide +kernel
theorem dX9_fee_29 : decode cX9_fee 29 = .ok (.getfield 21, 3) := by decide +kernel
theorem dX9_fee_32 : decode cX9_fee 32 = .ok (.getfield 164, 3) := by decide +kernel
theorem dX9_fee_35 : decode cX9_fee 35 = .ok (.aload_n 0, 1) := by decide +kernel
theorem dX9_fee_36 : decode cX9_fee 36 = .ok (.getfield 21, 3) := by decide +kernel
theorem dX9_fee_39 : decode cX9_fee 39 = .ok (.getfield 203, 3) := by decide +kernel
theorem dX9_fee_42 : decode cX9_fee 42 = .ok (.iconst 0, 1) := by decide +kernel
theorem dX9_fee_43 : decode cX9_fee 43 = .ok (.invokevirtual 206, 3) := by decide +kernel
theorem dX9_fee_46 : decode cX9_fee 46 = .ok (.ireturn, 1) := by decide +kernel
theorem dX9_fine_0 : decode cX9_fine 0 = .ok (.aload_n 0, 1) := by decide +kernel
theorem dX9_fine_1 : decode cX9_fine 1 = .ok (.iload_n 1, 1) := by decide +kernel
theorem dX9_fine_2 : decode cX9_fine 2 = .ok (.invokevirtual 96, 3) := by decide +kernel
theorem dX9_fine_5 : decode cX9_fine 5 = .ok (.ifCond .ne 6, 3) := by decide +kernel
theorem dX9_fine_8 : decode cX9_fine 8 = .ok (.ldc 87, 2) := by decide +kernel
theorem dX9_fine_10 : decode cX9_fine 10 = .ok (.ireturn, 1) := by decide +kernel
theorem dX9_fine_11 : decode cX9_fine 11 = .ok (.aload_n 0, 1) := by decide +kernel
theorem dX9_fine_12 : decode cX9_fine 12 = .ok (.getfield 21, 3) := by decide +kernel
theorem dX9_fine_15 : decode cX9_fine 15 = .ok (.getfield 99, 3) := by decide +kernel
theorem dX9_fine_18 : decode cX9_fine 18 = .ok (.iload_n 1, 1) := by decide +kernel
theorem dX9_fine_19 : decode cX9_fine 19 = .ok (.aaload, 1) := by decide +kernel
theorem dX9_fine_20 : decode cX9_fine 20 = .ok (.astore_n 2, 1) := by decide +kernel
theorem dX9_fine_21 : decode cX9_fine 21 = .ok (.aload_n 0, 1) := by decide +kernel
theorem dX9_fine_22 : decode cX9_fine 22 = .ok (.getfield 21, 3) := by decide +kernel
theorem dX9_fine_25 : decode cX9_fine 25 = .ok (.iconst 2, 1) := by decide +kernel
theorem dX9_fine_26 : decode cX9_fine 26 = .ok (.invokevirtual 112, 3) := by decide +kernel
theorem dX9_fine_29 : decode cX9_fine 29 = .ok (.istore_n 3, 1) := by decide +kernel
theorem dX9_fine_30 : decode cX9_fine 30 = .ok (.iload_n 3, 1) := by decide +kernel
theorem dX9_fine_31 : decode cX9_fine 31 = .ok (.ifCond .ge 10, 3) := by decide +kernel
theorem dX9_fine_34 : decode cX9_fine 34 = .ok (.aload_n 2, 1) := by decide +kernel
theorem dX9_fine_35 : decode cX9_fine 35 = .ok (.getfield 209, 3) := by decide +kernel
theorem dX9_fine_38 : decode cX9_fine 38 = .ok (.goto 20, 3) := by decide +kernel
theorem dX9_fine_41 : decode cX9_fine 41 = .ok (.aload_n 0, 1) := by decide +kernel
theorem dX9_fine_42 : decode cX9_fine 42 = .ok (.getfield 12, 3) := by decide +kernel
theorem dX9_fine_45 : decode cX9_fine 45 = .ok (.iload_n 3, 1) := by decide +kernel
theorem dX9_fine_46 : decode cX9_fine 46 = .ok (.aload_n 2, 1) := by decide +kernel
theorem dX9_fine_47 : decode cX9_fine 47 = .ok (.getfield 209, 3) := by decide +kernel
theorem dX9_fine_50 : decode cX9_fine 50 = .ok (.aload_n 2, 1) := by decide +kernel
theorem dX9_fine_51 : decode cX9_fine 51 = .ok (.getfield 133, 3) := by decide +kernel
theorem dX9_fine_54 : decode cX9_fine 54 = .ok (.iconst 0, 1) := by decide +kernel
theorem dX9_fine_55 : decode cX9_fine 55 = .ok (.invokevirtual 206, 3) := by decide +kernel
theorem dX9_fine_58 : decode cX9_fine 58 = .ok (.ireturn, 1) := by decide +kernel
theorem dX9_feed_0 : decode cX9_feed 0 = .ok (.aload_n 0, 1) := by decide +kernel
theorem dX9_feed_1 : decode cX9_feed 1 = .ok (.getfield 38, 3) := by decide +kernel
theorem dX9_feed_4 : decode cX9_feed 4 = .ok (.getfield 212, 3) := by decide +kernel
theorem dX9_feed_7 : decode cX9_feed 7 = .ok (.bipush 12, 2) := by decide +kernel
theorem dX9_feed_9 : decode cX9_feed 9 = .ok (.iadd, 1) := by decide +kernel
theorem dX9_feed_10 : decode cX9_feed 10 = .ok (.bipush 96, 2) := by decide +kernel
theorem dX9_feed_12 : decode cX9_feed 12 = .ok (.if_icmp .le 6, 3) := by decide +kernel
theorem dX9_feed_15 : decode cX9_feed 15 = .ok (.ldc 91, 2) := by decide +kernel
theorem dX9_feed_17 : decode cX9_feed 17 = .ok (.ireturn, 1) := by decide +kernel
theorem dX9_feed_18 : decode cX9_feed 18 = .ok (.aload_n 0, 1) := by decide +kernel
theorem dX9_feed_19 : decode cX9_feed 19 = .ok (.getfield 38, 3) := by decide +kernel
theorem dX9_feed_22 : decode cX9_feed 22 = .ok (.iload_n 1, 1) := by decide +kernel
theorem dX9_feed_23 : decode cX9_feed 23 = .ok (.invokevirtual 215, 3) := by decide +kernel
theorem dX9_feed_26 : decode cX9_feed 26 = .ok (.aload_n 0, 1) := by decide +kernel
theorem dX9_feed_27 : decode cX9_feed 27 = .ok (.getfield 38, 3) := by decide +kernel
theorem dX9_feed_30 : decode cX9_feed 30 = .ok (.iload_n 2, 1) := by decide +kernel
theorem dX9_feed_31 : decode cX9_feed 31 = .ok (.invokevirtual 215, 3) := by decide +kernel
theorem dX9_feed_34 : decode cX9_feed 34 = .ok (.aload_n 0, 1) := by decide +kernel
theorem dX9_feed_35 : decode cX9_feed 35 = .ok (.getfield 38, 3) := by decide +kernel
theorem dX9_feed_38 : decode cX9_feed 38 = .ok (.iload_n 3, 1) := by decide +kernel
theorem dX9_feed_39 : decode cX9_feed 39 = .ok (.invokevirtual 215, 3) := by decide +kernel
theorem dX9_feed_42 : decode cX9_feed 42 = .ok (.aload_n 0, 1) := by decide +kernel
theorem dX9_feed_43 : decode cX9_feed 43 = .ok (.getfield 38, 3) := by decide +kernel
theorem dX9_feed_46 : decode cX9_feed 46 = .ok (.getfield 212, 3) := by decide +kernel
theorem dX9_feed_49 : decode cX9_feed 49 = .ok (.ireturn, 1) := by decide +kernel
theorem dX9_trim_0 : decode cX9_trim 0 = .ok (.iload_n 1, 1) := by decide +kernel
theorem dX9_trim_1 : decode cX9_trim 1 = .ok (.ifCond .lt 14, 3) := by decide +kernel
theorem dX9_trim_4 : decode cX9_trim 4 = .ok (.iload_n 1, 1) := by decide +kernel
theorem dX9_trim_5 : decode cX9_trim 5 = .ok (.aload_n 0, 1) := by decide +kernel
theorem dX9_trim_6 : decode cX9_trim 6 = .ok (.getfield 38, 3) := by decide +kernel
theorem dX9_trim_9 : decode cX9_trim 9 = .ok (.getfield 212, 3) := by decide +kernel
theorem dX9_trim_12 : decode cX9_trim 12 = .ok (.if_icmp .le 6, 3) := by decide +kernel
theorem dX9_trim_15 : decode cX9_trim 15 = .ok (.ldc 87, 2) := by decide +kernel
theorem dX9_trim_17 : decode cX9_trim 17 = .ok (.ireturn, 1) := by decide +kernel
theorem dX9_trim_18 : decode cX9_trim 18 = .ok (.aload_n 0, 1) := by decide +kernel
theorem dX9_trim_19 : decode cX9_trim 19 = .ok (.getfield 38, 3) := by decide +kernel
theorem dX9_trim_22 : decode cX9_trim 22 = .ok (.iload_n 1, 1) := by decide +kernel
theorem dX9_trim_23 : decode cX9_trim 23 = .ok (.putfield 212, 3) := by decide +kernel
theorem dX9_trim_26 : decode cX9_trim 26 = .ok (.iload_n 1, 1) := by decide +kernel
theorem dX9_trim_27 : decode cX9_trim 27 = .ok (.ireturn, 1) := by decide +kernel
theorem dX9_text_0 : decode cX9_text 0 = .ok (.aload_n 0, 1) := by decide +kernel
theorem dX9_text_1 : decode cX9_text 1 = .ok (.getfield 47, 3) := by decide +kernel
theorem dX9_text_4 : decode cX9_text 4 = .ok (.invokevirtual 218, 3) := by decide +kernel
theorem dX9_text_7 : decode cX9_text 7 = .ok (.istore_n 1, 1) := by decide +kernel
theorem dX9_text_8 : decode cX9_text 8 = .ok (.aload_n 0, 1) := by decide +kernel
theorem dX9_text_9 : decode cX9_text 9 = .ok (.getfield 38, 3) := by decide +kernel
theorem dX9_text_12 : decode cX9_text 12 = .ok (.iconst 0, 1) := by decide +kernel
theorem dX9_text_13 : decode cX9_text 13 = .ok (.putfield 212, 3) := by decide +kernel
theorem dX9_text_16 : decode cX9_text 16 = .ok (.iload_n 1, 1) := by decide +kernel
theorem dX9_text_17 : decode cX9_text 17 = .ok (.ifCond .ne 14, 3) := by decide +kernel
theorem dX9_text_20 : decode cX9_text 20 = .ok (.bipush (-100), 2) := by decide +kernel
theorem dX9_text_22 : decode cX9_text 22 = .ok (.aload_n 0, 1) := by decide +kernel
theorem dX9_text_23 : decode cX9_text 23 = .ok (.getfield 47, 3) := by decide +kernel
theorem dX9_text_26 : decode cX9_text 26 = .ok (.getfield 221, 3) := by decide +kernel
theorem dX9_text_29 : decode cX9_text 29 = .ok (.isub, 1) := by decide +kernel
theorem dX9_text_30 : decode cX9_text 30 = .ok (.ireturn, 1) := by decide +kernel
theorem dX9_text_31 : decode cX9_text 31 = .ok (.aload_n 0, 1) := by decide +kernel
theorem dX9_text_32 : decode cX9_text 32 = .ok (.getfield 21, 3) := by decide +kernel
theorem dX9_text_35 : decode cX9_text 35 = .ok (.getfield 224, 3) := by decide +kernel
theorem dX9_text_38 : decode cX9_text 38 = .ok (.bipush 14, 2) := by decide +kernel
theorem dX9_text_40 : decode cX9_text 40 = .ok (.if_icmp .lt 6, 3) := by decide +kernel
theorem dX9_text_43 : decode cX9_text 43 = .ok (.ldc 91, 2) := by decide +kernel
theorem dX9_text_45 : decode cX9_text 45 = .ok (.ireturn, 1) := by decide +kernel
theorem dX9_text_46 : decode cX9_text 46 = .ok (.aload_n 0, 1) := by decide +kernel
theorem dX9_text_47 : decode cX9_text 47 = .ok (.getfield 12, 3) := by decide +kernel
theorem dX9_text_50 : decode cX9_text 50 = .ok (.getfield 227, 3) := by decide +kernel
theorem dX9_text_53 : decode cX9_text 53 = .ok (.aload_n 0, 1) := by decide +kernel
theorem dX9_text_54 : decode cX9_text 54 = .ok (.getfield 21, 3) := by decide +kernel
theorem dX9_text_57 : decode cX9_text 57 = .ok (.getfield 224, 3) := by decide +kernel
theorem dX9_text_60 : decode cX9_text 60 = .ok (.aaload, 1) := by decide +kernel
theorem dX9_text_61 : decode cX9_text 61 = .ok (.aload_n 0, 1) := by decide +kernel
theorem dX9_text_62 : decode cX9_text 62 = .ok (.getfield 47, 3) := by decide +kernel
theorem dX9_text_65 : decode cX9_text 65 = .ok (.invokevirtual 231, 3) := by decide +kernel
theorem dX9_text_68 : decode cX9_text 68 = .ok (.aload_n 0, 1) := by decide +kernel
theorem dX9_text_69 : decode cX9_text 69 = .ok (.getfield 21, 3) := by decide +kernel
theorem dX9_text_72 : decode cX9_text 72 = .ok (.invokevirtual 237, 3) := by decide +kernel
