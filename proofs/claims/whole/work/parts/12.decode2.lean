theorem dX9_text_75 : decode cX9_text 75 = .ok (.ireturn, 1) := by decide +kernel
theorem dX9_textTold_0 : decode cX9_textTold 0 = .ok (.iload_n 1, 1) := by decide +kernel
theorem dX9_textTold_1 : decode cX9_textTold 1 = .ok (.ifCond .lt 23, 3) := by decide +kernel
theorem dX9_textTold_4 : decode cX9_textTold 4 = .ok (.iload_n 1, 1) := by decide +kernel
theorem dX9_textTold_5 : decode cX9_textTold 5 = .ok (.aload_n 0, 1) := by decide +kernel
theorem dX9_textTold_6 : decode cX9_textTold 6 = .ok (.getfield 21, 3) := by decide +kernel
theorem dX9_textTold_9 : decode cX9_textTold 9 = .ok (.getfield 224, 3) := by decide +kernel
theorem dX9_textTold_12 : decode cX9_textTold 12 = .ok (.if_icmp .ge 12, 3) := by decide +kernel
theorem dX9_textTold_15 : decode cX9_textTold 15 = .ok (.iload_n 2, 1) := by decide +kernel
theorem dX9_textTold_16 : decode cX9_textTold 16 = .ok (.ifCond .lt 8, 3) := by decide +kernel
theorem dX9_textTold_19 : decode cX9_textTold 19 = .ok (.iload_n 2, 1) := by decide +kernel
theorem dX9_textTold_20 : decode cX9_textTold 20 = .ok (.iconst 1, 1) := by decide +kernel
theorem dX9_textTold_21 : decode cX9_textTold 21 = .ok (.if_icmp .le 6, 3) := by decide +kernel
theorem dX9_textTold_24 : decode cX9_textTold 24 = .ok (.ldc 87, 2) := by decide +kernel
theorem dX9_textTold_26 : decode cX9_textTold 26 = .ok (.ireturn, 1) := by decide +kernel
theorem dX9_textTold_27 : decode cX9_textTold 27 = .ok (.iload_n 2, 1) := by decide +kernel
theorem dX9_textTold_28 : decode cX9_textTold 28 = .ok (.ifCond .ne 18, 3) := by decide +kernel
theorem dX9_textTold_31 : decode cX9_textTold 31 = .ok (.aload_n 0, 1) := by decide +kernel
theorem dX9_textTold_32 : decode cX9_textTold 32 = .ok (.getfield 12, 3) := by decide +kernel
theorem dX9_textTold_35 : decode cX9_textTold 35 = .ok (.getfield 227, 3) := by decide +kernel
theorem dX9_textTold_38 : decode cX9_textTold 38 = .ok (.iload_n 1, 1) := by decide +kernel
theorem dX9_textTold_39 : decode cX9_textTold 39 = .ok (.aaload, 1) := by decide +kernel
theorem dX9_textTold_40 : decode cX9_textTold 40 = .ok (.getfield 240, 3) := by decide +kernel
theorem dX9_textTold_43 : decode cX9_textTold 43 = .ok (.goto 15, 3) := by decide +kernel
theorem dX9_textTold_46 : decode cX9_textTold 46 = .ok (.aload_n 0, 1) := by decide +kernel
theorem dX9_textTold_47 : decode cX9_textTold 47 = .ok (.getfield 12, 3) := by decide +kernel
theorem dX9_textTold_50 : decode cX9_textTold 50 = .ok (.getfield 227, 3) := by decide +kernel
theorem dX9_textTold_53 : decode cX9_textTold 53 = .ok (.iload_n 1, 1) := by decide +kernel
theorem dX9_textTold_54 : decode cX9_textTold 54 = .ok (.aaload, 1) := by decide +kernel
theorem dX9_textTold_55 : decode cX9_textTold 55 = .ok (.getfield 243, 3) := by decide +kernel
theorem dX9_textTold_58 : decode cX9_textTold 58 = .ok (.ireturn, 1) := by decide +kernel
theorem dX9_why_0 : decode cX9_why 0 = .ok (.iload_n 1, 1) := by decide +kernel
theorem dX9_why_1 : decode cX9_why 1 = .ok (.ifCond .lt 8, 3) := by decide +kernel
theorem dX9_why_4 : decode cX9_why 4 = .ok (.iload_n 1, 1) := by decide +kernel
theorem dX9_why_5 : decode cX9_why 5 = .ok (.iconst 3, 1) := by decide +kernel
theorem dX9_why_6 : decode cX9_why 6 = .ok (.if_icmp .lt 6, 3) := by decide +kernel
theorem dX9_why_9 : decode cX9_why 9 = .ok (.ldc 87, 2) := by decide +kernel
theorem dX9_why_11 : decode cX9_why 11 = .ok (.ireturn, 1) := by decide +kernel
theorem dX9_why_12 : decode cX9_why 12 = .ok (.aload_n 0, 1) := by decide +kernel
theorem dX9_why_13 : decode cX9_why 13 = .ok (.getfield 21, 3) := by decide +kernel
theorem dX9_why_16 : decode cX9_why 16 = .ok (.iload_n 1, 1) := by decide +kernel
theorem dX9_why_17 : decode cX9_why 17 = .ok (.invokevirtual 112, 3) := by decide +kernel
theorem dX9_why_20 : decode cX9_why 20 = .ok (.istore_n 2, 1) := by decide +kernel
theorem dX9_why_21 : decode cX9_why 21 = .ok (.iload_n 2, 1) := by decide +kernel
theorem dX9_why_22 : decode cX9_why 22 = .ok (.ifCond .ge 8, 3) := by decide +kernel
theorem dX9_why_25 : decode cX9_why 25 = .ok (.ldc 178, 2) := by decide +kernel
theorem dX9_why_27 : decode cX9_why 27 = .ok (.goto 4, 3) := by decide +kernel
theorem dX9_why_30 : decode cX9_why 30 = .ok (.iload_n 2, 1) := by decide +kernel
theorem dX9_why_31 : decode cX9_why 31 = .ok (.ireturn, 1) := by decide +kernel
theorem dX9_sheet_0 : decode cX9_sheet 0 = .ok (.iload_n 1, 1) := by decide +kernel
theorem dX9_sheet_1 : decode cX9_sheet 1 = .ok (.invokestatic 192, 3) := by decide +kernel
theorem dX9_sheet_4 : decode cX9_sheet 4 = .ok (.ifCond .eq 13, 3) := by decide +kernel
theorem dX9_sheet_7 : decode cX9_sheet 7 = .ok (.iload_n 2, 1) := by decide +kernel
theorem dX9_sheet_8 : decode cX9_sheet 8 = .ok (.iconst (-1), 1) := by decide +kernel
theorem dX9_sheet_9 : decode cX9_sheet 9 = .ok (.if_icmp .lt 8, 3) := by decide +kernel
theorem dX9_sheet_12 : decode cX9_sheet 12 = .ok (.iload_n 2, 1) := by decide +kernel
theorem dX9_sheet_13 : decode cX9_sheet 13 = .ok (.iconst 1, 1) := by decide +kernel
theorem dX9_sheet_14 : decode cX9_sheet 14 = .ok (.if_icmp .le 6, 3) := by decide +kernel
theorem dX9_sheet_17 : decode cX9_sheet 17 = .ok (.ldc 87, 2) := by decide +kernel
theorem dX9_sheet_19 : decode cX9_sheet 19 = .ok (.ireturn, 1) := by decide +kernel
theorem dX9_sheet_20 : decode cX9_sheet 20 = .ok (.iload_n 2, 1) := by decide +kernel
theorem dX9_sheet_21 : decode cX9_sheet 21 = .ok (.iconst (-1), 1) := by decide +kernel
theorem dX9_sheet_22 : decode cX9_sheet 22 = .ok (.if_icmp .ne 16, 3) := by decide +kernel
theorem dX9_sheet_25 : decode cX9_sheet 25 = .ok (.aload_n 0, 1) := by decide +kernel
theorem dX9_sheet_26 : decode cX9_sheet 26 = .ok (.getfield 53, 3) := by decide +kernel
theorem dX9_sheet_29 : decode cX9_sheet 29 = .ok (.iload_n 1, 1) := by decide +kernel
theorem dX9_sheet_30 : decode cX9_sheet 30 = .ok (.aaload, 1) := by decide +kernel
theorem dX9_sheet_31 : decode cX9_sheet 31 = .ok (.iconst (-1), 1) := by decide +kernel
theorem dX9_sheet_32 : decode cX9_sheet 32 = .ok (.iconst 0, 1) := by decide +kernel
theorem dX9_sheet_33 : decode cX9_sheet 33 = .ok (.invokevirtual 246, 3) := by decide +kernel
theorem dX9_sheet_36 : decode cX9_sheet 36 = .ok (.iconst 0, 1) := by decide +kernel
theorem dX9_sheet_37 : decode cX9_sheet 37 = .ok (.ireturn, 1) := by decide +kernel
theorem dX9_sheet_38 : decode cX9_sheet 38 = .ok (.iload_n 3, 1) := by decide +kernel
theorem dX9_sheet_39 : decode cX9_sheet 39 = .ok (.bipush 24, 2) := by decide +kernel
theorem dX9_sheet_41 : decode cX9_sheet 41 = .ok (.if_icmp .le 6, 3) := by decide +kernel
theorem dX9_sheet_44 : decode cX9_sheet 44 = .ok (.ldc 87, 2) := by decide +kernel
theorem dX9_sheet_46 : decode cX9_sheet 46 = .ok (.ireturn, 1) := by decide +kernel
theorem dX9_sheet_47 : decode cX9_sheet 47 = .ok (.iload_n 3, 1) := by decide +kernel
theorem dX9_sheet_48 : decode cX9_sheet 48 = .ok (.ifCond .ge 6, 3) := by decide +kernel
theorem dX9_sheet_51 : decode cX9_sheet 51 = .ok (.ldc 249, 2) := by decide +kernel
theorem dX9_sheet_53 : decode cX9_sheet 53 = .ok (.ireturn, 1) := by decide +kernel
theorem dX9_sheet_54 : decode cX9_sheet 54 = .ok (.aload_n 0, 1) := by decide +kernel
theorem dX9_sheet_55 : decode cX9_sheet 55 = .ok (.getfield 53, 3) := by decide +kernel
theorem dX9_sheet_58 : decode cX9_sheet 58 = .ok (.iload_n 1, 1) := by decide +kernel
theorem dX9_sheet_59 : decode cX9_sheet 59 = .ok (.aaload, 1) := by decide +kernel
theorem dX9_sheet_60 : decode cX9_sheet 60 = .ok (.iload_n 2, 1) := by decide +kernel
theorem dX9_sheet_61 : decode cX9_sheet 61 = .ok (.iload_n 3, 1) := by decide +kernel
theorem dX9_sheet_62 : decode cX9_sheet 62 = .ok (.invokevirtual 246, 3) := by decide +kernel
theorem dX9_sheet_65 : decode cX9_sheet 65 = .ok (.iload_n 3, 1) := by decide +kernel
theorem dX9_sheet_66 : decode cX9_sheet 66 = .ok (.ireturn, 1) := by decide +kernel
theorem dX9_mark_0 : decode cX9_mark 0 = .ok (.iload_n 1, 1) := by decide +kernel
theorem dX9_mark_1 : decode cX9_mark 1 = .ok (.invokestatic 192, 3) := by decide +kernel
theorem dX9_mark_4 : decode cX9_mark 4 = .ok (.ifCond .ne 6, 3) := by decide +kernel
theorem dX9_mark_7 : decode cX9_mark 7 = .ok (.ldc 87, 2) := by decide +kernel
theorem dX9_mark_9 : decode cX9_mark 9 = .ok (.ireturn, 1) := by decide +kernel
theorem dX9_mark_10 : decode cX9_mark 10 = .ok (.aload_n 0, 1) := by decide +kernel
theorem dX9_mark_11 : decode cX9_mark 11 = .ok (.getfield 53, 3) := by decide +kernel
theorem dX9_mark_14 : decode cX9_mark 14 = .ok (.iload_n 1, 1) := by decide +kernel
theorem dX9_mark_15 : decode cX9_mark 15 = .ok (.aaload, 1) := by decide +kernel
theorem dX9_mark_16 : decode cX9_mark 16 = .ok (.astore 4, 2) := by decide +kernel
theorem dX9_mark_18 : decode cX9_mark 18 = .ok (.aload 4, 2) := by decide +kernel
theorem dX9_mark_20 : decode cX9_mark 20 = .ok (.getfield 195, 3) := by decide +kernel
theorem dX9_mark_23 : decode cX9_mark 23 = .ok (.iconst (-1), 1) := by decide +kernel
theorem dX9_mark_24 : decode cX9_mark 24 = .ok (.if_icmp .ne 6, 3) := by decide +kernel
theorem dX9_mark_27 : decode cX9_mark 27 = .ok (.ldc 198, 2) := by decide +kernel
theorem dX9_mark_29 : decode cX9_mark 29 = .ok (.ireturn, 1) := by decide +kernel
theorem dX9_mark_30 : decode cX9_mark 30 = .ok (.aload 4, 2) := by decide +kernel
theorem dX9_mark_32 : decode cX9_mark 32 = .ok (.iload_n 2, 1) := by decide +kernel
theorem dX9_mark_33 : decode cX9_mark 33 = .ok (.invokevirtual 250, 3) := by decide +kernel
theorem dX9_mark_36 : decode cX9_mark 36 = .ok (.ifCond .ne 6, 3) := by decide +kernel
theorem dX9_mark_39 : decode cX9_mark 39 = .ok (.ldc 253, 2) := by decide +kernel
theorem dX9_mark_41 : decode cX9_mark 41 = .ok (.ireturn, 1) := by decide +kernel
theorem dX9_mark_42 : decode cX9_mark 42 = .ok (.aload 4, 2) := by decide +kernel
theorem dX9_mark_44 : decode cX9_mark 44 = .ok (.getfield 195, 3) := by decide +kernel
theorem dX9_mark_47 : decode cX9_mark 47 = .ok (.ifCond .ne 23, 3) := by decide +kernel
theorem dX9_mark_50 : decode cX9_mark 50 = .ok (.iload_n 3, 1) := by decide +kernel
theorem dX9_mark_51 : decode cX9_mark 51 = .ok (.ldc 178, 2) := by decide +kernel
theorem dX9_mark_53 : decode cX9_mark 53 = .ok (.if_icmp .ne 6, 3) := by decide +kernel
theorem dX9_mark_56 : decode cX9_mark 56 = .ok (.ldc 136, 2) := by decide +kernel
theorem dX9_mark_58 : decode cX9_mark 58 = .ok (.ireturn, 1) := by decide +kernel
theorem dX9_mark_59 : decode cX9_mark 59 = .ok (.aload 4, 2) := by decide +kernel
theorem dX9_mark_61 : decode cX9_mark 61 = .ok (.getfield 254, 3) := by decide +kernel
theorem dX9_mark_64 : decode cX9_mark 64 = .ok (.iload_n 2, 1) := by decide +kernel
theorem dX9_mark_65 : decode cX9_mark 65 = .ok (.iload_n 3, 1) := by decide +kernel
theorem dX9_mark_66 : decode cX9_mark 66 = .ok (.i2s, 1) := by decide +kernel
theorem dX9_mark_67 : decode cX9_mark 67 = .ok (.iastore, 1) := by decide +kernel
theorem dX9_mark_68 : decode cX9_mark 68 = .ok (.iconst 1, 1) := by decide +kernel
theorem dX9_mark_69 : decode cX9_mark 69 = .ok (.ireturn, 1) := by decide +kernel
theorem dX9_mark_70 : decode cX9_mark 70 = .ok (.iload_n 3, 1) := by decide +kernel
theorem dX9_mark_71 : decode cX9_mark 71 = .ok (.ldc 178, 2) := by decide +kernel
theorem dX9_mark_73 : decode cX9_mark 73 = .ok (.if_icmp .eq 20, 3) := by decide +kernel
theorem dX9_mark_76 : decode cX9_mark 76 = .ok (.iload_n 3, 1) := by decide +kernel
theorem dX9_mark_77 : decode cX9_mark 77 = .ok (.ldc_w 257, 3) := by decide +kernel
theorem dX9_mark_80 : decode cX9_mark 80 = .ok (.if_icmp .lt 10, 3) := by decide +kernel
theorem dX9_mark_83 : decode cX9_mark 83 = .ok (.iload_n 3, 1) := by decide +kernel
theorem dX9_mark_84 : decode cX9_mark 84 = .ok (.ldc_w 258, 3) := by decide +kernel
theorem dX9_mark_87 : decode cX9_mark 87 = .ok (.if_icmp .le 6, 3) := by decide +kernel
theorem dX9_mark_90 : decode cX9_mark 90 = .ok (.ldc 87, 2) := by decide +kernel
theorem dX9_mark_92 : decode cX9_mark 92 = .ok (.ireturn, 1) := by decide +kernel
theorem dX9_mark_93 : decode cX9_mark 93 = .ok (.aload 4, 2) := by decide +kernel
theorem dX9_mark_95 : decode cX9_mark 95 = .ok (.getfield 254, 3) := by decide +kernel
theorem dX9_mark_98 : decode cX9_mark 98 = .ok (.iload_n 2, 1) := by decide +kernel
theorem dX9_mark_99 : decode cX9_mark 99 = .ok (.iload_n 3, 1) := by decide +kernel
theorem dX9_mark_100 : decode cX9_mark 100 = .ok (.iastore, 1) := by decide +kernel
theorem dX9_mark_101 : decode cX9_mark 101 = .ok (.iconst 1, 1) := by decide +kernel
theorem dX9_mark_102 : decode cX9_mark 102 = .ok (.ireturn, 1) := by decide +kernel
theorem dX9_pour_0 : decode cX9_pour 0 = .ok (.iload_n 1, 1) := by decide +kernel
theorem dX9_pour_1 : decode cX9_pour 1 = .ok (.invokestatic 192, 3) := by decide +kernel
theorem dX9_pour_4 : decode cX9_pour 4 = .ok (.ifCond .ne 6, 3) := by decide +kernel
theorem dX9_pour_7 : decode cX9_pour 7 = .ok (.ldc 87, 2) := by decide +kernel
theorem dX9_pour_9 : decode cX9_pour 9 = .ok (.ireturn, 1) := by decide +kernel
theorem dX9_pour_10 : decode cX9_pour 10 = .ok (.aload_n 0, 1) := by decide +kernel
theorem dX9_pour_11 : decode cX9_pour 11 = .ok (.getfield 53, 3) := by decide +kernel
theorem dX9_pour_14 : decode cX9_pour 14 = .ok (.iload_n 1, 1) := by decide +kernel
theorem dX9_pour_15 : decode cX9_pour 15 = .ok (.aaload, 1) := by decide +kernel
theorem dX9_pour_16 : decode cX9_pour 16 = .ok (.astore_n 2, 1) := by decide +kernel
theorem dX9_pour_17 : decode cX9_pour 17 = .ok (.aload_n 2, 1) := by decide +kernel
theorem dX9_pour_18 : decode cX9_pour 18 = .ok (.getfield 195, 3) := by decide +kernel
theorem dX9_pour_21 : decode cX9_pour 21 = .ok (.iconst (-1), 1) := by decide +kernel
theorem dX9_pour_22 : decode cX9_pour 22 = .ok (.if_icmp .ne 6, 3) := by decide +kernel
theorem dX9_pour_25 : decode cX9_pour 25 = .ok (.ldc 198, 2) := by decide +kernel
theorem dX9_pour_27 : decode cX9_pour 27 = .ok (.ireturn, 1) := by decide +kernel
theorem dX9_pour_28 : decode cX9_pour 28 = .ok (.iconst 0, 1) := by decide +kernel
theorem dX9_pour_29 : decode cX9_pour 29 = .ok (.istore_n 3, 1) := by decide +kernel
theorem dX9_pour_30 : decode cX9_pour 30 = .ok (.iconst 0, 1) := by decide +kernel
theorem dX9_pour_31 : decode cX9_pour 31 = .ok (.istore 4, 2) := by decide +kernel
theorem dX9_pour_33 : decode cX9_pour 33 = .ok (.iload 4, 2) := by decide +kernel
theorem dX9_pour_35 : decode cX9_pour 35 = .ok (.aload_n 0, 1) := by decide +kernel
theorem dX9_pour_36 : decode cX9_pour 36 = .ok (.getfield 21, 3) := by decide +kernel
theorem dX9_pour_39 : decode cX9_pour 39 = .ok (.getfield 88, 3) := by decide +kernel
theorem dX9_pour_42 : decode cX9_pour 42 = .ok (.if_icmp .ge 82, 3) := by decide +kernel
theorem dX9_pour_45 : decode cX9_pour 45 = .ok (.iload 4, 2) := by decide +kernel
theorem dX9_pour_47 : decode cX9_pour 47 = .ok (.aload_n 2, 1) := by decide +kernel
theorem dX9_pour_48 : decode cX9_pour 48 = .ok (.getfield 259, 3) := by decide +kernel
theorem dX9_pour_51 : decode cX9_pour 51 = .ok (.if_icmp .ge 73, 3) := by decide +kernel
theorem dX9_pour_54 : decode cX9_pour 54 = .ok (.aload_n 0, 1) := by decide +kernel
theorem dX9_pour_55 : decode cX9_pour 55 = .ok (.getfield 21, 3) := by decide +kernel
theorem dX9_pour_58 : decode cX9_pour 58 = .ok (.getfield 99, 3) := by decide +kernel
theorem dX9_pour_61 : decode cX9_pour 61 = .ok (.iload 4, 2) := by decide +kernel
theorem dX9_pour_63 : decode cX9_pour 63 = .ok (.aaload, 1) := by decide +kernel
theorem dX9_pour_64 : decode cX9_pour 64 = .ok (.astore 5, 2) := by decide +kernel
theorem dX9_pour_66 : decode cX9_pour 66 = .ok (.aload_n 2, 1) := by decide +kernel
theorem dX9_pour_67 : decode cX9_pour 67 = .ok (.getfield 254, 3) := by decide +kernel
theorem dX9_pour_70 : decode cX9_pour 70 = .ok (.iload 4, 2) := by decide +kernel
theorem dX9_pour_72 : decode cX9_pour 72 = .ok (.iaload, 1) := by decide +kernel
theorem dX9_pour_73 : decode cX9_pour 73 = .ok (.ldc 178, 2) := by decide +kernel
theorem dX9_pour_75 : decode cX9_pour 75 = .ok (.if_icmp .ne 11, 3) := by decide +kernel
theorem dX9_pour_78 : decode cX9_pour 78 = .ok (.aload 5, 2) := by decide +kernel
theorem dX9_pour_80 : decode cX9_pour 80 = .ok (.getfield 133, 3) := by decide +kernel
theorem dX9_pour_83 : decode cX9_pour 83 = .ok (.goto 13, 3) := by decide +kernel
theorem dX9_pour_86 : decode cX9_pour 86 = .ok (.aload_n 2, 1) := by decide +kernel
theorem dX9_pour_87 : decode cX9_pour 87 = .ok (.getfield 254, 3) := by decide +kernel
theorem dX9_pour_90 : decode cX9_pour 90 = .ok (.iload 4, 2) := by decide +kernel
theorem dX9_pour_92 : decode cX9_pour 92 = .ok (.iaload, 1) := by decide +kernel
theorem dX9_pour_93 : decode cX9_pour 93 = .ok (.invokestatic 260, 3) := by decide +kernel
theorem dX9_pour_96 : decode cX9_pour 96 = .ok (.istore 6, 2) := by decide +kernel
theorem dX9_pour_98 : decode cX9_pour 98 = .ok (.iload 6, 2) := by decide +kernel
theorem dX9_pour_100 : decode cX9_pour 100 = .ok (.aload 5, 2) := by decide +kernel
theorem dX9_pour_102 : decode cX9_pour 102 = .ok (.getfield 133, 3) := by decide +kernel
theorem dX9_pour_105 : decode cX9_pour 105 = .ok (.if_icmp .eq 6, 3) := by decide +kernel
theorem dX9_pour_108 : decode cX9_pour 108 = .ok (.iinc 3 1, 3) := by decide +kernel
theorem dX9_pour_111 : decode cX9_pour 111 = .ok (.aload 5, 2) := by decide +kernel
theorem dX9_pour_113 : decode cX9_pour 113 = .ok (.iload 6, 2) := by decide +kernel
theorem dX9_pour_115 : decode cX9_pour 115 = .ok (.putfield 133, 3) := by decide +kernel
theorem dX9_pour_118 : decode cX9_pour 118 = .ok (.iinc 4 1, 3) := by decide +kernel
theorem dX9_pour_121 : decode cX9_pour 121 = .ok (.goto (-88), 3) := by decide +kernel
theorem dX9_pour_124 : decode cX9_pour 124 = .ok (.iload_n 3, 1) := by decide +kernel
theorem dX9_pour_125 : decode cX9_pour 125 = .ok (.ireturn, 1) := by decide +kernel
theorem dX9_reads_0 : decode cX9_reads 0 = .ok (.iload_n 1, 1) := by decide +kernel
theorem dX9_reads_1 : decode cX9_reads 1 = .ok (.invokestatic 192, 3) := by decide +kernel
theorem dX9_reads_4 : decode cX9_reads 4 = .ok (.ifCond .ne 6, 3) := by decide +kernel
theorem dX9_reads_7 : decode cX9_reads 7 = .ok (.ldc 87, 2) := by decide +kernel
theorem dX9_reads_9 : decode cX9_reads 9 = .ok (.ireturn, 1) := by decide +kernel
theorem dX9_reads_10 : decode cX9_reads 10 = .ok (.aload_n 0, 1) := by decide +kernel
theorem dX9_reads_11 : decode cX9_reads 11 = .ok (.getfield 53, 3) := by decide +kernel
theorem dX9_reads_14 : decode cX9_reads 14 = .ok (.iload_n 1, 1) := by decide +kernel
theorem dX9_reads_15 : decode cX9_reads 15 = .ok (.aaload, 1) := by decide +kernel
theorem dX9_reads_16 : decode cX9_reads 16 = .ok (.astore_n 2, 1) := by decide +kernel
theorem dX9_reads_17 : decode cX9_reads 17 = .ok (.aload_n 2, 1) := by decide +kernel
theorem dX9_reads_18 : decode cX9_reads 18 = .ok (.getfield 195, 3) := by decide +kernel
theorem dX9_reads_21 : decode cX9_reads 21 = .ok (.iconst (-1), 1) := by decide +kernel
theorem dX9_reads_22 : decode cX9_reads 22 = .ok (.if_icmp .ne 6, 3) := by decide +kernel
theorem dX9_reads_25 : decode cX9_reads 25 = .ok (.ldc 198, 2) := by decide +kernel
theorem dX9_reads_27 : decode cX9_reads 27 = .ok (.ireturn, 1) := by decide +kernel
theorem dX9_reads_28 : decode cX9_reads 28 = .ok (.aload_n 0, 1) := by decide +kernel
theorem dX9_reads_29 : decode cX9_reads 29 = .ok (.getfield 31, 3) := by decide +kernel
theorem dX9_reads_32 : decode cX9_reads 32 = .ok (.aload_n 0, 1) := by decide +kernel
theorem dX9_reads_33 : decode cX9_reads 33 = .ok (.getfield 21, 3) := by decide +kernel
theorem dX9_reads_36 : decode cX9_reads 36 = .ok (.invokevirtual 171, 3) := by decide +kernel
theorem dX9_reads_39 : decode cX9_reads 39 = .ok (.pop, 1) := by decide +kernel
theorem dX9_reads_40 : decode cX9_reads 40 = .ok (.aload_n 0, 1) := by decide +kernel
theorem dX9_reads_41 : decode cX9_reads 41 = .ok (.getfield 31, 3) := by decide +kernel
theorem dX9_reads_44 : decode cX9_reads 44 = .ok (.iconst 0, 1) := by decide +kernel
theorem dX9_reads_45 : decode cX9_reads 45 = .ok (.aload_n 2, 1) := by decide +kernel
theorem dX9_reads_46 : decode cX9_reads 46 = .ok (.getfield 259, 3) := by decide +kernel
theorem dX9_reads_49 : decode cX9_reads 49 = .ok (.iconst 1, 1) := by decide +kernel
theorem dX9_reads_50 : decode cX9_reads 50 = .ok (.isub, 1) := by decide +kernel
theorem dX9_reads_51 : decode cX9_reads 51 = .ok (.invokevirtual 175, 3) := by decide +kernel
theorem dX9_reads_54 : decode cX9_reads 54 = .ok (.pop, 1) := by decide +kernel
theorem dX9_reads_55 : decode cX9_reads 55 = .ok (.iconst 0, 1) := by decide +kernel
theorem dX9_reads_56 : decode cX9_reads 56 = .ok (.istore_n 3, 1) := by decide +kernel
theorem dX9_reads_57 : decode cX9_reads 57 = .ok (.iload_n 3, 1) := by decide +kernel
theorem dX9_reads_58 : decode cX9_reads 58 = .ok (.aload_n 2, 1) := by decide +kernel
theorem dX9_reads_59 : decode cX9_reads 59 = .ok (.getfield 259, 3) := by decide +kernel
theorem dX9_reads_62 : decode cX9_reads 62 = .ok (.if_icmp .ge 40, 3) := by decide +kernel
theorem dX9_reads_65 : decode cX9_reads 65 = .ok (.aload_n 2, 1) := by decide +kernel
theorem dX9_reads_66 : decode cX9_reads 66 = .ok (.getfield 254, 3) := by decide +kernel
theorem dX9_reads_69 : decode cX9_reads 69 = .ok (.iload_n 3, 1) := by decide +kernel
theorem dX9_reads_70 : decode cX9_reads 70 = .ok (.iaload, 1) := by decide +kernel
theorem dX9_reads_71 : decode cX9_reads 71 = .ok (.ldc 178, 2) := by decide +kernel
theorem dX9_reads_73 : decode cX9_reads 73 = .ok (.if_icmp .eq 23, 3) := by decide +kernel
theorem dX9_reads_76 : decode cX9_reads 76 = .ok (.aload_n 2, 1) := by decide +kernel
theorem dX9_reads_77 : decode cX9_reads 77 = .ok (.getfield 254, 3) := by decide +kernel
theorem dX9_reads_80 : decode cX9_reads 80 = .ok (.iload_n 3, 1) := by decide +kernel
theorem dX9_reads_81 : decode cX9_reads 81 = .ok (.iaload, 1) := by decide +kernel
theorem dX9_reads_82 : decode cX9_reads 82 = .ok (.aload_n 0, 1) := by decide +kernel
theorem dX9_reads_83 : decode cX9_reads 83 = .ok (.getfield 31, 3) := by decide +kernel
theorem dX9_reads_86 : decode cX9_reads 86 = .ok (.getfield 179, 3) := by decide +kernel
theorem dX9_reads_89 : decode cX9_reads 89 = .ok (.iload_n 3, 1) := by decide +kernel
theorem dX9_reads_90 : decode cX9_reads 90 = .ok (.iaload, 1) := by decide +kernel
theorem dX9_reads_91 : decode cX9_reads 91 = .ok (.if_icmp .eq 5, 3) := by decide +kernel
theorem dX9_reads_94 : decode cX9_reads 94 = .ok (.iload_n 3, 1) := by decide +kernel
theorem dX9_reads_95 : decode cX9_reads 95 = .ok (.ireturn, 1) := by decide +kernel
theorem dX9_reads_96 : decode cX9_reads 96 = .ok (.iinc 3 1, 3) := by decide +kernel
theorem dX9_reads_99 : decode cX9_reads 99 = .ok (.goto (-42), 3) := by decide +kernel
theorem dX9_reads_102 : decode cX9_reads 102 = .ok (.ldc 178, 2) := by decide +kernel
theorem dX9_reads_104 : decode cX9_reads 104 = .ok (.ireturn, 1) := by decide +kernel
theorem dX9_copy_0 : decode cX9_copy 0 = .ok (.iload_n 1, 1) := by decide +kernel
theorem dX9_copy_1 : decode cX9_copy 1 = .ok (.invokestatic 192, 3) := by decide +kernel
theorem dX9_copy_4 : decode cX9_copy 4 = .ok (.ifCond .eq 10, 3) := by decide +kernel
theorem dX9_copy_7 : decode cX9_copy 7 = .ok (.iload_n 3, 1) := by decide +kernel
theorem dX9_copy_8 : decode cX9_copy 8 = .ok (.invokestatic 192, 3) := by decide +kernel
theorem dX9_copy_11 : decode cX9_copy 11 = .ok (.ifCond .ne 6, 3) := by decide +kernel
theorem dX9_copy_14 : decode cX9_copy 14 = .ok (.ldc 87, 2) := by decide +kernel
theorem dX9_copy_16 : decode cX9_copy 16 = .ok (.ireturn, 1) := by decide +kernel
theorem dX9_copy_17 : decode cX9_copy 17 = .ok (.aload_n 0, 1) := by decide +kernel
theorem dX9_copy_18 : decode cX9_copy 18 = .ok (.getfield 53, 3) := by decide +kernel
theorem dX9_copy_21 : decode cX9_copy 21 = .ok (.iload_n 1, 1) := by decide +kernel
theorem dX9_copy_22 : decode cX9_copy 22 = .ok (.aaload, 1) := by decide +kernel
theorem dX9_copy_23 : decode cX9_copy 23 = .ok (.astore 6, 2) := by decide +kernel
theorem dX9_copy_25 : decode cX9_copy 25 = .ok (.aload_n 0, 1) := by decide +kernel
theorem dX9_copy_26 : decode cX9_copy 26 = .ok (.getfield 53, 3) := by decide +kernel
theorem dX9_copy_29 : decode cX9_copy 29 = .ok (.iload_n 3, 1) := by decide +kernel
theorem dX9_copy_30 : decode cX9_copy 30 = .ok (.aaload, 1) := by decide +kernel
theorem dX9_copy_31 : decode cX9_copy 31 = .ok (.astore 7, 2) := by decide +kernel
theorem dX9_copy_33 : decode cX9_copy 33 = .ok (.aload 6, 2) := by decide +kernel
theorem dX9_copy_35 : decode cX9_copy 35 = .ok (.getfield 195, 3) := by decide +kernel
theorem dX9_copy_38 : decode cX9_copy 38 = .ok (.iconst (-1), 1) := by decide +kernel
theorem dX9_copy_39 : decode cX9_copy 39 = .ok (.if_icmp .eq 12, 3) := by decide +kernel
theorem dX9_copy_42 : decode cX9_copy 42 = .ok (.aload 7, 2) := by decide +kernel
theorem dX9_copy_44 : decode cX9_copy 44 = .ok (.getfield 195, 3) := by decide +kernel
theorem dX9_copy_47 : decode cX9_copy 47 = .ok (.iconst (-1), 1) := by decide +kernel
theorem dX9_copy_48 : decode cX9_copy 48 = .ok (.if_icmp .ne 6, 3) := by decide +kernel
theorem dX9_copy_51 : decode cX9_copy 51 = .ok (.ldc 198, 2) := by decide +kernel
theorem dX9_copy_53 : decode cX9_copy 53 = .ok (.ireturn, 1) := by decide +kernel
theorem dX9_copy_54 : decode cX9_copy 54 = .ok (.aload 6, 2) := by decide +kernel
theorem dX9_copy_56 : decode cX9_copy 56 = .ok (.getfield 195, 3) := by decide +kernel
theorem dX9_copy_59 : decode cX9_copy 59 = .ok (.aload 7, 2) := by decide +kernel
theorem dX9_copy_61 : decode cX9_copy 61 = .ok (.getfield 195, 3) := by decide +kernel
theorem dX9_copy_64 : decode cX9_copy 64 = .ok (.if_icmp .eq 6, 3) := by decide +kernel
theorem dX9_copy_67 : decode cX9_copy 67 = .ok (.ldc 136, 2) := by decide +kernel
theorem dX9_copy_69 : decode cX9_copy 69 = .ok (.ireturn, 1) := by decide +kernel
theorem dX9_copy_70 : decode cX9_copy 70 = .ok (.aload 6, 2) := by decide +kernel
theorem dX9_copy_72 : decode cX9_copy 72 = .ok (.iload_n 2, 1) := by decide +kernel
theorem dX9_copy_73 : decode cX9_copy 73 = .ok (.iload 5, 2) := by decide +kernel
theorem dX9_copy_75 : decode cX9_copy 75 = .ok (.invokevirtual 263, 3) := by decide +kernel
theorem dX9_copy_78 : decode cX9_copy 78 = .ok (.ifCond .eq 15, 3) := by decide +kernel
theorem dX9_copy_81 : decode cX9_copy 81 = .ok (.aload 7, 2) := by decide +kernel
theorem dX9_copy_83 : decode cX9_copy 83 = .ok (.iload 4, 2) := by decide +kernel
theorem dX9_copy_85 : decode cX9_copy 85 = .ok (.iload 5, 2) := by decide +kernel
theorem dX9_copy_87 : decode cX9_copy 87 = .ok (.invokevirtual 263, 3) := by decide +kernel
theorem dX9_copy_90 : decode cX9_copy 90 = .ok (.ifCond .ne 6, 3) := by decide +kernel
theorem dX9_copy_93 : decode cX9_copy 93 = .ok (.ldc 253, 2) := by decide +kernel
theorem dX9_copy_95 : decode cX9_copy 95 = .ok (.ireturn, 1) := by decide +kernel
theorem dX9_copy_96 : decode cX9_copy 96 = .ok (.aload 6, 2) := by decide +kernel
theorem dX9_copy_98 : decode cX9_copy 98 = .ok (.getfield 254, 3) := by decide +kernel
theorem dX9_copy_101 : decode cX9_copy 101 = .ok (.iload_n 2, 1) := by decide +kernel
theorem dX9_copy_102 : decode cX9_copy 102 = .ok (.aload 7, 2) := by decide +kernel
theorem dX9_copy_104 : decode cX9_copy 104 = .ok (.getfield 254, 3) := by decide +kernel
theorem dX9_copy_107 : decode cX9_copy 107 = .ok (.iload 4, 2) := by decide +kernel
theorem dX9_copy_109 : decode cX9_copy 109 = .ok (.iload 5, 2) := by decide +kernel
theorem dX9_copy_111 : decode cX9_copy 111 = .ok (.invokestatic 266, 3) := by decide +kernel
theorem dX9_copy_114 : decode cX9_copy 114 = .ok (.iload 5, 2) := by decide +kernel
theorem dX9_copy_116 : decode cX9_copy 116 = .ok (.ireturn, 1) := by decide +kernel
theorem dX9_lay_0 : decode cX9_lay 0 = .ok (.iload_n 1, 1) := by decide +kernel
theorem dX9_lay_1 : decode cX9_lay 1 = .ok (.invokestatic 272, 3) := by decide +kernel
theorem dX9_lay_4 : decode cX9_lay 4 = .ok (.ifCond .eq 37, 3) := by decide +kernel
theorem dX9_lay_7 : decode cX9_lay 7 = .ok (.iload_n 2, 1) := by decide +kernel
theorem dX9_lay_8 : decode cX9_lay 8 = .ok (.ifCond .lt 33, 3) := by decide +kernel
theorem dX9_lay_11 : decode cX9_lay 11 = .ok (.iload_n 2, 1) := by decide +kernel
theorem dX9_lay_12 : decode cX9_lay 12 = .ok (.iconst 3, 1) := by decide +kernel
theorem dX9_lay_13 : decode cX9_lay 13 = .ok (.if_icmp .gt 28, 3) := by decide +kernel
theorem dX9_lay_16 : decode cX9_lay 16 = .ok (.iload_n 2, 1) := by decide +kernel
theorem dX9_lay_17 : decode cX9_lay 17 = .ok (.iconst 1, 1) := by decide +kernel
theorem dX9_lay_18 : decode cX9_lay 18 = .ok (.if_icmp .ne 11, 3) := by decide +kernel
theorem dX9_lay_21 : decode cX9_lay 21 = .ok (.aload_n 0, 1) := by decide +kernel
theorem dX9_lay_22 : decode cX9_lay 22 = .ok (.iload_n 3, 1) := by decide +kernel
theorem dX9_lay_23 : decode cX9_lay 23 = .ok (.invokevirtual 96, 3) := by decide +kernel
theorem dX9_lay_26 : decode cX9_lay 26 = .ok (.ifCond .eq 15, 3) := by decide +kernel
theorem dX9_lay_29 : decode cX9_lay 29 = .ok (.iload_n 2, 1) := by decide +kernel
theorem dX9_lay_30 : decode cX9_lay 30 = .ok (.iconst 2, 1) := by decide +kernel
theorem dX9_lay_31 : decode cX9_lay 31 = .ok (.if_icmp .ne 13, 3) := by decide +kernel
theorem dX9_lay_34 : decode cX9_lay 34 = .ok (.iload_n 3, 1) := by decide +kernel
theorem dX9_lay_35 : decode cX9_lay 35 = .ok (.invokestatic 192, 3) := by decide +kernel
theorem dX9_lay_38 : decode cX9_lay 38 = .ok (.ifCond .ne 6, 3) := by decide +kernel
theorem dX9_lay_41 : decode cX9_lay 41 = .ok (.ldc 87, 2) := by decide +kernel
theorem dX9_lay_43 : decode cX9_lay 43 = .ok (.ireturn, 1) := by decide +kernel
theorem dX9_lay_44 : decode cX9_lay 44 = .ok (.iload_n 2, 1) := by decide +kernel
theorem dX9_lay_45 : decode cX9_lay 45 = .ok (.iconst 2, 1) := by decide +kernel
theorem dX9_lay_46 : decode cX9_lay 46 = .ok (.if_icmp .ne 19, 3) := by decide +kernel
theorem dX9_lay_49 : decode cX9_lay 49 = .ok (.aload_n 0, 1) := by decide +kernel
theorem dX9_lay_50 : decode cX9_lay 50 = .ok (.getfield 53, 3) := by decide +kernel
theorem dX9_lay_53 : decode cX9_lay 53 = .ok (.iload_n 3, 1) := by decide +kernel
theorem dX9_lay_54 : decode cX9_lay 54 = .ok (.aaload, 1) := by decide +kernel
theorem dX9_lay_55 : decode cX9_lay 55 = .ok (.getfield 195, 3) := by decide +kernel
theorem dX9_lay_58 : decode cX9_lay 58 = .ok (.iconst (-1), 1) := by decide +kernel
theorem dX9_lay_59 : decode cX9_lay 59 = .ok (.if_icmp .ne 6, 3) := by decide +kernel
theorem dX9_lay_62 : decode cX9_lay 62 = .ok (.ldc 198, 2) := by decide +kernel
theorem dX9_lay_64 : decode cX9_lay 64 = .ok (.ireturn, 1) := by decide +kernel
theorem dX9_lay_65 : decode cX9_lay 65 = .ok (.aload_n 0, 1) := by decide +kernel
theorem dX9_lay_66 : decode cX9_lay 66 = .ok (.getfield 59, 3) := by decide +kernel
theorem dX9_lay_69 : decode cX9_lay 69 = .ok (.iload_n 1, 1) := by decide +kernel
theorem dX9_lay_70 : decode cX9_lay 70 = .ok (.aaload, 1) := by decide +kernel
theorem dX9_lay_71 : decode cX9_lay 71 = .ok (.astore 4, 2) := by decide +kernel
theorem dX9_lay_73 : decode cX9_lay 73 = .ok (.aload 4, 2) := by decide +kernel
theorem dX9_lay_75 : decode cX9_lay 75 = .ok (.getfield 275, 3) := by decide +kernel
theorem dX9_lay_78 : decode cX9_lay 78 = .ok (.istore 5, 2) := by decide +kernel
theorem dX9_lay_80 : decode cX9_lay 80 = .ok (.aload 4, 2) := by decide +kernel
theorem dX9_lay_82 : decode cX9_lay 82 = .ok (.iload_n 2, 1) := by decide +kernel
theorem dX9_lay_83 : decode cX9_lay 83 = .ok (.putfield 275, 3) := by decide +kernel
theorem dX9_lay_86 : decode cX9_lay 86 = .ok (.iload_n 2, 1) := by decide +kernel
theorem dX9_lay_87 : decode cX9_lay 87 = .ok (.iconst 1, 1) := by decide +kernel
theorem dX9_lay_88 : decode cX9_lay 88 = .ok (.if_icmp .ne 23, 3) := by decide +kernel
theorem dX9_lay_91 : decode cX9_lay 91 = .ok (.aload 4, 2) := by decide +kernel
theorem dX9_lay_93 : decode cX9_lay 93 = .ok (.getfield 278, 3) := by decide +kernel
theorem dX9_lay_96 : decode cX9_lay 96 = .ok (.aload_n 0, 1) := by decide +kernel
theorem dX9_lay_97 : decode cX9_lay 97 = .ok (.getfield 21, 3) := by decide +kernel
theorem dX9_lay_100 : decode cX9_lay 100 = .ok (.getfield 99, 3) := by decide +kernel
theorem dX9_lay_103 : decode cX9_lay 103 = .ok (.iload_n 3, 1) := by decide +kernel
theorem dX9_lay_104 : decode cX9_lay 104 = .ok (.aaload, 1) := by decide +kernel
theorem dX9_lay_105 : decode cX9_lay 105 = .ok (.invokevirtual 282, 3) := by decide +kernel
theorem dX9_lay_108 : decode cX9_lay 108 = .ok (.goto 31, 3) := by decide +kernel
theorem dX9_lay_111 : decode cX9_lay 111 = .ok (.iload_n 2, 1) := by decide +kernel
theorem dX9_lay_112 : decode cX9_lay 112 = .ok (.iconst 2, 1) := by decide +kernel
theorem dX9_lay_113 : decode cX9_lay 113 = .ok (.if_icmp .ne 20, 3) := by decide +kernel
theorem dX9_lay_116 : decode cX9_lay 116 = .ok (.aload 4, 2) := by decide +kernel
theorem dX9_lay_118 : decode cX9_lay 118 = .ok (.getfield 285, 3) := by decide +kernel
theorem dX9_lay_121 : decode cX9_lay 121 = .ok (.aload_n 0, 1) := by decide +kernel
theorem dX9_lay_122 : decode cX9_lay 122 = .ok (.getfield 53, 3) := by decide +kernel
theorem dX9_lay_125 : decode cX9_lay 125 = .ok (.iload_n 3, 1) := by decide +kernel
theorem dX9_lay_126 : decode cX9_lay 126 = .ok (.aaload, 1) := by decide +kernel
theorem dX9_lay_127 : decode cX9_lay 127 = .ok (.invokevirtual 289, 3) := by decide +kernel
theorem dX9_lay_130 : decode cX9_lay 130 = .ok (.goto 9, 3) := by decide +kernel
theorem dX9_lay_133 : decode cX9_lay 133 = .ok (.aload 4, 2) := by decide +kernel
theorem dX9_lay_135 : decode cX9_lay 135 = .ok (.iload_n 3, 1) := by decide +kernel
theorem dX9_lay_136 : decode cX9_lay 136 = .ok (.putfield 292, 3) := by decide +kernel
theorem dX9_lay_139 : decode cX9_lay 139 = .ok (.iload 5, 2) := by decide +kernel
theorem dX9_lay_141 : decode cX9_lay 141 = .ok (.ireturn, 1) := by decide +kernel
theorem dX9_ask_0 : decode cX9_ask 0 = .ok (.iload_n 1, 1) := by decide +kernel
theorem dX9_ask_1 : decode cX9_ask 1 = .ok (.invokestatic 272, 3) := by decide +kernel
theorem dX9_ask_4 : decode cX9_ask 4 = .ok (.ifCond .eq 10, 3) := by decide +kernel
theorem dX9_ask_7 : decode cX9_ask 7 = .ok (.iload_n 2, 1) := by decide +kernel
theorem dX9_ask_8 : decode cX9_ask 8 = .ok (.invokestatic 77, 3) := by decide +kernel
theorem dX9_ask_11 : decode cX9_ask 11 = .ok (.ifCond .ne 6, 3) := by decide +kernel
theorem dX9_ask_14 : decode cX9_ask 14 = .ok (.ldc 87, 2) := by decide +kernel
theorem dX9_ask_16 : decode cX9_ask 16 = .ok (.ireturn, 1) := by decide +kernel
theorem dX9_ask_17 : decode cX9_ask 17 = .ok (.aload_n 0, 1) := by decide +kernel
theorem dX9_ask_18 : decode cX9_ask 18 = .ok (.getfield 59, 3) := by decide +kernel
theorem dX9_ask_21 : decode cX9_ask 21 = .ok (.iload_n 1, 1) := by decide +kernel
theorem dX9_ask_22 : decode cX9_ask 22 = .ok (.aaload, 1) := by decide +kernel
theorem dX9_ask_23 : decode cX9_ask 23 = .ok (.astore_n 3, 1) := by decide +kernel
theorem dX9_ask_24 : decode cX9_ask 24 = .ok (.aload_n 3, 1) := by decide +kernel
theorem dX9_ask_25 : decode cX9_ask 25 = .ok (.getfield 275, 3) := by decide +kernel
theorem dX9_ask_28 : decode cX9_ask 28 = .ok (.ifCond .ne 6, 3) := by decide +kernel
theorem dX9_ask_31 : decode cX9_ask 31 = .ok (.ldc 198, 2) := by decide +kernel
theorem dX9_ask_33 : decode cX9_ask 33 = .ok (.ireturn, 1) := by decide +kernel
theorem dX9_ask_34 : decode cX9_ask 34 = .ok (.aload_n 3, 1) := by decide +kernel
theorem dX9_ask_35 : decode cX9_ask 35 = .ok (.getfield 275, 3) := by decide +kernel
theorem dX9_ask_38 : decode cX9_ask 38 = .ok (.iconst 1, 1) := by decide +kernel
theorem dX9_ask_39 : decode cX9_ask 39 = .ok (.if_icmp .ne 14, 3) := by decide +kernel
theorem dX9_ask_42 : decode cX9_ask 42 = .ok (.aload_n 3, 1) := by decide +kernel
theorem dX9_ask_43 : decode cX9_ask 43 = .ok (.getfield 278, 3) := by decide +kernel
theorem dX9_ask_46 : decode cX9_ask 46 = .ok (.iload_n 2, 1) := by decide +kernel
theorem dX9_ask_47 : decode cX9_ask 47 = .ok (.invokevirtual 130, 3) := by decide +kernel
theorem dX9_ask_50 : decode cX9_ask 50 = .ok (.ifCond .ne 6, 3) := by decide +kernel
theorem dX9_ask_53 : decode cX9_ask 53 = .ok (.ldc 136, 2) := by decide +kernel
theorem dX9_ask_55 : decode cX9_ask 55 = .ok (.ireturn, 1) := by decide +kernel
theorem dX9_ask_56 : decode cX9_ask 56 = .ok (.aload_n 3, 1) := by decide +kernel
theorem dX9_ask_57 : decode cX9_ask 57 = .ok (.getfield 278, 3) := by decide +kernel
theorem dX9_ask_60 : decode cX9_ask 60 = .ok (.invokevirtual 120, 3) := by decide +kernel
theorem dX9_ask_63 : decode cX9_ask 63 = .ok (.ireturn, 1) := by decide +kernel
theorem dX9_item_0 : decode cX9_item 0 = .ok (.iload_n 1, 1) := by decide +kernel
theorem dX9_item_1 : decode cX9_item 1 = .ok (.invokestatic 272, 3) := by decide +kernel
theorem dX9_item_4 : decode cX9_item 4 = .ok (.ifCond .ne 6, 3) := by decide +kernel
theorem dX9_item_7 : decode cX9_item 7 = .ok (.ldc 87, 2) := by decide +kernel
theorem dX9_item_9 : decode cX9_item 9 = .ok (.ireturn, 1) := by decide +kernel
theorem dX9_item_10 : decode cX9_item 10 = .ok (.aload_n 0, 1) := by decide +kernel
theorem dX9_item_11 : decode cX9_item 11 = .ok (.getfield 59, 3) := by decide +kernel
theorem dX9_item_14 : decode cX9_item 14 = .ok (.iload_n 1, 1) := by decide +kernel
theorem dX9_item_15 : decode cX9_item 15 = .ok (.aaload, 1) := by decide +kernel
theorem dX9_item_16 : decode cX9_item 16 = .ok (.astore_n 3, 1) := by decide +kernel
theorem dX9_item_17 : decode cX9_item 17 = .ok (.aload_n 3, 1) := by decide +kernel
theorem dX9_item_18 : decode cX9_item 18 = .ok (.getfield 275, 3) := by decide +kernel
theorem dX9_item_21 : decode cX9_item 21 = .ok (.ifCond .ne 6, 3) := by decide +kernel
theorem dX9_item_24 : decode cX9_item 24 = .ok (.ldc 198, 2) := by decide +kernel
theorem dX9_item_26 : decode cX9_item 26 = .ok (.ireturn, 1) := by decide +kernel
theorem dX9_item_27 : decode cX9_item 27 = .ok (.aload_n 3, 1) := by decide +kernel
theorem dX9_item_28 : decode cX9_item 28 = .ok (.getfield 275, 3) := by decide +kernel
theorem dX9_item_31 : decode cX9_item 31 = .ok (.iconst 2, 1) := by decide +kernel
theorem dX9_item_32 : decode cX9_item 32 = .ok (.if_icmp .eq 6, 3) := by decide +kernel
theorem dX9_item_35 : decode cX9_item 35 = .ok (.ldc 136, 2) := by decide +kernel
theorem dX9_item_37 : decode cX9_item 37 = .ok (.ireturn, 1) := by decide +kernel
theorem dX9_item_38 : decode cX9_item 38 = .ok (.aload_n 3, 1) := by decide +kernel
theorem dX9_item_39 : decode cX9_item 39 = .ok (.getfield 285, 3) := by decide +kernel
theorem dX9_item_42 : decode cX9_item 42 = .ok (.iload_n 2, 1) := by decide +kernel
theorem dX9_item_43 : decode cX9_item 43 = .ok (.invokevirtual 250, 3) := by decide +kernel
theorem dX9_item_46 : decode cX9_item 46 = .ok (.ifCond .ne 6, 3) := by decide +kernel
theorem dX9_item_49 : decode cX9_item 49 = .ok (.ldc 253, 2) := by decide +kernel
theorem dX9_item_51 : decode cX9_item 51 = .ok (.ireturn, 1) := by decide +kernel
theorem dX9_item_52 : decode cX9_item 52 = .ok (.aload_n 3, 1) := by decide +kernel
theorem dX9_item_53 : decode cX9_item 53 = .ok (.getfield 285, 3) := by decide +kernel
theorem dX9_item_56 : decode cX9_item 56 = .ok (.getfield 254, 3) := by decide +kernel
theorem dX9_item_59 : decode cX9_item 59 = .ok (.iload_n 2, 1) := by decide +kernel
theorem dX9_item_60 : decode cX9_item 60 = .ok (.iaload, 1) := by decide +kernel
theorem dX9_item_61 : decode cX9_item 61 = .ok (.ldc 178, 2) := by decide +kernel
theorem dX9_item_63 : decode cX9_item 63 = .ok (.if_icmp .ne 8, 3) := by decide +kernel
theorem dX9_item_66 : decode cX9_item 66 = .ok (.ldc 136, 2) := by decide +kernel
theorem dX9_item_68 : decode cX9_item 68 = .ok (.goto 12, 3) := by decide +kernel
theorem dX9_item_71 : decode cX9_item 71 = .ok (.aload_n 3, 1) := by decide +kernel
theorem dX9_item_72 : decode cX9_item 72 = .ok (.getfield 285, 3) := by decide +kernel
theorem dX9_item_75 : decode cX9_item 75 = .ok (.getfield 254, 3) := by decide +kernel
theorem dX9_item_78 : decode cX9_item 78 = .ok (.iload_n 2, 1) := by decide +kernel
theorem dX9_item_79 : decode cX9_item 79 = .ok (.iaload, 1) := by decide +kernel
theorem dX9_item_80 : decode cX9_item 80 = .ok (.ireturn, 1) := by decide +kernel
theorem dX9_rest_0 : decode cX9_rest 0 = .ok (.iload_n 1, 1) := by decide +kernel
theorem dX9_rest_1 : decode cX9_rest 1 = .ok (.invokestatic 272, 3) := by decide +kernel
theorem dX9_rest_4 : decode cX9_rest 4 = .ok (.ifCond .ne 6, 3) := by decide +kernel
theorem dX9_rest_7 : decode cX9_rest 7 = .ok (.ldc 87, 2) := by decide +kernel
theorem dX9_rest_9 : decode cX9_rest 9 = .ok (.ireturn, 1) := by decide +kernel
theorem dX9_rest_10 : decode cX9_rest 10 = .ok (.aload_n 0, 1) := by decide +kernel
theorem dX9_rest_11 : decode cX9_rest 11 = .ok (.getfield 59, 3) := by decide +kernel
theorem dX9_rest_14 : decode cX9_rest 14 = .ok (.iload_n 1, 1) := by decide +kernel
theorem dX9_rest_15 : decode cX9_rest 15 = .ok (.aaload, 1) := by decide +kernel
theorem dX9_rest_16 : decode cX9_rest 16 = .ok (.astore_n 3, 1) := by decide +kernel
theorem dX9_rest_17 : decode cX9_rest 17 = .ok (.aload_n 3, 1) := by decide +kernel
theorem dX9_rest_18 : decode cX9_rest 18 = .ok (.getfield 275, 3) := by decide +kernel
theorem dX9_rest_21 : decode cX9_rest 21 = .ok (.ifCond .ne 6, 3) := by decide +kernel
theorem dX9_rest_24 : decode cX9_rest 24 = .ok (.ldc 198, 2) := by decide +kernel
theorem dX9_rest_26 : decode cX9_rest 26 = .ok (.ireturn, 1) := by decide +kernel
theorem dX9_rest_27 : decode cX9_rest 27 = .ok (.aload_n 3, 1) := by decide +kernel
theorem dX9_rest_28 : decode cX9_rest 28 = .ok (.getfield 275, 3) := by decide +kernel
theorem dX9_rest_31 : decode cX9_rest 31 = .ok (.iconst 3, 1) := by decide +kernel
theorem dX9_rest_32 : decode cX9_rest 32 = .ok (.if_icmp .eq 6, 3) := by decide +kernel
theorem dX9_rest_35 : decode cX9_rest 35 = .ok (.ldc 136, 2) := by decide +kernel
theorem dX9_rest_37 : decode cX9_rest 37 = .ok (.ireturn, 1) := by decide +kernel
theorem dX9_rest_38 : decode cX9_rest 38 = .ok (.iload_n 2, 1) := by decide +kernel
theorem dX9_rest_39 : decode cX9_rest 39 = .ok (.ifCond .ne 9, 3) := by decide +kernel
theorem dX9_rest_42 : decode cX9_rest 42 = .ok (.ldc_w 293, 3) := by decide +kernel
theorem dX9_rest_45 : decode cX9_rest 45 = .ok (.goto 9, 3) := by decide +kernel
theorem dX9_rest_48 : decode cX9_rest 48 = .ok (.aload_n 3, 1) := by decide +kernel
theorem dX9_rest_49 : decode cX9_rest 49 = .ok (.getfield 292, 3) := by decide +kernel
theorem dX9_rest_52 : decode cX9_rest 52 = .ok (.iload_n 2, 1) := by decide +kernel
theorem dX9_rest_53 : decode cX9_rest 53 = .ok (.irem, 1) := by decide +kernel
theorem dX9_rest_54 : decode cX9_rest 54 = .ok (.ireturn, 1) := by decide +kernel
theorem dX9_tell_0 : decode cX9_tell 0 = .ok (.aload_n 0, 1) := by decide +kernel
theorem dX9_tell_1 : decode cX9_tell 1 = .ok (.getfield 67, 3) := by decide +kernel
theorem dX9_tell_4 : decode cX9_tell 4 = .ok (.bipush 60, 2) := by decide +kernel
theorem dX9_tell_6 : decode cX9_tell 6 = .ok (.if_icmp .lt 6, 3) := by decide +kernel
theorem dX9_tell_9 : decode cX9_tell 9 = .ok (.ldc 91, 2) := by decide +kernel
theorem dX9_tell_11 : decode cX9_tell 11 = .ok (.ireturn, 1) := by decide +kernel
theorem dX9_tell_12 : decode cX9_tell 12 = .ok (.aload_n 0, 1) := by decide +kernel
theorem dX9_tell_13 : decode cX9_tell 13 = .ok (.getfield 63, 3) := by decide +kernel
theorem dX9_tell_16 : decode cX9_tell 16 = .ok (.aload_n 0, 1) := by decide +kernel
theorem dX9_tell_17 : decode cX9_tell 17 = .ok (.getfield 67, 3) := by decide +kernel
theorem dX9_tell_20 : decode cX9_tell 20 = .ok (.iload_n 1, 1) := by decide +kernel
theorem dX9_tell_21 : decode cX9_tell 21 = .ok (.iastore, 1) := by decide +kernel
theorem dX9_tell_22 : decode cX9_tell 22 = .ok (.aload_n 0, 1) := by decide +kernel
theorem dX9_tell_23 : decode cX9_tell 23 = .ok (.dup, 1) := by decide +kernel
theorem dX9_tell_24 : decode cX9_tell 24 = .ok (.getfield 67, 3) := by decide +kernel
theorem dX9_tell_27 : decode cX9_tell 27 = .ok (.iconst 1, 1) := by decide +kernel
theorem dX9_tell_28 : decode cX9_tell 28 = .ok (.iadd, 1) := by decide +kernel
theorem dX9_tell_29 : decode cX9_tell 29 = .ok (.putfield 67, 3) := by decide +kernel
theorem dX9_tell_32 : decode cX9_tell 32 = .ok (.aload_n 0, 1) := by decide +kernel
theorem dX9_tell_33 : decode cX9_tell 33 = .ok (.getfield 67, 3) := by decide +kernel
theorem dX9_tell_36 : decode cX9_tell 36 = .ok (.ireturn, 1) := by decide +kernel
theorem dX9_check_0 : decode cX9_check 0 = .ok (.aload_n 0, 1) := by decide +kernel
theorem dX9_check_1 : decode cX9_check 1 = .ok (.getfield 67, 3) := by decide +kernel
theorem dX9_check_4 : decode cX9_check 4 = .ok (.istore_n 2, 1) := by decide +kernel
theorem dX9_check_5 : decode cX9_check 5 = .ok (.aload_n 0, 1) := by decide +kernel
theorem dX9_check_6 : decode cX9_check 6 = .ok (.iconst 0, 1) := by decide +kernel
theorem dX9_check_7 : decode cX9_check 7 = .ok (.putfield 67, 3) := by decide +kernel
theorem dX9_check_10 : decode cX9_check 10 = .ok (.iload_n 1, 1) := by decide +kernel
theorem dX9_check_11 : decode cX9_check 11 = .ok (.iconst 1, 1) := by decide +kernel
theorem dX9_check_12 : decode cX9_check 12 = .ok (.if_icmp .lt 9, 3) := by decide +kernel
theorem dX9_check_15 : decode cX9_check 15 = .ok (.iload_n 1, 1) := by decide +kernel
theorem dX9_check_16 : decode cX9_check 16 = .ok (.bipush 30, 2) := by decide +kernel
theorem dX9_check_18 : decode cX9_check 18 = .ok (.if_icmp .le 6, 3) := by decide +kernel
theorem dX9_check_21 : decode cX9_check 21 = .ok (.ldc 87, 2) := by decide +kernel
theorem dX9_check_23 : decode cX9_check 23 = .ok (.ireturn, 1) := by decide +kernel
theorem dX9_check_24 : decode cX9_check 24 = .ok (.aload_n 0, 1) := by decide +kernel
theorem dX9_check_25 : decode cX9_check 25 = .ok (.getfield 71, 3) := by decide +kernel
theorem dX9_check_28 : decode cX9_check 28 = .ok (.ifCond .ne 7, 3) := by decide +kernel
theorem dX9_check_31 : decode cX9_check 31 = .ok (.ldc_w 293, 3) := by decide +kernel
theorem dX9_check_34 : decode cX9_check 34 = .ok (.ireturn, 1) := by decide +kernel
theorem dX9_check_35 : decode cX9_check 35 = .ok (.aload_n 0, 1) := by decide +kernel
theorem dX9_check_36 : decode cX9_check 36 = .ok (.getfield 31, 3) := by decide +kernel
theorem dX9_check_39 : decode cX9_check 39 = .ok (.aload_n 0, 1) := by decide +kernel
theorem dX9_check_40 : decode cX9_check 40 = .ok (.getfield 25, 3) := by decide +kernel
theorem dX9_check_43 : decode cX9_check 43 = .ok (.invokevirtual 171, 3) := by decide +kernel
theorem dX9_check_46 : decode cX9_check 46 = .ok (.astore_n 3, 1) := by decide +kernel
theorem dX9_check_47 : decode cX9_check 47 = .ok (.iconst 0, 1) := by decide +kernel
theorem dX9_check_48 : decode cX9_check 48 = .ok (.istore 4, 2) := by decide +kernel
theorem dX9_check_50 : decode cX9_check 50 = .ok (.iload 4, 2) := by decide +kernel
theorem dX9_check_52 : decode cX9_check 52 = .ok (.iload_n 1, 1) := by decide +kernel
theorem dX9_check_53 : decode cX9_check 53 = .ok (.if_icmp .ge 81, 3) := by decide +kernel
theorem dX9_check_56 : decode cX9_check 56 = .ok (.aload_n 3, 1) := by decide +kernel
theorem dX9_check_57 : decode cX9_check 57 = .ok (.invokevirtual 167, 3) := by decide +kernel
theorem dX9_check_60 : decode cX9_check 60 = .ok (.pop, 1) := by decide +kernel
theorem dX9_check_61 : decode cX9_check 61 = .ok (.iconst 2, 1) := by decide +kernel
theorem dX9_check_62 : decode cX9_check 62 = .ok (.iload 4, 2) := by decide +kernel
theorem dX9_check_64 : decode cX9_check 64 = .ok (.imul, 1) := by decide +kernel
theorem dX9_check_65 : decode cX9_check 65 = .ok (.istore 5, 2) := by decide +kernel
theorem dX9_check_67 : decode cX9_check 67 = .ok (.iload 5, 2) := by decide +kernel
theorem dX9_check_69 : decode cX9_check 69 = .ok (.iload_n 2, 1) := by decide +kernel
theorem dX9_check_70 : decode cX9_check 70 = .ok (.if_icmp .ge 17, 3) := by decide +kernel
theorem dX9_check_73 : decode cX9_check 73 = .ok (.aload_n 0, 1) := by decide +kernel
theorem dX9_check_74 : decode cX9_check 74 = .ok (.getfield 63, 3) := by decide +kernel
theorem dX9_check_77 : decode cX9_check 77 = .ok (.iload 5, 2) := by decide +kernel
theorem dX9_check_79 : decode cX9_check 79 = .ok (.iaload, 1) := by decide +kernel
theorem dX9_check_80 : decode cX9_check 80 = .ok (.aload_n 3, 1) := by decide +kernel
theorem dX9_check_81 : decode cX9_check 81 = .ok (.invokevirtual 161, 3) := by decide +kernel
theorem dX9_check_84 : decode cX9_check 84 = .ok (.if_icmp .eq 8, 3) := by decide +kernel
theorem dX9_check_87 : decode cX9_check 87 = .ok (.iconst 1, 1) := by decide +kernel
theorem dX9_check_88 : decode cX9_check 88 = .ok (.iload 5, 2) := by decide +kernel
theorem dX9_check_90 : decode cX9_check 90 = .ok (.iadd, 1) := by decide +kernel
theorem dX9_check_91 : decode cX9_check 91 = .ok (.ireturn, 1) := by decide +kernel
theorem dX9_check_92 : decode cX9_check 92 = .ok (.iinc 5 1, 3) := by decide +kernel
theorem dX9_check_95 : decode cX9_check 95 = .ok (.iload 5, 2) := by decide +kernel
theorem dX9_check_97 : decode cX9_check 97 = .ok (.iload_n 2, 1) := by decide +kernel
theorem dX9_check_98 : decode cX9_check 98 = .ok (.if_icmp .ge 25, 3) := by decide +kernel
theorem dX9_check_101 : decode cX9_check 101 = .ok (.aload_n 0, 1) := by decide +kernel
theorem dX9_check_102 : decode cX9_check 102 = .ok (.getfield 63, 3) := by decide +kernel
theorem dX9_check_105 : decode cX9_check 105 = .ok (.iload 5, 2) := by decide +kernel
theorem dX9_check_107 : decode cX9_check 107 = .ok (.iaload, 1) := by decide +kernel
theorem dX9_check_108 : decode cX9_check 108 = .ok (.aload_n 3, 1) := by decide +kernel
theorem dX9_check_109 : decode cX9_check 109 = .ok (.getfield 189, 3) := by decide +kernel
theorem dX9_check_112 : decode cX9_check 112 = .ok (.ifCond .eq 7, 3) := by decide +kernel
theorem dX9_check_115 : decode cX9_check 115 = .ok (.iconst 1, 1) := by decide +kernel
theorem dX9_check_116 : decode cX9_check 116 = .ok (.goto 4, 3) := by decide +kernel
theorem dX9_check_119 : decode cX9_check 119 = .ok (.iconst 0, 1) := by decide +kernel
theorem dX9_check_120 : decode cX9_check 120 = .ok (.if_icmp .eq 8, 3) := by decide +kernel
theorem dX9_check_123 : decode cX9_check 123 = .ok (.iconst 1, 1) := by decide +kernel
theorem dX9_check_124 : decode cX9_check 124 = .ok (.iload 5, 2) := by decide +kernel
theorem dX9_check_126 : decode cX9_check 126 = .ok (.iadd, 1) := by decide +kernel
theorem dX9_check_127 : decode cX9_check 127 = .ok (.ireturn, 1) := by decide +kernel
theorem dX9_check_128 : decode cX9_check 128 = .ok (.iinc 4 1, 3) := by decide +kernel
theorem dX9_check_131 : decode cX9_check 131 = .ok (.goto (-81), 3) := by decide +kernel
theorem dX9_check_134 : decode cX9_check 134 = .ok (.iload_n 2, 1) := by decide +kernel
theorem dX9_check_135 : decode cX9_check 135 = .ok (.iconst 2, 1) := by decide +kernel
theorem dX9_check_136 : decode cX9_check 136 = .ok (.iload_n 1, 1) := by decide +kernel
theorem dX9_check_137 : decode cX9_check 137 = .ok (.imul, 1) := by decide +kernel
theorem dX9_check_138 : decode cX9_check 138 = .ok (.if_icmp .le 11, 3) := by decide +kernel
theorem dX9_check_141 : decode cX9_check 141 = .ok (.iconst 1, 1) := by decide +kernel
theorem dX9_check_142 : decode cX9_check 142 = .ok (.iconst 2, 1) := by decide +kernel
theorem dX9_check_143 : decode cX9_check 143 = .ok (.iload_n 1, 1) := by decide +kernel
theorem dX9_check_144 : decode cX9_check 144 = .ok (.imul, 1) := by decide +kernel
theorem dX9_check_145 : decode cX9_check 145 = .ok (.iadd, 1) := by decide +kernel
theorem dX9_check_146 : decode cX9_check 146 = .ok (.goto 4, 3) := by decide +kernel
theorem dX9_check_149 : decode cX9_check 149 = .ok (.iconst 0, 1) := by decide +kernel
theorem dX9_check_150 : decode cX9_check 150 = .ok (.ireturn, 1) := by decide +kernel
theorem dX9_keep_0 : decode cX9_keep 0 = .ok (.aload_n 0, 1) := by decide +kernel
theorem dX9_keep_1 : decode cX9_keep 1 = .ok (.getfield 25, 3) := by decide +kernel
theorem dX9_keep_4 : decode cX9_keep 4 = .ok (.aload_n 0, 1) := by decide +kernel
theorem dX9_keep_5 : decode cX9_keep 5 = .ok (.getfield 21, 3) := by decide +kernel
theorem dX9_keep_8 : decode cX9_keep 8 = .ok (.invokevirtual 294, 3) := by decide +kernel
theorem dX9_keep_11 : decode cX9_keep 11 = .ok (.aload_n 0, 1) := by decide +kernel
theorem dX9_keep_12 : decode cX9_keep 12 = .ok (.iconst 1, 1) := by decide +kernel
theorem dX9_keep_13 : decode cX9_keep 13 = .ok (.putfield 71, 3) := by decide +kernel
theorem dX9_keep_16 : decode cX9_keep 16 = .ok (.aload_n 0, 1) := by decide +kernel
theorem dX9_keep_17 : decode cX9_keep 17 = .ok (.getfield 25, 3) := by decide +kernel
theorem dX9_keep_20 : decode cX9_keep 20 = .ok (.getfield 88, 3) := by decide +kernel
theorem dX9_keep_23 : decode cX9_keep 23 = .ok (.ireturn, 1) := by decide +kernel
theorem dX9_back_0 : decode cX9_back 0 = .ok (.aload_n 0, 1) := by decide +kernel
theorem dX9_back_1 : decode cX9_back 1 = .ok (.getfield 71, 3) := by decide +kernel
theorem dX9_back_4 : decode cX9_back 4 = .ok (.ifCond .ne 7, 3) := by decide +kernel
theorem dX9_back_7 : decode cX9_back 7 = .ok (.ldc_w 293, 3) := by decide +kernel
theorem dX9_back_10 : decode cX9_back 10 = .ok (.ireturn, 1) := by decide +kernel
theorem dX9_back_11 : decode cX9_back 11 = .ok (.aload_n 0, 1) := by decide +kernel
theorem dX9_back_12 : decode cX9_back 12 = .ok (.getfield 21, 3) := by decide +kernel
theorem dX9_back_15 : decode cX9_back 15 = .ok (.aload_n 0, 1) := by decide +kernel
theorem dX9_back_16 : decode cX9_back 16 = .ok (.getfield 25, 3) := by decide +kernel
theorem dX9_back_19 : decode cX9_back 19 = .ok (.invokevirtual 294, 3) := by decide +kernel
theorem dX9_back_22 : decode cX9_back 22 = .ok (.aload_n 0, 1) := by decide +kernel
theorem dX9_back_23 : decode cX9_back 23 = .ok (.getfield 21, 3) := by decide +kernel
theorem dX9_back_26 : decode cX9_back 26 = .ok (.getfield 88, 3) := by decide +kernel
theorem dX9_back_29 : decode cX9_back 29 = .ok (.ireturn, 1) := by decide +kernel
theorem dX9_count_0 : decode cX9_count 0 = .ok (.iload_n 1, 1) := by decide +kernel
theorem dX9_count_1 : decode cX9_count 1 = .ok (.tableswitch 161 0 11 #[63, 71, 79, 88, 97, 106, 115, 124, 132, 140, 145, 153], 63) := by decide +kernel
theorem dX9_count_64 : decode cX9_count 64 = .ok (.aload_n 0, 1) := by decide +kernel
theorem dX9_count_65 : decode cX9_count 65 = .ok (.getfield 21, 3) := by decide +kernel
theorem dX9_count_68 : decode cX9_count 68 = .ok (.getfield 88, 3) := by decide +kernel
theorem dX9_count_71 : decode cX9_count 71 = .ok (.ireturn, 1) := by decide +kernel
theorem dX9_count_72 : decode cX9_count 72 = .ok (.aload_n 0, 1) := by decide +kernel
theorem dX9_count_73 : decode cX9_count 73 = .ok (.getfield 21, 3) := by decide +kernel
theorem dX9_count_76 : decode cX9_count 76 = .ok (.getfield 164, 3) := by decide +kernel
theorem dX9_count_79 : decode cX9_count 79 = .ok (.ireturn, 1) := by decide +kernel
theorem dX9_count_80 : decode cX9_count 80 = .ok (.aload_n 0, 1) := by decide +kernel
theorem dX9_count_81 : decode cX9_count 81 = .ok (.getfield 21, 3) := by decide +kernel
theorem dX9_count_84 : decode cX9_count 84 = .ok (.iconst 0, 1) := by decide +kernel
theorem dX9_count_85 : decode cX9_count 85 = .ok (.invokevirtual 157, 3) := by decide +kernel
theorem dX9_count_88 : decode cX9_count 88 = .ok (.ireturn, 1) := by decide +kernel
theorem dX9_count_89 : decode cX9_count 89 = .ok (.aload_n 0, 1) := by decide +kernel
theorem dX9_count_90 : decode cX9_count 90 = .ok (.getfield 21, 3) := by decide +kernel
theorem dX9_count_93 : decode cX9_count 93 = .ok (.iconst 1, 1) := by decide +kernel
theorem dX9_count_94 : decode cX9_count 94 = .ok (.invokevirtual 157, 3) := by decide +kernel
theorem dX9_count_97 : decode cX9_count 97 = .ok (.ireturn, 1) := by decide +kernel
theorem dX9_count_98 : decode cX9_count 98 = .ok (.aload_n 0, 1) := by decide +kernel
theorem dX9_count_99 : decode cX9_count 99 = .ok (.getfield 21, 3) := by decide +kernel
theorem dX9_count_102 : decode cX9_count 102 = .ok (.iconst 2, 1) := by decide +kernel
theorem dX9_count_103 : decode cX9_count 103 = .ok (.invokevirtual 157, 3) := by decide +kernel
theorem dX9_count_106 : decode cX9_count 106 = .ok (.ireturn, 1) := by decide +kernel
theorem dX9_count_107 : decode cX9_count 107 = .ok (.aload_n 0, 1) := by decide +kernel
theorem dX9_count_108 : decode cX9_count 108 = .ok (.getfield 21, 3) := by decide +kernel
theorem dX9_count_111 : decode cX9_count 111 = .ok (.iconst 3, 1) := by decide +kernel
theorem dX9_count_112 : decode cX9_count 112 = .ok (.invokevirtual 157, 3) := by decide +kernel
theorem dX9_count_115 : decode cX9_count 115 = .ok (.ireturn, 1) := by decide +kernel
theorem dX9_count_116 : decode cX9_count 116 = .ok (.aload_n 0, 1) := by decide +kernel
theorem dX9_count_117 : decode cX9_count 117 = .ok (.getfield 21, 3) := by decide +kernel
theorem dX9_count_120 : decode cX9_count 120 = .ok (.iconst 4, 1) := by decide +kernel
theorem dX9_count_121 : decode cX9_count 121 = .ok (.invokevirtual 157, 3) := by decide +kernel
theorem dX9_count_124 : decode cX9_count 124 = .ok (.ireturn, 1) := by decide +kernel
theorem dX9_count_125 : decode cX9_count 125 = .ok (.aload_n 0, 1) := by decide +kernel
theorem dX9_count_126 : decode cX9_count 126 = .ok (.getfield 21, 3) := by decide +kernel
theorem dX9_count_129 : decode cX9_count 129 = .ok (.invokevirtual 297, 3) := by decide +kernel
theorem dX9_count_132 : decode cX9_count 132 = .ok (.ireturn, 1) := by decide +kernel
theorem dX9_count_133 : decode cX9_count 133 = .ok (.aload_n 0, 1) := by decide +kernel
theorem dX9_count_134 : decode cX9_count 134 = .ok (.getfield 21, 3) := by decide +kernel
theorem dX9_count_137 : decode cX9_count 137 = .ok (.getfield 224, 3) := by decide +kernel
theorem dX9_count_140 : decode cX9_count 140 = .ok (.ireturn, 1) := by decide +kernel
theorem dX9_count_141 : decode cX9_count 141 = .ok (.aload_n 0, 1) := by decide +kernel
theorem dX9_count_142 : decode cX9_count 142 = .ok (.getfield 67, 3) := by decide +kernel
theorem dX9_count_145 : decode cX9_count 145 = .ok (.ireturn, 1) := by decide +kernel
theorem dX9_count_146 : decode cX9_count 146 = .ok (.aload_n 0, 1) := by decide +kernel
theorem dX9_count_147 : decode cX9_count 147 = .ok (.getfield 38, 3) := by decide +kernel
theorem dX9_count_150 : decode cX9_count 150 = .ok (.getfield 212, 3) := by decide +kernel
theorem dX9_count_153 : decode cX9_count 153 = .ok (.ireturn, 1) := by decide +kernel
theorem dX9_count_154 : decode cX9_count 154 = .ok (.aload_n 0, 1) := by decide +kernel
theorem dX9_count_155 : decode cX9_count 155 = .ok (.getfield 21, 3) := by decide +kernel
theorem dX9_count_158 : decode cX9_count 158 = .ok (.getfield 153, 3) := by decide +kernel
theorem dX9_count_161 : decode cX9_count 161 = .ok (.ireturn, 1) := by decide +kernel
theorem dX9_count_162 : decode cX9_count 162 = .ok (.ldc 87, 2) := by decide +kernel
theorem dX9_count_164 : decode cX9_count 164 = .ok (.ireturn, 1) := by decide +kernel
theorem dX9_isOne_0 : decode cX9_isOne 0 = .ok (.iload_n 1, 1) := by decide +kernel
theorem dX9_isOne_1 : decode cX9_isOne 1 = .ok (.ifCond .lt 18, 3) := by decide +kernel
theorem dX9_isOne_4 : decode cX9_isOne 4 = .ok (.iload_n 1, 1) := by decide +kernel
theorem dX9_isOne_5 : decode cX9_isOne 5 = .ok (.aload_n 0, 1) := by decide +kernel
theorem dX9_isOne_6 : decode cX9_isOne 6 = .ok (.getfield 21, 3) := by decide +kernel
theorem dX9_isOne_9 : decode cX9_isOne 9 = .ok (.getfield 88, 3) := by decide +kernel
theorem dX9_isOne_12 : decode cX9_isOne 12 = .ok (.if_icmp .ge 7, 3) := by decide +kernel
theorem dX9_isOne_15 : decode cX9_isOne 15 = .ok (.iconst 1, 1) := by decide +kernel
theorem dX9_isOne_16 : decode cX9_isOne 16 = .ok (.goto 4, 3) := by decide +kernel
theorem dX9_isOne_19 : decode cX9_isOne 19 = .ok (.iconst 0, 1) := by decide +kernel
theorem dX9_isOne_20 : decode cX9_isOne 20 = .ok (.ireturn, 1) := by decide +kernel
theorem dX9_isKind_0 : decode cX9_isKind 0 = .ok (.iload_n 0, 1) := by decide +kernel
theorem dX9_isKind_1 : decode cX9_isKind 1 = .ok (.ifCond .lt 13, 3) := by decide +kernel
theorem dX9_isKind_4 : decode cX9_isKind 4 = .ok (.iload_n 0, 1) := by decide +kernel
theorem dX9_isKind_5 : decode cX9_isKind 5 = .ok (.bipush 6, 2) := by decide +kernel
theorem dX9_isKind_7 : decode cX9_isKind 7 = .ok (.if_icmp .ge 7, 3) := by decide +kernel
theorem dX9_isKind_10 : decode cX9_isKind 10 = .ok (.iconst 1, 1) := by decide +kernel
theorem dX9_isKind_11 : decode cX9_isKind 11 = .ok (.goto 4, 3) := by decide +kernel
theorem dX9_isKind_14 : decode cX9_isKind 14 = .ok (.iconst 0, 1) := by decide +kernel
theorem dX9_isKind_15 : decode cX9_isKind 15 = .ok (.ireturn, 1) := by decide +kernel
theorem dX9_isSheet_0 : decode cX9_isSheet 0 = .ok (.iload_n 0, 1) := by decide +kernel
theorem dX9_isSheet_1 : decode cX9_isSheet 1 = .ok (.ifCond .lt 12, 3) := by decide +kernel
theorem dX9_isSheet_4 : decode cX9_isSheet 4 = .ok (.iload_n 0, 1) := by decide +kernel
theorem dX9_isSheet_5 : decode cX9_isSheet 5 = .ok (.iconst 4, 1) := by decide +kernel
theorem dX9_isSheet_6 : decode cX9_isSheet 6 = .ok (.if_icmp .ge 7, 3) := by decide +kernel
theorem dX9_isSheet_9 : decode cX9_isSheet 9 = .ok (.iconst 1, 1) := by decide +kernel
theorem dX9_isSheet_10 : decode cX9_isSheet 10 = .ok (.goto 4, 3) := by decide +kernel
theorem dX9_isSheet_13 : decode cX9_isSheet 13 = .ok (.iconst 0, 1) := by decide +kernel
theorem dX9_isSheet_14 : decode cX9_isSheet 14 = .ok (.ireturn, 1) := by decide +kernel
theorem dX9_isSlot_0 : decode cX9_isSlot 0 = .ok (.iload_n 0, 1) := by decide +kernel
theorem dX9_isSlot_1 : decode cX9_isSlot 1 = .ok (.ifCond .lt 12, 3) := by decide +kernel
theorem dX9_isSlot_4 : decode cX9_isSlot 4 = .ok (.iload_n 0, 1) := by decide +kernel
theorem dX9_isSlot_5 : decode cX9_isSlot 5 = .ok (.iconst 5, 1) := by decide +kernel
theorem dX9_isSlot_6 : decode cX9_isSlot 6 = .ok (.if_icmp .ge 7, 3) := by decide +kernel
theorem dX9_isSlot_9 : decode cX9_isSlot 9 = .ok (.iconst 1, 1) := by decide +kernel
theorem dX9_isSlot_10 : decode cX9_isSlot 10 = .ok (.goto 4, 3) := by decide +kernel
theorem dX9_isSlot_13 : decode cX9_isSlot 13 = .ok (.iconst 0, 1) := by decide +kernel
theorem dX9_isSlot_14 : decode cX9_isSlot 14 = .ok (.ireturn, 1) := by decide +kernel
theorem dX9_held_0 : decode cX9_held 0 = .ok (.iconst 0, 1) := by decide +kernel
theorem dX9_held_1 : decode cX9_held 1 = .ok (.bipush 99, 2) := by decide +kernel
theorem dX9_held_3 : decode cX9_held 3 = .ok (.iload_n 0, 1) := by decide +kernel
theorem dX9_held_4 : decode cX9_held 4 = .ok (.invokestatic 144, 3) := by decide +kernel
theorem dX9_held_7 : decode cX9_held 7 = .ok (.invokestatic 300, 3) := by decide +kernel
theorem dX9_held_10 : decode cX9_held 10 = .ok (.ireturn, 1) := by decide +kernel
theorem dX10_init_0 : decode cX10_init 0 = .ok (.aload_n 0, 1) := by decide +kernel
theorem dX10_init_1 : decode cX10_init 1 = .ok (.invokespecial 1, 3) := by decide +kernel
theorem dX10_init_4 : decode cX10_init 4 = .ok (.aload_n 0, 1) := by decide +kernel
theorem dX10_init_5 : decode cX10_init 5 = .ok (.sipush 1437, 3) := by decide +kernel
theorem dX10_init_8 : decode cX10_init 8 = .ok (.newarray .int, 2) := by decide +kernel
theorem dX10_init_10 : decode cX10_init 10 = .ok (.putfield 9, 3) := by decide +kernel
theorem dX10_init_13 : decode cX10_init 13 = .ok (.aload_n 0, 1) := by decide +kernel
theorem dX10_init_14 : decode cX10_init 14 = .ok (.sipush 1437, 3) := by decide +kernel
theorem dX10_init_17 : decode cX10_init 17 = .ok (.newarray .int, 2) := by decide +kernel
theorem dX10_init_19 : decode cX10_init 19 = .ok (.putfield 13, 3) := by decide +kernel
theorem dX10_init_22 : decode cX10_init 22 = .ok (.aload_n 0, 1) := by decide +kernel
theorem dX10_init_23 : decode cX10_init 23 = .ok (.sipush 1437, 3) := by decide +kernel
theorem dX10_init_26 : decode cX10_init 26 = .ok (.newarray .int, 2) := by decide +kernel
theorem dX10_init_28 : decode cX10_init 28 = .ok (.putfield 16, 3) := by decide +kernel
theorem dX10_init_31 : decode cX10_init 31 = .ok (.aload_n 0, 1) := by decide +kernel
theorem dX10_init_32 : decode cX10_init 32 = .ok (.bipush 65, 2) := by decide +kernel
theorem dX10_init_34 : decode cX10_init 34 = .ok (.newarray .int, 2) := by decide +kernel
theorem dX10_init_36 : decode cX10_init 36 = .ok (.putfield 19, 3) := by decide +kernel
theorem dX10_init_39 : decode cX10_init 39 = .ok (.aload_n 0, 1) := by decide +kernel
theorem dX10_init_40 : decode cX10_init 40 = .ok (.bipush 65, 2) := by decide +kernel
theorem dX10_init_42 : decode cX10_init 42 = .ok (.newarray .int, 2) := by decide +kernel
theorem dX10_init_44 : decode cX10_init 44 = .ok (.putfield 22, 3) := by decide +kernel
theorem dX10_init_47 : decode cX10_init 47 = .ok (.aload_n 0, 1) := by decide +kernel
theorem dX10_init_48 : decode cX10_init 48 = .ok (.bipush 96, 2) := by decide +kernel
theorem dX10_init_50 : decode cX10_init 50 = .ok (.newarray .int, 2) := by decide +kernel
theorem dX10_init_52 : decode cX10_init 52 = .ok (.putfield 25, 3) := by decide +kernel
theorem dX10_init_55 : decode cX10_init 55 = .ok (.aload_n 0, 1) := by decide +kernel
theorem dX10_init_56 : decode cX10_init 56 = .ok (.bipush 10, 2) := by decide +kernel
theorem dX10_init_58 : decode cX10_init 58 = .ok (.newarray .char, 2) := by decide +kernel
theorem dX10_init_60 : decode cX10_init 60 = .ok (.dup, 1) := by decide +kernel
theorem dX10_init_61 : decode cX10_init 61 = .ok (.iconst 0, 1) := by decide +kernel
theorem dX10_init_62 : decode cX10_init 62 = .ok (.bipush 115, 2) := by decide +kernel
theorem dX10_init_64 : decode cX10_init 64 = .ok (.castore, 1) := by decide +kernel
theorem dX10_init_65 : decode cX10_init 65 = .ok (.dup, 1) := by decide +kernel
theorem dX10_init_66 : decode cX10_init 66 = .ok (.iconst 1, 1) := by decide +kernel
theorem dX10_init_67 : decode cX10_init 67 = .ok (.bipush 101, 2) := by decide +kernel
theorem dX10_init_69 : decode cX10_init 69 = .ok (.castore, 1) := by decide +kernel
theorem dX10_init_70 : decode cX10_init 70 = .ok (.dup, 1) := by decide +kernel
theorem dX10_init_71 : decode cX10_init 71 = .ok (.iconst 2, 1) := by decide +kernel
theorem dX10_init_72 : decode cX10_init 72 = .ok (.bipush 116, 2) := by decide +kernel
theorem dX10_init_74 : decode cX10_init 74 = .ok (.castore, 1) := by decide +kernel
theorem dX10_init_75 : decode cX10_init 75 = .ok (.dup, 1) := by decide +kernel
theorem dX10_init_76 : decode cX10_init 76 = .ok (.iconst 3, 1) := by decide +kernel
theorem dX10_init_77 : decode cX10_init 77 = .ok (.bipush 102, 2) := by decide +kernel
theorem dX10_init_79 : decode cX10_init 79 = .ok (.castore, 1) := by decide +kernel
theorem dX10_init_80 : decode cX10_init 80 = .ok (.dup, 1) := by decide +kernel
theorem dX10_init_81 : decode cX10_init 81 = .ok (.iconst 4, 1) := by decide +kernel
theorem dX10_init_82 : decode cX10_init 82 = .ok (.bipush 101, 2) := by decide +kernel
theorem dX10_init_84 : decode cX10_init 84 = .ok (.castore, 1) := by decide +kernel
theorem dX10_init_85 : decode cX10_init 85 = .ok (.dup, 1) := by decide +kernel
theorem dX10_init_86 : decode cX10_init 86 = .ok (.iconst 5, 1) := by decide +kernel
theorem dX10_init_87 : decode cX10_init 87 = .ok (.bipush 101, 2) := by decide +kernel
theorem dX10_init_89 : decode cX10_init 89 = .ok (.castore, 1) := by decide +kernel
theorem dX10_init_90 : decode cX10_init 90 = .ok (.dup, 1) := by decide +kernel
theorem dX10_init_91 : decode cX10_init 91 = .ok (.bipush 6, 2) := by decide +kernel
theorem dX10_init_93 : decode cX10_init 93 = .ok (.bipush 102, 2) := by decide +kernel
theorem dX10_init_95 : decode cX10_init 95 = .ok (.castore, 1) := by decide +kernel
theorem dX10_init_96 : decode cX10_init 96 = .ok (.dup, 1) := by decide +kernel
theorem dX10_init_97 : decode cX10_init 97 = .ok (.bipush 7, 2) := by decide +kernel
theorem dX10_init_99 : decode cX10_init 99 = .ok (.bipush 105, 2) := by decide +kernel
theorem dX10_init_101 : decode cX10_init 101 = .ok (.castore, 1) := by decide +kernel
theorem dX10_init_102 : decode cX10_init 102 = .ok (.dup, 1) := by decide +kernel
theorem dX10_init_103 : decode cX10_init 103 = .ok (.bipush 8, 2) := by decide +kernel
theorem dX10_init_105 : decode cX10_init 105 = .ok (.bipush 110, 2) := by decide +kernel
theorem dX10_init_107 : decode cX10_init 107 = .ok (.castore, 1) := by decide +kernel
theorem dX10_init_108 : decode cX10_init 108 = .ok (.dup, 1) := by decide +kernel
theorem dX10_init_109 : decode cX10_init 109 = .ok (.bipush 9, 2) := by decide +kernel
theorem dX10_init_111 : decode cX10_init 111 = .ok (.bipush 101, 2) := by decide +kernel
theorem dX10_init_113 : decode cX10_init 113 = .ok (.castore, 1) := by decide +kernel
theorem dX10_init_114 : decode cX10_init 114 = .ok (.putfield 28, 3) := by decide +kernel
theorem dX10_init_117 : decode cX10_init 117 = .ok (.aload_n 0, 1) := by decide +kernel
theorem dX10_init_118 : decode cX10_init 118 = .ok (.iconst 4, 1) := by decide +kernel
theorem dX10_init_119 : decode cX10_init 119 = .ok (.newarray .int, 2) := by decide +kernel
theorem dX10_init_121 : decode cX10_init 121 = .ok (.dup, 1) := by decide +kernel
theorem dX10_init_122 : decode cX10_init 122 = .ok (.iconst 0, 1) := by decide +kernel
theorem dX10_init_123 : decode cX10_init 123 = .ok (.iconst 0, 1) := by decide +kernel
theorem dX10_init_124 : decode cX10_init 124 = .ok (.iastore, 1) := by decide +kernel
theorem dX10_init_125 : decode cX10_init 125 = .ok (.dup, 1) := by decide +kernel
theorem dX10_init_126 : decode cX10_init 126 = .ok (.iconst 1, 1) := by decide +kernel
theorem dX10_init_127 : decode cX10_init 127 = .ok (.iconst 3, 1) := by decide +kernel
theorem dX10_init_128 : decode cX10_init 128 = .ok (.iastore, 1) := by decide +kernel
theorem dX10_init_129 : decode cX10_init 129 = .ok (.dup, 1) := by decide +kernel
theorem dX10_init_130 : decode cX10_init 130 = .ok (.iconst 2, 1) := by decide +kernel
theorem dX10_init_131 : decode cX10_init 131 = .ok (.bipush 6, 2) := by decide +kernel
theorem dX10_init_133 : decode cX10_init 133 = .ok (.iastore, 1) := by decide +kernel
theorem dX10_init_134 : decode cX10_init 134 = .ok (.dup, 1) := by decide +kernel
theorem dX10_init_135 : decode cX10_init 135 = .ok (.iconst 3, 1) := by decide +kernel
theorem dX10_init_136 : decode cX10_init 136 = .ok (.bipush 10, 2) := by decide +kernel
theorem dX10_init_138 : decode cX10_init 138 = .ok (.iastore, 1) := by decide +kernel
theorem dX10_init_139 : decode cX10_init 139 = .ok (.putfield 32, 3) := by decide +kernel
theorem dX10_init_142 : decode cX10_init 142 = .ok (.aload_n 0, 1) := by decide +kernel
theorem dX10_init_143 : decode cX10_init 143 = .ok (.bipush 96, 2) := by decide +kernel
theorem dX10_init_145 : decode cX10_init 145 = .ok (.newarray .int, 2) := by decide +kernel
theorem dX10_init_147 : decode cX10_init 147 = .ok (.putfield 35, 3) := by decide +kernel
theorem dX10_init_150 : decode cX10_init 150 = .ok (.aload_n 0, 1) := by decide +kernel
theorem dX10_init_151 : decode cX10_init 151 = .ok (.bipush 96, 2) := by decide +kernel
theorem dX10_init_153 : decode cX10_init 153 = .ok (.newarray .int, 2) := by decide +kernel
theorem dX10_init_155 : decode cX10_init 155 = .ok (.putfield 38, 3) := by decide +kernel
theorem dX10_init_158 : decode cX10_init 158 = .ok (.aload_n 0, 1) := by decide +kernel
theorem dX10_init_159 : decode cX10_init 159 = .ok (.bipush 10, 2) := by decide +kernel
theorem dX10_init_161 : decode cX10_init 161 = .ok (.newarray .boolean, 2) := by decide +kernel
theorem dX10_init_163 : decode cX10_init 163 = .ok (.putfield 41, 3) := by decide +kernel
theorem dX10_init_166 : decode cX10_init 166 = .ok (.aload_n 0, 1) := by decide +kernel
theorem dX10_init_167 : decode cX10_init 167 = .ok (.bipush 96, 2) := by decide +kernel
theorem dX10_init_169 : decode cX10_init 169 = .ok (.newarray .int, 2) := by decide +kernel
theorem dX10_init_171 : decode cX10_init 171 = .ok (.putfield 45, 3) := by decide +kernel
theorem dX10_init_174 : decode cX10_init 174 = .ok (.aload_n 0, 1) := by decide +kernel
theorem dX10_init_175 : decode cX10_init 175 = .ok (.iconst 4, 1) := by decide +kernel
theorem dX10_init_176 : decode cX10_init 176 = .ok (.newarray .int, 2) := by decide +kernel
theorem dX10_init_178 : decode cX10_init 178 = .ok (.putfield 48, 3) := by decide +kernel
theorem dX10_init_181 : decode cX10_init 181 = .ok (.aload_n 0, 1) := by decide +kernel
theorem dX10_init_182 : decode cX10_init 182 = .ok (.iconst 4, 1) := by decide +kernel
theorem dX10_init_183 : decode cX10_init 183 = .ok (.newarray .int, 2) := by decide +kernel
theorem dX10_init_185 : decode cX10_init 185 = .ok (.dup, 1) := by decide +kernel
theorem dX10_init_186 : decode cX10_init 186 = .ok (.iconst 0, 1) := by decide +kernel
theorem dX10_init_187 : decode cX10_init 187 = .ok (.iconst (-1), 1) := by decide +kernel
theorem dX10_init_188 : decode cX10_init 188 = .ok (.iastore, 1) := by decide +kernel
theorem dX10_init_189 : decode cX10_init 189 = .ok (.dup, 1) := by decide +kernel
theorem dX10_init_190 : decode cX10_init 190 = .ok (.iconst 1, 1) := by decide +kernel
theorem dX10_init_191 : decode cX10_init 191 = .ok (.iconst (-1), 1) := by decide +kernel
theorem dX10_init_192 : decode cX10_init 192 = .ok (.iastore, 1) := by decide +kernel
theorem dX10_init_193 : decode cX10_init 193 = .ok (.dup, 1) := by decide +kernel
theorem dX10_init_194 : decode cX10_init 194 = .ok (.iconst 2, 1) := by decide +kernel
theorem dX10_init_195 : decode cX10_init 195 = .ok (.iconst (-1), 1) := by decide +kernel
theorem dX10_init_196 : decode cX10_init 196 = .ok (.iastore, 1) := by decide +kernel
theorem dX10_init_197 : decode cX10_init 197 = .ok (.dup, 1) := by decide +kernel
theorem dX10_init_198 : decode cX10_init 198 = .ok (.iconst 3, 1) := by decide +kernel
theorem dX10_init_199 : decode cX10_init 199 = .ok (.iconst (-1), 1) := by decide +kernel
theorem dX10_init_200 : decode cX10_init 200 = .ok (.iastore, 1) := by decide +kernel
theorem dX10_init_201 : decode cX10_init 201 = .ok (.putfield 51, 3) := by decide +kernel
theorem dX10_init_204 : decode cX10_init 204 = .ok (.aload_n 0, 1) := by decide +kernel
theorem dX10_init_205 : decode cX10_init 205 = .ok (.iconst 4, 1) := by decide +kernel
theorem dX10_init_206 : decode cX10_init 206 = .ok (.newarray .int, 2) := by decide +kernel
theorem dX10_init_208 : decode cX10_init 208 = .ok (.putfield 54, 3) := by decide +kernel
theorem dX10_init_211 : decode cX10_init 211 = .ok (.aload_n 0, 1) := by decide +kernel
theorem dX10_init_212 : decode cX10_init 212 = .ok (.bipush 96, 2) := by decide +kernel
theorem dX10_init_214 : decode cX10_init 214 = .ok (.newarray .int, 2) := by decide +kernel
theorem dX10_init_216 : decode cX10_init 216 = .ok (.putfield 57, 3) := by decide +kernel
theorem dX10_init_219 : decode cX10_init 219 = .ok (.aload_n 0, 1) := by decide +kernel
theorem dX10_init_220 : decode cX10_init 220 = .ok (.iconst 5, 1) := by decide +kernel
theorem dX10_init_221 : decode cX10_init 221 = .ok (.newarray .int, 2) := by decide +kernel
theorem dX10_init_223 : decode cX10_init 223 = .ok (.putfield 60, 3) := by decide +kernel
theorem dX10_init_226 : decode cX10_init 226 = .ok (.aload_n 0, 1) := by decide +kernel
theorem dX10_init_227 : decode cX10_init 227 = .ok (.iconst 5, 1) := by decide +kernel
theorem dX10_init_228 : decode cX10_init 228 = .ok (.newarray .int, 2) := by decide +kernel
theorem dX10_init_230 : decode cX10_init 230 = .ok (.putfield 63, 3) := by decide +kernel
theorem dX10_init_233 : decode cX10_init 233 = .ok (.aload_n 0, 1) := by decide +kernel
theorem dX10_init_234 : decode cX10_init 234 = .ok (.iconst 5, 1) := by decide +kernel
theorem dX10_init_235 : decode cX10_init 235 = .ok (.newarray .int, 2) := by decide +kernel
theorem dX10_init_237 : decode cX10_init 237 = .ok (.putfield 66, 3) := by decide +kernel
theorem dX10_init_240 : decode cX10_init 240 = .ok (.aload_n 0, 1) := by decide +kernel
theorem dX10_init_241 : decode cX10_init 241 = .ok (.bipush 120, 2) := by decide +kernel
theorem dX10_init_243 : decode cX10_init 243 = .ok (.newarray .int, 2) := by decide +kernel
theorem dX10_init_245 : decode cX10_init 245 = .ok (.putfield 69, 3) := by decide +kernel
theorem dX10_init_248 : decode cX10_init 248 = .ok (.aload_n 0, 1) := by decide +kernel
theorem dX10_init_249 : decode cX10_init 249 = .ok (.bipush 24, 2) := by decide +kernel
theorem dX10_init_251 : decode cX10_init 251 = .ok (.newarray .int, 2) := by decide +kernel
theorem dX10_init_253 : decode cX10_init 253 = .ok (.putfield 72, 3) := by decide +kernel
theorem dX10_init_256 : decode cX10_init 256 = .ok (.aload_n 0, 1) := by decide +kernel
theorem dX10_init_257 : decode cX10_init 257 = .ok (.bipush 60, 2) := by decide +kernel
theorem dX10_init_259 : decode cX10_init 259 = .ok (.newarray .int, 2) := by decide +kernel
theorem dX10_init_261 : decode cX10_init 261 = .ok (.putfield 75, 3) := by decide +kernel
theorem dX10_init_264 : decode cX10_init 264 = .ok (.aload_n 0, 1) := by decide +kernel
theorem dX10_init_265 : decode cX10_init 265 = .ok (.getfield 9, 3) := by decide +kernel
theorem dX10_init_268 : decode cX10_init 268 = .ok (.iconst 0, 1) := by decide +kernel
theorem dX10_init_269 : decode cX10_init 269 = .ok (.iconst 1, 1) := by decide +kernel
theorem dX10_init_270 : decode cX10_init 270 = .ok (.iastore, 1) := by decide +kernel
theorem dX10_init_271 : decode cX10_init 271 = .ok (.aload_n 0, 1) := by decide +kernel
theorem dX10_init_272 : decode cX10_init 272 = .ok (.getfield 9, 3) := by decide +kernel
theorem dX10_init_275 : decode cX10_init 275 = .ok (.bipush 6, 2) := by decide +kernel
theorem dX10_init_277 : decode cX10_init 277 = .ok (.bipush 99, 2) := by decide +kernel
theorem dX10_init_279 : decode cX10_init 279 = .ok (.iastore, 1) := by decide +kernel
theorem dX10_init_280 : decode cX10_init 280 = .ok (.return_, 1) := by decide +kernel
theorem dX10_in_0 : decode cX10_in 0 = .ok (.iload_n 0, 1) := by decide +kernel
theorem dX10_in_1 : decode cX10_in 1 = .ok (.iload_n 1, 1) := by decide +kernel
theorem dX10_in_2 : decode cX10_in 2 = .ok (.if_icmp .lt 12, 3) := by decide +kernel
theorem dX10_in_5 : decode cX10_in 5 = .ok (.iload_n 0, 1) := by decide +kernel
theorem dX10_in_6 : decode cX10_in 6 = .ok (.iload_n 2, 1) := by decide +kernel
theorem dX10_in_7 : decode cX10_in 7 = .ok (.if_icmp .gt 7, 3) := by decide +kernel
theorem dX10_in_10 : decode cX10_in 10 = .ok (.iconst 1, 1) := by decide +kernel
theorem dX10_in_11 : decode cX10_in 11 = .ok (.goto 4, 3) := by decide +kernel
theorem dX10_in_14 : decode cX10_in 14 = .ok (.iconst 0, 1) := by decide +kernel
theorem dX10_in_15 : decode cX10_in 15 = .ok (.ireturn, 1) := by decide +kernel
theorem dX10_within_0 : decode cX10_within 0 = .ok (.iload_n 0, 1) := by decide +kernel
theorem dX10_within_1 : decode cX10_within 1 = .ok (.iload_n 1, 1) := by decide +kernel
theorem dX10_within_2 : decode cX10_within 2 = .ok (.if_icmp .ge 7, 3) := by decide +kernel
theorem dX10_within_5 : decode cX10_within 5 = .ok (.iload_n 1, 1) := by decide +kernel
theorem dX10_within_6 : decode cX10_within 6 = .ok (.goto 13, 3) := by decide +kernel
theorem dX10_within_9 : decode cX10_within 9 = .ok (.iload_n 0, 1) := by decide +kernel
theorem dX10_within_10 : decode cX10_within 10 = .ok (.iload_n 2, 1) := by decide +kernel
theorem dX10_within_11 : decode cX10_within 11 = .ok (.if_icmp .le 7, 3) := by decide +kernel
theorem dX10_within_14 : decode cX10_within 14 = .ok (.iload_n 2, 1) := by decide +kernel
theorem dX10_within_15 : decode cX10_within 15 = .ok (.goto 4, 3) := by decide +kernel
theorem dX10_within_18 : decode cX10_within 18 = .ok (.iload_n 0, 1) := by decide +kernel
theorem dX10_within_19 : decode cX10_within 19 = .ok (.ireturn, 1) := by decide +kernel
theorem dX10_copyAll_0 : decode cX10_copyAll 0 = .ok (.iconst 0, 1) := by decide +kernel
theorem dX10_copyAll_1 : decode cX10_copyAll 1 = .ok (.istore_n 2, 1) := by decide +kernel
theorem dX10_copyAll_2 : decode cX10_copyAll 2 = .ok (.iload_n 2, 1) := by decide +kernel
theorem dX10_copyAll_3 : decode cX10_copyAll 3 = .ok (.sipush 1437, 3) := by decide +kernel
theorem dX10_copyAll_6 : decode cX10_copyAll 6 = .ok (.if_icmp .ge 15, 3) := by decide +kernel
theorem dX10_copyAll_9 : decode cX10_copyAll 9 = .ok (.aload_n 1, 1) := by decide +kernel
theorem dX10_copyAll_10 : decode cX10_copyAll 10 = .ok (.iload_n 2, 1) := by decide +kernel
theorem dX10_copyAll_11 : decode cX10_copyAll 11 = .ok (.aload_n 0, 1) := by decide +kernel
theorem dX10_copyAll_12 : decode cX10_copyAll 12 = .ok (.iload_n 2, 1) := by decide +kernel
theorem dX10_copyAll_13 : decode cX10_copyAll 13 = .ok (.iaload, 1) := by decide +kernel
theorem dX10_copyAll_14 : decode cX10_copyAll 14 = .ok (.iastore, 1) := by decide +kernel
theorem dX10_copyAll_15 : decode cX10_copyAll 15 = .ok (.iinc 2 1, 3) := by decide +kernel
theorem dX10_copyAll_18 : decode cX10_copyAll 18 = .ok (.goto (-16), 3) := by decide +kernel
theorem dX10_copyAll_21 : decode cX10_copyAll 21 = .ok (.return_, 1) := by decide +kernel
theorem dX10_isOne_0 : decode cX10_isOne 0 = .ok (.iload_n 1, 1) := by decide +kernel
theorem dX10_isOne_1 : decode cX10_isOne 1 = .ok (.iconst 0, 1) := by decide +kernel
theorem dX10_isOne_2 : decode cX10_isOne 2 = .ok (.aload_n 0, 1) := by decide +kernel
theorem dX10_isOne_3 : decode cX10_isOne 3 = .ok (.getfield 9, 3) := by decide +kernel
theorem dX10_isOne_6 : decode cX10_isOne 6 = .ok (.iconst 1, 1) := by decide +kernel
theorem dX10_isOne_7 : decode cX10_isOne 7 = .ok (.iaload, 1) := by decide +kernel
theorem dX10_isOne_8 : decode cX10_isOne 8 = .ok (.iconst 1, 1) := by decide +kernel
theorem dX10_isOne_9 : decode cX10_isOne 9 = .ok (.isub, 1) := by decide +kernel
theorem dX10_isOne_10 : decode cX10_isOne 10 = .ok (.invokestatic 78, 3) := by decide +kernel
theorem dX10_isOne_13 : decode cX10_isOne 13 = .ok (.ireturn, 1) := by decide +kernel
theorem dX10_of_0 : decode cX10_of 0 = .ok (.aload_n 0, 1) := by decide +kernel
theorem dX10_of_1 : decode cX10_of 1 = .ok (.getfield 9, 3) := by decide +kernel
theorem dX10_of_4 : decode cX10_of 4 = .ok (.bipush 9, 2) := by decide +kernel
theorem dX10_of_6 : decode cX10_of 6 = .ok (.bipush 7, 2) := by decide +kernel
theorem dX10_of_8 : decode cX10_of 8 = .ok (.iload_n 1, 1) := by decide +kernel
theorem dX10_of_9 : decode cX10_of 9 = .ok (.imul, 1) := by decide +kernel
theorem dX10_of_10 : decode cX10_of 10 = .ok (.iadd, 1) := by decide +kernel
theorem dX10_of_11 : decode cX10_of 11 = .ok (.iload_n 2, 1) := by decide +kernel
theorem dX10_of_12 : decode cX10_of 12 = .ok (.iadd, 1) := by decide +kernel
theorem dX10_of_13 : decode cX10_of 13 = .ok (.iaload, 1) := by decide +kernel
theorem dX10_of_14 : decode cX10_of 14 = .ok (.ireturn, 1) := by decide +kernel
theorem dX10_put_0 : decode cX10_put 0 = .ok (.aload_n 0, 1) := by decide +kernel
theorem dX10_put_1 : decode cX10_put 1 = .ok (.getfield 9, 3) := by decide +kernel
theorem dX10_put_4 : decode cX10_put 4 = .ok (.bipush 9, 2) := by decide +kernel
theorem dX10_put_6 : decode cX10_put 6 = .ok (.bipush 7, 2) := by decide +kernel
theorem dX10_put_8 : decode cX10_put 8 = .ok (.iload_n 1, 1) := by decide +kernel
theorem dX10_put_9 : decode cX10_put 9 = .ok (.imul, 1) := by decide +kernel
theorem dX10_put_10 : decode cX10_put 10 = .ok (.iadd, 1) := by decide +kernel
theorem dX10_put_11 : decode cX10_put 11 = .ok (.iload_n 2, 1) := by decide +kernel
theorem dX10_put_12 : decode cX10_put 12 = .ok (.iadd, 1) := by decide +kernel
theorem dX10_put_13 : decode cX10_put 13 = .ok (.iload_n 3, 1) := by decide +kernel
theorem dX10_put_14 : decode cX10_put 14 = .ok (.iastore, 1) := by decide +kernel
theorem dX10_put_15 : decode cX10_put 15 = .ok (.return_, 1) := by decide +kernel
theorem dX10_becomes_0 : decode cX10_becomes 0 = .ok (.aload_n 0, 1) := by decide +kernel
theorem dX10_becomes_1 : decode cX10_becomes 1 = .ok (.getfield 9, 3) := by decide +kernel
theorem dX10_becomes_4 : decode cX10_becomes 4 = .ok (.iload_n 1, 1) := by decide +kernel
theorem dX10_becomes_5 : decode cX10_becomes 5 = .ok (.iaload, 1) := by decide +kernel
theorem dX10_becomes_6 : decode cX10_becomes 6 = .ok (.istore_n 3, 1) := by decide +kernel
theorem dX10_becomes_7 : decode cX10_becomes 7 = .ok (.aload_n 0, 1) := by decide +kernel
theorem dX10_becomes_8 : decode cX10_becomes 8 = .ok (.getfield 9, 3) := by decide +kernel
theorem dX10_becomes_11 : decode cX10_becomes 11 = .ok (.iload_n 1, 1) := by decide +kernel
theorem dX10_becomes_12 : decode cX10_becomes 12 = .ok (.iload_n 2, 1) := by decide +kernel
theorem dX10_becomes_13 : decode cX10_becomes 13 = .ok (.iastore, 1) := by decide +kernel
theorem dX10_becomes_14 : decode cX10_becomes 14 = .ok (.iload_n 3, 1) := by decide +kernel
theorem dX10_becomes_15 : decode cX10_becomes 15 = .ok (.ireturn, 1) := by decide +kernel
theorem dX10_comes_0 : decode cX10_comes 0 = .ok (.aload_n 0, 1) := by decide +kernel
theorem dX10_comes_1 : decode cX10_comes 1 = .ok (.getfield 9, 3) := by decide +kernel
theorem dX10_comes_4 : decode cX10_comes 4 = .ok (.iconst 1, 1) := by decide +kernel
theorem dX10_comes_5 : decode cX10_comes 5 = .ok (.iaload, 1) := by decide +kernel
theorem dX10_comes_6 : decode cX10_comes 6 = .ok (.istore 5, 2) := by decide +kernel
theorem dX10_comes_8 : decode cX10_comes 8 = .ok (.aload_n 0, 1) := by decide +kernel
theorem dX10_comes_9 : decode cX10_comes 9 = .ok (.iload 5, 2) := by decide +kernel
theorem dX10_comes_11 : decode cX10_comes 11 = .ok (.iconst 0, 1) := by decide +kernel
theorem dX10_comes_12 : decode cX10_comes 12 = .ok (.iload_n 1, 1) := by decide +kernel
theorem dX10_comes_13 : decode cX10_comes 13 = .ok (.invokevirtual 82, 3) := by decide +kernel
theorem dX10_comes_16 : decode cX10_comes 16 = .ok (.aload_n 0, 1) := by decide +kernel
theorem dX10_comes_17 : decode cX10_comes 17 = .ok (.iload 5, 2) := by decide +kernel
theorem dX10_comes_19 : decode cX10_comes 19 = .ok (.iconst 1, 1) := by decide +kernel
theorem dX10_comes_20 : decode cX10_comes 20 = .ok (.iload_n 2, 1) := by decide +kernel
theorem dX10_comes_21 : decode cX10_comes 21 = .ok (.invokevirtual 82, 3) := by decide +kernel
theorem dX10_comes_24 : decode cX10_comes 24 = .ok (.aload_n 0, 1) := by decide +kernel
theorem dX10_comes_25 : decode cX10_comes 25 = .ok (.iload 5, 2) := by decide +kernel
theorem dX10_comes_27 : decode cX10_comes 27 = .ok (.iconst 2, 1) := by decide +kernel
theorem dX10_comes_28 : decode cX10_comes 28 = .ok (.iload_n 3, 1) := by decide +kernel
theorem dX10_comes_29 : decode cX10_comes 29 = .ok (.invokevirtual 82, 3) := by decide +kernel
theorem dX10_comes_32 : decode cX10_comes 32 = .ok (.aload_n 0, 1) := by decide +kernel
theorem dX10_comes_33 : decode cX10_comes 33 = .ok (.iload 5, 2) := by decide +kernel
theorem dX10_comes_35 : decode cX10_comes 35 = .ok (.iconst 3, 1) := by decide +kernel
theorem dX10_comes_36 : decode cX10_comes 36 = .ok (.iload 4, 2) := by decide +kernel
theorem dX10_comes_38 : decode cX10_comes 38 = .ok (.invokevirtual 82, 3) := by decide +kernel
theorem dX10_comes_41 : decode cX10_comes 41 = .ok (.aload_n 0, 1) := by decide +kernel
theorem dX10_comes_42 : decode cX10_comes 42 = .ok (.iload 5, 2) := by decide +kernel
theorem dX10_comes_44 : decode cX10_comes 44 = .ok (.iconst 4, 1) := by decide +kernel
theorem dX10_comes_45 : decode cX10_comes 45 = .ok (.iconst 0, 1) := by decide +kernel
theorem dX10_comes_46 : decode cX10_comes 46 = .ok (.invokevirtual 82, 3) := by decide +kernel
theorem dX10_comes_49 : decode cX10_comes 49 = .ok (.aload_n 0, 1) := by decide +kernel
theorem dX10_comes_50 : decode cX10_comes 50 = .ok (.iload 5, 2) := by decide +kernel
theorem dX10_comes_52 : decode cX10_comes 52 = .ok (.iconst 5, 1) := by decide +kernel
theorem dX10_comes_53 : decode cX10_comes 53 = .ok (.bipush 99, 2) := by decide +kernel
theorem dX10_comes_55 : decode cX10_comes 55 = .ok (.invokevirtual 82, 3) := by decide +kernel
theorem dX10_comes_58 : decode cX10_comes 58 = .ok (.aload_n 0, 1) := by decide +kernel
theorem dX10_comes_59 : decode cX10_comes 59 = .ok (.iload 5, 2) := by decide +kernel
theorem dX10_comes_61 : decode cX10_comes 61 = .ok (.bipush 6, 2) := by decide +kernel
theorem dX10_comes_63 : decode cX10_comes 63 = .ok (.iconst 1, 1) := by decide +kernel
theorem dX10_comes_64 : decode cX10_comes 64 = .ok (.invokevirtual 82, 3) := by decide +kernel
theorem dX10_comes_67 : decode cX10_comes 67 = .ok (.aload_n 0, 1) := by decide +kernel
theorem dX10_comes_68 : decode cX10_comes 68 = .ok (.getfield 9, 3) := by decide +kernel
theorem dX10_comes_71 : decode cX10_comes 71 = .ok (.iconst 1, 1) := by decide +kernel
theorem dX10_comes_72 : decode cX10_comes 72 = .ok (.dup2, 1) := by decide +kernel
theorem dX10_comes_73 : decode cX10_comes 73 = .ok (.iaload, 1) := by decide +kernel
theorem dX10_comes_74 : decode cX10_comes 74 = .ok (.iconst 1, 1) := by decide +kernel
theorem dX10_comes_75 : decode cX10_comes 75 = .ok (.iadd, 1) := by decide +kernel
theorem dX10_comes_76 : decode cX10_comes 76 = .ok (.iastore, 1) := by decide +kernel
theorem dX10_comes_77 : decode cX10_comes 77 = .ok (.iload 5, 2) := by decide +kernel
theorem dX10_comes_79 : decode cX10_comes 79 = .ok (.ireturn, 1) := by decide +kernel
theorem dX10_person_0 : decode cX10_person 0 = .ok (.iload_n 1, 1) := by decide +kernel
theorem dX10_person_1 : decode cX10_person 1 = .ok (.iconst 0, 1) := by decide +kernel
theorem dX10_person_2 : decode cX10_person 2 = .ok (.iconst 5, 1) := by decide +kernel
theorem dX10_person_3 : decode cX10_person 3 = .ok (.invokestatic 78, 3) := by decide +kernel
theorem dX10_person_6 : decode cX10_person 6 = .ok (.ifCond .eq 23, 3) := by decide +kernel
theorem dX10_person_9 : decode cX10_person 9 = .ok (.iload_n 2, 1) := by decide +kernel
theorem dX10_person_10 : decode cX10_person 10 = .ok (.iconst 0, 1) := by decide +kernel
theorem dX10_person_11 : decode cX10_person 11 = .ok (.bipush 99, 2) := by decide +kernel
theorem dX10_person_13 : decode cX10_person 13 = .ok (.invokestatic 78, 3) := by decide +kernel
theorem dX10_person_16 : decode cX10_person 16 = .ok (.ifCond .eq 13, 3) := by decide +kernel
theorem dX10_person_19 : decode cX10_person 19 = .ok (.iload_n 3, 1) := by decide +kernel
theorem dX10_person_20 : decode cX10_person 20 = .ok (.iconst 1, 1) := by decide +kernel
theorem dX10_person_21 : decode cX10_person 21 = .ok (.bipush 9, 2) := by decide +kernel
theorem dX10_person_23 : decode cX10_person 23 = .ok (.invokestatic 78, 3) := by decide +kernel
theorem dX10_person_26 : decode cX10_person 26 = .ok (.ifCond .ne 6, 3) := by decide +kernel
theorem dX10_person_29 : decode cX10_person 29 = .ok (.ldc 86, 2) := by decide +kernel
theorem dX10_person_31 : decode cX10_person 31 = .ok (.ireturn, 1) := by decide +kernel
theorem dX10_person_32 : decode cX10_person 32 = .ok (.aload_n 0, 1) := by decide +kernel
theorem dX10_person_33 : decode cX10_person 33 = .ok (.getfield 9, 3) := by decide +kernel
theorem dX10_person_36 : decode cX10_person 36 = .ok (.iconst 1, 1) := by decide +kernel
theorem dX10_person_37 : decode cX10_person 37 = .ok (.iaload, 1) := by decide +kernel
theorem dX10_person_38 : decode cX10_person 38 = .ok (.bipush 8, 2) := by decide +kernel
theorem dX10_person_40 : decode cX10_person 40 = .ok (.if_icmp .ne 8, 3) := by decide +kernel
theorem dX10_person_43 : decode cX10_person 43 = .ok (.ldc 87, 2) := by decide +kernel
theorem dX10_person_45 : decode cX10_person 45 = .ok (.goto 11, 3) := by decide +kernel
theorem dX10_person_48 : decode cX10_person 48 = .ok (.aload_n 0, 1) := by decide +kernel
theorem dX10_person_49 : decode cX10_person 49 = .ok (.iload_n 1, 1) := by decide +kernel
theorem dX10_person_50 : decode cX10_person 50 = .ok (.iload_n 2, 1) := by decide +kernel
theorem dX10_person_51 : decode cX10_person 51 = .ok (.iload_n 3, 1) := by decide +kernel
theorem dX10_person_52 : decode cX10_person 52 = .ok (.iconst 0, 1) := by decide +kernel
theorem dX10_person_53 : decode cX10_person 53 = .ok (.invokevirtual 88, 3) := by decide +kernel
theorem dX10_person_56 : decode cX10_person 56 = .ok (.ireturn, 1) := by decide +kernel
theorem dX10_setsTo_0 : decode cX10_setsTo 0 = .ok (.aload_n 0, 1) := by decide +kernel
theorem dX10_setsTo_1 : decode cX10_setsTo 1 = .ok (.iconst 0, 1) := by decide +kernel
theorem dX10_setsTo_2 : decode cX10_setsTo 2 = .ok (.invokevirtual 92, 3) := by decide +kernel
theorem dX10_setsTo_5 : decode cX10_setsTo 5 = .ok (.istore_n 2, 1) := by decide +kernel
theorem dX10_setsTo_6 : decode cX10_setsTo 6 = .ok (.aload_n 0, 1) := by decide +kernel
theorem dX10_setsTo_7 : decode cX10_setsTo 7 = .ok (.getfield 48, 3) := by decide +kernel
theorem dX10_setsTo_10 : decode cX10_setsTo 10 = .ok (.iconst 0, 1) := by decide +kernel
theorem dX10_setsTo_11 : decode cX10_setsTo 11 = .ok (.aload_n 0, 1) := by decide +kernel
theorem dX10_setsTo_12 : decode cX10_setsTo 12 = .ok (.iload_n 1, 1) := by decide +kernel
theorem dX10_setsTo_13 : decode cX10_setsTo 13 = .ok (.iconst 4, 1) := by decide +kernel
theorem dX10_setsTo_14 : decode cX10_setsTo 14 = .ok (.invokevirtual 96, 3) := by decide +kernel
theorem dX10_setsTo_17 : decode cX10_setsTo 17 = .ok (.iastore, 1) := by decide +kernel
theorem dX10_setsTo_18 : decode cX10_setsTo 18 = .ok (.aload_n 0, 1) := by decide +kernel
theorem dX10_setsTo_19 : decode cX10_setsTo 19 = .ok (.getfield 48, 3) := by decide +kernel
theorem dX10_setsTo_22 : decode cX10_setsTo 22 = .ok (.iconst 1, 1) := by decide +kernel
theorem dX10_setsTo_23 : decode cX10_setsTo 23 = .ok (.aload_n 0, 1) := by decide +kernel
theorem dX10_setsTo_24 : decode cX10_setsTo 24 = .ok (.iload_n 1, 1) := by decide +kernel
theorem dX10_setsTo_25 : decode cX10_setsTo 25 = .ok (.iconst 5, 1) := by decide +kernel
theorem dX10_setsTo_26 : decode cX10_setsTo 26 = .ok (.invokevirtual 96, 3) := by decide +kernel
theorem dX10_setsTo_29 : decode cX10_setsTo 29 = .ok (.iastore, 1) := by decide +kernel
theorem dX10_setsTo_30 : decode cX10_setsTo 30 = .ok (.aload_n 0, 1) := by decide +kernel
theorem dX10_setsTo_31 : decode cX10_setsTo 31 = .ok (.getfield 48, 3) := by decide +kernel
theorem dX10_setsTo_34 : decode cX10_setsTo 34 = .ok (.iconst 2, 1) := by decide +kernel
theorem dX10_setsTo_35 : decode cX10_setsTo 35 = .ok (.aload_n 0, 1) := by decide +kernel
theorem dX10_setsTo_36 : decode cX10_setsTo 36 = .ok (.iload_n 1, 1) := by decide +kernel
theorem dX10_setsTo_37 : decode cX10_setsTo 37 = .ok (.iconst 1, 1) := by decide +kernel
theorem dX10_setsTo_38 : decode cX10_setsTo 38 = .ok (.invokevirtual 96, 3) := by decide +kernel
theorem dX10_setsTo_41 : decode cX10_setsTo 41 = .ok (.iastore, 1) := by decide +kernel
theorem dX10_setsTo_42 : decode cX10_setsTo 42 = .ok (.iload_n 2, 1) := by decide +kernel
theorem dX10_setsTo_43 : decode cX10_setsTo 43 = .ok (.ifCond .ge 21, 3) := by decide +kernel
theorem dX10_setsTo_46 : decode cX10_setsTo 46 = .ok (.aload_n 0, 1) := by decide +kernel
theorem dX10_setsTo_47 : decode cX10_setsTo 47 = .ok (.iload_n 1, 1) := by decide +kernel
theorem dX10_setsTo_48 : decode cX10_setsTo 48 = .ok (.iconst 4, 1) := by decide +kernel
theorem dX10_setsTo_49 : decode cX10_setsTo 49 = .ok (.invokevirtual 96, 3) := by decide +kernel
theorem dX10_setsTo_52 : decode cX10_setsTo 52 = .ok (.aload_n 0, 1) := by decide +kernel
theorem dX10_setsTo_53 : decode cX10_setsTo 53 = .ok (.iload_n 1, 1) := by decide +kernel
theorem dX10_setsTo_54 : decode cX10_setsTo 54 = .ok (.iconst 5, 1) := by decide +kernel
theorem dX10_setsTo_55 : decode cX10_setsTo 55 = .ok (.invokevirtual 96, 3) := by decide +kernel
theorem dX10_setsTo_58 : decode cX10_setsTo 58 = .ok (.iadd, 1) := by decide +kernel
theorem dX10_setsTo_59 : decode cX10_setsTo 59 = .ok (.iconst 2, 1) := by decide +kernel
theorem dX10_setsTo_60 : decode cX10_setsTo 60 = .ok (.idiv, 1) := by decide +kernel
theorem dX10_setsTo_61 : decode cX10_setsTo 61 = .ok (.goto 14, 3) := by decide +kernel
theorem dX10_setsTo_64 : decode cX10_setsTo 64 = .ok (.aload_n 0, 1) := by decide +kernel
theorem dX10_setsTo_65 : decode cX10_setsTo 65 = .ok (.iload_n 2, 1) := by decide +kernel
theorem dX10_setsTo_66 : decode cX10_setsTo 66 = .ok (.invokevirtual 100, 3) := by decide +kernel
theorem dX10_setsTo_69 : decode cX10_setsTo 69 = .ok (.iconst 0, 1) := by decide +kernel
theorem dX10_setsTo_70 : decode cX10_setsTo 70 = .ok (.bipush 99, 2) := by decide +kernel
theorem dX10_setsTo_72 : decode cX10_setsTo 72 = .ok (.invokestatic 103, 3) := by decide +kernel
theorem dX10_setsTo_75 : decode cX10_setsTo 75 = .ok (.istore_n 3, 1) := by decide +kernel
theorem dX10_setsTo_76 : decode cX10_setsTo 76 = .ok (.iload_n 3, 1) := by decide +kernel
theorem dX10_setsTo_77 : decode cX10_setsTo 77 = .ok (.aload_n 0, 1) := by decide +kernel
theorem dX10_setsTo_78 : decode cX10_setsTo 78 = .ok (.iload_n 1, 1) := by decide +kernel
theorem dX10_setsTo_79 : decode cX10_setsTo 79 = .ok (.iconst 3, 1) := by decide +kernel
theorem dX10_setsTo_80 : decode cX10_setsTo 80 = .ok (.invokevirtual 96, 3) := by decide +kernel
theorem dX10_setsTo_83 : decode cX10_setsTo 83 = .ok (.iadd, 1) := by decide +kernel
theorem dX10_setsTo_84 : decode cX10_setsTo 84 = .ok (.iconst 0, 1) := by decide +kernel
theorem dX10_setsTo_85 : decode cX10_setsTo 85 = .ok (.bipush 99, 2) := by decide +kernel
theorem dX10_setsTo_87 : decode cX10_setsTo 87 = .ok (.invokestatic 103, 3) := by decide +kernel
theorem dX10_setsTo_90 : decode cX10_setsTo 90 = .ok (.istore 4, 2) := by decide +kernel
theorem dX10_setsTo_92 : decode cX10_setsTo 92 = .ok (.aload_n 0, 1) := by decide +kernel
theorem dX10_setsTo_93 : decode cX10_setsTo 93 = .ok (.iload_n 1, 1) := by decide +kernel
theorem dX10_setsTo_94 : decode cX10_setsTo 94 = .ok (.iconst 0, 1) := by decide +kernel
theorem dX10_setsTo_95 : decode cX10_setsTo 95 = .ok (.invokevirtual 96, 3) := by decide +kernel
theorem dX10_setsTo_98 : decode cX10_setsTo 98 = .ok (.tableswitch 84 1 5 #[34, 45, 48, 55, 71], 34) := by decide +kernel
theorem dX10_setsTo_132 : decode cX10_setsTo 132 = .ok (.aload_n 0, 1) := by decide +kernel
theorem dX10_setsTo_133 : decode cX10_setsTo 133 = .ok (.iload_n 1, 1) := by decide +kernel
theorem dX10_setsTo_134 : decode cX10_setsTo 134 = .ok (.iconst 1, 1) := by decide +kernel
theorem dX10_setsTo_135 : decode cX10_setsTo 135 = .ok (.invokevirtual 96, 3) := by decide +kernel
theorem dX10_setsTo_138 : decode cX10_setsTo 138 = .ok (.iload_n 3, 1) := by decide +kernel
theorem dX10_setsTo_139 : decode cX10_setsTo 139 = .ok (.iadd, 1) := by decide +kernel
theorem dX10_setsTo_140 : decode cX10_setsTo 140 = .ok (.iconst 2, 1) := by decide +kernel
theorem dX10_setsTo_141 : decode cX10_setsTo 141 = .ok (.idiv, 1) := by decide +kernel
theorem dX10_setsTo_142 : decode cX10_setsTo 142 = .ok (.ireturn, 1) := by decide +kernel
theorem dX10_setsTo_143 : decode cX10_setsTo 143 = .ok (.iload 4, 2) := by decide +kernel
theorem dX10_setsTo_145 : decode cX10_setsTo 145 = .ok (.ireturn, 1) := by decide +kernel
theorem dX10_setsTo_146 : decode cX10_setsTo 146 = .ok (.aload_n 0, 1) := by decide +kernel
theorem dX10_setsTo_147 : decode cX10_setsTo 147 = .ok (.iload_n 1, 1) := by decide +kernel
theorem dX10_setsTo_148 : decode cX10_setsTo 148 = .ok (.iconst 1, 1) := by decide +kernel
theorem dX10_setsTo_149 : decode cX10_setsTo 149 = .ok (.invokevirtual 96, 3) := by decide +kernel
theorem dX10_setsTo_152 : decode cX10_setsTo 152 = .ok (.ireturn, 1) := by decide +kernel
theorem dX10_setsTo_153 : decode cX10_setsTo 153 = .ok (.iload 4, 2) := by decide +kernel
theorem dX10_setsTo_155 : decode cX10_setsTo 155 = .ok (.aload_n 0, 1) := by decide +kernel
theorem dX10_setsTo_156 : decode cX10_setsTo 156 = .ok (.iload_n 1, 1) := by decide +kernel
theorem dX10_setsTo_157 : decode cX10_setsTo 157 = .ok (.iconst 3, 1) := by decide +kernel
theorem dX10_setsTo_158 : decode cX10_setsTo 158 = .ok (.invokevirtual 96, 3) := by decide +kernel
theorem dX10_setsTo_161 : decode cX10_setsTo 161 = .ok (.iadd, 1) := by decide +kernel
theorem dX10_setsTo_162 : decode cX10_setsTo 162 = .ok (.iconst 0, 1) := by decide +kernel
theorem dX10_setsTo_163 : decode cX10_setsTo 163 = .ok (.bipush 99, 2) := by decide +kernel
theorem dX10_setsTo_165 : decode cX10_setsTo 165 = .ok (.invokestatic 103, 3) := by decide +kernel
theorem dX10_setsTo_168 : decode cX10_setsTo 168 = .ok (.ireturn, 1) := by decide +kernel
theorem dX10_setsTo_169 : decode cX10_setsTo 169 = .ok (.iload_n 3, 1) := by decide +kernel
theorem dX10_setsTo_170 : decode cX10_setsTo 170 = .ok (.bipush 50, 2) := by decide +kernel
theorem dX10_setsTo_172 : decode cX10_setsTo 172 = .ok (.if_icmp .lt 7, 3) := by decide +kernel
theorem dX10_setsTo_175 : decode cX10_setsTo 175 = .ok (.iconst 0, 1) := by decide +kernel
theorem dX10_setsTo_176 : decode cX10_setsTo 176 = .ok (.goto 5, 3) := by decide +kernel
theorem dX10_setsTo_179 : decode cX10_setsTo 179 = .ok (.bipush 99, 2) := by decide +kernel
theorem dX10_setsTo_181 : decode cX10_setsTo 181 = .ok (.ireturn, 1) := by decide +kernel
theorem dX10_setsTo_182 : decode cX10_setsTo 182 = .ok (.iload_n 3, 1) := by decide +kernel
theorem dX10_setsTo_183 : decode cX10_setsTo 183 = .ok (.ireturn, 1) := by decide +kernel
theorem dX10_worthOf_0 : decode cX10_worthOf 0 = .ok (.aload_n 0, 1) := by decide +kernel
theorem dX10_worthOf_1 : decode cX10_worthOf 1 = .ok (.iload_n 1, 1) := by decide +kernel
theorem dX10_worthOf_2 : decode cX10_worthOf 2 = .ok (.iconst 2, 1) := by decide +kernel
theorem dX10_worthOf_3 : decode cX10_worthOf 3 = .ok (.invokevirtual 96, 3) := by decide +kernel
theorem dX10_worthOf_6 : decode cX10_worthOf 6 = .ok (.istore_n 2, 1) := by decide +kernel
theorem dX10_worthOf_7 : decode cX10_worthOf 7 = .ok (.aload_n 0, 1) := by decide +kernel
theorem dX10_worthOf_8 : decode cX10_worthOf 8 = .ok (.iload_n 1, 1) := by decide +kernel
theorem dX10_worthOf_9 : decode cX10_worthOf 9 = .ok (.iconst 0, 1) := by decide +kernel
theorem dX10_worthOf_10 : decode cX10_worthOf 10 = .ok (.invokevirtual 96, 3) := by decide +kernel
theorem dX10_worthOf_13 : decode cX10_worthOf 13 = .ok (.tableswitch 69 1 5 #[35, 40, 50, 57, 67], 35) := by decide +kernel
theorem dX10_worthOf_48 : decode cX10_worthOf 48 = .ok (.iload_n 2, 1) := by decide +kernel
theorem dX10_worthOf_49 : decode cX10_worthOf 49 = .ok (.bipush 10, 2) := by decide +kernel
theorem dX10_worthOf_51 : decode cX10_worthOf 51 = .ok (.iadd, 1) := by decide +kernel
theorem dX10_worthOf_52 : decode cX10_worthOf 52 = .ok (.ireturn, 1) := by decide +kernel
theorem dX10_worthOf_53 : decode cX10_worthOf 53 = .ok (.bipush 50, 2) := by decide +kernel
theorem dX10_worthOf_55 : decode cX10_worthOf 55 = .ok (.aload_n 0, 1) := by decide +kernel
theorem dX10_worthOf_56 : decode cX10_worthOf 56 = .ok (.iload_n 1, 1) := by decide +kernel
theorem dX10_worthOf_57 : decode cX10_worthOf 57 = .ok (.iconst 3, 1) := by decide +kernel
theorem dX10_worthOf_58 : decode cX10_worthOf 58 = .ok (.invokevirtual 96, 3) := by decide +kernel
theorem dX10_worthOf_61 : decode cX10_worthOf 61 = .ok (.isub, 1) := by decide +kernel
theorem dX10_worthOf_62 : decode cX10_worthOf 62 = .ok (.ireturn, 1) := by decide +kernel
theorem dX10_worthOf_63 : decode cX10_worthOf 63 = .ok (.iconst 2, 1) := by decide +kernel
theorem dX10_worthOf_64 : decode cX10_worthOf 64 = .ok (.iload_n 2, 1) := by decide +kernel
theorem dX10_worthOf_65 : decode cX10_worthOf 65 = .ok (.bipush 10, 2) := by decide +kernel
theorem dX10_worthOf_67 : decode cX10_worthOf 67 = .ok (.iadd, 1) := by decide +kernel
theorem dX10_worthOf_68 : decode cX10_worthOf 68 = .ok (.imul, 1) := by decide +kernel
theorem dX10_worthOf_69 : decode cX10_worthOf 69 = .ok (.ireturn, 1) := by decide +kernel
theorem dX10_worthOf_70 : decode cX10_worthOf 70 = .ok (.bipush 47, 2) := by decide +kernel
theorem dX10_worthOf_72 : decode cX10_worthOf 72 = .ok (.aload_n 0, 1) := by decide +kernel
theorem dX10_worthOf_73 : decode cX10_worthOf 73 = .ok (.iload_n 1, 1) := by decide +kernel
theorem dX10_worthOf_74 : decode cX10_worthOf 74 = .ok (.iconst 3, 1) := by decide +kernel
theorem dX10_worthOf_75 : decode cX10_worthOf 75 = .ok (.invokevirtual 96, 3) := by decide +kernel
theorem dX10_worthOf_78 : decode cX10_worthOf 78 = .ok (.isub, 1) := by decide +kernel
theorem dX10_worthOf_79 : decode cX10_worthOf 79 = .ok (.ireturn, 1) := by decide +kernel
theorem dX10_worthOf_80 : decode cX10_worthOf 80 = .ok (.iconst 1, 1) := by decide +kernel
theorem dX10_worthOf_81 : decode cX10_worthOf 81 = .ok (.ireturn, 1) := by decide +kernel
theorem dX10_worthOf_82 : decode cX10_worthOf 82 = .ok (.iload_n 2, 1) := by decide +kernel
theorem dX10_worthOf_83 : decode cX10_worthOf 83 = .ok (.ireturn, 1) := by decide +kernel
theorem dX10_told_0 : decode cX10_told 0 = .ok (.aload_n 0, 1) := by decide +kernel
theorem dX10_told_1 : decode cX10_told 1 = .ok (.iload_n 1, 1) := by decide +kernel
theorem dX10_told_2 : decode cX10_told 2 = .ok (.invokevirtual 107, 3) := by decide +kernel
theorem dX10_told_5 : decode cX10_told 5 = .ok (.ifCond .eq 13, 3) := by decide +kernel
theorem dX10_told_8 : decode cX10_told 8 = .ok (.iload_n 2, 1) := by decide +kernel
theorem dX10_told_9 : decode cX10_told 9 = .ok (.iconst 0, 1) := by decide +kernel
theorem dX10_told_10 : decode cX10_told 10 = .ok (.bipush 8, 2) := by decide +kernel
theorem dX10_told_12 : decode cX10_told 12 = .ok (.invokestatic 78, 3) := by decide +kernel
theorem dX10_told_15 : decode cX10_told 15 = .ok (.ifCond .ne 6, 3) := by decide +kernel
theorem dX10_told_18 : decode cX10_told 18 = .ok (.ldc 86, 2) := by decide +kernel
theorem dX10_told_20 : decode cX10_told 20 = .ok (.ireturn, 1) := by decide +kernel
theorem dX10_told_21 : decode cX10_told 21 = .ok (.iload_n 2, 1) := by decide +kernel
theorem dX10_told_22 : decode cX10_told 22 = .ok (.bipush 7, 2) := by decide +kernel
theorem dX10_told_24 : decode cX10_told 24 = .ok (.if_icmp .ge 12, 3) := by decide +kernel
theorem dX10_told_27 : decode cX10_told 27 = .ok (.aload_n 0, 1) := by decide +kernel
theorem dX10_told_28 : decode cX10_told 28 = .ok (.iload_n 1, 1) := by decide +kernel
theorem dX10_told_29 : decode cX10_told 29 = .ok (.iload_n 2, 1) := by decide +kernel
theorem dX10_told_30 : decode cX10_told 30 = .ok (.invokevirtual 96, 3) := by decide +kernel
theorem dX10_told_33 : decode cX10_told 33 = .ok (.goto 22, 3) := by decide +kernel
theorem dX10_told_36 : decode cX10_told 36 = .ok (.iload_n 2, 1) := by decide +kernel
theorem dX10_told_37 : decode cX10_told 37 = .ok (.bipush 7, 2) := by decide +kernel
theorem dX10_told_39 : decode cX10_told 39 = .ok (.if_icmp .ne 11, 3) := by decide +kernel
theorem dX10_told_42 : decode cX10_told 42 = .ok (.aload_n 0, 1) := by decide +kernel
theorem dX10_told_43 : decode cX10_told 43 = .ok (.iload_n 1, 1) := by decide +kernel
theorem dX10_told_44 : decode cX10_told 44 = .ok (.invokevirtual 111, 3) := by decide +kernel
theorem dX10_told_47 : decode cX10_told 47 = .ok (.goto 8, 3) := by decide +kernel
theorem dX10_told_50 : decode cX10_told 50 = .ok (.aload_n 0, 1) := by decide +kernel
theorem dX10_told_51 : decode cX10_told 51 = .ok (.iload_n 1, 1) := by decide +kernel
theorem dX10_told_52 : decode cX10_told 52 = .ok (.invokevirtual 114, 3) := by decide +kernel
theorem dX10_told_55 : decode cX10_told 55 = .ok (.ireturn, 1) := by decide +kernel
theorem dX10_isUnder_0 : decode cX10_isUnder 0 = .ok (.iload_n 1, 1) := by decide +kernel
theorem dX10_isUnder_1 : decode cX10_isUnder 1 = .ok (.ifCond .eq 28, 3) := by decide +kernel
theorem dX10_isUnder_4 : decode cX10_isUnder 4 = .ok (.iload_n 0, 1) := by decide +kernel
theorem dX10_isUnder_5 : decode cX10_isUnder 5 = .ok (.iload_n 1, 1) := by decide +kernel
theorem dX10_isUnder_6 : decode cX10_isUnder 6 = .ok (.if_icmp .eq 23, 3) := by decide +kernel
theorem dX10_isUnder_9 : decode cX10_isUnder 9 = .ok (.iload_n 1, 1) := by decide +kernel
theorem dX10_isUnder_10 : decode cX10_isUnder 10 = .ok (.iconst 1, 1) := by decide +kernel
theorem dX10_isUnder_11 : decode cX10_isUnder 11 = .ok (.if_icmp .ne 8, 3) := by decide +kernel
theorem dX10_isUnder_14 : decode cX10_isUnder 14 = .ok (.iload_n 0, 1) := by decide +kernel
theorem dX10_isUnder_15 : decode cX10_isUnder 15 = .ok (.iconst 3, 1) := by decide +kernel
theorem dX10_isUnder_16 : decode cX10_isUnder 16 = .ok (.if_icmp .eq 13, 3) := by decide +kernel
theorem dX10_isUnder_19 : decode cX10_isUnder 19 = .ok (.iload_n 1, 1) := by decide +kernel
theorem dX10_isUnder_20 : decode cX10_isUnder 20 = .ok (.iconst 2, 1) := by decide +kernel
theorem dX10_isUnder_21 : decode cX10_isUnder 21 = .ok (.if_icmp .ne 12, 3) := by decide +kernel
theorem dX10_isUnder_24 : decode cX10_isUnder 24 = .ok (.iload_n 0, 1) := by decide +kernel
theorem dX10_isUnder_25 : decode cX10_isUnder 25 = .ok (.iconst 4, 1) := by decide +kernel
theorem dX10_isUnder_26 : decode cX10_isUnder 26 = .ok (.if_icmp .ne 7, 3) := by decide +kernel
theorem dX10_isUnder_29 : decode cX10_isUnder 29 = .ok (.iconst 1, 1) := by decide +kernel
theorem dX10_isUnder_30 : decode cX10_isUnder 30 = .ok (.goto 4, 3) := by decide +kernel
theorem dX10_isUnder_33 : decode cX10_isUnder 33 = .ok (.iconst 0, 1) := by decide +kernel
theorem dX10_isUnder_34 : decode cX10_isUnder 34 = .ok (.ireturn, 1) := by decide +kernel
theorem dX10_as_0 : decode cX10_as 0 = .ok (.aload_n 0, 1) := by decide +kernel
theorem dX10_as_1 : decode cX10_as 1 = .ok (.iload_n 1, 1) := by decide +kernel
theorem dX10_as_2 : decode cX10_as 2 = .ok (.invokevirtual 107, 3) := by decide +kernel
theorem dX10_as_5 : decode cX10_as 5 = .ok (.ifCond .eq 12, 3) := by decide +kernel
theorem dX10_as_8 : decode cX10_as 8 = .ok (.iload_n 2, 1) := by decide +kernel
theorem dX10_as_9 : decode cX10_as 9 = .ok (.iconst 0, 1) := by decide +kernel
theorem dX10_as_10 : decode cX10_as 10 = .ok (.iconst 5, 1) := by decide +kernel
theorem dX10_as_11 : decode cX10_as 11 = .ok (.invokestatic 78, 3) := by decide +kernel
theorem dX10_as_14 : decode cX10_as 14 = .ok (.ifCond .ne 6, 3) := by decide +kernel
theorem dX10_as_17 : decode cX10_as 17 = .ok (.ldc 86, 2) := by decide +kernel
theorem dX10_as_19 : decode cX10_as 19 = .ok (.ireturn, 1) := by decide +kernel
theorem dX10_as_20 : decode cX10_as 20 = .ok (.aload_n 0, 1) := by decide +kernel
theorem dX10_as_21 : decode cX10_as 21 = .ok (.iload_n 1, 1) := by decide +kernel
theorem dX10_as_22 : decode cX10_as 22 = .ok (.iconst 0, 1) := by decide +kernel
theorem dX10_as_23 : decode cX10_as 23 = .ok (.invokevirtual 96, 3) := by decide +kernel
theorem dX10_as_26 : decode cX10_as 26 = .ok (.iload_n 2, 1) := by decide +kernel
theorem dX10_as_27 : decode cX10_as 27 = .ok (.invokestatic 117, 3) := by decide +kernel
theorem dX10_as_30 : decode cX10_as 30 = .ok (.ifCond .eq 12, 3) := by decide +kernel
theorem dX10_as_33 : decode cX10_as 33 = .ok (.aload_n 0, 1) := by decide +kernel
theorem dX10_as_34 : decode cX10_as 34 = .ok (.iload_n 1, 1) := by decide +kernel
theorem dX10_as_35 : decode cX10_as 35 = .ok (.iconst 1, 1) := by decide +kernel
theorem dX10_as_36 : decode cX10_as 36 = .ok (.invokevirtual 96, 3) := by decide +kernel
theorem dX10_as_39 : decode cX10_as 39 = .ok (.goto 5, 3) := by decide +kernel
theorem dX10_as_42 : decode cX10_as 42 = .ok (.ldc 121, 2) := by decide +kernel
theorem dX10_as_44 : decode cX10_as 44 = .ok (.ireturn, 1) := by decide +kernel
theorem dX10_turns_0 : decode cX10_turns 0 = .ok (.aload_n 0, 1) := by decide +kernel
theorem dX10_turns_1 : decode cX10_turns 1 = .ok (.iload_n 1, 1) := by decide +kernel
theorem dX10_turns_2 : decode cX10_turns 2 = .ok (.invokevirtual 107, 3) := by decide +kernel
theorem dX10_turns_5 : decode cX10_turns 5 = .ok (.ifCond .eq 27, 3) := by decide +kernel
theorem dX10_turns_8 : decode cX10_turns 8 = .ok (.iload_n 2, 1) := by decide +kernel
theorem dX10_turns_9 : decode cX10_turns 9 = .ok (.iconst 0, 1) := by decide +kernel
theorem dX10_turns_10 : decode cX10_turns 10 = .ok (.iconst 5, 1) := by decide +kernel
theorem dX10_turns_11 : decode cX10_turns 11 = .ok (.invokestatic 78, 3) := by decide +kernel
theorem dX10_turns_14 : decode cX10_turns 14 = .ok (.ifCond .eq 18, 3) := by decide +kernel
theorem dX10_turns_17 : decode cX10_turns 17 = .ok (.aload_n 0, 1) := by decide +kernel
theorem dX10_turns_18 : decode cX10_turns 18 = .ok (.bipush 9, 2) := by decide +kernel
theorem dX10_turns_20 : decode cX10_turns 20 = .ok (.bipush 7, 2) := by decide +kernel
theorem dX10_turns_22 : decode cX10_turns 22 = .ok (.iload_n 1, 1) := by decide +kernel
theorem dX10_turns_23 : decode cX10_turns 23 = .ok (.imul, 1) := by decide +kernel
theorem dX10_turns_24 : decode cX10_turns 24 = .ok (.iadd, 1) := by decide +kernel
theorem dX10_turns_25 : decode cX10_turns 25 = .ok (.iload_n 2, 1) := by decide +kernel
theorem dX10_turns_26 : decode cX10_turns 26 = .ok (.invokevirtual 122, 3) := by decide +kernel
theorem dX10_turns_29 : decode cX10_turns 29 = .ok (.goto 5, 3) := by decide +kernel
theorem dX10_turns_32 : decode cX10_turns 32 = .ok (.ldc 86, 2) := by decide +kernel
theorem dX10_turns_34 : decode cX10_turns 34 = .ok (.ireturn, 1) := by decide +kernel
theorem dX10_leastOf_0 : decode cX10_leastOf 0 = .ok (.iload_n 0, 1) := by decide +kernel
theorem dX10_leastOf_1 : decode cX10_leastOf 1 = .ok (.iconst 2, 1) := by decide +kernel
theorem dX10_leastOf_2 : decode cX10_leastOf 2 = .ok (.if_icmp .ne 7, 3) := by decide +kernel
theorem dX10_leastOf_5 : decode cX10_leastOf 5 = .ok (.iconst 1, 1) := by decide +kernel
theorem dX10_leastOf_6 : decode cX10_leastOf 6 = .ok (.goto 14, 3) := by decide +kernel
theorem dX10_leastOf_9 : decode cX10_leastOf 9 = .ok (.iload_n 0, 1) := by decide +kernel
theorem dX10_leastOf_10 : decode cX10_leastOf 10 = .ok (.iconst 3, 1) := by decide +kernel
theorem dX10_leastOf_11 : decode cX10_leastOf 11 = .ok (.if_icmp .ne 8, 3) := by decide +kernel
theorem dX10_leastOf_14 : decode cX10_leastOf 14 = .ok (.bipush (-20), 2) := by decide +kernel
theorem dX10_leastOf_16 : decode cX10_leastOf 16 = .ok (.goto 4, 3) := by decide +kernel
theorem dX10_leastOf_19 : decode cX10_leastOf 19 = .ok (.iconst 0, 1) := by decide +kernel
theorem dX10_leastOf_20 : decode cX10_leastOf 20 = .ok (.ireturn, 1) := by decide +kernel
theorem dX10_mostOf_0 : decode cX10_mostOf 0 = .ok (.iload_n 0, 1) := by decide +kernel
theorem dX10_mostOf_1 : decode cX10_mostOf 1 = .ok (.iconst 1, 1) := by decide +kernel
theorem dX10_mostOf_2 : decode cX10_mostOf 2 = .ok (.if_icmp .ne 8, 3) := by decide +kernel
theorem dX10_mostOf_5 : decode cX10_mostOf 5 = .ok (.bipush 99, 2) := by decide +kernel
theorem dX10_mostOf_7 : decode cX10_mostOf 7 = .ok (.goto 24, 3) := by decide +kernel
theorem dX10_mostOf_10 : decode cX10_mostOf 10 = .ok (.iload_n 0, 1) := by decide +kernel
theorem dX10_mostOf_11 : decode cX10_mostOf 11 = .ok (.iconst 2, 1) := by decide +kernel
theorem dX10_mostOf_12 : decode cX10_mostOf 12 = .ok (.if_icmp .ne 8, 3) := by decide +kernel
theorem dX10_mostOf_15 : decode cX10_mostOf 15 = .ok (.bipush 9, 2) := by decide +kernel
theorem dX10_mostOf_17 : decode cX10_mostOf 17 = .ok (.goto 14, 3) := by decide +kernel
theorem dX10_mostOf_20 : decode cX10_mostOf 20 = .ok (.iload_n 0, 1) := by decide +kernel
theorem dX10_mostOf_21 : decode cX10_mostOf 21 = .ok (.iconst 3, 1) := by decide +kernel
theorem dX10_mostOf_22 : decode cX10_mostOf 22 = .ok (.if_icmp .ne 8, 3) := by decide +kernel
theorem dX10_mostOf_25 : decode cX10_mostOf 25 = .ok (.bipush 20, 2) := by decide +kernel
theorem dX10_mostOf_27 : decode cX10_mostOf 27 = .ok (.goto 4, 3) := by decide +kernel
theorem dX10_mostOf_30 : decode cX10_mostOf 30 = .ok (.iconst 1, 1) := by decide +kernel
theorem dX10_mostOf_31 : decode cX10_mostOf 31 = .ok (.ireturn, 1) := by decide +kernel
theorem dX10_set_0 : decode cX10_set 0 = .ok (.aload_n 0, 1) := by decide +kernel
theorem dX10_set_1 : decode cX10_set 1 = .ok (.iload_n 1, 1) := by decide +kernel
theorem dX10_set_2 : decode cX10_set 2 = .ok (.invokevirtual 107, 3) := by decide +kernel
theorem dX10_set_5 : decode cX10_set 5 = .ok (.ifCond .eq 33, 3) := by decide +kernel
theorem dX10_set_8 : decode cX10_set 8 = .ok (.iload_n 2, 1) := by decide +kernel
theorem dX10_set_9 : decode cX10_set 9 = .ok (.iconst 1, 1) := by decide +kernel
theorem dX10_set_10 : decode cX10_set 10 = .ok (.iconst 3, 1) := by decide +kernel
theorem dX10_set_11 : decode cX10_set 11 = .ok (.invokestatic 78, 3) := by decide +kernel
theorem dX10_set_14 : decode cX10_set 14 = .ok (.ifCond .ne 9, 3) := by decide +kernel
theorem dX10_set_17 : decode cX10_set 17 = .ok (.iload_n 2, 1) := by decide +kernel
theorem dX10_set_18 : decode cX10_set 18 = .ok (.bipush 6, 2) := by decide +kernel
theorem dX10_set_20 : decode cX10_set 20 = .ok (.if_icmp .ne 18, 3) := by decide +kernel
theorem dX10_set_23 : decode cX10_set 23 = .ok (.iload_n 3, 1) := by decide +kernel
theorem dX10_set_24 : decode cX10_set 24 = .ok (.iload_n 2, 1) := by decide +kernel
theorem dX10_set_25 : decode cX10_set 25 = .ok (.invokestatic 125, 3) := by decide +kernel
theorem dX10_set_28 : decode cX10_set 28 = .ok (.iload_n 2, 1) := by decide +kernel
theorem dX10_set_29 : decode cX10_set 29 = .ok (.invokestatic 128, 3) := by decide +kernel
theorem dX10_set_32 : decode cX10_set 32 = .ok (.invokestatic 78, 3) := by decide +kernel
theorem dX10_set_35 : decode cX10_set 35 = .ok (.ifCond .ne 6, 3) := by decide +kernel
theorem dX10_set_38 : decode cX10_set 38 = .ok (.ldc 86, 2) := by decide +kernel
theorem dX10_set_40 : decode cX10_set 40 = .ok (.ireturn, 1) := by decide +kernel
theorem dX10_set_41 : decode cX10_set 41 = .ok (.aload_n 0, 1) := by decide +kernel
theorem dX10_set_42 : decode cX10_set 42 = .ok (.bipush 9, 2) := by decide +kernel
theorem dX10_set_44 : decode cX10_set 44 = .ok (.bipush 7, 2) := by decide +kernel
theorem dX10_set_46 : decode cX10_set 46 = .ok (.iload_n 1, 1) := by decide +kernel
theorem dX10_set_47 : decode cX10_set 47 = .ok (.imul, 1) := by decide +kernel
theorem dX10_set_48 : decode cX10_set 48 = .ok (.iadd, 1) := by decide +kernel
theorem dX10_set_49 : decode cX10_set 49 = .ok (.iload_n 2, 1) := by decide +kernel
theorem dX10_set_50 : decode cX10_set 50 = .ok (.iadd, 1) := by decide +kernel
theorem dX10_set_51 : decode cX10_set 51 = .ok (.iload_n 3, 1) := by decide +kernel
theorem dX10_set_52 : decode cX10_set 52 = .ok (.invokevirtual 122, 3) := by decide +kernel
theorem dX10_set_55 : decode cX10_set 55 = .ok (.ireturn, 1) := by decide +kernel
theorem dX10_believesAll_0 : decode cX10_believesAll 0 = .ok (.aload_n 0, 1) := by decide +kernel
theorem dX10_believesAll_1 : decode cX10_believesAll 1 = .ok (.iload_n 1, 1) := by decide +kernel
theorem dX10_believesAll_2 : decode cX10_believesAll 2 = .ok (.iconst 4, 1) := by decide +kernel
theorem dX10_believesAll_3 : decode cX10_believesAll 3 = .ok (.iconst 0, 1) := by decide +kernel
theorem dX10_believesAll_4 : decode cX10_believesAll 4 = .ok (.invokevirtual 82, 3) := by decide +kernel
theorem dX10_believesAll_7 : decode cX10_believesAll 7 = .ok (.aload_n 0, 1) := by decide +kernel
theorem dX10_believesAll_8 : decode cX10_believesAll 8 = .ok (.iload_n 1, 1) := by decide +kernel
theorem dX10_believesAll_9 : decode cX10_believesAll 9 = .ok (.iconst 5, 1) := by decide +kernel
theorem dX10_believesAll_10 : decode cX10_believesAll 10 = .ok (.bipush 99, 2) := by decide +kernel
theorem dX10_believesAll_12 : decode cX10_believesAll 12 = .ok (.invokevirtual 82, 3) := by decide +kernel
theorem dX10_believesAll_15 : decode cX10_believesAll 15 = .ok (.return_, 1) := by decide +kernel
theorem dX10_forget_0 : decode cX10_forget 0 = .ok (.iconst 0, 1) := by decide +kernel
theorem dX10_forget_1 : decode cX10_forget 1 = .ok (.istore_n 1, 1) := by decide +kernel
theorem dX10_forget_2 : decode cX10_forget 2 = .ok (.iconst 0, 1) := by decide +kernel
theorem dX10_forget_3 : decode cX10_forget 3 = .ok (.istore_n 2, 1) := by decide +kernel
theorem dX10_forget_4 : decode cX10_forget 4 = .ok (.iload_n 2, 1) := by decide +kernel
theorem dX10_forget_5 : decode cX10_forget 5 = .ok (.aload_n 0, 1) := by decide +kernel
theorem dX10_forget_6 : decode cX10_forget 6 = .ok (.getfield 9, 3) := by decide +kernel
theorem dX10_forget_9 : decode cX10_forget 9 = .ok (.iconst 1, 1) := by decide +kernel
theorem dX10_forget_10 : decode cX10_forget 10 = .ok (.iaload, 1) := by decide +kernel
theorem dX10_forget_11 : decode cX10_forget 11 = .ok (.if_icmp .ge 42, 3) := by decide +kernel
theorem dX10_forget_14 : decode cX10_forget 14 = .ok (.iload_n 1, 1) := by decide +kernel
theorem dX10_forget_15 : decode cX10_forget 15 = .ok (.aload_n 0, 1) := by decide +kernel
theorem dX10_forget_16 : decode cX10_forget 16 = .ok (.iload_n 2, 1) := by decide +kernel
theorem dX10_forget_17 : decode cX10_forget 17 = .ok (.iconst 4, 1) := by decide +kernel
theorem dX10_forget_18 : decode cX10_forget 18 = .ok (.invokevirtual 96, 3) := by decide +kernel
theorem dX10_forget_21 : decode cX10_forget 21 = .ok (.ifCond .ne 14, 3) := by decide +kernel
theorem dX10_forget_24 : decode cX10_forget 24 = .ok (.aload_n 0, 1) := by decide +kernel
theorem dX10_forget_25 : decode cX10_forget 25 = .ok (.iload_n 2, 1) := by decide +kernel
theorem dX10_forget_26 : decode cX10_forget 26 = .ok (.iconst 5, 1) := by decide +kernel
theorem dX10_forget_27 : decode cX10_forget 27 = .ok (.invokevirtual 96, 3) := by decide +kernel
theorem dX10_forget_30 : decode cX10_forget 30 = .ok (.bipush 99, 2) := by decide +kernel
theorem dX10_forget_32 : decode cX10_forget 32 = .ok (.if_icmp .eq 7, 3) := by decide +kernel
theorem dX10_forget_35 : decode cX10_forget 35 = .ok (.iconst 1, 1) := by decide +kernel
theorem dX10_forget_36 : decode cX10_forget 36 = .ok (.goto 4, 3) := by decide +kernel
theorem dX10_forget_39 : decode cX10_forget 39 = .ok (.iconst 0, 1) := by decide +kernel
theorem dX10_forget_40 : decode cX10_forget 40 = .ok (.iadd, 1) := by decide +kernel
theorem dX10_forget_41 : decode cX10_forget 41 = .ok (.istore_n 1, 1) := by decide +kernel
theorem dX10_forget_42 : decode cX10_forget 42 = .ok (.aload_n 0, 1) := by decide +kernel
theorem dX10_forget_43 : decode cX10_forget 43 = .ok (.iload_n 2, 1) := by decide +kernel
theorem dX10_forget_44 : decode cX10_forget 44 = .ok (.invokevirtual 131, 3) := by decide +kernel
theorem dX10_forget_47 : decode cX10_forget 47 = .ok (.iinc 2 1, 3) := by decide +kernel
theorem dX10_forget_50 : decode cX10_forget 50 = .ok (.goto (-46), 3) := by decide +kernel
theorem dX10_forget_53 : decode cX10_forget 53 = .ok (.iload_n 1, 1) := by decide +kernel
theorem dX10_forget_54 : decode cX10_forget 54 = .ok (.ireturn, 1) := by decide +kernel
theorem dX10_draw_0 : decode cX10_draw 0 = .ok (.aload_n 0, 1) := by decide +kernel
theorem dX10_draw_1 : decode cX10_draw 1 = .ok (.getfield 9, 3) := by decide +kernel
theorem dX10_draw_4 : decode cX10_draw 4 = .ok (.iconst 0, 1) := by decide +kernel
theorem dX10_draw_5 : decode cX10_draw 5 = .ok (.aload_n 0, 1) := by decide +kernel
theorem dX10_draw_6 : decode cX10_draw 6 = .ok (.getfield 9, 3) := by decide +kernel
theorem dX10_draw_9 : decode cX10_draw 9 = .ok (.iconst 0, 1) := by decide +kernel
theorem dX10_draw_10 : decode cX10_draw 10 = .ok (.iaload, 1) := by decide +kernel
theorem dX10_draw_11 : decode cX10_draw 11 = .ok (.ldc 135, 2) := by decide +kernel
theorem dX10_draw_13 : decode cX10_draw 13 = .ok (.imul, 1) := by decide +kernel
theorem dX10_draw_14 : decode cX10_draw 14 = .ok (.sipush 12345, 3) := by decide +kernel
theorem dX10_draw_17 : decode cX10_draw 17 = .ok (.iadd, 1) := by decide +kernel
theorem dX10_draw_18 : decode cX10_draw 18 = .ok (.iastore, 1) := by decide +kernel
theorem dX10_draw_19 : decode cX10_draw 19 = .ok (.aload_n 0, 1) := by decide +kernel
theorem dX10_draw_20 : decode cX10_draw 20 = .ok (.getfield 9, 3) := by decide +kernel
theorem dX10_draw_23 : decode cX10_draw 23 = .ok (.iconst 0, 1) := by decide +kernel
theorem dX10_draw_24 : decode cX10_draw 24 = .ok (.iaload, 1) := by decide +kernel
theorem dX10_draw_25 : decode cX10_draw 25 = .ok (.bipush 8, 2) := by decide +kernel
theorem dX10_draw_27 : decode cX10_draw 27 = .ok (.iushr, 1) := by decide +kernel
theorem dX10_draw_28 : decode cX10_draw 28 = .ok (.ireturn, 1) := by decide +kernel
theorem dX10_deal_0 : decode cX10_deal 0 = .ok (.iload_n 1, 1) := by decide +kernel
theorem dX10_deal_1 : decode cX10_deal 1 = .ok (.iconst 1, 1) := by decide +kernel
theorem dX10_deal_2 : decode cX10_deal 2 = .ok (.bipush 8, 2) := by decide +kernel
theorem dX10_deal_4 : decode cX10_deal 4 = .ok (.invokestatic 78, 3) := by decide +kernel
theorem dX10_deal_7 : decode cX10_deal 7 = .ok (.ifCond .ne 6, 3) := by decide +kernel
theorem dX10_deal_10 : decode cX10_deal 10 = .ok (.ldc 86, 2) := by decide +kernel
theorem dX10_deal_12 : decode cX10_deal 12 = .ok (.ireturn, 1) := by decide +kernel
theorem dX10_deal_13 : decode cX10_deal 13 = .ok (.iconst 0, 1) := by decide +kernel
theorem dX10_deal_14 : decode cX10_deal 14 = .ok (.istore_n 2, 1) := by decide +kernel
theorem dX10_deal_15 : decode cX10_deal 15 = .ok (.iload_n 2, 1) := by decide +kernel
theorem dX10_deal_16 : decode cX10_deal 16 = .ok (.iload_n 1, 1) := by decide +kernel
theorem dX10_deal_17 : decode cX10_deal 17 = .ok (.if_icmp .ge 68, 3) := by decide +kernel
theorem dX10_deal_20 : decode cX10_deal 20 = .ok (.aload_n 0, 1) := by decide +kernel
theorem dX10_deal_21 : decode cX10_deal 21 = .ok (.getfield 9, 3) := by decide +kernel
theorem dX10_deal_24 : decode cX10_deal 24 = .ok (.iconst 1, 1) := by decide +kernel
theorem dX10_deal_25 : decode cX10_deal 25 = .ok (.iaload, 1) := by decide +kernel
theorem dX10_deal_26 : decode cX10_deal 26 = .ok (.bipush 8, 2) := by decide +kernel
theorem dX10_deal_28 : decode cX10_deal 28 = .ok (.if_icmp .ge 57, 3) := by decide +kernel
theorem dX10_deal_31 : decode cX10_deal 31 = .ok (.aload_n 0, 1) := by decide +kernel
theorem dX10_deal_32 : decode cX10_deal 32 = .ok (.invokevirtual 136, 3) := by decide +kernel
theorem dX10_deal_35 : decode cX10_deal 35 = .ok (.bipush 6, 2) := by decide +kernel
theorem dX10_deal_37 : decode cX10_deal 37 = .ok (.irem, 1) := by decide +kernel
theorem dX10_deal_38 : decode cX10_deal 38 = .ok (.istore_n 3, 1) := by decide +kernel
theorem dX10_deal_39 : decode cX10_deal 39 = .ok (.aload_n 0, 1) := by decide +kernel
theorem dX10_deal_40 : decode cX10_deal 40 = .ok (.invokevirtual 136, 3) := by decide +kernel
theorem dX10_deal_43 : decode cX10_deal 43 = .ok (.bipush 100, 2) := by decide +kernel
theorem dX10_deal_45 : decode cX10_deal 45 = .ok (.irem, 1) := by decide +kernel
theorem dX10_deal_46 : decode cX10_deal 46 = .ok (.istore 4, 2) := by decide +kernel
theorem dX10_deal_48 : decode cX10_deal 48 = .ok (.iconst 1, 1) := by decide +kernel
theorem dX10_deal_49 : decode cX10_deal 49 = .ok (.aload_n 0, 1) := by decide +kernel
theorem dX10_deal_50 : decode cX10_deal 50 = .ok (.invokevirtual 136, 3) := by decide +kernel
theorem dX10_deal_53 : decode cX10_deal 53 = .ok (.iconst 5, 1) := by decide +kernel
theorem dX10_deal_54 : decode cX10_deal 54 = .ok (.irem, 1) := by decide +kernel
theorem dX10_deal_55 : decode cX10_deal 55 = .ok (.iadd, 1) := by decide +kernel
theorem dX10_deal_56 : decode cX10_deal 56 = .ok (.istore 5, 2) := by decide +kernel
theorem dX10_deal_58 : decode cX10_deal 58 = .ok (.aload_n 0, 1) := by decide +kernel
theorem dX10_deal_59 : decode cX10_deal 59 = .ok (.iload_n 3, 1) := by decide +kernel
theorem dX10_deal_60 : decode cX10_deal 60 = .ok (.iload 4, 2) := by decide +kernel
theorem dX10_deal_62 : decode cX10_deal 62 = .ok (.iload 5, 2) := by decide +kernel
theorem dX10_deal_64 : decode cX10_deal 64 = .ok (.aload_n 0, 1) := by decide +kernel
theorem dX10_deal_65 : decode cX10_deal 65 = .ok (.invokevirtual 136, 3) := by decide +kernel
theorem dX10_deal_68 : decode cX10_deal 68 = .ok (.bipush 21, 2) := by decide +kernel
theorem dX10_deal_70 : decode cX10_deal 70 = .ok (.irem, 1) := by decide +kernel
theorem dX10_deal_71 : decode cX10_deal 71 = .ok (.bipush 10, 2) := by decide +kernel
theorem dX10_deal_73 : decode cX10_deal 73 = .ok (.isub, 1) := by decide +kernel
theorem dX10_deal_74 : decode cX10_deal 74 = .ok (.invokevirtual 88, 3) := by decide +kernel
theorem dX10_deal_77 : decode cX10_deal 77 = .ok (.istore 6, 2) := by decide +kernel
theorem dX10_deal_79 : decode cX10_deal 79 = .ok (.iinc 2 1, 3) := by decide +kernel
theorem dX10_deal_82 : decode cX10_deal 82 = .ok (.goto (-67), 3) := by decide +kernel
theorem dX10_deal_85 : decode cX10_deal 85 = .ok (.iload_n 2, 1) := by decide +kernel
theorem dX10_deal_86 : decode cX10_deal 86 = .ok (.ireturn, 1) := by decide +kernel
theorem dX10_seed_0 : decode cX10_seed 0 = .ok (.aload_n 0, 1) := by decide +kernel
theorem dX10_seed_1 : decode cX10_seed 1 = .ok (.iconst 0, 1) := by decide +kernel
theorem dX10_seed_2 : decode cX10_seed 2 = .ok (.iload_n 1, 1) := by decide +kernel
theorem dX10_seed_3 : decode cX10_seed 3 = .ok (.invokevirtual 122, 3) := by decide +kernel
theorem dX10_seed_6 : decode cX10_seed 6 = .ok (.ireturn, 1) := by decide +kernel
theorem dX10_safe_0 : decode cX10_safe 0 = .ok (.iload_n 1, 1) := by decide +kernel
theorem dX10_safe_1 : decode cX10_safe 1 = .ok (.iconst 0, 1) := by decide +kernel
theorem dX10_safe_2 : decode cX10_safe 2 = .ok (.iconst 4, 1) := by decide +kernel
theorem dX10_safe_3 : decode cX10_safe 3 = .ok (.invokestatic 78, 3) := by decide +kernel
theorem dX10_safe_6 : decode cX10_safe 6 = .ok (.ifCond .eq 54, 3) := by decide +kernel
theorem dX10_safe_9 : decode cX10_safe 9 = .ok (.iload_n 2, 1) := by decide +kernel
theorem dX10_safe_10 : decode cX10_safe 10 = .ok (.iload_n 1, 1) := by decide +kernel
theorem dX10_safe_11 : decode cX10_safe 11 = .ok (.iconst 2, 1) := by decide +kernel
theorem dX10_safe_12 : decode cX10_safe 12 = .ok (.if_icmp .ne 8, 3) := by decide +kernel
theorem dX10_safe_15 : decode cX10_safe 15 = .ok (.bipush (-5), 2) := by decide +kernel
theorem dX10_safe_17 : decode cX10_safe 17 = .ok (.goto 4, 3) := by decide +kernel
theorem dX10_safe_20 : decode cX10_safe 20 = .ok (.iconst 0, 1) := by decide +kernel
theorem dX10_safe_21 : decode cX10_safe 21 = .ok (.iload_n 1, 1) := by decide +kernel
theorem dX10_safe_22 : decode cX10_safe 22 = .ok (.ifCond .eq 8, 3) := by decide +kernel
theorem dX10_safe_25 : decode cX10_safe 25 = .ok (.iload_n 1, 1) := by decide +kernel
theorem dX10_safe_26 : decode cX10_safe 26 = .ok (.iconst 3, 1) := by decide +kernel
theorem dX10_safe_27 : decode cX10_safe 27 = .ok (.if_icmp .ne 8, 3) := by decide +kernel
theorem dX10_safe_30 : decode cX10_safe 30 = .ok (.bipush 99, 2) := by decide +kernel
theorem dX10_safe_32 : decode cX10_safe 32 = .ok (.goto 22, 3) := by decide +kernel
theorem dX10_safe_35 : decode cX10_safe 35 = .ok (.iload_n 1, 1) := by decide +kernel
theorem dX10_safe_36 : decode cX10_safe 36 = .ok (.iconst 1, 1) := by decide +kernel
theorem dX10_safe_37 : decode cX10_safe 37 = .ok (.if_icmp .ne 7, 3) := by decide +kernel
theorem dX10_safe_40 : decode cX10_safe 40 = .ok (.iconst 2, 1) := by decide +kernel
theorem dX10_safe_41 : decode cX10_safe 41 = .ok (.goto 13, 3) := by decide +kernel
theorem dX10_safe_44 : decode cX10_safe 44 = .ok (.iload_n 1, 1) := by decide +kernel
theorem dX10_safe_45 : decode cX10_safe 45 = .ok (.iconst 2, 1) := by decide +kernel
theorem dX10_safe_46 : decode cX10_safe 46 = .ok (.if_icmp .ne 7, 3) := by decide +kernel
theorem dX10_safe_49 : decode cX10_safe 49 = .ok (.iconst 5, 1) := by decide +kernel
theorem dX10_safe_50 : decode cX10_safe 50 = .ok (.goto 4, 3) := by decide +kernel
theorem dX10_safe_53 : decode cX10_safe 53 = .ok (.iconst 1, 1) := by decide +kernel
theorem dX10_safe_54 : decode cX10_safe 54 = .ok (.invokestatic 78, 3) := by decide +kernel
theorem dX10_safe_57 : decode cX10_safe 57 = .ok (.ifCond .ne 6, 3) := by decide +kernel
theorem dX10_safe_60 : decode cX10_safe 60 = .ok (.ldc 86, 2) := by decide +kernel
theorem dX10_safe_62 : decode cX10_safe 62 = .ok (.ireturn, 1) := by decide +kernel
theorem dX10_safe_63 : decode cX10_safe 63 = .ok (.aload_n 0, 1) := by decide +kernel
theorem dX10_safe_64 : decode cX10_safe 64 = .ok (.iconst 3, 1) := by decide +kernel
theorem dX10_safe_65 : decode cX10_safe 65 = .ok (.iload_n 1, 1) := by decide +kernel
theorem dX10_safe_66 : decode cX10_safe 66 = .ok (.iadd, 1) := by decide +kernel
theorem dX10_safe_67 : decode cX10_safe 67 = .ok (.iload_n 2, 1) := by decide +kernel
theorem dX10_safe_68 : decode cX10_safe 68 = .ok (.invokevirtual 122, 3) := by decide +kernel
theorem dX10_safe_71 : decode cX10_safe 71 = .ok (.ireturn, 1) := by decide +kernel
theorem dX10_weights_0 : decode cX10_weights 0 = .ok (.iconst 0, 1) := by decide +kernel
theorem dX10_weights_1 : decode cX10_weights 1 = .ok (.istore_n 1, 1) := by decide +kernel
theorem dX10_weights_2 : decode cX10_weights 2 = .ok (.iconst 0, 1) := by decide +kernel
theorem dX10_weights_3 : decode cX10_weights 3 = .ok (.istore_n 2, 1) := by decide +kernel
theorem dX10_weights_4 : decode cX10_weights 4 = .ok (.iload_n 2, 1) := by decide +kernel
theorem dX10_weights_5 : decode cX10_weights 5 = .ok (.aload_n 0, 1) := by decide +kernel
theorem dX10_weights_6 : decode cX10_weights 6 = .ok (.getfield 9, 3) := by decide +kernel
theorem dX10_weights_9 : decode cX10_weights 9 = .ok (.iconst 1, 1) := by decide +kernel
theorem dX10_weights_10 : decode cX10_weights 10 = .ok (.iaload, 1) := by decide +kernel
theorem dX10_weights_11 : decode cX10_weights 11 = .ok (.if_icmp .ge 18, 3) := by decide +kernel
theorem dX10_weights_14 : decode cX10_weights 14 = .ok (.iload_n 1, 1) := by decide +kernel
theorem dX10_weights_15 : decode cX10_weights 15 = .ok (.aload_n 0, 1) := by decide +kernel
theorem dX10_weights_16 : decode cX10_weights 16 = .ok (.iload_n 2, 1) := by decide +kernel
theorem dX10_weights_17 : decode cX10_weights 17 = .ok (.iconst 2, 1) := by decide +kernel
theorem dX10_weights_18 : decode cX10_weights 18 = .ok (.invokevirtual 96, 3) := by decide +kernel
theorem dX10_weights_21 : decode cX10_weights 21 = .ok (.iadd, 1) := by decide +kernel
theorem dX10_weights_22 : decode cX10_weights 22 = .ok (.istore_n 1, 1) := by decide +kernel
theorem dX10_weights_23 : decode cX10_weights 23 = .ok (.iinc 2 1, 3) := by decide +kernel
theorem dX10_weights_26 : decode cX10_weights 26 = .ok (.goto (-22), 3) := by decide +kernel
theorem dX10_weights_29 : decode cX10_weights 29 = .ok (.iload_n 1, 1) := by decide +kernel
theorem dX10_weights_30 : decode cX10_weights 30 = .ok (.ireturn, 1) := by decide +kernel
theorem dX10_mean_0 : decode cX10_mean 0 = .ok (.iconst 0, 1) := by decide +kernel
theorem dX10_mean_1 : decode cX10_mean 1 = .ok (.istore_n 1, 1) := by decide +kernel
theorem dX10_mean_2 : decode cX10_mean 2 = .ok (.iconst 0, 1) := by decide +kernel
theorem dX10_mean_3 : decode cX10_mean 3 = .ok (.istore_n 2, 1) := by decide +kernel
theorem dX10_mean_4 : decode cX10_mean 4 = .ok (.iload_n 2, 1) := by decide +kernel
theorem dX10_mean_5 : decode cX10_mean 5 = .ok (.aload_n 0, 1) := by decide +kernel
theorem dX10_mean_6 : decode cX10_mean 6 = .ok (.getfield 9, 3) := by decide +kernel
theorem dX10_mean_9 : decode cX10_mean 9 = .ok (.iconst 1, 1) := by decide +kernel
theorem dX10_mean_10 : decode cX10_mean 10 = .ok (.iaload, 1) := by decide +kernel
theorem dX10_mean_11 : decode cX10_mean 11 = .ok (.if_icmp .ge 25, 3) := by decide +kernel
theorem dX10_mean_14 : decode cX10_mean 14 = .ok (.iload_n 1, 1) := by decide +kernel
theorem dX10_mean_15 : decode cX10_mean 15 = .ok (.aload_n 0, 1) := by decide +kernel
theorem dX10_mean_16 : decode cX10_mean 16 = .ok (.iload_n 2, 1) := by decide +kernel
theorem dX10_mean_17 : decode cX10_mean 17 = .ok (.iconst 1, 1) := by decide +kernel
theorem dX10_mean_18 : decode cX10_mean 18 = .ok (.invokevirtual 96, 3) := by decide +kernel
theorem dX10_mean_21 : decode cX10_mean 21 = .ok (.aload_n 0, 1) := by decide +kernel
theorem dX10_mean_22 : decode cX10_mean 22 = .ok (.iload_n 2, 1) := by decide +kernel
theorem dX10_mean_23 : decode cX10_mean 23 = .ok (.iconst 2, 1) := by decide +kernel
theorem dX10_mean_24 : decode cX10_mean 24 = .ok (.invokevirtual 96, 3) := by decide +kernel
theorem dX10_mean_27 : decode cX10_mean 27 = .ok (.imul, 1) := by decide +kernel
theorem dX10_mean_28 : decode cX10_mean 28 = .ok (.iadd, 1) := by decide +kernel
theorem dX10_mean_29 : decode cX10_mean 29 = .ok (.istore_n 1, 1) := by decide +kernel
theorem dX10_mean_30 : decode cX10_mean 30 = .ok (.iinc 2 1, 3) := by decide +kernel
theorem dX10_mean_33 : decode cX10_mean 33 = .ok (.goto (-29), 3) := by decide +kernel
theorem dX10_mean_36 : decode cX10_mean 36 = .ok (.iload_n 1, 1) := by decide +kernel
theorem dX10_mean_37 : decode cX10_mean 37 = .ok (.aload_n 0, 1) := by decide +kernel
theorem dX10_mean_38 : decode cX10_mean 38 = .ok (.invokevirtual 140, 3) := by decide +kernel
theorem dX10_mean_41 : decode cX10_mean 41 = .ok (.idiv, 1) := by decide +kernel
theorem dX10_mean_42 : decode cX10_mean 42 = .ok (.ireturn, 1) := by decide +kernel
theorem dX10_upTo_0 : decode cX10_upTo 0 = .ok (.iconst 0, 1) := by decide +kernel
theorem dX10_upTo_1 : decode cX10_upTo 1 = .ok (.istore_n 2, 1) := by decide +kernel
theorem dX10_upTo_2 : decode cX10_upTo 2 = .ok (.iconst 0, 1) := by decide +kernel
theorem dX10_upTo_3 : decode cX10_upTo 3 = .ok (.istore_n 3, 1) := by decide +kernel
theorem dX10_upTo_4 : decode cX10_upTo 4 = .ok (.iload_n 3, 1) := by decide +kernel
theorem dX10_upTo_5 : decode cX10_upTo 5 = .ok (.aload_n 0, 1) := by decide +kernel
theorem dX10_upTo_6 : decode cX10_upTo 6 = .ok (.getfield 9, 3) := by decide +kernel
theorem dX10_upTo_9 : decode cX10_upTo 9 = .ok (.iconst 1, 1) := by decide +kernel
theorem dX10_upTo_10 : decode cX10_upTo 10 = .ok (.iaload, 1) := by decide +kernel
theorem dX10_upTo_11 : decode cX10_upTo 11 = .ok (.if_icmp .ge 32, 3) := by decide +kernel
theorem dX10_upTo_14 : decode cX10_upTo 14 = .ok (.iload_n 2, 1) := by decide +kernel
theorem dX10_upTo_15 : decode cX10_upTo 15 = .ok (.aload_n 0, 1) := by decide +kernel
theorem dX10_upTo_16 : decode cX10_upTo 16 = .ok (.iload_n 3, 1) := by decide +kernel
theorem dX10_upTo_17 : decode cX10_upTo 17 = .ok (.iconst 1, 1) := by decide +kernel
theorem dX10_upTo_18 : decode cX10_upTo 18 = .ok (.invokevirtual 96, 3) := by decide +kernel
theorem dX10_upTo_21 : decode cX10_upTo 21 = .ok (.iload_n 1, 1) := by decide +kernel
theorem dX10_upTo_22 : decode cX10_upTo 22 = .ok (.if_icmp .gt 12, 3) := by decide +kernel
theorem dX10_upTo_25 : decode cX10_upTo 25 = .ok (.aload_n 0, 1) := by decide +kernel
theorem dX10_upTo_26 : decode cX10_upTo 26 = .ok (.iload_n 3, 1) := by decide +kernel
theorem dX10_upTo_27 : decode cX10_upTo 27 = .ok (.iconst 2, 1) := by decide +kernel
theorem dX10_upTo_28 : decode cX10_upTo 28 = .ok (.invokevirtual 96, 3) := by decide +kernel
theorem dX10_upTo_31 : decode cX10_upTo 31 = .ok (.goto 4, 3) := by decide +kernel
theorem dX10_upTo_34 : decode cX10_upTo 34 = .ok (.iconst 0, 1) := by decide +kernel
theorem dX10_upTo_35 : decode cX10_upTo 35 = .ok (.iadd, 1) := by decide +kernel
theorem dX10_upTo_36 : decode cX10_upTo 36 = .ok (.istore_n 2, 1) := by decide +kernel
theorem dX10_upTo_37 : decode cX10_upTo 37 = .ok (.iinc 3 1, 3) := by decide +kernel
theorem dX10_upTo_40 : decode cX10_upTo 40 = .ok (.goto (-36), 3) := by decide +kernel
theorem dX10_upTo_43 : decode cX10_upTo 43 = .ok (.iload_n 2, 1) := by decide +kernel
theorem dX10_upTo_44 : decode cX10_upTo 44 = .ok (.ireturn, 1) := by decide +kernel
theorem dX10_middle_0 : decode cX10_middle 0 = .ok (.aload_n 0, 1) := by decide +kernel
theorem dX10_middle_1 : decode cX10_middle 1 = .ok (.invokevirtual 140, 3) := by decide +kernel
theorem dX10_middle_4 : decode cX10_middle 4 = .ok (.iconst 2, 1) := by decide +kernel
theorem dX10_middle_5 : decode cX10_middle 5 = .ok (.idiv, 1) := by decide +kernel
theorem dX10_middle_6 : decode cX10_middle 6 = .ok (.istore_n 1, 1) := by decide +kernel
theorem dX10_middle_7 : decode cX10_middle 7 = .ok (.iconst (-1), 1) := by decide +kernel
theorem dX10_middle_8 : decode cX10_middle 8 = .ok (.istore_n 2, 1) := by decide +kernel
theorem dX10_middle_9 : decode cX10_middle 9 = .ok (.iconst 0, 1) := by decide +kernel
theorem dX10_middle_10 : decode cX10_middle 10 = .ok (.istore_n 3, 1) := by decide +kernel
theorem dX10_middle_11 : decode cX10_middle 11 = .ok (.iload_n 3, 1) := by decide +kernel
theorem dX10_middle_12 : decode cX10_middle 12 = .ok (.aload_n 0, 1) := by decide +kernel
theorem dX10_middle_13 : decode cX10_middle 13 = .ok (.getfield 9, 3) := by decide +kernel
theorem dX10_middle_16 : decode cX10_middle 16 = .ok (.iconst 1, 1) := by decide +kernel
theorem dX10_middle_17 : decode cX10_middle 17 = .ok (.iaload, 1) := by decide +kernel
theorem dX10_middle_18 : decode cX10_middle 18 = .ok (.if_icmp .ge 44, 3) := by decide +kernel
theorem dX10_middle_21 : decode cX10_middle 21 = .ok (.aload_n 0, 1) := by decide +kernel
theorem dX10_middle_22 : decode cX10_middle 22 = .ok (.iload_n 3, 1) := by decide +kernel
theorem dX10_middle_23 : decode cX10_middle 23 = .ok (.iconst 1, 1) := by decide +kernel
theorem dX10_middle_24 : decode cX10_middle 24 = .ok (.invokevirtual 96, 3) := by decide +kernel
theorem dX10_middle_27 : decode cX10_middle 27 = .ok (.istore 4, 2) := by decide +kernel
theorem dX10_middle_29 : decode cX10_middle 29 = .ok (.iload_n 2, 1) := by decide +kernel
theorem dX10_middle_30 : decode cX10_middle 30 = .ok (.ifCond .lt 9, 3) := by decide +kernel
theorem dX10_middle_33 : decode cX10_middle 33 = .ok (.iload 4, 2) := by decide +kernel
theorem dX10_middle_35 : decode cX10_middle 35 = .ok (.iload_n 2, 1) := by decide +kernel
theorem dX10_middle_36 : decode cX10_middle 36 = .ok (.if_icmp .ge 18, 3) := by decide +kernel
theorem dX10_middle_39 : decode cX10_middle 39 = .ok (.aload_n 0, 1) := by decide +kernel
theorem dX10_middle_40 : decode cX10_middle 40 = .ok (.iload 4, 2) := by decide +kernel
theorem dX10_middle_42 : decode cX10_middle 42 = .ok (.invokevirtual 143, 3) := by decide +kernel
theorem dX10_middle_45 : decode cX10_middle 45 = .ok (.iload_n 1, 1) := by decide +kernel
theorem dX10_middle_46 : decode cX10_middle 46 = .ok (.if_icmp .le 8, 3) := by decide +kernel
theorem dX10_middle_49 : decode cX10_middle 49 = .ok (.iload 4, 2) := by decide +kernel
theorem dX10_middle_51 : decode cX10_middle 51 = .ok (.goto 4, 3) := by decide +kernel
theorem dX10_middle_54 : decode cX10_middle 54 = .ok (.iload_n 2, 1) := by decide +kernel
theorem dX10_middle_55 : decode cX10_middle 55 = .ok (.istore_n 2, 1) := by decide +kernel
theorem dX10_middle_56 : decode cX10_middle 56 = .ok (.iinc 3 1, 3) := by decide +kernel
theorem dX10_middle_59 : decode cX10_middle 59 = .ok (.goto (-48), 3) := by decide +kernel
theorem dX10_middle_62 : decode cX10_middle 62 = .ok (.iload_n 2, 1) := by decide +kernel
theorem dX10_middle_63 : decode cX10_middle 63 = .ok (.ireturn, 1) := by decide +kernel
theorem dX10_greatest_0 : decode cX10_greatest 0 = .ok (.iconst 0, 1) := by decide +kernel
theorem dX10_greatest_1 : decode cX10_greatest 1 = .ok (.istore_n 1, 1) := by decide +kernel
theorem dX10_greatest_2 : decode cX10_greatest 2 = .ok (.iconst 0, 1) := by decide +kernel
theorem dX10_greatest_3 : decode cX10_greatest 3 = .ok (.istore_n 2, 1) := by decide +kernel
theorem dX10_greatest_4 : decode cX10_greatest 4 = .ok (.iload_n 2, 1) := by decide +kernel
theorem dX10_greatest_5 : decode cX10_greatest 5 = .ok (.aload_n 0, 1) := by decide +kernel
theorem dX10_greatest_6 : decode cX10_greatest 6 = .ok (.getfield 9, 3) := by decide +kernel
theorem dX10_greatest_9 : decode cX10_greatest 9 = .ok (.iconst 1, 1) := by decide +kernel
theorem dX10_greatest_10 : decode cX10_greatest 10 = .ok (.iaload, 1) := by decide +kernel
theorem dX10_greatest_11 : decode cX10_greatest 11 = .ok (.if_icmp .ge 30, 3) := by decide +kernel
theorem dX10_greatest_14 : decode cX10_greatest 14 = .ok (.aload_n 0, 1) := by decide +kernel
theorem dX10_greatest_15 : decode cX10_greatest 15 = .ok (.iload_n 2, 1) := by decide +kernel
theorem dX10_greatest_16 : decode cX10_greatest 16 = .ok (.iconst 1, 1) := by decide +kernel
theorem dX10_greatest_17 : decode cX10_greatest 17 = .ok (.invokevirtual 96, 3) := by decide +kernel
theorem dX10_greatest_20 : decode cX10_greatest 20 = .ok (.iload_n 1, 1) := by decide +kernel
theorem dX10_greatest_21 : decode cX10_greatest 21 = .ok (.if_icmp .le 12, 3) := by decide +kernel
theorem dX10_greatest_24 : decode cX10_greatest 24 = .ok (.aload_n 0, 1) := by decide +kernel
theorem dX10_greatest_25 : decode cX10_greatest 25 = .ok (.iload_n 2, 1) := by decide +kernel
theorem dX10_greatest_26 : decode cX10_greatest 26 = .ok (.iconst 1, 1) := by decide +kernel
theorem dX10_greatest_27 : decode cX10_greatest 27 = .ok (.invokevirtual 96, 3) := by decide +kernel
theorem dX10_greatest_30 : decode cX10_greatest 30 = .ok (.goto 4, 3) := by decide +kernel
theorem dX10_greatest_33 : decode cX10_greatest 33 = .ok (.iload_n 1, 1) := by decide +kernel
theorem dX10_greatest_34 : decode cX10_greatest 34 = .ok (.istore_n 1, 1) := by decide +kernel
theorem dX10_greatest_35 : decode cX10_greatest 35 = .ok (.iinc 2 1, 3) := by decide +kernel
theorem dX10_greatest_38 : decode cX10_greatest 38 = .ok (.goto (-34), 3) := by decide +kernel
theorem dX10_greatest_41 : decode cX10_greatest 41 = .ok (.iload_n 1, 1) := by decide +kernel
theorem dX10_greatest_42 : decode cX10_greatest 42 = .ok (.ireturn, 1) := by decide +kernel
theorem dX10_saysNow_0 : decode cX10_saysNow 0 = .ok (.aload_n 0, 1) := by decide +kernel
theorem dX10_saysNow_1 : decode cX10_saysNow 1 = .ok (.getfield 9, 3) := by decide +kernel
theorem dX10_saysNow_4 : decode cX10_saysNow 4 = .ok (.iconst 1, 1) := by decide +kernel
theorem dX10_saysNow_5 : decode cX10_saysNow 5 = .ok (.iaload, 1) := by decide +kernel
theorem dX10_saysNow_6 : decode cX10_saysNow 6 = .ok (.ifCond .ne 5, 3) := by decide +kernel
theorem dX10_saysNow_9 : decode cX10_saysNow 9 = .ok (.iconst (-1), 1) := by decide +kernel
theorem dX10_saysNow_10 : decode cX10_saysNow 10 = .ok (.ireturn, 1) := by decide +kernel
theorem dX10_saysNow_11 : decode cX10_saysNow 11 = .ok (.aload_n 0, 1) := by decide +kernel
theorem dX10_saysNow_12 : decode cX10_saysNow 12 = .ok (.getfield 9, 3) := by decide +kernel
theorem dX10_saysNow_15 : decode cX10_saysNow 15 = .ok (.iconst 4, 1) := by decide +kernel
theorem dX10_saysNow_16 : decode cX10_saysNow 16 = .ok (.iaload, 1) := by decide +kernel
theorem dX10_saysNow_17 : decode cX10_saysNow 17 = .ok (.ifCond .ne 10, 3) := by decide +kernel
theorem dX10_saysNow_20 : decode cX10_saysNow 20 = .ok (.aload_n 0, 1) := by decide +kernel
theorem dX10_saysNow_21 : decode cX10_saysNow 21 = .ok (.invokevirtual 146, 3) := by decide +kernel
theorem dX10_saysNow_24 : decode cX10_saysNow 24 = .ok (.goto 24, 3) := by decide +kernel
theorem dX10_saysNow_27 : decode cX10_saysNow 27 = .ok (.aload_n 0, 1) := by decide +kernel
theorem dX10_saysNow_28 : decode cX10_saysNow 28 = .ok (.getfield 9, 3) := by decide +kernel
theorem dX10_saysNow_31 : decode cX10_saysNow 31 = .ok (.iconst 4, 1) := by decide +kernel
theorem dX10_saysNow_32 : decode cX10_saysNow 32 = .ok (.iaload, 1) := by decide +kernel
theorem dX10_saysNow_33 : decode cX10_saysNow 33 = .ok (.iconst 1, 1) := by decide +kernel
theorem dX10_saysNow_34 : decode cX10_saysNow 34 = .ok (.if_icmp .ne 10, 3) := by decide +kernel
theorem dX10_saysNow_37 : decode cX10_saysNow 37 = .ok (.aload_n 0, 1) := by decide +kernel
theorem dX10_saysNow_38 : decode cX10_saysNow 38 = .ok (.invokevirtual 149, 3) := by decide +kernel
theorem dX10_saysNow_41 : decode cX10_saysNow 41 = .ok (.goto 7, 3) := by decide +kernel
theorem dX10_saysNow_44 : decode cX10_saysNow 44 = .ok (.aload_n 0, 1) := by decide +kernel
theorem dX10_saysNow_45 : decode cX10_saysNow 45 = .ok (.invokevirtual 152, 3) := by decide +kernel
theorem dX10_saysNow_48 : decode cX10_saysNow 48 = .ok (.ireturn, 1) := by decide +kernel
theorem dX10_says_0 : decode cX10_says 0 = .ok (.aload_n 0, 1) := by decide +kernel
theorem dX10_says_1 : decode cX10_says 1 = .ok (.invokevirtual 155, 3) := by decide +kernel
theorem dX10_says_4 : decode cX10_says 4 = .ok (.ireturn, 1) := by decide +kernel
theorem dX10_hears_0 : decode cX10_hears 0 = .ok (.iload_n 2, 1) := by decide +kernel
theorem dX10_hears_1 : decode cX10_hears 1 = .ok (.aload_n 0, 1) := by decide +kernel
theorem dX10_hears_2 : decode cX10_hears 2 = .ok (.getfield 9, 3) := by decide +kernel
theorem dX10_hears_5 : decode cX10_hears 5 = .ok (.iconst 3, 1) := by decide +kernel
theorem dX10_hears_6 : decode cX10_hears 6 = .ok (.iaload, 1) := by decide +kernel
theorem dX10_hears_7 : decode cX10_hears 7 = .ok (.if_icmp .le 21, 3) := by decide +kernel
theorem dX10_hears_10 : decode cX10_hears 10 = .ok (.aload_n 0, 1) := by decide +kernel
theorem dX10_hears_11 : decode cX10_hears 11 = .ok (.iload_n 1, 1) := by decide +kernel
theorem dX10_hears_12 : decode cX10_hears 12 = .ok (.iconst 5, 1) := by decide +kernel
theorem dX10_hears_13 : decode cX10_hears 13 = .ok (.iload_n 2, 1) := by decide +kernel
theorem dX10_hears_14 : decode cX10_hears 14 = .ok (.iconst 1, 1) := by decide +kernel
theorem dX10_hears_15 : decode cX10_hears 15 = .ok (.isub, 1) := by decide +kernel
theorem dX10_hears_16 : decode cX10_hears 16 = .ok (.iconst 0, 1) := by decide +kernel
theorem dX10_hears_17 : decode cX10_hears 17 = .ok (.bipush 99, 2) := by decide +kernel
theorem dX10_hears_19 : decode cX10_hears 19 = .ok (.invokestatic 103, 3) := by decide +kernel
theorem dX10_hears_22 : decode cX10_hears 22 = .ok (.invokevirtual 82, 3) := by decide +kernel
theorem dX10_hears_25 : decode cX10_hears 25 = .ok (.goto 18, 3) := by decide +kernel
theorem dX10_hears_28 : decode cX10_hears 28 = .ok (.aload_n 0, 1) := by decide +kernel
theorem dX10_hears_29 : decode cX10_hears 29 = .ok (.iload_n 1, 1) := by decide +kernel
theorem dX10_hears_30 : decode cX10_hears 30 = .ok (.iconst 4, 1) := by decide +kernel
theorem dX10_hears_31 : decode cX10_hears 31 = .ok (.iload_n 2, 1) := by decide +kernel
theorem dX10_hears_32 : decode cX10_hears 32 = .ok (.iconst 1, 1) := by decide +kernel
theorem dX10_hears_33 : decode cX10_hears 33 = .ok (.iadd, 1) := by decide +kernel
theorem dX10_hears_34 : decode cX10_hears 34 = .ok (.iconst 0, 1) := by decide +kernel
theorem dX10_hears_35 : decode cX10_hears 35 = .ok (.bipush 99, 2) := by decide +kernel
theorem dX10_hears_37 : decode cX10_hears 37 = .ok (.invokestatic 103, 3) := by decide +kernel
theorem dX10_hears_40 : decode cX10_hears 40 = .ok (.invokevirtual 82, 3) := by decide +kernel
theorem dX10_hears_43 : decode cX10_hears 43 = .ok (.aload_n 0, 1) := by decide +kernel
theorem dX10_hears_44 : decode cX10_hears 44 = .ok (.iload_n 1, 1) := by decide +kernel
theorem dX10_hears_45 : decode cX10_hears 45 = .ok (.iconst 4, 1) := by decide +kernel
theorem dX10_hears_46 : decode cX10_hears 46 = .ok (.invokevirtual 96, 3) := by decide +kernel
theorem dX10_hears_49 : decode cX10_hears 49 = .ok (.aload_n 0, 1) := by decide +kernel
theorem dX10_hears_50 : decode cX10_hears 50 = .ok (.iload_n 1, 1) := by decide +kernel
theorem dX10_hears_51 : decode cX10_hears 51 = .ok (.iconst 5, 1) := by decide +kernel
theorem dX10_hears_52 : decode cX10_hears 52 = .ok (.invokevirtual 96, 3) := by decide +kernel
theorem dX10_hears_55 : decode cX10_hears 55 = .ok (.if_icmp .le 8, 3) := by decide +kernel
theorem dX10_hears_58 : decode cX10_hears 58 = .ok (.aload_n 0, 1) := by decide +kernel
theorem dX10_hears_59 : decode cX10_hears 59 = .ok (.iload_n 1, 1) := by decide +kernel
theorem dX10_hears_60 : decode cX10_hears 60 = .ok (.invokevirtual 131, 3) := by decide +kernel
theorem dX10_hears_63 : decode cX10_hears 63 = .ok (.return_, 1) := by decide +kernel
theorem dX10_turn_0 : decode cX10_turn 0 = .ok (.aload_n 0, 1) := by decide +kernel
theorem dX10_turn_1 : decode cX10_turn 1 = .ok (.invokevirtual 155, 3) := by decide +kernel
theorem dX10_turn_4 : decode cX10_turn 4 = .ok (.istore_n 1, 1) := by decide +kernel
theorem dX10_turn_5 : decode cX10_turn 5 = .ok (.aload_n 0, 1) := by decide +kernel
theorem dX10_turn_6 : decode cX10_turn 6 = .ok (.getfield 9, 3) := by decide +kernel
theorem dX10_turn_9 : decode cX10_turn 9 = .ok (.iconst 2, 1) := by decide +kernel
theorem dX10_turn_10 : decode cX10_turn 10 = .ok (.dup2, 1) := by decide +kernel
theorem dX10_turn_11 : decode cX10_turn 11 = .ok (.iaload, 1) := by decide +kernel
theorem dX10_turn_12 : decode cX10_turn 12 = .ok (.iconst 1, 1) := by decide +kernel
theorem dX10_turn_13 : decode cX10_turn 13 = .ok (.iadd, 1) := by decide +kernel
theorem dX10_turn_14 : decode cX10_turn 14 = .ok (.iastore, 1) := by decide +kernel
theorem dX10_turn_15 : decode cX10_turn 15 = .ok (.iload_n 1, 1) := by decide +kernel
theorem dX10_turn_16 : decode cX10_turn 16 = .ok (.aload_n 0, 1) := by decide +kernel
theorem dX10_turn_17 : decode cX10_turn 17 = .ok (.getfield 9, 3) := by decide +kernel
theorem dX10_turn_20 : decode cX10_turn 20 = .ok (.iconst 3, 1) := by decide +kernel
theorem dX10_turn_21 : decode cX10_turn 21 = .ok (.iaload, 1) := by decide +kernel
theorem dX10_turn_22 : decode cX10_turn 22 = .ok (.if_icmp .ne 13, 3) := by decide +kernel
theorem dX10_turn_25 : decode cX10_turn 25 = .ok (.aload_n 0, 1) := by decide +kernel
theorem dX10_turn_26 : decode cX10_turn 26 = .ok (.getfield 9, 3) := by decide +kernel
theorem dX10_turn_29 : decode cX10_turn 29 = .ok (.bipush 7, 2) := by decide +kernel
theorem dX10_turn_31 : decode cX10_turn 31 = .ok (.iconst 1, 1) := by decide +kernel
theorem dX10_turn_32 : decode cX10_turn 32 = .ok (.iastore, 1) := by decide +kernel
theorem dX10_turn_33 : decode cX10_turn 33 = .ok (.iload_n 1, 1) := by decide +kernel
theorem dX10_turn_34 : decode cX10_turn 34 = .ok (.ireturn, 1) := by decide +kernel
theorem dX10_turn_35 : decode cX10_turn 35 = .ok (.iconst 0, 1) := by decide +kernel
theorem dX10_turn_36 : decode cX10_turn 36 = .ok (.istore_n 2, 1) := by decide +kernel
theorem dX10_turn_37 : decode cX10_turn 37 = .ok (.iload_n 2, 1) := by decide +kernel
theorem dX10_turn_38 : decode cX10_turn 38 = .ok (.aload_n 0, 1) := by decide +kernel
theorem dX10_turn_39 : decode cX10_turn 39 = .ok (.getfield 9, 3) := by decide +kernel
theorem dX10_turn_42 : decode cX10_turn 42 = .ok (.iconst 1, 1) := by decide +kernel
theorem dX10_turn_43 : decode cX10_turn 43 = .ok (.iaload, 1) := by decide +kernel
theorem dX10_turn_44 : decode cX10_turn 44 = .ok (.if_icmp .ge 26, 3) := by decide +kernel
theorem dX10_turn_47 : decode cX10_turn 47 = .ok (.aload_n 0, 1) := by decide +kernel
theorem dX10_turn_48 : decode cX10_turn 48 = .ok (.iload_n 2, 1) := by decide +kernel
theorem dX10_turn_49 : decode cX10_turn 49 = .ok (.bipush 6, 2) := by decide +kernel
theorem dX10_turn_51 : decode cX10_turn 51 = .ok (.invokevirtual 96, 3) := by decide +kernel
theorem dX10_turn_54 : decode cX10_turn 54 = .ok (.iconst 1, 1) := by decide +kernel
theorem dX10_turn_55 : decode cX10_turn 55 = .ok (.if_icmp .ne 9, 3) := by decide +kernel
theorem dX10_turn_58 : decode cX10_turn 58 = .ok (.aload_n 0, 1) := by decide +kernel
theorem dX10_turn_59 : decode cX10_turn 59 = .ok (.iload_n 2, 1) := by decide +kernel
theorem dX10_turn_60 : decode cX10_turn 60 = .ok (.iload_n 1, 1) := by decide +kernel
theorem dX10_turn_61 : decode cX10_turn 61 = .ok (.invokevirtual 158, 3) := by decide +kernel
theorem dX10_turn_64 : decode cX10_turn 64 = .ok (.iinc 2 1, 3) := by decide +kernel
theorem dX10_turn_67 : decode cX10_turn 67 = .ok (.goto (-30), 3) := by decide +kernel
theorem dX10_turn_70 : decode cX10_turn 70 = .ok (.iconst 0, 1) := by decide +kernel
theorem dX10_turn_71 : decode cX10_turn 71 = .ok (.istore_n 2, 1) := by decide +kernel
theorem dX10_turn_72 : decode cX10_turn 72 = .ok (.iload_n 2, 1) := by decide +kernel
theorem dX10_turn_73 : decode cX10_turn 73 = .ok (.aload_n 0, 1) := by decide +kernel
theorem dX10_turn_74 : decode cX10_turn 74 = .ok (.getfield 9, 3) := by decide +kernel
theorem dX10_turn_77 : decode cX10_turn 77 = .ok (.iconst 1, 1) := by decide +kernel
theorem dX10_turn_78 : decode cX10_turn 78 = .ok (.iaload, 1) := by decide +kernel
theorem dX10_turn_79 : decode cX10_turn 79 = .ok (.if_icmp .ge 20, 3) := by decide +kernel
theorem dX10_turn_82 : decode cX10_turn 82 = .ok (.aload_n 0, 1) := by decide +kernel
theorem dX10_turn_83 : decode cX10_turn 83 = .ok (.iload_n 2, 1) := by decide +kernel
theorem dX10_turn_84 : decode cX10_turn 84 = .ok (.iconst 1, 1) := by decide +kernel
theorem dX10_turn_85 : decode cX10_turn 85 = .ok (.aload_n 0, 1) := by decide +kernel
theorem dX10_turn_86 : decode cX10_turn 86 = .ok (.iload_n 2, 1) := by decide +kernel
theorem dX10_turn_87 : decode cX10_turn 87 = .ok (.invokevirtual 111, 3) := by decide +kernel
theorem dX10_turn_90 : decode cX10_turn 90 = .ok (.invokevirtual 82, 3) := by decide +kernel
theorem dX10_turn_93 : decode cX10_turn 93 = .ok (.iinc 2 1, 3) := by decide +kernel
theorem dX10_turn_96 : decode cX10_turn 96 = .ok (.goto (-24), 3) := by decide +kernel
theorem dX10_turn_99 : decode cX10_turn 99 = .ok (.aload_n 0, 1) := by decide +kernel
theorem dX10_turn_100 : decode cX10_turn 100 = .ok (.getfield 9, 3) := by decide +kernel
theorem dX10_turn_103 : decode cX10_turn 103 = .ok (.iconst 3, 1) := by decide +kernel
theorem dX10_turn_104 : decode cX10_turn 104 = .ok (.iaload, 1) := by decide +kernel
theorem dX10_turn_105 : decode cX10_turn 105 = .ok (.aload_n 0, 1) := by decide +kernel
theorem dX10_turn_106 : decode cX10_turn 106 = .ok (.getfield 9, 3) := by decide +kernel
theorem dX10_turn_109 : decode cX10_turn 109 = .ok (.iconst 5, 1) := by decide +kernel
theorem dX10_turn_110 : decode cX10_turn 110 = .ok (.iaload, 1) := by decide +kernel
theorem dX10_turn_111 : decode cX10_turn 111 = .ok (.iadd, 1) := by decide +kernel
theorem dX10_turn_112 : decode cX10_turn 112 = .ok (.istore_n 2, 1) := by decide +kernel
theorem dX10_turn_113 : decode cX10_turn 113 = .ok (.aload_n 0, 1) := by decide +kernel
theorem dX10_turn_114 : decode cX10_turn 114 = .ok (.getfield 9, 3) := by decide +kernel
theorem dX10_turn_117 : decode cX10_turn 117 = .ok (.iconst 3, 1) := by decide +kernel
theorem dX10_turn_118 : decode cX10_turn 118 = .ok (.iload_n 2, 1) := by decide +kernel
theorem dX10_turn_119 : decode cX10_turn 119 = .ok (.ifCond .ge 10, 3) := by decide +kernel
theorem dX10_turn_122 : decode cX10_turn 122 = .ok (.iload_n 2, 1) := by decide +kernel
theorem dX10_turn_123 : decode cX10_turn 123 = .ok (.bipush 100, 2) := by decide +kernel
theorem dX10_turn_125 : decode cX10_turn 125 = .ok (.iadd, 1) := by decide +kernel
theorem dX10_turn_126 : decode cX10_turn 126 = .ok (.goto 17, 3) := by decide +kernel
theorem dX10_turn_129 : decode cX10_turn 129 = .ok (.iload_n 2, 1) := by decide +kernel
theorem dX10_turn_130 : decode cX10_turn 130 = .ok (.bipush 99, 2) := by decide +kernel
theorem dX10_turn_132 : decode cX10_turn 132 = .ok (.if_icmp .le 10, 3) := by decide +kernel
theorem dX10_turn_135 : decode cX10_turn 135 = .ok (.iload_n 2, 1) := by decide +kernel
theorem dX10_turn_136 : decode cX10_turn 136 = .ok (.bipush 100, 2) := by decide +kernel
theorem dX10_turn_138 : decode cX10_turn 138 = .ok (.isub, 1) := by decide +kernel
theorem dX10_turn_139 : decode cX10_turn 139 = .ok (.goto 4, 3) := by decide +kernel
theorem dX10_turn_142 : decode cX10_turn 142 = .ok (.iload_n 2, 1) := by decide +kernel
theorem dX10_turn_143 : decode cX10_turn 143 = .ok (.iastore, 1) := by decide +kernel
theorem dX10_turn_144 : decode cX10_turn 144 = .ok (.iload_n 1, 1) := by decide +kernel
theorem dX10_turn_145 : decode cX10_turn 145 = .ok (.ireturn, 1) := by decide +kernel
theorem dX10_isStill_0 : decode cX10_isStill 0 = .ok (.aload_n 0, 1) := by decide +kernel
theorem dX10_isStill_1 : decode cX10_isStill 1 = .ok (.getfield 9, 3) := by decide +kernel
theorem dX10_isStill_4 : decode cX10_isStill 4 = .ok (.bipush 7, 2) := by decide +kernel
theorem dX10_isStill_6 : decode cX10_isStill 6 = .ok (.iaload, 1) := by decide +kernel
theorem dX10_isStill_7 : decode cX10_isStill 7 = .ok (.iconst 1, 1) := by decide +kernel
theorem dX10_isStill_8 : decode cX10_isStill 8 = .ok (.if_icmp .eq 22, 3) := by decide +kernel
theorem dX10_isStill_11 : decode cX10_isStill 11 = .ok (.aload_n 0, 1) := by decide +kernel
theorem dX10_isStill_12 : decode cX10_isStill 12 = .ok (.getfield 9, 3) := by decide +kernel
theorem dX10_isStill_15 : decode cX10_isStill 15 = .ok (.iconst 1, 1) := by decide +kernel
theorem dX10_isStill_16 : decode cX10_isStill 16 = .ok (.iaload, 1) := by decide +kernel
theorem dX10_isStill_17 : decode cX10_isStill 17 = .ok (.ifCond .eq 13, 3) := by decide +kernel
theorem dX10_isStill_20 : decode cX10_isStill 20 = .ok (.aload_n 0, 1) := by decide +kernel
theorem dX10_isStill_21 : decode cX10_isStill 21 = .ok (.getfield 9, 3) := by decide +kernel
theorem dX10_isStill_24 : decode cX10_isStill 24 = .ok (.bipush 6, 2) := by decide +kernel
theorem dX10_isStill_26 : decode cX10_isStill 26 = .ok (.iaload, 1) := by decide +kernel
theorem dX10_isStill_27 : decode cX10_isStill 27 = .ok (.ifCond .ne 7, 3) := by decide +kernel
theorem dX10_isStill_30 : decode cX10_isStill 30 = .ok (.iconst 1, 1) := by decide +kernel
theorem dX10_isStill_31 : decode cX10_isStill 31 = .ok (.goto 4, 3) := by decide +kernel
theorem dX10_isStill_34 : decode cX10_isStill 34 = .ok (.iconst 0, 1) := by decide +kernel
theorem dX10_isStill_35 : decode cX10_isStill 35 = .ok (.ireturn, 1) := by decide +kernel
theorem dX10_aTry_0 : decode cX10_aTry 0 = .ok (.aload_n 0, 1) := by decide +kernel
theorem dX10_aTry_1 : decode cX10_aTry 1 = .ok (.invokevirtual 162, 3) := by decide +kernel
theorem dX10_aTry_4 : decode cX10_aTry 4 = .ok (.ifCond .eq 5, 3) := by decide +kernel
theorem dX10_aTry_7 : decode cX10_aTry 7 = .ok (.iconst 0, 1) := by decide +kernel
theorem dX10_aTry_8 : decode cX10_aTry 8 = .ok (.ireturn, 1) := by decide +kernel
theorem dX10_aTry_9 : decode cX10_aTry 9 = .ok (.aload_n 0, 1) := by decide +kernel
theorem dX10_aTry_10 : decode cX10_aTry 10 = .ok (.getfield 9, 3) := by decide +kernel
theorem dX10_aTry_13 : decode cX10_aTry 13 = .ok (.bipush 6, 2) := by decide +kernel
theorem dX10_aTry_15 : decode cX10_aTry 15 = .ok (.dup2, 1) := by decide +kernel
theorem dX10_aTry_16 : decode cX10_aTry 16 = .ok (.iaload, 1) := by decide +kernel
theorem dX10_aTry_17 : decode cX10_aTry 17 = .ok (.iconst 1, 1) := by decide +kernel
theorem dX10_aTry_18 : decode cX10_aTry 18 = .ok (.isub, 1) := by decide +kernel
theorem dX10_aTry_19 : decode cX10_aTry 19 = .ok (.iastore, 1) := by decide +kernel
theorem dX10_aTry_20 : decode cX10_aTry 20 = .ok (.aload_n 0, 1) := by decide +kernel
theorem dX10_aTry_21 : decode cX10_aTry 21 = .ok (.invokevirtual 166, 3) := by decide +kernel
theorem dX10_aTry_24 : decode cX10_aTry 24 = .ok (.istore_n 1, 1) := by decide +kernel
theorem dX10_aTry_25 : decode cX10_aTry 25 = .ok (.iconst 1, 1) := by decide +kernel
theorem dX10_aTry_26 : decode cX10_aTry 26 = .ok (.ireturn, 1) := by decide +kernel
theorem dX10_goesOn_0 : decode cX10_goesOn 0 = .ok (.iconst 0, 1) := by decide +kernel
theorem dX10_goesOn_1 : decode cX10_goesOn 1 = .ok (.istore_n 2, 1) := by decide +kernel
theorem dX10_goesOn_2 : decode cX10_goesOn 2 = .ok (.iconst 0, 1) := by decide +kernel
theorem dX10_goesOn_3 : decode cX10_goesOn 3 = .ok (.istore_n 3, 1) := by decide +kernel
theorem dX10_goesOn_4 : decode cX10_goesOn 4 = .ok (.iload_n 3, 1) := by decide +kernel
theorem dX10_goesOn_5 : decode cX10_goesOn 5 = .ok (.iload_n 1, 1) := by decide +kernel
theorem dX10_goesOn_6 : decode cX10_goesOn 6 = .ok (.if_icmp .ge 16, 3) := by decide +kernel
theorem dX10_goesOn_9 : decode cX10_goesOn 9 = .ok (.iload_n 2, 1) := by decide +kernel
theorem dX10_goesOn_10 : decode cX10_goesOn 10 = .ok (.aload_n 0, 1) := by decide +kernel
theorem dX10_goesOn_11 : decode cX10_goesOn 11 = .ok (.invokevirtual 169, 3) := by decide +kernel
theorem dX10_goesOn_14 : decode cX10_goesOn 14 = .ok (.iadd, 1) := by decide +kernel
theorem dX10_goesOn_15 : decode cX10_goesOn 15 = .ok (.istore_n 2, 1) := by decide +kernel
theorem dX10_goesOn_16 : decode cX10_goesOn 16 = .ok (.iinc 3 1, 3) := by decide +kernel
theorem dX10_goesOn_19 : decode cX10_goesOn 19 = .ok (.goto (-15), 3) := by decide +kernel
theorem dX10_goesOn_22 : decode cX10_goesOn 22 = .ok (.iload_n 2, 1) := by decide +kernel
theorem dX10_goesOn_23 : decode cX10_goesOn 23 = .ok (.ireturn, 1) := by decide +kernel
theorem dX10_tries_0 : decode cX10_tries 0 = .ok (.iload_n 1, 1) := by decide +kernel
theorem dX10_tries_1 : decode cX10_tries 1 = .ok (.iconst 1, 1) := by decide +kernel
theorem dX10_tries_2 : decode cX10_tries 2 = .ok (.bipush 100, 2) := by decide +kernel
theorem dX10_tries_4 : decode cX10_tries 4 = .ok (.invokestatic 78, 3) := by decide +kernel
theorem dX10_tries_7 : decode cX10_tries 7 = .ok (.ifCond .eq 25, 3) := by decide +kernel
theorem dX10_tries_10 : decode cX10_tries 10 = .ok (.aload_n 0, 1) := by decide +kernel
theorem dX10_tries_11 : decode cX10_tries 11 = .ok (.sipush 9999, 3) := by decide +kernel
theorem dX10_tries_14 : decode cX10_tries 14 = .ok (.aload_n 0, 1) := by decide +kernel
theorem dX10_tries_15 : decode cX10_tries 15 = .ok (.getfield 9, 3) := by decide +kernel
theorem dX10_tries_18 : decode cX10_tries 18 = .ok (.iconst 2, 1) := by decide +kernel
theorem dX10_tries_19 : decode cX10_tries 19 = .ok (.iaload, 1) := by decide +kernel
theorem dX10_tries_20 : decode cX10_tries 20 = .ok (.isub, 1) := by decide +kernel
theorem dX10_tries_21 : decode cX10_tries 21 = .ok (.iconst 0, 1) := by decide +kernel
theorem dX10_tries_22 : decode cX10_tries 22 = .ok (.iload_n 1, 1) := by decide +kernel
theorem dX10_tries_23 : decode cX10_tries 23 = .ok (.invokestatic 103, 3) := by decide +kernel
theorem dX10_tries_26 : decode cX10_tries 26 = .ok (.invokevirtual 172, 3) := by decide +kernel
theorem dX10_tries_29 : decode cX10_tries 29 = .ok (.goto 5, 3) := by decide +kernel
theorem dX10_tries_32 : decode cX10_tries 32 = .ok (.ldc 86, 2) := by decide +kernel
theorem dX10_tries_34 : decode cX10_tries 34 = .ok (.ireturn, 1) := by decide +kernel
theorem dX10_takes_0 : decode cX10_takes 0 = .ok (.iconst 0, 1) := by decide +kernel
theorem dX10_takes_1 : decode cX10_takes 1 = .ok (.istore_n 3, 1) := by decide +kernel
theorem dX10_takes_2 : decode cX10_takes 2 = .ok (.iload_n 3, 1) := by decide +kernel
theorem dX10_takes_3 : decode cX10_takes 3 = .ok (.bipush 65, 2) := by decide +kernel
theorem dX10_takes_5 : decode cX10_takes 5 = .ok (.if_icmp .ge 15, 3) := by decide +kernel
theorem dX10_takes_8 : decode cX10_takes 8 = .ok (.aload_n 2, 1) := by decide +kernel
theorem dX10_takes_9 : decode cX10_takes 9 = .ok (.iload_n 3, 1) := by decide +kernel
theorem dX10_takes_10 : decode cX10_takes 10 = .ok (.aload_n 1, 1) := by decide +kernel
theorem dX10_takes_11 : decode cX10_takes 11 = .ok (.iload_n 3, 1) := by decide +kernel
theorem dX10_takes_12 : decode cX10_takes 12 = .ok (.iaload, 1) := by decide +kernel
theorem dX10_takes_13 : decode cX10_takes 13 = .ok (.iastore, 1) := by decide +kernel
theorem dX10_takes_14 : decode cX10_takes 14 = .ok (.iinc 3 1, 3) := by decide +kernel
theorem dX10_takes_17 : decode cX10_takes 17 = .ok (.goto (-15), 3) := by decide +kernel
theorem dX10_takes_20 : decode cX10_takes 20 = .ok (.return_, 1) := by decide +kernel
theorem dX10_thinks_0 : decode cX10_thinks 0 = .ok (.aload_n 0, 1) := by decide +kernel
theorem dX10_thinks_1 : decode cX10_thinks 1 = .ok (.aload_n 0, 1) := by decide +kernel
theorem dX10_thinks_2 : decode cX10_thinks 2 = .ok (.getfield 9, 3) := by decide +kernel
theorem dX10_thinks_5 : decode cX10_thinks 5 = .ok (.aload_n 0, 1) := by decide +kernel
theorem dX10_thinks_6 : decode cX10_thinks 6 = .ok (.getfield 19, 3) := by decide +kernel
theorem dX10_thinks_9 : decode cX10_thinks 9 = .ok (.invokevirtual 175, 3) := by decide +kernel
theorem dX10_thinks_12 : decode cX10_thinks 12 = .ok (.return_, 1) := by decide +kernel
theorem dX10_putsBack_0 : decode cX10_putsBack 0 = .ok (.aload_n 0, 1) := by decide +kernel
theorem dX10_putsBack_1 : decode cX10_putsBack 1 = .ok (.aload_n 0, 1) := by decide +kernel
theorem dX10_putsBack_2 : decode cX10_putsBack 2 = .ok (.getfield 19, 3) := by decide +kernel
theorem dX10_putsBack_5 : decode cX10_putsBack 5 = .ok (.aload_n 0, 1) := by decide +kernel
theorem dX10_putsBack_6 : decode cX10_putsBack 6 = .ok (.getfield 9, 3) := by decide +kernel
theorem dX10_putsBack_9 : decode cX10_putsBack 9 = .ok (.invokevirtual 175, 3) := by decide +kernel
theorem dX10_putsBack_12 : decode cX10_putsBack 12 = .ok (.return_, 1) := by decide +kernel
theorem dX10_needsOf_0 : decode cX10_needsOf 0 = .ok (.aload_n 0, 1) := by decide +kernel
theorem dX10_needsOf_1 : decode cX10_needsOf 1 = .ok (.getfield 9, 3) := by decide +kernel
theorem dX10_needsOf_4 : decode cX10_needsOf 4 = .ok (.bipush 7, 2) := by decide +kernel
theorem dX10_needsOf_6 : decode cX10_needsOf 6 = .ok (.iaload, 1) := by decide +kernel
theorem dX10_needsOf_7 : decode cX10_needsOf 7 = .ok (.iconst 1, 1) := by decide +kernel
theorem dX10_needsOf_8 : decode cX10_needsOf 8 = .ok (.if_icmp .ne 5, 3) := by decide +kernel
theorem dX10_needsOf_11 : decode cX10_needsOf 11 = .ok (.iconst 0, 1) := by decide +kernel
theorem dX10_needsOf_12 : decode cX10_needsOf 12 = .ok (.ireturn, 1) := by decide +kernel
theorem dX10_needsOf_13 : decode cX10_needsOf 13 = .ok (.aload_n 0, 1) := by decide +kernel
theorem dX10_needsOf_14 : decode cX10_needsOf 14 = .ok (.getfield 9, 3) := by decide +kernel
theorem dX10_needsOf_17 : decode cX10_needsOf 17 = .ok (.iconst 3, 1) := by decide +kernel
theorem dX10_needsOf_18 : decode cX10_needsOf 18 = .ok (.iload_n 1, 1) := by decide +kernel
theorem dX10_needsOf_19 : decode cX10_needsOf 19 = .ok (.iastore, 1) := by decide +kernel
theorem dX10_needsOf_20 : decode cX10_needsOf 20 = .ok (.iconst 1, 1) := by decide +kernel
theorem dX10_needsOf_21 : decode cX10_needsOf 21 = .ok (.istore_n 2, 1) := by decide +kernel
theorem dX10_needsOf_22 : decode cX10_needsOf 22 = .ok (.iload_n 2, 1) := by decide +kernel
theorem dX10_needsOf_23 : decode cX10_needsOf 23 = .ok (.bipush 13, 2) := by decide +kernel
theorem dX10_needsOf_25 : decode cX10_needsOf 25 = .ok (.if_icmp .ge 36, 3) := by decide +kernel
theorem dX10_needsOf_28 : decode cX10_needsOf 28 = .ok (.aload_n 0, 1) := by decide +kernel
theorem dX10_needsOf_29 : decode cX10_needsOf 29 = .ok (.getfield 9, 3) := by decide +kernel
theorem dX10_needsOf_32 : decode cX10_needsOf 32 = .ok (.iconst 1, 1) := by decide +kernel
theorem dX10_needsOf_33 : decode cX10_needsOf 33 = .ok (.iaload, 1) := by decide +kernel
theorem dX10_needsOf_34 : decode cX10_needsOf 34 = .ok (.ifCond .le 27, 3) := by decide +kernel
theorem dX10_needsOf_37 : decode cX10_needsOf 37 = .ok (.aload_n 0, 1) := by decide +kernel
theorem dX10_needsOf_38 : decode cX10_needsOf 38 = .ok (.invokevirtual 166, 3) := by decide +kernel
theorem dX10_needsOf_41 : decode cX10_needsOf 41 = .ok (.istore_n 3, 1) := by decide +kernel
theorem dX10_needsOf_42 : decode cX10_needsOf 42 = .ok (.aload_n 0, 1) := by decide +kernel
theorem dX10_needsOf_43 : decode cX10_needsOf 43 = .ok (.getfield 9, 3) := by decide +kernel
theorem dX10_needsOf_46 : decode cX10_needsOf 46 = .ok (.bipush 7, 2) := by decide +kernel
theorem dX10_needsOf_48 : decode cX10_needsOf 48 = .ok (.iaload, 1) := by decide +kernel
theorem dX10_needsOf_49 : decode cX10_needsOf 49 = .ok (.iconst 1, 1) := by decide +kernel
theorem dX10_needsOf_50 : decode cX10_needsOf 50 = .ok (.if_icmp .ne 5, 3) := by decide +kernel
theorem dX10_needsOf_53 : decode cX10_needsOf 53 = .ok (.iload_n 2, 1) := by decide +kernel
theorem dX10_needsOf_54 : decode cX10_needsOf 54 = .ok (.ireturn, 1) := by decide +kernel
theorem dX10_needsOf_55 : decode cX10_needsOf 55 = .ok (.iinc 2 1, 3) := by decide +kernel
theorem dX10_needsOf_58 : decode cX10_needsOf 58 = .ok (.goto (-36), 3) := by decide +kernel
theorem dX10_needsOf_61 : decode cX10_needsOf 61 = .ok (.bipush 13, 2) := by decide +kernel
theorem dX10_needsOf_63 : decode cX10_needsOf 63 = .ok (.ireturn, 1) := by decide +kernel
theorem dX10_needsBy_0 : decode cX10_needsBy 0 = .ok (.aload_n 0, 1) := by decide +kernel
theorem dX10_needsBy_1 : decode cX10_needsBy 1 = .ok (.aload_n 0, 1) := by decide +kernel
theorem dX10_needsBy_2 : decode cX10_needsBy 2 = .ok (.getfield 9, 3) := by decide +kernel
theorem dX10_needsBy_5 : decode cX10_needsBy 5 = .ok (.aload_n 0, 1) := by decide +kernel
theorem dX10_needsBy_6 : decode cX10_needsBy 6 = .ok (.getfield 22, 3) := by decide +kernel
theorem dX10_needsBy_9 : decode cX10_needsBy 9 = .ok (.invokevirtual 175, 3) := by decide +kernel
theorem dX10_needsBy_12 : decode cX10_needsBy 12 = .ok (.aload_n 0, 1) := by decide +kernel
theorem dX10_needsBy_13 : decode cX10_needsBy 13 = .ok (.iload_n 1, 1) := by decide +kernel
theorem dX10_needsBy_14 : decode cX10_needsBy 14 = .ok (.invokevirtual 179, 3) := by decide +kernel
theorem dX10_needsBy_17 : decode cX10_needsBy 17 = .ok (.istore_n 2, 1) := by decide +kernel
theorem dX10_needsBy_18 : decode cX10_needsBy 18 = .ok (.aload_n 0, 1) := by decide +kernel
theorem dX10_needsBy_19 : decode cX10_needsBy 19 = .ok (.aload_n 0, 1) := by decide +kernel
theorem dX10_needsBy_20 : decode cX10_needsBy 20 = .ok (.getfield 22, 3) := by decide +kernel
theorem dX10_needsBy_23 : decode cX10_needsBy 23 = .ok (.aload_n 0, 1) := by decide +kernel
theorem dX10_needsBy_24 : decode cX10_needsBy 24 = .ok (.getfield 9, 3) := by decide +kernel
theorem dX10_needsBy_27 : decode cX10_needsBy 27 = .ok (.invokevirtual 175, 3) := by decide +kernel
theorem dX10_needsBy_30 : decode cX10_needsBy 30 = .ok (.iload_n 2, 1) := by decide +kernel
theorem dX10_needsBy_31 : decode cX10_needsBy 31 = .ok (.ireturn, 1) := by decide +kernel
theorem dX10_needsAll_0 : decode cX10_needsAll 0 = .ok (.iconst 0, 1) := by decide +kernel
theorem dX10_needsAll_1 : decode cX10_needsAll 1 = .ok (.istore_n 1, 1) := by decide +kernel
theorem dX10_needsAll_2 : decode cX10_needsAll 2 = .ok (.iconst 0, 1) := by decide +kernel
theorem dX10_needsAll_3 : decode cX10_needsAll 3 = .ok (.istore_n 2, 1) := by decide +kernel
theorem dX10_needsAll_4 : decode cX10_needsAll 4 = .ok (.iload_n 2, 1) := by decide +kernel
theorem dX10_needsAll_5 : decode cX10_needsAll 5 = .ok (.bipush 100, 2) := by decide +kernel
theorem dX10_needsAll_7 : decode cX10_needsAll 7 = .ok (.if_icmp .ge 17, 3) := by decide +kernel
theorem dX10_needsAll_10 : decode cX10_needsAll 10 = .ok (.iload_n 1, 1) := by decide +kernel
theorem dX10_needsAll_11 : decode cX10_needsAll 11 = .ok (.aload_n 0, 1) := by decide +kernel
theorem dX10_needsAll_12 : decode cX10_needsAll 12 = .ok (.iload_n 2, 1) := by decide +kernel
theorem dX10_needsAll_13 : decode cX10_needsAll 13 = .ok (.invokevirtual 182, 3) := by decide +kernel
theorem dX10_needsAll_16 : decode cX10_needsAll 16 = .ok (.iadd, 1) := by decide +kernel
theorem dX10_needsAll_17 : decode cX10_needsAll 17 = .ok (.istore_n 1, 1) := by decide +kernel
theorem dX10_needsAll_18 : decode cX10_needsAll 18 = .ok (.iinc 2 1, 3) := by decide +kernel
theorem dX10_needsAll_21 : decode cX10_needsAll 21 = .ok (.goto (-17), 3) := by decide +kernel
theorem dX10_needsAll_24 : decode cX10_needsAll 24 = .ok (.iload_n 1, 1) := by decide +kernel
theorem dX10_needsAll_25 : decode cX10_needsAll 25 = .ok (.ireturn, 1) := by decide +kernel
theorem dX10_needs_0 : decode cX10_needs 0 = .ok (.iload_n 1, 1) := by decide +kernel
theorem dX10_needs_1 : decode cX10_needs 1 = .ok (.iconst 0, 1) := by decide +kernel
theorem dX10_needs_2 : decode cX10_needs 2 = .ok (.bipush 99, 2) := by decide +kernel
theorem dX10_needs_4 : decode cX10_needs 4 = .ok (.invokestatic 78, 3) := by decide +kernel
theorem dX10_needs_7 : decode cX10_needs 7 = .ok (.ifCond .ne 6, 3) := by decide +kernel
theorem dX10_needs_10 : decode cX10_needs 10 = .ok (.ldc 86, 2) := by decide +kernel
theorem dX10_needs_12 : decode cX10_needs 12 = .ok (.ireturn, 1) := by decide +kernel
theorem dX10_needs_13 : decode cX10_needs 13 = .ok (.aload_n 0, 1) := by decide +kernel
theorem dX10_needs_14 : decode cX10_needs 14 = .ok (.iload_n 1, 1) := by decide +kernel
theorem dX10_needs_15 : decode cX10_needs 15 = .ok (.invokevirtual 182, 3) := by decide +kernel
theorem dX10_needs_18 : decode cX10_needs 18 = .ok (.istore_n 2, 1) := by decide +kernel
theorem dX10_needs_19 : decode cX10_needs 19 = .ok (.iload_n 2, 1) := by decide +kernel
theorem dX10_needs_20 : decode cX10_needs 20 = .ok (.bipush 13, 2) := by decide +kernel
theorem dX10_needs_22 : decode cX10_needs 22 = .ok (.if_icmp .ne 8, 3) := by decide +kernel
theorem dX10_needs_25 : decode cX10_needs 25 = .ok (.ldc 185, 2) := by decide +kernel
theorem dX10_needs_27 : decode cX10_needs 27 = .ok (.goto 4, 3) := by decide +kernel
theorem dX10_needs_30 : decode cX10_needs 30 = .ok (.iload_n 2, 1) := by decide +kernel
theorem dX10_needs_31 : decode cX10_needs 31 = .ok (.ireturn, 1) := by decide +kernel
theorem dX10_worst_0 : decode cX10_worst 0 = .ok (.iload_n 1, 1) := by decide +kernel
theorem dX10_worst_1 : decode cX10_worst 1 = .ok (.iconst 0, 1) := by decide +kernel
theorem dX10_worst_2 : decode cX10_worst 2 = .ok (.iconst 1, 1) := by decide +kernel
theorem dX10_worst_3 : decode cX10_worst 3 = .ok (.invokestatic 78, 3) := by decide +kernel
theorem dX10_worst_6 : decode cX10_worst 6 = .ok (.ifCond .ne 6, 3) := by decide +kernel
theorem dX10_worst_9 : decode cX10_worst 9 = .ok (.ldc 86, 2) := by decide +kernel
theorem dX10_worst_11 : decode cX10_worst 11 = .ok (.ireturn, 1) := by decide +kernel
theorem dX10_worst_12 : decode cX10_worst 12 = .ok (.iconst 0, 1) := by decide +kernel
theorem dX10_worst_13 : decode cX10_worst 13 = .ok (.istore_n 2, 1) := by decide +kernel
theorem dX10_worst_14 : decode cX10_worst 14 = .ok (.iconst (-1), 1) := by decide +kernel
theorem dX10_worst_15 : decode cX10_worst 15 = .ok (.istore_n 3, 1) := by decide +kernel
theorem dX10_worst_16 : decode cX10_worst 16 = .ok (.iconst 0, 1) := by decide +kernel
theorem dX10_worst_17 : decode cX10_worst 17 = .ok (.istore 4, 2) := by decide +kernel
theorem dX10_worst_19 : decode cX10_worst 19 = .ok (.iload 4, 2) := by decide +kernel
theorem dX10_worst_21 : decode cX10_worst 21 = .ok (.bipush 100, 2) := by decide +kernel
theorem dX10_worst_23 : decode cX10_worst 23 = .ok (.if_icmp .ge 43, 3) := by decide +kernel
theorem dX10_worst_26 : decode cX10_worst 26 = .ok (.aload_n 0, 1) := by decide +kernel
theorem dX10_worst_27 : decode cX10_worst 27 = .ok (.iload 4, 2) := by decide +kernel
theorem dX10_worst_29 : decode cX10_worst 29 = .ok (.invokevirtual 182, 3) := by decide +kernel
theorem dX10_worst_32 : decode cX10_worst 32 = .ok (.istore 5, 2) := by decide +kernel
theorem dX10_worst_34 : decode cX10_worst 34 = .ok (.iload 5, 2) := by decide +kernel
theorem dX10_worst_36 : decode cX10_worst 36 = .ok (.iload_n 3, 1) := by decide +kernel
theorem dX10_worst_37 : decode cX10_worst 37 = .ok (.if_icmp .le 8, 3) := by decide +kernel
theorem dX10_worst_40 : decode cX10_worst 40 = .ok (.iload 4, 2) := by decide +kernel
theorem dX10_worst_42 : decode cX10_worst 42 = .ok (.goto 4, 3) := by decide +kernel
theorem dX10_worst_45 : decode cX10_worst 45 = .ok (.iload_n 2, 1) := by decide +kernel
theorem dX10_worst_46 : decode cX10_worst 46 = .ok (.istore_n 2, 1) := by decide +kernel
theorem dX10_worst_47 : decode cX10_worst 47 = .ok (.iload 5, 2) := by decide +kernel
theorem dX10_worst_49 : decode cX10_worst 49 = .ok (.iload_n 3, 1) := by decide +kernel
theorem dX10_worst_50 : decode cX10_worst 50 = .ok (.if_icmp .le 8, 3) := by decide +kernel
theorem dX10_worst_53 : decode cX10_worst 53 = .ok (.iload 5, 2) := by decide +kernel
theorem dX10_worst_55 : decode cX10_worst 55 = .ok (.goto 4, 3) := by decide +kernel
theorem dX10_worst_58 : decode cX10_worst 58 = .ok (.iload_n 3, 1) := by decide +kernel
theorem dX10_worst_59 : decode cX10_worst 59 = .ok (.istore_n 3, 1) := by decide +kernel
theorem dX10_worst_60 : decode cX10_worst 60 = .ok (.iinc 4 1, 3) := by decide +kernel
theorem dX10_worst_63 : decode cX10_worst 63 = .ok (.goto (-44), 3) := by decide +kernel
theorem dX10_worst_66 : decode cX10_worst 66 = .ok (.iload_n 1, 1) := by decide +kernel
theorem dX10_worst_67 : decode cX10_worst 67 = .ok (.ifCond .ne 7, 3) := by decide +kernel
theorem dX10_worst_70 : decode cX10_worst 70 = .ok (.iload_n 2, 1) := by decide +kernel
theorem dX10_worst_71 : decode cX10_worst 71 = .ok (.goto 4, 3) := by decide +kernel
theorem dX10_worst_74 : decode cX10_worst 74 = .ok (.iload_n 3, 1) := by decide +kernel
theorem dX10_worst_75 : decode cX10_worst 75 = .ok (.ireturn, 1) := by decide +kernel
theorem dX10_had_0 : decode cX10_had 0 = .ok (.iload_n 1, 1) := by decide +kernel
theorem dX10_had_1 : decode cX10_had 1 = .ok (.iconst 0, 1) := by decide +kernel
theorem dX10_had_2 : decode cX10_had 2 = .ok (.bipush 12, 2) := by decide +kernel
theorem dX10_had_4 : decode cX10_had 4 = .ok (.invokestatic 78, 3) := by decide +kernel
theorem dX10_had_7 : decode cX10_had 7 = .ok (.ifCond .ne 6, 3) := by decide +kernel
theorem dX10_had_10 : decode cX10_had 10 = .ok (.ldc 86, 2) := by decide +kernel
theorem dX10_had_12 : decode cX10_had 12 = .ok (.ireturn, 1) := by decide +kernel
theorem dX10_had_13 : decode cX10_had 13 = .ok (.iconst 0, 1) := by decide +kernel
theorem dX10_had_14 : decode cX10_had 14 = .ok (.istore_n 2, 1) := by decide +kernel
theorem dX10_had_15 : decode cX10_had 15 = .ok (.iconst 0, 1) := by decide +kernel
theorem dX10_had_16 : decode cX10_had 16 = .ok (.istore_n 3, 1) := by decide +kernel
theorem dX10_had_17 : decode cX10_had 17 = .ok (.iload_n 3, 1) := by decide +kernel
theorem dX10_had_18 : decode cX10_had 18 = .ok (.bipush 100, 2) := by decide +kernel
theorem dX10_had_20 : decode cX10_had 20 = .ok (.if_icmp .ge 26, 3) := by decide +kernel
theorem dX10_had_23 : decode cX10_had 23 = .ok (.iload_n 2, 1) := by decide +kernel
theorem dX10_had_24 : decode cX10_had 24 = .ok (.aload_n 0, 1) := by decide +kernel
theorem dX10_had_25 : decode cX10_had 25 = .ok (.iload_n 3, 1) := by decide +kernel
theorem dX10_had_26 : decode cX10_had 26 = .ok (.invokevirtual 182, 3) := by decide +kernel
theorem dX10_had_29 : decode cX10_had 29 = .ok (.iload_n 1, 1) := by decide +kernel
theorem dX10_had_30 : decode cX10_had 30 = .ok (.if_icmp .gt 7, 3) := by decide +kernel
theorem dX10_had_33 : decode cX10_had 33 = .ok (.iconst 1, 1) := by decide +kernel
theorem dX10_had_34 : decode cX10_had 34 = .ok (.goto 4, 3) := by decide +kernel
theorem dX10_had_37 : decode cX10_had 37 = .ok (.iconst 0, 1) := by decide +kernel
theorem dX10_had_38 : decode cX10_had 38 = .ok (.iadd, 1) := by decide +kernel
theorem dX10_had_39 : decode cX10_had 39 = .ok (.istore_n 2, 1) := by decide +kernel
theorem dX10_had_40 : decode cX10_had 40 = .ok (.iinc 3 1, 3) := by decide +kernel
theorem dX10_had_43 : decode cX10_had 43 = .ok (.goto (-26), 3) := by decide +kernel
theorem dX10_had_46 : decode cX10_had 46 = .ok (.iload_n 2, 1) := by decide +kernel
theorem dX10_had_47 : decode cX10_had 47 = .ok (.ireturn, 1) := by decide +kernel
theorem dX10_start_0 : decode cX10_start 0 = .ok (.aload_n 0, 1) := by decide +kernel
theorem dX10_start_1 : decode cX10_start 1 = .ok (.iload_n 1, 1) := by decide +kernel
theorem dX10_start_2 : decode cX10_start 2 = .ok (.invokevirtual 107, 3) := by decide +kernel
theorem dX10_start_5 : decode cX10_start 5 = .ok (.ifCond .eq 12, 3) := by decide +kernel
theorem dX10_start_8 : decode cX10_start 8 = .ok (.iload_n 2, 1) := by decide +kernel
theorem dX10_start_9 : decode cX10_start 9 = .ok (.iconst 0, 1) := by decide +kernel
theorem dX10_start_10 : decode cX10_start 10 = .ok (.iconst 1, 1) := by decide +kernel
theorem dX10_start_11 : decode cX10_start 11 = .ok (.invokestatic 78, 3) := by decide +kernel
theorem dX10_start_14 : decode cX10_start 14 = .ok (.ifCond .ne 6, 3) := by decide +kernel
theorem dX10_start_17 : decode cX10_start 17 = .ok (.ldc 86, 2) := by decide +kernel
theorem dX10_start_19 : decode cX10_start 19 = .ok (.ireturn, 1) := by decide +kernel
theorem dX10_start_20 : decode cX10_start 20 = .ok (.aload_n 0, 1) := by decide +kernel
theorem dX10_start_21 : decode cX10_start 21 = .ok (.iload_n 1, 1) := by decide +kernel
theorem dX10_start_22 : decode cX10_start 22 = .ok (.iconst 1, 1) := by decide +kernel
theorem dX10_start_23 : decode cX10_start 23 = .ok (.invokevirtual 96, 3) := by decide +kernel
theorem dX10_start_26 : decode cX10_start 26 = .ok (.istore_n 3, 1) := by decide +kernel
theorem dX10_start_27 : decode cX10_start 27 = .ok (.iconst 0, 1) := by decide +kernel
theorem dX10_start_28 : decode cX10_start 28 = .ok (.istore 4, 2) := by decide +kernel
theorem dX10_start_30 : decode cX10_start 30 = .ok (.iconst (-1), 1) := by decide +kernel
theorem dX10_start_31 : decode cX10_start 31 = .ok (.istore 5, 2) := by decide +kernel
theorem dX10_start_33 : decode cX10_start 33 = .ok (.iconst 0, 1) := by decide +kernel
theorem dX10_start_34 : decode cX10_start 34 = .ok (.istore 6, 2) := by decide +kernel
theorem dX10_start_36 : decode cX10_start 36 = .ok (.iload 6, 2) := by decide +kernel
theorem dX10_start_38 : decode cX10_start 38 = .ok (.bipush 100, 2) := by decide +kernel
theorem dX10_start_40 : decode cX10_start 40 = .ok (.if_icmp .ge 65, 3) := by decide +kernel
theorem dX10_start_43 : decode cX10_start 43 = .ok (.aload_n 0, 1) := by decide +kernel
theorem dX10_start_44 : decode cX10_start 44 = .ok (.iload_n 1, 1) := by decide +kernel
theorem dX10_start_45 : decode cX10_start 45 = .ok (.iconst 1, 1) := by decide +kernel
theorem dX10_start_46 : decode cX10_start 46 = .ok (.iload 6, 2) := by decide +kernel
theorem dX10_start_48 : decode cX10_start 48 = .ok (.invokevirtual 82, 3) := by decide +kernel
theorem dX10_start_51 : decode cX10_start 51 = .ok (.aload_n 0, 1) := by decide +kernel
theorem dX10_start_52 : decode cX10_start 52 = .ok (.invokevirtual 186, 3) := by decide +kernel
theorem dX10_start_55 : decode cX10_start 55 = .ok (.istore 7, 2) := by decide +kernel
theorem dX10_start_57 : decode cX10_start 57 = .ok (.iload 5, 2) := by decide +kernel
theorem dX10_start_59 : decode cX10_start 59 = .ok (.ifCond .lt 10, 3) := by decide +kernel
theorem dX10_start_62 : decode cX10_start 62 = .ok (.iload 7, 2) := by decide +kernel
theorem dX10_start_64 : decode cX10_start 64 = .ok (.iload 5, 2) := by decide +kernel
theorem dX10_start_66 : decode cX10_start 66 = .ok (.if_icmp .ge 8, 3) := by decide +kernel
theorem dX10_start_69 : decode cX10_start 69 = .ok (.iload 6, 2) := by decide +kernel
theorem dX10_start_71 : decode cX10_start 71 = .ok (.goto 5, 3) := by decide +kernel
theorem dX10_start_74 : decode cX10_start 74 = .ok (.iload 4, 2) := by decide +kernel
theorem dX10_start_76 : decode cX10_start 76 = .ok (.istore 4, 2) := by decide +kernel
theorem dX10_start_78 : decode cX10_start 78 = .ok (.iload 5, 2) := by decide +kernel
theorem dX10_start_80 : decode cX10_start 80 = .ok (.ifCond .lt 10, 3) := by decide +kernel
theorem dX10_start_83 : decode cX10_start 83 = .ok (.iload 7, 2) := by decide +kernel
theorem dX10_start_85 : decode cX10_start 85 = .ok (.iload 5, 2) := by decide +kernel
theorem dX10_start_87 : decode cX10_start 87 = .ok (.if_icmp .ge 8, 3) := by decide +kernel
theorem dX10_start_90 : decode cX10_start 90 = .ok (.iload 7, 2) := by decide +kernel
theorem dX10_start_92 : decode cX10_start 92 = .ok (.goto 5, 3) := by decide +kernel
theorem dX10_start_95 : decode cX10_start 95 = .ok (.iload 5, 2) := by decide +kernel
theorem dX10_start_97 : decode cX10_start 97 = .ok (.istore 5, 2) := by decide +kernel
theorem dX10_start_99 : decode cX10_start 99 = .ok (.iinc 6 10, 3) := by decide +kernel
theorem dX10_start_102 : decode cX10_start 102 = .ok (.goto (-66), 3) := by decide +kernel
theorem dX10_start_105 : decode cX10_start 105 = .ok (.aload_n 0, 1) := by decide +kernel
theorem dX10_start_106 : decode cX10_start 106 = .ok (.iload_n 1, 1) := by decide +kernel
theorem dX10_start_107 : decode cX10_start 107 = .ok (.iconst 1, 1) := by decide +kernel
theorem dX10_start_108 : decode cX10_start 108 = .ok (.iload_n 3, 1) := by decide +kernel
theorem dX10_start_109 : decode cX10_start 109 = .ok (.invokevirtual 82, 3) := by decide +kernel
theorem dX10_start_112 : decode cX10_start 112 = .ok (.iload_n 2, 1) := by decide +kernel
theorem dX10_start_113 : decode cX10_start 113 = .ok (.ifCond .ne 8, 3) := by decide +kernel
theorem dX10_start_116 : decode cX10_start 116 = .ok (.iload 4, 2) := by decide +kernel
theorem dX10_start_118 : decode cX10_start 118 = .ok (.goto 5, 3) := by decide +kernel
theorem dX10_start_121 : decode cX10_start 121 = .ok (.iload 5, 2) := by decide +kernel
theorem dX10_start_123 : decode cX10_start 123 = .ok (.ireturn, 1) := by decide +kernel
theorem dX10_tells_0 : decode cX10_tells 0 = .ok (.iload_n 1, 1) := by decide +kernel
theorem dX10_tells_1 : decode cX10_tells 1 = .ok (.iconst 0, 1) := by decide +kernel
theorem dX10_tells_2 : decode cX10_tells 2 = .ok (.iconst 1, 1) := by decide +kernel
theorem dX10_tells_3 : decode cX10_tells 3 = .ok (.invokestatic 78, 3) := by decide +kernel
theorem dX10_tells_6 : decode cX10_tells 6 = .ok (.ifCond .ne 6, 3) := by decide +kernel
theorem dX10_tells_9 : decode cX10_tells 9 = .ok (.ldc 86, 2) := by decide +kernel
theorem dX10_tells_11 : decode cX10_tells 11 = .ok (.ireturn, 1) := by decide +kernel
theorem dX10_tells_12 : decode cX10_tells 12 = .ok (.aload_n 0, 1) := by decide +kernel
theorem dX10_tells_13 : decode cX10_tells 13 = .ok (.invokevirtual 189, 3) := by decide +kernel
theorem dX10_tells_16 : decode cX10_tells 16 = .ok (.ldc 185, 2) := by decide +kernel
theorem dX10_tells_18 : decode cX10_tells 18 = .ok (.istore_n 2, 1) := by decide +kernel
theorem dX10_tells_19 : decode cX10_tells 19 = .ok (.ldc 185, 2) := by decide +kernel
theorem dX10_tells_21 : decode cX10_tells 21 = .ok (.istore_n 3, 1) := by decide +kernel
theorem dX10_tells_22 : decode cX10_tells 22 = .ok (.iconst 0, 1) := by decide +kernel
theorem dX10_tells_23 : decode cX10_tells 23 = .ok (.istore 4, 2) := by decide +kernel
theorem dX10_tells_25 : decode cX10_tells 25 = .ok (.iload 4, 2) := by decide +kernel
theorem dX10_tells_27 : decode cX10_tells 27 = .ok (.aload_n 0, 1) := by decide +kernel
theorem dX10_tells_28 : decode cX10_tells 28 = .ok (.getfield 9, 3) := by decide +kernel
theorem dX10_tells_31 : decode cX10_tells 31 = .ok (.iconst 1, 1) := by decide +kernel
theorem dX10_tells_32 : decode cX10_tells 32 = .ok (.iaload, 1) := by decide +kernel
theorem dX10_tells_33 : decode cX10_tells 33 = .ok (.if_icmp .ge 77, 3) := by decide +kernel
theorem dX10_tells_36 : decode cX10_tells 36 = .ok (.iconst 0, 1) := by decide +kernel
theorem dX10_tells_37 : decode cX10_tells 37 = .ok (.istore 5, 2) := by decide +kernel
theorem dX10_tells_39 : decode cX10_tells 39 = .ok (.iload 5, 2) := by decide +kernel
theorem dX10_tells_41 : decode cX10_tells 41 = .ok (.aload_n 0, 1) := by decide +kernel
theorem dX10_tells_42 : decode cX10_tells 42 = .ok (.getfield 9, 3) := by decide +kernel
theorem dX10_tells_45 : decode cX10_tells 45 = .ok (.iconst 1, 1) := by decide +kernel
theorem dX10_tells_46 : decode cX10_tells 46 = .ok (.iaload, 1) := by decide +kernel
theorem dX10_tells_47 : decode cX10_tells 47 = .ok (.if_icmp .ge 29, 3) := by decide +kernel
theorem dX10_tells_50 : decode cX10_tells 50 = .ok (.aload_n 0, 1) := by decide +kernel
theorem dX10_tells_51 : decode cX10_tells 51 = .ok (.iload 5, 2) := by decide +kernel
theorem dX10_tells_53 : decode cX10_tells 53 = .ok (.bipush 6, 2) := by decide +kernel
theorem dX10_tells_55 : decode cX10_tells 55 = .ok (.iload 5, 2) := by decide +kernel
theorem dX10_tells_57 : decode cX10_tells 57 = .ok (.iload 4, 2) := by decide +kernel
theorem dX10_tells_59 : decode cX10_tells 59 = .ok (.if_icmp .ne 7, 3) := by decide +kernel
theorem dX10_tells_62 : decode cX10_tells 62 = .ok (.iconst 1, 1) := by decide +kernel
theorem dX10_tells_63 : decode cX10_tells 63 = .ok (.goto 4, 3) := by decide +kernel
theorem dX10_tells_66 : decode cX10_tells 66 = .ok (.iconst 0, 1) := by decide +kernel
theorem dX10_tells_67 : decode cX10_tells 67 = .ok (.invokevirtual 82, 3) := by decide +kernel
theorem dX10_tells_70 : decode cX10_tells 70 = .ok (.iinc 5 1, 3) := by decide +kernel
theorem dX10_tells_73 : decode cX10_tells 73 = .ok (.goto (-34), 3) := by decide +kernel
theorem dX10_tells_76 : decode cX10_tells 76 = .ok (.aload_n 0, 1) := by decide +kernel
theorem dX10_tells_77 : decode cX10_tells 77 = .ok (.invokevirtual 186, 3) := by decide +kernel
theorem dX10_tells_80 : decode cX10_tells 80 = .ok (.istore 5, 2) := by decide +kernel
theorem dX10_tells_82 : decode cX10_tells 82 = .ok (.aload_n 0, 1) := by decide +kernel
theorem dX10_tells_83 : decode cX10_tells 83 = .ok (.invokevirtual 192, 3) := by decide +kernel
theorem dX10_tells_86 : decode cX10_tells 86 = .ok (.iload_n 2, 1) := by decide +kernel
theorem dX10_tells_87 : decode cX10_tells 87 = .ok (.ldc 185, 2) := by decide +kernel
theorem dX10_tells_89 : decode cX10_tells 89 = .ok (.if_icmp .eq 9, 3) := by decide +kernel
theorem dX10_tells_92 : decode cX10_tells 92 = .ok (.iload 5, 2) := by decide +kernel
theorem dX10_tells_94 : decode cX10_tells 94 = .ok (.iload_n 3, 1) := by decide +kernel
theorem dX10_tells_95 : decode cX10_tells 95 = .ok (.if_icmp .ge 9, 3) := by decide +kernel
theorem dX10_tells_98 : decode cX10_tells 98 = .ok (.iload 4, 2) := by decide +kernel
theorem dX10_tells_100 : decode cX10_tells 100 = .ok (.istore_n 2, 1) := by decide +kernel
theorem dX10_tells_101 : decode cX10_tells 101 = .ok (.iload 5, 2) := by decide +kernel
theorem dX10_tells_103 : decode cX10_tells 103 = .ok (.istore_n 3, 1) := by decide +kernel
theorem dX10_tells_104 : decode cX10_tells 104 = .ok (.iinc 4 1, 3) := by decide +kernel
theorem dX10_tells_107 : decode cX10_tells 107 = .ok (.goto (-82), 3) := by decide +kernel
theorem dX10_tells_110 : decode cX10_tells 110 = .ok (.iload_n 1, 1) := by decide +kernel
theorem dX10_tells_111 : decode cX10_tells 111 = .ok (.ifCond .ne 7, 3) := by decide +kernel
theorem dX10_tells_114 : decode cX10_tells 114 = .ok (.iload_n 2, 1) := by decide +kernel
theorem dX10_tells_115 : decode cX10_tells 115 = .ok (.goto 4, 3) := by decide +kernel
theorem dX10_tells_118 : decode cX10_tells 118 = .ok (.iload_n 3, 1) := by decide +kernel
theorem dX10_tells_119 : decode cX10_tells 119 = .ok (.ireturn, 1) := by decide +kernel
theorem dX10_keeps_0 : decode cX10_keeps 0 = .ok (.aload_n 0, 1) := by decide +kernel
theorem dX10_keeps_1 : decode cX10_keeps 1 = .ok (.iload_n 1, 1) := by decide +kernel
theorem dX10_keeps_2 : decode cX10_keeps 2 = .ok (.invokevirtual 107, 3) := by decide +kernel
theorem dX10_keeps_5 : decode cX10_keeps 5 = .ok (.ifCond .ne 6, 3) := by decide +kernel
theorem dX10_keeps_8 : decode cX10_keeps 8 = .ok (.ldc 86, 2) := by decide +kernel
theorem dX10_keeps_10 : decode cX10_keeps 10 = .ok (.ireturn, 1) := by decide +kernel
theorem dX10_keeps_11 : decode cX10_keeps 11 = .ok (.aload_n 0, 1) := by decide +kernel
theorem dX10_keeps_12 : decode cX10_keeps 12 = .ok (.aload_n 0, 1) := by decide +kernel
theorem dX10_keeps_13 : decode cX10_keeps 13 = .ok (.getfield 9, 3) := by decide +kernel
theorem dX10_keeps_16 : decode cX10_keeps 16 = .ok (.iconst 3, 1) := by decide +kernel
theorem dX10_keeps_17 : decode cX10_keeps 17 = .ok (.iaload, 1) := by decide +kernel
theorem dX10_keeps_18 : decode cX10_keeps 18 = .ok (.invokevirtual 182, 3) := by decide +kernel
theorem dX10_keeps_21 : decode cX10_keeps 21 = .ok (.istore_n 2, 1) := by decide +kernel
theorem dX10_keeps_22 : decode cX10_keeps 22 = .ok (.aload_n 0, 1) := by decide +kernel
theorem dX10_keeps_23 : decode cX10_keeps 23 = .ok (.bipush 9, 2) := by decide +kernel
theorem dX10_keeps_25 : decode cX10_keeps 25 = .ok (.bipush 7, 2) := by decide +kernel
theorem dX10_keeps_27 : decode cX10_keeps 27 = .ok (.iload_n 1, 1) := by decide +kernel
theorem dX10_keeps_28 : decode cX10_keeps 28 = .ok (.imul, 1) := by decide +kernel
theorem dX10_keeps_29 : decode cX10_keeps 29 = .ok (.iadd, 1) := by decide +kernel
theorem dX10_keeps_30 : decode cX10_keeps 30 = .ok (.iconst 5, 1) := by decide +kernel
theorem dX10_keeps_31 : decode cX10_keeps 31 = .ok (.invokevirtual 122, 3) := by decide +kernel
theorem dX10_keeps_34 : decode cX10_keeps 34 = .ok (.istore_n 3, 1) := by decide +kernel
theorem dX10_keeps_35 : decode cX10_keeps 35 = .ok (.aload_n 0, 1) := by decide +kernel
theorem dX10_keeps_36 : decode cX10_keeps 36 = .ok (.aload_n 0, 1) := by decide +kernel
theorem dX10_keeps_37 : decode cX10_keeps 37 = .ok (.getfield 9, 3) := by decide +kernel
theorem dX10_keeps_40 : decode cX10_keeps 40 = .ok (.iconst 3, 1) := by decide +kernel
theorem dX10_keeps_41 : decode cX10_keeps 41 = .ok (.iaload, 1) := by decide +kernel
theorem dX10_keeps_42 : decode cX10_keeps 42 = .ok (.invokevirtual 182, 3) := by decide +kernel
theorem dX10_keeps_45 : decode cX10_keeps 45 = .ok (.istore 4, 2) := by decide +kernel
theorem dX10_keeps_47 : decode cX10_keeps 47 = .ok (.aload_n 0, 1) := by decide +kernel
theorem dX10_keeps_48 : decode cX10_keeps 48 = .ok (.iload_n 1, 1) := by decide +kernel
theorem dX10_keeps_49 : decode cX10_keeps 49 = .ok (.iconst 0, 1) := by decide +kernel
theorem dX10_keeps_50 : decode cX10_keeps 50 = .ok (.iload_n 3, 1) := by decide +kernel
theorem dX10_keeps_51 : decode cX10_keeps 51 = .ok (.invokevirtual 82, 3) := by decide +kernel
theorem dX10_keeps_54 : decode cX10_keeps 54 = .ok (.iload 4, 2) := by decide +kernel
theorem dX10_keeps_56 : decode cX10_keeps 56 = .ok (.iload_n 2, 1) := by decide +kernel
theorem dX10_keeps_57 : decode cX10_keeps 57 = .ok (.isub, 1) := by decide +kernel
theorem dX10_keeps_58 : decode cX10_keeps 58 = .ok (.ireturn, 1) := by decide +kernel
theorem dX10_behind_0 : decode cX10_behind 0 = .ok (.aload_n 0, 1) := by decide +kernel
theorem dX10_behind_1 : decode cX10_behind 1 = .ok (.iload_n 1, 1) := by decide +kernel
theorem dX10_behind_2 : decode cX10_behind 2 = .ok (.invokevirtual 107, 3) := by decide +kernel
theorem dX10_behind_5 : decode cX10_behind 5 = .ok (.ifCond .eq 22, 3) := by decide +kernel
theorem dX10_behind_8 : decode cX10_behind 8 = .ok (.iload_n 2, 1) := by decide +kernel
theorem dX10_behind_9 : decode cX10_behind 9 = .ok (.iconst 0, 1) := by decide +kernel
theorem dX10_behind_10 : decode cX10_behind 10 = .ok (.bipush 100, 2) := by decide +kernel
theorem dX10_behind_12 : decode cX10_behind 12 = .ok (.invokestatic 78, 3) := by decide +kernel
theorem dX10_behind_15 : decode cX10_behind 15 = .ok (.ifCond .eq 12, 3) := by decide +kernel
theorem dX10_behind_18 : decode cX10_behind 18 = .ok (.iload_n 3, 1) := by decide +kernel
theorem dX10_behind_19 : decode cX10_behind 19 = .ok (.iconst 0, 1) := by decide +kernel
theorem dX10_behind_20 : decode cX10_behind 20 = .ok (.iconst 3, 1) := by decide +kernel
theorem dX10_behind_21 : decode cX10_behind 21 = .ok (.invokestatic 78, 3) := by decide +kernel
theorem dX10_behind_24 : decode cX10_behind 24 = .ok (.ifCond .ne 6, 3) := by decide +kernel
theorem dX10_behind_27 : decode cX10_behind 27 = .ok (.ldc 86, 2) := by decide +kernel
theorem dX10_behind_29 : decode cX10_behind 29 = .ok (.ireturn, 1) := by decide +kernel
theorem dX10_behind_30 : decode cX10_behind 30 = .ok (.aload_n 0, 1) := by decide +kernel
theorem dX10_behind_31 : decode cX10_behind 31 = .ok (.invokevirtual 189, 3) := by decide +kernel
theorem dX10_behind_34 : decode cX10_behind 34 = .ok (.aload_n 0, 1) := by decide +kernel
theorem dX10_behind_35 : decode cX10_behind 35 = .ok (.iload_n 2, 1) := by decide +kernel
theorem dX10_behind_36 : decode cX10_behind 36 = .ok (.invokevirtual 172, 3) := by decide +kernel
theorem dX10_behind_39 : decode cX10_behind 39 = .ok (.istore 4, 2) := by decide +kernel
theorem dX10_behind_41 : decode cX10_behind 41 = .ok (.iload_n 3, 1) := by decide +kernel
theorem dX10_behind_42 : decode cX10_behind 42 = .ok (.ifCond .ne 10, 3) := by decide +kernel
theorem dX10_behind_45 : decode cX10_behind 45 = .ok (.aload_n 0, 1) := by decide +kernel
theorem dX10_behind_46 : decode cX10_behind 46 = .ok (.invokevirtual 155, 3) := by decide +kernel
theorem dX10_behind_49 : decode cX10_behind 49 = .ok (.goto 38, 3) := by decide +kernel
theorem dX10_behind_52 : decode cX10_behind 52 = .ok (.iload_n 3, 1) := by decide +kernel
theorem dX10_behind_53 : decode cX10_behind 53 = .ok (.iconst 1, 1) := by decide +kernel
theorem dX10_behind_54 : decode cX10_behind 54 = .ok (.if_icmp .ne 12, 3) := by decide +kernel
theorem dX10_behind_57 : decode cX10_behind 57 = .ok (.aload_n 0, 1) := by decide +kernel
theorem dX10_behind_58 : decode cX10_behind 58 = .ok (.iload_n 1, 1) := by decide +kernel
theorem dX10_behind_59 : decode cX10_behind 59 = .ok (.iconst 1, 1) := by decide +kernel
theorem dX10_behind_60 : decode cX10_behind 60 = .ok (.invokevirtual 96, 3) := by decide +kernel
theorem dX10_behind_63 : decode cX10_behind 63 = .ok (.goto 24, 3) := by decide +kernel
theorem dX10_behind_66 : decode cX10_behind 66 = .ok (.iload_n 3, 1) := by decide +kernel
theorem dX10_behind_67 : decode cX10_behind 67 = .ok (.iconst 2, 1) := by decide +kernel
theorem dX10_behind_68 : decode cX10_behind 68 = .ok (.if_icmp .ne 12, 3) := by decide +kernel
theorem dX10_behind_71 : decode cX10_behind 71 = .ok (.aload_n 0, 1) := by decide +kernel
theorem dX10_behind_72 : decode cX10_behind 72 = .ok (.getfield 9, 3) := by decide +kernel
theorem dX10_behind_75 : decode cX10_behind 75 = .ok (.iconst 3, 1) := by decide +kernel
theorem dX10_behind_76 : decode cX10_behind 76 = .ok (.iaload, 1) := by decide +kernel
theorem dX10_behind_77 : decode cX10_behind 77 = .ok (.goto 10, 3) := by decide +kernel
theorem dX10_behind_80 : decode cX10_behind 80 = .ok (.aload_n 0, 1) := by decide +kernel
theorem dX10_behind_81 : decode cX10_behind 81 = .ok (.getfield 9, 3) := by decide +kernel
theorem dX10_behind_84 : decode cX10_behind 84 = .ok (.bipush 7, 2) := by decide +kernel
theorem dX10_behind_86 : decode cX10_behind 86 = .ok (.iaload, 1) := by decide +kernel
theorem dX10_behind_87 : decode cX10_behind 87 = .ok (.istore 5, 2) := by decide +kernel
theorem dX10_behind_89 : decode cX10_behind 89 = .ok (.aload_n 0, 1) := by decide +kernel
theorem dX10_behind_90 : decode cX10_behind 90 = .ok (.invokevirtual 192, 3) := by decide +kernel
theorem dX10_behind_93 : decode cX10_behind 93 = .ok (.iload 5, 2) := by decide +kernel
theorem dX10_behind_95 : decode cX10_behind 95 = .ok (.ireturn, 1) := by decide +kernel
theorem dX10_answer_0 : decode cX10_answer 0 = .ok (.aload_n 0, 1) := by decide +kernel
theorem dX10_answer_1 : decode cX10_answer 1 = .ok (.getfield 9, 3) := by decide +kernel
theorem dX10_answer_4 : decode cX10_answer 4 = .ok (.bipush 7, 2) := by decide +kernel
theorem dX10_answer_6 : decode cX10_answer 6 = .ok (.iaload, 1) := by decide +kernel
theorem dX10_answer_7 : decode cX10_answer 7 = .ok (.iconst 1, 1) := by decide +kernel
theorem dX10_answer_8 : decode cX10_answer 8 = .ok (.if_icmp .ne 5, 3) := by decide +kernel
theorem dX10_answer_11 : decode cX10_answer 11 = .ok (.iconst 0, 1) := by decide +kernel
theorem dX10_answer_12 : decode cX10_answer 12 = .ok (.ireturn, 1) := by decide +kernel
theorem dX10_answer_13 : decode cX10_answer 13 = .ok (.aload_n 0, 1) := by decide +kernel
theorem dX10_answer_14 : decode cX10_answer 14 = .ok (.getfield 9, 3) := by decide +kernel
theorem dX10_answer_17 : decode cX10_answer 17 = .ok (.iconst 3, 1) := by decide +kernel
theorem dX10_answer_18 : decode cX10_answer 18 = .ok (.iaload, 1) := by decide +kernel
theorem dX10_answer_19 : decode cX10_answer 19 = .ok (.istore_n 1, 1) := by decide +kernel
theorem dX10_answer_20 : decode cX10_answer 20 = .ok (.aload_n 0, 1) := by decide +kernel
theorem dX10_answer_21 : decode cX10_answer 21 = .ok (.invokevirtual 166, 3) := by decide +kernel
theorem dX10_answer_24 : decode cX10_answer 24 = .ok (.istore_n 2, 1) := by decide +kernel
theorem dX10_answer_25 : decode cX10_answer 25 = .ok (.iload_n 2, 1) := by decide +kernel
theorem dX10_answer_26 : decode cX10_answer 26 = .ok (.iload_n 1, 1) := by decide +kernel
theorem dX10_answer_27 : decode cX10_answer 27 = .ok (.if_icmp .le 7, 3) := by decide +kernel
theorem dX10_answer_30 : decode cX10_answer 30 = .ok (.iconst 1, 1) := by decide +kernel
theorem dX10_answer_31 : decode cX10_answer 31 = .ok (.goto 13, 3) := by decide +kernel
theorem dX10_answer_34 : decode cX10_answer 34 = .ok (.iload_n 2, 1) := by decide +kernel
theorem dX10_answer_35 : decode cX10_answer 35 = .ok (.iload_n 1, 1) := by decide +kernel
theorem dX10_answer_36 : decode cX10_answer 36 = .ok (.if_icmp .ge 7, 3) := by decide +kernel
theorem dX10_answer_39 : decode cX10_answer 39 = .ok (.iconst (-1), 1) := by decide +kernel
theorem dX10_answer_40 : decode cX10_answer 40 = .ok (.goto 4, 3) := by decide +kernel
theorem dX10_answer_43 : decode cX10_answer 43 = .ok (.iconst 0, 1) := by decide +kernel
theorem dX10_answer_44 : decode cX10_answer 44 = .ok (.ireturn, 1) := by decide +kernel
theorem dX10_answersBy_0 : decode cX10_answersBy 0 = .ok (.aload_n 0, 1) := by decide +kernel
theorem dX10_answersBy_1 : decode cX10_answersBy 1 = .ok (.aload_n 0, 1) := by decide +kernel
theorem dX10_answersBy_2 : decode cX10_answersBy 2 = .ok (.getfield 9, 3) := by decide +kernel
theorem dX10_answersBy_5 : decode cX10_answersBy 5 = .ok (.aload_n 0, 1) := by decide +kernel
theorem dX10_answersBy_6 : decode cX10_answersBy 6 = .ok (.getfield 22, 3) := by decide +kernel
theorem dX10_answersBy_9 : decode cX10_answersBy 9 = .ok (.invokevirtual 175, 3) := by decide +kernel
theorem dX10_answersBy_12 : decode cX10_answersBy 12 = .ok (.aload_n 0, 1) := by decide +kernel
theorem dX10_answersBy_13 : decode cX10_answersBy 13 = .ok (.getfield 9, 3) := by decide +kernel
theorem dX10_answersBy_16 : decode cX10_answersBy 16 = .ok (.iconst 3, 1) := by decide +kernel
theorem dX10_answersBy_17 : decode cX10_answersBy 17 = .ok (.iload_n 2, 1) := by decide +kernel
theorem dX10_answersBy_18 : decode cX10_answersBy 18 = .ok (.iastore, 1) := by decide +kernel
theorem dX10_answersBy_19 : decode cX10_answersBy 19 = .ok (.iconst 1, 1) := by decide +kernel
theorem dX10_answersBy_20 : decode cX10_answersBy 20 = .ok (.istore_n 3, 1) := by decide +kernel
theorem dX10_answersBy_21 : decode cX10_answersBy 21 = .ok (.iconst 0, 1) := by decide +kernel
theorem dX10_answersBy_22 : decode cX10_answersBy 22 = .ok (.istore 4, 2) := by decide +kernel
theorem dX10_answersBy_24 : decode cX10_answersBy 24 = .ok (.iload 4, 2) := by decide +kernel
theorem dX10_answersBy_26 : decode cX10_answersBy 26 = .ok (.aload_n 0, 1) := by decide +kernel
theorem dX10_answersBy_27 : decode cX10_answersBy 27 = .ok (.getfield 54, 3) := by decide +kernel
theorem dX10_answersBy_30 : decode cX10_answersBy 30 = .ok (.iload_n 1, 1) := by decide +kernel
theorem dX10_answersBy_31 : decode cX10_answersBy 31 = .ok (.iaload, 1) := by decide +kernel
theorem dX10_answersBy_32 : decode cX10_answersBy 32 = .ok (.if_icmp .ge 53, 3) := by decide +kernel
theorem dX10_answersBy_35 : decode cX10_answersBy 35 = .ok (.iload_n 3, 1) := by decide +kernel
theorem dX10_answersBy_36 : decode cX10_answersBy 36 = .ok (.ifCond .eq 49, 3) := by decide +kernel
theorem dX10_answersBy_39 : decode cX10_answersBy 39 = .ok (.aload_n 0, 1) := by decide +kernel
theorem dX10_answersBy_40 : decode cX10_answersBy 40 = .ok (.getfield 57, 3) := by decide +kernel
theorem dX10_answersBy_43 : decode cX10_answersBy 43 = .ok (.bipush 24, 2) := by decide +kernel
theorem dX10_answersBy_45 : decode cX10_answersBy 45 = .ok (.iload_n 1, 1) := by decide +kernel
theorem dX10_answersBy_46 : decode cX10_answersBy 46 = .ok (.imul, 1) := by decide +kernel
theorem dX10_answersBy_47 : decode cX10_answersBy 47 = .ok (.iload 4, 2) := by decide +kernel
theorem dX10_answersBy_49 : decode cX10_answersBy 49 = .ok (.iadd, 1) := by decide +kernel
theorem dX10_answersBy_50 : decode cX10_answersBy 50 = .ok (.iaload, 1) := by decide +kernel
theorem dX10_answersBy_51 : decode cX10_answersBy 51 = .ok (.istore 5, 2) := by decide +kernel
theorem dX10_answersBy_53 : decode cX10_answersBy 53 = .ok (.aload_n 0, 1) := by decide +kernel
theorem dX10_answersBy_54 : decode cX10_answersBy 54 = .ok (.invokevirtual 195, 3) := by decide +kernel
theorem dX10_answersBy_57 : decode cX10_answersBy 57 = .ok (.istore 6, 2) := by decide +kernel
theorem dX10_answersBy_59 : decode cX10_answersBy 59 = .ok (.iload 5, 2) := by decide +kernel
theorem dX10_answersBy_61 : decode cX10_answersBy 61 = .ok (.ldc 185, 2) := by decide +kernel
theorem dX10_answersBy_63 : decode cX10_answersBy 63 = .ok (.if_icmp .eq 10, 3) := by decide +kernel
theorem dX10_answersBy_66 : decode cX10_answersBy 66 = .ok (.iload 5, 2) := by decide +kernel
theorem dX10_answersBy_68 : decode cX10_answersBy 68 = .ok (.iload 6, 2) := by decide +kernel
theorem dX10_answersBy_70 : decode cX10_answersBy 70 = .ok (.if_icmp .ne 7, 3) := by decide +kernel
theorem dX10_answersBy_73 : decode cX10_answersBy 73 = .ok (.iconst 1, 1) := by decide +kernel
theorem dX10_answersBy_74 : decode cX10_answersBy 74 = .ok (.goto 4, 3) := by decide +kernel
theorem dX10_answersBy_77 : decode cX10_answersBy 77 = .ok (.iconst 0, 1) := by decide +kernel
theorem dX10_answersBy_78 : decode cX10_answersBy 78 = .ok (.istore_n 3, 1) := by decide +kernel
theorem dX10_answersBy_79 : decode cX10_answersBy 79 = .ok (.iinc 4 1, 3) := by decide +kernel
theorem dX10_answersBy_82 : decode cX10_answersBy 82 = .ok (.goto (-58), 3) := by decide +kernel
theorem dX10_answersBy_85 : decode cX10_answersBy 85 = .ok (.aload_n 0, 1) := by decide +kernel
theorem dX10_answersBy_86 : decode cX10_answersBy 86 = .ok (.aload_n 0, 1) := by decide +kernel
theorem dX10_answersBy_87 : decode cX10_answersBy 87 = .ok (.getfield 22, 3) := by decide +kernel
theorem dX10_answersBy_90 : decode cX10_answersBy 90 = .ok (.aload_n 0, 1) := by decide +kernel
theorem dX10_answersBy_91 : decode cX10_answersBy 91 = .ok (.getfield 9, 3) := by decide +kernel
theorem dX10_answersBy_94 : decode cX10_answersBy 94 = .ok (.invokevirtual 175, 3) := by decide +kernel
theorem dX10_answersBy_97 : decode cX10_answersBy 97 = .ok (.iload_n 3, 1) := by decide +kernel
theorem dX10_answersBy_98 : decode cX10_answersBy 98 = .ok (.ireturn, 1) := by decide +kernel
theorem dX10_left_0 : decode cX10_left 0 = .ok (.iload_n 1, 1) := by decide +kernel
theorem dX10_left_1 : decode cX10_left 1 = .ok (.invokestatic 198, 3) := by decide +kernel
theorem dX10_left_4 : decode cX10_left 4 = .ok (.ifCond .eq 12, 3) := by decide +kernel
theorem dX10_left_7 : decode cX10_left 7 = .ok (.iload_n 2, 1) := by decide +kernel
theorem dX10_left_8 : decode cX10_left 8 = .ok (.iconst 0, 1) := by decide +kernel
theorem dX10_left_9 : decode cX10_left 9 = .ok (.iconst 1, 1) := by decide +kernel
theorem dX10_left_10 : decode cX10_left 10 = .ok (.invokestatic 78, 3) := by decide +kernel
theorem dX10_left_13 : decode cX10_left 13 = .ok (.ifCond .ne 6, 3) := by decide +kernel
theorem dX10_left_16 : decode cX10_left 16 = .ok (.ldc 86, 2) := by decide +kernel
theorem dX10_left_18 : decode cX10_left 18 = .ok (.ireturn, 1) := by decide +kernel
theorem dX10_left_19 : decode cX10_left 19 = .ok (.aload_n 0, 1) := by decide +kernel
theorem dX10_left_20 : decode cX10_left 20 = .ok (.getfield 51, 3) := by decide +kernel
theorem dX10_left_23 : decode cX10_left 23 = .ok (.iload_n 1, 1) := by decide +kernel
theorem dX10_left_24 : decode cX10_left 24 = .ok (.iaload, 1) := by decide +kernel
theorem dX10_left_25 : decode cX10_left 25 = .ok (.ifCond .ge 6, 3) := by decide +kernel
theorem dX10_left_28 : decode cX10_left 28 = .ok (.ldc 201, 2) := by decide +kernel
theorem dX10_left_30 : decode cX10_left 30 = .ok (.ireturn, 1) := by decide +kernel
theorem dX10_left_31 : decode cX10_left 31 = .ok (.iconst 0, 1) := by decide +kernel
theorem dX10_left_32 : decode cX10_left 32 = .ok (.istore_n 3, 1) := by decide +kernel
theorem dX10_left_33 : decode cX10_left 33 = .ok (.ldc 185, 2) := by decide +kernel
theorem dX10_left_35 : decode cX10_left 35 = .ok (.istore 4, 2) := by decide +kernel
theorem dX10_left_37 : decode cX10_left 37 = .ok (.bipush 99, 2) := by decide +kernel
theorem dX10_left_39 : decode cX10_left 39 = .ok (.istore 5, 2) := by decide +kernel
theorem dX10_left_41 : decode cX10_left 41 = .ok (.iload 5, 2) := by decide +kernel
theorem dX10_left_43 : decode cX10_left 43 = .ok (.ifCond .lt 54, 3) := by decide +kernel
theorem dX10_left_46 : decode cX10_left 46 = .ok (.aload_n 0, 1) := by decide +kernel
theorem dX10_left_47 : decode cX10_left 47 = .ok (.getfield 9, 3) := by decide +kernel
theorem dX10_left_50 : decode cX10_left 50 = .ok (.iconst 1, 1) := by decide +kernel
theorem dX10_left_51 : decode cX10_left 51 = .ok (.iaload, 1) := by decide +kernel
theorem dX10_left_52 : decode cX10_left 52 = .ok (.ifCond .le 45, 3) := by decide +kernel
theorem dX10_left_55 : decode cX10_left 55 = .ok (.aload_n 0, 1) := by decide +kernel
theorem dX10_left_56 : decode cX10_left 56 = .ok (.iload_n 1, 1) := by decide +kernel
theorem dX10_left_57 : decode cX10_left 57 = .ok (.iload 5, 2) := by decide +kernel
theorem dX10_left_59 : decode cX10_left 59 = .ok (.invokevirtual 202, 3) := by decide +kernel
theorem dX10_left_62 : decode cX10_left 62 = .ok (.istore 6, 2) := by decide +kernel
theorem dX10_left_64 : decode cX10_left 64 = .ok (.iload_n 3, 1) := by decide +kernel
theorem dX10_left_65 : decode cX10_left 65 = .ok (.iload 6, 2) := by decide +kernel
theorem dX10_left_67 : decode cX10_left 67 = .ok (.ifCond .eq 7, 3) := by decide +kernel
theorem dX10_left_70 : decode cX10_left 70 = .ok (.iconst 1, 1) := by decide +kernel
theorem dX10_left_71 : decode cX10_left 71 = .ok (.goto 4, 3) := by decide +kernel
theorem dX10_left_74 : decode cX10_left 74 = .ok (.iconst 0, 1) := by decide +kernel
theorem dX10_left_75 : decode cX10_left 75 = .ok (.iadd, 1) := by decide +kernel
theorem dX10_left_76 : decode cX10_left 76 = .ok (.istore_n 3, 1) := by decide +kernel
theorem dX10_left_77 : decode cX10_left 77 = .ok (.iload 6, 2) := by decide +kernel
theorem dX10_left_79 : decode cX10_left 79 = .ok (.ifCond .eq 8, 3) := by decide +kernel
theorem dX10_left_82 : decode cX10_left 82 = .ok (.iload 5, 2) := by decide +kernel
theorem dX10_left_84 : decode cX10_left 84 = .ok (.goto 5, 3) := by decide +kernel
theorem dX10_left_87 : decode cX10_left 87 = .ok (.iload 4, 2) := by decide +kernel
theorem dX10_left_89 : decode cX10_left 89 = .ok (.istore 4, 2) := by decide +kernel
theorem dX10_left_91 : decode cX10_left 91 = .ok (.iinc 5 (-1), 3) := by decide +kernel
theorem dX10_left_94 : decode cX10_left 94 = .ok (.goto (-53), 3) := by decide +kernel
theorem dX10_left_97 : decode cX10_left 97 = .ok (.iload_n 2, 1) := by decide +kernel
theorem dX10_left_98 : decode cX10_left 98 = .ok (.ifCond .ne 7, 3) := by decide +kernel
theorem dX10_left_101 : decode cX10_left 101 = .ok (.iload_n 3, 1) := by decide +kernel
theorem dX10_left_102 : decode cX10_left 102 = .ok (.goto 5, 3) := by decide +kernel
theorem dX10_left_105 : decode cX10_left 105 = .ok (.iload 4, 2) := by decide +kernel
theorem dX10_left_107 : decode cX10_left 107 = .ok (.ireturn, 1) := by decide +kernel
theorem dX10_fee_0 : decode cX10_fee 0 = .ok (.aload_n 0, 1) := by decide +kernel
theorem dX10_fee_1 : decode cX10_fee 1 = .ok (.iconst 1, 1) := by decide +kernel
theorem dX10_fee_2 : decode cX10_fee 2 = .ok (.invokevirtual 92, 3) := by decide +kernel
theorem dX10_fee_5 : decode cX10_fee 5 = .ok (.istore_n 1, 1) := by decide +kernel
theorem dX10_fee_6 : decode cX10_fee 6 = .ok (.aload_n 0, 1) := by decide +kernel
theorem dX10_fee_7 : decode cX10_fee 7 = .ok (.getfield 48, 3) := by decide +kernel
theorem dX10_fee_10 : decode cX10_fee 10 = .ok (.iconst 0, 1) := by decide +kernel
theorem dX10_fee_11 : decode cX10_fee 11 = .ok (.aload_n 0, 1) := by decide +kernel
theorem dX10_fee_12 : decode cX10_fee 12 = .ok (.getfield 9, 3) := by decide +kernel
theorem dX10_fee_15 : decode cX10_fee 15 = .ok (.iconst 2, 1) := by decide +kernel
theorem dX10_fee_16 : decode cX10_fee 16 = .ok (.iaload, 1) := by decide +kernel
theorem dX10_fee_17 : decode cX10_fee 17 = .ok (.iastore, 1) := by decide +kernel
theorem dX10_fee_18 : decode cX10_fee 18 = .ok (.aload_n 0, 1) := by decide +kernel
theorem dX10_fee_19 : decode cX10_fee 19 = .ok (.getfield 48, 3) := by decide +kernel
theorem dX10_fee_22 : decode cX10_fee 22 = .ok (.iconst 1, 1) := by decide +kernel
theorem dX10_fee_23 : decode cX10_fee 23 = .ok (.aload_n 0, 1) := by decide +kernel
theorem dX10_fee_24 : decode cX10_fee 24 = .ok (.getfield 9, 3) := by decide +kernel
theorem dX10_fee_27 : decode cX10_fee 27 = .ok (.bipush 6, 2) := by decide +kernel
theorem dX10_fee_29 : decode cX10_fee 29 = .ok (.iaload, 1) := by decide +kernel
theorem dX10_fee_30 : decode cX10_fee 30 = .ok (.iastore, 1) := by decide +kernel
theorem dX10_fee_31 : decode cX10_fee 31 = .ok (.iload_n 1, 1) := by decide +kernel
theorem dX10_fee_32 : decode cX10_fee 32 = .ok (.ifCond .ge 12, 3) := by decide +kernel
theorem dX10_fee_35 : decode cX10_fee 35 = .ok (.aload_n 0, 1) := by decide +kernel
theorem dX10_fee_36 : decode cX10_fee 36 = .ok (.getfield 9, 3) := by decide +kernel
theorem dX10_fee_39 : decode cX10_fee 39 = .ok (.iconst 2, 1) := by decide +kernel
theorem dX10_fee_40 : decode cX10_fee 40 = .ok (.iaload, 1) := by decide +kernel
theorem dX10_fee_41 : decode cX10_fee 41 = .ok (.goto 8, 3) := by decide +kernel
theorem dX10_fee_44 : decode cX10_fee 44 = .ok (.aload_n 0, 1) := by decide +kernel
theorem dX10_fee_45 : decode cX10_fee 45 = .ok (.iload_n 1, 1) := by decide +kernel
theorem dX10_fee_46 : decode cX10_fee 46 = .ok (.invokevirtual 100, 3) := by decide +kernel
theorem dX10_fee_49 : decode cX10_fee 49 = .ok (.ireturn, 1) := by decide +kernel
theorem dX10_fine_0 : decode cX10_fine 0 = .ok (.aload_n 0, 1) := by decide +kernel
theorem dX10_fine_1 : decode cX10_fine 1 = .ok (.iload_n 1, 1) := by decide +kernel
theorem dX10_fine_2 : decode cX10_fine 2 = .ok (.invokevirtual 107, 3) := by decide +kernel
theorem dX10_fine_5 : decode cX10_fine 5 = .ok (.ifCond .ne 6, 3) := by decide +kernel
theorem dX10_fine_8 : decode cX10_fine 8 = .ok (.ldc 86, 2) := by decide +kernel
theorem dX10_fine_10 : decode cX10_fine 10 = .ok (.ireturn, 1) := by decide +kernel
theorem dX10_fine_11 : decode cX10_fine 11 = .ok (.aload_n 0, 1) := by decide +kernel
theorem dX10_fine_12 : decode cX10_fine 12 = .ok (.iconst 2, 1) := by decide +kernel
theorem dX10_fine_13 : decode cX10_fine 13 = .ok (.invokevirtual 92, 3) := by decide +kernel
theorem dX10_fine_16 : decode cX10_fine 16 = .ok (.istore_n 2, 1) := by decide +kernel
theorem dX10_fine_17 : decode cX10_fine 17 = .ok (.aload_n 0, 1) := by decide +kernel
theorem dX10_fine_18 : decode cX10_fine 18 = .ok (.getfield 48, 3) := by decide +kernel
theorem dX10_fine_21 : decode cX10_fine 21 = .ok (.iconst 0, 1) := by decide +kernel
theorem dX10_fine_22 : decode cX10_fine 22 = .ok (.aload_n 0, 1) := by decide +kernel
theorem dX10_fine_23 : decode cX10_fine 23 = .ok (.iload_n 1, 1) := by decide +kernel
theorem dX10_fine_24 : decode cX10_fine 24 = .ok (.iconst 2, 1) := by decide +kernel
theorem dX10_fine_25 : decode cX10_fine 25 = .ok (.invokevirtual 96, 3) := by decide +kernel
theorem dX10_fine_28 : decode cX10_fine 28 = .ok (.iastore, 1) := by decide +kernel
theorem dX10_fine_29 : decode cX10_fine 29 = .ok (.aload_n 0, 1) := by decide +kernel
theorem dX10_fine_30 : decode cX10_fine 30 = .ok (.getfield 48, 3) := by decide +kernel
theorem dX10_fine_33 : decode cX10_fine 33 = .ok (.iconst 1, 1) := by decide +kernel
theorem dX10_fine_34 : decode cX10_fine 34 = .ok (.aload_n 0, 1) := by decide +kernel
theorem dX10_fine_35 : decode cX10_fine 35 = .ok (.iload_n 1, 1) := by decide +kernel
theorem dX10_fine_36 : decode cX10_fine 36 = .ok (.iconst 1, 1) := by decide +kernel
theorem dX10_fine_37 : decode cX10_fine 37 = .ok (.invokevirtual 96, 3) := by decide +kernel
theorem dX10_fine_40 : decode cX10_fine 40 = .ok (.iastore, 1) := by decide +kernel
theorem dX10_fine_41 : decode cX10_fine 41 = .ok (.iload_n 2, 1) := by decide +kernel
theorem dX10_fine_42 : decode cX10_fine 42 = .ok (.ifCond .ge 12, 3) := by decide +kernel
theorem dX10_fine_45 : decode cX10_fine 45 = .ok (.aload_n 0, 1) := by decide +kernel
theorem dX10_fine_46 : decode cX10_fine 46 = .ok (.iload_n 1, 1) := by decide +kernel
theorem dX10_fine_47 : decode cX10_fine 47 = .ok (.iconst 2, 1) := by decide +kernel
theorem dX10_fine_48 : decode cX10_fine 48 = .ok (.invokevirtual 96, 3) := by decide +kernel
theorem dX10_fine_51 : decode cX10_fine 51 = .ok (.goto 8, 3) := by decide +kernel
theorem dX10_fine_54 : decode cX10_fine 54 = .ok (.aload_n 0, 1) := by decide +kernel
theorem dX10_fine_55 : decode cX10_fine 55 = .ok (.iload_n 2, 1) := by decide +kernel
theorem dX10_fine_56 : decode cX10_fine 56 = .ok (.invokevirtual 100, 3) := by decide +kernel
theorem dX10_fine_59 : decode cX10_fine 59 = .ok (.ireturn, 1) := by decide +kernel
theorem dX10_feed_0 : decode cX10_feed 0 = .ok (.aload_n 0, 1) := by decide +kernel
theorem dX10_feed_1 : decode cX10_feed 1 = .ok (.getfield 205, 3) := by decide +kernel
theorem dX10_feed_4 : decode cX10_feed 4 = .ok (.bipush 12, 2) := by decide +kernel
theorem dX10_feed_6 : decode cX10_feed 6 = .ok (.iadd, 1) := by decide +kernel
theorem dX10_feed_7 : decode cX10_feed 7 = .ok (.bipush 96, 2) := by decide +kernel
theorem dX10_feed_9 : decode cX10_feed 9 = .ok (.if_icmp .le 6, 3) := by decide +kernel
theorem dX10_feed_12 : decode cX10_feed 12 = .ok (.ldc 87, 2) := by decide +kernel
theorem dX10_feed_14 : decode cX10_feed 14 = .ok (.ireturn, 1) := by decide +kernel
theorem dX10_feed_15 : decode cX10_feed 15 = .ok (.iconst 0, 1) := by decide +kernel
theorem dX10_feed_16 : decode cX10_feed 16 = .ok (.istore 4, 2) := by decide +kernel
theorem dX10_feed_18 : decode cX10_feed 18 = .ok (.iload 4, 2) := by decide +kernel
theorem dX10_feed_20 : decode cX10_feed 20 = .ok (.bipush 12, 2) := by decide +kernel
theorem dX10_feed_22 : decode cX10_feed 22 = .ok (.if_icmp .ge 62, 3) := by decide +kernel
theorem dX10_feed_25 : decode cX10_feed 25 = .ok (.iload 4, 2) := by decide +kernel
theorem dX10_feed_27 : decode cX10_feed 27 = .ok (.iconst 4, 1) := by decide +kernel
theorem dX10_feed_28 : decode cX10_feed 28 = .ok (.if_icmp .ge 7, 3) := by decide +kernel
theorem dX10_feed_31 : decode cX10_feed 31 = .ok (.iload_n 1, 1) := by decide +kernel
theorem dX10_feed_32 : decode cX10_feed 32 = .ok (.goto 15, 3) := by decide +kernel
theorem dX10_feed_35 : decode cX10_feed 35 = .ok (.iload 4, 2) := by decide +kernel
theorem dX10_feed_37 : decode cX10_feed 37 = .ok (.bipush 8, 2) := by decide +kernel
theorem dX10_feed_39 : decode cX10_feed 39 = .ok (.if_icmp .ge 7, 3) := by decide +kernel
theorem dX10_feed_42 : decode cX10_feed 42 = .ok (.iload_n 2, 1) := by decide +kernel
theorem dX10_feed_43 : decode cX10_feed 43 = .ok (.goto 4, 3) := by decide +kernel
theorem dX10_feed_46 : decode cX10_feed 46 = .ok (.iload_n 3, 1) := by decide +kernel
theorem dX10_feed_47 : decode cX10_feed 47 = .ok (.istore 5, 2) := by decide +kernel
theorem dX10_feed_49 : decode cX10_feed 49 = .ok (.aload_n 0, 1) := by decide +kernel
theorem dX10_feed_50 : decode cX10_feed 50 = .ok (.getfield 25, 3) := by decide +kernel
theorem dX10_feed_53 : decode cX10_feed 53 = .ok (.aload_n 0, 1) := by decide +kernel
theorem dX10_feed_54 : decode cX10_feed 54 = .ok (.getfield 205, 3) := by decide +kernel
theorem dX10_feed_57 : decode cX10_feed 57 = .ok (.iload 4, 2) := by decide +kernel
theorem dX10_feed_59 : decode cX10_feed 59 = .ok (.iadd, 1) := by decide +kernel
theorem dX10_feed_60 : decode cX10_feed 60 = .ok (.iload 5, 2) := by decide +kernel
theorem dX10_feed_62 : decode cX10_feed 62 = .ok (.bipush 24, 2) := by decide +kernel
theorem dX10_feed_64 : decode cX10_feed 64 = .ok (.bipush 8, 2) := by decide +kernel
theorem dX10_feed_66 : decode cX10_feed 66 = .ok (.iload 4, 2) := by decide +kernel
theorem dX10_feed_68 : decode cX10_feed 68 = .ok (.iconst 4, 1) := by decide +kernel
theorem dX10_feed_69 : decode cX10_feed 69 = .ok (.irem, 1) := by decide +kernel
theorem dX10_feed_70 : decode cX10_feed 70 = .ok (.imul, 1) := by decide +kernel
theorem dX10_feed_71 : decode cX10_feed 71 = .ok (.isub, 1) := by decide +kernel
theorem dX10_feed_72 : decode cX10_feed 72 = .ok (.ishr, 1) := by decide +kernel
theorem dX10_feed_73 : decode cX10_feed 73 = .ok (.sipush 255, 3) := by decide +kernel
theorem dX10_feed_76 : decode cX10_feed 76 = .ok (.iand, 1) := by decide +kernel
theorem dX10_feed_77 : decode cX10_feed 77 = .ok (.iastore, 1) := by decide +kernel
theorem dX10_feed_78 : decode cX10_feed 78 = .ok (.iinc 4 1, 3) := by decide +kernel
theorem dX10_feed_81 : decode cX10_feed 81 = .ok (.goto (-63), 3) := by decide +kernel
theorem dX10_feed_84 : decode cX10_feed 84 = .ok (.aload_n 0, 1) := by decide +kernel
theorem dX10_feed_85 : decode cX10_feed 85 = .ok (.dup, 1) := by decide +kernel
theorem dX10_feed_86 : decode cX10_feed 86 = .ok (.getfield 205, 3) := by decide +kernel
theorem dX10_feed_89 : decode cX10_feed 89 = .ok (.bipush 12, 2) := by decide +kernel
theorem dX10_feed_91 : decode cX10_feed 91 = .ok (.iadd, 1) := by decide +kernel
theorem dX10_feed_92 : decode cX10_feed 92 = .ok (.putfield 205, 3) := by decide +kernel
theorem dX10_feed_95 : decode cX10_feed 95 = .ok (.aload_n 0, 1) := by decide +kernel
theorem dX10_feed_96 : decode cX10_feed 96 = .ok (.getfield 205, 3) := by decide +kernel
theorem dX10_feed_99 : decode cX10_feed 99 = .ok (.ireturn, 1) := by decide +kernel
theorem dX10_trim_0 : decode cX10_trim 0 = .ok (.iload_n 1, 1) := by decide +kernel
theorem dX10_trim_1 : decode cX10_trim 1 = .ok (.iconst 0, 1) := by decide +kernel
theorem dX10_trim_2 : decode cX10_trim 2 = .ok (.aload_n 0, 1) := by decide +kernel
theorem dX10_trim_3 : decode cX10_trim 3 = .ok (.getfield 205, 3) := by decide +kernel
theorem dX10_trim_6 : decode cX10_trim 6 = .ok (.invokestatic 78, 3) := by decide +kernel
theorem dX10_trim_9 : decode cX10_trim 9 = .ok (.ifCond .ne 6, 3) := by decide +kernel
theorem dX10_trim_12 : decode cX10_trim 12 = .ok (.ldc 86, 2) := by decide +kernel
theorem dX10_trim_14 : decode cX10_trim 14 = .ok (.ireturn, 1) := by decide +kernel
theorem dX10_trim_15 : decode cX10_trim 15 = .ok (.aload_n 0, 1) := by decide +kernel
theorem dX10_trim_16 : decode cX10_trim 16 = .ok (.iload_n 1, 1) := by decide +kernel
theorem dX10_trim_17 : decode cX10_trim 17 = .ok (.putfield 205, 3) := by decide +kernel
theorem dX10_trim_20 : decode cX10_trim 20 = .ok (.iload_n 1, 1) := by decide +kernel
theorem dX10_trim_21 : decode cX10_trim 21 = .ok (.ireturn, 1) := by decide +kernel
theorem dX10_isLetter_0 : decode cX10_isLetter 0 = .ok (.iload_n 1, 1) := by decide +kernel
theorem dX10_isLetter_1 : decode cX10_isLetter 1 = .ok (.aload_n 0, 1) := by decide +kernel
theorem dX10_isLetter_2 : decode cX10_isLetter 2 = .ok (.getfield 205, 3) := by decide +kernel
theorem dX10_isLetter_5 : decode cX10_isLetter 5 = .ok (.if_icmp .ge 29, 3) := by decide +kernel
theorem dX10_isLetter_8 : decode cX10_isLetter 8 = .ok (.aload_n 0, 1) := by decide +kernel
theorem dX10_isLetter_9 : decode cX10_isLetter 9 = .ok (.getfield 25, 3) := by decide +kernel
theorem dX10_isLetter_12 : decode cX10_isLetter 12 = .ok (.iload_n 1, 1) := by decide +kernel
theorem dX10_isLetter_13 : decode cX10_isLetter 13 = .ok (.iaload, 1) := by decide +kernel
theorem dX10_isLetter_14 : decode cX10_isLetter 14 = .ok (.bipush 97, 2) := by decide +kernel
theorem dX10_isLetter_16 : decode cX10_isLetter 16 = .ok (.if_icmp .lt 18, 3) := by decide +kernel
theorem dX10_isLetter_19 : decode cX10_isLetter 19 = .ok (.aload_n 0, 1) := by decide +kernel
theorem dX10_isLetter_20 : decode cX10_isLetter 20 = .ok (.getfield 25, 3) := by decide +kernel
theorem dX10_isLetter_23 : decode cX10_isLetter 23 = .ok (.iload_n 1, 1) := by decide +kernel
theorem dX10_isLetter_24 : decode cX10_isLetter 24 = .ok (.iaload, 1) := by decide +kernel
theorem dX10_isLetter_25 : decode cX10_isLetter 25 = .ok (.bipush 122, 2) := by decide +kernel
theorem dX10_isLetter_27 : decode cX10_isLetter 27 = .ok (.if_icmp .gt 7, 3) := by decide +kernel
theorem dX10_isLetter_30 : decode cX10_isLetter 30 = .ok (.iconst 1, 1) := by decide +kernel
theorem dX10_isLetter_31 : decode cX10_isLetter 31 = .ok (.goto 4, 3) := by decide +kernel
theorem dX10_isLetter_34 : decode cX10_isLetter 34 = .ok (.iconst 0, 1) := by decide +kernel
theorem dX10_isLetter_35 : decode cX10_isLetter 35 = .ok (.ireturn, 1) := by decide +kernel
theorem dX10_isFigure_0 : decode cX10_isFigure 0 = .ok (.iload_n 1, 1) := by decide +kernel
theorem dX10_isFigure_1 : decode cX10_isFigure 1 = .ok (.aload_n 0, 1) := by decide +kernel
theorem dX10_isFigure_2 : decode cX10_isFigure 2 = .ok (.getfield 205, 3) := by decide +kernel
theorem dX10_isFigure_5 : decode cX10_isFigure 5 = .ok (.if_icmp .ge 29, 3) := by decide +kernel
theorem dX10_isFigure_8 : decode cX10_isFigure 8 = .ok (.aload_n 0, 1) := by decide +kernel
theorem dX10_isFigure_9 : decode cX10_isFigure 9 = .ok (.getfield 25, 3) := by decide +kernel
theorem dX10_isFigure_12 : decode cX10_isFigure 12 = .ok (.iload_n 1, 1) := by decide +kernel
theorem dX10_isFigure_13 : decode cX10_isFigure 13 = .ok (.iaload, 1) := by decide +kernel
theorem dX10_isFigure_14 : decode cX10_isFigure 14 = .ok (.bipush 48, 2) := by decide +kernel
theorem dX10_isFigure_16 : decode cX10_isFigure 16 = .ok (.if_icmp .lt 18, 3) := by decide +kernel
theorem dX10_isFigure_19 : decode cX10_isFigure 19 = .ok (.aload_n 0, 1) := by decide +kernel
theorem dX10_isFigure_20 : decode cX10_isFigure 20 = .ok (.getfield 25, 3) := by decide +kernel
theorem dX10_isFigure_23 : decode cX10_isFigure 23 = .ok (.iload_n 1, 1) := by decide +kernel
theorem dX10_isFigure_24 : decode cX10_isFigure 24 = .ok (.iaload, 1) := by decide +kernel
theorem dX10_isFigure_25 : decode cX10_isFigure 25 = .ok (.bipush 57, 2) := by decide +kernel
theorem dX10_isFigure_27 : decode cX10_isFigure 27 = .ok (.if_icmp .gt 7, 3) := by decide +kernel
theorem dX10_isFigure_30 : decode cX10_isFigure 30 = .ok (.iconst 1, 1) := by decide +kernel
theorem dX10_isFigure_31 : decode cX10_isFigure 31 = .ok (.goto 4, 3) := by decide +kernel
theorem dX10_isFigure_34 : decode cX10_isFigure 34 = .ok (.iconst 0, 1) := by decide +kernel
theorem dX10_isFigure_35 : decode cX10_isFigure 35 = .ok (.ireturn, 1) := by decide +kernel
theorem dX10_go_0 : decode cX10_go 0 = .ok (.aload_n 0, 1) := by decide +kernel
theorem dX10_go_1 : decode cX10_go 1 = .ok (.getfield 209, 3) := by decide +kernel
theorem dX10_go_4 : decode cX10_go 4 = .ok (.aload_n 0, 1) := by decide +kernel
theorem dX10_go_5 : decode cX10_go 5 = .ok (.getfield 205, 3) := by decide +kernel
theorem dX10_go_8 : decode cX10_go 8 = .ok (.if_icmp .ge 30, 3) := by decide +kernel
theorem dX10_go_11 : decode cX10_go 11 = .ok (.aload_n 0, 1) := by decide +kernel
theorem dX10_go_12 : decode cX10_go 12 = .ok (.getfield 25, 3) := by decide +kernel
theorem dX10_go_15 : decode cX10_go 15 = .ok (.aload_n 0, 1) := by decide +kernel
theorem dX10_go_16 : decode cX10_go 16 = .ok (.getfield 209, 3) := by decide +kernel
theorem dX10_go_19 : decode cX10_go 19 = .ok (.iaload, 1) := by decide +kernel
theorem dX10_go_20 : decode cX10_go 20 = .ok (.bipush 32, 2) := by decide +kernel
theorem dX10_go_22 : decode cX10_go 22 = .ok (.if_icmp .ne 16, 3) := by decide +kernel
theorem dX10_go_25 : decode cX10_go 25 = .ok (.aload_n 0, 1) := by decide +kernel
theorem dX10_go_26 : decode cX10_go 26 = .ok (.dup, 1) := by decide +kernel
theorem dX10_go_27 : decode cX10_go 27 = .ok (.getfield 209, 3) := by decide +kernel
theorem dX10_go_30 : decode cX10_go 30 = .ok (.iconst 1, 1) := by decide +kernel
theorem dX10_go_31 : decode cX10_go 31 = .ok (.iadd, 1) := by decide +kernel
theorem dX10_go_32 : decode cX10_go 32 = .ok (.putfield 209, 3) := by decide +kernel
theorem dX10_go_35 : decode cX10_go 35 = .ok (.goto (-35), 3) := by decide +kernel
theorem dX10_go_38 : decode cX10_go 38 = .ok (.aload_n 0, 1) := by decide +kernel
theorem dX10_go_39 : decode cX10_go 39 = .ok (.aload_n 0, 1) := by decide +kernel
theorem dX10_go_40 : decode cX10_go 40 = .ok (.getfield 209, 3) := by decide +kernel
theorem dX10_go_43 : decode cX10_go 43 = .ok (.putfield 212, 3) := by decide +kernel
theorem dX10_go_46 : decode cX10_go 46 = .ok (.aload_n 0, 1) := by decide +kernel
theorem dX10_go_47 : decode cX10_go 47 = .ok (.getfield 212, 3) := by decide +kernel
theorem dX10_go_50 : decode cX10_go 50 = .ok (.aload_n 0, 1) := by decide +kernel
theorem dX10_go_51 : decode cX10_go 51 = .ok (.getfield 215, 3) := by decide +kernel
theorem dX10_go_54 : decode cX10_go 54 = .ok (.if_icmp .ne 7, 3) := by decide +kernel
theorem dX10_go_57 : decode cX10_go 57 = .ok (.iconst 1, 1) := by decide +kernel
theorem dX10_go_58 : decode cX10_go 58 = .ok (.goto 4, 3) := by decide +kernel
theorem dX10_go_61 : decode cX10_go 61 = .ok (.iconst 0, 1) := by decide +kernel
theorem dX10_go_62 : decode cX10_go 62 = .ok (.istore_n 1, 1) := by decide +kernel
theorem dX10_go_63 : decode cX10_go 63 = .ok (.aload_n 0, 1) := by decide +kernel
theorem dX10_go_64 : decode cX10_go 64 = .ok (.getfield 212, 3) := by decide +kernel
theorem dX10_go_67 : decode cX10_go 67 = .ok (.aload_n 0, 1) := by decide +kernel
theorem dX10_go_68 : decode cX10_go 68 = .ok (.getfield 205, 3) := by decide +kernel
theorem dX10_go_71 : decode cX10_go 71 = .ok (.if_icmp .ne 11, 3) := by decide +kernel
theorem dX10_go_74 : decode cX10_go 74 = .ok (.aload_n 0, 1) := by decide +kernel
theorem dX10_go_75 : decode cX10_go 75 = .ok (.iconst 0, 1) := by decide +kernel
theorem dX10_go_76 : decode cX10_go 76 = .ok (.putfield 218, 3) := by decide +kernel
theorem dX10_go_79 : decode cX10_go 79 = .ok (.goto 224, 3) := by decide +kernel
theorem dX10_go_82 : decode cX10_go 82 = .ok (.aload_n 0, 1) := by decide +kernel
theorem dX10_go_83 : decode cX10_go 83 = .ok (.aload_n 0, 1) := by decide +kernel
theorem dX10_go_84 : decode cX10_go 84 = .ok (.getfield 212, 3) := by decide +kernel
theorem dX10_go_87 : decode cX10_go 87 = .ok (.invokevirtual 221, 3) := by decide +kernel
theorem dX10_go_90 : decode cX10_go 90 = .ok (.ifCond .eq 64, 3) := by decide +kernel
theorem dX10_go_93 : decode cX10_go 93 = .ok (.aload_n 0, 1) := by decide +kernel
theorem dX10_go_94 : decode cX10_go 94 = .ok (.aload_n 0, 1) := by decide +kernel
theorem dX10_go_95 : decode cX10_go 95 = .ok (.getfield 209, 3) := by decide +kernel
theorem dX10_go_98 : decode cX10_go 98 = .ok (.invokevirtual 221, 3) := by decide +kernel
theorem dX10_go_101 : decode cX10_go 101 = .ok (.ifCond .eq 16, 3) := by decide +kernel
theorem dX10_go_104 : decode cX10_go 104 = .ok (.aload_n 0, 1) := by decide +kernel
theorem dX10_go_105 : decode cX10_go 105 = .ok (.dup, 1) := by decide +kernel
theorem dX10_go_106 : decode cX10_go 106 = .ok (.getfield 209, 3) := by decide +kernel
theorem dX10_go_109 : decode cX10_go 109 = .ok (.iconst 1, 1) := by decide +kernel
theorem dX10_go_110 : decode cX10_go 110 = .ok (.iadd, 1) := by decide +kernel
theorem dX10_go_111 : decode cX10_go 111 = .ok (.putfield 209, 3) := by decide +kernel
theorem dX10_go_114 : decode cX10_go 114 = .ok (.goto (-21), 3) := by decide +kernel
theorem dX10_go_117 : decode cX10_go 117 = .ok (.aload_n 0, 1) := by decide +kernel
theorem dX10_go_118 : decode cX10_go 118 = .ok (.iload_n 1, 1) := by decide +kernel
theorem dX10_go_119 : decode cX10_go 119 = .ok (.ifCond .eq 7, 3) := by decide +kernel
theorem dX10_go_122 : decode cX10_go 122 = .ok (.iconst 4, 1) := by decide +kernel
theorem dX10_go_123 : decode cX10_go 123 = .ok (.goto 4, 3) := by decide +kernel
theorem dX10_go_126 : decode cX10_go 126 = .ok (.iconst 1, 1) := by decide +kernel
theorem dX10_go_127 : decode cX10_go 127 = .ok (.putfield 218, 3) := by decide +kernel
theorem dX10_go_130 : decode cX10_go 130 = .ok (.aload_n 0, 1) := by decide +kernel
theorem dX10_go_131 : decode cX10_go 131 = .ok (.aload_n 0, 1) := by decide +kernel
theorem dX10_go_132 : decode cX10_go 132 = .ok (.getfield 25, 3) := by decide +kernel
theorem dX10_go_135 : decode cX10_go 135 = .ok (.aload_n 0, 1) := by decide +kernel
theorem dX10_go_136 : decode cX10_go 136 = .ok (.getfield 212, 3) := by decide +kernel
theorem dX10_go_139 : decode cX10_go 139 = .ok (.iaload, 1) := by decide +kernel
theorem dX10_go_140 : decode cX10_go 140 = .ok (.putfield 224, 3) := by decide +kernel
theorem dX10_go_143 : decode cX10_go 143 = .ok (.aload_n 0, 1) := by decide +kernel
theorem dX10_go_144 : decode cX10_go 144 = .ok (.aload_n 0, 1) := by decide +kernel
theorem dX10_go_145 : decode cX10_go 145 = .ok (.getfield 209, 3) := by decide +kernel
theorem dX10_go_148 : decode cX10_go 148 = .ok (.putfield 215, 3) := by decide +kernel
theorem dX10_go_151 : decode cX10_go 151 = .ok (.goto 152, 3) := by decide +kernel
theorem dX10_go_154 : decode cX10_go 154 = .ok (.aload_n 0, 1) := by decide +kernel
theorem dX10_go_155 : decode cX10_go 155 = .ok (.aload_n 0, 1) := by decide +kernel
theorem dX10_go_156 : decode cX10_go 156 = .ok (.getfield 212, 3) := by decide +kernel
theorem dX10_go_159 : decode cX10_go 159 = .ok (.invokevirtual 227, 3) := by decide +kernel
theorem dX10_go_162 : decode cX10_go 162 = .ok (.ifCond .eq 113, 3) := by decide +kernel
theorem dX10_go_165 : decode cX10_go 165 = .ok (.aload_n 0, 1) := by decide +kernel
theorem dX10_go_166 : decode cX10_go 166 = .ok (.iconst 0, 1) := by decide +kernel
theorem dX10_go_167 : decode cX10_go 167 = .ok (.putfield 224, 3) := by decide +kernel
theorem dX10_go_170 : decode cX10_go 170 = .ok (.aload_n 0, 1) := by decide +kernel
theorem dX10_go_171 : decode cX10_go 171 = .ok (.aload_n 0, 1) := by decide +kernel
theorem dX10_go_172 : decode cX10_go 172 = .ok (.getfield 209, 3) := by decide +kernel
theorem dX10_go_175 : decode cX10_go 175 = .ok (.invokevirtual 227, 3) := by decide +kernel
theorem dX10_go_178 : decode cX10_go 178 = .ok (.ifCond .eq 60, 3) := by decide +kernel
theorem dX10_go_181 : decode cX10_go 181 = .ok (.aload_n 0, 1) := by decide +kernel
theorem dX10_go_182 : decode cX10_go 182 = .ok (.aload_n 0, 1) := by decide +kernel
theorem dX10_go_183 : decode cX10_go 183 = .ok (.getfield 209, 3) := by decide +kernel
theorem dX10_go_186 : decode cX10_go 186 = .ok (.aload_n 0, 1) := by decide +kernel
theorem dX10_go_187 : decode cX10_go 187 = .ok (.getfield 212, 3) := by decide +kernel
theorem dX10_go_190 : decode cX10_go 190 = .ok (.isub, 1) := by decide +kernel
theorem dX10_go_191 : decode cX10_go 191 = .ok (.iconst 4, 1) := by decide +kernel
theorem dX10_go_192 : decode cX10_go 192 = .ok (.if_icmp .ge 26, 3) := by decide +kernel
theorem dX10_go_195 : decode cX10_go 195 = .ok (.bipush 10, 2) := by decide +kernel
theorem dX10_go_197 : decode cX10_go 197 = .ok (.aload_n 0, 1) := by decide +kernel
theorem dX10_go_198 : decode cX10_go 198 = .ok (.getfield 224, 3) := by decide +kernel
theorem dX10_go_201 : decode cX10_go 201 = .ok (.imul, 1) := by decide +kernel
theorem dX10_go_202 : decode cX10_go 202 = .ok (.aload_n 0, 1) := by decide +kernel
theorem dX10_go_203 : decode cX10_go 203 = .ok (.getfield 25, 3) := by decide +kernel
theorem dX10_go_206 : decode cX10_go 206 = .ok (.aload_n 0, 1) := by decide +kernel
theorem dX10_go_207 : decode cX10_go 207 = .ok (.getfield 209, 3) := by decide +kernel
theorem dX10_go_210 : decode cX10_go 210 = .ok (.iaload, 1) := by decide +kernel
theorem dX10_go_211 : decode cX10_go 211 = .ok (.iadd, 1) := by decide +kernel
theorem dX10_go_212 : decode cX10_go 212 = .ok (.bipush 48, 2) := by decide +kernel
theorem dX10_go_214 : decode cX10_go 214 = .ok (.isub, 1) := by decide +kernel
theorem dX10_go_215 : decode cX10_go 215 = .ok (.goto 7, 3) := by decide +kernel
theorem dX10_go_218 : decode cX10_go 218 = .ok (.aload_n 0, 1) := by decide +kernel
theorem dX10_go_219 : decode cX10_go 219 = .ok (.getfield 224, 3) := by decide +kernel
theorem dX10_go_222 : decode cX10_go 222 = .ok (.putfield 224, 3) := by decide +kernel
theorem dX10_go_225 : decode cX10_go 225 = .ok (.aload_n 0, 1) := by decide +kernel
theorem dX10_go_226 : decode cX10_go 226 = .ok (.dup, 1) := by decide +kernel
theorem dX10_go_227 : decode cX10_go 227 = .ok (.getfield 209, 3) := by decide +kernel
theorem dX10_go_230 : decode cX10_go 230 = .ok (.iconst 1, 1) := by decide +kernel
theorem dX10_go_231 : decode cX10_go 231 = .ok (.iadd, 1) := by decide +kernel
theorem dX10_go_232 : decode cX10_go 232 = .ok (.putfield 209, 3) := by decide +kernel
theorem dX10_go_235 : decode cX10_go 235 = .ok (.goto (-65), 3) := by decide +kernel
theorem dX10_go_238 : decode cX10_go 238 = .ok (.aload_n 0, 1) := by decide +kernel
theorem dX10_go_239 : decode cX10_go 239 = .ok (.iload_n 1, 1) := by decide +kernel
theorem dX10_go_240 : decode cX10_go 240 = .ok (.ifCond .ne 16, 3) := by decide +kernel
theorem dX10_go_243 : decode cX10_go 243 = .ok (.aload_n 0, 1) := by decide +kernel
theorem dX10_go_244 : decode cX10_go 244 = .ok (.getfield 209, 3) := by decide +kernel
theorem dX10_go_247 : decode cX10_go 247 = .ok (.aload_n 0, 1) := by decide +kernel
theorem dX10_go_248 : decode cX10_go 248 = .ok (.getfield 212, 3) := by decide +kernel
theorem dX10_go_251 : decode cX10_go 251 = .ok (.isub, 1) := by decide +kernel
theorem dX10_go_252 : decode cX10_go 252 = .ok (.iconst 4, 1) := by decide +kernel
theorem dX10_go_253 : decode cX10_go 253 = .ok (.if_icmp .le 7, 3) := by decide +kernel
theorem dX10_go_256 : decode cX10_go 256 = .ok (.iconst 4, 1) := by decide +kernel
theorem dX10_go_257 : decode cX10_go 257 = .ok (.goto 4, 3) := by decide +kernel
theorem dX10_go_260 : decode cX10_go 260 = .ok (.iconst 2, 1) := by decide +kernel
theorem dX10_go_261 : decode cX10_go 261 = .ok (.putfield 218, 3) := by decide +kernel
theorem dX10_go_264 : decode cX10_go 264 = .ok (.aload_n 0, 1) := by decide +kernel
theorem dX10_go_265 : decode cX10_go 265 = .ok (.aload_n 0, 1) := by decide +kernel
theorem dX10_go_266 : decode cX10_go 266 = .ok (.getfield 209, 3) := by decide +kernel
theorem dX10_go_269 : decode cX10_go 269 = .ok (.putfield 215, 3) := by decide +kernel
theorem dX10_go_272 : decode cX10_go 272 = .ok (.goto 31, 3) := by decide +kernel
theorem dX10_go_275 : decode cX10_go 275 = .ok (.aload_n 0, 1) := by decide +kernel
theorem dX10_go_276 : decode cX10_go 276 = .ok (.iconst 3, 1) := by decide +kernel
theorem dX10_go_277 : decode cX10_go 277 = .ok (.putfield 218, 3) := by decide +kernel
theorem dX10_go_280 : decode cX10_go 280 = .ok (.aload_n 0, 1) := by decide +kernel
theorem dX10_go_281 : decode cX10_go 281 = .ok (.aload_n 0, 1) := by decide +kernel
theorem dX10_go_282 : decode cX10_go 282 = .ok (.getfield 25, 3) := by decide +kernel
theorem dX10_go_285 : decode cX10_go 285 = .ok (.aload_n 0, 1) := by decide +kernel
theorem dX10_go_286 : decode cX10_go 286 = .ok (.getfield 212, 3) := by decide +kernel
theorem dX10_go_289 : decode cX10_go 289 = .ok (.iaload, 1) := by decide +kernel
theorem dX10_go_290 : decode cX10_go 290 = .ok (.putfield 224, 3) := by decide +kernel
theorem dX10_go_293 : decode cX10_go 293 = .ok (.aload_n 0, 1) := by decide +kernel
theorem dX10_go_294 : decode cX10_go 294 = .ok (.dup, 1) := by decide +kernel
theorem dX10_go_295 : decode cX10_go 295 = .ok (.getfield 209, 3) := by decide +kernel
theorem dX10_go_298 : decode cX10_go 298 = .ok (.iconst 1, 1) := by decide +kernel
theorem dX10_go_299 : decode cX10_go 299 = .ok (.iadd, 1) := by decide +kernel
theorem dX10_go_300 : decode cX10_go 300 = .ok (.putfield 209, 3) := by decide +kernel
theorem dX10_go_303 : decode cX10_go 303 = .ok (.return_, 1) := by decide +kernel
theorem dX10_takesKey_0 : decode cX10_takesKey 0 = .ok (.aload_n 0, 1) := by decide +kernel
theorem dX10_takesKey_1 : decode cX10_takesKey 1 = .ok (.getfield 218, 3) := by decide +kernel
theorem dX10_takesKey_4 : decode cX10_takesKey 4 = .ok (.iconst 1, 1) := by decide +kernel
theorem dX10_takesKey_5 : decode cX10_takesKey 5 = .ok (.if_icmp .eq 5, 3) := by decide +kernel
theorem dX10_takesKey_8 : decode cX10_takesKey 8 = .ok (.iconst 0, 1) := by decide +kernel
theorem dX10_takesKey_9 : decode cX10_takesKey 9 = .ok (.ireturn, 1) := by decide +kernel
theorem dX10_takesKey_10 : decode cX10_takesKey 10 = .ok (.iconst 0, 1) := by decide +kernel
theorem dX10_takesKey_11 : decode cX10_takesKey 11 = .ok (.istore_n 1, 1) := by decide +kernel
theorem dX10_takesKey_12 : decode cX10_takesKey 12 = .ok (.iload_n 1, 1) := by decide +kernel
theorem dX10_takesKey_13 : decode cX10_takesKey 13 = .ok (.iconst 3, 1) := by decide +kernel
theorem dX10_takesKey_14 : decode cX10_takesKey 14 = .ok (.if_icmp .ge 113, 3) := by decide +kernel
theorem dX10_takesKey_17 : decode cX10_takesKey 17 = .ok (.aload_n 0, 1) := by decide +kernel
theorem dX10_takesKey_18 : decode cX10_takesKey 18 = .ok (.getfield 32, 3) := by decide +kernel
theorem dX10_takesKey_21 : decode cX10_takesKey 21 = .ok (.iload_n 1, 1) := by decide +kernel
theorem dX10_takesKey_22 : decode cX10_takesKey 22 = .ok (.iconst 1, 1) := by decide +kernel
theorem dX10_takesKey_23 : decode cX10_takesKey 23 = .ok (.iadd, 1) := by decide +kernel
theorem dX10_takesKey_24 : decode cX10_takesKey 24 = .ok (.iaload, 1) := by decide +kernel
theorem dX10_takesKey_25 : decode cX10_takesKey 25 = .ok (.aload_n 0, 1) := by decide +kernel
theorem dX10_takesKey_26 : decode cX10_takesKey 26 = .ok (.getfield 32, 3) := by decide +kernel
theorem dX10_takesKey_29 : decode cX10_takesKey 29 = .ok (.iload_n 1, 1) := by decide +kernel
theorem dX10_takesKey_30 : decode cX10_takesKey 30 = .ok (.iaload, 1) := by decide +kernel
theorem dX10_takesKey_31 : decode cX10_takesKey 31 = .ok (.isub, 1) := by decide +kernel
theorem dX10_takesKey_32 : decode cX10_takesKey 32 = .ok (.istore_n 2, 1) := by decide +kernel
theorem dX10_takesKey_33 : decode cX10_takesKey 33 = .ok (.iload_n 2, 1) := by decide +kernel
theorem dX10_takesKey_34 : decode cX10_takesKey 34 = .ok (.aload_n 0, 1) := by decide +kernel
theorem dX10_takesKey_35 : decode cX10_takesKey 35 = .ok (.getfield 209, 3) := by decide +kernel
theorem dX10_takesKey_38 : decode cX10_takesKey 38 = .ok (.aload_n 0, 1) := by decide +kernel
theorem dX10_takesKey_39 : decode cX10_takesKey 39 = .ok (.getfield 212, 3) := by decide +kernel
theorem dX10_takesKey_42 : decode cX10_takesKey 42 = .ok (.isub, 1) := by decide +kernel
theorem dX10_takesKey_43 : decode cX10_takesKey 43 = .ok (.if_icmp .ne 7, 3) := by decide +kernel
theorem dX10_takesKey_46 : decode cX10_takesKey 46 = .ok (.iconst 1, 1) := by decide +kernel
theorem dX10_takesKey_47 : decode cX10_takesKey 47 = .ok (.goto 4, 3) := by decide +kernel
theorem dX10_takesKey_50 : decode cX10_takesKey 50 = .ok (.iconst 0, 1) := by decide +kernel
theorem dX10_takesKey_51 : decode cX10_takesKey 51 = .ok (.istore_n 3, 1) := by decide +kernel
theorem dX10_takesKey_52 : decode cX10_takesKey 52 = .ok (.iconst 0, 1) := by decide +kernel
theorem dX10_takesKey_53 : decode cX10_takesKey 53 = .ok (.istore 4, 2) := by decide +kernel
theorem dX10_takesKey_55 : decode cX10_takesKey 55 = .ok (.iload 4, 2) := by decide +kernel
theorem dX10_takesKey_57 : decode cX10_takesKey 57 = .ok (.iload_n 2, 1) := by decide +kernel
theorem dX10_takesKey_58 : decode cX10_takesKey 58 = .ok (.if_icmp .ge 48, 3) := by decide +kernel
theorem dX10_takesKey_61 : decode cX10_takesKey 61 = .ok (.iload_n 3, 1) := by decide +kernel
theorem dX10_takesKey_62 : decode cX10_takesKey 62 = .ok (.ifCond .eq 44, 3) := by decide +kernel
theorem dX10_takesKey_65 : decode cX10_takesKey 65 = .ok (.aload_n 0, 1) := by decide +kernel
theorem dX10_takesKey_66 : decode cX10_takesKey 66 = .ok (.getfield 25, 3) := by decide +kernel
theorem dX10_takesKey_69 : decode cX10_takesKey 69 = .ok (.aload_n 0, 1) := by decide +kernel
theorem dX10_takesKey_70 : decode cX10_takesKey 70 = .ok (.getfield 212, 3) := by decide +kernel
theorem dX10_takesKey_73 : decode cX10_takesKey 73 = .ok (.iload 4, 2) := by decide +kernel
theorem dX10_takesKey_75 : decode cX10_takesKey 75 = .ok (.iadd, 1) := by decide +kernel
theorem dX10_takesKey_76 : decode cX10_takesKey 76 = .ok (.iaload, 1) := by decide +kernel
theorem dX10_takesKey_77 : decode cX10_takesKey 77 = .ok (.aload_n 0, 1) := by decide +kernel
theorem dX10_takesKey_78 : decode cX10_takesKey 78 = .ok (.getfield 28, 3) := by decide +kernel
theorem dX10_takesKey_81 : decode cX10_takesKey 81 = .ok (.aload_n 0, 1) := by decide +kernel
theorem dX10_takesKey_82 : decode cX10_takesKey 82 = .ok (.getfield 32, 3) := by decide +kernel
theorem dX10_takesKey_85 : decode cX10_takesKey 85 = .ok (.iload_n 1, 1) := by decide +kernel
theorem dX10_takesKey_86 : decode cX10_takesKey 86 = .ok (.iaload, 1) := by decide +kernel
theorem dX10_takesKey_87 : decode cX10_takesKey 87 = .ok (.iload 4, 2) := by decide +kernel
theorem dX10_takesKey_89 : decode cX10_takesKey 89 = .ok (.iadd, 1) := by decide +kernel
theorem dX10_takesKey_90 : decode cX10_takesKey 90 = .ok (.caload, 1) := by decide +kernel
theorem dX10_takesKey_91 : decode cX10_takesKey 91 = .ok (.if_icmp .ne 7, 3) := by decide +kernel
theorem dX10_takesKey_94 : decode cX10_takesKey 94 = .ok (.iconst 1, 1) := by decide +kernel
theorem dX10_takesKey_95 : decode cX10_takesKey 95 = .ok (.goto 4, 3) := by decide +kernel
theorem dX10_takesKey_98 : decode cX10_takesKey 98 = .ok (.iconst 0, 1) := by decide +kernel
theorem dX10_takesKey_99 : decode cX10_takesKey 99 = .ok (.istore_n 3, 1) := by decide +kernel
theorem dX10_takesKey_100 : decode cX10_takesKey 100 = .ok (.iinc 4 1, 3) := by decide +kernel
theorem dX10_takesKey_103 : decode cX10_takesKey 103 = .ok (.goto (-48), 3) := by decide +kernel
theorem dX10_takesKey_106 : decode cX10_takesKey 106 = .ok (.iload_n 3, 1) := by decide +kernel
theorem dX10_takesKey_107 : decode cX10_takesKey 107 = .ok (.ifCond .eq 14, 3) := by decide +kernel
theorem dX10_takesKey_110 : decode cX10_takesKey 110 = .ok (.aload_n 0, 1) := by decide +kernel
theorem dX10_takesKey_111 : decode cX10_takesKey 111 = .ok (.iload_n 1, 1) := by decide +kernel
theorem dX10_takesKey_112 : decode cX10_takesKey 112 = .ok (.putfield 230, 3) := by decide +kernel
theorem dX10_takesKey_115 : decode cX10_takesKey 115 = .ok (.aload_n 0, 1) := by decide +kernel
theorem dX10_takesKey_116 : decode cX10_takesKey 116 = .ok (.invokevirtual 233, 3) := by decide +kernel
theorem dX10_takesKey_119 : decode cX10_takesKey 119 = .ok (.iconst 1, 1) := by decide +kernel
theorem dX10_takesKey_120 : decode cX10_takesKey 120 = .ok (.ireturn, 1) := by decide +kernel
theorem dX10_takesKey_121 : decode cX10_takesKey 121 = .ok (.iinc 1 1, 3) := by decide +kernel
theorem dX10_takesKey_124 : decode cX10_takesKey 124 = .ok (.goto (-112), 3) := by decide +kernel
theorem dX10_takesKey_127 : decode cX10_takesKey 127 = .ok (.iconst 0, 1) := by decide +kernel
theorem dX10_takesKey_128 : decode cX10_takesKey 128 = .ok (.ireturn, 1) := by decide +kernel
theorem dX10_nameOf_0 : decode cX10_nameOf 0 = .ok (.aload_n 0, 1) := by decide +kernel
theorem dX10_nameOf_1 : decode cX10_nameOf 1 = .ok (.getfield 230, 3) := by decide +kernel
theorem dX10_nameOf_4 : decode cX10_nameOf 4 = .ok (.lookupswitch 82 #[(0, 28), (1, 60)], 28) := by decide +kernel
theorem dX10_nameOf_32 : decode cX10_nameOf 32 = .ok (.iload_n 1, 1) := by decide +kernel
theorem dX10_nameOf_33 : decode cX10_nameOf 33 = .ok (.bipush 108, 2) := by decide +kernel
theorem dX10_nameOf_35 : decode cX10_nameOf 35 = .ok (.if_icmp .ne 7, 3) := by decide +kernel
theorem dX10_nameOf_38 : decode cX10_nameOf 38 = .ok (.iconst 0, 1) := by decide +kernel
theorem dX10_nameOf_39 : decode cX10_nameOf 39 = .ok (.goto 24, 3) := by decide +kernel
theorem dX10_nameOf_42 : decode cX10_nameOf 42 = .ok (.iload_n 1, 1) := by decide +kernel
theorem dX10_nameOf_43 : decode cX10_nameOf 43 = .ok (.bipush 104, 2) := by decide +kernel
theorem dX10_nameOf_45 : decode cX10_nameOf 45 = .ok (.if_icmp .ne 7, 3) := by decide +kernel
theorem dX10_nameOf_48 : decode cX10_nameOf 48 = .ok (.iconst 1, 1) := by decide +kernel
theorem dX10_nameOf_49 : decode cX10_nameOf 49 = .ok (.goto 14, 3) := by decide +kernel
theorem dX10_nameOf_52 : decode cX10_nameOf 52 = .ok (.iload_n 1, 1) := by decide +kernel
theorem dX10_nameOf_53 : decode cX10_nameOf 53 = .ok (.bipush 100, 2) := by decide +kernel
theorem dX10_nameOf_55 : decode cX10_nameOf 55 = .ok (.if_icmp .ne 7, 3) := by decide +kernel
theorem dX10_nameOf_58 : decode cX10_nameOf 58 = .ok (.iconst 2, 1) := by decide +kernel
theorem dX10_nameOf_59 : decode cX10_nameOf 59 = .ok (.goto 4, 3) := by decide +kernel
theorem dX10_nameOf_62 : decode cX10_nameOf 62 = .ok (.iconst (-1), 1) := by decide +kernel
theorem dX10_nameOf_63 : decode cX10_nameOf 63 = .ok (.ireturn, 1) := by decide +kernel
theorem dX10_nameOf_64 : decode cX10_nameOf 64 = .ok (.iload_n 1, 1) := by decide +kernel
theorem dX10_nameOf_65 : decode cX10_nameOf 65 = .ok (.bipush 116, 2) := by decide +kernel
theorem dX10_nameOf_67 : decode cX10_nameOf 67 = .ok (.if_icmp .ne 7, 3) := by decide +kernel
theorem dX10_nameOf_70 : decode cX10_nameOf 70 = .ok (.iconst 0, 1) := by decide +kernel
theorem dX10_nameOf_71 : decode cX10_nameOf 71 = .ok (.goto 14, 3) := by decide +kernel
theorem dX10_nameOf_74 : decode cX10_nameOf 74 = .ok (.iload_n 1, 1) := by decide +kernel
theorem dX10_nameOf_75 : decode cX10_nameOf 75 = .ok (.bipush 98, 2) := by decide +kernel
theorem dX10_nameOf_77 : decode cX10_nameOf 77 = .ok (.if_icmp .ne 7, 3) := by decide +kernel
theorem dX10_nameOf_80 : decode cX10_nameOf 80 = .ok (.iconst 1, 1) := by decide +kernel
theorem dX10_nameOf_81 : decode cX10_nameOf 81 = .ok (.goto 4, 3) := by decide +kernel
theorem dX10_nameOf_84 : decode cX10_nameOf 84 = .ok (.iconst (-1), 1) := by decide +kernel
theorem dX10_nameOf_85 : decode cX10_nameOf 85 = .ok (.ireturn, 1) := by decide +kernel
theorem dX10_nameOf_86 : decode cX10_nameOf 86 = .ok (.iload_n 1, 1) := by decide +kernel
theorem dX10_nameOf_87 : decode cX10_nameOf 87 = .ok (.bipush 119, 2) := by decide +kernel
theorem dX10_nameOf_89 : decode cX10_nameOf 89 = .ok (.if_icmp .ne 7, 3) := by decide +kernel
theorem dX10_nameOf_92 : decode cX10_nameOf 92 = .ok (.iconst 0, 1) := by decide +kernel
theorem dX10_nameOf_93 : decode cX10_nameOf 93 = .ok (.goto 14, 3) := by decide +kernel
theorem dX10_nameOf_96 : decode cX10_nameOf 96 = .ok (.iload_n 1, 1) := by decide +kernel
theorem dX10_nameOf_97 : decode cX10_nameOf 97 = .ok (.bipush 100, 2) := by decide +kernel
theorem dX10_nameOf_99 : decode cX10_nameOf 99 = .ok (.if_icmp .ne 7, 3) := by decide +kernel
theorem dX10_nameOf_102 : decode cX10_nameOf 102 = .ok (.iconst 1, 1) := by decide +kernel
theorem dX10_nameOf_103 : decode cX10_nameOf 103 = .ok (.goto 4, 3) := by decide +kernel
theorem dX10_nameOf_106 : decode cX10_nameOf 106 = .ok (.iconst (-1), 1) := by decide +kernel
theorem dX10_nameOf_107 : decode cX10_nameOf 107 = .ok (.ireturn, 1) := by decide +kernel
theorem dX10_rank_0 : decode cX10_rank 0 = .ok (.iload_n 0, 1) := by decide +kernel
theorem dX10_rank_1 : decode cX10_rank 1 = .ok (.iconst (-1), 1) := by decide +kernel
theorem dX10_rank_2 : decode cX10_rank 2 = .ok (.if_icmp .ne 7, 3) := by decide +kernel
theorem dX10_rank_5 : decode cX10_rank 5 = .ok (.iconst 1, 1) := by decide +kernel
theorem dX10_rank_6 : decode cX10_rank 6 = .ok (.goto 45, 3) := by decide +kernel
theorem dX10_rank_9 : decode cX10_rank 9 = .ok (.iload_n 0, 1) := by decide +kernel
theorem dX10_rank_10 : decode cX10_rank 10 = .ok (.bipush (-2), 2) := by decide +kernel
theorem dX10_rank_12 : decode cX10_rank 12 = .ok (.if_icmp .ne 7, 3) := by decide +kernel
theorem dX10_rank_15 : decode cX10_rank 15 = .ok (.iconst 2, 1) := by decide +kernel
theorem dX10_rank_16 : decode cX10_rank 16 = .ok (.goto 35, 3) := by decide +kernel
theorem dX10_rank_19 : decode cX10_rank 19 = .ok (.iload_n 0, 1) := by decide +kernel
theorem dX10_rank_20 : decode cX10_rank 20 = .ok (.bipush (-5), 2) := by decide +kernel
theorem dX10_rank_22 : decode cX10_rank 22 = .ok (.if_icmp .lt 7, 3) := by decide +kernel
theorem dX10_rank_25 : decode cX10_rank 25 = .ok (.iconst 3, 1) := by decide +kernel
theorem dX10_rank_26 : decode cX10_rank 26 = .ok (.goto 25, 3) := by decide +kernel
theorem dX10_rank_29 : decode cX10_rank 29 = .ok (.iload_n 0, 1) := by decide +kernel
theorem dX10_rank_30 : decode cX10_rank 30 = .ok (.bipush (-7), 2) := by decide +kernel
theorem dX10_rank_32 : decode cX10_rank 32 = .ok (.if_icmp .lt 7, 3) := by decide +kernel
theorem dX10_rank_35 : decode cX10_rank 35 = .ok (.iconst 4, 1) := by decide +kernel
theorem dX10_rank_36 : decode cX10_rank 36 = .ok (.goto 15, 3) := by decide +kernel
theorem dX10_rank_39 : decode cX10_rank 39 = .ok (.iload_n 0, 1) := by decide +kernel
theorem dX10_rank_40 : decode cX10_rank 40 = .ok (.bipush (-9), 2) := by decide +kernel
theorem dX10_rank_42 : decode cX10_rank 42 = .ok (.if_icmp .lt 7, 3) := by decide +kernel
theorem dX10_rank_45 : decode cX10_rank 45 = .ok (.iconst 5, 1) := by decide +kernel
theorem dX10_rank_46 : decode cX10_rank 46 = .ok (.goto 5, 3) := by decide +kernel
theorem dX10_rank_49 : decode cX10_rank 49 = .ok (.bipush 6, 2) := by decide +kernel
theorem dX10_rank_51 : decode cX10_rank 51 = .ok (.ireturn, 1) := by decide +kernel
theorem dX10_settle_0 : decode cX10_settle 0 = .ok (.aload_n 0, 1) := by decide +kernel
theorem dX10_settle_1 : decode cX10_settle 1 = .ok (.getfield 236, 3) := by decide +kernel
theorem dX10_settle_4 : decode cX10_settle 4 = .ok (.ifCond .le 78, 3) := by decide +kernel
theorem dX10_settle_7 : decode cX10_settle 7 = .ok (.aload_n 0, 1) := by decide +kernel
theorem dX10_settle_8 : decode cX10_settle 8 = .ok (.getfield 38, 3) := by decide +kernel
theorem dX10_settle_11 : decode cX10_settle 11 = .ok (.aload_n 0, 1) := by decide +kernel
theorem dX10_settle_12 : decode cX10_settle 12 = .ok (.getfield 236, 3) := by decide +kernel
theorem dX10_settle_15 : decode cX10_settle 15 = .ok (.iconst 1, 1) := by decide +kernel
theorem dX10_settle_16 : decode cX10_settle 16 = .ok (.isub, 1) := by decide +kernel
theorem dX10_settle_17 : decode cX10_settle 17 = .ok (.iaload, 1) := by decide +kernel
theorem dX10_settle_18 : decode cX10_settle 18 = .ok (.bipush (-11), 2) := by decide +kernel
theorem dX10_settle_20 : decode cX10_settle 20 = .ok (.if_icmp .eq 62, 3) := by decide +kernel
theorem dX10_settle_23 : decode cX10_settle 23 = .ok (.aload_n 0, 1) := by decide +kernel
theorem dX10_settle_24 : decode cX10_settle 24 = .ok (.getfield 38, 3) := by decide +kernel
theorem dX10_settle_27 : decode cX10_settle 27 = .ok (.aload_n 0, 1) := by decide +kernel
theorem dX10_settle_28 : decode cX10_settle 28 = .ok (.getfield 236, 3) := by decide +kernel
theorem dX10_settle_31 : decode cX10_settle 31 = .ok (.iconst 1, 1) := by decide +kernel
theorem dX10_settle_32 : decode cX10_settle 32 = .ok (.isub, 1) := by decide +kernel
theorem dX10_settle_33 : decode cX10_settle 33 = .ok (.iaload, 1) := by decide +kernel
theorem dX10_settle_34 : decode cX10_settle 34 = .ok (.invokestatic 239, 3) := by decide +kernel
theorem dX10_settle_37 : decode cX10_settle 37 = .ok (.iload_n 1, 1) := by decide +kernel
theorem dX10_settle_38 : decode cX10_settle 38 = .ok (.if_icmp .lt 44, 3) := by decide +kernel
theorem dX10_settle_41 : decode cX10_settle 41 = .ok (.aload_n 0, 1) := by decide +kernel
theorem dX10_settle_42 : decode cX10_settle 42 = .ok (.dup, 1) := by decide +kernel
theorem dX10_settle_43 : decode cX10_settle 43 = .ok (.getfield 236, 3) := by decide +kernel
theorem dX10_settle_46 : decode cX10_settle 46 = .ok (.iconst 1, 1) := by decide +kernel
theorem dX10_settle_47 : decode cX10_settle 47 = .ok (.isub, 1) := by decide +kernel
theorem dX10_settle_48 : decode cX10_settle 48 = .ok (.putfield 236, 3) := by decide +kernel
theorem dX10_settle_51 : decode cX10_settle 51 = .ok (.aload_n 0, 1) := by decide +kernel
theorem dX10_settle_52 : decode cX10_settle 52 = .ok (.getfield 35, 3) := by decide +kernel
theorem dX10_settle_55 : decode cX10_settle 55 = .ok (.aload_n 0, 1) := by decide +kernel
theorem dX10_settle_56 : decode cX10_settle 56 = .ok (.getfield 242, 3) := by decide +kernel
theorem dX10_settle_59 : decode cX10_settle 59 = .ok (.aload_n 0, 1) := by decide +kernel
theorem dX10_settle_60 : decode cX10_settle 60 = .ok (.getfield 38, 3) := by decide +kernel
theorem dX10_settle_63 : decode cX10_settle 63 = .ok (.aload_n 0, 1) := by decide +kernel
theorem dX10_settle_64 : decode cX10_settle 64 = .ok (.getfield 236, 3) := by decide +kernel
theorem dX10_settle_67 : decode cX10_settle 67 = .ok (.iaload, 1) := by decide +kernel
theorem dX10_settle_68 : decode cX10_settle 68 = .ok (.iastore, 1) := by decide +kernel
theorem dX10_settle_69 : decode cX10_settle 69 = .ok (.aload_n 0, 1) := by decide +kernel
theorem dX10_settle_70 : decode cX10_settle 70 = .ok (.dup, 1) := by decide +kernel
theorem dX10_settle_71 : decode cX10_settle 71 = .ok (.getfield 242, 3) := by decide +kernel
theorem dX10_settle_74 : decode cX10_settle 74 = .ok (.iconst 1, 1) := by decide +kernel
theorem dX10_settle_75 : decode cX10_settle 75 = .ok (.iadd, 1) := by decide +kernel
theorem dX10_settle_76 : decode cX10_settle 76 = .ok (.putfield 242, 3) := by decide +kernel
theorem dX10_settle_79 : decode cX10_settle 79 = .ok (.goto (-79), 3) := by decide +kernel
theorem dX10_settle_82 : decode cX10_settle 82 = .ok (.return_, 1) := by decide +kernel
theorem dX10_signHere_0 : decode cX10_signHere 0 = .ok (.aload_n 0, 1) := by decide +kernel
theorem dX10_signHere_1 : decode cX10_signHere 1 = .ok (.getfield 218, 3) := by decide +kernel
theorem dX10_signHere_4 : decode cX10_signHere 4 = .ok (.iconst 3, 1) := by decide +kernel
theorem dX10_signHere_5 : decode cX10_signHere 5 = .ok (.if_icmp .eq 5, 3) := by decide +kernel
theorem dX10_signHere_8 : decode cX10_signHere 8 = .ok (.iconst 0, 1) := by decide +kernel
theorem dX10_signHere_9 : decode cX10_signHere 9 = .ok (.ireturn, 1) := by decide +kernel
theorem dX10_signHere_10 : decode cX10_signHere 10 = .ok (.aload_n 0, 1) := by decide +kernel
theorem dX10_signHere_11 : decode cX10_signHere 11 = .ok (.getfield 224, 3) := by decide +kernel
theorem dX10_signHere_14 : decode cX10_signHere 14 = .ok (.lookupswitch 108 #[(38, 84), (42, 102), (43, 96), (45, 99), (47, 105), (60, 87), (61, 90), (62, 93), (124, 82)], 82) := by decide +kernel
theorem dX10_signHere_96 : decode cX10_signHere 96 = .ok (.iconst (-1), 1) := by decide +kernel
theorem dX10_signHere_97 : decode cX10_signHere 97 = .ok (.ireturn, 1) := by decide +kernel
theorem dX10_signHere_98 : decode cX10_signHere 98 = .ok (.bipush (-2), 2) := by decide +kernel
theorem dX10_signHere_100 : decode cX10_signHere 100 = .ok (.ireturn, 1) := by decide +kernel
theorem dX10_signHere_101 : decode cX10_signHere 101 = .ok (.bipush (-3), 2) := by decide +kernel
theorem dX10_signHere_103 : decode cX10_signHere 103 = .ok (.ireturn, 1) := by decide +kernel
theorem dX10_signHere_104 : decode cX10_signHere 104 = .ok (.bipush (-4), 2) := by decide +kernel
theorem dX10_signHere_106 : decode cX10_signHere 106 = .ok (.ireturn, 1) := by decide +kernel
theorem dX10_signHere_107 : decode cX10_signHere 107 = .ok (.bipush (-5), 2) := by decide +kernel
theorem dX10_signHere_109 : decode cX10_signHere 109 = .ok (.ireturn, 1) := by decide +kernel
theorem dX10_signHere_110 : decode cX10_signHere 110 = .ok (.bipush (-6), 2) := by decide +kernel
theorem dX10_signHere_112 : decode cX10_signHere 112 = .ok (.ireturn, 1) := by decide +kernel
