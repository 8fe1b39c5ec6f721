theorem dX1_init_0 : decode cX1_init 0 = .ok (.aload_n 0, 1) := by decide +kernel
theorem dX1_init_1 : decode cX1_init 1 = .ok (.invokespecial 1, 3) := by decide +kernel
theorem dX1_init_4 : decode cX1_init 4 = .ok (.aload_n 0, 1) := by decide +kernel
theorem dX1_init_5 : decode cX1_init 5 = .ok (.sipush 3000, 3) := by decide +kernel
theorem dX1_init_8 : decode cX1_init 8 = .ok (.newarray .int, 2) := by decide +kernel
theorem dX1_init_10 : decode cX1_init 10 = .ok (.putfield 9, 3) := by decide +kernel
theorem dX1_init_13 : decode cX1_init 13 = .ok (.aload_n 0, 1) := by decide +kernel
theorem dX1_init_14 : decode cX1_init 14 = .ok (.bipush 40, 2) := by decide +kernel
theorem dX1_init_16 : decode cX1_init 16 = .ok (.newarray .int, 2) := by decide +kernel
theorem dX1_init_18 : decode cX1_init 18 = .ok (.putfield 13, 3) := by decide +kernel
theorem dX1_init_21 : decode cX1_init 21 = .ok (.aload_n 0, 1) := by decide +kernel
theorem dX1_init_22 : decode cX1_init 22 = .ok (.bipush 20, 2) := by decide +kernel
theorem dX1_init_24 : decode cX1_init 24 = .ok (.newarray .int, 2) := by decide +kernel
theorem dX1_init_26 : decode cX1_init 26 = .ok (.putfield 16, 3) := by decide +kernel
theorem dX1_init_29 : decode cX1_init 29 = .ok (.return_, 1) := by decide +kernel
theorem dX1_note_0 : decode cX1_note 0 = .ok (.iload_n 1, 1) := by decide +kernel
theorem dX1_note_1 : decode cX1_note 1 = .ok (.i2l, 1) := by decide +kernel
theorem dX1_note_2 : decode cX1_note 2 = .ok (.invokestatic 34, 3) := by decide +kernel
theorem dX1_note_5 : decode cX1_note 5 = .ok (.ifCond .ne 5, 3) := by decide +kernel
theorem dX1_note_8 : decode cX1_note 8 = .ok (.iconst (-1), 1) := by decide +kernel
theorem dX1_note_9 : decode cX1_note 9 = .ok (.ireturn, 1) := by decide +kernel
theorem dX1_note_10 : decode cX1_note 10 = .ok (.aload_n 0, 1) := by decide +kernel
theorem dX1_note_11 : decode cX1_note 11 = .ok (.getfield 38, 3) := by decide +kernel
theorem dX1_note_14 : decode cX1_note 14 = .ok (.bipush 40, 2) := by decide +kernel
theorem dX1_note_16 : decode cX1_note 16 = .ok (.if_icmp .ne 6, 3) := by decide +kernel
theorem dX1_note_19 : decode cX1_note 19 = .ok (.bipush (-3), 2) := by decide +kernel
theorem dX1_note_21 : decode cX1_note 21 = .ok (.ireturn, 1) := by decide +kernel
theorem dX1_note_22 : decode cX1_note 22 = .ok (.aload_n 0, 1) := by decide +kernel
theorem dX1_note_23 : decode cX1_note 23 = .ok (.getfield 13, 3) := by decide +kernel
theorem dX1_note_26 : decode cX1_note 26 = .ok (.aload_n 0, 1) := by decide +kernel
theorem dX1_note_27 : decode cX1_note 27 = .ok (.getfield 38, 3) := by decide +kernel
theorem dX1_note_30 : decode cX1_note 30 = .ok (.iload_n 1, 1) := by decide +kernel
theorem dX1_note_31 : decode cX1_note 31 = .ok (.iastore, 1) := by decide +kernel
theorem dX1_note_32 : decode cX1_note 32 = .ok (.aload_n 0, 1) := by decide +kernel
theorem dX1_note_33 : decode cX1_note 33 = .ok (.dup, 1) := by decide +kernel
theorem dX1_note_34 : decode cX1_note 34 = .ok (.getfield 38, 3) := by decide +kernel
theorem dX1_note_37 : decode cX1_note 37 = .ok (.iconst 1, 1) := by decide +kernel
theorem dX1_note_38 : decode cX1_note 38 = .ok (.iadd, 1) := by decide +kernel
theorem dX1_note_39 : decode cX1_note 39 = .ok (.dup_x1, 1) := by decide +kernel
theorem dX1_note_40 : decode cX1_note 40 = .ok (.putfield 38, 3) := by decide +kernel
theorem dX1_note_43 : decode cX1_note 43 = .ok (.ireturn, 1) := by decide +kernel
theorem dX1_isSign_0 : decode cX1_isSign 0 = .ok (.lload_n 0, 1) := by decide +kernel
theorem dX1_isSign_1 : decode cX1_isSign 1 = .ok (.lconst 0, 1) := by decide +kernel
theorem dX1_isSign_2 : decode cX1_isSign 2 = .ok (.lcmp, 1) := by decide +kernel
theorem dX1_isSign_3 : decode cX1_isSign 3 = .ok (.ifCond .lt 31, 3) := by decide +kernel
theorem dX1_isSign_6 : decode cX1_isSign 6 = .ok (.lload_n 0, 1) := by decide +kernel
theorem dX1_isSign_7 : decode cX1_isSign 7 = .ok (.ldc2_w 19, 3) := by decide +kernel
theorem dX1_isSign_10 : decode cX1_isSign 10 = .ok (.lcmp, 1) := by decide +kernel
theorem dX1_isSign_11 : decode cX1_isSign 11 = .ok (.ifCond .gt 23, 3) := by decide +kernel
theorem dX1_isSign_14 : decode cX1_isSign 14 = .ok (.lload_n 0, 1) := by decide +kernel
theorem dX1_isSign_15 : decode cX1_isSign 15 = .ok (.ldc2_w 21, 3) := by decide +kernel
theorem dX1_isSign_18 : decode cX1_isSign 18 = .ok (.lcmp, 1) := by decide +kernel
theorem dX1_isSign_19 : decode cX1_isSign 19 = .ok (.ifCond .lt 11, 3) := by decide +kernel
theorem dX1_isSign_22 : decode cX1_isSign 22 = .ok (.lload_n 0, 1) := by decide +kernel
theorem dX1_isSign_23 : decode cX1_isSign 23 = .ok (.ldc2_w 23, 3) := by decide +kernel
theorem dX1_isSign_26 : decode cX1_isSign 26 = .ok (.lcmp, 1) := by decide +kernel
theorem dX1_isSign_27 : decode cX1_isSign 27 = .ok (.ifCond .le 7, 3) := by decide +kernel
theorem dX1_isSign_30 : decode cX1_isSign 30 = .ok (.iconst 1, 1) := by decide +kernel
theorem dX1_isSign_31 : decode cX1_isSign 31 = .ok (.goto 4, 3) := by decide +kernel
theorem dX1_isSign_34 : decode cX1_isSign 34 = .ok (.iconst 0, 1) := by decide +kernel
theorem dX1_isSign_35 : decode cX1_isSign 35 = .ok (.ireturn, 1) := by decide +kernel
theorem dX1_drop_0 : decode cX1_drop 0 = .ok (.aload_n 0, 1) := by decide +kernel
theorem dX1_drop_1 : decode cX1_drop 1 = .ok (.getfield 38, 3) := by decide +kernel
theorem dX1_drop_4 : decode cX1_drop 4 = .ok (.istore_n 1, 1) := by decide +kernel
theorem dX1_drop_5 : decode cX1_drop 5 = .ok (.aload_n 0, 1) := by decide +kernel
theorem dX1_drop_6 : decode cX1_drop 6 = .ok (.iconst 0, 1) := by decide +kernel
theorem dX1_drop_7 : decode cX1_drop 7 = .ok (.putfield 38, 3) := by decide +kernel
theorem dX1_drop_10 : decode cX1_drop 10 = .ok (.iload_n 1, 1) := by decide +kernel
theorem dX1_drop_11 : decode cX1_drop 11 = .ok (.ireturn, 1) := by decide +kernel
theorem dX1_scrap_0 : decode cX1_scrap 0 = .ok (.iload_n 1, 1) := by decide +kernel
theorem dX1_scrap_1 : decode cX1_scrap 1 = .ok (.ifCond .lt 11, 3) := by decide +kernel
theorem dX1_scrap_4 : decode cX1_scrap 4 = .ok (.iload_n 1, 1) := by decide +kernel
theorem dX1_scrap_5 : decode cX1_scrap 5 = .ok (.aload_n 0, 1) := by decide +kernel
theorem dX1_scrap_6 : decode cX1_scrap 6 = .ok (.getfield 38, 3) := by decide +kernel
theorem dX1_scrap_9 : decode cX1_scrap 9 = .ok (.if_icmp .lt 7, 3) := by decide +kernel
theorem dX1_scrap_12 : decode cX1_scrap 12 = .ok (.iconst (-1), 1) := by decide +kernel
theorem dX1_scrap_13 : decode cX1_scrap 13 = .ok (.goto 9, 3) := by decide +kernel
theorem dX1_scrap_16 : decode cX1_scrap 16 = .ok (.aload_n 0, 1) := by decide +kernel
theorem dX1_scrap_17 : decode cX1_scrap 17 = .ok (.getfield 13, 3) := by decide +kernel
theorem dX1_scrap_20 : decode cX1_scrap 20 = .ok (.iload_n 1, 1) := by decide +kernel
theorem dX1_scrap_21 : decode cX1_scrap 21 = .ok (.iaload, 1) := by decide +kernel
theorem dX1_scrap_22 : decode cX1_scrap 22 = .ok (.ireturn, 1) := by decide +kernel
theorem dX1_lift_0 : decode cX1_lift 0 = .ok (.iload_n 1, 1) := by decide +kernel
theorem dX1_lift_1 : decode cX1_lift 1 = .ok (.ifCond .lt 16, 3) := by decide +kernel
theorem dX1_lift_4 : decode cX1_lift 4 = .ok (.iload_n 2, 1) := by decide +kernel
theorem dX1_lift_5 : decode cX1_lift 5 = .ok (.iload_n 1, 1) := by decide +kernel
theorem dX1_lift_6 : decode cX1_lift 6 = .ok (.if_icmp .lt 11, 3) := by decide +kernel
theorem dX1_lift_9 : decode cX1_lift 9 = .ok (.iload_n 2, 1) := by decide +kernel
theorem dX1_lift_10 : decode cX1_lift 10 = .ok (.aload_n 0, 1) := by decide +kernel
theorem dX1_lift_11 : decode cX1_lift 11 = .ok (.getfield 31, 3) := by decide +kernel
theorem dX1_lift_14 : decode cX1_lift 14 = .ok (.if_icmp .le 5, 3) := by decide +kernel
theorem dX1_lift_17 : decode cX1_lift 17 = .ok (.iconst (-1), 1) := by decide +kernel
theorem dX1_lift_18 : decode cX1_lift 18 = .ok (.ireturn, 1) := by decide +kernel
theorem dX1_lift_19 : decode cX1_lift 19 = .ok (.iload_n 2, 1) := by decide +kernel
theorem dX1_lift_20 : decode cX1_lift 20 = .ok (.iload_n 1, 1) := by decide +kernel
theorem dX1_lift_21 : decode cX1_lift 21 = .ok (.isub, 1) := by decide +kernel
theorem dX1_lift_22 : decode cX1_lift 22 = .ok (.bipush 40, 2) := by decide +kernel
theorem dX1_lift_24 : decode cX1_lift 24 = .ok (.if_icmp .le 6, 3) := by decide +kernel
theorem dX1_lift_27 : decode cX1_lift 27 = .ok (.bipush (-3), 2) := by decide +kernel
theorem dX1_lift_29 : decode cX1_lift 29 = .ok (.ireturn, 1) := by decide +kernel
theorem dX1_lift_30 : decode cX1_lift 30 = .ok (.aload_n 0, 1) := by decide +kernel
theorem dX1_lift_31 : decode cX1_lift 31 = .ok (.iload_n 2, 1) := by decide +kernel
theorem dX1_lift_32 : decode cX1_lift 32 = .ok (.iload_n 1, 1) := by decide +kernel
theorem dX1_lift_33 : decode cX1_lift 33 = .ok (.isub, 1) := by decide +kernel
theorem dX1_lift_34 : decode cX1_lift 34 = .ok (.putfield 38, 3) := by decide +kernel
theorem dX1_lift_37 : decode cX1_lift 37 = .ok (.iconst 0, 1) := by decide +kernel
theorem dX1_lift_38 : decode cX1_lift 38 = .ok (.istore_n 3, 1) := by decide +kernel
theorem dX1_lift_39 : decode cX1_lift 39 = .ok (.iload_n 3, 1) := by decide +kernel
theorem dX1_lift_40 : decode cX1_lift 40 = .ok (.aload_n 0, 1) := by decide +kernel
theorem dX1_lift_41 : decode cX1_lift 41 = .ok (.getfield 38, 3) := by decide +kernel
theorem dX1_lift_44 : decode cX1_lift 44 = .ok (.if_icmp .ge 23, 3) := by decide +kernel
theorem dX1_lift_47 : decode cX1_lift 47 = .ok (.aload_n 0, 1) := by decide +kernel
theorem dX1_lift_48 : decode cX1_lift 48 = .ok (.getfield 13, 3) := by decide +kernel
theorem dX1_lift_51 : decode cX1_lift 51 = .ok (.iload_n 3, 1) := by decide +kernel
theorem dX1_lift_52 : decode cX1_lift 52 = .ok (.aload_n 0, 1) := by decide +kernel
theorem dX1_lift_53 : decode cX1_lift 53 = .ok (.getfield 9, 3) := by decide +kernel
theorem dX1_lift_56 : decode cX1_lift 56 = .ok (.iload_n 1, 1) := by decide +kernel
theorem dX1_lift_57 : decode cX1_lift 57 = .ok (.iload_n 3, 1) := by decide +kernel
theorem dX1_lift_58 : decode cX1_lift 58 = .ok (.iadd, 1) := by decide +kernel
theorem dX1_lift_59 : decode cX1_lift 59 = .ok (.iaload, 1) := by decide +kernel
theorem dX1_lift_60 : decode cX1_lift 60 = .ok (.iastore, 1) := by decide +kernel
theorem dX1_lift_61 : decode cX1_lift 61 = .ok (.iinc 3 1, 3) := by decide +kernel
theorem dX1_lift_64 : decode cX1_lift 64 = .ok (.goto (-25), 3) := by decide +kernel
theorem dX1_lift_67 : decode cX1_lift 67 = .ok (.aload_n 0, 1) := by decide +kernel
theorem dX1_lift_68 : decode cX1_lift 68 = .ok (.getfield 38, 3) := by decide +kernel
theorem dX1_lift_71 : decode cX1_lift 71 = .ok (.ireturn, 1) := by decide +kernel
theorem dX1_add_0 : decode cX1_add 0 = .ok (.iload_n 1, 1) := by decide +kernel
theorem dX1_add_1 : decode cX1_add 1 = .ok (.tableswitch 113 0 3 #[31, 45, 61, 70], 31) := by decide +kernel
theorem dX1_add_32 : decode cX1_add 32 = .ok (.aload_n 0, 1) := by decide +kernel
theorem dX1_add_33 : decode cX1_add 33 = .ok (.lload_n 2, 1) := by decide +kernel
theorem dX1_add_34 : decode cX1_add 34 = .ok (.invokevirtual 55, 3) := by decide +kernel
theorem dX1_add_37 : decode cX1_add 37 = .ok (.aload_n 0, 1) := by decide +kernel
theorem dX1_add_38 : decode cX1_add 38 = .ok (.aload_n 0, 1) := by decide +kernel
theorem dX1_add_39 : decode cX1_add 39 = .ok (.getfield 31, 3) := by decide +kernel
theorem dX1_add_42 : decode cX1_add 42 = .ok (.invokevirtual 58, 3) := by decide +kernel
theorem dX1_add_45 : decode cX1_add 45 = .ok (.ireturn, 1) := by decide +kernel
theorem dX1_add_46 : decode cX1_add 46 = .ok (.aload_n 0, 1) := by decide +kernel
theorem dX1_add_47 : decode cX1_add 47 = .ok (.lload_n 2, 1) := by decide +kernel
theorem dX1_add_48 : decode cX1_add 48 = .ok (.lconst 0, 1) := by decide +kernel
theorem dX1_add_49 : decode cX1_add 49 = .ok (.lcmp, 1) := by decide +kernel
theorem dX1_add_50 : decode cX1_add 50 = .ok (.ifCond .eq 7, 3) := by decide +kernel
theorem dX1_add_53 : decode cX1_add 53 = .ok (.iconst 1, 1) := by decide +kernel
theorem dX1_add_54 : decode cX1_add 54 = .ok (.goto 4, 3) := by decide +kernel
theorem dX1_add_57 : decode cX1_add 57 = .ok (.iconst 0, 1) := by decide +kernel
theorem dX1_add_58 : decode cX1_add 58 = .ok (.invokevirtual 62, 3) := by decide +kernel
theorem dX1_add_61 : decode cX1_add 61 = .ok (.ireturn, 1) := by decide +kernel
theorem dX1_add_62 : decode cX1_add 62 = .ok (.aload_n 0, 1) := by decide +kernel
theorem dX1_add_63 : decode cX1_add 63 = .ok (.aload_n 0, 1) := by decide +kernel
theorem dX1_add_64 : decode cX1_add 64 = .ok (.getfield 31, 3) := by decide +kernel
theorem dX1_add_67 : decode cX1_add 67 = .ok (.invokevirtual 66, 3) := by decide +kernel
theorem dX1_add_70 : decode cX1_add 70 = .ok (.ireturn, 1) := by decide +kernel
theorem dX1_add_71 : decode cX1_add 71 = .ok (.lload_n 2, 1) := by decide +kernel
theorem dX1_add_72 : decode cX1_add 72 = .ok (.invokestatic 34, 3) := by decide +kernel
theorem dX1_add_75 : decode cX1_add 75 = .ok (.ifCond .ne 5, 3) := by decide +kernel
theorem dX1_add_78 : decode cX1_add 78 = .ok (.iconst (-1), 1) := by decide +kernel
theorem dX1_add_79 : decode cX1_add 79 = .ok (.ireturn, 1) := by decide +kernel
theorem dX1_add_80 : decode cX1_add 80 = .ok (.aload_n 0, 1) := by decide +kernel
theorem dX1_add_81 : decode cX1_add 81 = .ok (.iconst 1, 1) := by decide +kernel
theorem dX1_add_82 : decode cX1_add 82 = .ok (.invokevirtual 41, 3) := by decide +kernel
theorem dX1_add_85 : decode cX1_add 85 = .ok (.ifCond .eq 6, 3) := by decide +kernel
theorem dX1_add_88 : decode cX1_add 88 = .ok (.bipush (-3), 2) := by decide +kernel
theorem dX1_add_90 : decode cX1_add 90 = .ok (.ireturn, 1) := by decide +kernel
theorem dX1_add_91 : decode cX1_add 91 = .ok (.aload_n 0, 1) := by decide +kernel
theorem dX1_add_92 : decode cX1_add 92 = .ok (.getfield 9, 3) := by decide +kernel
theorem dX1_add_95 : decode cX1_add 95 = .ok (.aload_n 0, 1) := by decide +kernel
theorem dX1_add_96 : decode cX1_add 96 = .ok (.getfield 31, 3) := by decide +kernel
theorem dX1_add_99 : decode cX1_add 99 = .ok (.lload_n 2, 1) := by decide +kernel
theorem dX1_add_100 : decode cX1_add 100 = .ok (.l2i, 1) := by decide +kernel
theorem dX1_add_101 : decode cX1_add 101 = .ok (.iastore, 1) := by decide +kernel
theorem dX1_add_102 : decode cX1_add 102 = .ok (.aload_n 0, 1) := by decide +kernel
theorem dX1_add_103 : decode cX1_add 103 = .ok (.dup, 1) := by decide +kernel
theorem dX1_add_104 : decode cX1_add 104 = .ok (.getfield 31, 3) := by decide +kernel
theorem dX1_add_107 : decode cX1_add 107 = .ok (.iconst 1, 1) := by decide +kernel
theorem dX1_add_108 : decode cX1_add 108 = .ok (.iadd, 1) := by decide +kernel
theorem dX1_add_109 : decode cX1_add 109 = .ok (.dup_x1, 1) := by decide +kernel
theorem dX1_add_110 : decode cX1_add 110 = .ok (.putfield 31, 3) := by decide +kernel
theorem dX1_add_113 : decode cX1_add 113 = .ok (.ireturn, 1) := by decide +kernel
theorem dX1_add_114 : decode cX1_add 114 = .ok (.iconst (-1), 1) := by decide +kernel
theorem dX1_add_115 : decode cX1_add 115 = .ok (.ireturn, 1) := by decide +kernel
theorem dX1_digits_0 : decode cX1_digits 0 = .ok (.aload_n 0, 1) := by decide +kernel
theorem dX1_digits_1 : decode cX1_digits 1 = .ok (.iconst 0, 1) := by decide +kernel
theorem dX1_digits_2 : decode cX1_digits 2 = .ok (.putfield 25, 3) := by decide +kernel
theorem dX1_digits_5 : decode cX1_digits 5 = .ok (.lload_n 1, 1) := by decide +kernel
theorem dX1_digits_6 : decode cX1_digits 6 = .ok (.lstore_n 3, 1) := by decide +kernel
theorem dX1_digits_7 : decode cX1_digits 7 = .ok (.lload_n 3, 1) := by decide +kernel
theorem dX1_digits_8 : decode cX1_digits 8 = .ok (.ldc2_w 29, 3) := by decide +kernel
theorem dX1_digits_11 : decode cX1_digits 11 = .ok (.lrem, 1) := by decide +kernel
theorem dX1_digits_12 : decode cX1_digits 12 = .ok (.l2i, 1) := by decide +kernel
theorem dX1_digits_13 : decode cX1_digits 13 = .ok (.istore 5, 2) := by decide +kernel
theorem dX1_digits_15 : decode cX1_digits 15 = .ok (.aload_n 0, 1) := by decide +kernel
theorem dX1_digits_16 : decode cX1_digits 16 = .ok (.getfield 16, 3) := by decide +kernel
theorem dX1_digits_19 : decode cX1_digits 19 = .ok (.aload_n 0, 1) := by decide +kernel
theorem dX1_digits_20 : decode cX1_digits 20 = .ok (.dup, 1) := by decide +kernel
theorem dX1_digits_21 : decode cX1_digits 21 = .ok (.getfield 25, 3) := by decide +kernel
theorem dX1_digits_24 : decode cX1_digits 24 = .ok (.dup_x1, 1) := by decide +kernel
theorem dX1_digits_25 : decode cX1_digits 25 = .ok (.iconst 1, 1) := by decide +kernel
theorem dX1_digits_26 : decode cX1_digits 26 = .ok (.iadd, 1) := by decide +kernel
theorem dX1_digits_27 : decode cX1_digits 27 = .ok (.putfield 25, 3) := by decide +kernel
theorem dX1_digits_30 : decode cX1_digits 30 = .ok (.bipush 48, 2) := by decide +kernel
theorem dX1_digits_32 : decode cX1_digits 32 = .ok (.iload 5, 2) := by decide +kernel
theorem dX1_digits_34 : decode cX1_digits 34 = .ok (.ifCond .ge 9, 3) := by decide +kernel
theorem dX1_digits_37 : decode cX1_digits 37 = .ok (.iload 5, 2) := by decide +kernel
theorem dX1_digits_39 : decode cX1_digits 39 = .ok (.ineg, 1) := by decide +kernel
theorem dX1_digits_40 : decode cX1_digits 40 = .ok (.goto 5, 3) := by decide +kernel
theorem dX1_digits_43 : decode cX1_digits 43 = .ok (.iload 5, 2) := by decide +kernel
theorem dX1_digits_45 : decode cX1_digits 45 = .ok (.iadd, 1) := by decide +kernel
theorem dX1_digits_46 : decode cX1_digits 46 = .ok (.iastore, 1) := by decide +kernel
theorem dX1_digits_47 : decode cX1_digits 47 = .ok (.lload_n 3, 1) := by decide +kernel
theorem dX1_digits_48 : decode cX1_digits 48 = .ok (.ldc2_w 29, 3) := by decide +kernel
theorem dX1_digits_51 : decode cX1_digits 51 = .ok (.ldiv, 1) := by decide +kernel
theorem dX1_digits_52 : decode cX1_digits 52 = .ok (.lstore_n 3, 1) := by decide +kernel
theorem dX1_digits_53 : decode cX1_digits 53 = .ok (.lload_n 3, 1) := by decide +kernel
theorem dX1_digits_54 : decode cX1_digits 54 = .ok (.lconst 0, 1) := by decide +kernel
theorem dX1_digits_55 : decode cX1_digits 55 = .ok (.lcmp, 1) := by decide +kernel
theorem dX1_digits_56 : decode cX1_digits 56 = .ok (.ifCond .ne (-49), 3) := by decide +kernel
theorem dX1_digits_59 : decode cX1_digits 59 = .ok (.lload_n 1, 1) := by decide +kernel
theorem dX1_digits_60 : decode cX1_digits 60 = .ok (.lconst 0, 1) := by decide +kernel
theorem dX1_digits_61 : decode cX1_digits 61 = .ok (.lcmp, 1) := by decide +kernel
theorem dX1_digits_62 : decode cX1_digits 62 = .ok (.ifCond .ge 21, 3) := by decide +kernel
theorem dX1_digits_65 : decode cX1_digits 65 = .ok (.aload_n 0, 1) := by decide +kernel
theorem dX1_digits_66 : decode cX1_digits 66 = .ok (.getfield 16, 3) := by decide +kernel
theorem dX1_digits_69 : decode cX1_digits 69 = .ok (.aload_n 0, 1) := by decide +kernel
theorem dX1_digits_70 : decode cX1_digits 70 = .ok (.dup, 1) := by decide +kernel
theorem dX1_digits_71 : decode cX1_digits 71 = .ok (.getfield 25, 3) := by decide +kernel
theorem dX1_digits_74 : decode cX1_digits 74 = .ok (.dup_x1, 1) := by decide +kernel
theorem dX1_digits_75 : decode cX1_digits 75 = .ok (.iconst 1, 1) := by decide +kernel
theorem dX1_digits_76 : decode cX1_digits 76 = .ok (.iadd, 1) := by decide +kernel
theorem dX1_digits_77 : decode cX1_digits 77 = .ok (.putfield 25, 3) := by decide +kernel
theorem dX1_digits_80 : decode cX1_digits 80 = .ok (.bipush 45, 2) := by decide +kernel
theorem dX1_digits_82 : decode cX1_digits 82 = .ok (.iastore, 1) := by decide +kernel
theorem dX1_digits_83 : decode cX1_digits 83 = .ok (.return_, 1) := by decide +kernel
theorem dX1_putDigits_0 : decode cX1_putDigits 0 = .ok (.aload_n 0, 1) := by decide +kernel
theorem dX1_putDigits_1 : decode cX1_putDigits 1 = .ok (.aload_n 0, 1) := by decide +kernel
theorem dX1_putDigits_2 : decode cX1_putDigits 2 = .ok (.getfield 25, 3) := by decide +kernel
theorem dX1_putDigits_5 : decode cX1_putDigits 5 = .ok (.invokevirtual 41, 3) := by decide +kernel
theorem dX1_putDigits_8 : decode cX1_putDigits 8 = .ok (.ifCond .eq 6, 3) := by decide +kernel
theorem dX1_putDigits_11 : decode cX1_putDigits 11 = .ok (.bipush (-3), 2) := by decide +kernel
theorem dX1_putDigits_13 : decode cX1_putDigits 13 = .ok (.ireturn, 1) := by decide +kernel
theorem dX1_putDigits_14 : decode cX1_putDigits 14 = .ok (.aload_n 0, 1) := by decide +kernel
theorem dX1_putDigits_15 : decode cX1_putDigits 15 = .ok (.iload_n 1, 1) := by decide +kernel
theorem dX1_putDigits_16 : decode cX1_putDigits 16 = .ok (.aload_n 0, 1) := by decide +kernel
theorem dX1_putDigits_17 : decode cX1_putDigits 17 = .ok (.getfield 25, 3) := by decide +kernel
theorem dX1_putDigits_20 : decode cX1_putDigits 20 = .ok (.invokevirtual 45, 3) := by decide +kernel
theorem dX1_putDigits_23 : decode cX1_putDigits 23 = .ok (.iconst 0, 1) := by decide +kernel
theorem dX1_putDigits_24 : decode cX1_putDigits 24 = .ok (.istore_n 2, 1) := by decide +kernel
theorem dX1_putDigits_25 : decode cX1_putDigits 25 = .ok (.iload_n 2, 1) := by decide +kernel
theorem dX1_putDigits_26 : decode cX1_putDigits 26 = .ok (.aload_n 0, 1) := by decide +kernel
theorem dX1_putDigits_27 : decode cX1_putDigits 27 = .ok (.getfield 25, 3) := by decide +kernel
theorem dX1_putDigits_30 : decode cX1_putDigits 30 = .ok (.if_icmp .ge 30, 3) := by decide +kernel
theorem dX1_putDigits_33 : decode cX1_putDigits 33 = .ok (.aload_n 0, 1) := by decide +kernel
theorem dX1_putDigits_34 : decode cX1_putDigits 34 = .ok (.getfield 9, 3) := by decide +kernel
theorem dX1_putDigits_37 : decode cX1_putDigits 37 = .ok (.iload_n 1, 1) := by decide +kernel
theorem dX1_putDigits_38 : decode cX1_putDigits 38 = .ok (.iload_n 2, 1) := by decide +kernel
theorem dX1_putDigits_39 : decode cX1_putDigits 39 = .ok (.iadd, 1) := by decide +kernel
theorem dX1_putDigits_40 : decode cX1_putDigits 40 = .ok (.aload_n 0, 1) := by decide +kernel
theorem dX1_putDigits_41 : decode cX1_putDigits 41 = .ok (.getfield 16, 3) := by decide +kernel
theorem dX1_putDigits_44 : decode cX1_putDigits 44 = .ok (.aload_n 0, 1) := by decide +kernel
theorem dX1_putDigits_45 : decode cX1_putDigits 45 = .ok (.getfield 25, 3) := by decide +kernel
theorem dX1_putDigits_48 : decode cX1_putDigits 48 = .ok (.iconst 1, 1) := by decide +kernel
theorem dX1_putDigits_49 : decode cX1_putDigits 49 = .ok (.isub, 1) := by decide +kernel
theorem dX1_putDigits_50 : decode cX1_putDigits 50 = .ok (.iload_n 2, 1) := by decide +kernel
theorem dX1_putDigits_51 : decode cX1_putDigits 51 = .ok (.isub, 1) := by decide +kernel
theorem dX1_putDigits_52 : decode cX1_putDigits 52 = .ok (.iaload, 1) := by decide +kernel
theorem dX1_putDigits_53 : decode cX1_putDigits 53 = .ok (.iastore, 1) := by decide +kernel
theorem dX1_putDigits_54 : decode cX1_putDigits 54 = .ok (.iinc 2 1, 3) := by decide +kernel
theorem dX1_putDigits_57 : decode cX1_putDigits 57 = .ok (.goto (-32), 3) := by decide +kernel
theorem dX1_putDigits_60 : decode cX1_putDigits 60 = .ok (.aload_n 0, 1) := by decide +kernel
theorem dX1_putDigits_61 : decode cX1_putDigits 61 = .ok (.getfield 31, 3) := by decide +kernel
theorem dX1_putDigits_64 : decode cX1_putDigits 64 = .ok (.ireturn, 1) := by decide +kernel
theorem dX1_full_0 : decode cX1_full 0 = .ok (.aload_n 0, 1) := by decide +kernel
theorem dX1_full_1 : decode cX1_full 1 = .ok (.getfield 31, 3) := by decide +kernel
theorem dX1_full_4 : decode cX1_full 4 = .ok (.iload_n 1, 1) := by decide +kernel
theorem dX1_full_5 : decode cX1_full 5 = .ok (.iadd, 1) := by decide +kernel
theorem dX1_full_6 : decode cX1_full 6 = .ok (.sipush 3000, 3) := by decide +kernel
theorem dX1_full_9 : decode cX1_full 9 = .ok (.if_icmp .le 7, 3) := by decide +kernel
theorem dX1_full_12 : decode cX1_full 12 = .ok (.iconst 1, 1) := by decide +kernel
theorem dX1_full_13 : decode cX1_full 13 = .ok (.goto 4, 3) := by decide +kernel
theorem dX1_full_16 : decode cX1_full 16 = .ok (.iconst 0, 1) := by decide +kernel
theorem dX1_full_17 : decode cX1_full 17 = .ok (.ireturn, 1) := by decide +kernel
theorem dX1_open_0 : decode cX1_open 0 = .ok (.aload_n 0, 1) := by decide +kernel
theorem dX1_open_1 : decode cX1_open 1 = .ok (.getfield 31, 3) := by decide +kernel
theorem dX1_open_4 : decode cX1_open 4 = .ok (.iconst 1, 1) := by decide +kernel
theorem dX1_open_5 : decode cX1_open 5 = .ok (.isub, 1) := by decide +kernel
theorem dX1_open_6 : decode cX1_open 6 = .ok (.istore_n 3, 1) := by decide +kernel
theorem dX1_open_7 : decode cX1_open 7 = .ok (.iload_n 3, 1) := by decide +kernel
theorem dX1_open_8 : decode cX1_open 8 = .ok (.iload_n 1, 1) := by decide +kernel
theorem dX1_open_9 : decode cX1_open 9 = .ok (.if_icmp .lt 23, 3) := by decide +kernel
theorem dX1_open_12 : decode cX1_open 12 = .ok (.aload_n 0, 1) := by decide +kernel
theorem dX1_open_13 : decode cX1_open 13 = .ok (.getfield 9, 3) := by decide +kernel
theorem dX1_open_16 : decode cX1_open 16 = .ok (.iload_n 3, 1) := by decide +kernel
theorem dX1_open_17 : decode cX1_open 17 = .ok (.iload_n 2, 1) := by decide +kernel
theorem dX1_open_18 : decode cX1_open 18 = .ok (.iadd, 1) := by decide +kernel
theorem dX1_open_19 : decode cX1_open 19 = .ok (.aload_n 0, 1) := by decide +kernel
theorem dX1_open_20 : decode cX1_open 20 = .ok (.getfield 9, 3) := by decide +kernel
theorem dX1_open_23 : decode cX1_open 23 = .ok (.iload_n 3, 1) := by decide +kernel
theorem dX1_open_24 : decode cX1_open 24 = .ok (.iaload, 1) := by decide +kernel
theorem dX1_open_25 : decode cX1_open 25 = .ok (.iastore, 1) := by decide +kernel
theorem dX1_open_26 : decode cX1_open 26 = .ok (.iinc 3 (-1), 3) := by decide +kernel
theorem dX1_open_29 : decode cX1_open 29 = .ok (.goto (-22), 3) := by decide +kernel
theorem dX1_open_32 : decode cX1_open 32 = .ok (.aload_n 0, 1) := by decide +kernel
theorem dX1_open_33 : decode cX1_open 33 = .ok (.dup, 1) := by decide +kernel
theorem dX1_open_34 : decode cX1_open 34 = .ok (.getfield 31, 3) := by decide +kernel
theorem dX1_open_37 : decode cX1_open 37 = .ok (.iload_n 2, 1) := by decide +kernel
theorem dX1_open_38 : decode cX1_open 38 = .ok (.iadd, 1) := by decide +kernel
theorem dX1_open_39 : decode cX1_open 39 = .ok (.putfield 31, 3) := by decide +kernel
theorem dX1_open_42 : decode cX1_open 42 = .ok (.return_, 1) := by decide +kernel
theorem dX1_letters_0 : decode cX1_letters 0 = .ok (.iload_n 1, 1) := by decide +kernel
theorem dX1_letters_1 : decode cX1_letters 1 = .ok (.ifCond .eq 7, 3) := by decide +kernel
theorem dX1_letters_4 : decode cX1_letters 4 = .ok (.iconst 4, 1) := by decide +kernel
theorem dX1_letters_5 : decode cX1_letters 5 = .ok (.goto 4, 3) := by decide +kernel
theorem dX1_letters_8 : decode cX1_letters 8 = .ok (.iconst 5, 1) := by decide +kernel
theorem dX1_letters_9 : decode cX1_letters 9 = .ok (.istore_n 2, 1) := by decide +kernel
theorem dX1_letters_10 : decode cX1_letters 10 = .ok (.aload_n 0, 1) := by decide +kernel
theorem dX1_letters_11 : decode cX1_letters 11 = .ok (.getfield 31, 3) := by decide +kernel
theorem dX1_letters_14 : decode cX1_letters 14 = .ok (.istore_n 3, 1) := by decide +kernel
theorem dX1_letters_15 : decode cX1_letters 15 = .ok (.aload_n 0, 1) := by decide +kernel
theorem dX1_letters_16 : decode cX1_letters 16 = .ok (.iload_n 2, 1) := by decide +kernel
theorem dX1_letters_17 : decode cX1_letters 17 = .ok (.invokevirtual 41, 3) := by decide +kernel
theorem dX1_letters_20 : decode cX1_letters 20 = .ok (.ifCond .eq 6, 3) := by decide +kernel
theorem dX1_letters_23 : decode cX1_letters 23 = .ok (.bipush (-3), 2) := by decide +kernel
theorem dX1_letters_25 : decode cX1_letters 25 = .ok (.ireturn, 1) := by decide +kernel
theorem dX1_letters_26 : decode cX1_letters 26 = .ok (.aload_n 0, 1) := by decide +kernel
theorem dX1_letters_27 : decode cX1_letters 27 = .ok (.dup, 1) := by decide +kernel
theorem dX1_letters_28 : decode cX1_letters 28 = .ok (.getfield 31, 3) := by decide +kernel
theorem dX1_letters_31 : decode cX1_letters 31 = .ok (.iload_n 2, 1) := by decide +kernel
theorem dX1_letters_32 : decode cX1_letters 32 = .ok (.iadd, 1) := by decide +kernel
theorem dX1_letters_33 : decode cX1_letters 33 = .ok (.putfield 31, 3) := by decide +kernel
theorem dX1_letters_36 : decode cX1_letters 36 = .ok (.iload_n 1, 1) := by decide +kernel
theorem dX1_letters_37 : decode cX1_letters 37 = .ok (.ifCond .eq 9, 3) := by decide +kernel
theorem dX1_letters_40 : decode cX1_letters 40 = .ok (.getstatic 49, 3) := by decide +kernel
theorem dX1_letters_43 : decode cX1_letters 43 = .ok (.goto 6, 3) := by decide +kernel
theorem dX1_letters_46 : decode cX1_letters 46 = .ok (.getstatic 52, 3) := by decide +kernel
theorem dX1_letters_49 : decode cX1_letters 49 = .ok (.astore 4, 2) := by decide +kernel
theorem dX1_letters_51 : decode cX1_letters 51 = .ok (.iconst 0, 1) := by decide +kernel
theorem dX1_letters_52 : decode cX1_letters 52 = .ok (.istore 5, 2) := by decide +kernel
theorem dX1_letters_54 : decode cX1_letters 54 = .ok (.iload 5, 2) := by decide +kernel
theorem dX1_letters_56 : decode cX1_letters 56 = .ok (.iload_n 2, 1) := by decide +kernel
theorem dX1_letters_57 : decode cX1_letters 57 = .ok (.if_icmp .ge 23, 3) := by decide +kernel
theorem dX1_letters_60 : decode cX1_letters 60 = .ok (.aload_n 0, 1) := by decide +kernel
theorem dX1_letters_61 : decode cX1_letters 61 = .ok (.getfield 9, 3) := by decide +kernel
theorem dX1_letters_64 : decode cX1_letters 64 = .ok (.iload_n 3, 1) := by decide +kernel
theorem dX1_letters_65 : decode cX1_letters 65 = .ok (.iload 5, 2) := by decide +kernel
theorem dX1_letters_67 : decode cX1_letters 67 = .ok (.iadd, 1) := by decide +kernel
theorem dX1_letters_68 : decode cX1_letters 68 = .ok (.aload 4, 2) := by decide +kernel
theorem dX1_letters_70 : decode cX1_letters 70 = .ok (.iload 5, 2) := by decide +kernel
theorem dX1_letters_72 : decode cX1_letters 72 = .ok (.iaload, 1) := by decide +kernel
theorem dX1_letters_73 : decode cX1_letters 73 = .ok (.iastore, 1) := by decide +kernel
theorem dX1_letters_74 : decode cX1_letters 74 = .ok (.iinc 5 1, 3) := by decide +kernel
theorem dX1_letters_77 : decode cX1_letters 77 = .ok (.goto (-23), 3) := by decide +kernel
theorem dX1_letters_80 : decode cX1_letters 80 = .ok (.aload_n 0, 1) := by decide +kernel
theorem dX1_letters_81 : decode cX1_letters 81 = .ok (.getfield 31, 3) := by decide +kernel
theorem dX1_letters_84 : decode cX1_letters 84 = .ok (.ireturn, 1) := by decide +kernel
theorem dX1_putScrap_0 : decode cX1_putScrap 0 = .ok (.aload_n 0, 1) := by decide +kernel
theorem dX1_putScrap_1 : decode cX1_putScrap 1 = .ok (.aload_n 0, 1) := by decide +kernel
theorem dX1_putScrap_2 : decode cX1_putScrap 2 = .ok (.getfield 38, 3) := by decide +kernel
theorem dX1_putScrap_5 : decode cX1_putScrap 5 = .ok (.invokevirtual 41, 3) := by decide +kernel
theorem dX1_putScrap_8 : decode cX1_putScrap 8 = .ok (.ifCond .eq 6, 3) := by decide +kernel
theorem dX1_putScrap_11 : decode cX1_putScrap 11 = .ok (.bipush (-3), 2) := by decide +kernel
theorem dX1_putScrap_13 : decode cX1_putScrap 13 = .ok (.ireturn, 1) := by decide +kernel
theorem dX1_putScrap_14 : decode cX1_putScrap 14 = .ok (.aload_n 0, 1) := by decide +kernel
theorem dX1_putScrap_15 : decode cX1_putScrap 15 = .ok (.iload_n 1, 1) := by decide +kernel
theorem dX1_putScrap_16 : decode cX1_putScrap 16 = .ok (.aload_n 0, 1) := by decide +kernel
theorem dX1_putScrap_17 : decode cX1_putScrap 17 = .ok (.getfield 38, 3) := by decide +kernel
theorem dX1_putScrap_20 : decode cX1_putScrap 20 = .ok (.invokevirtual 45, 3) := by decide +kernel
theorem dX1_putScrap_23 : decode cX1_putScrap 23 = .ok (.iconst 0, 1) := by decide +kernel
theorem dX1_putScrap_24 : decode cX1_putScrap 24 = .ok (.istore_n 2, 1) := by decide +kernel
theorem dX1_putScrap_25 : decode cX1_putScrap 25 = .ok (.iload_n 2, 1) := by decide +kernel
theorem dX1_putScrap_26 : decode cX1_putScrap 26 = .ok (.aload_n 0, 1) := by decide +kernel
theorem dX1_putScrap_27 : decode cX1_putScrap 27 = .ok (.getfield 38, 3) := by decide +kernel
theorem dX1_putScrap_30 : decode cX1_putScrap 30 = .ok (.if_icmp .ge 23, 3) := by decide +kernel
theorem dX1_putScrap_33 : decode cX1_putScrap 33 = .ok (.aload_n 0, 1) := by decide +kernel
theorem dX1_putScrap_34 : decode cX1_putScrap 34 = .ok (.getfield 9, 3) := by decide +kernel
theorem dX1_putScrap_37 : decode cX1_putScrap 37 = .ok (.iload_n 1, 1) := by decide +kernel
theorem dX1_putScrap_38 : decode cX1_putScrap 38 = .ok (.iload_n 2, 1) := by decide +kernel
theorem dX1_putScrap_39 : decode cX1_putScrap 39 = .ok (.iadd, 1) := by decide +kernel
theorem dX1_putScrap_40 : decode cX1_putScrap 40 = .ok (.aload_n 0, 1) := by decide +kernel
theorem dX1_putScrap_41 : decode cX1_putScrap 41 = .ok (.getfield 13, 3) := by decide +kernel
theorem dX1_putScrap_44 : decode cX1_putScrap 44 = .ok (.iload_n 2, 1) := by decide +kernel
theorem dX1_putScrap_45 : decode cX1_putScrap 45 = .ok (.iaload, 1) := by decide +kernel
theorem dX1_putScrap_46 : decode cX1_putScrap 46 = .ok (.iastore, 1) := by decide +kernel
theorem dX1_putScrap_47 : decode cX1_putScrap 47 = .ok (.iinc 2 1, 3) := by decide +kernel
theorem dX1_putScrap_50 : decode cX1_putScrap 50 = .ok (.goto (-25), 3) := by decide +kernel
theorem dX1_putScrap_53 : decode cX1_putScrap 53 = .ok (.aload_n 0, 1) := by decide +kernel
theorem dX1_putScrap_54 : decode cX1_putScrap 54 = .ok (.getfield 31, 3) := by decide +kernel
theorem dX1_putScrap_57 : decode cX1_putScrap 57 = .ok (.ireturn, 1) := by decide +kernel
theorem dX1_insert_0 : decode cX1_insert 0 = .ok (.iload_n 1, 1) := by decide +kernel
theorem dX1_insert_1 : decode cX1_insert 1 = .ok (.ifCond .lt 11, 3) := by decide +kernel
theorem dX1_insert_4 : decode cX1_insert 4 = .ok (.iload_n 1, 1) := by decide +kernel
theorem dX1_insert_5 : decode cX1_insert 5 = .ok (.aload_n 0, 1) := by decide +kernel
theorem dX1_insert_6 : decode cX1_insert 6 = .ok (.getfield 31, 3) := by decide +kernel
theorem dX1_insert_9 : decode cX1_insert 9 = .ok (.if_icmp .le 5, 3) := by decide +kernel
theorem dX1_insert_12 : decode cX1_insert 12 = .ok (.iconst (-1), 1) := by decide +kernel
theorem dX1_insert_13 : decode cX1_insert 13 = .ok (.ireturn, 1) := by decide +kernel
theorem dX1_insert_14 : decode cX1_insert 14 = .ok (.iload_n 2, 1) := by decide +kernel
theorem dX1_insert_15 : decode cX1_insert 15 = .ok (.ifCond .ne 9, 3) := by decide +kernel
theorem dX1_insert_18 : decode cX1_insert 18 = .ok (.aload_n 0, 1) := by decide +kernel
theorem dX1_insert_19 : decode cX1_insert 19 = .ok (.iload_n 1, 1) := by decide +kernel
theorem dX1_insert_20 : decode cX1_insert 20 = .ok (.invokevirtual 66, 3) := by decide +kernel
theorem dX1_insert_23 : decode cX1_insert 23 = .ok (.ireturn, 1) := by decide +kernel
theorem dX1_insert_24 : decode cX1_insert 24 = .ok (.aload_n 0, 1) := by decide +kernel
theorem dX1_insert_25 : decode cX1_insert 25 = .ok (.lload_n 3, 1) := by decide +kernel
theorem dX1_insert_26 : decode cX1_insert 26 = .ok (.invokevirtual 55, 3) := by decide +kernel
theorem dX1_insert_29 : decode cX1_insert 29 = .ok (.aload_n 0, 1) := by decide +kernel
theorem dX1_insert_30 : decode cX1_insert 30 = .ok (.iload_n 1, 1) := by decide +kernel
theorem dX1_insert_31 : decode cX1_insert 31 = .ok (.invokevirtual 58, 3) := by decide +kernel
theorem dX1_insert_34 : decode cX1_insert 34 = .ok (.ireturn, 1) := by decide +kernel
theorem dX1_cut_0 : decode cX1_cut 0 = .ok (.iload_n 1, 1) := by decide +kernel
theorem dX1_cut_1 : decode cX1_cut 1 = .ok (.ifCond .lt 16, 3) := by decide +kernel
theorem dX1_cut_4 : decode cX1_cut 4 = .ok (.iload_n 1, 1) := by decide +kernel
theorem dX1_cut_5 : decode cX1_cut 5 = .ok (.aload_n 0, 1) := by decide +kernel
theorem dX1_cut_6 : decode cX1_cut 6 = .ok (.getfield 31, 3) := by decide +kernel
theorem dX1_cut_9 : decode cX1_cut 9 = .ok (.if_icmp .gt 8, 3) := by decide +kernel
theorem dX1_cut_12 : decode cX1_cut 12 = .ok (.iload_n 2, 1) := by decide +kernel
theorem dX1_cut_13 : decode cX1_cut 13 = .ok (.iload_n 1, 1) := by decide +kernel
theorem dX1_cut_14 : decode cX1_cut 14 = .ok (.if_icmp .ge 5, 3) := by decide +kernel
theorem dX1_cut_17 : decode cX1_cut 17 = .ok (.iconst (-1), 1) := by decide +kernel
theorem dX1_cut_18 : decode cX1_cut 18 = .ok (.ireturn, 1) := by decide +kernel
theorem dX1_cut_19 : decode cX1_cut 19 = .ok (.aload_n 0, 1) := by decide +kernel
theorem dX1_cut_20 : decode cX1_cut 20 = .ok (.iload_n 1, 1) := by decide +kernel
theorem dX1_cut_21 : decode cX1_cut 21 = .ok (.iload_n 2, 1) := by decide +kernel
theorem dX1_cut_22 : decode cX1_cut 22 = .ok (.aload_n 0, 1) := by decide +kernel
theorem dX1_cut_23 : decode cX1_cut 23 = .ok (.getfield 31, 3) := by decide +kernel
theorem dX1_cut_26 : decode cX1_cut 26 = .ok (.if_icmp .le 10, 3) := by decide +kernel
theorem dX1_cut_29 : decode cX1_cut 29 = .ok (.aload_n 0, 1) := by decide +kernel
theorem dX1_cut_30 : decode cX1_cut 30 = .ok (.getfield 31, 3) := by decide +kernel
theorem dX1_cut_33 : decode cX1_cut 33 = .ok (.goto 4, 3) := by decide +kernel
theorem dX1_cut_36 : decode cX1_cut 36 = .ok (.iload_n 2, 1) := by decide +kernel
theorem dX1_cut_37 : decode cX1_cut 37 = .ok (.invokevirtual 69, 3) := by decide +kernel
theorem dX1_cut_40 : decode cX1_cut 40 = .ok (.aload_n 0, 1) := by decide +kernel
theorem dX1_cut_41 : decode cX1_cut 41 = .ok (.getfield 31, 3) := by decide +kernel
theorem dX1_cut_44 : decode cX1_cut 44 = .ok (.ireturn, 1) := by decide +kernel
theorem dX1_close_0 : decode cX1_close 0 = .ok (.iload_n 2, 1) := by decide +kernel
theorem dX1_close_1 : decode cX1_close 1 = .ok (.iload_n 1, 1) := by decide +kernel
theorem dX1_close_2 : decode cX1_close 2 = .ok (.isub, 1) := by decide +kernel
theorem dX1_close_3 : decode cX1_close 3 = .ok (.istore_n 3, 1) := by decide +kernel
theorem dX1_close_4 : decode cX1_close 4 = .ok (.iload_n 2, 1) := by decide +kernel
theorem dX1_close_5 : decode cX1_close 5 = .ok (.istore 4, 2) := by decide +kernel
theorem dX1_close_7 : decode cX1_close 7 = .ok (.iload 4, 2) := by decide +kernel
theorem dX1_close_9 : decode cX1_close 9 = .ok (.aload_n 0, 1) := by decide +kernel
theorem dX1_close_10 : decode cX1_close 10 = .ok (.getfield 31, 3) := by decide +kernel
theorem dX1_close_13 : decode cX1_close 13 = .ok (.if_icmp .ge 25, 3) := by decide +kernel
theorem dX1_close_16 : decode cX1_close 16 = .ok (.aload_n 0, 1) := by decide +kernel
theorem dX1_close_17 : decode cX1_close 17 = .ok (.getfield 9, 3) := by decide +kernel
theorem dX1_close_20 : decode cX1_close 20 = .ok (.iload 4, 2) := by decide +kernel
theorem dX1_close_22 : decode cX1_close 22 = .ok (.iload_n 3, 1) := by decide +kernel
theorem dX1_close_23 : decode cX1_close 23 = .ok (.isub, 1) := by decide +kernel
theorem dX1_close_24 : decode cX1_close 24 = .ok (.aload_n 0, 1) := by decide +kernel
theorem dX1_close_25 : decode cX1_close 25 = .ok (.getfield 9, 3) := by decide +kernel
theorem dX1_close_28 : decode cX1_close 28 = .ok (.iload 4, 2) := by decide +kernel
theorem dX1_close_30 : decode cX1_close 30 = .ok (.iaload, 1) := by decide +kernel
theorem dX1_close_31 : decode cX1_close 31 = .ok (.iastore, 1) := by decide +kernel
theorem dX1_close_32 : decode cX1_close 32 = .ok (.iinc 4 1, 3) := by decide +kernel
theorem dX1_close_35 : decode cX1_close 35 = .ok (.goto (-28), 3) := by decide +kernel
theorem dX1_close_38 : decode cX1_close 38 = .ok (.aload_n 0, 1) := by decide +kernel
theorem dX1_close_39 : decode cX1_close 39 = .ok (.dup, 1) := by decide +kernel
theorem dX1_close_40 : decode cX1_close 40 = .ok (.getfield 31, 3) := by decide +kernel
theorem dX1_close_43 : decode cX1_close 43 = .ok (.iload_n 3, 1) := by decide +kernel
theorem dX1_close_44 : decode cX1_close 44 = .ok (.isub, 1) := by decide +kernel
theorem dX1_close_45 : decode cX1_close 45 = .ok (.putfield 31, 3) := by decide +kernel
theorem dX1_close_48 : decode cX1_close 48 = .ok (.return_, 1) := by decide +kernel
theorem dX1_swap_0 : decode cX1_swap 0 = .ok (.iload_n 1, 1) := by decide +kernel
theorem dX1_swap_1 : decode cX1_swap 1 = .ok (.ifCond .lt 16, 3) := by decide +kernel
theorem dX1_swap_4 : decode cX1_swap 4 = .ok (.iload_n 1, 1) := by decide +kernel
theorem dX1_swap_5 : decode cX1_swap 5 = .ok (.aload_n 0, 1) := by decide +kernel
theorem dX1_swap_6 : decode cX1_swap 6 = .ok (.getfield 31, 3) := by decide +kernel
theorem dX1_swap_9 : decode cX1_swap 9 = .ok (.if_icmp .gt 8, 3) := by decide +kernel
theorem dX1_swap_12 : decode cX1_swap 12 = .ok (.iload_n 2, 1) := by decide +kernel
theorem dX1_swap_13 : decode cX1_swap 13 = .ok (.iload_n 1, 1) := by decide +kernel
theorem dX1_swap_14 : decode cX1_swap 14 = .ok (.if_icmp .ge 5, 3) := by decide +kernel
theorem dX1_swap_17 : decode cX1_swap 17 = .ok (.iconst (-1), 1) := by decide +kernel
theorem dX1_swap_18 : decode cX1_swap 18 = .ok (.ireturn, 1) := by decide +kernel
theorem dX1_swap_19 : decode cX1_swap 19 = .ok (.iload_n 2, 1) := by decide +kernel
theorem dX1_swap_20 : decode cX1_swap 20 = .ok (.aload_n 0, 1) := by decide +kernel
theorem dX1_swap_21 : decode cX1_swap 21 = .ok (.getfield 31, 3) := by decide +kernel
theorem dX1_swap_24 : decode cX1_swap 24 = .ok (.if_icmp .le 10, 3) := by decide +kernel
theorem dX1_swap_27 : decode cX1_swap 27 = .ok (.aload_n 0, 1) := by decide +kernel
theorem dX1_swap_28 : decode cX1_swap 28 = .ok (.getfield 31, 3) := by decide +kernel
theorem dX1_swap_31 : decode cX1_swap 31 = .ok (.goto 4, 3) := by decide +kernel
theorem dX1_swap_34 : decode cX1_swap 34 = .ok (.iload_n 2, 1) := by decide +kernel
theorem dX1_swap_35 : decode cX1_swap 35 = .ok (.istore_n 3, 1) := by decide +kernel
theorem dX1_swap_36 : decode cX1_swap 36 = .ok (.aload_n 0, 1) := by decide +kernel
theorem dX1_swap_37 : decode cX1_swap 37 = .ok (.getfield 31, 3) := by decide +kernel
theorem dX1_swap_40 : decode cX1_swap 40 = .ok (.iload_n 3, 1) := by decide +kernel
theorem dX1_swap_41 : decode cX1_swap 41 = .ok (.iload_n 1, 1) := by decide +kernel
theorem dX1_swap_42 : decode cX1_swap 42 = .ok (.isub, 1) := by decide +kernel
theorem dX1_swap_43 : decode cX1_swap 43 = .ok (.isub, 1) := by decide +kernel
theorem dX1_swap_44 : decode cX1_swap 44 = .ok (.aload_n 0, 1) := by decide +kernel
theorem dX1_swap_45 : decode cX1_swap 45 = .ok (.getfield 38, 3) := by decide +kernel
theorem dX1_swap_48 : decode cX1_swap 48 = .ok (.iadd, 1) := by decide +kernel
theorem dX1_swap_49 : decode cX1_swap 49 = .ok (.sipush 3000, 3) := by decide +kernel
theorem dX1_swap_52 : decode cX1_swap 52 = .ok (.if_icmp .le 6, 3) := by decide +kernel
theorem dX1_swap_55 : decode cX1_swap 55 = .ok (.bipush (-3), 2) := by decide +kernel
theorem dX1_swap_57 : decode cX1_swap 57 = .ok (.ireturn, 1) := by decide +kernel
theorem dX1_swap_58 : decode cX1_swap 58 = .ok (.aload_n 0, 1) := by decide +kernel
theorem dX1_swap_59 : decode cX1_swap 59 = .ok (.iload_n 1, 1) := by decide +kernel
theorem dX1_swap_60 : decode cX1_swap 60 = .ok (.iload_n 3, 1) := by decide +kernel
theorem dX1_swap_61 : decode cX1_swap 61 = .ok (.invokevirtual 69, 3) := by decide +kernel
theorem dX1_swap_64 : decode cX1_swap 64 = .ok (.aload_n 0, 1) := by decide +kernel
theorem dX1_swap_65 : decode cX1_swap 65 = .ok (.iload_n 1, 1) := by decide +kernel
theorem dX1_swap_66 : decode cX1_swap 66 = .ok (.invokevirtual 66, 3) := by decide +kernel
theorem dX1_swap_69 : decode cX1_swap 69 = .ok (.ireturn, 1) := by decide +kernel
theorem dX1_take_0 : decode cX1_take 0 = .ok (.iload_n 1, 1) := by decide +kernel
theorem dX1_take_1 : decode cX1_take 1 = .ok (.ifCond .lt 11, 3) := by decide +kernel
theorem dX1_take_4 : decode cX1_take 4 = .ok (.iload_n 1, 1) := by decide +kernel
theorem dX1_take_5 : decode cX1_take 5 = .ok (.aload_n 0, 1) := by decide +kernel
theorem dX1_take_6 : decode cX1_take 6 = .ok (.getfield 31, 3) := by decide +kernel
theorem dX1_take_9 : decode cX1_take 9 = .ok (.if_icmp .lt 5, 3) := by decide +kernel
theorem dX1_take_12 : decode cX1_take 12 = .ok (.iconst (-1), 1) := by decide +kernel
theorem dX1_take_13 : decode cX1_take 13 = .ok (.ireturn, 1) := by decide +kernel
theorem dX1_take_14 : decode cX1_take 14 = .ok (.aload_n 0, 1) := by decide +kernel
theorem dX1_take_15 : decode cX1_take 15 = .ok (.getfield 9, 3) := by decide +kernel
theorem dX1_take_18 : decode cX1_take 18 = .ok (.iload_n 1, 1) := by decide +kernel
theorem dX1_take_19 : decode cX1_take 19 = .ok (.iaload, 1) := by decide +kernel
theorem dX1_take_20 : decode cX1_take 20 = .ok (.istore_n 2, 1) := by decide +kernel
theorem dX1_take_21 : decode cX1_take 21 = .ok (.aload_n 0, 1) := by decide +kernel
theorem dX1_take_22 : decode cX1_take 22 = .ok (.iload_n 1, 1) := by decide +kernel
theorem dX1_take_23 : decode cX1_take 23 = .ok (.iload_n 1, 1) := by decide +kernel
theorem dX1_take_24 : decode cX1_take 24 = .ok (.iconst 1, 1) := by decide +kernel
theorem dX1_take_25 : decode cX1_take 25 = .ok (.iadd, 1) := by decide +kernel
theorem dX1_take_26 : decode cX1_take 26 = .ok (.invokevirtual 69, 3) := by decide +kernel
theorem dX1_take_29 : decode cX1_take 29 = .ok (.iload_n 2, 1) := by decide +kernel
theorem dX1_take_30 : decode cX1_take 30 = .ok (.ireturn, 1) := by decide +kernel
theorem dX1_set_0 : decode cX1_set 0 = .ok (.iload_n 1, 1) := by decide +kernel
theorem dX1_set_1 : decode cX1_set 1 = .ok (.ifCond .lt 19, 3) := by decide +kernel
theorem dX1_set_4 : decode cX1_set 4 = .ok (.iload_n 1, 1) := by decide +kernel
theorem dX1_set_5 : decode cX1_set 5 = .ok (.aload_n 0, 1) := by decide +kernel
theorem dX1_set_6 : decode cX1_set 6 = .ok (.getfield 31, 3) := by decide +kernel
theorem dX1_set_9 : decode cX1_set 9 = .ok (.if_icmp .ge 11, 3) := by decide +kernel
theorem dX1_set_12 : decode cX1_set 12 = .ok (.iload_n 2, 1) := by decide +kernel
theorem dX1_set_13 : decode cX1_set 13 = .ok (.i2l, 1) := by decide +kernel
theorem dX1_set_14 : decode cX1_set 14 = .ok (.invokestatic 34, 3) := by decide +kernel
theorem dX1_set_17 : decode cX1_set 17 = .ok (.ifCond .ne 5, 3) := by decide +kernel
theorem dX1_set_20 : decode cX1_set 20 = .ok (.iconst (-1), 1) := by decide +kernel
theorem dX1_set_21 : decode cX1_set 21 = .ok (.ireturn, 1) := by decide +kernel
theorem dX1_set_22 : decode cX1_set 22 = .ok (.aload_n 0, 1) := by decide +kernel
theorem dX1_set_23 : decode cX1_set 23 = .ok (.getfield 9, 3) := by decide +kernel
theorem dX1_set_26 : decode cX1_set 26 = .ok (.iload_n 1, 1) := by decide +kernel
theorem dX1_set_27 : decode cX1_set 27 = .ok (.iaload, 1) := by decide +kernel
theorem dX1_set_28 : decode cX1_set 28 = .ok (.istore_n 3, 1) := by decide +kernel
theorem dX1_set_29 : decode cX1_set 29 = .ok (.aload_n 0, 1) := by decide +kernel
theorem dX1_set_30 : decode cX1_set 30 = .ok (.getfield 9, 3) := by decide +kernel
theorem dX1_set_33 : decode cX1_set 33 = .ok (.iload_n 1, 1) := by decide +kernel
theorem dX1_set_34 : decode cX1_set 34 = .ok (.iload_n 2, 1) := by decide +kernel
theorem dX1_set_35 : decode cX1_set 35 = .ok (.iastore, 1) := by decide +kernel
theorem dX1_set_36 : decode cX1_set 36 = .ok (.iload_n 3, 1) := by decide +kernel
theorem dX1_set_37 : decode cX1_set 37 = .ok (.ireturn, 1) := by decide +kernel
theorem dX1_get_0 : decode cX1_get 0 = .ok (.iload_n 1, 1) := by decide +kernel
theorem dX1_get_1 : decode cX1_get 1 = .ok (.ifCond .lt 11, 3) := by decide +kernel
theorem dX1_get_4 : decode cX1_get 4 = .ok (.iload_n 1, 1) := by decide +kernel
theorem dX1_get_5 : decode cX1_get 5 = .ok (.aload_n 0, 1) := by decide +kernel
theorem dX1_get_6 : decode cX1_get 6 = .ok (.getfield 31, 3) := by decide +kernel
theorem dX1_get_9 : decode cX1_get 9 = .ok (.if_icmp .lt 7, 3) := by decide +kernel
theorem dX1_get_12 : decode cX1_get 12 = .ok (.iconst (-1), 1) := by decide +kernel
theorem dX1_get_13 : decode cX1_get 13 = .ok (.goto 9, 3) := by decide +kernel
theorem dX1_get_16 : decode cX1_get 16 = .ok (.aload_n 0, 1) := by decide +kernel
theorem dX1_get_17 : decode cX1_get 17 = .ok (.getfield 9, 3) := by decide +kernel
theorem dX1_get_20 : decode cX1_get 20 = .ok (.iload_n 1, 1) := by decide +kernel
theorem dX1_get_21 : decode cX1_get 21 = .ok (.iaload, 1) := by decide +kernel
theorem dX1_get_22 : decode cX1_get 22 = .ok (.ireturn, 1) := by decide +kernel
theorem dX1_turn_0 : decode cX1_turn 0 = .ok (.iconst 0, 1) := by decide +kernel
theorem dX1_turn_1 : decode cX1_turn 1 = .ok (.istore_n 1, 1) := by decide +kernel
theorem dX1_turn_2 : decode cX1_turn 2 = .ok (.iload_n 1, 1) := by decide +kernel
theorem dX1_turn_3 : decode cX1_turn 3 = .ok (.aload_n 0, 1) := by decide +kernel
theorem dX1_turn_4 : decode cX1_turn 4 = .ok (.getfield 31, 3) := by decide +kernel
theorem dX1_turn_7 : decode cX1_turn 7 = .ok (.iconst 2, 1) := by decide +kernel
theorem dX1_turn_8 : decode cX1_turn 8 = .ok (.idiv, 1) := by decide +kernel
theorem dX1_turn_9 : decode cX1_turn 9 = .ok (.if_icmp .ge 49, 3) := by decide +kernel
theorem dX1_turn_12 : decode cX1_turn 12 = .ok (.aload_n 0, 1) := by decide +kernel
theorem dX1_turn_13 : decode cX1_turn 13 = .ok (.getfield 9, 3) := by decide +kernel
theorem dX1_turn_16 : decode cX1_turn 16 = .ok (.iload_n 1, 1) := by decide +kernel
theorem dX1_turn_17 : decode cX1_turn 17 = .ok (.iaload, 1) := by decide +kernel
theorem dX1_turn_18 : decode cX1_turn 18 = .ok (.istore_n 2, 1) := by decide +kernel
theorem dX1_turn_19 : decode cX1_turn 19 = .ok (.aload_n 0, 1) := by decide +kernel
theorem dX1_turn_20 : decode cX1_turn 20 = .ok (.getfield 9, 3) := by decide +kernel
theorem dX1_turn_23 : decode cX1_turn 23 = .ok (.iload_n 1, 1) := by decide +kernel
theorem dX1_turn_24 : decode cX1_turn 24 = .ok (.aload_n 0, 1) := by decide +kernel
theorem dX1_turn_25 : decode cX1_turn 25 = .ok (.getfield 9, 3) := by decide +kernel
theorem dX1_turn_28 : decode cX1_turn 28 = .ok (.aload_n 0, 1) := by decide +kernel
theorem dX1_turn_29 : decode cX1_turn 29 = .ok (.getfield 31, 3) := by decide +kernel
theorem dX1_turn_32 : decode cX1_turn 32 = .ok (.iconst 1, 1) := by decide +kernel
theorem dX1_turn_33 : decode cX1_turn 33 = .ok (.isub, 1) := by decide +kernel
theorem dX1_turn_34 : decode cX1_turn 34 = .ok (.iload_n 1, 1) := by decide +kernel
theorem dX1_turn_35 : decode cX1_turn 35 = .ok (.isub, 1) := by decide +kernel
theorem dX1_turn_36 : decode cX1_turn 36 = .ok (.iaload, 1) := by decide +kernel
theorem dX1_turn_37 : decode cX1_turn 37 = .ok (.iastore, 1) := by decide +kernel
theorem dX1_turn_38 : decode cX1_turn 38 = .ok (.aload_n 0, 1) := by decide +kernel
theorem dX1_turn_39 : decode cX1_turn 39 = .ok (.getfield 9, 3) := by decide +kernel
theorem dX1_turn_42 : decode cX1_turn 42 = .ok (.aload_n 0, 1) := by decide +kernel
theorem dX1_turn_43 : decode cX1_turn 43 = .ok (.getfield 31, 3) := by decide +kernel
theorem dX1_turn_46 : decode cX1_turn 46 = .ok (.iconst 1, 1) := by decide +kernel
theorem dX1_turn_47 : decode cX1_turn 47 = .ok (.isub, 1) := by decide +kernel
theorem dX1_turn_48 : decode cX1_turn 48 = .ok (.iload_n 1, 1) := by decide +kernel
theorem dX1_turn_49 : decode cX1_turn 49 = .ok (.isub, 1) := by decide +kernel
theorem dX1_turn_50 : decode cX1_turn 50 = .ok (.iload_n 2, 1) := by decide +kernel
theorem dX1_turn_51 : decode cX1_turn 51 = .ok (.iastore, 1) := by decide +kernel
theorem dX1_turn_52 : decode cX1_turn 52 = .ok (.iinc 1 1, 3) := by decide +kernel
theorem dX1_turn_55 : decode cX1_turn 55 = .ok (.goto (-53), 3) := by decide +kernel
theorem dX1_turn_58 : decode cX1_turn 58 = .ok (.aload_n 0, 1) := by decide +kernel
theorem dX1_turn_59 : decode cX1_turn 59 = .ok (.getfield 31, 3) := by decide +kernel
theorem dX1_turn_62 : decode cX1_turn 62 = .ok (.ireturn, 1) := by decide +kernel
theorem dX1_length_0 : decode cX1_length 0 = .ok (.iload_n 1, 1) := by decide +kernel
theorem dX1_length_1 : decode cX1_length 1 = .ok (.ifCond .ge 5, 3) := by decide +kernel
theorem dX1_length_4 : decode cX1_length 4 = .ok (.iconst (-1), 1) := by decide +kernel
theorem dX1_length_5 : decode cX1_length 5 = .ok (.ireturn, 1) := by decide +kernel
theorem dX1_length_6 : decode cX1_length 6 = .ok (.iload_n 1, 1) := by decide +kernel
theorem dX1_length_7 : decode cX1_length 7 = .ok (.sipush 3000, 3) := by decide +kernel
theorem dX1_length_10 : decode cX1_length 10 = .ok (.if_icmp .le 6, 3) := by decide +kernel
theorem dX1_length_13 : decode cX1_length 13 = .ok (.bipush (-3), 2) := by decide +kernel
theorem dX1_length_15 : decode cX1_length 15 = .ok (.ireturn, 1) := by decide +kernel
theorem dX1_length_16 : decode cX1_length 16 = .ok (.aload_n 0, 1) := by decide +kernel
theorem dX1_length_17 : decode cX1_length 17 = .ok (.getfield 31, 3) := by decide +kernel
theorem dX1_length_20 : decode cX1_length 20 = .ok (.istore_n 2, 1) := by decide +kernel
theorem dX1_length_21 : decode cX1_length 21 = .ok (.iload_n 2, 1) := by decide +kernel
theorem dX1_length_22 : decode cX1_length 22 = .ok (.iload_n 1, 1) := by decide +kernel
theorem dX1_length_23 : decode cX1_length 23 = .ok (.if_icmp .ge 16, 3) := by decide +kernel
theorem dX1_length_26 : decode cX1_length 26 = .ok (.aload_n 0, 1) := by decide +kernel
theorem dX1_length_27 : decode cX1_length 27 = .ok (.getfield 9, 3) := by decide +kernel
theorem dX1_length_30 : decode cX1_length 30 = .ok (.iload_n 2, 1) := by decide +kernel
theorem dX1_length_31 : decode cX1_length 31 = .ok (.iconst 0, 1) := by decide +kernel
theorem dX1_length_32 : decode cX1_length 32 = .ok (.iastore, 1) := by decide +kernel
theorem dX1_length_33 : decode cX1_length 33 = .ok (.iinc 2 1, 3) := by decide +kernel
theorem dX1_length_36 : decode cX1_length 36 = .ok (.goto (-15), 3) := by decide +kernel
theorem dX1_length_39 : decode cX1_length 39 = .ok (.aload_n 0, 1) := by decide +kernel
theorem dX1_length_40 : decode cX1_length 40 = .ok (.iload_n 1, 1) := by decide +kernel
theorem dX1_length_41 : decode cX1_length 41 = .ok (.putfield 31, 3) := by decide +kernel
theorem dX1_length_44 : decode cX1_length 44 = .ok (.aload_n 0, 1) := by decide +kernel
theorem dX1_length_45 : decode cX1_length 45 = .ok (.getfield 31, 3) := by decide +kernel
theorem dX1_length_48 : decode cX1_length 48 = .ok (.ireturn, 1) := by decide +kernel
theorem dX1_find_0 : decode cX1_find 0 = .ok (.iload_n 2, 1) := by decide +kernel
theorem dX1_find_1 : decode cX1_find 1 = .ok (.ifCond .eq 42, 3) := by decide +kernel
theorem dX1_find_4 : decode cX1_find 4 = .ok (.iload_n 1, 1) := by decide +kernel
theorem dX1_find_5 : decode cX1_find 5 = .ok (.aload_n 0, 1) := by decide +kernel
theorem dX1_find_6 : decode cX1_find 6 = .ok (.getfield 31, 3) := by decide +kernel
theorem dX1_find_9 : decode cX1_find 9 = .ok (.if_icmp .le 10, 3) := by decide +kernel
theorem dX1_find_12 : decode cX1_find 12 = .ok (.aload_n 0, 1) := by decide +kernel
theorem dX1_find_13 : decode cX1_find 13 = .ok (.getfield 31, 3) := by decide +kernel
theorem dX1_find_16 : decode cX1_find 16 = .ok (.goto 4, 3) := by decide +kernel
theorem dX1_find_19 : decode cX1_find 19 = .ok (.iload_n 1, 1) := by decide +kernel
theorem dX1_find_20 : decode cX1_find 20 = .ok (.istore_n 3, 1) := by decide +kernel
theorem dX1_find_21 : decode cX1_find 21 = .ok (.iload_n 3, 1) := by decide +kernel
theorem dX1_find_22 : decode cX1_find 22 = .ok (.ifCond .lt 19, 3) := by decide +kernel
theorem dX1_find_25 : decode cX1_find 25 = .ok (.aload_n 0, 1) := by decide +kernel
theorem dX1_find_26 : decode cX1_find 26 = .ok (.iload_n 3, 1) := by decide +kernel
theorem dX1_find_27 : decode cX1_find 27 = .ok (.invokevirtual 72, 3) := by decide +kernel
theorem dX1_find_30 : decode cX1_find 30 = .ok (.ifCond .eq 5, 3) := by decide +kernel
theorem dX1_find_33 : decode cX1_find 33 = .ok (.iload_n 3, 1) := by decide +kernel
theorem dX1_find_34 : decode cX1_find 34 = .ok (.ireturn, 1) := by decide +kernel
theorem dX1_find_35 : decode cX1_find 35 = .ok (.iinc 3 (-1), 3) := by decide +kernel
theorem dX1_find_38 : decode cX1_find 38 = .ok (.goto (-17), 3) := by decide +kernel
theorem dX1_find_41 : decode cX1_find 41 = .ok (.iconst (-1), 1) := by decide +kernel
theorem dX1_find_42 : decode cX1_find 42 = .ok (.ireturn, 1) := by decide +kernel
theorem dX1_find_43 : decode cX1_find 43 = .ok (.iload_n 1, 1) := by decide +kernel
theorem dX1_find_44 : decode cX1_find 44 = .ok (.ifCond .ge 7, 3) := by decide +kernel
theorem dX1_find_47 : decode cX1_find 47 = .ok (.iconst 0, 1) := by decide +kernel
theorem dX1_find_48 : decode cX1_find 48 = .ok (.goto 19, 3) := by decide +kernel
theorem dX1_find_51 : decode cX1_find 51 = .ok (.iload_n 1, 1) := by decide +kernel
theorem dX1_find_52 : decode cX1_find 52 = .ok (.aload_n 0, 1) := by decide +kernel
theorem dX1_find_53 : decode cX1_find 53 = .ok (.getfield 31, 3) := by decide +kernel
theorem dX1_find_56 : decode cX1_find 56 = .ok (.if_icmp .le 10, 3) := by decide +kernel
theorem dX1_find_59 : decode cX1_find 59 = .ok (.aload_n 0, 1) := by decide +kernel
theorem dX1_find_60 : decode cX1_find 60 = .ok (.getfield 31, 3) := by decide +kernel
theorem dX1_find_63 : decode cX1_find 63 = .ok (.goto 4, 3) := by decide +kernel
theorem dX1_find_66 : decode cX1_find 66 = .ok (.iload_n 1, 1) := by decide +kernel
theorem dX1_find_67 : decode cX1_find 67 = .ok (.istore_n 3, 1) := by decide +kernel
theorem dX1_find_68 : decode cX1_find 68 = .ok (.iload_n 3, 1) := by decide +kernel
theorem dX1_find_69 : decode cX1_find 69 = .ok (.aload_n 0, 1) := by decide +kernel
theorem dX1_find_70 : decode cX1_find 70 = .ok (.getfield 31, 3) := by decide +kernel
theorem dX1_find_73 : decode cX1_find 73 = .ok (.if_icmp .gt 19, 3) := by decide +kernel
theorem dX1_find_76 : decode cX1_find 76 = .ok (.aload_n 0, 1) := by decide +kernel
theorem dX1_find_77 : decode cX1_find 77 = .ok (.iload_n 3, 1) := by decide +kernel
theorem dX1_find_78 : decode cX1_find 78 = .ok (.invokevirtual 72, 3) := by decide +kernel
theorem dX1_find_81 : decode cX1_find 81 = .ok (.ifCond .eq 5, 3) := by decide +kernel
theorem dX1_find_84 : decode cX1_find 84 = .ok (.iload_n 3, 1) := by decide +kernel
theorem dX1_find_85 : decode cX1_find 85 = .ok (.ireturn, 1) := by decide +kernel
theorem dX1_find_86 : decode cX1_find 86 = .ok (.iinc 3 1, 3) := by decide +kernel
theorem dX1_find_89 : decode cX1_find 89 = .ok (.goto (-21), 3) := by decide +kernel
theorem dX1_find_92 : decode cX1_find 92 = .ok (.iconst (-1), 1) := by decide +kernel
theorem dX1_find_93 : decode cX1_find 93 = .ok (.ireturn, 1) := by decide +kernel
theorem dX1_stands_0 : decode cX1_stands 0 = .ok (.iload_n 1, 1) := by decide +kernel
theorem dX1_stands_1 : decode cX1_stands 1 = .ok (.aload_n 0, 1) := by decide +kernel
theorem dX1_stands_2 : decode cX1_stands 2 = .ok (.getfield 38, 3) := by decide +kernel
theorem dX1_stands_5 : decode cX1_stands 5 = .ok (.iadd, 1) := by decide +kernel
theorem dX1_stands_6 : decode cX1_stands 6 = .ok (.aload_n 0, 1) := by decide +kernel
theorem dX1_stands_7 : decode cX1_stands 7 = .ok (.getfield 31, 3) := by decide +kernel
theorem dX1_stands_10 : decode cX1_stands 10 = .ok (.if_icmp .le 5, 3) := by decide +kernel
theorem dX1_stands_13 : decode cX1_stands 13 = .ok (.iconst 0, 1) := by decide +kernel
theorem dX1_stands_14 : decode cX1_stands 14 = .ok (.ireturn, 1) := by decide +kernel
theorem dX1_stands_15 : decode cX1_stands 15 = .ok (.iconst 0, 1) := by decide +kernel
theorem dX1_stands_16 : decode cX1_stands 16 = .ok (.istore_n 2, 1) := by decide +kernel
theorem dX1_stands_17 : decode cX1_stands 17 = .ok (.iload_n 2, 1) := by decide +kernel
theorem dX1_stands_18 : decode cX1_stands 18 = .ok (.aload_n 0, 1) := by decide +kernel
theorem dX1_stands_19 : decode cX1_stands 19 = .ok (.getfield 38, 3) := by decide +kernel
theorem dX1_stands_22 : decode cX1_stands 22 = .ok (.if_icmp .ge 28, 3) := by decide +kernel
theorem dX1_stands_25 : decode cX1_stands 25 = .ok (.aload_n 0, 1) := by decide +kernel
theorem dX1_stands_26 : decode cX1_stands 26 = .ok (.getfield 9, 3) := by decide +kernel
theorem dX1_stands_29 : decode cX1_stands 29 = .ok (.iload_n 1, 1) := by decide +kernel
theorem dX1_stands_30 : decode cX1_stands 30 = .ok (.iload_n 2, 1) := by decide +kernel
theorem dX1_stands_31 : decode cX1_stands 31 = .ok (.iadd, 1) := by decide +kernel
theorem dX1_stands_32 : decode cX1_stands 32 = .ok (.iaload, 1) := by decide +kernel
theorem dX1_stands_33 : decode cX1_stands 33 = .ok (.aload_n 0, 1) := by decide +kernel
theorem dX1_stands_34 : decode cX1_stands 34 = .ok (.getfield 13, 3) := by decide +kernel
theorem dX1_stands_37 : decode cX1_stands 37 = .ok (.iload_n 2, 1) := by decide +kernel
theorem dX1_stands_38 : decode cX1_stands 38 = .ok (.iaload, 1) := by decide +kernel
theorem dX1_stands_39 : decode cX1_stands 39 = .ok (.if_icmp .eq 5, 3) := by decide +kernel
theorem dX1_stands_42 : decode cX1_stands 42 = .ok (.iconst 0, 1) := by decide +kernel
theorem dX1_stands_43 : decode cX1_stands 43 = .ok (.ireturn, 1) := by decide +kernel
theorem dX1_stands_44 : decode cX1_stands 44 = .ok (.iinc 2 1, 3) := by decide +kernel
theorem dX1_stands_47 : decode cX1_stands 47 = .ok (.goto (-30), 3) := by decide +kernel
theorem dX1_stands_50 : decode cX1_stands 50 = .ok (.iconst 1, 1) := by decide +kernel
theorem dX1_stands_51 : decode cX1_stands 51 = .ok (.ireturn, 1) := by decide +kernel
theorem dX1_look_0 : decode cX1_look 0 = .ok (.iconst 0, 1) := by decide +kernel
theorem dX1_look_1 : decode cX1_look 1 = .ok (.istore_n 2, 1) := by decide +kernel
theorem dX1_look_2 : decode cX1_look 2 = .ok (.iconst 0, 1) := by decide +kernel
theorem dX1_look_3 : decode cX1_look 3 = .ok (.istore_n 3, 1) := by decide +kernel
theorem dX1_look_4 : decode cX1_look 4 = .ok (.iload_n 3, 1) := by decide +kernel
theorem dX1_look_5 : decode cX1_look 5 = .ok (.aload_n 0, 1) := by decide +kernel
theorem dX1_look_6 : decode cX1_look 6 = .ok (.getfield 31, 3) := by decide +kernel
theorem dX1_look_9 : decode cX1_look 9 = .ok (.if_icmp .ge 22, 3) := by decide +kernel
theorem dX1_look_12 : decode cX1_look 12 = .ok (.iload_n 2, 1) := by decide +kernel
theorem dX1_look_13 : decode cX1_look 13 = .ok (.iload_n 3, 1) := by decide +kernel
theorem dX1_look_14 : decode cX1_look 14 = .ok (.iconst 1, 1) := by decide +kernel
theorem dX1_look_15 : decode cX1_look 15 = .ok (.iadd, 1) := by decide +kernel
theorem dX1_look_16 : decode cX1_look 16 = .ok (.aload_n 0, 1) := by decide +kernel
theorem dX1_look_17 : decode cX1_look 17 = .ok (.getfield 9, 3) := by decide +kernel
theorem dX1_look_20 : decode cX1_look 20 = .ok (.iload_n 3, 1) := by decide +kernel
theorem dX1_look_21 : decode cX1_look 21 = .ok (.iaload, 1) := by decide +kernel
theorem dX1_look_22 : decode cX1_look 22 = .ok (.imul, 1) := by decide +kernel
theorem dX1_look_23 : decode cX1_look 23 = .ok (.iadd, 1) := by decide +kernel
theorem dX1_look_24 : decode cX1_look 24 = .ok (.istore_n 2, 1) := by decide +kernel
theorem dX1_look_25 : decode cX1_look 25 = .ok (.iinc 3 1, 3) := by decide +kernel
theorem dX1_look_28 : decode cX1_look 28 = .ok (.goto (-24), 3) := by decide +kernel
theorem dX1_look_31 : decode cX1_look 31 = .ok (.iload_n 1, 1) := by decide +kernel
theorem dX1_look_32 : decode cX1_look 32 = .ok (.ifCond .ne 10, 3) := by decide +kernel
theorem dX1_look_35 : decode cX1_look 35 = .ok (.aload_n 0, 1) := by decide +kernel
theorem dX1_look_36 : decode cX1_look 36 = .ok (.getfield 31, 3) := by decide +kernel
theorem dX1_look_39 : decode cX1_look 39 = .ok (.goto 25, 3) := by decide +kernel
theorem dX1_look_42 : decode cX1_look 42 = .ok (.iload_n 1, 1) := by decide +kernel
theorem dX1_look_43 : decode cX1_look 43 = .ok (.iconst 1, 1) := by decide +kernel
theorem dX1_look_44 : decode cX1_look 44 = .ok (.if_icmp .ne 10, 3) := by decide +kernel
theorem dX1_look_47 : decode cX1_look 47 = .ok (.aload_n 0, 1) := by decide +kernel
theorem dX1_look_48 : decode cX1_look 48 = .ok (.getfield 38, 3) := by decide +kernel
theorem dX1_look_51 : decode cX1_look 51 = .ok (.goto 13, 3) := by decide +kernel
theorem dX1_look_54 : decode cX1_look 54 = .ok (.iload_n 1, 1) := by decide +kernel
theorem dX1_look_55 : decode cX1_look 55 = .ok (.iconst 2, 1) := by decide +kernel
theorem dX1_look_56 : decode cX1_look 56 = .ok (.if_icmp .ne 7, 3) := by decide +kernel
theorem dX1_look_59 : decode cX1_look 59 = .ok (.iload_n 2, 1) := by decide +kernel
theorem dX1_look_60 : decode cX1_look 60 = .ok (.goto 4, 3) := by decide +kernel
theorem dX1_look_63 : decode cX1_look 63 = .ok (.iconst (-1), 1) := by decide +kernel
theorem dX1_look_64 : decode cX1_look 64 = .ok (.ireturn, 1) := by decide +kernel
theorem dX1_compare_0 : decode cX1_compare 0 = .ok (.iconst 0, 1) := by decide +kernel
theorem dX1_compare_1 : decode cX1_compare 1 = .ok (.istore_n 1, 1) := by decide +kernel
theorem dX1_compare_2 : decode cX1_compare 2 = .ok (.iload_n 1, 1) := by decide +kernel
theorem dX1_compare_3 : decode cX1_compare 3 = .ok (.aload_n 0, 1) := by decide +kernel
theorem dX1_compare_4 : decode cX1_compare 4 = .ok (.getfield 31, 3) := by decide +kernel
theorem dX1_compare_7 : decode cX1_compare 7 = .ok (.if_icmp .ge 53, 3) := by decide +kernel
theorem dX1_compare_10 : decode cX1_compare 10 = .ok (.iload_n 1, 1) := by decide +kernel
theorem dX1_compare_11 : decode cX1_compare 11 = .ok (.aload_n 0, 1) := by decide +kernel
theorem dX1_compare_12 : decode cX1_compare 12 = .ok (.getfield 38, 3) := by decide +kernel
theorem dX1_compare_15 : decode cX1_compare 15 = .ok (.if_icmp .ge 45, 3) := by decide +kernel
theorem dX1_compare_18 : decode cX1_compare 18 = .ok (.aload_n 0, 1) := by decide +kernel
theorem dX1_compare_19 : decode cX1_compare 19 = .ok (.getfield 9, 3) := by decide +kernel
theorem dX1_compare_22 : decode cX1_compare 22 = .ok (.iload_n 1, 1) := by decide +kernel
theorem dX1_compare_23 : decode cX1_compare 23 = .ok (.iaload, 1) := by decide +kernel
theorem dX1_compare_24 : decode cX1_compare 24 = .ok (.aload_n 0, 1) := by decide +kernel
theorem dX1_compare_25 : decode cX1_compare 25 = .ok (.getfield 13, 3) := by decide +kernel
theorem dX1_compare_28 : decode cX1_compare 28 = .ok (.iload_n 1, 1) := by decide +kernel
theorem dX1_compare_29 : decode cX1_compare 29 = .ok (.iaload, 1) := by decide +kernel
theorem dX1_compare_30 : decode cX1_compare 30 = .ok (.if_icmp .eq 24, 3) := by decide +kernel
theorem dX1_compare_33 : decode cX1_compare 33 = .ok (.aload_n 0, 1) := by decide +kernel
theorem dX1_compare_34 : decode cX1_compare 34 = .ok (.getfield 9, 3) := by decide +kernel
theorem dX1_compare_37 : decode cX1_compare 37 = .ok (.iload_n 1, 1) := by decide +kernel
theorem dX1_compare_38 : decode cX1_compare 38 = .ok (.iaload, 1) := by decide +kernel
theorem dX1_compare_39 : decode cX1_compare 39 = .ok (.aload_n 0, 1) := by decide +kernel
theorem dX1_compare_40 : decode cX1_compare 40 = .ok (.getfield 13, 3) := by decide +kernel
theorem dX1_compare_43 : decode cX1_compare 43 = .ok (.iload_n 1, 1) := by decide +kernel
theorem dX1_compare_44 : decode cX1_compare 44 = .ok (.iaload, 1) := by decide +kernel
theorem dX1_compare_45 : decode cX1_compare 45 = .ok (.if_icmp .ge 7, 3) := by decide +kernel
theorem dX1_compare_48 : decode cX1_compare 48 = .ok (.iconst (-1), 1) := by decide +kernel
theorem dX1_compare_49 : decode cX1_compare 49 = .ok (.goto 4, 3) := by decide +kernel
theorem dX1_compare_52 : decode cX1_compare 52 = .ok (.iconst 1, 1) := by decide +kernel
theorem dX1_compare_53 : decode cX1_compare 53 = .ok (.ireturn, 1) := by decide +kernel
theorem dX1_compare_54 : decode cX1_compare 54 = .ok (.iinc 1 1, 3) := by decide +kernel
theorem dX1_compare_57 : decode cX1_compare 57 = .ok (.goto (-55), 3) := by decide +kernel
theorem dX1_compare_60 : decode cX1_compare 60 = .ok (.aload_n 0, 1) := by decide +kernel
theorem dX1_compare_61 : decode cX1_compare 61 = .ok (.getfield 31, 3) := by decide +kernel
theorem dX1_compare_64 : decode cX1_compare 64 = .ok (.aload_n 0, 1) := by decide +kernel
theorem dX1_compare_65 : decode cX1_compare 65 = .ok (.getfield 38, 3) := by decide +kernel
theorem dX1_compare_68 : decode cX1_compare 68 = .ok (.if_icmp .ge 7, 3) := by decide +kernel
theorem dX1_compare_71 : decode cX1_compare 71 = .ok (.iconst (-1), 1) := by decide +kernel
theorem dX1_compare_72 : decode cX1_compare 72 = .ok (.goto 19, 3) := by decide +kernel
theorem dX1_compare_75 : decode cX1_compare 75 = .ok (.aload_n 0, 1) := by decide +kernel
theorem dX1_compare_76 : decode cX1_compare 76 = .ok (.getfield 31, 3) := by decide +kernel
theorem dX1_compare_79 : decode cX1_compare 79 = .ok (.aload_n 0, 1) := by decide +kernel
theorem dX1_compare_80 : decode cX1_compare 80 = .ok (.getfield 38, 3) := by decide +kernel
theorem dX1_compare_83 : decode cX1_compare 83 = .ok (.if_icmp .le 7, 3) := by decide +kernel
theorem dX1_compare_86 : decode cX1_compare 86 = .ok (.iconst 1, 1) := by decide +kernel
theorem dX1_compare_87 : decode cX1_compare 87 = .ok (.goto 4, 3) := by decide +kernel
theorem dX1_compare_90 : decode cX1_compare 90 = .ok (.iconst 0, 1) := by decide +kernel
theorem dX1_compare_91 : decode cX1_compare 91 = .ok (.ireturn, 1) := by decide +kernel
