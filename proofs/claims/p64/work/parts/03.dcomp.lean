theorem dX0_init_0 : decode cX0_init 0 = .ok (.aload_n 0, 1) := by decide +kernel
theorem dX0_init_1 : decode cX0_init 1 = .ok (.invokespecial 3, 3) := by decide +kernel
theorem dX0_init_4 : decode cX0_init 4 = .ok (.return_, 1) := by decide +kernel
theorem dX1_init_0 : decode cX1_init 0 = .ok (.aload_n 0, 1) := by decide +kernel
theorem dX1_init_1 : decode cX1_init 1 = .ok (.invokespecial 3, 3) := by decide +kernel
theorem dX1_init_4 : decode cX1_init 4 = .ok (.aload_n 0, 1) := by decide +kernel
theorem dX1_init_5 : decode cX1_init 5 = .ok (.iconst 5, 1) := by decide +kernel
theorem dX1_init_6 : decode cX1_init 6 = .ok (.putfield 9, 3) := by decide +kernel
theorem dX1_init_9 : decode cX1_init 9 = .ok (.aload_n 0, 1) := by decide +kernel
theorem dX1_init_10 : decode cX1_init 10 = .ok (.sipush 20000, 3) := by decide +kernel
theorem dX1_init_13 : decode cX1_init 13 = .ok (.putfield 15, 3) := by decide +kernel
theorem dX1_init_16 : decode cX1_init 16 = .ok (.return_, 1) := by decide +kernel
theorem dX1_copyFrom_0 : decode cX1_copyFrom 0 = .ok (.aload_n 0, 1) := by decide +kernel
theorem dX1_copyFrom_1 : decode cX1_copyFrom 1 = .ok (.aload_n 1, 1) := by decide +kernel
theorem dX1_copyFrom_2 : decode cX1_copyFrom 2 = .ok (.getfield 9, 3) := by decide +kernel
theorem dX1_copyFrom_5 : decode cX1_copyFrom 5 = .ok (.putfield 9, 3) := by decide +kernel
theorem dX1_copyFrom_8 : decode cX1_copyFrom 8 = .ok (.aload_n 0, 1) := by decide +kernel
theorem dX1_copyFrom_9 : decode cX1_copyFrom 9 = .ok (.aload_n 1, 1) := by decide +kernel
theorem dX1_copyFrom_10 : decode cX1_copyFrom 10 = .ok (.getfield 15, 3) := by decide +kernel
theorem dX1_copyFrom_13 : decode cX1_copyFrom 13 = .ok (.putfield 15, 3) := by decide +kernel
theorem dX1_copyFrom_16 : decode cX1_copyFrom 16 = .ok (.aload_n 0, 1) := by decide +kernel
theorem dX1_copyFrom_17 : decode cX1_copyFrom 17 = .ok (.aload_n 1, 1) := by decide +kernel
theorem dX1_copyFrom_18 : decode cX1_copyFrom 18 = .ok (.getfield 18, 3) := by decide +kernel
theorem dX1_copyFrom_21 : decode cX1_copyFrom 21 = .ok (.putfield 18, 3) := by decide +kernel
theorem dX1_copyFrom_24 : decode cX1_copyFrom 24 = .ok (.aload_n 0, 1) := by decide +kernel
theorem dX1_copyFrom_25 : decode cX1_copyFrom 25 = .ok (.aload_n 1, 1) := by decide +kernel
theorem dX1_copyFrom_26 : decode cX1_copyFrom 26 = .ok (.getfield 21, 3) := by decide +kernel
theorem dX1_copyFrom_29 : decode cX1_copyFrom 29 = .ok (.putfield 21, 3) := by decide +kernel
theorem dX1_copyFrom_32 : decode cX1_copyFrom 32 = .ok (.aload_n 0, 1) := by decide +kernel
theorem dX1_copyFrom_33 : decode cX1_copyFrom 33 = .ok (.aload_n 1, 1) := by decide +kernel
theorem dX1_copyFrom_34 : decode cX1_copyFrom 34 = .ok (.getfield 24, 3) := by decide +kernel
theorem dX1_copyFrom_37 : decode cX1_copyFrom 37 = .ok (.putfield 24, 3) := by decide +kernel
theorem dX1_copyFrom_40 : decode cX1_copyFrom 40 = .ok (.aload_n 0, 1) := by decide +kernel
theorem dX1_copyFrom_41 : decode cX1_copyFrom 41 = .ok (.aload_n 1, 1) := by decide +kernel
theorem dX1_copyFrom_42 : decode cX1_copyFrom 42 = .ok (.getfield 27, 3) := by decide +kernel
theorem dX1_copyFrom_45 : decode cX1_copyFrom 45 = .ok (.putfield 27, 3) := by decide +kernel
theorem dX1_copyFrom_48 : decode cX1_copyFrom 48 = .ok (.aload_n 0, 1) := by decide +kernel
theorem dX1_copyFrom_49 : decode cX1_copyFrom 49 = .ok (.aload_n 1, 1) := by decide +kernel
theorem dX1_copyFrom_50 : decode cX1_copyFrom 50 = .ok (.getfield 30, 3) := by decide +kernel
theorem dX1_copyFrom_53 : decode cX1_copyFrom 53 = .ok (.putfield 30, 3) := by decide +kernel
theorem dX1_copyFrom_56 : decode cX1_copyFrom 56 = .ok (.aload_n 0, 1) := by decide +kernel
theorem dX1_copyFrom_57 : decode cX1_copyFrom 57 = .ok (.aload_n 1, 1) := by decide +kernel
theorem dX1_copyFrom_58 : decode cX1_copyFrom 58 = .ok (.getfield 33, 3) := by decide +kernel
theorem dX1_copyFrom_61 : decode cX1_copyFrom 61 = .ok (.putfield 33, 3) := by decide +kernel
theorem dX1_copyFrom_64 : decode cX1_copyFrom 64 = .ok (.aload_n 0, 1) := by decide +kernel
theorem dX1_copyFrom_65 : decode cX1_copyFrom 65 = .ok (.aload_n 1, 1) := by decide +kernel
theorem dX1_copyFrom_66 : decode cX1_copyFrom 66 = .ok (.getfield 37, 3) := by decide +kernel
theorem dX1_copyFrom_69 : decode cX1_copyFrom 69 = .ok (.putfield 37, 3) := by decide +kernel
theorem dX1_copyFrom_72 : decode cX1_copyFrom 72 = .ok (.return_, 1) := by decide +kernel
theorem dX1_countFrame_0 : decode cX1_countFrame 0 = .ok (.aload_n 0, 1) := by decide +kernel
theorem dX1_countFrame_1 : decode cX1_countFrame 1 = .ok (.dup, 1) := by decide +kernel
theorem dX1_countFrame_2 : decode cX1_countFrame 2 = .ok (.getfield 21, 3) := by decide +kernel
theorem dX1_countFrame_5 : decode cX1_countFrame 5 = .ok (.iconst 1, 1) := by decide +kernel
theorem dX1_countFrame_6 : decode cX1_countFrame 6 = .ok (.iadd, 1) := by decide +kernel
theorem dX1_countFrame_7 : decode cX1_countFrame 7 = .ok (.putfield 21, 3) := by decide +kernel
theorem dX1_countFrame_10 : decode cX1_countFrame 10 = .ok (.aload_n 0, 1) := by decide +kernel
theorem dX1_countFrame_11 : decode cX1_countFrame 11 = .ok (.getfield 15, 3) := by decide +kernel
theorem dX1_countFrame_14 : decode cX1_countFrame 14 = .ok (.ifCond .ne 13, 3) := by decide +kernel
theorem dX1_countFrame_17 : decode cX1_countFrame 17 = .ok (.aload_n 0, 1) := by decide +kernel
theorem dX1_countFrame_18 : decode cX1_countFrame 18 = .ok (.dup, 1) := by decide +kernel
theorem dX1_countFrame_19 : decode cX1_countFrame 19 = .ok (.getfield 27, 3) := by decide +kernel
theorem dX1_countFrame_22 : decode cX1_countFrame 22 = .ok (.iconst 1, 1) := by decide +kernel
theorem dX1_countFrame_23 : decode cX1_countFrame 23 = .ok (.iadd, 1) := by decide +kernel
theorem dX1_countFrame_24 : decode cX1_countFrame 24 = .ok (.putfield 27, 3) := by decide +kernel
theorem dX1_countFrame_27 : decode cX1_countFrame 27 = .ok (.iload_n 1, 1) := by decide +kernel
theorem dX1_countFrame_28 : decode cX1_countFrame 28 = .ok (.ifCond .eq 11, 3) := by decide +kernel
theorem dX1_countFrame_31 : decode cX1_countFrame 31 = .ok (.aload_n 0, 1) := by decide +kernel
theorem dX1_countFrame_32 : decode cX1_countFrame 32 = .ok (.iconst 0, 1) := by decide +kernel
theorem dX1_countFrame_33 : decode cX1_countFrame 33 = .ok (.putfield 30, 3) := by decide +kernel
theorem dX1_countFrame_36 : decode cX1_countFrame 36 = .ok (.goto 23, 3) := by decide +kernel
theorem dX1_countFrame_39 : decode cX1_countFrame 39 = .ok (.aload_n 0, 1) := by decide +kernel
theorem dX1_countFrame_40 : decode cX1_countFrame 40 = .ok (.dup, 1) := by decide +kernel
theorem dX1_countFrame_41 : decode cX1_countFrame 41 = .ok (.getfield 24, 3) := by decide +kernel
theorem dX1_countFrame_44 : decode cX1_countFrame 44 = .ok (.iconst 1, 1) := by decide +kernel
theorem dX1_countFrame_45 : decode cX1_countFrame 45 = .ok (.iadd, 1) := by decide +kernel
theorem dX1_countFrame_46 : decode cX1_countFrame 46 = .ok (.putfield 24, 3) := by decide +kernel
theorem dX1_countFrame_49 : decode cX1_countFrame 49 = .ok (.aload_n 0, 1) := by decide +kernel
theorem dX1_countFrame_50 : decode cX1_countFrame 50 = .ok (.dup, 1) := by decide +kernel
theorem dX1_countFrame_51 : decode cX1_countFrame 51 = .ok (.getfield 30, 3) := by decide +kernel
theorem dX1_countFrame_54 : decode cX1_countFrame 54 = .ok (.iconst 1, 1) := by decide +kernel
theorem dX1_countFrame_55 : decode cX1_countFrame 55 = .ok (.iadd, 1) := by decide +kernel
theorem dX1_countFrame_56 : decode cX1_countFrame 56 = .ok (.putfield 30, 3) := by decide +kernel
theorem dX1_countFrame_59 : decode cX1_countFrame 59 = .ok (.return_, 1) := by decide +kernel
theorem dX1_updateFailsafe_0 : decode cX1_updateFailsafe 0 = .ok (.aload_n 0, 1) := by decide +kernel
theorem dX1_updateFailsafe_1 : decode cX1_updateFailsafe 1 = .ok (.getfield 33, 3) := by decide +kernel
theorem dX1_updateFailsafe_4 : decode cX1_updateFailsafe 4 = .ok (.istore_n 1, 1) := by decide +kernel
theorem dX1_updateFailsafe_5 : decode cX1_updateFailsafe 5 = .ok (.aload_n 0, 1) := by decide +kernel
theorem dX1_updateFailsafe_6 : decode cX1_updateFailsafe 6 = .ok (.aload_n 0, 1) := by decide +kernel
theorem dX1_updateFailsafe_7 : decode cX1_updateFailsafe 7 = .ok (.getfield 30, 3) := by decide +kernel
theorem dX1_updateFailsafe_10 : decode cX1_updateFailsafe 10 = .ok (.aload_n 0, 1) := by decide +kernel
theorem dX1_updateFailsafe_11 : decode cX1_updateFailsafe 11 = .ok (.getfield 9, 3) := by decide +kernel
theorem dX1_updateFailsafe_14 : decode cX1_updateFailsafe 14 = .ok (.if_icmp .lt 7, 3) := by decide +kernel
theorem dX1_updateFailsafe_17 : decode cX1_updateFailsafe 17 = .ok (.iconst 1, 1) := by decide +kernel
theorem dX1_updateFailsafe_18 : decode cX1_updateFailsafe 18 = .ok (.goto 4, 3) := by decide +kernel
theorem dX1_updateFailsafe_21 : decode cX1_updateFailsafe 21 = .ok (.iconst 0, 1) := by decide +kernel
theorem dX1_updateFailsafe_22 : decode cX1_updateFailsafe 22 = .ok (.putfield 33, 3) := by decide +kernel
theorem dX1_updateFailsafe_25 : decode cX1_updateFailsafe 25 = .ok (.aload_n 0, 1) := by decide +kernel
theorem dX1_updateFailsafe_26 : decode cX1_updateFailsafe 26 = .ok (.getfield 33, 3) := by decide +kernel
theorem dX1_updateFailsafe_29 : decode cX1_updateFailsafe 29 = .ok (.ifCond .eq 17, 3) := by decide +kernel
theorem dX1_updateFailsafe_32 : decode cX1_updateFailsafe 32 = .ok (.iload_n 1, 1) := by decide +kernel
theorem dX1_updateFailsafe_33 : decode cX1_updateFailsafe 33 = .ok (.ifCond .ne 13, 3) := by decide +kernel
theorem dX1_updateFailsafe_36 : decode cX1_updateFailsafe 36 = .ok (.aload_n 0, 1) := by decide +kernel
theorem dX1_updateFailsafe_37 : decode cX1_updateFailsafe 37 = .ok (.dup, 1) := by decide +kernel
theorem dX1_updateFailsafe_38 : decode cX1_updateFailsafe 38 = .ok (.getfield 37, 3) := by decide +kernel
theorem dX1_updateFailsafe_41 : decode cX1_updateFailsafe 41 = .ok (.iconst 1, 1) := by decide +kernel
theorem dX1_updateFailsafe_42 : decode cX1_updateFailsafe 42 = .ok (.iadd, 1) := by decide +kernel
theorem dX1_updateFailsafe_43 : decode cX1_updateFailsafe 43 = .ok (.putfield 37, 3) := by decide +kernel
theorem dX1_updateFailsafe_46 : decode cX1_updateFailsafe 46 = .ok (.return_, 1) := by decide +kernel
theorem dX1_reasonForLag_0 : decode cX1_reasonForLag 0 = .ok (.aload_n 0, 1) := by decide +kernel
theorem dX1_reasonForLag_1 : decode cX1_reasonForLag 1 = .ok (.getfield 15, 3) := by decide +kernel
theorem dX1_reasonForLag_4 : decode cX1_reasonForLag 4 = .ok (.ifCond .ne 5, 3) := by decide +kernel
theorem dX1_reasonForLag_7 : decode cX1_reasonForLag 7 = .ok (.iconst 1, 1) := by decide +kernel
theorem dX1_reasonForLag_8 : decode cX1_reasonForLag 8 = .ok (.ireturn, 1) := by decide +kernel
theorem dX1_reasonForLag_9 : decode cX1_reasonForLag 9 = .ok (.aload_n 0, 1) := by decide +kernel
theorem dX1_reasonForLag_10 : decode cX1_reasonForLag 10 = .ok (.getfield 33, 3) := by decide +kernel
theorem dX1_reasonForLag_13 : decode cX1_reasonForLag 13 = .ok (.ifCond .eq 5, 3) := by decide +kernel
theorem dX1_reasonForLag_16 : decode cX1_reasonForLag 16 = .ok (.iconst 2, 1) := by decide +kernel
theorem dX1_reasonForLag_17 : decode cX1_reasonForLag 17 = .ok (.ireturn, 1) := by decide +kernel
theorem dX1_reasonForLag_18 : decode cX1_reasonForLag 18 = .ok (.aload_n 0, 1) := by decide +kernel
theorem dX1_reasonForLag_19 : decode cX1_reasonForLag 19 = .ok (.getfield 30, 3) := by decide +kernel
theorem dX1_reasonForLag_22 : decode cX1_reasonForLag 22 = .ok (.ifCond .le 7, 3) := by decide +kernel
theorem dX1_reasonForLag_25 : decode cX1_reasonForLag 25 = .ok (.iconst 3, 1) := by decide +kernel
theorem dX1_reasonForLag_26 : decode cX1_reasonForLag 26 = .ok (.goto 4, 3) := by decide +kernel
theorem dX1_reasonForLag_29 : decode cX1_reasonForLag 29 = .ok (.iconst 4, 1) := by decide +kernel
theorem dX1_reasonForLag_30 : decode cX1_reasonForLag 30 = .ok (.ireturn, 1) := by decide +kernel
theorem dX1_hashOnto_0 : decode cX1_hashOnto 0 = .ok (.lload_n 1, 1) := by decide +kernel
theorem dX1_hashOnto_1 : decode cX1_hashOnto 1 = .ok (.aload_n 0, 1) := by decide +kernel
theorem dX1_hashOnto_2 : decode cX1_hashOnto 2 = .ok (.getfield 15, 3) := by decide +kernel
theorem dX1_hashOnto_5 : decode cX1_hashOnto 5 = .ok (.i2l, 1) := by decide +kernel
theorem dX1_hashOnto_6 : decode cX1_hashOnto 6 = .ok (.invokestatic 40, 3) := by decide +kernel
theorem dX1_hashOnto_9 : decode cX1_hashOnto 9 = .ok (.lstore_n 3, 1) := by decide +kernel
theorem dX1_hashOnto_10 : decode cX1_hashOnto 10 = .ok (.lload_n 3, 1) := by decide +kernel
theorem dX1_hashOnto_11 : decode cX1_hashOnto 11 = .ok (.aload_n 0, 1) := by decide +kernel
theorem dX1_hashOnto_12 : decode cX1_hashOnto 12 = .ok (.getfield 18, 3) := by decide +kernel
theorem dX1_hashOnto_15 : decode cX1_hashOnto 15 = .ok (.i2l, 1) := by decide +kernel
theorem dX1_hashOnto_16 : decode cX1_hashOnto 16 = .ok (.invokestatic 40, 3) := by decide +kernel
theorem dX1_hashOnto_19 : decode cX1_hashOnto 19 = .ok (.lstore_n 3, 1) := by decide +kernel
theorem dX1_hashOnto_20 : decode cX1_hashOnto 20 = .ok (.lload_n 3, 1) := by decide +kernel
theorem dX1_hashOnto_21 : decode cX1_hashOnto 21 = .ok (.aload_n 0, 1) := by decide +kernel
theorem dX1_hashOnto_22 : decode cX1_hashOnto 22 = .ok (.getfield 21, 3) := by decide +kernel
theorem dX1_hashOnto_25 : decode cX1_hashOnto 25 = .ok (.i2l, 1) := by decide +kernel
theorem dX1_hashOnto_26 : decode cX1_hashOnto 26 = .ok (.invokestatic 40, 3) := by decide +kernel
theorem dX1_hashOnto_29 : decode cX1_hashOnto 29 = .ok (.lstore_n 3, 1) := by decide +kernel
theorem dX1_hashOnto_30 : decode cX1_hashOnto 30 = .ok (.lload_n 3, 1) := by decide +kernel
theorem dX1_hashOnto_31 : decode cX1_hashOnto 31 = .ok (.aload_n 0, 1) := by decide +kernel
theorem dX1_hashOnto_32 : decode cX1_hashOnto 32 = .ok (.getfield 24, 3) := by decide +kernel
theorem dX1_hashOnto_35 : decode cX1_hashOnto 35 = .ok (.i2l, 1) := by decide +kernel
theorem dX1_hashOnto_36 : decode cX1_hashOnto 36 = .ok (.invokestatic 40, 3) := by decide +kernel
theorem dX1_hashOnto_39 : decode cX1_hashOnto 39 = .ok (.lstore_n 3, 1) := by decide +kernel
theorem dX1_hashOnto_40 : decode cX1_hashOnto 40 = .ok (.lload_n 3, 1) := by decide +kernel
theorem dX1_hashOnto_41 : decode cX1_hashOnto 41 = .ok (.aload_n 0, 1) := by decide +kernel
theorem dX1_hashOnto_42 : decode cX1_hashOnto 42 = .ok (.getfield 27, 3) := by decide +kernel
theorem dX1_hashOnto_45 : decode cX1_hashOnto 45 = .ok (.i2l, 1) := by decide +kernel
theorem dX1_hashOnto_46 : decode cX1_hashOnto 46 = .ok (.invokestatic 40, 3) := by decide +kernel
theorem dX1_hashOnto_49 : decode cX1_hashOnto 49 = .ok (.lstore_n 3, 1) := by decide +kernel
theorem dX1_hashOnto_50 : decode cX1_hashOnto 50 = .ok (.lload_n 3, 1) := by decide +kernel
theorem dX1_hashOnto_51 : decode cX1_hashOnto 51 = .ok (.aload_n 0, 1) := by decide +kernel
theorem dX1_hashOnto_52 : decode cX1_hashOnto 52 = .ok (.getfield 30, 3) := by decide +kernel
theorem dX1_hashOnto_55 : decode cX1_hashOnto 55 = .ok (.i2l, 1) := by decide +kernel
theorem dX1_hashOnto_56 : decode cX1_hashOnto 56 = .ok (.invokestatic 40, 3) := by decide +kernel
theorem dX1_hashOnto_59 : decode cX1_hashOnto 59 = .ok (.lstore_n 3, 1) := by decide +kernel
theorem dX1_hashOnto_60 : decode cX1_hashOnto 60 = .ok (.lload_n 3, 1) := by decide +kernel
theorem dX1_hashOnto_61 : decode cX1_hashOnto 61 = .ok (.aload_n 0, 1) := by decide +kernel
theorem dX1_hashOnto_62 : decode cX1_hashOnto 62 = .ok (.getfield 37, 3) := by decide +kernel
theorem dX1_hashOnto_65 : decode cX1_hashOnto 65 = .ok (.i2l, 1) := by decide +kernel
theorem dX1_hashOnto_66 : decode cX1_hashOnto 66 = .ok (.invokestatic 40, 3) := by decide +kernel
theorem dX1_hashOnto_69 : decode cX1_hashOnto 69 = .ok (.lreturn, 1) := by decide +kernel
theorem dX2_init_0 : decode cX2_init 0 = .ok (.aload_n 0, 1) := by decide +kernel
theorem dX2_init_1 : decode cX2_init 1 = .ok (.invokespecial 3, 3) := by decide +kernel
theorem dX2_init_4 : decode cX2_init 4 = .ok (.aload_n 0, 1) := by decide +kernel
theorem dX2_init_5 : decode cX2_init 5 = .ok (.bipush 12, 2) := by decide +kernel
theorem dX2_init_7 : decode cX2_init 7 = .ok (.newarray .int, 2) := by decide +kernel
theorem dX2_init_9 : decode cX2_init 9 = .ok (.putfield 9, 3) := by decide +kernel
theorem dX2_init_12 : decode cX2_init 12 = .ok (.aload_n 0, 1) := by decide +kernel
theorem dX2_init_13 : decode cX2_init 13 = .ok (.bipush 12, 2) := by decide +kernel
theorem dX2_init_15 : decode cX2_init 15 = .ok (.newarray .int, 2) := by decide +kernel
theorem dX2_init_17 : decode cX2_init 17 = .ok (.putfield 15, 3) := by decide +kernel
theorem dX2_init_20 : decode cX2_init 20 = .ok (.aload_n 0, 1) := by decide +kernel
theorem dX2_init_21 : decode cX2_init 21 = .ok (.bipush 12, 2) := by decide +kernel
theorem dX2_init_23 : decode cX2_init 23 = .ok (.newarray .int, 2) := by decide +kernel
theorem dX2_init_25 : decode cX2_init 25 = .ok (.putfield 18, 3) := by decide +kernel
theorem dX2_init_28 : decode cX2_init 28 = .ok (.aload_n 0, 1) := by decide +kernel
theorem dX2_init_29 : decode cX2_init 29 = .ok (.bipush 12, 2) := by decide +kernel
theorem dX2_init_31 : decode cX2_init 31 = .ok (.newarray .int, 2) := by decide +kernel
theorem dX2_init_33 : decode cX2_init 33 = .ok (.putfield 21, 3) := by decide +kernel
theorem dX2_init_36 : decode cX2_init 36 = .ok (.aload_n 0, 1) := by decide +kernel
theorem dX2_init_37 : decode cX2_init 37 = .ok (.bipush 12, 2) := by decide +kernel
theorem dX2_init_39 : decode cX2_init 39 = .ok (.newarray .int, 2) := by decide +kernel
theorem dX2_init_41 : decode cX2_init 41 = .ok (.putfield 24, 3) := by decide +kernel
theorem dX2_init_44 : decode cX2_init 44 = .ok (.iconst 0, 1) := by decide +kernel
theorem dX2_init_45 : decode cX2_init 45 = .ok (.istore_n 1, 1) := by decide +kernel
theorem dX2_init_46 : decode cX2_init 46 = .ok (.iload_n 1, 1) := by decide +kernel
theorem dX2_init_47 : decode cX2_init 47 = .ok (.iconst 4, 1) := by decide +kernel
theorem dX2_init_48 : decode cX2_init 48 = .ok (.if_icmp .ge 19, 3) := by decide +kernel
theorem dX2_init_51 : decode cX2_init 51 = .ok (.aload_n 0, 1) := by decide +kernel
theorem dX2_init_52 : decode cX2_init 52 = .ok (.iload_n 1, 1) := by decide +kernel
theorem dX2_init_53 : decode cX2_init 53 = .ok (.iload_n 1, 1) := by decide +kernel
theorem dX2_init_54 : decode cX2_init 54 = .ok (.bipush 100, 2) := by decide +kernel
theorem dX2_init_56 : decode cX2_init 56 = .ok (.iconst 0, 1) := by decide +kernel
theorem dX2_init_57 : decode cX2_init 57 = .ok (.iconst 0, 1) := by decide +kernel
theorem dX2_init_58 : decode cX2_init 58 = .ok (.invokevirtual 27, 3) := by decide +kernel
theorem dX2_init_61 : decode cX2_init 61 = .ok (.iinc 1 1, 3) := by decide +kernel
theorem dX2_init_64 : decode cX2_init 64 = .ok (.goto (-18), 3) := by decide +kernel
theorem dX2_init_67 : decode cX2_init 67 = .ok (.return_, 1) := by decide +kernel
theorem dX2_copyFrom_0 : decode cX2_copyFrom 0 = .ok (.aload_n 0, 1) := by decide +kernel
theorem dX2_copyFrom_1 : decode cX2_copyFrom 1 = .ok (.aload_n 1, 1) := by decide +kernel
theorem dX2_copyFrom_2 : decode cX2_copyFrom 2 = .ok (.getfield 31, 3) := by decide +kernel
theorem dX2_copyFrom_5 : decode cX2_copyFrom 5 = .ok (.putfield 31, 3) := by decide +kernel
theorem dX2_copyFrom_8 : decode cX2_copyFrom 8 = .ok (.aload_n 1, 1) := by decide +kernel
theorem dX2_copyFrom_9 : decode cX2_copyFrom 9 = .ok (.getfield 9, 3) := by decide +kernel
theorem dX2_copyFrom_12 : decode cX2_copyFrom 12 = .ok (.aload_n 0, 1) := by decide +kernel
theorem dX2_copyFrom_13 : decode cX2_copyFrom 13 = .ok (.getfield 9, 3) := by decide +kernel
theorem dX2_copyFrom_16 : decode cX2_copyFrom 16 = .ok (.invokestatic 35, 3) := by decide +kernel
theorem dX2_copyFrom_19 : decode cX2_copyFrom 19 = .ok (.aload_n 1, 1) := by decide +kernel
theorem dX2_copyFrom_20 : decode cX2_copyFrom 20 = .ok (.getfield 15, 3) := by decide +kernel
theorem dX2_copyFrom_23 : decode cX2_copyFrom 23 = .ok (.aload_n 0, 1) := by decide +kernel
theorem dX2_copyFrom_24 : decode cX2_copyFrom 24 = .ok (.getfield 15, 3) := by decide +kernel
theorem dX2_copyFrom_27 : decode cX2_copyFrom 27 = .ok (.invokestatic 35, 3) := by decide +kernel
theorem dX2_copyFrom_30 : decode cX2_copyFrom 30 = .ok (.aload_n 1, 1) := by decide +kernel
theorem dX2_copyFrom_31 : decode cX2_copyFrom 31 = .ok (.getfield 18, 3) := by decide +kernel
theorem dX2_copyFrom_34 : decode cX2_copyFrom 34 = .ok (.aload_n 0, 1) := by decide +kernel
theorem dX2_copyFrom_35 : decode cX2_copyFrom 35 = .ok (.getfield 18, 3) := by decide +kernel
theorem dX2_copyFrom_38 : decode cX2_copyFrom 38 = .ok (.invokestatic 35, 3) := by decide +kernel
theorem dX2_copyFrom_41 : decode cX2_copyFrom 41 = .ok (.aload_n 1, 1) := by decide +kernel
theorem dX2_copyFrom_42 : decode cX2_copyFrom 42 = .ok (.getfield 21, 3) := by decide +kernel
theorem dX2_copyFrom_45 : decode cX2_copyFrom 45 = .ok (.aload_n 0, 1) := by decide +kernel
theorem dX2_copyFrom_46 : decode cX2_copyFrom 46 = .ok (.getfield 21, 3) := by decide +kernel
theorem dX2_copyFrom_49 : decode cX2_copyFrom 49 = .ok (.invokestatic 35, 3) := by decide +kernel
theorem dX2_copyFrom_52 : decode cX2_copyFrom 52 = .ok (.aload_n 1, 1) := by decide +kernel
theorem dX2_copyFrom_53 : decode cX2_copyFrom 53 = .ok (.getfield 24, 3) := by decide +kernel
theorem dX2_copyFrom_56 : decode cX2_copyFrom 56 = .ok (.aload_n 0, 1) := by decide +kernel
theorem dX2_copyFrom_57 : decode cX2_copyFrom 57 = .ok (.getfield 24, 3) := by decide +kernel
theorem dX2_copyFrom_60 : decode cX2_copyFrom 60 = .ok (.invokestatic 35, 3) := by decide +kernel
theorem dX2_copyFrom_63 : decode cX2_copyFrom 63 = .ok (.return_, 1) := by decide +kernel
theorem dX2_put_0 : decode cX2_put 0 = .ok (.aload_n 0, 1) := by decide +kernel
theorem dX2_put_1 : decode cX2_put 1 = .ok (.getfield 31, 3) := by decide +kernel
theorem dX2_put_4 : decode cX2_put 4 = .ok (.bipush 12, 2) := by decide +kernel
theorem dX2_put_6 : decode cX2_put 6 = .ok (.if_icmp .lt 4, 3) := by decide +kernel
theorem dX2_put_9 : decode cX2_put 9 = .ok (.return_, 1) := by decide +kernel
theorem dX2_put_10 : decode cX2_put 10 = .ok (.aload_n 0, 1) := by decide +kernel
theorem dX2_put_11 : decode cX2_put 11 = .ok (.getfield 9, 3) := by decide +kernel
theorem dX2_put_14 : decode cX2_put 14 = .ok (.aload_n 0, 1) := by decide +kernel
theorem dX2_put_15 : decode cX2_put 15 = .ok (.getfield 31, 3) := by decide +kernel
theorem dX2_put_18 : decode cX2_put 18 = .ok (.iload_n 1, 1) := by decide +kernel
theorem dX2_put_19 : decode cX2_put 19 = .ok (.iastore, 1) := by decide +kernel
theorem dX2_put_20 : decode cX2_put 20 = .ok (.aload_n 0, 1) := by decide +kernel
theorem dX2_put_21 : decode cX2_put 21 = .ok (.getfield 15, 3) := by decide +kernel
theorem dX2_put_24 : decode cX2_put 24 = .ok (.aload_n 0, 1) := by decide +kernel
theorem dX2_put_25 : decode cX2_put 25 = .ok (.getfield 31, 3) := by decide +kernel
theorem dX2_put_28 : decode cX2_put 28 = .ok (.iload_n 2, 1) := by decide +kernel
theorem dX2_put_29 : decode cX2_put 29 = .ok (.iastore, 1) := by decide +kernel
theorem dX2_put_30 : decode cX2_put 30 = .ok (.aload_n 0, 1) := by decide +kernel
theorem dX2_put_31 : decode cX2_put 31 = .ok (.getfield 18, 3) := by decide +kernel
theorem dX2_put_34 : decode cX2_put 34 = .ok (.aload_n 0, 1) := by decide +kernel
theorem dX2_put_35 : decode cX2_put 35 = .ok (.getfield 31, 3) := by decide +kernel
theorem dX2_put_38 : decode cX2_put 38 = .ok (.iload_n 3, 1) := by decide +kernel
theorem dX2_put_39 : decode cX2_put 39 = .ok (.iastore, 1) := by decide +kernel
theorem dX2_put_40 : decode cX2_put 40 = .ok (.aload_n 0, 1) := by decide +kernel
theorem dX2_put_41 : decode cX2_put 41 = .ok (.getfield 21, 3) := by decide +kernel
theorem dX2_put_44 : decode cX2_put 44 = .ok (.aload_n 0, 1) := by decide +kernel
theorem dX2_put_45 : decode cX2_put 45 = .ok (.getfield 31, 3) := by decide +kernel
theorem dX2_put_48 : decode cX2_put 48 = .ok (.iload 4, 2) := by decide +kernel
theorem dX2_put_50 : decode cX2_put 50 = .ok (.iastore, 1) := by decide +kernel
theorem dX2_put_51 : decode cX2_put 51 = .ok (.aload_n 0, 1) := by decide +kernel
theorem dX2_put_52 : decode cX2_put 52 = .ok (.getfield 24, 3) := by decide +kernel
theorem dX2_put_55 : decode cX2_put 55 = .ok (.aload_n 0, 1) := by decide +kernel
theorem dX2_put_56 : decode cX2_put 56 = .ok (.getfield 31, 3) := by decide +kernel
theorem dX2_put_59 : decode cX2_put 59 = .ok (.iload 5, 2) := by decide +kernel
theorem dX2_put_61 : decode cX2_put 61 = .ok (.iastore, 1) := by decide +kernel
theorem dX2_put_62 : decode cX2_put 62 = .ok (.aload_n 0, 1) := by decide +kernel
theorem dX2_put_63 : decode cX2_put 63 = .ok (.dup, 1) := by decide +kernel
theorem dX2_put_64 : decode cX2_put 64 = .ok (.getfield 31, 3) := by decide +kernel
theorem dX2_put_67 : decode cX2_put 67 = .ok (.iconst 1, 1) := by decide +kernel
theorem dX2_put_68 : decode cX2_put 68 = .ok (.iadd, 1) := by decide +kernel
theorem dX2_put_69 : decode cX2_put 69 = .ok (.putfield 31, 3) := by decide +kernel
theorem dX2_put_72 : decode cX2_put 72 = .ok (.return_, 1) := by decide +kernel
theorem dX2_dropAt_0 : decode cX2_dropAt 0 = .ok (.iload_n 1, 1) := by decide +kernel
theorem dX2_dropAt_1 : decode cX2_dropAt 1 = .ok (.istore_n 2, 1) := by decide +kernel
theorem dX2_dropAt_2 : decode cX2_dropAt 2 = .ok (.iload_n 2, 1) := by decide +kernel
theorem dX2_dropAt_3 : decode cX2_dropAt 3 = .ok (.aload_n 0, 1) := by decide +kernel
theorem dX2_dropAt_4 : decode cX2_dropAt 4 = .ok (.getfield 31, 3) := by decide +kernel
theorem dX2_dropAt_7 : decode cX2_dropAt 7 = .ok (.iconst 1, 1) := by decide +kernel
theorem dX2_dropAt_8 : decode cX2_dropAt 8 = .ok (.isub, 1) := by decide +kernel
theorem dX2_dropAt_9 : decode cX2_dropAt 9 = .ok (.if_icmp .ge 17, 3) := by decide +kernel
theorem dX2_dropAt_12 : decode cX2_dropAt 12 = .ok (.aload_n 0, 1) := by decide +kernel
theorem dX2_dropAt_13 : decode cX2_dropAt 13 = .ok (.iload_n 2, 1) := by decide +kernel
theorem dX2_dropAt_14 : decode cX2_dropAt 14 = .ok (.iconst 1, 1) := by decide +kernel
theorem dX2_dropAt_15 : decode cX2_dropAt 15 = .ok (.iadd, 1) := by decide +kernel
theorem dX2_dropAt_16 : decode cX2_dropAt 16 = .ok (.iload_n 2, 1) := by decide +kernel
theorem dX2_dropAt_17 : decode cX2_dropAt 17 = .ok (.invokevirtual 39, 3) := by decide +kernel
theorem dX2_dropAt_20 : decode cX2_dropAt 20 = .ok (.iinc 2 1, 3) := by decide +kernel
theorem dX2_dropAt_23 : decode cX2_dropAt 23 = .ok (.goto (-21), 3) := by decide +kernel
theorem dX2_dropAt_26 : decode cX2_dropAt 26 = .ok (.aload_n 0, 1) := by decide +kernel
theorem dX2_dropAt_27 : decode cX2_dropAt 27 = .ok (.dup, 1) := by decide +kernel
theorem dX2_dropAt_28 : decode cX2_dropAt 28 = .ok (.getfield 31, 3) := by decide +kernel
theorem dX2_dropAt_31 : decode cX2_dropAt 31 = .ok (.iconst 1, 1) := by decide +kernel
theorem dX2_dropAt_32 : decode cX2_dropAt 32 = .ok (.isub, 1) := by decide +kernel
theorem dX2_dropAt_33 : decode cX2_dropAt 33 = .ok (.putfield 31, 3) := by decide +kernel
theorem dX2_dropAt_36 : decode cX2_dropAt 36 = .ok (.return_, 1) := by decide +kernel
theorem dX2_dropAllOf_0 : decode cX2_dropAllOf 0 = .ok (.iconst 0, 1) := by decide +kernel
theorem dX2_dropAllOf_1 : decode cX2_dropAllOf 1 = .ok (.istore_n 2, 1) := by decide +kernel
theorem dX2_dropAllOf_2 : decode cX2_dropAllOf 2 = .ok (.iconst 0, 1) := by decide +kernel
theorem dX2_dropAllOf_3 : decode cX2_dropAllOf 3 = .ok (.istore_n 3, 1) := by decide +kernel
theorem dX2_dropAllOf_4 : decode cX2_dropAllOf 4 = .ok (.iload_n 3, 1) := by decide +kernel
theorem dX2_dropAllOf_5 : decode cX2_dropAllOf 5 = .ok (.aload_n 0, 1) := by decide +kernel
theorem dX2_dropAllOf_6 : decode cX2_dropAllOf 6 = .ok (.getfield 31, 3) := by decide +kernel
theorem dX2_dropAllOf_9 : decode cX2_dropAllOf 9 = .ok (.if_icmp .ge 28, 3) := by decide +kernel
theorem dX2_dropAllOf_12 : decode cX2_dropAllOf 12 = .ok (.aload_n 0, 1) := by decide +kernel
theorem dX2_dropAllOf_13 : decode cX2_dropAllOf 13 = .ok (.getfield 15, 3) := by decide +kernel
theorem dX2_dropAllOf_16 : decode cX2_dropAllOf 16 = .ok (.iload_n 3, 1) := by decide +kernel
theorem dX2_dropAllOf_17 : decode cX2_dropAllOf 17 = .ok (.iaload, 1) := by decide +kernel
theorem dX2_dropAllOf_18 : decode cX2_dropAllOf 18 = .ok (.iload_n 1, 1) := by decide +kernel
theorem dX2_dropAllOf_19 : decode cX2_dropAllOf 19 = .ok (.if_icmp .eq 12, 3) := by decide +kernel
theorem dX2_dropAllOf_22 : decode cX2_dropAllOf 22 = .ok (.aload_n 0, 1) := by decide +kernel
theorem dX2_dropAllOf_23 : decode cX2_dropAllOf 23 = .ok (.iload_n 3, 1) := by decide +kernel
theorem dX2_dropAllOf_24 : decode cX2_dropAllOf 24 = .ok (.iload_n 2, 1) := by decide +kernel
theorem dX2_dropAllOf_25 : decode cX2_dropAllOf 25 = .ok (.invokevirtual 39, 3) := by decide +kernel
theorem dX2_dropAllOf_28 : decode cX2_dropAllOf 28 = .ok (.iinc 2 1, 3) := by decide +kernel
theorem dX2_dropAllOf_31 : decode cX2_dropAllOf 31 = .ok (.iinc 3 1, 3) := by decide +kernel
theorem dX2_dropAllOf_34 : decode cX2_dropAllOf 34 = .ok (.goto (-30), 3) := by decide +kernel
theorem dX2_dropAllOf_37 : decode cX2_dropAllOf 37 = .ok (.aload_n 0, 1) := by decide +kernel
theorem dX2_dropAllOf_38 : decode cX2_dropAllOf 38 = .ok (.getfield 31, 3) := by decide +kernel
theorem dX2_dropAllOf_41 : decode cX2_dropAllOf 41 = .ok (.iload_n 2, 1) := by decide +kernel
theorem dX2_dropAllOf_42 : decode cX2_dropAllOf 42 = .ok (.isub, 1) := by decide +kernel
theorem dX2_dropAllOf_43 : decode cX2_dropAllOf 43 = .ok (.istore_n 3, 1) := by decide +kernel
theorem dX2_dropAllOf_44 : decode cX2_dropAllOf 44 = .ok (.aload_n 0, 1) := by decide +kernel
theorem dX2_dropAllOf_45 : decode cX2_dropAllOf 45 = .ok (.iload_n 2, 1) := by decide +kernel
theorem dX2_dropAllOf_46 : decode cX2_dropAllOf 46 = .ok (.putfield 31, 3) := by decide +kernel
theorem dX2_dropAllOf_49 : decode cX2_dropAllOf 49 = .ok (.iload_n 3, 1) := by decide +kernel
theorem dX2_dropAllOf_50 : decode cX2_dropAllOf 50 = .ok (.ireturn, 1) := by decide +kernel
theorem dX2_shift_0 : decode cX2_shift 0 = .ok (.aload_n 0, 1) := by decide +kernel
theorem dX2_shift_1 : decode cX2_shift 1 = .ok (.getfield 9, 3) := by decide +kernel
theorem dX2_shift_4 : decode cX2_shift 4 = .ok (.iload_n 2, 1) := by decide +kernel
theorem dX2_shift_5 : decode cX2_shift 5 = .ok (.aload_n 0, 1) := by decide +kernel
theorem dX2_shift_6 : decode cX2_shift 6 = .ok (.getfield 9, 3) := by decide +kernel
theorem dX2_shift_9 : decode cX2_shift 9 = .ok (.iload_n 1, 1) := by decide +kernel
theorem dX2_shift_10 : decode cX2_shift 10 = .ok (.iaload, 1) := by decide +kernel
theorem dX2_shift_11 : decode cX2_shift 11 = .ok (.iastore, 1) := by decide +kernel
theorem dX2_shift_12 : decode cX2_shift 12 = .ok (.aload_n 0, 1) := by decide +kernel
theorem dX2_shift_13 : decode cX2_shift 13 = .ok (.getfield 15, 3) := by decide +kernel
theorem dX2_shift_16 : decode cX2_shift 16 = .ok (.iload_n 2, 1) := by decide +kernel
theorem dX2_shift_17 : decode cX2_shift 17 = .ok (.aload_n 0, 1) := by decide +kernel
theorem dX2_shift_18 : decode cX2_shift 18 = .ok (.getfield 15, 3) := by decide +kernel
theorem dX2_shift_21 : decode cX2_shift 21 = .ok (.iload_n 1, 1) := by decide +kernel
theorem dX2_shift_22 : decode cX2_shift 22 = .ok (.iaload, 1) := by decide +kernel
theorem dX2_shift_23 : decode cX2_shift 23 = .ok (.iastore, 1) := by decide +kernel
theorem dX2_shift_24 : decode cX2_shift 24 = .ok (.aload_n 0, 1) := by decide +kernel
theorem dX2_shift_25 : decode cX2_shift 25 = .ok (.getfield 18, 3) := by decide +kernel
theorem dX2_shift_28 : decode cX2_shift 28 = .ok (.iload_n 2, 1) := by decide +kernel
theorem dX2_shift_29 : decode cX2_shift 29 = .ok (.aload_n 0, 1) := by decide +kernel
theorem dX2_shift_30 : decode cX2_shift 30 = .ok (.getfield 18, 3) := by decide +kernel
theorem dX2_shift_33 : decode cX2_shift 33 = .ok (.iload_n 1, 1) := by decide +kernel
theorem dX2_shift_34 : decode cX2_shift 34 = .ok (.iaload, 1) := by decide +kernel
theorem dX2_shift_35 : decode cX2_shift 35 = .ok (.iastore, 1) := by decide +kernel
theorem dX2_shift_36 : decode cX2_shift 36 = .ok (.aload_n 0, 1) := by decide +kernel
theorem dX2_shift_37 : decode cX2_shift 37 = .ok (.getfield 21, 3) := by decide +kernel
theorem dX2_shift_40 : decode cX2_shift 40 = .ok (.iload_n 2, 1) := by decide +kernel
theorem dX2_shift_41 : decode cX2_shift 41 = .ok (.aload_n 0, 1) := by decide +kernel
theorem dX2_shift_42 : decode cX2_shift 42 = .ok (.getfield 21, 3) := by decide +kernel
theorem dX2_shift_45 : decode cX2_shift 45 = .ok (.iload_n 1, 1) := by decide +kernel
theorem dX2_shift_46 : decode cX2_shift 46 = .ok (.iaload, 1) := by decide +kernel
theorem dX2_shift_47 : decode cX2_shift 47 = .ok (.iastore, 1) := by decide +kernel
theorem dX2_shift_48 : decode cX2_shift 48 = .ok (.aload_n 0, 1) := by decide +kernel
theorem dX2_shift_49 : decode cX2_shift 49 = .ok (.getfield 24, 3) := by decide +kernel
theorem dX2_shift_52 : decode cX2_shift 52 = .ok (.iload_n 2, 1) := by decide +kernel
theorem dX2_shift_53 : decode cX2_shift 53 = .ok (.aload_n 0, 1) := by decide +kernel
theorem dX2_shift_54 : decode cX2_shift 54 = .ok (.getfield 24, 3) := by decide +kernel
theorem dX2_shift_57 : decode cX2_shift 57 = .ok (.iload_n 1, 1) := by decide +kernel
theorem dX2_shift_58 : decode cX2_shift 58 = .ok (.iaload, 1) := by decide +kernel
theorem dX2_shift_59 : decode cX2_shift 59 = .ok (.iastore, 1) := by decide +kernel
theorem dX2_shift_60 : decode cX2_shift 60 = .ok (.return_, 1) := by decide +kernel
theorem dX2_holds_0 : decode cX2_holds 0 = .ok (.aload_n 0, 1) := by decide +kernel
theorem dX2_holds_1 : decode cX2_holds 1 = .ok (.getfield 24, 3) := by decide +kernel
theorem dX2_holds_4 : decode cX2_holds 4 = .ok (.iload_n 1, 1) := by decide +kernel
theorem dX2_holds_5 : decode cX2_holds 5 = .ok (.iaload, 1) := by decide +kernel
theorem dX2_holds_6 : decode cX2_holds 6 = .ok (.iconst 1, 1) := by decide +kernel
theorem dX2_holds_7 : decode cX2_holds 7 = .ok (.if_icmp .ne 13, 3) := by decide +kernel
theorem dX2_holds_10 : decode cX2_holds 10 = .ok (.iload_n 2, 1) := by decide +kernel
theorem dX2_holds_11 : decode cX2_holds 11 = .ok (.ifCond .ne 7, 3) := by decide +kernel
theorem dX2_holds_14 : decode cX2_holds 14 = .ok (.iconst 1, 1) := by decide +kernel
theorem dX2_holds_15 : decode cX2_holds 15 = .ok (.goto 4, 3) := by decide +kernel
theorem dX2_holds_18 : decode cX2_holds 18 = .ok (.iconst 0, 1) := by decide +kernel
theorem dX2_holds_19 : decode cX2_holds 19 = .ok (.ireturn, 1) := by decide +kernel
theorem dX2_holds_20 : decode cX2_holds 20 = .ok (.aload_n 0, 1) := by decide +kernel
theorem dX2_holds_21 : decode cX2_holds 21 = .ok (.getfield 24, 3) := by decide +kernel
theorem dX2_holds_24 : decode cX2_holds 24 = .ok (.iload_n 1, 1) := by decide +kernel
theorem dX2_holds_25 : decode cX2_holds 25 = .ok (.iaload, 1) := by decide +kernel
theorem dX2_holds_26 : decode cX2_holds 26 = .ok (.ifCond .eq 7, 3) := by decide +kernel
theorem dX2_holds_29 : decode cX2_holds 29 = .ok (.iload_n 2, 1) := by decide +kernel
theorem dX2_holds_30 : decode cX2_holds 30 = .ok (.ifCond .eq 7, 3) := by decide +kernel
theorem dX2_holds_33 : decode cX2_holds 33 = .ok (.iconst 1, 1) := by decide +kernel
theorem dX2_holds_34 : decode cX2_holds 34 = .ok (.goto 4, 3) := by decide +kernel
theorem dX2_holds_37 : decode cX2_holds 37 = .ok (.iconst 0, 1) := by decide +kernel
theorem dX2_holds_38 : decode cX2_holds 38 = .ok (.ireturn, 1) := by decide +kernel
theorem dX2_isDriven_0 : decode cX2_isDriven 0 = .ok (.iconst 0, 1) := by decide +kernel
theorem dX2_isDriven_1 : decode cX2_isDriven 1 = .ok (.istore 5, 2) := by decide +kernel
theorem dX2_isDriven_3 : decode cX2_isDriven 3 = .ok (.iload 5, 2) := by decide +kernel
theorem dX2_isDriven_5 : decode cX2_isDriven 5 = .ok (.aload_n 0, 1) := by decide +kernel
theorem dX2_isDriven_6 : decode cX2_isDriven 6 = .ok (.getfield 31, 3) := by decide +kernel
theorem dX2_isDriven_9 : decode cX2_isDriven 9 = .ok (.if_icmp .ge 44, 3) := by decide +kernel
theorem dX2_isDriven_12 : decode cX2_isDriven 12 = .ok (.aload_n 0, 1) := by decide +kernel
theorem dX2_isDriven_13 : decode cX2_isDriven 13 = .ok (.getfield 15, 3) := by decide +kernel
theorem dX2_isDriven_16 : decode cX2_isDriven 16 = .ok (.iload 5, 2) := by decide +kernel
theorem dX2_isDriven_18 : decode cX2_isDriven 18 = .ok (.iaload, 1) := by decide +kernel
theorem dX2_isDriven_19 : decode cX2_isDriven 19 = .ok (.iload_n 1, 1) := by decide +kernel
theorem dX2_isDriven_20 : decode cX2_isDriven 20 = .ok (.if_icmp .ne 27, 3) := by decide +kernel
theorem dX2_isDriven_23 : decode cX2_isDriven 23 = .ok (.aload_n 0, 1) := by decide +kernel
theorem dX2_isDriven_24 : decode cX2_isDriven 24 = .ok (.iload 5, 2) := by decide +kernel
theorem dX2_isDriven_26 : decode cX2_isDriven 26 = .ok (.iload 4, 2) := by decide +kernel
theorem dX2_isDriven_28 : decode cX2_isDriven 28 = .ok (.invokevirtual 43, 3) := by decide +kernel
theorem dX2_isDriven_31 : decode cX2_isDriven 31 = .ok (.ifCond .eq 16, 3) := by decide +kernel
theorem dX2_isDriven_34 : decode cX2_isDriven 34 = .ok (.aload_n 0, 1) := by decide +kernel
theorem dX2_isDriven_35 : decode cX2_isDriven 35 = .ok (.iload 5, 2) := by decide +kernel
theorem dX2_isDriven_37 : decode cX2_isDriven 37 = .ok (.iload_n 2, 1) := by decide +kernel
theorem dX2_isDriven_38 : decode cX2_isDriven 38 = .ok (.iload_n 3, 1) := by decide +kernel
theorem dX2_isDriven_39 : decode cX2_isDriven 39 = .ok (.invokevirtual 47, 3) := by decide +kernel
theorem dX2_isDriven_42 : decode cX2_isDriven 42 = .ok (.ifCond .eq 5, 3) := by decide +kernel
theorem dX2_isDriven_45 : decode cX2_isDriven 45 = .ok (.iconst 1, 1) := by decide +kernel
theorem dX2_isDriven_46 : decode cX2_isDriven 46 = .ok (.ireturn, 1) := by decide +kernel
theorem dX2_isDriven_47 : decode cX2_isDriven 47 = .ok (.iinc 5 1, 3) := by decide +kernel
theorem dX2_isDriven_50 : decode cX2_isDriven 50 = .ok (.goto (-47), 3) := by decide +kernel
theorem dX2_isDriven_53 : decode cX2_isDriven 53 = .ok (.iconst 0, 1) := by decide +kernel
theorem dX2_isDriven_54 : decode cX2_isDriven 54 = .ok (.ireturn, 1) := by decide +kernel
theorem dX2_isFrom_0 : decode cX2_isFrom 0 = .ok (.aload_n 0, 1) := by decide +kernel
theorem dX2_isFrom_1 : decode cX2_isFrom 1 = .ok (.getfield 9, 3) := by decide +kernel
theorem dX2_isFrom_4 : decode cX2_isFrom 4 = .ok (.iload_n 1, 1) := by decide +kernel
theorem dX2_isFrom_5 : decode cX2_isFrom 5 = .ok (.iaload, 1) := by decide +kernel
theorem dX2_isFrom_6 : decode cX2_isFrom 6 = .ok (.iconst 4, 1) := by decide +kernel
theorem dX2_isFrom_7 : decode cX2_isFrom 7 = .ok (.if_icmp .ge 19, 3) := by decide +kernel
theorem dX2_isFrom_10 : decode cX2_isFrom 10 = .ok (.aload_n 0, 1) := by decide +kernel
theorem dX2_isFrom_11 : decode cX2_isFrom 11 = .ok (.getfield 9, 3) := by decide +kernel
theorem dX2_isFrom_14 : decode cX2_isFrom 14 = .ok (.iload_n 1, 1) := by decide +kernel
theorem dX2_isFrom_15 : decode cX2_isFrom 15 = .ok (.iaload, 1) := by decide +kernel
theorem dX2_isFrom_16 : decode cX2_isFrom 16 = .ok (.iload_n 2, 1) := by decide +kernel
theorem dX2_isFrom_17 : decode cX2_isFrom 17 = .ok (.if_icmp .ne 7, 3) := by decide +kernel
theorem dX2_isFrom_20 : decode cX2_isFrom 20 = .ok (.iconst 1, 1) := by decide +kernel
theorem dX2_isFrom_21 : decode cX2_isFrom 21 = .ok (.goto 4, 3) := by decide +kernel
theorem dX2_isFrom_24 : decode cX2_isFrom 24 = .ok (.iconst 0, 1) := by decide +kernel
theorem dX2_isFrom_25 : decode cX2_isFrom 25 = .ok (.ireturn, 1) := by decide +kernel
theorem dX2_isFrom_26 : decode cX2_isFrom 26 = .ok (.iload_n 3, 1) := by decide +kernel
theorem dX2_isFrom_27 : decode cX2_isFrom 27 = .ok (.aload_n 0, 1) := by decide +kernel
theorem dX2_isFrom_28 : decode cX2_isFrom 28 = .ok (.getfield 9, 3) := by decide +kernel
theorem dX2_isFrom_31 : decode cX2_isFrom 31 = .ok (.iload_n 1, 1) := by decide +kernel
theorem dX2_isFrom_32 : decode cX2_isFrom 32 = .ok (.iaload, 1) := by decide +kernel
theorem dX2_isFrom_33 : decode cX2_isFrom 33 = .ok (.iconst 4, 1) := by decide +kernel
theorem dX2_isFrom_34 : decode cX2_isFrom 34 = .ok (.isub, 1) := by decide +kernel
theorem dX2_isFrom_35 : decode cX2_isFrom 35 = .ok (.ishr, 1) := by decide +kernel
theorem dX2_isFrom_36 : decode cX2_isFrom 36 = .ok (.iconst 1, 1) := by decide +kernel
theorem dX2_isFrom_37 : decode cX2_isFrom 37 = .ok (.iand, 1) := by decide +kernel
theorem dX2_isFrom_38 : decode cX2_isFrom 38 = .ok (.iconst 1, 1) := by decide +kernel
theorem dX2_isFrom_39 : decode cX2_isFrom 39 = .ok (.if_icmp .ne 7, 3) := by decide +kernel
theorem dX2_isFrom_42 : decode cX2_isFrom 42 = .ok (.iconst 1, 1) := by decide +kernel
theorem dX2_isFrom_43 : decode cX2_isFrom 43 = .ok (.goto 4, 3) := by decide +kernel
theorem dX2_isFrom_46 : decode cX2_isFrom 46 = .ok (.iconst 0, 1) := by decide +kernel
theorem dX2_isFrom_47 : decode cX2_isFrom 47 = .ok (.ireturn, 1) := by decide +kernel
theorem dX3_init_0 : decode cX3_init 0 = .ok (.aload_n 0, 1) := by decide +kernel
theorem dX3_init_1 : decode cX3_init 1 = .ok (.invokespecial 3, 3) := by decide +kernel
theorem dX3_init_4 : decode cX3_init 4 = .ok (.aload_n 0, 1) := by decide +kernel
theorem dX3_init_5 : decode cX3_init 5 = .ok (.bipush 6, 2) := by decide +kernel
theorem dX3_init_7 : decode cX3_init 7 = .ok (.newarray .int, 2) := by decide +kernel
theorem dX3_init_9 : decode cX3_init 9 = .ok (.putfield 9, 3) := by decide +kernel
theorem dX3_init_12 : decode cX3_init 12 = .ok (.aload_n 0, 1) := by decide +kernel
theorem dX3_init_13 : decode cX3_init 13 = .ok (.bipush 6, 2) := by decide +kernel
theorem dX3_init_15 : decode cX3_init 15 = .ok (.newarray .int, 2) := by decide +kernel
theorem dX3_init_17 : decode cX3_init 17 = .ok (.putfield 15, 3) := by decide +kernel
theorem dX3_init_20 : decode cX3_init 20 = .ok (.aload_n 0, 1) := by decide +kernel
theorem dX3_init_21 : decode cX3_init 21 = .ok (.bipush 6, 2) := by decide +kernel
theorem dX3_init_23 : decode cX3_init 23 = .ok (.newarray .int, 2) := by decide +kernel
theorem dX3_init_25 : decode cX3_init 25 = .ok (.putfield 18, 3) := by decide +kernel
theorem dX3_init_28 : decode cX3_init 28 = .ok (.aload_n 0, 1) := by decide +kernel
theorem dX3_init_29 : decode cX3_init 29 = .ok (.bipush 6, 2) := by decide +kernel
theorem dX3_init_31 : decode cX3_init 31 = .ok (.newarray .int, 2) := by decide +kernel
theorem dX3_init_33 : decode cX3_init 33 = .ok (.putfield 21, 3) := by decide +kernel
theorem dX3_init_36 : decode cX3_init 36 = .ok (.aload_n 0, 1) := by decide +kernel
theorem dX3_init_37 : decode cX3_init 37 = .ok (.bipush 6, 2) := by decide +kernel
theorem dX3_init_39 : decode cX3_init 39 = .ok (.newarray .int, 2) := by decide +kernel
theorem dX3_init_41 : decode cX3_init 41 = .ok (.putfield 24, 3) := by decide +kernel
theorem dX3_init_44 : decode cX3_init 44 = .ok (.aload_n 0, 1) := by decide +kernel
theorem dX3_init_45 : decode cX3_init 45 = .ok (.bipush 6, 2) := by decide +kernel
theorem dX3_init_47 : decode cX3_init 47 = .ok (.newarray .int, 2) := by decide +kernel
theorem dX3_init_49 : decode cX3_init 49 = .ok (.putfield 27, 3) := by decide +kernel
theorem dX3_init_52 : decode cX3_init 52 = .ok (.aload_n 0, 1) := by decide +kernel
theorem dX3_init_53 : decode cX3_init 53 = .ok (.bipush 6, 2) := by decide +kernel
theorem dX3_init_55 : decode cX3_init 55 = .ok (.newarray .int, 2) := by decide +kernel
theorem dX3_init_57 : decode cX3_init 57 = .ok (.putfield 30, 3) := by decide +kernel
theorem dX3_init_60 : decode cX3_init 60 = .ok (.aload_n 0, 1) := by decide +kernel
theorem dX3_init_61 : decode cX3_init 61 = .ok (.bipush 6, 2) := by decide +kernel
theorem dX3_init_63 : decode cX3_init 63 = .ok (.newarray .int, 2) := by decide +kernel
theorem dX3_init_65 : decode cX3_init 65 = .ok (.putfield 33, 3) := by decide +kernel
theorem dX3_init_68 : decode cX3_init 68 = .ok (.aload_n 0, 1) := by decide +kernel
theorem dX3_init_69 : decode cX3_init 69 = .ok (.bipush 6, 2) := by decide +kernel
theorem dX3_init_71 : decode cX3_init 71 = .ok (.newarray .int, 2) := by decide +kernel
theorem dX3_init_73 : decode cX3_init 73 = .ok (.putfield 36, 3) := by decide +kernel
theorem dX3_init_76 : decode cX3_init 76 = .ok (.aload_n 0, 1) := by decide +kernel
theorem dX3_init_77 : decode cX3_init 77 = .ok (.bipush 6, 2) := by decide +kernel
theorem dX3_init_79 : decode cX3_init 79 = .ok (.newarray .int, 2) := by decide +kernel
theorem dX3_init_81 : decode cX3_init 81 = .ok (.putfield 39, 3) := by decide +kernel
theorem dX3_init_84 : decode cX3_init 84 = .ok (.aload_n 0, 1) := by decide +kernel
theorem dX3_init_85 : decode cX3_init 85 = .ok (.getfield 9, 3) := by decide +kernel
theorem dX3_init_88 : decode cX3_init 88 = .ok (.iconst 1, 1) := by decide +kernel
theorem dX3_init_89 : decode cX3_init 89 = .ok (.invokestatic 42, 3) := by decide +kernel
theorem dX3_init_92 : decode cX3_init 92 = .ok (.aload_n 0, 1) := by decide +kernel
theorem dX3_init_93 : decode cX3_init 93 = .ok (.getfield 18, 3) := by decide +kernel
theorem dX3_init_96 : decode cX3_init 96 = .ok (.bipush (-100), 2) := by decide +kernel
theorem dX3_init_98 : decode cX3_init 98 = .ok (.invokestatic 42, 3) := by decide +kernel
theorem dX3_init_101 : decode cX3_init 101 = .ok (.aload_n 0, 1) := by decide +kernel
theorem dX3_init_102 : decode cX3_init 102 = .ok (.getfield 21, 3) := by decide +kernel
theorem dX3_init_105 : decode cX3_init 105 = .ok (.bipush 100, 2) := by decide +kernel
theorem dX3_init_107 : decode cX3_init 107 = .ok (.invokestatic 42, 3) := by decide +kernel
theorem dX3_init_110 : decode cX3_init 110 = .ok (.aload_n 0, 1) := by decide +kernel
theorem dX3_init_111 : decode cX3_init 111 = .ok (.getfield 24, 3) := by decide +kernel
theorem dX3_init_114 : decode cX3_init 114 = .ok (.sipush 300, 3) := by decide +kernel
theorem dX3_init_117 : decode cX3_init 117 = .ok (.invokestatic 42, 3) := by decide +kernel
theorem dX3_init_120 : decode cX3_init 120 = .ok (.return_, 1) := by decide +kernel
theorem dX3_copyFrom_0 : decode cX3_copyFrom 0 = .ok (.aload_n 1, 1) := by decide +kernel
theorem dX3_copyFrom_1 : decode cX3_copyFrom 1 = .ok (.getfield 9, 3) := by decide +kernel
theorem dX3_copyFrom_4 : decode cX3_copyFrom 4 = .ok (.aload_n 0, 1) := by decide +kernel
theorem dX3_copyFrom_5 : decode cX3_copyFrom 5 = .ok (.getfield 9, 3) := by decide +kernel
theorem dX3_copyFrom_8 : decode cX3_copyFrom 8 = .ok (.invokestatic 46, 3) := by decide +kernel
theorem dX3_copyFrom_11 : decode cX3_copyFrom 11 = .ok (.aload_n 1, 1) := by decide +kernel
theorem dX3_copyFrom_12 : decode cX3_copyFrom 12 = .ok (.getfield 15, 3) := by decide +kernel
theorem dX3_copyFrom_15 : decode cX3_copyFrom 15 = .ok (.aload_n 0, 1) := by decide +kernel
theorem dX3_copyFrom_16 : decode cX3_copyFrom 16 = .ok (.getfield 15, 3) := by decide +kernel
theorem dX3_copyFrom_19 : decode cX3_copyFrom 19 = .ok (.invokestatic 46, 3) := by decide +kernel
theorem dX3_copyFrom_22 : decode cX3_copyFrom 22 = .ok (.aload_n 1, 1) := by decide +kernel
theorem dX3_copyFrom_23 : decode cX3_copyFrom 23 = .ok (.getfield 18, 3) := by decide +kernel
theorem dX3_copyFrom_26 : decode cX3_copyFrom 26 = .ok (.aload_n 0, 1) := by decide +kernel
theorem dX3_copyFrom_27 : decode cX3_copyFrom 27 = .ok (.getfield 18, 3) := by decide +kernel
theorem dX3_copyFrom_30 : decode cX3_copyFrom 30 = .ok (.invokestatic 46, 3) := by decide +kernel
theorem dX3_copyFrom_33 : decode cX3_copyFrom 33 = .ok (.aload_n 1, 1) := by decide +kernel
theorem dX3_copyFrom_34 : decode cX3_copyFrom 34 = .ok (.getfield 21, 3) := by decide +kernel
theorem dX3_copyFrom_37 : decode cX3_copyFrom 37 = .ok (.aload_n 0, 1) := by decide +kernel
theorem dX3_copyFrom_38 : decode cX3_copyFrom 38 = .ok (.getfield 21, 3) := by decide +kernel
theorem dX3_copyFrom_41 : decode cX3_copyFrom 41 = .ok (.invokestatic 46, 3) := by decide +kernel
theorem dX3_copyFrom_44 : decode cX3_copyFrom 44 = .ok (.aload_n 1, 1) := by decide +kernel
theorem dX3_copyFrom_45 : decode cX3_copyFrom 45 = .ok (.getfield 24, 3) := by decide +kernel
theorem dX3_copyFrom_48 : decode cX3_copyFrom 48 = .ok (.aload_n 0, 1) := by decide +kernel
theorem dX3_copyFrom_49 : decode cX3_copyFrom 49 = .ok (.getfield 24, 3) := by decide +kernel
theorem dX3_copyFrom_52 : decode cX3_copyFrom 52 = .ok (.invokestatic 46, 3) := by decide +kernel
theorem dX3_copyFrom_55 : decode cX3_copyFrom 55 = .ok (.aload_n 1, 1) := by decide +kernel
theorem dX3_copyFrom_56 : decode cX3_copyFrom 56 = .ok (.getfield 27, 3) := by decide +kernel
theorem dX3_copyFrom_59 : decode cX3_copyFrom 59 = .ok (.aload_n 0, 1) := by decide +kernel
theorem dX3_copyFrom_60 : decode cX3_copyFrom 60 = .ok (.getfield 27, 3) := by decide +kernel
theorem dX3_copyFrom_63 : decode cX3_copyFrom 63 = .ok (.invokestatic 46, 3) := by decide +kernel
theorem dX3_copyFrom_66 : decode cX3_copyFrom 66 = .ok (.aload_n 1, 1) := by decide +kernel
theorem dX3_copyFrom_67 : decode cX3_copyFrom 67 = .ok (.getfield 30, 3) := by decide +kernel
theorem dX3_copyFrom_70 : decode cX3_copyFrom 70 = .ok (.aload_n 0, 1) := by decide +kernel
theorem dX3_copyFrom_71 : decode cX3_copyFrom 71 = .ok (.getfield 30, 3) := by decide +kernel
theorem dX3_copyFrom_74 : decode cX3_copyFrom 74 = .ok (.invokestatic 46, 3) := by decide +kernel
theorem dX3_copyFrom_77 : decode cX3_copyFrom 77 = .ok (.aload_n 1, 1) := by decide +kernel
theorem dX3_copyFrom_78 : decode cX3_copyFrom 78 = .ok (.getfield 33, 3) := by decide +kernel
theorem dX3_copyFrom_81 : decode cX3_copyFrom 81 = .ok (.aload_n 0, 1) := by decide +kernel
theorem dX3_copyFrom_82 : decode cX3_copyFrom 82 = .ok (.getfield 33, 3) := by decide +kernel
theorem dX3_copyFrom_85 : decode cX3_copyFrom 85 = .ok (.invokestatic 46, 3) := by decide +kernel
theorem dX3_copyFrom_88 : decode cX3_copyFrom 88 = .ok (.aload_n 1, 1) := by decide +kernel
theorem dX3_copyFrom_89 : decode cX3_copyFrom 89 = .ok (.getfield 36, 3) := by decide +kernel
theorem dX3_copyFrom_92 : decode cX3_copyFrom 92 = .ok (.aload_n 0, 1) := by decide +kernel
theorem dX3_copyFrom_93 : decode cX3_copyFrom 93 = .ok (.getfield 36, 3) := by decide +kernel
theorem dX3_copyFrom_96 : decode cX3_copyFrom 96 = .ok (.invokestatic 46, 3) := by decide +kernel
theorem dX3_copyFrom_99 : decode cX3_copyFrom 99 = .ok (.aload_n 1, 1) := by decide +kernel
theorem dX3_copyFrom_100 : decode cX3_copyFrom 100 = .ok (.getfield 39, 3) := by decide +kernel
theorem dX3_copyFrom_103 : decode cX3_copyFrom 103 = .ok (.aload_n 0, 1) := by decide +kernel
theorem dX3_copyFrom_104 : decode cX3_copyFrom 104 = .ok (.getfield 39, 3) := by decide +kernel
theorem dX3_copyFrom_107 : decode cX3_copyFrom 107 = .ok (.invokestatic 46, 3) := by decide +kernel
theorem dX3_copyFrom_110 : decode cX3_copyFrom 110 = .ok (.return_, 1) := by decide +kernel
theorem dX3_limited_0 : decode cX3_limited 0 = .ok (.iload_n 2, 1) := by decide +kernel
theorem dX3_limited_1 : decode cX3_limited 1 = .ok (.aload_n 0, 1) := by decide +kernel
theorem dX3_limited_2 : decode cX3_limited 2 = .ok (.getfield 18, 3) := by decide +kernel
theorem dX3_limited_5 : decode cX3_limited 5 = .ok (.iload_n 1, 1) := by decide +kernel
theorem dX3_limited_6 : decode cX3_limited 6 = .ok (.iaload, 1) := by decide +kernel
theorem dX3_limited_7 : decode cX3_limited 7 = .ok (.invokestatic 50, 3) := by decide +kernel
theorem dX3_limited_10 : decode cX3_limited 10 = .ok (.aload_n 0, 1) := by decide +kernel
theorem dX3_limited_11 : decode cX3_limited 11 = .ok (.getfield 21, 3) := by decide +kernel
theorem dX3_limited_14 : decode cX3_limited 14 = .ok (.iload_n 1, 1) := by decide +kernel
theorem dX3_limited_15 : decode cX3_limited 15 = .ok (.iaload, 1) := by decide +kernel
theorem dX3_limited_16 : decode cX3_limited 16 = .ok (.invokestatic 56, 3) := by decide +kernel
theorem dX3_limited_19 : decode cX3_limited 19 = .ok (.ireturn, 1) := by decide +kernel
theorem dX3_targetPresets_0 : decode cX3_targetPresets 0 = .ok (.iconst 0, 1) := by decide +kernel
theorem dX3_targetPresets_1 : decode cX3_targetPresets 1 = .ok (.istore_n 1, 1) := by decide +kernel
theorem dX3_targetPresets_2 : decode cX3_targetPresets 2 = .ok (.iload_n 1, 1) := by decide +kernel
theorem dX3_targetPresets_3 : decode cX3_targetPresets 3 = .ok (.bipush 6, 2) := by decide +kernel
theorem dX3_targetPresets_5 : decode cX3_targetPresets 5 = .ok (.if_icmp .ge 36, 3) := by decide +kernel
theorem dX3_targetPresets_8 : decode cX3_targetPresets 8 = .ok (.aload_n 0, 1) := by decide +kernel
theorem dX3_targetPresets_9 : decode cX3_targetPresets 9 = .ok (.getfield 27, 3) := by decide +kernel
theorem dX3_targetPresets_12 : decode cX3_targetPresets 12 = .ok (.iload_n 1, 1) := by decide +kernel
theorem dX3_targetPresets_13 : decode cX3_targetPresets 13 = .ok (.iaload, 1) := by decide +kernel
theorem dX3_targetPresets_14 : decode cX3_targetPresets 14 = .ok (.iconst 1, 1) := by decide +kernel
theorem dX3_targetPresets_15 : decode cX3_targetPresets 15 = .ok (.if_icmp .ne 20, 3) := by decide +kernel
theorem dX3_targetPresets_18 : decode cX3_targetPresets 18 = .ok (.aload_n 0, 1) := by decide +kernel
theorem dX3_targetPresets_19 : decode cX3_targetPresets 19 = .ok (.getfield 33, 3) := by decide +kernel
theorem dX3_targetPresets_22 : decode cX3_targetPresets 22 = .ok (.iload_n 1, 1) := by decide +kernel
theorem dX3_targetPresets_23 : decode cX3_targetPresets 23 = .ok (.aload_n 0, 1) := by decide +kernel
theorem dX3_targetPresets_24 : decode cX3_targetPresets 24 = .ok (.iload_n 1, 1) := by decide +kernel
theorem dX3_targetPresets_25 : decode cX3_targetPresets 25 = .ok (.aload_n 0, 1) := by decide +kernel
theorem dX3_targetPresets_26 : decode cX3_targetPresets 26 = .ok (.getfield 30, 3) := by decide +kernel
theorem dX3_targetPresets_29 : decode cX3_targetPresets 29 = .ok (.iload_n 1, 1) := by decide +kernel
theorem dX3_targetPresets_30 : decode cX3_targetPresets 30 = .ok (.iaload, 1) := by decide +kernel
theorem dX3_targetPresets_31 : decode cX3_targetPresets 31 = .ok (.invokevirtual 59, 3) := by decide +kernel
theorem dX3_targetPresets_34 : decode cX3_targetPresets 34 = .ok (.iastore, 1) := by decide +kernel
theorem dX3_targetPresets_35 : decode cX3_targetPresets 35 = .ok (.iinc 1 1, 3) := by decide +kernel
theorem dX3_targetPresets_38 : decode cX3_targetPresets 38 = .ok (.goto (-36), 3) := by decide +kernel
theorem dX3_targetPresets_41 : decode cX3_targetPresets 41 = .ok (.return_, 1) := by decide +kernel
theorem dX3_advance_0 : decode cX3_advance 0 = .ok (.aload_n 0, 1) := by decide +kernel
theorem dX3_advance_1 : decode cX3_advance 1 = .ok (.getfield 33, 3) := by decide +kernel
theorem dX3_advance_4 : decode cX3_advance 4 = .ok (.iload_n 1, 1) := by decide +kernel
theorem dX3_advance_5 : decode cX3_advance 5 = .ok (.iaload, 1) := by decide +kernel
theorem dX3_advance_6 : decode cX3_advance 6 = .ok (.aload_n 0, 1) := by decide +kernel
theorem dX3_advance_7 : decode cX3_advance 7 = .ok (.getfield 36, 3) := by decide +kernel
theorem dX3_advance_10 : decode cX3_advance 10 = .ok (.iload_n 1, 1) := by decide +kernel
theorem dX3_advance_11 : decode cX3_advance 11 = .ok (.iaload, 1) := by decide +kernel
theorem dX3_advance_12 : decode cX3_advance 12 = .ok (.isub, 1) := by decide +kernel
theorem dX3_advance_13 : decode cX3_advance 13 = .ok (.istore_n 3, 1) := by decide +kernel
theorem dX3_advance_14 : decode cX3_advance 14 = .ok (.iload_n 3, 1) := by decide +kernel
theorem dX3_advance_15 : decode cX3_advance 15 = .ok (.invokestatic 62, 3) := by decide +kernel
theorem dX3_advance_18 : decode cX3_advance 18 = .ok (.aload_n 0, 1) := by decide +kernel
theorem dX3_advance_19 : decode cX3_advance 19 = .ok (.getfield 24, 3) := by decide +kernel
theorem dX3_advance_22 : decode cX3_advance 22 = .ok (.iload_n 1, 1) := by decide +kernel
theorem dX3_advance_23 : decode cX3_advance 23 = .ok (.iaload, 1) := by decide +kernel
theorem dX3_advance_24 : decode cX3_advance 24 = .ok (.invokestatic 56, 3) := by decide +kernel
theorem dX3_advance_27 : decode cX3_advance 27 = .ok (.iload_n 2, 1) := by decide +kernel
theorem dX3_advance_28 : decode cX3_advance 28 = .ok (.invokestatic 56, 3) := by decide +kernel
theorem dX3_advance_31 : decode cX3_advance 31 = .ok (.istore 4, 2) := by decide +kernel
theorem dX3_advance_33 : decode cX3_advance 33 = .ok (.aload_n 0, 1) := by decide +kernel
theorem dX3_advance_34 : decode cX3_advance 34 = .ok (.getfield 36, 3) := by decide +kernel
theorem dX3_advance_37 : decode cX3_advance 37 = .ok (.iload_n 1, 1) := by decide +kernel
theorem dX3_advance_38 : decode cX3_advance 38 = .ok (.dup2, 1) := by decide +kernel
theorem dX3_advance_39 : decode cX3_advance 39 = .ok (.iaload, 1) := by decide +kernel
theorem dX3_advance_40 : decode cX3_advance 40 = .ok (.iload_n 3, 1) := by decide +kernel
theorem dX3_advance_41 : decode cX3_advance 41 = .ok (.ifCond .ge 9, 3) := by decide +kernel
theorem dX3_advance_44 : decode cX3_advance 44 = .ok (.iload 4, 2) := by decide +kernel
theorem dX3_advance_46 : decode cX3_advance 46 = .ok (.ineg, 1) := by decide +kernel
theorem dX3_advance_47 : decode cX3_advance 47 = .ok (.goto 5, 3) := by decide +kernel
theorem dX3_advance_50 : decode cX3_advance 50 = .ok (.iload 4, 2) := by decide +kernel
theorem dX3_advance_52 : decode cX3_advance 52 = .ok (.iadd, 1) := by decide +kernel
theorem dX3_advance_53 : decode cX3_advance 53 = .ok (.iastore, 1) := by decide +kernel
theorem dX3_advance_54 : decode cX3_advance 54 = .ok (.aload_n 0, 1) := by decide +kernel
theorem dX3_advance_55 : decode cX3_advance 55 = .ok (.getfield 39, 3) := by decide +kernel
theorem dX3_advance_58 : decode cX3_advance 58 = .ok (.iload_n 1, 1) := by decide +kernel
theorem dX3_advance_59 : decode cX3_advance 59 = .ok (.dup2, 1) := by decide +kernel
theorem dX3_advance_60 : decode cX3_advance 60 = .ok (.iaload, 1) := by decide +kernel
theorem dX3_advance_61 : decode cX3_advance 61 = .ok (.iload 4, 2) := by decide +kernel
theorem dX3_advance_63 : decode cX3_advance 63 = .ok (.iadd, 1) := by decide +kernel
theorem dX3_advance_64 : decode cX3_advance 64 = .ok (.iastore, 1) := by decide +kernel
theorem dX3_advance_65 : decode cX3_advance 65 = .ok (.iload 4, 2) := by decide +kernel
theorem dX3_advance_67 : decode cX3_advance 67 = .ok (.ireturn, 1) := by decide +kernel
theorem dX4_init_0 : decode cX4_init 0 = .ok (.aload_n 0, 1) := by decide +kernel
theorem dX4_init_1 : decode cX4_init 1 = .ok (.invokespecial 3, 3) := by decide +kernel
theorem dX4_init_4 : decode cX4_init 4 = .ok (.aload_n 0, 1) := by decide +kernel
theorem dX4_init_5 : decode cX4_init 5 = .ok (.new 9, 3) := by decide +kernel
theorem dX4_init_8 : decode cX4_init 8 = .ok (.dup, 1) := by decide +kernel
theorem dX4_init_9 : decode cX4_init 9 = .ok (.invokespecial 11, 3) := by decide +kernel
theorem dX4_init_12 : decode cX4_init 12 = .ok (.putfield 12, 3) := by decide +kernel
theorem dX4_init_15 : decode cX4_init 15 = .ok (.aload_n 0, 1) := by decide +kernel
theorem dX4_init_16 : decode cX4_init 16 = .ok (.new 18, 3) := by decide +kernel
theorem dX4_init_19 : decode cX4_init 19 = .ok (.dup, 1) := by decide +kernel
theorem dX4_init_20 : decode cX4_init 20 = .ok (.invokespecial 20, 3) := by decide +kernel
theorem dX4_init_23 : decode cX4_init 23 = .ok (.putfield 21, 3) := by decide +kernel
theorem dX4_init_26 : decode cX4_init 26 = .ok (.aload_n 0, 1) := by decide +kernel
theorem dX4_init_27 : decode cX4_init 27 = .ok (.new 25, 3) := by decide +kernel
theorem dX4_init_30 : decode cX4_init 30 = .ok (.dup, 1) := by decide +kernel
theorem dX4_init_31 : decode cX4_init 31 = .ok (.invokespecial 27, 3) := by decide +kernel
theorem dX4_init_34 : decode cX4_init 34 = .ok (.putfield 28, 3) := by decide +kernel
theorem dX4_init_37 : decode cX4_init 37 = .ok (.aload_n 0, 1) := by decide +kernel
theorem dX4_init_38 : decode cX4_init 38 = .ok (.new 32, 3) := by decide +kernel
theorem dX4_init_41 : decode cX4_init 41 = .ok (.dup, 1) := by decide +kernel
theorem dX4_init_42 : decode cX4_init 42 = .ok (.invokespecial 34, 3) := by decide +kernel
theorem dX4_init_45 : decode cX4_init 45 = .ok (.putfield 35, 3) := by decide +kernel
theorem dX4_init_48 : decode cX4_init 48 = .ok (.aload_n 0, 1) := by decide +kernel
theorem dX4_init_49 : decode cX4_init 49 = .ok (.bipush 6, 2) := by decide +kernel
theorem dX4_init_51 : decode cX4_init 51 = .ok (.newarray .int, 2) := by decide +kernel
theorem dX4_init_53 : decode cX4_init 53 = .ok (.putfield 39, 3) := by decide +kernel
theorem dX4_init_56 : decode cX4_init 56 = .ok (.return_, 1) := by decide +kernel
theorem dX4_copyFrom_0 : decode cX4_copyFrom 0 = .ok (.aload_n 0, 1) := by decide +kernel
theorem dX4_copyFrom_1 : decode cX4_copyFrom 1 = .ok (.getfield 12, 3) := by decide +kernel
theorem dX4_copyFrom_4 : decode cX4_copyFrom 4 = .ok (.aload_n 1, 1) := by decide +kernel
theorem dX4_copyFrom_5 : decode cX4_copyFrom 5 = .ok (.getfield 12, 3) := by decide +kernel
theorem dX4_copyFrom_8 : decode cX4_copyFrom 8 = .ok (.invokevirtual 43, 3) := by decide +kernel
theorem dX4_copyFrom_11 : decode cX4_copyFrom 11 = .ok (.aload_n 0, 1) := by decide +kernel
theorem dX4_copyFrom_12 : decode cX4_copyFrom 12 = .ok (.getfield 21, 3) := by decide +kernel
theorem dX4_copyFrom_15 : decode cX4_copyFrom 15 = .ok (.aload_n 1, 1) := by decide +kernel
theorem dX4_copyFrom_16 : decode cX4_copyFrom 16 = .ok (.getfield 21, 3) := by decide +kernel
theorem dX4_copyFrom_19 : decode cX4_copyFrom 19 = .ok (.invokevirtual 47, 3) := by decide +kernel
theorem dX4_copyFrom_22 : decode cX4_copyFrom 22 = .ok (.aload_n 0, 1) := by decide +kernel
theorem dX4_copyFrom_23 : decode cX4_copyFrom 23 = .ok (.getfield 28, 3) := by decide +kernel
theorem dX4_copyFrom_26 : decode cX4_copyFrom 26 = .ok (.aload_n 1, 1) := by decide +kernel
theorem dX4_copyFrom_27 : decode cX4_copyFrom 27 = .ok (.getfield 28, 3) := by decide +kernel
theorem dX4_copyFrom_30 : decode cX4_copyFrom 30 = .ok (.invokevirtual 50, 3) := by decide +kernel
theorem dX4_copyFrom_33 : decode cX4_copyFrom 33 = .ok (.aload_n 0, 1) := by decide +kernel
theorem dX4_copyFrom_34 : decode cX4_copyFrom 34 = .ok (.getfield 35, 3) := by decide +kernel
theorem dX4_copyFrom_37 : decode cX4_copyFrom 37 = .ok (.aload_n 1, 1) := by decide +kernel
theorem dX4_copyFrom_38 : decode cX4_copyFrom 38 = .ok (.getfield 35, 3) := by decide +kernel
theorem dX4_copyFrom_41 : decode cX4_copyFrom 41 = .ok (.invokevirtual 53, 3) := by decide +kernel
theorem dX4_copyFrom_44 : decode cX4_copyFrom 44 = .ok (.return_, 1) := by decide +kernel
theorem dX4_computeDemands_0 : decode cX4_computeDemands 0 = .ok (.iconst 0, 1) := by decide +kernel
theorem dX4_computeDemands_1 : decode cX4_computeDemands 1 = .ok (.istore_n 1, 1) := by decide +kernel
theorem dX4_computeDemands_2 : decode cX4_computeDemands 2 = .ok (.iload_n 1, 1) := by decide +kernel
theorem dX4_computeDemands_3 : decode cX4_computeDemands 3 = .ok (.bipush 6, 2) := by decide +kernel
theorem dX4_computeDemands_5 : decode cX4_computeDemands 5 = .ok (.if_icmp .ge 70, 3) := by decide +kernel
theorem dX4_computeDemands_8 : decode cX4_computeDemands 8 = .ok (.iconst 0, 1) := by decide +kernel
theorem dX4_computeDemands_9 : decode cX4_computeDemands 9 = .ok (.istore_n 2, 1) := by decide +kernel
theorem dX4_computeDemands_10 : decode cX4_computeDemands 10 = .ok (.iconst 0, 1) := by decide +kernel
theorem dX4_computeDemands_11 : decode cX4_computeDemands 11 = .ok (.istore_n 3, 1) := by decide +kernel
theorem dX4_computeDemands_12 : decode cX4_computeDemands 12 = .ok (.iload_n 3, 1) := by decide +kernel
theorem dX4_computeDemands_13 : decode cX4_computeDemands 13 = .ok (.aload_n 0, 1) := by decide +kernel
theorem dX4_computeDemands_14 : decode cX4_computeDemands 14 = .ok (.getfield 21, 3) := by decide +kernel
theorem dX4_computeDemands_17 : decode cX4_computeDemands 17 = .ok (.getfield 56, 3) := by decide +kernel
theorem dX4_computeDemands_20 : decode cX4_computeDemands 20 = .ok (.if_icmp .ge 30, 3) := by decide +kernel
theorem dX4_computeDemands_23 : decode cX4_computeDemands 23 = .ok (.aload_n 0, 1) := by decide +kernel
theorem dX4_computeDemands_24 : decode cX4_computeDemands 24 = .ok (.getfield 21, 3) := by decide +kernel
theorem dX4_computeDemands_27 : decode cX4_computeDemands 27 = .ok (.getfield 60, 3) := by decide +kernel
theorem dX4_computeDemands_30 : decode cX4_computeDemands 30 = .ok (.iload_n 3, 1) := by decide +kernel
theorem dX4_computeDemands_31 : decode cX4_computeDemands 31 = .ok (.iaload, 1) := by decide +kernel
theorem dX4_computeDemands_32 : decode cX4_computeDemands 32 = .ok (.iload_n 1, 1) := by decide +kernel
theorem dX4_computeDemands_33 : decode cX4_computeDemands 33 = .ok (.if_icmp .ne 11, 3) := by decide +kernel
theorem dX4_computeDemands_36 : decode cX4_computeDemands 36 = .ok (.iload_n 2, 1) := by decide +kernel
theorem dX4_computeDemands_37 : decode cX4_computeDemands 37 = .ok (.aload_n 0, 1) := by decide +kernel
theorem dX4_computeDemands_38 : decode cX4_computeDemands 38 = .ok (.iload_n 3, 1) := by decide +kernel
theorem dX4_computeDemands_39 : decode cX4_computeDemands 39 = .ok (.invokevirtual 63, 3) := by decide +kernel
theorem dX4_computeDemands_42 : decode cX4_computeDemands 42 = .ok (.iadd, 1) := by decide +kernel
theorem dX4_computeDemands_43 : decode cX4_computeDemands 43 = .ok (.istore_n 2, 1) := by decide +kernel
theorem dX4_computeDemands_44 : decode cX4_computeDemands 44 = .ok (.iinc 3 1, 3) := by decide +kernel
theorem dX4_computeDemands_47 : decode cX4_computeDemands 47 = .ok (.goto (-35), 3) := by decide +kernel
theorem dX4_computeDemands_50 : decode cX4_computeDemands 50 = .ok (.aload_n 0, 1) := by decide +kernel
theorem dX4_computeDemands_51 : decode cX4_computeDemands 51 = .ok (.getfield 39, 3) := by decide +kernel
theorem dX4_computeDemands_54 : decode cX4_computeDemands 54 = .ok (.iload_n 1, 1) := by decide +kernel
theorem dX4_computeDemands_55 : decode cX4_computeDemands 55 = .ok (.iload_n 2, 1) := by decide +kernel
theorem dX4_computeDemands_56 : decode cX4_computeDemands 56 = .ok (.sipush (-300), 3) := by decide +kernel
theorem dX4_computeDemands_59 : decode cX4_computeDemands 59 = .ok (.invokestatic 67, 3) := by decide +kernel
theorem dX4_computeDemands_62 : decode cX4_computeDemands 62 = .ok (.sipush 300, 3) := by decide +kernel
theorem dX4_computeDemands_65 : decode cX4_computeDemands 65 = .ok (.invokestatic 73, 3) := by decide +kernel
theorem dX4_computeDemands_68 : decode cX4_computeDemands 68 = .ok (.iastore, 1) := by decide +kernel
theorem dX4_computeDemands_69 : decode cX4_computeDemands 69 = .ok (.iinc 1 1, 3) := by decide +kernel
theorem dX4_computeDemands_72 : decode cX4_computeDemands 72 = .ok (.goto (-70), 3) := by decide +kernel
theorem dX4_computeDemands_75 : decode cX4_computeDemands 75 = .ok (.return_, 1) := by decide +kernel
theorem dX4_valueOf_0 : decode cX4_valueOf 0 = .ok (.aload_n 0, 1) := by decide +kernel
theorem dX4_valueOf_1 : decode cX4_valueOf 1 = .ok (.getfield 21, 3) := by decide +kernel
theorem dX4_valueOf_4 : decode cX4_valueOf 4 = .ok (.iload_n 1, 1) := by decide +kernel
theorem dX4_valueOf_5 : decode cX4_valueOf 5 = .ok (.aload_n 0, 1) := by decide +kernel
theorem dX4_valueOf_6 : decode cX4_valueOf 6 = .ok (.getfield 12, 3) := by decide +kernel
theorem dX4_valueOf_9 : decode cX4_valueOf 9 = .ok (.getfield 76, 3) := by decide +kernel
theorem dX4_valueOf_12 : decode cX4_valueOf 12 = .ok (.invokevirtual 80, 3) := by decide +kernel
theorem dX4_valueOf_15 : decode cX4_valueOf 15 = .ok (.ifCond .ne 5, 3) := by decide +kernel
theorem dX4_valueOf_18 : decode cX4_valueOf 18 = .ok (.iconst 0, 1) := by decide +kernel
theorem dX4_valueOf_19 : decode cX4_valueOf 19 = .ok (.ireturn, 1) := by decide +kernel
theorem dX4_valueOf_20 : decode cX4_valueOf 20 = .ok (.aload_n 0, 1) := by decide +kernel
theorem dX4_valueOf_21 : decode cX4_valueOf 21 = .ok (.getfield 21, 3) := by decide +kernel
theorem dX4_valueOf_24 : decode cX4_valueOf 24 = .ok (.getfield 84, 3) := by decide +kernel
theorem dX4_valueOf_27 : decode cX4_valueOf 27 = .ok (.iload_n 1, 1) := by decide +kernel
theorem dX4_valueOf_28 : decode cX4_valueOf 28 = .ok (.iaload, 1) := by decide +kernel
theorem dX4_valueOf_29 : decode cX4_valueOf 29 = .ok (.istore_n 2, 1) := by decide +kernel
theorem dX4_valueOf_30 : decode cX4_valueOf 30 = .ok (.iload_n 2, 1) := by decide +kernel
theorem dX4_valueOf_31 : decode cX4_valueOf 31 = .ok (.iconst 4, 1) := by decide +kernel
theorem dX4_valueOf_32 : decode cX4_valueOf 32 = .ok (.if_icmp .ge 14, 3) := by decide +kernel
theorem dX4_valueOf_35 : decode cX4_valueOf 35 = .ok (.aload_n 0, 1) := by decide +kernel
theorem dX4_valueOf_36 : decode cX4_valueOf 36 = .ok (.getfield 12, 3) := by decide +kernel
theorem dX4_valueOf_39 : decode cX4_valueOf 39 = .ok (.iload_n 2, 1) := by decide +kernel
theorem dX4_valueOf_40 : decode cX4_valueOf 40 = .ok (.invokevirtual 87, 3) := by decide +kernel
theorem dX4_valueOf_43 : decode cX4_valueOf 43 = .ok (.goto 11, 3) := by decide +kernel
theorem dX4_valueOf_46 : decode cX4_valueOf 46 = .ok (.aload_n 0, 1) := by decide +kernel
theorem dX4_valueOf_47 : decode cX4_valueOf 47 = .ok (.getfield 39, 3) := by decide +kernel
theorem dX4_valueOf_50 : decode cX4_valueOf 50 = .ok (.iload_n 2, 1) := by decide +kernel
theorem dX4_valueOf_51 : decode cX4_valueOf 51 = .ok (.iconst 4, 1) := by decide +kernel
theorem dX4_valueOf_52 : decode cX4_valueOf 52 = .ok (.isub, 1) := by decide +kernel
theorem dX4_valueOf_53 : decode cX4_valueOf 53 = .ok (.iaload, 1) := by decide +kernel
theorem dX4_valueOf_54 : decode cX4_valueOf 54 = .ok (.istore_n 3, 1) := by decide +kernel
theorem dX4_valueOf_55 : decode cX4_valueOf 55 = .ok (.iload_n 3, 1) := by decide +kernel
theorem dX4_valueOf_56 : decode cX4_valueOf 56 = .ok (.aload_n 0, 1) := by decide +kernel
theorem dX4_valueOf_57 : decode cX4_valueOf 57 = .ok (.getfield 21, 3) := by decide +kernel
theorem dX4_valueOf_60 : decode cX4_valueOf 60 = .ok (.getfield 90, 3) := by decide +kernel
theorem dX4_valueOf_63 : decode cX4_valueOf 63 = .ok (.iload_n 1, 1) := by decide +kernel
theorem dX4_valueOf_64 : decode cX4_valueOf 64 = .ok (.iaload, 1) := by decide +kernel
theorem dX4_valueOf_65 : decode cX4_valueOf 65 = .ok (.imul, 1) := by decide +kernel
theorem dX4_valueOf_66 : decode cX4_valueOf 66 = .ok (.bipush 100, 2) := by decide +kernel
theorem dX4_valueOf_68 : decode cX4_valueOf 68 = .ok (.idiv, 1) := by decide +kernel
theorem dX4_valueOf_69 : decode cX4_valueOf 69 = .ok (.aload_n 0, 1) := by decide +kernel
theorem dX4_valueOf_70 : decode cX4_valueOf 70 = .ok (.getfield 21, 3) := by decide +kernel
theorem dX4_valueOf_73 : decode cX4_valueOf 73 = .ok (.getfield 93, 3) := by decide +kernel
theorem dX4_valueOf_76 : decode cX4_valueOf 76 = .ok (.iload_n 1, 1) := by decide +kernel
theorem dX4_valueOf_77 : decode cX4_valueOf 77 = .ok (.iaload, 1) := by decide +kernel
theorem dX4_valueOf_78 : decode cX4_valueOf 78 = .ok (.iadd, 1) := by decide +kernel
theorem dX4_valueOf_79 : decode cX4_valueOf 79 = .ok (.ireturn, 1) := by decide +kernel
theorem dX4_rawAimOf_0 : decode cX4_rawAimOf 0 = .ok (.aload_n 0, 1) := by decide +kernel
theorem dX4_rawAimOf_1 : decode cX4_rawAimOf 1 = .ok (.getfield 28, 3) := by decide +kernel
theorem dX4_rawAimOf_4 : decode cX4_rawAimOf 4 = .ok (.getfield 96, 3) := by decide +kernel
theorem dX4_rawAimOf_7 : decode cX4_rawAimOf 7 = .ok (.iload_n 1, 1) := by decide +kernel
theorem dX4_rawAimOf_8 : decode cX4_rawAimOf 8 = .ok (.iaload, 1) := by decide +kernel
theorem dX4_rawAimOf_9 : decode cX4_rawAimOf 9 = .ok (.aload_n 0, 1) := by decide +kernel
theorem dX4_rawAimOf_10 : decode cX4_rawAimOf 10 = .ok (.getfield 28, 3) := by decide +kernel
theorem dX4_rawAimOf_13 : decode cX4_rawAimOf 13 = .ok (.getfield 99, 3) := by decide +kernel
theorem dX4_rawAimOf_16 : decode cX4_rawAimOf 16 = .ok (.iload_n 1, 1) := by decide +kernel
theorem dX4_rawAimOf_17 : decode cX4_rawAimOf 17 = .ok (.iaload, 1) := by decide +kernel
theorem dX4_rawAimOf_18 : decode cX4_rawAimOf 18 = .ok (.aload_n 0, 1) := by decide +kernel
theorem dX4_rawAimOf_19 : decode cX4_rawAimOf 19 = .ok (.getfield 39, 3) := by decide +kernel
theorem dX4_rawAimOf_22 : decode cX4_rawAimOf 22 = .ok (.iload_n 1, 1) := by decide +kernel
theorem dX4_rawAimOf_23 : decode cX4_rawAimOf 23 = .ok (.iaload, 1) := by decide +kernel
theorem dX4_rawAimOf_24 : decode cX4_rawAimOf 24 = .ok (.imul, 1) := by decide +kernel
theorem dX4_rawAimOf_25 : decode cX4_rawAimOf 25 = .ok (.iadd, 1) := by decide +kernel
theorem dX4_rawAimOf_26 : decode cX4_rawAimOf 26 = .ok (.ireturn, 1) := by decide +kernel
theorem dX4_aimOf_0 : decode cX4_aimOf 0 = .ok (.aload_n 0, 1) := by decide +kernel
theorem dX4_aimOf_1 : decode cX4_aimOf 1 = .ok (.getfield 28, 3) := by decide +kernel
theorem dX4_aimOf_4 : decode cX4_aimOf 4 = .ok (.iload_n 1, 1) := by decide +kernel
theorem dX4_aimOf_5 : decode cX4_aimOf 5 = .ok (.aload_n 0, 1) := by decide +kernel
theorem dX4_aimOf_6 : decode cX4_aimOf 6 = .ok (.iload_n 1, 1) := by decide +kernel
theorem dX4_aimOf_7 : decode cX4_aimOf 7 = .ok (.invokevirtual 102, 3) := by decide +kernel
theorem dX4_aimOf_10 : decode cX4_aimOf 10 = .ok (.invokevirtual 105, 3) := by decide +kernel
theorem dX4_aimOf_13 : decode cX4_aimOf 13 = .ok (.ireturn, 1) := by decide +kernel
theorem dX4_transmit_0 : decode cX4_transmit 0 = .ok (.aload_n 0, 1) := by decide +kernel
theorem dX4_transmit_1 : decode cX4_transmit 1 = .ok (.invokevirtual 108, 3) := by decide +kernel
theorem dX4_transmit_4 : decode cX4_transmit 4 = .ok (.iconst 0, 1) := by decide +kernel
theorem dX4_transmit_5 : decode cX4_transmit 5 = .ok (.istore_n 3, 1) := by decide +kernel
theorem dX4_transmit_6 : decode cX4_transmit 6 = .ok (.iconst 0, 1) := by decide +kernel
theorem dX4_transmit_7 : decode cX4_transmit 7 = .ok (.istore 4, 2) := by decide +kernel
theorem dX4_transmit_9 : decode cX4_transmit 9 = .ok (.iload 4, 2) := by decide +kernel
theorem dX4_transmit_11 : decode cX4_transmit 11 = .ok (.iload_n 1, 1) := by decide +kernel
theorem dX4_transmit_12 : decode cX4_transmit 12 = .ok (.if_icmp .ge 17, 3) := by decide +kernel
theorem dX4_transmit_15 : decode cX4_transmit 15 = .ok (.iload_n 3, 1) := by decide +kernel
theorem dX4_transmit_16 : decode cX4_transmit 16 = .ok (.aload_n 0, 1) := by decide +kernel
theorem dX4_transmit_17 : decode cX4_transmit 17 = .ok (.iload_n 2, 1) := by decide +kernel
theorem dX4_transmit_18 : decode cX4_transmit 18 = .ok (.invokevirtual 111, 3) := by decide +kernel
theorem dX4_transmit_21 : decode cX4_transmit 21 = .ok (.iadd, 1) := by decide +kernel
theorem dX4_transmit_22 : decode cX4_transmit 22 = .ok (.istore_n 3, 1) := by decide +kernel
theorem dX4_transmit_23 : decode cX4_transmit 23 = .ok (.iinc 4 1, 3) := by decide +kernel
theorem dX4_transmit_26 : decode cX4_transmit 26 = .ok (.goto (-17), 3) := by decide +kernel
theorem dX4_transmit_29 : decode cX4_transmit 29 = .ok (.iload_n 3, 1) := by decide +kernel
theorem dX4_transmit_30 : decode cX4_transmit 30 = .ok (.ireturn, 1) := by decide +kernel
theorem dX4_transmitOne_0 : decode cX4_transmitOne 0 = .ok (.iload_n 1, 1) := by decide +kernel
theorem dX4_transmitOne_1 : decode cX4_transmitOne 1 = .ok (.ifCond .eq 17, 3) := by decide +kernel
theorem dX4_transmitOne_4 : decode cX4_transmitOne 4 = .ok (.aload_n 0, 1) := by decide +kernel
theorem dX4_transmitOne_5 : decode cX4_transmitOne 5 = .ok (.getfield 35, 3) := by decide +kernel
theorem dX4_transmitOne_8 : decode cX4_transmitOne 8 = .ok (.getfield 115, 3) := by decide +kernel
theorem dX4_transmitOne_11 : decode cX4_transmitOne 11 = .ok (.ifCond .le 7, 3) := by decide +kernel
theorem dX4_transmitOne_14 : decode cX4_transmitOne 14 = .ok (.iconst 1, 1) := by decide +kernel
theorem dX4_transmitOne_15 : decode cX4_transmitOne 15 = .ok (.goto 4, 3) := by decide +kernel
theorem dX4_transmitOne_18 : decode cX4_transmitOne 18 = .ok (.iconst 0, 1) := by decide +kernel
theorem dX4_transmitOne_19 : decode cX4_transmitOne 19 = .ok (.istore_n 2, 1) := by decide +kernel
theorem dX4_transmitOne_20 : decode cX4_transmitOne 20 = .ok (.aload_n 0, 1) := by decide +kernel
theorem dX4_transmitOne_21 : decode cX4_transmitOne 21 = .ok (.getfield 35, 3) := by decide +kernel
theorem dX4_transmitOne_24 : decode cX4_transmitOne 24 = .ok (.iload_n 2, 1) := by decide +kernel
theorem dX4_transmitOne_25 : decode cX4_transmitOne 25 = .ok (.invokevirtual 118, 3) := by decide +kernel
theorem dX4_transmitOne_28 : decode cX4_transmitOne 28 = .ok (.iload_n 2, 1) := by decide +kernel
theorem dX4_transmitOne_29 : decode cX4_transmitOne 29 = .ok (.ifCond .eq 7, 3) := by decide +kernel
theorem dX4_transmitOne_32 : decode cX4_transmitOne 32 = .ok (.aload_n 0, 1) := by decide +kernel
theorem dX4_transmitOne_33 : decode cX4_transmitOne 33 = .ok (.invokevirtual 122, 3) := by decide +kernel
theorem dX4_transmitOne_36 : decode cX4_transmitOne 36 = .ok (.aload_n 0, 1) := by decide +kernel
theorem dX4_transmitOne_37 : decode cX4_transmitOne 37 = .ok (.getfield 35, 3) := by decide +kernel
theorem dX4_transmitOne_40 : decode cX4_transmitOne 40 = .ok (.invokevirtual 125, 3) := by decide +kernel
theorem dX4_transmitOne_43 : decode cX4_transmitOne 43 = .ok (.aload_n 0, 1) := by decide +kernel
theorem dX4_transmitOne_44 : decode cX4_transmitOne 44 = .ok (.getfield 35, 3) := by decide +kernel
theorem dX4_transmitOne_47 : decode cX4_transmitOne 47 = .ok (.getfield 128, 3) := by decide +kernel
theorem dX4_transmitOne_50 : decode cX4_transmitOne 50 = .ok (.ifCond .eq 10, 3) := by decide +kernel
theorem dX4_transmitOne_53 : decode cX4_transmitOne 53 = .ok (.aload_n 0, 1) := by decide +kernel
theorem dX4_transmitOne_54 : decode cX4_transmitOne 54 = .ok (.getfield 28, 3) := by decide +kernel
theorem dX4_transmitOne_57 : decode cX4_transmitOne 57 = .ok (.invokevirtual 131, 3) := by decide +kernel
theorem dX4_transmitOne_60 : decode cX4_transmitOne 60 = .ok (.aload_n 0, 1) := by decide +kernel
theorem dX4_transmitOne_61 : decode cX4_transmitOne 61 = .ok (.getfield 35, 3) := by decide +kernel
theorem dX4_transmitOne_64 : decode cX4_transmitOne 64 = .ok (.getfield 115, 3) := by decide +kernel
theorem dX4_transmitOne_67 : decode cX4_transmitOne 67 = .ok (.ifCond .le 16, 3) := by decide +kernel
theorem dX4_transmitOne_70 : decode cX4_transmitOne 70 = .ok (.aload_n 0, 1) := by decide +kernel
theorem dX4_transmitOne_71 : decode cX4_transmitOne 71 = .ok (.getfield 35, 3) := by decide +kernel
theorem dX4_transmitOne_74 : decode cX4_transmitOne 74 = .ok (.dup, 1) := by decide +kernel
theorem dX4_transmitOne_75 : decode cX4_transmitOne 75 = .ok (.getfield 115, 3) := by decide +kernel
theorem dX4_transmitOne_78 : decode cX4_transmitOne 78 = .ok (.iconst 1, 1) := by decide +kernel
theorem dX4_transmitOne_79 : decode cX4_transmitOne 79 = .ok (.isub, 1) := by decide +kernel
theorem dX4_transmitOne_80 : decode cX4_transmitOne 80 = .ok (.putfield 115, 3) := by decide +kernel
theorem dX4_transmitOne_83 : decode cX4_transmitOne 83 = .ok (.aload_n 0, 1) := by decide +kernel
theorem dX4_transmitOne_84 : decode cX4_transmitOne 84 = .ok (.invokevirtual 134, 3) := by decide +kernel
theorem dX4_transmitOne_87 : decode cX4_transmitOne 87 = .ok (.ireturn, 1) := by decide +kernel
theorem dX4_targetAims_0 : decode cX4_targetAims 0 = .ok (.iconst 0, 1) := by decide +kernel
theorem dX4_targetAims_1 : decode cX4_targetAims 1 = .ok (.istore_n 1, 1) := by decide +kernel
theorem dX4_targetAims_2 : decode cX4_targetAims 2 = .ok (.iload_n 1, 1) := by decide +kernel
theorem dX4_targetAims_3 : decode cX4_targetAims 3 = .ok (.bipush 6, 2) := by decide +kernel
theorem dX4_targetAims_5 : decode cX4_targetAims 5 = .ok (.if_icmp .ge 23, 3) := by decide +kernel
theorem dX4_targetAims_8 : decode cX4_targetAims 8 = .ok (.aload_n 0, 1) := by decide +kernel
theorem dX4_targetAims_9 : decode cX4_targetAims 9 = .ok (.getfield 28, 3) := by decide +kernel
theorem dX4_targetAims_12 : decode cX4_targetAims 12 = .ok (.getfield 138, 3) := by decide +kernel
theorem dX4_targetAims_15 : decode cX4_targetAims 15 = .ok (.iload_n 1, 1) := by decide +kernel
theorem dX4_targetAims_16 : decode cX4_targetAims 16 = .ok (.aload_n 0, 1) := by decide +kernel
theorem dX4_targetAims_17 : decode cX4_targetAims 17 = .ok (.iload_n 1, 1) := by decide +kernel
theorem dX4_targetAims_18 : decode cX4_targetAims 18 = .ok (.invokevirtual 141, 3) := by decide +kernel
theorem dX4_targetAims_21 : decode cX4_targetAims 21 = .ok (.iastore, 1) := by decide +kernel
theorem dX4_targetAims_22 : decode cX4_targetAims 22 = .ok (.iinc 1 1, 3) := by decide +kernel
theorem dX4_targetAims_25 : decode cX4_targetAims 25 = .ok (.goto (-23), 3) := by decide +kernel
theorem dX4_targetAims_28 : decode cX4_targetAims 28 = .ok (.return_, 1) := by decide +kernel
theorem dX4_advanceServos_0 : decode cX4_advanceServos 0 = .ok (.iconst 0, 1) := by decide +kernel
theorem dX4_advanceServos_1 : decode cX4_advanceServos 1 = .ok (.istore_n 1, 1) := by decide +kernel
theorem dX4_advanceServos_2 : decode cX4_advanceServos 2 = .ok (.iconst 0, 1) := by decide +kernel
theorem dX4_advanceServos_3 : decode cX4_advanceServos 3 = .ok (.istore_n 2, 1) := by decide +kernel
theorem dX4_advanceServos_4 : decode cX4_advanceServos 4 = .ok (.iload_n 2, 1) := by decide +kernel
theorem dX4_advanceServos_5 : decode cX4_advanceServos 5 = .ok (.bipush 6, 2) := by decide +kernel
theorem dX4_advanceServos_7 : decode cX4_advanceServos 7 = .ok (.if_icmp .ge 65, 3) := by decide +kernel
theorem dX4_advanceServos_10 : decode cX4_advanceServos 10 = .ok (.aload_n 0, 1) := by decide +kernel
theorem dX4_advanceServos_11 : decode cX4_advanceServos 11 = .ok (.getfield 35, 3) := by decide +kernel
theorem dX4_advanceServos_14 : decode cX4_advanceServos 14 = .ok (.getfield 128, 3) := by decide +kernel
theorem dX4_advanceServos_17 : decode cX4_advanceServos 17 = .ok (.ifCond .eq 16, 3) := by decide +kernel
theorem dX4_advanceServos_20 : decode cX4_advanceServos 20 = .ok (.aload_n 0, 1) := by decide +kernel
theorem dX4_advanceServos_21 : decode cX4_advanceServos 21 = .ok (.getfield 28, 3) := by decide +kernel
theorem dX4_advanceServos_24 : decode cX4_advanceServos 24 = .ok (.getfield 144, 3) := by decide +kernel
theorem dX4_advanceServos_27 : decode cX4_advanceServos 27 = .ok (.iload_n 2, 1) := by decide +kernel
theorem dX4_advanceServos_28 : decode cX4_advanceServos 28 = .ok (.iaload, 1) := by decide +kernel
theorem dX4_advanceServos_29 : decode cX4_advanceServos 29 = .ok (.iconst 2, 1) := by decide +kernel
theorem dX4_advanceServos_30 : decode cX4_advanceServos 30 = .ok (.if_icmp .eq 36, 3) := by decide +kernel
theorem dX4_advanceServos_33 : decode cX4_advanceServos 33 = .ok (.aload_n 0, 1) := by decide +kernel
theorem dX4_advanceServos_34 : decode cX4_advanceServos 34 = .ok (.getfield 28, 3) := by decide +kernel
theorem dX4_advanceServos_37 : decode cX4_advanceServos 37 = .ok (.iload_n 2, 1) := by decide +kernel
theorem dX4_advanceServos_38 : decode cX4_advanceServos 38 = .ok (.aload_n 0, 1) := by decide +kernel
theorem dX4_advanceServos_39 : decode cX4_advanceServos 39 = .ok (.getfield 35, 3) := by decide +kernel
theorem dX4_advanceServos_42 : decode cX4_advanceServos 42 = .ok (.getfield 115, 3) := by decide +kernel
theorem dX4_advanceServos_45 : decode cX4_advanceServos 45 = .ok (.invokevirtual 147, 3) := by decide +kernel
theorem dX4_advanceServos_48 : decode cX4_advanceServos 48 = .ok (.istore_n 3, 1) := by decide +kernel
theorem dX4_advanceServos_49 : decode cX4_advanceServos 49 = .ok (.aload_n 0, 1) := by decide +kernel
theorem dX4_advanceServos_50 : decode cX4_advanceServos 50 = .ok (.getfield 35, 3) := by decide +kernel
theorem dX4_advanceServos_53 : decode cX4_advanceServos 53 = .ok (.dup, 1) := by decide +kernel
theorem dX4_advanceServos_54 : decode cX4_advanceServos 54 = .ok (.getfield 115, 3) := by decide +kernel
theorem dX4_advanceServos_57 : decode cX4_advanceServos 57 = .ok (.iload_n 3, 1) := by decide +kernel
theorem dX4_advanceServos_58 : decode cX4_advanceServos 58 = .ok (.isub, 1) := by decide +kernel
theorem dX4_advanceServos_59 : decode cX4_advanceServos 59 = .ok (.putfield 115, 3) := by decide +kernel
theorem dX4_advanceServos_62 : decode cX4_advanceServos 62 = .ok (.iload_n 1, 1) := by decide +kernel
theorem dX4_advanceServos_63 : decode cX4_advanceServos 63 = .ok (.iload_n 3, 1) := by decide +kernel
theorem dX4_advanceServos_64 : decode cX4_advanceServos 64 = .ok (.iadd, 1) := by decide +kernel
theorem dX4_advanceServos_65 : decode cX4_advanceServos 65 = .ok (.istore_n 1, 1) := by decide +kernel
theorem dX4_advanceServos_66 : decode cX4_advanceServos 66 = .ok (.iinc 2 1, 3) := by decide +kernel
theorem dX4_advanceServos_69 : decode cX4_advanceServos 69 = .ok (.goto (-65), 3) := by decide +kernel
theorem dX4_advanceServos_72 : decode cX4_advanceServos 72 = .ok (.iload_n 1, 1) := by decide +kernel
theorem dX4_advanceServos_73 : decode cX4_advanceServos 73 = .ok (.ireturn, 1) := by decide +kernel
theorem dX4_hashSticks_0 : decode cX4_hashSticks 0 = .ok (.lload_n 1, 1) := by decide +kernel
theorem dX4_hashSticks_1 : decode cX4_hashSticks 1 = .ok (.lstore_n 3, 1) := by decide +kernel
theorem dX4_hashSticks_2 : decode cX4_hashSticks 2 = .ok (.iconst 0, 1) := by decide +kernel
theorem dX4_hashSticks_3 : decode cX4_hashSticks 3 = .ok (.istore 5, 2) := by decide +kernel
theorem dX4_hashSticks_5 : decode cX4_hashSticks 5 = .ok (.iload 5, 2) := by decide +kernel
theorem dX4_hashSticks_7 : decode cX4_hashSticks 7 = .ok (.iconst 4, 1) := by decide +kernel
theorem dX4_hashSticks_8 : decode cX4_hashSticks 8 = .ok (.if_icmp .ge 99, 3) := by decide +kernel
theorem dX4_hashSticks_11 : decode cX4_hashSticks 11 = .ok (.aload_n 0, 1) := by decide +kernel
theorem dX4_hashSticks_12 : decode cX4_hashSticks 12 = .ok (.getfield 12, 3) := by decide +kernel
theorem dX4_hashSticks_15 : decode cX4_hashSticks 15 = .ok (.iload 5, 2) := by decide +kernel
theorem dX4_hashSticks_17 : decode cX4_hashSticks 17 = .ok (.invokevirtual 150, 3) := by decide +kernel
theorem dX4_hashSticks_20 : decode cX4_hashSticks 20 = .ok (.istore 6, 2) := by decide +kernel
theorem dX4_hashSticks_22 : decode cX4_hashSticks 22 = .ok (.lload_n 3, 1) := by decide +kernel
theorem dX4_hashSticks_23 : decode cX4_hashSticks 23 = .ok (.aload_n 0, 1) := by decide +kernel
theorem dX4_hashSticks_24 : decode cX4_hashSticks 24 = .ok (.getfield 12, 3) := by decide +kernel
theorem dX4_hashSticks_27 : decode cX4_hashSticks 27 = .ok (.getfield 153, 3) := by decide +kernel
theorem dX4_hashSticks_30 : decode cX4_hashSticks 30 = .ok (.iload 5, 2) := by decide +kernel
theorem dX4_hashSticks_32 : decode cX4_hashSticks 32 = .ok (.iaload, 1) := by decide +kernel
theorem dX4_hashSticks_33 : decode cX4_hashSticks 33 = .ok (.i2l, 1) := by decide +kernel
theorem dX4_hashSticks_34 : decode cX4_hashSticks 34 = .ok (.invokestatic 156, 3) := by decide +kernel
theorem dX4_hashSticks_37 : decode cX4_hashSticks 37 = .ok (.lstore_n 3, 1) := by decide +kernel
theorem dX4_hashSticks_38 : decode cX4_hashSticks 38 = .ok (.lload_n 3, 1) := by decide +kernel
theorem dX4_hashSticks_39 : decode cX4_hashSticks 39 = .ok (.aload_n 0, 1) := by decide +kernel
theorem dX4_hashSticks_40 : decode cX4_hashSticks 40 = .ok (.getfield 12, 3) := by decide +kernel
theorem dX4_hashSticks_43 : decode cX4_hashSticks 43 = .ok (.getfield 160, 3) := by decide +kernel
theorem dX4_hashSticks_46 : decode cX4_hashSticks 46 = .ok (.iload 5, 2) := by decide +kernel
theorem dX4_hashSticks_48 : decode cX4_hashSticks 48 = .ok (.iaload, 1) := by decide +kernel
theorem dX4_hashSticks_49 : decode cX4_hashSticks 49 = .ok (.i2l, 1) := by decide +kernel
theorem dX4_hashSticks_50 : decode cX4_hashSticks 50 = .ok (.invokestatic 156, 3) := by decide +kernel
theorem dX4_hashSticks_53 : decode cX4_hashSticks 53 = .ok (.lstore_n 3, 1) := by decide +kernel
theorem dX4_hashSticks_54 : decode cX4_hashSticks 54 = .ok (.lload_n 3, 1) := by decide +kernel
theorem dX4_hashSticks_55 : decode cX4_hashSticks 55 = .ok (.aload_n 0, 1) := by decide +kernel
theorem dX4_hashSticks_56 : decode cX4_hashSticks 56 = .ok (.getfield 12, 3) := by decide +kernel
theorem dX4_hashSticks_59 : decode cX4_hashSticks 59 = .ok (.getfield 163, 3) := by decide +kernel
theorem dX4_hashSticks_62 : decode cX4_hashSticks 62 = .ok (.iload 6, 2) := by decide +kernel
theorem dX4_hashSticks_64 : decode cX4_hashSticks 64 = .ok (.iaload, 1) := by decide +kernel
theorem dX4_hashSticks_65 : decode cX4_hashSticks 65 = .ok (.i2l, 1) := by decide +kernel
theorem dX4_hashSticks_66 : decode cX4_hashSticks 66 = .ok (.invokestatic 156, 3) := by decide +kernel
theorem dX4_hashSticks_69 : decode cX4_hashSticks 69 = .ok (.lstore_n 3, 1) := by decide +kernel
theorem dX4_hashSticks_70 : decode cX4_hashSticks 70 = .ok (.lload_n 3, 1) := by decide +kernel
theorem dX4_hashSticks_71 : decode cX4_hashSticks 71 = .ok (.aload_n 0, 1) := by decide +kernel
theorem dX4_hashSticks_72 : decode cX4_hashSticks 72 = .ok (.getfield 12, 3) := by decide +kernel
theorem dX4_hashSticks_75 : decode cX4_hashSticks 75 = .ok (.getfield 166, 3) := by decide +kernel
theorem dX4_hashSticks_78 : decode cX4_hashSticks 78 = .ok (.iload 6, 2) := by decide +kernel
theorem dX4_hashSticks_80 : decode cX4_hashSticks 80 = .ok (.iaload, 1) := by decide +kernel
theorem dX4_hashSticks_81 : decode cX4_hashSticks 81 = .ok (.i2l, 1) := by decide +kernel
theorem dX4_hashSticks_82 : decode cX4_hashSticks 82 = .ok (.invokestatic 156, 3) := by decide +kernel
theorem dX4_hashSticks_85 : decode cX4_hashSticks 85 = .ok (.lstore_n 3, 1) := by decide +kernel
theorem dX4_hashSticks_86 : decode cX4_hashSticks 86 = .ok (.lload_n 3, 1) := by decide +kernel
theorem dX4_hashSticks_87 : decode cX4_hashSticks 87 = .ok (.aload_n 0, 1) := by decide +kernel
theorem dX4_hashSticks_88 : decode cX4_hashSticks 88 = .ok (.getfield 12, 3) := by decide +kernel
theorem dX4_hashSticks_91 : decode cX4_hashSticks 91 = .ok (.iload 5, 2) := by decide +kernel
theorem dX4_hashSticks_93 : decode cX4_hashSticks 93 = .ok (.invokevirtual 87, 3) := by decide +kernel
theorem dX4_hashSticks_96 : decode cX4_hashSticks 96 = .ok (.i2l, 1) := by decide +kernel
theorem dX4_hashSticks_97 : decode cX4_hashSticks 97 = .ok (.invokestatic 156, 3) := by decide +kernel
theorem dX4_hashSticks_100 : decode cX4_hashSticks 100 = .ok (.lstore_n 3, 1) := by decide +kernel
theorem dX4_hashSticks_101 : decode cX4_hashSticks 101 = .ok (.iinc 5 1, 3) := by decide +kernel
theorem dX4_hashSticks_104 : decode cX4_hashSticks 104 = .ok (.goto (-99), 3) := by decide +kernel
theorem dX4_hashSticks_107 : decode cX4_hashSticks 107 = .ok (.lload_n 3, 1) := by decide +kernel
theorem dX4_hashSticks_108 : decode cX4_hashSticks 108 = .ok (.aload_n 0, 1) := by decide +kernel
theorem dX4_hashSticks_109 : decode cX4_hashSticks 109 = .ok (.getfield 12, 3) := by decide +kernel
theorem dX4_hashSticks_112 : decode cX4_hashSticks 112 = .ok (.getfield 76, 3) := by decide +kernel
theorem dX4_hashSticks_115 : decode cX4_hashSticks 115 = .ok (.ifCond .eq 7, 3) := by decide +kernel
theorem dX4_hashSticks_118 : decode cX4_hashSticks 118 = .ok (.lconst 1, 1) := by decide +kernel
theorem dX4_hashSticks_119 : decode cX4_hashSticks 119 = .ok (.goto 4, 3) := by decide +kernel
theorem dX4_hashSticks_122 : decode cX4_hashSticks 122 = .ok (.lconst 0, 1) := by decide +kernel
theorem dX4_hashSticks_123 : decode cX4_hashSticks 123 = .ok (.invokestatic 156, 3) := by decide +kernel
theorem dX4_hashSticks_126 : decode cX4_hashSticks 126 = .ok (.lstore_n 3, 1) := by decide +kernel
theorem dX4_hashSticks_127 : decode cX4_hashSticks 127 = .ok (.lload_n 3, 1) := by decide +kernel
theorem dX4_hashSticks_128 : decode cX4_hashSticks 128 = .ok (.aload_n 0, 1) := by decide +kernel
theorem dX4_hashSticks_129 : decode cX4_hashSticks 129 = .ok (.getfield 12, 3) := by decide +kernel
theorem dX4_hashSticks_132 : decode cX4_hashSticks 132 = .ok (.getfield 169, 3) := by decide +kernel
theorem dX4_hashSticks_135 : decode cX4_hashSticks 135 = .ok (.ifCond .eq 7, 3) := by decide +kernel
theorem dX4_hashSticks_138 : decode cX4_hashSticks 138 = .ok (.lconst 1, 1) := by decide +kernel
theorem dX4_hashSticks_139 : decode cX4_hashSticks 139 = .ok (.goto 4, 3) := by decide +kernel
theorem dX4_hashSticks_142 : decode cX4_hashSticks 142 = .ok (.lconst 0, 1) := by decide +kernel
theorem dX4_hashSticks_143 : decode cX4_hashSticks 143 = .ok (.invokestatic 156, 3) := by decide +kernel
theorem dX4_hashSticks_146 : decode cX4_hashSticks 146 = .ok (.lreturn, 1) := by decide +kernel
theorem dX4_hashMixes_0 : decode cX4_hashMixes 0 = .ok (.lload_n 1, 1) := by decide +kernel
theorem dX4_hashMixes_1 : decode cX4_hashMixes 1 = .ok (.aload_n 0, 1) := by decide +kernel
theorem dX4_hashMixes_2 : decode cX4_hashMixes 2 = .ok (.getfield 21, 3) := by decide +kernel
theorem dX4_hashMixes_5 : decode cX4_hashMixes 5 = .ok (.getfield 56, 3) := by decide +kernel
theorem dX4_hashMixes_8 : decode cX4_hashMixes 8 = .ok (.i2l, 1) := by decide +kernel
theorem dX4_hashMixes_9 : decode cX4_hashMixes 9 = .ok (.invokestatic 156, 3) := by decide +kernel
theorem dX4_hashMixes_12 : decode cX4_hashMixes 12 = .ok (.lstore_n 3, 1) := by decide +kernel
theorem dX4_hashMixes_13 : decode cX4_hashMixes 13 = .ok (.iconst 0, 1) := by decide +kernel
theorem dX4_hashMixes_14 : decode cX4_hashMixes 14 = .ok (.istore 5, 2) := by decide +kernel
theorem dX4_hashMixes_16 : decode cX4_hashMixes 16 = .ok (.iload 5, 2) := by decide +kernel
theorem dX4_hashMixes_18 : decode cX4_hashMixes 18 = .ok (.aload_n 0, 1) := by decide +kernel
theorem dX4_hashMixes_19 : decode cX4_hashMixes 19 = .ok (.getfield 21, 3) := by decide +kernel
theorem dX4_hashMixes_22 : decode cX4_hashMixes 22 = .ok (.getfield 56, 3) := by decide +kernel
theorem dX4_hashMixes_25 : decode cX4_hashMixes 25 = .ok (.if_icmp .ge 53, 3) := by decide +kernel
theorem dX4_hashMixes_28 : decode cX4_hashMixes 28 = .ok (.lload_n 3, 1) := by decide +kernel
theorem dX4_hashMixes_29 : decode cX4_hashMixes 29 = .ok (.aload_n 0, 1) := by decide +kernel
theorem dX4_hashMixes_30 : decode cX4_hashMixes 30 = .ok (.getfield 21, 3) := by decide +kernel
theorem dX4_hashMixes_33 : decode cX4_hashMixes 33 = .ok (.getfield 84, 3) := by decide +kernel
theorem dX4_hashMixes_36 : decode cX4_hashMixes 36 = .ok (.iload 5, 2) := by decide +kernel
theorem dX4_hashMixes_38 : decode cX4_hashMixes 38 = .ok (.iaload, 1) := by decide +kernel
theorem dX4_hashMixes_39 : decode cX4_hashMixes 39 = .ok (.i2l, 1) := by decide +kernel
theorem dX4_hashMixes_40 : decode cX4_hashMixes 40 = .ok (.invokestatic 156, 3) := by decide +kernel
theorem dX4_hashMixes_43 : decode cX4_hashMixes 43 = .ok (.lstore_n 3, 1) := by decide +kernel
theorem dX4_hashMixes_44 : decode cX4_hashMixes 44 = .ok (.lload_n 3, 1) := by decide +kernel
theorem dX4_hashMixes_45 : decode cX4_hashMixes 45 = .ok (.aload_n 0, 1) := by decide +kernel
theorem dX4_hashMixes_46 : decode cX4_hashMixes 46 = .ok (.getfield 21, 3) := by decide +kernel
theorem dX4_hashMixes_49 : decode cX4_hashMixes 49 = .ok (.getfield 60, 3) := by decide +kernel
theorem dX4_hashMixes_52 : decode cX4_hashMixes 52 = .ok (.iload 5, 2) := by decide +kernel
theorem dX4_hashMixes_54 : decode cX4_hashMixes 54 = .ok (.iaload, 1) := by decide +kernel
theorem dX4_hashMixes_55 : decode cX4_hashMixes 55 = .ok (.i2l, 1) := by decide +kernel
theorem dX4_hashMixes_56 : decode cX4_hashMixes 56 = .ok (.invokestatic 156, 3) := by decide +kernel
theorem dX4_hashMixes_59 : decode cX4_hashMixes 59 = .ok (.lstore_n 3, 1) := by decide +kernel
theorem dX4_hashMixes_60 : decode cX4_hashMixes 60 = .ok (.lload_n 3, 1) := by decide +kernel
theorem dX4_hashMixes_61 : decode cX4_hashMixes 61 = .ok (.aload_n 0, 1) := by decide +kernel
theorem dX4_hashMixes_62 : decode cX4_hashMixes 62 = .ok (.iload 5, 2) := by decide +kernel
theorem dX4_hashMixes_64 : decode cX4_hashMixes 64 = .ok (.invokevirtual 63, 3) := by decide +kernel
theorem dX4_hashMixes_67 : decode cX4_hashMixes 67 = .ok (.i2l, 1) := by decide +kernel
theorem dX4_hashMixes_68 : decode cX4_hashMixes 68 = .ok (.invokestatic 156, 3) := by decide +kernel
theorem dX4_hashMixes_71 : decode cX4_hashMixes 71 = .ok (.lstore_n 3, 1) := by decide +kernel
theorem dX4_hashMixes_72 : decode cX4_hashMixes 72 = .ok (.iinc 5 1, 3) := by decide +kernel
theorem dX4_hashMixes_75 : decode cX4_hashMixes 75 = .ok (.goto (-59), 3) := by decide +kernel
theorem dX4_hashMixes_78 : decode cX4_hashMixes 78 = .ok (.lload_n 3, 1) := by decide +kernel
theorem dX4_hashMixes_79 : decode cX4_hashMixes 79 = .ok (.lreturn, 1) := by decide +kernel
theorem dX4_hashServos_0 : decode cX4_hashServos 0 = .ok (.lload_n 1, 1) := by decide +kernel
theorem dX4_hashServos_1 : decode cX4_hashServos 1 = .ok (.lstore_n 3, 1) := by decide +kernel
theorem dX4_hashServos_2 : decode cX4_hashServos 2 = .ok (.iconst 0, 1) := by decide +kernel
theorem dX4_hashServos_3 : decode cX4_hashServos 3 = .ok (.istore 5, 2) := by decide +kernel
theorem dX4_hashServos_5 : decode cX4_hashServos 5 = .ok (.iload 5, 2) := by decide +kernel
theorem dX4_hashServos_7 : decode cX4_hashServos 7 = .ok (.bipush 6, 2) := by decide +kernel
theorem dX4_hashServos_9 : decode cX4_hashServos 9 = .ok (.if_icmp .ge 82, 3) := by decide +kernel
theorem dX4_hashServos_12 : decode cX4_hashServos 12 = .ok (.lload_n 3, 1) := by decide +kernel
theorem dX4_hashServos_13 : decode cX4_hashServos 13 = .ok (.aload_n 0, 1) := by decide +kernel
theorem dX4_hashServos_14 : decode cX4_hashServos 14 = .ok (.getfield 39, 3) := by decide +kernel
theorem dX4_hashServos_17 : decode cX4_hashServos 17 = .ok (.iload 5, 2) := by decide +kernel
theorem dX4_hashServos_19 : decode cX4_hashServos 19 = .ok (.iaload, 1) := by decide +kernel
theorem dX4_hashServos_20 : decode cX4_hashServos 20 = .ok (.i2l, 1) := by decide +kernel
theorem dX4_hashServos_21 : decode cX4_hashServos 21 = .ok (.invokestatic 156, 3) := by decide +kernel
theorem dX4_hashServos_24 : decode cX4_hashServos 24 = .ok (.lstore_n 3, 1) := by decide +kernel
theorem dX4_hashServos_25 : decode cX4_hashServos 25 = .ok (.lload_n 3, 1) := by decide +kernel
theorem dX4_hashServos_26 : decode cX4_hashServos 26 = .ok (.aload_n 0, 1) := by decide +kernel
theorem dX4_hashServos_27 : decode cX4_hashServos 27 = .ok (.iload 5, 2) := by decide +kernel
theorem dX4_hashServos_29 : decode cX4_hashServos 29 = .ok (.invokevirtual 141, 3) := by decide +kernel
theorem dX4_hashServos_32 : decode cX4_hashServos 32 = .ok (.i2l, 1) := by decide +kernel
theorem dX4_hashServos_33 : decode cX4_hashServos 33 = .ok (.invokestatic 156, 3) := by decide +kernel
theorem dX4_hashServos_36 : decode cX4_hashServos 36 = .ok (.lstore_n 3, 1) := by decide +kernel
theorem dX4_hashServos_37 : decode cX4_hashServos 37 = .ok (.lload_n 3, 1) := by decide +kernel
theorem dX4_hashServos_38 : decode cX4_hashServos 38 = .ok (.aload_n 0, 1) := by decide +kernel
theorem dX4_hashServos_39 : decode cX4_hashServos 39 = .ok (.getfield 28, 3) := by decide +kernel
theorem dX4_hashServos_42 : decode cX4_hashServos 42 = .ok (.getfield 138, 3) := by decide +kernel
theorem dX4_hashServos_45 : decode cX4_hashServos 45 = .ok (.iload 5, 2) := by decide +kernel
theorem dX4_hashServos_47 : decode cX4_hashServos 47 = .ok (.iaload, 1) := by decide +kernel
theorem dX4_hashServos_48 : decode cX4_hashServos 48 = .ok (.i2l, 1) := by decide +kernel
theorem dX4_hashServos_49 : decode cX4_hashServos 49 = .ok (.invokestatic 156, 3) := by decide +kernel
theorem dX4_hashServos_52 : decode cX4_hashServos 52 = .ok (.lstore_n 3, 1) := by decide +kernel
theorem dX4_hashServos_53 : decode cX4_hashServos 53 = .ok (.lload_n 3, 1) := by decide +kernel
theorem dX4_hashServos_54 : decode cX4_hashServos 54 = .ok (.aload_n 0, 1) := by decide +kernel
theorem dX4_hashServos_55 : decode cX4_hashServos 55 = .ok (.getfield 28, 3) := by decide +kernel
theorem dX4_hashServos_58 : decode cX4_hashServos 58 = .ok (.getfield 172, 3) := by decide +kernel
theorem dX4_hashServos_61 : decode cX4_hashServos 61 = .ok (.iload 5, 2) := by decide +kernel
theorem dX4_hashServos_63 : decode cX4_hashServos 63 = .ok (.iaload, 1) := by decide +kernel
theorem dX4_hashServos_64 : decode cX4_hashServos 64 = .ok (.i2l, 1) := by decide +kernel
theorem dX4_hashServos_65 : decode cX4_hashServos 65 = .ok (.invokestatic 156, 3) := by decide +kernel
theorem dX4_hashServos_68 : decode cX4_hashServos 68 = .ok (.lstore_n 3, 1) := by decide +kernel
theorem dX4_hashServos_69 : decode cX4_hashServos 69 = .ok (.lload_n 3, 1) := by decide +kernel
theorem dX4_hashServos_70 : decode cX4_hashServos 70 = .ok (.aload_n 0, 1) := by decide +kernel
theorem dX4_hashServos_71 : decode cX4_hashServos 71 = .ok (.getfield 28, 3) := by decide +kernel
theorem dX4_hashServos_74 : decode cX4_hashServos 74 = .ok (.getfield 173, 3) := by decide +kernel
theorem dX4_hashServos_77 : decode cX4_hashServos 77 = .ok (.iload 5, 2) := by decide +kernel
theorem dX4_hashServos_79 : decode cX4_hashServos 79 = .ok (.iaload, 1) := by decide +kernel
theorem dX4_hashServos_80 : decode cX4_hashServos 80 = .ok (.i2l, 1) := by decide +kernel
theorem dX4_hashServos_81 : decode cX4_hashServos 81 = .ok (.invokestatic 156, 3) := by decide +kernel
theorem dX4_hashServos_84 : decode cX4_hashServos 84 = .ok (.lstore_n 3, 1) := by decide +kernel
theorem dX4_hashServos_85 : decode cX4_hashServos 85 = .ok (.iinc 5 1, 3) := by decide +kernel
theorem dX4_hashServos_88 : decode cX4_hashServos 88 = .ok (.goto (-83), 3) := by decide +kernel
theorem dX4_hashServos_91 : decode cX4_hashServos 91 = .ok (.lload_n 3, 1) := by decide +kernel
theorem dX4_hashServos_92 : decode cX4_hashServos 92 = .ok (.lreturn, 1) := by decide +kernel
theorem dX5_init_0 : decode cX5_init 0 = .ok (.aload_n 0, 1) := by decide +kernel
theorem dX5_init_1 : decode cX5_init 1 = .ok (.invokespecial 3, 3) := by decide +kernel
theorem dX5_init_4 : decode cX5_init 4 = .ok (.aload_n 0, 1) := by decide +kernel
theorem dX5_init_5 : decode cX5_init 5 = .ok (.iconst 4, 1) := by decide +kernel
theorem dX5_init_6 : decode cX5_init 6 = .ok (.newarray .int, 2) := by decide +kernel
theorem dX5_init_8 : decode cX5_init 8 = .ok (.putfield 9, 3) := by decide +kernel
theorem dX5_init_11 : decode cX5_init 11 = .ok (.aload_n 0, 1) := by decide +kernel
theorem dX5_init_12 : decode cX5_init 12 = .ok (.iconst 4, 1) := by decide +kernel
theorem dX5_init_13 : decode cX5_init 13 = .ok (.newarray .int, 2) := by decide +kernel
theorem dX5_init_15 : decode cX5_init 15 = .ok (.putfield 15, 3) := by decide +kernel
theorem dX5_init_18 : decode cX5_init 18 = .ok (.aload_n 0, 1) := by decide +kernel
theorem dX5_init_19 : decode cX5_init 19 = .ok (.bipush 8, 2) := by decide +kernel
theorem dX5_init_21 : decode cX5_init 21 = .ok (.newarray .int, 2) := by decide +kernel
theorem dX5_init_23 : decode cX5_init 23 = .ok (.putfield 18, 3) := by decide +kernel
theorem dX5_init_26 : decode cX5_init 26 = .ok (.aload_n 0, 1) := by decide +kernel
theorem dX5_init_27 : decode cX5_init 27 = .ok (.bipush 8, 2) := by decide +kernel
theorem dX5_init_29 : decode cX5_init 29 = .ok (.newarray .int, 2) := by decide +kernel
theorem dX5_init_31 : decode cX5_init 31 = .ok (.putfield 21, 3) := by decide +kernel
theorem dX5_init_34 : decode cX5_init 34 = .ok (.aload_n 0, 1) := by decide +kernel
theorem dX5_init_35 : decode cX5_init 35 = .ok (.iconst 1, 1) := by decide +kernel
theorem dX5_init_36 : decode cX5_init 36 = .ok (.putfield 24, 3) := by decide +kernel
theorem dX5_init_39 : decode cX5_init 39 = .ok (.aload_n 0, 1) := by decide +kernel
theorem dX5_init_40 : decode cX5_init 40 = .ok (.getfield 18, 3) := by decide +kernel
theorem dX5_init_43 : decode cX5_init 43 = .ok (.bipush 100, 2) := by decide +kernel
theorem dX5_init_45 : decode cX5_init 45 = .ok (.invokestatic 28, 3) := by decide +kernel
theorem dX5_init_48 : decode cX5_init 48 = .ok (.return_, 1) := by decide +kernel
theorem dX5_copyFrom_0 : decode cX5_copyFrom 0 = .ok (.aload_n 1, 1) := by decide +kernel
theorem dX5_copyFrom_1 : decode cX5_copyFrom 1 = .ok (.getfield 9, 3) := by decide +kernel
theorem dX5_copyFrom_4 : decode cX5_copyFrom 4 = .ok (.aload_n 0, 1) := by decide +kernel
theorem dX5_copyFrom_5 : decode cX5_copyFrom 5 = .ok (.getfield 9, 3) := by decide +kernel
theorem dX5_copyFrom_8 : decode cX5_copyFrom 8 = .ok (.invokestatic 32, 3) := by decide +kernel
theorem dX5_copyFrom_11 : decode cX5_copyFrom 11 = .ok (.aload_n 1, 1) := by decide +kernel
theorem dX5_copyFrom_12 : decode cX5_copyFrom 12 = .ok (.getfield 15, 3) := by decide +kernel
theorem dX5_copyFrom_15 : decode cX5_copyFrom 15 = .ok (.aload_n 0, 1) := by decide +kernel
theorem dX5_copyFrom_16 : decode cX5_copyFrom 16 = .ok (.getfield 15, 3) := by decide +kernel
theorem dX5_copyFrom_19 : decode cX5_copyFrom 19 = .ok (.invokestatic 32, 3) := by decide +kernel
theorem dX5_copyFrom_22 : decode cX5_copyFrom 22 = .ok (.aload_n 1, 1) := by decide +kernel
theorem dX5_copyFrom_23 : decode cX5_copyFrom 23 = .ok (.getfield 18, 3) := by decide +kernel
theorem dX5_copyFrom_26 : decode cX5_copyFrom 26 = .ok (.aload_n 0, 1) := by decide +kernel
theorem dX5_copyFrom_27 : decode cX5_copyFrom 27 = .ok (.getfield 18, 3) := by decide +kernel
theorem dX5_copyFrom_30 : decode cX5_copyFrom 30 = .ok (.invokestatic 32, 3) := by decide +kernel
theorem dX5_copyFrom_33 : decode cX5_copyFrom 33 = .ok (.aload_n 1, 1) := by decide +kernel
theorem dX5_copyFrom_34 : decode cX5_copyFrom 34 = .ok (.getfield 21, 3) := by decide +kernel
theorem dX5_copyFrom_37 : decode cX5_copyFrom 37 = .ok (.aload_n 0, 1) := by decide +kernel
theorem dX5_copyFrom_38 : decode cX5_copyFrom 38 = .ok (.getfield 21, 3) := by decide +kernel
theorem dX5_copyFrom_41 : decode cX5_copyFrom 41 = .ok (.invokestatic 32, 3) := by decide +kernel
theorem dX5_copyFrom_44 : decode cX5_copyFrom 44 = .ok (.aload_n 0, 1) := by decide +kernel
theorem dX5_copyFrom_45 : decode cX5_copyFrom 45 = .ok (.aload_n 1, 1) := by decide +kernel
theorem dX5_copyFrom_46 : decode cX5_copyFrom 46 = .ok (.getfield 24, 3) := by decide +kernel
theorem dX5_copyFrom_49 : decode cX5_copyFrom 49 = .ok (.putfield 24, 3) := by decide +kernel
theorem dX5_copyFrom_52 : decode cX5_copyFrom 52 = .ok (.aload_n 0, 1) := by decide +kernel
theorem dX5_copyFrom_53 : decode cX5_copyFrom 53 = .ok (.aload_n 1, 1) := by decide +kernel
theorem dX5_copyFrom_54 : decode cX5_copyFrom 54 = .ok (.getfield 36, 3) := by decide +kernel
theorem dX5_copyFrom_57 : decode cX5_copyFrom 57 = .ok (.putfield 36, 3) := by decide +kernel
theorem dX5_copyFrom_60 : decode cX5_copyFrom 60 = .ok (.return_, 1) := by decide +kernel
theorem dX5_slotOf_0 : decode cX5_slotOf 0 = .ok (.aload_n 0, 1) := by decide +kernel
theorem dX5_slotOf_1 : decode cX5_slotOf 1 = .ok (.getfield 24, 3) := by decide +kernel
theorem dX5_slotOf_4 : decode cX5_slotOf 4 = .ok (.ifCond .eq 9, 3) := by decide +kernel
theorem dX5_slotOf_7 : decode cX5_slotOf 7 = .ok (.iconst 4, 1) := by decide +kernel
theorem dX5_slotOf_8 : decode cX5_slotOf 8 = .ok (.iload_n 1, 1) := by decide +kernel
theorem dX5_slotOf_9 : decode cX5_slotOf 9 = .ok (.iadd, 1) := by decide +kernel
theorem dX5_slotOf_10 : decode cX5_slotOf 10 = .ok (.goto 4, 3) := by decide +kernel
theorem dX5_slotOf_13 : decode cX5_slotOf 13 = .ok (.iload_n 1, 1) := by decide +kernel
theorem dX5_slotOf_14 : decode cX5_slotOf 14 = .ok (.ireturn, 1) := by decide +kernel
theorem dX5_commandOf_0 : decode cX5_commandOf 0 = .ok (.iload_n 1, 1) := by decide +kernel
theorem dX5_commandOf_1 : decode cX5_commandOf 1 = .ok (.iconst 2, 1) := by decide +kernel
theorem dX5_commandOf_2 : decode cX5_commandOf 2 = .ok (.if_icmp .ne 13, 3) := by decide +kernel
theorem dX5_commandOf_5 : decode cX5_commandOf 5 = .ok (.aload_n 0, 1) := by decide +kernel
theorem dX5_commandOf_6 : decode cX5_commandOf 6 = .ok (.getfield 36, 3) := by decide +kernel
theorem dX5_commandOf_9 : decode cX5_commandOf 9 = .ok (.ifCond .eq 6, 3) := by decide +kernel
theorem dX5_commandOf_12 : decode cX5_commandOf 12 = .ok (.bipush (-100), 2) := by decide +kernel
theorem dX5_commandOf_14 : decode cX5_commandOf 14 = .ok (.ireturn, 1) := by decide +kernel
theorem dX5_commandOf_15 : decode cX5_commandOf 15 = .ok (.aload_n 0, 1) := by decide +kernel
theorem dX5_commandOf_16 : decode cX5_commandOf 16 = .ok (.getfield 9, 3) := by decide +kernel
theorem dX5_commandOf_19 : decode cX5_commandOf 19 = .ok (.iload_n 1, 1) := by decide +kernel
theorem dX5_commandOf_20 : decode cX5_commandOf 20 = .ok (.iaload, 1) := by decide +kernel
theorem dX5_commandOf_21 : decode cX5_commandOf 21 = .ok (.istore_n 2, 1) := by decide +kernel
theorem dX5_commandOf_22 : decode cX5_commandOf 22 = .ok (.aload_n 0, 1) := by decide +kernel
theorem dX5_commandOf_23 : decode cX5_commandOf 23 = .ok (.getfield 15, 3) := by decide +kernel
theorem dX5_commandOf_26 : decode cX5_commandOf 26 = .ok (.iload_n 1, 1) := by decide +kernel
theorem dX5_commandOf_27 : decode cX5_commandOf 27 = .ok (.iaload, 1) := by decide +kernel
theorem dX5_commandOf_28 : decode cX5_commandOf 28 = .ok (.istore_n 3, 1) := by decide +kernel
theorem dX5_commandOf_29 : decode cX5_commandOf 29 = .ok (.bipush 100, 2) := by decide +kernel
theorem dX5_commandOf_31 : decode cX5_commandOf 31 = .ok (.iload_n 3, 1) := by decide +kernel
theorem dX5_commandOf_32 : decode cX5_commandOf 32 = .ok (.isub, 1) := by decide +kernel
theorem dX5_commandOf_33 : decode cX5_commandOf 33 = .ok (.iload_n 2, 1) := by decide +kernel
theorem dX5_commandOf_34 : decode cX5_commandOf 34 = .ok (.imul, 1) := by decide +kernel
theorem dX5_commandOf_35 : decode cX5_commandOf 35 = .ok (.iload_n 3, 1) := by decide +kernel
theorem dX5_commandOf_36 : decode cX5_commandOf 36 = .ok (.iload_n 2, 1) := by decide +kernel
theorem dX5_commandOf_37 : decode cX5_commandOf 37 = .ok (.iload_n 2, 1) := by decide +kernel
theorem dX5_commandOf_38 : decode cX5_commandOf 38 = .ok (.imul, 1) := by decide +kernel
theorem dX5_commandOf_39 : decode cX5_commandOf 39 = .ok (.iload_n 2, 1) := by decide +kernel
theorem dX5_commandOf_40 : decode cX5_commandOf 40 = .ok (.imul, 1) := by decide +kernel
theorem dX5_commandOf_41 : decode cX5_commandOf 41 = .ok (.sipush 10000, 3) := by decide +kernel
theorem dX5_commandOf_44 : decode cX5_commandOf 44 = .ok (.idiv, 1) := by decide +kernel
theorem dX5_commandOf_45 : decode cX5_commandOf 45 = .ok (.imul, 1) := by decide +kernel
theorem dX5_commandOf_46 : decode cX5_commandOf 46 = .ok (.iadd, 1) := by decide +kernel
theorem dX5_commandOf_47 : decode cX5_commandOf 47 = .ok (.bipush 100, 2) := by decide +kernel
theorem dX5_commandOf_49 : decode cX5_commandOf 49 = .ok (.idiv, 1) := by decide +kernel
theorem dX5_commandOf_50 : decode cX5_commandOf 50 = .ok (.istore 4, 2) := by decide +kernel
theorem dX5_commandOf_52 : decode cX5_commandOf 52 = .ok (.aload_n 0, 1) := by decide +kernel
theorem dX5_commandOf_53 : decode cX5_commandOf 53 = .ok (.iload_n 1, 1) := by decide +kernel
theorem dX5_commandOf_54 : decode cX5_commandOf 54 = .ok (.invokevirtual 39, 3) := by decide +kernel
theorem dX5_commandOf_57 : decode cX5_commandOf 57 = .ok (.istore 5, 2) := by decide +kernel
theorem dX5_commandOf_59 : decode cX5_commandOf 59 = .ok (.iload 4, 2) := by decide +kernel
theorem dX5_commandOf_61 : decode cX5_commandOf 61 = .ok (.aload_n 0, 1) := by decide +kernel
theorem dX5_commandOf_62 : decode cX5_commandOf 62 = .ok (.getfield 18, 3) := by decide +kernel
theorem dX5_commandOf_65 : decode cX5_commandOf 65 = .ok (.iload 5, 2) := by decide +kernel
theorem dX5_commandOf_67 : decode cX5_commandOf 67 = .ok (.iaload, 1) := by decide +kernel
theorem dX5_commandOf_68 : decode cX5_commandOf 68 = .ok (.imul, 1) := by decide +kernel
theorem dX5_commandOf_69 : decode cX5_commandOf 69 = .ok (.bipush 100, 2) := by decide +kernel
theorem dX5_commandOf_71 : decode cX5_commandOf 71 = .ok (.idiv, 1) := by decide +kernel
theorem dX5_commandOf_72 : decode cX5_commandOf 72 = .ok (.aload_n 0, 1) := by decide +kernel
theorem dX5_commandOf_73 : decode cX5_commandOf 73 = .ok (.getfield 21, 3) := by decide +kernel
theorem dX5_commandOf_76 : decode cX5_commandOf 76 = .ok (.iload 5, 2) := by decide +kernel
theorem dX5_commandOf_78 : decode cX5_commandOf 78 = .ok (.iaload, 1) := by decide +kernel
theorem dX5_commandOf_79 : decode cX5_commandOf 79 = .ok (.iadd, 1) := by decide +kernel
theorem dX5_commandOf_80 : decode cX5_commandOf 80 = .ok (.ireturn, 1) := by decide +kernel
theorem dX6_init_0 : decode cX6_init 0 = .ok (.aload_n 0, 1) := by decide +kernel
theorem dX6_init_1 : decode cX6_init 1 = .ok (.invokespecial 1, 3) := by decide +kernel
theorem dX6_init_4 : decode cX6_init 4 = .ok (.aload_n 0, 1) := by decide +kernel
theorem dX6_init_5 : decode cX6_init 5 = .ok (.new 7, 3) := by decide +kernel
theorem dX6_init_8 : decode cX6_init 8 = .ok (.dup, 1) := by decide +kernel
theorem dX6_init_9 : decode cX6_init 9 = .ok (.invokespecial 9, 3) := by decide +kernel
theorem dX6_init_12 : decode cX6_init 12 = .ok (.putfield 10, 3) := by decide +kernel
theorem dX6_init_15 : decode cX6_init 15 = .ok (.aload_n 0, 1) := by decide +kernel
theorem dX6_init_16 : decode cX6_init 16 = .ok (.bipush 6, 2) := by decide +kernel
theorem dX6_init_18 : decode cX6_init 18 = .ok (.anewarray 7, 3) := by decide +kernel
theorem dX6_init_21 : decode cX6_init 21 = .ok (.putfield 16, 3) := by decide +kernel
theorem dX6_init_24 : decode cX6_init 24 = .ok (.aload_n 0, 1) := by decide +kernel
theorem dX6_init_25 : decode cX6_init 25 = .ok (.iconst 2, 1) := by decide +kernel
theorem dX6_init_26 : decode cX6_init 26 = .ok (.anewarray 7, 3) := by decide +kernel
theorem dX6_init_29 : decode cX6_init 29 = .ok (.putfield 20, 3) := by decide +kernel
theorem dX6_init_32 : decode cX6_init 32 = .ok (.aload_n 0, 1) := by decide +kernel
theorem dX6_init_33 : decode cX6_init 33 = .ok (.bipush 60, 2) := by decide +kernel
theorem dX6_init_35 : decode cX6_init 35 = .ok (.newarray .int, 2) := by decide +kernel
theorem dX6_init_37 : decode cX6_init 37 = .ok (.putfield 23, 3) := by decide +kernel
theorem dX6_init_40 : decode cX6_init 40 = .ok (.aload_n 0, 1) := by decide +kernel
theorem dX6_init_41 : decode cX6_init 41 = .ok (.new 27, 3) := by decide +kernel
theorem dX6_init_44 : decode cX6_init 44 = .ok (.dup, 1) := by decide +kernel
theorem dX6_init_45 : decode cX6_init 45 = .ok (.invokespecial 29, 3) := by decide +kernel
theorem dX6_init_48 : decode cX6_init 48 = .ok (.putfield 30, 3) := by decide +kernel
theorem dX6_init_51 : decode cX6_init 51 = .ok (.return_, 1) := by decide +kernel
theorem dX6_move_0 : decode cX6_move 0 = .ok (.iload_n 1, 1) := by decide +kernel
theorem dX6_move_1 : decode cX6_move 1 = .ok (.invokestatic 34, 3) := by decide +kernel
theorem dX6_move_4 : decode cX6_move 4 = .ok (.iload_n 2, 1) := by decide +kernel
theorem dX6_move_5 : decode cX6_move 5 = .ok (.bipush (-100), 2) := by decide +kernel
theorem dX6_move_7 : decode cX6_move 7 = .ok (.bipush 100, 2) := by decide +kernel
theorem dX6_move_9 : decode cX6_move 9 = .ok (.invokestatic 38, 3) := by decide +kernel
theorem dX6_move_12 : decode cX6_move 12 = .ok (.aload_n 0, 1) := by decide +kernel
theorem dX6_move_13 : decode cX6_move 13 = .ok (.invokevirtual 42, 3) := by decide +kernel
theorem dX6_move_16 : decode cX6_move 16 = .ok (.aload_n 0, 1) := by decide +kernel
theorem dX6_move_17 : decode cX6_move 17 = .ok (.getfield 10, 3) := by decide +kernel
theorem dX6_move_20 : decode cX6_move 20 = .ok (.getfield 45, 3) := by decide +kernel
theorem dX6_move_23 : decode cX6_move 23 = .ok (.getfield 49, 3) := by decide +kernel
theorem dX6_move_26 : decode cX6_move 26 = .ok (.iload_n 1, 1) := by decide +kernel
theorem dX6_move_27 : decode cX6_move 27 = .ok (.iaload, 1) := by decide +kernel
theorem dX6_move_28 : decode cX6_move 28 = .ok (.istore_n 3, 1) := by decide +kernel
theorem dX6_move_29 : decode cX6_move 29 = .ok (.aload_n 0, 1) := by decide +kernel
theorem dX6_move_30 : decode cX6_move 30 = .ok (.getfield 10, 3) := by decide +kernel
theorem dX6_move_33 : decode cX6_move 33 = .ok (.getfield 45, 3) := by decide +kernel
theorem dX6_move_36 : decode cX6_move 36 = .ok (.getfield 49, 3) := by decide +kernel
theorem dX6_move_39 : decode cX6_move 39 = .ok (.iload_n 1, 1) := by decide +kernel
theorem dX6_move_40 : decode cX6_move 40 = .ok (.iload_n 2, 1) := by decide +kernel
theorem dX6_move_41 : decode cX6_move 41 = .ok (.iastore, 1) := by decide +kernel
theorem dX6_move_42 : decode cX6_move 42 = .ok (.iload_n 3, 1) := by decide +kernel
theorem dX6_move_43 : decode cX6_move 43 = .ok (.ireturn, 1) := by decide +kernel
theorem dX6_position_0 : decode cX6_position 0 = .ok (.iload_n 1, 1) := by decide +kernel
theorem dX6_position_1 : decode cX6_position 1 = .ok (.invokestatic 34, 3) := by decide +kernel
theorem dX6_position_4 : decode cX6_position 4 = .ok (.aload_n 0, 1) := by decide +kernel
theorem dX6_position_5 : decode cX6_position 5 = .ok (.getfield 10, 3) := by decide +kernel
theorem dX6_position_8 : decode cX6_position 8 = .ok (.getfield 45, 3) := by decide +kernel
theorem dX6_position_11 : decode cX6_position 11 = .ok (.getfield 49, 3) := by decide +kernel
theorem dX6_position_14 : decode cX6_position 14 = .ok (.iload_n 1, 1) := by decide +kernel
theorem dX6_position_15 : decode cX6_position 15 = .ok (.iaload, 1) := by decide +kernel
theorem dX6_position_16 : decode cX6_position 16 = .ok (.ireturn, 1) := by decide +kernel
theorem dX6_setTrim_0 : decode cX6_setTrim 0 = .ok (.iload_n 1, 1) := by decide +kernel
theorem dX6_setTrim_1 : decode cX6_setTrim 1 = .ok (.invokestatic 34, 3) := by decide +kernel
theorem dX6_setTrim_4 : decode cX6_setTrim 4 = .ok (.iload_n 2, 1) := by decide +kernel
theorem dX6_setTrim_5 : decode cX6_setTrim 5 = .ok (.bipush (-25), 2) := by decide +kernel
theorem dX6_setTrim_7 : decode cX6_setTrim 7 = .ok (.bipush 25, 2) := by decide +kernel
theorem dX6_setTrim_9 : decode cX6_setTrim 9 = .ok (.invokestatic 38, 3) := by decide +kernel
theorem dX6_setTrim_12 : decode cX6_setTrim 12 = .ok (.aload_n 0, 1) := by decide +kernel
theorem dX6_setTrim_13 : decode cX6_setTrim 13 = .ok (.invokevirtual 42, 3) := by decide +kernel
theorem dX6_setTrim_16 : decode cX6_setTrim 16 = .ok (.aload_n 0, 1) := by decide +kernel
theorem dX6_setTrim_17 : decode cX6_setTrim 17 = .ok (.getfield 10, 3) := by decide +kernel
theorem dX6_setTrim_20 : decode cX6_setTrim 20 = .ok (.getfield 45, 3) := by decide +kernel
theorem dX6_setTrim_23 : decode cX6_setTrim 23 = .ok (.iload_n 1, 1) := by decide +kernel
theorem dX6_setTrim_24 : decode cX6_setTrim 24 = .ok (.invokevirtual 54, 3) := by decide +kernel
theorem dX6_setTrim_27 : decode cX6_setTrim 27 = .ok (.istore_n 3, 1) := by decide +kernel
theorem dX6_setTrim_28 : decode cX6_setTrim 28 = .ok (.aload_n 0, 1) := by decide +kernel
theorem dX6_setTrim_29 : decode cX6_setTrim 29 = .ok (.getfield 10, 3) := by decide +kernel
theorem dX6_setTrim_32 : decode cX6_setTrim 32 = .ok (.getfield 45, 3) := by decide +kernel
theorem dX6_setTrim_35 : decode cX6_setTrim 35 = .ok (.getfield 58, 3) := by decide +kernel
theorem dX6_setTrim_38 : decode cX6_setTrim 38 = .ok (.iload_n 3, 1) := by decide +kernel
theorem dX6_setTrim_39 : decode cX6_setTrim 39 = .ok (.iaload, 1) := by decide +kernel
theorem dX6_setTrim_40 : decode cX6_setTrim 40 = .ok (.istore 4, 2) := by decide +kernel
theorem dX6_setTrim_42 : decode cX6_setTrim 42 = .ok (.aload_n 0, 1) := by decide +kernel
theorem dX6_setTrim_43 : decode cX6_setTrim 43 = .ok (.getfield 10, 3) := by decide +kernel
theorem dX6_setTrim_46 : decode cX6_setTrim 46 = .ok (.getfield 45, 3) := by decide +kernel
theorem dX6_setTrim_49 : decode cX6_setTrim 49 = .ok (.getfield 58, 3) := by decide +kernel
theorem dX6_setTrim_52 : decode cX6_setTrim 52 = .ok (.iload_n 3, 1) := by decide +kernel
theorem dX6_setTrim_53 : decode cX6_setTrim 53 = .ok (.iload_n 2, 1) := by decide +kernel
theorem dX6_setTrim_54 : decode cX6_setTrim 54 = .ok (.iastore, 1) := by decide +kernel
theorem dX6_setTrim_55 : decode cX6_setTrim 55 = .ok (.iload 4, 2) := by decide +kernel
theorem dX6_setTrim_57 : decode cX6_setTrim 57 = .ok (.ireturn, 1) := by decide +kernel
theorem dX6_trim_0 : decode cX6_trim 0 = .ok (.iload_n 1, 1) := by decide +kernel
theorem dX6_trim_1 : decode cX6_trim 1 = .ok (.invokestatic 34, 3) := by decide +kernel
theorem dX6_trim_4 : decode cX6_trim 4 = .ok (.aload_n 0, 1) := by decide +kernel
theorem dX6_trim_5 : decode cX6_trim 5 = .ok (.getfield 10, 3) := by decide +kernel
theorem dX6_trim_8 : decode cX6_trim 8 = .ok (.getfield 45, 3) := by decide +kernel
theorem dX6_trim_11 : decode cX6_trim 11 = .ok (.getfield 58, 3) := by decide +kernel
theorem dX6_trim_14 : decode cX6_trim 14 = .ok (.aload_n 0, 1) := by decide +kernel
theorem dX6_trim_15 : decode cX6_trim 15 = .ok (.getfield 10, 3) := by decide +kernel
theorem dX6_trim_18 : decode cX6_trim 18 = .ok (.getfield 45, 3) := by decide +kernel
theorem dX6_trim_21 : decode cX6_trim 21 = .ok (.iload_n 1, 1) := by decide +kernel
theorem dX6_trim_22 : decode cX6_trim 22 = .ok (.invokevirtual 54, 3) := by decide +kernel
theorem dX6_trim_25 : decode cX6_trim 25 = .ok (.iaload, 1) := by decide +kernel
theorem dX6_trim_26 : decode cX6_trim 26 = .ok (.ireturn, 1) := by decide +kernel
theorem dX6_setRate_0 : decode cX6_setRate 0 = .ok (.iload_n 1, 1) := by decide +kernel
theorem dX6_setRate_1 : decode cX6_setRate 1 = .ok (.invokestatic 34, 3) := by decide +kernel
theorem dX6_setRate_4 : decode cX6_setRate 4 = .ok (.iload_n 2, 1) := by decide +kernel
theorem dX6_setRate_5 : decode cX6_setRate 5 = .ok (.iconst 0, 1) := by decide +kernel
theorem dX6_setRate_6 : decode cX6_setRate 6 = .ok (.bipush 125, 2) := by decide +kernel
theorem dX6_setRate_8 : decode cX6_setRate 8 = .ok (.invokestatic 38, 3) := by decide +kernel
theorem dX6_setRate_11 : decode cX6_setRate 11 = .ok (.aload_n 0, 1) := by decide +kernel
theorem dX6_setRate_12 : decode cX6_setRate 12 = .ok (.invokevirtual 42, 3) := by decide +kernel
theorem dX6_setRate_15 : decode cX6_setRate 15 = .ok (.aload_n 0, 1) := by decide +kernel
theorem dX6_setRate_16 : decode cX6_setRate 16 = .ok (.getfield 10, 3) := by decide +kernel
theorem dX6_setRate_19 : decode cX6_setRate 19 = .ok (.getfield 45, 3) := by decide +kernel
theorem dX6_setRate_22 : decode cX6_setRate 22 = .ok (.iload_n 1, 1) := by decide +kernel
theorem dX6_setRate_23 : decode cX6_setRate 23 = .ok (.invokevirtual 54, 3) := by decide +kernel
theorem dX6_setRate_26 : decode cX6_setRate 26 = .ok (.istore_n 3, 1) := by decide +kernel
theorem dX6_setRate_27 : decode cX6_setRate 27 = .ok (.aload_n 0, 1) := by decide +kernel
theorem dX6_setRate_28 : decode cX6_setRate 28 = .ok (.getfield 10, 3) := by decide +kernel
theorem dX6_setRate_31 : decode cX6_setRate 31 = .ok (.getfield 45, 3) := by decide +kernel
theorem dX6_setRate_34 : decode cX6_setRate 34 = .ok (.getfield 61, 3) := by decide +kernel
theorem dX6_setRate_37 : decode cX6_setRate 37 = .ok (.iload_n 3, 1) := by decide +kernel
theorem dX6_setRate_38 : decode cX6_setRate 38 = .ok (.iaload, 1) := by decide +kernel
theorem dX6_setRate_39 : decode cX6_setRate 39 = .ok (.istore 4, 2) := by decide +kernel
theorem dX6_setRate_41 : decode cX6_setRate 41 = .ok (.aload_n 0, 1) := by decide +kernel
theorem dX6_setRate_42 : decode cX6_setRate 42 = .ok (.getfield 10, 3) := by decide +kernel
theorem dX6_setRate_45 : decode cX6_setRate 45 = .ok (.getfield 45, 3) := by decide +kernel
theorem dX6_setRate_48 : decode cX6_setRate 48 = .ok (.getfield 61, 3) := by decide +kernel
theorem dX6_setRate_51 : decode cX6_setRate 51 = .ok (.iload_n 3, 1) := by decide +kernel
theorem dX6_setRate_52 : decode cX6_setRate 52 = .ok (.iload_n 2, 1) := by decide +kernel
theorem dX6_setRate_53 : decode cX6_setRate 53 = .ok (.iastore, 1) := by decide +kernel
theorem dX6_setRate_54 : decode cX6_setRate 54 = .ok (.iload 4, 2) := by decide +kernel
theorem dX6_setRate_56 : decode cX6_setRate 56 = .ok (.ireturn, 1) := by decide +kernel
theorem dX6_rate_0 : decode cX6_rate 0 = .ok (.iload_n 1, 1) := by decide +kernel
theorem dX6_rate_1 : decode cX6_rate 1 = .ok (.invokestatic 34, 3) := by decide +kernel
theorem dX6_rate_4 : decode cX6_rate 4 = .ok (.aload_n 0, 1) := by decide +kernel
theorem dX6_rate_5 : decode cX6_rate 5 = .ok (.getfield 10, 3) := by decide +kernel
theorem dX6_rate_8 : decode cX6_rate 8 = .ok (.getfield 45, 3) := by decide +kernel
theorem dX6_rate_11 : decode cX6_rate 11 = .ok (.getfield 61, 3) := by decide +kernel
theorem dX6_rate_14 : decode cX6_rate 14 = .ok (.aload_n 0, 1) := by decide +kernel
theorem dX6_rate_15 : decode cX6_rate 15 = .ok (.getfield 10, 3) := by decide +kernel
theorem dX6_rate_18 : decode cX6_rate 18 = .ok (.getfield 45, 3) := by decide +kernel
theorem dX6_rate_21 : decode cX6_rate 21 = .ok (.iload_n 1, 1) := by decide +kernel
theorem dX6_rate_22 : decode cX6_rate 22 = .ok (.invokevirtual 54, 3) := by decide +kernel
theorem dX6_rate_25 : decode cX6_rate 25 = .ok (.iaload, 1) := by decide +kernel
theorem dX6_rate_26 : decode cX6_rate 26 = .ok (.ireturn, 1) := by decide +kernel
theorem dX6_setExpo_0 : decode cX6_setExpo 0 = .ok (.iload_n 1, 1) := by decide +kernel
theorem dX6_setExpo_1 : decode cX6_setExpo 1 = .ok (.invokestatic 34, 3) := by decide +kernel
theorem dX6_setExpo_4 : decode cX6_setExpo 4 = .ok (.iload_n 2, 1) := by decide +kernel
theorem dX6_setExpo_5 : decode cX6_setExpo 5 = .ok (.iconst 0, 1) := by decide +kernel
theorem dX6_setExpo_6 : decode cX6_setExpo 6 = .ok (.bipush 100, 2) := by decide +kernel
theorem dX6_setExpo_8 : decode cX6_setExpo 8 = .ok (.invokestatic 38, 3) := by decide +kernel
theorem dX6_setExpo_11 : decode cX6_setExpo 11 = .ok (.aload_n 0, 1) := by decide +kernel
theorem dX6_setExpo_12 : decode cX6_setExpo 12 = .ok (.invokevirtual 42, 3) := by decide +kernel
theorem dX6_setExpo_15 : decode cX6_setExpo 15 = .ok (.aload_n 0, 1) := by decide +kernel
theorem dX6_setExpo_16 : decode cX6_setExpo 16 = .ok (.getfield 10, 3) := by decide +kernel
theorem dX6_setExpo_19 : decode cX6_setExpo 19 = .ok (.getfield 45, 3) := by decide +kernel
theorem dX6_setExpo_22 : decode cX6_setExpo 22 = .ok (.getfield 64, 3) := by decide +kernel
theorem dX6_setExpo_25 : decode cX6_setExpo 25 = .ok (.iload_n 1, 1) := by decide +kernel
theorem dX6_setExpo_26 : decode cX6_setExpo 26 = .ok (.iaload, 1) := by decide +kernel
theorem dX6_setExpo_27 : decode cX6_setExpo 27 = .ok (.istore_n 3, 1) := by decide +kernel
theorem dX6_setExpo_28 : decode cX6_setExpo 28 = .ok (.aload_n 0, 1) := by decide +kernel
theorem dX6_setExpo_29 : decode cX6_setExpo 29 = .ok (.getfield 10, 3) := by decide +kernel
theorem dX6_setExpo_32 : decode cX6_setExpo 32 = .ok (.getfield 45, 3) := by decide +kernel
theorem dX6_setExpo_35 : decode cX6_setExpo 35 = .ok (.getfield 64, 3) := by decide +kernel
theorem dX6_setExpo_38 : decode cX6_setExpo 38 = .ok (.iload_n 1, 1) := by decide +kernel
theorem dX6_setExpo_39 : decode cX6_setExpo 39 = .ok (.iload_n 2, 1) := by decide +kernel
theorem dX6_setExpo_40 : decode cX6_setExpo 40 = .ok (.iastore, 1) := by decide +kernel
theorem dX6_setExpo_41 : decode cX6_setExpo 41 = .ok (.iload_n 3, 1) := by decide +kernel
theorem dX6_setExpo_42 : decode cX6_setExpo 42 = .ok (.ireturn, 1) := by decide +kernel
theorem dX6_expo_0 : decode cX6_expo 0 = .ok (.iload_n 1, 1) := by decide +kernel
theorem dX6_expo_1 : decode cX6_expo 1 = .ok (.invokestatic 34, 3) := by decide +kernel
theorem dX6_expo_4 : decode cX6_expo 4 = .ok (.aload_n 0, 1) := by decide +kernel
theorem dX6_expo_5 : decode cX6_expo 5 = .ok (.getfield 10, 3) := by decide +kernel
theorem dX6_expo_8 : decode cX6_expo 8 = .ok (.getfield 45, 3) := by decide +kernel
theorem dX6_expo_11 : decode cX6_expo 11 = .ok (.getfield 64, 3) := by decide +kernel
theorem dX6_expo_14 : decode cX6_expo 14 = .ok (.iload_n 1, 1) := by decide +kernel
theorem dX6_expo_15 : decode cX6_expo 15 = .ok (.iaload, 1) := by decide +kernel
theorem dX6_expo_16 : decode cX6_expo 16 = .ok (.ireturn, 1) := by decide +kernel
theorem dX6_switchRates_0 : decode cX6_switchRates 0 = .ok (.aload_n 0, 1) := by decide +kernel
theorem dX6_switchRates_1 : decode cX6_switchRates 1 = .ok (.invokevirtual 42, 3) := by decide +kernel
theorem dX6_switchRates_4 : decode cX6_switchRates 4 = .ok (.aload_n 0, 1) := by decide +kernel
theorem dX6_switchRates_5 : decode cX6_switchRates 5 = .ok (.getfield 10, 3) := by decide +kernel
theorem dX6_switchRates_8 : decode cX6_switchRates 8 = .ok (.getfield 45, 3) := by decide +kernel
theorem dX6_switchRates_11 : decode cX6_switchRates 11 = .ok (.aload_n 0, 1) := by decide +kernel
theorem dX6_switchRates_12 : decode cX6_switchRates 12 = .ok (.getfield 10, 3) := by decide +kernel
theorem dX6_switchRates_15 : decode cX6_switchRates 15 = .ok (.getfield 45, 3) := by decide +kernel
theorem dX6_switchRates_18 : decode cX6_switchRates 18 = .ok (.getfield 67, 3) := by decide +kernel
theorem dX6_switchRates_21 : decode cX6_switchRates 21 = .ok (.ifCond .ne 7, 3) := by decide +kernel
theorem dX6_switchRates_24 : decode cX6_switchRates 24 = .ok (.iconst 1, 1) := by decide +kernel
theorem dX6_switchRates_25 : decode cX6_switchRates 25 = .ok (.goto 4, 3) := by decide +kernel
theorem dX6_switchRates_28 : decode cX6_switchRates 28 = .ok (.iconst 0, 1) := by decide +kernel
theorem dX6_switchRates_29 : decode cX6_switchRates 29 = .ok (.putfield 67, 3) := by decide +kernel
theorem dX6_switchRates_32 : decode cX6_switchRates 32 = .ok (.aload_n 0, 1) := by decide +kernel
theorem dX6_switchRates_33 : decode cX6_switchRates 33 = .ok (.getfield 10, 3) := by decide +kernel
theorem dX6_switchRates_36 : decode cX6_switchRates 36 = .ok (.getfield 45, 3) := by decide +kernel
theorem dX6_switchRates_39 : decode cX6_switchRates 39 = .ok (.getfield 67, 3) := by decide +kernel
theorem dX6_switchRates_42 : decode cX6_switchRates 42 = .ok (.ireturn, 1) := by decide +kernel
theorem dX6_isHigh_0 : decode cX6_isHigh 0 = .ok (.aload_n 0, 1) := by decide +kernel
theorem dX6_isHigh_1 : decode cX6_isHigh 1 = .ok (.getfield 10, 3) := by decide +kernel
theorem dX6_isHigh_4 : decode cX6_isHigh 4 = .ok (.getfield 45, 3) := by decide +kernel
theorem dX6_isHigh_7 : decode cX6_isHigh 7 = .ok (.getfield 67, 3) := by decide +kernel
theorem dX6_isHigh_10 : decode cX6_isHigh 10 = .ok (.ireturn, 1) := by decide +kernel
theorem dX6_cutThrottle_0 : decode cX6_cutThrottle 0 = .ok (.aload_n 0, 1) := by decide +kernel
theorem dX6_cutThrottle_1 : decode cX6_cutThrottle 1 = .ok (.invokevirtual 42, 3) := by decide +kernel
theorem dX6_cutThrottle_4 : decode cX6_cutThrottle 4 = .ok (.aload_n 0, 1) := by decide +kernel
theorem dX6_cutThrottle_5 : decode cX6_cutThrottle 5 = .ok (.getfield 10, 3) := by decide +kernel
theorem dX6_cutThrottle_8 : decode cX6_cutThrottle 8 = .ok (.getfield 45, 3) := by decide +kernel
theorem dX6_cutThrottle_11 : decode cX6_cutThrottle 11 = .ok (.getfield 71, 3) := by decide +kernel
theorem dX6_cutThrottle_14 : decode cX6_cutThrottle 14 = .ok (.istore_n 2, 1) := by decide +kernel
theorem dX6_cutThrottle_15 : decode cX6_cutThrottle 15 = .ok (.aload_n 0, 1) := by decide +kernel
theorem dX6_cutThrottle_16 : decode cX6_cutThrottle 16 = .ok (.getfield 10, 3) := by decide +kernel
theorem dX6_cutThrottle_19 : decode cX6_cutThrottle 19 = .ok (.getfield 45, 3) := by decide +kernel
theorem dX6_cutThrottle_22 : decode cX6_cutThrottle 22 = .ok (.iload_n 1, 1) := by decide +kernel
theorem dX6_cutThrottle_23 : decode cX6_cutThrottle 23 = .ok (.putfield 71, 3) := by decide +kernel
theorem dX6_cutThrottle_26 : decode cX6_cutThrottle 26 = .ok (.iload_n 2, 1) := by decide +kernel
theorem dX6_cutThrottle_27 : decode cX6_cutThrottle 27 = .ok (.ireturn, 1) := by decide +kernel
theorem dX6_isCut_0 : decode cX6_isCut 0 = .ok (.aload_n 0, 1) := by decide +kernel
theorem dX6_isCut_1 : decode cX6_isCut 1 = .ok (.getfield 10, 3) := by decide +kernel
theorem dX6_isCut_4 : decode cX6_isCut 4 = .ok (.getfield 45, 3) := by decide +kernel
theorem dX6_isCut_7 : decode cX6_isCut 7 = .ok (.getfield 71, 3) := by decide +kernel
theorem dX6_isCut_10 : decode cX6_isCut 10 = .ok (.ireturn, 1) := by decide +kernel
theorem dX6_command_0 : decode cX6_command 0 = .ok (.iload_n 1, 1) := by decide +kernel
theorem dX6_command_1 : decode cX6_command 1 = .ok (.invokestatic 34, 3) := by decide +kernel
theorem dX6_command_4 : decode cX6_command 4 = .ok (.aload_n 0, 1) := by decide +kernel
theorem dX6_command_5 : decode cX6_command 5 = .ok (.getfield 10, 3) := by decide +kernel
theorem dX6_command_8 : decode cX6_command 8 = .ok (.getfield 45, 3) := by decide +kernel
theorem dX6_command_11 : decode cX6_command 11 = .ok (.iload_n 1, 1) := by decide +kernel
theorem dX6_command_12 : decode cX6_command 12 = .ok (.invokevirtual 74, 3) := by decide +kernel
theorem dX6_command_15 : decode cX6_command 15 = .ok (.ireturn, 1) := by decide +kernel
theorem dX6_addMix_0 : decode cX6_addMix 0 = .ok (.iload_n 2, 1) := by decide +kernel
theorem dX6_addMix_1 : decode cX6_addMix 1 = .ok (.invokestatic 77, 3) := by decide +kernel
theorem dX6_addMix_4 : decode cX6_addMix 4 = .ok (.iload_n 1, 1) := by decide +kernel
theorem dX6_addMix_5 : decode cX6_addMix 5 = .ok (.iconst 0, 1) := by decide +kernel
theorem dX6_addMix_6 : decode cX6_addMix 6 = .ok (.iconst 4, 1) := by decide +kernel
theorem dX6_addMix_7 : decode cX6_addMix 7 = .ok (.iload_n 2, 1) := by decide +kernel
theorem dX6_addMix_8 : decode cX6_addMix 8 = .ok (.iadd, 1) := by decide +kernel
theorem dX6_addMix_9 : decode cX6_addMix 9 = .ok (.iconst 1, 1) := by decide +kernel
theorem dX6_addMix_10 : decode cX6_addMix 10 = .ok (.isub, 1) := by decide +kernel
theorem dX6_addMix_11 : decode cX6_addMix 11 = .ok (.invokestatic 38, 3) := by decide +kernel
theorem dX6_addMix_14 : decode cX6_addMix 14 = .ok (.iload_n 3, 1) := by decide +kernel
theorem dX6_addMix_15 : decode cX6_addMix 15 = .ok (.sipush (-150), 3) := by decide +kernel
theorem dX6_addMix_18 : decode cX6_addMix 18 = .ok (.sipush 150, 3) := by decide +kernel
theorem dX6_addMix_21 : decode cX6_addMix 21 = .ok (.invokestatic 38, 3) := by decide +kernel
theorem dX6_addMix_24 : decode cX6_addMix 24 = .ok (.iload_n 3, 1) := by decide +kernel
theorem dX6_addMix_25 : decode cX6_addMix 25 = .ok (.ifCond .ne 13, 3) := by decide +kernel
theorem dX6_addMix_28 : decode cX6_addMix 28 = .ok (.new 80, 3) := by decide +kernel
theorem dX6_addMix_31 : decode cX6_addMix 31 = .ok (.dup, 1) := by decide +kernel
theorem dX6_addMix_32 : decode cX6_addMix 32 = .ok (.ldc 82, 2) := by decide +kernel
theorem dX6_addMix_34 : decode cX6_addMix 34 = .ok (.invokespecial 84, 3) := by decide +kernel
theorem dX6_addMix_37 : decode cX6_addMix 37 = .ok (.athrow, 1) := by decide +kernel
theorem dX6_addMix_38 : decode cX6_addMix 38 = .ok (.iload 4, 2) := by decide +kernel
theorem dX6_addMix_40 : decode cX6_addMix 40 = .ok (.bipush (-50), 2) := by decide +kernel
theorem dX6_addMix_42 : decode cX6_addMix 42 = .ok (.bipush 50, 2) := by decide +kernel
theorem dX6_addMix_44 : decode cX6_addMix 44 = .ok (.invokestatic 38, 3) := by decide +kernel
theorem dX6_addMix_47 : decode cX6_addMix 47 = .ok (.iload 5, 2) := by decide +kernel
theorem dX6_addMix_49 : decode cX6_addMix 49 = .ok (.iconst 0, 1) := by decide +kernel
theorem dX6_addMix_50 : decode cX6_addMix 50 = .ok (.iconst 2, 1) := by decide +kernel
theorem dX6_addMix_51 : decode cX6_addMix 51 = .ok (.invokestatic 38, 3) := by decide +kernel
theorem dX6_addMix_54 : decode cX6_addMix 54 = .ok (.aload_n 0, 1) := by decide +kernel
theorem dX6_addMix_55 : decode cX6_addMix 55 = .ok (.iconst 1, 1) := by decide +kernel
theorem dX6_addMix_56 : decode cX6_addMix 56 = .ok (.invokevirtual 87, 3) := by decide +kernel
theorem dX6_addMix_59 : decode cX6_addMix 59 = .ok (.aload_n 0, 1) := by decide +kernel
theorem dX6_addMix_60 : decode cX6_addMix 60 = .ok (.invokevirtual 42, 3) := by decide +kernel
theorem dX6_addMix_63 : decode cX6_addMix 63 = .ok (.aload_n 0, 1) := by decide +kernel
theorem dX6_addMix_64 : decode cX6_addMix 64 = .ok (.getfield 10, 3) := by decide +kernel
theorem dX6_addMix_67 : decode cX6_addMix 67 = .ok (.getfield 90, 3) := by decide +kernel
theorem dX6_addMix_70 : decode cX6_addMix 70 = .ok (.iload_n 1, 1) := by decide +kernel
theorem dX6_addMix_71 : decode cX6_addMix 71 = .ok (.iload_n 2, 1) := by decide +kernel
theorem dX6_addMix_72 : decode cX6_addMix 72 = .ok (.iload_n 3, 1) := by decide +kernel
theorem dX6_addMix_73 : decode cX6_addMix 73 = .ok (.iload 4, 2) := by decide +kernel
theorem dX6_addMix_75 : decode cX6_addMix 75 = .ok (.iload 5, 2) := by decide +kernel
theorem dX6_addMix_77 : decode cX6_addMix 77 = .ok (.invokevirtual 94, 3) := by decide +kernel
theorem dX6_addMix_80 : decode cX6_addMix 80 = .ok (.aload_n 0, 1) := by decide +kernel
theorem dX6_addMix_81 : decode cX6_addMix 81 = .ok (.getfield 10, 3) := by decide +kernel
theorem dX6_addMix_84 : decode cX6_addMix 84 = .ok (.getfield 90, 3) := by decide +kernel
theorem dX6_addMix_87 : decode cX6_addMix 87 = .ok (.getfield 100, 3) := by decide +kernel
theorem dX6_addMix_90 : decode cX6_addMix 90 = .ok (.iconst 1, 1) := by decide +kernel
theorem dX6_addMix_91 : decode cX6_addMix 91 = .ok (.isub, 1) := by decide +kernel
theorem dX6_addMix_92 : decode cX6_addMix 92 = .ok (.ireturn, 1) := by decide +kernel
theorem dX6_removeMix_0 : decode cX6_removeMix 0 = .ok (.aload_n 0, 1) := by decide +kernel
theorem dX6_removeMix_1 : decode cX6_removeMix 1 = .ok (.iload_n 1, 1) := by decide +kernel
theorem dX6_removeMix_2 : decode cX6_removeMix 2 = .ok (.invokevirtual 104, 3) := by decide +kernel
theorem dX6_removeMix_5 : decode cX6_removeMix 5 = .ok (.aload_n 0, 1) := by decide +kernel
theorem dX6_removeMix_6 : decode cX6_removeMix 6 = .ok (.invokevirtual 42, 3) := by decide +kernel
theorem dX6_removeMix_9 : decode cX6_removeMix 9 = .ok (.aload_n 0, 1) := by decide +kernel
theorem dX6_removeMix_10 : decode cX6_removeMix 10 = .ok (.getfield 10, 3) := by decide +kernel
theorem dX6_removeMix_13 : decode cX6_removeMix 13 = .ok (.getfield 90, 3) := by decide +kernel
theorem dX6_removeMix_16 : decode cX6_removeMix 16 = .ok (.iload_n 1, 1) := by decide +kernel
theorem dX6_removeMix_17 : decode cX6_removeMix 17 = .ok (.invokevirtual 107, 3) := by decide +kernel
theorem dX6_removeMix_20 : decode cX6_removeMix 20 = .ok (.aload_n 0, 1) := by decide +kernel
theorem dX6_removeMix_21 : decode cX6_removeMix 21 = .ok (.getfield 10, 3) := by decide +kernel
theorem dX6_removeMix_24 : decode cX6_removeMix 24 = .ok (.getfield 90, 3) := by decide +kernel
theorem dX6_removeMix_27 : decode cX6_removeMix 27 = .ok (.getfield 100, 3) := by decide +kernel
theorem dX6_removeMix_30 : decode cX6_removeMix 30 = .ok (.ireturn, 1) := by decide +kernel
theorem dX6_clearMixes_0 : decode cX6_clearMixes 0 = .ok (.iload_n 1, 1) := by decide +kernel
theorem dX6_clearMixes_1 : decode cX6_clearMixes 1 = .ok (.invokestatic 77, 3) := by decide +kernel
theorem dX6_clearMixes_4 : decode cX6_clearMixes 4 = .ok (.aload_n 0, 1) := by decide +kernel
theorem dX6_clearMixes_5 : decode cX6_clearMixes 5 = .ok (.invokevirtual 42, 3) := by decide +kernel
theorem dX6_clearMixes_8 : decode cX6_clearMixes 8 = .ok (.aload_n 0, 1) := by decide +kernel
theorem dX6_clearMixes_9 : decode cX6_clearMixes 9 = .ok (.getfield 10, 3) := by decide +kernel
theorem dX6_clearMixes_12 : decode cX6_clearMixes 12 = .ok (.getfield 90, 3) := by decide +kernel
theorem dX6_clearMixes_15 : decode cX6_clearMixes 15 = .ok (.iload_n 1, 1) := by decide +kernel
theorem dX6_clearMixes_16 : decode cX6_clearMixes 16 = .ok (.invokevirtual 110, 3) := by decide +kernel
theorem dX6_clearMixes_19 : decode cX6_clearMixes 19 = .ok (.ireturn, 1) := by decide +kernel
theorem dX6_elevons_0 : decode cX6_elevons 0 = .ok (.iload_n 1, 1) := by decide +kernel
theorem dX6_elevons_1 : decode cX6_elevons 1 = .ok (.invokestatic 77, 3) := by decide +kernel
theorem dX6_elevons_4 : decode cX6_elevons 4 = .ok (.iload_n 2, 1) := by decide +kernel
theorem dX6_elevons_5 : decode cX6_elevons 5 = .ok (.invokestatic 77, 3) := by decide +kernel
theorem dX6_elevons_8 : decode cX6_elevons 8 = .ok (.iload_n 1, 1) := by decide +kernel
theorem dX6_elevons_9 : decode cX6_elevons 9 = .ok (.iload_n 2, 1) := by decide +kernel
theorem dX6_elevons_10 : decode cX6_elevons 10 = .ok (.if_icmp .ne 13, 3) := by decide +kernel
theorem dX6_elevons_13 : decode cX6_elevons 13 = .ok (.new 80, 3) := by decide +kernel
theorem dX6_elevons_16 : decode cX6_elevons 16 = .ok (.dup, 1) := by decide +kernel
theorem dX6_elevons_17 : decode cX6_elevons 17 = .ok (.ldc 113, 2) := by decide +kernel
theorem dX6_elevons_19 : decode cX6_elevons 19 = .ok (.invokespecial 84, 3) := by decide +kernel
theorem dX6_elevons_22 : decode cX6_elevons 22 = .ok (.athrow, 1) := by decide +kernel
theorem dX6_elevons_23 : decode cX6_elevons 23 = .ok (.iload_n 3, 1) := by decide +kernel
theorem dX6_elevons_24 : decode cX6_elevons 24 = .ok (.iconst 1, 1) := by decide +kernel
theorem dX6_elevons_25 : decode cX6_elevons 25 = .ok (.sipush 150, 3) := by decide +kernel
theorem dX6_elevons_28 : decode cX6_elevons 28 = .ok (.invokestatic 38, 3) := by decide +kernel
theorem dX6_elevons_31 : decode cX6_elevons 31 = .ok (.aload_n 0, 1) := by decide +kernel
theorem dX6_elevons_32 : decode cX6_elevons 32 = .ok (.iconst 4, 1) := by decide +kernel
theorem dX6_elevons_33 : decode cX6_elevons 33 = .ok (.invokevirtual 87, 3) := by decide +kernel
theorem dX6_elevons_36 : decode cX6_elevons 36 = .ok (.aload_n 0, 1) := by decide +kernel
theorem dX6_elevons_37 : decode cX6_elevons 37 = .ok (.invokevirtual 42, 3) := by decide +kernel
theorem dX6_elevons_40 : decode cX6_elevons 40 = .ok (.aload_n 0, 1) := by decide +kernel
theorem dX6_elevons_41 : decode cX6_elevons 41 = .ok (.getfield 10, 3) := by decide +kernel
theorem dX6_elevons_44 : decode cX6_elevons 44 = .ok (.getfield 90, 3) := by decide +kernel
theorem dX6_elevons_47 : decode cX6_elevons 47 = .ok (.iconst 0, 1) := by decide +kernel
theorem dX6_elevons_48 : decode cX6_elevons 48 = .ok (.iload_n 1, 1) := by decide +kernel
theorem dX6_elevons_49 : decode cX6_elevons 49 = .ok (.iload_n 3, 1) := by decide +kernel
theorem dX6_elevons_50 : decode cX6_elevons 50 = .ok (.iconst 0, 1) := by decide +kernel
theorem dX6_elevons_51 : decode cX6_elevons 51 = .ok (.iconst 0, 1) := by decide +kernel
theorem dX6_elevons_52 : decode cX6_elevons 52 = .ok (.invokevirtual 94, 3) := by decide +kernel
theorem dX6_elevons_55 : decode cX6_elevons 55 = .ok (.aload_n 0, 1) := by decide +kernel
theorem dX6_elevons_56 : decode cX6_elevons 56 = .ok (.getfield 10, 3) := by decide +kernel
theorem dX6_elevons_59 : decode cX6_elevons 59 = .ok (.getfield 90, 3) := by decide +kernel
theorem dX6_elevons_62 : decode cX6_elevons 62 = .ok (.iconst 1, 1) := by decide +kernel
theorem dX6_elevons_63 : decode cX6_elevons 63 = .ok (.iload_n 1, 1) := by decide +kernel
theorem dX6_elevons_64 : decode cX6_elevons 64 = .ok (.iload_n 3, 1) := by decide +kernel
theorem dX6_elevons_65 : decode cX6_elevons 65 = .ok (.iconst 0, 1) := by decide +kernel
theorem dX6_elevons_66 : decode cX6_elevons 66 = .ok (.iconst 0, 1) := by decide +kernel
theorem dX6_elevons_67 : decode cX6_elevons 67 = .ok (.invokevirtual 94, 3) := by decide +kernel
theorem dX6_elevons_70 : decode cX6_elevons 70 = .ok (.aload_n 0, 1) := by decide +kernel
theorem dX6_elevons_71 : decode cX6_elevons 71 = .ok (.getfield 10, 3) := by decide +kernel
theorem dX6_elevons_74 : decode cX6_elevons 74 = .ok (.getfield 90, 3) := by decide +kernel
theorem dX6_elevons_77 : decode cX6_elevons 77 = .ok (.iconst 0, 1) := by decide +kernel
theorem dX6_elevons_78 : decode cX6_elevons 78 = .ok (.iload_n 2, 1) := by decide +kernel
theorem dX6_elevons_79 : decode cX6_elevons 79 = .ok (.iload_n 3, 1) := by decide +kernel
theorem dX6_elevons_80 : decode cX6_elevons 80 = .ok (.ineg, 1) := by decide +kernel
theorem dX6_elevons_81 : decode cX6_elevons 81 = .ok (.iconst 0, 1) := by decide +kernel
theorem dX6_elevons_82 : decode cX6_elevons 82 = .ok (.iconst 0, 1) := by decide +kernel
theorem dX6_elevons_83 : decode cX6_elevons 83 = .ok (.invokevirtual 94, 3) := by decide +kernel
theorem dX6_elevons_86 : decode cX6_elevons 86 = .ok (.aload_n 0, 1) := by decide +kernel
theorem dX6_elevons_87 : decode cX6_elevons 87 = .ok (.getfield 10, 3) := by decide +kernel
theorem dX6_elevons_90 : decode cX6_elevons 90 = .ok (.getfield 90, 3) := by decide +kernel
theorem dX6_elevons_93 : decode cX6_elevons 93 = .ok (.iconst 1, 1) := by decide +kernel
theorem dX6_elevons_94 : decode cX6_elevons 94 = .ok (.iload_n 2, 1) := by decide +kernel
theorem dX6_elevons_95 : decode cX6_elevons 95 = .ok (.iload_n 3, 1) := by decide +kernel
theorem dX6_elevons_96 : decode cX6_elevons 96 = .ok (.iconst 0, 1) := by decide +kernel
theorem dX6_elevons_97 : decode cX6_elevons 97 = .ok (.iconst 0, 1) := by decide +kernel
theorem dX6_elevons_98 : decode cX6_elevons 98 = .ok (.invokevirtual 94, 3) := by decide +kernel
theorem dX6_elevons_101 : decode cX6_elevons 101 = .ok (.aload_n 0, 1) := by decide +kernel
theorem dX6_elevons_102 : decode cX6_elevons 102 = .ok (.getfield 10, 3) := by decide +kernel
theorem dX6_elevons_105 : decode cX6_elevons 105 = .ok (.getfield 90, 3) := by decide +kernel
theorem dX6_elevons_108 : decode cX6_elevons 108 = .ok (.getfield 100, 3) := by decide +kernel
theorem dX6_elevons_111 : decode cX6_elevons 111 = .ok (.ireturn, 1) := by decide +kernel
theorem dX6_mixes_0 : decode cX6_mixes 0 = .ok (.aload_n 0, 1) := by decide +kernel
theorem dX6_mixes_1 : decode cX6_mixes 1 = .ok (.getfield 10, 3) := by decide +kernel
theorem dX6_mixes_4 : decode cX6_mixes 4 = .ok (.getfield 90, 3) := by decide +kernel
theorem dX6_mixes_7 : decode cX6_mixes 7 = .ok (.getfield 100, 3) := by decide +kernel
theorem dX6_mixes_10 : decode cX6_mixes 10 = .ok (.ireturn, 1) := by decide +kernel
theorem dX6_mixSource_0 : decode cX6_mixSource 0 = .ok (.aload_n 0, 1) := by decide +kernel
theorem dX6_mixSource_1 : decode cX6_mixSource 1 = .ok (.iload_n 1, 1) := by decide +kernel
theorem dX6_mixSource_2 : decode cX6_mixSource 2 = .ok (.invokevirtual 104, 3) := by decide +kernel
theorem dX6_mixSource_5 : decode cX6_mixSource 5 = .ok (.aload_n 0, 1) := by decide +kernel
theorem dX6_mixSource_6 : decode cX6_mixSource 6 = .ok (.getfield 10, 3) := by decide +kernel
theorem dX6_mixSource_9 : decode cX6_mixSource 9 = .ok (.getfield 90, 3) := by decide +kernel
theorem dX6_mixSource_12 : decode cX6_mixSource 12 = .ok (.getfield 115, 3) := by decide +kernel
theorem dX6_mixSource_15 : decode cX6_mixSource 15 = .ok (.iload_n 1, 1) := by decide +kernel
theorem dX6_mixSource_16 : decode cX6_mixSource 16 = .ok (.iaload, 1) := by decide +kernel
theorem dX6_mixSource_17 : decode cX6_mixSource 17 = .ok (.ireturn, 1) := by decide +kernel
theorem dX6_mixServo_0 : decode cX6_mixServo 0 = .ok (.aload_n 0, 1) := by decide +kernel
theorem dX6_mixServo_1 : decode cX6_mixServo 1 = .ok (.iload_n 1, 1) := by decide +kernel
theorem dX6_mixServo_2 : decode cX6_mixServo 2 = .ok (.invokevirtual 104, 3) := by decide +kernel
theorem dX6_mixServo_5 : decode cX6_mixServo 5 = .ok (.aload_n 0, 1) := by decide +kernel
theorem dX6_mixServo_6 : decode cX6_mixServo 6 = .ok (.getfield 10, 3) := by decide +kernel
theorem dX6_mixServo_9 : decode cX6_mixServo 9 = .ok (.getfield 90, 3) := by decide +kernel
theorem dX6_mixServo_12 : decode cX6_mixServo 12 = .ok (.getfield 118, 3) := by decide +kernel
theorem dX6_mixServo_15 : decode cX6_mixServo 15 = .ok (.iload_n 1, 1) := by decide +kernel
theorem dX6_mixServo_16 : decode cX6_mixServo 16 = .ok (.iaload, 1) := by decide +kernel
theorem dX6_mixServo_17 : decode cX6_mixServo 17 = .ok (.ireturn, 1) := by decide +kernel
theorem dX6_mixValue_0 : decode cX6_mixValue 0 = .ok (.aload_n 0, 1) := by decide +kernel
theorem dX6_mixValue_1 : decode cX6_mixValue 1 = .ok (.iload_n 1, 1) := by decide +kernel
theorem dX6_mixValue_2 : decode cX6_mixValue 2 = .ok (.invokevirtual 104, 3) := by decide +kernel
theorem dX6_mixValue_5 : decode cX6_mixValue 5 = .ok (.aload_n 0, 1) := by decide +kernel
theorem dX6_mixValue_6 : decode cX6_mixValue 6 = .ok (.getfield 10, 3) := by decide +kernel
theorem dX6_mixValue_9 : decode cX6_mixValue 9 = .ok (.invokevirtual 121, 3) := by decide +kernel
theorem dX6_mixValue_12 : decode cX6_mixValue 12 = .ok (.aload_n 0, 1) := by decide +kernel
theorem dX6_mixValue_13 : decode cX6_mixValue 13 = .ok (.getfield 10, 3) := by decide +kernel
theorem dX6_mixValue_16 : decode cX6_mixValue 16 = .ok (.iload_n 1, 1) := by decide +kernel
theorem dX6_mixValue_17 : decode cX6_mixValue 17 = .ok (.invokevirtual 124, 3) := by decide +kernel
theorem dX6_mixValue_20 : decode cX6_mixValue 20 = .ok (.ireturn, 1) := by decide +kernel
theorem dX6_isActive_0 : decode cX6_isActive 0 = .ok (.aload_n 0, 1) := by decide +kernel
theorem dX6_isActive_1 : decode cX6_isActive 1 = .ok (.iload_n 1, 1) := by decide +kernel
theorem dX6_isActive_2 : decode cX6_isActive 2 = .ok (.invokevirtual 104, 3) := by decide +kernel
theorem dX6_isActive_5 : decode cX6_isActive 5 = .ok (.aload_n 0, 1) := by decide +kernel
theorem dX6_isActive_6 : decode cX6_isActive 6 = .ok (.getfield 10, 3) := by decide +kernel
theorem dX6_isActive_9 : decode cX6_isActive 9 = .ok (.getfield 90, 3) := by decide +kernel
theorem dX6_isActive_12 : decode cX6_isActive 12 = .ok (.iload_n 1, 1) := by decide +kernel
theorem dX6_isActive_13 : decode cX6_isActive 13 = .ok (.aload_n 0, 1) := by decide +kernel
theorem dX6_isActive_14 : decode cX6_isActive 14 = .ok (.getfield 10, 3) := by decide +kernel
theorem dX6_isActive_17 : decode cX6_isActive 17 = .ok (.getfield 45, 3) := by decide +kernel
theorem dX6_isActive_20 : decode cX6_isActive 20 = .ok (.getfield 67, 3) := by decide +kernel
theorem dX6_isActive_23 : decode cX6_isActive 23 = .ok (.invokevirtual 127, 3) := by decide +kernel
theorem dX6_isActive_26 : decode cX6_isActive 26 = .ok (.ireturn, 1) := by decide +kernel
theorem dX6_reverse_0 : decode cX6_reverse 0 = .ok (.iload_n 1, 1) := by decide +kernel
theorem dX6_reverse_1 : decode cX6_reverse 1 = .ok (.invokestatic 77, 3) := by decide +kernel
theorem dX6_reverse_4 : decode cX6_reverse 4 = .ok (.aload_n 0, 1) := by decide +kernel
theorem dX6_reverse_5 : decode cX6_reverse 5 = .ok (.invokevirtual 42, 3) := by decide +kernel
theorem dX6_reverse_8 : decode cX6_reverse 8 = .ok (.aload_n 0, 1) := by decide +kernel
theorem dX6_reverse_9 : decode cX6_reverse 9 = .ok (.getfield 10, 3) := by decide +kernel
theorem dX6_reverse_12 : decode cX6_reverse 12 = .ok (.getfield 131, 3) := by decide +kernel
theorem dX6_reverse_15 : decode cX6_reverse 15 = .ok (.getfield 135, 3) := by decide +kernel
theorem dX6_reverse_18 : decode cX6_reverse 18 = .ok (.iload_n 1, 1) := by decide +kernel
theorem dX6_reverse_19 : decode cX6_reverse 19 = .ok (.aload_n 0, 1) := by decide +kernel
theorem dX6_reverse_20 : decode cX6_reverse 20 = .ok (.getfield 10, 3) := by decide +kernel
theorem dX6_reverse_23 : decode cX6_reverse 23 = .ok (.getfield 131, 3) := by decide +kernel
theorem dX6_reverse_26 : decode cX6_reverse 26 = .ok (.getfield 135, 3) := by decide +kernel
theorem dX6_reverse_29 : decode cX6_reverse 29 = .ok (.iload_n 1, 1) := by decide +kernel
theorem dX6_reverse_30 : decode cX6_reverse 30 = .ok (.iaload, 1) := by decide +kernel
theorem dX6_reverse_31 : decode cX6_reverse 31 = .ok (.ineg, 1) := by decide +kernel
theorem dX6_reverse_32 : decode cX6_reverse 32 = .ok (.iastore, 1) := by decide +kernel
theorem dX6_reverse_33 : decode cX6_reverse 33 = .ok (.aload_n 0, 1) := by decide +kernel
theorem dX6_reverse_34 : decode cX6_reverse 34 = .ok (.getfield 10, 3) := by decide +kernel
theorem dX6_reverse_37 : decode cX6_reverse 37 = .ok (.getfield 131, 3) := by decide +kernel
theorem dX6_reverse_40 : decode cX6_reverse 40 = .ok (.getfield 135, 3) := by decide +kernel
theorem dX6_reverse_43 : decode cX6_reverse 43 = .ok (.iload_n 1, 1) := by decide +kernel
theorem dX6_reverse_44 : decode cX6_reverse 44 = .ok (.iaload, 1) := by decide +kernel
theorem dX6_reverse_45 : decode cX6_reverse 45 = .ok (.ifCond .ge 7, 3) := by decide +kernel
theorem dX6_reverse_48 : decode cX6_reverse 48 = .ok (.iconst 1, 1) := by decide +kernel
theorem dX6_reverse_49 : decode cX6_reverse 49 = .ok (.goto 4, 3) := by decide +kernel
theorem dX6_reverse_52 : decode cX6_reverse 52 = .ok (.iconst 0, 1) := by decide +kernel
theorem dX6_reverse_53 : decode cX6_reverse 53 = .ok (.ireturn, 1) := by decide +kernel
theorem dX6_setNeutral_0 : decode cX6_setNeutral 0 = .ok (.iload_n 1, 1) := by decide +kernel
theorem dX6_setNeutral_1 : decode cX6_setNeutral 1 = .ok (.invokestatic 77, 3) := by decide +kernel
theorem dX6_setNeutral_4 : decode cX6_setNeutral 4 = .ok (.iload_n 2, 1) := by decide +kernel
theorem dX6_setNeutral_5 : decode cX6_setNeutral 5 = .ok (.bipush (-50), 2) := by decide +kernel
theorem dX6_setNeutral_7 : decode cX6_setNeutral 7 = .ok (.bipush 50, 2) := by decide +kernel
theorem dX6_setNeutral_9 : decode cX6_setNeutral 9 = .ok (.invokestatic 38, 3) := by decide +kernel
theorem dX6_setNeutral_12 : decode cX6_setNeutral 12 = .ok (.aload_n 0, 1) := by decide +kernel
theorem dX6_setNeutral_13 : decode cX6_setNeutral 13 = .ok (.invokevirtual 42, 3) := by decide +kernel
theorem dX6_setNeutral_16 : decode cX6_setNeutral 16 = .ok (.aload_n 0, 1) := by decide +kernel
theorem dX6_setNeutral_17 : decode cX6_setNeutral 17 = .ok (.getfield 10, 3) := by decide +kernel
theorem dX6_setNeutral_20 : decode cX6_setNeutral 20 = .ok (.getfield 131, 3) := by decide +kernel
theorem dX6_setNeutral_23 : decode cX6_setNeutral 23 = .ok (.getfield 140, 3) := by decide +kernel
theorem dX6_setNeutral_26 : decode cX6_setNeutral 26 = .ok (.iload_n 1, 1) := by decide +kernel
theorem dX6_setNeutral_27 : decode cX6_setNeutral 27 = .ok (.iaload, 1) := by decide +kernel
theorem dX6_setNeutral_28 : decode cX6_setNeutral 28 = .ok (.istore_n 3, 1) := by decide +kernel
theorem dX6_setNeutral_29 : decode cX6_setNeutral 29 = .ok (.aload_n 0, 1) := by decide +kernel
theorem dX6_setNeutral_30 : decode cX6_setNeutral 30 = .ok (.getfield 10, 3) := by decide +kernel
theorem dX6_setNeutral_33 : decode cX6_setNeutral 33 = .ok (.getfield 131, 3) := by decide +kernel
theorem dX6_setNeutral_36 : decode cX6_setNeutral 36 = .ok (.getfield 140, 3) := by decide +kernel
theorem dX6_setNeutral_39 : decode cX6_setNeutral 39 = .ok (.iload_n 1, 1) := by decide +kernel
theorem dX6_setNeutral_40 : decode cX6_setNeutral 40 = .ok (.iload_n 2, 1) := by decide +kernel
theorem dX6_setNeutral_41 : decode cX6_setNeutral 41 = .ok (.iastore, 1) := by decide +kernel
theorem dX6_setNeutral_42 : decode cX6_setNeutral 42 = .ok (.iload_n 3, 1) := by decide +kernel
theorem dX6_setNeutral_43 : decode cX6_setNeutral 43 = .ok (.ireturn, 1) := by decide +kernel
theorem dX6_setLimits_0 : decode cX6_setLimits 0 = .ok (.iload_n 1, 1) := by decide +kernel
theorem dX6_setLimits_1 : decode cX6_setLimits 1 = .ok (.invokestatic 77, 3) := by decide +kernel
theorem dX6_setLimits_4 : decode cX6_setLimits 4 = .ok (.iload_n 2, 1) := by decide +kernel
theorem dX6_setLimits_5 : decode cX6_setLimits 5 = .ok (.sipush (-150), 3) := by decide +kernel
theorem dX6_setLimits_8 : decode cX6_setLimits 8 = .ok (.iconst 0, 1) := by decide +kernel
theorem dX6_setLimits_9 : decode cX6_setLimits 9 = .ok (.invokestatic 38, 3) := by decide +kernel
theorem dX6_setLimits_12 : decode cX6_setLimits 12 = .ok (.iload_n 3, 1) := by decide +kernel
theorem dX6_setLimits_13 : decode cX6_setLimits 13 = .ok (.iconst 0, 1) := by decide +kernel
theorem dX6_setLimits_14 : decode cX6_setLimits 14 = .ok (.sipush 150, 3) := by decide +kernel
theorem dX6_setLimits_17 : decode cX6_setLimits 17 = .ok (.invokestatic 38, 3) := by decide +kernel
theorem dX6_setLimits_20 : decode cX6_setLimits 20 = .ok (.aload_n 0, 1) := by decide +kernel
theorem dX6_setLimits_21 : decode cX6_setLimits 21 = .ok (.invokevirtual 42, 3) := by decide +kernel
theorem dX6_setLimits_24 : decode cX6_setLimits 24 = .ok (.aload_n 0, 1) := by decide +kernel
theorem dX6_setLimits_25 : decode cX6_setLimits 25 = .ok (.getfield 10, 3) := by decide +kernel
theorem dX6_setLimits_28 : decode cX6_setLimits 28 = .ok (.getfield 131, 3) := by decide +kernel
theorem dX6_setLimits_31 : decode cX6_setLimits 31 = .ok (.getfield 143, 3) := by decide +kernel
theorem dX6_setLimits_34 : decode cX6_setLimits 34 = .ok (.iload_n 1, 1) := by decide +kernel
theorem dX6_setLimits_35 : decode cX6_setLimits 35 = .ok (.iaload, 1) := by decide +kernel
theorem dX6_setLimits_36 : decode cX6_setLimits 36 = .ok (.aload_n 0, 1) := by decide +kernel
theorem dX6_setLimits_37 : decode cX6_setLimits 37 = .ok (.getfield 10, 3) := by decide +kernel
theorem dX6_setLimits_40 : decode cX6_setLimits 40 = .ok (.getfield 131, 3) := by decide +kernel
theorem dX6_setLimits_43 : decode cX6_setLimits 43 = .ok (.getfield 146, 3) := by decide +kernel
theorem dX6_setLimits_46 : decode cX6_setLimits 46 = .ok (.iload_n 1, 1) := by decide +kernel
theorem dX6_setLimits_47 : decode cX6_setLimits 47 = .ok (.iaload, 1) := by decide +kernel
theorem dX6_setLimits_48 : decode cX6_setLimits 48 = .ok (.isub, 1) := by decide +kernel
theorem dX6_setLimits_49 : decode cX6_setLimits 49 = .ok (.istore 4, 2) := by decide +kernel
theorem dX6_setLimits_51 : decode cX6_setLimits 51 = .ok (.aload_n 0, 1) := by decide +kernel
theorem dX6_setLimits_52 : decode cX6_setLimits 52 = .ok (.getfield 10, 3) := by decide +kernel
theorem dX6_setLimits_55 : decode cX6_setLimits 55 = .ok (.getfield 131, 3) := by decide +kernel
theorem dX6_setLimits_58 : decode cX6_setLimits 58 = .ok (.getfield 146, 3) := by decide +kernel
theorem dX6_setLimits_61 : decode cX6_setLimits 61 = .ok (.iload_n 1, 1) := by decide +kernel
theorem dX6_setLimits_62 : decode cX6_setLimits 62 = .ok (.iload_n 2, 1) := by decide +kernel
theorem dX6_setLimits_63 : decode cX6_setLimits 63 = .ok (.iastore, 1) := by decide +kernel
theorem dX6_setLimits_64 : decode cX6_setLimits 64 = .ok (.aload_n 0, 1) := by decide +kernel
theorem dX6_setLimits_65 : decode cX6_setLimits 65 = .ok (.getfield 10, 3) := by decide +kernel
theorem dX6_setLimits_68 : decode cX6_setLimits 68 = .ok (.getfield 131, 3) := by decide +kernel
theorem dX6_setLimits_71 : decode cX6_setLimits 71 = .ok (.getfield 143, 3) := by decide +kernel
theorem dX6_setLimits_74 : decode cX6_setLimits 74 = .ok (.iload_n 1, 1) := by decide +kernel
theorem dX6_setLimits_75 : decode cX6_setLimits 75 = .ok (.iload_n 3, 1) := by decide +kernel
theorem dX6_setLimits_76 : decode cX6_setLimits 76 = .ok (.iastore, 1) := by decide +kernel
theorem dX6_setLimits_77 : decode cX6_setLimits 77 = .ok (.iload 4, 2) := by decide +kernel
theorem dX6_setLimits_79 : decode cX6_setLimits 79 = .ok (.ireturn, 1) := by decide +kernel
theorem dX6_setSpeed_0 : decode cX6_setSpeed 0 = .ok (.iload_n 1, 1) := by decide +kernel
theorem dX6_setSpeed_1 : decode cX6_setSpeed 1 = .ok (.invokestatic 77, 3) := by decide +kernel
theorem dX6_setSpeed_4 : decode cX6_setSpeed 4 = .ok (.iload_n 2, 1) := by decide +kernel
theorem dX6_setSpeed_5 : decode cX6_setSpeed 5 = .ok (.iconst 1, 1) := by decide +kernel
theorem dX6_setSpeed_6 : decode cX6_setSpeed 6 = .ok (.sipush 300, 3) := by decide +kernel
theorem dX6_setSpeed_9 : decode cX6_setSpeed 9 = .ok (.invokestatic 38, 3) := by decide +kernel
theorem dX6_setSpeed_12 : decode cX6_setSpeed 12 = .ok (.aload_n 0, 1) := by decide +kernel
theorem dX6_setSpeed_13 : decode cX6_setSpeed 13 = .ok (.invokevirtual 42, 3) := by decide +kernel
theorem dX6_setSpeed_16 : decode cX6_setSpeed 16 = .ok (.aload_n 0, 1) := by decide +kernel
theorem dX6_setSpeed_17 : decode cX6_setSpeed 17 = .ok (.getfield 10, 3) := by decide +kernel
theorem dX6_setSpeed_20 : decode cX6_setSpeed 20 = .ok (.getfield 131, 3) := by decide +kernel
theorem dX6_setSpeed_23 : decode cX6_setSpeed 23 = .ok (.getfield 149, 3) := by decide +kernel
theorem dX6_setSpeed_26 : decode cX6_setSpeed 26 = .ok (.iload_n 1, 1) := by decide +kernel
theorem dX6_setSpeed_27 : decode cX6_setSpeed 27 = .ok (.iaload, 1) := by decide +kernel
theorem dX6_setSpeed_28 : decode cX6_setSpeed 28 = .ok (.istore_n 3, 1) := by decide +kernel
theorem dX6_setSpeed_29 : decode cX6_setSpeed 29 = .ok (.aload_n 0, 1) := by decide +kernel
theorem dX6_setSpeed_30 : decode cX6_setSpeed 30 = .ok (.getfield 10, 3) := by decide +kernel
theorem dX6_setSpeed_33 : decode cX6_setSpeed 33 = .ok (.getfield 131, 3) := by decide +kernel
theorem dX6_setSpeed_36 : decode cX6_setSpeed 36 = .ok (.getfield 149, 3) := by decide +kernel
theorem dX6_setSpeed_39 : decode cX6_setSpeed 39 = .ok (.iload_n 1, 1) := by decide +kernel
theorem dX6_setSpeed_40 : decode cX6_setSpeed 40 = .ok (.iload_n 2, 1) := by decide +kernel
theorem dX6_setSpeed_41 : decode cX6_setSpeed 41 = .ok (.iastore, 1) := by decide +kernel
theorem dX6_setSpeed_42 : decode cX6_setSpeed 42 = .ok (.iload_n 3, 1) := by decide +kernel
theorem dX6_setSpeed_43 : decode cX6_setSpeed 43 = .ok (.ireturn, 1) := by decide +kernel
theorem dX6_setFailsafe_0 : decode cX6_setFailsafe 0 = .ok (.iload_n 1, 1) := by decide +kernel
theorem dX6_setFailsafe_1 : decode cX6_setFailsafe 1 = .ok (.invokestatic 77, 3) := by decide +kernel
theorem dX6_setFailsafe_4 : decode cX6_setFailsafe 4 = .ok (.iload_n 2, 1) := by decide +kernel
theorem dX6_setFailsafe_5 : decode cX6_setFailsafe 5 = .ok (.iconst 0, 1) := by decide +kernel
theorem dX6_setFailsafe_6 : decode cX6_setFailsafe 6 = .ok (.iconst 2, 1) := by decide +kernel
theorem dX6_setFailsafe_7 : decode cX6_setFailsafe 7 = .ok (.invokestatic 38, 3) := by decide +kernel
theorem dX6_setFailsafe_10 : decode cX6_setFailsafe 10 = .ok (.iload_n 3, 1) := by decide +kernel
theorem dX6_setFailsafe_11 : decode cX6_setFailsafe 11 = .ok (.sipush (-150), 3) := by decide +kernel
theorem dX6_setFailsafe_14 : decode cX6_setFailsafe 14 = .ok (.sipush 150, 3) := by decide +kernel
theorem dX6_setFailsafe_17 : decode cX6_setFailsafe 17 = .ok (.invokestatic 38, 3) := by decide +kernel
theorem dX6_setFailsafe_20 : decode cX6_setFailsafe 20 = .ok (.aload_n 0, 1) := by decide +kernel
theorem dX6_setFailsafe_21 : decode cX6_setFailsafe 21 = .ok (.invokevirtual 42, 3) := by decide +kernel
theorem dX6_setFailsafe_24 : decode cX6_setFailsafe 24 = .ok (.aload_n 0, 1) := by decide +kernel
theorem dX6_setFailsafe_25 : decode cX6_setFailsafe 25 = .ok (.getfield 10, 3) := by decide +kernel
theorem dX6_setFailsafe_28 : decode cX6_setFailsafe 28 = .ok (.getfield 131, 3) := by decide +kernel
theorem dX6_setFailsafe_31 : decode cX6_setFailsafe 31 = .ok (.getfield 152, 3) := by decide +kernel
theorem dX6_setFailsafe_34 : decode cX6_setFailsafe 34 = .ok (.iload_n 1, 1) := by decide +kernel
theorem dX6_setFailsafe_35 : decode cX6_setFailsafe 35 = .ok (.iaload, 1) := by decide +kernel
theorem dX6_setFailsafe_36 : decode cX6_setFailsafe 36 = .ok (.istore 4, 2) := by decide +kernel
theorem dX6_setFailsafe_38 : decode cX6_setFailsafe 38 = .ok (.aload_n 0, 1) := by decide +kernel
theorem dX6_setFailsafe_39 : decode cX6_setFailsafe 39 = .ok (.getfield 10, 3) := by decide +kernel
theorem dX6_setFailsafe_42 : decode cX6_setFailsafe 42 = .ok (.getfield 131, 3) := by decide +kernel
theorem dX6_setFailsafe_45 : decode cX6_setFailsafe 45 = .ok (.getfield 152, 3) := by decide +kernel
theorem dX6_setFailsafe_48 : decode cX6_setFailsafe 48 = .ok (.iload_n 1, 1) := by decide +kernel
theorem dX6_setFailsafe_49 : decode cX6_setFailsafe 49 = .ok (.iload_n 2, 1) := by decide +kernel
theorem dX6_setFailsafe_50 : decode cX6_setFailsafe 50 = .ok (.iastore, 1) := by decide +kernel
theorem dX6_setFailsafe_51 : decode cX6_setFailsafe 51 = .ok (.aload_n 0, 1) := by decide +kernel
theorem dX6_setFailsafe_52 : decode cX6_setFailsafe 52 = .ok (.getfield 10, 3) := by decide +kernel
theorem dX6_setFailsafe_55 : decode cX6_setFailsafe 55 = .ok (.getfield 131, 3) := by decide +kernel
theorem dX6_setFailsafe_58 : decode cX6_setFailsafe 58 = .ok (.getfield 155, 3) := by decide +kernel
theorem dX6_setFailsafe_61 : decode cX6_setFailsafe 61 = .ok (.iload_n 1, 1) := by decide +kernel
theorem dX6_setFailsafe_62 : decode cX6_setFailsafe 62 = .ok (.iload_n 3, 1) := by decide +kernel
theorem dX6_setFailsafe_63 : decode cX6_setFailsafe 63 = .ok (.iastore, 1) := by decide +kernel
theorem dX6_setFailsafe_64 : decode cX6_setFailsafe 64 = .ok (.iload 4, 2) := by decide +kernel
theorem dX6_setFailsafe_66 : decode cX6_setFailsafe 66 = .ok (.ireturn, 1) := by decide +kernel
theorem dX6_demand_0 : decode cX6_demand 0 = .ok (.iload_n 1, 1) := by decide +kernel
theorem dX6_demand_1 : decode cX6_demand 1 = .ok (.invokestatic 77, 3) := by decide +kernel
theorem dX6_demand_4 : decode cX6_demand 4 = .ok (.aload_n 0, 1) := by decide +kernel
theorem dX6_demand_5 : decode cX6_demand 5 = .ok (.getfield 10, 3) := by decide +kernel
theorem dX6_demand_8 : decode cX6_demand 8 = .ok (.invokevirtual 121, 3) := by decide +kernel
theorem dX6_demand_11 : decode cX6_demand 11 = .ok (.aload_n 0, 1) := by decide +kernel
theorem dX6_demand_12 : decode cX6_demand 12 = .ok (.getfield 10, 3) := by decide +kernel
theorem dX6_demand_15 : decode cX6_demand 15 = .ok (.getfield 158, 3) := by decide +kernel
theorem dX6_demand_18 : decode cX6_demand 18 = .ok (.iload_n 1, 1) := by decide +kernel
theorem dX6_demand_19 : decode cX6_demand 19 = .ok (.iaload, 1) := by decide +kernel
theorem dX6_demand_20 : decode cX6_demand 20 = .ok (.ireturn, 1) := by decide +kernel
theorem dX6_aim_0 : decode cX6_aim 0 = .ok (.iload_n 1, 1) := by decide +kernel
theorem dX6_aim_1 : decode cX6_aim 1 = .ok (.invokestatic 77, 3) := by decide +kernel
theorem dX6_aim_4 : decode cX6_aim 4 = .ok (.aload_n 0, 1) := by decide +kernel
theorem dX6_aim_5 : decode cX6_aim 5 = .ok (.getfield 10, 3) := by decide +kernel
theorem dX6_aim_8 : decode cX6_aim 8 = .ok (.invokevirtual 121, 3) := by decide +kernel
theorem dX6_aim_11 : decode cX6_aim 11 = .ok (.aload_n 0, 1) := by decide +kernel
theorem dX6_aim_12 : decode cX6_aim 12 = .ok (.getfield 10, 3) := by decide +kernel
theorem dX6_aim_15 : decode cX6_aim 15 = .ok (.iload_n 1, 1) := by decide +kernel
theorem dX6_aim_16 : decode cX6_aim 16 = .ok (.invokevirtual 161, 3) := by decide +kernel
theorem dX6_aim_19 : decode cX6_aim 19 = .ok (.ireturn, 1) := by decide +kernel
theorem dX6_excess_0 : decode cX6_excess 0 = .ok (.iload_n 1, 1) := by decide +kernel
theorem dX6_excess_1 : decode cX6_excess 1 = .ok (.invokestatic 77, 3) := by decide +kernel
theorem dX6_excess_4 : decode cX6_excess 4 = .ok (.aload_n 0, 1) := by decide +kernel
theorem dX6_excess_5 : decode cX6_excess 5 = .ok (.getfield 10, 3) := by decide +kernel
theorem dX6_excess_8 : decode cX6_excess 8 = .ok (.invokevirtual 121, 3) := by decide +kernel
theorem dX6_excess_11 : decode cX6_excess 11 = .ok (.aload_n 0, 1) := by decide +kernel
theorem dX6_excess_12 : decode cX6_excess 12 = .ok (.getfield 10, 3) := by decide +kernel
theorem dX6_excess_15 : decode cX6_excess 15 = .ok (.iload_n 1, 1) := by decide +kernel
theorem dX6_excess_16 : decode cX6_excess 16 = .ok (.invokevirtual 164, 3) := by decide +kernel
theorem dX6_excess_19 : decode cX6_excess 19 = .ok (.aload_n 0, 1) := by decide +kernel
theorem dX6_excess_20 : decode cX6_excess 20 = .ok (.getfield 10, 3) := by decide +kernel
theorem dX6_excess_23 : decode cX6_excess 23 = .ok (.iload_n 1, 1) := by decide +kernel
theorem dX6_excess_24 : decode cX6_excess 24 = .ok (.invokevirtual 161, 3) := by decide +kernel
theorem dX6_excess_27 : decode cX6_excess 27 = .ok (.isub, 1) := by decide +kernel
theorem dX6_excess_28 : decode cX6_excess 28 = .ok (.ireturn, 1) := by decide +kernel
theorem dX6_target_0 : decode cX6_target 0 = .ok (.iload_n 1, 1) := by decide +kernel
theorem dX6_target_1 : decode cX6_target 1 = .ok (.invokestatic 77, 3) := by decide +kernel
theorem dX6_target_4 : decode cX6_target 4 = .ok (.aload_n 0, 1) := by decide +kernel
theorem dX6_target_5 : decode cX6_target 5 = .ok (.getfield 10, 3) := by decide +kernel
theorem dX6_target_8 : decode cX6_target 8 = .ok (.getfield 131, 3) := by decide +kernel
theorem dX6_target_11 : decode cX6_target 11 = .ok (.getfield 167, 3) := by decide +kernel
theorem dX6_target_14 : decode cX6_target 14 = .ok (.iload_n 1, 1) := by decide +kernel
theorem dX6_target_15 : decode cX6_target 15 = .ok (.iaload, 1) := by decide +kernel
theorem dX6_target_16 : decode cX6_target 16 = .ok (.ireturn, 1) := by decide +kernel
theorem dX6_servoPosition_0 : decode cX6_servoPosition 0 = .ok (.iload_n 1, 1) := by decide +kernel
theorem dX6_servoPosition_1 : decode cX6_servoPosition 1 = .ok (.invokestatic 77, 3) := by decide +kernel
theorem dX6_servoPosition_4 : decode cX6_servoPosition 4 = .ok (.aload_n 0, 1) := by decide +kernel
theorem dX6_servoPosition_5 : decode cX6_servoPosition 5 = .ok (.getfield 10, 3) := by decide +kernel
theorem dX6_servoPosition_8 : decode cX6_servoPosition 8 = .ok (.getfield 131, 3) := by decide +kernel
theorem dX6_servoPosition_11 : decode cX6_servoPosition 11 = .ok (.getfield 170, 3) := by decide +kernel
theorem dX6_servoPosition_14 : decode cX6_servoPosition 14 = .ok (.iload_n 1, 1) := by decide +kernel
theorem dX6_servoPosition_15 : decode cX6_servoPosition 15 = .ok (.iaload, 1) := by decide +kernel
theorem dX6_servoPosition_16 : decode cX6_servoPosition 16 = .ok (.ireturn, 1) := by decide +kernel
theorem dX6_wear_0 : decode cX6_wear 0 = .ok (.iload_n 1, 1) := by decide +kernel
theorem dX6_wear_1 : decode cX6_wear 1 = .ok (.invokestatic 77, 3) := by decide +kernel
theorem dX6_wear_4 : decode cX6_wear 4 = .ok (.aload_n 0, 1) := by decide +kernel
theorem dX6_wear_5 : decode cX6_wear 5 = .ok (.getfield 10, 3) := by decide +kernel
theorem dX6_wear_8 : decode cX6_wear 8 = .ok (.getfield 131, 3) := by decide +kernel
theorem dX6_wear_11 : decode cX6_wear 11 = .ok (.getfield 171, 3) := by decide +kernel
theorem dX6_wear_14 : decode cX6_wear 14 = .ok (.iload_n 1, 1) := by decide +kernel
theorem dX6_wear_15 : decode cX6_wear 15 = .ok (.iaload, 1) := by decide +kernel
theorem dX6_wear_16 : decode cX6_wear 16 = .ok (.ireturn, 1) := by decide +kernel
theorem dX6_send_0 : decode cX6_send 0 = .ok (.iload_n 1, 1) := by decide +kernel
theorem dX6_send_1 : decode cX6_send 1 = .ok (.iconst 1, 1) := by decide +kernel
theorem dX6_send_2 : decode cX6_send 2 = .ok (.bipush 50, 2) := by decide +kernel
theorem dX6_send_4 : decode cX6_send 4 = .ok (.invokestatic 38, 3) := by decide +kernel
theorem dX6_send_7 : decode cX6_send 7 = .ok (.aload_n 0, 1) := by decide +kernel
theorem dX6_send_8 : decode cX6_send 8 = .ok (.invokevirtual 42, 3) := by decide +kernel
theorem dX6_send_11 : decode cX6_send 11 = .ok (.aload_n 0, 1) := by decide +kernel
theorem dX6_send_12 : decode cX6_send 12 = .ok (.getfield 10, 3) := by decide +kernel
theorem dX6_send_15 : decode cX6_send 15 = .ok (.iload_n 1, 1) := by decide +kernel
theorem dX6_send_16 : decode cX6_send 16 = .ok (.iconst 1, 1) := by decide +kernel
theorem dX6_send_17 : decode cX6_send 17 = .ok (.invokevirtual 174, 3) := by decide +kernel
theorem dX6_send_20 : decode cX6_send 20 = .ok (.ireturn, 1) := by decide +kernel
theorem dX6_lose_0 : decode cX6_lose 0 = .ok (.iload_n 1, 1) := by decide +kernel
theorem dX6_lose_1 : decode cX6_lose 1 = .ok (.iconst 1, 1) := by decide +kernel
theorem dX6_lose_2 : decode cX6_lose 2 = .ok (.bipush 50, 2) := by decide +kernel
theorem dX6_lose_4 : decode cX6_lose 4 = .ok (.invokestatic 38, 3) := by decide +kernel
theorem dX6_lose_7 : decode cX6_lose 7 = .ok (.aload_n 0, 1) := by decide +kernel
theorem dX6_lose_8 : decode cX6_lose 8 = .ok (.invokevirtual 42, 3) := by decide +kernel
theorem dX6_lose_11 : decode cX6_lose 11 = .ok (.aload_n 0, 1) := by decide +kernel
theorem dX6_lose_12 : decode cX6_lose 12 = .ok (.getfield 10, 3) := by decide +kernel
theorem dX6_lose_15 : decode cX6_lose 15 = .ok (.iload_n 1, 1) := by decide +kernel
theorem dX6_lose_16 : decode cX6_lose 16 = .ok (.iconst 0, 1) := by decide +kernel
theorem dX6_lose_17 : decode cX6_lose 17 = .ok (.invokevirtual 174, 3) := by decide +kernel
theorem dX6_lose_20 : decode cX6_lose 20 = .ok (.ireturn, 1) := by decide +kernel
theorem dX6_setDelay_0 : decode cX6_setDelay 0 = .ok (.iload_n 1, 1) := by decide +kernel
theorem dX6_setDelay_1 : decode cX6_setDelay 1 = .ok (.iconst 1, 1) := by decide +kernel
theorem dX6_setDelay_2 : decode cX6_setDelay 2 = .ok (.bipush 50, 2) := by decide +kernel
theorem dX6_setDelay_4 : decode cX6_setDelay 4 = .ok (.invokestatic 38, 3) := by decide +kernel
theorem dX6_setDelay_7 : decode cX6_setDelay 7 = .ok (.aload_n 0, 1) := by decide +kernel
theorem dX6_setDelay_8 : decode cX6_setDelay 8 = .ok (.invokevirtual 42, 3) := by decide +kernel
theorem dX6_setDelay_11 : decode cX6_setDelay 11 = .ok (.aload_n 0, 1) := by decide +kernel
theorem dX6_setDelay_12 : decode cX6_setDelay 12 = .ok (.getfield 10, 3) := by decide +kernel
theorem dX6_setDelay_15 : decode cX6_setDelay 15 = .ok (.getfield 178, 3) := by decide +kernel
theorem dX6_setDelay_18 : decode cX6_setDelay 18 = .ok (.getfield 182, 3) := by decide +kernel
theorem dX6_setDelay_21 : decode cX6_setDelay 21 = .ok (.istore_n 2, 1) := by decide +kernel
theorem dX6_setDelay_22 : decode cX6_setDelay 22 = .ok (.aload_n 0, 1) := by decide +kernel
theorem dX6_setDelay_23 : decode cX6_setDelay 23 = .ok (.getfield 10, 3) := by decide +kernel
theorem dX6_setDelay_26 : decode cX6_setDelay 26 = .ok (.getfield 178, 3) := by decide +kernel
theorem dX6_setDelay_29 : decode cX6_setDelay 29 = .ok (.iload_n 1, 1) := by decide +kernel
theorem dX6_setDelay_30 : decode cX6_setDelay 30 = .ok (.putfield 182, 3) := by decide +kernel
theorem dX6_setDelay_33 : decode cX6_setDelay 33 = .ok (.iload_n 2, 1) := by decide +kernel
theorem dX6_setDelay_34 : decode cX6_setDelay 34 = .ok (.ireturn, 1) := by decide +kernel
theorem dX6_charge_0 : decode cX6_charge 0 = .ok (.aload_n 0, 1) := by decide +kernel
theorem dX6_charge_1 : decode cX6_charge 1 = .ok (.invokevirtual 42, 3) := by decide +kernel
theorem dX6_charge_4 : decode cX6_charge 4 = .ok (.sipush 20000, 3) := by decide +kernel
theorem dX6_charge_7 : decode cX6_charge 7 = .ok (.aload_n 0, 1) := by decide +kernel
theorem dX6_charge_8 : decode cX6_charge 8 = .ok (.getfield 10, 3) := by decide +kernel
theorem dX6_charge_11 : decode cX6_charge 11 = .ok (.getfield 178, 3) := by decide +kernel
theorem dX6_charge_14 : decode cX6_charge 14 = .ok (.getfield 187, 3) := by decide +kernel
theorem dX6_charge_17 : decode cX6_charge 17 = .ok (.isub, 1) := by decide +kernel
theorem dX6_charge_18 : decode cX6_charge 18 = .ok (.istore_n 1, 1) := by decide +kernel
theorem dX6_charge_19 : decode cX6_charge 19 = .ok (.aload_n 0, 1) := by decide +kernel
theorem dX6_charge_20 : decode cX6_charge 20 = .ok (.getfield 10, 3) := by decide +kernel
theorem dX6_charge_23 : decode cX6_charge 23 = .ok (.getfield 178, 3) := by decide +kernel
theorem dX6_charge_26 : decode cX6_charge 26 = .ok (.sipush 20000, 3) := by decide +kernel
theorem dX6_charge_29 : decode cX6_charge 29 = .ok (.putfield 187, 3) := by decide +kernel
theorem dX6_charge_32 : decode cX6_charge 32 = .ok (.aload_n 0, 1) := by decide +kernel
theorem dX6_charge_33 : decode cX6_charge 33 = .ok (.getfield 10, 3) := by decide +kernel
theorem dX6_charge_36 : decode cX6_charge 36 = .ok (.getfield 178, 3) := by decide +kernel
theorem dX6_charge_39 : decode cX6_charge 39 = .ok (.dup, 1) := by decide +kernel
theorem dX6_charge_40 : decode cX6_charge 40 = .ok (.getfield 190, 3) := by decide +kernel
theorem dX6_charge_43 : decode cX6_charge 43 = .ok (.iload_n 1, 1) := by decide +kernel
theorem dX6_charge_44 : decode cX6_charge 44 = .ok (.iadd, 1) := by decide +kernel
theorem dX6_charge_45 : decode cX6_charge 45 = .ok (.putfield 190, 3) := by decide +kernel
theorem dX6_charge_48 : decode cX6_charge 48 = .ok (.iload_n 1, 1) := by decide +kernel
theorem dX6_charge_49 : decode cX6_charge 49 = .ok (.ireturn, 1) := by decide +kernel
theorem dX6_battery_0 : decode cX6_battery 0 = .ok (.aload_n 0, 1) := by decide +kernel
theorem dX6_battery_1 : decode cX6_battery 1 = .ok (.getfield 10, 3) := by decide +kernel
theorem dX6_battery_4 : decode cX6_battery 4 = .ok (.getfield 178, 3) := by decide +kernel
theorem dX6_battery_7 : decode cX6_battery 7 = .ok (.getfield 187, 3) := by decide +kernel
theorem dX6_battery_10 : decode cX6_battery 10 = .ok (.ireturn, 1) := by decide +kernel
theorem dX6_charged_0 : decode cX6_charged 0 = .ok (.aload_n 0, 1) := by decide +kernel
theorem dX6_charged_1 : decode cX6_charged 1 = .ok (.getfield 10, 3) := by decide +kernel
theorem dX6_charged_4 : decode cX6_charged 4 = .ok (.getfield 178, 3) := by decide +kernel
theorem dX6_charged_7 : decode cX6_charged 7 = .ok (.getfield 190, 3) := by decide +kernel
theorem dX6_charged_10 : decode cX6_charged 10 = .ok (.ireturn, 1) := by decide +kernel
theorem dX6_frames_0 : decode cX6_frames 0 = .ok (.aload_n 0, 1) := by decide +kernel
theorem dX6_frames_1 : decode cX6_frames 1 = .ok (.getfield 10, 3) := by decide +kernel
theorem dX6_frames_4 : decode cX6_frames 4 = .ok (.getfield 178, 3) := by decide +kernel
theorem dX6_frames_7 : decode cX6_frames 7 = .ok (.getfield 193, 3) := by decide +kernel
theorem dX6_frames_10 : decode cX6_frames 10 = .ok (.ireturn, 1) := by decide +kernel
theorem dX6_lostFrames_0 : decode cX6_lostFrames 0 = .ok (.aload_n 0, 1) := by decide +kernel
theorem dX6_lostFrames_1 : decode cX6_lostFrames 1 = .ok (.getfield 10, 3) := by decide +kernel
theorem dX6_lostFrames_4 : decode cX6_lostFrames 4 = .ok (.getfield 178, 3) := by decide +kernel
theorem dX6_lostFrames_7 : decode cX6_lostFrames 7 = .ok (.getfield 196, 3) := by decide +kernel
theorem dX6_lostFrames_10 : decode cX6_lostFrames 10 = .ok (.ireturn, 1) := by decide +kernel
theorem dX6_deadFrames_0 : decode cX6_deadFrames 0 = .ok (.aload_n 0, 1) := by decide +kernel
theorem dX6_deadFrames_1 : decode cX6_deadFrames 1 = .ok (.getfield 10, 3) := by decide +kernel
theorem dX6_deadFrames_4 : decode cX6_deadFrames 4 = .ok (.getfield 178, 3) := by decide +kernel
theorem dX6_deadFrames_7 : decode cX6_deadFrames 7 = .ok (.getfield 199, 3) := by decide +kernel
theorem dX6_deadFrames_10 : decode cX6_deadFrames 10 = .ok (.ireturn, 1) := by decide +kernel
theorem dX6_lostInRow_0 : decode cX6_lostInRow 0 = .ok (.aload_n 0, 1) := by decide +kernel
theorem dX6_lostInRow_1 : decode cX6_lostInRow 1 = .ok (.getfield 10, 3) := by decide +kernel
theorem dX6_lostInRow_4 : decode cX6_lostInRow 4 = .ok (.getfield 178, 3) := by decide +kernel
theorem dX6_lostInRow_7 : decode cX6_lostInRow 7 = .ok (.getfield 202, 3) := by decide +kernel
theorem dX6_lostInRow_10 : decode cX6_lostInRow 10 = .ok (.ireturn, 1) := by decide +kernel
theorem dX6_isFailsafe_0 : decode cX6_isFailsafe 0 = .ok (.aload_n 0, 1) := by decide +kernel
theorem dX6_isFailsafe_1 : decode cX6_isFailsafe 1 = .ok (.getfield 10, 3) := by decide +kernel
theorem dX6_isFailsafe_4 : decode cX6_isFailsafe 4 = .ok (.getfield 178, 3) := by decide +kernel
theorem dX6_isFailsafe_7 : decode cX6_isFailsafe 7 = .ok (.getfield 205, 3) := by decide +kernel
theorem dX6_isFailsafe_10 : decode cX6_isFailsafe 10 = .ok (.ireturn, 1) := by decide +kernel
theorem dX6_reason_0 : decode cX6_reason 0 = .ok (.iload_n 1, 1) := by decide +kernel
theorem dX6_reason_1 : decode cX6_reason 1 = .ok (.invokestatic 77, 3) := by decide +kernel
theorem dX6_reason_4 : decode cX6_reason 4 = .ok (.aload_n 0, 1) := by decide +kernel
theorem dX6_reason_5 : decode cX6_reason 5 = .ok (.getfield 10, 3) := by decide +kernel
theorem dX6_reason_8 : decode cX6_reason 8 = .ok (.invokevirtual 121, 3) := by decide +kernel
theorem dX6_reason_11 : decode cX6_reason 11 = .ok (.aload_n 0, 1) := by decide +kernel
theorem dX6_reason_12 : decode cX6_reason 12 = .ok (.getfield 10, 3) := by decide +kernel
theorem dX6_reason_15 : decode cX6_reason 15 = .ok (.getfield 131, 3) := by decide +kernel
theorem dX6_reason_18 : decode cX6_reason 18 = .ok (.getfield 170, 3) := by decide +kernel
theorem dX6_reason_21 : decode cX6_reason 21 = .ok (.iload_n 1, 1) := by decide +kernel
theorem dX6_reason_22 : decode cX6_reason 22 = .ok (.iaload, 1) := by decide +kernel
theorem dX6_reason_23 : decode cX6_reason 23 = .ok (.aload_n 0, 1) := by decide +kernel
theorem dX6_reason_24 : decode cX6_reason 24 = .ok (.getfield 10, 3) := by decide +kernel
theorem dX6_reason_27 : decode cX6_reason 27 = .ok (.iload_n 1, 1) := by decide +kernel
theorem dX6_reason_28 : decode cX6_reason 28 = .ok (.invokevirtual 161, 3) := by decide +kernel
theorem dX6_reason_31 : decode cX6_reason 31 = .ok (.if_icmp .ne 5, 3) := by decide +kernel
theorem dX6_reason_34 : decode cX6_reason 34 = .ok (.iconst 0, 1) := by decide +kernel
theorem dX6_reason_35 : decode cX6_reason 35 = .ok (.ireturn, 1) := by decide +kernel
theorem dX6_reason_36 : decode cX6_reason 36 = .ok (.aload_n 0, 1) := by decide +kernel
theorem dX6_reason_37 : decode cX6_reason 37 = .ok (.getfield 10, 3) := by decide +kernel
theorem dX6_reason_40 : decode cX6_reason 40 = .ok (.getfield 178, 3) := by decide +kernel
theorem dX6_reason_43 : decode cX6_reason 43 = .ok (.invokevirtual 211, 3) := by decide +kernel
theorem dX6_reason_46 : decode cX6_reason 46 = .ok (.ireturn, 1) := by decide +kernel
theorem dX6_framesToAim_0 : decode cX6_framesToAim 0 = .ok (.iload_n 1, 1) := by decide +kernel
theorem dX6_framesToAim_1 : decode cX6_framesToAim 1 = .ok (.invokestatic 77, 3) := by decide +kernel
theorem dX6_framesToAim_4 : decode cX6_framesToAim 4 = .ok (.aload_n 0, 1) := by decide +kernel
theorem dX6_framesToAim_5 : decode cX6_framesToAim 5 = .ok (.getfield 10, 3) := by decide +kernel
theorem dX6_framesToAim_8 : decode cX6_framesToAim 8 = .ok (.invokevirtual 121, 3) := by decide +kernel
theorem dX6_framesToAim_11 : decode cX6_framesToAim 11 = .ok (.aload_n 0, 1) := by decide +kernel
theorem dX6_framesToAim_12 : decode cX6_framesToAim 12 = .ok (.getfield 10, 3) := by decide +kernel
theorem dX6_framesToAim_15 : decode cX6_framesToAim 15 = .ok (.iload_n 1, 1) := by decide +kernel
theorem dX6_framesToAim_16 : decode cX6_framesToAim 16 = .ok (.invokevirtual 161, 3) := by decide +kernel
theorem dX6_framesToAim_19 : decode cX6_framesToAim 19 = .ok (.aload_n 0, 1) := by decide +kernel
theorem dX6_framesToAim_20 : decode cX6_framesToAim 20 = .ok (.getfield 10, 3) := by decide +kernel
theorem dX6_framesToAim_23 : decode cX6_framesToAim 23 = .ok (.getfield 131, 3) := by decide +kernel
theorem dX6_framesToAim_26 : decode cX6_framesToAim 26 = .ok (.getfield 170, 3) := by decide +kernel
theorem dX6_framesToAim_29 : decode cX6_framesToAim 29 = .ok (.iload_n 1, 1) := by decide +kernel
theorem dX6_framesToAim_30 : decode cX6_framesToAim 30 = .ok (.iaload, 1) := by decide +kernel
theorem dX6_framesToAim_31 : decode cX6_framesToAim 31 = .ok (.isub, 1) := by decide +kernel
theorem dX6_framesToAim_32 : decode cX6_framesToAim 32 = .ok (.invokestatic 215, 3) := by decide +kernel
theorem dX6_framesToAim_35 : decode cX6_framesToAim 35 = .ok (.istore_n 2, 1) := by decide +kernel
theorem dX6_framesToAim_36 : decode cX6_framesToAim 36 = .ok (.iconst 1, 1) := by decide +kernel
theorem dX6_framesToAim_37 : decode cX6_framesToAim 37 = .ok (.aload_n 0, 1) := by decide +kernel
theorem dX6_framesToAim_38 : decode cX6_framesToAim 38 = .ok (.getfield 10, 3) := by decide +kernel
theorem dX6_framesToAim_41 : decode cX6_framesToAim 41 = .ok (.getfield 131, 3) := by decide +kernel
theorem dX6_framesToAim_44 : decode cX6_framesToAim 44 = .ok (.getfield 149, 3) := by decide +kernel
theorem dX6_framesToAim_47 : decode cX6_framesToAim 47 = .ok (.iload_n 1, 1) := by decide +kernel
theorem dX6_framesToAim_48 : decode cX6_framesToAim 48 = .ok (.iaload, 1) := by decide +kernel
theorem dX6_framesToAim_49 : decode cX6_framesToAim 49 = .ok (.invokestatic 220, 3) := by decide +kernel
theorem dX6_framesToAim_52 : decode cX6_framesToAim 52 = .ok (.istore_n 3, 1) := by decide +kernel
theorem dX6_framesToAim_53 : decode cX6_framesToAim 53 = .ok (.iload_n 2, 1) := by decide +kernel
theorem dX6_framesToAim_54 : decode cX6_framesToAim 54 = .ok (.iload_n 3, 1) := by decide +kernel
theorem dX6_framesToAim_55 : decode cX6_framesToAim 55 = .ok (.iadd, 1) := by decide +kernel
theorem dX6_framesToAim_56 : decode cX6_framesToAim 56 = .ok (.iconst 1, 1) := by decide +kernel
theorem dX6_framesToAim_57 : decode cX6_framesToAim 57 = .ok (.isub, 1) := by decide +kernel
theorem dX6_framesToAim_58 : decode cX6_framesToAim 58 = .ok (.iload_n 3, 1) := by decide +kernel
theorem dX6_framesToAim_59 : decode cX6_framesToAim 59 = .ok (.idiv, 1) := by decide +kernel
theorem dX6_framesToAim_60 : decode cX6_framesToAim 60 = .ok (.ireturn, 1) := by decide +kernel
theorem dX6_aimIfMoved_0 : decode cX6_aimIfMoved 0 = .ok (.iload_n 1, 1) := by decide +kernel
theorem dX6_aimIfMoved_1 : decode cX6_aimIfMoved 1 = .ok (.invokestatic 34, 3) := by decide +kernel
theorem dX6_aimIfMoved_4 : decode cX6_aimIfMoved 4 = .ok (.iload_n 3, 1) := by decide +kernel
theorem dX6_aimIfMoved_5 : decode cX6_aimIfMoved 5 = .ok (.invokestatic 77, 3) := by decide +kernel
theorem dX6_aimIfMoved_8 : decode cX6_aimIfMoved 8 = .ok (.iload_n 2, 1) := by decide +kernel
theorem dX6_aimIfMoved_9 : decode cX6_aimIfMoved 9 = .ok (.bipush (-100), 2) := by decide +kernel
theorem dX6_aimIfMoved_11 : decode cX6_aimIfMoved 11 = .ok (.bipush 100, 2) := by decide +kernel
theorem dX6_aimIfMoved_13 : decode cX6_aimIfMoved 13 = .ok (.invokestatic 38, 3) := by decide +kernel
theorem dX6_aimIfMoved_16 : decode cX6_aimIfMoved 16 = .ok (.aload_n 0, 1) := by decide +kernel
theorem dX6_aimIfMoved_17 : decode cX6_aimIfMoved 17 = .ok (.getfield 10, 3) := by decide +kernel
theorem dX6_aimIfMoved_20 : decode cX6_aimIfMoved 20 = .ok (.getfield 45, 3) := by decide +kernel
theorem dX6_aimIfMoved_23 : decode cX6_aimIfMoved 23 = .ok (.getfield 49, 3) := by decide +kernel
theorem dX6_aimIfMoved_26 : decode cX6_aimIfMoved 26 = .ok (.iload_n 1, 1) := by decide +kernel
theorem dX6_aimIfMoved_27 : decode cX6_aimIfMoved 27 = .ok (.iaload, 1) := by decide +kernel
theorem dX6_aimIfMoved_28 : decode cX6_aimIfMoved 28 = .ok (.istore 4, 2) := by decide +kernel
theorem dX6_aimIfMoved_30 : decode cX6_aimIfMoved 30 = .ok (.aload_n 0, 1) := by decide +kernel
theorem dX6_aimIfMoved_31 : decode cX6_aimIfMoved 31 = .ok (.getfield 10, 3) := by decide +kernel
theorem dX6_aimIfMoved_34 : decode cX6_aimIfMoved 34 = .ok (.getfield 45, 3) := by decide +kernel
theorem dX6_aimIfMoved_37 : decode cX6_aimIfMoved 37 = .ok (.getfield 49, 3) := by decide +kernel
theorem dX6_aimIfMoved_40 : decode cX6_aimIfMoved 40 = .ok (.iload_n 1, 1) := by decide +kernel
theorem dX6_aimIfMoved_41 : decode cX6_aimIfMoved 41 = .ok (.iload_n 2, 1) := by decide +kernel
theorem dX6_aimIfMoved_42 : decode cX6_aimIfMoved 42 = .ok (.iastore, 1) := by decide +kernel
theorem dX6_aimIfMoved_43 : decode cX6_aimIfMoved 43 = .ok (.aload_n 0, 1) := by decide +kernel
theorem dX6_aimIfMoved_44 : decode cX6_aimIfMoved 44 = .ok (.getfield 10, 3) := by decide +kernel
theorem dX6_aimIfMoved_47 : decode cX6_aimIfMoved 47 = .ok (.invokevirtual 121, 3) := by decide +kernel
theorem dX6_aimIfMoved_50 : decode cX6_aimIfMoved 50 = .ok (.aload_n 0, 1) := by decide +kernel
theorem dX6_aimIfMoved_51 : decode cX6_aimIfMoved 51 = .ok (.getfield 10, 3) := by decide +kernel
theorem dX6_aimIfMoved_54 : decode cX6_aimIfMoved 54 = .ok (.iload_n 3, 1) := by decide +kernel
theorem dX6_aimIfMoved_55 : decode cX6_aimIfMoved 55 = .ok (.invokevirtual 161, 3) := by decide +kernel
theorem dX6_aimIfMoved_58 : decode cX6_aimIfMoved 58 = .ok (.istore 5, 2) := by decide +kernel
theorem dX6_aimIfMoved_60 : decode cX6_aimIfMoved 60 = .ok (.aload_n 0, 1) := by decide +kernel
theorem dX6_aimIfMoved_61 : decode cX6_aimIfMoved 61 = .ok (.getfield 10, 3) := by decide +kernel
theorem dX6_aimIfMoved_64 : decode cX6_aimIfMoved 64 = .ok (.getfield 45, 3) := by decide +kernel
theorem dX6_aimIfMoved_67 : decode cX6_aimIfMoved 67 = .ok (.getfield 49, 3) := by decide +kernel
theorem dX6_aimIfMoved_70 : decode cX6_aimIfMoved 70 = .ok (.iload_n 1, 1) := by decide +kernel
theorem dX6_aimIfMoved_71 : decode cX6_aimIfMoved 71 = .ok (.iload 4, 2) := by decide +kernel
theorem dX6_aimIfMoved_73 : decode cX6_aimIfMoved 73 = .ok (.iastore, 1) := by decide +kernel
theorem dX6_aimIfMoved_74 : decode cX6_aimIfMoved 74 = .ok (.iload 5, 2) := by decide +kernel
theorem dX6_aimIfMoved_76 : decode cX6_aimIfMoved 76 = .ok (.ireturn, 1) := by decide +kernel
theorem dX6_drivenBy_0 : decode cX6_drivenBy 0 = .ok (.iload_n 1, 1) := by decide +kernel
theorem dX6_drivenBy_1 : decode cX6_drivenBy 1 = .ok (.invokestatic 34, 3) := by decide +kernel
theorem dX6_drivenBy_4 : decode cX6_drivenBy 4 = .ok (.iconst 0, 1) := by decide +kernel
theorem dX6_drivenBy_5 : decode cX6_drivenBy 5 = .ok (.istore_n 2, 1) := by decide +kernel
theorem dX6_drivenBy_6 : decode cX6_drivenBy 6 = .ok (.iconst 0, 1) := by decide +kernel
theorem dX6_drivenBy_7 : decode cX6_drivenBy 7 = .ok (.istore_n 3, 1) := by decide +kernel
theorem dX6_drivenBy_8 : decode cX6_drivenBy 8 = .ok (.iload_n 3, 1) := by decide +kernel
theorem dX6_drivenBy_9 : decode cX6_drivenBy 9 = .ok (.bipush 6, 2) := by decide +kernel
theorem dX6_drivenBy_11 : decode cX6_drivenBy 11 = .ok (.if_icmp .ge 41, 3) := by decide +kernel
theorem dX6_drivenBy_14 : decode cX6_drivenBy 14 = .ok (.aload_n 0, 1) := by decide +kernel
theorem dX6_drivenBy_15 : decode cX6_drivenBy 15 = .ok (.getfield 10, 3) := by decide +kernel
theorem dX6_drivenBy_18 : decode cX6_drivenBy 18 = .ok (.getfield 90, 3) := by decide +kernel
theorem dX6_drivenBy_21 : decode cX6_drivenBy 21 = .ok (.iload_n 3, 1) := by decide +kernel
theorem dX6_drivenBy_22 : decode cX6_drivenBy 22 = .ok (.iload_n 1, 1) := by decide +kernel
theorem dX6_drivenBy_23 : decode cX6_drivenBy 23 = .ok (.iload_n 2, 1) := by decide +kernel
theorem dX6_drivenBy_24 : decode cX6_drivenBy 24 = .ok (.aload_n 0, 1) := by decide +kernel
theorem dX6_drivenBy_25 : decode cX6_drivenBy 25 = .ok (.getfield 10, 3) := by decide +kernel
theorem dX6_drivenBy_28 : decode cX6_drivenBy 28 = .ok (.getfield 45, 3) := by decide +kernel
theorem dX6_drivenBy_31 : decode cX6_drivenBy 31 = .ok (.getfield 67, 3) := by decide +kernel
theorem dX6_drivenBy_34 : decode cX6_drivenBy 34 = .ok (.invokevirtual 224, 3) := by decide +kernel
theorem dX6_drivenBy_37 : decode cX6_drivenBy 37 = .ok (.ifCond .eq 9, 3) := by decide +kernel
theorem dX6_drivenBy_40 : decode cX6_drivenBy 40 = .ok (.iload_n 2, 1) := by decide +kernel
theorem dX6_drivenBy_41 : decode cX6_drivenBy 41 = .ok (.iconst 1, 1) := by decide +kernel
theorem dX6_drivenBy_42 : decode cX6_drivenBy 42 = .ok (.iload_n 3, 1) := by decide +kernel
theorem dX6_drivenBy_43 : decode cX6_drivenBy 43 = .ok (.ishl, 1) := by decide +kernel
theorem dX6_drivenBy_44 : decode cX6_drivenBy 44 = .ok (.ior, 1) := by decide +kernel
theorem dX6_drivenBy_45 : decode cX6_drivenBy 45 = .ok (.istore_n 2, 1) := by decide +kernel
theorem dX6_drivenBy_46 : decode cX6_drivenBy 46 = .ok (.iinc 3 1, 3) := by decide +kernel
theorem dX6_drivenBy_49 : decode cX6_drivenBy 49 = .ok (.goto (-41), 3) := by decide +kernel
theorem dX6_drivenBy_52 : decode cX6_drivenBy 52 = .ok (.iload_n 2, 1) := by decide +kernel
theorem dX6_drivenBy_53 : decode cX6_drivenBy 53 = .ok (.ireturn, 1) := by decide +kernel
theorem dX6_bestTrim_0 : decode cX6_bestTrim 0 = .ok (.iload_n 1, 1) := by decide +kernel
theorem dX6_bestTrim_1 : decode cX6_bestTrim 1 = .ok (.invokestatic 34, 3) := by decide +kernel
theorem dX6_bestTrim_4 : decode cX6_bestTrim 4 = .ok (.iload_n 2, 1) := by decide +kernel
theorem dX6_bestTrim_5 : decode cX6_bestTrim 5 = .ok (.invokestatic 77, 3) := by decide +kernel
theorem dX6_bestTrim_8 : decode cX6_bestTrim 8 = .ok (.aload_n 0, 1) := by decide +kernel
theorem dX6_bestTrim_9 : decode cX6_bestTrim 9 = .ok (.getfield 10, 3) := by decide +kernel
theorem dX6_bestTrim_12 : decode cX6_bestTrim 12 = .ok (.getfield 45, 3) := by decide +kernel
theorem dX6_bestTrim_15 : decode cX6_bestTrim 15 = .ok (.iload_n 1, 1) := by decide +kernel
theorem dX6_bestTrim_16 : decode cX6_bestTrim 16 = .ok (.invokevirtual 54, 3) := by decide +kernel
theorem dX6_bestTrim_19 : decode cX6_bestTrim 19 = .ok (.istore_n 3, 1) := by decide +kernel
theorem dX6_bestTrim_20 : decode cX6_bestTrim 20 = .ok (.aload_n 0, 1) := by decide +kernel
theorem dX6_bestTrim_21 : decode cX6_bestTrim 21 = .ok (.getfield 10, 3) := by decide +kernel
theorem dX6_bestTrim_24 : decode cX6_bestTrim 24 = .ok (.getfield 45, 3) := by decide +kernel
theorem dX6_bestTrim_27 : decode cX6_bestTrim 27 = .ok (.getfield 58, 3) := by decide +kernel
theorem dX6_bestTrim_30 : decode cX6_bestTrim 30 = .ok (.iload_n 3, 1) := by decide +kernel
theorem dX6_bestTrim_31 : decode cX6_bestTrim 31 = .ok (.iaload, 1) := by decide +kernel
theorem dX6_bestTrim_32 : decode cX6_bestTrim 32 = .ok (.istore 4, 2) := by decide +kernel
theorem dX6_bestTrim_34 : decode cX6_bestTrim 34 = .ok (.iconst 0, 1) := by decide +kernel
theorem dX6_bestTrim_35 : decode cX6_bestTrim 35 = .ok (.istore 5, 2) := by decide +kernel
theorem dX6_bestTrim_37 : decode cX6_bestTrim 37 = .ok (.aload_n 0, 1) := by decide +kernel
theorem dX6_bestTrim_38 : decode cX6_bestTrim 38 = .ok (.iload_n 3, 1) := by decide +kernel
theorem dX6_bestTrim_39 : decode cX6_bestTrim 39 = .ok (.iconst 0, 1) := by decide +kernel
theorem dX6_bestTrim_40 : decode cX6_bestTrim 40 = .ok (.iload_n 2, 1) := by decide +kernel
theorem dX6_bestTrim_41 : decode cX6_bestTrim 41 = .ok (.invokevirtual 228, 3) := by decide +kernel
theorem dX6_bestTrim_44 : decode cX6_bestTrim 44 = .ok (.istore 6, 2) := by decide +kernel
theorem dX6_bestTrim_46 : decode cX6_bestTrim 46 = .ok (.iconst 1, 1) := by decide +kernel
theorem dX6_bestTrim_47 : decode cX6_bestTrim 47 = .ok (.istore 7, 2) := by decide +kernel
theorem dX6_bestTrim_49 : decode cX6_bestTrim 49 = .ok (.iload 7, 2) := by decide +kernel
theorem dX6_bestTrim_51 : decode cX6_bestTrim 51 = .ok (.bipush 25, 2) := by decide +kernel
theorem dX6_bestTrim_53 : decode cX6_bestTrim 53 = .ok (.if_icmp .gt 61, 3) := by decide +kernel
theorem dX6_bestTrim_56 : decode cX6_bestTrim 56 = .ok (.aload_n 0, 1) := by decide +kernel
theorem dX6_bestTrim_57 : decode cX6_bestTrim 57 = .ok (.iload_n 3, 1) := by decide +kernel
theorem dX6_bestTrim_58 : decode cX6_bestTrim 58 = .ok (.iload 7, 2) := by decide +kernel
theorem dX6_bestTrim_60 : decode cX6_bestTrim 60 = .ok (.iload_n 2, 1) := by decide +kernel
theorem dX6_bestTrim_61 : decode cX6_bestTrim 61 = .ok (.invokevirtual 228, 3) := by decide +kernel
theorem dX6_bestTrim_64 : decode cX6_bestTrim 64 = .ok (.istore 8, 2) := by decide +kernel
theorem dX6_bestTrim_66 : decode cX6_bestTrim 66 = .ok (.aload_n 0, 1) := by decide +kernel
theorem dX6_bestTrim_67 : decode cX6_bestTrim 67 = .ok (.iload_n 3, 1) := by decide +kernel
theorem dX6_bestTrim_68 : decode cX6_bestTrim 68 = .ok (.iload 7, 2) := by decide +kernel
theorem dX6_bestTrim_70 : decode cX6_bestTrim 70 = .ok (.ineg, 1) := by decide +kernel
theorem dX6_bestTrim_71 : decode cX6_bestTrim 71 = .ok (.iload_n 2, 1) := by decide +kernel
theorem dX6_bestTrim_72 : decode cX6_bestTrim 72 = .ok (.invokevirtual 228, 3) := by decide +kernel
theorem dX6_bestTrim_75 : decode cX6_bestTrim 75 = .ok (.istore 9, 2) := by decide +kernel
theorem dX6_bestTrim_77 : decode cX6_bestTrim 77 = .ok (.iload 8, 2) := by decide +kernel
theorem dX6_bestTrim_79 : decode cX6_bestTrim 79 = .ok (.iload 6, 2) := by decide +kernel
theorem dX6_bestTrim_81 : decode cX6_bestTrim 81 = .ok (.if_icmp .ge 11, 3) := by decide +kernel
theorem dX6_bestTrim_84 : decode cX6_bestTrim 84 = .ok (.iload 7, 2) := by decide +kernel
theorem dX6_bestTrim_86 : decode cX6_bestTrim 86 = .ok (.istore 5, 2) := by decide +kernel
theorem dX6_bestTrim_88 : decode cX6_bestTrim 88 = .ok (.iload 8, 2) := by decide +kernel
theorem dX6_bestTrim_90 : decode cX6_bestTrim 90 = .ok (.istore 6, 2) := by decide +kernel
theorem dX6_bestTrim_92 : decode cX6_bestTrim 92 = .ok (.iload 9, 2) := by decide +kernel
theorem dX6_bestTrim_94 : decode cX6_bestTrim 94 = .ok (.iload 6, 2) := by decide +kernel
theorem dX6_bestTrim_96 : decode cX6_bestTrim 96 = .ok (.if_icmp .ge 12, 3) := by decide +kernel
theorem dX6_bestTrim_99 : decode cX6_bestTrim 99 = .ok (.iload 7, 2) := by decide +kernel
theorem dX6_bestTrim_101 : decode cX6_bestTrim 101 = .ok (.ineg, 1) := by decide +kernel
theorem dX6_bestTrim_102 : decode cX6_bestTrim 102 = .ok (.istore 5, 2) := by decide +kernel
theorem dX6_bestTrim_104 : decode cX6_bestTrim 104 = .ok (.iload 9, 2) := by decide +kernel
theorem dX6_bestTrim_106 : decode cX6_bestTrim 106 = .ok (.istore 6, 2) := by decide +kernel
theorem dX6_bestTrim_108 : decode cX6_bestTrim 108 = .ok (.iinc 7 1, 3) := by decide +kernel
theorem dX6_bestTrim_111 : decode cX6_bestTrim 111 = .ok (.goto (-62), 3) := by decide +kernel
theorem dX6_bestTrim_114 : decode cX6_bestTrim 114 = .ok (.aload_n 0, 1) := by decide +kernel
theorem dX6_bestTrim_115 : decode cX6_bestTrim 115 = .ok (.getfield 10, 3) := by decide +kernel
theorem dX6_bestTrim_118 : decode cX6_bestTrim 118 = .ok (.getfield 45, 3) := by decide +kernel
theorem dX6_bestTrim_121 : decode cX6_bestTrim 121 = .ok (.getfield 58, 3) := by decide +kernel
theorem dX6_bestTrim_124 : decode cX6_bestTrim 124 = .ok (.iload_n 3, 1) := by decide +kernel
theorem dX6_bestTrim_125 : decode cX6_bestTrim 125 = .ok (.iload 4, 2) := by decide +kernel
theorem dX6_bestTrim_127 : decode cX6_bestTrim 127 = .ok (.iastore, 1) := by decide +kernel
theorem dX6_bestTrim_128 : decode cX6_bestTrim 128 = .ok (.iload 5, 2) := by decide +kernel
theorem dX6_bestTrim_130 : decode cX6_bestTrim 130 = .ok (.bipush 100, 2) := by decide +kernel
theorem dX6_bestTrim_132 : decode cX6_bestTrim 132 = .ok (.iadd, 1) := by decide +kernel
theorem dX6_bestTrim_133 : decode cX6_bestTrim 133 = .ok (.ireturn, 1) := by decide +kernel
theorem dX6_mostWorn_0 : decode cX6_mostWorn 0 = .ok (.iconst (-1), 1) := by decide +kernel
theorem dX6_mostWorn_1 : decode cX6_mostWorn 1 = .ok (.istore_n 1, 1) := by decide +kernel
theorem dX6_mostWorn_2 : decode cX6_mostWorn 2 = .ok (.iconst 0, 1) := by decide +kernel
theorem dX6_mostWorn_3 : decode cX6_mostWorn 3 = .ok (.istore_n 2, 1) := by decide +kernel
theorem dX6_mostWorn_4 : decode cX6_mostWorn 4 = .ok (.iconst 0, 1) := by decide +kernel
theorem dX6_mostWorn_5 : decode cX6_mostWorn 5 = .ok (.istore_n 3, 1) := by decide +kernel
theorem dX6_mostWorn_6 : decode cX6_mostWorn 6 = .ok (.iload_n 3, 1) := by decide +kernel
theorem dX6_mostWorn_7 : decode cX6_mostWorn 7 = .ok (.bipush 6, 2) := by decide +kernel
theorem dX6_mostWorn_9 : decode cX6_mostWorn 9 = .ok (.if_icmp .ge 40, 3) := by decide +kernel
theorem dX6_mostWorn_12 : decode cX6_mostWorn 12 = .ok (.aload_n 0, 1) := by decide +kernel
theorem dX6_mostWorn_13 : decode cX6_mostWorn 13 = .ok (.getfield 10, 3) := by decide +kernel
theorem dX6_mostWorn_16 : decode cX6_mostWorn 16 = .ok (.getfield 131, 3) := by decide +kernel
theorem dX6_mostWorn_19 : decode cX6_mostWorn 19 = .ok (.getfield 171, 3) := by decide +kernel
theorem dX6_mostWorn_22 : decode cX6_mostWorn 22 = .ok (.iload_n 3, 1) := by decide +kernel
theorem dX6_mostWorn_23 : decode cX6_mostWorn 23 = .ok (.iaload, 1) := by decide +kernel
theorem dX6_mostWorn_24 : decode cX6_mostWorn 24 = .ok (.iload_n 2, 1) := by decide +kernel
theorem dX6_mostWorn_25 : decode cX6_mostWorn 25 = .ok (.if_icmp .le 18, 3) := by decide +kernel
theorem dX6_mostWorn_28 : decode cX6_mostWorn 28 = .ok (.iload_n 3, 1) := by decide +kernel
theorem dX6_mostWorn_29 : decode cX6_mostWorn 29 = .ok (.istore_n 1, 1) := by decide +kernel
theorem dX6_mostWorn_30 : decode cX6_mostWorn 30 = .ok (.aload_n 0, 1) := by decide +kernel
theorem dX6_mostWorn_31 : decode cX6_mostWorn 31 = .ok (.getfield 10, 3) := by decide +kernel
theorem dX6_mostWorn_34 : decode cX6_mostWorn 34 = .ok (.getfield 131, 3) := by decide +kernel
theorem dX6_mostWorn_37 : decode cX6_mostWorn 37 = .ok (.getfield 171, 3) := by decide +kernel
theorem dX6_mostWorn_40 : decode cX6_mostWorn 40 = .ok (.iload_n 3, 1) := by decide +kernel
theorem dX6_mostWorn_41 : decode cX6_mostWorn 41 = .ok (.iaload, 1) := by decide +kernel
theorem dX6_mostWorn_42 : decode cX6_mostWorn 42 = .ok (.istore_n 2, 1) := by decide +kernel
theorem dX6_mostWorn_43 : decode cX6_mostWorn 43 = .ok (.iinc 3 1, 3) := by decide +kernel
theorem dX6_mostWorn_46 : decode cX6_mostWorn 46 = .ok (.goto (-40), 3) := by decide +kernel
theorem dX6_mostWorn_49 : decode cX6_mostWorn 49 = .ok (.iload_n 1, 1) := by decide +kernel
theorem dX6_mostWorn_50 : decode cX6_mostWorn 50 = .ok (.ireturn, 1) := by decide +kernel
theorem dX6_linkQuality_0 : decode cX6_linkQuality 0 = .ok (.aload_n 0, 1) := by decide +kernel
theorem dX6_linkQuality_1 : decode cX6_linkQuality 1 = .ok (.getfield 10, 3) := by decide +kernel
theorem dX6_linkQuality_4 : decode cX6_linkQuality 4 = .ok (.getfield 178, 3) := by decide +kernel
theorem dX6_linkQuality_7 : decode cX6_linkQuality 7 = .ok (.getfield 193, 3) := by decide +kernel
theorem dX6_linkQuality_10 : decode cX6_linkQuality 10 = .ok (.ifCond .ne 5, 3) := by decide +kernel
theorem dX6_linkQuality_13 : decode cX6_linkQuality 13 = .ok (.dconst 1, 1) := by decide +kernel
theorem dX6_linkQuality_14 : decode cX6_linkQuality 14 = .ok (.dreturn, 1) := by decide +kernel
theorem dX6_linkQuality_15 : decode cX6_linkQuality 15 = .ok (.aload_n 0, 1) := by decide +kernel
theorem dX6_linkQuality_16 : decode cX6_linkQuality 16 = .ok (.getfield 10, 3) := by decide +kernel
theorem dX6_linkQuality_19 : decode cX6_linkQuality 19 = .ok (.getfield 178, 3) := by decide +kernel
theorem dX6_linkQuality_22 : decode cX6_linkQuality 22 = .ok (.getfield 193, 3) := by decide +kernel
theorem dX6_linkQuality_25 : decode cX6_linkQuality 25 = .ok (.aload_n 0, 1) := by decide +kernel
theorem dX6_linkQuality_26 : decode cX6_linkQuality 26 = .ok (.getfield 10, 3) := by decide +kernel
theorem dX6_linkQuality_29 : decode cX6_linkQuality 29 = .ok (.getfield 178, 3) := by decide +kernel
theorem dX6_linkQuality_32 : decode cX6_linkQuality 32 = .ok (.getfield 196, 3) := by decide +kernel
theorem dX6_linkQuality_35 : decode cX6_linkQuality 35 = .ok (.isub, 1) := by decide +kernel
theorem dX6_linkQuality_36 : decode cX6_linkQuality 36 = .ok (.i2d, 1) := by decide +kernel
theorem dX6_linkQuality_37 : decode cX6_linkQuality 37 = .ok (.aload_n 0, 1) := by decide +kernel
theorem dX6_linkQuality_38 : decode cX6_linkQuality 38 = .ok (.getfield 10, 3) := by decide +kernel
theorem dX6_linkQuality_41 : decode cX6_linkQuality 41 = .ok (.getfield 178, 3) := by decide +kernel
theorem dX6_linkQuality_44 : decode cX6_linkQuality 44 = .ok (.getfield 193, 3) := by decide +kernel
theorem dX6_linkQuality_47 : decode cX6_linkQuality 47 = .ok (.i2d, 1) := by decide +kernel
theorem dX6_linkQuality_48 : decode cX6_linkQuality 48 = .ok (.ddiv, 1) := by decide +kernel
theorem dX6_linkQuality_49 : decode cX6_linkQuality 49 = .ok (.dreturn, 1) := by decide +kernel
theorem dX6_undo_0 : decode cX6_undo 0 = .ok (.aload_n 0, 1) := by decide +kernel
theorem dX6_undo_1 : decode cX6_undo 1 = .ok (.getfield 259, 3) := by decide +kernel
theorem dX6_undo_4 : decode cX6_undo 4 = .ok (.ifCond .le 21, 3) := by decide +kernel
theorem dX6_undo_7 : decode cX6_undo 7 = .ok (.aload_n 0, 1) := by decide +kernel
theorem dX6_undo_8 : decode cX6_undo 8 = .ok (.getfield 16, 3) := by decide +kernel
theorem dX6_undo_11 : decode cX6_undo 11 = .ok (.aload_n 0, 1) := by decide +kernel
theorem dX6_undo_12 : decode cX6_undo 12 = .ok (.aload_n 0, 1) := by decide +kernel
theorem dX6_undo_13 : decode cX6_undo 13 = .ok (.getfield 259, 3) := by decide +kernel
theorem dX6_undo_16 : decode cX6_undo 16 = .ok (.iconst 1, 1) := by decide +kernel
theorem dX6_undo_17 : decode cX6_undo 17 = .ok (.isub, 1) := by decide +kernel
theorem dX6_undo_18 : decode cX6_undo 18 = .ok (.invokevirtual 262, 3) := by decide +kernel
theorem dX6_undo_21 : decode cX6_undo 21 = .ok (.aaload, 1) := by decide +kernel
theorem dX6_undo_22 : decode cX6_undo 22 = .ok (.goto 4, 3) := by decide +kernel
theorem dX6_undo_25 : decode cX6_undo 25 = .ok (.aconst_null, 1) := by decide +kernel
theorem dX6_undo_26 : decode cX6_undo 26 = .ok (.astore_n 1, 1) := by decide +kernel
theorem dX6_undo_27 : decode cX6_undo 27 = .ok (.aload_n 1, 1) := by decide +kernel
theorem dX6_undo_28 : decode cX6_undo 28 = .ok (.ifnonnull 14, 3) := by decide +kernel
theorem dX6_undo_31 : decode cX6_undo 31 = .ok (.new 235, 3) := by decide +kernel
theorem dX6_undo_34 : decode cX6_undo 34 = .ok (.dup, 1) := by decide +kernel
theorem dX6_undo_35 : decode cX6_undo 35 = .ok (.ldc_w 265, 3) := by decide +kernel
theorem dX6_undo_38 : decode cX6_undo 38 = .ok (.invokespecial 239, 3) := by decide +kernel
theorem dX6_undo_41 : decode cX6_undo 41 = .ok (.athrow, 1) := by decide +kernel
theorem dX6_undo_42 : decode cX6_undo 42 = .ok (.aload_n 0, 1) := by decide +kernel
theorem dX6_undo_43 : decode cX6_undo 43 = .ok (.getfield 10, 3) := by decide +kernel
theorem dX6_undo_46 : decode cX6_undo 46 = .ok (.aload_n 1, 1) := by decide +kernel
theorem dX6_undo_47 : decode cX6_undo 47 = .ok (.invokevirtual 267, 3) := by decide +kernel
theorem dX6_undo_50 : decode cX6_undo 50 = .ok (.aload_n 0, 1) := by decide +kernel
theorem dX6_undo_51 : decode cX6_undo 51 = .ok (.dup, 1) := by decide +kernel
theorem dX6_undo_52 : decode cX6_undo 52 = .ok (.getfield 259, 3) := by decide +kernel
theorem dX6_undo_55 : decode cX6_undo 55 = .ok (.iconst 1, 1) := by decide +kernel
theorem dX6_undo_56 : decode cX6_undo 56 = .ok (.isub, 1) := by decide +kernel
theorem dX6_undo_57 : decode cX6_undo 57 = .ok (.putfield 259, 3) := by decide +kernel
theorem dX6_undo_60 : decode cX6_undo 60 = .ok (.aload_n 0, 1) := by decide +kernel
theorem dX6_undo_61 : decode cX6_undo 61 = .ok (.getfield 259, 3) := by decide +kernel
theorem dX6_undo_64 : decode cX6_undo 64 = .ok (.ireturn, 1) := by decide +kernel
theorem dX6_savedStates_0 : decode cX6_savedStates 0 = .ok (.aload_n 0, 1) := by decide +kernel
theorem dX6_savedStates_1 : decode cX6_savedStates 1 = .ok (.getfield 259, 3) := by decide +kernel
theorem dX6_savedStates_4 : decode cX6_savedStates 4 = .ok (.ireturn, 1) := by decide +kernel
theorem dX6_store_0 : decode cX6_store 0 = .ok (.iload_n 1, 1) := by decide +kernel
theorem dX6_store_1 : decode cX6_store 1 = .ok (.iconst 0, 1) := by decide +kernel
theorem dX6_store_2 : decode cX6_store 2 = .ok (.iconst 1, 1) := by decide +kernel
theorem dX6_store_3 : decode cX6_store 3 = .ok (.invokestatic 38, 3) := by decide +kernel
theorem dX6_store_6 : decode cX6_store 6 = .ok (.aload_n 0, 1) := by decide +kernel
theorem dX6_store_7 : decode cX6_store 7 = .ok (.getfield 20, 3) := by decide +kernel
theorem dX6_store_10 : decode cX6_store 10 = .ok (.iload_n 1, 1) := by decide +kernel
theorem dX6_store_11 : decode cX6_store 11 = .ok (.aaload, 1) := by decide +kernel
theorem dX6_store_12 : decode cX6_store 12 = .ok (.ifnonnull 16, 3) := by decide +kernel
theorem dX6_store_15 : decode cX6_store 15 = .ok (.aload_n 0, 1) := by decide +kernel
theorem dX6_store_16 : decode cX6_store 16 = .ok (.getfield 20, 3) := by decide +kernel
theorem dX6_store_19 : decode cX6_store 19 = .ok (.iload_n 1, 1) := by decide +kernel
theorem dX6_store_20 : decode cX6_store 20 = .ok (.new 7, 3) := by decide +kernel
theorem dX6_store_23 : decode cX6_store 23 = .ok (.dup, 1) := by decide +kernel
theorem dX6_store_24 : decode cX6_store 24 = .ok (.invokespecial 9, 3) := by decide +kernel
theorem dX6_store_27 : decode cX6_store 27 = .ok (.aastore, 1) := by decide +kernel
theorem dX6_store_28 : decode cX6_store 28 = .ok (.aload_n 0, 1) := by decide +kernel
theorem dX6_store_29 : decode cX6_store 29 = .ok (.getfield 20, 3) := by decide +kernel
theorem dX6_store_32 : decode cX6_store 32 = .ok (.iload_n 1, 1) := by decide +kernel
theorem dX6_store_33 : decode cX6_store 33 = .ok (.aaload, 1) := by decide +kernel
theorem dX6_store_34 : decode cX6_store 34 = .ok (.aload_n 0, 1) := by decide +kernel
theorem dX6_store_35 : decode cX6_store 35 = .ok (.getfield 10, 3) := by decide +kernel
theorem dX6_store_38 : decode cX6_store 38 = .ok (.invokevirtual 267, 3) := by decide +kernel
theorem dX6_store_41 : decode cX6_store 41 = .ok (.aload_n 0, 1) := by decide +kernel
theorem dX6_store_42 : decode cX6_store 42 = .ok (.getfield 10, 3) := by decide +kernel
theorem dX6_store_45 : decode cX6_store 45 = .ok (.getfield 90, 3) := by decide +kernel
theorem dX6_store_48 : decode cX6_store 48 = .ok (.getfield 100, 3) := by decide +kernel
theorem dX6_store_51 : decode cX6_store 51 = .ok (.ireturn, 1) := by decide +kernel
theorem dX6_recall_0 : decode cX6_recall 0 = .ok (.iload_n 1, 1) := by decide +kernel
theorem dX6_recall_1 : decode cX6_recall 1 = .ok (.iconst 0, 1) := by decide +kernel
theorem dX6_recall_2 : decode cX6_recall 2 = .ok (.iconst 1, 1) := by decide +kernel
theorem dX6_recall_3 : decode cX6_recall 3 = .ok (.invokestatic 38, 3) := by decide +kernel
theorem dX6_recall_6 : decode cX6_recall 6 = .ok (.aload_n 0, 1) := by decide +kernel
theorem dX6_recall_7 : decode cX6_recall 7 = .ok (.getfield 20, 3) := by decide +kernel
theorem dX6_recall_10 : decode cX6_recall 10 = .ok (.iload_n 1, 1) := by decide +kernel
theorem dX6_recall_11 : decode cX6_recall 11 = .ok (.aaload, 1) := by decide +kernel
theorem dX6_recall_12 : decode cX6_recall 12 = .ok (.astore_n 2, 1) := by decide +kernel
theorem dX6_recall_13 : decode cX6_recall 13 = .ok (.aload_n 2, 1) := by decide +kernel
theorem dX6_recall_14 : decode cX6_recall 14 = .ok (.ifnonnull 14, 3) := by decide +kernel
theorem dX6_recall_17 : decode cX6_recall 17 = .ok (.new 235, 3) := by decide +kernel
theorem dX6_recall_20 : decode cX6_recall 20 = .ok (.dup, 1) := by decide +kernel
theorem dX6_recall_21 : decode cX6_recall 21 = .ok (.ldc_w 271, 3) := by decide +kernel
theorem dX6_recall_24 : decode cX6_recall 24 = .ok (.invokespecial 239, 3) := by decide +kernel
theorem dX6_recall_27 : decode cX6_recall 27 = .ok (.athrow, 1) := by decide +kernel
theorem dX6_recall_28 : decode cX6_recall 28 = .ok (.aload_n 0, 1) := by decide +kernel
theorem dX6_recall_29 : decode cX6_recall 29 = .ok (.invokevirtual 42, 3) := by decide +kernel
theorem dX6_recall_32 : decode cX6_recall 32 = .ok (.aload_n 0, 1) := by decide +kernel
theorem dX6_recall_33 : decode cX6_recall 33 = .ok (.getfield 10, 3) := by decide +kernel
theorem dX6_recall_36 : decode cX6_recall 36 = .ok (.aload_n 2, 1) := by decide +kernel
theorem dX6_recall_37 : decode cX6_recall 37 = .ok (.invokevirtual 267, 3) := by decide +kernel
theorem dX6_recall_40 : decode cX6_recall 40 = .ok (.aload_n 0, 1) := by decide +kernel
theorem dX6_recall_41 : decode cX6_recall 41 = .ok (.getfield 10, 3) := by decide +kernel
theorem dX6_recall_44 : decode cX6_recall 44 = .ok (.getfield 90, 3) := by decide +kernel
theorem dX6_recall_47 : decode cX6_recall 47 = .ok (.getfield 100, 3) := by decide +kernel
theorem dX6_recall_50 : decode cX6_recall 50 = .ok (.ireturn, 1) := by decide +kernel
theorem dX6_digest_0 : decode cX6_digest 0 = .ok (.aload_n 0, 1) := by decide +kernel
theorem dX6_digest_1 : decode cX6_digest 1 = .ok (.getfield 10, 3) := by decide +kernel
theorem dX6_digest_4 : decode cX6_digest 4 = .ok (.invokevirtual 121, 3) := by decide +kernel
theorem dX6_digest_7 : decode cX6_digest 7 = .ok (.aload_n 0, 1) := by decide +kernel
theorem dX6_digest_8 : decode cX6_digest 8 = .ok (.getfield 10, 3) := by decide +kernel
theorem dX6_digest_11 : decode cX6_digest 11 = .ok (.ldc2_w 273, 3) := by decide +kernel
theorem dX6_digest_14 : decode cX6_digest 14 = .ok (.invokevirtual 275, 3) := by decide +kernel
theorem dX6_digest_17 : decode cX6_digest 17 = .ok (.lstore_n 1, 1) := by decide +kernel
theorem dX6_digest_18 : decode cX6_digest 18 = .ok (.aload_n 0, 1) := by decide +kernel
theorem dX6_digest_19 : decode cX6_digest 19 = .ok (.getfield 10, 3) := by decide +kernel
theorem dX6_digest_22 : decode cX6_digest 22 = .ok (.lload_n 1, 1) := by decide +kernel
theorem dX6_digest_23 : decode cX6_digest 23 = .ok (.invokevirtual 279, 3) := by decide +kernel
theorem dX6_digest_26 : decode cX6_digest 26 = .ok (.lstore_n 1, 1) := by decide +kernel
theorem dX6_digest_27 : decode cX6_digest 27 = .ok (.aload_n 0, 1) := by decide +kernel
theorem dX6_digest_28 : decode cX6_digest 28 = .ok (.getfield 10, 3) := by decide +kernel
theorem dX6_digest_31 : decode cX6_digest 31 = .ok (.lload_n 1, 1) := by decide +kernel
theorem dX6_digest_32 : decode cX6_digest 32 = .ok (.invokevirtual 282, 3) := by decide +kernel
theorem dX6_digest_35 : decode cX6_digest 35 = .ok (.lstore_n 1, 1) := by decide +kernel
theorem dX6_digest_36 : decode cX6_digest 36 = .ok (.aload_n 0, 1) := by decide +kernel
theorem dX6_digest_37 : decode cX6_digest 37 = .ok (.getfield 10, 3) := by decide +kernel
theorem dX6_digest_40 : decode cX6_digest 40 = .ok (.getfield 178, 3) := by decide +kernel
theorem dX6_digest_43 : decode cX6_digest 43 = .ok (.lload_n 1, 1) := by decide +kernel
theorem dX6_digest_44 : decode cX6_digest 44 = .ok (.invokevirtual 285, 3) := by decide +kernel
theorem dX6_digest_47 : decode cX6_digest 47 = .ok (.lreturn, 1) := by decide +kernel
theorem dX6_requireStick_0 : decode cX6_requireStick 0 = .ok (.iload_n 0, 1) := by decide +kernel
theorem dX6_requireStick_1 : decode cX6_requireStick 1 = .ok (.ifCond .lt 8, 3) := by decide +kernel
theorem dX6_requireStick_4 : decode cX6_requireStick 4 = .ok (.iload_n 0, 1) := by decide +kernel
theorem dX6_requireStick_5 : decode cX6_requireStick 5 = .ok (.iconst 4, 1) := by decide +kernel
theorem dX6_requireStick_6 : decode cX6_requireStick 6 = .ok (.if_icmp .lt 14, 3) := by decide +kernel
theorem dX6_requireStick_9 : decode cX6_requireStick 9 = .ok (.new 288, 3) := by decide +kernel
theorem dX6_requireStick_12 : decode cX6_requireStick 12 = .ok (.dup, 1) := by decide +kernel
theorem dX6_requireStick_13 : decode cX6_requireStick 13 = .ok (.ldc_w 290, 3) := by decide +kernel
theorem dX6_requireStick_16 : decode cX6_requireStick 16 = .ok (.invokespecial 292, 3) := by decide +kernel
theorem dX6_requireStick_19 : decode cX6_requireStick 19 = .ok (.athrow, 1) := by decide +kernel
theorem dX6_requireStick_20 : decode cX6_requireStick 20 = .ok (.return_, 1) := by decide +kernel
theorem dX6_requireServo_0 : decode cX6_requireServo 0 = .ok (.iload_n 0, 1) := by decide +kernel
theorem dX6_requireServo_1 : decode cX6_requireServo 1 = .ok (.ifCond .lt 9, 3) := by decide +kernel
theorem dX6_requireServo_4 : decode cX6_requireServo 4 = .ok (.iload_n 0, 1) := by decide +kernel
theorem dX6_requireServo_5 : decode cX6_requireServo 5 = .ok (.bipush 6, 2) := by decide +kernel
theorem dX6_requireServo_7 : decode cX6_requireServo 7 = .ok (.if_icmp .lt 14, 3) := by decide +kernel
theorem dX6_requireServo_10 : decode cX6_requireServo 10 = .ok (.new 288, 3) := by decide +kernel
theorem dX6_requireServo_13 : decode cX6_requireServo 13 = .ok (.dup, 1) := by decide +kernel
theorem dX6_requireServo_14 : decode cX6_requireServo 14 = .ok (.ldc_w 293, 3) := by decide +kernel
theorem dX6_requireServo_17 : decode cX6_requireServo 17 = .ok (.invokespecial 292, 3) := by decide +kernel
theorem dX6_requireServo_20 : decode cX6_requireServo 20 = .ok (.athrow, 1) := by decide +kernel
theorem dX6_requireServo_21 : decode cX6_requireServo 21 = .ok (.return_, 1) := by decide +kernel
theorem dX6_requireMix_0 : decode cX6_requireMix 0 = .ok (.iload_n 1, 1) := by decide +kernel
theorem dX6_requireMix_1 : decode cX6_requireMix 1 = .ok (.ifCond .lt 17, 3) := by decide +kernel
theorem dX6_requireMix_4 : decode cX6_requireMix 4 = .ok (.iload_n 1, 1) := by decide +kernel
theorem dX6_requireMix_5 : decode cX6_requireMix 5 = .ok (.aload_n 0, 1) := by decide +kernel
theorem dX6_requireMix_6 : decode cX6_requireMix 6 = .ok (.getfield 10, 3) := by decide +kernel
theorem dX6_requireMix_9 : decode cX6_requireMix 9 = .ok (.getfield 90, 3) := by decide +kernel
theorem dX6_requireMix_12 : decode cX6_requireMix 12 = .ok (.getfield 100, 3) := by decide +kernel
theorem dX6_requireMix_15 : decode cX6_requireMix 15 = .ok (.if_icmp .lt 14, 3) := by decide +kernel
theorem dX6_requireMix_18 : decode cX6_requireMix 18 = .ok (.new 288, 3) := by decide +kernel
theorem dX6_requireMix_21 : decode cX6_requireMix 21 = .ok (.dup, 1) := by decide +kernel
theorem dX6_requireMix_22 : decode cX6_requireMix 22 = .ok (.ldc_w 295, 3) := by decide +kernel
theorem dX6_requireMix_25 : decode cX6_requireMix 25 = .ok (.invokespecial 292, 3) := by decide +kernel
theorem dX6_requireMix_28 : decode cX6_requireMix 28 = .ok (.athrow, 1) := by decide +kernel
theorem dX6_requireMix_29 : decode cX6_requireMix 29 = .ok (.return_, 1) := by decide +kernel
theorem dX6_requireRange_0 : decode cX6_requireRange 0 = .ok (.iload_n 0, 1) := by decide +kernel
theorem dX6_requireRange_1 : decode cX6_requireRange 1 = .ok (.iload_n 1, 1) := by decide +kernel
theorem dX6_requireRange_2 : decode cX6_requireRange 2 = .ok (.if_icmp .lt 8, 3) := by decide +kernel
theorem dX6_requireRange_5 : decode cX6_requireRange 5 = .ok (.iload_n 0, 1) := by decide +kernel
theorem dX6_requireRange_6 : decode cX6_requireRange 6 = .ok (.iload_n 2, 1) := by decide +kernel
theorem dX6_requireRange_7 : decode cX6_requireRange 7 = .ok (.if_icmp .le 14, 3) := by decide +kernel
theorem dX6_requireRange_10 : decode cX6_requireRange 10 = .ok (.new 80, 3) := by decide +kernel
theorem dX6_requireRange_13 : decode cX6_requireRange 13 = .ok (.dup, 1) := by decide +kernel
theorem dX6_requireRange_14 : decode cX6_requireRange 14 = .ok (.ldc_w 297, 3) := by decide +kernel
theorem dX6_requireRange_17 : decode cX6_requireRange 17 = .ok (.invokespecial 84, 3) := by decide +kernel
theorem dX6_requireRange_20 : decode cX6_requireRange 20 = .ok (.athrow, 1) := by decide +kernel
theorem dX6_requireRange_21 : decode cX6_requireRange 21 = .ok (.return_, 1) := by decide +kernel
theorem dX6_requireRoomForMixes_0 : decode cX6_requireRoomForMixes 0 = .ok (.aload_n 0, 1) := by decide +kernel
theorem dX6_requireRoomForMixes_1 : decode cX6_requireRoomForMixes 1 = .ok (.getfield 10, 3) := by decide +kernel
theorem dX6_requireRoomForMixes_4 : decode cX6_requireRoomForMixes 4 = .ok (.getfield 90, 3) := by decide +kernel
theorem dX6_requireRoomForMixes_7 : decode cX6_requireRoomForMixes 7 = .ok (.getfield 100, 3) := by decide +kernel
theorem dX6_requireRoomForMixes_10 : decode cX6_requireRoomForMixes 10 = .ok (.iload_n 1, 1) := by decide +kernel
theorem dX6_requireRoomForMixes_11 : decode cX6_requireRoomForMixes 11 = .ok (.iadd, 1) := by decide +kernel
theorem dX6_requireRoomForMixes_12 : decode cX6_requireRoomForMixes 12 = .ok (.bipush 12, 2) := by decide +kernel
theorem dX6_requireRoomForMixes_14 : decode cX6_requireRoomForMixes 14 = .ok (.if_icmp .le 14, 3) := by decide +kernel
theorem dX6_requireRoomForMixes_17 : decode cX6_requireRoomForMixes 17 = .ok (.new 235, 3) := by decide +kernel
theorem dX6_requireRoomForMixes_20 : decode cX6_requireRoomForMixes 20 = .ok (.dup, 1) := by decide +kernel
theorem dX6_requireRoomForMixes_21 : decode cX6_requireRoomForMixes 21 = .ok (.ldc_w 299, 3) := by decide +kernel
theorem dX6_requireRoomForMixes_24 : decode cX6_requireRoomForMixes 24 = .ok (.invokespecial 239, 3) := by decide +kernel
theorem dX6_requireRoomForMixes_27 : decode cX6_requireRoomForMixes 27 = .ok (.athrow, 1) := by decide +kernel
theorem dX6_requireRoomForMixes_28 : decode cX6_requireRoomForMixes 28 = .ok (.return_, 1) := by decide +kernel
theorem dX6_savedSlot_0 : decode cX6_savedSlot 0 = .ok (.aload_n 0, 1) := by decide +kernel
theorem dX6_savedSlot_1 : decode cX6_savedSlot 1 = .ok (.getfield 301, 3) := by decide +kernel
theorem dX6_savedSlot_4 : decode cX6_savedSlot 4 = .ok (.iload_n 1, 1) := by decide +kernel
theorem dX6_savedSlot_5 : decode cX6_savedSlot 5 = .ok (.iadd, 1) := by decide +kernel
theorem dX6_savedSlot_6 : decode cX6_savedSlot 6 = .ok (.bipush 6, 2) := by decide +kernel
theorem dX6_savedSlot_8 : decode cX6_savedSlot 8 = .ok (.irem, 1) := by decide +kernel
theorem dX6_savedSlot_9 : decode cX6_savedSlot 9 = .ok (.ireturn, 1) := by decide +kernel
theorem dX6_saveState_0 : decode cX6_saveState 0 = .ok (.aload_n 0, 1) := by decide +kernel
theorem dX6_saveState_1 : decode cX6_saveState 1 = .ok (.getfield 259, 3) := by decide +kernel
theorem dX6_saveState_4 : decode cX6_saveState 4 = .ok (.bipush 6, 2) := by decide +kernel
theorem dX6_saveState_6 : decode cX6_saveState 6 = .ok (.if_icmp .ne 22, 3) := by decide +kernel
theorem dX6_saveState_9 : decode cX6_saveState 9 = .ok (.aload_n 0, 1) := by decide +kernel
theorem dX6_saveState_10 : decode cX6_saveState 10 = .ok (.aload_n 0, 1) := by decide +kernel
theorem dX6_saveState_11 : decode cX6_saveState 11 = .ok (.iconst 1, 1) := by decide +kernel
theorem dX6_saveState_12 : decode cX6_saveState 12 = .ok (.invokevirtual 262, 3) := by decide +kernel
theorem dX6_saveState_15 : decode cX6_saveState 15 = .ok (.putfield 301, 3) := by decide +kernel
theorem dX6_saveState_18 : decode cX6_saveState 18 = .ok (.aload_n 0, 1) := by decide +kernel
theorem dX6_saveState_19 : decode cX6_saveState 19 = .ok (.dup, 1) := by decide +kernel
theorem dX6_saveState_20 : decode cX6_saveState 20 = .ok (.getfield 259, 3) := by decide +kernel
theorem dX6_saveState_23 : decode cX6_saveState 23 = .ok (.iconst 1, 1) := by decide +kernel
theorem dX6_saveState_24 : decode cX6_saveState 24 = .ok (.isub, 1) := by decide +kernel
theorem dX6_saveState_25 : decode cX6_saveState 25 = .ok (.putfield 259, 3) := by decide +kernel
theorem dX6_saveState_28 : decode cX6_saveState 28 = .ok (.aload_n 0, 1) := by decide +kernel
theorem dX6_saveState_29 : decode cX6_saveState 29 = .ok (.aload_n 0, 1) := by decide +kernel
theorem dX6_saveState_30 : decode cX6_saveState 30 = .ok (.getfield 259, 3) := by decide +kernel
theorem dX6_saveState_33 : decode cX6_saveState 33 = .ok (.invokevirtual 262, 3) := by decide +kernel
theorem dX6_saveState_36 : decode cX6_saveState 36 = .ok (.istore_n 1, 1) := by decide +kernel
theorem dX6_saveState_37 : decode cX6_saveState 37 = .ok (.aload_n 0, 1) := by decide +kernel
theorem dX6_saveState_38 : decode cX6_saveState 38 = .ok (.getfield 16, 3) := by decide +kernel
theorem dX6_saveState_41 : decode cX6_saveState 41 = .ok (.iload_n 1, 1) := by decide +kernel
theorem dX6_saveState_42 : decode cX6_saveState 42 = .ok (.aaload, 1) := by decide +kernel
theorem dX6_saveState_43 : decode cX6_saveState 43 = .ok (.ifnonnull 16, 3) := by decide +kernel
theorem dX6_saveState_46 : decode cX6_saveState 46 = .ok (.aload_n 0, 1) := by decide +kernel
theorem dX6_saveState_47 : decode cX6_saveState 47 = .ok (.getfield 16, 3) := by decide +kernel
theorem dX6_saveState_50 : decode cX6_saveState 50 = .ok (.iload_n 1, 1) := by decide +kernel
theorem dX6_saveState_51 : decode cX6_saveState 51 = .ok (.new 7, 3) := by decide +kernel
theorem dX6_saveState_54 : decode cX6_saveState 54 = .ok (.dup, 1) := by decide +kernel
theorem dX6_saveState_55 : decode cX6_saveState 55 = .ok (.invokespecial 9, 3) := by decide +kernel
theorem dX6_saveState_58 : decode cX6_saveState 58 = .ok (.aastore, 1) := by decide +kernel
theorem dX6_saveState_59 : decode cX6_saveState 59 = .ok (.aload_n 0, 1) := by decide +kernel
theorem dX6_saveState_60 : decode cX6_saveState 60 = .ok (.getfield 16, 3) := by decide +kernel
theorem dX6_saveState_63 : decode cX6_saveState 63 = .ok (.iload_n 1, 1) := by decide +kernel
theorem dX6_saveState_64 : decode cX6_saveState 64 = .ok (.aaload, 1) := by decide +kernel
theorem dX6_saveState_65 : decode cX6_saveState 65 = .ok (.aload_n 0, 1) := by decide +kernel
theorem dX6_saveState_66 : decode cX6_saveState 66 = .ok (.getfield 10, 3) := by decide +kernel
theorem dX6_saveState_69 : decode cX6_saveState 69 = .ok (.invokevirtual 267, 3) := by decide +kernel
theorem dX6_saveState_72 : decode cX6_saveState 72 = .ok (.aload_n 0, 1) := by decide +kernel
theorem dX6_saveState_73 : decode cX6_saveState 73 = .ok (.dup, 1) := by decide +kernel
theorem dX6_saveState_74 : decode cX6_saveState 74 = .ok (.getfield 259, 3) := by decide +kernel
theorem dX6_saveState_77 : decode cX6_saveState 77 = .ok (.iconst 1, 1) := by decide +kernel
theorem dX6_saveState_78 : decode cX6_saveState 78 = .ok (.iadd, 1) := by decide +kernel
theorem dX6_saveState_79 : decode cX6_saveState 79 = .ok (.putfield 259, 3) := by decide +kernel
theorem dX6_saveState_82 : decode cX6_saveState 82 = .ok (.return_, 1) := by decide +kernel
theorem dX6_missWithTrim_0 : decode cX6_missWithTrim 0 = .ok (.aload_n 0, 1) := by decide +kernel
theorem dX6_missWithTrim_1 : decode cX6_missWithTrim 1 = .ok (.getfield 10, 3) := by decide +kernel
theorem dX6_missWithTrim_4 : decode cX6_missWithTrim 4 = .ok (.getfield 45, 3) := by decide +kernel
theorem dX6_missWithTrim_7 : decode cX6_missWithTrim 7 = .ok (.getfield 58, 3) := by decide +kernel
theorem dX6_missWithTrim_10 : decode cX6_missWithTrim 10 = .ok (.iload_n 1, 1) := by decide +kernel
theorem dX6_missWithTrim_11 : decode cX6_missWithTrim 11 = .ok (.iload_n 2, 1) := by decide +kernel
theorem dX6_missWithTrim_12 : decode cX6_missWithTrim 12 = .ok (.iastore, 1) := by decide +kernel
theorem dX6_missWithTrim_13 : decode cX6_missWithTrim 13 = .ok (.aload_n 0, 1) := by decide +kernel
theorem dX6_missWithTrim_14 : decode cX6_missWithTrim 14 = .ok (.getfield 10, 3) := by decide +kernel
theorem dX6_missWithTrim_17 : decode cX6_missWithTrim 17 = .ok (.invokevirtual 121, 3) := by decide +kernel
theorem dX6_missWithTrim_20 : decode cX6_missWithTrim 20 = .ok (.aload_n 0, 1) := by decide +kernel
theorem dX6_missWithTrim_21 : decode cX6_missWithTrim 21 = .ok (.getfield 10, 3) := by decide +kernel
theorem dX6_missWithTrim_24 : decode cX6_missWithTrim 24 = .ok (.iload_n 3, 1) := by decide +kernel
theorem dX6_missWithTrim_25 : decode cX6_missWithTrim 25 = .ok (.invokevirtual 161, 3) := by decide +kernel
theorem dX6_missWithTrim_28 : decode cX6_missWithTrim 28 = .ok (.invokestatic 215, 3) := by decide +kernel
theorem dX6_missWithTrim_31 : decode cX6_missWithTrim 31 = .ok (.ireturn, 1) := by decide +kernel
theorem dX6_hashStep_0 : decode cX6_hashStep 0 = .ok (.ldc2_w 313, 3) := by decide +kernel
theorem dX6_hashStep_3 : decode cX6_hashStep 3 = .ok (.lload_n 0, 1) := by decide +kernel
theorem dX6_hashStep_4 : decode cX6_hashStep 4 = .ok (.lmul, 1) := by decide +kernel
theorem dX6_hashStep_5 : decode cX6_hashStep 5 = .ok (.lload_n 2, 1) := by decide +kernel
theorem dX6_hashStep_6 : decode cX6_hashStep 6 = .ok (.ladd, 1) := by decide +kernel
theorem dX6_hashStep_7 : decode cX6_hashStep 7 = .ok (.lreturn, 1) := by decide +kernel
theorem dX6_copyRow_0 : decode cX6_copyRow 0 = .ok (.iconst 0, 1) := by decide +kernel
theorem dX6_copyRow_1 : decode cX6_copyRow 1 = .ok (.istore_n 2, 1) := by decide +kernel
theorem dX6_copyRow_2 : decode cX6_copyRow 2 = .ok (.iload_n 2, 1) := by decide +kernel
theorem dX6_copyRow_3 : decode cX6_copyRow 3 = .ok (.aload_n 0, 1) := by decide +kernel
theorem dX6_copyRow_4 : decode cX6_copyRow 4 = .ok (.arraylength, 1) := by decide +kernel
theorem dX6_copyRow_5 : decode cX6_copyRow 5 = .ok (.if_icmp .ge 21, 3) := by decide +kernel
theorem dX6_copyRow_8 : decode cX6_copyRow 8 = .ok (.iload_n 2, 1) := by decide +kernel
theorem dX6_copyRow_9 : decode cX6_copyRow 9 = .ok (.aload_n 1, 1) := by decide +kernel
theorem dX6_copyRow_10 : decode cX6_copyRow 10 = .ok (.arraylength, 1) := by decide +kernel
theorem dX6_copyRow_11 : decode cX6_copyRow 11 = .ok (.if_icmp .ge 15, 3) := by decide +kernel
theorem dX6_copyRow_14 : decode cX6_copyRow 14 = .ok (.aload_n 1, 1) := by decide +kernel
theorem dX6_copyRow_15 : decode cX6_copyRow 15 = .ok (.iload_n 2, 1) := by decide +kernel
theorem dX6_copyRow_16 : decode cX6_copyRow 16 = .ok (.aload_n 0, 1) := by decide +kernel
theorem dX6_copyRow_17 : decode cX6_copyRow 17 = .ok (.iload_n 2, 1) := by decide +kernel
theorem dX6_copyRow_18 : decode cX6_copyRow 18 = .ok (.iaload, 1) := by decide +kernel
theorem dX6_copyRow_19 : decode cX6_copyRow 19 = .ok (.iastore, 1) := by decide +kernel
theorem dX6_copyRow_20 : decode cX6_copyRow 20 = .ok (.iinc 2 1, 3) := by decide +kernel
theorem dX6_copyRow_23 : decode cX6_copyRow 23 = .ok (.goto (-21), 3) := by decide +kernel
theorem dX6_copyRow_26 : decode cX6_copyRow 26 = .ok (.return_, 1) := by decide +kernel
theorem dX6_fillRow_0 : decode cX6_fillRow 0 = .ok (.iconst 0, 1) := by decide +kernel
theorem dX6_fillRow_1 : decode cX6_fillRow 1 = .ok (.istore_n 2, 1) := by decide +kernel
theorem dX6_fillRow_2 : decode cX6_fillRow 2 = .ok (.iload_n 2, 1) := by decide +kernel
theorem dX6_fillRow_3 : decode cX6_fillRow 3 = .ok (.aload_n 0, 1) := by decide +kernel
theorem dX6_fillRow_4 : decode cX6_fillRow 4 = .ok (.arraylength, 1) := by decide +kernel
theorem dX6_fillRow_5 : decode cX6_fillRow 5 = .ok (.if_icmp .ge 13, 3) := by decide +kernel
theorem dX6_fillRow_8 : decode cX6_fillRow 8 = .ok (.aload_n 0, 1) := by decide +kernel
theorem dX6_fillRow_9 : decode cX6_fillRow 9 = .ok (.iload_n 2, 1) := by decide +kernel
theorem dX6_fillRow_10 : decode cX6_fillRow 10 = .ok (.iload_n 1, 1) := by decide +kernel
theorem dX6_fillRow_11 : decode cX6_fillRow 11 = .ok (.iastore, 1) := by decide +kernel
theorem dX6_fillRow_12 : decode cX6_fillRow 12 = .ok (.iinc 2 1, 3) := by decide +kernel
theorem dX6_fillRow_15 : decode cX6_fillRow 15 = .ok (.goto (-13), 3) := by decide +kernel
theorem dX6_fillRow_18 : decode cX6_fillRow 18 = .ok (.return_, 1) := by decide +kernel
theorem dJ9_abs_0f7a4_0 : decode cJ9_abs_0f7a4 0 = .ok (.iload_n 0, 1) := by decide +kernel
theorem dJ9_abs_0f7a4_1 : decode cJ9_abs_0f7a4 1 = .ok (.ifCond .ge 8, 3) := by decide +kernel
theorem dJ9_abs_0f7a4_4 : decode cJ9_abs_0f7a4 4 = .ok (.iload_n 0, 1) := by decide +kernel
theorem dJ9_abs_0f7a4_5 : decode cJ9_abs_0f7a4 5 = .ok (.ineg, 1) := by decide +kernel
theorem dJ9_abs_0f7a4_6 : decode cJ9_abs_0f7a4 6 = .ok (.goto 4, 3) := by decide +kernel
theorem dJ9_abs_0f7a4_9 : decode cJ9_abs_0f7a4 9 = .ok (.iload_n 0, 1) := by decide +kernel
theorem dJ9_abs_0f7a4_10 : decode cJ9_abs_0f7a4 10 = .ok (.ireturn, 1) := by decide +kernel
theorem dJ9_max_7cf53_0 : decode cJ9_max_7cf53 0 = .ok (.iload_n 0, 1) := by decide +kernel
theorem dJ9_max_7cf53_1 : decode cJ9_max_7cf53 1 = .ok (.iload_n 1, 1) := by decide +kernel
theorem dJ9_max_7cf53_2 : decode cJ9_max_7cf53 2 = .ok (.if_icmp .lt 7, 3) := by decide +kernel
theorem dJ9_max_7cf53_5 : decode cJ9_max_7cf53 5 = .ok (.iload_n 0, 1) := by decide +kernel
theorem dJ9_max_7cf53_6 : decode cJ9_max_7cf53 6 = .ok (.goto 4, 3) := by decide +kernel
theorem dJ9_max_7cf53_9 : decode cJ9_max_7cf53 9 = .ok (.iload_n 1, 1) := by decide +kernel
theorem dJ9_max_7cf53_10 : decode cJ9_max_7cf53 10 = .ok (.ireturn, 1) := by decide +kernel
theorem dJ9_min_7cf53_0 : decode cJ9_min_7cf53 0 = .ok (.iload_n 0, 1) := by decide +kernel
theorem dJ9_min_7cf53_1 : decode cJ9_min_7cf53 1 = .ok (.iload_n 1, 1) := by decide +kernel
theorem dJ9_min_7cf53_2 : decode cJ9_min_7cf53 2 = .ok (.if_icmp .gt 7, 3) := by decide +kernel
theorem dJ9_min_7cf53_5 : decode cJ9_min_7cf53 5 = .ok (.iload_n 0, 1) := by decide +kernel
theorem dJ9_min_7cf53_6 : decode cJ9_min_7cf53 6 = .ok (.goto 4, 3) := by decide +kernel
theorem dJ9_min_7cf53_9 : decode cJ9_min_7cf53 9 = .ok (.iload_n 1, 1) := by decide +kernel
theorem dJ9_min_7cf53_10 : decode cJ9_min_7cf53 10 = .ok (.ireturn, 1) := by decide +kernel
