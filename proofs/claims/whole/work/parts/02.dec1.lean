theorem dX0_init_0 : decode cX0_init 0 = .ok (.aload_n 0, 1) := by decide +kernel
theorem dX0_init_1 : decode cX0_init 1 = .ok (.invokespecial 1, 3) := by decide +kernel
theorem dX0_init_4 : decode cX0_init 4 = .ok (.aload_n 0, 1) := by decide +kernel
theorem dX0_init_5 : decode cX0_init 5 = .ok (.bipush 40, 2) := by decide +kernel
theorem dX0_init_7 : decode cX0_init 7 = .ok (.newarray .int, 2) := by decide +kernel
theorem dX0_init_9 : decode cX0_init 9 = .ok (.putfield 9, 3) := by decide +kernel
theorem dX0_init_12 : decode cX0_init 12 = .ok (.aload_n 0, 1) := by decide +kernel
theorem dX0_init_13 : decode cX0_init 13 = .ok (.bipush 40, 2) := by decide +kernel
theorem dX0_init_15 : decode cX0_init 15 = .ok (.newarray .int, 2) := by decide +kernel
theorem dX0_init_17 : decode cX0_init 17 = .ok (.putfield 13, 3) := by decide +kernel
theorem dX0_init_20 : decode cX0_init 20 = .ok (.aload_n 0, 1) := by decide +kernel
theorem dX0_init_21 : decode cX0_init 21 = .ok (.bipush 40, 2) := by decide +kernel
theorem dX0_init_23 : decode cX0_init 23 = .ok (.newarray .int, 2) := by decide +kernel
theorem dX0_init_25 : decode cX0_init 25 = .ok (.putfield 16, 3) := by decide +kernel
theorem dX0_init_28 : decode cX0_init 28 = .ok (.return_, 1) := by decide +kernel
theorem dX0_note_0 : decode cX0_note 0 = .ok (.aload_n 0, 1) := by decide +kernel
theorem dX0_note_1 : decode cX0_note 1 = .ok (.getfield 19, 3) := by decide +kernel
theorem dX0_note_4 : decode cX0_note 4 = .ok (.bipush 40, 2) := by decide +kernel
theorem dX0_note_6 : decode cX0_note 6 = .ok (.if_icmp .lt 7, 3) := by decide +kernel
theorem dX0_note_9 : decode cX0_note 9 = .ok (.aload_n 0, 1) := by decide +kernel
theorem dX0_note_10 : decode cX0_note 10 = .ok (.invokevirtual 23, 3) := by decide +kernel
theorem dX0_note_13 : decode cX0_note 13 = .ok (.aload_n 0, 1) := by decide +kernel
theorem dX0_note_14 : decode cX0_note 14 = .ok (.getfield 9, 3) := by decide +kernel
theorem dX0_note_17 : decode cX0_note 17 = .ok (.aload_n 0, 1) := by decide +kernel
theorem dX0_note_18 : decode cX0_note 18 = .ok (.getfield 19, 3) := by decide +kernel
theorem dX0_note_21 : decode cX0_note 21 = .ok (.iload_n 1, 1) := by decide +kernel
theorem dX0_note_22 : decode cX0_note 22 = .ok (.iastore, 1) := by decide +kernel
theorem dX0_note_23 : decode cX0_note 23 = .ok (.aload_n 0, 1) := by decide +kernel
theorem dX0_note_24 : decode cX0_note 24 = .ok (.getfield 13, 3) := by decide +kernel
theorem dX0_note_27 : decode cX0_note 27 = .ok (.aload_n 0, 1) := by decide +kernel
theorem dX0_note_28 : decode cX0_note 28 = .ok (.getfield 19, 3) := by decide +kernel
theorem dX0_note_31 : decode cX0_note 31 = .ok (.iload_n 2, 1) := by decide +kernel
theorem dX0_note_32 : decode cX0_note 32 = .ok (.iastore, 1) := by decide +kernel
theorem dX0_note_33 : decode cX0_note 33 = .ok (.aload_n 0, 1) := by decide +kernel
theorem dX0_note_34 : decode cX0_note 34 = .ok (.getfield 16, 3) := by decide +kernel
theorem dX0_note_37 : decode cX0_note 37 = .ok (.aload_n 0, 1) := by decide +kernel
theorem dX0_note_38 : decode cX0_note 38 = .ok (.getfield 19, 3) := by decide +kernel
theorem dX0_note_41 : decode cX0_note 41 = .ok (.iload_n 3, 1) := by decide +kernel
theorem dX0_note_42 : decode cX0_note 42 = .ok (.iastore, 1) := by decide +kernel
theorem dX0_note_43 : decode cX0_note 43 = .ok (.aload_n 0, 1) := by decide +kernel
theorem dX0_note_44 : decode cX0_note 44 = .ok (.dup, 1) := by decide +kernel
theorem dX0_note_45 : decode cX0_note 45 = .ok (.getfield 19, 3) := by decide +kernel
theorem dX0_note_48 : decode cX0_note 48 = .ok (.iconst 1, 1) := by decide +kernel
theorem dX0_note_49 : decode cX0_note 49 = .ok (.iadd, 1) := by decide +kernel
theorem dX0_note_50 : decode cX0_note 50 = .ok (.putfield 19, 3) := by decide +kernel
theorem dX0_note_53 : decode cX0_note 53 = .ok (.aload_n 0, 1) := by decide +kernel
theorem dX0_note_54 : decode cX0_note 54 = .ok (.aload_n 0, 1) := by decide +kernel
theorem dX0_note_55 : decode cX0_note 55 = .ok (.getfield 19, 3) := by decide +kernel
theorem dX0_note_58 : decode cX0_note 58 = .ok (.putfield 26, 3) := by decide +kernel
theorem dX0_note_61 : decode cX0_note 61 = .ok (.return_, 1) := by decide +kernel
theorem dX0_forgetOldest_0 : decode cX0_forgetOldest 0 = .ok (.aload_n 0, 1) := by decide +kernel
theorem dX0_forgetOldest_1 : decode cX0_forgetOldest 1 = .ok (.getfield 9, 3) := by decide +kernel
theorem dX0_forgetOldest_4 : decode cX0_forgetOldest 4 = .ok (.iconst 1, 1) := by decide +kernel
theorem dX0_forgetOldest_5 : decode cX0_forgetOldest 5 = .ok (.aload_n 0, 1) := by decide +kernel
theorem dX0_forgetOldest_6 : decode cX0_forgetOldest 6 = .ok (.getfield 9, 3) := by decide +kernel
theorem dX0_forgetOldest_9 : decode cX0_forgetOldest 9 = .ok (.iconst 0, 1) := by decide +kernel
theorem dX0_forgetOldest_10 : decode cX0_forgetOldest 10 = .ok (.bipush 39, 2) := by decide +kernel
theorem dX0_forgetOldest_12 : decode cX0_forgetOldest 12 = .ok (.invokestatic 29, 3) := by decide +kernel
theorem dX0_forgetOldest_15 : decode cX0_forgetOldest 15 = .ok (.aload_n 0, 1) := by decide +kernel
theorem dX0_forgetOldest_16 : decode cX0_forgetOldest 16 = .ok (.getfield 13, 3) := by decide +kernel
theorem dX0_forgetOldest_19 : decode cX0_forgetOldest 19 = .ok (.iconst 1, 1) := by decide +kernel
theorem dX0_forgetOldest_20 : decode cX0_forgetOldest 20 = .ok (.aload_n 0, 1) := by decide +kernel
theorem dX0_forgetOldest_21 : decode cX0_forgetOldest 21 = .ok (.getfield 13, 3) := by decide +kernel
theorem dX0_forgetOldest_24 : decode cX0_forgetOldest 24 = .ok (.iconst 0, 1) := by decide +kernel
theorem dX0_forgetOldest_25 : decode cX0_forgetOldest 25 = .ok (.bipush 39, 2) := by decide +kernel
theorem dX0_forgetOldest_27 : decode cX0_forgetOldest 27 = .ok (.invokestatic 29, 3) := by decide +kernel
theorem dX0_forgetOldest_30 : decode cX0_forgetOldest 30 = .ok (.aload_n 0, 1) := by decide +kernel
theorem dX0_forgetOldest_31 : decode cX0_forgetOldest 31 = .ok (.getfield 16, 3) := by decide +kernel
theorem dX0_forgetOldest_34 : decode cX0_forgetOldest 34 = .ok (.iconst 1, 1) := by decide +kernel
theorem dX0_forgetOldest_35 : decode cX0_forgetOldest 35 = .ok (.aload_n 0, 1) := by decide +kernel
theorem dX0_forgetOldest_36 : decode cX0_forgetOldest 36 = .ok (.getfield 16, 3) := by decide +kernel
theorem dX0_forgetOldest_39 : decode cX0_forgetOldest 39 = .ok (.iconst 0, 1) := by decide +kernel
theorem dX0_forgetOldest_40 : decode cX0_forgetOldest 40 = .ok (.bipush 39, 2) := by decide +kernel
theorem dX0_forgetOldest_42 : decode cX0_forgetOldest 42 = .ok (.invokestatic 29, 3) := by decide +kernel
theorem dX0_forgetOldest_45 : decode cX0_forgetOldest 45 = .ok (.aload_n 0, 1) := by decide +kernel
theorem dX0_forgetOldest_46 : decode cX0_forgetOldest 46 = .ok (.bipush 39, 2) := by decide +kernel
theorem dX0_forgetOldest_48 : decode cX0_forgetOldest 48 = .ok (.putfield 19, 3) := by decide +kernel
theorem dX0_forgetOldest_51 : decode cX0_forgetOldest 51 = .ok (.return_, 1) := by decide +kernel
theorem dX0_takeBack_0 : decode cX0_takeBack 0 = .ok (.aload_n 0, 1) := by decide +kernel
theorem dX0_takeBack_1 : decode cX0_takeBack 1 = .ok (.getfield 19, 3) := by decide +kernel
theorem dX0_takeBack_4 : decode cX0_takeBack 4 = .ok (.ifCond .gt 5, 3) := by decide +kernel
theorem dX0_takeBack_7 : decode cX0_takeBack 7 = .ok (.iconst 0, 1) := by decide +kernel
theorem dX0_takeBack_8 : decode cX0_takeBack 8 = .ok (.ireturn, 1) := by decide +kernel
theorem dX0_takeBack_9 : decode cX0_takeBack 9 = .ok (.aload_n 0, 1) := by decide +kernel
theorem dX0_takeBack_10 : decode cX0_takeBack 10 = .ok (.dup, 1) := by decide +kernel
theorem dX0_takeBack_11 : decode cX0_takeBack 11 = .ok (.getfield 19, 3) := by decide +kernel
theorem dX0_takeBack_14 : decode cX0_takeBack 14 = .ok (.iconst 1, 1) := by decide +kernel
theorem dX0_takeBack_15 : decode cX0_takeBack 15 = .ok (.isub, 1) := by decide +kernel
theorem dX0_takeBack_16 : decode cX0_takeBack 16 = .ok (.putfield 19, 3) := by decide +kernel
theorem dX0_takeBack_19 : decode cX0_takeBack 19 = .ok (.aload_n 1, 1) := by decide +kernel
theorem dX0_takeBack_20 : decode cX0_takeBack 20 = .ok (.aload_n 0, 1) := by decide +kernel
theorem dX0_takeBack_21 : decode cX0_takeBack 21 = .ok (.getfield 9, 3) := by decide +kernel
theorem dX0_takeBack_24 : decode cX0_takeBack 24 = .ok (.aload_n 0, 1) := by decide +kernel
theorem dX0_takeBack_25 : decode cX0_takeBack 25 = .ok (.getfield 19, 3) := by decide +kernel
theorem dX0_takeBack_28 : decode cX0_takeBack 28 = .ok (.iaload, 1) := by decide +kernel
theorem dX0_takeBack_29 : decode cX0_takeBack 29 = .ok (.aload_n 0, 1) := by decide +kernel
theorem dX0_takeBack_30 : decode cX0_takeBack 30 = .ok (.getfield 13, 3) := by decide +kernel
theorem dX0_takeBack_33 : decode cX0_takeBack 33 = .ok (.aload_n 0, 1) := by decide +kernel
theorem dX0_takeBack_34 : decode cX0_takeBack 34 = .ok (.getfield 19, 3) := by decide +kernel
theorem dX0_takeBack_37 : decode cX0_takeBack 37 = .ok (.iaload, 1) := by decide +kernel
theorem dX0_takeBack_38 : decode cX0_takeBack 38 = .ok (.iastore, 1) := by decide +kernel
theorem dX0_takeBack_39 : decode cX0_takeBack 39 = .ok (.iconst 1, 1) := by decide +kernel
theorem dX0_takeBack_40 : decode cX0_takeBack 40 = .ok (.ireturn, 1) := by decide +kernel
theorem dX0_doAgain_0 : decode cX0_doAgain 0 = .ok (.aload_n 0, 1) := by decide +kernel
theorem dX0_doAgain_1 : decode cX0_doAgain 1 = .ok (.getfield 19, 3) := by decide +kernel
theorem dX0_doAgain_4 : decode cX0_doAgain 4 = .ok (.aload_n 0, 1) := by decide +kernel
theorem dX0_doAgain_5 : decode cX0_doAgain 5 = .ok (.getfield 26, 3) := by decide +kernel
theorem dX0_doAgain_8 : decode cX0_doAgain 8 = .ok (.if_icmp .lt 5, 3) := by decide +kernel
theorem dX0_doAgain_11 : decode cX0_doAgain 11 = .ok (.iconst 0, 1) := by decide +kernel
theorem dX0_doAgain_12 : decode cX0_doAgain 12 = .ok (.ireturn, 1) := by decide +kernel
theorem dX0_doAgain_13 : decode cX0_doAgain 13 = .ok (.aload_n 1, 1) := by decide +kernel
theorem dX0_doAgain_14 : decode cX0_doAgain 14 = .ok (.aload_n 0, 1) := by decide +kernel
theorem dX0_doAgain_15 : decode cX0_doAgain 15 = .ok (.getfield 9, 3) := by decide +kernel
theorem dX0_doAgain_18 : decode cX0_doAgain 18 = .ok (.aload_n 0, 1) := by decide +kernel
theorem dX0_doAgain_19 : decode cX0_doAgain 19 = .ok (.getfield 19, 3) := by decide +kernel
theorem dX0_doAgain_22 : decode cX0_doAgain 22 = .ok (.iaload, 1) := by decide +kernel
theorem dX0_doAgain_23 : decode cX0_doAgain 23 = .ok (.aload_n 0, 1) := by decide +kernel
theorem dX0_doAgain_24 : decode cX0_doAgain 24 = .ok (.getfield 16, 3) := by decide +kernel
theorem dX0_doAgain_27 : decode cX0_doAgain 27 = .ok (.aload_n 0, 1) := by decide +kernel
theorem dX0_doAgain_28 : decode cX0_doAgain 28 = .ok (.getfield 19, 3) := by decide +kernel
theorem dX0_doAgain_31 : decode cX0_doAgain 31 = .ok (.iaload, 1) := by decide +kernel
theorem dX0_doAgain_32 : decode cX0_doAgain 32 = .ok (.iastore, 1) := by decide +kernel
theorem dX0_doAgain_33 : decode cX0_doAgain 33 = .ok (.aload_n 0, 1) := by decide +kernel
theorem dX0_doAgain_34 : decode cX0_doAgain 34 = .ok (.dup, 1) := by decide +kernel
theorem dX0_doAgain_35 : decode cX0_doAgain 35 = .ok (.getfield 19, 3) := by decide +kernel
theorem dX0_doAgain_38 : decode cX0_doAgain 38 = .ok (.iconst 1, 1) := by decide +kernel
theorem dX0_doAgain_39 : decode cX0_doAgain 39 = .ok (.iadd, 1) := by decide +kernel
theorem dX0_doAgain_40 : decode cX0_doAgain 40 = .ok (.putfield 19, 3) := by decide +kernel
theorem dX0_doAgain_43 : decode cX0_doAgain 43 = .ok (.iconst 1, 1) := by decide +kernel
theorem dX0_doAgain_44 : decode cX0_doAgain 44 = .ok (.ireturn, 1) := by decide +kernel
theorem dX1_init_0 : decode cX1_init 0 = .ok (.aload_n 0, 1) := by decide +kernel
theorem dX1_init_1 : decode cX1_init 1 = .ok (.invokespecial 3, 3) := by decide +kernel
theorem dX1_init_4 : decode cX1_init 4 = .ok (.aload_n 0, 1) := by decide +kernel
theorem dX1_init_5 : decode cX1_init 5 = .ok (.sipush 200, 3) := by decide +kernel
theorem dX1_init_8 : decode cX1_init 8 = .ok (.putfield 9, 3) := by decide +kernel
theorem dX1_init_11 : decode cX1_init 11 = .ok (.aload_n 0, 1) := by decide +kernel
theorem dX1_init_12 : decode cX1_init 12 = .ok (.iconst 3, 1) := by decide +kernel
theorem dX1_init_13 : decode cX1_init 13 = .ok (.newarray .int, 2) := by decide +kernel
theorem dX1_init_15 : decode cX1_init 15 = .ok (.putfield 15, 3) := by decide +kernel
theorem dX1_init_18 : decode cX1_init 18 = .ok (.aload_n 0, 1) := by decide +kernel
theorem dX1_init_19 : decode cX1_init 19 = .ok (.iconst 3, 1) := by decide +kernel
theorem dX1_init_20 : decode cX1_init 20 = .ok (.newarray .int, 2) := by decide +kernel
theorem dX1_init_22 : decode cX1_init 22 = .ok (.putfield 19, 3) := by decide +kernel
theorem dX1_init_25 : decode cX1_init 25 = .ok (.aload_n 0, 1) := by decide +kernel
theorem dX1_init_26 : decode cX1_init 26 = .ok (.iconst 3, 1) := by decide +kernel
theorem dX1_init_27 : decode cX1_init 27 = .ok (.newarray .int, 2) := by decide +kernel
theorem dX1_init_29 : decode cX1_init 29 = .ok (.putfield 22, 3) := by decide +kernel
theorem dX1_init_32 : decode cX1_init 32 = .ok (.aload_n 0, 1) := by decide +kernel
theorem dX1_init_33 : decode cX1_init 33 = .ok (.iconst 3, 1) := by decide +kernel
theorem dX1_init_34 : decode cX1_init 34 = .ok (.newarray .int, 2) := by decide +kernel
theorem dX1_init_36 : decode cX1_init 36 = .ok (.putfield 25, 3) := by decide +kernel
theorem dX1_init_39 : decode cX1_init 39 = .ok (.aload_n 0, 1) := by decide +kernel
theorem dX1_init_40 : decode cX1_init 40 = .ok (.iconst 3, 1) := by decide +kernel
theorem dX1_init_41 : decode cX1_init 41 = .ok (.newarray .int, 2) := by decide +kernel
theorem dX1_init_43 : decode cX1_init 43 = .ok (.putfield 28, 3) := by decide +kernel
theorem dX1_init_46 : decode cX1_init 46 = .ok (.aload_n 0, 1) := by decide +kernel
theorem dX1_init_47 : decode cX1_init 47 = .ok (.aload_n 1, 1) := by decide +kernel
theorem dX1_init_48 : decode cX1_init 48 = .ok (.putfield 31, 3) := by decide +kernel
theorem dX1_init_51 : decode cX1_init 51 = .ok (.aload_n 0, 1) := by decide +kernel
theorem dX1_init_52 : decode cX1_init 52 = .ok (.aload_n 2, 1) := by decide +kernel
theorem dX1_init_53 : decode cX1_init 53 = .ok (.putfield 35, 3) := by decide +kernel
theorem dX1_init_56 : decode cX1_init 56 = .ok (.return_, 1) := by decide +kernel
theorem dX1_copy_0 : decode cX1_copy 0 = .ok (.aload_n 0, 1) := by decide +kernel
theorem dX1_copy_1 : decode cX1_copy 1 = .ok (.aload_n 1, 1) := by decide +kernel
theorem dX1_copy_2 : decode cX1_copy 2 = .ok (.invokevirtual 39, 3) := by decide +kernel
theorem dX1_copy_5 : decode cX1_copy 5 = .ok (.aload_n 0, 1) := by decide +kernel
theorem dX1_copy_6 : decode cX1_copy 6 = .ok (.aload_n 1, 1) := by decide +kernel
theorem dX1_copy_7 : decode cX1_copy 7 = .ok (.getfield 43, 3) := by decide +kernel
theorem dX1_copy_10 : decode cX1_copy 10 = .ok (.putfield 43, 3) := by decide +kernel
theorem dX1_copy_13 : decode cX1_copy 13 = .ok (.aload_n 0, 1) := by decide +kernel
theorem dX1_copy_14 : decode cX1_copy 14 = .ok (.aload_n 1, 1) := by decide +kernel
theorem dX1_copy_15 : decode cX1_copy 15 = .ok (.getfield 46, 3) := by decide +kernel
theorem dX1_copy_18 : decode cX1_copy 18 = .ok (.putfield 46, 3) := by decide +kernel
theorem dX1_copy_21 : decode cX1_copy 21 = .ok (.iconst 0, 1) := by decide +kernel
theorem dX1_copy_22 : decode cX1_copy 22 = .ok (.istore_n 2, 1) := by decide +kernel
theorem dX1_copy_23 : decode cX1_copy 23 = .ok (.iload_n 2, 1) := by decide +kernel
theorem dX1_copy_24 : decode cX1_copy 24 = .ok (.iconst 3, 1) := by decide +kernel
theorem dX1_copy_25 : decode cX1_copy 25 = .ok (.if_icmp .ge 45, 3) := by decide +kernel
theorem dX1_copy_28 : decode cX1_copy 28 = .ok (.aload_n 0, 1) := by decide +kernel
theorem dX1_copy_29 : decode cX1_copy 29 = .ok (.getfield 19, 3) := by decide +kernel
theorem dX1_copy_32 : decode cX1_copy 32 = .ok (.iload_n 2, 1) := by decide +kernel
theorem dX1_copy_33 : decode cX1_copy 33 = .ok (.aload_n 1, 1) := by decide +kernel
theorem dX1_copy_34 : decode cX1_copy 34 = .ok (.getfield 19, 3) := by decide +kernel
theorem dX1_copy_37 : decode cX1_copy 37 = .ok (.iload_n 2, 1) := by decide +kernel
theorem dX1_copy_38 : decode cX1_copy 38 = .ok (.iaload, 1) := by decide +kernel
theorem dX1_copy_39 : decode cX1_copy 39 = .ok (.iastore, 1) := by decide +kernel
theorem dX1_copy_40 : decode cX1_copy 40 = .ok (.aload_n 0, 1) := by decide +kernel
theorem dX1_copy_41 : decode cX1_copy 41 = .ok (.getfield 22, 3) := by decide +kernel
theorem dX1_copy_44 : decode cX1_copy 44 = .ok (.iload_n 2, 1) := by decide +kernel
theorem dX1_copy_45 : decode cX1_copy 45 = .ok (.aload_n 1, 1) := by decide +kernel
theorem dX1_copy_46 : decode cX1_copy 46 = .ok (.getfield 22, 3) := by decide +kernel
theorem dX1_copy_49 : decode cX1_copy 49 = .ok (.iload_n 2, 1) := by decide +kernel
theorem dX1_copy_50 : decode cX1_copy 50 = .ok (.iaload, 1) := by decide +kernel
theorem dX1_copy_51 : decode cX1_copy 51 = .ok (.iastore, 1) := by decide +kernel
theorem dX1_copy_52 : decode cX1_copy 52 = .ok (.aload_n 0, 1) := by decide +kernel
theorem dX1_copy_53 : decode cX1_copy 53 = .ok (.getfield 25, 3) := by decide +kernel
theorem dX1_copy_56 : decode cX1_copy 56 = .ok (.iload_n 2, 1) := by decide +kernel
theorem dX1_copy_57 : decode cX1_copy 57 = .ok (.aload_n 1, 1) := by decide +kernel
theorem dX1_copy_58 : decode cX1_copy 58 = .ok (.getfield 25, 3) := by decide +kernel
theorem dX1_copy_61 : decode cX1_copy 61 = .ok (.iload_n 2, 1) := by decide +kernel
theorem dX1_copy_62 : decode cX1_copy 62 = .ok (.iaload, 1) := by decide +kernel
theorem dX1_copy_63 : decode cX1_copy 63 = .ok (.iastore, 1) := by decide +kernel
theorem dX1_copy_64 : decode cX1_copy 64 = .ok (.iinc 2 1, 3) := by decide +kernel
theorem dX1_copy_67 : decode cX1_copy 67 = .ok (.goto (-44), 3) := by decide +kernel
theorem dX1_copy_70 : decode cX1_copy 70 = .ok (.return_, 1) := by decide +kernel
theorem dX1_begin_0 : decode cX1_begin 0 = .ok (.aload_n 0, 1) := by decide +kernel
theorem dX1_begin_1 : decode cX1_begin 1 = .ok (.aload_n 1, 1) := by decide +kernel
theorem dX1_begin_2 : decode cX1_begin 2 = .ok (.getfield 9, 3) := by decide +kernel
theorem dX1_begin_5 : decode cX1_begin 5 = .ok (.putfield 9, 3) := by decide +kernel
theorem dX1_begin_8 : decode cX1_begin 8 = .ok (.aload_n 0, 1) := by decide +kernel
theorem dX1_begin_9 : decode cX1_begin 9 = .ok (.aload_n 1, 1) := by decide +kernel
theorem dX1_begin_10 : decode cX1_begin 10 = .ok (.getfield 49, 3) := by decide +kernel
theorem dX1_begin_13 : decode cX1_begin 13 = .ok (.putfield 49, 3) := by decide +kernel
theorem dX1_begin_16 : decode cX1_begin 16 = .ok (.aload_n 0, 1) := by decide +kernel
theorem dX1_begin_17 : decode cX1_begin 17 = .ok (.aload_n 1, 1) := by decide +kernel
theorem dX1_begin_18 : decode cX1_begin 18 = .ok (.getfield 52, 3) := by decide +kernel
theorem dX1_begin_21 : decode cX1_begin 21 = .ok (.putfield 52, 3) := by decide +kernel
theorem dX1_begin_24 : decode cX1_begin 24 = .ok (.iconst 0, 1) := by decide +kernel
theorem dX1_begin_25 : decode cX1_begin 25 = .ok (.istore_n 2, 1) := by decide +kernel
theorem dX1_begin_26 : decode cX1_begin 26 = .ok (.iload_n 2, 1) := by decide +kernel
theorem dX1_begin_27 : decode cX1_begin 27 = .ok (.iconst 3, 1) := by decide +kernel
theorem dX1_begin_28 : decode cX1_begin 28 = .ok (.if_icmp .ge 42, 3) := by decide +kernel
theorem dX1_begin_31 : decode cX1_begin 31 = .ok (.aload_n 0, 1) := by decide +kernel
theorem dX1_begin_32 : decode cX1_begin 32 = .ok (.getfield 15, 3) := by decide +kernel
theorem dX1_begin_35 : decode cX1_begin 35 = .ok (.iload_n 2, 1) := by decide +kernel
theorem dX1_begin_36 : decode cX1_begin 36 = .ok (.aload_n 1, 1) := by decide +kernel
theorem dX1_begin_37 : decode cX1_begin 37 = .ok (.getfield 15, 3) := by decide +kernel
theorem dX1_begin_40 : decode cX1_begin 40 = .ok (.iload_n 2, 1) := by decide +kernel
theorem dX1_begin_41 : decode cX1_begin 41 = .ok (.iaload, 1) := by decide +kernel
theorem dX1_begin_42 : decode cX1_begin 42 = .ok (.iastore, 1) := by decide +kernel
theorem dX1_begin_43 : decode cX1_begin 43 = .ok (.aload_n 0, 1) := by decide +kernel
theorem dX1_begin_44 : decode cX1_begin 44 = .ok (.getfield 19, 3) := by decide +kernel
theorem dX1_begin_47 : decode cX1_begin 47 = .ok (.iload_n 2, 1) := by decide +kernel
theorem dX1_begin_48 : decode cX1_begin 48 = .ok (.iconst 0, 1) := by decide +kernel
theorem dX1_begin_49 : decode cX1_begin 49 = .ok (.iastore, 1) := by decide +kernel
theorem dX1_begin_50 : decode cX1_begin 50 = .ok (.aload_n 0, 1) := by decide +kernel
theorem dX1_begin_51 : decode cX1_begin 51 = .ok (.getfield 22, 3) := by decide +kernel
theorem dX1_begin_54 : decode cX1_begin 54 = .ok (.iload_n 2, 1) := by decide +kernel
theorem dX1_begin_55 : decode cX1_begin 55 = .ok (.iconst 0, 1) := by decide +kernel
theorem dX1_begin_56 : decode cX1_begin 56 = .ok (.iastore, 1) := by decide +kernel
theorem dX1_begin_57 : decode cX1_begin 57 = .ok (.aload_n 0, 1) := by decide +kernel
theorem dX1_begin_58 : decode cX1_begin 58 = .ok (.getfield 25, 3) := by decide +kernel
theorem dX1_begin_61 : decode cX1_begin 61 = .ok (.iload_n 2, 1) := by decide +kernel
theorem dX1_begin_62 : decode cX1_begin 62 = .ok (.iconst 0, 1) := by decide +kernel
theorem dX1_begin_63 : decode cX1_begin 63 = .ok (.iastore, 1) := by decide +kernel
theorem dX1_begin_64 : decode cX1_begin 64 = .ok (.iinc 2 1, 3) := by decide +kernel
theorem dX1_begin_67 : decode cX1_begin 67 = .ok (.goto (-41), 3) := by decide +kernel
theorem dX1_begin_70 : decode cX1_begin 70 = .ok (.return_, 1) := by decide +kernel
theorem dX1_refill_0 : decode cX1_refill 0 = .ok (.aload_n 0, 1) := by decide +kernel
theorem dX1_refill_1 : decode cX1_refill 1 = .ok (.iload_n 1, 1) := by decide +kernel
theorem dX1_refill_2 : decode cX1_refill 2 = .ok (.putfield 9, 3) := by decide +kernel
theorem dX1_refill_5 : decode cX1_refill 5 = .ok (.aload_n 0, 1) := by decide +kernel
theorem dX1_refill_6 : decode cX1_refill 6 = .ok (.iconst 0, 1) := by decide +kernel
theorem dX1_refill_7 : decode cX1_refill 7 = .ok (.putfield 52, 3) := by decide +kernel
theorem dX1_refill_10 : decode cX1_refill 10 = .ok (.aload_n 0, 1) := by decide +kernel
theorem dX1_refill_11 : decode cX1_refill 11 = .ok (.dup, 1) := by decide +kernel
theorem dX1_refill_12 : decode cX1_refill 12 = .ok (.getfield 46, 3) := by decide +kernel
theorem dX1_refill_15 : decode cX1_refill 15 = .ok (.iconst 1, 1) := by decide +kernel
theorem dX1_refill_16 : decode cX1_refill 16 = .ok (.iadd, 1) := by decide +kernel
theorem dX1_refill_17 : decode cX1_refill 17 = .ok (.putfield 46, 3) := by decide +kernel
theorem dX1_refill_20 : decode cX1_refill 20 = .ok (.iconst 0, 1) := by decide +kernel
theorem dX1_refill_21 : decode cX1_refill 21 = .ok (.istore_n 2, 1) := by decide +kernel
theorem dX1_refill_22 : decode cX1_refill 22 = .ok (.iload_n 2, 1) := by decide +kernel
theorem dX1_refill_23 : decode cX1_refill 23 = .ok (.iconst 3, 1) := by decide +kernel
theorem dX1_refill_24 : decode cX1_refill 24 = .ok (.if_icmp .ge 16, 3) := by decide +kernel
theorem dX1_refill_27 : decode cX1_refill 27 = .ok (.aload_n 0, 1) := by decide +kernel
theorem dX1_refill_28 : decode cX1_refill 28 = .ok (.getfield 15, 3) := by decide +kernel
theorem dX1_refill_31 : decode cX1_refill 31 = .ok (.iload_n 2, 1) := by decide +kernel
theorem dX1_refill_32 : decode cX1_refill 32 = .ok (.iconst 0, 1) := by decide +kernel
theorem dX1_refill_33 : decode cX1_refill 33 = .ok (.iastore, 1) := by decide +kernel
theorem dX1_refill_34 : decode cX1_refill 34 = .ok (.iinc 2 1, 3) := by decide +kernel
theorem dX1_refill_37 : decode cX1_refill 37 = .ok (.goto (-15), 3) := by decide +kernel
theorem dX1_refill_40 : decode cX1_refill 40 = .ok (.return_, 1) := by decide +kernel
theorem dX1_tells_0 : decode cX1_tells 0 = .ok (.iload_n 2, 1) := by decide +kernel
theorem dX1_tells_1 : decode cX1_tells 1 = .ok (.lookupswitch 41 #[(0, 27), (1, 34)], 27) := by decide +kernel
theorem dX1_tells_28 : decode cX1_tells 28 = .ok (.aload_n 0, 1) := by decide +kernel
theorem dX1_tells_29 : decode cX1_tells 29 = .ok (.getfield 19, 3) := by decide +kernel
theorem dX1_tells_32 : decode cX1_tells 32 = .ok (.iload_n 1, 1) := by decide +kernel
theorem dX1_tells_33 : decode cX1_tells 33 = .ok (.iaload, 1) := by decide +kernel
theorem dX1_tells_34 : decode cX1_tells 34 = .ok (.ireturn, 1) := by decide +kernel
theorem dX1_tells_35 : decode cX1_tells 35 = .ok (.aload_n 0, 1) := by decide +kernel
theorem dX1_tells_36 : decode cX1_tells 36 = .ok (.getfield 22, 3) := by decide +kernel
theorem dX1_tells_39 : decode cX1_tells 39 = .ok (.iload_n 1, 1) := by decide +kernel
theorem dX1_tells_40 : decode cX1_tells 40 = .ok (.iaload, 1) := by decide +kernel
theorem dX1_tells_41 : decode cX1_tells 41 = .ok (.ireturn, 1) := by decide +kernel
theorem dX1_tells_42 : decode cX1_tells 42 = .ok (.aload_n 0, 1) := by decide +kernel
theorem dX1_tells_43 : decode cX1_tells 43 = .ok (.getfield 25, 3) := by decide +kernel
theorem dX1_tells_46 : decode cX1_tells 46 = .ok (.iload_n 1, 1) := by decide +kernel
theorem dX1_tells_47 : decode cX1_tells 47 = .ok (.iaload, 1) := by decide +kernel
theorem dX1_tells_48 : decode cX1_tells 48 = .ok (.ireturn, 1) := by decide +kernel
theorem dX1_pass_0 : decode cX1_pass 0 = .ok (.iconst 0, 1) := by decide +kernel
theorem dX1_pass_1 : decode cX1_pass 1 = .ok (.istore 4, 2) := by decide +kernel
theorem dX1_pass_3 : decode cX1_pass 3 = .ok (.iconst 0, 1) := by decide +kernel
theorem dX1_pass_4 : decode cX1_pass 4 = .ok (.istore 5, 2) := by decide +kernel
theorem dX1_pass_6 : decode cX1_pass 6 = .ok (.iload 5, 2) := by decide +kernel
theorem dX1_pass_8 : decode cX1_pass 8 = .ok (.aload_n 0, 1) := by decide +kernel
theorem dX1_pass_9 : decode cX1_pass 9 = .ok (.getfield 31, 3) := by decide +kernel
theorem dX1_pass_12 : decode cX1_pass 12 = .ok (.getfield 55, 3) := by decide +kernel
theorem dX1_pass_15 : decode cX1_pass 15 = .ok (.if_icmp .ge 95, 3) := by decide +kernel
theorem dX1_pass_18 : decode cX1_pass 18 = .ok (.iconst 1, 1) := by decide +kernel
theorem dX1_pass_19 : decode cX1_pass 19 = .ok (.iload 5, 2) := by decide +kernel
theorem dX1_pass_21 : decode cX1_pass 21 = .ok (.ishl, 1) := by decide +kernel
theorem dX1_pass_22 : decode cX1_pass 22 = .ok (.istore 6, 2) := by decide +kernel
theorem dX1_pass_24 : decode cX1_pass 24 = .ok (.aload_n 0, 1) := by decide +kernel
theorem dX1_pass_25 : decode cX1_pass 25 = .ok (.getfield 28, 3) := by decide +kernel
theorem dX1_pass_28 : decode cX1_pass 28 = .ok (.iload 5, 2) := by decide +kernel
theorem dX1_pass_30 : decode cX1_pass 30 = .ok (.iconst 0, 1) := by decide +kernel
theorem dX1_pass_31 : decode cX1_pass 31 = .ok (.iastore, 1) := by decide +kernel
theorem dX1_pass_32 : decode cX1_pass 32 = .ok (.iload_n 1, 1) := by decide +kernel
theorem dX1_pass_33 : decode cX1_pass 33 = .ok (.iload 6, 2) := by decide +kernel
theorem dX1_pass_35 : decode cX1_pass 35 = .ok (.iand, 1) := by decide +kernel
theorem dX1_pass_36 : decode cX1_pass 36 = .ok (.ifCond .eq 68, 3) := by decide +kernel
theorem dX1_pass_39 : decode cX1_pass 39 = .ok (.aload_n 0, 1) := by decide +kernel
theorem dX1_pass_40 : decode cX1_pass 40 = .ok (.getfield 31, 3) := by decide +kernel
theorem dX1_pass_43 : decode cX1_pass 43 = .ok (.iload 5, 2) := by decide +kernel
theorem dX1_pass_45 : decode cX1_pass 45 = .ok (.aload_n 0, 1) := by decide +kernel
theorem dX1_pass_46 : decode cX1_pass 46 = .ok (.getfield 52, 3) := by decide +kernel
theorem dX1_pass_49 : decode cX1_pass 49 = .ok (.iload_n 2, 1) := by decide +kernel
theorem dX1_pass_50 : decode cX1_pass 50 = .ok (.iload 6, 2) := by decide +kernel
theorem dX1_pass_52 : decode cX1_pass 52 = .ok (.iand, 1) := by decide +kernel
theorem dX1_pass_53 : decode cX1_pass 53 = .ok (.ifCond .eq 7, 3) := by decide +kernel
theorem dX1_pass_56 : decode cX1_pass 56 = .ok (.iconst 1, 1) := by decide +kernel
theorem dX1_pass_57 : decode cX1_pass 57 = .ok (.goto 4, 3) := by decide +kernel
theorem dX1_pass_60 : decode cX1_pass 60 = .ok (.iconst 0, 1) := by decide +kernel
theorem dX1_pass_61 : decode cX1_pass 61 = .ok (.invokevirtual 60, 3) := by decide +kernel
theorem dX1_pass_64 : decode cX1_pass 64 = .ok (.ifCond .eq 40, 3) := by decide +kernel
theorem dX1_pass_67 : decode cX1_pass 67 = .ok (.aload_n 0, 1) := by decide +kernel
theorem dX1_pass_68 : decode cX1_pass 68 = .ok (.getfield 28, 3) := by decide +kernel
theorem dX1_pass_71 : decode cX1_pass 71 = .ok (.iload 5, 2) := by decide +kernel
theorem dX1_pass_73 : decode cX1_pass 73 = .ok (.aload_n 0, 1) := by decide +kernel
theorem dX1_pass_74 : decode cX1_pass 74 = .ok (.iload 5, 2) := by decide +kernel
theorem dX1_pass_76 : decode cX1_pass 76 = .ok (.iload_n 3, 1) := by decide +kernel
theorem dX1_pass_77 : decode cX1_pass 77 = .ok (.iload 6, 2) := by decide +kernel
theorem dX1_pass_79 : decode cX1_pass 79 = .ok (.iand, 1) := by decide +kernel
theorem dX1_pass_80 : decode cX1_pass 80 = .ok (.ifCond .eq 7, 3) := by decide +kernel
theorem dX1_pass_83 : decode cX1_pass 83 = .ok (.iconst 1, 1) := by decide +kernel
theorem dX1_pass_84 : decode cX1_pass 84 = .ok (.goto 4, 3) := by decide +kernel
theorem dX1_pass_87 : decode cX1_pass 87 = .ok (.iconst 0, 1) := by decide +kernel
theorem dX1_pass_88 : decode cX1_pass 88 = .ok (.invokevirtual 64, 3) := by decide +kernel
theorem dX1_pass_91 : decode cX1_pass 91 = .ok (.iastore, 1) := by decide +kernel
theorem dX1_pass_92 : decode cX1_pass 92 = .ok (.iload 4, 2) := by decide +kernel
theorem dX1_pass_94 : decode cX1_pass 94 = .ok (.aload_n 0, 1) := by decide +kernel
theorem dX1_pass_95 : decode cX1_pass 95 = .ok (.getfield 28, 3) := by decide +kernel
theorem dX1_pass_98 : decode cX1_pass 98 = .ok (.iload 5, 2) := by decide +kernel
theorem dX1_pass_100 : decode cX1_pass 100 = .ok (.iaload, 1) := by decide +kernel
theorem dX1_pass_101 : decode cX1_pass 101 = .ok (.iadd, 1) := by decide +kernel
theorem dX1_pass_102 : decode cX1_pass 102 = .ok (.istore 4, 2) := by decide +kernel
theorem dX1_pass_104 : decode cX1_pass 104 = .ok (.iinc 5 1, 3) := by decide +kernel
theorem dX1_pass_107 : decode cX1_pass 107 = .ok (.goto (-101), 3) := by decide +kernel
theorem dX1_pass_110 : decode cX1_pass 110 = .ok (.iload 4, 2) := by decide +kernel
theorem dX1_pass_112 : decode cX1_pass 112 = .ok (.ifCond .le 9, 3) := by decide +kernel
theorem dX1_pass_115 : decode cX1_pass 115 = .ok (.aload_n 0, 1) := by decide +kernel
theorem dX1_pass_116 : decode cX1_pass 116 = .ok (.iload 4, 2) := by decide +kernel
theorem dX1_pass_118 : decode cX1_pass 118 = .ok (.invokevirtual 68, 3) := by decide +kernel
theorem dX1_pass_121 : decode cX1_pass 121 = .ok (.aload_n 0, 1) := by decide +kernel
theorem dX1_pass_122 : decode cX1_pass 122 = .ok (.invokevirtual 72, 3) := by decide +kernel
theorem dX1_pass_125 : decode cX1_pass 125 = .ok (.aload_n 0, 1) := by decide +kernel
theorem dX1_pass_126 : decode cX1_pass 126 = .ok (.dup, 1) := by decide +kernel
theorem dX1_pass_127 : decode cX1_pass 127 = .ok (.getfield 52, 3) := by decide +kernel
theorem dX1_pass_130 : decode cX1_pass 130 = .ok (.iconst 1, 1) := by decide +kernel
theorem dX1_pass_131 : decode cX1_pass 131 = .ok (.iadd, 1) := by decide +kernel
theorem dX1_pass_132 : decode cX1_pass 132 = .ok (.putfield 52, 3) := by decide +kernel
theorem dX1_pass_135 : decode cX1_pass 135 = .ok (.return_, 1) := by decide +kernel
theorem dX1_tries_0 : decode cX1_tries 0 = .ok (.aload_n 0, 1) := by decide +kernel
theorem dX1_tries_1 : decode cX1_tries 1 = .ok (.getfield 15, 3) := by decide +kernel
theorem dX1_tries_4 : decode cX1_tries 4 = .ok (.iload_n 1, 1) := by decide +kernel
theorem dX1_tries_5 : decode cX1_tries 5 = .ok (.iaload, 1) := by decide +kernel
theorem dX1_tries_6 : decode cX1_tries 6 = .ok (.istore_n 3, 1) := by decide +kernel
theorem dX1_tries_7 : decode cX1_tries 7 = .ok (.aload_n 0, 1) := by decide +kernel
theorem dX1_tries_8 : decode cX1_tries 8 = .ok (.getfield 15, 3) := by decide +kernel
theorem dX1_tries_11 : decode cX1_tries 11 = .ok (.iload_n 1, 1) := by decide +kernel
theorem dX1_tries_12 : decode cX1_tries 12 = .ok (.iload_n 3, 1) := by decide +kernel
theorem dX1_tries_13 : decode cX1_tries 13 = .ok (.iconst 1, 1) := by decide +kernel
theorem dX1_tries_14 : decode cX1_tries 14 = .ok (.iadd, 1) := by decide +kernel
theorem dX1_tries_15 : decode cX1_tries 15 = .ok (.iastore, 1) := by decide +kernel
theorem dX1_tries_16 : decode cX1_tries 16 = .ok (.iload_n 2, 1) := by decide +kernel
theorem dX1_tries_17 : decode cX1_tries 17 = .ok (.ifCond .eq 5, 3) := by decide +kernel
theorem dX1_tries_20 : decode cX1_tries 20 = .ok (.iconst 0, 1) := by decide +kernel
theorem dX1_tries_21 : decode cX1_tries 21 = .ok (.ireturn, 1) := by decide +kernel
theorem dX1_tries_22 : decode cX1_tries 22 = .ok (.aload_n 0, 1) := by decide +kernel
theorem dX1_tries_23 : decode cX1_tries 23 = .ok (.getfield 9, 3) := by decide +kernel
theorem dX1_tries_26 : decode cX1_tries 26 = .ok (.aload_n 0, 1) := by decide +kernel
theorem dX1_tries_27 : decode cX1_tries 27 = .ok (.getfield 31, 3) := by decide +kernel
theorem dX1_tries_30 : decode cX1_tries 30 = .ok (.iload_n 1, 1) := by decide +kernel
theorem dX1_tries_31 : decode cX1_tries 31 = .ok (.iconst 2, 1) := by decide +kernel
theorem dX1_tries_32 : decode cX1_tries 32 = .ok (.invokevirtual 75, 3) := by decide +kernel
theorem dX1_tries_35 : decode cX1_tries 35 = .ok (.isub, 1) := by decide +kernel
theorem dX1_tries_36 : decode cX1_tries 36 = .ok (.istore 4, 2) := by decide +kernel
theorem dX1_tries_38 : decode cX1_tries 38 = .ok (.iload 4, 2) := by decide +kernel
theorem dX1_tries_40 : decode cX1_tries 40 = .ok (.ifCond .gt 15, 3) := by decide +kernel
theorem dX1_tries_43 : decode cX1_tries 43 = .ok (.aload_n 0, 1) := by decide +kernel
theorem dX1_tries_44 : decode cX1_tries 44 = .ok (.getfield 25, 3) := by decide +kernel
theorem dX1_tries_47 : decode cX1_tries 47 = .ok (.iload_n 1, 1) := by decide +kernel
theorem dX1_tries_48 : decode cX1_tries 48 = .ok (.dup2, 1) := by decide +kernel
theorem dX1_tries_49 : decode cX1_tries 49 = .ok (.iaload, 1) := by decide +kernel
theorem dX1_tries_50 : decode cX1_tries 50 = .ok (.iconst 1, 1) := by decide +kernel
theorem dX1_tries_51 : decode cX1_tries 51 = .ok (.iadd, 1) := by decide +kernel
theorem dX1_tries_52 : decode cX1_tries 52 = .ok (.iastore, 1) := by decide +kernel
theorem dX1_tries_53 : decode cX1_tries 53 = .ok (.iconst 0, 1) := by decide +kernel
theorem dX1_tries_54 : decode cX1_tries 54 = .ok (.ireturn, 1) := by decide +kernel
theorem dX1_tries_55 : decode cX1_tries 55 = .ok (.aload_n 0, 1) := by decide +kernel
theorem dX1_tries_56 : decode cX1_tries 56 = .ok (.getfield 35, 3) := by decide +kernel
theorem dX1_tries_59 : decode cX1_tries 59 = .ok (.iload_n 1, 1) := by decide +kernel
theorem dX1_tries_60 : decode cX1_tries 60 = .ok (.aload_n 0, 1) := by decide +kernel
theorem dX1_tries_61 : decode cX1_tries 61 = .ok (.getfield 9, 3) := by decide +kernel
theorem dX1_tries_64 : decode cX1_tries 64 = .ok (.iload_n 3, 1) := by decide +kernel
theorem dX1_tries_65 : decode cX1_tries 65 = .ok (.invokevirtual 79, 3) := by decide +kernel
theorem dX1_tries_68 : decode cX1_tries 68 = .ok (.istore 5, 2) := by decide +kernel
theorem dX1_tries_70 : decode cX1_tries 70 = .ok (.aload_n 0, 1) := by decide +kernel
theorem dX1_tries_71 : decode cX1_tries 71 = .ok (.getfield 9, 3) := by decide +kernel
theorem dX1_tries_74 : decode cX1_tries 74 = .ok (.aload_n 0, 1) := by decide +kernel
theorem dX1_tries_75 : decode cX1_tries 75 = .ok (.getfield 31, 3) := by decide +kernel
theorem dX1_tries_78 : decode cX1_tries 78 = .ok (.iload_n 1, 1) := by decide +kernel
theorem dX1_tries_79 : decode cX1_tries 79 = .ok (.bipush 6, 2) := by decide +kernel
theorem dX1_tries_81 : decode cX1_tries 81 = .ok (.invokevirtual 75, 3) := by decide +kernel
theorem dX1_tries_84 : decode cX1_tries 84 = .ok (.if_icmp .ge 9, 3) := by decide +kernel
theorem dX1_tries_87 : decode cX1_tries 87 = .ok (.iload 5, 2) := by decide +kernel
theorem dX1_tries_89 : decode cX1_tries 89 = .ok (.iconst 2, 1) := by decide +kernel
theorem dX1_tries_90 : decode cX1_tries 90 = .ok (.idiv, 1) := by decide +kernel
theorem dX1_tries_91 : decode cX1_tries 91 = .ok (.istore 5, 2) := by decide +kernel
theorem dX1_tries_93 : decode cX1_tries 93 = .ok (.iload 5, 2) := by decide +kernel
theorem dX1_tries_95 : decode cX1_tries 95 = .ok (.iload 4, 2) := by decide +kernel
theorem dX1_tries_97 : decode cX1_tries 97 = .ok (.invokestatic 85, 3) := by decide +kernel
theorem dX1_tries_100 : decode cX1_tries 100 = .ok (.ireturn, 1) := by decide +kernel
theorem dX1_share_0 : decode cX1_share 0 = .ok (.aload_n 0, 1) := by decide +kernel
theorem dX1_share_1 : decode cX1_share 1 = .ok (.getfield 9, 3) := by decide +kernel
theorem dX1_share_4 : decode cX1_share 4 = .ok (.istore_n 2, 1) := by decide +kernel
theorem dX1_share_5 : decode cX1_share 5 = .ok (.iconst 0, 1) := by decide +kernel
theorem dX1_share_6 : decode cX1_share 6 = .ok (.istore_n 3, 1) := by decide +kernel
theorem dX1_share_7 : decode cX1_share 7 = .ok (.iload_n 3, 1) := by decide +kernel
theorem dX1_share_8 : decode cX1_share 8 = .ok (.aload_n 0, 1) := by decide +kernel
theorem dX1_share_9 : decode cX1_share 9 = .ok (.getfield 31, 3) := by decide +kernel
theorem dX1_share_12 : decode cX1_share 12 = .ok (.getfield 55, 3) := by decide +kernel
theorem dX1_share_15 : decode cX1_share 15 = .ok (.if_icmp .ge 72, 3) := by decide +kernel
theorem dX1_share_18 : decode cX1_share 18 = .ok (.aload_n 0, 1) := by decide +kernel
theorem dX1_share_19 : decode cX1_share 19 = .ok (.getfield 28, 3) := by decide +kernel
theorem dX1_share_22 : decode cX1_share 22 = .ok (.iload_n 3, 1) := by decide +kernel
theorem dX1_share_23 : decode cX1_share 23 = .ok (.iaload, 1) := by decide +kernel
theorem dX1_share_24 : decode cX1_share 24 = .ok (.istore 4, 2) := by decide +kernel
theorem dX1_share_26 : decode cX1_share 26 = .ok (.iload_n 1, 1) := by decide +kernel
theorem dX1_share_27 : decode cX1_share 27 = .ok (.iload_n 2, 1) := by decide +kernel
theorem dX1_share_28 : decode cX1_share 28 = .ok (.if_icmp .le 11, 3) := by decide +kernel
theorem dX1_share_31 : decode cX1_share 31 = .ok (.iload 4, 2) := by decide +kernel
theorem dX1_share_33 : decode cX1_share 33 = .ok (.iload_n 2, 1) := by decide +kernel
theorem dX1_share_34 : decode cX1_share 34 = .ok (.imul, 1) := by decide +kernel
theorem dX1_share_35 : decode cX1_share 35 = .ok (.iload_n 1, 1) := by decide +kernel
theorem dX1_share_36 : decode cX1_share 36 = .ok (.idiv, 1) := by decide +kernel
theorem dX1_share_37 : decode cX1_share 37 = .ok (.istore 4, 2) := by decide +kernel
theorem dX1_share_39 : decode cX1_share 39 = .ok (.aload_n 0, 1) := by decide +kernel
theorem dX1_share_40 : decode cX1_share 40 = .ok (.getfield 19, 3) := by decide +kernel
theorem dX1_share_43 : decode cX1_share 43 = .ok (.iload_n 3, 1) := by decide +kernel
theorem dX1_share_44 : decode cX1_share 44 = .ok (.dup2, 1) := by decide +kernel
theorem dX1_share_45 : decode cX1_share 45 = .ok (.iaload, 1) := by decide +kernel
theorem dX1_share_46 : decode cX1_share 46 = .ok (.iload 4, 2) := by decide +kernel
theorem dX1_share_48 : decode cX1_share 48 = .ok (.iadd, 1) := by decide +kernel
theorem dX1_share_49 : decode cX1_share 49 = .ok (.iastore, 1) := by decide +kernel
theorem dX1_share_50 : decode cX1_share 50 = .ok (.aload_n 0, 1) := by decide +kernel
theorem dX1_share_51 : decode cX1_share 51 = .ok (.getfield 22, 3) := by decide +kernel
theorem dX1_share_54 : decode cX1_share 54 = .ok (.iload_n 3, 1) := by decide +kernel
theorem dX1_share_55 : decode cX1_share 55 = .ok (.dup2, 1) := by decide +kernel
theorem dX1_share_56 : decode cX1_share 56 = .ok (.iaload, 1) := by decide +kernel
theorem dX1_share_57 : decode cX1_share 57 = .ok (.iload 4, 2) := by decide +kernel
theorem dX1_share_59 : decode cX1_share 59 = .ok (.aload_n 0, 1) := by decide +kernel
theorem dX1_share_60 : decode cX1_share 60 = .ok (.getfield 31, 3) := by decide +kernel
theorem dX1_share_63 : decode cX1_share 63 = .ok (.iload_n 3, 1) := by decide +kernel
theorem dX1_share_64 : decode cX1_share 64 = .ok (.invokevirtual 90, 3) := by decide +kernel
theorem dX1_share_67 : decode cX1_share 67 = .ok (.imul, 1) := by decide +kernel
theorem dX1_share_68 : decode cX1_share 68 = .ok (.iadd, 1) := by decide +kernel
theorem dX1_share_69 : decode cX1_share 69 = .ok (.iastore, 1) := by decide +kernel
theorem dX1_share_70 : decode cX1_share 70 = .ok (.aload_n 0, 1) := by decide +kernel
theorem dX1_share_71 : decode cX1_share 71 = .ok (.dup, 1) := by decide +kernel
theorem dX1_share_72 : decode cX1_share 72 = .ok (.getfield 9, 3) := by decide +kernel
theorem dX1_share_75 : decode cX1_share 75 = .ok (.iload 4, 2) := by decide +kernel
theorem dX1_share_77 : decode cX1_share 77 = .ok (.isub, 1) := by decide +kernel
theorem dX1_share_78 : decode cX1_share 78 = .ok (.putfield 9, 3) := by decide +kernel
theorem dX1_share_81 : decode cX1_share 81 = .ok (.iinc 3 1, 3) := by decide +kernel
theorem dX1_share_84 : decode cX1_share 84 = .ok (.goto (-77), 3) := by decide +kernel
theorem dX1_share_87 : decode cX1_share 87 = .ok (.return_, 1) := by decide +kernel
theorem dX1_melt_0 : decode cX1_melt 0 = .ok (.aload_n 0, 1) := by decide +kernel
theorem dX1_melt_1 : decode cX1_melt 1 = .ok (.getfield 49, 3) := by decide +kernel
theorem dX1_melt_4 : decode cX1_melt 4 = .ok (.ifCond .le 51, 3) := by decide +kernel
theorem dX1_melt_7 : decode cX1_melt 7 = .ok (.aload_n 0, 1) := by decide +kernel
theorem dX1_melt_8 : decode cX1_melt 8 = .ok (.getfield 31, 3) := by decide +kernel
theorem dX1_melt_11 : decode cX1_melt 11 = .ok (.bipush 8, 2) := by decide +kernel
theorem dX1_melt_13 : decode cX1_melt 13 = .ok (.invokevirtual 94, 3) := by decide +kernel
theorem dX1_melt_16 : decode cX1_melt 16 = .ok (.aload_n 0, 1) := by decide +kernel
theorem dX1_melt_17 : decode cX1_melt 17 = .ok (.getfield 49, 3) := by decide +kernel
theorem dX1_melt_20 : decode cX1_melt 20 = .ok (.invokestatic 85, 3) := by decide +kernel
theorem dX1_melt_23 : decode cX1_melt 23 = .ok (.sipush 999, 3) := by decide +kernel
theorem dX1_melt_26 : decode cX1_melt 26 = .ok (.aload_n 0, 1) := by decide +kernel
theorem dX1_melt_27 : decode cX1_melt 27 = .ok (.getfield 9, 3) := by decide +kernel
theorem dX1_melt_30 : decode cX1_melt 30 = .ok (.isub, 1) := by decide +kernel
theorem dX1_melt_31 : decode cX1_melt 31 = .ok (.invokestatic 85, 3) := by decide +kernel
theorem dX1_melt_34 : decode cX1_melt 34 = .ok (.istore_n 1, 1) := by decide +kernel
theorem dX1_melt_35 : decode cX1_melt 35 = .ok (.aload_n 0, 1) := by decide +kernel
theorem dX1_melt_36 : decode cX1_melt 36 = .ok (.dup, 1) := by decide +kernel
theorem dX1_melt_37 : decode cX1_melt 37 = .ok (.getfield 9, 3) := by decide +kernel
theorem dX1_melt_40 : decode cX1_melt 40 = .ok (.iload_n 1, 1) := by decide +kernel
theorem dX1_melt_41 : decode cX1_melt 41 = .ok (.iadd, 1) := by decide +kernel
theorem dX1_melt_42 : decode cX1_melt 42 = .ok (.putfield 9, 3) := by decide +kernel
theorem dX1_melt_45 : decode cX1_melt 45 = .ok (.aload_n 0, 1) := by decide +kernel
theorem dX1_melt_46 : decode cX1_melt 46 = .ok (.dup, 1) := by decide +kernel
theorem dX1_melt_47 : decode cX1_melt 47 = .ok (.getfield 49, 3) := by decide +kernel
theorem dX1_melt_50 : decode cX1_melt 50 = .ok (.iload_n 1, 1) := by decide +kernel
theorem dX1_melt_51 : decode cX1_melt 51 = .ok (.isub, 1) := by decide +kernel
theorem dX1_melt_52 : decode cX1_melt 52 = .ok (.putfield 49, 3) := by decide +kernel
theorem dX1_melt_55 : decode cX1_melt 55 = .ok (.return_, 1) := by decide +kernel
theorem dX1_isOver_0 : decode cX1_isOver 0 = .ok (.aload_n 0, 1) := by decide +kernel
theorem dX1_isOver_1 : decode cX1_isOver 1 = .ok (.getfield 49, 3) := by decide +kernel
theorem dX1_isOver_4 : decode cX1_isOver 4 = .ok (.ifCond .le 5, 3) := by decide +kernel
theorem dX1_isOver_7 : decode cX1_isOver 7 = .ok (.iconst 0, 1) := by decide +kernel
theorem dX1_isOver_8 : decode cX1_isOver 8 = .ok (.ireturn, 1) := by decide +kernel
theorem dX1_isOver_9 : decode cX1_isOver 9 = .ok (.iconst 0, 1) := by decide +kernel
theorem dX1_isOver_10 : decode cX1_isOver 10 = .ok (.istore_n 1, 1) := by decide +kernel
theorem dX1_isOver_11 : decode cX1_isOver 11 = .ok (.iload_n 1, 1) := by decide +kernel
theorem dX1_isOver_12 : decode cX1_isOver 12 = .ok (.aload_n 0, 1) := by decide +kernel
theorem dX1_isOver_13 : decode cX1_isOver 13 = .ok (.getfield 31, 3) := by decide +kernel
theorem dX1_isOver_16 : decode cX1_isOver 16 = .ok (.getfield 55, 3) := by decide +kernel
theorem dX1_isOver_19 : decode cX1_isOver 19 = .ok (.if_icmp .ge 44, 3) := by decide +kernel
theorem dX1_isOver_22 : decode cX1_isOver 22 = .ok (.aload_n 0, 1) := by decide +kernel
theorem dX1_isOver_23 : decode cX1_isOver 23 = .ok (.getfield 52, 3) := by decide +kernel
theorem dX1_isOver_26 : decode cX1_isOver 26 = .ok (.aload_n 0, 1) := by decide +kernel
theorem dX1_isOver_27 : decode cX1_isOver 27 = .ok (.getfield 31, 3) := by decide +kernel
theorem dX1_isOver_30 : decode cX1_isOver 30 = .ok (.iload_n 1, 1) := by decide +kernel
theorem dX1_isOver_31 : decode cX1_isOver 31 = .ok (.bipush 7, 2) := by decide +kernel
theorem dX1_isOver_33 : decode cX1_isOver 33 = .ok (.invokevirtual 75, 3) := by decide +kernel
theorem dX1_isOver_36 : decode cX1_isOver 36 = .ok (.if_icmp .ge 21, 3) := by decide +kernel
theorem dX1_isOver_39 : decode cX1_isOver 39 = .ok (.aload_n 0, 1) := by decide +kernel
theorem dX1_isOver_40 : decode cX1_isOver 40 = .ok (.getfield 9, 3) := by decide +kernel
theorem dX1_isOver_43 : decode cX1_isOver 43 = .ok (.aload_n 0, 1) := by decide +kernel
theorem dX1_isOver_44 : decode cX1_isOver 44 = .ok (.getfield 31, 3) := by decide +kernel
theorem dX1_isOver_47 : decode cX1_isOver 47 = .ok (.iload_n 1, 1) := by decide +kernel
theorem dX1_isOver_48 : decode cX1_isOver 48 = .ok (.iconst 2, 1) := by decide +kernel
theorem dX1_isOver_49 : decode cX1_isOver 49 = .ok (.invokevirtual 75, 3) := by decide +kernel
theorem dX1_isOver_52 : decode cX1_isOver 52 = .ok (.if_icmp .le 5, 3) := by decide +kernel
theorem dX1_isOver_55 : decode cX1_isOver 55 = .ok (.iconst 0, 1) := by decide +kernel
theorem dX1_isOver_56 : decode cX1_isOver 56 = .ok (.ireturn, 1) := by decide +kernel
theorem dX1_isOver_57 : decode cX1_isOver 57 = .ok (.iinc 1 1, 3) := by decide +kernel
theorem dX1_isOver_60 : decode cX1_isOver 60 = .ok (.goto (-49), 3) := by decide +kernel
theorem dX1_isOver_63 : decode cX1_isOver 63 = .ok (.iconst 1, 1) := by decide +kernel
theorem dX1_isOver_64 : decode cX1_isOver 64 = .ok (.ireturn, 1) := by decide +kernel
theorem dX1_mostGot_0 : decode cX1_mostGot 0 = .ok (.iconst 0, 1) := by decide +kernel
theorem dX1_mostGot_1 : decode cX1_mostGot 1 = .ok (.istore_n 1, 1) := by decide +kernel
theorem dX1_mostGot_2 : decode cX1_mostGot 2 = .ok (.iconst 1, 1) := by decide +kernel
theorem dX1_mostGot_3 : decode cX1_mostGot 3 = .ok (.istore_n 2, 1) := by decide +kernel
theorem dX1_mostGot_4 : decode cX1_mostGot 4 = .ok (.iload_n 2, 1) := by decide +kernel
theorem dX1_mostGot_5 : decode cX1_mostGot 5 = .ok (.aload_n 0, 1) := by decide +kernel
theorem dX1_mostGot_6 : decode cX1_mostGot 6 = .ok (.getfield 31, 3) := by decide +kernel
theorem dX1_mostGot_9 : decode cX1_mostGot 9 = .ok (.getfield 55, 3) := by decide +kernel
theorem dX1_mostGot_12 : decode cX1_mostGot 12 = .ok (.if_icmp .ge 26, 3) := by decide +kernel
theorem dX1_mostGot_15 : decode cX1_mostGot 15 = .ok (.aload_n 0, 1) := by decide +kernel
theorem dX1_mostGot_16 : decode cX1_mostGot 16 = .ok (.getfield 19, 3) := by decide +kernel
theorem dX1_mostGot_19 : decode cX1_mostGot 19 = .ok (.iload_n 2, 1) := by decide +kernel
theorem dX1_mostGot_20 : decode cX1_mostGot 20 = .ok (.iaload, 1) := by decide +kernel
theorem dX1_mostGot_21 : decode cX1_mostGot 21 = .ok (.aload_n 0, 1) := by decide +kernel
theorem dX1_mostGot_22 : decode cX1_mostGot 22 = .ok (.getfield 19, 3) := by decide +kernel
theorem dX1_mostGot_25 : decode cX1_mostGot 25 = .ok (.iload_n 1, 1) := by decide +kernel
theorem dX1_mostGot_26 : decode cX1_mostGot 26 = .ok (.iaload, 1) := by decide +kernel
theorem dX1_mostGot_27 : decode cX1_mostGot 27 = .ok (.if_icmp .le 5, 3) := by decide +kernel
theorem dX1_mostGot_30 : decode cX1_mostGot 30 = .ok (.iload_n 2, 1) := by decide +kernel
theorem dX1_mostGot_31 : decode cX1_mostGot 31 = .ok (.istore_n 1, 1) := by decide +kernel
theorem dX1_mostGot_32 : decode cX1_mostGot 32 = .ok (.iinc 2 1, 3) := by decide +kernel
theorem dX1_mostGot_35 : decode cX1_mostGot 35 = .ok (.goto (-31), 3) := by decide +kernel
theorem dX1_mostGot_38 : decode cX1_mostGot 38 = .ok (.iload_n 1, 1) := by decide +kernel
theorem dX1_mostGot_39 : decode cX1_mostGot 39 = .ok (.ireturn, 1) := by decide +kernel
theorem dX1_leastGot_0 : decode cX1_leastGot 0 = .ok (.aload_n 0, 1) := by decide +kernel
theorem dX1_leastGot_1 : decode cX1_leastGot 1 = .ok (.getfield 19, 3) := by decide +kernel
theorem dX1_leastGot_4 : decode cX1_leastGot 4 = .ok (.iconst 0, 1) := by decide +kernel
theorem dX1_leastGot_5 : decode cX1_leastGot 5 = .ok (.iaload, 1) := by decide +kernel
theorem dX1_leastGot_6 : decode cX1_leastGot 6 = .ok (.istore_n 1, 1) := by decide +kernel
theorem dX1_leastGot_7 : decode cX1_leastGot 7 = .ok (.iconst 1, 1) := by decide +kernel
theorem dX1_leastGot_8 : decode cX1_leastGot 8 = .ok (.istore_n 2, 1) := by decide +kernel
theorem dX1_leastGot_9 : decode cX1_leastGot 9 = .ok (.iload_n 2, 1) := by decide +kernel
theorem dX1_leastGot_10 : decode cX1_leastGot 10 = .ok (.aload_n 0, 1) := by decide +kernel
theorem dX1_leastGot_11 : decode cX1_leastGot 11 = .ok (.getfield 31, 3) := by decide +kernel
theorem dX1_leastGot_14 : decode cX1_leastGot 14 = .ok (.getfield 55, 3) := by decide +kernel
theorem dX1_leastGot_17 : decode cX1_leastGot 17 = .ok (.if_icmp .ge 20, 3) := by decide +kernel
theorem dX1_leastGot_20 : decode cX1_leastGot 20 = .ok (.iload_n 1, 1) := by decide +kernel
theorem dX1_leastGot_21 : decode cX1_leastGot 21 = .ok (.aload_n 0, 1) := by decide +kernel
theorem dX1_leastGot_22 : decode cX1_leastGot 22 = .ok (.getfield 19, 3) := by decide +kernel
theorem dX1_leastGot_25 : decode cX1_leastGot 25 = .ok (.iload_n 2, 1) := by decide +kernel
theorem dX1_leastGot_26 : decode cX1_leastGot 26 = .ok (.iaload, 1) := by decide +kernel
theorem dX1_leastGot_27 : decode cX1_leastGot 27 = .ok (.invokestatic 85, 3) := by decide +kernel
theorem dX1_leastGot_30 : decode cX1_leastGot 30 = .ok (.istore_n 1, 1) := by decide +kernel
theorem dX1_leastGot_31 : decode cX1_leastGot 31 = .ok (.iinc 2 1, 3) := by decide +kernel
theorem dX1_leastGot_34 : decode cX1_leastGot 34 = .ok (.goto (-25), 3) := by decide +kernel
theorem dX1_leastGot_37 : decode cX1_leastGot 37 = .ok (.iload_n 1, 1) := by decide +kernel
theorem dX1_leastGot_38 : decode cX1_leastGot 38 = .ok (.ireturn, 1) := by decide +kernel
theorem dX2_init_0 : decode cX2_init 0 = .ok (.aload_n 0, 1) := by decide +kernel
theorem dX2_init_1 : decode cX2_init 1 = .ok (.invokespecial 3, 3) := by decide +kernel
theorem dX2_init_4 : decode cX2_init 4 = .ok (.aload_n 0, 1) := by decide +kernel
theorem dX2_init_5 : decode cX2_init 5 = .ok (.new 9, 3) := by decide +kernel
theorem dX2_init_8 : decode cX2_init 8 = .ok (.dup, 1) := by decide +kernel
theorem dX2_init_9 : decode cX2_init 9 = .ok (.invokespecial 11, 3) := by decide +kernel
theorem dX2_init_12 : decode cX2_init 12 = .ok (.putfield 12, 3) := by decide +kernel
theorem dX2_init_15 : decode cX2_init 15 = .ok (.aload_n 0, 1) := by decide +kernel
theorem dX2_init_16 : decode cX2_init 16 = .ok (.bipush 6, 2) := by decide +kernel
theorem dX2_init_18 : decode cX2_init 18 = .ok (.newarray .int, 2) := by decide +kernel
theorem dX2_init_20 : decode cX2_init 20 = .ok (.putfield 18, 3) := by decide +kernel
theorem dX2_init_23 : decode cX2_init 23 = .ok (.aload_n 0, 1) := by decide +kernel
theorem dX2_init_24 : decode cX2_init 24 = .ok (.bipush 120, 2) := by decide +kernel
theorem dX2_init_26 : decode cX2_init 26 = .ok (.newarray .int, 2) := by decide +kernel
theorem dX2_init_28 : decode cX2_init 28 = .ok (.putfield 24, 3) := by decide +kernel
theorem dX2_init_31 : decode cX2_init 31 = .ok (.aload_n 0, 1) := by decide +kernel
theorem dX2_init_32 : decode cX2_init 32 = .ok (.aload_n 1, 1) := by decide +kernel
theorem dX2_init_33 : decode cX2_init 33 = .ok (.putfield 27, 3) := by decide +kernel
theorem dX2_init_36 : decode cX2_init 36 = .ok (.return_, 1) := by decide +kernel
theorem dX2_want_0 : decode cX2_want 0 = .ok (.aload_n 0, 1) := by decide +kernel
theorem dX2_want_1 : decode cX2_want 1 = .ok (.getfield 12, 3) := by decide +kernel
theorem dX2_want_4 : decode cX2_want 4 = .ok (.getfield 31, 3) := by decide +kernel
theorem dX2_want_7 : decode cX2_want 7 = .ok (.ifCond .ne 13, 3) := by decide +kernel
theorem dX2_want_10 : decode cX2_want 10 = .ok (.aload_n 0, 1) := by decide +kernel
theorem dX2_want_11 : decode cX2_want 11 = .ok (.iload_n 1, 1) := by decide +kernel
theorem dX2_want_12 : decode cX2_want 12 = .ok (.iload_n 3, 1) := by decide +kernel
theorem dX2_want_13 : decode cX2_want 13 = .ok (.invokevirtual 35, 3) := by decide +kernel
theorem dX2_want_16 : decode cX2_want 16 = .ok (.invokestatic 39, 3) := by decide +kernel
theorem dX2_want_19 : decode cX2_want 19 = .ok (.ireturn, 1) := by decide +kernel
theorem dX2_want_20 : decode cX2_want 20 = .ok (.aload_n 0, 1) := by decide +kernel
theorem dX2_want_21 : decode cX2_want 21 = .ok (.iload_n 1, 1) := by decide +kernel
theorem dX2_want_22 : decode cX2_want 22 = .ok (.iload_n 2, 1) := by decide +kernel
theorem dX2_want_23 : decode cX2_want 23 = .ok (.iload_n 3, 1) := by decide +kernel
theorem dX2_want_24 : decode cX2_want 24 = .ok (.invokevirtual 43, 3) := by decide +kernel
theorem dX2_want_27 : decode cX2_want 27 = .ok (.iconst 1, 1) := by decide +kernel
theorem dX2_want_28 : decode cX2_want 28 = .ok (.istore 4, 2) := by decide +kernel
theorem dX2_want_30 : decode cX2_want 30 = .ok (.iconst 0, 1) := by decide +kernel
theorem dX2_want_31 : decode cX2_want 31 = .ok (.istore 5, 2) := by decide +kernel
theorem dX2_want_33 : decode cX2_want 33 = .ok (.iconst 0, 1) := by decide +kernel
theorem dX2_want_34 : decode cX2_want 34 = .ok (.istore 6, 2) := by decide +kernel
theorem dX2_want_36 : decode cX2_want 36 = .ok (.iload 6, 2) := by decide +kernel
theorem dX2_want_38 : decode cX2_want 38 = .ok (.aload_n 0, 1) := by decide +kernel
theorem dX2_want_39 : decode cX2_want 39 = .ok (.getfield 12, 3) := by decide +kernel
theorem dX2_want_42 : decode cX2_want 42 = .ok (.getfield 31, 3) := by decide +kernel
theorem dX2_want_45 : decode cX2_want 45 = .ok (.if_icmp .ge 79, 3) := by decide +kernel
theorem dX2_want_48 : decode cX2_want 48 = .ok (.aload_n 0, 1) := by decide +kernel
theorem dX2_want_49 : decode cX2_want 49 = .ok (.getfield 12, 3) := by decide +kernel
theorem dX2_want_52 : decode cX2_want 52 = .ok (.getfield 47, 3) := by decide +kernel
theorem dX2_want_55 : decode cX2_want 55 = .ok (.iload 6, 2) := by decide +kernel
theorem dX2_want_57 : decode cX2_want 57 = .ok (.iaload, 1) := by decide +kernel
theorem dX2_want_58 : decode cX2_want 58 = .ok (.istore 7, 2) := by decide +kernel
theorem dX2_want_60 : decode cX2_want 60 = .ok (.aload_n 0, 1) := by decide +kernel
theorem dX2_want_61 : decode cX2_want 61 = .ok (.getfield 12, 3) := by decide +kernel
theorem dX2_want_64 : decode cX2_want 64 = .ok (.getfield 50, 3) := by decide +kernel
theorem dX2_want_67 : decode cX2_want 67 = .ok (.iload 6, 2) := by decide +kernel
theorem dX2_want_69 : decode cX2_want 69 = .ok (.baload, 1) := by decide +kernel
theorem dX2_want_70 : decode cX2_want 70 = .ok (.ifCond .eq 24, 3) := by decide +kernel
theorem dX2_want_73 : decode cX2_want 73 = .ok (.aload_n 0, 1) := by decide +kernel
theorem dX2_want_74 : decode cX2_want 74 = .ok (.iload 5, 2) := by decide +kernel
theorem dX2_want_76 : decode cX2_want 76 = .ok (.iload 7, 2) := by decide +kernel
theorem dX2_want_78 : decode cX2_want 78 = .ok (.invokevirtual 54, 3) := by decide +kernel
theorem dX2_want_81 : decode cX2_want 81 = .ok (.ifCond .eq 7, 3) := by decide +kernel
theorem dX2_want_84 : decode cX2_want 84 = .ok (.iconst 1, 1) := by decide +kernel
theorem dX2_want_85 : decode cX2_want 85 = .ok (.goto 4, 3) := by decide +kernel
theorem dX2_want_88 : decode cX2_want 88 = .ok (.iconst 0, 1) := by decide +kernel
theorem dX2_want_89 : decode cX2_want 89 = .ok (.istore 4, 2) := by decide +kernel
theorem dX2_want_91 : decode cX2_want 91 = .ok (.goto 23, 3) := by decide +kernel
theorem dX2_want_94 : decode cX2_want 94 = .ok (.iload 4, 2) := by decide +kernel
theorem dX2_want_96 : decode cX2_want 96 = .ok (.ifCond .eq 15, 3) := by decide +kernel
theorem dX2_want_99 : decode cX2_want 99 = .ok (.aload_n 0, 1) := by decide +kernel
theorem dX2_want_100 : decode cX2_want 100 = .ok (.iload 5, 2) := by decide +kernel
theorem dX2_want_102 : decode cX2_want 102 = .ok (.iload 7, 2) := by decide +kernel
theorem dX2_want_104 : decode cX2_want 104 = .ok (.invokevirtual 54, 3) := by decide +kernel
theorem dX2_want_107 : decode cX2_want 107 = .ok (.invokestatic 39, 3) := by decide +kernel
theorem dX2_want_110 : decode cX2_want 110 = .ok (.ireturn, 1) := by decide +kernel
theorem dX2_want_111 : decode cX2_want 111 = .ok (.iconst 1, 1) := by decide +kernel
theorem dX2_want_112 : decode cX2_want 112 = .ok (.istore 4, 2) := by decide +kernel
theorem dX2_want_114 : decode cX2_want 114 = .ok (.iload 7, 2) := by decide +kernel
theorem dX2_want_116 : decode cX2_want 116 = .ok (.istore 5, 2) := by decide +kernel
theorem dX2_want_118 : decode cX2_want 118 = .ok (.iinc 6 1, 3) := by decide +kernel
theorem dX2_want_121 : decode cX2_want 121 = .ok (.goto (-85), 3) := by decide +kernel
theorem dX2_want_124 : decode cX2_want 124 = .ok (.iconst 0, 1) := by decide +kernel
theorem dX2_want_125 : decode cX2_want 125 = .ok (.ireturn, 1) := by decide +kernel
theorem dX2_held_0 : decode cX2_held 0 = .ok (.iconst 0, 1) := by decide +kernel
theorem dX2_held_1 : decode cX2_held 1 = .ok (.bipush 99, 2) := by decide +kernel
theorem dX2_held_3 : decode cX2_held 3 = .ok (.iload_n 0, 1) := by decide +kernel
theorem dX2_held_4 : decode cX2_held 4 = .ok (.invokestatic 57, 3) := by decide +kernel
theorem dX2_held_7 : decode cX2_held 7 = .ok (.invokestatic 62, 3) := by decide +kernel
theorem dX2_held_10 : decode cX2_held 10 = .ok (.ireturn, 1) := by decide +kernel
theorem dX2_plain_0 : decode cX2_plain 0 = .ok (.aload_n 0, 1) := by decide +kernel
theorem dX2_plain_1 : decode cX2_plain 1 = .ok (.getfield 27, 3) := by decide +kernel
theorem dX2_plain_4 : decode cX2_plain 4 = .ok (.iload_n 1, 1) := by decide +kernel
theorem dX2_plain_5 : decode cX2_plain 5 = .ok (.iconst 0, 1) := by decide +kernel
theorem dX2_plain_6 : decode cX2_plain 6 = .ok (.invokevirtual 65, 3) := by decide +kernel
theorem dX2_plain_9 : decode cX2_plain 9 = .ok (.aload_n 0, 1) := by decide +kernel
theorem dX2_plain_10 : decode cX2_plain 10 = .ok (.getfield 27, 3) := by decide +kernel
theorem dX2_plain_13 : decode cX2_plain 13 = .ok (.iload_n 1, 1) := by decide +kernel
theorem dX2_plain_14 : decode cX2_plain 14 = .ok (.iconst 1, 1) := by decide +kernel
theorem dX2_plain_15 : decode cX2_plain 15 = .ok (.invokevirtual 65, 3) := by decide +kernel
theorem dX2_plain_18 : decode cX2_plain 18 = .ok (.imul, 1) := by decide +kernel
theorem dX2_plain_19 : decode cX2_plain 19 = .ok (.iconst 3, 1) := by decide +kernel
theorem dX2_plain_20 : decode cX2_plain 20 = .ok (.idiv, 1) := by decide +kernel
theorem dX2_plain_21 : decode cX2_plain 21 = .ok (.istore_n 3, 1) := by decide +kernel
theorem dX2_plain_22 : decode cX2_plain 22 = .ok (.aload_n 0, 1) := by decide +kernel
theorem dX2_plain_23 : decode cX2_plain 23 = .ok (.getfield 27, 3) := by decide +kernel
theorem dX2_plain_26 : decode cX2_plain 26 = .ok (.iload_n 1, 1) := by decide +kernel
theorem dX2_plain_27 : decode cX2_plain 27 = .ok (.iconst 3, 1) := by decide +kernel
theorem dX2_plain_28 : decode cX2_plain 28 = .ok (.invokevirtual 65, 3) := by decide +kernel
theorem dX2_plain_31 : decode cX2_plain 31 = .ok (.istore 4, 2) := by decide +kernel
theorem dX2_plain_33 : decode cX2_plain 33 = .ok (.iload 4, 2) := by decide +kernel
theorem dX2_plain_35 : decode cX2_plain 35 = .ok (.ifCond .le 12, 3) := by decide +kernel
theorem dX2_plain_38 : decode cX2_plain 38 = .ok (.iload_n 3, 1) := by decide +kernel
theorem dX2_plain_39 : decode cX2_plain 39 = .ok (.iload_n 2, 1) := by decide +kernel
theorem dX2_plain_40 : decode cX2_plain 40 = .ok (.iload 4, 2) := by decide +kernel
theorem dX2_plain_42 : decode cX2_plain 42 = .ok (.idiv, 1) := by decide +kernel
theorem dX2_plain_43 : decode cX2_plain 43 = .ok (.isub, 1) := by decide +kernel
theorem dX2_plain_44 : decode cX2_plain 44 = .ok (.goto 4, 3) := by decide +kernel
theorem dX2_plain_47 : decode cX2_plain 47 = .ok (.iload_n 3, 1) := by decide +kernel
theorem dX2_plain_48 : decode cX2_plain 48 = .ok (.ireturn, 1) := by decide +kernel
theorem dX2_setNames_0 : decode cX2_setNames 0 = .ok (.aload_n 0, 1) := by decide +kernel
theorem dX2_setNames_1 : decode cX2_setNames 1 = .ok (.getfield 18, 3) := by decide +kernel
theorem dX2_setNames_4 : decode cX2_setNames 4 = .ok (.iconst 0, 1) := by decide +kernel
theorem dX2_setNames_5 : decode cX2_setNames 5 = .ok (.aload_n 0, 1) := by decide +kernel
theorem dX2_setNames_6 : decode cX2_setNames 6 = .ok (.getfield 27, 3) := by decide +kernel
theorem dX2_setNames_9 : decode cX2_setNames 9 = .ok (.iload_n 1, 1) := by decide +kernel
theorem dX2_setNames_10 : decode cX2_setNames 10 = .ok (.iconst 0, 1) := by decide +kernel
theorem dX2_setNames_11 : decode cX2_setNames 11 = .ok (.invokevirtual 65, 3) := by decide +kernel
theorem dX2_setNames_14 : decode cX2_setNames 14 = .ok (.iastore, 1) := by decide +kernel
theorem dX2_setNames_15 : decode cX2_setNames 15 = .ok (.aload_n 0, 1) := by decide +kernel
theorem dX2_setNames_16 : decode cX2_setNames 16 = .ok (.getfield 18, 3) := by decide +kernel
theorem dX2_setNames_19 : decode cX2_setNames 19 = .ok (.iconst 1, 1) := by decide +kernel
theorem dX2_setNames_20 : decode cX2_setNames 20 = .ok (.aload_n 0, 1) := by decide +kernel
theorem dX2_setNames_21 : decode cX2_setNames 21 = .ok (.getfield 27, 3) := by decide +kernel
theorem dX2_setNames_24 : decode cX2_setNames 24 = .ok (.iload_n 1, 1) := by decide +kernel
theorem dX2_setNames_25 : decode cX2_setNames 25 = .ok (.iconst 1, 1) := by decide +kernel
theorem dX2_setNames_26 : decode cX2_setNames 26 = .ok (.invokevirtual 65, 3) := by decide +kernel
theorem dX2_setNames_29 : decode cX2_setNames 29 = .ok (.iastore, 1) := by decide +kernel
theorem dX2_setNames_30 : decode cX2_setNames 30 = .ok (.aload_n 0, 1) := by decide +kernel
theorem dX2_setNames_31 : decode cX2_setNames 31 = .ok (.getfield 18, 3) := by decide +kernel
theorem dX2_setNames_34 : decode cX2_setNames 34 = .ok (.iconst 2, 1) := by decide +kernel
theorem dX2_setNames_35 : decode cX2_setNames 35 = .ok (.iload_n 3, 1) := by decide +kernel
theorem dX2_setNames_36 : decode cX2_setNames 36 = .ok (.iastore, 1) := by decide +kernel
theorem dX2_setNames_37 : decode cX2_setNames 37 = .ok (.aload_n 0, 1) := by decide +kernel
theorem dX2_setNames_38 : decode cX2_setNames 38 = .ok (.getfield 18, 3) := by decide +kernel
theorem dX2_setNames_41 : decode cX2_setNames 41 = .ok (.iconst 3, 1) := by decide +kernel
theorem dX2_setNames_42 : decode cX2_setNames 42 = .ok (.iload_n 2, 1) := by decide +kernel
theorem dX2_setNames_43 : decode cX2_setNames 43 = .ok (.iastore, 1) := by decide +kernel
theorem dX2_setNames_44 : decode cX2_setNames 44 = .ok (.aload_n 0, 1) := by decide +kernel
theorem dX2_setNames_45 : decode cX2_setNames 45 = .ok (.getfield 18, 3) := by decide +kernel
theorem dX2_setNames_48 : decode cX2_setNames 48 = .ok (.iconst 4, 1) := by decide +kernel
theorem dX2_setNames_49 : decode cX2_setNames 49 = .ok (.iload_n 2, 1) := by decide +kernel
theorem dX2_setNames_50 : decode cX2_setNames 50 = .ok (.aload_n 0, 1) := by decide +kernel
theorem dX2_setNames_51 : decode cX2_setNames 51 = .ok (.getfield 27, 3) := by decide +kernel
theorem dX2_setNames_54 : decode cX2_setNames 54 = .ok (.iload_n 1, 1) := by decide +kernel
theorem dX2_setNames_55 : decode cX2_setNames 55 = .ok (.iconst 2, 1) := by decide +kernel
theorem dX2_setNames_56 : decode cX2_setNames 56 = .ok (.invokevirtual 65, 3) := by decide +kernel
theorem dX2_setNames_59 : decode cX2_setNames 59 = .ok (.isub, 1) := by decide +kernel
theorem dX2_setNames_60 : decode cX2_setNames 60 = .ok (.iastore, 1) := by decide +kernel
theorem dX2_setNames_61 : decode cX2_setNames 61 = .ok (.aload_n 0, 1) := by decide +kernel
theorem dX2_setNames_62 : decode cX2_setNames 62 = .ok (.getfield 18, 3) := by decide +kernel
theorem dX2_setNames_65 : decode cX2_setNames 65 = .ok (.iconst 5, 1) := by decide +kernel
theorem dX2_setNames_66 : decode cX2_setNames 66 = .ok (.iload_n 1, 1) := by decide +kernel
theorem dX2_setNames_67 : decode cX2_setNames 67 = .ok (.iastore, 1) := by decide +kernel
theorem dX2_setNames_68 : decode cX2_setNames 68 = .ok (.return_, 1) := by decide +kernel
theorem dX2_workedOut_0 : decode cX2_workedOut 0 = .ok (.aload_n 0, 1) := by decide +kernel
theorem dX2_workedOut_1 : decode cX2_workedOut 1 = .ok (.getfield 12, 3) := by decide +kernel
theorem dX2_workedOut_4 : decode cX2_workedOut 4 = .ok (.getfield 70, 3) := by decide +kernel
theorem dX2_workedOut_7 : decode cX2_workedOut 7 = .ok (.astore_n 3, 1) := by decide +kernel
theorem dX2_workedOut_8 : decode cX2_workedOut 8 = .ok (.iconst (-1), 1) := by decide +kernel
theorem dX2_workedOut_9 : decode cX2_workedOut 9 = .ok (.istore 4, 2) := by decide +kernel
theorem dX2_workedOut_11 : decode cX2_workedOut 11 = .ok (.iload_n 1, 1) := by decide +kernel
theorem dX2_workedOut_12 : decode cX2_workedOut 12 = .ok (.istore 5, 2) := by decide +kernel
theorem dX2_workedOut_14 : decode cX2_workedOut 14 = .ok (.iload 5, 2) := by decide +kernel
theorem dX2_workedOut_16 : decode cX2_workedOut 16 = .ok (.iload_n 2, 1) := by decide +kernel
theorem dX2_workedOut_17 : decode cX2_workedOut 17 = .ok (.if_icmp .ge 161, 3) := by decide +kernel
theorem dX2_workedOut_20 : decode cX2_workedOut 20 = .ok (.aload_n 3, 1) := by decide +kernel
theorem dX2_workedOut_21 : decode cX2_workedOut 21 = .ok (.iload 5, 2) := by decide +kernel
theorem dX2_workedOut_23 : decode cX2_workedOut 23 = .ok (.iaload, 1) := by decide +kernel
theorem dX2_workedOut_24 : decode cX2_workedOut 24 = .ok (.istore 6, 2) := by decide +kernel
theorem dX2_workedOut_26 : decode cX2_workedOut 26 = .ok (.iload 6, 2) := by decide +kernel
theorem dX2_workedOut_28 : decode cX2_workedOut 28 = .ok (.bipush (-6), 2) := by decide +kernel
theorem dX2_workedOut_30 : decode cX2_workedOut 30 = .ok (.if_icmp .lt 47, 3) := by decide +kernel
theorem dX2_workedOut_33 : decode cX2_workedOut 33 = .ok (.iinc 4 1, 3) := by decide +kernel
theorem dX2_workedOut_36 : decode cX2_workedOut 36 = .ok (.iload 4, 2) := by decide +kernel
theorem dX2_workedOut_38 : decode cX2_workedOut 38 = .ok (.aload_n 0, 1) := by decide +kernel
theorem dX2_workedOut_39 : decode cX2_workedOut 39 = .ok (.getfield 24, 3) := by decide +kernel
theorem dX2_workedOut_42 : decode cX2_workedOut 42 = .ok (.arraylength, 1) := by decide +kernel
theorem dX2_workedOut_43 : decode cX2_workedOut 43 = .ok (.if_icmp .lt 5, 3) := by decide +kernel
theorem dX2_workedOut_46 : decode cX2_workedOut 46 = .ok (.iconst 0, 1) := by decide +kernel
theorem dX2_workedOut_47 : decode cX2_workedOut 47 = .ok (.ireturn, 1) := by decide +kernel
theorem dX2_workedOut_48 : decode cX2_workedOut 48 = .ok (.aload_n 0, 1) := by decide +kernel
theorem dX2_workedOut_49 : decode cX2_workedOut 49 = .ok (.getfield 24, 3) := by decide +kernel
theorem dX2_workedOut_52 : decode cX2_workedOut 52 = .ok (.iload 4, 2) := by decide +kernel
theorem dX2_workedOut_54 : decode cX2_workedOut 54 = .ok (.iload 6, 2) := by decide +kernel
theorem dX2_workedOut_56 : decode cX2_workedOut 56 = .ok (.ifCond .lt 8, 3) := by decide +kernel
theorem dX2_workedOut_59 : decode cX2_workedOut 59 = .ok (.iload 6, 2) := by decide +kernel
theorem dX2_workedOut_61 : decode cX2_workedOut 61 = .ok (.goto 12, 3) := by decide +kernel
theorem dX2_workedOut_64 : decode cX2_workedOut 64 = .ok (.aload_n 0, 1) := by decide +kernel
theorem dX2_workedOut_65 : decode cX2_workedOut 65 = .ok (.getfield 18, 3) := by decide +kernel
theorem dX2_workedOut_68 : decode cX2_workedOut 68 = .ok (.iconst (-1), 1) := by decide +kernel
theorem dX2_workedOut_69 : decode cX2_workedOut 69 = .ok (.iload 6, 2) := by decide +kernel
theorem dX2_workedOut_71 : decode cX2_workedOut 71 = .ok (.isub, 1) := by decide +kernel
theorem dX2_workedOut_72 : decode cX2_workedOut 72 = .ok (.iaload, 1) := by decide +kernel
theorem dX2_workedOut_73 : decode cX2_workedOut 73 = .ok (.iastore, 1) := by decide +kernel
theorem dX2_workedOut_74 : decode cX2_workedOut 74 = .ok (.goto 98, 3) := by decide +kernel
theorem dX2_workedOut_77 : decode cX2_workedOut 77 = .ok (.iload 6, 2) := by decide +kernel
theorem dX2_workedOut_79 : decode cX2_workedOut 79 = .ok (.bipush (-8), 2) := by decide +kernel
theorem dX2_workedOut_81 : decode cX2_workedOut 81 = .ok (.if_icmp .lt 53, 3) := by decide +kernel
theorem dX2_workedOut_84 : decode cX2_workedOut 84 = .ok (.iload 4, 2) := by decide +kernel
theorem dX2_workedOut_86 : decode cX2_workedOut 86 = .ok (.ifCond .ge 5, 3) := by decide +kernel
theorem dX2_workedOut_89 : decode cX2_workedOut 89 = .ok (.iconst 0, 1) := by decide +kernel
theorem dX2_workedOut_90 : decode cX2_workedOut 90 = .ok (.ireturn, 1) := by decide +kernel
theorem dX2_workedOut_91 : decode cX2_workedOut 91 = .ok (.aload_n 0, 1) := by decide +kernel
theorem dX2_workedOut_92 : decode cX2_workedOut 92 = .ok (.getfield 24, 3) := by decide +kernel
theorem dX2_workedOut_95 : decode cX2_workedOut 95 = .ok (.iload 4, 2) := by decide +kernel
theorem dX2_workedOut_97 : decode cX2_workedOut 97 = .ok (.iload 6, 2) := by decide +kernel
theorem dX2_workedOut_99 : decode cX2_workedOut 99 = .ok (.bipush (-7), 2) := by decide +kernel
theorem dX2_workedOut_101 : decode cX2_workedOut 101 = .ok (.if_icmp .ne 14, 3) := by decide +kernel
theorem dX2_workedOut_104 : decode cX2_workedOut 104 = .ok (.aload_n 0, 1) := by decide +kernel
theorem dX2_workedOut_105 : decode cX2_workedOut 105 = .ok (.getfield 24, 3) := by decide +kernel
theorem dX2_workedOut_108 : decode cX2_workedOut 108 = .ok (.iload 4, 2) := by decide +kernel
theorem dX2_workedOut_110 : decode cX2_workedOut 110 = .ok (.iaload, 1) := by decide +kernel
theorem dX2_workedOut_111 : decode cX2_workedOut 111 = .ok (.ineg, 1) := by decide +kernel
theorem dX2_workedOut_112 : decode cX2_workedOut 112 = .ok (.goto 18, 3) := by decide +kernel
theorem dX2_workedOut_115 : decode cX2_workedOut 115 = .ok (.aload_n 0, 1) := by decide +kernel
theorem dX2_workedOut_116 : decode cX2_workedOut 116 = .ok (.getfield 24, 3) := by decide +kernel
theorem dX2_workedOut_119 : decode cX2_workedOut 119 = .ok (.iload 4, 2) := by decide +kernel
theorem dX2_workedOut_121 : decode cX2_workedOut 121 = .ok (.iaload, 1) := by decide +kernel
theorem dX2_workedOut_122 : decode cX2_workedOut 122 = .ok (.ifCond .ne 7, 3) := by decide +kernel
theorem dX2_workedOut_125 : decode cX2_workedOut 125 = .ok (.iconst 1, 1) := by decide +kernel
theorem dX2_workedOut_126 : decode cX2_workedOut 126 = .ok (.goto 4, 3) := by decide +kernel
theorem dX2_workedOut_129 : decode cX2_workedOut 129 = .ok (.iconst 0, 1) := by decide +kernel
theorem dX2_workedOut_130 : decode cX2_workedOut 130 = .ok (.iastore, 1) := by decide +kernel
theorem dX2_workedOut_131 : decode cX2_workedOut 131 = .ok (.goto 41, 3) := by decide +kernel
theorem dX2_workedOut_134 : decode cX2_workedOut 134 = .ok (.iinc 4 (-1), 3) := by decide +kernel
theorem dX2_workedOut_137 : decode cX2_workedOut 137 = .ok (.iload 4, 2) := by decide +kernel
theorem dX2_workedOut_139 : decode cX2_workedOut 139 = .ok (.ifCond .ge 5, 3) := by decide +kernel
theorem dX2_workedOut_142 : decode cX2_workedOut 142 = .ok (.iconst 0, 1) := by decide +kernel
theorem dX2_workedOut_143 : decode cX2_workedOut 143 = .ok (.ireturn, 1) := by decide +kernel
theorem dX2_workedOut_144 : decode cX2_workedOut 144 = .ok (.aload_n 0, 1) := by decide +kernel
theorem dX2_workedOut_145 : decode cX2_workedOut 145 = .ok (.getfield 24, 3) := by decide +kernel
theorem dX2_workedOut_148 : decode cX2_workedOut 148 = .ok (.iload 4, 2) := by decide +kernel
theorem dX2_workedOut_150 : decode cX2_workedOut 150 = .ok (.iload 6, 2) := by decide +kernel
theorem dX2_workedOut_152 : decode cX2_workedOut 152 = .ok (.aload_n 0, 1) := by decide +kernel
theorem dX2_workedOut_153 : decode cX2_workedOut 153 = .ok (.getfield 24, 3) := by decide +kernel
theorem dX2_workedOut_156 : decode cX2_workedOut 156 = .ok (.iload 4, 2) := by decide +kernel
theorem dX2_workedOut_158 : decode cX2_workedOut 158 = .ok (.iaload, 1) := by decide +kernel
theorem dX2_workedOut_159 : decode cX2_workedOut 159 = .ok (.aload_n 0, 1) := by decide +kernel
theorem dX2_workedOut_160 : decode cX2_workedOut 160 = .ok (.getfield 24, 3) := by decide +kernel
theorem dX2_workedOut_163 : decode cX2_workedOut 163 = .ok (.iload 4, 2) := by decide +kernel
theorem dX2_workedOut_165 : decode cX2_workedOut 165 = .ok (.iconst 1, 1) := by decide +kernel
theorem dX2_workedOut_166 : decode cX2_workedOut 166 = .ok (.iadd, 1) := by decide +kernel
theorem dX2_workedOut_167 : decode cX2_workedOut 167 = .ok (.iaload, 1) := by decide +kernel
theorem dX2_workedOut_168 : decode cX2_workedOut 168 = .ok (.invokestatic 73, 3) := by decide +kernel
theorem dX2_workedOut_171 : decode cX2_workedOut 171 = .ok (.iastore, 1) := by decide +kernel
theorem dX2_workedOut_172 : decode cX2_workedOut 172 = .ok (.iinc 5 1, 3) := by decide +kernel
theorem dX2_workedOut_175 : decode cX2_workedOut 175 = .ok (.goto (-161), 3) := by decide +kernel
theorem dX2_workedOut_178 : decode cX2_workedOut 178 = .ok (.iload 4, 2) := by decide +kernel
theorem dX2_workedOut_180 : decode cX2_workedOut 180 = .ok (.ifCond .ge 7, 3) := by decide +kernel
theorem dX2_workedOut_183 : decode cX2_workedOut 183 = .ok (.iconst 0, 1) := by decide +kernel
theorem dX2_workedOut_184 : decode cX2_workedOut 184 = .ok (.goto 10, 3) := by decide +kernel
theorem dX2_workedOut_187 : decode cX2_workedOut 187 = .ok (.aload_n 0, 1) := by decide +kernel
theorem dX2_workedOut_188 : decode cX2_workedOut 188 = .ok (.getfield 24, 3) := by decide +kernel
theorem dX2_workedOut_191 : decode cX2_workedOut 191 = .ok (.iload 4, 2) := by decide +kernel
theorem dX2_workedOut_193 : decode cX2_workedOut 193 = .ok (.iaload, 1) := by decide +kernel
theorem dX2_workedOut_194 : decode cX2_workedOut 194 = .ok (.ireturn, 1) := by decide +kernel
theorem dX2_joined_0 : decode cX2_joined 0 = .ok (.iload_n 0, 1) := by decide +kernel
theorem dX2_joined_1 : decode cX2_joined 1 = .ok (.tableswitch 152 (-18) (-9) #[138, 124, 113, 102, 91, 87, 83, 71, 59, 55], 55) := by decide +kernel
theorem dX2_joined_56 : decode cX2_joined 56 = .ok (.iload_n 1, 1) := by decide +kernel
theorem dX2_joined_57 : decode cX2_joined 57 = .ok (.iload_n 2, 1) := by decide +kernel
theorem dX2_joined_58 : decode cX2_joined 58 = .ok (.imul, 1) := by decide +kernel
theorem dX2_joined_59 : decode cX2_joined 59 = .ok (.ireturn, 1) := by decide +kernel
theorem dX2_joined_60 : decode cX2_joined 60 = .ok (.iload_n 2, 1) := by decide +kernel
theorem dX2_joined_61 : decode cX2_joined 61 = .ok (.ifCond .ne 7, 3) := by decide +kernel
theorem dX2_joined_64 : decode cX2_joined 64 = .ok (.iconst 0, 1) := by decide +kernel
theorem dX2_joined_65 : decode cX2_joined 65 = .ok (.goto 6, 3) := by decide +kernel
theorem dX2_joined_68 : decode cX2_joined 68 = .ok (.iload_n 1, 1) := by decide +kernel
theorem dX2_joined_69 : decode cX2_joined 69 = .ok (.iload_n 2, 1) := by decide +kernel
theorem dX2_joined_70 : decode cX2_joined 70 = .ok (.idiv, 1) := by decide +kernel
theorem dX2_joined_71 : decode cX2_joined 71 = .ok (.ireturn, 1) := by decide +kernel
theorem dX2_joined_72 : decode cX2_joined 72 = .ok (.iload_n 2, 1) := by decide +kernel
theorem dX2_joined_73 : decode cX2_joined 73 = .ok (.ifCond .ne 7, 3) := by decide +kernel
theorem dX2_joined_76 : decode cX2_joined 76 = .ok (.iconst 0, 1) := by decide +kernel
theorem dX2_joined_77 : decode cX2_joined 77 = .ok (.goto 6, 3) := by decide +kernel
theorem dX2_joined_80 : decode cX2_joined 80 = .ok (.iload_n 1, 1) := by decide +kernel
theorem dX2_joined_81 : decode cX2_joined 81 = .ok (.iload_n 2, 1) := by decide +kernel
theorem dX2_joined_82 : decode cX2_joined 82 = .ok (.irem, 1) := by decide +kernel
theorem dX2_joined_83 : decode cX2_joined 83 = .ok (.ireturn, 1) := by decide +kernel
theorem dX2_joined_84 : decode cX2_joined 84 = .ok (.iload_n 1, 1) := by decide +kernel
theorem dX2_joined_85 : decode cX2_joined 85 = .ok (.iload_n 2, 1) := by decide +kernel
theorem dX2_joined_86 : decode cX2_joined 86 = .ok (.iadd, 1) := by decide +kernel
theorem dX2_joined_87 : decode cX2_joined 87 = .ok (.ireturn, 1) := by decide +kernel
theorem dX2_joined_88 : decode cX2_joined 88 = .ok (.iload_n 1, 1) := by decide +kernel
theorem dX2_joined_89 : decode cX2_joined 89 = .ok (.iload_n 2, 1) := by decide +kernel
theorem dX2_joined_90 : decode cX2_joined 90 = .ok (.isub, 1) := by decide +kernel
theorem dX2_joined_91 : decode cX2_joined 91 = .ok (.ireturn, 1) := by decide +kernel
theorem dX2_joined_92 : decode cX2_joined 92 = .ok (.iload_n 1, 1) := by decide +kernel
theorem dX2_joined_93 : decode cX2_joined 93 = .ok (.iload_n 2, 1) := by decide +kernel
theorem dX2_joined_94 : decode cX2_joined 94 = .ok (.if_icmp .ge 7, 3) := by decide +kernel
theorem dX2_joined_97 : decode cX2_joined 97 = .ok (.iconst 1, 1) := by decide +kernel
theorem dX2_joined_98 : decode cX2_joined 98 = .ok (.goto 4, 3) := by decide +kernel
theorem dX2_joined_101 : decode cX2_joined 101 = .ok (.iconst 0, 1) := by decide +kernel
theorem dX2_joined_102 : decode cX2_joined 102 = .ok (.ireturn, 1) := by decide +kernel
theorem dX2_joined_103 : decode cX2_joined 103 = .ok (.iload_n 1, 1) := by decide +kernel
theorem dX2_joined_104 : decode cX2_joined 104 = .ok (.iload_n 2, 1) := by decide +kernel
theorem dX2_joined_105 : decode cX2_joined 105 = .ok (.if_icmp .ne 7, 3) := by decide +kernel
theorem dX2_joined_108 : decode cX2_joined 108 = .ok (.iconst 1, 1) := by decide +kernel
theorem dX2_joined_109 : decode cX2_joined 109 = .ok (.goto 4, 3) := by decide +kernel
theorem dX2_joined_112 : decode cX2_joined 112 = .ok (.iconst 0, 1) := by decide +kernel
theorem dX2_joined_113 : decode cX2_joined 113 = .ok (.ireturn, 1) := by decide +kernel
theorem dX2_joined_114 : decode cX2_joined 114 = .ok (.iload_n 1, 1) := by decide +kernel
theorem dX2_joined_115 : decode cX2_joined 115 = .ok (.iload_n 2, 1) := by decide +kernel
theorem dX2_joined_116 : decode cX2_joined 116 = .ok (.if_icmp .le 7, 3) := by decide +kernel
theorem dX2_joined_119 : decode cX2_joined 119 = .ok (.iconst 1, 1) := by decide +kernel
theorem dX2_joined_120 : decode cX2_joined 120 = .ok (.goto 4, 3) := by decide +kernel
theorem dX2_joined_123 : decode cX2_joined 123 = .ok (.iconst 0, 1) := by decide +kernel
theorem dX2_joined_124 : decode cX2_joined 124 = .ok (.ireturn, 1) := by decide +kernel
theorem dX2_joined_125 : decode cX2_joined 125 = .ok (.iload_n 1, 1) := by decide +kernel
theorem dX2_joined_126 : decode cX2_joined 126 = .ok (.ifCond .eq 11, 3) := by decide +kernel
theorem dX2_joined_129 : decode cX2_joined 129 = .ok (.iload_n 2, 1) := by decide +kernel
theorem dX2_joined_130 : decode cX2_joined 130 = .ok (.ifCond .eq 7, 3) := by decide +kernel
theorem dX2_joined_133 : decode cX2_joined 133 = .ok (.iconst 1, 1) := by decide +kernel
theorem dX2_joined_134 : decode cX2_joined 134 = .ok (.goto 4, 3) := by decide +kernel
theorem dX2_joined_137 : decode cX2_joined 137 = .ok (.iconst 0, 1) := by decide +kernel
theorem dX2_joined_138 : decode cX2_joined 138 = .ok (.ireturn, 1) := by decide +kernel
theorem dX2_joined_139 : decode cX2_joined 139 = .ok (.iload_n 1, 1) := by decide +kernel
theorem dX2_joined_140 : decode cX2_joined 140 = .ok (.ifCond .ne 7, 3) := by decide +kernel
theorem dX2_joined_143 : decode cX2_joined 143 = .ok (.iload_n 2, 1) := by decide +kernel
theorem dX2_joined_144 : decode cX2_joined 144 = .ok (.ifCond .eq 7, 3) := by decide +kernel
theorem dX2_joined_147 : decode cX2_joined 147 = .ok (.iconst 1, 1) := by decide +kernel
theorem dX2_joined_148 : decode cX2_joined 148 = .ok (.goto 4, 3) := by decide +kernel
theorem dX2_joined_151 : decode cX2_joined 151 = .ok (.iconst 0, 1) := by decide +kernel
theorem dX2_joined_152 : decode cX2_joined 152 = .ok (.ireturn, 1) := by decide +kernel
theorem dX2_joined_153 : decode cX2_joined 153 = .ok (.iconst 0, 1) := by decide +kernel
theorem dX2_joined_154 : decode cX2_joined 154 = .ok (.ireturn, 1) := by decide +kernel
theorem dX3_init_0 : decode cX3_init 0 = .ok (.aload_n 0, 1) := by decide +kernel
theorem dX3_init_1 : decode cX3_init 1 = .ok (.invokespecial 3, 3) := by decide +kernel
theorem dX3_init_4 : decode cX3_init 4 = .ok (.aload_n 0, 1) := by decide +kernel
theorem dX3_init_5 : decode cX3_init 5 = .ok (.bipush 28, 2) := by decide +kernel
theorem dX3_init_7 : decode cX3_init 7 = .ok (.newarray .int, 2) := by decide +kernel
theorem dX3_init_9 : decode cX3_init 9 = .ok (.putfield 9, 3) := by decide +kernel
theorem dX3_init_12 : decode cX3_init 12 = .ok (.bipush 8, 2) := by decide +kernel
theorem dX3_init_14 : decode cX3_init 14 = .ok (.istore_n 1, 1) := by decide +kernel
theorem dX3_init_15 : decode cX3_init 15 = .ok (.iload_n 1, 1) := by decide +kernel
theorem dX3_init_16 : decode cX3_init 16 = .ok (.bipush 11, 2) := by decide +kernel
theorem dX3_init_18 : decode cX3_init 18 = .ok (.if_icmp .gt 23, 3) := by decide +kernel
theorem dX3_init_21 : decode cX3_init 21 = .ok (.aload_n 0, 1) := by decide +kernel
theorem dX3_init_22 : decode cX3_init 22 = .ok (.getfield 9, 3) := by decide +kernel
theorem dX3_init_25 : decode cX3_init 25 = .ok (.iload_n 1, 1) := by decide +kernel
theorem dX3_init_26 : decode cX3_init 26 = .ok (.invokestatic 15, 3) := by decide +kernel
theorem dX3_init_29 : decode cX3_init 29 = .ok (.getstatic 19, 3) := by decide +kernel
theorem dX3_init_32 : decode cX3_init 32 = .ok (.iload_n 1, 1) := by decide +kernel
theorem dX3_init_33 : decode cX3_init 33 = .ok (.iaload, 1) := by decide +kernel
theorem dX3_init_34 : decode cX3_init 34 = .ok (.iastore, 1) := by decide +kernel
theorem dX3_init_35 : decode cX3_init 35 = .ok (.iinc 1 1, 3) := by decide +kernel
theorem dX3_init_38 : decode cX3_init 38 = .ok (.goto (-23), 3) := by decide +kernel
theorem dX3_init_41 : decode cX3_init 41 = .ok (.return_, 1) := by decide +kernel
theorem dX3_fits_0 : decode cX3_fits 0 = .ok (.iload_n 0, 1) := by decide +kernel
theorem dX3_fits_1 : decode cX3_fits 1 = .ok (.ifCond .lt 31, 3) := by decide +kernel
theorem dX3_fits_4 : decode cX3_fits 4 = .ok (.iload_n 0, 1) := by decide +kernel
theorem dX3_fits_5 : decode cX3_fits 5 = .ok (.bipush 11, 2) := by decide +kernel
theorem dX3_fits_7 : decode cX3_fits 7 = .ok (.if_icmp .gt 25, 3) := by decide +kernel
theorem dX3_fits_10 : decode cX3_fits 10 = .ok (.iload_n 1, 1) := by decide +kernel
theorem dX3_fits_11 : decode cX3_fits 11 = .ok (.getstatic 22, 3) := by decide +kernel
theorem dX3_fits_14 : decode cX3_fits 14 = .ok (.iload_n 0, 1) := by decide +kernel
theorem dX3_fits_15 : decode cX3_fits 15 = .ok (.iaload, 1) := by decide +kernel
theorem dX3_fits_16 : decode cX3_fits 16 = .ok (.if_icmp .lt 16, 3) := by decide +kernel
theorem dX3_fits_19 : decode cX3_fits 19 = .ok (.iload_n 1, 1) := by decide +kernel
theorem dX3_fits_20 : decode cX3_fits 20 = .ok (.getstatic 25, 3) := by decide +kernel
theorem dX3_fits_23 : decode cX3_fits 23 = .ok (.iload_n 0, 1) := by decide +kernel
theorem dX3_fits_24 : decode cX3_fits 24 = .ok (.iaload, 1) := by decide +kernel
theorem dX3_fits_25 : decode cX3_fits 25 = .ok (.if_icmp .gt 7, 3) := by decide +kernel
theorem dX3_fits_28 : decode cX3_fits 28 = .ok (.iconst 1, 1) := by decide +kernel
theorem dX3_fits_29 : decode cX3_fits 29 = .ok (.goto 4, 3) := by decide +kernel
theorem dX3_fits_32 : decode cX3_fits 32 = .ok (.iconst 0, 1) := by decide +kernel
theorem dX3_fits_33 : decode cX3_fits 33 = .ok (.ireturn, 1) := by decide +kernel
theorem dX3_add_0 : decode cX3_add 0 = .ok (.aload_n 0, 1) := by decide +kernel
theorem dX3_add_1 : decode cX3_add 1 = .ok (.getfield 28, 3) := by decide +kernel
theorem dX3_add_4 : decode cX3_add 4 = .ok (.iconst 3, 1) := by decide +kernel
theorem dX3_add_5 : decode cX3_add 5 = .ok (.if_icmp .lt 6, 3) := by decide +kernel
theorem dX3_add_8 : decode cX3_add 8 = .ok (.bipush (-3), 2) := by decide +kernel
theorem dX3_add_10 : decode cX3_add 10 = .ok (.ireturn, 1) := by decide +kernel
theorem dX3_add_11 : decode cX3_add 11 = .ok (.aload_n 0, 1) := by decide +kernel
theorem dX3_add_12 : decode cX3_add 12 = .ok (.getfield 28, 3) := by decide +kernel
theorem dX3_add_15 : decode cX3_add 15 = .ok (.bipush 8, 2) := by decide +kernel
theorem dX3_add_17 : decode cX3_add 17 = .ok (.imul, 1) := by decide +kernel
theorem dX3_add_18 : decode cX3_add 18 = .ok (.istore 4, 2) := by decide +kernel
theorem dX3_add_20 : decode cX3_add 20 = .ok (.getstatic 19, 3) := by decide +kernel
theorem dX3_add_23 : decode cX3_add 23 = .ok (.iconst 0, 1) := by decide +kernel
theorem dX3_add_24 : decode cX3_add 24 = .ok (.aload_n 0, 1) := by decide +kernel
theorem dX3_add_25 : decode cX3_add 25 = .ok (.getfield 9, 3) := by decide +kernel
theorem dX3_add_28 : decode cX3_add 28 = .ok (.iload 4, 2) := by decide +kernel
theorem dX3_add_30 : decode cX3_add 30 = .ok (.bipush 8, 2) := by decide +kernel
theorem dX3_add_32 : decode cX3_add 32 = .ok (.invokestatic 32, 3) := by decide +kernel
theorem dX3_add_35 : decode cX3_add 35 = .ok (.aload_n 0, 1) := by decide +kernel
theorem dX3_add_36 : decode cX3_add 36 = .ok (.getfield 9, 3) := by decide +kernel
theorem dX3_add_39 : decode cX3_add 39 = .ok (.iload 4, 2) := by decide +kernel
theorem dX3_add_41 : decode cX3_add 41 = .ok (.iconst 0, 1) := by decide +kernel
theorem dX3_add_42 : decode cX3_add 42 = .ok (.iadd, 1) := by decide +kernel
theorem dX3_add_43 : decode cX3_add 43 = .ok (.iload_n 1, 1) := by decide +kernel
theorem dX3_add_44 : decode cX3_add 44 = .ok (.iastore, 1) := by decide +kernel
theorem dX3_add_45 : decode cX3_add 45 = .ok (.aload_n 0, 1) := by decide +kernel
theorem dX3_add_46 : decode cX3_add 46 = .ok (.getfield 9, 3) := by decide +kernel
theorem dX3_add_49 : decode cX3_add 49 = .ok (.iload 4, 2) := by decide +kernel
theorem dX3_add_51 : decode cX3_add 51 = .ok (.iconst 1, 1) := by decide +kernel
theorem dX3_add_52 : decode cX3_add 52 = .ok (.iadd, 1) := by decide +kernel
theorem dX3_add_53 : decode cX3_add 53 = .ok (.iload_n 2, 1) := by decide +kernel
theorem dX3_add_54 : decode cX3_add 54 = .ok (.iastore, 1) := by decide +kernel
theorem dX3_add_55 : decode cX3_add 55 = .ok (.aload_n 0, 1) := by decide +kernel
theorem dX3_add_56 : decode cX3_add 56 = .ok (.getfield 9, 3) := by decide +kernel
theorem dX3_add_59 : decode cX3_add 59 = .ok (.iload 4, 2) := by decide +kernel
theorem dX3_add_61 : decode cX3_add 61 = .ok (.iconst 2, 1) := by decide +kernel
theorem dX3_add_62 : decode cX3_add 62 = .ok (.iadd, 1) := by decide +kernel
theorem dX3_add_63 : decode cX3_add 63 = .ok (.iload_n 3, 1) := by decide +kernel
theorem dX3_add_64 : decode cX3_add 64 = .ok (.iastore, 1) := by decide +kernel
theorem dX3_add_65 : decode cX3_add 65 = .ok (.aload_n 0, 1) := by decide +kernel
theorem dX3_add_66 : decode cX3_add 66 = .ok (.dup, 1) := by decide +kernel
theorem dX3_add_67 : decode cX3_add 67 = .ok (.getfield 28, 3) := by decide +kernel
theorem dX3_add_70 : decode cX3_add 70 = .ok (.iconst 1, 1) := by decide +kernel
theorem dX3_add_71 : decode cX3_add 71 = .ok (.iadd, 1) := by decide +kernel
theorem dX3_add_72 : decode cX3_add 72 = .ok (.putfield 28, 3) := by decide +kernel
theorem dX3_add_75 : decode cX3_add 75 = .ok (.aload_n 0, 1) := by decide +kernel
theorem dX3_add_76 : decode cX3_add 76 = .ok (.getfield 28, 3) := by decide +kernel
theorem dX3_add_79 : decode cX3_add 79 = .ok (.iconst 1, 1) := by decide +kernel
theorem dX3_add_80 : decode cX3_add 80 = .ok (.isub, 1) := by decide +kernel
theorem dX3_add_81 : decode cX3_add 81 = .ok (.ireturn, 1) := by decide +kernel
theorem dX3_place_0 : decode cX3_place 0 = .ok (.iload_n 2, 1) := by decide +kernel
theorem dX3_place_1 : decode cX3_place 1 = .ok (.ifCond .lt 9, 3) := by decide +kernel
theorem dX3_place_4 : decode cX3_place 4 = .ok (.iload_n 2, 1) := by decide +kernel
theorem dX3_place_5 : decode cX3_place 5 = .ok (.bipush 11, 2) := by decide +kernel
theorem dX3_place_7 : decode cX3_place 7 = .ok (.if_icmp .le 5, 3) := by decide +kernel
theorem dX3_place_10 : decode cX3_place 10 = .ok (.iconst (-1), 1) := by decide +kernel
theorem dX3_place_11 : decode cX3_place 11 = .ok (.ireturn, 1) := by decide +kernel
theorem dX3_place_12 : decode cX3_place 12 = .ok (.iload_n 2, 1) := by decide +kernel
theorem dX3_place_13 : decode cX3_place 13 = .ok (.bipush 8, 2) := by decide +kernel
theorem dX3_place_15 : decode cX3_place 15 = .ok (.if_icmp .lt 16, 3) := by decide +kernel
theorem dX3_place_18 : decode cX3_place 18 = .ok (.iload_n 1, 1) := by decide +kernel
theorem dX3_place_19 : decode cX3_place 19 = .ok (.ifCond .ne 10, 3) := by decide +kernel
theorem dX3_place_22 : decode cX3_place 22 = .ok (.iload_n 2, 1) := by decide +kernel
theorem dX3_place_23 : decode cX3_place 23 = .ok (.invokestatic 15, 3) := by decide +kernel
theorem dX3_place_26 : decode cX3_place 26 = .ok (.goto 4, 3) := by decide +kernel
theorem dX3_place_29 : decode cX3_place 29 = .ok (.iconst (-1), 1) := by decide +kernel
theorem dX3_place_30 : decode cX3_place 30 = .ok (.ireturn, 1) := by decide +kernel
theorem dX3_place_31 : decode cX3_place 31 = .ok (.iload_n 1, 1) := by decide +kernel
theorem dX3_place_32 : decode cX3_place 32 = .ok (.ifCond .lt 20, 3) := by decide +kernel
theorem dX3_place_35 : decode cX3_place 35 = .ok (.iload_n 1, 1) := by decide +kernel
theorem dX3_place_36 : decode cX3_place 36 = .ok (.aload_n 0, 1) := by decide +kernel
theorem dX3_place_37 : decode cX3_place 37 = .ok (.getfield 28, 3) := by decide +kernel
theorem dX3_place_40 : decode cX3_place 40 = .ok (.if_icmp .ge 12, 3) := by decide +kernel
theorem dX3_place_43 : decode cX3_place 43 = .ok (.iload_n 1, 1) := by decide +kernel
theorem dX3_place_44 : decode cX3_place 44 = .ok (.bipush 8, 2) := by decide +kernel
theorem dX3_place_46 : decode cX3_place 46 = .ok (.imul, 1) := by decide +kernel
theorem dX3_place_47 : decode cX3_place 47 = .ok (.iload_n 2, 1) := by decide +kernel
theorem dX3_place_48 : decode cX3_place 48 = .ok (.iadd, 1) := by decide +kernel
theorem dX3_place_49 : decode cX3_place 49 = .ok (.goto 4, 3) := by decide +kernel
theorem dX3_place_52 : decode cX3_place 52 = .ok (.iconst (-1), 1) := by decide +kernel
theorem dX3_place_53 : decode cX3_place 53 = .ok (.ireturn, 1) := by decide +kernel
theorem dX3_ofStraw_0 : decode cX3_ofStraw 0 = .ok (.aload_n 0, 1) := by decide +kernel
theorem dX3_ofStraw_1 : decode cX3_ofStraw 1 = .ok (.getfield 9, 3) := by decide +kernel
theorem dX3_ofStraw_4 : decode cX3_ofStraw 4 = .ok (.iload_n 1, 1) := by decide +kernel
theorem dX3_ofStraw_5 : decode cX3_ofStraw 5 = .ok (.bipush 8, 2) := by decide +kernel
theorem dX3_ofStraw_7 : decode cX3_ofStraw 7 = .ok (.imul, 1) := by decide +kernel
theorem dX3_ofStraw_8 : decode cX3_ofStraw 8 = .ok (.iload_n 2, 1) := by decide +kernel
theorem dX3_ofStraw_9 : decode cX3_ofStraw 9 = .ok (.iadd, 1) := by decide +kernel
theorem dX3_ofStraw_10 : decode cX3_ofStraw 10 = .ok (.iaload, 1) := by decide +kernel
theorem dX3_ofStraw_11 : decode cX3_ofStraw 11 = .ok (.ireturn, 1) := by decide +kernel
theorem dX3_ofGlass_0 : decode cX3_ofGlass 0 = .ok (.aload_n 0, 1) := by decide +kernel
theorem dX3_ofGlass_1 : decode cX3_ofGlass 1 = .ok (.getfield 9, 3) := by decide +kernel
theorem dX3_ofGlass_4 : decode cX3_ofGlass 4 = .ok (.iload_n 1, 1) := by decide +kernel
theorem dX3_ofGlass_5 : decode cX3_ofGlass 5 = .ok (.invokestatic 15, 3) := by decide +kernel
theorem dX3_ofGlass_8 : decode cX3_ofGlass 8 = .ok (.iaload, 1) := by decide +kernel
theorem dX3_ofGlass_9 : decode cX3_ofGlass 9 = .ok (.ireturn, 1) := by decide +kernel
theorem dX3_glassPlace_0 : decode cX3_glassPlace 0 = .ok (.bipush 24, 2) := by decide +kernel
theorem dX3_glassPlace_2 : decode cX3_glassPlace 2 = .ok (.iload_n 0, 1) := by decide +kernel
theorem dX3_glassPlace_3 : decode cX3_glassPlace 3 = .ok (.iadd, 1) := by decide +kernel
theorem dX3_glassPlace_4 : decode cX3_glassPlace 4 = .ok (.bipush 8, 2) := by decide +kernel
theorem dX3_glassPlace_6 : decode cX3_glassPlace 6 = .ok (.isub, 1) := by decide +kernel
theorem dX3_glassPlace_7 : decode cX3_glassPlace 7 = .ok (.ireturn, 1) := by decide +kernel
theorem dX3_isDrawing_0 : decode cX3_isDrawing 0 = .ok (.iload_n 1, 1) := by decide +kernel
theorem dX3_isDrawing_1 : decode cX3_isDrawing 1 = .ok (.bipush 8, 2) := by decide +kernel
theorem dX3_isDrawing_3 : decode cX3_isDrawing 3 = .ok (.imul, 1) := by decide +kernel
theorem dX3_isDrawing_4 : decode cX3_isDrawing 4 = .ok (.istore 4, 2) := by decide +kernel
theorem dX3_isDrawing_6 : decode cX3_isDrawing 6 = .ok (.iload_n 3, 1) := by decide +kernel
theorem dX3_isDrawing_7 : decode cX3_isDrawing 7 = .ok (.ifCond .ne 19, 3) := by decide +kernel
theorem dX3_isDrawing_10 : decode cX3_isDrawing 10 = .ok (.iload_n 2, 1) := by decide +kernel
theorem dX3_isDrawing_11 : decode cX3_isDrawing 11 = .ok (.aload_n 0, 1) := by decide +kernel
theorem dX3_isDrawing_12 : decode cX3_isDrawing 12 = .ok (.getfield 9, 3) := by decide +kernel
theorem dX3_isDrawing_15 : decode cX3_isDrawing 15 = .ok (.iload 4, 2) := by decide +kernel
theorem dX3_isDrawing_17 : decode cX3_isDrawing 17 = .ok (.bipush 7, 2) := by decide +kernel
theorem dX3_isDrawing_19 : decode cX3_isDrawing 19 = .ok (.iadd, 1) := by decide +kernel
theorem dX3_isDrawing_20 : decode cX3_isDrawing 20 = .ok (.iaload, 1) := by decide +kernel
theorem dX3_isDrawing_21 : decode cX3_isDrawing 21 = .ok (.if_icmp .lt 5, 3) := by decide +kernel
theorem dX3_isDrawing_24 : decode cX3_isDrawing 24 = .ok (.iconst 0, 1) := by decide +kernel
theorem dX3_isDrawing_25 : decode cX3_isDrawing 25 = .ok (.ireturn, 1) := by decide +kernel
theorem dX3_isDrawing_26 : decode cX3_isDrawing 26 = .ok (.aload_n 0, 1) := by decide +kernel
theorem dX3_isDrawing_27 : decode cX3_isDrawing 27 = .ok (.getfield 9, 3) := by decide +kernel
theorem dX3_isDrawing_30 : decode cX3_isDrawing 30 = .ok (.iload 4, 2) := by decide +kernel
theorem dX3_isDrawing_32 : decode cX3_isDrawing 32 = .ok (.iconst 4, 1) := by decide +kernel
theorem dX3_isDrawing_33 : decode cX3_isDrawing 33 = .ok (.iadd, 1) := by decide +kernel
theorem dX3_isDrawing_34 : decode cX3_isDrawing 34 = .ok (.iaload, 1) := by decide +kernel
theorem dX3_isDrawing_35 : decode cX3_isDrawing 35 = .ok (.istore 5, 2) := by decide +kernel
theorem dX3_isDrawing_37 : decode cX3_isDrawing 37 = .ok (.iload 5, 2) := by decide +kernel
theorem dX3_isDrawing_39 : decode cX3_isDrawing 39 = .ok (.aload_n 0, 1) := by decide +kernel
theorem dX3_isDrawing_40 : decode cX3_isDrawing 40 = .ok (.getfield 9, 3) := by decide +kernel
theorem dX3_isDrawing_43 : decode cX3_isDrawing 43 = .ok (.iload 4, 2) := by decide +kernel
theorem dX3_isDrawing_45 : decode cX3_isDrawing 45 = .ok (.iconst 5, 1) := by decide +kernel
theorem dX3_isDrawing_46 : decode cX3_isDrawing 46 = .ok (.iadd, 1) := by decide +kernel
theorem dX3_isDrawing_47 : decode cX3_isDrawing 47 = .ok (.iaload, 1) := by decide +kernel
theorem dX3_isDrawing_48 : decode cX3_isDrawing 48 = .ok (.iadd, 1) := by decide +kernel
theorem dX3_isDrawing_49 : decode cX3_isDrawing 49 = .ok (.istore 6, 2) := by decide +kernel
theorem dX3_isDrawing_51 : decode cX3_isDrawing 51 = .ok (.iload 6, 2) := by decide +kernel
theorem dX3_isDrawing_53 : decode cX3_isDrawing 53 = .ok (.ifCond .le 16, 3) := by decide +kernel
theorem dX3_isDrawing_56 : decode cX3_isDrawing 56 = .ok (.iload_n 2, 1) := by decide +kernel
theorem dX3_isDrawing_57 : decode cX3_isDrawing 57 = .ok (.iload 6, 2) := by decide +kernel
theorem dX3_isDrawing_59 : decode cX3_isDrawing 59 = .ok (.irem, 1) := by decide +kernel
theorem dX3_isDrawing_60 : decode cX3_isDrawing 60 = .ok (.iload 5, 2) := by decide +kernel
theorem dX3_isDrawing_62 : decode cX3_isDrawing 62 = .ok (.if_icmp .ge 7, 3) := by decide +kernel
theorem dX3_isDrawing_65 : decode cX3_isDrawing 65 = .ok (.iconst 1, 1) := by decide +kernel
theorem dX3_isDrawing_66 : decode cX3_isDrawing 66 = .ok (.goto 4, 3) := by decide +kernel
theorem dX3_isDrawing_69 : decode cX3_isDrawing 69 = .ok (.iconst 0, 1) := by decide +kernel
theorem dX3_isDrawing_70 : decode cX3_isDrawing 70 = .ok (.ireturn, 1) := by decide +kernel
theorem dX3_sweetness_0 : decode cX3_sweetness 0 = .ok (.aload_n 0, 1) := by decide +kernel
theorem dX3_sweetness_1 : decode cX3_sweetness 1 = .ok (.iload_n 1, 1) := by decide +kernel
theorem dX3_sweetness_2 : decode cX3_sweetness 2 = .ok (.iconst 2, 1) := by decide +kernel
theorem dX3_sweetness_3 : decode cX3_sweetness 3 = .ok (.invokevirtual 38, 3) := by decide +kernel
theorem dX3_sweetness_6 : decode cX3_sweetness 6 = .ok (.aload_n 0, 1) := by decide +kernel
theorem dX3_sweetness_7 : decode cX3_sweetness 7 = .ok (.bipush 9, 2) := by decide +kernel
theorem dX3_sweetness_9 : decode cX3_sweetness 9 = .ok (.invokevirtual 42, 3) := by decide +kernel
theorem dX3_sweetness_12 : decode cX3_sweetness 12 = .ok (.if_icmp .ge 14, 3) := by decide +kernel
theorem dX3_sweetness_15 : decode cX3_sweetness 15 = .ok (.iconst 1, 1) := by decide +kernel
theorem dX3_sweetness_16 : decode cX3_sweetness 16 = .ok (.aload_n 0, 1) := by decide +kernel
theorem dX3_sweetness_17 : decode cX3_sweetness 17 = .ok (.bipush 10, 2) := by decide +kernel
theorem dX3_sweetness_19 : decode cX3_sweetness 19 = .ok (.invokevirtual 42, 3) := by decide +kernel
theorem dX3_sweetness_22 : decode cX3_sweetness 22 = .ok (.iadd, 1) := by decide +kernel
theorem dX3_sweetness_23 : decode cX3_sweetness 23 = .ok (.goto 4, 3) := by decide +kernel
theorem dX3_sweetness_26 : decode cX3_sweetness 26 = .ok (.iconst 1, 1) := by decide +kernel
theorem dX3_sweetness_27 : decode cX3_sweetness 27 = .ok (.ireturn, 1) := by decide +kernel
theorem dX3_lowestReach_0 : decode cX3_lowestReach 0 = .ok (.sipush 999, 3) := by decide +kernel
theorem dX3_lowestReach_3 : decode cX3_lowestReach 3 = .ok (.istore_n 1, 1) := by decide +kernel
theorem dX3_lowestReach_4 : decode cX3_lowestReach 4 = .ok (.iconst 0, 1) := by decide +kernel
theorem dX3_lowestReach_5 : decode cX3_lowestReach 5 = .ok (.istore_n 2, 1) := by decide +kernel
theorem dX3_lowestReach_6 : decode cX3_lowestReach 6 = .ok (.iload_n 2, 1) := by decide +kernel
theorem dX3_lowestReach_7 : decode cX3_lowestReach 7 = .ok (.aload_n 0, 1) := by decide +kernel
theorem dX3_lowestReach_8 : decode cX3_lowestReach 8 = .ok (.getfield 28, 3) := by decide +kernel
theorem dX3_lowestReach_11 : decode cX3_lowestReach 11 = .ok (.if_icmp .ge 20, 3) := by decide +kernel
theorem dX3_lowestReach_14 : decode cX3_lowestReach 14 = .ok (.iload_n 1, 1) := by decide +kernel
theorem dX3_lowestReach_15 : decode cX3_lowestReach 15 = .ok (.aload_n 0, 1) := by decide +kernel
theorem dX3_lowestReach_16 : decode cX3_lowestReach 16 = .ok (.iload_n 2, 1) := by decide +kernel
theorem dX3_lowestReach_17 : decode cX3_lowestReach 17 = .ok (.iconst 2, 1) := by decide +kernel
theorem dX3_lowestReach_18 : decode cX3_lowestReach 18 = .ok (.invokevirtual 38, 3) := by decide +kernel
theorem dX3_lowestReach_21 : decode cX3_lowestReach 21 = .ok (.invokestatic 45, 3) := by decide +kernel
theorem dX3_lowestReach_24 : decode cX3_lowestReach 24 = .ok (.istore_n 1, 1) := by decide +kernel
theorem dX3_lowestReach_25 : decode cX3_lowestReach 25 = .ok (.iinc 2 1, 3) := by decide +kernel
theorem dX3_lowestReach_28 : decode cX3_lowestReach 28 = .ok (.goto (-22), 3) := by decide +kernel
theorem dX3_lowestReach_31 : decode cX3_lowestReach 31 = .ok (.iload_n 1, 1) := by decide +kernel
theorem dX3_lowestReach_32 : decode cX3_lowestReach 32 = .ok (.ireturn, 1) := by decide +kernel
theorem dX4_init_0 : decode cX4_init 0 = .ok (.aload_n 0, 1) := by decide +kernel
theorem dX4_init_1 : decode cX4_init 1 = .ok (.invokespecial 3, 3) := by decide +kernel
theorem dX4_init_4 : decode cX4_init 4 = .ok (.aload_n 0, 1) := by decide +kernel
theorem dX4_init_5 : decode cX4_init 5 = .ok (.bipush (-2), 2) := by decide +kernel
theorem dX4_init_7 : decode cX4_init 7 = .ok (.putfield 9, 3) := by decide +kernel
theorem dX4_init_10 : decode cX4_init 10 = .ok (.aload_n 0, 1) := by decide +kernel
theorem dX4_init_11 : decode cX4_init 11 = .ok (.bipush 60, 2) := by decide +kernel
theorem dX4_init_13 : decode cX4_init 13 = .ok (.newarray .long, 2) := by decide +kernel
theorem dX4_init_15 : decode cX4_init 15 = .ok (.putfield 15, 3) := by decide +kernel
theorem dX4_init_18 : decode cX4_init 18 = .ok (.return_, 1) := by decide +kernel
theorem dX4_clear_0 : decode cX4_clear 0 = .ok (.aload_n 0, 1) := by decide +kernel
theorem dX4_clear_1 : decode cX4_clear 1 = .ok (.bipush (-2), 2) := by decide +kernel
theorem dX4_clear_3 : decode cX4_clear 3 = .ok (.putfield 9, 3) := by decide +kernel
theorem dX4_clear_6 : decode cX4_clear 6 = .ok (.aload_n 0, 1) := by decide +kernel
theorem dX4_clear_7 : decode cX4_clear 7 = .ok (.iconst 0, 1) := by decide +kernel
theorem dX4_clear_8 : decode cX4_clear 8 = .ok (.putfield 19, 3) := by decide +kernel
theorem dX4_clear_11 : decode cX4_clear 11 = .ok (.return_, 1) := by decide +kernel
theorem dX4_holdSip_0 : decode cX4_holdSip 0 = .ok (.aload_n 0, 1) := by decide +kernel
theorem dX4_holdSip_1 : decode cX4_holdSip 1 = .ok (.iconst (-1), 1) := by decide +kernel
theorem dX4_holdSip_2 : decode cX4_holdSip 2 = .ok (.putfield 9, 3) := by decide +kernel
theorem dX4_holdSip_5 : decode cX4_holdSip 5 = .ok (.aload_n 0, 1) := by decide +kernel
theorem dX4_holdSip_6 : decode cX4_holdSip 6 = .ok (.iconst 0, 1) := by decide +kernel
theorem dX4_holdSip_7 : decode cX4_holdSip 7 = .ok (.putfield 19, 3) := by decide +kernel
theorem dX4_holdSip_10 : decode cX4_holdSip 10 = .ok (.aload_n 0, 1) := by decide +kernel
theorem dX4_holdSip_11 : decode cX4_holdSip 11 = .ok (.iload_n 1, 1) := by decide +kernel
theorem dX4_holdSip_12 : decode cX4_holdSip 12 = .ok (.putfield 22, 3) := by decide +kernel
theorem dX4_holdSip_15 : decode cX4_holdSip 15 = .ok (.return_, 1) := by decide +kernel
theorem dX4_holdRow_0 : decode cX4_holdRow 0 = .ok (.aload_n 0, 1) := by decide +kernel
theorem dX4_holdRow_1 : decode cX4_holdRow 1 = .ok (.iload_n 1, 1) := by decide +kernel
theorem dX4_holdRow_2 : decode cX4_holdRow 2 = .ok (.putfield 9, 3) := by decide +kernel
theorem dX4_holdRow_5 : decode cX4_holdRow 5 = .ok (.aload_n 0, 1) := by decide +kernel
theorem dX4_holdRow_6 : decode cX4_holdRow 6 = .ok (.iload_n 2, 1) := by decide +kernel
theorem dX4_holdRow_7 : decode cX4_holdRow 7 = .ok (.putfield 19, 3) := by decide +kernel
theorem dX4_holdRow_10 : decode cX4_holdRow 10 = .ok (.iconst 0, 1) := by decide +kernel
theorem dX4_holdRow_11 : decode cX4_holdRow 11 = .ok (.istore_n 3, 1) := by decide +kernel
theorem dX4_holdRow_12 : decode cX4_holdRow 12 = .ok (.iload_n 3, 1) := by decide +kernel
theorem dX4_holdRow_13 : decode cX4_holdRow 13 = .ok (.bipush 60, 2) := by decide +kernel
theorem dX4_holdRow_15 : decode cX4_holdRow 15 = .ok (.if_icmp .ge 16, 3) := by decide +kernel
theorem dX4_holdRow_18 : decode cX4_holdRow 18 = .ok (.aload_n 0, 1) := by decide +kernel
theorem dX4_holdRow_19 : decode cX4_holdRow 19 = .ok (.getfield 15, 3) := by decide +kernel
theorem dX4_holdRow_22 : decode cX4_holdRow 22 = .ok (.iload_n 3, 1) := by decide +kernel
theorem dX4_holdRow_23 : decode cX4_holdRow 23 = .ok (.lconst 0, 1) := by decide +kernel
theorem dX4_holdRow_24 : decode cX4_holdRow 24 = .ok (.lastore, 1) := by decide +kernel
theorem dX4_holdRow_25 : decode cX4_holdRow 25 = .ok (.iinc 3 1, 3) := by decide +kernel
theorem dX4_holdRow_28 : decode cX4_holdRow 28 = .ok (.goto (-16), 3) := by decide +kernel
theorem dX4_holdRow_31 : decode cX4_holdRow 31 = .ok (.return_, 1) := by decide +kernel
theorem dX4_hasPlaces_0 : decode cX4_hasPlaces 0 = .ok (.iload_n 1, 1) := by decide +kernel
theorem dX4_hasPlaces_1 : decode cX4_hasPlaces 1 = .ok (.ifCond .lt 29, 3) := by decide +kernel
theorem dX4_hasPlaces_4 : decode cX4_hasPlaces 4 = .ok (.iload_n 2, 1) := by decide +kernel
theorem dX4_hasPlaces_5 : decode cX4_hasPlaces 5 = .ok (.ifCond .lt 25, 3) := by decide +kernel
theorem dX4_hasPlaces_8 : decode cX4_hasPlaces 8 = .ok (.iload_n 1, 1) := by decide +kernel
theorem dX4_hasPlaces_9 : decode cX4_hasPlaces 9 = .ok (.aload_n 0, 1) := by decide +kernel
theorem dX4_hasPlaces_10 : decode cX4_hasPlaces 10 = .ok (.getfield 19, 3) := by decide +kernel
theorem dX4_hasPlaces_13 : decode cX4_hasPlaces 13 = .ok (.if_icmp .gt 17, 3) := by decide +kernel
theorem dX4_hasPlaces_16 : decode cX4_hasPlaces 16 = .ok (.iload_n 2, 1) := by decide +kernel
theorem dX4_hasPlaces_17 : decode cX4_hasPlaces 17 = .ok (.aload_n 0, 1) := by decide +kernel
theorem dX4_hasPlaces_18 : decode cX4_hasPlaces 18 = .ok (.getfield 19, 3) := by decide +kernel
theorem dX4_hasPlaces_21 : decode cX4_hasPlaces 21 = .ok (.iload_n 1, 1) := by decide +kernel
theorem dX4_hasPlaces_22 : decode cX4_hasPlaces 22 = .ok (.isub, 1) := by decide +kernel
theorem dX4_hasPlaces_23 : decode cX4_hasPlaces 23 = .ok (.if_icmp .gt 7, 3) := by decide +kernel
theorem dX4_hasPlaces_26 : decode cX4_hasPlaces 26 = .ok (.iconst 1, 1) := by decide +kernel
theorem dX4_hasPlaces_27 : decode cX4_hasPlaces 27 = .ok (.goto 4, 3) := by decide +kernel
theorem dX4_hasPlaces_30 : decode cX4_hasPlaces 30 = .ok (.iconst 0, 1) := by decide +kernel
theorem dX4_hasPlaces_31 : decode cX4_hasPlaces 31 = .ok (.ireturn, 1) := by decide +kernel
theorem dX4_cut_0 : decode cX4_cut 0 = .ok (.iload_n 0, 1) := by decide +kernel
theorem dX4_cut_1 : decode cX4_cut 1 = .ok (.tableswitch 61 0 4 #[35, 40, 45, 61, 49], 35) := by decide +kernel
theorem dX4_cut_36 : decode cX4_cut 36 = .ok (.lload_n 1, 1) := by decide +kernel
theorem dX4_cut_37 : decode cX4_cut 37 = .ok (.l2i, 1) := by decide +kernel
theorem dX4_cut_38 : decode cX4_cut 38 = .ok (.i2b, 1) := by decide +kernel
theorem dX4_cut_39 : decode cX4_cut 39 = .ok (.i2l, 1) := by decide +kernel
theorem dX4_cut_40 : decode cX4_cut 40 = .ok (.lreturn, 1) := by decide +kernel
theorem dX4_cut_41 : decode cX4_cut 41 = .ok (.lload_n 1, 1) := by decide +kernel
theorem dX4_cut_42 : decode cX4_cut 42 = .ok (.l2i, 1) := by decide +kernel
theorem dX4_cut_43 : decode cX4_cut 43 = .ok (.i2s, 1) := by decide +kernel
theorem dX4_cut_44 : decode cX4_cut 44 = .ok (.i2l, 1) := by decide +kernel
theorem dX4_cut_45 : decode cX4_cut 45 = .ok (.lreturn, 1) := by decide +kernel
theorem dX4_cut_46 : decode cX4_cut 46 = .ok (.lload_n 1, 1) := by decide +kernel
theorem dX4_cut_47 : decode cX4_cut 47 = .ok (.l2i, 1) := by decide +kernel
theorem dX4_cut_48 : decode cX4_cut 48 = .ok (.i2l, 1) := by decide +kernel
theorem dX4_cut_49 : decode cX4_cut 49 = .ok (.lreturn, 1) := by decide +kernel
theorem dX4_cut_50 : decode cX4_cut 50 = .ok (.lload_n 1, 1) := by decide +kernel
theorem dX4_cut_51 : decode cX4_cut 51 = .ok (.lconst 0, 1) := by decide +kernel
theorem dX4_cut_52 : decode cX4_cut 52 = .ok (.lcmp, 1) := by decide +kernel
theorem dX4_cut_53 : decode cX4_cut 53 = .ok (.ifCond .eq 7, 3) := by decide +kernel
theorem dX4_cut_56 : decode cX4_cut 56 = .ok (.lconst 1, 1) := by decide +kernel
theorem dX4_cut_57 : decode cX4_cut 57 = .ok (.goto 4, 3) := by decide +kernel
theorem dX4_cut_60 : decode cX4_cut 60 = .ok (.lconst 0, 1) := by decide +kernel
theorem dX4_cut_61 : decode cX4_cut 61 = .ok (.lreturn, 1) := by decide +kernel
theorem dX4_cut_62 : decode cX4_cut 62 = .ok (.lload_n 1, 1) := by decide +kernel
theorem dX4_cut_63 : decode cX4_cut 63 = .ok (.lreturn, 1) := by decide +kernel
theorem dX5_init_0 : decode cX5_init 0 = .ok (.aload_n 0, 1) := by decide +kernel
theorem dX5_init_1 : decode cX5_init 1 = .ok (.invokespecial 3, 3) := by decide +kernel
theorem dX5_init_4 : decode cX5_init 4 = .ok (.aload_n 0, 1) := by decide +kernel
theorem dX5_init_5 : decode cX5_init 5 = .ok (.bipush 50, 2) := by decide +kernel
theorem dX5_init_7 : decode cX5_init 7 = .ok (.newarray .int, 2) := by decide +kernel
theorem dX5_init_9 : decode cX5_init 9 = .ok (.putfield 11, 3) := by decide +kernel
theorem dX5_init_12 : decode cX5_init 12 = .ok (.aload_n 0, 1) := by decide +kernel
theorem dX5_init_13 : decode cX5_init 13 = .ok (.bipush 24, 2) := by decide +kernel
theorem dX5_init_15 : decode cX5_init 15 = .ok (.newarray .int, 2) := by decide +kernel
theorem dX5_init_17 : decode cX5_init 17 = .ok (.putfield 15, 3) := by decide +kernel
theorem dX5_init_20 : decode cX5_init 20 = .ok (.return_, 1) := by decide +kernel
theorem dX5_add_0 : decode cX5_add 0 = .ok (.aload_n 0, 1) := by decide +kernel
theorem dX5_add_1 : decode cX5_add 1 = .ok (.getfield 18, 3) := by decide +kernel
theorem dX5_add_4 : decode cX5_add 4 = .ok (.bipush 50, 2) := by decide +kernel
theorem dX5_add_6 : decode cX5_add 6 = .ok (.if_icmp .lt 6, 3) := by decide +kernel
theorem dX5_add_9 : decode cX5_add 9 = .ok (.bipush (-3), 2) := by decide +kernel
theorem dX5_add_11 : decode cX5_add 11 = .ok (.ireturn, 1) := by decide +kernel
theorem dX5_add_12 : decode cX5_add 12 = .ok (.aload_n 0, 1) := by decide +kernel
theorem dX5_add_13 : decode cX5_add 13 = .ok (.getfield 11, 3) := by decide +kernel
theorem dX5_add_16 : decode cX5_add 16 = .ok (.aload_n 0, 1) := by decide +kernel
theorem dX5_add_17 : decode cX5_add 17 = .ok (.getfield 18, 3) := by decide +kernel
theorem dX5_add_20 : decode cX5_add 20 = .ok (.iload_n 1, 1) := by decide +kernel
theorem dX5_add_21 : decode cX5_add 21 = .ok (.iastore, 1) := by decide +kernel
theorem dX5_add_22 : decode cX5_add 22 = .ok (.aload_n 0, 1) := by decide +kernel
theorem dX5_add_23 : decode cX5_add 23 = .ok (.dup, 1) := by decide +kernel
theorem dX5_add_24 : decode cX5_add 24 = .ok (.getfield 18, 3) := by decide +kernel
theorem dX5_add_27 : decode cX5_add 27 = .ok (.iconst 1, 1) := by decide +kernel
theorem dX5_add_28 : decode cX5_add 28 = .ok (.iadd, 1) := by decide +kernel
theorem dX5_add_29 : decode cX5_add 29 = .ok (.putfield 18, 3) := by decide +kernel
theorem dX5_add_32 : decode cX5_add 32 = .ok (.aload_n 0, 1) := by decide +kernel
theorem dX5_add_33 : decode cX5_add 33 = .ok (.getfield 18, 3) := by decide +kernel
theorem dX5_add_36 : decode cX5_add 36 = .ok (.iconst 1, 1) := by decide +kernel
theorem dX5_add_37 : decode cX5_add 37 = .ok (.isub, 1) := by decide +kernel
theorem dX5_add_38 : decode cX5_add 38 = .ok (.ireturn, 1) := by decide +kernel
theorem dX5_has_0 : decode cX5_has 0 = .ok (.iload_n 1, 1) := by decide +kernel
theorem dX5_has_1 : decode cX5_has 1 = .ok (.ifCond .lt 15, 3) := by decide +kernel
theorem dX5_has_4 : decode cX5_has 4 = .ok (.iload_n 1, 1) := by decide +kernel
theorem dX5_has_5 : decode cX5_has 5 = .ok (.aload_n 0, 1) := by decide +kernel
theorem dX5_has_6 : decode cX5_has 6 = .ok (.getfield 18, 3) := by decide +kernel
theorem dX5_has_9 : decode cX5_has 9 = .ok (.if_icmp .ge 7, 3) := by decide +kernel
theorem dX5_has_12 : decode cX5_has 12 = .ok (.iconst 1, 1) := by decide +kernel
theorem dX5_has_13 : decode cX5_has 13 = .ok (.goto 4, 3) := by decide +kernel
theorem dX5_has_16 : decode cX5_has 16 = .ok (.iconst 0, 1) := by decide +kernel
theorem dX5_has_17 : decode cX5_has 17 = .ok (.ireturn, 1) := by decide +kernel
theorem dX5_kindOf_0 : decode cX5_kindOf 0 = .ok (.aload_n 0, 1) := by decide +kernel
theorem dX5_kindOf_1 : decode cX5_kindOf 1 = .ok (.iload_n 1, 1) := by decide +kernel
theorem dX5_kindOf_2 : decode cX5_kindOf 2 = .ok (.invokevirtual 22, 3) := by decide +kernel
theorem dX5_kindOf_5 : decode cX5_kindOf 5 = .ok (.ifCond .eq 12, 3) := by decide +kernel
theorem dX5_kindOf_8 : decode cX5_kindOf 8 = .ok (.aload_n 0, 1) := by decide +kernel
theorem dX5_kindOf_9 : decode cX5_kindOf 9 = .ok (.getfield 11, 3) := by decide +kernel
theorem dX5_kindOf_12 : decode cX5_kindOf 12 = .ok (.iload_n 1, 1) := by decide +kernel
theorem dX5_kindOf_13 : decode cX5_kindOf 13 = .ok (.iaload, 1) := by decide +kernel
theorem dX5_kindOf_14 : decode cX5_kindOf 14 = .ok (.goto 4, 3) := by decide +kernel
theorem dX5_kindOf_17 : decode cX5_kindOf 17 = .ok (.iconst 0, 1) := by decide +kernel
theorem dX5_kindOf_18 : decode cX5_kindOf 18 = .ok (.ireturn, 1) := by decide +kernel
theorem dX5_isUnder_0 : decode cX5_isUnder 0 = .ok (.iload_n 0, 1) := by decide +kernel
theorem dX5_isUnder_1 : decode cX5_isUnder 1 = .ok (.istore_n 2, 1) := by decide +kernel
theorem dX5_isUnder_2 : decode cX5_isUnder 2 = .ok (.iconst 0, 1) := by decide +kernel
theorem dX5_isUnder_3 : decode cX5_isUnder 3 = .ok (.istore_n 3, 1) := by decide +kernel
theorem dX5_isUnder_4 : decode cX5_isUnder 4 = .ok (.iload_n 3, 1) := by decide +kernel
theorem dX5_isUnder_5 : decode cX5_isUnder 5 = .ok (.bipush 8, 2) := by decide +kernel
theorem dX5_isUnder_7 : decode cX5_isUnder 7 = .ok (.if_icmp .ge 32, 3) := by decide +kernel
theorem dX5_isUnder_10 : decode cX5_isUnder 10 = .ok (.iload_n 2, 1) := by decide +kernel
theorem dX5_isUnder_11 : decode cX5_isUnder 11 = .ok (.ifCond .lt 28, 3) := by decide +kernel
theorem dX5_isUnder_14 : decode cX5_isUnder 14 = .ok (.iload_n 2, 1) := by decide +kernel
theorem dX5_isUnder_15 : decode cX5_isUnder 15 = .ok (.bipush 8, 2) := by decide +kernel
theorem dX5_isUnder_17 : decode cX5_isUnder 17 = .ok (.if_icmp .ge 22, 3) := by decide +kernel
theorem dX5_isUnder_20 : decode cX5_isUnder 20 = .ok (.iload_n 2, 1) := by decide +kernel
theorem dX5_isUnder_21 : decode cX5_isUnder 21 = .ok (.iload_n 1, 1) := by decide +kernel
theorem dX5_isUnder_22 : decode cX5_isUnder 22 = .ok (.if_icmp .ne 5, 3) := by decide +kernel
theorem dX5_isUnder_25 : decode cX5_isUnder 25 = .ok (.iconst 1, 1) := by decide +kernel
theorem dX5_isUnder_26 : decode cX5_isUnder 26 = .ok (.ireturn, 1) := by decide +kernel
theorem dX5_isUnder_27 : decode cX5_isUnder 27 = .ok (.getstatic 26, 3) := by decide +kernel
theorem dX5_isUnder_30 : decode cX5_isUnder 30 = .ok (.iload_n 2, 1) := by decide +kernel
theorem dX5_isUnder_31 : decode cX5_isUnder 31 = .ok (.iaload, 1) := by decide +kernel
theorem dX5_isUnder_32 : decode cX5_isUnder 32 = .ok (.istore_n 2, 1) := by decide +kernel
theorem dX5_isUnder_33 : decode cX5_isUnder 33 = .ok (.iinc 3 1, 3) := by decide +kernel
theorem dX5_isUnder_36 : decode cX5_isUnder 36 = .ok (.goto (-32), 3) := by decide +kernel
theorem dX5_isUnder_39 : decode cX5_isUnder 39 = .ok (.iconst 0, 1) := by decide +kernel
theorem dX5_isUnder_40 : decode cX5_isUnder 40 = .ok (.ireturn, 1) := by decide +kernel
theorem dX5_traced_0 : decode cX5_traced 0 = .ok (.iload_n 1, 1) := by decide +kernel
theorem dX5_traced_1 : decode cX5_traced 1 = .ok (.ifCond .lt 26, 3) := by decide +kernel
theorem dX5_traced_4 : decode cX5_traced 4 = .ok (.iload_n 1, 1) := by decide +kernel
theorem dX5_traced_5 : decode cX5_traced 5 = .ok (.aload_n 0, 1) := by decide +kernel
theorem dX5_traced_6 : decode cX5_traced 6 = .ok (.getfield 29, 3) := by decide +kernel
theorem dX5_traced_9 : decode cX5_traced 9 = .ok (.if_icmp .ge 18, 3) := by decide +kernel
theorem dX5_traced_12 : decode cX5_traced 12 = .ok (.iload_n 1, 1) := by decide +kernel
theorem dX5_traced_13 : decode cX5_traced 13 = .ok (.bipush 24, 2) := by decide +kernel
theorem dX5_traced_15 : decode cX5_traced 15 = .ok (.if_icmp .ge 12, 3) := by decide +kernel
theorem dX5_traced_18 : decode cX5_traced 18 = .ok (.aload_n 0, 1) := by decide +kernel
theorem dX5_traced_19 : decode cX5_traced 19 = .ok (.getfield 15, 3) := by decide +kernel
theorem dX5_traced_22 : decode cX5_traced 22 = .ok (.iload_n 1, 1) := by decide +kernel
theorem dX5_traced_23 : decode cX5_traced 23 = .ok (.iaload, 1) := by decide +kernel
theorem dX5_traced_24 : decode cX5_traced 24 = .ok (.goto 4, 3) := by decide +kernel
theorem dX5_traced_27 : decode cX5_traced 27 = .ok (.iconst (-1), 1) := by decide +kernel
theorem dX5_traced_28 : decode cX5_traced 28 = .ok (.ireturn, 1) := by decide +kernel
theorem dX5_begin_0 : decode cX5_begin 0 = .ok (.aload_n 0, 1) := by decide +kernel
theorem dX5_begin_1 : decode cX5_begin 1 = .ok (.iconst 0, 1) := by decide +kernel
theorem dX5_begin_2 : decode cX5_begin 2 = .ok (.putfield 29, 3) := by decide +kernel
theorem dX5_begin_5 : decode cX5_begin 5 = .ok (.aload_n 0, 1) := by decide +kernel
theorem dX5_begin_6 : decode cX5_begin 6 = .ok (.iload_n 1, 1) := by decide +kernel
theorem dX5_begin_7 : decode cX5_begin 7 = .ok (.invokevirtual 22, 3) := by decide +kernel
theorem dX5_begin_10 : decode cX5_begin 10 = .ok (.ifCond .eq 12, 3) := by decide +kernel
theorem dX5_begin_13 : decode cX5_begin 13 = .ok (.iload_n 2, 1) := by decide +kernel
theorem dX5_begin_14 : decode cX5_begin 14 = .ok (.ifCond .lt 8, 3) := by decide +kernel
theorem dX5_begin_17 : decode cX5_begin 17 = .ok (.iload_n 2, 1) := by decide +kernel
theorem dX5_begin_18 : decode cX5_begin 18 = .ok (.iconst 4, 1) := by decide +kernel
theorem dX5_begin_19 : decode cX5_begin 19 = .ok (.if_icmp .lt 5, 3) := by decide +kernel
theorem dX5_begin_22 : decode cX5_begin 22 = .ok (.iconst 0, 1) := by decide +kernel
theorem dX5_begin_23 : decode cX5_begin 23 = .ok (.ireturn, 1) := by decide +kernel
theorem dX5_begin_24 : decode cX5_begin 24 = .ok (.aload_n 0, 1) := by decide +kernel
theorem dX5_begin_25 : decode cX5_begin 25 = .ok (.iload_n 1, 1) := by decide +kernel
theorem dX5_begin_26 : decode cX5_begin 26 = .ok (.aload_n 0, 1) := by decide +kernel
theorem dX5_begin_27 : decode cX5_begin 27 = .ok (.getfield 11, 3) := by decide +kernel
theorem dX5_begin_30 : decode cX5_begin 30 = .ok (.iload_n 1, 1) := by decide +kernel
theorem dX5_begin_31 : decode cX5_begin 31 = .ok (.iaload, 1) := by decide +kernel
theorem dX5_begin_32 : decode cX5_begin 32 = .ok (.iload_n 2, 1) := by decide +kernel
theorem dX5_begin_33 : decode cX5_begin 33 = .ok (.iload_n 3, 1) := by decide +kernel
theorem dX5_begin_34 : decode cX5_begin 34 = .ok (.iconst 0, 1) := by decide +kernel
theorem dX5_begin_35 : decode cX5_begin 35 = .ok (.invokevirtual 32, 3) := by decide +kernel
theorem dX5_begin_38 : decode cX5_begin 38 = .ok (.ireturn, 1) := by decide +kernel
theorem dX5_run_0 : decode cX5_run 0 = .ok (.iload_n 2, 1) := by decide +kernel
theorem dX5_run_1 : decode cX5_run 1 = .ok (.iload_n 3, 1) := by decide +kernel
theorem dX5_run_2 : decode cX5_run 2 = .ok (.invokestatic 36, 3) := by decide +kernel
theorem dX5_run_5 : decode cX5_run 5 = .ok (.istore 6, 2) := by decide +kernel
theorem dX5_run_7 : decode cX5_run 7 = .ok (.iload 6, 2) := by decide +kernel
theorem dX5_run_9 : decode cX5_run 9 = .ok (.ifCond .lt 10, 3) := by decide +kernel
theorem dX5_run_12 : decode cX5_run 12 = .ok (.iload 5, 2) := by decide +kernel
theorem dX5_run_14 : decode cX5_run 14 = .ok (.bipush 40, 2) := by decide +kernel
theorem dX5_run_16 : decode cX5_run 16 = .ok (.if_icmp .le 5, 3) := by decide +kernel
theorem dX5_run_19 : decode cX5_run 19 = .ok (.iconst 0, 1) := by decide +kernel
theorem dX5_run_20 : decode cX5_run 20 = .ok (.ireturn, 1) := by decide +kernel
theorem dX5_run_21 : decode cX5_run 21 = .ok (.getstatic 40, 3) := by decide +kernel
theorem dX5_run_24 : decode cX5_run 24 = .ok (.iload 6, 2) := by decide +kernel
theorem dX5_run_26 : decode cX5_run 26 = .ok (.iconst 4, 1) := by decide +kernel
theorem dX5_run_27 : decode cX5_run 27 = .ok (.imul, 1) := by decide +kernel
theorem dX5_run_28 : decode cX5_run 28 = .ok (.iload_n 3, 1) := by decide +kernel
theorem dX5_run_29 : decode cX5_run 29 = .ok (.iadd, 1) := by decide +kernel
theorem dX5_run_30 : decode cX5_run 30 = .ok (.iaload, 1) := by decide +kernel
theorem dX5_run_31 : decode cX5_run 31 = .ok (.istore 7, 2) := by decide +kernel
theorem dX5_run_33 : decode cX5_run 33 = .ok (.aload_n 0, 1) := by decide +kernel
theorem dX5_run_34 : decode cX5_run 34 = .ok (.iload 7, 2) := by decide +kernel
theorem dX5_run_36 : decode cX5_run 36 = .ok (.invokevirtual 43, 3) := by decide +kernel
theorem dX5_run_39 : decode cX5_run 39 = .ok (.aload_n 0, 1) := by decide +kernel
theorem dX5_run_40 : decode cX5_run 40 = .ok (.getfield 11, 3) := by decide +kernel
theorem dX5_run_43 : decode cX5_run 43 = .ok (.iload_n 1, 1) := by decide +kernel
theorem dX5_run_44 : decode cX5_run 44 = .ok (.iaload, 1) := by decide +kernel
theorem dX5_run_45 : decode cX5_run 45 = .ok (.istore 8, 2) := by decide +kernel
theorem dX5_run_47 : decode cX5_run 47 = .ok (.getstatic 26, 3) := by decide +kernel
theorem dX5_run_50 : decode cX5_run 50 = .ok (.iload 6, 2) := by decide +kernel
theorem dX5_run_52 : decode cX5_run 52 = .ok (.iaload, 1) := by decide +kernel
theorem dX5_run_53 : decode cX5_run 53 = .ok (.istore 9, 2) := by decide +kernel
theorem dX5_run_55 : decode cX5_run 55 = .ok (.iload 5, 2) := by decide +kernel
theorem dX5_run_57 : decode cX5_run 57 = .ok (.iconst 1, 1) := by decide +kernel
theorem dX5_run_58 : decode cX5_run 58 = .ok (.iadd, 1) := by decide +kernel
theorem dX5_run_59 : decode cX5_run 59 = .ok (.istore 10, 2) := by decide +kernel
theorem dX5_run_61 : decode cX5_run 61 = .ok (.iload 7, 2) := by decide +kernel
theorem dX5_run_63 : decode cX5_run 63 = .ok (.lookupswitch 317 #[(1, 113), (2, 118), (10, 143), (11, 158), (20, 163), (30, 178), (40, 192), (41, 207), (50, 222), (60, 247), (70, 262), (80, 277), (81, 302)], 113) := by decide +kernel
theorem dX5_run_176 : decode cX5_run 176 = .ok (.iload 4, 2) := by decide +kernel
theorem dX5_run_178 : decode cX5_run 178 = .ok (.iload_n 1, 1) := by decide +kernel
theorem dX5_run_179 : decode cX5_run 179 = .ok (.iadd, 1) := by decide +kernel
theorem dX5_run_180 : decode cX5_run 180 = .ok (.ireturn, 1) := by decide +kernel
theorem dX5_run_181 : decode cX5_run 181 = .ok (.aload_n 0, 1) := by decide +kernel
theorem dX5_run_182 : decode cX5_run 182 = .ok (.iload_n 1, 1) := by decide +kernel
theorem dX5_run_183 : decode cX5_run 183 = .ok (.iload 8, 2) := by decide +kernel
theorem dX5_run_185 : decode cX5_run 185 = .ok (.iconst 1, 1) := by decide +kernel
theorem dX5_run_186 : decode cX5_run 186 = .ok (.iload 4, 2) := by decide +kernel
theorem dX5_run_188 : decode cX5_run 188 = .ok (.iload 10, 2) := by decide +kernel
theorem dX5_run_190 : decode cX5_run 190 = .ok (.invokevirtual 32, 3) := by decide +kernel
theorem dX5_run_193 : decode cX5_run 193 = .ok (.aload_n 0, 1) := by decide +kernel
theorem dX5_run_194 : decode cX5_run 194 = .ok (.iload_n 1, 1) := by decide +kernel
theorem dX5_run_195 : decode cX5_run 195 = .ok (.iload 8, 2) := by decide +kernel
theorem dX5_run_197 : decode cX5_run 197 = .ok (.iconst 2, 1) := by decide +kernel
theorem dX5_run_198 : decode cX5_run 198 = .ok (.iconst 1, 1) := by decide +kernel
theorem dX5_run_199 : decode cX5_run 199 = .ok (.iload 10, 2) := by decide +kernel
theorem dX5_run_201 : decode cX5_run 201 = .ok (.invokevirtual 32, 3) := by decide +kernel
theorem dX5_run_204 : decode cX5_run 204 = .ok (.isub, 1) := by decide +kernel
theorem dX5_run_205 : decode cX5_run 205 = .ok (.ireturn, 1) := by decide +kernel
theorem dX5_run_206 : decode cX5_run 206 = .ok (.aload_n 0, 1) := by decide +kernel
theorem dX5_run_207 : decode cX5_run 207 = .ok (.iload_n 1, 1) := by decide +kernel
theorem dX5_run_208 : decode cX5_run 208 = .ok (.iload 8, 2) := by decide +kernel
theorem dX5_run_210 : decode cX5_run 210 = .ok (.iconst 0, 1) := by decide +kernel
theorem dX5_run_211 : decode cX5_run 211 = .ok (.iload 4, 2) := by decide +kernel
theorem dX5_run_213 : decode cX5_run 213 = .ok (.iload 10, 2) := by decide +kernel
theorem dX5_run_215 : decode cX5_run 215 = .ok (.invokevirtual 32, 3) := by decide +kernel
theorem dX5_run_218 : decode cX5_run 218 = .ok (.iconst 2, 1) := by decide +kernel
theorem dX5_run_219 : decode cX5_run 219 = .ok (.imul, 1) := by decide +kernel
theorem dX5_run_220 : decode cX5_run 220 = .ok (.ireturn, 1) := by decide +kernel
theorem dX5_run_221 : decode cX5_run 221 = .ok (.iload 4, 2) := by decide +kernel
theorem dX5_run_223 : decode cX5_run 223 = .ok (.iload_n 1, 1) := by decide +kernel
theorem dX5_run_224 : decode cX5_run 224 = .ok (.ixor, 1) := by decide +kernel
theorem dX5_run_225 : decode cX5_run 225 = .ok (.ireturn, 1) := by decide +kernel
theorem dX5_run_226 : decode cX5_run 226 = .ok (.aload_n 0, 1) := by decide +kernel
theorem dX5_run_227 : decode cX5_run 227 = .ok (.iload_n 1, 1) := by decide +kernel
theorem dX5_run_228 : decode cX5_run 228 = .ok (.iload 9, 2) := by decide +kernel
theorem dX5_run_230 : decode cX5_run 230 = .ok (.iconst 0, 1) := by decide +kernel
theorem dX5_run_231 : decode cX5_run 231 = .ok (.iload 4, 2) := by decide +kernel
theorem dX5_run_233 : decode cX5_run 233 = .ok (.iload 10, 2) := by decide +kernel
theorem dX5_run_235 : decode cX5_run 235 = .ok (.invokevirtual 32, 3) := by decide +kernel
theorem dX5_run_238 : decode cX5_run 238 = .ok (.iconst 3, 1) := by decide +kernel
theorem dX5_run_239 : decode cX5_run 239 = .ok (.iadd, 1) := by decide +kernel
theorem dX5_run_240 : decode cX5_run 240 = .ok (.ireturn, 1) := by decide +kernel
theorem dX5_run_241 : decode cX5_run 241 = .ok (.aload_n 0, 1) := by decide +kernel
theorem dX5_run_242 : decode cX5_run 242 = .ok (.iload_n 1, 1) := by decide +kernel
theorem dX5_run_243 : decode cX5_run 243 = .ok (.iload 9, 2) := by decide +kernel
theorem dX5_run_245 : decode cX5_run 245 = .ok (.iconst 1, 1) := by decide +kernel
theorem dX5_run_246 : decode cX5_run 246 = .ok (.iload 4, 2) := by decide +kernel
theorem dX5_run_248 : decode cX5_run 248 = .ok (.iload 10, 2) := by decide +kernel
theorem dX5_run_250 : decode cX5_run 250 = .ok (.invokevirtual 32, 3) := by decide +kernel
theorem dX5_run_253 : decode cX5_run 253 = .ok (.ineg, 1) := by decide +kernel
theorem dX5_run_254 : decode cX5_run 254 = .ok (.ireturn, 1) := by decide +kernel
theorem dX5_run_255 : decode cX5_run 255 = .ok (.aload_n 0, 1) := by decide +kernel
theorem dX5_run_256 : decode cX5_run 256 = .ok (.iload_n 1, 1) := by decide +kernel
theorem dX5_run_257 : decode cX5_run 257 = .ok (.iload 9, 2) := by decide +kernel
theorem dX5_run_259 : decode cX5_run 259 = .ok (.iconst 2, 1) := by decide +kernel
theorem dX5_run_260 : decode cX5_run 260 = .ok (.iload 4, 2) := by decide +kernel
theorem dX5_run_262 : decode cX5_run 262 = .ok (.iload 10, 2) := by decide +kernel
theorem dX5_run_264 : decode cX5_run 264 = .ok (.invokevirtual 32, 3) := by decide +kernel
theorem dX5_run_267 : decode cX5_run 267 = .ok (.iconst 3, 1) := by decide +kernel
theorem dX5_run_268 : decode cX5_run 268 = .ok (.imul, 1) := by decide +kernel
theorem dX5_run_269 : decode cX5_run 269 = .ok (.ireturn, 1) := by decide +kernel
theorem dX5_run_270 : decode cX5_run 270 = .ok (.aload_n 0, 1) := by decide +kernel
theorem dX5_run_271 : decode cX5_run 271 = .ok (.iload_n 1, 1) := by decide +kernel
theorem dX5_run_272 : decode cX5_run 272 = .ok (.iload 9, 2) := by decide +kernel
theorem dX5_run_274 : decode cX5_run 274 = .ok (.iconst 1, 1) := by decide +kernel
theorem dX5_run_275 : decode cX5_run 275 = .ok (.iload 4, 2) := by decide +kernel
theorem dX5_run_277 : decode cX5_run 277 = .ok (.iconst 1, 1) := by decide +kernel
theorem dX5_run_278 : decode cX5_run 278 = .ok (.iadd, 1) := by decide +kernel
theorem dX5_run_279 : decode cX5_run 279 = .ok (.iload 10, 2) := by decide +kernel
theorem dX5_run_281 : decode cX5_run 281 = .ok (.invokevirtual 32, 3) := by decide +kernel
theorem dX5_run_284 : decode cX5_run 284 = .ok (.ireturn, 1) := by decide +kernel
theorem dX5_run_285 : decode cX5_run 285 = .ok (.aload_n 0, 1) := by decide +kernel
theorem dX5_run_286 : decode cX5_run 286 = .ok (.iload_n 1, 1) := by decide +kernel
theorem dX5_run_287 : decode cX5_run 287 = .ok (.iload 9, 2) := by decide +kernel
theorem dX5_run_289 : decode cX5_run 289 = .ok (.iconst 2, 1) := by decide +kernel
theorem dX5_run_290 : decode cX5_run 290 = .ok (.iload 4, 2) := by decide +kernel
theorem dX5_run_292 : decode cX5_run 292 = .ok (.iload 10, 2) := by decide +kernel
theorem dX5_run_294 : decode cX5_run 294 = .ok (.invokevirtual 32, 3) := by decide +kernel
theorem dX5_run_297 : decode cX5_run 297 = .ok (.aload_n 0, 1) := by decide +kernel
theorem dX5_run_298 : decode cX5_run 298 = .ok (.iload_n 1, 1) := by decide +kernel
theorem dX5_run_299 : decode cX5_run 299 = .ok (.iload 8, 2) := by decide +kernel
theorem dX5_run_301 : decode cX5_run 301 = .ok (.iconst 0, 1) := by decide +kernel
theorem dX5_run_302 : decode cX5_run 302 = .ok (.iconst 2, 1) := by decide +kernel
theorem dX5_run_303 : decode cX5_run 303 = .ok (.iload 10, 2) := by decide +kernel
theorem dX5_run_305 : decode cX5_run 305 = .ok (.invokevirtual 32, 3) := by decide +kernel
theorem dX5_run_308 : decode cX5_run 308 = .ok (.isub, 1) := by decide +kernel
theorem dX5_run_309 : decode cX5_run 309 = .ok (.ireturn, 1) := by decide +kernel
theorem dX5_run_310 : decode cX5_run 310 = .ok (.aload_n 0, 1) := by decide +kernel
theorem dX5_run_311 : decode cX5_run 311 = .ok (.iload_n 1, 1) := by decide +kernel
theorem dX5_run_312 : decode cX5_run 312 = .ok (.iload 9, 2) := by decide +kernel
theorem dX5_run_314 : decode cX5_run 314 = .ok (.iconst 3, 1) := by decide +kernel
theorem dX5_run_315 : decode cX5_run 315 = .ok (.iload 4, 2) := by decide +kernel
theorem dX5_run_317 : decode cX5_run 317 = .ok (.iload 10, 2) := by decide +kernel
theorem dX5_run_319 : decode cX5_run 319 = .ok (.invokevirtual 32, 3) := by decide +kernel
theorem dX5_run_322 : decode cX5_run 322 = .ok (.iconst 5, 1) := by decide +kernel
theorem dX5_run_323 : decode cX5_run 323 = .ok (.ixor, 1) := by decide +kernel
theorem dX5_run_324 : decode cX5_run 324 = .ok (.ireturn, 1) := by decide +kernel
theorem dX5_run_325 : decode cX5_run 325 = .ok (.aload_n 0, 1) := by decide +kernel
theorem dX5_run_326 : decode cX5_run 326 = .ok (.iload_n 1, 1) := by decide +kernel
theorem dX5_run_327 : decode cX5_run 327 = .ok (.iload 9, 2) := by decide +kernel
theorem dX5_run_329 : decode cX5_run 329 = .ok (.iconst 0, 1) := by decide +kernel
theorem dX5_run_330 : decode cX5_run 330 = .ok (.iload 4, 2) := by decide +kernel
theorem dX5_run_332 : decode cX5_run 332 = .ok (.iload 10, 2) := by decide +kernel
theorem dX5_run_334 : decode cX5_run 334 = .ok (.invokevirtual 32, 3) := by decide +kernel
theorem dX5_run_337 : decode cX5_run 337 = .ok (.iconst 2, 1) := by decide +kernel
theorem dX5_run_338 : decode cX5_run 338 = .ok (.imul, 1) := by decide +kernel
theorem dX5_run_339 : decode cX5_run 339 = .ok (.ireturn, 1) := by decide +kernel
theorem dX5_run_340 : decode cX5_run 340 = .ok (.aload_n 0, 1) := by decide +kernel
theorem dX5_run_341 : decode cX5_run 341 = .ok (.iload_n 1, 1) := by decide +kernel
theorem dX5_run_342 : decode cX5_run 342 = .ok (.iload 9, 2) := by decide +kernel
theorem dX5_run_344 : decode cX5_run 344 = .ok (.iconst 1, 1) := by decide +kernel
theorem dX5_run_345 : decode cX5_run 345 = .ok (.iload 4, 2) := by decide +kernel
theorem dX5_run_347 : decode cX5_run 347 = .ok (.iload 10, 2) := by decide +kernel
theorem dX5_run_349 : decode cX5_run 349 = .ok (.invokevirtual 32, 3) := by decide +kernel
theorem dX5_run_352 : decode cX5_run 352 = .ok (.aload_n 0, 1) := by decide +kernel
theorem dX5_run_353 : decode cX5_run 353 = .ok (.iload_n 1, 1) := by decide +kernel
theorem dX5_run_354 : decode cX5_run 354 = .ok (.iload 8, 2) := by decide +kernel
theorem dX5_run_356 : decode cX5_run 356 = .ok (.iconst 2, 1) := by decide +kernel
theorem dX5_run_357 : decode cX5_run 357 = .ok (.iconst 2, 1) := by decide +kernel
theorem dX5_run_358 : decode cX5_run 358 = .ok (.iload 10, 2) := by decide +kernel
theorem dX5_run_360 : decode cX5_run 360 = .ok (.invokevirtual 32, 3) := by decide +kernel
theorem dX5_run_363 : decode cX5_run 363 = .ok (.iadd, 1) := by decide +kernel
theorem dX5_run_364 : decode cX5_run 364 = .ok (.ireturn, 1) := by decide +kernel
theorem dX5_run_365 : decode cX5_run 365 = .ok (.aload_n 0, 1) := by decide +kernel
theorem dX5_run_366 : decode cX5_run 366 = .ok (.iload_n 1, 1) := by decide +kernel
theorem dX5_run_367 : decode cX5_run 367 = .ok (.iload 9, 2) := by decide +kernel
theorem dX5_run_369 : decode cX5_run 369 = .ok (.iconst 3, 1) := by decide +kernel
theorem dX5_run_370 : decode cX5_run 370 = .ok (.iload 4, 2) := by decide +kernel
theorem dX5_run_372 : decode cX5_run 372 = .ok (.iload 10, 2) := by decide +kernel
theorem dX5_run_374 : decode cX5_run 374 = .ok (.invokevirtual 32, 3) := by decide +kernel
theorem dX5_run_377 : decode cX5_run 377 = .ok (.iconst 1, 1) := by decide +kernel
theorem dX5_run_378 : decode cX5_run 378 = .ok (.isub, 1) := by decide +kernel
theorem dX5_run_379 : decode cX5_run 379 = .ok (.ireturn, 1) := by decide +kernel
theorem dX5_run_380 : decode cX5_run 380 = .ok (.iconst 0, 1) := by decide +kernel
theorem dX5_run_381 : decode cX5_run 381 = .ok (.ireturn, 1) := by decide +kernel
theorem dX5_ownerOf_0 : decode cX5_ownerOf 0 = .ok (.iload_n 0, 1) := by decide +kernel
theorem dX5_ownerOf_1 : decode cX5_ownerOf 1 = .ok (.istore_n 2, 1) := by decide +kernel
theorem dX5_ownerOf_2 : decode cX5_ownerOf 2 = .ok (.iconst 0, 1) := by decide +kernel
theorem dX5_ownerOf_3 : decode cX5_ownerOf 3 = .ok (.istore_n 3, 1) := by decide +kernel
theorem dX5_ownerOf_4 : decode cX5_ownerOf 4 = .ok (.iload_n 3, 1) := by decide +kernel
theorem dX5_ownerOf_5 : decode cX5_ownerOf 5 = .ok (.bipush 8, 2) := by decide +kernel
theorem dX5_ownerOf_7 : decode cX5_ownerOf 7 = .ok (.if_icmp .ge 39, 3) := by decide +kernel
theorem dX5_ownerOf_10 : decode cX5_ownerOf 10 = .ok (.iload_n 2, 1) := by decide +kernel
theorem dX5_ownerOf_11 : decode cX5_ownerOf 11 = .ok (.ifCond .lt 35, 3) := by decide +kernel
theorem dX5_ownerOf_14 : decode cX5_ownerOf 14 = .ok (.iload_n 2, 1) := by decide +kernel
theorem dX5_ownerOf_15 : decode cX5_ownerOf 15 = .ok (.bipush 8, 2) := by decide +kernel
theorem dX5_ownerOf_17 : decode cX5_ownerOf 17 = .ok (.if_icmp .ge 29, 3) := by decide +kernel
theorem dX5_ownerOf_20 : decode cX5_ownerOf 20 = .ok (.getstatic 40, 3) := by decide +kernel
theorem dX5_ownerOf_23 : decode cX5_ownerOf 23 = .ok (.iload_n 2, 1) := by decide +kernel
theorem dX5_ownerOf_24 : decode cX5_ownerOf 24 = .ok (.iconst 4, 1) := by decide +kernel
theorem dX5_ownerOf_25 : decode cX5_ownerOf 25 = .ok (.imul, 1) := by decide +kernel
theorem dX5_ownerOf_26 : decode cX5_ownerOf 26 = .ok (.iload_n 1, 1) := by decide +kernel
theorem dX5_ownerOf_27 : decode cX5_ownerOf 27 = .ok (.iadd, 1) := by decide +kernel
theorem dX5_ownerOf_28 : decode cX5_ownerOf 28 = .ok (.iaload, 1) := by decide +kernel
theorem dX5_ownerOf_29 : decode cX5_ownerOf 29 = .ok (.ifCond .eq 5, 3) := by decide +kernel
theorem dX5_ownerOf_32 : decode cX5_ownerOf 32 = .ok (.iload_n 2, 1) := by decide +kernel
theorem dX5_ownerOf_33 : decode cX5_ownerOf 33 = .ok (.ireturn, 1) := by decide +kernel
theorem dX5_ownerOf_34 : decode cX5_ownerOf 34 = .ok (.getstatic 26, 3) := by decide +kernel
theorem dX5_ownerOf_37 : decode cX5_ownerOf 37 = .ok (.iload_n 2, 1) := by decide +kernel
theorem dX5_ownerOf_38 : decode cX5_ownerOf 38 = .ok (.iaload, 1) := by decide +kernel
theorem dX5_ownerOf_39 : decode cX5_ownerOf 39 = .ok (.istore_n 2, 1) := by decide +kernel
theorem dX5_ownerOf_40 : decode cX5_ownerOf 40 = .ok (.iinc 3 1, 3) := by decide +kernel
theorem dX5_ownerOf_43 : decode cX5_ownerOf 43 = .ok (.goto (-39), 3) := by decide +kernel
theorem dX5_ownerOf_46 : decode cX5_ownerOf 46 = .ok (.iconst (-1), 1) := by decide +kernel
theorem dX5_ownerOf_47 : decode cX5_ownerOf 47 = .ok (.ireturn, 1) := by decide +kernel
theorem dX5_note_0 : decode cX5_note 0 = .ok (.aload_n 0, 1) := by decide +kernel
theorem dX5_note_1 : decode cX5_note 1 = .ok (.getfield 29, 3) := by decide +kernel
theorem dX5_note_4 : decode cX5_note 4 = .ok (.bipush 24, 2) := by decide +kernel
theorem dX5_note_6 : decode cX5_note 6 = .ok (.if_icmp .ge 13, 3) := by decide +kernel
theorem dX5_note_9 : decode cX5_note 9 = .ok (.aload_n 0, 1) := by decide +kernel
theorem dX5_note_10 : decode cX5_note 10 = .ok (.getfield 15, 3) := by decide +kernel
theorem dX5_note_13 : decode cX5_note 13 = .ok (.aload_n 0, 1) := by decide +kernel
theorem dX5_note_14 : decode cX5_note 14 = .ok (.getfield 29, 3) := by decide +kernel
theorem dX5_note_17 : decode cX5_note 17 = .ok (.iload_n 1, 1) := by decide +kernel
theorem dX5_note_18 : decode cX5_note 18 = .ok (.iastore, 1) := by decide +kernel
theorem dX5_note_19 : decode cX5_note 19 = .ok (.aload_n 0, 1) := by decide +kernel
theorem dX5_note_20 : decode cX5_note 20 = .ok (.dup, 1) := by decide +kernel
theorem dX5_note_21 : decode cX5_note 21 = .ok (.getfield 29, 3) := by decide +kernel
theorem dX5_note_24 : decode cX5_note 24 = .ok (.iconst 1, 1) := by decide +kernel
theorem dX5_note_25 : decode cX5_note 25 = .ok (.iadd, 1) := by decide +kernel
theorem dX5_note_26 : decode cX5_note 26 = .ok (.putfield 29, 3) := by decide +kernel
theorem dX5_note_29 : decode cX5_note 29 = .ok (.return_, 1) := by decide +kernel
theorem dX6_init_0 : decode cX6_init 0 = .ok (.aload_n 0, 1) := by decide +kernel
theorem dX6_init_1 : decode cX6_init 1 = .ok (.invokespecial 1, 3) := by decide +kernel
theorem dX6_init_4 : decode cX6_init 4 = .ok (.aload_n 0, 1) := by decide +kernel
theorem dX6_init_5 : decode cX6_init 5 = .ok (.bipush 120, 2) := by decide +kernel
theorem dX6_init_7 : decode cX6_init 7 = .ok (.newarray .int, 2) := by decide +kernel
theorem dX6_init_9 : decode cX6_init 9 = .ok (.putfield 9, 3) := by decide +kernel
theorem dX6_init_12 : decode cX6_init 12 = .ok (.aload_n 0, 1) := by decide +kernel
theorem dX6_init_13 : decode cX6_init 13 = .ok (.new 13, 3) := by decide +kernel
theorem dX6_init_16 : decode cX6_init 16 = .ok (.dup, 1) := by decide +kernel
theorem dX6_init_17 : decode cX6_init 17 = .ok (.invokespecial 15, 3) := by decide +kernel
theorem dX6_init_20 : decode cX6_init 20 = .ok (.putfield 16, 3) := by decide +kernel
theorem dX6_init_23 : decode cX6_init 23 = .ok (.return_, 1) := by decide +kernel
theorem dX6_add_0 : decode cX6_add 0 = .ok (.aload_n 0, 1) := by decide +kernel
theorem dX6_add_1 : decode cX6_add 1 = .ok (.getfield 20, 3) := by decide +kernel
theorem dX6_add_4 : decode cX6_add 4 = .ok (.bipush 120, 2) := by decide +kernel
theorem dX6_add_6 : decode cX6_add 6 = .ok (.if_icmp .lt 5, 3) := by decide +kernel
theorem dX6_add_9 : decode cX6_add 9 = .ok (.iconst 0, 1) := by decide +kernel
theorem dX6_add_10 : decode cX6_add 10 = .ok (.ireturn, 1) := by decide +kernel
theorem dX6_add_11 : decode cX6_add 11 = .ok (.aload_n 0, 1) := by decide +kernel
theorem dX6_add_12 : decode cX6_add 12 = .ok (.getfield 9, 3) := by decide +kernel
theorem dX6_add_15 : decode cX6_add 15 = .ok (.aload_n 0, 1) := by decide +kernel
theorem dX6_add_16 : decode cX6_add 16 = .ok (.getfield 20, 3) := by decide +kernel
theorem dX6_add_19 : decode cX6_add 19 = .ok (.iload_n 1, 1) := by decide +kernel
theorem dX6_add_20 : decode cX6_add 20 = .ok (.iastore, 1) := by decide +kernel
theorem dX6_add_21 : decode cX6_add 21 = .ok (.aload_n 0, 1) := by decide +kernel
theorem dX6_add_22 : decode cX6_add 22 = .ok (.dup, 1) := by decide +kernel
theorem dX6_add_23 : decode cX6_add 23 = .ok (.getfield 20, 3) := by decide +kernel
theorem dX6_add_26 : decode cX6_add 26 = .ok (.iconst 1, 1) := by decide +kernel
theorem dX6_add_27 : decode cX6_add 27 = .ok (.iadd, 1) := by decide +kernel
theorem dX6_add_28 : decode cX6_add 28 = .ok (.putfield 20, 3) := by decide +kernel
theorem dX6_add_31 : decode cX6_add 31 = .ok (.iconst 1, 1) := by decide +kernel
theorem dX6_add_32 : decode cX6_add 32 = .ok (.ireturn, 1) := by decide +kernel
theorem dX6_read_0 : decode cX6_read 0 = .ok (.aload_n 0, 1) := by decide +kernel
theorem dX6_read_1 : decode cX6_read 1 = .ok (.iconst 0, 1) := by decide +kernel
theorem dX6_read_2 : decode cX6_read 2 = .ok (.putfield 24, 3) := by decide +kernel
theorem dX6_read_5 : decode cX6_read 5 = .ok (.aload_n 0, 1) := by decide +kernel
theorem dX6_read_6 : decode cX6_read 6 = .ok (.getfield 16, 3) := by decide +kernel
theorem dX6_read_9 : decode cX6_read 9 = .ok (.invokevirtual 27, 3) := by decide +kernel
theorem dX6_read_12 : decode cX6_read 12 = .ok (.iconst 0, 1) := by decide +kernel
theorem dX6_read_13 : decode cX6_read 13 = .ok (.istore_n 1, 1) := by decide +kernel
theorem dX6_read_14 : decode cX6_read 14 = .ok (.iload_n 1, 1) := by decide +kernel
theorem dX6_read_15 : decode cX6_read 15 = .ok (.bipush 120, 2) := by decide +kernel
theorem dX6_read_17 : decode cX6_read 17 = .ok (.if_icmp .gt 48, 3) := by decide +kernel
theorem dX6_read_20 : decode cX6_read 20 = .ok (.aload_n 0, 1) := by decide +kernel
theorem dX6_read_21 : decode cX6_read 21 = .ok (.invokevirtual 30, 3) := by decide +kernel
theorem dX6_read_24 : decode cX6_read 24 = .ok (.ifCond .ne 8, 3) := by decide +kernel
theorem dX6_read_27 : decode cX6_read 27 = .ok (.aload_n 0, 1) := by decide +kernel
theorem dX6_read_28 : decode cX6_read 28 = .ok (.getfield 24, 3) := by decide +kernel
theorem dX6_read_31 : decode cX6_read 31 = .ok (.ireturn, 1) := by decide +kernel
theorem dX6_read_32 : decode cX6_read 32 = .ok (.aload_n 0, 1) := by decide +kernel
theorem dX6_read_33 : decode cX6_read 33 = .ok (.getfield 24, 3) := by decide +kernel
theorem dX6_read_36 : decode cX6_read 36 = .ok (.aload_n 0, 1) := by decide +kernel
theorem dX6_read_37 : decode cX6_read 37 = .ok (.getfield 20, 3) := by decide +kernel
theorem dX6_read_40 : decode cX6_read 40 = .ok (.if_icmp .lt 5, 3) := by decide +kernel
theorem dX6_read_43 : decode cX6_read 43 = .ok (.iconst (-1), 1) := by decide +kernel
theorem dX6_read_44 : decode cX6_read 44 = .ok (.ireturn, 1) := by decide +kernel
theorem dX6_read_45 : decode cX6_read 45 = .ok (.aload_n 0, 1) := by decide +kernel
theorem dX6_read_46 : decode cX6_read 46 = .ok (.bipush 59, 2) := by decide +kernel
theorem dX6_read_48 : decode cX6_read 48 = .ok (.invokevirtual 34, 3) := by decide +kernel
theorem dX6_read_51 : decode cX6_read 51 = .ok (.ifCond .ne 8, 3) := by decide +kernel
theorem dX6_read_54 : decode cX6_read 54 = .ok (.aload_n 0, 1) := by decide +kernel
theorem dX6_read_55 : decode cX6_read 55 = .ok (.getfield 24, 3) := by decide +kernel
theorem dX6_read_58 : decode cX6_read 58 = .ok (.ireturn, 1) := by decide +kernel
theorem dX6_read_59 : decode cX6_read 59 = .ok (.iinc 1 1, 3) := by decide +kernel
theorem dX6_read_62 : decode cX6_read 62 = .ok (.goto (-48), 3) := by decide +kernel
theorem dX6_read_65 : decode cX6_read 65 = .ok (.aload_n 0, 1) := by decide +kernel
theorem dX6_read_66 : decode cX6_read 66 = .ok (.getfield 24, 3) := by decide +kernel
theorem dX6_read_69 : decode cX6_read 69 = .ok (.ireturn, 1) := by decide +kernel
theorem dX6_next_0 : decode cX6_next 0 = .ok (.aload_n 0, 1) := by decide +kernel
theorem dX6_next_1 : decode cX6_next 1 = .ok (.getfield 24, 3) := by decide +kernel
theorem dX6_next_4 : decode cX6_next 4 = .ok (.aload_n 0, 1) := by decide +kernel
theorem dX6_next_5 : decode cX6_next 5 = .ok (.getfield 20, 3) := by decide +kernel
theorem dX6_next_8 : decode cX6_next 8 = .ok (.if_icmp .ge 15, 3) := by decide +kernel
theorem dX6_next_11 : decode cX6_next 11 = .ok (.aload_n 0, 1) := by decide +kernel
theorem dX6_next_12 : decode cX6_next 12 = .ok (.getfield 9, 3) := by decide +kernel
theorem dX6_next_15 : decode cX6_next 15 = .ok (.aload_n 0, 1) := by decide +kernel
theorem dX6_next_16 : decode cX6_next 16 = .ok (.getfield 24, 3) := by decide +kernel
theorem dX6_next_19 : decode cX6_next 19 = .ok (.iaload, 1) := by decide +kernel
theorem dX6_next_20 : decode cX6_next 20 = .ok (.goto 4, 3) := by decide +kernel
theorem dX6_next_23 : decode cX6_next 23 = .ok (.iconst (-1), 1) := by decide +kernel
theorem dX6_next_24 : decode cX6_next 24 = .ok (.ireturn, 1) := by decide +kernel
theorem dX6_passes_0 : decode cX6_passes 0 = .ok (.aload_n 0, 1) := by decide +kernel
theorem dX6_passes_1 : decode cX6_passes 1 = .ok (.invokevirtual 38, 3) := by decide +kernel
theorem dX6_passes_4 : decode cX6_passes 4 = .ok (.iload_n 1, 1) := by decide +kernel
theorem dX6_passes_5 : decode cX6_passes 5 = .ok (.if_icmp .eq 5, 3) := by decide +kernel
theorem dX6_passes_8 : decode cX6_passes 8 = .ok (.iconst 0, 1) := by decide +kernel
theorem dX6_passes_9 : decode cX6_passes 9 = .ok (.ireturn, 1) := by decide +kernel
theorem dX6_passes_10 : decode cX6_passes 10 = .ok (.aload_n 0, 1) := by decide +kernel
theorem dX6_passes_11 : decode cX6_passes 11 = .ok (.dup, 1) := by decide +kernel
theorem dX6_passes_12 : decode cX6_passes 12 = .ok (.getfield 24, 3) := by decide +kernel
theorem dX6_passes_15 : decode cX6_passes 15 = .ok (.iconst 1, 1) := by decide +kernel
theorem dX6_passes_16 : decode cX6_passes 16 = .ok (.iadd, 1) := by decide +kernel
theorem dX6_passes_17 : decode cX6_passes 17 = .ok (.putfield 24, 3) := by decide +kernel
theorem dX6_passes_20 : decode cX6_passes 20 = .ok (.iconst 1, 1) := by decide +kernel
theorem dX6_passes_21 : decode cX6_passes 21 = .ok (.ireturn, 1) := by decide +kernel
theorem dX6_readLine_0 : decode cX6_readLine 0 = .ok (.aload_n 0, 1) := by decide +kernel
theorem dX6_readLine_1 : decode cX6_readLine 1 = .ok (.iconst 0, 1) := by decide +kernel
theorem dX6_readLine_2 : decode cX6_readLine 2 = .ok (.iconst 0, 1) := by decide +kernel
theorem dX6_readLine_3 : decode cX6_readLine 3 = .ok (.invokevirtual 42, 3) := by decide +kernel
theorem dX6_readLine_6 : decode cX6_readLine 6 = .ok (.ifCond .ne 5, 3) := by decide +kernel
theorem dX6_readLine_9 : decode cX6_readLine 9 = .ok (.iconst 0, 1) := by decide +kernel
theorem dX6_readLine_10 : decode cX6_readLine 10 = .ok (.ireturn, 1) := by decide +kernel
theorem dX6_readLine_11 : decode cX6_readLine 11 = .ok (.aload_n 0, 1) := by decide +kernel
theorem dX6_readLine_12 : decode cX6_readLine 12 = .ok (.bipush 63, 2) := by decide +kernel
theorem dX6_readLine_14 : decode cX6_readLine 14 = .ok (.invokevirtual 34, 3) := by decide +kernel
theorem dX6_readLine_17 : decode cX6_readLine 17 = .ok (.ifCond .ne 13, 3) := by decide +kernel
theorem dX6_readLine_20 : decode cX6_readLine 20 = .ok (.aload_n 0, 1) := by decide +kernel
theorem dX6_readLine_21 : decode cX6_readLine 21 = .ok (.getfield 16, 3) := by decide +kernel
theorem dX6_readLine_24 : decode cX6_readLine 24 = .ok (.iconst 0, 1) := by decide +kernel
theorem dX6_readLine_25 : decode cX6_readLine 25 = .ok (.invokevirtual 46, 3) := by decide +kernel
theorem dX6_readLine_28 : decode cX6_readLine 28 = .ok (.iconst 1, 1) := by decide +kernel
theorem dX6_readLine_29 : decode cX6_readLine 29 = .ok (.ireturn, 1) := by decide +kernel
theorem dX6_readLine_30 : decode cX6_readLine 30 = .ok (.aload_n 0, 1) := by decide +kernel
theorem dX6_readLine_31 : decode cX6_readLine 31 = .ok (.getfield 16, 3) := by decide +kernel
theorem dX6_readLine_34 : decode cX6_readLine 34 = .ok (.iconst 1, 1) := by decide +kernel
theorem dX6_readLine_35 : decode cX6_readLine 35 = .ok (.invokevirtual 46, 3) := by decide +kernel
theorem dX6_readLine_38 : decode cX6_readLine 38 = .ok (.aload_n 0, 1) := by decide +kernel
theorem dX6_readLine_39 : decode cX6_readLine 39 = .ok (.iconst 0, 1) := by decide +kernel
theorem dX6_readLine_40 : decode cX6_readLine 40 = .ok (.iconst 0, 1) := by decide +kernel
theorem dX6_readLine_41 : decode cX6_readLine 41 = .ok (.invokevirtual 42, 3) := by decide +kernel
theorem dX6_readLine_44 : decode cX6_readLine 44 = .ok (.ifCond .ne 5, 3) := by decide +kernel
theorem dX6_readLine_47 : decode cX6_readLine 47 = .ok (.iconst 0, 1) := by decide +kernel
theorem dX6_readLine_48 : decode cX6_readLine 48 = .ok (.ireturn, 1) := by decide +kernel
theorem dX6_readLine_49 : decode cX6_readLine 49 = .ok (.aload_n 0, 1) := by decide +kernel
theorem dX6_readLine_50 : decode cX6_readLine 50 = .ok (.getfield 16, 3) := by decide +kernel
theorem dX6_readLine_53 : decode cX6_readLine 53 = .ok (.iconst 0, 1) := by decide +kernel
theorem dX6_readLine_54 : decode cX6_readLine 54 = .ok (.invokevirtual 46, 3) := by decide +kernel
theorem dX6_readLine_57 : decode cX6_readLine 57 = .ok (.iconst 1, 1) := by decide +kernel
theorem dX6_readLine_58 : decode cX6_readLine 58 = .ok (.ireturn, 1) := by decide +kernel
theorem dX6_readJoined_0 : decode cX6_readJoined 0 = .ok (.iload_n 1, 1) := by decide +kernel
theorem dX6_readJoined_1 : decode cX6_readJoined 1 = .ok (.iconst 5, 1) := by decide +kernel
theorem dX6_readJoined_2 : decode cX6_readJoined 2 = .ok (.if_icmp .lt 9, 3) := by decide +kernel
theorem dX6_readJoined_5 : decode cX6_readJoined 5 = .ok (.aload_n 0, 1) := by decide +kernel
theorem dX6_readJoined_6 : decode cX6_readJoined 6 = .ok (.iload_n 2, 1) := by decide +kernel
theorem dX6_readJoined_7 : decode cX6_readJoined 7 = .ok (.invokevirtual 50, 3) := by decide +kernel
theorem dX6_readJoined_10 : decode cX6_readJoined 10 = .ok (.ireturn, 1) := by decide +kernel
theorem dX6_readJoined_11 : decode cX6_readJoined 11 = .ok (.aload_n 0, 1) := by decide +kernel
theorem dX6_readJoined_12 : decode cX6_readJoined 12 = .ok (.iload_n 1, 1) := by decide +kernel
theorem dX6_readJoined_13 : decode cX6_readJoined 13 = .ok (.iconst 1, 1) := by decide +kernel
theorem dX6_readJoined_14 : decode cX6_readJoined 14 = .ok (.iadd, 1) := by decide +kernel
theorem dX6_readJoined_15 : decode cX6_readJoined 15 = .ok (.iload_n 2, 1) := by decide +kernel
theorem dX6_readJoined_16 : decode cX6_readJoined 16 = .ok (.invokevirtual 42, 3) := by decide +kernel
theorem dX6_readJoined_19 : decode cX6_readJoined 19 = .ok (.istore_n 3, 1) := by decide +kernel
theorem dX6_readJoined_20 : decode cX6_readJoined 20 = .ok (.iload_n 1, 1) := by decide +kernel
theorem dX6_readJoined_21 : decode cX6_readJoined 21 = .ok (.iconst 2, 1) := by decide +kernel
theorem dX6_readJoined_22 : decode cX6_readJoined 22 = .ok (.if_icmp .ne 7, 3) := by decide +kernel
theorem dX6_readJoined_25 : decode cX6_readJoined 25 = .ok (.iconst 1, 1) := by decide +kernel
theorem dX6_readJoined_26 : decode cX6_readJoined 26 = .ok (.goto 5, 3) := by decide +kernel
theorem dX6_readJoined_29 : decode cX6_readJoined 29 = .ok (.bipush 120, 2) := by decide +kernel
theorem dX6_readJoined_31 : decode cX6_readJoined 31 = .ok (.istore 4, 2) := by decide +kernel
theorem dX6_readJoined_33 : decode cX6_readJoined 33 = .ok (.iconst 0, 1) := by decide +kernel
theorem dX6_readJoined_34 : decode cX6_readJoined 34 = .ok (.istore 5, 2) := by decide +kernel
theorem dX6_readJoined_36 : decode cX6_readJoined 36 = .ok (.iload 5, 2) := by decide +kernel
theorem dX6_readJoined_38 : decode cX6_readJoined 38 = .ok (.iload 4, 2) := by decide +kernel
theorem dX6_readJoined_40 : decode cX6_readJoined 40 = .ok (.if_icmp .ge 58, 3) := by decide +kernel
theorem dX6_readJoined_43 : decode cX6_readJoined 43 = .ok (.iload_n 3, 1) := by decide +kernel
theorem dX6_readJoined_44 : decode cX6_readJoined 44 = .ok (.ifCond .eq 54, 3) := by decide +kernel
theorem dX6_readJoined_47 : decode cX6_readJoined 47 = .ok (.aload_n 0, 1) := by decide +kernel
theorem dX6_readJoined_48 : decode cX6_readJoined 48 = .ok (.invokevirtual 38, 3) := by decide +kernel
theorem dX6_readJoined_51 : decode cX6_readJoined 51 = .ok (.iload_n 1, 1) := by decide +kernel
theorem dX6_readJoined_52 : decode cX6_readJoined 52 = .ok (.invokestatic 53, 3) := by decide +kernel
theorem dX6_readJoined_55 : decode cX6_readJoined 55 = .ok (.istore 6, 2) := by decide +kernel
theorem dX6_readJoined_57 : decode cX6_readJoined 57 = .ok (.iload 6, 2) := by decide +kernel
theorem dX6_readJoined_59 : decode cX6_readJoined 59 = .ok (.ifCond .ne 5, 3) := by decide +kernel
theorem dX6_readJoined_62 : decode cX6_readJoined 62 = .ok (.iconst 1, 1) := by decide +kernel
theorem dX6_readJoined_63 : decode cX6_readJoined 63 = .ok (.ireturn, 1) := by decide +kernel
theorem dX6_readJoined_64 : decode cX6_readJoined 64 = .ok (.aload_n 0, 1) := by decide +kernel
theorem dX6_readJoined_65 : decode cX6_readJoined 65 = .ok (.dup, 1) := by decide +kernel
theorem dX6_readJoined_66 : decode cX6_readJoined 66 = .ok (.getfield 24, 3) := by decide +kernel
theorem dX6_readJoined_69 : decode cX6_readJoined 69 = .ok (.iconst 1, 1) := by decide +kernel
theorem dX6_readJoined_70 : decode cX6_readJoined 70 = .ok (.iadd, 1) := by decide +kernel
theorem dX6_readJoined_71 : decode cX6_readJoined 71 = .ok (.putfield 24, 3) := by decide +kernel
theorem dX6_readJoined_74 : decode cX6_readJoined 74 = .ok (.aload_n 0, 1) := by decide +kernel
theorem dX6_readJoined_75 : decode cX6_readJoined 75 = .ok (.iload_n 1, 1) := by decide +kernel
theorem dX6_readJoined_76 : decode cX6_readJoined 76 = .ok (.iconst 1, 1) := by decide +kernel
theorem dX6_readJoined_77 : decode cX6_readJoined 77 = .ok (.iadd, 1) := by decide +kernel
theorem dX6_readJoined_78 : decode cX6_readJoined 78 = .ok (.iload_n 2, 1) := by decide +kernel
theorem dX6_readJoined_79 : decode cX6_readJoined 79 = .ok (.invokevirtual 42, 3) := by decide +kernel
theorem dX6_readJoined_82 : decode cX6_readJoined 82 = .ok (.istore_n 3, 1) := by decide +kernel
theorem dX6_readJoined_83 : decode cX6_readJoined 83 = .ok (.aload_n 0, 1) := by decide +kernel
theorem dX6_readJoined_84 : decode cX6_readJoined 84 = .ok (.getfield 16, 3) := by decide +kernel
theorem dX6_readJoined_87 : decode cX6_readJoined 87 = .ok (.iload 6, 2) := by decide +kernel
theorem dX6_readJoined_89 : decode cX6_readJoined 89 = .ok (.invokevirtual 57, 3) := by decide +kernel
theorem dX6_readJoined_92 : decode cX6_readJoined 92 = .ok (.iinc 5 1, 3) := by decide +kernel
theorem dX6_readJoined_95 : decode cX6_readJoined 95 = .ok (.goto (-59), 3) := by decide +kernel
theorem dX6_readJoined_98 : decode cX6_readJoined 98 = .ok (.iload_n 3, 1) := by decide +kernel
theorem dX6_readJoined_99 : decode cX6_readJoined 99 = .ok (.ireturn, 1) := by decide +kernel
theorem dX6_readOne_0 : decode cX6_readOne 0 = .ok (.aload_n 0, 1) := by decide +kernel
theorem dX6_readOne_1 : decode cX6_readOne 1 = .ok (.invokevirtual 38, 3) := by decide +kernel
theorem dX6_readOne_4 : decode cX6_readOne 4 = .ok (.istore_n 2, 1) := by decide +kernel
theorem dX6_readOne_5 : decode cX6_readOne 5 = .ok (.iload_n 2, 1) := by decide +kernel
theorem dX6_readOne_6 : decode cX6_readOne 6 = .ok (.invokestatic 61, 3) := by decide +kernel
theorem dX6_readOne_9 : decode cX6_readOne 9 = .ok (.ifCond .eq 9, 3) := by decide +kernel
theorem dX6_readOne_12 : decode cX6_readOne 12 = .ok (.aload_n 0, 1) := by decide +kernel
theorem dX6_readOne_13 : decode cX6_readOne 13 = .ok (.invokevirtual 64, 3) := by decide +kernel
theorem dX6_readOne_16 : decode cX6_readOne 16 = .ok (.iconst 1, 1) := by decide +kernel
theorem dX6_readOne_17 : decode cX6_readOne 17 = .ok (.ireturn, 1) := by decide +kernel
theorem dX6_readOne_18 : decode cX6_readOne 18 = .ok (.iload_n 2, 1) := by decide +kernel
theorem dX6_readOne_19 : decode cX6_readOne 19 = .ok (.invokestatic 67, 3) := by decide +kernel
theorem dX6_readOne_22 : decode cX6_readOne 22 = .ok (.istore_n 3, 1) := by decide +kernel
theorem dX6_readOne_23 : decode cX6_readOne 23 = .ok (.iload_n 3, 1) := by decide +kernel
theorem dX6_readOne_24 : decode cX6_readOne 24 = .ok (.ifCond .lt 25, 3) := by decide +kernel
theorem dX6_readOne_27 : decode cX6_readOne 27 = .ok (.aload_n 0, 1) := by decide +kernel
theorem dX6_readOne_28 : decode cX6_readOne 28 = .ok (.dup, 1) := by decide +kernel
theorem dX6_readOne_29 : decode cX6_readOne 29 = .ok (.getfield 24, 3) := by decide +kernel
theorem dX6_readOne_32 : decode cX6_readOne 32 = .ok (.iconst 1, 1) := by decide +kernel
theorem dX6_readOne_33 : decode cX6_readOne 33 = .ok (.iadd, 1) := by decide +kernel
theorem dX6_readOne_34 : decode cX6_readOne 34 = .ok (.putfield 24, 3) := by decide +kernel
theorem dX6_readOne_37 : decode cX6_readOne 37 = .ok (.aload_n 0, 1) := by decide +kernel
theorem dX6_readOne_38 : decode cX6_readOne 38 = .ok (.getfield 16, 3) := by decide +kernel
theorem dX6_readOne_41 : decode cX6_readOne 41 = .ok (.iconst (-1), 1) := by decide +kernel
theorem dX6_readOne_42 : decode cX6_readOne 42 = .ok (.iload_n 3, 1) := by decide +kernel
theorem dX6_readOne_43 : decode cX6_readOne 43 = .ok (.isub, 1) := by decide +kernel
theorem dX6_readOne_44 : decode cX6_readOne 44 = .ok (.invokevirtual 57, 3) := by decide +kernel
theorem dX6_readOne_47 : decode cX6_readOne 47 = .ok (.iconst 1, 1) := by decide +kernel
theorem dX6_readOne_48 : decode cX6_readOne 48 = .ok (.ireturn, 1) := by decide +kernel
theorem dX6_readOne_49 : decode cX6_readOne 49 = .ok (.iload_n 2, 1) := by decide +kernel
theorem dX6_readOne_50 : decode cX6_readOne 50 = .ok (.bipush 40, 2) := by decide +kernel
theorem dX6_readOne_52 : decode cX6_readOne 52 = .ok (.if_icmp .eq 15, 3) := by decide +kernel
theorem dX6_readOne_55 : decode cX6_readOne 55 = .ok (.iload_n 2, 1) := by decide +kernel
theorem dX6_readOne_56 : decode cX6_readOne 56 = .ok (.bipush 33, 2) := by decide +kernel
theorem dX6_readOne_58 : decode cX6_readOne 58 = .ok (.if_icmp .eq 9, 3) := by decide +kernel
theorem dX6_readOne_61 : decode cX6_readOne 61 = .ok (.iload_n 2, 1) := by decide +kernel
theorem dX6_readOne_62 : decode cX6_readOne 62 = .ok (.bipush 45, 2) := by decide +kernel
theorem dX6_readOne_64 : decode cX6_readOne 64 = .ok (.if_icmp .ne 9, 3) := by decide +kernel
theorem dX6_readOne_67 : decode cX6_readOne 67 = .ok (.iload_n 1, 1) := by decide +kernel
theorem dX6_readOne_68 : decode cX6_readOne 68 = .ok (.bipush 6, 2) := by decide +kernel
theorem dX6_readOne_70 : decode cX6_readOne 70 = .ok (.if_icmp .lt 5, 3) := by decide +kernel
theorem dX6_readOne_73 : decode cX6_readOne 73 = .ok (.iconst 0, 1) := by decide +kernel
theorem dX6_readOne_74 : decode cX6_readOne 74 = .ok (.ireturn, 1) := by decide +kernel
theorem dX6_readOne_75 : decode cX6_readOne 75 = .ok (.aload_n 0, 1) := by decide +kernel
theorem dX6_readOne_76 : decode cX6_readOne 76 = .ok (.dup, 1) := by decide +kernel
theorem dX6_readOne_77 : decode cX6_readOne 77 = .ok (.getfield 24, 3) := by decide +kernel
theorem dX6_readOne_80 : decode cX6_readOne 80 = .ok (.iconst 1, 1) := by decide +kernel
theorem dX6_readOne_81 : decode cX6_readOne 81 = .ok (.iadd, 1) := by decide +kernel
theorem dX6_readOne_82 : decode cX6_readOne 82 = .ok (.putfield 24, 3) := by decide +kernel
theorem dX6_readOne_85 : decode cX6_readOne 85 = .ok (.iload_n 2, 1) := by decide +kernel
theorem dX6_readOne_86 : decode cX6_readOne 86 = .ok (.bipush 40, 2) := by decide +kernel
theorem dX6_readOne_88 : decode cX6_readOne 88 = .ok (.if_icmp .ne 29, 3) := by decide +kernel
theorem dX6_readOne_91 : decode cX6_readOne 91 = .ok (.aload_n 0, 1) := by decide +kernel
theorem dX6_readOne_92 : decode cX6_readOne 92 = .ok (.iconst 0, 1) := by decide +kernel
theorem dX6_readOne_93 : decode cX6_readOne 93 = .ok (.iload_n 1, 1) := by decide +kernel
theorem dX6_readOne_94 : decode cX6_readOne 94 = .ok (.iconst 1, 1) := by decide +kernel
theorem dX6_readOne_95 : decode cX6_readOne 95 = .ok (.iadd, 1) := by decide +kernel
theorem dX6_readOne_96 : decode cX6_readOne 96 = .ok (.invokevirtual 42, 3) := by decide +kernel
theorem dX6_readOne_99 : decode cX6_readOne 99 = .ok (.ifCond .eq 16, 3) := by decide +kernel
theorem dX6_readOne_102 : decode cX6_readOne 102 = .ok (.aload_n 0, 1) := by decide +kernel
theorem dX6_readOne_103 : decode cX6_readOne 103 = .ok (.bipush 41, 2) := by decide +kernel
theorem dX6_readOne_105 : decode cX6_readOne 105 = .ok (.invokevirtual 34, 3) := by decide +kernel
theorem dX6_readOne_108 : decode cX6_readOne 108 = .ok (.ifCond .eq 7, 3) := by decide +kernel
theorem dX6_readOne_111 : decode cX6_readOne 111 = .ok (.iconst 1, 1) := by decide +kernel
theorem dX6_readOne_112 : decode cX6_readOne 112 = .ok (.goto 4, 3) := by decide +kernel
theorem dX6_readOne_115 : decode cX6_readOne 115 = .ok (.iconst 0, 1) := by decide +kernel
theorem dX6_readOne_116 : decode cX6_readOne 116 = .ok (.ireturn, 1) := by decide +kernel
theorem dX6_readOne_117 : decode cX6_readOne 117 = .ok (.aload_n 0, 1) := by decide +kernel
theorem dX6_readOne_118 : decode cX6_readOne 118 = .ok (.iload_n 1, 1) := by decide +kernel
theorem dX6_readOne_119 : decode cX6_readOne 119 = .ok (.iconst 1, 1) := by decide +kernel
theorem dX6_readOne_120 : decode cX6_readOne 120 = .ok (.iadd, 1) := by decide +kernel
theorem dX6_readOne_121 : decode cX6_readOne 121 = .ok (.invokevirtual 50, 3) := by decide +kernel
theorem dX6_readOne_124 : decode cX6_readOne 124 = .ok (.istore 4, 2) := by decide +kernel
theorem dX6_readOne_126 : decode cX6_readOne 126 = .ok (.aload_n 0, 1) := by decide +kernel
theorem dX6_readOne_127 : decode cX6_readOne 127 = .ok (.getfield 16, 3) := by decide +kernel
theorem dX6_readOne_130 : decode cX6_readOne 130 = .ok (.iload_n 2, 1) := by decide +kernel
theorem dX6_readOne_131 : decode cX6_readOne 131 = .ok (.bipush 33, 2) := by decide +kernel
theorem dX6_readOne_133 : decode cX6_readOne 133 = .ok (.if_icmp .ne 8, 3) := by decide +kernel
theorem dX6_readOne_136 : decode cX6_readOne 136 = .ok (.bipush (-8), 2) := by decide +kernel
theorem dX6_readOne_138 : decode cX6_readOne 138 = .ok (.goto 5, 3) := by decide +kernel
theorem dX6_readOne_141 : decode cX6_readOne 141 = .ok (.bipush (-7), 2) := by decide +kernel
theorem dX6_readOne_143 : decode cX6_readOne 143 = .ok (.invokevirtual 57, 3) := by decide +kernel
theorem dX6_readOne_146 : decode cX6_readOne 146 = .ok (.iload 4, 2) := by decide +kernel
theorem dX6_readOne_148 : decode cX6_readOne 148 = .ok (.ireturn, 1) := by decide +kernel
theorem dX6_readNumber_0 : decode cX6_readNumber 0 = .ok (.iconst 0, 1) := by decide +kernel
theorem dX6_readNumber_1 : decode cX6_readNumber 1 = .ok (.istore_n 1, 1) := by decide +kernel
theorem dX6_readNumber_2 : decode cX6_readNumber 2 = .ok (.iconst 0, 1) := by decide +kernel
theorem dX6_readNumber_3 : decode cX6_readNumber 3 = .ok (.istore_n 2, 1) := by decide +kernel
theorem dX6_readNumber_4 : decode cX6_readNumber 4 = .ok (.iload_n 2, 1) := by decide +kernel
theorem dX6_readNumber_5 : decode cX6_readNumber 5 = .ok (.iconst 4, 1) := by decide +kernel
theorem dX6_readNumber_6 : decode cX6_readNumber 6 = .ok (.if_icmp .ge 42, 3) := by decide +kernel
theorem dX6_readNumber_9 : decode cX6_readNumber 9 = .ok (.aload_n 0, 1) := by decide +kernel
theorem dX6_readNumber_10 : decode cX6_readNumber 10 = .ok (.invokevirtual 38, 3) := by decide +kernel
theorem dX6_readNumber_13 : decode cX6_readNumber 13 = .ok (.invokestatic 61, 3) := by decide +kernel
theorem dX6_readNumber_16 : decode cX6_readNumber 16 = .ok (.ifCond .eq 32, 3) := by decide +kernel
theorem dX6_readNumber_19 : decode cX6_readNumber 19 = .ok (.iload_n 1, 1) := by decide +kernel
theorem dX6_readNumber_20 : decode cX6_readNumber 20 = .ok (.bipush 10, 2) := by decide +kernel
theorem dX6_readNumber_22 : decode cX6_readNumber 22 = .ok (.imul, 1) := by decide +kernel
theorem dX6_readNumber_23 : decode cX6_readNumber 23 = .ok (.aload_n 0, 1) := by decide +kernel
theorem dX6_readNumber_24 : decode cX6_readNumber 24 = .ok (.invokevirtual 38, 3) := by decide +kernel
theorem dX6_readNumber_27 : decode cX6_readNumber 27 = .ok (.iadd, 1) := by decide +kernel
theorem dX6_readNumber_28 : decode cX6_readNumber 28 = .ok (.bipush 48, 2) := by decide +kernel
theorem dX6_readNumber_30 : decode cX6_readNumber 30 = .ok (.isub, 1) := by decide +kernel
theorem dX6_readNumber_31 : decode cX6_readNumber 31 = .ok (.istore_n 1, 1) := by decide +kernel
theorem dX6_readNumber_32 : decode cX6_readNumber 32 = .ok (.aload_n 0, 1) := by decide +kernel
theorem dX6_readNumber_33 : decode cX6_readNumber 33 = .ok (.dup, 1) := by decide +kernel
theorem dX6_readNumber_34 : decode cX6_readNumber 34 = .ok (.getfield 24, 3) := by decide +kernel
theorem dX6_readNumber_37 : decode cX6_readNumber 37 = .ok (.iconst 1, 1) := by decide +kernel
theorem dX6_readNumber_38 : decode cX6_readNumber 38 = .ok (.iadd, 1) := by decide +kernel
theorem dX6_readNumber_39 : decode cX6_readNumber 39 = .ok (.putfield 24, 3) := by decide +kernel
theorem dX6_readNumber_42 : decode cX6_readNumber 42 = .ok (.iinc 2 1, 3) := by decide +kernel
theorem dX6_readNumber_45 : decode cX6_readNumber 45 = .ok (.goto (-41), 3) := by decide +kernel
theorem dX6_readNumber_48 : decode cX6_readNumber 48 = .ok (.aload_n 0, 1) := by decide +kernel
theorem dX6_readNumber_49 : decode cX6_readNumber 49 = .ok (.getfield 16, 3) := by decide +kernel
theorem dX6_readNumber_52 : decode cX6_readNumber 52 = .ok (.iload_n 1, 1) := by decide +kernel
theorem dX6_readNumber_53 : decode cX6_readNumber 53 = .ok (.invokevirtual 57, 3) := by decide +kernel
theorem dX6_readNumber_56 : decode cX6_readNumber 56 = .ok (.return_, 1) := by decide +kernel
theorem dX6_isDigit_0 : decode cX6_isDigit 0 = .ok (.iload_n 0, 1) := by decide +kernel
theorem dX6_isDigit_1 : decode cX6_isDigit 1 = .ok (.bipush 48, 2) := by decide +kernel
theorem dX6_isDigit_3 : decode cX6_isDigit 3 = .ok (.if_icmp .lt 13, 3) := by decide +kernel
theorem dX6_isDigit_6 : decode cX6_isDigit 6 = .ok (.iload_n 0, 1) := by decide +kernel
theorem dX6_isDigit_7 : decode cX6_isDigit 7 = .ok (.bipush 57, 2) := by decide +kernel
theorem dX6_isDigit_9 : decode cX6_isDigit 9 = .ok (.if_icmp .gt 7, 3) := by decide +kernel
theorem dX6_isDigit_12 : decode cX6_isDigit 12 = .ok (.iconst 1, 1) := by decide +kernel
theorem dX6_isDigit_13 : decode cX6_isDigit 13 = .ok (.goto 4, 3) := by decide +kernel
theorem dX6_isDigit_16 : decode cX6_isDigit 16 = .ok (.iconst 0, 1) := by decide +kernel
theorem dX6_isDigit_17 : decode cX6_isDigit 17 = .ok (.ireturn, 1) := by decide +kernel
theorem dX6_naming_0 : decode cX6_naming 0 = .ok (.iload_n 0, 1) := by decide +kernel
theorem dX6_naming_1 : decode cX6_naming 1 = .ok (.tableswitch 107 100 119 #[103, 107, 107, 107, 107, 107, 107, 105, 101, 107, 107, 107, 95, 107, 107, 107, 99, 107, 107, 97], 95) := by decide +kernel
theorem dX6_naming_96 : decode cX6_naming 96 = .ok (.iconst 0, 1) := by decide +kernel
theorem dX6_naming_97 : decode cX6_naming 97 = .ok (.ireturn, 1) := by decide +kernel
theorem dX6_naming_98 : decode cX6_naming 98 = .ok (.iconst 1, 1) := by decide +kernel
theorem dX6_naming_99 : decode cX6_naming 99 = .ok (.ireturn, 1) := by decide +kernel
theorem dX6_naming_100 : decode cX6_naming 100 = .ok (.iconst 2, 1) := by decide +kernel
theorem dX6_naming_101 : decode cX6_naming 101 = .ok (.ireturn, 1) := by decide +kernel
theorem dX6_naming_102 : decode cX6_naming 102 = .ok (.iconst 3, 1) := by decide +kernel
theorem dX6_naming_103 : decode cX6_naming 103 = .ok (.ireturn, 1) := by decide +kernel
theorem dX6_naming_104 : decode cX6_naming 104 = .ok (.iconst 4, 1) := by decide +kernel
theorem dX6_naming_105 : decode cX6_naming 105 = .ok (.ireturn, 1) := by decide +kernel
theorem dX6_naming_106 : decode cX6_naming 106 = .ok (.iconst 5, 1) := by decide +kernel
theorem dX6_naming_107 : decode cX6_naming 107 = .ok (.ireturn, 1) := by decide +kernel
theorem dX6_naming_108 : decode cX6_naming 108 = .ok (.iconst (-1), 1) := by decide +kernel
theorem dX6_naming_109 : decode cX6_naming 109 = .ok (.ireturn, 1) := by decide +kernel
theorem dX6_joining_0 : decode cX6_joining 0 = .ok (.iload_n 1, 1) := by decide +kernel
theorem dX6_joining_1 : decode cX6_joining 1 = .ok (.tableswitch 116 0 3 #[31, 44, 57, 92], 31) := by decide +kernel
theorem dX6_joining_32 : decode cX6_joining 32 = .ok (.iload_n 0, 1) := by decide +kernel
theorem dX6_joining_33 : decode cX6_joining 33 = .ok (.bipush 124, 2) := by decide +kernel
theorem dX6_joining_35 : decode cX6_joining 35 = .ok (.if_icmp .ne 8, 3) := by decide +kernel
theorem dX6_joining_38 : decode cX6_joining 38 = .ok (.bipush (-18), 2) := by decide +kernel
theorem dX6_joining_40 : decode cX6_joining 40 = .ok (.goto 4, 3) := by decide +kernel
theorem dX6_joining_43 : decode cX6_joining 43 = .ok (.iconst 0, 1) := by decide +kernel
theorem dX6_joining_44 : decode cX6_joining 44 = .ok (.ireturn, 1) := by decide +kernel
theorem dX6_joining_45 : decode cX6_joining 45 = .ok (.iload_n 0, 1) := by decide +kernel
theorem dX6_joining_46 : decode cX6_joining 46 = .ok (.bipush 38, 2) := by decide +kernel
theorem dX6_joining_48 : decode cX6_joining 48 = .ok (.if_icmp .ne 8, 3) := by decide +kernel
theorem dX6_joining_51 : decode cX6_joining 51 = .ok (.bipush (-17), 2) := by decide +kernel
theorem dX6_joining_53 : decode cX6_joining 53 = .ok (.goto 4, 3) := by decide +kernel
theorem dX6_joining_56 : decode cX6_joining 56 = .ok (.iconst 0, 1) := by decide +kernel
theorem dX6_joining_57 : decode cX6_joining 57 = .ok (.ireturn, 1) := by decide +kernel
theorem dX6_joining_58 : decode cX6_joining 58 = .ok (.iload_n 0, 1) := by decide +kernel
theorem dX6_joining_59 : decode cX6_joining 59 = .ok (.bipush 60, 2) := by decide +kernel
theorem dX6_joining_61 : decode cX6_joining 61 = .ok (.if_icmp .ne 8, 3) := by decide +kernel
theorem dX6_joining_64 : decode cX6_joining 64 = .ok (.bipush (-14), 2) := by decide +kernel
theorem dX6_joining_66 : decode cX6_joining 66 = .ok (.goto 26, 3) := by decide +kernel
theorem dX6_joining_69 : decode cX6_joining 69 = .ok (.iload_n 0, 1) := by decide +kernel
theorem dX6_joining_70 : decode cX6_joining 70 = .ok (.bipush 61, 2) := by decide +kernel
theorem dX6_joining_72 : decode cX6_joining 72 = .ok (.if_icmp .ne 8, 3) := by decide +kernel
theorem dX6_joining_75 : decode cX6_joining 75 = .ok (.bipush (-15), 2) := by decide +kernel
theorem dX6_joining_77 : decode cX6_joining 77 = .ok (.goto 15, 3) := by decide +kernel
theorem dX6_joining_80 : decode cX6_joining 80 = .ok (.iload_n 0, 1) := by decide +kernel
theorem dX6_joining_81 : decode cX6_joining 81 = .ok (.bipush 62, 2) := by decide +kernel
theorem dX6_joining_83 : decode cX6_joining 83 = .ok (.if_icmp .ne 8, 3) := by decide +kernel
theorem dX6_joining_86 : decode cX6_joining 86 = .ok (.bipush (-16), 2) := by decide +kernel
theorem dX6_joining_88 : decode cX6_joining 88 = .ok (.goto 4, 3) := by decide +kernel
theorem dX6_joining_91 : decode cX6_joining 91 = .ok (.iconst 0, 1) := by decide +kernel
theorem dX6_joining_92 : decode cX6_joining 92 = .ok (.ireturn, 1) := by decide +kernel
theorem dX6_joining_93 : decode cX6_joining 93 = .ok (.iload_n 0, 1) := by decide +kernel
theorem dX6_joining_94 : decode cX6_joining 94 = .ok (.bipush 43, 2) := by decide +kernel
theorem dX6_joining_96 : decode cX6_joining 96 = .ok (.if_icmp .ne 8, 3) := by decide +kernel
theorem dX6_joining_99 : decode cX6_joining 99 = .ok (.bipush (-12), 2) := by decide +kernel
theorem dX6_joining_101 : decode cX6_joining 101 = .ok (.goto 15, 3) := by decide +kernel
theorem dX6_joining_104 : decode cX6_joining 104 = .ok (.iload_n 0, 1) := by decide +kernel
theorem dX6_joining_105 : decode cX6_joining 105 = .ok (.bipush 45, 2) := by decide +kernel
theorem dX6_joining_107 : decode cX6_joining 107 = .ok (.if_icmp .ne 8, 3) := by decide +kernel
theorem dX6_joining_110 : decode cX6_joining 110 = .ok (.bipush (-13), 2) := by decide +kernel
theorem dX6_joining_112 : decode cX6_joining 112 = .ok (.goto 4, 3) := by decide +kernel
theorem dX6_joining_115 : decode cX6_joining 115 = .ok (.iconst 0, 1) := by decide +kernel
theorem dX6_joining_116 : decode cX6_joining 116 = .ok (.ireturn, 1) := by decide +kernel
theorem dX6_joining_117 : decode cX6_joining 117 = .ok (.iload_n 0, 1) := by decide +kernel
theorem dX6_joining_118 : decode cX6_joining 118 = .ok (.bipush 42, 2) := by decide +kernel
theorem dX6_joining_120 : decode cX6_joining 120 = .ok (.if_icmp .ne 8, 3) := by decide +kernel
theorem dX6_joining_123 : decode cX6_joining 123 = .ok (.bipush (-9), 2) := by decide +kernel
theorem dX6_joining_125 : decode cX6_joining 125 = .ok (.goto 26, 3) := by decide +kernel
theorem dX6_joining_128 : decode cX6_joining 128 = .ok (.iload_n 0, 1) := by decide +kernel
theorem dX6_joining_129 : decode cX6_joining 129 = .ok (.bipush 47, 2) := by decide +kernel
theorem dX6_joining_131 : decode cX6_joining 131 = .ok (.if_icmp .ne 8, 3) := by decide +kernel
theorem dX6_joining_134 : decode cX6_joining 134 = .ok (.bipush (-10), 2) := by decide +kernel
theorem dX6_joining_136 : decode cX6_joining 136 = .ok (.goto 15, 3) := by decide +kernel
theorem dX6_joining_139 : decode cX6_joining 139 = .ok (.iload_n 0, 1) := by decide +kernel
theorem dX6_joining_140 : decode cX6_joining 140 = .ok (.bipush 37, 2) := by decide +kernel
theorem dX6_joining_142 : decode cX6_joining 142 = .ok (.if_icmp .ne 8, 3) := by decide +kernel
theorem dX6_joining_145 : decode cX6_joining 145 = .ok (.bipush (-11), 2) := by decide +kernel
theorem dX6_joining_147 : decode cX6_joining 147 = .ok (.goto 4, 3) := by decide +kernel
theorem dX6_joining_150 : decode cX6_joining 150 = .ok (.iconst 0, 1) := by decide +kernel
theorem dX6_joining_151 : decode cX6_joining 151 = .ok (.ireturn, 1) := by decide +kernel
theorem dX7_init_0 : decode cX7_init 0 = .ok (.aload_n 0, 1) := by decide +kernel
theorem dX7_init_1 : decode cX7_init 1 = .ok (.invokespecial 1, 3) := by decide +kernel
theorem dX7_init_4 : decode cX7_init 4 = .ok (.aload_n 0, 1) := by decide +kernel
theorem dX7_init_5 : decode cX7_init 5 = .ok (.bipush 120, 2) := by decide +kernel
theorem dX7_init_7 : decode cX7_init 7 = .ok (.newarray .int, 2) := by decide +kernel
theorem dX7_init_9 : decode cX7_init 9 = .ok (.putfield 9, 3) := by decide +kernel
theorem dX7_init_12 : decode cX7_init 12 = .ok (.aload_n 0, 1) := by decide +kernel
theorem dX7_init_13 : decode cX7_init 13 = .ok (.bipush 120, 2) := by decide +kernel
theorem dX7_init_15 : decode cX7_init 15 = .ok (.newarray .int, 2) := by decide +kernel
theorem dX7_init_17 : decode cX7_init 17 = .ok (.putfield 15, 3) := by decide +kernel
theorem dX7_init_20 : decode cX7_init 20 = .ok (.aload_n 0, 1) := by decide +kernel
theorem dX7_init_21 : decode cX7_init 21 = .ok (.bipush 120, 2) := by decide +kernel
theorem dX7_init_23 : decode cX7_init 23 = .ok (.newarray .boolean, 2) := by decide +kernel
theorem dX7_init_25 : decode cX7_init 25 = .ok (.putfield 18, 3) := by decide +kernel
theorem dX7_init_28 : decode cX7_init 28 = .ok (.return_, 1) := by decide +kernel
theorem dX7_clear_0 : decode cX7_clear 0 = .ok (.aload_n 0, 1) := by decide +kernel
theorem dX7_clear_1 : decode cX7_clear 1 = .ok (.iconst 0, 1) := by decide +kernel
theorem dX7_clear_2 : decode cX7_clear 2 = .ok (.putfield 22, 3) := by decide +kernel
theorem dX7_clear_5 : decode cX7_clear 5 = .ok (.aload_n 0, 1) := by decide +kernel
theorem dX7_clear_6 : decode cX7_clear 6 = .ok (.iconst 0, 1) := by decide +kernel
theorem dX7_clear_7 : decode cX7_clear 7 = .ok (.putfield 26, 3) := by decide +kernel
theorem dX7_clear_10 : decode cX7_clear 10 = .ok (.return_, 1) := by decide +kernel
theorem dX7_add_0 : decode cX7_add 0 = .ok (.aload_n 0, 1) := by decide +kernel
theorem dX7_add_1 : decode cX7_add 1 = .ok (.getfield 22, 3) := by decide +kernel
theorem dX7_add_4 : decode cX7_add 4 = .ok (.aload_n 0, 1) := by decide +kernel
theorem dX7_add_5 : decode cX7_add 5 = .ok (.getfield 9, 3) := by decide +kernel
theorem dX7_add_8 : decode cX7_add 8 = .ok (.arraylength, 1) := by decide +kernel
theorem dX7_add_9 : decode cX7_add 9 = .ok (.if_icmp .ge 23, 3) := by decide +kernel
theorem dX7_add_12 : decode cX7_add 12 = .ok (.aload_n 0, 1) := by decide +kernel
theorem dX7_add_13 : decode cX7_add 13 = .ok (.getfield 9, 3) := by decide +kernel
theorem dX7_add_16 : decode cX7_add 16 = .ok (.aload_n 0, 1) := by decide +kernel
theorem dX7_add_17 : decode cX7_add 17 = .ok (.getfield 22, 3) := by decide +kernel
theorem dX7_add_20 : decode cX7_add 20 = .ok (.iload_n 1, 1) := by decide +kernel
theorem dX7_add_21 : decode cX7_add 21 = .ok (.iastore, 1) := by decide +kernel
theorem dX7_add_22 : decode cX7_add 22 = .ok (.aload_n 0, 1) := by decide +kernel
theorem dX7_add_23 : decode cX7_add 23 = .ok (.dup, 1) := by decide +kernel
theorem dX7_add_24 : decode cX7_add 24 = .ok (.getfield 22, 3) := by decide +kernel
theorem dX7_add_27 : decode cX7_add 27 = .ok (.iconst 1, 1) := by decide +kernel
theorem dX7_add_28 : decode cX7_add 28 = .ok (.iadd, 1) := by decide +kernel
theorem dX7_add_29 : decode cX7_add 29 = .ok (.putfield 22, 3) := by decide +kernel
theorem dX7_add_32 : decode cX7_add 32 = .ok (.return_, 1) := by decide +kernel
theorem dX7_endPart_0 : decode cX7_endPart 0 = .ok (.aload_n 0, 1) := by decide +kernel
theorem dX7_endPart_1 : decode cX7_endPart 1 = .ok (.getfield 26, 3) := by decide +kernel
theorem dX7_endPart_4 : decode cX7_endPart 4 = .ok (.aload_n 0, 1) := by decide +kernel
theorem dX7_endPart_5 : decode cX7_endPart 5 = .ok (.getfield 15, 3) := by decide +kernel
theorem dX7_endPart_8 : decode cX7_endPart 8 = .ok (.arraylength, 1) := by decide +kernel
theorem dX7_endPart_9 : decode cX7_endPart 9 = .ok (.if_icmp .ge 36, 3) := by decide +kernel
theorem dX7_endPart_12 : decode cX7_endPart 12 = .ok (.aload_n 0, 1) := by decide +kernel
theorem dX7_endPart_13 : decode cX7_endPart 13 = .ok (.getfield 15, 3) := by decide +kernel
theorem dX7_endPart_16 : decode cX7_endPart 16 = .ok (.aload_n 0, 1) := by decide +kernel
theorem dX7_endPart_17 : decode cX7_endPart 17 = .ok (.getfield 26, 3) := by decide +kernel
theorem dX7_endPart_20 : decode cX7_endPart 20 = .ok (.aload_n 0, 1) := by decide +kernel
theorem dX7_endPart_21 : decode cX7_endPart 21 = .ok (.getfield 22, 3) := by decide +kernel
theorem dX7_endPart_24 : decode cX7_endPart 24 = .ok (.iastore, 1) := by decide +kernel
theorem dX7_endPart_25 : decode cX7_endPart 25 = .ok (.aload_n 0, 1) := by decide +kernel
theorem dX7_endPart_26 : decode cX7_endPart 26 = .ok (.getfield 18, 3) := by decide +kernel
theorem dX7_endPart_29 : decode cX7_endPart 29 = .ok (.aload_n 0, 1) := by decide +kernel
theorem dX7_endPart_30 : decode cX7_endPart 30 = .ok (.getfield 26, 3) := by decide +kernel
theorem dX7_endPart_33 : decode cX7_endPart 33 = .ok (.iload_n 1, 1) := by decide +kernel
theorem dX7_endPart_34 : decode cX7_endPart 34 = .ok (.bastore, 1) := by decide +kernel
theorem dX7_endPart_35 : decode cX7_endPart 35 = .ok (.aload_n 0, 1) := by decide +kernel
theorem dX7_endPart_36 : decode cX7_endPart 36 = .ok (.dup, 1) := by decide +kernel
theorem dX7_endPart_37 : decode cX7_endPart 37 = .ok (.getfield 26, 3) := by decide +kernel
theorem dX7_endPart_40 : decode cX7_endPart 40 = .ok (.iconst 1, 1) := by decide +kernel
theorem dX7_endPart_41 : decode cX7_endPart 41 = .ok (.iadd, 1) := by decide +kernel
theorem dX7_endPart_42 : decode cX7_endPart 42 = .ok (.putfield 26, 3) := by decide +kernel
theorem dX7_endPart_45 : decode cX7_endPart 45 = .ok (.return_, 1) := by decide +kernel
theorem dX8_init_0 : decode cX8_init 0 = .ok (.aload_n 0, 1) := by decide +kernel
theorem dX8_init_1 : decode cX8_init 1 = .ok (.invokespecial 3, 3) := by decide +kernel
theorem dX8_init_4 : decode cX8_init 4 = .ok (.aload_n 0, 1) := by decide +kernel
theorem dX8_init_5 : decode cX8_init 5 = .ok (.sipush 1000, 3) := by decide +kernel
theorem dX8_init_8 : decode cX8_init 8 = .ok (.newarray .int, 2) := by decide +kernel
theorem dX8_init_10 : decode cX8_init 10 = .ok (.putfield 9, 3) := by decide +kernel
theorem dX8_init_13 : decode cX8_init 13 = .ok (.aload_n 0, 1) := by decide +kernel
theorem dX8_init_14 : decode cX8_init 14 = .ok (.sipush 441, 3) := by decide +kernel
theorem dX8_init_17 : decode cX8_init 17 = .ok (.newarray .int, 2) := by decide +kernel
theorem dX8_init_19 : decode cX8_init 19 = .ok (.putfield 15, 3) := by decide +kernel
theorem dX8_init_22 : decode cX8_init 22 = .ok (.aload_n 0, 1) := by decide +kernel
theorem dX8_init_23 : decode cX8_init 23 = .ok (.sipush 441, 3) := by decide +kernel
theorem dX8_init_26 : decode cX8_init 26 = .ok (.newarray .int, 2) := by decide +kernel
theorem dX8_init_28 : decode cX8_init 28 = .ok (.putfield 18, 3) := by decide +kernel
theorem dX8_init_31 : decode cX8_init 31 = .ok (.aload_n 0, 1) := by decide +kernel
theorem dX8_init_32 : decode cX8_init 32 = .ok (.aload_n 1, 1) := by decide +kernel
theorem dX8_init_33 : decode cX8_init 33 = .ok (.putfield 21, 3) := by decide +kernel
theorem dX8_init_36 : decode cX8_init 36 = .ok (.aload_n 0, 1) := by decide +kernel
theorem dX8_init_37 : decode cX8_init 37 = .ok (.aload_n 3, 1) := by decide +kernel
theorem dX8_init_38 : decode cX8_init 38 = .ok (.putfield 25, 3) := by decide +kernel
theorem dX8_init_41 : decode cX8_init 41 = .ok (.aload_n 0, 1) := by decide +kernel
theorem dX8_init_42 : decode cX8_init 42 = .ok (.new 29, 3) := by decide +kernel
theorem dX8_init_45 : decode cX8_init 45 = .ok (.dup, 1) := by decide +kernel
theorem dX8_init_46 : decode cX8_init 46 = .ok (.aload_n 1, 1) := by decide +kernel
theorem dX8_init_47 : decode cX8_init 47 = .ok (.aload_n 2, 1) := by decide +kernel
theorem dX8_init_48 : decode cX8_init 48 = .ok (.invokespecial 31, 3) := by decide +kernel
theorem dX8_init_51 : decode cX8_init 51 = .ok (.putfield 34, 3) := by decide +kernel
theorem dX8_init_54 : decode cX8_init 54 = .ok (.aload_n 0, 1) := by decide +kernel
theorem dX8_init_55 : decode cX8_init 55 = .ok (.new 29, 3) := by decide +kernel
theorem dX8_init_58 : decode cX8_init 58 = .ok (.dup, 1) := by decide +kernel
theorem dX8_init_59 : decode cX8_init 59 = .ok (.aload_n 1, 1) := by decide +kernel
theorem dX8_init_60 : decode cX8_init 60 = .ok (.aload_n 2, 1) := by decide +kernel
theorem dX8_init_61 : decode cX8_init 61 = .ok (.invokespecial 31, 3) := by decide +kernel
theorem dX8_init_64 : decode cX8_init 64 = .ok (.putfield 37, 3) := by decide +kernel
theorem dX8_init_67 : decode cX8_init 67 = .ok (.return_, 1) := by decide +kernel
theorem dX8_after_0 : decode cX8_after 0 = .ok (.aload_n 0, 1) := by decide +kernel
theorem dX8_after_1 : decode cX8_after 1 = .ok (.getfield 34, 3) := by decide +kernel
theorem dX8_after_4 : decode cX8_after 4 = .ok (.aload_n 0, 1) := by decide +kernel
theorem dX8_after_5 : decode cX8_after 5 = .ok (.getfield 25, 3) := by decide +kernel
theorem dX8_after_8 : decode cX8_after 8 = .ok (.invokevirtual 40, 3) := by decide +kernel
theorem dX8_after_11 : decode cX8_after 11 = .ok (.iconst 0, 1) := by decide +kernel
theorem dX8_after_12 : decode cX8_after 12 = .ok (.istore_n 2, 1) := by decide +kernel
theorem dX8_after_13 : decode cX8_after 13 = .ok (.iload_n 2, 1) := by decide +kernel
theorem dX8_after_14 : decode cX8_after 14 = .ok (.iload_n 1, 1) := by decide +kernel
theorem dX8_after_15 : decode cX8_after 15 = .ok (.if_icmp .ge 20, 3) := by decide +kernel
theorem dX8_after_18 : decode cX8_after 18 = .ok (.aload_n 0, 1) := by decide +kernel
theorem dX8_after_19 : decode cX8_after 19 = .ok (.getfield 34, 3) := by decide +kernel
theorem dX8_after_22 : decode cX8_after 22 = .ok (.bipush 7, 2) := by decide +kernel
theorem dX8_after_24 : decode cX8_after 24 = .ok (.iconst 0, 1) := by decide +kernel
theorem dX8_after_25 : decode cX8_after 25 = .ok (.iconst 0, 1) := by decide +kernel
theorem dX8_after_26 : decode cX8_after 26 = .ok (.invokevirtual 44, 3) := by decide +kernel
theorem dX8_after_29 : decode cX8_after 29 = .ok (.iinc 2 1, 3) := by decide +kernel
theorem dX8_after_32 : decode cX8_after 32 = .ok (.goto (-19), 3) := by decide +kernel
theorem dX8_after_35 : decode cX8_after 35 = .ok (.aload_n 0, 1) := by decide +kernel
theorem dX8_after_36 : decode cX8_after 36 = .ok (.getfield 34, 3) := by decide +kernel
theorem dX8_after_39 : decode cX8_after 39 = .ok (.areturn, 1) := by decide +kernel
theorem dX8_drunk_0 : decode cX8_drunk 0 = .ok (.aload_n 0, 1) := by decide +kernel
theorem dX8_drunk_1 : decode cX8_drunk 1 = .ok (.getfield 21, 3) := by decide +kernel
theorem dX8_drunk_4 : decode cX8_drunk 4 = .ok (.invokevirtual 48, 3) := by decide +kernel
theorem dX8_drunk_7 : decode cX8_drunk 7 = .ok (.istore_n 2, 1) := by decide +kernel
theorem dX8_drunk_8 : decode cX8_drunk 8 = .ok (.aload_n 0, 1) := by decide +kernel
theorem dX8_drunk_9 : decode cX8_drunk 9 = .ok (.getfield 34, 3) := by decide +kernel
theorem dX8_drunk_12 : decode cX8_drunk 12 = .ok (.aload_n 0, 1) := by decide +kernel
theorem dX8_drunk_13 : decode cX8_drunk 13 = .ok (.getfield 25, 3) := by decide +kernel
theorem dX8_drunk_16 : decode cX8_drunk 16 = .ok (.invokevirtual 40, 3) := by decide +kernel
theorem dX8_drunk_19 : decode cX8_drunk 19 = .ok (.iconst 0, 1) := by decide +kernel
theorem dX8_drunk_20 : decode cX8_drunk 20 = .ok (.istore_n 3, 1) := by decide +kernel
theorem dX8_drunk_21 : decode cX8_drunk 21 = .ok (.iload_n 3, 1) := by decide +kernel
theorem dX8_drunk_22 : decode cX8_drunk 22 = .ok (.iload_n 1, 1) := by decide +kernel
theorem dX8_drunk_23 : decode cX8_drunk 23 = .ok (.if_icmp .ge 41, 3) := by decide +kernel
theorem dX8_drunk_26 : decode cX8_drunk 26 = .ok (.aload_n 0, 1) := by decide +kernel
theorem dX8_drunk_27 : decode cX8_drunk 27 = .ok (.getfield 34, 3) := by decide +kernel
theorem dX8_drunk_30 : decode cX8_drunk 30 = .ok (.getfield 54, 3) := by decide +kernel
theorem dX8_drunk_33 : decode cX8_drunk 33 = .ok (.ifCond .gt 14, 3) := by decide +kernel
theorem dX8_drunk_36 : decode cX8_drunk 36 = .ok (.aload_n 0, 1) := by decide +kernel
theorem dX8_drunk_37 : decode cX8_drunk 37 = .ok (.getfield 34, 3) := by decide +kernel
theorem dX8_drunk_40 : decode cX8_drunk 40 = .ok (.getfield 58, 3) := by decide +kernel
theorem dX8_drunk_43 : decode cX8_drunk 43 = .ok (.iload_n 2, 1) := by decide +kernel
theorem dX8_drunk_44 : decode cX8_drunk 44 = .ok (.if_icmp .le 20, 3) := by decide +kernel
theorem dX8_drunk_47 : decode cX8_drunk 47 = .ok (.aload_n 0, 1) := by decide +kernel
theorem dX8_drunk_48 : decode cX8_drunk 48 = .ok (.getfield 34, 3) := by decide +kernel
theorem dX8_drunk_51 : decode cX8_drunk 51 = .ok (.bipush 7, 2) := by decide +kernel
theorem dX8_drunk_53 : decode cX8_drunk 53 = .ok (.iconst 0, 1) := by decide +kernel
theorem dX8_drunk_54 : decode cX8_drunk 54 = .ok (.iconst 0, 1) := by decide +kernel
theorem dX8_drunk_55 : decode cX8_drunk 55 = .ok (.invokevirtual 44, 3) := by decide +kernel
theorem dX8_drunk_58 : decode cX8_drunk 58 = .ok (.iinc 3 1, 3) := by decide +kernel
theorem dX8_drunk_61 : decode cX8_drunk 61 = .ok (.goto (-40), 3) := by decide +kernel
theorem dX8_drunk_64 : decode cX8_drunk 64 = .ok (.aload_n 0, 1) := by decide +kernel
theorem dX8_drunk_65 : decode cX8_drunk 65 = .ok (.getfield 34, 3) := by decide +kernel
theorem dX8_drunk_68 : decode cX8_drunk 68 = .ok (.areturn, 1) := by decide +kernel
theorem dX8_emptyBehind_0 : decode cX8_emptyBehind 0 = .ok (.aload_n 0, 1) := by decide +kernel
theorem dX8_emptyBehind_1 : decode cX8_emptyBehind 1 = .ok (.getfield 34, 3) := by decide +kernel
theorem dX8_emptyBehind_4 : decode cX8_emptyBehind 4 = .ok (.aload_n 0, 1) := by decide +kernel
theorem dX8_emptyBehind_5 : decode cX8_emptyBehind 5 = .ok (.getfield 25, 3) := by decide +kernel
theorem dX8_emptyBehind_8 : decode cX8_emptyBehind 8 = .ok (.invokevirtual 40, 3) := by decide +kernel
theorem dX8_emptyBehind_11 : decode cX8_emptyBehind 11 = .ok (.iconst 0, 1) := by decide +kernel
theorem dX8_emptyBehind_12 : decode cX8_emptyBehind 12 = .ok (.istore_n 1, 1) := by decide +kernel
theorem dX8_emptyBehind_13 : decode cX8_emptyBehind 13 = .ok (.iload_n 1, 1) := by decide +kernel
theorem dX8_emptyBehind_14 : decode cX8_emptyBehind 14 = .ok (.sipush 999, 3) := by decide +kernel
theorem dX8_emptyBehind_17 : decode cX8_emptyBehind 17 = .ok (.if_icmp .ge 32, 3) := by decide +kernel
theorem dX8_emptyBehind_20 : decode cX8_emptyBehind 20 = .ok (.aload_n 0, 1) := by decide +kernel
theorem dX8_emptyBehind_21 : decode cX8_emptyBehind 21 = .ok (.getfield 34, 3) := by decide +kernel
theorem dX8_emptyBehind_24 : decode cX8_emptyBehind 24 = .ok (.invokevirtual 61, 3) := by decide +kernel
theorem dX8_emptyBehind_27 : decode cX8_emptyBehind 27 = .ok (.ifCond .eq 5, 3) := by decide +kernel
theorem dX8_emptyBehind_30 : decode cX8_emptyBehind 30 = .ok (.iload_n 1, 1) := by decide +kernel
theorem dX8_emptyBehind_31 : decode cX8_emptyBehind 31 = .ok (.ireturn, 1) := by decide +kernel
theorem dX8_emptyBehind_32 : decode cX8_emptyBehind 32 = .ok (.aload_n 0, 1) := by decide +kernel
theorem dX8_emptyBehind_33 : decode cX8_emptyBehind 33 = .ok (.getfield 34, 3) := by decide +kernel
theorem dX8_emptyBehind_36 : decode cX8_emptyBehind 36 = .ok (.bipush 7, 2) := by decide +kernel
theorem dX8_emptyBehind_38 : decode cX8_emptyBehind 38 = .ok (.iconst 0, 1) := by decide +kernel
theorem dX8_emptyBehind_39 : decode cX8_emptyBehind 39 = .ok (.iconst 0, 1) := by decide +kernel
theorem dX8_emptyBehind_40 : decode cX8_emptyBehind 40 = .ok (.invokevirtual 44, 3) := by decide +kernel
theorem dX8_emptyBehind_43 : decode cX8_emptyBehind 43 = .ok (.iinc 1 1, 3) := by decide +kernel
theorem dX8_emptyBehind_46 : decode cX8_emptyBehind 46 = .ok (.goto (-33), 3) := by decide +kernel
theorem dX8_emptyBehind_49 : decode cX8_emptyBehind 49 = .ok (.aload_n 0, 1) := by decide +kernel
theorem dX8_emptyBehind_50 : decode cX8_emptyBehind 50 = .ok (.getfield 34, 3) := by decide +kernel
theorem dX8_emptyBehind_53 : decode cX8_emptyBehind 53 = .ok (.invokevirtual 61, 3) := by decide +kernel
theorem dX8_emptyBehind_56 : decode cX8_emptyBehind 56 = .ok (.ifCond .eq 9, 3) := by decide +kernel
theorem dX8_emptyBehind_59 : decode cX8_emptyBehind 59 = .ok (.sipush 999, 3) := by decide +kernel
theorem dX8_emptyBehind_62 : decode cX8_emptyBehind 62 = .ok (.goto 5, 3) := by decide +kernel
theorem dX8_emptyBehind_65 : decode cX8_emptyBehind 65 = .ok (.bipush (-2), 2) := by decide +kernel
theorem dX8_emptyBehind_67 : decode cX8_emptyBehind 67 = .ok (.ireturn, 1) := by decide +kernel
theorem dX8_byTurns_0 : decode cX8_byTurns 0 = .ok (.aload_n 0, 1) := by decide +kernel
theorem dX8_byTurns_1 : decode cX8_byTurns 1 = .ok (.getfield 34, 3) := by decide +kernel
theorem dX8_byTurns_4 : decode cX8_byTurns 4 = .ok (.aload_n 0, 1) := by decide +kernel
theorem dX8_byTurns_5 : decode cX8_byTurns 5 = .ok (.getfield 25, 3) := by decide +kernel
theorem dX8_byTurns_8 : decode cX8_byTurns 8 = .ok (.invokevirtual 40, 3) := by decide +kernel
theorem dX8_byTurns_11 : decode cX8_byTurns 11 = .ok (.aload_n 0, 1) := by decide +kernel
theorem dX8_byTurns_12 : decode cX8_byTurns 12 = .ok (.getfield 21, 3) := by decide +kernel
theorem dX8_byTurns_15 : decode cX8_byTurns 15 = .ok (.getfield 65, 3) := by decide +kernel
theorem dX8_byTurns_18 : decode cX8_byTurns 18 = .ok (.istore 4, 2) := by decide +kernel
theorem dX8_byTurns_20 : decode cX8_byTurns 20 = .ok (.iload_n 2, 1) := by decide +kernel
theorem dX8_byTurns_21 : decode cX8_byTurns 21 = .ok (.ifCond .le 48, 3) := by decide +kernel
theorem dX8_byTurns_24 : decode cX8_byTurns 24 = .ok (.iload 4, 2) := by decide +kernel
theorem dX8_byTurns_26 : decode cX8_byTurns 26 = .ok (.ifCond .le 43, 3) := by decide +kernel
theorem dX8_byTurns_29 : decode cX8_byTurns 29 = .ok (.iconst 0, 1) := by decide +kernel
theorem dX8_byTurns_30 : decode cX8_byTurns 30 = .ok (.istore 5, 2) := by decide +kernel
theorem dX8_byTurns_32 : decode cX8_byTurns 32 = .ok (.iload 5, 2) := by decide +kernel
theorem dX8_byTurns_34 : decode cX8_byTurns 34 = .ok (.iload_n 1, 1) := by decide +kernel
theorem dX8_byTurns_35 : decode cX8_byTurns 35 = .ok (.if_icmp .ge 34, 3) := by decide +kernel
theorem dX8_byTurns_38 : decode cX8_byTurns 38 = .ok (.iconst 1, 1) := by decide +kernel
theorem dX8_byTurns_39 : decode cX8_byTurns 39 = .ok (.iload_n 3, 1) := by decide +kernel
theorem dX8_byTurns_40 : decode cX8_byTurns 40 = .ok (.iload 5, 2) := by decide +kernel
theorem dX8_byTurns_42 : decode cX8_byTurns 42 = .ok (.iload_n 2, 1) := by decide +kernel
theorem dX8_byTurns_43 : decode cX8_byTurns 43 = .ok (.idiv, 1) := by decide +kernel
theorem dX8_byTurns_44 : decode cX8_byTurns 44 = .ok (.iadd, 1) := by decide +kernel
theorem dX8_byTurns_45 : decode cX8_byTurns 45 = .ok (.iload 4, 2) := by decide +kernel
theorem dX8_byTurns_47 : decode cX8_byTurns 47 = .ok (.irem, 1) := by decide +kernel
theorem dX8_byTurns_48 : decode cX8_byTurns 48 = .ok (.ishl, 1) := by decide +kernel
theorem dX8_byTurns_49 : decode cX8_byTurns 49 = .ok (.istore 6, 2) := by decide +kernel
theorem dX8_byTurns_51 : decode cX8_byTurns 51 = .ok (.aload_n 0, 1) := by decide +kernel
theorem dX8_byTurns_52 : decode cX8_byTurns 52 = .ok (.getfield 34, 3) := by decide +kernel
theorem dX8_byTurns_55 : decode cX8_byTurns 55 = .ok (.iload 6, 2) := by decide +kernel
theorem dX8_byTurns_57 : decode cX8_byTurns 57 = .ok (.iload 6, 2) := by decide +kernel
theorem dX8_byTurns_59 : decode cX8_byTurns 59 = .ok (.iconst 0, 1) := by decide +kernel
theorem dX8_byTurns_60 : decode cX8_byTurns 60 = .ok (.invokevirtual 44, 3) := by decide +kernel
theorem dX8_byTurns_63 : decode cX8_byTurns 63 = .ok (.iinc 5 1, 3) := by decide +kernel
theorem dX8_byTurns_66 : decode cX8_byTurns 66 = .ok (.goto (-34), 3) := by decide +kernel
theorem dX8_byTurns_69 : decode cX8_byTurns 69 = .ok (.aload_n 0, 1) := by decide +kernel
theorem dX8_byTurns_70 : decode cX8_byTurns 70 = .ok (.getfield 34, 3) := by decide +kernel
theorem dX8_byTurns_73 : decode cX8_byTurns 73 = .ok (.areturn, 1) := by decide +kernel
theorem dX8_leastMark_0 : decode cX8_leastMark 0 = .ok (.aload_n 0, 1) := by decide +kernel
theorem dX8_leastMark_1 : decode cX8_leastMark 1 = .ok (.getfield 25, 3) := by decide +kernel
theorem dX8_leastMark_4 : decode cX8_leastMark 4 = .ok (.getfield 58, 3) := by decide +kernel
theorem dX8_leastMark_7 : decode cX8_leastMark 7 = .ok (.istore_n 3, 1) := by decide +kernel
theorem dX8_leastMark_8 : decode cX8_leastMark 8 = .ok (.aload_n 0, 1) := by decide +kernel
theorem dX8_leastMark_9 : decode cX8_leastMark 9 = .ok (.getfield 34, 3) := by decide +kernel
theorem dX8_leastMark_12 : decode cX8_leastMark 12 = .ok (.aload_n 0, 1) := by decide +kernel
theorem dX8_leastMark_13 : decode cX8_leastMark 13 = .ok (.getfield 25, 3) := by decide +kernel
theorem dX8_leastMark_16 : decode cX8_leastMark 16 = .ok (.invokevirtual 40, 3) := by decide +kernel
theorem dX8_leastMark_19 : decode cX8_leastMark 19 = .ok (.iconst 1, 1) := by decide +kernel
theorem dX8_leastMark_20 : decode cX8_leastMark 20 = .ok (.istore 4, 2) := by decide +kernel
theorem dX8_leastMark_22 : decode cX8_leastMark 22 = .ok (.iload 4, 2) := by decide +kernel
theorem dX8_leastMark_24 : decode cX8_leastMark 24 = .ok (.bipush 99, 2) := by decide +kernel
theorem dX8_leastMark_26 : decode cX8_leastMark 26 = .ok (.if_icmp .gt 64, 3) := by decide +kernel
theorem dX8_leastMark_29 : decode cX8_leastMark 29 = .ok (.aload_n 0, 1) := by decide +kernel
theorem dX8_leastMark_30 : decode cX8_leastMark 30 = .ok (.getfield 34, 3) := by decide +kernel
theorem dX8_leastMark_33 : decode cX8_leastMark 33 = .ok (.iconst 1, 1) := by decide +kernel
theorem dX8_leastMark_34 : decode cX8_leastMark 34 = .ok (.iload_n 1, 1) := by decide +kernel
theorem dX8_leastMark_35 : decode cX8_leastMark 35 = .ok (.ishl, 1) := by decide +kernel
theorem dX8_leastMark_36 : decode cX8_leastMark 36 = .ok (.iconst 1, 1) := by decide +kernel
theorem dX8_leastMark_37 : decode cX8_leastMark 37 = .ok (.iload_n 1, 1) := by decide +kernel
theorem dX8_leastMark_38 : decode cX8_leastMark 38 = .ok (.ishl, 1) := by decide +kernel
theorem dX8_leastMark_39 : decode cX8_leastMark 39 = .ok (.iconst 0, 1) := by decide +kernel
theorem dX8_leastMark_40 : decode cX8_leastMark 40 = .ok (.invokevirtual 44, 3) := by decide +kernel
theorem dX8_leastMark_43 : decode cX8_leastMark 43 = .ok (.aload_n 0, 1) := by decide +kernel
theorem dX8_leastMark_44 : decode cX8_leastMark 44 = .ok (.getfield 34, 3) := by decide +kernel
theorem dX8_leastMark_47 : decode cX8_leastMark 47 = .ok (.getfield 58, 3) := by decide +kernel
theorem dX8_leastMark_50 : decode cX8_leastMark 50 = .ok (.iload_n 3, 1) := by decide +kernel
theorem dX8_leastMark_51 : decode cX8_leastMark 51 = .ok (.if_icmp .ge 33, 3) := by decide +kernel
theorem dX8_leastMark_54 : decode cX8_leastMark 54 = .ok (.aload_n 0, 1) := by decide +kernel
theorem dX8_leastMark_55 : decode cX8_leastMark 55 = .ok (.getfield 34, 3) := by decide +kernel
theorem dX8_leastMark_58 : decode cX8_leastMark 58 = .ok (.getfield 68, 3) := by decide +kernel
theorem dX8_leastMark_61 : decode cX8_leastMark 61 = .ok (.iload_n 1, 1) := by decide +kernel
theorem dX8_leastMark_62 : decode cX8_leastMark 62 = .ok (.iaload, 1) := by decide +kernel
theorem dX8_leastMark_63 : decode cX8_leastMark 63 = .ok (.aload_n 0, 1) := by decide +kernel
theorem dX8_leastMark_64 : decode cX8_leastMark 64 = .ok (.iload_n 2, 1) := by decide +kernel
theorem dX8_leastMark_65 : decode cX8_leastMark 65 = .ok (.bipush 99, 2) := by decide +kernel
theorem dX8_leastMark_67 : decode cX8_leastMark 67 = .ok (.iload 4, 2) := by decide +kernel
theorem dX8_leastMark_69 : decode cX8_leastMark 69 = .ok (.isub, 1) := by decide +kernel
theorem dX8_leastMark_70 : decode cX8_leastMark 70 = .ok (.invokevirtual 71, 3) := by decide +kernel
theorem dX8_leastMark_73 : decode cX8_leastMark 73 = .ok (.if_icmp .gt 11, 3) := by decide +kernel
theorem dX8_leastMark_76 : decode cX8_leastMark 76 = .ok (.aload_n 0, 1) := by decide +kernel
theorem dX8_leastMark_77 : decode cX8_leastMark 77 = .ok (.getfield 34, 3) := by decide +kernel
theorem dX8_leastMark_80 : decode cX8_leastMark 80 = .ok (.getfield 58, 3) := by decide +kernel
theorem dX8_leastMark_83 : decode cX8_leastMark 83 = .ok (.istore_n 3, 1) := by decide +kernel
theorem dX8_leastMark_84 : decode cX8_leastMark 84 = .ok (.iinc 4 1, 3) := by decide +kernel
theorem dX8_leastMark_87 : decode cX8_leastMark 87 = .ok (.goto (-65), 3) := by decide +kernel
theorem dX8_leastMark_90 : decode cX8_leastMark 90 = .ok (.iload_n 3, 1) := by decide +kernel
theorem dX8_leastMark_91 : decode cX8_leastMark 91 = .ok (.ireturn, 1) := by decide +kernel
theorem dX8_gotBehind_0 : decode cX8_gotBehind 0 = .ok (.aload_n 0, 1) := by decide +kernel
theorem dX8_gotBehind_1 : decode cX8_gotBehind 1 = .ok (.getfield 37, 3) := by decide +kernel
theorem dX8_gotBehind_4 : decode cX8_gotBehind 4 = .ok (.aload_n 0, 1) := by decide +kernel
theorem dX8_gotBehind_5 : decode cX8_gotBehind 5 = .ok (.getfield 34, 3) := by decide +kernel
theorem dX8_gotBehind_8 : decode cX8_gotBehind 8 = .ok (.invokevirtual 40, 3) := by decide +kernel
theorem dX8_gotBehind_11 : decode cX8_gotBehind 11 = .ok (.iconst 0, 1) := by decide +kernel
theorem dX8_gotBehind_12 : decode cX8_gotBehind 12 = .ok (.istore_n 3, 1) := by decide +kernel
theorem dX8_gotBehind_13 : decode cX8_gotBehind 13 = .ok (.iload_n 3, 1) := by decide +kernel
theorem dX8_gotBehind_14 : decode cX8_gotBehind 14 = .ok (.iload_n 2, 1) := by decide +kernel
theorem dX8_gotBehind_15 : decode cX8_gotBehind 15 = .ok (.if_icmp .ge 23, 3) := by decide +kernel
theorem dX8_gotBehind_18 : decode cX8_gotBehind 18 = .ok (.aload_n 0, 1) := by decide +kernel
theorem dX8_gotBehind_19 : decode cX8_gotBehind 19 = .ok (.getfield 37, 3) := by decide +kernel
theorem dX8_gotBehind_22 : decode cX8_gotBehind 22 = .ok (.iconst 1, 1) := by decide +kernel
theorem dX8_gotBehind_23 : decode cX8_gotBehind 23 = .ok (.iload_n 1, 1) := by decide +kernel
theorem dX8_gotBehind_24 : decode cX8_gotBehind 24 = .ok (.ishl, 1) := by decide +kernel
theorem dX8_gotBehind_25 : decode cX8_gotBehind 25 = .ok (.iconst 1, 1) := by decide +kernel
theorem dX8_gotBehind_26 : decode cX8_gotBehind 26 = .ok (.iload_n 1, 1) := by decide +kernel
theorem dX8_gotBehind_27 : decode cX8_gotBehind 27 = .ok (.ishl, 1) := by decide +kernel
theorem dX8_gotBehind_28 : decode cX8_gotBehind 28 = .ok (.iconst 0, 1) := by decide +kernel
theorem dX8_gotBehind_29 : decode cX8_gotBehind 29 = .ok (.invokevirtual 44, 3) := by decide +kernel
theorem dX8_gotBehind_32 : decode cX8_gotBehind 32 = .ok (.iinc 3 1, 3) := by decide +kernel
theorem dX8_gotBehind_35 : decode cX8_gotBehind 35 = .ok (.goto (-22), 3) := by decide +kernel
theorem dX8_gotBehind_38 : decode cX8_gotBehind 38 = .ok (.aload_n 0, 1) := by decide +kernel
theorem dX8_gotBehind_39 : decode cX8_gotBehind 39 = .ok (.getfield 37, 3) := by decide +kernel
theorem dX8_gotBehind_42 : decode cX8_gotBehind 42 = .ok (.getfield 68, 3) := by decide +kernel
theorem dX8_gotBehind_45 : decode cX8_gotBehind 45 = .ok (.iload_n 1, 1) := by decide +kernel
theorem dX8_gotBehind_46 : decode cX8_gotBehind 46 = .ok (.iaload, 1) := by decide +kernel
theorem dX8_gotBehind_47 : decode cX8_gotBehind 47 = .ok (.ireturn, 1) := by decide +kernel
theorem dX8_halved_0 : decode cX8_halved 0 = .ok (.sipush 999, 3) := by decide +kernel
theorem dX8_halved_3 : decode cX8_halved 3 = .ok (.aload_n 0, 1) := by decide +kernel
theorem dX8_halved_4 : decode cX8_halved 4 = .ok (.getfield 25, 3) := by decide +kernel
theorem dX8_halved_7 : decode cX8_halved 7 = .ok (.getfield 58, 3) := by decide +kernel
theorem dX8_halved_10 : decode cX8_halved 10 = .ok (.invokestatic 75, 3) := by decide +kernel
theorem dX8_halved_13 : decode cX8_halved 13 = .ok (.istore 4, 2) := by decide +kernel
theorem dX8_halved_15 : decode cX8_halved 15 = .ok (.iconst 0, 1) := by decide +kernel
theorem dX8_halved_16 : decode cX8_halved 16 = .ok (.istore 5, 2) := by decide +kernel
theorem dX8_halved_18 : decode cX8_halved 18 = .ok (.iload 5, 2) := by decide +kernel
theorem dX8_halved_20 : decode cX8_halved 20 = .ok (.iload 4, 2) := by decide +kernel
theorem dX8_halved_22 : decode cX8_halved 22 = .ok (.if_icmp .gt 23, 3) := by decide +kernel
theorem dX8_halved_25 : decode cX8_halved 25 = .ok (.aload_n 0, 1) := by decide +kernel
theorem dX8_halved_26 : decode cX8_halved 26 = .ok (.getfield 9, 3) := by decide +kernel
theorem dX8_halved_29 : decode cX8_halved 29 = .ok (.iload 5, 2) := by decide +kernel
theorem dX8_halved_31 : decode cX8_halved 31 = .ok (.aload_n 0, 1) := by decide +kernel
theorem dX8_halved_32 : decode cX8_halved 32 = .ok (.iload_n 2, 1) := by decide +kernel
theorem dX8_halved_33 : decode cX8_halved 33 = .ok (.iload 5, 2) := by decide +kernel
theorem dX8_halved_35 : decode cX8_halved 35 = .ok (.invokevirtual 80, 3) := by decide +kernel
theorem dX8_halved_38 : decode cX8_halved 38 = .ok (.iastore, 1) := by decide +kernel
theorem dX8_halved_39 : decode cX8_halved 39 = .ok (.iinc 5 1, 3) := by decide +kernel
theorem dX8_halved_42 : decode cX8_halved 42 = .ok (.goto (-24), 3) := by decide +kernel
theorem dX8_halved_45 : decode cX8_halved 45 = .ok (.aload_n 0, 1) := by decide +kernel
theorem dX8_halved_46 : decode cX8_halved 46 = .ok (.getfield 21, 3) := by decide +kernel
theorem dX8_halved_49 : decode cX8_halved 49 = .ok (.iload_n 1, 1) := by decide +kernel
theorem dX8_halved_50 : decode cX8_halved 50 = .ok (.iconst 2, 1) := by decide +kernel
theorem dX8_halved_51 : decode cX8_halved 51 = .ok (.invokevirtual 83, 3) := by decide +kernel
theorem dX8_halved_54 : decode cX8_halved 54 = .ok (.istore 5, 2) := by decide +kernel
theorem dX8_halved_56 : decode cX8_halved 56 = .ok (.iconst 0, 1) := by decide +kernel
theorem dX8_halved_57 : decode cX8_halved 57 = .ok (.istore 6, 2) := by decide +kernel
theorem dX8_halved_59 : decode cX8_halved 59 = .ok (.iconst (-1), 1) := by decide +kernel
theorem dX8_halved_60 : decode cX8_halved 60 = .ok (.istore 7, 2) := by decide +kernel
theorem dX8_halved_62 : decode cX8_halved 62 = .ok (.iconst 0, 1) := by decide +kernel
theorem dX8_halved_63 : decode cX8_halved 63 = .ok (.istore 8, 2) := by decide +kernel
theorem dX8_halved_65 : decode cX8_halved 65 = .ok (.iload 8, 2) := by decide +kernel
theorem dX8_halved_67 : decode cX8_halved 67 = .ok (.iload 4, 2) := by decide +kernel
theorem dX8_halved_69 : decode cX8_halved 69 = .ok (.if_icmp .gt 79, 3) := by decide +kernel
theorem dX8_halved_72 : decode cX8_halved 72 = .ok (.aload_n 0, 1) := by decide +kernel
theorem dX8_halved_73 : decode cX8_halved 73 = .ok (.getfield 9, 3) := by decide +kernel
theorem dX8_halved_76 : decode cX8_halved 76 = .ok (.iload 8, 2) := by decide +kernel
theorem dX8_halved_78 : decode cX8_halved 78 = .ok (.iaload, 1) := by decide +kernel
theorem dX8_halved_79 : decode cX8_halved 79 = .ok (.aload_n 0, 1) := by decide +kernel
theorem dX8_halved_80 : decode cX8_halved 80 = .ok (.getfield 9, 3) := by decide +kernel
theorem dX8_halved_83 : decode cX8_halved 83 = .ok (.iload 4, 2) := by decide +kernel
theorem dX8_halved_85 : decode cX8_halved 85 = .ok (.iload 8, 2) := by decide +kernel
theorem dX8_halved_87 : decode cX8_halved 87 = .ok (.isub, 1) := by decide +kernel
theorem dX8_halved_88 : decode cX8_halved 88 = .ok (.iaload, 1) := by decide +kernel
theorem dX8_halved_89 : decode cX8_halved 89 = .ok (.if_icmp .lt 11, 3) := by decide +kernel
theorem dX8_halved_92 : decode cX8_halved 92 = .ok (.iload 4, 2) := by decide +kernel
theorem dX8_halved_94 : decode cX8_halved 94 = .ok (.iload 8, 2) := by decide +kernel
theorem dX8_halved_96 : decode cX8_halved 96 = .ok (.isub, 1) := by decide +kernel
theorem dX8_halved_97 : decode cX8_halved 97 = .ok (.goto 5, 3) := by decide +kernel
theorem dX8_halved_100 : decode cX8_halved 100 = .ok (.iload 8, 2) := by decide +kernel
theorem dX8_halved_102 : decode cX8_halved 102 = .ok (.istore 9, 2) := by decide +kernel
theorem dX8_halved_104 : decode cX8_halved 104 = .ok (.iconst 0, 1) := by decide +kernel
theorem dX8_halved_105 : decode cX8_halved 105 = .ok (.iload 9, 2) := by decide +kernel
theorem dX8_halved_107 : decode cX8_halved 107 = .ok (.iload 5, 2) := by decide +kernel
theorem dX8_halved_109 : decode cX8_halved 109 = .ok (.isub, 1) := by decide +kernel
theorem dX8_halved_110 : decode cX8_halved 110 = .ok (.invokestatic 86, 3) := by decide +kernel
theorem dX8_halved_113 : decode cX8_halved 113 = .ok (.iload 7, 2) := by decide +kernel
theorem dX8_halved_115 : decode cX8_halved 115 = .ok (.if_icmp .le 27, 3) := by decide +kernel
theorem dX8_halved_118 : decode cX8_halved 118 = .ok (.aload_n 0, 1) := by decide +kernel
theorem dX8_halved_119 : decode cX8_halved 119 = .ok (.iload_n 1, 1) := by decide +kernel
theorem dX8_halved_120 : decode cX8_halved 120 = .ok (.iload 9, 2) := by decide +kernel
theorem dX8_halved_122 : decode cX8_halved 122 = .ok (.invokevirtual 80, 3) := by decide +kernel
theorem dX8_halved_125 : decode cX8_halved 125 = .ok (.istore 10, 2) := by decide +kernel
theorem dX8_halved_127 : decode cX8_halved 127 = .ok (.iload 10, 2) := by decide +kernel
theorem dX8_halved_129 : decode cX8_halved 129 = .ok (.iload 7, 2) := by decide +kernel
theorem dX8_halved_131 : decode cX8_halved 131 = .ok (.if_icmp .le 11, 3) := by decide +kernel
theorem dX8_halved_134 : decode cX8_halved 134 = .ok (.iload 10, 2) := by decide +kernel
theorem dX8_halved_136 : decode cX8_halved 136 = .ok (.istore 7, 2) := by decide +kernel
theorem dX8_halved_138 : decode cX8_halved 138 = .ok (.iload 8, 2) := by decide +kernel
theorem dX8_halved_140 : decode cX8_halved 140 = .ok (.istore 6, 2) := by decide +kernel
theorem dX8_halved_142 : decode cX8_halved 142 = .ok (.iinc 8 1, 3) := by decide +kernel
theorem dX8_halved_145 : decode cX8_halved 145 = .ok (.goto (-80), 3) := by decide +kernel
theorem dX8_halved_148 : decode cX8_halved 148 = .ok (.iload_n 3, 1) := by decide +kernel
theorem dX8_halved_149 : decode cX8_halved 149 = .ok (.lookupswitch 33 #[(0, 27), (1, 30)], 27) := by decide +kernel
theorem dX8_halved_176 : decode cX8_halved 176 = .ok (.iload 6, 2) := by decide +kernel
theorem dX8_halved_178 : decode cX8_halved 178 = .ok (.ireturn, 1) := by decide +kernel
theorem dX8_halved_179 : decode cX8_halved 179 = .ok (.iload 7, 2) := by decide +kernel
theorem dX8_halved_181 : decode cX8_halved 181 = .ok (.ireturn, 1) := by decide +kernel
theorem dX8_halved_182 : decode cX8_halved 182 = .ok (.aload_n 0, 1) := by decide +kernel
theorem dX8_halved_183 : decode cX8_halved 183 = .ok (.getfield 9, 3) := by decide +kernel
theorem dX8_halved_186 : decode cX8_halved 186 = .ok (.iload 6, 2) := by decide +kernel
theorem dX8_halved_188 : decode cX8_halved 188 = .ok (.iaload, 1) := by decide +kernel
theorem dX8_halved_189 : decode cX8_halved 189 = .ok (.aload_n 0, 1) := by decide +kernel
theorem dX8_halved_190 : decode cX8_halved 190 = .ok (.getfield 9, 3) := by decide +kernel
theorem dX8_halved_193 : decode cX8_halved 193 = .ok (.iload 4, 2) := by decide +kernel
theorem dX8_halved_195 : decode cX8_halved 195 = .ok (.iload 6, 2) := by decide +kernel
theorem dX8_halved_197 : decode cX8_halved 197 = .ok (.isub, 1) := by decide +kernel
theorem dX8_halved_198 : decode cX8_halved 198 = .ok (.iaload, 1) := by decide +kernel
theorem dX8_halved_199 : decode cX8_halved 199 = .ok (.invokestatic 86, 3) := by decide +kernel
theorem dX8_halved_202 : decode cX8_halved 202 = .ok (.ireturn, 1) := by decide +kernel
theorem dX8_gotFromGlass_0 : decode cX8_gotFromGlass 0 = .ok (.aload_n 0, 1) := by decide +kernel
theorem dX8_gotFromGlass_1 : decode cX8_gotFromGlass 1 = .ok (.getfield 21, 3) := by decide +kernel
theorem dX8_gotFromGlass_4 : decode cX8_gotFromGlass 4 = .ok (.iload_n 1, 1) := by decide +kernel
theorem dX8_gotFromGlass_5 : decode cX8_gotFromGlass 5 = .ok (.iconst 2, 1) := by decide +kernel
theorem dX8_gotFromGlass_6 : decode cX8_gotFromGlass 6 = .ok (.invokevirtual 83, 3) := by decide +kernel
theorem dX8_gotFromGlass_9 : decode cX8_gotFromGlass 9 = .ok (.istore_n 3, 1) := by decide +kernel
theorem dX8_gotFromGlass_10 : decode cX8_gotFromGlass 10 = .ok (.aload_n 0, 1) := by decide +kernel
theorem dX8_gotFromGlass_11 : decode cX8_gotFromGlass 11 = .ok (.getfield 34, 3) := by decide +kernel
theorem dX8_gotFromGlass_14 : decode cX8_gotFromGlass 14 = .ok (.aload_n 0, 1) := by decide +kernel
theorem dX8_gotFromGlass_15 : decode cX8_gotFromGlass 15 = .ok (.getfield 25, 3) := by decide +kernel
theorem dX8_gotFromGlass_18 : decode cX8_gotFromGlass 18 = .ok (.invokevirtual 40, 3) := by decide +kernel
theorem dX8_gotFromGlass_21 : decode cX8_gotFromGlass 21 = .ok (.aload_n 0, 1) := by decide +kernel
theorem dX8_gotFromGlass_22 : decode cX8_gotFromGlass 22 = .ok (.getfield 34, 3) := by decide +kernel
theorem dX8_gotFromGlass_25 : decode cX8_gotFromGlass 25 = .ok (.iload_n 2, 1) := by decide +kernel
theorem dX8_gotFromGlass_26 : decode cX8_gotFromGlass 26 = .ok (.putfield 58, 3) := by decide +kernel
theorem dX8_gotFromGlass_29 : decode cX8_gotFromGlass 29 = .ok (.aload_n 0, 1) := by decide +kernel
theorem dX8_gotFromGlass_30 : decode cX8_gotFromGlass 30 = .ok (.getfield 34, 3) := by decide +kernel
theorem dX8_gotFromGlass_33 : decode cX8_gotFromGlass 33 = .ok (.iconst 0, 1) := by decide +kernel
theorem dX8_gotFromGlass_34 : decode cX8_gotFromGlass 34 = .ok (.putfield 54, 3) := by decide +kernel
theorem dX8_gotFromGlass_37 : decode cX8_gotFromGlass 37 = .ok (.iconst 0, 1) := by decide +kernel
theorem dX8_gotFromGlass_38 : decode cX8_gotFromGlass 38 = .ok (.istore 4, 2) := by decide +kernel
theorem dX8_gotFromGlass_40 : decode cX8_gotFromGlass 40 = .ok (.iload 4, 2) := by decide +kernel
theorem dX8_gotFromGlass_42 : decode cX8_gotFromGlass 42 = .ok (.bipush 60, 2) := by decide +kernel
theorem dX8_gotFromGlass_44 : decode cX8_gotFromGlass 44 = .ok (.if_icmp .ge 34, 3) := by decide +kernel
theorem dX8_gotFromGlass_47 : decode cX8_gotFromGlass 47 = .ok (.aload_n 0, 1) := by decide +kernel
theorem dX8_gotFromGlass_48 : decode cX8_gotFromGlass 48 = .ok (.getfield 34, 3) := by decide +kernel
theorem dX8_gotFromGlass_51 : decode cX8_gotFromGlass 51 = .ok (.getfield 58, 3) := by decide +kernel
theorem dX8_gotFromGlass_54 : decode cX8_gotFromGlass 54 = .ok (.iload_n 3, 1) := by decide +kernel
theorem dX8_gotFromGlass_55 : decode cX8_gotFromGlass 55 = .ok (.if_icmp .le 23, 3) := by decide +kernel
theorem dX8_gotFromGlass_58 : decode cX8_gotFromGlass 58 = .ok (.aload_n 0, 1) := by decide +kernel
theorem dX8_gotFromGlass_59 : decode cX8_gotFromGlass 59 = .ok (.getfield 34, 3) := by decide +kernel
theorem dX8_gotFromGlass_62 : decode cX8_gotFromGlass 62 = .ok (.iconst 1, 1) := by decide +kernel
theorem dX8_gotFromGlass_63 : decode cX8_gotFromGlass 63 = .ok (.iload_n 1, 1) := by decide +kernel
theorem dX8_gotFromGlass_64 : decode cX8_gotFromGlass 64 = .ok (.ishl, 1) := by decide +kernel
theorem dX8_gotFromGlass_65 : decode cX8_gotFromGlass 65 = .ok (.iconst 1, 1) := by decide +kernel
theorem dX8_gotFromGlass_66 : decode cX8_gotFromGlass 66 = .ok (.iload_n 1, 1) := by decide +kernel
theorem dX8_gotFromGlass_67 : decode cX8_gotFromGlass 67 = .ok (.ishl, 1) := by decide +kernel
theorem dX8_gotFromGlass_68 : decode cX8_gotFromGlass 68 = .ok (.iconst 0, 1) := by decide +kernel
theorem dX8_gotFromGlass_69 : decode cX8_gotFromGlass 69 = .ok (.invokevirtual 44, 3) := by decide +kernel
theorem dX8_gotFromGlass_72 : decode cX8_gotFromGlass 72 = .ok (.iinc 4 1, 3) := by decide +kernel
theorem dX8_gotFromGlass_75 : decode cX8_gotFromGlass 75 = .ok (.goto (-35), 3) := by decide +kernel
theorem dX8_gotFromGlass_78 : decode cX8_gotFromGlass 78 = .ok (.aload_n 0, 1) := by decide +kernel
theorem dX8_gotFromGlass_79 : decode cX8_gotFromGlass 79 = .ok (.getfield 34, 3) := by decide +kernel
theorem dX8_gotFromGlass_82 : decode cX8_gotFromGlass 82 = .ok (.getfield 68, 3) := by decide +kernel
theorem dX8_gotFromGlass_85 : decode cX8_gotFromGlass 85 = .ok (.iload_n 1, 1) := by decide +kernel
theorem dX8_gotFromGlass_86 : decode cX8_gotFromGlass 86 = .ok (.iaload, 1) := by decide +kernel
theorem dX8_gotFromGlass_87 : decode cX8_gotFromGlass 87 = .ok (.ireturn, 1) := by decide +kernel
theorem dX8_bestNumber_0 : decode cX8_bestNumber 0 = .ok (.aload_n 0, 1) := by decide +kernel
theorem dX8_bestNumber_1 : decode cX8_bestNumber 1 = .ok (.getfield 21, 3) := by decide +kernel
theorem dX8_bestNumber_4 : decode cX8_bestNumber 4 = .ok (.iload_n 1, 1) := by decide +kernel
theorem dX8_bestNumber_5 : decode cX8_bestNumber 5 = .ok (.iload_n 2, 1) := by decide +kernel
theorem dX8_bestNumber_6 : decode cX8_bestNumber 6 = .ok (.invokevirtual 89, 3) := by decide +kernel
theorem dX8_bestNumber_9 : decode cX8_bestNumber 9 = .ok (.istore 6, 2) := by decide +kernel
theorem dX8_bestNumber_11 : decode cX8_bestNumber 11 = .ok (.aload_n 0, 1) := by decide +kernel
theorem dX8_bestNumber_12 : decode cX8_bestNumber 12 = .ok (.iconst (-1), 1) := by decide +kernel
theorem dX8_bestNumber_13 : decode cX8_bestNumber 13 = .ok (.putfield 92, 3) := by decide +kernel
theorem dX8_bestNumber_16 : decode cX8_bestNumber 16 = .ok (.iload 6, 2) := by decide +kernel
theorem dX8_bestNumber_18 : decode cX8_bestNumber 18 = .ok (.ifCond .ge 5, 3) := by decide +kernel
theorem dX8_bestNumber_21 : decode cX8_bestNumber 21 = .ok (.iconst 0, 1) := by decide +kernel
theorem dX8_bestNumber_22 : decode cX8_bestNumber 22 = .ok (.ireturn, 1) := by decide +kernel
theorem dX8_bestNumber_23 : decode cX8_bestNumber 23 = .ok (.aload_n 0, 1) := by decide +kernel
theorem dX8_bestNumber_24 : decode cX8_bestNumber 24 = .ok (.getfield 21, 3) := by decide +kernel
theorem dX8_bestNumber_27 : decode cX8_bestNumber 27 = .ok (.getfield 95, 3) := by decide +kernel
theorem dX8_bestNumber_30 : decode cX8_bestNumber 30 = .ok (.iload 6, 2) := by decide +kernel
theorem dX8_bestNumber_32 : decode cX8_bestNumber 32 = .ok (.iaload, 1) := by decide +kernel
theorem dX8_bestNumber_33 : decode cX8_bestNumber 33 = .ok (.istore 7, 2) := by decide +kernel
theorem dX8_bestNumber_35 : decode cX8_bestNumber 35 = .ok (.iconst 0, 1) := by decide +kernel
theorem dX8_bestNumber_36 : decode cX8_bestNumber 36 = .ok (.istore 8, 2) := by decide +kernel
theorem dX8_bestNumber_38 : decode cX8_bestNumber 38 = .ok (.iconst 0, 1) := by decide +kernel
theorem dX8_bestNumber_39 : decode cX8_bestNumber 39 = .ok (.istore 9, 2) := by decide +kernel
theorem dX8_bestNumber_41 : decode cX8_bestNumber 41 = .ok (.iload 9, 2) := by decide +kernel
theorem dX8_bestNumber_43 : decode cX8_bestNumber 43 = .ok (.iload_n 3, 1) := by decide +kernel
theorem dX8_bestNumber_44 : decode cX8_bestNumber 44 = .ok (.if_icmp .gt 82, 3) := by decide +kernel
theorem dX8_bestNumber_47 : decode cX8_bestNumber 47 = .ok (.iload_n 2, 1) := by decide +kernel
theorem dX8_bestNumber_48 : decode cX8_bestNumber 48 = .ok (.iconst 2, 1) := by decide +kernel
theorem dX8_bestNumber_49 : decode cX8_bestNumber 49 = .ok (.if_icmp .ne 18, 3) := by decide +kernel
theorem dX8_bestNumber_52 : decode cX8_bestNumber 52 = .ok (.aload_n 0, 1) := by decide +kernel
theorem dX8_bestNumber_53 : decode cX8_bestNumber 53 = .ok (.getfield 92, 3) := by decide +kernel
theorem dX8_bestNumber_56 : decode cX8_bestNumber 56 = .ok (.aload_n 0, 1) := by decide +kernel
theorem dX8_bestNumber_57 : decode cX8_bestNumber 57 = .ok (.iload 9, 2) := by decide +kernel
theorem dX8_bestNumber_59 : decode cX8_bestNumber 59 = .ok (.iload 5, 2) := by decide +kernel
theorem dX8_bestNumber_61 : decode cX8_bestNumber 61 = .ok (.invokevirtual 98, 3) := by decide +kernel
theorem dX8_bestNumber_64 : decode cX8_bestNumber 64 = .ok (.if_icmp .ge 62, 3) := by decide +kernel
theorem dX8_bestNumber_67 : decode cX8_bestNumber 67 = .ok (.aload_n 0, 1) := by decide +kernel
theorem dX8_bestNumber_68 : decode cX8_bestNumber 68 = .ok (.getfield 21, 3) := by decide +kernel
theorem dX8_bestNumber_71 : decode cX8_bestNumber 71 = .ok (.getfield 95, 3) := by decide +kernel
theorem dX8_bestNumber_74 : decode cX8_bestNumber 74 = .ok (.iload 6, 2) := by decide +kernel
theorem dX8_bestNumber_76 : decode cX8_bestNumber 76 = .ok (.iload 9, 2) := by decide +kernel
theorem dX8_bestNumber_78 : decode cX8_bestNumber 78 = .ok (.iastore, 1) := by decide +kernel
theorem dX8_bestNumber_79 : decode cX8_bestNumber 79 = .ok (.aload_n 0, 1) := by decide +kernel
theorem dX8_bestNumber_80 : decode cX8_bestNumber 80 = .ok (.iload 4, 2) := by decide +kernel
theorem dX8_bestNumber_82 : decode cX8_bestNumber 82 = .ok (.invokevirtual 102, 3) := by decide +kernel
theorem dX8_bestNumber_85 : decode cX8_bestNumber 85 = .ok (.iload_n 1, 1) := by decide +kernel
theorem dX8_bestNumber_86 : decode cX8_bestNumber 86 = .ok (.iload 5, 2) := by decide +kernel
theorem dX8_bestNumber_88 : decode cX8_bestNumber 88 = .ok (.ifCond .eq 7, 3) := by decide +kernel
theorem dX8_bestNumber_91 : decode cX8_bestNumber 91 = .ok (.iconst 1, 1) := by decide +kernel
theorem dX8_bestNumber_92 : decode cX8_bestNumber 92 = .ok (.goto 4, 3) := by decide +kernel
theorem dX8_bestNumber_95 : decode cX8_bestNumber 95 = .ok (.iconst 0, 1) := by decide +kernel
theorem dX8_bestNumber_96 : decode cX8_bestNumber 96 = .ok (.invokevirtual 106, 3) := by decide +kernel
theorem dX8_bestNumber_99 : decode cX8_bestNumber 99 = .ok (.istore 10, 2) := by decide +kernel
theorem dX8_bestNumber_101 : decode cX8_bestNumber 101 = .ok (.iload 10, 2) := by decide +kernel
theorem dX8_bestNumber_103 : decode cX8_bestNumber 103 = .ok (.aload_n 0, 1) := by decide +kernel
theorem dX8_bestNumber_104 : decode cX8_bestNumber 104 = .ok (.getfield 92, 3) := by decide +kernel
theorem dX8_bestNumber_107 : decode cX8_bestNumber 107 = .ok (.if_icmp .le 13, 3) := by decide +kernel
theorem dX8_bestNumber_110 : decode cX8_bestNumber 110 = .ok (.aload_n 0, 1) := by decide +kernel
theorem dX8_bestNumber_111 : decode cX8_bestNumber 111 = .ok (.iload 10, 2) := by decide +kernel
theorem dX8_bestNumber_113 : decode cX8_bestNumber 113 = .ok (.putfield 92, 3) := by decide +kernel
theorem dX8_bestNumber_116 : decode cX8_bestNumber 116 = .ok (.iload 9, 2) := by decide +kernel
theorem dX8_bestNumber_118 : decode cX8_bestNumber 118 = .ok (.istore 8, 2) := by decide +kernel
theorem dX8_bestNumber_120 : decode cX8_bestNumber 120 = .ok (.iinc 9 1, 3) := by decide +kernel
theorem dX8_bestNumber_123 : decode cX8_bestNumber 123 = .ok (.goto (-82), 3) := by decide +kernel
theorem dX8_bestNumber_126 : decode cX8_bestNumber 126 = .ok (.aload_n 0, 1) := by decide +kernel
theorem dX8_bestNumber_127 : decode cX8_bestNumber 127 = .ok (.getfield 21, 3) := by decide +kernel
theorem dX8_bestNumber_130 : decode cX8_bestNumber 130 = .ok (.getfield 95, 3) := by decide +kernel
theorem dX8_bestNumber_133 : decode cX8_bestNumber 133 = .ok (.iload 6, 2) := by decide +kernel
theorem dX8_bestNumber_135 : decode cX8_bestNumber 135 = .ok (.iload 7, 2) := by decide +kernel
theorem dX8_bestNumber_137 : decode cX8_bestNumber 137 = .ok (.iastore, 1) := by decide +kernel
theorem dX8_bestNumber_138 : decode cX8_bestNumber 138 = .ok (.iload 8, 2) := by decide +kernel
theorem dX8_bestNumber_140 : decode cX8_bestNumber 140 = .ok (.ireturn, 1) := by decide +kernel
theorem dX8_mostAbove_0 : decode cX8_mostAbove 0 = .ok (.iconst 0, 1) := by decide +kernel
theorem dX8_mostAbove_1 : decode cX8_mostAbove 1 = .ok (.aload_n 0, 1) := by decide +kernel
theorem dX8_mostAbove_2 : decode cX8_mostAbove 2 = .ok (.getfield 25, 3) := by decide +kernel
theorem dX8_mostAbove_5 : decode cX8_mostAbove 5 = .ok (.getfield 58, 3) := by decide +kernel
theorem dX8_mostAbove_8 : decode cX8_mostAbove 8 = .ok (.aload_n 0, 1) := by decide +kernel
theorem dX8_mostAbove_9 : decode cX8_mostAbove 9 = .ok (.getfield 25, 3) := by decide +kernel
theorem dX8_mostAbove_12 : decode cX8_mostAbove 12 = .ok (.getfield 54, 3) := by decide +kernel
theorem dX8_mostAbove_15 : decode cX8_mostAbove 15 = .ok (.iadd, 1) := by decide +kernel
theorem dX8_mostAbove_16 : decode cX8_mostAbove 16 = .ok (.iload_n 1, 1) := by decide +kernel
theorem dX8_mostAbove_17 : decode cX8_mostAbove 17 = .ok (.isub, 1) := by decide +kernel
theorem dX8_mostAbove_18 : decode cX8_mostAbove 18 = .ok (.invokestatic 86, 3) := by decide +kernel
theorem dX8_mostAbove_21 : decode cX8_mostAbove 21 = .ok (.istore_n 3, 1) := by decide +kernel
theorem dX8_mostAbove_22 : decode cX8_mostAbove 22 = .ok (.iload_n 2, 1) := by decide +kernel
theorem dX8_mostAbove_23 : decode cX8_mostAbove 23 = .ok (.ifCond .eq 19, 3) := by decide +kernel
theorem dX8_mostAbove_26 : decode cX8_mostAbove 26 = .ok (.iload_n 3, 1) := by decide +kernel
theorem dX8_mostAbove_27 : decode cX8_mostAbove 27 = .ok (.iconst 1, 1) := by decide +kernel
theorem dX8_mostAbove_28 : decode cX8_mostAbove 28 = .ok (.aload_n 0, 1) := by decide +kernel
theorem dX8_mostAbove_29 : decode cX8_mostAbove 29 = .ok (.getfield 21, 3) := by decide +kernel
theorem dX8_mostAbove_32 : decode cX8_mostAbove 32 = .ok (.bipush 10, 2) := by decide +kernel
theorem dX8_mostAbove_34 : decode cX8_mostAbove 34 = .ok (.invokevirtual 109, 3) := by decide +kernel
theorem dX8_mostAbove_37 : decode cX8_mostAbove 37 = .ok (.iadd, 1) := by decide +kernel
theorem dX8_mostAbove_38 : decode cX8_mostAbove 38 = .ok (.imul, 1) := by decide +kernel
theorem dX8_mostAbove_39 : decode cX8_mostAbove 39 = .ok (.goto 4, 3) := by decide +kernel
theorem dX8_mostAbove_42 : decode cX8_mostAbove 42 = .ok (.iload_n 3, 1) := by decide +kernel
theorem dX8_mostAbove_43 : decode cX8_mostAbove 43 = .ok (.ireturn, 1) := by decide +kernel
theorem dX8_together_0 : decode cX8_together 0 = .ok (.aload_n 0, 1) := by decide +kernel
theorem dX8_together_1 : decode cX8_together 1 = .ok (.getfield 21, 3) := by decide +kernel
theorem dX8_together_4 : decode cX8_together 4 = .ok (.iconst 0, 1) := by decide +kernel
theorem dX8_together_5 : decode cX8_together 5 = .ok (.iconst 0, 1) := by decide +kernel
theorem dX8_together_6 : decode cX8_together 6 = .ok (.invokevirtual 83, 3) := by decide +kernel
theorem dX8_together_9 : decode cX8_together 9 = .ok (.istore_n 2, 1) := by decide +kernel
theorem dX8_together_10 : decode cX8_together 10 = .ok (.aload_n 0, 1) := by decide +kernel
theorem dX8_together_11 : decode cX8_together 11 = .ok (.getfield 21, 3) := by decide +kernel
theorem dX8_together_14 : decode cX8_together 14 = .ok (.iconst 1, 1) := by decide +kernel
theorem dX8_together_15 : decode cX8_together 15 = .ok (.iconst 0, 1) := by decide +kernel
theorem dX8_together_16 : decode cX8_together 16 = .ok (.invokevirtual 83, 3) := by decide +kernel
theorem dX8_together_19 : decode cX8_together 19 = .ok (.istore_n 3, 1) := by decide +kernel
theorem dX8_together_20 : decode cX8_together 20 = .ok (.iconst 0, 1) := by decide +kernel
theorem dX8_together_21 : decode cX8_together 21 = .ok (.istore 4, 2) := by decide +kernel
theorem dX8_together_23 : decode cX8_together 23 = .ok (.iconst (-1), 1) := by decide +kernel
theorem dX8_together_24 : decode cX8_together 24 = .ok (.istore 5, 2) := by decide +kernel
theorem dX8_together_26 : decode cX8_together 26 = .ok (.iconst 0, 1) := by decide +kernel
theorem dX8_together_27 : decode cX8_together 27 = .ok (.istore 6, 2) := by decide +kernel
theorem dX8_together_29 : decode cX8_together 29 = .ok (.iload 6, 2) := by decide +kernel
theorem dX8_together_31 : decode cX8_together 31 = .ok (.iload_n 2, 1) := by decide +kernel
theorem dX8_together_32 : decode cX8_together 32 = .ok (.if_icmp .gt 77, 3) := by decide +kernel
theorem dX8_together_35 : decode cX8_together 35 = .ok (.iconst 0, 1) := by decide +kernel
theorem dX8_together_36 : decode cX8_together 36 = .ok (.istore 7, 2) := by decide +kernel
theorem dX8_together_38 : decode cX8_together 38 = .ok (.iload 7, 2) := by decide +kernel
theorem dX8_together_40 : decode cX8_together 40 = .ok (.iload_n 3, 1) := by decide +kernel
theorem dX8_together_41 : decode cX8_together 41 = .ok (.if_icmp .gt 62, 3) := by decide +kernel
theorem dX8_together_44 : decode cX8_together 44 = .ok (.aload_n 0, 1) := by decide +kernel
theorem dX8_together_45 : decode cX8_together 45 = .ok (.iload 6, 2) := by decide +kernel
theorem dX8_together_47 : decode cX8_together 47 = .ok (.iload 7, 2) := by decide +kernel
theorem dX8_together_49 : decode cX8_together 49 = .ok (.invokevirtual 113, 3) := by decide +kernel
theorem dX8_together_52 : decode cX8_together 52 = .ok (.aload_n 0, 1) := by decide +kernel
theorem dX8_together_53 : decode cX8_together 53 = .ok (.iload_n 1, 1) := by decide +kernel
theorem dX8_together_54 : decode cX8_together 54 = .ok (.invokevirtual 102, 3) := by decide +kernel
theorem dX8_together_57 : decode cX8_together 57 = .ok (.astore 8, 2) := by decide +kernel
theorem dX8_together_59 : decode cX8_together 59 = .ok (.aload 8, 2) := by decide +kernel
theorem dX8_together_61 : decode cX8_together 61 = .ok (.getfield 117, 3) := by decide +kernel
theorem dX8_together_64 : decode cX8_together 64 = .ok (.iconst 0, 1) := by decide +kernel
theorem dX8_together_65 : decode cX8_together 65 = .ok (.iaload, 1) := by decide +kernel
theorem dX8_together_66 : decode cX8_together 66 = .ok (.aload 8, 2) := by decide +kernel
theorem dX8_together_68 : decode cX8_together 68 = .ok (.getfield 117, 3) := by decide +kernel
theorem dX8_together_71 : decode cX8_together 71 = .ok (.iconst 1, 1) := by decide +kernel
theorem dX8_together_72 : decode cX8_together 72 = .ok (.iaload, 1) := by decide +kernel
theorem dX8_together_73 : decode cX8_together 73 = .ok (.iadd, 1) := by decide +kernel
theorem dX8_together_74 : decode cX8_together 74 = .ok (.istore 9, 2) := by decide +kernel
theorem dX8_together_76 : decode cX8_together 76 = .ok (.iload 9, 2) := by decide +kernel
theorem dX8_together_78 : decode cX8_together 78 = .ok (.iload 5, 2) := by decide +kernel
theorem dX8_together_80 : decode cX8_together 80 = .ok (.if_icmp .le 17, 3) := by decide +kernel
theorem dX8_together_83 : decode cX8_together 83 = .ok (.iload 9, 2) := by decide +kernel
theorem dX8_together_85 : decode cX8_together 85 = .ok (.istore 5, 2) := by decide +kernel
theorem dX8_together_87 : decode cX8_together 87 = .ok (.bipush 100, 2) := by decide +kernel
theorem dX8_together_89 : decode cX8_together 89 = .ok (.iload 6, 2) := by decide +kernel
theorem dX8_together_91 : decode cX8_together 91 = .ok (.imul, 1) := by decide +kernel
theorem dX8_together_92 : decode cX8_together 92 = .ok (.iload 7, 2) := by decide +kernel
theorem dX8_together_94 : decode cX8_together 94 = .ok (.iadd, 1) := by decide +kernel
theorem dX8_together_95 : decode cX8_together 95 = .ok (.istore 4, 2) := by decide +kernel
theorem dX8_together_97 : decode cX8_together 97 = .ok (.iinc 7 1, 3) := by decide +kernel
theorem dX8_together_100 : decode cX8_together 100 = .ok (.goto (-62), 3) := by decide +kernel
theorem dX8_together_103 : decode cX8_together 103 = .ok (.iinc 6 1, 3) := by decide +kernel
theorem dX8_together_106 : decode cX8_together 106 = .ok (.goto (-77), 3) := by decide +kernel
theorem dX8_together_109 : decode cX8_together 109 = .ok (.aload_n 0, 1) := by decide +kernel
theorem dX8_together_110 : decode cX8_together 110 = .ok (.iload_n 2, 1) := by decide +kernel
theorem dX8_together_111 : decode cX8_together 111 = .ok (.iload_n 3, 1) := by decide +kernel
theorem dX8_together_112 : decode cX8_together 112 = .ok (.invokevirtual 113, 3) := by decide +kernel
theorem dX8_together_115 : decode cX8_together 115 = .ok (.iload 4, 2) := by decide +kernel
theorem dX8_together_117 : decode cX8_together 117 = .ok (.ireturn, 1) := by decide +kernel
theorem dX8_selfish_0 : decode cX8_selfish 0 = .ok (.bipush 20, 2) := by decide +kernel
theorem dX8_selfish_2 : decode cX8_selfish 2 = .ok (.aload_n 0, 1) := by decide +kernel
theorem dX8_selfish_3 : decode cX8_selfish 3 = .ok (.getfield 21, 3) := by decide +kernel
theorem dX8_selfish_6 : decode cX8_selfish 6 = .ok (.iconst 0, 1) := by decide +kernel
theorem dX8_selfish_7 : decode cX8_selfish 7 = .ok (.iconst 0, 1) := by decide +kernel
theorem dX8_selfish_8 : decode cX8_selfish 8 = .ok (.invokevirtual 83, 3) := by decide +kernel
theorem dX8_selfish_11 : decode cX8_selfish 11 = .ok (.invokestatic 75, 3) := by decide +kernel
theorem dX8_selfish_14 : decode cX8_selfish 14 = .ok (.istore_n 2, 1) := by decide +kernel
theorem dX8_selfish_15 : decode cX8_selfish 15 = .ok (.bipush 20, 2) := by decide +kernel
theorem dX8_selfish_17 : decode cX8_selfish 17 = .ok (.aload_n 0, 1) := by decide +kernel
theorem dX8_selfish_18 : decode cX8_selfish 18 = .ok (.getfield 21, 3) := by decide +kernel
theorem dX8_selfish_21 : decode cX8_selfish 21 = .ok (.iconst 1, 1) := by decide +kernel
theorem dX8_selfish_22 : decode cX8_selfish 22 = .ok (.iconst 0, 1) := by decide +kernel
theorem dX8_selfish_23 : decode cX8_selfish 23 = .ok (.invokevirtual 83, 3) := by decide +kernel
theorem dX8_selfish_26 : decode cX8_selfish 26 = .ok (.invokestatic 75, 3) := by decide +kernel
theorem dX8_selfish_29 : decode cX8_selfish 29 = .ok (.istore_n 3, 1) := by decide +kernel
theorem dX8_selfish_30 : decode cX8_selfish 30 = .ok (.iconst 0, 1) := by decide +kernel
theorem dX8_selfish_31 : decode cX8_selfish 31 = .ok (.istore 4, 2) := by decide +kernel
theorem dX8_selfish_33 : decode cX8_selfish 33 = .ok (.iload 4, 2) := by decide +kernel
theorem dX8_selfish_35 : decode cX8_selfish 35 = .ok (.iload_n 2, 1) := by decide +kernel
theorem dX8_selfish_36 : decode cX8_selfish 36 = .ok (.if_icmp .gt 79, 3) := by decide +kernel
theorem dX8_selfish_39 : decode cX8_selfish 39 = .ok (.iconst 0, 1) := by decide +kernel
theorem dX8_selfish_40 : decode cX8_selfish 40 = .ok (.istore 5, 2) := by decide +kernel
theorem dX8_selfish_42 : decode cX8_selfish 42 = .ok (.iload 5, 2) := by decide +kernel
theorem dX8_selfish_44 : decode cX8_selfish 44 = .ok (.iload_n 3, 1) := by decide +kernel
theorem dX8_selfish_45 : decode cX8_selfish 45 = .ok (.if_icmp .gt 64, 3) := by decide +kernel
theorem dX8_selfish_48 : decode cX8_selfish 48 = .ok (.aload_n 0, 1) := by decide +kernel
theorem dX8_selfish_49 : decode cX8_selfish 49 = .ok (.iload 4, 2) := by decide +kernel
theorem dX8_selfish_51 : decode cX8_selfish 51 = .ok (.iload 5, 2) := by decide +kernel
theorem dX8_selfish_53 : decode cX8_selfish 53 = .ok (.invokevirtual 113, 3) := by decide +kernel
theorem dX8_selfish_56 : decode cX8_selfish 56 = .ok (.aload_n 0, 1) := by decide +kernel
theorem dX8_selfish_57 : decode cX8_selfish 57 = .ok (.iload_n 1, 1) := by decide +kernel
theorem dX8_selfish_58 : decode cX8_selfish 58 = .ok (.invokevirtual 102, 3) := by decide +kernel
theorem dX8_selfish_61 : decode cX8_selfish 61 = .ok (.astore 6, 2) := by decide +kernel
theorem dX8_selfish_63 : decode cX8_selfish 63 = .ok (.aload_n 0, 1) := by decide +kernel
theorem dX8_selfish_64 : decode cX8_selfish 64 = .ok (.getfield 15, 3) := by decide +kernel
theorem dX8_selfish_67 : decode cX8_selfish 67 = .ok (.iload 4, 2) := by decide +kernel
theorem dX8_selfish_69 : decode cX8_selfish 69 = .ok (.bipush 21, 2) := by decide +kernel
theorem dX8_selfish_71 : decode cX8_selfish 71 = .ok (.imul, 1) := by decide +kernel
theorem dX8_selfish_72 : decode cX8_selfish 72 = .ok (.iload 5, 2) := by decide +kernel
theorem dX8_selfish_74 : decode cX8_selfish 74 = .ok (.iadd, 1) := by decide +kernel
theorem dX8_selfish_75 : decode cX8_selfish 75 = .ok (.aload 6, 2) := by decide +kernel
theorem dX8_selfish_77 : decode cX8_selfish 77 = .ok (.getfield 68, 3) := by decide +kernel
theorem dX8_selfish_80 : decode cX8_selfish 80 = .ok (.iconst 0, 1) := by decide +kernel
theorem dX8_selfish_81 : decode cX8_selfish 81 = .ok (.iaload, 1) := by decide +kernel
theorem dX8_selfish_82 : decode cX8_selfish 82 = .ok (.iastore, 1) := by decide +kernel
theorem dX8_selfish_83 : decode cX8_selfish 83 = .ok (.aload_n 0, 1) := by decide +kernel
theorem dX8_selfish_84 : decode cX8_selfish 84 = .ok (.getfield 18, 3) := by decide +kernel
theorem dX8_selfish_87 : decode cX8_selfish 87 = .ok (.iload 4, 2) := by decide +kernel
theorem dX8_selfish_89 : decode cX8_selfish 89 = .ok (.bipush 21, 2) := by decide +kernel
theorem dX8_selfish_91 : decode cX8_selfish 91 = .ok (.imul, 1) := by decide +kernel
theorem dX8_selfish_92 : decode cX8_selfish 92 = .ok (.iload 5, 2) := by decide +kernel
theorem dX8_selfish_94 : decode cX8_selfish 94 = .ok (.iadd, 1) := by decide +kernel
theorem dX8_selfish_95 : decode cX8_selfish 95 = .ok (.aload 6, 2) := by decide +kernel
theorem dX8_selfish_97 : decode cX8_selfish 97 = .ok (.getfield 68, 3) := by decide +kernel
theorem dX8_selfish_100 : decode cX8_selfish 100 = .ok (.iconst 1, 1) := by decide +kernel
theorem dX8_selfish_101 : decode cX8_selfish 101 = .ok (.iaload, 1) := by decide +kernel
theorem dX8_selfish_102 : decode cX8_selfish 102 = .ok (.iastore, 1) := by decide +kernel
theorem dX8_selfish_103 : decode cX8_selfish 103 = .ok (.iinc 5 1, 3) := by decide +kernel
theorem dX8_selfish_106 : decode cX8_selfish 106 = .ok (.goto (-64), 3) := by decide +kernel
theorem dX8_selfish_109 : decode cX8_selfish 109 = .ok (.iinc 4 1, 3) := by decide +kernel
theorem dX8_selfish_112 : decode cX8_selfish 112 = .ok (.goto (-79), 3) := by decide +kernel
theorem dX8_selfish_115 : decode cX8_selfish 115 = .ok (.aload_n 0, 1) := by decide +kernel
theorem dX8_selfish_116 : decode cX8_selfish 116 = .ok (.iload_n 2, 1) := by decide +kernel
theorem dX8_selfish_117 : decode cX8_selfish 117 = .ok (.iload_n 3, 1) := by decide +kernel
theorem dX8_selfish_118 : decode cX8_selfish 118 = .ok (.invokevirtual 113, 3) := by decide +kernel
theorem dX8_selfish_121 : decode cX8_selfish 121 = .ok (.iconst 0, 1) := by decide +kernel
theorem dX8_selfish_122 : decode cX8_selfish 122 = .ok (.istore 4, 2) := by decide +kernel
theorem dX8_selfish_124 : decode cX8_selfish 124 = .ok (.iload 4, 2) := by decide +kernel
theorem dX8_selfish_126 : decode cX8_selfish 126 = .ok (.iload_n 2, 1) := by decide +kernel
theorem dX8_selfish_127 : decode cX8_selfish 127 = .ok (.if_icmp .gt 46, 3) := by decide +kernel
theorem dX8_selfish_130 : decode cX8_selfish 130 = .ok (.iconst 0, 1) := by decide +kernel
theorem dX8_selfish_131 : decode cX8_selfish 131 = .ok (.istore 5, 2) := by decide +kernel
theorem dX8_selfish_133 : decode cX8_selfish 133 = .ok (.iload 5, 2) := by decide +kernel
theorem dX8_selfish_135 : decode cX8_selfish 135 = .ok (.iload_n 3, 1) := by decide +kernel
theorem dX8_selfish_136 : decode cX8_selfish 136 = .ok (.if_icmp .gt 31, 3) := by decide +kernel
theorem dX8_selfish_139 : decode cX8_selfish 139 = .ok (.aload_n 0, 1) := by decide +kernel
theorem dX8_selfish_140 : decode cX8_selfish 140 = .ok (.iload 4, 2) := by decide +kernel
theorem dX8_selfish_142 : decode cX8_selfish 142 = .ok (.iload 5, 2) := by decide +kernel
theorem dX8_selfish_144 : decode cX8_selfish 144 = .ok (.iload_n 2, 1) := by decide +kernel
theorem dX8_selfish_145 : decode cX8_selfish 145 = .ok (.iload_n 3, 1) := by decide +kernel
theorem dX8_selfish_146 : decode cX8_selfish 146 = .ok (.invokevirtual 120, 3) := by decide +kernel
theorem dX8_selfish_149 : decode cX8_selfish 149 = .ok (.ifCond .eq 12, 3) := by decide +kernel
theorem dX8_selfish_152 : decode cX8_selfish 152 = .ok (.bipush 100, 2) := by decide +kernel
theorem dX8_selfish_154 : decode cX8_selfish 154 = .ok (.iload 4, 2) := by decide +kernel
theorem dX8_selfish_156 : decode cX8_selfish 156 = .ok (.imul, 1) := by decide +kernel
theorem dX8_selfish_157 : decode cX8_selfish 157 = .ok (.iload 5, 2) := by decide +kernel
theorem dX8_selfish_159 : decode cX8_selfish 159 = .ok (.iadd, 1) := by decide +kernel
theorem dX8_selfish_160 : decode cX8_selfish 160 = .ok (.ireturn, 1) := by decide +kernel
theorem dX8_selfish_161 : decode cX8_selfish 161 = .ok (.iinc 5 1, 3) := by decide +kernel
theorem dX8_selfish_164 : decode cX8_selfish 164 = .ok (.goto (-31), 3) := by decide +kernel
theorem dX8_selfish_167 : decode cX8_selfish 167 = .ok (.iinc 4 1, 3) := by decide +kernel
theorem dX8_selfish_170 : decode cX8_selfish 170 = .ok (.goto (-46), 3) := by decide +kernel
theorem dX8_selfish_173 : decode cX8_selfish 173 = .ok (.bipush (-2), 2) := by decide +kernel
theorem dX8_selfish_175 : decode cX8_selfish 175 = .ok (.ireturn, 1) := by decide +kernel
theorem dX8_setStrengths_0 : decode cX8_setStrengths 0 = .ok (.aload_n 0, 1) := by decide +kernel
theorem dX8_setStrengths_1 : decode cX8_setStrengths 1 = .ok (.getfield 21, 3) := by decide +kernel
theorem dX8_setStrengths_4 : decode cX8_setStrengths 4 = .ok (.getfield 95, 3) := by decide +kernel
theorem dX8_setStrengths_7 : decode cX8_setStrengths 7 = .ok (.iconst 0, 1) := by decide +kernel
theorem dX8_setStrengths_8 : decode cX8_setStrengths 8 = .ok (.iload_n 1, 1) := by decide +kernel
theorem dX8_setStrengths_9 : decode cX8_setStrengths 9 = .ok (.iastore, 1) := by decide +kernel
theorem dX8_setStrengths_10 : decode cX8_setStrengths 10 = .ok (.aload_n 0, 1) := by decide +kernel
theorem dX8_setStrengths_11 : decode cX8_setStrengths 11 = .ok (.getfield 21, 3) := by decide +kernel
theorem dX8_setStrengths_14 : decode cX8_setStrengths 14 = .ok (.getfield 95, 3) := by decide +kernel
theorem dX8_setStrengths_17 : decode cX8_setStrengths 17 = .ok (.bipush 8, 2) := by decide +kernel
theorem dX8_setStrengths_19 : decode cX8_setStrengths 19 = .ok (.iload_n 2, 1) := by decide +kernel
theorem dX8_setStrengths_20 : decode cX8_setStrengths 20 = .ok (.iastore, 1) := by decide +kernel
theorem dX8_setStrengths_21 : decode cX8_setStrengths 21 = .ok (.return_, 1) := by decide +kernel
theorem dX8_isContent_0 : decode cX8_isContent 0 = .ok (.iconst 0, 1) := by decide +kernel
theorem dX8_isContent_1 : decode cX8_isContent 1 = .ok (.istore 5, 2) := by decide +kernel
theorem dX8_isContent_3 : decode cX8_isContent 3 = .ok (.iload 5, 2) := by decide +kernel
theorem dX8_isContent_5 : decode cX8_isContent 5 = .ok (.iload_n 3, 1) := by decide +kernel
theorem dX8_isContent_6 : decode cX8_isContent 6 = .ok (.if_icmp .gt 37, 3) := by decide +kernel
theorem dX8_isContent_9 : decode cX8_isContent 9 = .ok (.aload_n 0, 1) := by decide +kernel
theorem dX8_isContent_10 : decode cX8_isContent 10 = .ok (.getfield 15, 3) := by decide +kernel
theorem dX8_isContent_13 : decode cX8_isContent 13 = .ok (.iload 5, 2) := by decide +kernel
theorem dX8_isContent_15 : decode cX8_isContent 15 = .ok (.bipush 21, 2) := by decide +kernel
theorem dX8_isContent_17 : decode cX8_isContent 17 = .ok (.imul, 1) := by decide +kernel
theorem dX8_isContent_18 : decode cX8_isContent 18 = .ok (.iload_n 2, 1) := by decide +kernel
theorem dX8_isContent_19 : decode cX8_isContent 19 = .ok (.iadd, 1) := by decide +kernel
theorem dX8_isContent_20 : decode cX8_isContent 20 = .ok (.iaload, 1) := by decide +kernel
theorem dX8_isContent_21 : decode cX8_isContent 21 = .ok (.aload_n 0, 1) := by decide +kernel
theorem dX8_isContent_22 : decode cX8_isContent 22 = .ok (.getfield 15, 3) := by decide +kernel
theorem dX8_isContent_25 : decode cX8_isContent 25 = .ok (.iload_n 1, 1) := by decide +kernel
theorem dX8_isContent_26 : decode cX8_isContent 26 = .ok (.bipush 21, 2) := by decide +kernel
theorem dX8_isContent_28 : decode cX8_isContent 28 = .ok (.imul, 1) := by decide +kernel
theorem dX8_isContent_29 : decode cX8_isContent 29 = .ok (.iload_n 2, 1) := by decide +kernel
theorem dX8_isContent_30 : decode cX8_isContent 30 = .ok (.iadd, 1) := by decide +kernel
theorem dX8_isContent_31 : decode cX8_isContent 31 = .ok (.iaload, 1) := by decide +kernel
theorem dX8_isContent_32 : decode cX8_isContent 32 = .ok (.if_icmp .le 5, 3) := by decide +kernel
theorem dX8_isContent_35 : decode cX8_isContent 35 = .ok (.iconst 0, 1) := by decide +kernel
theorem dX8_isContent_36 : decode cX8_isContent 36 = .ok (.ireturn, 1) := by decide +kernel
theorem dX8_isContent_37 : decode cX8_isContent 37 = .ok (.iinc 5 1, 3) := by decide +kernel
theorem dX8_isContent_40 : decode cX8_isContent 40 = .ok (.goto (-37), 3) := by decide +kernel
theorem dX8_isContent_43 : decode cX8_isContent 43 = .ok (.iconst 0, 1) := by decide +kernel
theorem dX8_isContent_44 : decode cX8_isContent 44 = .ok (.istore 5, 2) := by decide +kernel
theorem dX8_isContent_46 : decode cX8_isContent 46 = .ok (.iload 5, 2) := by decide +kernel
theorem dX8_isContent_48 : decode cX8_isContent 48 = .ok (.iload 4, 2) := by decide +kernel
theorem dX8_isContent_50 : decode cX8_isContent 50 = .ok (.if_icmp .gt 37, 3) := by decide +kernel
theorem dX8_isContent_53 : decode cX8_isContent 53 = .ok (.aload_n 0, 1) := by decide +kernel
theorem dX8_isContent_54 : decode cX8_isContent 54 = .ok (.getfield 18, 3) := by decide +kernel
theorem dX8_isContent_57 : decode cX8_isContent 57 = .ok (.iload_n 1, 1) := by decide +kernel
theorem dX8_isContent_58 : decode cX8_isContent 58 = .ok (.bipush 21, 2) := by decide +kernel
theorem dX8_isContent_60 : decode cX8_isContent 60 = .ok (.imul, 1) := by decide +kernel
theorem dX8_isContent_61 : decode cX8_isContent 61 = .ok (.iload 5, 2) := by decide +kernel
theorem dX8_isContent_63 : decode cX8_isContent 63 = .ok (.iadd, 1) := by decide +kernel
theorem dX8_isContent_64 : decode cX8_isContent 64 = .ok (.iaload, 1) := by decide +kernel
theorem dX8_isContent_65 : decode cX8_isContent 65 = .ok (.aload_n 0, 1) := by decide +kernel
theorem dX8_isContent_66 : decode cX8_isContent 66 = .ok (.getfield 18, 3) := by decide +kernel
theorem dX8_isContent_69 : decode cX8_isContent 69 = .ok (.iload_n 1, 1) := by decide +kernel
theorem dX8_isContent_70 : decode cX8_isContent 70 = .ok (.bipush 21, 2) := by decide +kernel
theorem dX8_isContent_72 : decode cX8_isContent 72 = .ok (.imul, 1) := by decide +kernel
theorem dX8_isContent_73 : decode cX8_isContent 73 = .ok (.iload_n 2, 1) := by decide +kernel
theorem dX8_isContent_74 : decode cX8_isContent 74 = .ok (.iadd, 1) := by decide +kernel
theorem dX8_isContent_75 : decode cX8_isContent 75 = .ok (.iaload, 1) := by decide +kernel
theorem dX8_isContent_76 : decode cX8_isContent 76 = .ok (.if_icmp .le 5, 3) := by decide +kernel
theorem dX8_isContent_79 : decode cX8_isContent 79 = .ok (.iconst 0, 1) := by decide +kernel
theorem dX8_isContent_80 : decode cX8_isContent 80 = .ok (.ireturn, 1) := by decide +kernel
theorem dX8_isContent_81 : decode cX8_isContent 81 = .ok (.iinc 5 1, 3) := by decide +kernel
theorem dX8_isContent_84 : decode cX8_isContent 84 = .ok (.goto (-38), 3) := by decide +kernel
theorem dX8_isContent_87 : decode cX8_isContent 87 = .ok (.iconst 1, 1) := by decide +kernel
theorem dX8_isContent_88 : decode cX8_isContent 88 = .ok (.ireturn, 1) := by decide +kernel
theorem dX8_othersGot_0 : decode cX8_othersGot 0 = .ok (.aload_n 0, 1) := by decide +kernel
theorem dX8_othersGot_1 : decode cX8_othersGot 1 = .ok (.getfield 21, 3) := by decide +kernel
theorem dX8_othersGot_4 : decode cX8_othersGot 4 = .ok (.iload_n 1, 1) := by decide +kernel
theorem dX8_othersGot_5 : decode cX8_othersGot 5 = .ok (.bipush 6, 2) := by decide +kernel
theorem dX8_othersGot_7 : decode cX8_othersGot 7 = .ok (.invokevirtual 89, 3) := by decide +kernel
theorem dX8_othersGot_10 : decode cX8_othersGot 10 = .ok (.istore 4, 2) := by decide +kernel
theorem dX8_othersGot_12 : decode cX8_othersGot 12 = .ok (.iload 4, 2) := by decide +kernel
theorem dX8_othersGot_14 : decode cX8_othersGot 14 = .ok (.ifCond .ge 5, 3) := by decide +kernel
theorem dX8_othersGot_17 : decode cX8_othersGot 17 = .ok (.iconst 0, 1) := by decide +kernel
theorem dX8_othersGot_18 : decode cX8_othersGot 18 = .ok (.ireturn, 1) := by decide +kernel
theorem dX8_othersGot_19 : decode cX8_othersGot 19 = .ok (.aload_n 0, 1) := by decide +kernel
theorem dX8_othersGot_20 : decode cX8_othersGot 20 = .ok (.getfield 21, 3) := by decide +kernel
theorem dX8_othersGot_23 : decode cX8_othersGot 23 = .ok (.getfield 95, 3) := by decide +kernel
theorem dX8_othersGot_26 : decode cX8_othersGot 26 = .ok (.iload 4, 2) := by decide +kernel
theorem dX8_othersGot_28 : decode cX8_othersGot 28 = .ok (.iaload, 1) := by decide +kernel
theorem dX8_othersGot_29 : decode cX8_othersGot 29 = .ok (.istore 5, 2) := by decide +kernel
theorem dX8_othersGot_31 : decode cX8_othersGot 31 = .ok (.aload_n 0, 1) := by decide +kernel
theorem dX8_othersGot_32 : decode cX8_othersGot 32 = .ok (.getfield 21, 3) := by decide +kernel
theorem dX8_othersGot_35 : decode cX8_othersGot 35 = .ok (.getfield 95, 3) := by decide +kernel
theorem dX8_othersGot_38 : decode cX8_othersGot 38 = .ok (.iload 4, 2) := by decide +kernel
theorem dX8_othersGot_40 : decode cX8_othersGot 40 = .ok (.iload_n 2, 1) := by decide +kernel
theorem dX8_othersGot_41 : decode cX8_othersGot 41 = .ok (.iastore, 1) := by decide +kernel
theorem dX8_othersGot_42 : decode cX8_othersGot 42 = .ok (.aload_n 0, 1) := by decide +kernel
theorem dX8_othersGot_43 : decode cX8_othersGot 43 = .ok (.iload_n 3, 1) := by decide +kernel
theorem dX8_othersGot_44 : decode cX8_othersGot 44 = .ok (.invokevirtual 102, 3) := by decide +kernel
theorem dX8_othersGot_47 : decode cX8_othersGot 47 = .ok (.pop, 1) := by decide +kernel
theorem dX8_othersGot_48 : decode cX8_othersGot 48 = .ok (.aload_n 0, 1) := by decide +kernel
theorem dX8_othersGot_49 : decode cX8_othersGot 49 = .ok (.getfield 21, 3) := by decide +kernel
theorem dX8_othersGot_52 : decode cX8_othersGot 52 = .ok (.getfield 95, 3) := by decide +kernel
theorem dX8_othersGot_55 : decode cX8_othersGot 55 = .ok (.iload 4, 2) := by decide +kernel
theorem dX8_othersGot_57 : decode cX8_othersGot 57 = .ok (.iload 5, 2) := by decide +kernel
theorem dX8_othersGot_59 : decode cX8_othersGot 59 = .ok (.iastore, 1) := by decide +kernel
theorem dX8_othersGot_60 : decode cX8_othersGot 60 = .ok (.iconst 0, 1) := by decide +kernel
theorem dX8_othersGot_61 : decode cX8_othersGot 61 = .ok (.istore 6, 2) := by decide +kernel
theorem dX8_othersGot_63 : decode cX8_othersGot 63 = .ok (.iconst 0, 1) := by decide +kernel
theorem dX8_othersGot_64 : decode cX8_othersGot 64 = .ok (.istore 7, 2) := by decide +kernel
theorem dX8_othersGot_66 : decode cX8_othersGot 66 = .ok (.iload 7, 2) := by decide +kernel
theorem dX8_othersGot_68 : decode cX8_othersGot 68 = .ok (.aload_n 0, 1) := by decide +kernel
theorem dX8_othersGot_69 : decode cX8_othersGot 69 = .ok (.getfield 21, 3) := by decide +kernel
theorem dX8_othersGot_72 : decode cX8_othersGot 72 = .ok (.getfield 65, 3) := by decide +kernel
theorem dX8_othersGot_75 : decode cX8_othersGot 75 = .ok (.if_icmp .ge 30, 3) := by decide +kernel
theorem dX8_othersGot_78 : decode cX8_othersGot 78 = .ok (.iload 7, 2) := by decide +kernel
theorem dX8_othersGot_80 : decode cX8_othersGot 80 = .ok (.iload_n 1, 1) := by decide +kernel
theorem dX8_othersGot_81 : decode cX8_othersGot 81 = .ok (.if_icmp .eq 18, 3) := by decide +kernel
theorem dX8_othersGot_84 : decode cX8_othersGot 84 = .ok (.iload 6, 2) := by decide +kernel
theorem dX8_othersGot_86 : decode cX8_othersGot 86 = .ok (.aload_n 0, 1) := by decide +kernel
theorem dX8_othersGot_87 : decode cX8_othersGot 87 = .ok (.getfield 34, 3) := by decide +kernel
theorem dX8_othersGot_90 : decode cX8_othersGot 90 = .ok (.getfield 68, 3) := by decide +kernel
theorem dX8_othersGot_93 : decode cX8_othersGot 93 = .ok (.iload 7, 2) := by decide +kernel
theorem dX8_othersGot_95 : decode cX8_othersGot 95 = .ok (.iaload, 1) := by decide +kernel
theorem dX8_othersGot_96 : decode cX8_othersGot 96 = .ok (.iadd, 1) := by decide +kernel
theorem dX8_othersGot_97 : decode cX8_othersGot 97 = .ok (.istore 6, 2) := by decide +kernel
theorem dX8_othersGot_99 : decode cX8_othersGot 99 = .ok (.iinc 7 1, 3) := by decide +kernel
theorem dX8_othersGot_102 : decode cX8_othersGot 102 = .ok (.goto (-36), 3) := by decide +kernel
theorem dX8_othersGot_105 : decode cX8_othersGot 105 = .ok (.iload 6, 2) := by decide +kernel
theorem dX8_othersGot_107 : decode cX8_othersGot 107 = .ok (.ireturn, 1) := by decide +kernel
theorem dX8_lastGain_0 : decode cX8_lastGain 0 = .ok (.iconst 0, 1) := by decide +kernel
theorem dX8_lastGain_1 : decode cX8_lastGain 1 = .ok (.istore_n 2, 1) := by decide +kernel
theorem dX8_lastGain_2 : decode cX8_lastGain 2 = .ok (.aload_n 0, 1) := by decide +kernel
theorem dX8_lastGain_3 : decode cX8_lastGain 3 = .ok (.getfield 34, 3) := by decide +kernel
theorem dX8_lastGain_6 : decode cX8_lastGain 6 = .ok (.aload_n 0, 1) := by decide +kernel
theorem dX8_lastGain_7 : decode cX8_lastGain 7 = .ok (.getfield 25, 3) := by decide +kernel
theorem dX8_lastGain_10 : decode cX8_lastGain 10 = .ok (.invokevirtual 40, 3) := by decide +kernel
theorem dX8_lastGain_13 : decode cX8_lastGain 13 = .ok (.iconst 0, 1) := by decide +kernel
theorem dX8_lastGain_14 : decode cX8_lastGain 14 = .ok (.istore_n 3, 1) := by decide +kernel
theorem dX8_lastGain_15 : decode cX8_lastGain 15 = .ok (.iload_n 3, 1) := by decide +kernel
theorem dX8_lastGain_16 : decode cX8_lastGain 16 = .ok (.bipush 99, 2) := by decide +kernel
theorem dX8_lastGain_18 : decode cX8_lastGain 18 = .ok (.if_icmp .ge 55, 3) := by decide +kernel
theorem dX8_lastGain_21 : decode cX8_lastGain 21 = .ok (.aload_n 0, 1) := by decide +kernel
theorem dX8_lastGain_22 : decode cX8_lastGain 22 = .ok (.getfield 34, 3) := by decide +kernel
theorem dX8_lastGain_25 : decode cX8_lastGain 25 = .ok (.getfield 68, 3) := by decide +kernel
theorem dX8_lastGain_28 : decode cX8_lastGain 28 = .ok (.iload_n 1, 1) := by decide +kernel
theorem dX8_lastGain_29 : decode cX8_lastGain 29 = .ok (.iaload, 1) := by decide +kernel
theorem dX8_lastGain_30 : decode cX8_lastGain 30 = .ok (.istore 4, 2) := by decide +kernel
theorem dX8_lastGain_32 : decode cX8_lastGain 32 = .ok (.aload_n 0, 1) := by decide +kernel
theorem dX8_lastGain_33 : decode cX8_lastGain 33 = .ok (.getfield 34, 3) := by decide +kernel
theorem dX8_lastGain_36 : decode cX8_lastGain 36 = .ok (.bipush 7, 2) := by decide +kernel
theorem dX8_lastGain_38 : decode cX8_lastGain 38 = .ok (.iconst 1, 1) := by decide +kernel
theorem dX8_lastGain_39 : decode cX8_lastGain 39 = .ok (.iload_n 1, 1) := by decide +kernel
theorem dX8_lastGain_40 : decode cX8_lastGain 40 = .ok (.ishl, 1) := by decide +kernel
theorem dX8_lastGain_41 : decode cX8_lastGain 41 = .ok (.iconst 0, 1) := by decide +kernel
theorem dX8_lastGain_42 : decode cX8_lastGain 42 = .ok (.invokevirtual 44, 3) := by decide +kernel
theorem dX8_lastGain_45 : decode cX8_lastGain 45 = .ok (.aload_n 0, 1) := by decide +kernel
theorem dX8_lastGain_46 : decode cX8_lastGain 46 = .ok (.getfield 34, 3) := by decide +kernel
theorem dX8_lastGain_49 : decode cX8_lastGain 49 = .ok (.getfield 68, 3) := by decide +kernel
theorem dX8_lastGain_52 : decode cX8_lastGain 52 = .ok (.iload_n 1, 1) := by decide +kernel
theorem dX8_lastGain_53 : decode cX8_lastGain 53 = .ok (.iaload, 1) := by decide +kernel
theorem dX8_lastGain_54 : decode cX8_lastGain 54 = .ok (.iload 4, 2) := by decide +kernel
theorem dX8_lastGain_56 : decode cX8_lastGain 56 = .ok (.if_icmp .le 11, 3) := by decide +kernel
theorem dX8_lastGain_59 : decode cX8_lastGain 59 = .ok (.aload_n 0, 1) := by decide +kernel
theorem dX8_lastGain_60 : decode cX8_lastGain 60 = .ok (.getfield 34, 3) := by decide +kernel
theorem dX8_lastGain_63 : decode cX8_lastGain 63 = .ok (.getfield 124, 3) := by decide +kernel
theorem dX8_lastGain_66 : decode cX8_lastGain 66 = .ok (.istore_n 2, 1) := by decide +kernel
theorem dX8_lastGain_67 : decode cX8_lastGain 67 = .ok (.iinc 3 1, 3) := by decide +kernel
theorem dX8_lastGain_70 : decode cX8_lastGain 70 = .ok (.goto (-55), 3) := by decide +kernel
theorem dX8_lastGain_73 : decode cX8_lastGain 73 = .ok (.iload_n 2, 1) := by decide +kernel
theorem dX8_lastGain_74 : decode cX8_lastGain 74 = .ok (.ireturn, 1) := by decide +kernel
theorem dX8_firstUnlike_0 : decode cX8_firstUnlike 0 = .ok (.aload_n 0, 1) := by decide +kernel
theorem dX8_firstUnlike_1 : decode cX8_firstUnlike 1 = .ok (.getfield 34, 3) := by decide +kernel
theorem dX8_firstUnlike_4 : decode cX8_firstUnlike 4 = .ok (.aload_n 0, 1) := by decide +kernel
theorem dX8_firstUnlike_5 : decode cX8_firstUnlike 5 = .ok (.getfield 25, 3) := by decide +kernel
theorem dX8_firstUnlike_8 : decode cX8_firstUnlike 8 = .ok (.invokevirtual 40, 3) := by decide +kernel
theorem dX8_firstUnlike_11 : decode cX8_firstUnlike 11 = .ok (.iconst 0, 1) := by decide +kernel
theorem dX8_firstUnlike_12 : decode cX8_firstUnlike 12 = .ok (.istore_n 3, 1) := by decide +kernel
theorem dX8_firstUnlike_13 : decode cX8_firstUnlike 13 = .ok (.iload_n 3, 1) := by decide +kernel
theorem dX8_firstUnlike_14 : decode cX8_firstUnlike 14 = .ok (.aload_n 1, 1) := by decide +kernel
theorem dX8_firstUnlike_15 : decode cX8_firstUnlike 15 = .ok (.getfield 127, 3) := by decide +kernel
theorem dX8_firstUnlike_18 : decode cX8_firstUnlike 18 = .ok (.if_icmp .ge 39, 3) := by decide +kernel
theorem dX8_firstUnlike_21 : decode cX8_firstUnlike 21 = .ok (.aload_n 0, 1) := by decide +kernel
theorem dX8_firstUnlike_22 : decode cX8_firstUnlike 22 = .ok (.getfield 34, 3) := by decide +kernel
theorem dX8_firstUnlike_25 : decode cX8_firstUnlike 25 = .ok (.iload_n 2, 1) := by decide +kernel
theorem dX8_firstUnlike_26 : decode cX8_firstUnlike 26 = .ok (.iconst 0, 1) := by decide +kernel
theorem dX8_firstUnlike_27 : decode cX8_firstUnlike 27 = .ok (.iconst 0, 1) := by decide +kernel
theorem dX8_firstUnlike_28 : decode cX8_firstUnlike 28 = .ok (.invokevirtual 44, 3) := by decide +kernel
theorem dX8_firstUnlike_31 : decode cX8_firstUnlike 31 = .ok (.aload_n 1, 1) := by decide +kernel
theorem dX8_firstUnlike_32 : decode cX8_firstUnlike 32 = .ok (.getfield 132, 3) := by decide +kernel
theorem dX8_firstUnlike_35 : decode cX8_firstUnlike 35 = .ok (.iload_n 3, 1) := by decide +kernel
theorem dX8_firstUnlike_36 : decode cX8_firstUnlike 36 = .ok (.laload, 1) := by decide +kernel
theorem dX8_firstUnlike_37 : decode cX8_firstUnlike 37 = .ok (.aload_n 0, 1) := by decide +kernel
theorem dX8_firstUnlike_38 : decode cX8_firstUnlike 38 = .ok (.getfield 34, 3) := by decide +kernel
theorem dX8_firstUnlike_41 : decode cX8_firstUnlike 41 = .ok (.getfield 58, 3) := by decide +kernel
theorem dX8_firstUnlike_44 : decode cX8_firstUnlike 44 = .ok (.i2l, 1) := by decide +kernel
theorem dX8_firstUnlike_45 : decode cX8_firstUnlike 45 = .ok (.lcmp, 1) := by decide +kernel
theorem dX8_firstUnlike_46 : decode cX8_firstUnlike 46 = .ok (.ifCond .eq 5, 3) := by decide +kernel
theorem dX8_firstUnlike_49 : decode cX8_firstUnlike 49 = .ok (.iload_n 3, 1) := by decide +kernel
theorem dX8_firstUnlike_50 : decode cX8_firstUnlike 50 = .ok (.ireturn, 1) := by decide +kernel
theorem dX8_firstUnlike_51 : decode cX8_firstUnlike 51 = .ok (.iinc 3 1, 3) := by decide +kernel
theorem dX8_firstUnlike_54 : decode cX8_firstUnlike 54 = .ok (.goto (-41), 3) := by decide +kernel
theorem dX8_firstUnlike_57 : decode cX8_firstUnlike 57 = .ok (.bipush (-2), 2) := by decide +kernel
theorem dX8_firstUnlike_59 : decode cX8_firstUnlike 59 = .ok (.ireturn, 1) := by decide +kernel
theorem dX8_setsThatFit_0 : decode cX8_setsThatFit 0 = .ok (.iconst 0, 1) := by decide +kernel
theorem dX8_setsThatFit_1 : decode cX8_setsThatFit 1 = .ok (.istore_n 2, 1) := by decide +kernel
theorem dX8_setsThatFit_2 : decode cX8_setsThatFit 2 = .ok (.iconst 0, 1) := by decide +kernel
theorem dX8_setsThatFit_3 : decode cX8_setsThatFit 3 = .ok (.istore_n 3, 1) := by decide +kernel
theorem dX8_setsThatFit_4 : decode cX8_setsThatFit 4 = .ok (.iload_n 3, 1) := by decide +kernel
theorem dX8_setsThatFit_5 : decode cX8_setsThatFit 5 = .ok (.iconst 1, 1) := by decide +kernel
theorem dX8_setsThatFit_6 : decode cX8_setsThatFit 6 = .ok (.aload_n 0, 1) := by decide +kernel
theorem dX8_setsThatFit_7 : decode cX8_setsThatFit 7 = .ok (.getfield 21, 3) := by decide +kernel
theorem dX8_setsThatFit_10 : decode cX8_setsThatFit 10 = .ok (.getfield 65, 3) := by decide +kernel
theorem dX8_setsThatFit_13 : decode cX8_setsThatFit 13 = .ok (.ishl, 1) := by decide +kernel
theorem dX8_setsThatFit_14 : decode cX8_setsThatFit 14 = .ok (.if_icmp .ge 23, 3) := by decide +kernel
theorem dX8_setsThatFit_17 : decode cX8_setsThatFit 17 = .ok (.aload_n 0, 1) := by decide +kernel
theorem dX8_setsThatFit_18 : decode cX8_setsThatFit 18 = .ok (.aload_n 1, 1) := by decide +kernel
theorem dX8_setsThatFit_19 : decode cX8_setsThatFit 19 = .ok (.iload_n 3, 1) := by decide +kernel
theorem dX8_setsThatFit_20 : decode cX8_setsThatFit 20 = .ok (.invokevirtual 136, 3) := by decide +kernel
theorem dX8_setsThatFit_23 : decode cX8_setsThatFit 23 = .ok (.bipush (-2), 2) := by decide +kernel
theorem dX8_setsThatFit_25 : decode cX8_setsThatFit 25 = .ok (.if_icmp .ne 6, 3) := by decide +kernel
theorem dX8_setsThatFit_28 : decode cX8_setsThatFit 28 = .ok (.iinc 2 1, 3) := by decide +kernel
theorem dX8_setsThatFit_31 : decode cX8_setsThatFit 31 = .ok (.iinc 3 1, 3) := by decide +kernel
theorem dX8_setsThatFit_34 : decode cX8_setsThatFit 34 = .ok (.goto (-30), 3) := by decide +kernel
theorem dX8_setsThatFit_37 : decode cX8_setsThatFit 37 = .ok (.iload_n 2, 1) := by decide +kernel
theorem dX8_setsThatFit_38 : decode cX8_setsThatFit 38 = .ok (.ireturn, 1) := by decide +kernel
theorem dX8_leastSet_0 : decode cX8_leastSet 0 = .ok (.iconst 0, 1) := by decide +kernel
theorem dX8_leastSet_1 : decode cX8_leastSet 1 = .ok (.istore_n 2, 1) := by decide +kernel
theorem dX8_leastSet_2 : decode cX8_leastSet 2 = .ok (.iload_n 2, 1) := by decide +kernel
theorem dX8_leastSet_3 : decode cX8_leastSet 3 = .ok (.iconst 1, 1) := by decide +kernel
theorem dX8_leastSet_4 : decode cX8_leastSet 4 = .ok (.aload_n 0, 1) := by decide +kernel
theorem dX8_leastSet_5 : decode cX8_leastSet 5 = .ok (.getfield 21, 3) := by decide +kernel
theorem dX8_leastSet_8 : decode cX8_leastSet 8 = .ok (.getfield 65, 3) := by decide +kernel
theorem dX8_leastSet_11 : decode cX8_leastSet 11 = .ok (.ishl, 1) := by decide +kernel
theorem dX8_leastSet_12 : decode cX8_leastSet 12 = .ok (.if_icmp .ge 22, 3) := by decide +kernel
theorem dX8_leastSet_15 : decode cX8_leastSet 15 = .ok (.aload_n 0, 1) := by decide +kernel
theorem dX8_leastSet_16 : decode cX8_leastSet 16 = .ok (.aload_n 1, 1) := by decide +kernel
theorem dX8_leastSet_17 : decode cX8_leastSet 17 = .ok (.iload_n 2, 1) := by decide +kernel
theorem dX8_leastSet_18 : decode cX8_leastSet 18 = .ok (.invokevirtual 136, 3) := by decide +kernel
theorem dX8_leastSet_21 : decode cX8_leastSet 21 = .ok (.bipush (-2), 2) := by decide +kernel
theorem dX8_leastSet_23 : decode cX8_leastSet 23 = .ok (.if_icmp .ne 5, 3) := by decide +kernel
theorem dX8_leastSet_26 : decode cX8_leastSet 26 = .ok (.iload_n 2, 1) := by decide +kernel
theorem dX8_leastSet_27 : decode cX8_leastSet 27 = .ok (.ireturn, 1) := by decide +kernel
theorem dX8_leastSet_28 : decode cX8_leastSet 28 = .ok (.iinc 2 1, 3) := by decide +kernel
theorem dX8_leastSet_31 : decode cX8_leastSet 31 = .ok (.goto (-29), 3) := by decide +kernel
theorem dX8_leastSet_34 : decode cX8_leastSet 34 = .ok (.bipush (-2), 2) := by decide +kernel
theorem dX8_leastSet_36 : decode cX8_leastSet 36 = .ok (.ireturn, 1) := by decide +kernel
theorem dX8_stoppedBehind_0 : decode cX8_stoppedBehind 0 = .ok (.aload_n 0, 1) := by decide +kernel
theorem dX8_stoppedBehind_1 : decode cX8_stoppedBehind 1 = .ok (.getfield 21, 3) := by decide +kernel
theorem dX8_stoppedBehind_4 : decode cX8_stoppedBehind 4 = .ok (.iload_n 2, 1) := by decide +kernel
theorem dX8_stoppedBehind_5 : decode cX8_stoppedBehind 5 = .ok (.bipush 7, 2) := by decide +kernel
theorem dX8_stoppedBehind_7 : decode cX8_stoppedBehind 7 = .ok (.invokevirtual 89, 3) := by decide +kernel
theorem dX8_stoppedBehind_10 : decode cX8_stoppedBehind 10 = .ok (.istore_n 3, 1) := by decide +kernel
theorem dX8_stoppedBehind_11 : decode cX8_stoppedBehind 11 = .ok (.iload_n 3, 1) := by decide +kernel
theorem dX8_stoppedBehind_12 : decode cX8_stoppedBehind 12 = .ok (.ifCond .ge 6, 3) := by decide +kernel
theorem dX8_stoppedBehind_15 : decode cX8_stoppedBehind 15 = .ok (.bipush (-2), 2) := by decide +kernel
theorem dX8_stoppedBehind_17 : decode cX8_stoppedBehind 17 = .ok (.ireturn, 1) := by decide +kernel
theorem dX8_stoppedBehind_18 : decode cX8_stoppedBehind 18 = .ok (.aload_n 0, 1) := by decide +kernel
theorem dX8_stoppedBehind_19 : decode cX8_stoppedBehind 19 = .ok (.getfield 21, 3) := by decide +kernel
theorem dX8_stoppedBehind_22 : decode cX8_stoppedBehind 22 = .ok (.getfield 95, 3) := by decide +kernel
theorem dX8_stoppedBehind_25 : decode cX8_stoppedBehind 25 = .ok (.iload_n 3, 1) := by decide +kernel
theorem dX8_stoppedBehind_26 : decode cX8_stoppedBehind 26 = .ok (.iaload, 1) := by decide +kernel
theorem dX8_stoppedBehind_27 : decode cX8_stoppedBehind 27 = .ok (.istore 4, 2) := by decide +kernel
theorem dX8_stoppedBehind_29 : decode cX8_stoppedBehind 29 = .ok (.bipush (-2), 2) := by decide +kernel
theorem dX8_stoppedBehind_31 : decode cX8_stoppedBehind 31 = .ok (.istore 5, 2) := by decide +kernel
theorem dX8_stoppedBehind_33 : decode cX8_stoppedBehind 33 = .ok (.iconst 0, 1) := by decide +kernel
theorem dX8_stoppedBehind_34 : decode cX8_stoppedBehind 34 = .ok (.istore 6, 2) := by decide +kernel
theorem dX8_stoppedBehind_36 : decode cX8_stoppedBehind 36 = .ok (.iload 6, 2) := by decide +kernel
theorem dX8_stoppedBehind_38 : decode cX8_stoppedBehind 38 = .ok (.aload_n 1, 1) := by decide +kernel
theorem dX8_stoppedBehind_39 : decode cX8_stoppedBehind 39 = .ok (.getfield 127, 3) := by decide +kernel
theorem dX8_stoppedBehind_42 : decode cX8_stoppedBehind 42 = .ok (.if_icmp .gt 51, 3) := by decide +kernel
theorem dX8_stoppedBehind_45 : decode cX8_stoppedBehind 45 = .ok (.iload 5, 2) := by decide +kernel
theorem dX8_stoppedBehind_47 : decode cX8_stoppedBehind 47 = .ok (.bipush (-2), 2) := by decide +kernel
theorem dX8_stoppedBehind_49 : decode cX8_stoppedBehind 49 = .ok (.if_icmp .ne 44, 3) := by decide +kernel
theorem dX8_stoppedBehind_52 : decode cX8_stoppedBehind 52 = .ok (.aload_n 0, 1) := by decide +kernel
theorem dX8_stoppedBehind_53 : decode cX8_stoppedBehind 53 = .ok (.getfield 21, 3) := by decide +kernel
theorem dX8_stoppedBehind_56 : decode cX8_stoppedBehind 56 = .ok (.getfield 95, 3) := by decide +kernel
theorem dX8_stoppedBehind_59 : decode cX8_stoppedBehind 59 = .ok (.iload_n 3, 1) := by decide +kernel
theorem dX8_stoppedBehind_60 : decode cX8_stoppedBehind 60 = .ok (.aload_n 0, 1) := by decide +kernel
theorem dX8_stoppedBehind_61 : decode cX8_stoppedBehind 61 = .ok (.getfield 25, 3) := by decide +kernel
theorem dX8_stoppedBehind_64 : decode cX8_stoppedBehind 64 = .ok (.getfield 124, 3) := by decide +kernel
theorem dX8_stoppedBehind_67 : decode cX8_stoppedBehind 67 = .ok (.iload 6, 2) := by decide +kernel
theorem dX8_stoppedBehind_69 : decode cX8_stoppedBehind 69 = .ok (.iadd, 1) := by decide +kernel
theorem dX8_stoppedBehind_70 : decode cX8_stoppedBehind 70 = .ok (.iastore, 1) := by decide +kernel
theorem dX8_stoppedBehind_71 : decode cX8_stoppedBehind 71 = .ok (.aload_n 0, 1) := by decide +kernel
theorem dX8_stoppedBehind_72 : decode cX8_stoppedBehind 72 = .ok (.aload_n 1, 1) := by decide +kernel
theorem dX8_stoppedBehind_73 : decode cX8_stoppedBehind 73 = .ok (.bipush 7, 2) := by decide +kernel
theorem dX8_stoppedBehind_75 : decode cX8_stoppedBehind 75 = .ok (.invokevirtual 136, 3) := by decide +kernel
theorem dX8_stoppedBehind_78 : decode cX8_stoppedBehind 78 = .ok (.bipush (-2), 2) := by decide +kernel
theorem dX8_stoppedBehind_80 : decode cX8_stoppedBehind 80 = .ok (.if_icmp .ne 7, 3) := by decide +kernel
theorem dX8_stoppedBehind_83 : decode cX8_stoppedBehind 83 = .ok (.iload 6, 2) := by decide +kernel
theorem dX8_stoppedBehind_85 : decode cX8_stoppedBehind 85 = .ok (.istore 5, 2) := by decide +kernel
theorem dX8_stoppedBehind_87 : decode cX8_stoppedBehind 87 = .ok (.iinc 6 1, 3) := by decide +kernel
theorem dX8_stoppedBehind_90 : decode cX8_stoppedBehind 90 = .ok (.goto (-54), 3) := by decide +kernel
theorem dX8_stoppedBehind_93 : decode cX8_stoppedBehind 93 = .ok (.aload_n 0, 1) := by decide +kernel
theorem dX8_stoppedBehind_94 : decode cX8_stoppedBehind 94 = .ok (.getfield 21, 3) := by decide +kernel
theorem dX8_stoppedBehind_97 : decode cX8_stoppedBehind 97 = .ok (.getfield 95, 3) := by decide +kernel
theorem dX8_stoppedBehind_100 : decode cX8_stoppedBehind 100 = .ok (.iload_n 3, 1) := by decide +kernel
theorem dX8_stoppedBehind_101 : decode cX8_stoppedBehind 101 = .ok (.iload 4, 2) := by decide +kernel
theorem dX8_stoppedBehind_103 : decode cX8_stoppedBehind 103 = .ok (.iastore, 1) := by decide +kernel
theorem dX8_stoppedBehind_104 : decode cX8_stoppedBehind 104 = .ok (.iload 5, 2) := by decide +kernel
theorem dX8_stoppedBehind_106 : decode cX8_stoppedBehind 106 = .ok (.ireturn, 1) := by decide +kernel
theorem dX8_hiccupped_0 : decode cX8_hiccupped 0 = .ok (.aload_n 0, 1) := by decide +kernel
theorem dX8_hiccupped_1 : decode cX8_hiccupped 1 = .ok (.getfield 21, 3) := by decide +kernel
theorem dX8_hiccupped_4 : decode cX8_hiccupped 4 = .ok (.bipush 11, 2) := by decide +kernel
theorem dX8_hiccupped_6 : decode cX8_hiccupped 6 = .ok (.invokevirtual 109, 3) := by decide +kernel
theorem dX8_hiccupped_9 : decode cX8_hiccupped 9 = .ok (.istore 4, 2) := by decide +kernel
theorem dX8_hiccupped_11 : decode cX8_hiccupped 11 = .ok (.iload_n 1, 1) := by decide +kernel
theorem dX8_hiccupped_12 : decode cX8_hiccupped 12 = .ok (.istore 5, 2) := by decide +kernel
theorem dX8_hiccupped_14 : decode cX8_hiccupped 14 = .ok (.iconst 0, 1) := by decide +kernel
theorem dX8_hiccupped_15 : decode cX8_hiccupped 15 = .ok (.istore 6, 2) := by decide +kernel
theorem dX8_hiccupped_17 : decode cX8_hiccupped 17 = .ok (.iconst 0, 1) := by decide +kernel
theorem dX8_hiccupped_18 : decode cX8_hiccupped 18 = .ok (.istore 7, 2) := by decide +kernel
theorem dX8_hiccupped_20 : decode cX8_hiccupped 20 = .ok (.iload 7, 2) := by decide +kernel
theorem dX8_hiccupped_22 : decode cX8_hiccupped 22 = .ok (.iload_n 2, 1) := by decide +kernel
theorem dX8_hiccupped_23 : decode cX8_hiccupped 23 = .ok (.if_icmp .ge 133, 3) := by decide +kernel
theorem dX8_hiccupped_26 : decode cX8_hiccupped 26 = .ok (.aload_n 0, 1) := by decide +kernel
theorem dX8_hiccupped_27 : decode cX8_hiccupped 27 = .ok (.getfield 34, 3) := by decide +kernel
theorem dX8_hiccupped_30 : decode cX8_hiccupped 30 = .ok (.aload_n 0, 1) := by decide +kernel
theorem dX8_hiccupped_31 : decode cX8_hiccupped 31 = .ok (.getfield 25, 3) := by decide +kernel
theorem dX8_hiccupped_34 : decode cX8_hiccupped 34 = .ok (.invokevirtual 40, 3) := by decide +kernel
theorem dX8_hiccupped_37 : decode cX8_hiccupped 37 = .ok (.iconst 0, 1) := by decide +kernel
theorem dX8_hiccupped_38 : decode cX8_hiccupped 38 = .ok (.istore 8, 2) := by decide +kernel
theorem dX8_hiccupped_40 : decode cX8_hiccupped 40 = .ok (.iload 8, 2) := by decide +kernel
theorem dX8_hiccupped_42 : decode cX8_hiccupped 42 = .ok (.bipush 60, 2) := by decide +kernel
theorem dX8_hiccupped_44 : decode cX8_hiccupped 44 = .ok (.if_icmp .ge 78, 3) := by decide +kernel
theorem dX8_hiccupped_47 : decode cX8_hiccupped 47 = .ok (.iconst 0, 1) := by decide +kernel
theorem dX8_hiccupped_48 : decode cX8_hiccupped 48 = .ok (.istore 9, 2) := by decide +kernel
theorem dX8_hiccupped_50 : decode cX8_hiccupped 50 = .ok (.iconst 0, 1) := by decide +kernel
theorem dX8_hiccupped_51 : decode cX8_hiccupped 51 = .ok (.istore 10, 2) := by decide +kernel
theorem dX8_hiccupped_53 : decode cX8_hiccupped 53 = .ok (.iload 10, 2) := by decide +kernel
theorem dX8_hiccupped_55 : decode cX8_hiccupped 55 = .ok (.aload_n 0, 1) := by decide +kernel
theorem dX8_hiccupped_56 : decode cX8_hiccupped 56 = .ok (.getfield 21, 3) := by decide +kernel
theorem dX8_hiccupped_59 : decode cX8_hiccupped 59 = .ok (.getfield 65, 3) := by decide +kernel
theorem dX8_hiccupped_62 : decode cX8_hiccupped 62 = .ok (.if_icmp .ge 42, 3) := by decide +kernel
theorem dX8_hiccupped_65 : decode cX8_hiccupped 65 = .ok (.iload 5, 2) := by decide +kernel
theorem dX8_hiccupped_67 : decode cX8_hiccupped 67 = .ok (.ldc 140, 2) := by decide +kernel
theorem dX8_hiccupped_69 : decode cX8_hiccupped 69 = .ok (.imul, 1) := by decide +kernel
theorem dX8_hiccupped_70 : decode cX8_hiccupped 70 = .ok (.sipush 12345, 3) := by decide +kernel
theorem dX8_hiccupped_73 : decode cX8_hiccupped 73 = .ok (.iadd, 1) := by decide +kernel
theorem dX8_hiccupped_74 : decode cX8_hiccupped 74 = .ok (.istore 5, 2) := by decide +kernel
theorem dX8_hiccupped_76 : decode cX8_hiccupped 76 = .ok (.iload 5, 2) := by decide +kernel
theorem dX8_hiccupped_78 : decode cX8_hiccupped 78 = .ok (.bipush 8, 2) := by decide +kernel
theorem dX8_hiccupped_80 : decode cX8_hiccupped 80 = .ok (.iushr, 1) := by decide +kernel
theorem dX8_hiccupped_81 : decode cX8_hiccupped 81 = .ok (.bipush 12, 2) := by decide +kernel
theorem dX8_hiccupped_83 : decode cX8_hiccupped 83 = .ok (.irem, 1) := by decide +kernel
theorem dX8_hiccupped_84 : decode cX8_hiccupped 84 = .ok (.iload 4, 2) := by decide +kernel
theorem dX8_hiccupped_86 : decode cX8_hiccupped 86 = .ok (.if_icmp .ge 12, 3) := by decide +kernel
theorem dX8_hiccupped_89 : decode cX8_hiccupped 89 = .ok (.iload 9, 2) := by decide +kernel
theorem dX8_hiccupped_91 : decode cX8_hiccupped 91 = .ok (.iconst 1, 1) := by decide +kernel
theorem dX8_hiccupped_92 : decode cX8_hiccupped 92 = .ok (.iload 10, 2) := by decide +kernel
theorem dX8_hiccupped_94 : decode cX8_hiccupped 94 = .ok (.ishl, 1) := by decide +kernel
theorem dX8_hiccupped_95 : decode cX8_hiccupped 95 = .ok (.ior, 1) := by decide +kernel
theorem dX8_hiccupped_96 : decode cX8_hiccupped 96 = .ok (.istore 9, 2) := by decide +kernel
theorem dX8_hiccupped_98 : decode cX8_hiccupped 98 = .ok (.iinc 10 1, 3) := by decide +kernel
theorem dX8_hiccupped_101 : decode cX8_hiccupped 101 = .ok (.goto (-48), 3) := by decide +kernel
theorem dX8_hiccupped_104 : decode cX8_hiccupped 104 = .ok (.aload_n 0, 1) := by decide +kernel
theorem dX8_hiccupped_105 : decode cX8_hiccupped 105 = .ok (.getfield 34, 3) := by decide +kernel
theorem dX8_hiccupped_108 : decode cX8_hiccupped 108 = .ok (.bipush 7, 2) := by decide +kernel
theorem dX8_hiccupped_110 : decode cX8_hiccupped 110 = .ok (.iconst 0, 1) := by decide +kernel
theorem dX8_hiccupped_111 : decode cX8_hiccupped 111 = .ok (.iload 9, 2) := by decide +kernel
theorem dX8_hiccupped_113 : decode cX8_hiccupped 113 = .ok (.invokevirtual 44, 3) := by decide +kernel
theorem dX8_hiccupped_116 : decode cX8_hiccupped 116 = .ok (.iinc 8 1, 3) := by decide +kernel
theorem dX8_hiccupped_119 : decode cX8_hiccupped 119 = .ok (.goto (-79), 3) := by decide +kernel
theorem dX8_hiccupped_122 : decode cX8_hiccupped 122 = .ok (.iload 6, 2) := by decide +kernel
theorem dX8_hiccupped_124 : decode cX8_hiccupped 124 = .ok (.iload_n 3, 1) := by decide +kernel
theorem dX8_hiccupped_125 : decode cX8_hiccupped 125 = .ok (.ifCond .ge 13, 3) := by decide +kernel
theorem dX8_hiccupped_128 : decode cX8_hiccupped 128 = .ok (.aload_n 0, 1) := by decide +kernel
theorem dX8_hiccupped_129 : decode cX8_hiccupped 129 = .ok (.getfield 34, 3) := by decide +kernel
theorem dX8_hiccupped_132 : decode cX8_hiccupped 132 = .ok (.getfield 58, 3) := by decide +kernel
theorem dX8_hiccupped_135 : decode cX8_hiccupped 135 = .ok (.goto 12, 3) := by decide +kernel
theorem dX8_hiccupped_138 : decode cX8_hiccupped 138 = .ok (.aload_n 0, 1) := by decide +kernel
theorem dX8_hiccupped_139 : decode cX8_hiccupped 139 = .ok (.getfield 34, 3) := by decide +kernel
theorem dX8_hiccupped_142 : decode cX8_hiccupped 142 = .ok (.getfield 68, 3) := by decide +kernel
theorem dX8_hiccupped_145 : decode cX8_hiccupped 145 = .ok (.iload_n 3, 1) := by decide +kernel
theorem dX8_hiccupped_146 : decode cX8_hiccupped 146 = .ok (.iaload, 1) := by decide +kernel
theorem dX8_hiccupped_147 : decode cX8_hiccupped 147 = .ok (.iadd, 1) := by decide +kernel
theorem dX8_hiccupped_148 : decode cX8_hiccupped 148 = .ok (.istore 6, 2) := by decide +kernel
theorem dX8_hiccupped_150 : decode cX8_hiccupped 150 = .ok (.iinc 7 1, 3) := by decide +kernel
theorem dX8_hiccupped_153 : decode cX8_hiccupped 153 = .ok (.goto (-133), 3) := by decide +kernel
theorem dX8_hiccupped_156 : decode cX8_hiccupped 156 = .ok (.iload 6, 2) := by decide +kernel
theorem dX8_hiccupped_158 : decode cX8_hiccupped 158 = .ok (.ireturn, 1) := by decide +kernel
