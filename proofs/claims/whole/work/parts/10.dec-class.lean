theorem dX0_init_0 : decode cX0_init 0 = .ok (.aload_n 0, 1) := by decide +kernel
theorem dX0_init_1 : decode cX0_init 1 = .ok (.invokespecial 3, 3) := by decide +kernel
theorem dX0_init_4 : decode cX0_init 4 = .ok (.aload_n 0, 1) := by decide +kernel
theorem dX0_init_5 : decode cX0_init 5 = .ok (.iload_n 1, 1) := by decide +kernel
theorem dX0_init_6 : decode cX0_init 6 = .ok (.putfield 9, 3) := by decide +kernel
theorem dX0_init_9 : decode cX0_init 9 = .ok (.aload_n 0, 1) := by decide +kernel
theorem dX0_init_10 : decode cX0_init 10 = .ok (.aload_n 2, 1) := by decide +kernel
theorem dX0_init_11 : decode cX0_init 11 = .ok (.putfield 15, 3) := by decide +kernel
theorem dX0_init_14 : decode cX0_init 14 = .ok (.aload_n 0, 1) := by decide +kernel
theorem dX0_init_15 : decode cX0_init 15 = .ok (.aload_n 2, 1) := by decide +kernel
theorem dX0_init_16 : decode cX0_init 16 = .ok (.getfield 19, 3) := by decide +kernel
theorem dX0_init_19 : decode cX0_init 19 = .ok (.newarray .int, 2) := by decide +kernel
theorem dX0_init_21 : decode cX0_init 21 = .ok (.putfield 24, 3) := by decide +kernel
theorem dX0_init_24 : decode cX0_init 24 = .ok (.aload_n 0, 1) := by decide +kernel
theorem dX0_init_25 : decode cX0_init 25 = .ok (.getfield 24, 3) := by decide +kernel
theorem dX0_init_28 : decode cX0_init 28 = .ok (.iconst (-1), 1) := by decide +kernel
theorem dX0_init_29 : decode cX0_init 29 = .ok (.invokestatic 28, 3) := by decide +kernel
theorem dX0_init_32 : decode cX0_init 32 = .ok (.aload_n 0, 1) := by decide +kernel
theorem dX0_init_33 : decode cX0_init 33 = .ok (.sipush 200, 3) := by decide +kernel
theorem dX0_init_36 : decode cX0_init 36 = .ok (.newarray .int, 2) := by decide +kernel
theorem dX0_init_38 : decode cX0_init 38 = .ok (.putfield 34, 3) := by decide +kernel
theorem dX0_init_41 : decode cX0_init 41 = .ok (.aload_n 0, 1) := by decide +kernel
theorem dX0_init_42 : decode cX0_init 42 = .ok (.sipush 200, 3) := by decide +kernel
theorem dX0_init_45 : decode cX0_init 45 = .ok (.newarray .int, 2) := by decide +kernel
theorem dX0_init_47 : decode cX0_init 47 = .ok (.putfield 37, 3) := by decide +kernel
theorem dX0_init_50 : decode cX0_init 50 = .ok (.aload_n 0, 1) := by decide +kernel
theorem dX0_init_51 : decode cX0_init 51 = .ok (.sipush 200, 3) := by decide +kernel
theorem dX0_init_54 : decode cX0_init 54 = .ok (.newarray .int, 2) := by decide +kernel
theorem dX0_init_56 : decode cX0_init 56 = .ok (.putfield 40, 3) := by decide +kernel
theorem dX0_init_59 : decode cX0_init 59 = .ok (.aload_n 0, 1) := by decide +kernel
theorem dX0_init_60 : decode cX0_init 60 = .ok (.iconst 0, 1) := by decide +kernel
theorem dX0_init_61 : decode cX0_init 61 = .ok (.putfield 43, 3) := by decide +kernel
theorem dX0_init_64 : decode cX0_init 64 = .ok (.aload_n 0, 1) := by decide +kernel
theorem dX0_init_65 : decode cX0_init 65 = .ok (.iconst 0, 1) := by decide +kernel
theorem dX0_init_66 : decode cX0_init 66 = .ok (.putfield 46, 3) := by decide +kernel
theorem dX0_init_69 : decode cX0_init 69 = .ok (.aload_n 0, 1) := by decide +kernel
theorem dX0_init_70 : decode cX0_init 70 = .ok (.iconst 0, 1) := by decide +kernel
theorem dX0_init_71 : decode cX0_init 71 = .ok (.putfield 49, 3) := by decide +kernel
theorem dX0_init_74 : decode cX0_init 74 = .ok (.return_, 1) := by decide +kernel
theorem dX0_change_0 : decode cX0_change 0 = .ok (.aload_n 0, 1) := by decide +kernel
theorem dX0_change_1 : decode cX0_change 1 = .ok (.getfield 24, 3) := by decide +kernel
theorem dX0_change_4 : decode cX0_change 4 = .ok (.iload_n 1, 1) := by decide +kernel
theorem dX0_change_5 : decode cX0_change 5 = .ok (.iaload, 1) := by decide +kernel
theorem dX0_change_6 : decode cX0_change 6 = .ok (.iload_n 2, 1) := by decide +kernel
theorem dX0_change_7 : decode cX0_change 7 = .ok (.if_icmp .eq 13, 3) := by decide +kernel
theorem dX0_change_10 : decode cX0_change 10 = .ok (.aload_n 0, 1) := by decide +kernel
theorem dX0_change_11 : decode cX0_change 11 = .ok (.getfield 43, 3) := by decide +kernel
theorem dX0_change_14 : decode cX0_change 14 = .ok (.sipush 200, 3) := by decide +kernel
theorem dX0_change_17 : decode cX0_change 17 = .ok (.if_icmp .lt 5, 3) := by decide +kernel
theorem dX0_change_20 : decode cX0_change 20 = .ok (.iconst 0, 1) := by decide +kernel
theorem dX0_change_21 : decode cX0_change 21 = .ok (.ireturn, 1) := by decide +kernel
theorem dX0_change_22 : decode cX0_change 22 = .ok (.aload_n 0, 1) := by decide +kernel
theorem dX0_change_23 : decode cX0_change 23 = .ok (.getfield 34, 3) := by decide +kernel
theorem dX0_change_26 : decode cX0_change 26 = .ok (.aload_n 0, 1) := by decide +kernel
theorem dX0_change_27 : decode cX0_change 27 = .ok (.getfield 43, 3) := by decide +kernel
theorem dX0_change_30 : decode cX0_change 30 = .ok (.iload_n 1, 1) := by decide +kernel
theorem dX0_change_31 : decode cX0_change 31 = .ok (.iastore, 1) := by decide +kernel
theorem dX0_change_32 : decode cX0_change 32 = .ok (.aload_n 0, 1) := by decide +kernel
theorem dX0_change_33 : decode cX0_change 33 = .ok (.getfield 37, 3) := by decide +kernel
theorem dX0_change_36 : decode cX0_change 36 = .ok (.aload_n 0, 1) := by decide +kernel
theorem dX0_change_37 : decode cX0_change 37 = .ok (.getfield 43, 3) := by decide +kernel
theorem dX0_change_40 : decode cX0_change 40 = .ok (.aload_n 0, 1) := by decide +kernel
theorem dX0_change_41 : decode cX0_change 41 = .ok (.getfield 24, 3) := by decide +kernel
theorem dX0_change_44 : decode cX0_change 44 = .ok (.iload_n 1, 1) := by decide +kernel
theorem dX0_change_45 : decode cX0_change 45 = .ok (.iaload, 1) := by decide +kernel
theorem dX0_change_46 : decode cX0_change 46 = .ok (.iastore, 1) := by decide +kernel
theorem dX0_change_47 : decode cX0_change 47 = .ok (.aload_n 0, 1) := by decide +kernel
theorem dX0_change_48 : decode cX0_change 48 = .ok (.getfield 40, 3) := by decide +kernel
theorem dX0_change_51 : decode cX0_change 51 = .ok (.aload_n 0, 1) := by decide +kernel
theorem dX0_change_52 : decode cX0_change 52 = .ok (.getfield 43, 3) := by decide +kernel
theorem dX0_change_55 : decode cX0_change 55 = .ok (.iload_n 2, 1) := by decide +kernel
theorem dX0_change_56 : decode cX0_change 56 = .ok (.iastore, 1) := by decide +kernel
theorem dX0_change_57 : decode cX0_change 57 = .ok (.aload_n 0, 1) := by decide +kernel
theorem dX0_change_58 : decode cX0_change 58 = .ok (.getfield 24, 3) := by decide +kernel
theorem dX0_change_61 : decode cX0_change 61 = .ok (.iload_n 1, 1) := by decide +kernel
theorem dX0_change_62 : decode cX0_change 62 = .ok (.iload_n 2, 1) := by decide +kernel
theorem dX0_change_63 : decode cX0_change 63 = .ok (.iastore, 1) := by decide +kernel
theorem dX0_change_64 : decode cX0_change 64 = .ok (.aload_n 0, 1) := by decide +kernel
theorem dX0_change_65 : decode cX0_change 65 = .ok (.dup, 1) := by decide +kernel
theorem dX0_change_66 : decode cX0_change 66 = .ok (.getfield 43, 3) := by decide +kernel
theorem dX0_change_69 : decode cX0_change 69 = .ok (.iconst 1, 1) := by decide +kernel
theorem dX0_change_70 : decode cX0_change 70 = .ok (.iadd, 1) := by decide +kernel
theorem dX0_change_71 : decode cX0_change 71 = .ok (.putfield 43, 3) := by decide +kernel
theorem dX0_change_74 : decode cX0_change 74 = .ok (.aload_n 0, 1) := by decide +kernel
theorem dX0_change_75 : decode cX0_change 75 = .ok (.aload_n 0, 1) := by decide +kernel
theorem dX0_change_76 : decode cX0_change 76 = .ok (.getfield 43, 3) := by decide +kernel
theorem dX0_change_79 : decode cX0_change 79 = .ok (.putfield 46, 3) := by decide +kernel
theorem dX0_change_82 : decode cX0_change 82 = .ok (.iconst 1, 1) := by decide +kernel
theorem dX0_change_83 : decode cX0_change 83 = .ok (.ireturn, 1) := by decide +kernel
theorem dX0_takeBack_0 : decode cX0_takeBack 0 = .ok (.aload_n 0, 1) := by decide +kernel
theorem dX0_takeBack_1 : decode cX0_takeBack 1 = .ok (.getfield 43, 3) := by decide +kernel
theorem dX0_takeBack_4 : decode cX0_takeBack 4 = .ok (.ifCond .gt 5, 3) := by decide +kernel
theorem dX0_takeBack_7 : decode cX0_takeBack 7 = .ok (.iconst (-1), 1) := by decide +kernel
theorem dX0_takeBack_8 : decode cX0_takeBack 8 = .ok (.ireturn, 1) := by decide +kernel
theorem dX0_takeBack_9 : decode cX0_takeBack 9 = .ok (.aload_n 0, 1) := by decide +kernel
theorem dX0_takeBack_10 : decode cX0_takeBack 10 = .ok (.dup, 1) := by decide +kernel
theorem dX0_takeBack_11 : decode cX0_takeBack 11 = .ok (.getfield 43, 3) := by decide +kernel
theorem dX0_takeBack_14 : decode cX0_takeBack 14 = .ok (.iconst 1, 1) := by decide +kernel
theorem dX0_takeBack_15 : decode cX0_takeBack 15 = .ok (.isub, 1) := by decide +kernel
theorem dX0_takeBack_16 : decode cX0_takeBack 16 = .ok (.putfield 43, 3) := by decide +kernel
theorem dX0_takeBack_19 : decode cX0_takeBack 19 = .ok (.aload_n 0, 1) := by decide +kernel
theorem dX0_takeBack_20 : decode cX0_takeBack 20 = .ok (.getfield 34, 3) := by decide +kernel
theorem dX0_takeBack_23 : decode cX0_takeBack 23 = .ok (.aload_n 0, 1) := by decide +kernel
theorem dX0_takeBack_24 : decode cX0_takeBack 24 = .ok (.getfield 43, 3) := by decide +kernel
theorem dX0_takeBack_27 : decode cX0_takeBack 27 = .ok (.iaload, 1) := by decide +kernel
theorem dX0_takeBack_28 : decode cX0_takeBack 28 = .ok (.istore_n 1, 1) := by decide +kernel
theorem dX0_takeBack_29 : decode cX0_takeBack 29 = .ok (.aload_n 0, 1) := by decide +kernel
theorem dX0_takeBack_30 : decode cX0_takeBack 30 = .ok (.getfield 24, 3) := by decide +kernel
theorem dX0_takeBack_33 : decode cX0_takeBack 33 = .ok (.iload_n 1, 1) := by decide +kernel
theorem dX0_takeBack_34 : decode cX0_takeBack 34 = .ok (.aload_n 0, 1) := by decide +kernel
theorem dX0_takeBack_35 : decode cX0_takeBack 35 = .ok (.getfield 37, 3) := by decide +kernel
theorem dX0_takeBack_38 : decode cX0_takeBack 38 = .ok (.aload_n 0, 1) := by decide +kernel
theorem dX0_takeBack_39 : decode cX0_takeBack 39 = .ok (.getfield 43, 3) := by decide +kernel
theorem dX0_takeBack_42 : decode cX0_takeBack 42 = .ok (.iaload, 1) := by decide +kernel
theorem dX0_takeBack_43 : decode cX0_takeBack 43 = .ok (.iastore, 1) := by decide +kernel
theorem dX0_takeBack_44 : decode cX0_takeBack 44 = .ok (.iload_n 1, 1) := by decide +kernel
theorem dX0_takeBack_45 : decode cX0_takeBack 45 = .ok (.ireturn, 1) := by decide +kernel
theorem dX0_doAgain_0 : decode cX0_doAgain 0 = .ok (.aload_n 0, 1) := by decide +kernel
theorem dX0_doAgain_1 : decode cX0_doAgain 1 = .ok (.getfield 43, 3) := by decide +kernel
theorem dX0_doAgain_4 : decode cX0_doAgain 4 = .ok (.aload_n 0, 1) := by decide +kernel
theorem dX0_doAgain_5 : decode cX0_doAgain 5 = .ok (.getfield 46, 3) := by decide +kernel
theorem dX0_doAgain_8 : decode cX0_doAgain 8 = .ok (.if_icmp .lt 5, 3) := by decide +kernel
theorem dX0_doAgain_11 : decode cX0_doAgain 11 = .ok (.iconst (-1), 1) := by decide +kernel
theorem dX0_doAgain_12 : decode cX0_doAgain 12 = .ok (.ireturn, 1) := by decide +kernel
theorem dX0_doAgain_13 : decode cX0_doAgain 13 = .ok (.aload_n 0, 1) := by decide +kernel
theorem dX0_doAgain_14 : decode cX0_doAgain 14 = .ok (.getfield 34, 3) := by decide +kernel
theorem dX0_doAgain_17 : decode cX0_doAgain 17 = .ok (.aload_n 0, 1) := by decide +kernel
theorem dX0_doAgain_18 : decode cX0_doAgain 18 = .ok (.getfield 43, 3) := by decide +kernel
theorem dX0_doAgain_21 : decode cX0_doAgain 21 = .ok (.iaload, 1) := by decide +kernel
theorem dX0_doAgain_22 : decode cX0_doAgain 22 = .ok (.istore_n 1, 1) := by decide +kernel
theorem dX0_doAgain_23 : decode cX0_doAgain 23 = .ok (.aload_n 0, 1) := by decide +kernel
theorem dX0_doAgain_24 : decode cX0_doAgain 24 = .ok (.getfield 24, 3) := by decide +kernel
theorem dX0_doAgain_27 : decode cX0_doAgain 27 = .ok (.iload_n 1, 1) := by decide +kernel
theorem dX0_doAgain_28 : decode cX0_doAgain 28 = .ok (.aload_n 0, 1) := by decide +kernel
theorem dX0_doAgain_29 : decode cX0_doAgain 29 = .ok (.getfield 40, 3) := by decide +kernel
theorem dX0_doAgain_32 : decode cX0_doAgain 32 = .ok (.aload_n 0, 1) := by decide +kernel
theorem dX0_doAgain_33 : decode cX0_doAgain 33 = .ok (.getfield 43, 3) := by decide +kernel
theorem dX0_doAgain_36 : decode cX0_doAgain 36 = .ok (.iaload, 1) := by decide +kernel
theorem dX0_doAgain_37 : decode cX0_doAgain 37 = .ok (.iastore, 1) := by decide +kernel
theorem dX0_doAgain_38 : decode cX0_doAgain 38 = .ok (.aload_n 0, 1) := by decide +kernel
theorem dX0_doAgain_39 : decode cX0_doAgain 39 = .ok (.dup, 1) := by decide +kernel
theorem dX0_doAgain_40 : decode cX0_doAgain 40 = .ok (.getfield 43, 3) := by decide +kernel
theorem dX0_doAgain_43 : decode cX0_doAgain 43 = .ok (.iconst 1, 1) := by decide +kernel
theorem dX0_doAgain_44 : decode cX0_doAgain 44 = .ok (.iadd, 1) := by decide +kernel
theorem dX0_doAgain_45 : decode cX0_doAgain 45 = .ok (.putfield 43, 3) := by decide +kernel
theorem dX0_doAgain_48 : decode cX0_doAgain 48 = .ok (.iload_n 1, 1) := by decide +kernel
theorem dX0_doAgain_49 : decode cX0_doAgain 49 = .ok (.ireturn, 1) := by decide +kernel
theorem dX0_markedCells_0 : decode cX0_markedCells 0 = .ok (.iconst 0, 1) := by decide +kernel
theorem dX0_markedCells_1 : decode cX0_markedCells 1 = .ok (.istore_n 1, 1) := by decide +kernel
theorem dX0_markedCells_2 : decode cX0_markedCells 2 = .ok (.iconst 0, 1) := by decide +kernel
theorem dX0_markedCells_3 : decode cX0_markedCells 3 = .ok (.istore_n 2, 1) := by decide +kernel
theorem dX0_markedCells_4 : decode cX0_markedCells 4 = .ok (.iload_n 2, 1) := by decide +kernel
theorem dX0_markedCells_5 : decode cX0_markedCells 5 = .ok (.aload_n 0, 1) := by decide +kernel
theorem dX0_markedCells_6 : decode cX0_markedCells 6 = .ok (.getfield 24, 3) := by decide +kernel
theorem dX0_markedCells_9 : decode cX0_markedCells 9 = .ok (.arraylength, 1) := by decide +kernel
theorem dX0_markedCells_10 : decode cX0_markedCells 10 = .ok (.if_icmp .ge 22, 3) := by decide +kernel
theorem dX0_markedCells_13 : decode cX0_markedCells 13 = .ok (.aload_n 0, 1) := by decide +kernel
theorem dX0_markedCells_14 : decode cX0_markedCells 14 = .ok (.getfield 24, 3) := by decide +kernel
theorem dX0_markedCells_17 : decode cX0_markedCells 17 = .ok (.iload_n 2, 1) := by decide +kernel
theorem dX0_markedCells_18 : decode cX0_markedCells 18 = .ok (.iaload, 1) := by decide +kernel
theorem dX0_markedCells_19 : decode cX0_markedCells 19 = .ok (.iconst (-1), 1) := by decide +kernel
theorem dX0_markedCells_20 : decode cX0_markedCells 20 = .ok (.if_icmp .eq 6, 3) := by decide +kernel
theorem dX0_markedCells_23 : decode cX0_markedCells 23 = .ok (.iinc 1 1, 3) := by decide +kernel
theorem dX0_markedCells_26 : decode cX0_markedCells 26 = .ok (.iinc 2 1, 3) := by decide +kernel
theorem dX0_markedCells_29 : decode cX0_markedCells 29 = .ok (.goto (-25), 3) := by decide +kernel
theorem dX0_markedCells_32 : decode cX0_markedCells 32 = .ok (.iload_n 1, 1) := by decide +kernel
theorem dX0_markedCells_33 : decode cX0_markedCells 33 = .ok (.ireturn, 1) := by decide +kernel
theorem dX0_marksAsSets_0 : decode cX0_marksAsSets 0 = .ok (.iconst 0, 1) := by decide +kernel
theorem dX0_marksAsSets_1 : decode cX0_marksAsSets 1 = .ok (.istore_n 2, 1) := by decide +kernel
theorem dX0_marksAsSets_2 : decode cX0_marksAsSets 2 = .ok (.iload_n 2, 1) := by decide +kernel
theorem dX0_marksAsSets_3 : decode cX0_marksAsSets 3 = .ok (.aload_n 0, 1) := by decide +kernel
theorem dX0_marksAsSets_4 : decode cX0_marksAsSets 4 = .ok (.getfield 24, 3) := by decide +kernel
theorem dX0_marksAsSets_7 : decode cX0_marksAsSets 7 = .ok (.arraylength, 1) := by decide +kernel
theorem dX0_marksAsSets_8 : decode cX0_marksAsSets 8 = .ok (.if_icmp .ge 40, 3) := by decide +kernel
theorem dX0_marksAsSets_11 : decode cX0_marksAsSets 11 = .ok (.aload_n 1, 1) := by decide +kernel
theorem dX0_marksAsSets_12 : decode cX0_marksAsSets 12 = .ok (.iload_n 2, 1) := by decide +kernel
theorem dX0_marksAsSets_13 : decode cX0_marksAsSets 13 = .ok (.aload_n 0, 1) := by decide +kernel
theorem dX0_marksAsSets_14 : decode cX0_marksAsSets 14 = .ok (.getfield 24, 3) := by decide +kernel
theorem dX0_marksAsSets_17 : decode cX0_marksAsSets 17 = .ok (.iload_n 2, 1) := by decide +kernel
theorem dX0_marksAsSets_18 : decode cX0_marksAsSets 18 = .ok (.iaload, 1) := by decide +kernel
theorem dX0_marksAsSets_19 : decode cX0_marksAsSets 19 = .ok (.iconst (-1), 1) := by decide +kernel
theorem dX0_marksAsSets_20 : decode cX0_marksAsSets 20 = .ok (.if_icmp .ne 13, 3) := by decide +kernel
theorem dX0_marksAsSets_23 : decode cX0_marksAsSets 23 = .ok (.aload_n 0, 1) := by decide +kernel
theorem dX0_marksAsSets_24 : decode cX0_marksAsSets 24 = .ok (.getfield 15, 3) := by decide +kernel
theorem dX0_marksAsSets_27 : decode cX0_marksAsSets 27 = .ok (.invokevirtual 52, 3) := by decide +kernel
theorem dX0_marksAsSets_30 : decode cX0_marksAsSets 30 = .ok (.goto 11, 3) := by decide +kernel
theorem dX0_marksAsSets_33 : decode cX0_marksAsSets 33 = .ok (.iconst 1, 1) := by decide +kernel
theorem dX0_marksAsSets_34 : decode cX0_marksAsSets 34 = .ok (.aload_n 0, 1) := by decide +kernel
theorem dX0_marksAsSets_35 : decode cX0_marksAsSets 35 = .ok (.getfield 24, 3) := by decide +kernel
theorem dX0_marksAsSets_38 : decode cX0_marksAsSets 38 = .ok (.iload_n 2, 1) := by decide +kernel
theorem dX0_marksAsSets_39 : decode cX0_marksAsSets 39 = .ok (.iaload, 1) := by decide +kernel
theorem dX0_marksAsSets_40 : decode cX0_marksAsSets 40 = .ok (.ishl, 1) := by decide +kernel
theorem dX0_marksAsSets_41 : decode cX0_marksAsSets 41 = .ok (.iastore, 1) := by decide +kernel
theorem dX0_marksAsSets_42 : decode cX0_marksAsSets 42 = .ok (.iinc 2 1, 3) := by decide +kernel
theorem dX0_marksAsSets_45 : decode cX0_marksAsSets 45 = .ok (.goto (-43), 3) := by decide +kernel
theorem dX0_marksAsSets_48 : decode cX0_marksAsSets 48 = .ok (.return_, 1) := by decide +kernel
theorem dX1_init_0 : decode cX1_init 0 = .ok (.aload_n 0, 1) := by decide +kernel
theorem dX1_init_1 : decode cX1_init 1 = .ok (.invokespecial 3, 3) := by decide +kernel
theorem dX1_init_4 : decode cX1_init 4 = .ok (.aload_n 0, 1) := by decide +kernel
theorem dX1_init_5 : decode cX1_init 5 = .ok (.aload_n 1, 1) := by decide +kernel
theorem dX1_init_6 : decode cX1_init 6 = .ok (.putfield 9, 3) := by decide +kernel
theorem dX1_init_9 : decode cX1_init 9 = .ok (.aload_n 0, 1) := by decide +kernel
theorem dX1_init_10 : decode cX1_init 10 = .ok (.bipush 100, 2) := by decide +kernel
theorem dX1_init_12 : decode cX1_init 12 = .ok (.newarray .int, 2) := by decide +kernel
theorem dX1_init_14 : decode cX1_init 14 = .ok (.putfield 15, 3) := by decide +kernel
theorem dX1_init_17 : decode cX1_init 17 = .ok (.aload_n 0, 1) := by decide +kernel
theorem dX1_init_18 : decode cX1_init 18 = .ok (.bipush 100, 2) := by decide +kernel
theorem dX1_init_20 : decode cX1_init 20 = .ok (.newarray .int, 2) := by decide +kernel
theorem dX1_init_22 : decode cX1_init 22 = .ok (.putfield 19, 3) := by decide +kernel
theorem dX1_init_25 : decode cX1_init 25 = .ok (.aload_n 0, 1) := by decide +kernel
theorem dX1_init_26 : decode cX1_init 26 = .ok (.iconst 0, 1) := by decide +kernel
theorem dX1_init_27 : decode cX1_init 27 = .ok (.putfield 22, 3) := by decide +kernel
theorem dX1_init_30 : decode cX1_init 30 = .ok (.return_, 1) := by decide +kernel
theorem dX1_assess_0 : decode cX1_assess 0 = .ok (.aload_n 0, 1) := by decide +kernel
theorem dX1_assess_1 : decode cX1_assess 1 = .ok (.iconst 0, 1) := by decide +kernel
theorem dX1_assess_2 : decode cX1_assess 2 = .ok (.putfield 22, 3) := by decide +kernel
theorem dX1_assess_5 : decode cX1_assess 5 = .ok (.aload_n 0, 1) := by decide +kernel
theorem dX1_assess_6 : decode cX1_assess 6 = .ok (.getfield 15, 3) := by decide +kernel
theorem dX1_assess_9 : decode cX1_assess 9 = .ok (.aload_n 1, 1) := by decide +kernel
theorem dX1_assess_10 : decode cX1_assess 10 = .ok (.invokevirtual 26, 3) := by decide +kernel
theorem dX1_assess_13 : decode cX1_assess 13 = .ok (.invokestatic 32, 3) := by decide +kernel
theorem dX1_assess_16 : decode cX1_assess 16 = .ok (.aload_n 0, 1) := by decide +kernel
theorem dX1_assess_17 : decode cX1_assess 17 = .ok (.getfield 9, 3) := by decide +kernel
theorem dX1_assess_20 : decode cX1_assess 20 = .ok (.aload_n 1, 1) := by decide +kernel
theorem dX1_assess_21 : decode cX1_assess 21 = .ok (.aload_n 0, 1) := by decide +kernel
theorem dX1_assess_22 : decode cX1_assess 22 = .ok (.getfield 15, 3) := by decide +kernel
theorem dX1_assess_25 : decode cX1_assess 25 = .ok (.aload_n 1, 1) := by decide +kernel
theorem dX1_assess_26 : decode cX1_assess 26 = .ok (.invokevirtual 38, 3) := by decide +kernel
theorem dX1_assess_29 : decode cX1_assess 29 = .ok (.invokevirtual 41, 3) := by decide +kernel
theorem dX1_assess_32 : decode cX1_assess 32 = .ok (.bipush (-2), 2) := by decide +kernel
theorem dX1_assess_34 : decode cX1_assess 34 = .ok (.if_icmp .ne 5, 3) := by decide +kernel
theorem dX1_assess_37 : decode cX1_assess 37 = .ok (.iconst 0, 1) := by decide +kernel
theorem dX1_assess_38 : decode cX1_assess 38 = .ok (.ireturn, 1) := by decide +kernel
theorem dX1_assess_39 : decode cX1_assess 39 = .ok (.aload_n 1, 1) := by decide +kernel
theorem dX1_assess_40 : decode cX1_assess 40 = .ok (.aload_n 0, 1) := by decide +kernel
theorem dX1_assess_41 : decode cX1_assess 41 = .ok (.getfield 15, 3) := by decide +kernel
theorem dX1_assess_44 : decode cX1_assess 44 = .ok (.invokevirtual 47, 3) := by decide +kernel
theorem dX1_assess_47 : decode cX1_assess 47 = .ok (.aload_n 1, 1) := by decide +kernel
theorem dX1_assess_48 : decode cX1_assess 48 = .ok (.getfield 51, 3) := by decide +kernel
theorem dX1_assess_51 : decode cX1_assess 51 = .ok (.if_icmp .ne 5, 3) := by decide +kernel
theorem dX1_assess_54 : decode cX1_assess 54 = .ok (.iconst 1, 1) := by decide +kernel
theorem dX1_assess_55 : decode cX1_assess 55 = .ok (.ireturn, 1) := by decide +kernel
theorem dX1_assess_56 : decode cX1_assess 56 = .ok (.iconst 1, 1) := by decide +kernel
theorem dX1_assess_57 : decode cX1_assess 57 = .ok (.istore_n 2, 1) := by decide +kernel
theorem dX1_assess_58 : decode cX1_assess 58 = .ok (.iconst 0, 1) := by decide +kernel
theorem dX1_assess_59 : decode cX1_assess 59 = .ok (.istore_n 3, 1) := by decide +kernel
theorem dX1_assess_60 : decode cX1_assess 60 = .ok (.iload_n 3, 1) := by decide +kernel
theorem dX1_assess_61 : decode cX1_assess 61 = .ok (.ldc 54, 2) := by decide +kernel
theorem dX1_assess_63 : decode cX1_assess 63 = .ok (.if_icmp .ge 19, 3) := by decide +kernel
theorem dX1_assess_66 : decode cX1_assess 66 = .ok (.iload_n 2, 1) := by decide +kernel
theorem dX1_assess_67 : decode cX1_assess 67 = .ok (.ifCond .le 15, 3) := by decide +kernel
theorem dX1_assess_70 : decode cX1_assess 70 = .ok (.aload_n 0, 1) := by decide +kernel
theorem dX1_assess_71 : decode cX1_assess 71 = .ok (.aload_n 1, 1) := by decide +kernel
theorem dX1_assess_72 : decode cX1_assess 72 = .ok (.invokevirtual 55, 3) := by decide +kernel
theorem dX1_assess_75 : decode cX1_assess 75 = .ok (.istore_n 2, 1) := by decide +kernel
theorem dX1_assess_76 : decode cX1_assess 76 = .ok (.iinc 3 1, 3) := by decide +kernel
theorem dX1_assess_79 : decode cX1_assess 79 = .ok (.goto (-19), 3) := by decide +kernel
theorem dX1_assess_82 : decode cX1_assess 82 = .ok (.iload_n 2, 1) := by decide +kernel
theorem dX1_assess_83 : decode cX1_assess 83 = .ok (.bipush (-2), 2) := by decide +kernel
theorem dX1_assess_85 : decode cX1_assess 85 = .ok (.if_icmp .ne 5, 3) := by decide +kernel
theorem dX1_assess_88 : decode cX1_assess 88 = .ok (.iconst 0, 1) := by decide +kernel
theorem dX1_assess_89 : decode cX1_assess 89 = .ok (.ireturn, 1) := by decide +kernel
theorem dX1_assess_90 : decode cX1_assess 90 = .ok (.iload_n 2, 1) := by decide +kernel
theorem dX1_assess_91 : decode cX1_assess 91 = .ok (.bipush (-3), 2) := by decide +kernel
theorem dX1_assess_93 : decode cX1_assess 93 = .ok (.if_icmp .ne 5, 3) := by decide +kernel
theorem dX1_assess_96 : decode cX1_assess 96 = .ok (.iconst 4, 1) := by decide +kernel
theorem dX1_assess_97 : decode cX1_assess 97 = .ok (.ireturn, 1) := by decide +kernel
theorem dX1_assess_98 : decode cX1_assess 98 = .ok (.aload_n 1, 1) := by decide +kernel
theorem dX1_assess_99 : decode cX1_assess 99 = .ok (.aload_n 0, 1) := by decide +kernel
theorem dX1_assess_100 : decode cX1_assess 100 = .ok (.getfield 15, 3) := by decide +kernel
theorem dX1_assess_103 : decode cX1_assess 103 = .ok (.invokevirtual 47, 3) := by decide +kernel
theorem dX1_assess_106 : decode cX1_assess 106 = .ok (.aload_n 1, 1) := by decide +kernel
theorem dX1_assess_107 : decode cX1_assess 107 = .ok (.getfield 51, 3) := by decide +kernel
theorem dX1_assess_110 : decode cX1_assess 110 = .ok (.if_icmp .ne 7, 3) := by decide +kernel
theorem dX1_assess_113 : decode cX1_assess 113 = .ok (.iconst 2, 1) := by decide +kernel
theorem dX1_assess_114 : decode cX1_assess 114 = .ok (.goto 4, 3) := by decide +kernel
theorem dX1_assess_117 : decode cX1_assess 117 = .ok (.iconst 3, 1) := by decide +kernel
theorem dX1_assess_118 : decode cX1_assess 118 = .ok (.ireturn, 1) := by decide +kernel
theorem dX1_passOfProbes_0 : decode cX1_passOfProbes 0 = .ok (.iconst 0, 1) := by decide +kernel
theorem dX1_passOfProbes_1 : decode cX1_passOfProbes 1 = .ok (.istore_n 2, 1) := by decide +kernel
theorem dX1_passOfProbes_2 : decode cX1_passOfProbes 2 = .ok (.iconst 0, 1) := by decide +kernel
theorem dX1_passOfProbes_3 : decode cX1_passOfProbes 3 = .ok (.istore_n 3, 1) := by decide +kernel
theorem dX1_passOfProbes_4 : decode cX1_passOfProbes 4 = .ok (.iload_n 3, 1) := by decide +kernel
theorem dX1_passOfProbes_5 : decode cX1_passOfProbes 5 = .ok (.aload_n 1, 1) := by decide +kernel
theorem dX1_passOfProbes_6 : decode cX1_passOfProbes 6 = .ok (.getfield 51, 3) := by decide +kernel
theorem dX1_passOfProbes_9 : decode cX1_passOfProbes 9 = .ok (.if_icmp .ge 174, 3) := by decide +kernel
theorem dX1_passOfProbes_12 : decode cX1_passOfProbes 12 = .ok (.iconst 0, 1) := by decide +kernel
theorem dX1_passOfProbes_13 : decode cX1_passOfProbes 13 = .ok (.istore 4, 2) := by decide +kernel
theorem dX1_passOfProbes_15 : decode cX1_passOfProbes 15 = .ok (.iload 4, 2) := by decide +kernel
theorem dX1_passOfProbes_17 : decode cX1_passOfProbes 17 = .ok (.aload_n 1, 1) := by decide +kernel
theorem dX1_passOfProbes_18 : decode cX1_passOfProbes 18 = .ok (.getfield 59, 3) := by decide +kernel
theorem dX1_passOfProbes_21 : decode cX1_passOfProbes 21 = .ok (.if_icmp .gt 156, 3) := by decide +kernel
theorem dX1_passOfProbes_24 : decode cX1_passOfProbes 24 = .ok (.aload_n 0, 1) := by decide +kernel
theorem dX1_passOfProbes_25 : decode cX1_passOfProbes 25 = .ok (.getfield 15, 3) := by decide +kernel
theorem dX1_passOfProbes_28 : decode cX1_passOfProbes 28 = .ok (.iload_n 3, 1) := by decide +kernel
theorem dX1_passOfProbes_29 : decode cX1_passOfProbes 29 = .ok (.iaload, 1) := by decide +kernel
theorem dX1_passOfProbes_30 : decode cX1_passOfProbes 30 = .ok (.iload 4, 2) := by decide +kernel
theorem dX1_passOfProbes_32 : decode cX1_passOfProbes 32 = .ok (.invokestatic 62, 3) := by decide +kernel
theorem dX1_passOfProbes_35 : decode cX1_passOfProbes 35 = .ok (.ifCond .eq 136, 3) := by decide +kernel
theorem dX1_passOfProbes_38 : decode cX1_passOfProbes 38 = .ok (.aload_n 0, 1) := by decide +kernel
theorem dX1_passOfProbes_39 : decode cX1_passOfProbes 39 = .ok (.getfield 15, 3) := by decide +kernel
theorem dX1_passOfProbes_42 : decode cX1_passOfProbes 42 = .ok (.iload_n 3, 1) := by decide +kernel
theorem dX1_passOfProbes_43 : decode cX1_passOfProbes 43 = .ok (.iaload, 1) := by decide +kernel
theorem dX1_passOfProbes_44 : decode cX1_passOfProbes 44 = .ok (.invokestatic 66, 3) := by decide +kernel
theorem dX1_passOfProbes_47 : decode cX1_passOfProbes 47 = .ok (.ifCond .eq 6, 3) := by decide +kernel
theorem dX1_passOfProbes_50 : decode cX1_passOfProbes 50 = .ok (.goto 121, 3) := by decide +kernel
theorem dX1_passOfProbes_53 : decode cX1_passOfProbes 53 = .ok (.aload_n 0, 1) := by decide +kernel
theorem dX1_passOfProbes_54 : decode cX1_passOfProbes 54 = .ok (.getfield 22, 3) := by decide +kernel
theorem dX1_passOfProbes_57 : decode cX1_passOfProbes 57 = .ok (.sipush 400, 3) := by decide +kernel
theorem dX1_passOfProbes_60 : decode cX1_passOfProbes 60 = .ok (.if_icmp .lt 6, 3) := by decide +kernel
theorem dX1_passOfProbes_63 : decode cX1_passOfProbes 63 = .ok (.bipush (-3), 2) := by decide +kernel
theorem dX1_passOfProbes_65 : decode cX1_passOfProbes 65 = .ok (.ireturn, 1) := by decide +kernel
theorem dX1_passOfProbes_66 : decode cX1_passOfProbes 66 = .ok (.aload_n 0, 1) := by decide +kernel
theorem dX1_passOfProbes_67 : decode cX1_passOfProbes 67 = .ok (.dup, 1) := by decide +kernel
theorem dX1_passOfProbes_68 : decode cX1_passOfProbes 68 = .ok (.getfield 22, 3) := by decide +kernel
theorem dX1_passOfProbes_71 : decode cX1_passOfProbes 71 = .ok (.iconst 1, 1) := by decide +kernel
theorem dX1_passOfProbes_72 : decode cX1_passOfProbes 72 = .ok (.iadd, 1) := by decide +kernel
theorem dX1_passOfProbes_73 : decode cX1_passOfProbes 73 = .ok (.putfield 22, 3) := by decide +kernel
theorem dX1_passOfProbes_76 : decode cX1_passOfProbes 76 = .ok (.aload_n 0, 1) := by decide +kernel
theorem dX1_passOfProbes_77 : decode cX1_passOfProbes 77 = .ok (.getfield 15, 3) := by decide +kernel
theorem dX1_passOfProbes_80 : decode cX1_passOfProbes 80 = .ok (.iconst 0, 1) := by decide +kernel
theorem dX1_passOfProbes_81 : decode cX1_passOfProbes 81 = .ok (.aload_n 0, 1) := by decide +kernel
theorem dX1_passOfProbes_82 : decode cX1_passOfProbes 82 = .ok (.getfield 19, 3) := by decide +kernel
theorem dX1_passOfProbes_85 : decode cX1_passOfProbes 85 = .ok (.iconst 0, 1) := by decide +kernel
theorem dX1_passOfProbes_86 : decode cX1_passOfProbes 86 = .ok (.aload_n 1, 1) := by decide +kernel
theorem dX1_passOfProbes_87 : decode cX1_passOfProbes 87 = .ok (.getfield 51, 3) := by decide +kernel
theorem dX1_passOfProbes_90 : decode cX1_passOfProbes 90 = .ok (.invokestatic 70, 3) := by decide +kernel
theorem dX1_passOfProbes_93 : decode cX1_passOfProbes 93 = .ok (.aload_n 0, 1) := by decide +kernel
theorem dX1_passOfProbes_94 : decode cX1_passOfProbes 94 = .ok (.getfield 19, 3) := by decide +kernel
theorem dX1_passOfProbes_97 : decode cX1_passOfProbes 97 = .ok (.iload_n 3, 1) := by decide +kernel
theorem dX1_passOfProbes_98 : decode cX1_passOfProbes 98 = .ok (.iconst 1, 1) := by decide +kernel
theorem dX1_passOfProbes_99 : decode cX1_passOfProbes 99 = .ok (.iload 4, 2) := by decide +kernel
theorem dX1_passOfProbes_101 : decode cX1_passOfProbes 101 = .ok (.ishl, 1) := by decide +kernel
theorem dX1_passOfProbes_102 : decode cX1_passOfProbes 102 = .ok (.iastore, 1) := by decide +kernel
theorem dX1_passOfProbes_103 : decode cX1_passOfProbes 103 = .ok (.aload_n 0, 1) := by decide +kernel
theorem dX1_passOfProbes_104 : decode cX1_passOfProbes 104 = .ok (.getfield 9, 3) := by decide +kernel
theorem dX1_passOfProbes_107 : decode cX1_passOfProbes 107 = .ok (.aload_n 1, 1) := by decide +kernel
theorem dX1_passOfProbes_108 : decode cX1_passOfProbes 108 = .ok (.aload_n 0, 1) := by decide +kernel
theorem dX1_passOfProbes_109 : decode cX1_passOfProbes 109 = .ok (.getfield 19, 3) := by decide +kernel
theorem dX1_passOfProbes_112 : decode cX1_passOfProbes 112 = .ok (.aload_n 1, 1) := by decide +kernel
theorem dX1_passOfProbes_113 : decode cX1_passOfProbes 113 = .ok (.iload_n 3, 1) := by decide +kernel
theorem dX1_passOfProbes_114 : decode cX1_passOfProbes 114 = .ok (.invokevirtual 76, 3) := by decide +kernel
theorem dX1_passOfProbes_117 : decode cX1_passOfProbes 117 = .ok (.invokevirtual 41, 3) := by decide +kernel
theorem dX1_passOfProbes_120 : decode cX1_passOfProbes 120 = .ok (.bipush (-2), 2) := by decide +kernel
theorem dX1_passOfProbes_122 : decode cX1_passOfProbes 122 = .ok (.if_icmp .eq 6, 3) := by decide +kernel
theorem dX1_passOfProbes_125 : decode cX1_passOfProbes 125 = .ok (.goto 46, 3) := by decide +kernel
theorem dX1_passOfProbes_128 : decode cX1_passOfProbes 128 = .ok (.iinc 2 1, 3) := by decide +kernel
theorem dX1_passOfProbes_131 : decode cX1_passOfProbes 131 = .ok (.aload_n 0, 1) := by decide +kernel
theorem dX1_passOfProbes_132 : decode cX1_passOfProbes 132 = .ok (.getfield 15, 3) := by decide +kernel
theorem dX1_passOfProbes_135 : decode cX1_passOfProbes 135 = .ok (.iload_n 3, 1) := by decide +kernel
theorem dX1_passOfProbes_136 : decode cX1_passOfProbes 136 = .ok (.dup2, 1) := by decide +kernel
theorem dX1_passOfProbes_137 : decode cX1_passOfProbes 137 = .ok (.iaload, 1) := by decide +kernel
theorem dX1_passOfProbes_138 : decode cX1_passOfProbes 138 = .ok (.iconst 1, 1) := by decide +kernel
theorem dX1_passOfProbes_139 : decode cX1_passOfProbes 139 = .ok (.iload 4, 2) := by decide +kernel
theorem dX1_passOfProbes_141 : decode cX1_passOfProbes 141 = .ok (.ishl, 1) := by decide +kernel
theorem dX1_passOfProbes_142 : decode cX1_passOfProbes 142 = .ok (.iconst (-1), 1) := by decide +kernel
theorem dX1_passOfProbes_143 : decode cX1_passOfProbes 143 = .ok (.ixor, 1) := by decide +kernel
theorem dX1_passOfProbes_144 : decode cX1_passOfProbes 144 = .ok (.iand, 1) := by decide +kernel
theorem dX1_passOfProbes_145 : decode cX1_passOfProbes 145 = .ok (.iastore, 1) := by decide +kernel
theorem dX1_passOfProbes_146 : decode cX1_passOfProbes 146 = .ok (.aload_n 0, 1) := by decide +kernel
theorem dX1_passOfProbes_147 : decode cX1_passOfProbes 147 = .ok (.getfield 9, 3) := by decide +kernel
theorem dX1_passOfProbes_150 : decode cX1_passOfProbes 150 = .ok (.aload_n 1, 1) := by decide +kernel
theorem dX1_passOfProbes_151 : decode cX1_passOfProbes 151 = .ok (.aload_n 0, 1) := by decide +kernel
theorem dX1_passOfProbes_152 : decode cX1_passOfProbes 152 = .ok (.getfield 15, 3) := by decide +kernel
theorem dX1_passOfProbes_155 : decode cX1_passOfProbes 155 = .ok (.aload_n 1, 1) := by decide +kernel
theorem dX1_passOfProbes_156 : decode cX1_passOfProbes 156 = .ok (.iload_n 3, 1) := by decide +kernel
theorem dX1_passOfProbes_157 : decode cX1_passOfProbes 157 = .ok (.invokevirtual 76, 3) := by decide +kernel
theorem dX1_passOfProbes_160 : decode cX1_passOfProbes 160 = .ok (.invokevirtual 41, 3) := by decide +kernel
theorem dX1_passOfProbes_163 : decode cX1_passOfProbes 163 = .ok (.bipush (-2), 2) := by decide +kernel
theorem dX1_passOfProbes_165 : decode cX1_passOfProbes 165 = .ok (.if_icmp .ne 6, 3) := by decide +kernel
theorem dX1_passOfProbes_168 : decode cX1_passOfProbes 168 = .ok (.bipush (-2), 2) := by decide +kernel
theorem dX1_passOfProbes_170 : decode cX1_passOfProbes 170 = .ok (.ireturn, 1) := by decide +kernel
theorem dX1_passOfProbes_171 : decode cX1_passOfProbes 171 = .ok (.iinc 4 1, 3) := by decide +kernel
theorem dX1_passOfProbes_174 : decode cX1_passOfProbes 174 = .ok (.goto (-159), 3) := by decide +kernel
theorem dX1_passOfProbes_177 : decode cX1_passOfProbes 177 = .ok (.iinc 3 1, 3) := by decide +kernel
theorem dX1_passOfProbes_180 : decode cX1_passOfProbes 180 = .ok (.goto (-176), 3) := by decide +kernel
theorem dX1_passOfProbes_183 : decode cX1_passOfProbes 183 = .ok (.iload_n 2, 1) := by decide +kernel
theorem dX1_passOfProbes_184 : decode cX1_passOfProbes 184 = .ok (.ireturn, 1) := by decide +kernel
theorem dX2_init_0 : decode cX2_init 0 = .ok (.aload_n 0, 1) := by decide +kernel
theorem dX2_init_1 : decode cX2_init 1 = .ok (.invokespecial 3, 3) := by decide +kernel
theorem dX2_init_4 : decode cX2_init 4 = .ok (.aload_n 0, 1) := by decide +kernel
theorem dX2_init_5 : decode cX2_init 5 = .ok (.bipush 100, 2) := by decide +kernel
theorem dX2_init_7 : decode cX2_init 7 = .ok (.newarray .int, 2) := by decide +kernel
theorem dX2_init_9 : decode cX2_init 9 = .ok (.putfield 9, 3) := by decide +kernel
theorem dX2_init_12 : decode cX2_init 12 = .ok (.aload_n 0, 1) := by decide +kernel
theorem dX2_init_13 : decode cX2_init 13 = .ok (.iconst 0, 1) := by decide +kernel
theorem dX2_init_14 : decode cX2_init 14 = .ok (.putfield 15, 3) := by decide +kernel
theorem dX2_init_17 : decode cX2_init 17 = .ok (.aload_n 0, 1) := by decide +kernel
theorem dX2_init_18 : decode cX2_init 18 = .ok (.iconst 0, 1) := by decide +kernel
theorem dX2_init_19 : decode cX2_init 19 = .ok (.putfield 19, 3) := by decide +kernel
theorem dX2_init_22 : decode cX2_init 22 = .ok (.return_, 1) := by decide +kernel
theorem dX2_pickCell_0 : decode cX2_pickCell 0 = .ok (.bipush 16, 2) := by decide +kernel
theorem dX2_pickCell_2 : decode cX2_pickCell 2 = .ok (.istore_n 2, 1) := by decide +kernel
theorem dX2_pickCell_3 : decode cX2_pickCell 3 = .ok (.aload_n 0, 1) := by decide +kernel
theorem dX2_pickCell_4 : decode cX2_pickCell 4 = .ok (.iconst 0, 1) := by decide +kernel
theorem dX2_pickCell_5 : decode cX2_pickCell 5 = .ok (.putfield 15, 3) := by decide +kernel
theorem dX2_pickCell_8 : decode cX2_pickCell 8 = .ok (.aload_n 0, 1) := by decide +kernel
theorem dX2_pickCell_9 : decode cX2_pickCell 9 = .ok (.iconst 0, 1) := by decide +kernel
theorem dX2_pickCell_10 : decode cX2_pickCell 10 = .ok (.putfield 19, 3) := by decide +kernel
theorem dX2_pickCell_13 : decode cX2_pickCell 13 = .ok (.iconst 0, 1) := by decide +kernel
theorem dX2_pickCell_14 : decode cX2_pickCell 14 = .ok (.istore_n 3, 1) := by decide +kernel
theorem dX2_pickCell_15 : decode cX2_pickCell 15 = .ok (.iload_n 3, 1) := by decide +kernel
theorem dX2_pickCell_16 : decode cX2_pickCell 16 = .ok (.iload_n 1, 1) := by decide +kernel
theorem dX2_pickCell_17 : decode cX2_pickCell 17 = .ok (.if_icmp .ge 40, 3) := by decide +kernel
theorem dX2_pickCell_20 : decode cX2_pickCell 20 = .ok (.aload_n 0, 1) := by decide +kernel
theorem dX2_pickCell_21 : decode cX2_pickCell 21 = .ok (.getfield 9, 3) := by decide +kernel
theorem dX2_pickCell_24 : decode cX2_pickCell 24 = .ok (.iload_n 3, 1) := by decide +kernel
theorem dX2_pickCell_25 : decode cX2_pickCell 25 = .ok (.iaload, 1) := by decide +kernel
theorem dX2_pickCell_26 : decode cX2_pickCell 26 = .ok (.invokestatic 22, 3) := by decide +kernel
theorem dX2_pickCell_29 : decode cX2_pickCell 29 = .ok (.istore 4, 2) := by decide +kernel
theorem dX2_pickCell_31 : decode cX2_pickCell 31 = .ok (.iload 4, 2) := by decide +kernel
theorem dX2_pickCell_33 : decode cX2_pickCell 33 = .ok (.iconst 2, 1) := by decide +kernel
theorem dX2_pickCell_34 : decode cX2_pickCell 34 = .ok (.if_icmp .lt 17, 3) := by decide +kernel
theorem dX2_pickCell_37 : decode cX2_pickCell 37 = .ok (.iload 4, 2) := by decide +kernel
theorem dX2_pickCell_39 : decode cX2_pickCell 39 = .ok (.iload_n 2, 1) := by decide +kernel
theorem dX2_pickCell_40 : decode cX2_pickCell 40 = .ok (.if_icmp .ge 11, 3) := by decide +kernel
theorem dX2_pickCell_43 : decode cX2_pickCell 43 = .ok (.iload 4, 2) := by decide +kernel
theorem dX2_pickCell_45 : decode cX2_pickCell 45 = .ok (.istore_n 2, 1) := by decide +kernel
theorem dX2_pickCell_46 : decode cX2_pickCell 46 = .ok (.aload_n 0, 1) := by decide +kernel
theorem dX2_pickCell_47 : decode cX2_pickCell 47 = .ok (.iload_n 3, 1) := by decide +kernel
theorem dX2_pickCell_48 : decode cX2_pickCell 48 = .ok (.putfield 15, 3) := by decide +kernel
theorem dX2_pickCell_51 : decode cX2_pickCell 51 = .ok (.iinc 3 1, 3) := by decide +kernel
theorem dX2_pickCell_54 : decode cX2_pickCell 54 = .ok (.goto (-39), 3) := by decide +kernel
theorem dX2_pickCell_57 : decode cX2_pickCell 57 = .ok (.return_, 1) := by decide +kernel
theorem dX2_takeColour_0 : decode cX2_takeColour 0 = .ok (.aload_n 0, 1) := by decide +kernel
theorem dX2_takeColour_1 : decode cX2_takeColour 1 = .ok (.getfield 19, 3) := by decide +kernel
theorem dX2_takeColour_4 : decode cX2_takeColour 4 = .ok (.istore_n 1, 1) := by decide +kernel
theorem dX2_takeColour_5 : decode cX2_takeColour 5 = .ok (.iload_n 1, 1) := by decide +kernel
theorem dX2_takeColour_6 : decode cX2_takeColour 6 = .ok (.iconst 3, 1) := by decide +kernel
theorem dX2_takeColour_7 : decode cX2_takeColour 7 = .ok (.if_icmp .gt 34, 3) := by decide +kernel
theorem dX2_takeColour_10 : decode cX2_takeColour 10 = .ok (.aload_n 0, 1) := by decide +kernel
theorem dX2_takeColour_11 : decode cX2_takeColour 11 = .ok (.getfield 9, 3) := by decide +kernel
theorem dX2_takeColour_14 : decode cX2_takeColour 14 = .ok (.aload_n 0, 1) := by decide +kernel
theorem dX2_takeColour_15 : decode cX2_takeColour 15 = .ok (.getfield 15, 3) := by decide +kernel
theorem dX2_takeColour_18 : decode cX2_takeColour 18 = .ok (.iaload, 1) := by decide +kernel
theorem dX2_takeColour_19 : decode cX2_takeColour 19 = .ok (.iload_n 1, 1) := by decide +kernel
theorem dX2_takeColour_20 : decode cX2_takeColour 20 = .ok (.invokestatic 28, 3) := by decide +kernel
theorem dX2_takeColour_23 : decode cX2_takeColour 23 = .ok (.ifCond .eq 12, 3) := by decide +kernel
theorem dX2_takeColour_26 : decode cX2_takeColour 26 = .ok (.aload_n 0, 1) := by decide +kernel
theorem dX2_takeColour_27 : decode cX2_takeColour 27 = .ok (.iload_n 1, 1) := by decide +kernel
theorem dX2_takeColour_28 : decode cX2_takeColour 28 = .ok (.iconst 1, 1) := by decide +kernel
theorem dX2_takeColour_29 : decode cX2_takeColour 29 = .ok (.iadd, 1) := by decide +kernel
theorem dX2_takeColour_30 : decode cX2_takeColour 30 = .ok (.putfield 19, 3) := by decide +kernel
theorem dX2_takeColour_33 : decode cX2_takeColour 33 = .ok (.iload_n 1, 1) := by decide +kernel
theorem dX2_takeColour_34 : decode cX2_takeColour 34 = .ok (.ireturn, 1) := by decide +kernel
theorem dX2_takeColour_35 : decode cX2_takeColour 35 = .ok (.iinc 1 1, 3) := by decide +kernel
theorem dX2_takeColour_38 : decode cX2_takeColour 38 = .ok (.goto (-33), 3) := by decide +kernel
theorem dX2_takeColour_41 : decode cX2_takeColour 41 = .ok (.aload_n 0, 1) := by decide +kernel
theorem dX2_takeColour_42 : decode cX2_takeColour 42 = .ok (.iconst 4, 1) := by decide +kernel
theorem dX2_takeColour_43 : decode cX2_takeColour 43 = .ok (.putfield 19, 3) := by decide +kernel
theorem dX2_takeColour_46 : decode cX2_takeColour 46 = .ok (.iconst (-1), 1) := by decide +kernel
theorem dX2_takeColour_47 : decode cX2_takeColour 47 = .ok (.ireturn, 1) := by decide +kernel
theorem dX3_init_0 : decode cX3_init 0 = .ok (.aload_n 0, 1) := by decide +kernel
theorem dX3_init_1 : decode cX3_init 1 = .ok (.invokespecial 3, 3) := by decide +kernel
theorem dX3_init_4 : decode cX3_init 4 = .ok (.aload_n 0, 1) := by decide +kernel
theorem dX3_init_5 : decode cX3_init 5 = .ok (.iload_n 1, 1) := by decide +kernel
theorem dX3_init_6 : decode cX3_init 6 = .ok (.putfield 9, 3) := by decide +kernel
theorem dX3_init_9 : decode cX3_init 9 = .ok (.aload_n 0, 1) := by decide +kernel
theorem dX3_init_10 : decode cX3_init 10 = .ok (.iload_n 2, 1) := by decide +kernel
theorem dX3_init_11 : decode cX3_init 11 = .ok (.putfield 15, 3) := by decide +kernel
theorem dX3_init_14 : decode cX3_init 14 = .ok (.aload_n 0, 1) := by decide +kernel
theorem dX3_init_15 : decode cX3_init 15 = .ok (.iload_n 3, 1) := by decide +kernel
theorem dX3_init_16 : decode cX3_init 16 = .ok (.putfield 18, 3) := by decide +kernel
theorem dX3_init_19 : decode cX3_init 19 = .ok (.aload_n 0, 1) := by decide +kernel
theorem dX3_init_20 : decode cX3_init 20 = .ok (.iload 4, 2) := by decide +kernel
theorem dX3_init_22 : decode cX3_init 22 = .ok (.putfield 21, 3) := by decide +kernel
theorem dX3_init_25 : decode cX3_init 25 = .ok (.aload_n 0, 1) := by decide +kernel
theorem dX3_init_26 : decode cX3_init 26 = .ok (.iload_n 3, 1) := by decide +kernel
theorem dX3_init_27 : decode cX3_init 27 = .ok (.newarray .int, 2) := by decide +kernel
theorem dX3_init_29 : decode cX3_init 29 = .ok (.putfield 24, 3) := by decide +kernel
theorem dX3_init_32 : decode cX3_init 32 = .ok (.aload_n 0, 1) := by decide +kernel
theorem dX3_init_33 : decode cX3_init 33 = .ok (.iload_n 3, 1) := by decide +kernel
theorem dX3_init_34 : decode cX3_init 34 = .ok (.newarray .int, 2) := by decide +kernel
theorem dX3_init_36 : decode cX3_init 36 = .ok (.putfield 28, 3) := by decide +kernel
theorem dX3_init_39 : decode cX3_init 39 = .ok (.aload_n 0, 1) := by decide +kernel
theorem dX3_init_40 : decode cX3_init 40 = .ok (.bipush 16, 2) := by decide +kernel
theorem dX3_init_42 : decode cX3_init 42 = .ok (.newarray .int, 2) := by decide +kernel
theorem dX3_init_44 : decode cX3_init 44 = .ok (.putfield 31, 3) := by decide +kernel
theorem dX3_init_47 : decode cX3_init 47 = .ok (.aload_n 0, 1) := by decide +kernel
theorem dX3_init_48 : decode cX3_init 48 = .ok (.iconst 0, 1) := by decide +kernel
theorem dX3_init_49 : decode cX3_init 49 = .ok (.putfield 34, 3) := by decide +kernel
theorem dX3_init_52 : decode cX3_init 52 = .ok (.aload_n 0, 1) := by decide +kernel
theorem dX3_init_53 : decode cX3_init 53 = .ok (.iconst 0, 1) := by decide +kernel
theorem dX3_init_54 : decode cX3_init 54 = .ok (.putfield 37, 3) := by decide +kernel
theorem dX3_init_57 : decode cX3_init 57 = .ok (.aload_n 0, 1) := by decide +kernel
theorem dX3_init_58 : decode cX3_init 58 = .ok (.iconst 0, 1) := by decide +kernel
theorem dX3_init_59 : decode cX3_init 59 = .ok (.putfield 40, 3) := by decide +kernel
theorem dX3_init_62 : decode cX3_init 62 = .ok (.aload_n 0, 1) := by decide +kernel
theorem dX3_init_63 : decode cX3_init 63 = .ok (.iconst 0, 1) := by decide +kernel
theorem dX3_init_64 : decode cX3_init 64 = .ok (.putfield 43, 3) := by decide +kernel
theorem dX3_init_67 : decode cX3_init 67 = .ok (.aload_n 0, 1) := by decide +kernel
theorem dX3_init_68 : decode cX3_init 68 = .ok (.iconst 0, 1) := by decide +kernel
theorem dX3_init_69 : decode cX3_init 69 = .ok (.putfield 46, 3) := by decide +kernel
theorem dX3_init_72 : decode cX3_init 72 = .ok (.aload_n 0, 1) := by decide +kernel
theorem dX3_init_73 : decode cX3_init 73 = .ok (.iconst 1, 1) := by decide +kernel
theorem dX3_init_74 : decode cX3_init 74 = .ok (.putfield 49, 3) := by decide +kernel
theorem dX3_init_77 : decode cX3_init 77 = .ok (.aload_n 0, 1) := by decide +kernel
theorem dX3_init_78 : decode cX3_init 78 = .ok (.invokevirtual 52, 3) := by decide +kernel
theorem dX3_init_81 : decode cX3_init 81 = .ok (.return_, 1) := by decide +kernel
theorem dX3_cellAt_0 : decode cX3_cellAt 0 = .ok (.aload_n 0, 1) := by decide +kernel
theorem dX3_cellAt_1 : decode cX3_cellAt 1 = .ok (.getfield 9, 3) := by decide +kernel
theorem dX3_cellAt_4 : decode cX3_cellAt 4 = .ok (.iload_n 1, 1) := by decide +kernel
theorem dX3_cellAt_5 : decode cX3_cellAt 5 = .ok (.aload_n 0, 1) := by decide +kernel
theorem dX3_cellAt_6 : decode cX3_cellAt 6 = .ok (.getfield 15, 3) := by decide +kernel
theorem dX3_cellAt_9 : decode cX3_cellAt 9 = .ok (.imul, 1) := by decide +kernel
theorem dX3_cellAt_10 : decode cX3_cellAt 10 = .ok (.iadd, 1) := by decide +kernel
theorem dX3_cellAt_11 : decode cX3_cellAt 11 = .ok (.ireturn, 1) := by decide +kernel
theorem dX3_append_0 : decode cX3_append 0 = .ok (.aload_n 0, 1) := by decide +kernel
theorem dX3_append_1 : decode cX3_append 1 = .ok (.getfield 34, 3) := by decide +kernel
theorem dX3_append_4 : decode cX3_append 4 = .ok (.ifCond .le 22, 3) := by decide +kernel
theorem dX3_append_7 : decode cX3_append 7 = .ok (.aload_n 0, 1) := by decide +kernel
theorem dX3_append_8 : decode cX3_append 8 = .ok (.getfield 24, 3) := by decide +kernel
theorem dX3_append_11 : decode cX3_append 11 = .ok (.aload_n 0, 1) := by decide +kernel
theorem dX3_append_12 : decode cX3_append 12 = .ok (.getfield 34, 3) := by decide +kernel
theorem dX3_append_15 : decode cX3_append 15 = .ok (.iconst 1, 1) := by decide +kernel
theorem dX3_append_16 : decode cX3_append 16 = .ok (.isub, 1) := by decide +kernel
theorem dX3_append_17 : decode cX3_append 17 = .ok (.iaload, 1) := by decide +kernel
theorem dX3_append_18 : decode cX3_append 18 = .ok (.iload_n 1, 1) := by decide +kernel
theorem dX3_append_19 : decode cX3_append 19 = .ok (.if_icmp .eq 7, 3) := by decide +kernel
theorem dX3_append_22 : decode cX3_append 22 = .ok (.iconst 1, 1) := by decide +kernel
theorem dX3_append_23 : decode cX3_append 23 = .ok (.goto 4, 3) := by decide +kernel
theorem dX3_append_26 : decode cX3_append 26 = .ok (.iconst 0, 1) := by decide +kernel
theorem dX3_append_27 : decode cX3_append 27 = .ok (.istore_n 3, 1) := by decide +kernel
theorem dX3_append_28 : decode cX3_append 28 = .ok (.aload_n 0, 1) := by decide +kernel
theorem dX3_append_29 : decode cX3_append 29 = .ok (.getfield 34, 3) := by decide +kernel
theorem dX3_append_32 : decode cX3_append 32 = .ok (.ifCond .eq 7, 3) := by decide +kernel
theorem dX3_append_35 : decode cX3_append 35 = .ok (.iload_n 3, 1) := by decide +kernel
theorem dX3_append_36 : decode cX3_append 36 = .ok (.ifCond .eq 7, 3) := by decide +kernel
theorem dX3_append_39 : decode cX3_append 39 = .ok (.iconst 0, 1) := by decide +kernel
theorem dX3_append_40 : decode cX3_append 40 = .ok (.goto 4, 3) := by decide +kernel
theorem dX3_append_43 : decode cX3_append 43 = .ok (.iconst 1, 1) := by decide +kernel
theorem dX3_append_44 : decode cX3_append 44 = .ok (.istore 4, 2) := by decide +kernel
theorem dX3_append_46 : decode cX3_append 46 = .ok (.iload_n 2, 1) := by decide +kernel
theorem dX3_append_47 : decode cX3_append 47 = .ok (.iconst 1, 1) := by decide +kernel
theorem dX3_append_48 : decode cX3_append 48 = .ok (.if_icmp .lt 19, 3) := by decide +kernel
theorem dX3_append_51 : decode cX3_append 51 = .ok (.iload_n 2, 1) := by decide +kernel
theorem dX3_append_52 : decode cX3_append 52 = .ok (.aload_n 0, 1) := by decide +kernel
theorem dX3_append_53 : decode cX3_append 53 = .ok (.getfield 18, 3) := by decide +kernel
theorem dX3_append_56 : decode cX3_append 56 = .ok (.aload_n 0, 1) := by decide +kernel
theorem dX3_append_57 : decode cX3_append 57 = .ok (.getfield 37, 3) := by decide +kernel
theorem dX3_append_60 : decode cX3_append 60 = .ok (.isub, 1) := by decide +kernel
theorem dX3_append_61 : decode cX3_append 61 = .ok (.iload 4, 2) := by decide +kernel
theorem dX3_append_63 : decode cX3_append 63 = .ok (.isub, 1) := by decide +kernel
theorem dX3_append_64 : decode cX3_append 64 = .ok (.if_icmp .le 5, 3) := by decide +kernel
theorem dX3_append_67 : decode cX3_append 67 = .ok (.iconst 0, 1) := by decide +kernel
theorem dX3_append_68 : decode cX3_append 68 = .ok (.ireturn, 1) := by decide +kernel
theorem dX3_append_69 : decode cX3_append 69 = .ok (.iload_n 3, 1) := by decide +kernel
theorem dX3_append_70 : decode cX3_append 70 = .ok (.ifCond .eq 20, 3) := by decide +kernel
theorem dX3_append_73 : decode cX3_append 73 = .ok (.aload_n 0, 1) := by decide +kernel
theorem dX3_append_74 : decode cX3_append 74 = .ok (.dup, 1) := by decide +kernel
theorem dX3_append_75 : decode cX3_append 75 = .ok (.getfield 46, 3) := by decide +kernel
theorem dX3_append_78 : decode cX3_append 78 = .ok (.iconst 1, 1) := by decide +kernel
theorem dX3_append_79 : decode cX3_append 79 = .ok (.aload_n 0, 1) := by decide +kernel
theorem dX3_append_80 : decode cX3_append 80 = .ok (.getfield 40, 3) := by decide +kernel
theorem dX3_append_83 : decode cX3_append 83 = .ok (.iconst 1, 1) := by decide +kernel
theorem dX3_append_84 : decode cX3_append 84 = .ok (.isub, 1) := by decide +kernel
theorem dX3_append_85 : decode cX3_append 85 = .ok (.ishl, 1) := by decide +kernel
theorem dX3_append_86 : decode cX3_append 86 = .ok (.ior, 1) := by decide +kernel
theorem dX3_append_87 : decode cX3_append 87 = .ok (.putfield 46, 3) := by decide +kernel
theorem dX3_append_90 : decode cX3_append 90 = .ok (.iconst 0, 1) := by decide +kernel
theorem dX3_append_91 : decode cX3_append 91 = .ok (.istore 5, 2) := by decide +kernel
theorem dX3_append_93 : decode cX3_append 93 = .ok (.iload 5, 2) := by decide +kernel
theorem dX3_append_95 : decode cX3_append 95 = .ok (.iload_n 2, 1) := by decide +kernel
theorem dX3_append_96 : decode cX3_append 96 = .ok (.if_icmp .ge 24, 3) := by decide +kernel
theorem dX3_append_99 : decode cX3_append 99 = .ok (.aload_n 0, 1) := by decide +kernel
theorem dX3_append_100 : decode cX3_append 100 = .ok (.dup, 1) := by decide +kernel
theorem dX3_append_101 : decode cX3_append 101 = .ok (.getfield 40, 3) := by decide +kernel
theorem dX3_append_104 : decode cX3_append 104 = .ok (.iconst 1, 1) := by decide +kernel
theorem dX3_append_105 : decode cX3_append 105 = .ok (.iadd, 1) := by decide +kernel
theorem dX3_append_106 : decode cX3_append 106 = .ok (.putfield 40, 3) := by decide +kernel
theorem dX3_append_109 : decode cX3_append 109 = .ok (.aload_n 0, 1) := by decide +kernel
theorem dX3_append_110 : decode cX3_append 110 = .ok (.iload_n 1, 1) := by decide +kernel
theorem dX3_append_111 : decode cX3_append 111 = .ok (.invokevirtual 55, 3) := by decide +kernel
theorem dX3_append_114 : decode cX3_append 114 = .ok (.iinc 5 1, 3) := by decide +kernel
theorem dX3_append_117 : decode cX3_append 117 = .ok (.goto (-24), 3) := by decide +kernel
theorem dX3_append_120 : decode cX3_append 120 = .ok (.aload_n 0, 1) := by decide +kernel
theorem dX3_append_121 : decode cX3_append 121 = .ok (.iconst 3, 1) := by decide +kernel
theorem dX3_append_122 : decode cX3_append 122 = .ok (.aload_n 0, 1) := by decide +kernel
theorem dX3_append_123 : decode cX3_append 123 = .ok (.getfield 40, 3) := by decide +kernel
theorem dX3_append_126 : decode cX3_append 126 = .ok (.ishl, 1) := by decide +kernel
theorem dX3_append_127 : decode cX3_append 127 = .ok (.putfield 49, 3) := by decide +kernel
theorem dX3_append_130 : decode cX3_append 130 = .ok (.aload_n 0, 1) := by decide +kernel
theorem dX3_append_131 : decode cX3_append 131 = .ok (.dup, 1) := by decide +kernel
theorem dX3_append_132 : decode cX3_append 132 = .ok (.getfield 40, 3) := by decide +kernel
theorem dX3_append_135 : decode cX3_append 135 = .ok (.iconst 1, 1) := by decide +kernel
theorem dX3_append_136 : decode cX3_append 136 = .ok (.iadd, 1) := by decide +kernel
theorem dX3_append_137 : decode cX3_append 137 = .ok (.putfield 40, 3) := by decide +kernel
theorem dX3_append_140 : decode cX3_append 140 = .ok (.aload_n 0, 1) := by decide +kernel
theorem dX3_append_141 : decode cX3_append 141 = .ok (.invokevirtual 52, 3) := by decide +kernel
theorem dX3_append_144 : decode cX3_append 144 = .ok (.aload_n 0, 1) := by decide +kernel
theorem dX3_append_145 : decode cX3_append 145 = .ok (.dup, 1) := by decide +kernel
theorem dX3_append_146 : decode cX3_append 146 = .ok (.getfield 37, 3) := by decide +kernel
theorem dX3_append_149 : decode cX3_append 149 = .ok (.iload 4, 2) := by decide +kernel
theorem dX3_append_151 : decode cX3_append 151 = .ok (.iload_n 2, 1) := by decide +kernel
theorem dX3_append_152 : decode cX3_append 152 = .ok (.iadd, 1) := by decide +kernel
theorem dX3_append_153 : decode cX3_append 153 = .ok (.iadd, 1) := by decide +kernel
theorem dX3_append_154 : decode cX3_append 154 = .ok (.putfield 37, 3) := by decide +kernel
theorem dX3_append_157 : decode cX3_append 157 = .ok (.aload_n 0, 1) := by decide +kernel
theorem dX3_append_158 : decode cX3_append 158 = .ok (.getfield 24, 3) := by decide +kernel
theorem dX3_append_161 : decode cX3_append 161 = .ok (.aload_n 0, 1) := by decide +kernel
theorem dX3_append_162 : decode cX3_append 162 = .ok (.getfield 34, 3) := by decide +kernel
theorem dX3_append_165 : decode cX3_append 165 = .ok (.iload_n 1, 1) := by decide +kernel
theorem dX3_append_166 : decode cX3_append 166 = .ok (.iastore, 1) := by decide +kernel
theorem dX3_append_167 : decode cX3_append 167 = .ok (.aload_n 0, 1) := by decide +kernel
theorem dX3_append_168 : decode cX3_append 168 = .ok (.getfield 28, 3) := by decide +kernel
theorem dX3_append_171 : decode cX3_append 171 = .ok (.aload_n 0, 1) := by decide +kernel
theorem dX3_append_172 : decode cX3_append 172 = .ok (.getfield 34, 3) := by decide +kernel
theorem dX3_append_175 : decode cX3_append 175 = .ok (.iload_n 2, 1) := by decide +kernel
theorem dX3_append_176 : decode cX3_append 176 = .ok (.iastore, 1) := by decide +kernel
theorem dX3_append_177 : decode cX3_append 177 = .ok (.aload_n 0, 1) := by decide +kernel
theorem dX3_append_178 : decode cX3_append 178 = .ok (.dup, 1) := by decide +kernel
theorem dX3_append_179 : decode cX3_append 179 = .ok (.getfield 34, 3) := by decide +kernel
theorem dX3_append_182 : decode cX3_append 182 = .ok (.iconst 1, 1) := by decide +kernel
theorem dX3_append_183 : decode cX3_append 183 = .ok (.iadd, 1) := by decide +kernel
theorem dX3_append_184 : decode cX3_append 184 = .ok (.putfield 34, 3) := by decide +kernel
theorem dX3_append_187 : decode cX3_append 187 = .ok (.iconst 1, 1) := by decide +kernel
theorem dX3_append_188 : decode cX3_append 188 = .ok (.ireturn, 1) := by decide +kernel
theorem dX3_readRuns_0 : decode cX3_readRuns 0 = .ok (.iconst 0, 1) := by decide +kernel
theorem dX3_readRuns_1 : decode cX3_readRuns 1 = .ok (.istore_n 2, 1) := by decide +kernel
theorem dX3_readRuns_2 : decode cX3_readRuns 2 = .ok (.iconst 0, 1) := by decide +kernel
theorem dX3_readRuns_3 : decode cX3_readRuns 3 = .ok (.istore_n 3, 1) := by decide +kernel
theorem dX3_readRuns_4 : decode cX3_readRuns 4 = .ok (.iload_n 3, 1) := by decide +kernel
theorem dX3_readRuns_5 : decode cX3_readRuns 5 = .ok (.aload_n 0, 1) := by decide +kernel
theorem dX3_readRuns_6 : decode cX3_readRuns 6 = .ok (.getfield 18, 3) := by decide +kernel
theorem dX3_readRuns_9 : decode cX3_readRuns 9 = .ok (.if_icmp .ge 77, 3) := by decide +kernel
theorem dX3_readRuns_12 : decode cX3_readRuns 12 = .ok (.aload_n 1, 1) := by decide +kernel
theorem dX3_readRuns_13 : decode cX3_readRuns 13 = .ok (.aload_n 0, 1) := by decide +kernel
theorem dX3_readRuns_14 : decode cX3_readRuns 14 = .ok (.iload_n 3, 1) := by decide +kernel
theorem dX3_readRuns_15 : decode cX3_readRuns 15 = .ok (.invokevirtual 59, 3) := by decide +kernel
theorem dX3_readRuns_18 : decode cX3_readRuns 18 = .ok (.iaload, 1) := by decide +kernel
theorem dX3_readRuns_19 : decode cX3_readRuns 19 = .ok (.istore 4, 2) := by decide +kernel
theorem dX3_readRuns_21 : decode cX3_readRuns 21 = .ok (.iinc 2 1, 3) := by decide +kernel
theorem dX3_readRuns_24 : decode cX3_readRuns 24 = .ok (.iload_n 3, 1) := by decide +kernel
theorem dX3_readRuns_25 : decode cX3_readRuns 25 = .ok (.iconst 1, 1) := by decide +kernel
theorem dX3_readRuns_26 : decode cX3_readRuns 26 = .ok (.iadd, 1) := by decide +kernel
theorem dX3_readRuns_27 : decode cX3_readRuns 27 = .ok (.aload_n 0, 1) := by decide +kernel
theorem dX3_readRuns_28 : decode cX3_readRuns 28 = .ok (.getfield 18, 3) := by decide +kernel
theorem dX3_readRuns_31 : decode cX3_readRuns 31 = .ok (.if_icmp .eq 17, 3) := by decide +kernel
theorem dX3_readRuns_34 : decode cX3_readRuns 34 = .ok (.aload_n 1, 1) := by decide +kernel
theorem dX3_readRuns_35 : decode cX3_readRuns 35 = .ok (.aload_n 0, 1) := by decide +kernel
theorem dX3_readRuns_36 : decode cX3_readRuns 36 = .ok (.iload_n 3, 1) := by decide +kernel
theorem dX3_readRuns_37 : decode cX3_readRuns 37 = .ok (.iconst 1, 1) := by decide +kernel
theorem dX3_readRuns_38 : decode cX3_readRuns 38 = .ok (.iadd, 1) := by decide +kernel
theorem dX3_readRuns_39 : decode cX3_readRuns 39 = .ok (.invokevirtual 59, 3) := by decide +kernel
theorem dX3_readRuns_42 : decode cX3_readRuns 42 = .ok (.iaload, 1) := by decide +kernel
theorem dX3_readRuns_43 : decode cX3_readRuns 43 = .ok (.iload 4, 2) := by decide +kernel
theorem dX3_readRuns_45 : decode cX3_readRuns 45 = .ok (.if_icmp .eq 7, 3) := by decide +kernel
theorem dX3_readRuns_48 : decode cX3_readRuns 48 = .ok (.iconst 1, 1) := by decide +kernel
theorem dX3_readRuns_49 : decode cX3_readRuns 49 = .ok (.goto 4, 3) := by decide +kernel
theorem dX3_readRuns_52 : decode cX3_readRuns 52 = .ok (.iconst 0, 1) := by decide +kernel
theorem dX3_readRuns_53 : decode cX3_readRuns 53 = .ok (.istore 5, 2) := by decide +kernel
theorem dX3_readRuns_55 : decode cX3_readRuns 55 = .ok (.iload 5, 2) := by decide +kernel
theorem dX3_readRuns_57 : decode cX3_readRuns 57 = .ok (.ifCond .eq 16, 3) := by decide +kernel
theorem dX3_readRuns_60 : decode cX3_readRuns 60 = .ok (.iload 4, 2) := by decide +kernel
theorem dX3_readRuns_62 : decode cX3_readRuns 62 = .ok (.ifCond .eq 11, 3) := by decide +kernel
theorem dX3_readRuns_65 : decode cX3_readRuns 65 = .ok (.aload_n 0, 1) := by decide +kernel
theorem dX3_readRuns_66 : decode cX3_readRuns 66 = .ok (.iload 4, 2) := by decide +kernel
theorem dX3_readRuns_68 : decode cX3_readRuns 68 = .ok (.iload_n 2, 1) := by decide +kernel
theorem dX3_readRuns_69 : decode cX3_readRuns 69 = .ok (.invokevirtual 63, 3) := by decide +kernel
theorem dX3_readRuns_72 : decode cX3_readRuns 72 = .ok (.pop, 1) := by decide +kernel
theorem dX3_readRuns_73 : decode cX3_readRuns 73 = .ok (.iload 5, 2) := by decide +kernel
theorem dX3_readRuns_75 : decode cX3_readRuns 75 = .ok (.ifCond .eq 5, 3) := by decide +kernel
theorem dX3_readRuns_78 : decode cX3_readRuns 78 = .ok (.iconst 0, 1) := by decide +kernel
theorem dX3_readRuns_79 : decode cX3_readRuns 79 = .ok (.istore_n 2, 1) := by decide +kernel
theorem dX3_readRuns_80 : decode cX3_readRuns 80 = .ok (.iinc 3 1, 3) := by decide +kernel
theorem dX3_readRuns_83 : decode cX3_readRuns 83 = .ok (.goto (-79), 3) := by decide +kernel
theorem dX3_readRuns_86 : decode cX3_readRuns 86 = .ok (.return_, 1) := by decide +kernel
theorem dX3_copyRuns_0 : decode cX3_copyRuns 0 = .ok (.iconst 0, 1) := by decide +kernel
theorem dX3_copyRuns_1 : decode cX3_copyRuns 1 = .ok (.istore_n 3, 1) := by decide +kernel
theorem dX3_copyRuns_2 : decode cX3_copyRuns 2 = .ok (.iload_n 3, 1) := by decide +kernel
theorem dX3_copyRuns_3 : decode cX3_copyRuns 3 = .ok (.aload_n 1, 1) := by decide +kernel
theorem dX3_copyRuns_4 : decode cX3_copyRuns 4 = .ok (.getfield 34, 3) := by decide +kernel
theorem dX3_copyRuns_7 : decode cX3_copyRuns 7 = .ok (.if_icmp .ge 46, 3) := by decide +kernel
theorem dX3_copyRuns_10 : decode cX3_copyRuns 10 = .ok (.iload_n 2, 1) := by decide +kernel
theorem dX3_copyRuns_11 : decode cX3_copyRuns 11 = .ok (.ifCond .eq 14, 3) := by decide +kernel
theorem dX3_copyRuns_14 : decode cX3_copyRuns 14 = .ok (.aload_n 1, 1) := by decide +kernel
theorem dX3_copyRuns_15 : decode cX3_copyRuns 15 = .ok (.getfield 34, 3) := by decide +kernel
theorem dX3_copyRuns_18 : decode cX3_copyRuns 18 = .ok (.iconst 1, 1) := by decide +kernel
theorem dX3_copyRuns_19 : decode cX3_copyRuns 19 = .ok (.isub, 1) := by decide +kernel
theorem dX3_copyRuns_20 : decode cX3_copyRuns 20 = .ok (.iload_n 3, 1) := by decide +kernel
theorem dX3_copyRuns_21 : decode cX3_copyRuns 21 = .ok (.isub, 1) := by decide +kernel
theorem dX3_copyRuns_22 : decode cX3_copyRuns 22 = .ok (.goto 4, 3) := by decide +kernel
theorem dX3_copyRuns_25 : decode cX3_copyRuns 25 = .ok (.iload_n 3, 1) := by decide +kernel
theorem dX3_copyRuns_26 : decode cX3_copyRuns 26 = .ok (.istore 4, 2) := by decide +kernel
theorem dX3_copyRuns_28 : decode cX3_copyRuns 28 = .ok (.aload_n 0, 1) := by decide +kernel
theorem dX3_copyRuns_29 : decode cX3_copyRuns 29 = .ok (.aload_n 1, 1) := by decide +kernel
theorem dX3_copyRuns_30 : decode cX3_copyRuns 30 = .ok (.getfield 24, 3) := by decide +kernel
theorem dX3_copyRuns_33 : decode cX3_copyRuns 33 = .ok (.iload 4, 2) := by decide +kernel
theorem dX3_copyRuns_35 : decode cX3_copyRuns 35 = .ok (.iaload, 1) := by decide +kernel
theorem dX3_copyRuns_36 : decode cX3_copyRuns 36 = .ok (.aload_n 1, 1) := by decide +kernel
theorem dX3_copyRuns_37 : decode cX3_copyRuns 37 = .ok (.getfield 28, 3) := by decide +kernel
theorem dX3_copyRuns_40 : decode cX3_copyRuns 40 = .ok (.iload 4, 2) := by decide +kernel
theorem dX3_copyRuns_42 : decode cX3_copyRuns 42 = .ok (.iaload, 1) := by decide +kernel
theorem dX3_copyRuns_43 : decode cX3_copyRuns 43 = .ok (.invokevirtual 63, 3) := by decide +kernel
theorem dX3_copyRuns_46 : decode cX3_copyRuns 46 = .ok (.pop, 1) := by decide +kernel
theorem dX3_copyRuns_47 : decode cX3_copyRuns 47 = .ok (.iinc 3 1, 3) := by decide +kernel
theorem dX3_copyRuns_50 : decode cX3_copyRuns 50 = .ok (.goto (-48), 3) := by decide +kernel
theorem dX3_copyRuns_53 : decode cX3_copyRuns 53 = .ok (.return_, 1) := by decide +kernel
theorem dX3_hasRunsOf_0 : decode cX3_hasRunsOf 0 = .ok (.aload_n 0, 1) := by decide +kernel
theorem dX3_hasRunsOf_1 : decode cX3_hasRunsOf 1 = .ok (.getfield 34, 3) := by decide +kernel
theorem dX3_hasRunsOf_4 : decode cX3_hasRunsOf 4 = .ok (.aload_n 1, 1) := by decide +kernel
theorem dX3_hasRunsOf_5 : decode cX3_hasRunsOf 5 = .ok (.getfield 34, 3) := by decide +kernel
theorem dX3_hasRunsOf_8 : decode cX3_hasRunsOf 8 = .ok (.if_icmp .eq 5, 3) := by decide +kernel
theorem dX3_hasRunsOf_11 : decode cX3_hasRunsOf 11 = .ok (.iconst 0, 1) := by decide +kernel
theorem dX3_hasRunsOf_12 : decode cX3_hasRunsOf 12 = .ok (.ireturn, 1) := by decide +kernel
theorem dX3_hasRunsOf_13 : decode cX3_hasRunsOf 13 = .ok (.iconst 0, 1) := by decide +kernel
theorem dX3_hasRunsOf_14 : decode cX3_hasRunsOf 14 = .ok (.istore_n 3, 1) := by decide +kernel
theorem dX3_hasRunsOf_15 : decode cX3_hasRunsOf 15 = .ok (.iload_n 3, 1) := by decide +kernel
theorem dX3_hasRunsOf_16 : decode cX3_hasRunsOf 16 = .ok (.aload_n 0, 1) := by decide +kernel
theorem dX3_hasRunsOf_17 : decode cX3_hasRunsOf 17 = .ok (.getfield 34, 3) := by decide +kernel
theorem dX3_hasRunsOf_20 : decode cX3_hasRunsOf 20 = .ok (.if_icmp .ge 61, 3) := by decide +kernel
theorem dX3_hasRunsOf_23 : decode cX3_hasRunsOf 23 = .ok (.iload_n 2, 1) := by decide +kernel
theorem dX3_hasRunsOf_24 : decode cX3_hasRunsOf 24 = .ok (.ifCond .eq 14, 3) := by decide +kernel
theorem dX3_hasRunsOf_27 : decode cX3_hasRunsOf 27 = .ok (.aload_n 0, 1) := by decide +kernel
theorem dX3_hasRunsOf_28 : decode cX3_hasRunsOf 28 = .ok (.getfield 34, 3) := by decide +kernel
theorem dX3_hasRunsOf_31 : decode cX3_hasRunsOf 31 = .ok (.iconst 1, 1) := by decide +kernel
theorem dX3_hasRunsOf_32 : decode cX3_hasRunsOf 32 = .ok (.isub, 1) := by decide +kernel
theorem dX3_hasRunsOf_33 : decode cX3_hasRunsOf 33 = .ok (.iload_n 3, 1) := by decide +kernel
theorem dX3_hasRunsOf_34 : decode cX3_hasRunsOf 34 = .ok (.isub, 1) := by decide +kernel
theorem dX3_hasRunsOf_35 : decode cX3_hasRunsOf 35 = .ok (.goto 4, 3) := by decide +kernel
theorem dX3_hasRunsOf_38 : decode cX3_hasRunsOf 38 = .ok (.iload_n 3, 1) := by decide +kernel
theorem dX3_hasRunsOf_39 : decode cX3_hasRunsOf 39 = .ok (.istore 4, 2) := by decide +kernel
theorem dX3_hasRunsOf_41 : decode cX3_hasRunsOf 41 = .ok (.aload_n 0, 1) := by decide +kernel
theorem dX3_hasRunsOf_42 : decode cX3_hasRunsOf 42 = .ok (.getfield 24, 3) := by decide +kernel
theorem dX3_hasRunsOf_45 : decode cX3_hasRunsOf 45 = .ok (.iload_n 3, 1) := by decide +kernel
theorem dX3_hasRunsOf_46 : decode cX3_hasRunsOf 46 = .ok (.iaload, 1) := by decide +kernel
theorem dX3_hasRunsOf_47 : decode cX3_hasRunsOf 47 = .ok (.aload_n 1, 1) := by decide +kernel
theorem dX3_hasRunsOf_48 : decode cX3_hasRunsOf 48 = .ok (.getfield 24, 3) := by decide +kernel
theorem dX3_hasRunsOf_51 : decode cX3_hasRunsOf 51 = .ok (.iload 4, 2) := by decide +kernel
theorem dX3_hasRunsOf_53 : decode cX3_hasRunsOf 53 = .ok (.iaload, 1) := by decide +kernel
theorem dX3_hasRunsOf_54 : decode cX3_hasRunsOf 54 = .ok (.if_icmp .ne 19, 3) := by decide +kernel
theorem dX3_hasRunsOf_57 : decode cX3_hasRunsOf 57 = .ok (.aload_n 0, 1) := by decide +kernel
theorem dX3_hasRunsOf_58 : decode cX3_hasRunsOf 58 = .ok (.getfield 28, 3) := by decide +kernel
theorem dX3_hasRunsOf_61 : decode cX3_hasRunsOf 61 = .ok (.iload_n 3, 1) := by decide +kernel
theorem dX3_hasRunsOf_62 : decode cX3_hasRunsOf 62 = .ok (.iaload, 1) := by decide +kernel
theorem dX3_hasRunsOf_63 : decode cX3_hasRunsOf 63 = .ok (.aload_n 1, 1) := by decide +kernel
theorem dX3_hasRunsOf_64 : decode cX3_hasRunsOf 64 = .ok (.getfield 28, 3) := by decide +kernel
theorem dX3_hasRunsOf_67 : decode cX3_hasRunsOf 67 = .ok (.iload 4, 2) := by decide +kernel
theorem dX3_hasRunsOf_69 : decode cX3_hasRunsOf 69 = .ok (.iaload, 1) := by decide +kernel
theorem dX3_hasRunsOf_70 : decode cX3_hasRunsOf 70 = .ok (.if_icmp .eq 5, 3) := by decide +kernel
theorem dX3_hasRunsOf_73 : decode cX3_hasRunsOf 73 = .ok (.iconst 0, 1) := by decide +kernel
theorem dX3_hasRunsOf_74 : decode cX3_hasRunsOf 74 = .ok (.ireturn, 1) := by decide +kernel
theorem dX3_hasRunsOf_75 : decode cX3_hasRunsOf 75 = .ok (.iinc 3 1, 3) := by decide +kernel
theorem dX3_hasRunsOf_78 : decode cX3_hasRunsOf 78 = .ok (.goto (-63), 3) := by decide +kernel
theorem dX3_hasRunsOf_81 : decode cX3_hasRunsOf 81 = .ok (.iconst 1, 1) := by decide +kernel
theorem dX3_hasRunsOf_82 : decode cX3_hasRunsOf 82 = .ok (.ireturn, 1) := by decide +kernel
theorem dX3_addGap_0 : decode cX3_addGap 0 = .ok (.aload_n 0, 1) := by decide +kernel
theorem dX3_addGap_1 : decode cX3_addGap 1 = .ok (.dup, 1) := by decide +kernel
theorem dX3_addGap_2 : decode cX3_addGap 2 = .ok (.getfield 43, 3) := by decide +kernel
theorem dX3_addGap_5 : decode cX3_addGap 5 = .ok (.iconst 1, 1) := by decide +kernel
theorem dX3_addGap_6 : decode cX3_addGap 6 = .ok (.aload_n 0, 1) := by decide +kernel
theorem dX3_addGap_7 : decode cX3_addGap 7 = .ok (.getfield 40, 3) := by decide +kernel
theorem dX3_addGap_10 : decode cX3_addGap 10 = .ok (.ishl, 1) := by decide +kernel
theorem dX3_addGap_11 : decode cX3_addGap 11 = .ok (.ior, 1) := by decide +kernel
theorem dX3_addGap_12 : decode cX3_addGap 12 = .ok (.putfield 43, 3) := by decide +kernel
theorem dX3_addGap_15 : decode cX3_addGap 15 = .ok (.aload_n 0, 1) := by decide +kernel
theorem dX3_addGap_16 : decode cX3_addGap 16 = .ok (.iconst 0, 1) := by decide +kernel
theorem dX3_addGap_17 : decode cX3_addGap 17 = .ok (.invokevirtual 55, 3) := by decide +kernel
theorem dX3_addGap_20 : decode cX3_addGap 20 = .ok (.return_, 1) := by decide +kernel
theorem dX3_addPlace_0 : decode cX3_addPlace 0 = .ok (.iconst 0, 1) := by decide +kernel
theorem dX3_addPlace_1 : decode cX3_addPlace 1 = .ok (.istore_n 2, 1) := by decide +kernel
theorem dX3_addPlace_2 : decode cX3_addPlace 2 = .ok (.iload_n 2, 1) := by decide +kernel
theorem dX3_addPlace_3 : decode cX3_addPlace 3 = .ok (.bipush 16, 2) := by decide +kernel
theorem dX3_addPlace_5 : decode cX3_addPlace 5 = .ok (.if_icmp .ge 32, 3) := by decide +kernel
theorem dX3_addPlace_8 : decode cX3_addPlace 8 = .ok (.iload_n 2, 1) := by decide +kernel
theorem dX3_addPlace_9 : decode cX3_addPlace 9 = .ok (.iload_n 1, 1) := by decide +kernel
theorem dX3_addPlace_10 : decode cX3_addPlace 10 = .ok (.invokestatic 67, 3) := by decide +kernel
theorem dX3_addPlace_13 : decode cX3_addPlace 13 = .ok (.ifCond .eq 18, 3) := by decide +kernel
theorem dX3_addPlace_16 : decode cX3_addPlace 16 = .ok (.aload_n 0, 1) := by decide +kernel
theorem dX3_addPlace_17 : decode cX3_addPlace 17 = .ok (.getfield 31, 3) := by decide +kernel
theorem dX3_addPlace_20 : decode cX3_addPlace 20 = .ok (.iload_n 2, 1) := by decide +kernel
theorem dX3_addPlace_21 : decode cX3_addPlace 21 = .ok (.dup2, 1) := by decide +kernel
theorem dX3_addPlace_22 : decode cX3_addPlace 22 = .ok (.iaload, 1) := by decide +kernel
theorem dX3_addPlace_23 : decode cX3_addPlace 23 = .ok (.iconst 1, 1) := by decide +kernel
theorem dX3_addPlace_24 : decode cX3_addPlace 24 = .ok (.aload_n 0, 1) := by decide +kernel
theorem dX3_addPlace_25 : decode cX3_addPlace 25 = .ok (.getfield 40, 3) := by decide +kernel
theorem dX3_addPlace_28 : decode cX3_addPlace 28 = .ok (.ishl, 1) := by decide +kernel
theorem dX3_addPlace_29 : decode cX3_addPlace 29 = .ok (.ior, 1) := by decide +kernel
theorem dX3_addPlace_30 : decode cX3_addPlace 30 = .ok (.iastore, 1) := by decide +kernel
theorem dX3_addPlace_31 : decode cX3_addPlace 31 = .ok (.iinc 2 1, 3) := by decide +kernel
theorem dX3_addPlace_34 : decode cX3_addPlace 34 = .ok (.goto (-32), 3) := by decide +kernel
theorem dX3_addPlace_37 : decode cX3_addPlace 37 = .ok (.return_, 1) := by decide +kernel
theorem dX4_init_0 : decode cX4_init 0 = .ok (.aload_n 0, 1) := by decide +kernel
theorem dX4_init_1 : decode cX4_init 1 = .ok (.invokespecial 3, 3) := by decide +kernel
theorem dX4_init_4 : decode cX4_init 4 = .ok (.aload_n 0, 1) := by decide +kernel
theorem dX4_init_5 : decode cX4_init 5 = .ok (.iload_n 1, 1) := by decide +kernel
theorem dX4_init_6 : decode cX4_init 6 = .ok (.putfield 9, 3) := by decide +kernel
theorem dX4_init_9 : decode cX4_init 9 = .ok (.aload_n 0, 1) := by decide +kernel
theorem dX4_init_10 : decode cX4_init 10 = .ok (.iload_n 2, 1) := by decide +kernel
theorem dX4_init_11 : decode cX4_init 11 = .ok (.putfield 15, 3) := by decide +kernel
theorem dX4_init_14 : decode cX4_init 14 = .ok (.aload_n 0, 1) := by decide +kernel
theorem dX4_init_15 : decode cX4_init 15 = .ok (.iload_n 3, 1) := by decide +kernel
theorem dX4_init_16 : decode cX4_init 16 = .ok (.putfield 18, 3) := by decide +kernel
theorem dX4_init_19 : decode cX4_init 19 = .ok (.aload_n 0, 1) := by decide +kernel
theorem dX4_init_20 : decode cX4_init 20 = .ok (.iload_n 1, 1) := by decide +kernel
theorem dX4_init_21 : decode cX4_init 21 = .ok (.iload_n 2, 1) := by decide +kernel
theorem dX4_init_22 : decode cX4_init 22 = .ok (.imul, 1) := by decide +kernel
theorem dX4_init_23 : decode cX4_init 23 = .ok (.putfield 21, 3) := by decide +kernel
theorem dX4_init_26 : decode cX4_init 26 = .ok (.aload_n 0, 1) := by decide +kernel
theorem dX4_init_27 : decode cX4_init 27 = .ok (.iload_n 2, 1) := by decide +kernel
theorem dX4_init_28 : decode cX4_init 28 = .ok (.iload_n 1, 1) := by decide +kernel
theorem dX4_init_29 : decode cX4_init 29 = .ok (.iadd, 1) := by decide +kernel
theorem dX4_init_30 : decode cX4_init 30 = .ok (.anewarray 24, 3) := by decide +kernel
theorem dX4_init_33 : decode cX4_init 33 = .ok (.putfield 26, 3) := by decide +kernel
theorem dX4_init_36 : decode cX4_init 36 = .ok (.iconst 0, 1) := by decide +kernel
theorem dX4_init_37 : decode cX4_init 37 = .ok (.istore 4, 2) := by decide +kernel
theorem dX4_init_39 : decode cX4_init 39 = .ok (.iload 4, 2) := by decide +kernel
theorem dX4_init_41 : decode cX4_init 41 = .ok (.iload_n 2, 1) := by decide +kernel
theorem dX4_init_42 : decode cX4_init 42 = .ok (.if_icmp .ge 30, 3) := by decide +kernel
theorem dX4_init_45 : decode cX4_init 45 = .ok (.aload_n 0, 1) := by decide +kernel
theorem dX4_init_46 : decode cX4_init 46 = .ok (.getfield 26, 3) := by decide +kernel
theorem dX4_init_49 : decode cX4_init 49 = .ok (.iload 4, 2) := by decide +kernel
theorem dX4_init_51 : decode cX4_init 51 = .ok (.new 24, 3) := by decide +kernel
theorem dX4_init_54 : decode cX4_init 54 = .ok (.dup, 1) := by decide +kernel
theorem dX4_init_55 : decode cX4_init 55 = .ok (.iload 4, 2) := by decide +kernel
theorem dX4_init_57 : decode cX4_init 57 = .ok (.iload_n 1, 1) := by decide +kernel
theorem dX4_init_58 : decode cX4_init 58 = .ok (.imul, 1) := by decide +kernel
theorem dX4_init_59 : decode cX4_init 59 = .ok (.iconst 1, 1) := by decide +kernel
theorem dX4_init_60 : decode cX4_init 60 = .ok (.iload_n 1, 1) := by decide +kernel
theorem dX4_init_61 : decode cX4_init 61 = .ok (.iload_n 2, 1) := by decide +kernel
theorem dX4_init_62 : decode cX4_init 62 = .ok (.invokespecial 30, 3) := by decide +kernel
theorem dX4_init_65 : decode cX4_init 65 = .ok (.aastore, 1) := by decide +kernel
theorem dX4_init_66 : decode cX4_init 66 = .ok (.iinc 4 1, 3) := by decide +kernel
theorem dX4_init_69 : decode cX4_init 69 = .ok (.goto (-30), 3) := by decide +kernel
theorem dX4_init_72 : decode cX4_init 72 = .ok (.iconst 0, 1) := by decide +kernel
theorem dX4_init_73 : decode cX4_init 73 = .ok (.istore 4, 2) := by decide +kernel
theorem dX4_init_75 : decode cX4_init 75 = .ok (.iload 4, 2) := by decide +kernel
theorem dX4_init_77 : decode cX4_init 77 = .ok (.iload_n 1, 1) := by decide +kernel
theorem dX4_init_78 : decode cX4_init 78 = .ok (.if_icmp .ge 30, 3) := by decide +kernel
theorem dX4_init_81 : decode cX4_init 81 = .ok (.aload_n 0, 1) := by decide +kernel
theorem dX4_init_82 : decode cX4_init 82 = .ok (.getfield 26, 3) := by decide +kernel
theorem dX4_init_85 : decode cX4_init 85 = .ok (.iload_n 2, 1) := by decide +kernel
theorem dX4_init_86 : decode cX4_init 86 = .ok (.iload 4, 2) := by decide +kernel
theorem dX4_init_88 : decode cX4_init 88 = .ok (.iadd, 1) := by decide +kernel
theorem dX4_init_89 : decode cX4_init 89 = .ok (.new 24, 3) := by decide +kernel
theorem dX4_init_92 : decode cX4_init 92 = .ok (.dup, 1) := by decide +kernel
theorem dX4_init_93 : decode cX4_init 93 = .ok (.iload 4, 2) := by decide +kernel
theorem dX4_init_95 : decode cX4_init 95 = .ok (.iload_n 1, 1) := by decide +kernel
theorem dX4_init_96 : decode cX4_init 96 = .ok (.iload_n 2, 1) := by decide +kernel
theorem dX4_init_97 : decode cX4_init 97 = .ok (.iconst 0, 1) := by decide +kernel
theorem dX4_init_98 : decode cX4_init 98 = .ok (.invokespecial 30, 3) := by decide +kernel
theorem dX4_init_101 : decode cX4_init 101 = .ok (.aastore, 1) := by decide +kernel
theorem dX4_init_102 : decode cX4_init 102 = .ok (.iinc 4 1, 3) := by decide +kernel
theorem dX4_init_105 : decode cX4_init 105 = .ok (.goto (-30), 3) := by decide +kernel
theorem dX4_init_108 : decode cX4_init 108 = .ok (.aload_n 0, 1) := by decide +kernel
theorem dX4_init_109 : decode cX4_init 109 = .ok (.aload_n 0, 1) := by decide +kernel
theorem dX4_init_110 : decode cX4_init 110 = .ok (.getfield 21, 3) := by decide +kernel
theorem dX4_init_113 : decode cX4_init 113 = .ok (.newarray .int, 2) := by decide +kernel
theorem dX4_init_115 : decode cX4_init 115 = .ok (.putfield 33, 3) := by decide +kernel
theorem dX4_init_118 : decode cX4_init 118 = .ok (.aload_n 0, 1) := by decide +kernel
theorem dX4_init_119 : decode cX4_init 119 = .ok (.iconst 0, 1) := by decide +kernel
theorem dX4_init_120 : decode cX4_init 120 = .ok (.putfield 37, 3) := by decide +kernel
theorem dX4_init_123 : decode cX4_init 123 = .ok (.aload_n 0, 1) := by decide +kernel
theorem dX4_init_124 : decode cX4_init 124 = .ok (.invokevirtual 41, 3) := by decide +kernel
theorem dX4_init_127 : decode cX4_init 127 = .ok (.return_, 1) := by decide +kernel
theorem dX4_full_0 : decode cX4_full 0 = .ok (.iconst 2, 1) := by decide +kernel
theorem dX4_full_1 : decode cX4_full 1 = .ok (.aload_n 0, 1) := by decide +kernel
theorem dX4_full_2 : decode cX4_full 2 = .ok (.getfield 18, 3) := by decide +kernel
theorem dX4_full_5 : decode cX4_full 5 = .ok (.ishl, 1) := by decide +kernel
theorem dX4_full_6 : decode cX4_full 6 = .ok (.iconst 1, 1) := by decide +kernel
theorem dX4_full_7 : decode cX4_full 7 = .ok (.isub, 1) := by decide +kernel
theorem dX4_full_8 : decode cX4_full 8 = .ok (.ireturn, 1) := by decide +kernel
theorem dX4_clearDesk_0 : decode cX4_clearDesk 0 = .ok (.aload_n 0, 1) := by decide +kernel
theorem dX4_clearDesk_1 : decode cX4_clearDesk 1 = .ok (.getfield 33, 3) := by decide +kernel
theorem dX4_clearDesk_4 : decode cX4_clearDesk 4 = .ok (.aload_n 0, 1) := by decide +kernel
theorem dX4_clearDesk_5 : decode cX4_clearDesk 5 = .ok (.invokevirtual 44, 3) := by decide +kernel
theorem dX4_clearDesk_8 : decode cX4_clearDesk 8 = .ok (.invokestatic 48, 3) := by decide +kernel
theorem dX4_clearDesk_11 : decode cX4_clearDesk 11 = .ok (.return_, 1) := by decide +kernel
theorem dX4_hasCell_0 : decode cX4_hasCell 0 = .ok (.iload_n 1, 1) := by decide +kernel
theorem dX4_hasCell_1 : decode cX4_hasCell 1 = .ok (.ifCond .lt 15, 3) := by decide +kernel
theorem dX4_hasCell_4 : decode cX4_hasCell 4 = .ok (.iload_n 1, 1) := by decide +kernel
theorem dX4_hasCell_5 : decode cX4_hasCell 5 = .ok (.aload_n 0, 1) := by decide +kernel
theorem dX4_hasCell_6 : decode cX4_hasCell 6 = .ok (.getfield 21, 3) := by decide +kernel
theorem dX4_hasCell_9 : decode cX4_hasCell 9 = .ok (.if_icmp .ge 7, 3) := by decide +kernel
theorem dX4_hasCell_12 : decode cX4_hasCell 12 = .ok (.iconst 1, 1) := by decide +kernel
theorem dX4_hasCell_13 : decode cX4_hasCell 13 = .ok (.goto 4, 3) := by decide +kernel
theorem dX4_hasCell_16 : decode cX4_hasCell 16 = .ok (.iconst 0, 1) := by decide +kernel
theorem dX4_hasCell_17 : decode cX4_hasCell 17 = .ok (.ireturn, 1) := by decide +kernel
theorem dX4_deskHolds_0 : decode cX4_deskHolds 0 = .ok (.aload_n 0, 1) := by decide +kernel
theorem dX4_deskHolds_1 : decode cX4_deskHolds 1 = .ok (.iload_n 1, 1) := by decide +kernel
theorem dX4_deskHolds_2 : decode cX4_deskHolds 2 = .ok (.invokevirtual 54, 3) := by decide +kernel
theorem dX4_deskHolds_5 : decode cX4_deskHolds 5 = .ok (.ifCond .eq 32, 3) := by decide +kernel
theorem dX4_deskHolds_8 : decode cX4_deskHolds 8 = .ok (.iload_n 2, 1) := by decide +kernel
theorem dX4_deskHolds_9 : decode cX4_deskHolds 9 = .ok (.ifCond .lt 28, 3) := by decide +kernel
theorem dX4_deskHolds_12 : decode cX4_deskHolds 12 = .ok (.iload_n 2, 1) := by decide +kernel
theorem dX4_deskHolds_13 : decode cX4_deskHolds 13 = .ok (.aload_n 0, 1) := by decide +kernel
theorem dX4_deskHolds_14 : decode cX4_deskHolds 14 = .ok (.getfield 18, 3) := by decide +kernel
theorem dX4_deskHolds_17 : decode cX4_deskHolds 17 = .ok (.if_icmp .gt 20, 3) := by decide +kernel
theorem dX4_deskHolds_20 : decode cX4_deskHolds 20 = .ok (.aload_n 0, 1) := by decide +kernel
theorem dX4_deskHolds_21 : decode cX4_deskHolds 21 = .ok (.getfield 33, 3) := by decide +kernel
theorem dX4_deskHolds_24 : decode cX4_deskHolds 24 = .ok (.iload_n 1, 1) := by decide +kernel
theorem dX4_deskHolds_25 : decode cX4_deskHolds 25 = .ok (.iaload, 1) := by decide +kernel
theorem dX4_deskHolds_26 : decode cX4_deskHolds 26 = .ok (.iload_n 2, 1) := by decide +kernel
theorem dX4_deskHolds_27 : decode cX4_deskHolds 27 = .ok (.invokestatic 58, 3) := by decide +kernel
theorem dX4_deskHolds_30 : decode cX4_deskHolds 30 = .ok (.ifCond .eq 7, 3) := by decide +kernel
theorem dX4_deskHolds_33 : decode cX4_deskHolds 33 = .ok (.iconst 1, 1) := by decide +kernel
theorem dX4_deskHolds_34 : decode cX4_deskHolds 34 = .ok (.goto 4, 3) := by decide +kernel
theorem dX4_deskHolds_37 : decode cX4_deskHolds 37 = .ok (.iconst 0, 1) := by decide +kernel
theorem dX4_deskHolds_38 : decode cX4_deskHolds 38 = .ok (.ireturn, 1) := by decide +kernel
theorem dX4_allRuns_0 : decode cX4_allRuns 0 = .ok (.iconst 0, 1) := by decide +kernel
theorem dX4_allRuns_1 : decode cX4_allRuns 1 = .ok (.istore_n 1, 1) := by decide +kernel
theorem dX4_allRuns_2 : decode cX4_allRuns 2 = .ok (.iconst 0, 1) := by decide +kernel
theorem dX4_allRuns_3 : decode cX4_allRuns 3 = .ok (.istore_n 2, 1) := by decide +kernel
theorem dX4_allRuns_4 : decode cX4_allRuns 4 = .ok (.iload_n 2, 1) := by decide +kernel
theorem dX4_allRuns_5 : decode cX4_allRuns 5 = .ok (.aload_n 0, 1) := by decide +kernel
theorem dX4_allRuns_6 : decode cX4_allRuns 6 = .ok (.getfield 26, 3) := by decide +kernel
theorem dX4_allRuns_9 : decode cX4_allRuns 9 = .ok (.arraylength, 1) := by decide +kernel
theorem dX4_allRuns_10 : decode cX4_allRuns 10 = .ok (.if_icmp .ge 21, 3) := by decide +kernel
theorem dX4_allRuns_13 : decode cX4_allRuns 13 = .ok (.iload_n 1, 1) := by decide +kernel
theorem dX4_allRuns_14 : decode cX4_allRuns 14 = .ok (.aload_n 0, 1) := by decide +kernel
theorem dX4_allRuns_15 : decode cX4_allRuns 15 = .ok (.getfield 26, 3) := by decide +kernel
theorem dX4_allRuns_18 : decode cX4_allRuns 18 = .ok (.iload_n 2, 1) := by decide +kernel
theorem dX4_allRuns_19 : decode cX4_allRuns 19 = .ok (.aaload, 1) := by decide +kernel
theorem dX4_allRuns_20 : decode cX4_allRuns 20 = .ok (.getfield 62, 3) := by decide +kernel
theorem dX4_allRuns_23 : decode cX4_allRuns 23 = .ok (.iadd, 1) := by decide +kernel
theorem dX4_allRuns_24 : decode cX4_allRuns 24 = .ok (.istore_n 1, 1) := by decide +kernel
theorem dX4_allRuns_25 : decode cX4_allRuns 25 = .ok (.iinc 2 1, 3) := by decide +kernel
theorem dX4_allRuns_28 : decode cX4_allRuns 28 = .ok (.goto (-24), 3) := by decide +kernel
theorem dX4_allRuns_31 : decode cX4_allRuns 31 = .ok (.iload_n 1, 1) := by decide +kernel
theorem dX4_allRuns_32 : decode cX4_allRuns 32 = .ok (.ireturn, 1) := by decide +kernel
theorem dX4_decidedCells_0 : decode cX4_decidedCells 0 = .ok (.iconst 0, 1) := by decide +kernel
theorem dX4_decidedCells_1 : decode cX4_decidedCells 1 = .ok (.istore_n 2, 1) := by decide +kernel
theorem dX4_decidedCells_2 : decode cX4_decidedCells 2 = .ok (.iconst 0, 1) := by decide +kernel
theorem dX4_decidedCells_3 : decode cX4_decidedCells 3 = .ok (.istore_n 3, 1) := by decide +kernel
theorem dX4_decidedCells_4 : decode cX4_decidedCells 4 = .ok (.iload_n 3, 1) := by decide +kernel
theorem dX4_decidedCells_5 : decode cX4_decidedCells 5 = .ok (.aload_n 0, 1) := by decide +kernel
theorem dX4_decidedCells_6 : decode cX4_decidedCells 6 = .ok (.getfield 21, 3) := by decide +kernel
theorem dX4_decidedCells_9 : decode cX4_decidedCells 9 = .ok (.if_icmp .ge 21, 3) := by decide +kernel
theorem dX4_decidedCells_12 : decode cX4_decidedCells 12 = .ok (.aload_n 1, 1) := by decide +kernel
theorem dX4_decidedCells_13 : decode cX4_decidedCells 13 = .ok (.iload_n 3, 1) := by decide +kernel
theorem dX4_decidedCells_14 : decode cX4_decidedCells 14 = .ok (.iaload, 1) := by decide +kernel
theorem dX4_decidedCells_15 : decode cX4_decidedCells 15 = .ok (.invokestatic 65, 3) := by decide +kernel
theorem dX4_decidedCells_18 : decode cX4_decidedCells 18 = .ok (.ifCond .eq 6, 3) := by decide +kernel
theorem dX4_decidedCells_21 : decode cX4_decidedCells 21 = .ok (.iinc 2 1, 3) := by decide +kernel
theorem dX4_decidedCells_24 : decode cX4_decidedCells 24 = .ok (.iinc 3 1, 3) := by decide +kernel
theorem dX4_decidedCells_27 : decode cX4_decidedCells 27 = .ok (.goto (-23), 3) := by decide +kernel
theorem dX4_decidedCells_30 : decode cX4_decidedCells 30 = .ok (.iload_n 2, 1) := by decide +kernel
theorem dX4_decidedCells_31 : decode cX4_decidedCells 31 = .ok (.ireturn, 1) := by decide +kernel
theorem dX4_everyLine_0 : decode cX4_everyLine 0 = .ok (.iconst 1, 1) := by decide +kernel
theorem dX4_everyLine_1 : decode cX4_everyLine 1 = .ok (.aload_n 0, 1) := by decide +kernel
theorem dX4_everyLine_2 : decode cX4_everyLine 2 = .ok (.getfield 26, 3) := by decide +kernel
theorem dX4_everyLine_5 : decode cX4_everyLine 5 = .ok (.arraylength, 1) := by decide +kernel
theorem dX4_everyLine_6 : decode cX4_everyLine 6 = .ok (.ishl, 1) := by decide +kernel
theorem dX4_everyLine_7 : decode cX4_everyLine 7 = .ok (.iconst 1, 1) := by decide +kernel
theorem dX4_everyLine_8 : decode cX4_everyLine 8 = .ok (.isub, 1) := by decide +kernel
theorem dX4_everyLine_9 : decode cX4_everyLine 9 = .ok (.ireturn, 1) := by decide +kernel
theorem dX4_linesThrough_0 : decode cX4_linesThrough 0 = .ok (.aload_n 0, 1) := by decide +kernel
theorem dX4_linesThrough_1 : decode cX4_linesThrough 1 = .ok (.getfield 9, 3) := by decide +kernel
theorem dX4_linesThrough_4 : decode cX4_linesThrough 4 = .ok (.iconst 1, 1) := by decide +kernel
theorem dX4_linesThrough_5 : decode cX4_linesThrough 5 = .ok (.if_icmp .ge 7, 3) := by decide +kernel
theorem dX4_linesThrough_8 : decode cX4_linesThrough 8 = .ok (.iconst 0, 1) := by decide +kernel
theorem dX4_linesThrough_9 : decode cX4_linesThrough 9 = .ok (.goto 9, 3) := by decide +kernel
theorem dX4_linesThrough_12 : decode cX4_linesThrough 12 = .ok (.iload_n 1, 1) := by decide +kernel
theorem dX4_linesThrough_13 : decode cX4_linesThrough 13 = .ok (.aload_n 0, 1) := by decide +kernel
theorem dX4_linesThrough_14 : decode cX4_linesThrough 14 = .ok (.getfield 9, 3) := by decide +kernel
theorem dX4_linesThrough_17 : decode cX4_linesThrough 17 = .ok (.idiv, 1) := by decide +kernel
theorem dX4_linesThrough_18 : decode cX4_linesThrough 18 = .ok (.istore_n 2, 1) := by decide +kernel
theorem dX4_linesThrough_19 : decode cX4_linesThrough 19 = .ok (.iconst 1, 1) := by decide +kernel
theorem dX4_linesThrough_20 : decode cX4_linesThrough 20 = .ok (.iload_n 2, 1) := by decide +kernel
theorem dX4_linesThrough_21 : decode cX4_linesThrough 21 = .ok (.ishl, 1) := by decide +kernel
theorem dX4_linesThrough_22 : decode cX4_linesThrough 22 = .ok (.iconst 1, 1) := by decide +kernel
theorem dX4_linesThrough_23 : decode cX4_linesThrough 23 = .ok (.aload_n 0, 1) := by decide +kernel
theorem dX4_linesThrough_24 : decode cX4_linesThrough 24 = .ok (.getfield 15, 3) := by decide +kernel
theorem dX4_linesThrough_27 : decode cX4_linesThrough 27 = .ok (.iload_n 1, 1) := by decide +kernel
theorem dX4_linesThrough_28 : decode cX4_linesThrough 28 = .ok (.iadd, 1) := by decide +kernel
theorem dX4_linesThrough_29 : decode cX4_linesThrough 29 = .ok (.iload_n 2, 1) := by decide +kernel
theorem dX4_linesThrough_30 : decode cX4_linesThrough 30 = .ok (.aload_n 0, 1) := by decide +kernel
theorem dX4_linesThrough_31 : decode cX4_linesThrough 31 = .ok (.getfield 9, 3) := by decide +kernel
theorem dX4_linesThrough_34 : decode cX4_linesThrough 34 = .ok (.imul, 1) := by decide +kernel
theorem dX4_linesThrough_35 : decode cX4_linesThrough 35 = .ok (.isub, 1) := by decide +kernel
theorem dX4_linesThrough_36 : decode cX4_linesThrough 36 = .ok (.ishl, 1) := by decide +kernel
theorem dX4_linesThrough_37 : decode cX4_linesThrough 37 = .ok (.ior, 1) := by decide +kernel
theorem dX4_linesThrough_38 : decode cX4_linesThrough 38 = .ok (.ireturn, 1) := by decide +kernel
theorem dX4_turned_0 : decode cX4_turned 0 = .ok (.iload_n 1, 1) := by decide +kernel
theorem dX4_turned_1 : decode cX4_turned 1 = .ok (.iconst 4, 1) := by decide +kernel
theorem dX4_turned_2 : decode cX4_turned 2 = .ok (.iand, 1) := by decide +kernel
theorem dX4_turned_3 : decode cX4_turned 3 = .ok (.ifCond .eq 7, 3) := by decide +kernel
theorem dX4_turned_6 : decode cX4_turned 6 = .ok (.iconst 1, 1) := by decide +kernel
theorem dX4_turned_7 : decode cX4_turned 7 = .ok (.goto 4, 3) := by decide +kernel
theorem dX4_turned_10 : decode cX4_turned 10 = .ok (.iconst 0, 1) := by decide +kernel
theorem dX4_turned_11 : decode cX4_turned 11 = .ok (.istore_n 2, 1) := by decide +kernel
theorem dX4_turned_12 : decode cX4_turned 12 = .ok (.new 10, 3) := by decide +kernel
theorem dX4_turned_15 : decode cX4_turned 15 = .ok (.dup, 1) := by decide +kernel
theorem dX4_turned_16 : decode cX4_turned 16 = .ok (.iload_n 2, 1) := by decide +kernel
theorem dX4_turned_17 : decode cX4_turned 17 = .ok (.ifCond .eq 10, 3) := by decide +kernel
theorem dX4_turned_20 : decode cX4_turned 20 = .ok (.aload_n 0, 1) := by decide +kernel
theorem dX4_turned_21 : decode cX4_turned 21 = .ok (.getfield 15, 3) := by decide +kernel
theorem dX4_turned_24 : decode cX4_turned 24 = .ok (.goto 7, 3) := by decide +kernel
theorem dX4_turned_27 : decode cX4_turned 27 = .ok (.aload_n 0, 1) := by decide +kernel
theorem dX4_turned_28 : decode cX4_turned 28 = .ok (.getfield 9, 3) := by decide +kernel
theorem dX4_turned_31 : decode cX4_turned 31 = .ok (.iload_n 2, 1) := by decide +kernel
theorem dX4_turned_32 : decode cX4_turned 32 = .ok (.ifCond .eq 10, 3) := by decide +kernel
theorem dX4_turned_35 : decode cX4_turned 35 = .ok (.aload_n 0, 1) := by decide +kernel
theorem dX4_turned_36 : decode cX4_turned 36 = .ok (.getfield 9, 3) := by decide +kernel
theorem dX4_turned_39 : decode cX4_turned 39 = .ok (.goto 7, 3) := by decide +kernel
theorem dX4_turned_42 : decode cX4_turned 42 = .ok (.aload_n 0, 1) := by decide +kernel
theorem dX4_turned_43 : decode cX4_turned 43 = .ok (.getfield 15, 3) := by decide +kernel
theorem dX4_turned_46 : decode cX4_turned 46 = .ok (.aload_n 0, 1) := by decide +kernel
theorem dX4_turned_47 : decode cX4_turned 47 = .ok (.getfield 18, 3) := by decide +kernel
theorem dX4_turned_50 : decode cX4_turned 50 = .ok (.invokespecial 68, 3) := by decide +kernel
theorem dX4_turned_53 : decode cX4_turned 53 = .ok (.astore_n 3, 1) := by decide +kernel
theorem dX4_turned_54 : decode cX4_turned 54 = .ok (.iconst 0, 1) := by decide +kernel
theorem dX4_turned_55 : decode cX4_turned 55 = .ok (.istore 4, 2) := by decide +kernel
theorem dX4_turned_57 : decode cX4_turned 57 = .ok (.iload 4, 2) := by decide +kernel
theorem dX4_turned_59 : decode cX4_turned 59 = .ok (.aload_n 3, 1) := by decide +kernel
theorem dX4_turned_60 : decode cX4_turned 60 = .ok (.getfield 26, 3) := by decide +kernel
theorem dX4_turned_63 : decode cX4_turned 63 = .ok (.arraylength, 1) := by decide +kernel
theorem dX4_turned_64 : decode cX4_turned 64 = .ok (.if_icmp .ge 42, 3) := by decide +kernel
theorem dX4_turned_67 : decode cX4_turned 67 = .ok (.aload_n 0, 1) := by decide +kernel
theorem dX4_turned_68 : decode cX4_turned 68 = .ok (.iload 4, 2) := by decide +kernel
theorem dX4_turned_70 : decode cX4_turned 70 = .ok (.iload_n 1, 1) := by decide +kernel
theorem dX4_turned_71 : decode cX4_turned 71 = .ok (.invokevirtual 71, 3) := by decide +kernel
theorem dX4_turned_74 : decode cX4_turned 74 = .ok (.istore 5, 2) := by decide +kernel
theorem dX4_turned_76 : decode cX4_turned 76 = .ok (.aload_n 3, 1) := by decide +kernel
theorem dX4_turned_77 : decode cX4_turned 77 = .ok (.getfield 26, 3) := by decide +kernel
theorem dX4_turned_80 : decode cX4_turned 80 = .ok (.iload 4, 2) := by decide +kernel
theorem dX4_turned_82 : decode cX4_turned 82 = .ok (.aaload, 1) := by decide +kernel
theorem dX4_turned_83 : decode cX4_turned 83 = .ok (.aload_n 0, 1) := by decide +kernel
theorem dX4_turned_84 : decode cX4_turned 84 = .ok (.getfield 26, 3) := by decide +kernel
theorem dX4_turned_87 : decode cX4_turned 87 = .ok (.iload 5, 2) := by decide +kernel
theorem dX4_turned_89 : decode cX4_turned 89 = .ok (.aaload, 1) := by decide +kernel
theorem dX4_turned_90 : decode cX4_turned 90 = .ok (.aload_n 0, 1) := by decide +kernel
theorem dX4_turned_91 : decode cX4_turned 91 = .ok (.iload 5, 2) := by decide +kernel
theorem dX4_turned_93 : decode cX4_turned 93 = .ok (.iload_n 1, 1) := by decide +kernel
theorem dX4_turned_94 : decode cX4_turned 94 = .ok (.invokevirtual 75, 3) := by decide +kernel
theorem dX4_turned_97 : decode cX4_turned 97 = .ok (.invokevirtual 78, 3) := by decide +kernel
theorem dX4_turned_100 : decode cX4_turned 100 = .ok (.iinc 4 1, 3) := by decide +kernel
theorem dX4_turned_103 : decode cX4_turned 103 = .ok (.goto (-46), 3) := by decide +kernel
theorem dX4_turned_106 : decode cX4_turned 106 = .ok (.aload_n 3, 1) := by decide +kernel
theorem dX4_turned_107 : decode cX4_turned 107 = .ok (.areturn, 1) := by decide +kernel
theorem dX4_turnsInto_0 : decode cX4_turnsInto 0 = .ok (.iload_n 2, 1) := by decide +kernel
theorem dX4_turnsInto_1 : decode cX4_turnsInto 1 = .ok (.iconst 4, 1) := by decide +kernel
theorem dX4_turnsInto_2 : decode cX4_turnsInto 2 = .ok (.iand, 1) := by decide +kernel
theorem dX4_turnsInto_3 : decode cX4_turnsInto 3 = .ok (.ifCond .eq 7, 3) := by decide +kernel
theorem dX4_turnsInto_6 : decode cX4_turnsInto 6 = .ok (.iconst 1, 1) := by decide +kernel
theorem dX4_turnsInto_7 : decode cX4_turnsInto 7 = .ok (.goto 4, 3) := by decide +kernel
theorem dX4_turnsInto_10 : decode cX4_turnsInto 10 = .ok (.iconst 0, 1) := by decide +kernel
theorem dX4_turnsInto_11 : decode cX4_turnsInto 11 = .ok (.istore_n 3, 1) := by decide +kernel
theorem dX4_turnsInto_12 : decode cX4_turnsInto 12 = .ok (.aload_n 1, 1) := by decide +kernel
theorem dX4_turnsInto_13 : decode cX4_turnsInto 13 = .ok (.getfield 9, 3) := by decide +kernel
theorem dX4_turnsInto_16 : decode cX4_turnsInto 16 = .ok (.iload_n 3, 1) := by decide +kernel
theorem dX4_turnsInto_17 : decode cX4_turnsInto 17 = .ok (.ifCond .eq 10, 3) := by decide +kernel
theorem dX4_turnsInto_20 : decode cX4_turnsInto 20 = .ok (.aload_n 0, 1) := by decide +kernel
theorem dX4_turnsInto_21 : decode cX4_turnsInto 21 = .ok (.getfield 15, 3) := by decide +kernel
theorem dX4_turnsInto_24 : decode cX4_turnsInto 24 = .ok (.goto 7, 3) := by decide +kernel
theorem dX4_turnsInto_27 : decode cX4_turnsInto 27 = .ok (.aload_n 0, 1) := by decide +kernel
theorem dX4_turnsInto_28 : decode cX4_turnsInto 28 = .ok (.getfield 9, 3) := by decide +kernel
theorem dX4_turnsInto_31 : decode cX4_turnsInto 31 = .ok (.if_icmp .ne 36, 3) := by decide +kernel
theorem dX4_turnsInto_34 : decode cX4_turnsInto 34 = .ok (.aload_n 1, 1) := by decide +kernel
theorem dX4_turnsInto_35 : decode cX4_turnsInto 35 = .ok (.getfield 15, 3) := by decide +kernel
theorem dX4_turnsInto_38 : decode cX4_turnsInto 38 = .ok (.iload_n 3, 1) := by decide +kernel
theorem dX4_turnsInto_39 : decode cX4_turnsInto 39 = .ok (.ifCond .eq 10, 3) := by decide +kernel
theorem dX4_turnsInto_42 : decode cX4_turnsInto 42 = .ok (.aload_n 0, 1) := by decide +kernel
theorem dX4_turnsInto_43 : decode cX4_turnsInto 43 = .ok (.getfield 9, 3) := by decide +kernel
theorem dX4_turnsInto_46 : decode cX4_turnsInto 46 = .ok (.goto 7, 3) := by decide +kernel
theorem dX4_turnsInto_49 : decode cX4_turnsInto 49 = .ok (.aload_n 0, 1) := by decide +kernel
theorem dX4_turnsInto_50 : decode cX4_turnsInto 50 = .ok (.getfield 15, 3) := by decide +kernel
theorem dX4_turnsInto_53 : decode cX4_turnsInto 53 = .ok (.if_icmp .ne 14, 3) := by decide +kernel
theorem dX4_turnsInto_56 : decode cX4_turnsInto 56 = .ok (.aload_n 1, 1) := by decide +kernel
theorem dX4_turnsInto_57 : decode cX4_turnsInto 57 = .ok (.getfield 18, 3) := by decide +kernel
theorem dX4_turnsInto_60 : decode cX4_turnsInto 60 = .ok (.aload_n 0, 1) := by decide +kernel
theorem dX4_turnsInto_61 : decode cX4_turnsInto 61 = .ok (.getfield 18, 3) := by decide +kernel
theorem dX4_turnsInto_64 : decode cX4_turnsInto 64 = .ok (.if_icmp .eq 5, 3) := by decide +kernel
theorem dX4_turnsInto_67 : decode cX4_turnsInto 67 = .ok (.iconst 0, 1) := by decide +kernel
theorem dX4_turnsInto_68 : decode cX4_turnsInto 68 = .ok (.ireturn, 1) := by decide +kernel
theorem dX4_turnsInto_69 : decode cX4_turnsInto 69 = .ok (.iconst 0, 1) := by decide +kernel
theorem dX4_turnsInto_70 : decode cX4_turnsInto 70 = .ok (.istore 4, 2) := by decide +kernel
theorem dX4_turnsInto_72 : decode cX4_turnsInto 72 = .ok (.iload 4, 2) := by decide +kernel
theorem dX4_turnsInto_74 : decode cX4_turnsInto 74 = .ok (.aload_n 1, 1) := by decide +kernel
theorem dX4_turnsInto_75 : decode cX4_turnsInto 75 = .ok (.getfield 26, 3) := by decide +kernel
theorem dX4_turnsInto_78 : decode cX4_turnsInto 78 = .ok (.arraylength, 1) := by decide +kernel
theorem dX4_turnsInto_79 : decode cX4_turnsInto 79 = .ok (.if_icmp .ge 47, 3) := by decide +kernel
theorem dX4_turnsInto_82 : decode cX4_turnsInto 82 = .ok (.aload_n 0, 1) := by decide +kernel
theorem dX4_turnsInto_83 : decode cX4_turnsInto 83 = .ok (.iload 4, 2) := by decide +kernel
theorem dX4_turnsInto_85 : decode cX4_turnsInto 85 = .ok (.iload_n 2, 1) := by decide +kernel
theorem dX4_turnsInto_86 : decode cX4_turnsInto 86 = .ok (.invokevirtual 71, 3) := by decide +kernel
theorem dX4_turnsInto_89 : decode cX4_turnsInto 89 = .ok (.istore 5, 2) := by decide +kernel
theorem dX4_turnsInto_91 : decode cX4_turnsInto 91 = .ok (.aload_n 1, 1) := by decide +kernel
theorem dX4_turnsInto_92 : decode cX4_turnsInto 92 = .ok (.getfield 26, 3) := by decide +kernel
theorem dX4_turnsInto_95 : decode cX4_turnsInto 95 = .ok (.iload 4, 2) := by decide +kernel
theorem dX4_turnsInto_97 : decode cX4_turnsInto 97 = .ok (.aaload, 1) := by decide +kernel
theorem dX4_turnsInto_98 : decode cX4_turnsInto 98 = .ok (.aload_n 0, 1) := by decide +kernel
theorem dX4_turnsInto_99 : decode cX4_turnsInto 99 = .ok (.getfield 26, 3) := by decide +kernel
theorem dX4_turnsInto_102 : decode cX4_turnsInto 102 = .ok (.iload 5, 2) := by decide +kernel
theorem dX4_turnsInto_104 : decode cX4_turnsInto 104 = .ok (.aaload, 1) := by decide +kernel
theorem dX4_turnsInto_105 : decode cX4_turnsInto 105 = .ok (.aload_n 0, 1) := by decide +kernel
theorem dX4_turnsInto_106 : decode cX4_turnsInto 106 = .ok (.iload 5, 2) := by decide +kernel
theorem dX4_turnsInto_108 : decode cX4_turnsInto 108 = .ok (.iload_n 2, 1) := by decide +kernel
theorem dX4_turnsInto_109 : decode cX4_turnsInto 109 = .ok (.invokevirtual 75, 3) := by decide +kernel
theorem dX4_turnsInto_112 : decode cX4_turnsInto 112 = .ok (.invokevirtual 82, 3) := by decide +kernel
theorem dX4_turnsInto_115 : decode cX4_turnsInto 115 = .ok (.ifCond .ne 5, 3) := by decide +kernel
theorem dX4_turnsInto_118 : decode cX4_turnsInto 118 = .ok (.iconst 0, 1) := by decide +kernel
theorem dX4_turnsInto_119 : decode cX4_turnsInto 119 = .ok (.ireturn, 1) := by decide +kernel
theorem dX4_turnsInto_120 : decode cX4_turnsInto 120 = .ok (.iinc 4 1, 3) := by decide +kernel
theorem dX4_turnsInto_123 : decode cX4_turnsInto 123 = .ok (.goto (-51), 3) := by decide +kernel
theorem dX4_turnsInto_126 : decode cX4_turnsInto 126 = .ok (.iconst 1, 1) := by decide +kernel
theorem dX4_turnsInto_127 : decode cX4_turnsInto 127 = .ok (.ireturn, 1) := by decide +kernel
theorem dX4_sourceOf_0 : decode cX4_sourceOf 0 = .ok (.iload_n 2, 1) := by decide +kernel
theorem dX4_sourceOf_1 : decode cX4_sourceOf 1 = .ok (.iconst 4, 1) := by decide +kernel
theorem dX4_sourceOf_2 : decode cX4_sourceOf 2 = .ok (.iand, 1) := by decide +kernel
theorem dX4_sourceOf_3 : decode cX4_sourceOf 3 = .ok (.ifCond .eq 7, 3) := by decide +kernel
theorem dX4_sourceOf_6 : decode cX4_sourceOf 6 = .ok (.iconst 1, 1) := by decide +kernel
theorem dX4_sourceOf_7 : decode cX4_sourceOf 7 = .ok (.goto 4, 3) := by decide +kernel
theorem dX4_sourceOf_10 : decode cX4_sourceOf 10 = .ok (.iconst 0, 1) := by decide +kernel
theorem dX4_sourceOf_11 : decode cX4_sourceOf 11 = .ok (.istore_n 3, 1) := by decide +kernel
theorem dX4_sourceOf_12 : decode cX4_sourceOf 12 = .ok (.iload_n 3, 1) := by decide +kernel
theorem dX4_sourceOf_13 : decode cX4_sourceOf 13 = .ok (.ifCond .eq 10, 3) := by decide +kernel
theorem dX4_sourceOf_16 : decode cX4_sourceOf 16 = .ok (.aload_n 0, 1) := by decide +kernel
theorem dX4_sourceOf_17 : decode cX4_sourceOf 17 = .ok (.getfield 9, 3) := by decide +kernel
theorem dX4_sourceOf_20 : decode cX4_sourceOf 20 = .ok (.goto 7, 3) := by decide +kernel
theorem dX4_sourceOf_23 : decode cX4_sourceOf 23 = .ok (.aload_n 0, 1) := by decide +kernel
theorem dX4_sourceOf_24 : decode cX4_sourceOf 24 = .ok (.getfield 15, 3) := by decide +kernel
theorem dX4_sourceOf_27 : decode cX4_sourceOf 27 = .ok (.istore 4, 2) := by decide +kernel
theorem dX4_sourceOf_29 : decode cX4_sourceOf 29 = .ok (.iload_n 1, 1) := by decide +kernel
theorem dX4_sourceOf_30 : decode cX4_sourceOf 30 = .ok (.iload 4, 2) := by decide +kernel
theorem dX4_sourceOf_32 : decode cX4_sourceOf 32 = .ok (.if_icmp .ge 7, 3) := by decide +kernel
theorem dX4_sourceOf_35 : decode cX4_sourceOf 35 = .ok (.iconst 1, 1) := by decide +kernel
theorem dX4_sourceOf_36 : decode cX4_sourceOf 36 = .ok (.goto 4, 3) := by decide +kernel
theorem dX4_sourceOf_39 : decode cX4_sourceOf 39 = .ok (.iconst 0, 1) := by decide +kernel
theorem dX4_sourceOf_40 : decode cX4_sourceOf 40 = .ok (.istore 5, 2) := by decide +kernel
theorem dX4_sourceOf_42 : decode cX4_sourceOf 42 = .ok (.iload 5, 2) := by decide +kernel
theorem dX4_sourceOf_44 : decode cX4_sourceOf 44 = .ok (.ifCond .eq 7, 3) := by decide +kernel
theorem dX4_sourceOf_47 : decode cX4_sourceOf 47 = .ok (.iload_n 1, 1) := by decide +kernel
theorem dX4_sourceOf_48 : decode cX4_sourceOf 48 = .ok (.goto 7, 3) := by decide +kernel
theorem dX4_sourceOf_51 : decode cX4_sourceOf 51 = .ok (.iload_n 1, 1) := by decide +kernel
theorem dX4_sourceOf_52 : decode cX4_sourceOf 52 = .ok (.iload 4, 2) := by decide +kernel
theorem dX4_sourceOf_54 : decode cX4_sourceOf 54 = .ok (.isub, 1) := by decide +kernel
theorem dX4_sourceOf_55 : decode cX4_sourceOf 55 = .ok (.istore 6, 2) := by decide +kernel
theorem dX4_sourceOf_57 : decode cX4_sourceOf 57 = .ok (.iload 5, 2) := by decide +kernel
theorem dX4_sourceOf_59 : decode cX4_sourceOf 59 = .ok (.iload_n 3, 1) := by decide +kernel
theorem dX4_sourceOf_60 : decode cX4_sourceOf 60 = .ok (.if_icmp .eq 24, 3) := by decide +kernel
theorem dX4_sourceOf_63 : decode cX4_sourceOf 63 = .ok (.iload_n 2, 1) := by decide +kernel
theorem dX4_sourceOf_64 : decode cX4_sourceOf 64 = .ok (.iconst 2, 1) := by decide +kernel
theorem dX4_sourceOf_65 : decode cX4_sourceOf 65 = .ok (.iand, 1) := by decide +kernel
theorem dX4_sourceOf_66 : decode cX4_sourceOf 66 = .ok (.ifCond .eq 15, 3) := by decide +kernel
theorem dX4_sourceOf_69 : decode cX4_sourceOf 69 = .ok (.aload_n 0, 1) := by decide +kernel
theorem dX4_sourceOf_70 : decode cX4_sourceOf 70 = .ok (.getfield 15, 3) := by decide +kernel
theorem dX4_sourceOf_73 : decode cX4_sourceOf 73 = .ok (.iconst 1, 1) := by decide +kernel
theorem dX4_sourceOf_74 : decode cX4_sourceOf 74 = .ok (.isub, 1) := by decide +kernel
theorem dX4_sourceOf_75 : decode cX4_sourceOf 75 = .ok (.iload 6, 2) := by decide +kernel
theorem dX4_sourceOf_77 : decode cX4_sourceOf 77 = .ok (.isub, 1) := by decide +kernel
theorem dX4_sourceOf_78 : decode cX4_sourceOf 78 = .ok (.goto 5, 3) := by decide +kernel
theorem dX4_sourceOf_81 : decode cX4_sourceOf 81 = .ok (.iload 6, 2) := by decide +kernel
theorem dX4_sourceOf_83 : decode cX4_sourceOf 83 = .ok (.ireturn, 1) := by decide +kernel
theorem dX4_sourceOf_84 : decode cX4_sourceOf 84 = .ok (.aload_n 0, 1) := by decide +kernel
theorem dX4_sourceOf_85 : decode cX4_sourceOf 85 = .ok (.getfield 15, 3) := by decide +kernel
theorem dX4_sourceOf_88 : decode cX4_sourceOf 88 = .ok (.iload_n 2, 1) := by decide +kernel
theorem dX4_sourceOf_89 : decode cX4_sourceOf 89 = .ok (.iconst 1, 1) := by decide +kernel
theorem dX4_sourceOf_90 : decode cX4_sourceOf 90 = .ok (.iand, 1) := by decide +kernel
theorem dX4_sourceOf_91 : decode cX4_sourceOf 91 = .ok (.ifCond .eq 15, 3) := by decide +kernel
theorem dX4_sourceOf_94 : decode cX4_sourceOf 94 = .ok (.aload_n 0, 1) := by decide +kernel
theorem dX4_sourceOf_95 : decode cX4_sourceOf 95 = .ok (.getfield 9, 3) := by decide +kernel
theorem dX4_sourceOf_98 : decode cX4_sourceOf 98 = .ok (.iconst 1, 1) := by decide +kernel
theorem dX4_sourceOf_99 : decode cX4_sourceOf 99 = .ok (.isub, 1) := by decide +kernel
theorem dX4_sourceOf_100 : decode cX4_sourceOf 100 = .ok (.iload 6, 2) := by decide +kernel
theorem dX4_sourceOf_102 : decode cX4_sourceOf 102 = .ok (.isub, 1) := by decide +kernel
theorem dX4_sourceOf_103 : decode cX4_sourceOf 103 = .ok (.goto 5, 3) := by decide +kernel
theorem dX4_sourceOf_106 : decode cX4_sourceOf 106 = .ok (.iload 6, 2) := by decide +kernel
theorem dX4_sourceOf_108 : decode cX4_sourceOf 108 = .ok (.iadd, 1) := by decide +kernel
theorem dX4_sourceOf_109 : decode cX4_sourceOf 109 = .ok (.ireturn, 1) := by decide +kernel
theorem dX4_isBackwards_0 : decode cX4_isBackwards 0 = .ok (.iload_n 2, 1) := by decide +kernel
theorem dX4_isBackwards_1 : decode cX4_isBackwards 1 = .ok (.iload_n 1, 1) := by decide +kernel
theorem dX4_isBackwards_2 : decode cX4_isBackwards 2 = .ok (.aload_n 0, 1) := by decide +kernel
theorem dX4_isBackwards_3 : decode cX4_isBackwards 3 = .ok (.getfield 15, 3) := by decide +kernel
theorem dX4_isBackwards_6 : decode cX4_isBackwards 6 = .ok (.if_icmp .ge 7, 3) := by decide +kernel
theorem dX4_isBackwards_9 : decode cX4_isBackwards 9 = .ok (.iconst 1, 1) := by decide +kernel
theorem dX4_isBackwards_10 : decode cX4_isBackwards 10 = .ok (.goto 4, 3) := by decide +kernel
theorem dX4_isBackwards_13 : decode cX4_isBackwards 13 = .ok (.iconst 2, 1) := by decide +kernel
theorem dX4_isBackwards_14 : decode cX4_isBackwards 14 = .ok (.iand, 1) := by decide +kernel
theorem dX4_isBackwards_15 : decode cX4_isBackwards 15 = .ok (.ifCond .eq 7, 3) := by decide +kernel
theorem dX4_isBackwards_18 : decode cX4_isBackwards 18 = .ok (.iconst 1, 1) := by decide +kernel
theorem dX4_isBackwards_19 : decode cX4_isBackwards 19 = .ok (.goto 4, 3) := by decide +kernel
theorem dX4_isBackwards_22 : decode cX4_isBackwards 22 = .ok (.iconst 0, 1) := by decide +kernel
theorem dX4_isBackwards_23 : decode cX4_isBackwards 23 = .ok (.ireturn, 1) := by decide +kernel
theorem dX5_init_0 : decode cX5_init 0 = .ok (.aload_n 0, 1) := by decide +kernel
theorem dX5_init_1 : decode cX5_init 1 = .ok (.invokespecial 3, 3) := by decide +kernel
theorem dX5_init_4 : decode cX5_init 4 = .ok (.aload_n 0, 1) := by decide +kernel
theorem dX5_init_5 : decode cX5_init 5 = .ok (.bipush 10, 2) := by decide +kernel
theorem dX5_init_7 : decode cX5_init 7 = .ok (.newarray .int, 2) := by decide +kernel
theorem dX5_init_9 : decode cX5_init 9 = .ok (.putfield 9, 3) := by decide +kernel
theorem dX5_init_12 : decode cX5_init 12 = .ok (.aload_n 0, 1) := by decide +kernel
theorem dX5_init_13 : decode cX5_init 13 = .ok (.bipush 11, 2) := by decide +kernel
theorem dX5_init_15 : decode cX5_init 15 = .ok (.newarray .int, 2) := by decide +kernel
theorem dX5_init_17 : decode cX5_init 17 = .ok (.putfield 15, 3) := by decide +kernel
theorem dX5_init_20 : decode cX5_init 20 = .ok (.aload_n 0, 1) := by decide +kernel
theorem dX5_init_21 : decode cX5_init 21 = .ok (.bipush 21, 2) := by decide +kernel
theorem dX5_init_23 : decode cX5_init 23 = .ok (.newarray .int, 2) := by decide +kernel
theorem dX5_init_25 : decode cX5_init 25 = .ok (.putfield 18, 3) := by decide +kernel
theorem dX5_init_28 : decode cX5_init 28 = .ok (.return_, 1) := by decide +kernel
theorem dX5_weigh_0 : decode cX5_weigh 0 = .ok (.aload_n 1, 1) := by decide +kernel
theorem dX5_weigh_1 : decode cX5_weigh 1 = .ok (.getfield 21, 3) := by decide +kernel
theorem dX5_weigh_4 : decode cX5_weigh 4 = .ok (.istore_n 3, 1) := by decide +kernel
theorem dX5_weigh_5 : decode cX5_weigh 5 = .ok (.aload_n 1, 1) := by decide +kernel
theorem dX5_weigh_6 : decode cX5_weigh 6 = .ok (.getfield 27, 3) := by decide +kernel
theorem dX5_weigh_9 : decode cX5_weigh 9 = .ok (.istore 4, 2) := by decide +kernel
theorem dX5_weigh_11 : decode cX5_weigh 11 = .ok (.iconst 1, 1) := by decide +kernel
theorem dX5_weigh_12 : decode cX5_weigh 12 = .ok (.istore 5, 2) := by decide +kernel
theorem dX5_weigh_14 : decode cX5_weigh 14 = .ok (.aload_n 0, 1) := by decide +kernel
theorem dX5_weigh_15 : decode cX5_weigh 15 = .ok (.getfield 15, 3) := by decide +kernel
theorem dX5_weigh_18 : decode cX5_weigh 18 = .ok (.iconst 0, 1) := by decide +kernel
theorem dX5_weigh_19 : decode cX5_weigh 19 = .ok (.iload 5, 2) := by decide +kernel
theorem dX5_weigh_21 : decode cX5_weigh 21 = .ok (.iastore, 1) := by decide +kernel
theorem dX5_weigh_22 : decode cX5_weigh 22 = .ok (.iconst 0, 1) := by decide +kernel
theorem dX5_weigh_23 : decode cX5_weigh 23 = .ok (.istore 6, 2) := by decide +kernel
theorem dX5_weigh_25 : decode cX5_weigh 25 = .ok (.iload 6, 2) := by decide +kernel
theorem dX5_weigh_27 : decode cX5_weigh 27 = .ok (.aload_n 1, 1) := by decide +kernel
theorem dX5_weigh_28 : decode cX5_weigh 28 = .ok (.getfield 30, 3) := by decide +kernel
theorem dX5_weigh_31 : decode cX5_weigh 31 = .ok (.if_icmp .ge 57, 3) := by decide +kernel
theorem dX5_weigh_34 : decode cX5_weigh 34 = .ok (.iload 5, 2) := by decide +kernel
theorem dX5_weigh_36 : decode cX5_weigh 36 = .ok (.iconst 1, 1) := by decide +kernel
theorem dX5_weigh_37 : decode cX5_weigh 37 = .ok (.ishl, 1) := by decide +kernel
theorem dX5_weigh_38 : decode cX5_weigh 38 = .ok (.iload 5, 2) := by decide +kernel
theorem dX5_weigh_40 : decode cX5_weigh 40 = .ok (.iload_n 3, 1) := by decide +kernel
theorem dX5_weigh_41 : decode cX5_weigh 41 = .ok (.iand, 1) := by decide +kernel
theorem dX5_weigh_42 : decode cX5_weigh 42 = .ok (.ior, 1) := by decide +kernel
theorem dX5_weigh_43 : decode cX5_weigh 43 = .ok (.iload 5, 2) := by decide +kernel
theorem dX5_weigh_45 : decode cX5_weigh 45 = .ok (.iload 4, 2) := by decide +kernel
theorem dX5_weigh_47 : decode cX5_weigh 47 = .ok (.iand, 1) := by decide +kernel
theorem dX5_weigh_48 : decode cX5_weigh 48 = .ok (.iconst 2, 1) := by decide +kernel
theorem dX5_weigh_49 : decode cX5_weigh 49 = .ok (.ishl, 1) := by decide +kernel
theorem dX5_weigh_50 : decode cX5_weigh 50 = .ok (.ior, 1) := by decide +kernel
theorem dX5_weigh_51 : decode cX5_weigh 51 = .ok (.istore 7, 2) := by decide +kernel
theorem dX5_weigh_53 : decode cX5_weigh 53 = .ok (.iload 7, 2) := by decide +kernel
theorem dX5_weigh_55 : decode cX5_weigh 55 = .ok (.aload_n 1, 1) := by decide +kernel
theorem dX5_weigh_56 : decode cX5_weigh 56 = .ok (.getfield 33, 3) := by decide +kernel
theorem dX5_weigh_59 : decode cX5_weigh 59 = .ok (.aload_n 2, 1) := by decide +kernel
theorem dX5_weigh_60 : decode cX5_weigh 60 = .ok (.aload_n 1, 1) := by decide +kernel
theorem dX5_weigh_61 : decode cX5_weigh 61 = .ok (.iload 6, 2) := by decide +kernel
theorem dX5_weigh_63 : decode cX5_weigh 63 = .ok (.invokevirtual 36, 3) := by decide +kernel
theorem dX5_weigh_66 : decode cX5_weigh 66 = .ok (.iaload, 1) := by decide +kernel
theorem dX5_weigh_67 : decode cX5_weigh 67 = .ok (.iaload, 1) := by decide +kernel
theorem dX5_weigh_68 : decode cX5_weigh 68 = .ok (.iand, 1) := by decide +kernel
theorem dX5_weigh_69 : decode cX5_weigh 69 = .ok (.istore 5, 2) := by decide +kernel
theorem dX5_weigh_71 : decode cX5_weigh 71 = .ok (.aload_n 0, 1) := by decide +kernel
theorem dX5_weigh_72 : decode cX5_weigh 72 = .ok (.getfield 15, 3) := by decide +kernel
theorem dX5_weigh_75 : decode cX5_weigh 75 = .ok (.iload 6, 2) := by decide +kernel
theorem dX5_weigh_77 : decode cX5_weigh 77 = .ok (.iconst 1, 1) := by decide +kernel
theorem dX5_weigh_78 : decode cX5_weigh 78 = .ok (.iadd, 1) := by decide +kernel
theorem dX5_weigh_79 : decode cX5_weigh 79 = .ok (.iload 5, 2) := by decide +kernel
theorem dX5_weigh_81 : decode cX5_weigh 81 = .ok (.iastore, 1) := by decide +kernel
theorem dX5_weigh_82 : decode cX5_weigh 82 = .ok (.iinc 6 1, 3) := by decide +kernel
theorem dX5_weigh_85 : decode cX5_weigh 85 = .ok (.goto (-60), 3) := by decide +kernel
theorem dX5_weigh_88 : decode cX5_weigh 88 = .ok (.iload 5, 2) := by decide +kernel
theorem dX5_weigh_90 : decode cX5_weigh 90 = .ok (.aload_n 1, 1) := by decide +kernel
theorem dX5_weigh_91 : decode cX5_weigh 91 = .ok (.getfield 40, 3) := by decide +kernel
theorem dX5_weigh_94 : decode cX5_weigh 94 = .ok (.iand, 1) := by decide +kernel
theorem dX5_weigh_95 : decode cX5_weigh 95 = .ok (.istore 5, 2) := by decide +kernel
theorem dX5_weigh_97 : decode cX5_weigh 97 = .ok (.iload 5, 2) := by decide +kernel
theorem dX5_weigh_99 : decode cX5_weigh 99 = .ok (.ifCond .ne 5, 3) := by decide +kernel
theorem dX5_weigh_102 : decode cX5_weigh 102 = .ok (.iconst 0, 1) := by decide +kernel
theorem dX5_weigh_103 : decode cX5_weigh 103 = .ok (.ireturn, 1) := by decide +kernel
theorem dX5_weigh_104 : decode cX5_weigh 104 = .ok (.aload_n 1, 1) := by decide +kernel
theorem dX5_weigh_105 : decode cX5_weigh 105 = .ok (.getfield 30, 3) := by decide +kernel
theorem dX5_weigh_108 : decode cX5_weigh 108 = .ok (.iconst 1, 1) := by decide +kernel
theorem dX5_weigh_109 : decode cX5_weigh 109 = .ok (.isub, 1) := by decide +kernel
theorem dX5_weigh_110 : decode cX5_weigh 110 = .ok (.istore 6, 2) := by decide +kernel
theorem dX5_weigh_112 : decode cX5_weigh 112 = .ok (.iload 6, 2) := by decide +kernel
theorem dX5_weigh_114 : decode cX5_weigh 114 = .ok (.ifCond .lt 53, 3) := by decide +kernel
theorem dX5_weigh_117 : decode cX5_weigh 117 = .ok (.aload_n 0, 1) := by decide +kernel
theorem dX5_weigh_118 : decode cX5_weigh 118 = .ok (.getfield 9, 3) := by decide +kernel
theorem dX5_weigh_121 : decode cX5_weigh 121 = .ok (.iload 6, 2) := by decide +kernel
theorem dX5_weigh_123 : decode cX5_weigh 123 = .ok (.aload_n 1, 1) := by decide +kernel
theorem dX5_weigh_124 : decode cX5_weigh 124 = .ok (.iload 5, 2) := by decide +kernel
theorem dX5_weigh_126 : decode cX5_weigh 126 = .ok (.invokestatic 43, 3) := by decide +kernel
theorem dX5_weigh_129 : decode cX5_weigh 129 = .ok (.iastore, 1) := by decide +kernel
theorem dX5_weigh_130 : decode cX5_weigh 130 = .ok (.iload 5, 2) := by decide +kernel
theorem dX5_weigh_132 : decode cX5_weigh 132 = .ok (.iconst 1, 1) := by decide +kernel
theorem dX5_weigh_133 : decode cX5_weigh 133 = .ok (.iushr, 1) := by decide +kernel
theorem dX5_weigh_134 : decode cX5_weigh 134 = .ok (.iload 5, 2) := by decide +kernel
theorem dX5_weigh_136 : decode cX5_weigh 136 = .ok (.iload_n 3, 1) := by decide +kernel
theorem dX5_weigh_137 : decode cX5_weigh 137 = .ok (.iand, 1) := by decide +kernel
theorem dX5_weigh_138 : decode cX5_weigh 138 = .ok (.ior, 1) := by decide +kernel
theorem dX5_weigh_139 : decode cX5_weigh 139 = .ok (.iload 5, 2) := by decide +kernel
theorem dX5_weigh_141 : decode cX5_weigh 141 = .ok (.iconst 2, 1) := by decide +kernel
theorem dX5_weigh_142 : decode cX5_weigh 142 = .ok (.iushr, 1) := by decide +kernel
theorem dX5_weigh_143 : decode cX5_weigh 143 = .ok (.iload 4, 2) := by decide +kernel
theorem dX5_weigh_145 : decode cX5_weigh 145 = .ok (.iand, 1) := by decide +kernel
theorem dX5_weigh_146 : decode cX5_weigh 146 = .ok (.ior, 1) := by decide +kernel
theorem dX5_weigh_147 : decode cX5_weigh 147 = .ok (.istore 7, 2) := by decide +kernel
theorem dX5_weigh_149 : decode cX5_weigh 149 = .ok (.iload 7, 2) := by decide +kernel
theorem dX5_weigh_151 : decode cX5_weigh 151 = .ok (.aload_n 0, 1) := by decide +kernel
theorem dX5_weigh_152 : decode cX5_weigh 152 = .ok (.getfield 15, 3) := by decide +kernel
theorem dX5_weigh_155 : decode cX5_weigh 155 = .ok (.iload 6, 2) := by decide +kernel
theorem dX5_weigh_157 : decode cX5_weigh 157 = .ok (.iaload, 1) := by decide +kernel
theorem dX5_weigh_158 : decode cX5_weigh 158 = .ok (.iand, 1) := by decide +kernel
theorem dX5_weigh_159 : decode cX5_weigh 159 = .ok (.istore 5, 2) := by decide +kernel
theorem dX5_weigh_161 : decode cX5_weigh 161 = .ok (.iinc 6 (-1), 3) := by decide +kernel
theorem dX5_weigh_164 : decode cX5_weigh 164 = .ok (.goto (-52), 3) := by decide +kernel
theorem dX5_weigh_167 : decode cX5_weigh 167 = .ok (.iconst 1, 1) := by decide +kernel
theorem dX5_weigh_168 : decode cX5_weigh 168 = .ok (.ireturn, 1) := by decide +kernel
theorem dX5_countFillings_0 : decode cX5_countFillings 0 = .ok (.aload_n 0, 1) := by decide +kernel
theorem dX5_countFillings_1 : decode cX5_countFillings 1 = .ok (.getfield 18, 3) := by decide +kernel
theorem dX5_countFillings_4 : decode cX5_countFillings 4 = .ok (.iconst 0, 1) := by decide +kernel
theorem dX5_countFillings_5 : decode cX5_countFillings 5 = .ok (.invokestatic 47, 3) := by decide +kernel
theorem dX5_countFillings_8 : decode cX5_countFillings 8 = .ok (.aload_n 0, 1) := by decide +kernel
theorem dX5_countFillings_9 : decode cX5_countFillings 9 = .ok (.getfield 18, 3) := by decide +kernel
theorem dX5_countFillings_12 : decode cX5_countFillings 12 = .ok (.iconst 0, 1) := by decide +kernel
theorem dX5_countFillings_13 : decode cX5_countFillings 13 = .ok (.iconst 1, 1) := by decide +kernel
theorem dX5_countFillings_14 : decode cX5_countFillings 14 = .ok (.iastore, 1) := by decide +kernel
theorem dX5_countFillings_15 : decode cX5_countFillings 15 = .ok (.iconst 0, 1) := by decide +kernel
theorem dX5_countFillings_16 : decode cX5_countFillings 16 = .ok (.istore_n 3, 1) := by decide +kernel
theorem dX5_countFillings_17 : decode cX5_countFillings 17 = .ok (.iload_n 3, 1) := by decide +kernel
theorem dX5_countFillings_18 : decode cX5_countFillings 18 = .ok (.aload_n 1, 1) := by decide +kernel
theorem dX5_countFillings_19 : decode cX5_countFillings 19 = .ok (.getfield 30, 3) := by decide +kernel
theorem dX5_countFillings_22 : decode cX5_countFillings 22 = .ok (.if_icmp .ge 26, 3) := by decide +kernel
theorem dX5_countFillings_25 : decode cX5_countFillings 25 = .ok (.aload_n 0, 1) := by decide +kernel
theorem dX5_countFillings_26 : decode cX5_countFillings 26 = .ok (.aload_n 1, 1) := by decide +kernel
theorem dX5_countFillings_27 : decode cX5_countFillings 27 = .ok (.aload_n 1, 1) := by decide +kernel
theorem dX5_countFillings_28 : decode cX5_countFillings 28 = .ok (.getfield 33, 3) := by decide +kernel
theorem dX5_countFillings_31 : decode cX5_countFillings 31 = .ok (.aload_n 2, 1) := by decide +kernel
theorem dX5_countFillings_32 : decode cX5_countFillings 32 = .ok (.aload_n 1, 1) := by decide +kernel
theorem dX5_countFillings_33 : decode cX5_countFillings 33 = .ok (.iload_n 3, 1) := by decide +kernel
theorem dX5_countFillings_34 : decode cX5_countFillings 34 = .ok (.invokevirtual 36, 3) := by decide +kernel
theorem dX5_countFillings_37 : decode cX5_countFillings 37 = .ok (.iaload, 1) := by decide +kernel
theorem dX5_countFillings_38 : decode cX5_countFillings 38 = .ok (.iaload, 1) := by decide +kernel
theorem dX5_countFillings_39 : decode cX5_countFillings 39 = .ok (.invokevirtual 53, 3) := by decide +kernel
theorem dX5_countFillings_42 : decode cX5_countFillings 42 = .ok (.iinc 3 1, 3) := by decide +kernel
theorem dX5_countFillings_45 : decode cX5_countFillings 45 = .ok (.goto (-28), 3) := by decide +kernel
theorem dX5_countFillings_48 : decode cX5_countFillings 48 = .ok (.iconst 0, 1) := by decide +kernel
theorem dX5_countFillings_49 : decode cX5_countFillings 49 = .ok (.istore_n 3, 1) := by decide +kernel
theorem dX5_countFillings_50 : decode cX5_countFillings 50 = .ok (.iconst 0, 1) := by decide +kernel
theorem dX5_countFillings_51 : decode cX5_countFillings 51 = .ok (.istore 4, 2) := by decide +kernel
theorem dX5_countFillings_53 : decode cX5_countFillings 53 = .ok (.iload 4, 2) := by decide +kernel
theorem dX5_countFillings_55 : decode cX5_countFillings 55 = .ok (.aload_n 1, 1) := by decide +kernel
theorem dX5_countFillings_56 : decode cX5_countFillings 56 = .ok (.getfield 57, 3) := by decide +kernel
theorem dX5_countFillings_59 : decode cX5_countFillings 59 = .ok (.if_icmp .gt 29, 3) := by decide +kernel
theorem dX5_countFillings_62 : decode cX5_countFillings 62 = .ok (.iload_n 3, 1) := by decide +kernel
theorem dX5_countFillings_63 : decode cX5_countFillings 63 = .ok (.aload_n 1, 1) := by decide +kernel
theorem dX5_countFillings_64 : decode cX5_countFillings 64 = .ok (.getfield 40, 3) := by decide +kernel
theorem dX5_countFillings_67 : decode cX5_countFillings 67 = .ok (.iload 4, 2) := by decide +kernel
theorem dX5_countFillings_69 : decode cX5_countFillings 69 = .ok (.iushr, 1) := by decide +kernel
theorem dX5_countFillings_70 : decode cX5_countFillings 70 = .ok (.iconst 1, 1) := by decide +kernel
theorem dX5_countFillings_71 : decode cX5_countFillings 71 = .ok (.iand, 1) := by decide +kernel
theorem dX5_countFillings_72 : decode cX5_countFillings 72 = .ok (.aload_n 0, 1) := by decide +kernel
theorem dX5_countFillings_73 : decode cX5_countFillings 73 = .ok (.getfield 18, 3) := by decide +kernel
theorem dX5_countFillings_76 : decode cX5_countFillings 76 = .ok (.iload 4, 2) := by decide +kernel
theorem dX5_countFillings_78 : decode cX5_countFillings 78 = .ok (.iaload, 1) := by decide +kernel
theorem dX5_countFillings_79 : decode cX5_countFillings 79 = .ok (.imul, 1) := by decide +kernel
theorem dX5_countFillings_80 : decode cX5_countFillings 80 = .ok (.iadd, 1) := by decide +kernel
theorem dX5_countFillings_81 : decode cX5_countFillings 81 = .ok (.istore_n 3, 1) := by decide +kernel
theorem dX5_countFillings_82 : decode cX5_countFillings 82 = .ok (.iinc 4 1, 3) := by decide +kernel
theorem dX5_countFillings_85 : decode cX5_countFillings 85 = .ok (.goto (-32), 3) := by decide +kernel
theorem dX5_countFillings_88 : decode cX5_countFillings 88 = .ok (.iload_n 3, 1) := by decide +kernel
theorem dX5_countFillings_89 : decode cX5_countFillings 89 = .ok (.ireturn, 1) := by decide +kernel
theorem dX5_countOn_0 : decode cX5_countOn 0 = .ok (.aload_n 1, 1) := by decide +kernel
theorem dX5_countOn_1 : decode cX5_countOn 1 = .ok (.getfield 57, 3) := by decide +kernel
theorem dX5_countOn_4 : decode cX5_countOn 4 = .ok (.istore_n 3, 1) := by decide +kernel
theorem dX5_countOn_5 : decode cX5_countOn 5 = .ok (.iload_n 3, 1) := by decide +kernel
theorem dX5_countOn_6 : decode cX5_countOn 6 = .ok (.ifCond .lt 87, 3) := by decide +kernel
theorem dX5_countOn_9 : decode cX5_countOn 9 = .ok (.aload_n 1, 1) := by decide +kernel
theorem dX5_countOn_10 : decode cX5_countOn 10 = .ok (.getfield 21, 3) := by decide +kernel
theorem dX5_countOn_13 : decode cX5_countOn 13 = .ok (.iload_n 3, 1) := by decide +kernel
theorem dX5_countOn_14 : decode cX5_countOn 14 = .ok (.iushr, 1) := by decide +kernel
theorem dX5_countOn_15 : decode cX5_countOn 15 = .ok (.iconst 1, 1) := by decide +kernel
theorem dX5_countOn_16 : decode cX5_countOn 16 = .ok (.iand, 1) := by decide +kernel
theorem dX5_countOn_17 : decode cX5_countOn 17 = .ok (.aload_n 0, 1) := by decide +kernel
theorem dX5_countOn_18 : decode cX5_countOn 18 = .ok (.getfield 18, 3) := by decide +kernel
theorem dX5_countOn_21 : decode cX5_countOn 21 = .ok (.iload_n 3, 1) := by decide +kernel
theorem dX5_countOn_22 : decode cX5_countOn 22 = .ok (.iaload, 1) := by decide +kernel
theorem dX5_countOn_23 : decode cX5_countOn 23 = .ok (.imul, 1) := by decide +kernel
theorem dX5_countOn_24 : decode cX5_countOn 24 = .ok (.istore 4, 2) := by decide +kernel
theorem dX5_countOn_26 : decode cX5_countOn 26 = .ok (.iload_n 3, 1) := by decide +kernel
theorem dX5_countOn_27 : decode cX5_countOn 27 = .ok (.iconst 1, 1) := by decide +kernel
theorem dX5_countOn_28 : decode cX5_countOn 28 = .ok (.if_icmp .lt 16, 3) := by decide +kernel
theorem dX5_countOn_31 : decode cX5_countOn 31 = .ok (.iload 4, 2) := by decide +kernel
theorem dX5_countOn_33 : decode cX5_countOn 33 = .ok (.aload_n 0, 1) := by decide +kernel
theorem dX5_countOn_34 : decode cX5_countOn 34 = .ok (.getfield 18, 3) := by decide +kernel
theorem dX5_countOn_37 : decode cX5_countOn 37 = .ok (.iload_n 3, 1) := by decide +kernel
theorem dX5_countOn_38 : decode cX5_countOn 38 = .ok (.iconst 1, 1) := by decide +kernel
theorem dX5_countOn_39 : decode cX5_countOn 39 = .ok (.isub, 1) := by decide +kernel
theorem dX5_countOn_40 : decode cX5_countOn 40 = .ok (.iaload, 1) := by decide +kernel
theorem dX5_countOn_41 : decode cX5_countOn 41 = .ok (.iadd, 1) := by decide +kernel
theorem dX5_countOn_42 : decode cX5_countOn 42 = .ok (.istore 4, 2) := by decide +kernel
theorem dX5_countOn_44 : decode cX5_countOn 44 = .ok (.iload_n 3, 1) := by decide +kernel
theorem dX5_countOn_45 : decode cX5_countOn 45 = .ok (.iconst 2, 1) := by decide +kernel
theorem dX5_countOn_46 : decode cX5_countOn 46 = .ok (.if_icmp .lt 27, 3) := by decide +kernel
theorem dX5_countOn_49 : decode cX5_countOn 49 = .ok (.iload 4, 2) := by decide +kernel
theorem dX5_countOn_51 : decode cX5_countOn 51 = .ok (.aload_n 1, 1) := by decide +kernel
theorem dX5_countOn_52 : decode cX5_countOn 52 = .ok (.getfield 27, 3) := by decide +kernel
theorem dX5_countOn_55 : decode cX5_countOn 55 = .ok (.iload_n 3, 1) := by decide +kernel
theorem dX5_countOn_56 : decode cX5_countOn 56 = .ok (.iconst 2, 1) := by decide +kernel
theorem dX5_countOn_57 : decode cX5_countOn 57 = .ok (.isub, 1) := by decide +kernel
theorem dX5_countOn_58 : decode cX5_countOn 58 = .ok (.iushr, 1) := by decide +kernel
theorem dX5_countOn_59 : decode cX5_countOn 59 = .ok (.iconst 1, 1) := by decide +kernel
theorem dX5_countOn_60 : decode cX5_countOn 60 = .ok (.iand, 1) := by decide +kernel
theorem dX5_countOn_61 : decode cX5_countOn 61 = .ok (.aload_n 0, 1) := by decide +kernel
theorem dX5_countOn_62 : decode cX5_countOn 62 = .ok (.getfield 18, 3) := by decide +kernel
theorem dX5_countOn_65 : decode cX5_countOn 65 = .ok (.iload_n 3, 1) := by decide +kernel
theorem dX5_countOn_66 : decode cX5_countOn 66 = .ok (.iconst 2, 1) := by decide +kernel
theorem dX5_countOn_67 : decode cX5_countOn 67 = .ok (.isub, 1) := by decide +kernel
theorem dX5_countOn_68 : decode cX5_countOn 68 = .ok (.iaload, 1) := by decide +kernel
theorem dX5_countOn_69 : decode cX5_countOn 69 = .ok (.imul, 1) := by decide +kernel
theorem dX5_countOn_70 : decode cX5_countOn 70 = .ok (.iadd, 1) := by decide +kernel
theorem dX5_countOn_71 : decode cX5_countOn 71 = .ok (.istore 4, 2) := by decide +kernel
theorem dX5_countOn_73 : decode cX5_countOn 73 = .ok (.aload_n 0, 1) := by decide +kernel
theorem dX5_countOn_74 : decode cX5_countOn 74 = .ok (.getfield 18, 3) := by decide +kernel
theorem dX5_countOn_77 : decode cX5_countOn 77 = .ok (.iload_n 3, 1) := by decide +kernel
theorem dX5_countOn_78 : decode cX5_countOn 78 = .ok (.iload_n 2, 1) := by decide +kernel
theorem dX5_countOn_79 : decode cX5_countOn 79 = .ok (.iload_n 3, 1) := by decide +kernel
theorem dX5_countOn_80 : decode cX5_countOn 80 = .ok (.iushr, 1) := by decide +kernel
theorem dX5_countOn_81 : decode cX5_countOn 81 = .ok (.iconst 1, 1) := by decide +kernel
theorem dX5_countOn_82 : decode cX5_countOn 82 = .ok (.iand, 1) := by decide +kernel
theorem dX5_countOn_83 : decode cX5_countOn 83 = .ok (.iload 4, 2) := by decide +kernel
theorem dX5_countOn_85 : decode cX5_countOn 85 = .ok (.imul, 1) := by decide +kernel
theorem dX5_countOn_86 : decode cX5_countOn 86 = .ok (.iastore, 1) := by decide +kernel
theorem dX5_countOn_87 : decode cX5_countOn 87 = .ok (.iinc 3 (-1), 3) := by decide +kernel
theorem dX5_countOn_90 : decode cX5_countOn 90 = .ok (.goto (-85), 3) := by decide +kernel
theorem dX5_countOn_93 : decode cX5_countOn 93 = .ok (.return_, 1) := by decide +kernel
theorem dX5_coloursOf_0 : decode cX5_coloursOf 0 = .ok (.iconst 0, 1) := by decide +kernel
theorem dX5_coloursOf_1 : decode cX5_coloursOf 1 = .ok (.istore_n 2, 1) := by decide +kernel
theorem dX5_coloursOf_2 : decode cX5_coloursOf 2 = .ok (.iconst 0, 1) := by decide +kernel
theorem dX5_coloursOf_3 : decode cX5_coloursOf 3 = .ok (.istore_n 3, 1) := by decide +kernel
theorem dX5_coloursOf_4 : decode cX5_coloursOf 4 = .ok (.iload_n 3, 1) := by decide +kernel
theorem dX5_coloursOf_5 : decode cX5_coloursOf 5 = .ok (.iconst 3, 1) := by decide +kernel
theorem dX5_coloursOf_6 : decode cX5_coloursOf 6 = .ok (.if_icmp .gt 28, 3) := by decide +kernel
theorem dX5_coloursOf_9 : decode cX5_coloursOf 9 = .ok (.iload_n 1, 1) := by decide +kernel
theorem dX5_coloursOf_10 : decode cX5_coloursOf 10 = .ok (.aload_n 0, 1) := by decide +kernel
theorem dX5_coloursOf_11 : decode cX5_coloursOf 11 = .ok (.getfield 33, 3) := by decide +kernel
theorem dX5_coloursOf_14 : decode cX5_coloursOf 14 = .ok (.iconst 1, 1) := by decide +kernel
theorem dX5_coloursOf_15 : decode cX5_coloursOf 15 = .ok (.iload_n 3, 1) := by decide +kernel
theorem dX5_coloursOf_16 : decode cX5_coloursOf 16 = .ok (.ishl, 1) := by decide +kernel
theorem dX5_coloursOf_17 : decode cX5_coloursOf 17 = .ok (.iaload, 1) := by decide +kernel
theorem dX5_coloursOf_18 : decode cX5_coloursOf 18 = .ok (.iand, 1) := by decide +kernel
theorem dX5_coloursOf_19 : decode cX5_coloursOf 19 = .ok (.ifCond .eq 9, 3) := by decide +kernel
theorem dX5_coloursOf_22 : decode cX5_coloursOf 22 = .ok (.iload_n 2, 1) := by decide +kernel
theorem dX5_coloursOf_23 : decode cX5_coloursOf 23 = .ok (.iconst 1, 1) := by decide +kernel
theorem dX5_coloursOf_24 : decode cX5_coloursOf 24 = .ok (.iload_n 3, 1) := by decide +kernel
theorem dX5_coloursOf_25 : decode cX5_coloursOf 25 = .ok (.ishl, 1) := by decide +kernel
theorem dX5_coloursOf_26 : decode cX5_coloursOf 26 = .ok (.ior, 1) := by decide +kernel
theorem dX5_coloursOf_27 : decode cX5_coloursOf 27 = .ok (.istore_n 2, 1) := by decide +kernel
theorem dX5_coloursOf_28 : decode cX5_coloursOf 28 = .ok (.iinc 3 1, 3) := by decide +kernel
theorem dX5_coloursOf_31 : decode cX5_coloursOf 31 = .ok (.goto (-27), 3) := by decide +kernel
theorem dX5_coloursOf_34 : decode cX5_coloursOf 34 = .ok (.iload_n 2, 1) := by decide +kernel
theorem dX5_coloursOf_35 : decode cX5_coloursOf 35 = .ok (.ireturn, 1) := by decide +kernel
theorem dX6_init_0 : decode cX6_init 0 = .ok (.aload_n 0, 1) := by decide +kernel
theorem dX6_init_1 : decode cX6_init 1 = .ok (.invokespecial 3, 3) := by decide +kernel
theorem dX6_init_4 : decode cX6_init 4 = .ok (.aload_n 0, 1) := by decide +kernel
theorem dX6_init_5 : decode cX6_init 5 = .ok (.aload_n 1, 1) := by decide +kernel
theorem dX6_init_6 : decode cX6_init 6 = .ok (.putfield 9, 3) := by decide +kernel
theorem dX6_init_9 : decode cX6_init 9 = .ok (.aload_n 0, 1) := by decide +kernel
theorem dX6_init_10 : decode cX6_init 10 = .ok (.sipush 500, 3) := by decide +kernel
theorem dX6_init_13 : decode cX6_init 13 = .ok (.newarray .int, 2) := by decide +kernel
theorem dX6_init_15 : decode cX6_init 15 = .ok (.putfield 15, 3) := by decide +kernel
theorem dX6_init_18 : decode cX6_init 18 = .ok (.aload_n 0, 1) := by decide +kernel
theorem dX6_init_19 : decode cX6_init 19 = .ok (.bipush 101, 2) := by decide +kernel
theorem dX6_init_21 : decode cX6_init 21 = .ok (.anewarray 19, 3) := by decide +kernel
theorem dX6_init_24 : decode cX6_init 24 = .ok (.putfield 21, 3) := by decide +kernel
theorem dX6_init_27 : decode cX6_init 27 = .ok (.aload_n 0, 1) := by decide +kernel
theorem dX6_init_28 : decode cX6_init 28 = .ok (.iconst 0, 1) := by decide +kernel
theorem dX6_init_29 : decode cX6_init 29 = .ok (.putfield 25, 3) := by decide +kernel
theorem dX6_init_32 : decode cX6_init 32 = .ok (.aload_n 0, 1) := by decide +kernel
theorem dX6_init_33 : decode cX6_init 33 = .ok (.iconst 0, 1) := by decide +kernel
theorem dX6_init_34 : decode cX6_init 34 = .ok (.putfield 29, 3) := by decide +kernel
theorem dX6_init_37 : decode cX6_init 37 = .ok (.aload_n 0, 1) := by decide +kernel
theorem dX6_init_38 : decode cX6_init 38 = .ok (.iconst 0, 1) := by decide +kernel
theorem dX6_init_39 : decode cX6_init 39 = .ok (.putfield 32, 3) := by decide +kernel
theorem dX6_init_42 : decode cX6_init 42 = .ok (.return_, 1) := by decide +kernel
theorem dX6_seek_0 : decode cX6_seek 0 = .ok (.aload_n 0, 1) := by decide +kernel
theorem dX6_seek_1 : decode cX6_seek 1 = .ok (.iconst 0, 1) := by decide +kernel
theorem dX6_seek_2 : decode cX6_seek 2 = .ok (.putfield 25, 3) := by decide +kernel
theorem dX6_seek_5 : decode cX6_seek 5 = .ok (.aload_n 0, 1) := by decide +kernel
theorem dX6_seek_6 : decode cX6_seek 6 = .ok (.iconst 0, 1) := by decide +kernel
theorem dX6_seek_7 : decode cX6_seek 7 = .ok (.putfield 29, 3) := by decide +kernel
theorem dX6_seek_10 : decode cX6_seek 10 = .ok (.aload_n 0, 1) := by decide +kernel
theorem dX6_seek_11 : decode cX6_seek 11 = .ok (.aload_n 1, 1) := by decide +kernel
theorem dX6_seek_12 : decode cX6_seek 12 = .ok (.getfield 35, 3) := by decide +kernel
theorem dX6_seek_15 : decode cX6_seek 15 = .ok (.putfield 32, 3) := by decide +kernel
theorem dX6_seek_18 : decode cX6_seek 18 = .ok (.aload_n 0, 1) := by decide +kernel
theorem dX6_seek_19 : decode cX6_seek 19 = .ok (.iconst 0, 1) := by decide +kernel
theorem dX6_seek_20 : decode cX6_seek 20 = .ok (.invokevirtual 38, 3) := by decide +kernel
theorem dX6_seek_23 : decode cX6_seek 23 = .ok (.astore 4, 2) := by decide +kernel
theorem dX6_seek_25 : decode cX6_seek 25 = .ok (.aload_n 1, 1) := by decide +kernel
theorem dX6_seek_26 : decode cX6_seek 26 = .ok (.getfield 42, 3) := by decide +kernel
theorem dX6_seek_29 : decode cX6_seek 29 = .ok (.iconst 0, 1) := by decide +kernel
theorem dX6_seek_30 : decode cX6_seek 30 = .ok (.aload 4, 2) := by decide +kernel
theorem dX6_seek_32 : decode cX6_seek 32 = .ok (.getfield 45, 3) := by decide +kernel
theorem dX6_seek_35 : decode cX6_seek 35 = .ok (.iconst 0, 1) := by decide +kernel
theorem dX6_seek_36 : decode cX6_seek 36 = .ok (.aload_n 0, 1) := by decide +kernel
theorem dX6_seek_37 : decode cX6_seek 37 = .ok (.getfield 32, 3) := by decide +kernel
theorem dX6_seek_40 : decode cX6_seek 40 = .ok (.invokestatic 48, 3) := by decide +kernel
theorem dX6_seek_43 : decode cX6_seek 43 = .ok (.aload_n 0, 1) := by decide +kernel
theorem dX6_seek_44 : decode cX6_seek 44 = .ok (.aload_n 1, 1) := by decide +kernel
theorem dX6_seek_45 : decode cX6_seek 45 = .ok (.aload 4, 2) := by decide +kernel
theorem dX6_seek_47 : decode cX6_seek 47 = .ok (.aload_n 1, 1) := by decide +kernel
theorem dX6_seek_48 : decode cX6_seek 48 = .ok (.invokevirtual 54, 3) := by decide +kernel
theorem dX6_seek_51 : decode cX6_seek 51 = .ok (.invokevirtual 58, 3) := by decide +kernel
theorem dX6_seek_54 : decode cX6_seek 54 = .ok (.ifCond .eq 7, 3) := by decide +kernel
theorem dX6_seek_57 : decode cX6_seek 57 = .ok (.iconst 0, 1) := by decide +kernel
theorem dX6_seek_58 : decode cX6_seek 58 = .ok (.goto 4, 3) := by decide +kernel
theorem dX6_seek_61 : decode cX6_seek 61 = .ok (.iconst (-1), 1) := by decide +kernel
theorem dX6_seek_62 : decode cX6_seek 62 = .ok (.istore 5, 2) := by decide +kernel
theorem dX6_seek_64 : decode cX6_seek 64 = .ok (.iconst 0, 1) := by decide +kernel
theorem dX6_seek_65 : decode cX6_seek 65 = .ok (.istore 6, 2) := by decide +kernel
theorem dX6_seek_67 : decode cX6_seek 67 = .ok (.iload 6, 2) := by decide +kernel
theorem dX6_seek_69 : decode cX6_seek 69 = .ok (.ldc 62, 2) := by decide +kernel
theorem dX6_seek_71 : decode cX6_seek 71 = .ok (.if_icmp .ge 143, 3) := by decide +kernel
theorem dX6_seek_74 : decode cX6_seek 74 = .ok (.iload 5, 2) := by decide +kernel
theorem dX6_seek_76 : decode cX6_seek 76 = .ok (.ifCond .lt 138, 3) := by decide +kernel
theorem dX6_seek_79 : decode cX6_seek 79 = .ok (.iload 5, 2) := by decide +kernel
theorem dX6_seek_81 : decode cX6_seek 81 = .ok (.bipush 100, 2) := by decide +kernel
theorem dX6_seek_83 : decode cX6_seek 83 = .ok (.if_icmp .ge 131, 3) := by decide +kernel
theorem dX6_seek_86 : decode cX6_seek 86 = .ok (.aload_n 0, 1) := by decide +kernel
theorem dX6_seek_87 : decode cX6_seek 87 = .ok (.getfield 25, 3) := by decide +kernel
theorem dX6_seek_90 : decode cX6_seek 90 = .ok (.iload_n 3, 1) := by decide +kernel
theorem dX6_seek_91 : decode cX6_seek 91 = .ok (.if_icmp .ge 123, 3) := by decide +kernel
theorem dX6_seek_94 : decode cX6_seek 94 = .ok (.aload_n 0, 1) := by decide +kernel
theorem dX6_seek_95 : decode cX6_seek 95 = .ok (.iload 5, 2) := by decide +kernel
theorem dX6_seek_97 : decode cX6_seek 97 = .ok (.invokevirtual 38, 3) := by decide +kernel
theorem dX6_seek_100 : decode cX6_seek 100 = .ok (.astore 7, 2) := by decide +kernel
theorem dX6_seek_102 : decode cX6_seek 102 = .ok (.aload 7, 2) := by decide +kernel
theorem dX6_seek_104 : decode cX6_seek 104 = .ok (.invokevirtual 63, 3) := by decide +kernel
theorem dX6_seek_107 : decode cX6_seek 107 = .ok (.istore 8, 2) := by decide +kernel
theorem dX6_seek_109 : decode cX6_seek 109 = .ok (.iload 8, 2) := by decide +kernel
theorem dX6_seek_111 : decode cX6_seek 111 = .ok (.iconst (-1), 1) := by decide +kernel
theorem dX6_seek_112 : decode cX6_seek 112 = .ok (.if_icmp .ne 9, 3) := by decide +kernel
theorem dX6_seek_115 : decode cX6_seek 115 = .ok (.iinc 5 (-1), 3) := by decide +kernel
theorem dX6_seek_118 : decode cX6_seek 118 = .ok (.goto 90, 3) := by decide +kernel
theorem dX6_seek_121 : decode cX6_seek 121 = .ok (.aload_n 0, 1) := by decide +kernel
theorem dX6_seek_122 : decode cX6_seek 122 = .ok (.getfield 29, 3) := by decide +kernel
theorem dX6_seek_125 : decode cX6_seek 125 = .ok (.iload_n 2, 1) := by decide +kernel
theorem dX6_seek_126 : decode cX6_seek 126 = .ok (.if_icmp .ne 6, 3) := by decide +kernel
theorem dX6_seek_129 : decode cX6_seek 129 = .ok (.bipush (-2), 2) := by decide +kernel
theorem dX6_seek_131 : decode cX6_seek 131 = .ok (.ireturn, 1) := by decide +kernel
theorem dX6_seek_132 : decode cX6_seek 132 = .ok (.aload_n 0, 1) := by decide +kernel
theorem dX6_seek_133 : decode cX6_seek 133 = .ok (.dup, 1) := by decide +kernel
theorem dX6_seek_134 : decode cX6_seek 134 = .ok (.getfield 29, 3) := by decide +kernel
theorem dX6_seek_137 : decode cX6_seek 137 = .ok (.iconst 1, 1) := by decide +kernel
theorem dX6_seek_138 : decode cX6_seek 138 = .ok (.iadd, 1) := by decide +kernel
theorem dX6_seek_139 : decode cX6_seek 139 = .ok (.putfield 29, 3) := by decide +kernel
theorem dX6_seek_142 : decode cX6_seek 142 = .ok (.aload_n 0, 1) := by decide +kernel
theorem dX6_seek_143 : decode cX6_seek 143 = .ok (.iload 5, 2) := by decide +kernel
theorem dX6_seek_145 : decode cX6_seek 145 = .ok (.iconst 1, 1) := by decide +kernel
theorem dX6_seek_146 : decode cX6_seek 146 = .ok (.iadd, 1) := by decide +kernel
theorem dX6_seek_147 : decode cX6_seek 147 = .ok (.invokevirtual 38, 3) := by decide +kernel
theorem dX6_seek_150 : decode cX6_seek 150 = .ok (.astore 9, 2) := by decide +kernel
theorem dX6_seek_152 : decode cX6_seek 152 = .ok (.aload 7, 2) := by decide +kernel
theorem dX6_seek_154 : decode cX6_seek 154 = .ok (.getfield 45, 3) := by decide +kernel
theorem dX6_seek_157 : decode cX6_seek 157 = .ok (.iconst 0, 1) := by decide +kernel
theorem dX6_seek_158 : decode cX6_seek 158 = .ok (.aload 9, 2) := by decide +kernel
theorem dX6_seek_160 : decode cX6_seek 160 = .ok (.getfield 45, 3) := by decide +kernel
theorem dX6_seek_163 : decode cX6_seek 163 = .ok (.iconst 0, 1) := by decide +kernel
theorem dX6_seek_164 : decode cX6_seek 164 = .ok (.aload_n 0, 1) := by decide +kernel
theorem dX6_seek_165 : decode cX6_seek 165 = .ok (.getfield 32, 3) := by decide +kernel
theorem dX6_seek_168 : decode cX6_seek 168 = .ok (.invokestatic 48, 3) := by decide +kernel
theorem dX6_seek_171 : decode cX6_seek 171 = .ok (.aload 9, 2) := by decide +kernel
theorem dX6_seek_173 : decode cX6_seek 173 = .ok (.getfield 45, 3) := by decide +kernel
theorem dX6_seek_176 : decode cX6_seek 176 = .ok (.aload 7, 2) := by decide +kernel
theorem dX6_seek_178 : decode cX6_seek 178 = .ok (.getfield 66, 3) := by decide +kernel
theorem dX6_seek_181 : decode cX6_seek 181 = .ok (.iconst 1, 1) := by decide +kernel
theorem dX6_seek_182 : decode cX6_seek 182 = .ok (.iload 8, 2) := by decide +kernel
theorem dX6_seek_184 : decode cX6_seek 184 = .ok (.ishl, 1) := by decide +kernel
theorem dX6_seek_185 : decode cX6_seek 185 = .ok (.iastore, 1) := by decide +kernel
theorem dX6_seek_186 : decode cX6_seek 186 = .ok (.aload_n 0, 1) := by decide +kernel
theorem dX6_seek_187 : decode cX6_seek 187 = .ok (.aload_n 1, 1) := by decide +kernel
theorem dX6_seek_188 : decode cX6_seek 188 = .ok (.aload 9, 2) := by decide +kernel
theorem dX6_seek_190 : decode cX6_seek 190 = .ok (.aload_n 1, 1) := by decide +kernel
theorem dX6_seek_191 : decode cX6_seek 191 = .ok (.aload 7, 2) := by decide +kernel
theorem dX6_seek_193 : decode cX6_seek 193 = .ok (.getfield 66, 3) := by decide +kernel
theorem dX6_seek_196 : decode cX6_seek 196 = .ok (.invokevirtual 69, 3) := by decide +kernel
theorem dX6_seek_199 : decode cX6_seek 199 = .ok (.invokevirtual 58, 3) := by decide +kernel
theorem dX6_seek_202 : decode cX6_seek 202 = .ok (.ifCond .eq 6, 3) := by decide +kernel
theorem dX6_seek_205 : decode cX6_seek 205 = .ok (.iinc 5 1, 3) := by decide +kernel
theorem dX6_seek_208 : decode cX6_seek 208 = .ok (.iinc 6 1, 3) := by decide +kernel
theorem dX6_seek_211 : decode cX6_seek 211 = .ok (.goto (-144), 3) := by decide +kernel
theorem dX6_seek_214 : decode cX6_seek 214 = .ok (.aload_n 0, 1) := by decide +kernel
theorem dX6_seek_215 : decode cX6_seek 215 = .ok (.getfield 25, 3) := by decide +kernel
theorem dX6_seek_218 : decode cX6_seek 218 = .ok (.ireturn, 1) := by decide +kernel
theorem dX6_levelAt_0 : decode cX6_levelAt 0 = .ok (.aload_n 0, 1) := by decide +kernel
theorem dX6_levelAt_1 : decode cX6_levelAt 1 = .ok (.getfield 21, 3) := by decide +kernel
theorem dX6_levelAt_4 : decode cX6_levelAt 4 = .ok (.iload_n 1, 1) := by decide +kernel
theorem dX6_levelAt_5 : decode cX6_levelAt 5 = .ok (.aaload, 1) := by decide +kernel
theorem dX6_levelAt_6 : decode cX6_levelAt 6 = .ok (.ifnonnull 16, 3) := by decide +kernel
theorem dX6_levelAt_9 : decode cX6_levelAt 9 = .ok (.aload_n 0, 1) := by decide +kernel
theorem dX6_levelAt_10 : decode cX6_levelAt 10 = .ok (.getfield 21, 3) := by decide +kernel
theorem dX6_levelAt_13 : decode cX6_levelAt 13 = .ok (.iload_n 1, 1) := by decide +kernel
theorem dX6_levelAt_14 : decode cX6_levelAt 14 = .ok (.new 19, 3) := by decide +kernel
theorem dX6_levelAt_17 : decode cX6_levelAt 17 = .ok (.dup, 1) := by decide +kernel
theorem dX6_levelAt_18 : decode cX6_levelAt 18 = .ok (.invokespecial 73, 3) := by decide +kernel
theorem dX6_levelAt_21 : decode cX6_levelAt 21 = .ok (.aastore, 1) := by decide +kernel
theorem dX6_levelAt_22 : decode cX6_levelAt 22 = .ok (.aload_n 0, 1) := by decide +kernel
theorem dX6_levelAt_23 : decode cX6_levelAt 23 = .ok (.getfield 21, 3) := by decide +kernel
theorem dX6_levelAt_26 : decode cX6_levelAt 26 = .ok (.iload_n 1, 1) := by decide +kernel
theorem dX6_levelAt_27 : decode cX6_levelAt 27 = .ok (.aaload, 1) := by decide +kernel
theorem dX6_levelAt_28 : decode cX6_levelAt 28 = .ok (.areturn, 1) := by decide +kernel
theorem dX6_staysOpen_0 : decode cX6_staysOpen 0 = .ok (.aload_n 0, 1) := by decide +kernel
theorem dX6_staysOpen_1 : decode cX6_staysOpen 1 = .ok (.getfield 9, 3) := by decide +kernel
theorem dX6_staysOpen_4 : decode cX6_staysOpen 4 = .ok (.aload_n 1, 1) := by decide +kernel
theorem dX6_staysOpen_5 : decode cX6_staysOpen 5 = .ok (.aload_n 2, 1) := by decide +kernel
theorem dX6_staysOpen_6 : decode cX6_staysOpen 6 = .ok (.getfield 45, 3) := by decide +kernel
theorem dX6_staysOpen_9 : decode cX6_staysOpen 9 = .ok (.iload_n 3, 1) := by decide +kernel
theorem dX6_staysOpen_10 : decode cX6_staysOpen 10 = .ok (.invokevirtual 74, 3) := by decide +kernel
theorem dX6_staysOpen_13 : decode cX6_staysOpen 13 = .ok (.bipush (-2), 2) := by decide +kernel
theorem dX6_staysOpen_15 : decode cX6_staysOpen 15 = .ok (.if_icmp .ne 5, 3) := by decide +kernel
theorem dX6_staysOpen_18 : decode cX6_staysOpen 18 = .ok (.iconst 0, 1) := by decide +kernel
theorem dX6_staysOpen_19 : decode cX6_staysOpen 19 = .ok (.ireturn, 1) := by decide +kernel
theorem dX6_staysOpen_20 : decode cX6_staysOpen 20 = .ok (.aload_n 1, 1) := by decide +kernel
theorem dX6_staysOpen_21 : decode cX6_staysOpen 21 = .ok (.aload_n 2, 1) := by decide +kernel
theorem dX6_staysOpen_22 : decode cX6_staysOpen 22 = .ok (.getfield 45, 3) := by decide +kernel
theorem dX6_staysOpen_25 : decode cX6_staysOpen 25 = .ok (.invokevirtual 80, 3) := by decide +kernel
theorem dX6_staysOpen_28 : decode cX6_staysOpen 28 = .ok (.aload_n 0, 1) := by decide +kernel
theorem dX6_staysOpen_29 : decode cX6_staysOpen 29 = .ok (.getfield 32, 3) := by decide +kernel
theorem dX6_staysOpen_32 : decode cX6_staysOpen 32 = .ok (.if_icmp .ne 13, 3) := by decide +kernel
theorem dX6_staysOpen_35 : decode cX6_staysOpen 35 = .ok (.aload_n 0, 1) := by decide +kernel
theorem dX6_staysOpen_36 : decode cX6_staysOpen 36 = .ok (.aload_n 2, 1) := by decide +kernel
theorem dX6_staysOpen_37 : decode cX6_staysOpen 37 = .ok (.getfield 45, 3) := by decide +kernel
theorem dX6_staysOpen_40 : decode cX6_staysOpen 40 = .ok (.invokevirtual 84, 3) := by decide +kernel
theorem dX6_staysOpen_43 : decode cX6_staysOpen 43 = .ok (.iconst 0, 1) := by decide +kernel
theorem dX6_staysOpen_44 : decode cX6_staysOpen 44 = .ok (.ireturn, 1) := by decide +kernel
theorem dX6_staysOpen_45 : decode cX6_staysOpen 45 = .ok (.aload_n 2, 1) := by decide +kernel
theorem dX6_staysOpen_46 : decode cX6_staysOpen 46 = .ok (.aload_n 0, 1) := by decide +kernel
theorem dX6_staysOpen_47 : decode cX6_staysOpen 47 = .ok (.getfield 32, 3) := by decide +kernel
theorem dX6_staysOpen_50 : decode cX6_staysOpen 50 = .ok (.invokevirtual 88, 3) := by decide +kernel
theorem dX6_staysOpen_53 : decode cX6_staysOpen 53 = .ok (.iconst 1, 1) := by decide +kernel
theorem dX6_staysOpen_54 : decode cX6_staysOpen 54 = .ok (.ireturn, 1) := by decide +kernel
theorem dX6_keepPicture_0 : decode cX6_keepPicture 0 = .ok (.aload_n 0, 1) := by decide +kernel
theorem dX6_keepPicture_1 : decode cX6_keepPicture 1 = .ok (.getfield 25, 3) := by decide +kernel
theorem dX6_keepPicture_4 : decode cX6_keepPicture 4 = .ok (.iconst 5, 1) := by decide +kernel
theorem dX6_keepPicture_5 : decode cX6_keepPicture 5 = .ok (.if_icmp .lt 4, 3) := by decide +kernel
theorem dX6_keepPicture_8 : decode cX6_keepPicture 8 = .ok (.return_, 1) := by decide +kernel
theorem dX6_keepPicture_9 : decode cX6_keepPicture 9 = .ok (.iconst 0, 1) := by decide +kernel
theorem dX6_keepPicture_10 : decode cX6_keepPicture 10 = .ok (.istore_n 2, 1) := by decide +kernel
theorem dX6_keepPicture_11 : decode cX6_keepPicture 11 = .ok (.iload_n 2, 1) := by decide +kernel
theorem dX6_keepPicture_12 : decode cX6_keepPicture 12 = .ok (.aload_n 0, 1) := by decide +kernel
theorem dX6_keepPicture_13 : decode cX6_keepPicture 13 = .ok (.getfield 32, 3) := by decide +kernel
theorem dX6_keepPicture_16 : decode cX6_keepPicture 16 = .ok (.if_icmp .ge 29, 3) := by decide +kernel
theorem dX6_keepPicture_19 : decode cX6_keepPicture 19 = .ok (.aload_n 0, 1) := by decide +kernel
theorem dX6_keepPicture_20 : decode cX6_keepPicture 20 = .ok (.getfield 15, 3) := by decide +kernel
theorem dX6_keepPicture_23 : decode cX6_keepPicture 23 = .ok (.aload_n 0, 1) := by decide +kernel
theorem dX6_keepPicture_24 : decode cX6_keepPicture 24 = .ok (.getfield 25, 3) := by decide +kernel
theorem dX6_keepPicture_27 : decode cX6_keepPicture 27 = .ok (.bipush 100, 2) := by decide +kernel
theorem dX6_keepPicture_29 : decode cX6_keepPicture 29 = .ok (.imul, 1) := by decide +kernel
theorem dX6_keepPicture_30 : decode cX6_keepPicture 30 = .ok (.iload_n 2, 1) := by decide +kernel
theorem dX6_keepPicture_31 : decode cX6_keepPicture 31 = .ok (.iadd, 1) := by decide +kernel
theorem dX6_keepPicture_32 : decode cX6_keepPicture 32 = .ok (.aload_n 1, 1) := by decide +kernel
theorem dX6_keepPicture_33 : decode cX6_keepPicture 33 = .ok (.iload_n 2, 1) := by decide +kernel
theorem dX6_keepPicture_34 : decode cX6_keepPicture 34 = .ok (.iaload, 1) := by decide +kernel
theorem dX6_keepPicture_35 : decode cX6_keepPicture 35 = .ok (.invokestatic 92, 3) := by decide +kernel
theorem dX6_keepPicture_38 : decode cX6_keepPicture 38 = .ok (.iastore, 1) := by decide +kernel
theorem dX6_keepPicture_39 : decode cX6_keepPicture 39 = .ok (.iinc 2 1, 3) := by decide +kernel
theorem dX6_keepPicture_42 : decode cX6_keepPicture 42 = .ok (.goto (-31), 3) := by decide +kernel
theorem dX6_keepPicture_45 : decode cX6_keepPicture 45 = .ok (.aload_n 0, 1) := by decide +kernel
theorem dX6_keepPicture_46 : decode cX6_keepPicture 46 = .ok (.dup, 1) := by decide +kernel
theorem dX6_keepPicture_47 : decode cX6_keepPicture 47 = .ok (.getfield 25, 3) := by decide +kernel
theorem dX6_keepPicture_50 : decode cX6_keepPicture 50 = .ok (.iconst 1, 1) := by decide +kernel
theorem dX6_keepPicture_51 : decode cX6_keepPicture 51 = .ok (.iadd, 1) := by decide +kernel
theorem dX6_keepPicture_52 : decode cX6_keepPicture 52 = .ok (.putfield 25, 3) := by decide +kernel
theorem dX6_keepPicture_55 : decode cX6_keepPicture 55 = .ok (.return_, 1) := by decide +kernel
theorem dX7_init_0 : decode cX7_init 0 = .ok (.aload_n 0, 1) := by decide +kernel
theorem dX7_init_1 : decode cX7_init 1 = .ok (.invokespecial 3, 3) := by decide +kernel
theorem dX7_init_4 : decode cX7_init 4 = .ok (.aload_n 0, 1) := by decide +kernel
theorem dX7_init_5 : decode cX7_init 5 = .ok (.aload_n 1, 1) := by decide +kernel
theorem dX7_init_6 : decode cX7_init 6 = .ok (.putfield 9, 3) := by decide +kernel
theorem dX7_init_9 : decode cX7_init 9 = .ok (.aload_n 0, 1) := by decide +kernel
theorem dX7_init_10 : decode cX7_init 10 = .ok (.iconst 0, 1) := by decide +kernel
theorem dX7_init_11 : decode cX7_init 11 = .ok (.putfield 15, 3) := by decide +kernel
theorem dX7_init_14 : decode cX7_init 14 = .ok (.return_, 1) := by decide +kernel
theorem dX7_narrow_0 : decode cX7_narrow 0 = .ok (.aload_n 0, 1) := by decide +kernel
theorem dX7_narrow_1 : decode cX7_narrow 1 = .ok (.getfield 9, 3) := by decide +kernel
theorem dX7_narrow_4 : decode cX7_narrow 4 = .ok (.aload_n 1, 1) := by decide +kernel
theorem dX7_narrow_5 : decode cX7_narrow 5 = .ok (.aload_n 2, 1) := by decide +kernel
theorem dX7_narrow_6 : decode cX7_narrow 6 = .ok (.invokevirtual 19, 3) := by decide +kernel
theorem dX7_narrow_9 : decode cX7_narrow 9 = .ok (.ifCond .ne 6, 3) := by decide +kernel
theorem dX7_narrow_12 : decode cX7_narrow 12 = .ok (.bipush (-2), 2) := by decide +kernel
theorem dX7_narrow_14 : decode cX7_narrow 14 = .ok (.ireturn, 1) := by decide +kernel
theorem dX7_narrow_15 : decode cX7_narrow 15 = .ok (.iconst 0, 1) := by decide +kernel
theorem dX7_narrow_16 : decode cX7_narrow 16 = .ok (.istore_n 3, 1) := by decide +kernel
theorem dX7_narrow_17 : decode cX7_narrow 17 = .ok (.iconst 0, 1) := by decide +kernel
theorem dX7_narrow_18 : decode cX7_narrow 18 = .ok (.istore 4, 2) := by decide +kernel
theorem dX7_narrow_20 : decode cX7_narrow 20 = .ok (.iload 4, 2) := by decide +kernel
theorem dX7_narrow_22 : decode cX7_narrow 22 = .ok (.aload_n 1, 1) := by decide +kernel
theorem dX7_narrow_23 : decode cX7_narrow 23 = .ok (.getfield 25, 3) := by decide +kernel
theorem dX7_narrow_26 : decode cX7_narrow 26 = .ok (.if_icmp .ge 81, 3) := by decide +kernel
theorem dX7_narrow_29 : decode cX7_narrow 29 = .ok (.aload_n 1, 1) := by decide +kernel
theorem dX7_narrow_30 : decode cX7_narrow 30 = .ok (.iload 4, 2) := by decide +kernel
theorem dX7_narrow_32 : decode cX7_narrow 32 = .ok (.invokevirtual 30, 3) := by decide +kernel
theorem dX7_narrow_35 : decode cX7_narrow 35 = .ok (.istore 5, 2) := by decide +kernel
theorem dX7_narrow_37 : decode cX7_narrow 37 = .ok (.aload_n 2, 1) := by decide +kernel
theorem dX7_narrow_38 : decode cX7_narrow 38 = .ok (.iload 5, 2) := by decide +kernel
theorem dX7_narrow_40 : decode cX7_narrow 40 = .ok (.iaload, 1) := by decide +kernel
theorem dX7_narrow_41 : decode cX7_narrow 41 = .ok (.aload_n 0, 1) := by decide +kernel
theorem dX7_narrow_42 : decode cX7_narrow 42 = .ok (.getfield 9, 3) := by decide +kernel
theorem dX7_narrow_45 : decode cX7_narrow 45 = .ok (.getfield 34, 3) := by decide +kernel
theorem dX7_narrow_48 : decode cX7_narrow 48 = .ok (.iload 4, 2) := by decide +kernel
theorem dX7_narrow_50 : decode cX7_narrow 50 = .ok (.iaload, 1) := by decide +kernel
theorem dX7_narrow_51 : decode cX7_narrow 51 = .ok (.iconst (-1), 1) := by decide +kernel
theorem dX7_narrow_52 : decode cX7_narrow 52 = .ok (.ixor, 1) := by decide +kernel
theorem dX7_narrow_53 : decode cX7_narrow 53 = .ok (.iand, 1) := by decide +kernel
theorem dX7_narrow_54 : decode cX7_narrow 54 = .ok (.istore 6, 2) := by decide +kernel
theorem dX7_narrow_56 : decode cX7_narrow 56 = .ok (.iload 6, 2) := by decide +kernel
theorem dX7_narrow_58 : decode cX7_narrow 58 = .ok (.ifCond .eq 43, 3) := by decide +kernel
theorem dX7_narrow_61 : decode cX7_narrow 61 = .ok (.iload_n 3, 1) := by decide +kernel
theorem dX7_narrow_62 : decode cX7_narrow 62 = .ok (.iload 6, 2) := by decide +kernel
theorem dX7_narrow_64 : decode cX7_narrow 64 = .ok (.invokestatic 38, 3) := by decide +kernel
theorem dX7_narrow_67 : decode cX7_narrow 67 = .ok (.iadd, 1) := by decide +kernel
theorem dX7_narrow_68 : decode cX7_narrow 68 = .ok (.istore_n 3, 1) := by decide +kernel
theorem dX7_narrow_69 : decode cX7_narrow 69 = .ok (.aload_n 2, 1) := by decide +kernel
theorem dX7_narrow_70 : decode cX7_narrow 70 = .ok (.iload 5, 2) := by decide +kernel
theorem dX7_narrow_72 : decode cX7_narrow 72 = .ok (.aload_n 0, 1) := by decide +kernel
theorem dX7_narrow_73 : decode cX7_narrow 73 = .ok (.getfield 9, 3) := by decide +kernel
theorem dX7_narrow_76 : decode cX7_narrow 76 = .ok (.getfield 34, 3) := by decide +kernel
theorem dX7_narrow_79 : decode cX7_narrow 79 = .ok (.iload 4, 2) := by decide +kernel
theorem dX7_narrow_81 : decode cX7_narrow 81 = .ok (.iaload, 1) := by decide +kernel
theorem dX7_narrow_82 : decode cX7_narrow 82 = .ok (.iastore, 1) := by decide +kernel
theorem dX7_narrow_83 : decode cX7_narrow 83 = .ok (.aload_n 0, 1) := by decide +kernel
theorem dX7_narrow_84 : decode cX7_narrow 84 = .ok (.dup, 1) := by decide +kernel
theorem dX7_narrow_85 : decode cX7_narrow 85 = .ok (.getfield 15, 3) := by decide +kernel
theorem dX7_narrow_88 : decode cX7_narrow 88 = .ok (.iconst 1, 1) := by decide +kernel
theorem dX7_narrow_89 : decode cX7_narrow 89 = .ok (.aload_n 1, 1) := by decide +kernel
theorem dX7_narrow_90 : decode cX7_narrow 90 = .ok (.getfield 43, 3) := by decide +kernel
theorem dX7_narrow_93 : decode cX7_narrow 93 = .ok (.iload 4, 2) := by decide +kernel
theorem dX7_narrow_95 : decode cX7_narrow 95 = .ok (.iadd, 1) := by decide +kernel
theorem dX7_narrow_96 : decode cX7_narrow 96 = .ok (.ishl, 1) := by decide +kernel
theorem dX7_narrow_97 : decode cX7_narrow 97 = .ok (.ior, 1) := by decide +kernel
theorem dX7_narrow_98 : decode cX7_narrow 98 = .ok (.putfield 15, 3) := by decide +kernel
theorem dX7_narrow_101 : decode cX7_narrow 101 = .ok (.iinc 4 1, 3) := by decide +kernel
theorem dX7_narrow_104 : decode cX7_narrow 104 = .ok (.goto (-84), 3) := by decide +kernel
theorem dX7_narrow_107 : decode cX7_narrow 107 = .ok (.iload_n 3, 1) := by decide +kernel
theorem dX7_narrow_108 : decode cX7_narrow 108 = .ok (.ireturn, 1) := by decide +kernel
theorem dX7_bringToRest_0 : decode cX7_bringToRest 0 = .ok (.aload_n 0, 1) := by decide +kernel
theorem dX7_bringToRest_1 : decode cX7_bringToRest 1 = .ok (.iload_n 3, 1) := by decide +kernel
theorem dX7_bringToRest_2 : decode cX7_bringToRest 2 = .ok (.putfield 15, 3) := by decide +kernel
theorem dX7_bringToRest_5 : decode cX7_bringToRest 5 = .ok (.iconst 0, 1) := by decide +kernel
theorem dX7_bringToRest_6 : decode cX7_bringToRest 6 = .ok (.istore 4, 2) := by decide +kernel
theorem dX7_bringToRest_8 : decode cX7_bringToRest 8 = .ok (.iconst 0, 1) := by decide +kernel
theorem dX7_bringToRest_9 : decode cX7_bringToRest 9 = .ok (.istore 5, 2) := by decide +kernel
theorem dX7_bringToRest_11 : decode cX7_bringToRest 11 = .ok (.iload 5, 2) := by decide +kernel
theorem dX7_bringToRest_13 : decode cX7_bringToRest 13 = .ok (.ldc 46, 2) := by decide +kernel
theorem dX7_bringToRest_15 : decode cX7_bringToRest 15 = .ok (.if_icmp .ge 107, 3) := by decide +kernel
theorem dX7_bringToRest_18 : decode cX7_bringToRest 18 = .ok (.aload_n 0, 1) := by decide +kernel
theorem dX7_bringToRest_19 : decode cX7_bringToRest 19 = .ok (.getfield 15, 3) := by decide +kernel
theorem dX7_bringToRest_22 : decode cX7_bringToRest 22 = .ok (.ifCond .eq 100, 3) := by decide +kernel
theorem dX7_bringToRest_25 : decode cX7_bringToRest 25 = .ok (.iconst 0, 1) := by decide +kernel
theorem dX7_bringToRest_26 : decode cX7_bringToRest 26 = .ok (.istore 6, 2) := by decide +kernel
theorem dX7_bringToRest_28 : decode cX7_bringToRest 28 = .ok (.iconst 0, 1) := by decide +kernel
theorem dX7_bringToRest_29 : decode cX7_bringToRest 29 = .ok (.istore 7, 2) := by decide +kernel
theorem dX7_bringToRest_31 : decode cX7_bringToRest 31 = .ok (.iload 7, 2) := by decide +kernel
theorem dX7_bringToRest_33 : decode cX7_bringToRest 33 = .ok (.aload_n 1, 1) := by decide +kernel
theorem dX7_bringToRest_34 : decode cX7_bringToRest 34 = .ok (.getfield 47, 3) := by decide +kernel
theorem dX7_bringToRest_37 : decode cX7_bringToRest 37 = .ok (.arraylength, 1) := by decide +kernel
theorem dX7_bringToRest_38 : decode cX7_bringToRest 38 = .ok (.if_icmp .ge 70, 3) := by decide +kernel
theorem dX7_bringToRest_41 : decode cX7_bringToRest 41 = .ok (.aload_n 0, 1) := by decide +kernel
theorem dX7_bringToRest_42 : decode cX7_bringToRest 42 = .ok (.getfield 15, 3) := by decide +kernel
theorem dX7_bringToRest_45 : decode cX7_bringToRest 45 = .ok (.iload 7, 2) := by decide +kernel
theorem dX7_bringToRest_47 : decode cX7_bringToRest 47 = .ok (.iushr, 1) := by decide +kernel
theorem dX7_bringToRest_48 : decode cX7_bringToRest 48 = .ok (.iconst 1, 1) := by decide +kernel
theorem dX7_bringToRest_49 : decode cX7_bringToRest 49 = .ok (.iand, 1) := by decide +kernel
theorem dX7_bringToRest_50 : decode cX7_bringToRest 50 = .ok (.ifCond .ne 6, 3) := by decide +kernel
theorem dX7_bringToRest_53 : decode cX7_bringToRest 53 = .ok (.goto 49, 3) := by decide +kernel
theorem dX7_bringToRest_56 : decode cX7_bringToRest 56 = .ok (.aload_n 0, 1) := by decide +kernel
theorem dX7_bringToRest_57 : decode cX7_bringToRest 57 = .ok (.dup, 1) := by decide +kernel
theorem dX7_bringToRest_58 : decode cX7_bringToRest 58 = .ok (.getfield 15, 3) := by decide +kernel
theorem dX7_bringToRest_61 : decode cX7_bringToRest 61 = .ok (.iconst 1, 1) := by decide +kernel
theorem dX7_bringToRest_62 : decode cX7_bringToRest 62 = .ok (.iload 7, 2) := by decide +kernel
theorem dX7_bringToRest_64 : decode cX7_bringToRest 64 = .ok (.ishl, 1) := by decide +kernel
theorem dX7_bringToRest_65 : decode cX7_bringToRest 65 = .ok (.iconst (-1), 1) := by decide +kernel
theorem dX7_bringToRest_66 : decode cX7_bringToRest 66 = .ok (.ixor, 1) := by decide +kernel
theorem dX7_bringToRest_67 : decode cX7_bringToRest 67 = .ok (.iand, 1) := by decide +kernel
theorem dX7_bringToRest_68 : decode cX7_bringToRest 68 = .ok (.putfield 15, 3) := by decide +kernel
theorem dX7_bringToRest_71 : decode cX7_bringToRest 71 = .ok (.aload_n 0, 1) := by decide +kernel
theorem dX7_bringToRest_72 : decode cX7_bringToRest 72 = .ok (.aload_n 1, 1) := by decide +kernel
theorem dX7_bringToRest_73 : decode cX7_bringToRest 73 = .ok (.getfield 47, 3) := by decide +kernel
theorem dX7_bringToRest_76 : decode cX7_bringToRest 76 = .ok (.iload 7, 2) := by decide +kernel
theorem dX7_bringToRest_78 : decode cX7_bringToRest 78 = .ok (.aaload, 1) := by decide +kernel
theorem dX7_bringToRest_79 : decode cX7_bringToRest 79 = .ok (.aload_n 2, 1) := by decide +kernel
theorem dX7_bringToRest_80 : decode cX7_bringToRest 80 = .ok (.invokevirtual 53, 3) := by decide +kernel
theorem dX7_bringToRest_83 : decode cX7_bringToRest 83 = .ok (.istore 8, 2) := by decide +kernel
theorem dX7_bringToRest_85 : decode cX7_bringToRest 85 = .ok (.iload 8, 2) := by decide +kernel
theorem dX7_bringToRest_87 : decode cX7_bringToRest 87 = .ok (.bipush (-2), 2) := by decide +kernel
theorem dX7_bringToRest_89 : decode cX7_bringToRest 89 = .ok (.if_icmp .ne 6, 3) := by decide +kernel
theorem dX7_bringToRest_92 : decode cX7_bringToRest 92 = .ok (.bipush (-2), 2) := by decide +kernel
theorem dX7_bringToRest_94 : decode cX7_bringToRest 94 = .ok (.ireturn, 1) := by decide +kernel
theorem dX7_bringToRest_95 : decode cX7_bringToRest 95 = .ok (.iload 6, 2) := by decide +kernel
theorem dX7_bringToRest_97 : decode cX7_bringToRest 97 = .ok (.iload 8, 2) := by decide +kernel
theorem dX7_bringToRest_99 : decode cX7_bringToRest 99 = .ok (.iadd, 1) := by decide +kernel
theorem dX7_bringToRest_100 : decode cX7_bringToRest 100 = .ok (.istore 6, 2) := by decide +kernel
theorem dX7_bringToRest_102 : decode cX7_bringToRest 102 = .ok (.iinc 7 1, 3) := by decide +kernel
theorem dX7_bringToRest_105 : decode cX7_bringToRest 105 = .ok (.goto (-74), 3) := by decide +kernel
theorem dX7_bringToRest_108 : decode cX7_bringToRest 108 = .ok (.iload 6, 2) := by decide +kernel
theorem dX7_bringToRest_110 : decode cX7_bringToRest 110 = .ok (.ifCond .le 6, 3) := by decide +kernel
theorem dX7_bringToRest_113 : decode cX7_bringToRest 113 = .ok (.iinc 4 1, 3) := by decide +kernel
theorem dX7_bringToRest_116 : decode cX7_bringToRest 116 = .ok (.iinc 5 1, 3) := by decide +kernel
theorem dX7_bringToRest_119 : decode cX7_bringToRest 119 = .ok (.goto (-108), 3) := by decide +kernel
theorem dX7_bringToRest_122 : decode cX7_bringToRest 122 = .ok (.iload 4, 2) := by decide +kernel
theorem dX7_bringToRest_124 : decode cX7_bringToRest 124 = .ok (.ireturn, 1) := by decide +kernel
theorem dX8_init_0 : decode cX8_init 0 = .ok (.aload_n 0, 1) := by decide +kernel
theorem dX8_init_1 : decode cX8_init 1 = .ok (.invokespecial 1, 3) := by decide +kernel
theorem dX8_init_4 : decode cX8_init 4 = .ok (.aload_n 0, 1) := by decide +kernel
theorem dX8_init_5 : decode cX8_init 5 = .ok (.bipush 30, 2) := by decide +kernel
theorem dX8_init_7 : decode cX8_init 7 = .ok (.anewarray 9, 3) := by decide +kernel
theorem dX8_init_10 : decode cX8_init 10 = .ok (.putfield 11, 3) := by decide +kernel
theorem dX8_init_13 : decode cX8_init 13 = .ok (.aload_n 0, 1) := by decide +kernel
theorem dX8_init_14 : decode cX8_init 14 = .ok (.bipush 20, 2) := by decide +kernel
theorem dX8_init_16 : decode cX8_init 16 = .ok (.anewarray 15, 3) := by decide +kernel
theorem dX8_init_19 : decode cX8_init 19 = .ok (.putfield 17, 3) := by decide +kernel
theorem dX8_init_22 : decode cX8_init 22 = .ok (.aload_n 0, 1) := by decide +kernel
theorem dX8_init_23 : decode cX8_init 23 = .ok (.bipush 100, 2) := by decide +kernel
theorem dX8_init_25 : decode cX8_init 25 = .ok (.newarray .int, 2) := by decide +kernel
theorem dX8_init_27 : decode cX8_init 27 = .ok (.putfield 21, 3) := by decide +kernel
theorem dX8_init_30 : decode cX8_init 30 = .ok (.aload_n 0, 1) := by decide +kernel
theorem dX8_init_31 : decode cX8_init 31 = .ok (.bipush 100, 2) := by decide +kernel
theorem dX8_init_33 : decode cX8_init 33 = .ok (.newarray .int, 2) := by decide +kernel
theorem dX8_init_35 : decode cX8_init 35 = .ok (.putfield 25, 3) := by decide +kernel
theorem dX8_init_38 : decode cX8_init 38 = .ok (.aload_n 0, 1) := by decide +kernel
theorem dX8_init_39 : decode cX8_init 39 = .ok (.new 28, 3) := by decide +kernel
theorem dX8_init_42 : decode cX8_init 42 = .ok (.dup, 1) := by decide +kernel
theorem dX8_init_43 : decode cX8_init 43 = .ok (.invokespecial 30, 3) := by decide +kernel
theorem dX8_init_46 : decode cX8_init 46 = .ok (.putfield 31, 3) := by decide +kernel
theorem dX8_init_49 : decode cX8_init 49 = .ok (.aload_n 0, 1) := by decide +kernel
theorem dX8_init_50 : decode cX8_init 50 = .ok (.new 35, 3) := by decide +kernel
theorem dX8_init_53 : decode cX8_init 53 = .ok (.dup, 1) := by decide +kernel
theorem dX8_init_54 : decode cX8_init 54 = .ok (.invokespecial 37, 3) := by decide +kernel
theorem dX8_init_57 : decode cX8_init 57 = .ok (.putfield 38, 3) := by decide +kernel
theorem dX8_init_60 : decode cX8_init 60 = .ok (.aload_n 0, 1) := by decide +kernel
theorem dX8_init_61 : decode cX8_init 61 = .ok (.new 42, 3) := by decide +kernel
theorem dX8_init_64 : decode cX8_init 64 = .ok (.dup, 1) := by decide +kernel
theorem dX8_init_65 : decode cX8_init 65 = .ok (.aload_n 0, 1) := by decide +kernel
theorem dX8_init_66 : decode cX8_init 66 = .ok (.getfield 38, 3) := by decide +kernel
theorem dX8_init_69 : decode cX8_init 69 = .ok (.invokespecial 44, 3) := by decide +kernel
theorem dX8_init_72 : decode cX8_init 72 = .ok (.putfield 47, 3) := by decide +kernel
theorem dX8_init_75 : decode cX8_init 75 = .ok (.aload_n 0, 1) := by decide +kernel
theorem dX8_init_76 : decode cX8_init 76 = .ok (.new 51, 3) := by decide +kernel
theorem dX8_init_79 : decode cX8_init 79 = .ok (.dup, 1) := by decide +kernel
theorem dX8_init_80 : decode cX8_init 80 = .ok (.aload_n 0, 1) := by decide +kernel
theorem dX8_init_81 : decode cX8_init 81 = .ok (.getfield 47, 3) := by decide +kernel
theorem dX8_init_84 : decode cX8_init 84 = .ok (.invokespecial 53, 3) := by decide +kernel
theorem dX8_init_87 : decode cX8_init 87 = .ok (.putfield 56, 3) := by decide +kernel
theorem dX8_init_90 : decode cX8_init 90 = .ok (.aload_n 0, 1) := by decide +kernel
theorem dX8_init_91 : decode cX8_init 91 = .ok (.new 60, 3) := by decide +kernel
theorem dX8_init_94 : decode cX8_init 94 = .ok (.dup, 1) := by decide +kernel
theorem dX8_init_95 : decode cX8_init 95 = .ok (.aload_n 0, 1) := by decide +kernel
theorem dX8_init_96 : decode cX8_init 96 = .ok (.getfield 47, 3) := by decide +kernel
theorem dX8_init_99 : decode cX8_init 99 = .ok (.invokespecial 62, 3) := by decide +kernel
theorem dX8_init_102 : decode cX8_init 102 = .ok (.putfield 63, 3) := by decide +kernel
theorem dX8_init_105 : decode cX8_init 105 = .ok (.aload_n 0, 1) := by decide +kernel
theorem dX8_init_106 : decode cX8_init 106 = .ok (.iconst 0, 1) := by decide +kernel
theorem dX8_init_107 : decode cX8_init 107 = .ok (.putfield 67, 3) := by decide +kernel
theorem dX8_init_110 : decode cX8_init 110 = .ok (.aload_n 0, 1) := by decide +kernel
theorem dX8_init_111 : decode cX8_init 111 = .ok (.iconst 0, 1) := by decide +kernel
theorem dX8_init_112 : decode cX8_init 112 = .ok (.putfield 71, 3) := by decide +kernel
theorem dX8_init_115 : decode cX8_init 115 = .ok (.return_, 1) := by decide +kernel
theorem dX8_puzzle_0 : decode cX8_puzzle 0 = .ok (.aload_n 0, 1) := by decide +kernel
theorem dX8_puzzle_1 : decode cX8_puzzle 1 = .ok (.iload_n 1, 1) := by decide +kernel
theorem dX8_puzzle_2 : decode cX8_puzzle 2 = .ok (.iload_n 2, 1) := by decide +kernel
theorem dX8_puzzle_3 : decode cX8_puzzle 3 = .ok (.iload_n 3, 1) := by decide +kernel
theorem dX8_puzzle_4 : decode cX8_puzzle 4 = .ok (.invokevirtual 74, 3) := by decide +kernel
theorem dX8_puzzle_7 : decode cX8_puzzle 7 = .ok (.ifCond .ne 5, 3) := by decide +kernel
theorem dX8_puzzle_10 : decode cX8_puzzle 10 = .ok (.iconst (-1), 1) := by decide +kernel
theorem dX8_puzzle_11 : decode cX8_puzzle 11 = .ok (.ireturn, 1) := by decide +kernel
theorem dX8_puzzle_12 : decode cX8_puzzle 12 = .ok (.aload_n 0, 1) := by decide +kernel
theorem dX8_puzzle_13 : decode cX8_puzzle 13 = .ok (.new 9, 3) := by decide +kernel
theorem dX8_puzzle_16 : decode cX8_puzzle 16 = .ok (.dup, 1) := by decide +kernel
theorem dX8_puzzle_17 : decode cX8_puzzle 17 = .ok (.iload_n 1, 1) := by decide +kernel
theorem dX8_puzzle_18 : decode cX8_puzzle 18 = .ok (.iload_n 2, 1) := by decide +kernel
theorem dX8_puzzle_19 : decode cX8_puzzle 19 = .ok (.iload_n 3, 1) := by decide +kernel
theorem dX8_puzzle_20 : decode cX8_puzzle 20 = .ok (.invokespecial 78, 3) := by decide +kernel
theorem dX8_puzzle_23 : decode cX8_puzzle 23 = .ok (.invokevirtual 81, 3) := by decide +kernel
theorem dX8_puzzle_26 : decode cX8_puzzle 26 = .ok (.ireturn, 1) := by decide +kernel
theorem dX8_run_0 : decode cX8_run 0 = .ok (.aload_n 0, 1) := by decide +kernel
theorem dX8_run_1 : decode cX8_run 1 = .ok (.iload_n 1, 1) := by decide +kernel
theorem dX8_run_2 : decode cX8_run 2 = .ok (.invokevirtual 85, 3) := by decide +kernel
theorem dX8_run_5 : decode cX8_run 5 = .ok (.astore 5, 2) := by decide +kernel
theorem dX8_run_7 : decode cX8_run 7 = .ok (.aload 5, 2) := by decide +kernel
theorem dX8_run_9 : decode cX8_run 9 = .ok (.iload_n 2, 1) := by decide +kernel
theorem dX8_run_10 : decode cX8_run 10 = .ok (.invokestatic 89, 3) := by decide +kernel
theorem dX8_run_13 : decode cX8_run 13 = .ok (.astore 6, 2) := by decide +kernel
theorem dX8_run_15 : decode cX8_run 15 = .ok (.aload 5, 2) := by decide +kernel
theorem dX8_run_17 : decode cX8_run 17 = .ok (.ifnull 16, 3) := by decide +kernel
theorem dX8_run_20 : decode cX8_run 20 = .ok (.aload 6, 2) := by decide +kernel
theorem dX8_run_22 : decode cX8_run 22 = .ok (.ifnull 11, 3) := by decide +kernel
theorem dX8_run_25 : decode cX8_run 25 = .ok (.aload 5, 2) := by decide +kernel
theorem dX8_run_27 : decode cX8_run 27 = .ok (.getfield 93, 3) := by decide +kernel
theorem dX8_run_30 : decode cX8_run 30 = .ok (.ifCond .eq 5, 3) := by decide +kernel
theorem dX8_run_33 : decode cX8_run 33 = .ok (.iconst (-1), 1) := by decide +kernel
theorem dX8_run_34 : decode cX8_run 34 = .ok (.ireturn, 1) := by decide +kernel
theorem dX8_run_35 : decode cX8_run 35 = .ok (.iload_n 3, 1) := by decide +kernel
theorem dX8_run_36 : decode cX8_run 36 = .ok (.iconst 1, 1) := by decide +kernel
theorem dX8_run_37 : decode cX8_run 37 = .ok (.if_icmp .lt 23, 3) := by decide +kernel
theorem dX8_run_40 : decode cX8_run 40 = .ok (.iload_n 3, 1) := by decide +kernel
theorem dX8_run_41 : decode cX8_run 41 = .ok (.aload 5, 2) := by decide +kernel
theorem dX8_run_43 : decode cX8_run 43 = .ok (.getfield 97, 3) := by decide +kernel
theorem dX8_run_46 : decode cX8_run 46 = .ok (.if_icmp .gt 14, 3) := by decide +kernel
theorem dX8_run_49 : decode cX8_run 49 = .ok (.aload 6, 2) := by decide +kernel
theorem dX8_run_51 : decode cX8_run 51 = .ok (.iload_n 3, 1) := by decide +kernel
theorem dX8_run_52 : decode cX8_run 52 = .ok (.iload 4, 2) := by decide +kernel
theorem dX8_run_54 : decode cX8_run 54 = .ok (.invokevirtual 100, 3) := by decide +kernel
theorem dX8_run_57 : decode cX8_run 57 = .ok (.ifCond .ne 5, 3) := by decide +kernel
theorem dX8_run_60 : decode cX8_run 60 = .ok (.iconst (-1), 1) := by decide +kernel
theorem dX8_run_61 : decode cX8_run 61 = .ok (.ireturn, 1) := by decide +kernel
theorem dX8_run_62 : decode cX8_run 62 = .ok (.aload 5, 2) := by decide +kernel
theorem dX8_run_64 : decode cX8_run 64 = .ok (.invokevirtual 106, 3) := by decide +kernel
theorem dX8_run_67 : decode cX8_run 67 = .ok (.aload 6, 2) := by decide +kernel
theorem dX8_run_69 : decode cX8_run 69 = .ok (.getfield 109, 3) := by decide +kernel
theorem dX8_run_72 : decode cX8_run 72 = .ok (.ireturn, 1) := by decide +kernel
theorem dX8_told_0 : decode cX8_told 0 = .ok (.aload_n 0, 1) := by decide +kernel
theorem dX8_told_1 : decode cX8_told 1 = .ok (.iload_n 1, 1) := by decide +kernel
theorem dX8_told_2 : decode cX8_told 2 = .ok (.invokevirtual 85, 3) := by decide +kernel
theorem dX8_told_5 : decode cX8_told 5 = .ok (.astore_n 3, 1) := by decide +kernel
theorem dX8_told_6 : decode cX8_told 6 = .ok (.aload_n 3, 1) := by decide +kernel
theorem dX8_told_7 : decode cX8_told 7 = .ok (.ifnonnull 5, 3) := by decide +kernel
theorem dX8_told_10 : decode cX8_told 10 = .ok (.iconst (-1), 1) := by decide +kernel
theorem dX8_told_11 : decode cX8_told 11 = .ok (.ireturn, 1) := by decide +kernel
theorem dX8_told_12 : decode cX8_told 12 = .ok (.iload_n 2, 1) := by decide +kernel
theorem dX8_told_13 : decode cX8_told 13 = .ok (.tableswitch 64 0 4 #[35, 40, 45, 50, 55], 35) := by decide +kernel
theorem dX8_told_48 : decode cX8_told 48 = .ok (.aload_n 3, 1) := by decide +kernel
theorem dX8_told_49 : decode cX8_told 49 = .ok (.getfield 112, 3) := by decide +kernel
theorem dX8_told_52 : decode cX8_told 52 = .ok (.ireturn, 1) := by decide +kernel
theorem dX8_told_53 : decode cX8_told 53 = .ok (.aload_n 3, 1) := by decide +kernel
theorem dX8_told_54 : decode cX8_told 54 = .ok (.getfield 115, 3) := by decide +kernel
theorem dX8_told_57 : decode cX8_told 57 = .ok (.ireturn, 1) := by decide +kernel
theorem dX8_told_58 : decode cX8_told 58 = .ok (.aload_n 3, 1) := by decide +kernel
theorem dX8_told_59 : decode cX8_told 59 = .ok (.getfield 97, 3) := by decide +kernel
theorem dX8_told_62 : decode cX8_told 62 = .ok (.ireturn, 1) := by decide +kernel
theorem dX8_told_63 : decode cX8_told 63 = .ok (.aload_n 3, 1) := by decide +kernel
theorem dX8_told_64 : decode cX8_told 64 = .ok (.invokevirtual 118, 3) := by decide +kernel
theorem dX8_told_67 : decode cX8_told 67 = .ok (.ireturn, 1) := by decide +kernel
theorem dX8_told_68 : decode cX8_told 68 = .ok (.aload_n 3, 1) := by decide +kernel
theorem dX8_told_69 : decode cX8_told 69 = .ok (.aload_n 3, 1) := by decide +kernel
theorem dX8_told_70 : decode cX8_told 70 = .ok (.getfield 122, 3) := by decide +kernel
theorem dX8_told_73 : decode cX8_told 73 = .ok (.invokevirtual 125, 3) := by decide +kernel
theorem dX8_told_76 : decode cX8_told 76 = .ok (.ireturn, 1) := by decide +kernel
theorem dX8_told_77 : decode cX8_told 77 = .ok (.iconst (-1), 1) := by decide +kernel
theorem dX8_told_78 : decode cX8_told 78 = .ok (.ireturn, 1) := by decide +kernel
theorem dX8_clue_0 : decode cX8_clue 0 = .ok (.aload_n 0, 1) := by decide +kernel
theorem dX8_clue_1 : decode cX8_clue 1 = .ok (.iload_n 1, 1) := by decide +kernel
theorem dX8_clue_2 : decode cX8_clue 2 = .ok (.invokevirtual 85, 3) := by decide +kernel
theorem dX8_clue_5 : decode cX8_clue 5 = .ok (.iload_n 2, 1) := by decide +kernel
theorem dX8_clue_6 : decode cX8_clue 6 = .ok (.invokestatic 89, 3) := by decide +kernel
theorem dX8_clue_9 : decode cX8_clue 9 = .ok (.astore 5, 2) := by decide +kernel
theorem dX8_clue_11 : decode cX8_clue 11 = .ok (.aload 5, 2) := by decide +kernel
theorem dX8_clue_13 : decode cX8_clue 13 = .ok (.ifnull 16, 3) := by decide +kernel
theorem dX8_clue_16 : decode cX8_clue 16 = .ok (.iload_n 3, 1) := by decide +kernel
theorem dX8_clue_17 : decode cX8_clue 17 = .ok (.ifCond .lt 12, 3) := by decide +kernel
theorem dX8_clue_20 : decode cX8_clue 20 = .ok (.iload_n 3, 1) := by decide +kernel
theorem dX8_clue_21 : decode cX8_clue 21 = .ok (.aload 5, 2) := by decide +kernel
theorem dX8_clue_23 : decode cX8_clue 23 = .ok (.getfield 109, 3) := by decide +kernel
theorem dX8_clue_26 : decode cX8_clue 26 = .ok (.if_icmp .lt 5, 3) := by decide +kernel
theorem dX8_clue_29 : decode cX8_clue 29 = .ok (.iconst (-1), 1) := by decide +kernel
theorem dX8_clue_30 : decode cX8_clue 30 = .ok (.ireturn, 1) := by decide +kernel
theorem dX8_clue_31 : decode cX8_clue 31 = .ok (.iload 4, 2) := by decide +kernel
theorem dX8_clue_33 : decode cX8_clue 33 = .ok (.ifCond .ne 11, 3) := by decide +kernel
theorem dX8_clue_36 : decode cX8_clue 36 = .ok (.aload 5, 2) := by decide +kernel
theorem dX8_clue_38 : decode cX8_clue 38 = .ok (.getfield 129, 3) := by decide +kernel
theorem dX8_clue_41 : decode cX8_clue 41 = .ok (.iload_n 3, 1) := by decide +kernel
theorem dX8_clue_42 : decode cX8_clue 42 = .ok (.iaload, 1) := by decide +kernel
theorem dX8_clue_43 : decode cX8_clue 43 = .ok (.ireturn, 1) := by decide +kernel
theorem dX8_clue_44 : decode cX8_clue 44 = .ok (.iload 4, 2) := by decide +kernel
theorem dX8_clue_46 : decode cX8_clue 46 = .ok (.iconst 1, 1) := by decide +kernel
theorem dX8_clue_47 : decode cX8_clue 47 = .ok (.if_icmp .ne 13, 3) := by decide +kernel
theorem dX8_clue_50 : decode cX8_clue 50 = .ok (.aload 5, 2) := by decide +kernel
theorem dX8_clue_52 : decode cX8_clue 52 = .ok (.getfield 131, 3) := by decide +kernel
theorem dX8_clue_55 : decode cX8_clue 55 = .ok (.iload_n 3, 1) := by decide +kernel
theorem dX8_clue_56 : decode cX8_clue 56 = .ok (.iaload, 1) := by decide +kernel
theorem dX8_clue_57 : decode cX8_clue 57 = .ok (.goto 4, 3) := by decide +kernel
theorem dX8_clue_60 : decode cX8_clue 60 = .ok (.iconst (-1), 1) := by decide +kernel
theorem dX8_clue_61 : decode cX8_clue 61 = .ok (.ireturn, 1) := by decide +kernel
theorem dX8_fresh_0 : decode cX8_fresh 0 = .ok (.aload_n 0, 1) := by decide +kernel
theorem dX8_fresh_1 : decode cX8_fresh 1 = .ok (.iload_n 1, 1) := by decide +kernel
theorem dX8_fresh_2 : decode cX8_fresh 2 = .ok (.invokevirtual 85, 3) := by decide +kernel
theorem dX8_fresh_5 : decode cX8_fresh 5 = .ok (.astore_n 2, 1) := by decide +kernel
theorem dX8_fresh_6 : decode cX8_fresh 6 = .ok (.aload_n 2, 1) := by decide +kernel
theorem dX8_fresh_7 : decode cX8_fresh 7 = .ok (.ifnonnull 5, 3) := by decide +kernel
theorem dX8_fresh_10 : decode cX8_fresh 10 = .ok (.iconst 0, 1) := by decide +kernel
theorem dX8_fresh_11 : decode cX8_fresh 11 = .ok (.ireturn, 1) := by decide +kernel
theorem dX8_fresh_12 : decode cX8_fresh 12 = .ok (.aload_n 2, 1) := by decide +kernel
theorem dX8_fresh_13 : decode cX8_fresh 13 = .ok (.invokevirtual 106, 3) := by decide +kernel
theorem dX8_fresh_16 : decode cX8_fresh 16 = .ok (.iconst 1, 1) := by decide +kernel
theorem dX8_fresh_17 : decode cX8_fresh 17 = .ok (.ireturn, 1) := by decide +kernel
theorem dX8_choose_0 : decode cX8_choose 0 = .ok (.aload_n 0, 1) := by decide +kernel
theorem dX8_choose_1 : decode cX8_choose 1 = .ok (.iload_n 1, 1) := by decide +kernel
theorem dX8_choose_2 : decode cX8_choose 2 = .ok (.invokevirtual 85, 3) := by decide +kernel
theorem dX8_choose_5 : decode cX8_choose 5 = .ok (.astore 4, 2) := by decide +kernel
theorem dX8_choose_7 : decode cX8_choose 7 = .ok (.aload 4, 2) := by decide +kernel
theorem dX8_choose_9 : decode cX8_choose 9 = .ok (.ifnull 13, 3) := by decide +kernel
theorem dX8_choose_12 : decode cX8_choose 12 = .ok (.aload 4, 2) := by decide +kernel
theorem dX8_choose_14 : decode cX8_choose 14 = .ok (.iload_n 2, 1) := by decide +kernel
theorem dX8_choose_15 : decode cX8_choose 15 = .ok (.iload_n 3, 1) := by decide +kernel
theorem dX8_choose_16 : decode cX8_choose 16 = .ok (.invokevirtual 134, 3) := by decide +kernel
theorem dX8_choose_19 : decode cX8_choose 19 = .ok (.ifCond .ne 5, 3) := by decide +kernel
theorem dX8_choose_22 : decode cX8_choose 22 = .ok (.iconst 0, 1) := by decide +kernel
theorem dX8_choose_23 : decode cX8_choose 23 = .ok (.ireturn, 1) := by decide +kernel
theorem dX8_choose_24 : decode cX8_choose 24 = .ok (.aload 4, 2) := by decide +kernel
theorem dX8_choose_26 : decode cX8_choose 26 = .ok (.getfield 122, 3) := by decide +kernel
theorem dX8_choose_29 : decode cX8_choose 29 = .ok (.iload_n 2, 1) := by decide +kernel
theorem dX8_choose_30 : decode cX8_choose 30 = .ok (.iconst 1, 1) := by decide +kernel
theorem dX8_choose_31 : decode cX8_choose 31 = .ok (.iload_n 3, 1) := by decide +kernel
theorem dX8_choose_32 : decode cX8_choose 32 = .ok (.ishl, 1) := by decide +kernel
theorem dX8_choose_33 : decode cX8_choose 33 = .ok (.iastore, 1) := by decide +kernel
theorem dX8_choose_34 : decode cX8_choose 34 = .ok (.iconst 1, 1) := by decide +kernel
theorem dX8_choose_35 : decode cX8_choose 35 = .ok (.ireturn, 1) := by decide +kernel
theorem dX8_bar_0 : decode cX8_bar 0 = .ok (.aload_n 0, 1) := by decide +kernel
theorem dX8_bar_1 : decode cX8_bar 1 = .ok (.iload_n 1, 1) := by decide +kernel
theorem dX8_bar_2 : decode cX8_bar 2 = .ok (.invokevirtual 85, 3) := by decide +kernel
theorem dX8_bar_5 : decode cX8_bar 5 = .ok (.astore 4, 2) := by decide +kernel
theorem dX8_bar_7 : decode cX8_bar 7 = .ok (.aload 4, 2) := by decide +kernel
theorem dX8_bar_9 : decode cX8_bar 9 = .ok (.ifnull 26, 3) := by decide +kernel
theorem dX8_bar_12 : decode cX8_bar 12 = .ok (.aload 4, 2) := by decide +kernel
theorem dX8_bar_14 : decode cX8_bar 14 = .ok (.iload_n 2, 1) := by decide +kernel
theorem dX8_bar_15 : decode cX8_bar 15 = .ok (.iload_n 3, 1) := by decide +kernel
theorem dX8_bar_16 : decode cX8_bar 16 = .ok (.invokevirtual 134, 3) := by decide +kernel
theorem dX8_bar_19 : decode cX8_bar 19 = .ok (.ifCond .eq 16, 3) := by decide +kernel
theorem dX8_bar_22 : decode cX8_bar 22 = .ok (.aload 4, 2) := by decide +kernel
theorem dX8_bar_24 : decode cX8_bar 24 = .ok (.getfield 122, 3) := by decide +kernel
theorem dX8_bar_27 : decode cX8_bar 27 = .ok (.iload_n 2, 1) := by decide +kernel
theorem dX8_bar_28 : decode cX8_bar 28 = .ok (.iaload, 1) := by decide +kernel
theorem dX8_bar_29 : decode cX8_bar 29 = .ok (.invokestatic 137, 3) := by decide +kernel
theorem dX8_bar_32 : decode cX8_bar 32 = .ok (.ifCond .eq 5, 3) := by decide +kernel
theorem dX8_bar_35 : decode cX8_bar 35 = .ok (.iconst 0, 1) := by decide +kernel
theorem dX8_bar_36 : decode cX8_bar 36 = .ok (.ireturn, 1) := by decide +kernel
theorem dX8_bar_37 : decode cX8_bar 37 = .ok (.aload 4, 2) := by decide +kernel
theorem dX8_bar_39 : decode cX8_bar 39 = .ok (.getfield 122, 3) := by decide +kernel
theorem dX8_bar_42 : decode cX8_bar 42 = .ok (.iload_n 2, 1) := by decide +kernel
theorem dX8_bar_43 : decode cX8_bar 43 = .ok (.dup2, 1) := by decide +kernel
theorem dX8_bar_44 : decode cX8_bar 44 = .ok (.iaload, 1) := by decide +kernel
theorem dX8_bar_45 : decode cX8_bar 45 = .ok (.iconst 1, 1) := by decide +kernel
theorem dX8_bar_46 : decode cX8_bar 46 = .ok (.iload_n 3, 1) := by decide +kernel
theorem dX8_bar_47 : decode cX8_bar 47 = .ok (.ishl, 1) := by decide +kernel
theorem dX8_bar_48 : decode cX8_bar 48 = .ok (.iconst (-1), 1) := by decide +kernel
theorem dX8_bar_49 : decode cX8_bar 49 = .ok (.ixor, 1) := by decide +kernel
theorem dX8_bar_50 : decode cX8_bar 50 = .ok (.iand, 1) := by decide +kernel
theorem dX8_bar_51 : decode cX8_bar 51 = .ok (.iastore, 1) := by decide +kernel
theorem dX8_bar_52 : decode cX8_bar 52 = .ok (.iconst 1, 1) := by decide +kernel
theorem dX8_bar_53 : decode cX8_bar 53 = .ok (.ireturn, 1) := by decide +kernel
theorem dX8_set_0 : decode cX8_set 0 = .ok (.aload_n 0, 1) := by decide +kernel
theorem dX8_set_1 : decode cX8_set 1 = .ok (.iload_n 1, 1) := by decide +kernel
theorem dX8_set_2 : decode cX8_set 2 = .ok (.invokevirtual 85, 3) := by decide +kernel
theorem dX8_set_5 : decode cX8_set 5 = .ok (.astore_n 3, 1) := by decide +kernel
theorem dX8_set_6 : decode cX8_set 6 = .ok (.aload_n 3, 1) := by decide +kernel
theorem dX8_set_7 : decode cX8_set 7 = .ok (.ifnull 11, 3) := by decide +kernel
theorem dX8_set_10 : decode cX8_set 10 = .ok (.aload_n 3, 1) := by decide +kernel
theorem dX8_set_11 : decode cX8_set 11 = .ok (.iload_n 2, 1) := by decide +kernel
theorem dX8_set_12 : decode cX8_set 12 = .ok (.invokevirtual 141, 3) := by decide +kernel
theorem dX8_set_15 : decode cX8_set 15 = .ok (.ifCond .ne 7, 3) := by decide +kernel
theorem dX8_set_18 : decode cX8_set 18 = .ok (.iconst 0, 1) := by decide +kernel
theorem dX8_set_19 : decode cX8_set 19 = .ok (.goto 9, 3) := by decide +kernel
theorem dX8_set_22 : decode cX8_set 22 = .ok (.aload_n 3, 1) := by decide +kernel
theorem dX8_set_23 : decode cX8_set 23 = .ok (.getfield 122, 3) := by decide +kernel
theorem dX8_set_26 : decode cX8_set 26 = .ok (.iload_n 2, 1) := by decide +kernel
theorem dX8_set_27 : decode cX8_set 27 = .ok (.iaload, 1) := by decide +kernel
theorem dX8_set_28 : decode cX8_set 28 = .ok (.ireturn, 1) := by decide +kernel
theorem dX8_step_0 : decode cX8_step 0 = .ok (.aload_n 0, 1) := by decide +kernel
theorem dX8_step_1 : decode cX8_step 1 = .ok (.iload_n 1, 1) := by decide +kernel
theorem dX8_step_2 : decode cX8_step 2 = .ok (.invokevirtual 85, 3) := by decide +kernel
theorem dX8_step_5 : decode cX8_step 5 = .ok (.astore_n 3, 1) := by decide +kernel
theorem dX8_step_6 : decode cX8_step 6 = .ok (.aload_n 3, 1) := by decide +kernel
theorem dX8_step_7 : decode cX8_step 7 = .ok (.iload_n 2, 1) := by decide +kernel
theorem dX8_step_8 : decode cX8_step 8 = .ok (.invokestatic 89, 3) := by decide +kernel
theorem dX8_step_11 : decode cX8_step 11 = .ok (.astore 4, 2) := by decide +kernel
theorem dX8_step_13 : decode cX8_step 13 = .ok (.aload_n 3, 1) := by decide +kernel
theorem dX8_step_14 : decode cX8_step 14 = .ok (.ifnull 8, 3) := by decide +kernel
theorem dX8_step_17 : decode cX8_step 17 = .ok (.aload 4, 2) := by decide +kernel
theorem dX8_step_19 : decode cX8_step 19 = .ok (.ifnonnull 7, 3) := by decide +kernel
theorem dX8_step_22 : decode cX8_step 22 = .ok (.iconst (-1), 1) := by decide +kernel
theorem dX8_step_23 : decode cX8_step 23 = .ok (.goto 16, 3) := by decide +kernel
theorem dX8_step_26 : decode cX8_step 26 = .ok (.aload_n 0, 1) := by decide +kernel
theorem dX8_step_27 : decode cX8_step 27 = .ok (.getfield 47, 3) := by decide +kernel
theorem dX8_step_30 : decode cX8_step 30 = .ok (.aload 4, 2) := by decide +kernel
theorem dX8_step_32 : decode cX8_step 32 = .ok (.aload_n 3, 1) := by decide +kernel
theorem dX8_step_33 : decode cX8_step 33 = .ok (.getfield 122, 3) := by decide +kernel
theorem dX8_step_36 : decode cX8_step 36 = .ok (.invokevirtual 144, 3) := by decide +kernel
theorem dX8_step_39 : decode cX8_step 39 = .ok (.ireturn, 1) := by decide +kernel
theorem dX8_ways_0 : decode cX8_ways 0 = .ok (.aload_n 0, 1) := by decide +kernel
theorem dX8_ways_1 : decode cX8_ways 1 = .ok (.iload_n 1, 1) := by decide +kernel
theorem dX8_ways_2 : decode cX8_ways 2 = .ok (.invokevirtual 85, 3) := by decide +kernel
theorem dX8_ways_5 : decode cX8_ways 5 = .ok (.astore_n 3, 1) := by decide +kernel
theorem dX8_ways_6 : decode cX8_ways 6 = .ok (.aload_n 3, 1) := by decide +kernel
theorem dX8_ways_7 : decode cX8_ways 7 = .ok (.iload_n 2, 1) := by decide +kernel
theorem dX8_ways_8 : decode cX8_ways 8 = .ok (.invokestatic 89, 3) := by decide +kernel
theorem dX8_ways_11 : decode cX8_ways 11 = .ok (.astore 4, 2) := by decide +kernel
theorem dX8_ways_13 : decode cX8_ways 13 = .ok (.aload_n 3, 1) := by decide +kernel
theorem dX8_ways_14 : decode cX8_ways 14 = .ok (.ifnull 8, 3) := by decide +kernel
theorem dX8_ways_17 : decode cX8_ways 17 = .ok (.aload 4, 2) := by decide +kernel
theorem dX8_ways_19 : decode cX8_ways 19 = .ok (.ifnonnull 7, 3) := by decide +kernel
theorem dX8_ways_22 : decode cX8_ways 22 = .ok (.iconst (-1), 1) := by decide +kernel
theorem dX8_ways_23 : decode cX8_ways 23 = .ok (.goto 16, 3) := by decide +kernel
theorem dX8_ways_26 : decode cX8_ways 26 = .ok (.aload_n 0, 1) := by decide +kernel
theorem dX8_ways_27 : decode cX8_ways 27 = .ok (.getfield 38, 3) := by decide +kernel
theorem dX8_ways_30 : decode cX8_ways 30 = .ok (.aload 4, 2) := by decide +kernel
theorem dX8_ways_32 : decode cX8_ways 32 = .ok (.aload_n 3, 1) := by decide +kernel
theorem dX8_ways_33 : decode cX8_ways 33 = .ok (.getfield 122, 3) := by decide +kernel
theorem dX8_ways_36 : decode cX8_ways 36 = .ok (.invokevirtual 148, 3) := by decide +kernel
theorem dX8_ways_39 : decode cX8_ways 39 = .ok (.ireturn, 1) := by decide +kernel
theorem dX8_settle_0 : decode cX8_settle 0 = .ok (.aload_n 0, 1) := by decide +kernel
theorem dX8_settle_1 : decode cX8_settle 1 = .ok (.iload_n 1, 1) := by decide +kernel
theorem dX8_settle_2 : decode cX8_settle 2 = .ok (.invokevirtual 85, 3) := by decide +kernel
theorem dX8_settle_5 : decode cX8_settle 5 = .ok (.astore_n 2, 1) := by decide +kernel
theorem dX8_settle_6 : decode cX8_settle 6 = .ok (.aload_n 2, 1) := by decide +kernel
theorem dX8_settle_7 : decode cX8_settle 7 = .ok (.ifnonnull 5, 3) := by decide +kernel
theorem dX8_settle_10 : decode cX8_settle 10 = .ok (.iconst (-1), 1) := by decide +kernel
theorem dX8_settle_11 : decode cX8_settle 11 = .ok (.ireturn, 1) := by decide +kernel
theorem dX8_settle_12 : decode cX8_settle 12 = .ok (.aload_n 2, 1) := by decide +kernel
theorem dX8_settle_13 : decode cX8_settle 13 = .ok (.getfield 122, 3) := by decide +kernel
theorem dX8_settle_16 : decode cX8_settle 16 = .ok (.iconst 0, 1) := by decide +kernel
theorem dX8_settle_17 : decode cX8_settle 17 = .ok (.aload_n 0, 1) := by decide +kernel
theorem dX8_settle_18 : decode cX8_settle 18 = .ok (.getfield 25, 3) := by decide +kernel
theorem dX8_settle_21 : decode cX8_settle 21 = .ok (.iconst 0, 1) := by decide +kernel
theorem dX8_settle_22 : decode cX8_settle 22 = .ok (.aload_n 2, 1) := by decide +kernel
theorem dX8_settle_23 : decode cX8_settle 23 = .ok (.getfield 151, 3) := by decide +kernel
theorem dX8_settle_26 : decode cX8_settle 26 = .ok (.invokestatic 154, 3) := by decide +kernel
theorem dX8_settle_29 : decode cX8_settle 29 = .ok (.aload_n 0, 1) := by decide +kernel
theorem dX8_settle_30 : decode cX8_settle 30 = .ok (.getfield 47, 3) := by decide +kernel
theorem dX8_settle_33 : decode cX8_settle 33 = .ok (.aload_n 2, 1) := by decide +kernel
theorem dX8_settle_34 : decode cX8_settle 34 = .ok (.aload_n 0, 1) := by decide +kernel
theorem dX8_settle_35 : decode cX8_settle 35 = .ok (.getfield 25, 3) := by decide +kernel
theorem dX8_settle_38 : decode cX8_settle 38 = .ok (.aload_n 2, 1) := by decide +kernel
theorem dX8_settle_39 : decode cX8_settle 39 = .ok (.invokevirtual 160, 3) := by decide +kernel
theorem dX8_settle_42 : decode cX8_settle 42 = .ok (.invokevirtual 163, 3) := by decide +kernel
theorem dX8_settle_45 : decode cX8_settle 45 = .ok (.istore_n 3, 1) := by decide +kernel
theorem dX8_settle_46 : decode cX8_settle 46 = .ok (.iload_n 3, 1) := by decide +kernel
theorem dX8_settle_47 : decode cX8_settle 47 = .ok (.bipush (-2), 2) := by decide +kernel
theorem dX8_settle_49 : decode cX8_settle 49 = .ok (.if_icmp .eq 20, 3) := by decide +kernel
theorem dX8_settle_52 : decode cX8_settle 52 = .ok (.aload_n 0, 1) := by decide +kernel
theorem dX8_settle_53 : decode cX8_settle 53 = .ok (.getfield 25, 3) := by decide +kernel
theorem dX8_settle_56 : decode cX8_settle 56 = .ok (.iconst 0, 1) := by decide +kernel
theorem dX8_settle_57 : decode cX8_settle 57 = .ok (.aload_n 2, 1) := by decide +kernel
theorem dX8_settle_58 : decode cX8_settle 58 = .ok (.getfield 122, 3) := by decide +kernel
theorem dX8_settle_61 : decode cX8_settle 61 = .ok (.iconst 0, 1) := by decide +kernel
theorem dX8_settle_62 : decode cX8_settle 62 = .ok (.aload_n 2, 1) := by decide +kernel
theorem dX8_settle_63 : decode cX8_settle 63 = .ok (.getfield 151, 3) := by decide +kernel
theorem dX8_settle_66 : decode cX8_settle 66 = .ok (.invokestatic 154, 3) := by decide +kernel
theorem dX8_settle_69 : decode cX8_settle 69 = .ok (.iload_n 3, 1) := by decide +kernel
theorem dX8_settle_70 : decode cX8_settle 70 = .ok (.ireturn, 1) := by decide +kernel
theorem dX8_search_0 : decode cX8_search 0 = .ok (.aload_n 0, 1) := by decide +kernel
theorem dX8_search_1 : decode cX8_search 1 = .ok (.iload_n 1, 1) := by decide +kernel
theorem dX8_search_2 : decode cX8_search 2 = .ok (.invokevirtual 85, 3) := by decide +kernel
theorem dX8_search_5 : decode cX8_search 5 = .ok (.astore 4, 2) := by decide +kernel
theorem dX8_search_7 : decode cX8_search 7 = .ok (.aload 4, 2) := by decide +kernel
theorem dX8_search_9 : decode cX8_search 9 = .ok (.ifnull 24, 3) := by decide +kernel
theorem dX8_search_12 : decode cX8_search 12 = .ok (.iload_n 2, 1) := by decide +kernel
theorem dX8_search_13 : decode cX8_search 13 = .ok (.ifCond .lt 20, 3) := by decide +kernel
theorem dX8_search_16 : decode cX8_search 16 = .ok (.iload_n 2, 1) := by decide +kernel
theorem dX8_search_17 : decode cX8_search 17 = .ok (.sipush 200, 3) := by decide +kernel
theorem dX8_search_20 : decode cX8_search 20 = .ok (.if_icmp .gt 13, 3) := by decide +kernel
theorem dX8_search_23 : decode cX8_search 23 = .ok (.iload_n 3, 1) := by decide +kernel
theorem dX8_search_24 : decode cX8_search 24 = .ok (.iconst 1, 1) := by decide +kernel
theorem dX8_search_25 : decode cX8_search 25 = .ok (.if_icmp .lt 8, 3) := by decide +kernel
theorem dX8_search_28 : decode cX8_search 28 = .ok (.iload_n 3, 1) := by decide +kernel
theorem dX8_search_29 : decode cX8_search 29 = .ok (.iconst 5, 1) := by decide +kernel
theorem dX8_search_30 : decode cX8_search 30 = .ok (.if_icmp .le 5, 3) := by decide +kernel
theorem dX8_search_33 : decode cX8_search 33 = .ok (.iconst (-1), 1) := by decide +kernel
theorem dX8_search_34 : decode cX8_search 34 = .ok (.ireturn, 1) := by decide +kernel
theorem dX8_search_35 : decode cX8_search 35 = .ok (.aload_n 0, 1) := by decide +kernel
theorem dX8_search_36 : decode cX8_search 36 = .ok (.getfield 56, 3) := by decide +kernel
theorem dX8_search_39 : decode cX8_search 39 = .ok (.aload 4, 2) := by decide +kernel
theorem dX8_search_41 : decode cX8_search 41 = .ok (.iload_n 2, 1) := by decide +kernel
theorem dX8_search_42 : decode cX8_search 42 = .ok (.iload_n 3, 1) := by decide +kernel
theorem dX8_search_43 : decode cX8_search 43 = .ok (.invokevirtual 167, 3) := by decide +kernel
theorem dX8_search_46 : decode cX8_search 46 = .ok (.ireturn, 1) := by decide +kernel
theorem dX8_found_0 : decode cX8_found 0 = .ok (.iload_n 1, 1) := by decide +kernel
theorem dX8_found_1 : decode cX8_found 1 = .ok (.iconst (-1), 1) := by decide +kernel
theorem dX8_found_2 : decode cX8_found 2 = .ok (.if_icmp .ne 11, 3) := by decide +kernel
theorem dX8_found_5 : decode cX8_found 5 = .ok (.aload_n 0, 1) := by decide +kernel
theorem dX8_found_6 : decode cX8_found 6 = .ok (.getfield 56, 3) := by decide +kernel
theorem dX8_found_9 : decode cX8_found 9 = .ok (.getfield 171, 3) := by decide +kernel
theorem dX8_found_12 : decode cX8_found 12 = .ok (.ireturn, 1) := by decide +kernel
theorem dX8_found_13 : decode cX8_found 13 = .ok (.iload_n 1, 1) := by decide +kernel
theorem dX8_found_14 : decode cX8_found 14 = .ok (.bipush (-2), 2) := by decide +kernel
theorem dX8_found_16 : decode cX8_found 16 = .ok (.if_icmp .ne 13, 3) := by decide +kernel
theorem dX8_found_19 : decode cX8_found 19 = .ok (.aload_n 0, 1) := by decide +kernel
theorem dX8_found_20 : decode cX8_found 20 = .ok (.getfield 56, 3) := by decide +kernel
theorem dX8_found_23 : decode cX8_found 23 = .ok (.getfield 174, 3) := by decide +kernel
theorem dX8_found_26 : decode cX8_found 26 = .ok (.goto 4, 3) := by decide +kernel
theorem dX8_found_29 : decode cX8_found 29 = .ok (.iconst (-1), 1) := by decide +kernel
theorem dX8_found_30 : decode cX8_found 30 = .ok (.ireturn, 1) := by decide +kernel
theorem dX8_picture_0 : decode cX8_picture 0 = .ok (.iload_n 1, 1) := by decide +kernel
theorem dX8_picture_1 : decode cX8_picture 1 = .ok (.ifCond .lt 29, 3) := by decide +kernel
theorem dX8_picture_4 : decode cX8_picture 4 = .ok (.iload_n 1, 1) := by decide +kernel
theorem dX8_picture_5 : decode cX8_picture 5 = .ok (.aload_n 0, 1) := by decide +kernel
theorem dX8_picture_6 : decode cX8_picture 6 = .ok (.getfield 56, 3) := by decide +kernel
theorem dX8_picture_9 : decode cX8_picture 9 = .ok (.getfield 171, 3) := by decide +kernel
theorem dX8_picture_12 : decode cX8_picture 12 = .ok (.if_icmp .ge 18, 3) := by decide +kernel
theorem dX8_picture_15 : decode cX8_picture 15 = .ok (.iload_n 2, 1) := by decide +kernel
theorem dX8_picture_16 : decode cX8_picture 16 = .ok (.ifCond .lt 14, 3) := by decide +kernel
theorem dX8_picture_19 : decode cX8_picture 19 = .ok (.iload_n 2, 1) := by decide +kernel
theorem dX8_picture_20 : decode cX8_picture 20 = .ok (.aload_n 0, 1) := by decide +kernel
theorem dX8_picture_21 : decode cX8_picture 21 = .ok (.getfield 56, 3) := by decide +kernel
theorem dX8_picture_24 : decode cX8_picture 24 = .ok (.getfield 177, 3) := by decide +kernel
theorem dX8_picture_27 : decode cX8_picture 27 = .ok (.if_icmp .lt 5, 3) := by decide +kernel
theorem dX8_picture_30 : decode cX8_picture 30 = .ok (.iconst (-1), 1) := by decide +kernel
theorem dX8_picture_31 : decode cX8_picture 31 = .ok (.ireturn, 1) := by decide +kernel
theorem dX8_picture_32 : decode cX8_picture 32 = .ok (.aload_n 0, 1) := by decide +kernel
theorem dX8_picture_33 : decode cX8_picture 33 = .ok (.getfield 56, 3) := by decide +kernel
theorem dX8_picture_36 : decode cX8_picture 36 = .ok (.getfield 178, 3) := by decide +kernel
theorem dX8_picture_39 : decode cX8_picture 39 = .ok (.iload_n 1, 1) := by decide +kernel
theorem dX8_picture_40 : decode cX8_picture 40 = .ok (.bipush 100, 2) := by decide +kernel
theorem dX8_picture_42 : decode cX8_picture 42 = .ok (.imul, 1) := by decide +kernel
theorem dX8_picture_43 : decode cX8_picture 43 = .ok (.iload_n 2, 1) := by decide +kernel
theorem dX8_picture_44 : decode cX8_picture 44 = .ok (.iadd, 1) := by decide +kernel
theorem dX8_picture_45 : decode cX8_picture 45 = .ok (.iaload, 1) := by decide +kernel
theorem dX8_picture_46 : decode cX8_picture 46 = .ok (.ireturn, 1) := by decide +kernel
theorem dX8_grade_0 : decode cX8_grade 0 = .ok (.aload_n 0, 1) := by decide +kernel
theorem dX8_grade_1 : decode cX8_grade 1 = .ok (.iload_n 1, 1) := by decide +kernel
theorem dX8_grade_2 : decode cX8_grade 2 = .ok (.invokevirtual 85, 3) := by decide +kernel
theorem dX8_grade_5 : decode cX8_grade 5 = .ok (.astore_n 2, 1) := by decide +kernel
theorem dX8_grade_6 : decode cX8_grade 6 = .ok (.aload_n 2, 1) := by decide +kernel
theorem dX8_grade_7 : decode cX8_grade 7 = .ok (.ifnonnull 7, 3) := by decide +kernel
theorem dX8_grade_10 : decode cX8_grade 10 = .ok (.iconst (-1), 1) := by decide +kernel
theorem dX8_grade_11 : decode cX8_grade 11 = .ok (.goto 11, 3) := by decide +kernel
theorem dX8_grade_14 : decode cX8_grade 14 = .ok (.aload_n 0, 1) := by decide +kernel
theorem dX8_grade_15 : decode cX8_grade 15 = .ok (.getfield 63, 3) := by decide +kernel
theorem dX8_grade_18 : decode cX8_grade 18 = .ok (.aload_n 2, 1) := by decide +kernel
theorem dX8_grade_19 : decode cX8_grade 19 = .ok (.invokevirtual 181, 3) := by decide +kernel
theorem dX8_grade_22 : decode cX8_grade 22 = .ok (.ireturn, 1) := by decide +kernel
theorem dX8_probes_0 : decode cX8_probes 0 = .ok (.aload_n 0, 1) := by decide +kernel
theorem dX8_probes_1 : decode cX8_probes 1 = .ok (.getfield 63, 3) := by decide +kernel
theorem dX8_probes_4 : decode cX8_probes 4 = .ok (.getfield 184, 3) := by decide +kernel
theorem dX8_probes_7 : decode cX8_probes 7 = .ok (.ireturn, 1) := by decide +kernel
theorem dX8_paint_0 : decode cX8_paint 0 = .ok (.iload_n 1, 1) := by decide +kernel
theorem dX8_paint_1 : decode cX8_paint 1 = .ok (.ifCond .lt 28, 3) := by decide +kernel
theorem dX8_paint_4 : decode cX8_paint 4 = .ok (.iload_n 1, 1) := by decide +kernel
theorem dX8_paint_5 : decode cX8_paint 5 = .ok (.bipush 10, 2) := by decide +kernel
theorem dX8_paint_7 : decode cX8_paint 7 = .ok (.if_icmp .ge 22, 3) := by decide +kernel
theorem dX8_paint_10 : decode cX8_paint 10 = .ok (.iload_n 2, 1) := by decide +kernel
theorem dX8_paint_11 : decode cX8_paint 11 = .ok (.ifCond .lt 18, 3) := by decide +kernel
theorem dX8_paint_14 : decode cX8_paint 14 = .ok (.iload_n 2, 1) := by decide +kernel
theorem dX8_paint_15 : decode cX8_paint 15 = .ok (.bipush 10, 2) := by decide +kernel
theorem dX8_paint_17 : decode cX8_paint 17 = .ok (.if_icmp .ge 12, 3) := by decide +kernel
theorem dX8_paint_20 : decode cX8_paint 20 = .ok (.iload_n 3, 1) := by decide +kernel
theorem dX8_paint_21 : decode cX8_paint 21 = .ok (.ifCond .lt 8, 3) := by decide +kernel
theorem dX8_paint_24 : decode cX8_paint 24 = .ok (.iload_n 3, 1) := by decide +kernel
theorem dX8_paint_25 : decode cX8_paint 25 = .ok (.iconst 3, 1) := by decide +kernel
theorem dX8_paint_26 : decode cX8_paint 26 = .ok (.if_icmp .le 5, 3) := by decide +kernel
theorem dX8_paint_29 : decode cX8_paint 29 = .ok (.iconst 0, 1) := by decide +kernel
theorem dX8_paint_30 : decode cX8_paint 30 = .ok (.ireturn, 1) := by decide +kernel
theorem dX8_paint_31 : decode cX8_paint 31 = .ok (.aload_n 0, 1) := by decide +kernel
theorem dX8_paint_32 : decode cX8_paint 32 = .ok (.getfield 21, 3) := by decide +kernel
theorem dX8_paint_35 : decode cX8_paint 35 = .ok (.iload_n 2, 1) := by decide +kernel
theorem dX8_paint_36 : decode cX8_paint 36 = .ok (.bipush 10, 2) := by decide +kernel
theorem dX8_paint_38 : decode cX8_paint 38 = .ok (.imul, 1) := by decide +kernel
theorem dX8_paint_39 : decode cX8_paint 39 = .ok (.iload_n 1, 1) := by decide +kernel
theorem dX8_paint_40 : decode cX8_paint 40 = .ok (.iadd, 1) := by decide +kernel
theorem dX8_paint_41 : decode cX8_paint 41 = .ok (.iload_n 3, 1) := by decide +kernel
theorem dX8_paint_42 : decode cX8_paint 42 = .ok (.iastore, 1) := by decide +kernel
theorem dX8_paint_43 : decode cX8_paint 43 = .ok (.iconst 1, 1) := by decide +kernel
theorem dX8_paint_44 : decode cX8_paint 44 = .ok (.ireturn, 1) := by decide +kernel
theorem dX8_make_0 : decode cX8_make 0 = .ok (.aload_n 0, 1) := by decide +kernel
theorem dX8_make_1 : decode cX8_make 1 = .ok (.iload_n 1, 1) := by decide +kernel
theorem dX8_make_2 : decode cX8_make 2 = .ok (.iload_n 2, 1) := by decide +kernel
theorem dX8_make_3 : decode cX8_make 3 = .ok (.iload_n 3, 1) := by decide +kernel
theorem dX8_make_4 : decode cX8_make 4 = .ok (.invokevirtual 74, 3) := by decide +kernel
theorem dX8_make_7 : decode cX8_make 7 = .ok (.ifCond .eq 13, 3) := by decide +kernel
theorem dX8_make_10 : decode cX8_make 10 = .ok (.aload_n 0, 1) := by decide +kernel
theorem dX8_make_11 : decode cX8_make 11 = .ok (.iload_n 1, 1) := by decide +kernel
theorem dX8_make_12 : decode cX8_make 12 = .ok (.iload_n 2, 1) := by decide +kernel
theorem dX8_make_13 : decode cX8_make 13 = .ok (.iload_n 3, 1) := by decide +kernel
theorem dX8_make_14 : decode cX8_make 14 = .ok (.invokevirtual 187, 3) := by decide +kernel
theorem dX8_make_17 : decode cX8_make 17 = .ok (.ifCond .ne 5, 3) := by decide +kernel
theorem dX8_make_20 : decode cX8_make 20 = .ok (.iconst (-1), 1) := by decide +kernel
theorem dX8_make_21 : decode cX8_make 21 = .ok (.ireturn, 1) := by decide +kernel
theorem dX8_make_22 : decode cX8_make 22 = .ok (.new 9, 3) := by decide +kernel
theorem dX8_make_25 : decode cX8_make 25 = .ok (.dup, 1) := by decide +kernel
theorem dX8_make_26 : decode cX8_make 26 = .ok (.iload_n 1, 1) := by decide +kernel
theorem dX8_make_27 : decode cX8_make 27 = .ok (.iload_n 2, 1) := by decide +kernel
theorem dX8_make_28 : decode cX8_make 28 = .ok (.iload_n 3, 1) := by decide +kernel
theorem dX8_make_29 : decode cX8_make 29 = .ok (.invokespecial 78, 3) := by decide +kernel
theorem dX8_make_32 : decode cX8_make 32 = .ok (.astore 4, 2) := by decide +kernel
theorem dX8_make_34 : decode cX8_make 34 = .ok (.iconst 0, 1) := by decide +kernel
theorem dX8_make_35 : decode cX8_make 35 = .ok (.istore 5, 2) := by decide +kernel
theorem dX8_make_37 : decode cX8_make 37 = .ok (.iload 5, 2) := by decide +kernel
theorem dX8_make_39 : decode cX8_make 39 = .ok (.aload 4, 2) := by decide +kernel
theorem dX8_make_41 : decode cX8_make 41 = .ok (.getfield 190, 3) := by decide +kernel
theorem dX8_make_44 : decode cX8_make 44 = .ok (.arraylength, 1) := by decide +kernel
theorem dX8_make_45 : decode cX8_make 45 = .ok (.if_icmp .ge 24, 3) := by decide +kernel
theorem dX8_make_48 : decode cX8_make 48 = .ok (.aload 4, 2) := by decide +kernel
theorem dX8_make_50 : decode cX8_make 50 = .ok (.getfield 190, 3) := by decide +kernel
theorem dX8_make_53 : decode cX8_make 53 = .ok (.iload 5, 2) := by decide +kernel
theorem dX8_make_55 : decode cX8_make 55 = .ok (.aaload, 1) := by decide +kernel
theorem dX8_make_56 : decode cX8_make 56 = .ok (.aload_n 0, 1) := by decide +kernel
theorem dX8_make_57 : decode cX8_make 57 = .ok (.getfield 25, 3) := by decide +kernel
theorem dX8_make_60 : decode cX8_make 60 = .ok (.invokevirtual 194, 3) := by decide +kernel
theorem dX8_make_63 : decode cX8_make 63 = .ok (.iinc 5 1, 3) := by decide +kernel
theorem dX8_make_66 : decode cX8_make 66 = .ok (.goto (-29), 3) := by decide +kernel
theorem dX8_make_69 : decode cX8_make 69 = .ok (.aload_n 0, 1) := by decide +kernel
theorem dX8_make_70 : decode cX8_make 70 = .ok (.aload 4, 2) := by decide +kernel
theorem dX8_make_72 : decode cX8_make 72 = .ok (.invokevirtual 81, 3) := by decide +kernel
theorem dX8_make_75 : decode cX8_make 75 = .ok (.ireturn, 1) := by decide +kernel
theorem dX8_turn_0 : decode cX8_turn 0 = .ok (.aload_n 0, 1) := by decide +kernel
theorem dX8_turn_1 : decode cX8_turn 1 = .ok (.iload_n 1, 1) := by decide +kernel
theorem dX8_turn_2 : decode cX8_turn 2 = .ok (.invokevirtual 85, 3) := by decide +kernel
theorem dX8_turn_5 : decode cX8_turn 5 = .ok (.astore_n 3, 1) := by decide +kernel
theorem dX8_turn_6 : decode cX8_turn 6 = .ok (.aload_n 3, 1) := by decide +kernel
theorem dX8_turn_7 : decode cX8_turn 7 = .ok (.ifnull 22, 3) := by decide +kernel
theorem dX8_turn_10 : decode cX8_turn 10 = .ok (.iload_n 2, 1) := by decide +kernel
theorem dX8_turn_11 : decode cX8_turn 11 = .ok (.ifCond .lt 18, 3) := by decide +kernel
theorem dX8_turn_14 : decode cX8_turn 14 = .ok (.iload_n 2, 1) := by decide +kernel
theorem dX8_turn_15 : decode cX8_turn 15 = .ok (.bipush 8, 2) := by decide +kernel
theorem dX8_turn_17 : decode cX8_turn 17 = .ok (.if_icmp .ge 12, 3) := by decide +kernel
theorem dX8_turn_20 : decode cX8_turn 20 = .ok (.aload_n 0, 1) := by decide +kernel
theorem dX8_turn_21 : decode cX8_turn 21 = .ok (.getfield 67, 3) := by decide +kernel
theorem dX8_turn_24 : decode cX8_turn 24 = .ok (.bipush 30, 2) := by decide +kernel
theorem dX8_turn_26 : decode cX8_turn 26 = .ok (.if_icmp .lt 5, 3) := by decide +kernel
theorem dX8_turn_29 : decode cX8_turn 29 = .ok (.iconst (-1), 1) := by decide +kernel
theorem dX8_turn_30 : decode cX8_turn 30 = .ok (.ireturn, 1) := by decide +kernel
theorem dX8_turn_31 : decode cX8_turn 31 = .ok (.aload_n 0, 1) := by decide +kernel
theorem dX8_turn_32 : decode cX8_turn 32 = .ok (.aload_n 3, 1) := by decide +kernel
theorem dX8_turn_33 : decode cX8_turn 33 = .ok (.iload_n 2, 1) := by decide +kernel
theorem dX8_turn_34 : decode cX8_turn 34 = .ok (.invokevirtual 198, 3) := by decide +kernel
theorem dX8_turn_37 : decode cX8_turn 37 = .ok (.invokevirtual 81, 3) := by decide +kernel
theorem dX8_turn_40 : decode cX8_turn 40 = .ok (.ireturn, 1) := by decide +kernel
theorem dX8_same_0 : decode cX8_same 0 = .ok (.aload_n 0, 1) := by decide +kernel
theorem dX8_same_1 : decode cX8_same 1 = .ok (.iload_n 1, 1) := by decide +kernel
theorem dX8_same_2 : decode cX8_same 2 = .ok (.invokevirtual 85, 3) := by decide +kernel
theorem dX8_same_5 : decode cX8_same 5 = .ok (.astore_n 3, 1) := by decide +kernel
theorem dX8_same_6 : decode cX8_same 6 = .ok (.aload_n 0, 1) := by decide +kernel
theorem dX8_same_7 : decode cX8_same 7 = .ok (.iload_n 2, 1) := by decide +kernel
theorem dX8_same_8 : decode cX8_same 8 = .ok (.invokevirtual 85, 3) := by decide +kernel
theorem dX8_same_11 : decode cX8_same 11 = .ok (.astore 4, 2) := by decide +kernel
theorem dX8_same_13 : decode cX8_same 13 = .ok (.aload_n 3, 1) := by decide +kernel
theorem dX8_same_14 : decode cX8_same 14 = .ok (.ifnull 8, 3) := by decide +kernel
theorem dX8_same_17 : decode cX8_same 17 = .ok (.aload 4, 2) := by decide +kernel
theorem dX8_same_19 : decode cX8_same 19 = .ok (.ifnonnull 5, 3) := by decide +kernel
theorem dX8_same_22 : decode cX8_same 22 = .ok (.iconst (-1), 1) := by decide +kernel
theorem dX8_same_23 : decode cX8_same 23 = .ok (.ireturn, 1) := by decide +kernel
theorem dX8_same_24 : decode cX8_same 24 = .ok (.iconst 0, 1) := by decide +kernel
theorem dX8_same_25 : decode cX8_same 25 = .ok (.istore 5, 2) := by decide +kernel
theorem dX8_same_27 : decode cX8_same 27 = .ok (.iload 5, 2) := by decide +kernel
theorem dX8_same_29 : decode cX8_same 29 = .ok (.bipush 8, 2) := by decide +kernel
theorem dX8_same_31 : decode cX8_same 31 = .ok (.if_icmp .ge 23, 3) := by decide +kernel
theorem dX8_same_34 : decode cX8_same 34 = .ok (.aload_n 3, 1) := by decide +kernel
theorem dX8_same_35 : decode cX8_same 35 = .ok (.aload 4, 2) := by decide +kernel
theorem dX8_same_37 : decode cX8_same 37 = .ok (.iload 5, 2) := by decide +kernel
theorem dX8_same_39 : decode cX8_same 39 = .ok (.invokevirtual 201, 3) := by decide +kernel
theorem dX8_same_42 : decode cX8_same 42 = .ok (.ifCond .eq 6, 3) := by decide +kernel
theorem dX8_same_45 : decode cX8_same 45 = .ok (.iload 5, 2) := by decide +kernel
theorem dX8_same_47 : decode cX8_same 47 = .ok (.ireturn, 1) := by decide +kernel
theorem dX8_same_48 : decode cX8_same 48 = .ok (.iinc 5 1, 3) := by decide +kernel
theorem dX8_same_51 : decode cX8_same 51 = .ok (.goto (-24), 3) := by decide +kernel
theorem dX8_same_54 : decode cX8_same 54 = .ok (.iconst (-1), 1) := by decide +kernel
theorem dX8_same_55 : decode cX8_same 55 = .ok (.ireturn, 1) := by decide +kernel
theorem dX8_game_0 : decode cX8_game 0 = .ok (.aload_n 0, 1) := by decide +kernel
theorem dX8_game_1 : decode cX8_game 1 = .ok (.iload_n 1, 1) := by decide +kernel
theorem dX8_game_2 : decode cX8_game 2 = .ok (.invokevirtual 85, 3) := by decide +kernel
theorem dX8_game_5 : decode cX8_game 5 = .ok (.astore_n 2, 1) := by decide +kernel
theorem dX8_game_6 : decode cX8_game 6 = .ok (.aload_n 2, 1) := by decide +kernel
theorem dX8_game_7 : decode cX8_game 7 = .ok (.ifnull 12, 3) := by decide +kernel
theorem dX8_game_10 : decode cX8_game 10 = .ok (.aload_n 0, 1) := by decide +kernel
theorem dX8_game_11 : decode cX8_game 11 = .ok (.getfield 71, 3) := by decide +kernel
theorem dX8_game_14 : decode cX8_game 14 = .ok (.bipush 20, 2) := by decide +kernel
theorem dX8_game_16 : decode cX8_game 16 = .ok (.if_icmp .lt 5, 3) := by decide +kernel
theorem dX8_game_19 : decode cX8_game 19 = .ok (.iconst (-1), 1) := by decide +kernel
theorem dX8_game_20 : decode cX8_game 20 = .ok (.ireturn, 1) := by decide +kernel
theorem dX8_game_21 : decode cX8_game 21 = .ok (.aload_n 2, 1) := by decide +kernel
theorem dX8_game_22 : decode cX8_game 22 = .ok (.iconst 1, 1) := by decide +kernel
theorem dX8_game_23 : decode cX8_game 23 = .ok (.putfield 93, 3) := by decide +kernel
theorem dX8_game_26 : decode cX8_game 26 = .ok (.aload_n 0, 1) := by decide +kernel
theorem dX8_game_27 : decode cX8_game 27 = .ok (.getfield 17, 3) := by decide +kernel
theorem dX8_game_30 : decode cX8_game 30 = .ok (.aload_n 0, 1) := by decide +kernel
theorem dX8_game_31 : decode cX8_game 31 = .ok (.getfield 71, 3) := by decide +kernel
theorem dX8_game_34 : decode cX8_game 34 = .ok (.new 15, 3) := by decide +kernel
theorem dX8_game_37 : decode cX8_game 37 = .ok (.dup, 1) := by decide +kernel
theorem dX8_game_38 : decode cX8_game 38 = .ok (.iload_n 1, 1) := by decide +kernel
theorem dX8_game_39 : decode cX8_game 39 = .ok (.aload_n 2, 1) := by decide +kernel
theorem dX8_game_40 : decode cX8_game 40 = .ok (.invokespecial 205, 3) := by decide +kernel
theorem dX8_game_43 : decode cX8_game 43 = .ok (.aastore, 1) := by decide +kernel
theorem dX8_game_44 : decode cX8_game 44 = .ok (.aload_n 0, 1) := by decide +kernel
theorem dX8_game_45 : decode cX8_game 45 = .ok (.dup, 1) := by decide +kernel
theorem dX8_game_46 : decode cX8_game 46 = .ok (.getfield 71, 3) := by decide +kernel
theorem dX8_game_49 : decode cX8_game 49 = .ok (.iconst 1, 1) := by decide +kernel
theorem dX8_game_50 : decode cX8_game 50 = .ok (.iadd, 1) := by decide +kernel
theorem dX8_game_51 : decode cX8_game 51 = .ok (.putfield 71, 3) := by decide +kernel
theorem dX8_game_54 : decode cX8_game 54 = .ok (.aload_n 0, 1) := by decide +kernel
theorem dX8_game_55 : decode cX8_game 55 = .ok (.getfield 71, 3) := by decide +kernel
theorem dX8_game_58 : decode cX8_game 58 = .ok (.iconst 1, 1) := by decide +kernel
theorem dX8_game_59 : decode cX8_game 59 = .ok (.isub, 1) := by decide +kernel
theorem dX8_game_60 : decode cX8_game 60 = .ok (.ireturn, 1) := by decide +kernel
theorem dX8_mark_0 : decode cX8_mark 0 = .ok (.aload_n 0, 1) := by decide +kernel
theorem dX8_mark_1 : decode cX8_mark 1 = .ok (.iload_n 1, 1) := by decide +kernel
theorem dX8_mark_2 : decode cX8_mark 2 = .ok (.invokevirtual 208, 3) := by decide +kernel
theorem dX8_mark_5 : decode cX8_mark 5 = .ok (.astore 4, 2) := by decide +kernel
theorem dX8_mark_7 : decode cX8_mark 7 = .ok (.aload 4, 2) := by decide +kernel
theorem dX8_mark_9 : decode cX8_mark 9 = .ok (.ifnull 32, 3) := by decide +kernel
theorem dX8_mark_12 : decode cX8_mark 12 = .ok (.aload 4, 2) := by decide +kernel
theorem dX8_mark_14 : decode cX8_mark 14 = .ok (.getfield 212, 3) := by decide +kernel
theorem dX8_mark_17 : decode cX8_mark 17 = .ok (.iload_n 2, 1) := by decide +kernel
theorem dX8_mark_18 : decode cX8_mark 18 = .ok (.invokevirtual 141, 3) := by decide +kernel
theorem dX8_mark_21 : decode cX8_mark 21 = .ok (.ifCond .eq 20, 3) := by decide +kernel
theorem dX8_mark_24 : decode cX8_mark 24 = .ok (.iload_n 3, 1) := by decide +kernel
theorem dX8_mark_25 : decode cX8_mark 25 = .ok (.iconst (-1), 1) := by decide +kernel
theorem dX8_mark_26 : decode cX8_mark 26 = .ok (.if_icmp .lt 15, 3) := by decide +kernel
theorem dX8_mark_29 : decode cX8_mark 29 = .ok (.iload_n 3, 1) := by decide +kernel
theorem dX8_mark_30 : decode cX8_mark 30 = .ok (.aload 4, 2) := by decide +kernel
theorem dX8_mark_32 : decode cX8_mark 32 = .ok (.getfield 212, 3) := by decide +kernel
theorem dX8_mark_35 : decode cX8_mark 35 = .ok (.getfield 97, 3) := by decide +kernel
theorem dX8_mark_38 : decode cX8_mark 38 = .ok (.if_icmp .le 5, 3) := by decide +kernel
theorem dX8_mark_41 : decode cX8_mark 41 = .ok (.iconst 0, 1) := by decide +kernel
theorem dX8_mark_42 : decode cX8_mark 42 = .ok (.ireturn, 1) := by decide +kernel
theorem dX8_mark_43 : decode cX8_mark 43 = .ok (.aload 4, 2) := by decide +kernel
theorem dX8_mark_45 : decode cX8_mark 45 = .ok (.iload_n 2, 1) := by decide +kernel
theorem dX8_mark_46 : decode cX8_mark 46 = .ok (.iload_n 3, 1) := by decide +kernel
theorem dX8_mark_47 : decode cX8_mark 47 = .ok (.invokevirtual 216, 3) := by decide +kernel
theorem dX8_mark_50 : decode cX8_mark 50 = .ok (.ireturn, 1) := by decide +kernel
theorem dX8_marked_0 : decode cX8_marked 0 = .ok (.aload_n 0, 1) := by decide +kernel
theorem dX8_marked_1 : decode cX8_marked 1 = .ok (.iload_n 1, 1) := by decide +kernel
theorem dX8_marked_2 : decode cX8_marked 2 = .ok (.invokevirtual 208, 3) := by decide +kernel
theorem dX8_marked_5 : decode cX8_marked 5 = .ok (.astore_n 3, 1) := by decide +kernel
theorem dX8_marked_6 : decode cX8_marked 6 = .ok (.aload_n 3, 1) := by decide +kernel
theorem dX8_marked_7 : decode cX8_marked 7 = .ok (.ifnull 14, 3) := by decide +kernel
theorem dX8_marked_10 : decode cX8_marked 10 = .ok (.aload_n 3, 1) := by decide +kernel
theorem dX8_marked_11 : decode cX8_marked 11 = .ok (.getfield 212, 3) := by decide +kernel
theorem dX8_marked_14 : decode cX8_marked 14 = .ok (.iload_n 2, 1) := by decide +kernel
theorem dX8_marked_15 : decode cX8_marked 15 = .ok (.invokevirtual 141, 3) := by decide +kernel
theorem dX8_marked_18 : decode cX8_marked 18 = .ok (.ifCond .ne 7, 3) := by decide +kernel
theorem dX8_marked_21 : decode cX8_marked 21 = .ok (.iconst (-1), 1) := by decide +kernel
theorem dX8_marked_22 : decode cX8_marked 22 = .ok (.goto 9, 3) := by decide +kernel
theorem dX8_marked_25 : decode cX8_marked 25 = .ok (.aload_n 3, 1) := by decide +kernel
theorem dX8_marked_26 : decode cX8_marked 26 = .ok (.getfield 219, 3) := by decide +kernel
theorem dX8_marked_29 : decode cX8_marked 29 = .ok (.iload_n 2, 1) := by decide +kernel
theorem dX8_marked_30 : decode cX8_marked 30 = .ok (.iaload, 1) := by decide +kernel
theorem dX8_marked_31 : decode cX8_marked 31 = .ok (.ireturn, 1) := by decide +kernel
theorem dX8_undo_0 : decode cX8_undo 0 = .ok (.aload_n 0, 1) := by decide +kernel
theorem dX8_undo_1 : decode cX8_undo 1 = .ok (.iload_n 1, 1) := by decide +kernel
theorem dX8_undo_2 : decode cX8_undo 2 = .ok (.invokevirtual 208, 3) := by decide +kernel
theorem dX8_undo_5 : decode cX8_undo 5 = .ok (.astore_n 2, 1) := by decide +kernel
theorem dX8_undo_6 : decode cX8_undo 6 = .ok (.aload_n 2, 1) := by decide +kernel
theorem dX8_undo_7 : decode cX8_undo 7 = .ok (.ifnonnull 7, 3) := by decide +kernel
theorem dX8_undo_10 : decode cX8_undo 10 = .ok (.iconst (-1), 1) := by decide +kernel
theorem dX8_undo_11 : decode cX8_undo 11 = .ok (.goto 7, 3) := by decide +kernel
theorem dX8_undo_14 : decode cX8_undo 14 = .ok (.aload_n 2, 1) := by decide +kernel
theorem dX8_undo_15 : decode cX8_undo 15 = .ok (.invokevirtual 222, 3) := by decide +kernel
theorem dX8_undo_18 : decode cX8_undo 18 = .ok (.ireturn, 1) := by decide +kernel
theorem dX8_redo_0 : decode cX8_redo 0 = .ok (.aload_n 0, 1) := by decide +kernel
theorem dX8_redo_1 : decode cX8_redo 1 = .ok (.iload_n 1, 1) := by decide +kernel
theorem dX8_redo_2 : decode cX8_redo 2 = .ok (.invokevirtual 208, 3) := by decide +kernel
theorem dX8_redo_5 : decode cX8_redo 5 = .ok (.astore_n 2, 1) := by decide +kernel
theorem dX8_redo_6 : decode cX8_redo 6 = .ok (.aload_n 2, 1) := by decide +kernel
theorem dX8_redo_7 : decode cX8_redo 7 = .ok (.ifnonnull 7, 3) := by decide +kernel
theorem dX8_redo_10 : decode cX8_redo 10 = .ok (.iconst (-1), 1) := by decide +kernel
theorem dX8_redo_11 : decode cX8_redo 11 = .ok (.goto 7, 3) := by decide +kernel
theorem dX8_redo_14 : decode cX8_redo 14 = .ok (.aload_n 2, 1) := by decide +kernel
theorem dX8_redo_15 : decode cX8_redo 15 = .ok (.invokevirtual 225, 3) := by decide +kernel
theorem dX8_redo_18 : decode cX8_redo 18 = .ok (.ireturn, 1) := by decide +kernel
theorem dX8_hint_0 : decode cX8_hint 0 = .ok (.aload_n 0, 1) := by decide +kernel
theorem dX8_hint_1 : decode cX8_hint 1 = .ok (.iload_n 1, 1) := by decide +kernel
theorem dX8_hint_2 : decode cX8_hint 2 = .ok (.invokevirtual 208, 3) := by decide +kernel
theorem dX8_hint_5 : decode cX8_hint 5 = .ok (.astore_n 2, 1) := by decide +kernel
theorem dX8_hint_6 : decode cX8_hint 6 = .ok (.aload_n 2, 1) := by decide +kernel
theorem dX8_hint_7 : decode cX8_hint 7 = .ok (.ifnonnull 5, 3) := by decide +kernel
theorem dX8_hint_10 : decode cX8_hint 10 = .ok (.iconst (-1), 1) := by decide +kernel
theorem dX8_hint_11 : decode cX8_hint 11 = .ok (.ireturn, 1) := by decide +kernel
theorem dX8_hint_12 : decode cX8_hint 12 = .ok (.aload_n 0, 1) := by decide +kernel
theorem dX8_hint_13 : decode cX8_hint 13 = .ok (.aload_n 2, 1) := by decide +kernel
theorem dX8_hint_14 : decode cX8_hint 14 = .ok (.invokevirtual 228, 3) := by decide +kernel
theorem dX8_hint_17 : decode cX8_hint 17 = .ok (.istore_n 3, 1) := by decide +kernel
theorem dX8_hint_18 : decode cX8_hint 18 = .ok (.iload_n 3, 1) := by decide +kernel
theorem dX8_hint_19 : decode cX8_hint 19 = .ok (.iconst (-1), 1) := by decide +kernel
theorem dX8_hint_20 : decode cX8_hint 20 = .ok (.if_icmp .eq 13, 3) := by decide +kernel
theorem dX8_hint_23 : decode cX8_hint 23 = .ok (.aload_n 2, 1) := by decide +kernel
theorem dX8_hint_24 : decode cX8_hint 24 = .ok (.dup, 1) := by decide +kernel
theorem dX8_hint_25 : decode cX8_hint 25 = .ok (.getfield 232, 3) := by decide +kernel
theorem dX8_hint_28 : decode cX8_hint 28 = .ok (.iconst 1, 1) := by decide +kernel
theorem dX8_hint_29 : decode cX8_hint 29 = .ok (.iadd, 1) := by decide +kernel
theorem dX8_hint_30 : decode cX8_hint 30 = .ok (.putfield 232, 3) := by decide +kernel
theorem dX8_hint_33 : decode cX8_hint 33 = .ok (.iload_n 3, 1) := by decide +kernel
theorem dX8_hint_34 : decode cX8_hint 34 = .ok (.ireturn, 1) := by decide +kernel
theorem dX8_state_0 : decode cX8_state 0 = .ok (.aload_n 0, 1) := by decide +kernel
theorem dX8_state_1 : decode cX8_state 1 = .ok (.iload_n 1, 1) := by decide +kernel
theorem dX8_state_2 : decode cX8_state 2 = .ok (.invokevirtual 208, 3) := by decide +kernel
theorem dX8_state_5 : decode cX8_state 5 = .ok (.astore_n 3, 1) := by decide +kernel
theorem dX8_state_6 : decode cX8_state 6 = .ok (.aload_n 3, 1) := by decide +kernel
theorem dX8_state_7 : decode cX8_state 7 = .ok (.ifnonnull 5, 3) := by decide +kernel
theorem dX8_state_10 : decode cX8_state 10 = .ok (.iconst (-1), 1) := by decide +kernel
theorem dX8_state_11 : decode cX8_state 11 = .ok (.ireturn, 1) := by decide +kernel
theorem dX8_state_12 : decode cX8_state 12 = .ok (.iload_n 2, 1) := by decide +kernel
theorem dX8_state_13 : decode cX8_state 13 = .ok (.tableswitch 107 0 6 #[43, 48, 53, 59, 87, 92, 102], 43) := by decide +kernel
theorem dX8_state_56 : decode cX8_state 56 = .ok (.aload_n 3, 1) := by decide +kernel
theorem dX8_state_57 : decode cX8_state 57 = .ok (.getfield 235, 3) := by decide +kernel
theorem dX8_state_60 : decode cX8_state 60 = .ok (.ireturn, 1) := by decide +kernel
theorem dX8_state_61 : decode cX8_state 61 = .ok (.aload_n 3, 1) := by decide +kernel
theorem dX8_state_62 : decode cX8_state 62 = .ok (.invokevirtual 238, 3) := by decide +kernel
theorem dX8_state_65 : decode cX8_state 65 = .ok (.ireturn, 1) := by decide +kernel
theorem dX8_state_66 : decode cX8_state 66 = .ok (.aload_n 0, 1) := by decide +kernel
theorem dX8_state_67 : decode cX8_state 67 = .ok (.aload_n 3, 1) := by decide +kernel
theorem dX8_state_68 : decode cX8_state 68 = .ok (.invokevirtual 241, 3) := by decide +kernel
theorem dX8_state_71 : decode cX8_state 71 = .ok (.ireturn, 1) := by decide +kernel
theorem dX8_state_72 : decode cX8_state 72 = .ok (.aload_n 3, 1) := by decide +kernel
theorem dX8_state_73 : decode cX8_state 73 = .ok (.invokevirtual 238, 3) := by decide +kernel
theorem dX8_state_76 : decode cX8_state 76 = .ok (.aload_n 3, 1) := by decide +kernel
theorem dX8_state_77 : decode cX8_state 77 = .ok (.getfield 212, 3) := by decide +kernel
theorem dX8_state_80 : decode cX8_state 80 = .ok (.getfield 151, 3) := by decide +kernel
theorem dX8_state_83 : decode cX8_state 83 = .ok (.if_icmp .ne 15, 3) := by decide +kernel
theorem dX8_state_86 : decode cX8_state 86 = .ok (.aload_n 0, 1) := by decide +kernel
theorem dX8_state_87 : decode cX8_state 87 = .ok (.aload_n 3, 1) := by decide +kernel
theorem dX8_state_88 : decode cX8_state 88 = .ok (.invokevirtual 241, 3) := by decide +kernel
theorem dX8_state_91 : decode cX8_state 91 = .ok (.ifCond .ne 7, 3) := by decide +kernel
theorem dX8_state_94 : decode cX8_state 94 = .ok (.iconst 1, 1) := by decide +kernel
theorem dX8_state_95 : decode cX8_state 95 = .ok (.goto 4, 3) := by decide +kernel
theorem dX8_state_98 : decode cX8_state 98 = .ok (.iconst 0, 1) := by decide +kernel
theorem dX8_state_99 : decode cX8_state 99 = .ok (.ireturn, 1) := by decide +kernel
theorem dX8_state_100 : decode cX8_state 100 = .ok (.aload_n 3, 1) := by decide +kernel
theorem dX8_state_101 : decode cX8_state 101 = .ok (.getfield 244, 3) := by decide +kernel
theorem dX8_state_104 : decode cX8_state 104 = .ok (.ireturn, 1) := by decide +kernel
theorem dX8_state_105 : decode cX8_state 105 = .ok (.aload_n 3, 1) := by decide +kernel
theorem dX8_state_106 : decode cX8_state 106 = .ok (.getfield 247, 3) := by decide +kernel
theorem dX8_state_109 : decode cX8_state 109 = .ok (.aload_n 3, 1) := by decide +kernel
theorem dX8_state_110 : decode cX8_state 110 = .ok (.getfield 244, 3) := by decide +kernel
theorem dX8_state_113 : decode cX8_state 113 = .ok (.isub, 1) := by decide +kernel
theorem dX8_state_114 : decode cX8_state 114 = .ok (.ireturn, 1) := by decide +kernel
theorem dX8_state_115 : decode cX8_state 115 = .ok (.aload_n 3, 1) := by decide +kernel
theorem dX8_state_116 : decode cX8_state 116 = .ok (.getfield 232, 3) := by decide +kernel
theorem dX8_state_119 : decode cX8_state 119 = .ok (.ireturn, 1) := by decide +kernel
theorem dX8_state_120 : decode cX8_state 120 = .ok (.iconst (-1), 1) := by decide +kernel
theorem dX8_state_121 : decode cX8_state 121 = .ok (.ireturn, 1) := by decide +kernel
theorem dX8_write_0 : decode cX8_write 0 = .ok (.aload_n 0, 1) := by decide +kernel
theorem dX8_write_1 : decode cX8_write 1 = .ok (.iload_n 1, 1) := by decide +kernel
theorem dX8_write_2 : decode cX8_write 2 = .ok (.invokevirtual 85, 3) := by decide +kernel
theorem dX8_write_5 : decode cX8_write 5 = .ok (.iload_n 2, 1) := by decide +kernel
theorem dX8_write_6 : decode cX8_write 6 = .ok (.invokestatic 89, 3) := by decide +kernel
theorem dX8_write_9 : decode cX8_write 9 = .ok (.astore_n 3, 1) := by decide +kernel
theorem dX8_write_10 : decode cX8_write 10 = .ok (.aload_n 3, 1) := by decide +kernel
theorem dX8_write_11 : decode cX8_write 11 = .ok (.ifnonnull 5, 3) := by decide +kernel
theorem dX8_write_14 : decode cX8_write 14 = .ok (.iconst (-1), 1) := by decide +kernel
theorem dX8_write_15 : decode cX8_write 15 = .ok (.ireturn, 1) := by decide +kernel
theorem dX8_write_16 : decode cX8_write 16 = .ok (.aload_n 0, 1) := by decide +kernel
theorem dX8_write_17 : decode cX8_write 17 = .ok (.getfield 31, 3) := by decide +kernel
theorem dX8_write_20 : decode cX8_write 20 = .ok (.iconst 0, 1) := by decide +kernel
theorem dX8_write_21 : decode cX8_write 21 = .ok (.invokevirtual 250, 3) := by decide +kernel
theorem dX8_write_24 : decode cX8_write 24 = .ok (.iconst 0, 1) := by decide +kernel
theorem dX8_write_25 : decode cX8_write 25 = .ok (.istore 4, 2) := by decide +kernel
theorem dX8_write_27 : decode cX8_write 27 = .ok (.iload 4, 2) := by decide +kernel
theorem dX8_write_29 : decode cX8_write 29 = .ok (.aload_n 3, 1) := by decide +kernel
theorem dX8_write_30 : decode cX8_write 30 = .ok (.getfield 109, 3) := by decide +kernel
theorem dX8_write_33 : decode cX8_write 33 = .ok (.if_icmp .ge 60, 3) := by decide +kernel
theorem dX8_write_36 : decode cX8_write 36 = .ok (.iload 4, 2) := by decide +kernel
theorem dX8_write_38 : decode cX8_write 38 = .ok (.ifCond .le 13, 3) := by decide +kernel
theorem dX8_write_41 : decode cX8_write 41 = .ok (.aload_n 0, 1) := by decide +kernel
theorem dX8_write_42 : decode cX8_write 42 = .ok (.getfield 31, 3) := by decide +kernel
theorem dX8_write_45 : decode cX8_write 45 = .ok (.bipush 32, 2) := by decide +kernel
theorem dX8_write_47 : decode cX8_write 47 = .ok (.invokevirtual 254, 3) := by decide +kernel
theorem dX8_write_50 : decode cX8_write 50 = .ok (.pop, 1) := by decide +kernel
theorem dX8_write_51 : decode cX8_write 51 = .ok (.aload_n 0, 1) := by decide +kernel
theorem dX8_write_52 : decode cX8_write 52 = .ok (.getfield 31, 3) := by decide +kernel
theorem dX8_write_55 : decode cX8_write 55 = .ok (.aload_n 3, 1) := by decide +kernel
theorem dX8_write_56 : decode cX8_write 56 = .ok (.getfield 131, 3) := by decide +kernel
theorem dX8_write_59 : decode cX8_write 59 = .ok (.iload 4, 2) := by decide +kernel
theorem dX8_write_61 : decode cX8_write 61 = .ok (.iaload, 1) := by decide +kernel
theorem dX8_write_62 : decode cX8_write 62 = .ok (.invokevirtual 257, 3) := by decide +kernel
theorem dX8_write_65 : decode cX8_write 65 = .ok (.pop, 1) := by decide +kernel
theorem dX8_write_66 : decode cX8_write 66 = .ok (.aload_n 0, 1) := by decide +kernel
theorem dX8_write_67 : decode cX8_write 67 = .ok (.getfield 31, 3) := by decide +kernel
theorem dX8_write_70 : decode cX8_write 70 = .ok (.bipush 97, 2) := by decide +kernel
theorem dX8_write_72 : decode cX8_write 72 = .ok (.aload_n 3, 1) := by decide +kernel
theorem dX8_write_73 : decode cX8_write 73 = .ok (.getfield 129, 3) := by decide +kernel
theorem dX8_write_76 : decode cX8_write 76 = .ok (.iload 4, 2) := by decide +kernel
theorem dX8_write_78 : decode cX8_write 78 = .ok (.iaload, 1) := by decide +kernel
theorem dX8_write_79 : decode cX8_write 79 = .ok (.iadd, 1) := by decide +kernel
theorem dX8_write_80 : decode cX8_write 80 = .ok (.iconst 1, 1) := by decide +kernel
theorem dX8_write_81 : decode cX8_write 81 = .ok (.isub, 1) := by decide +kernel
theorem dX8_write_82 : decode cX8_write 82 = .ok (.i2c, 1) := by decide +kernel
theorem dX8_write_83 : decode cX8_write 83 = .ok (.invokevirtual 254, 3) := by decide +kernel
theorem dX8_write_86 : decode cX8_write 86 = .ok (.pop, 1) := by decide +kernel
theorem dX8_write_87 : decode cX8_write 87 = .ok (.iinc 4 1, 3) := by decide +kernel
theorem dX8_write_90 : decode cX8_write 90 = .ok (.goto (-63), 3) := by decide +kernel
theorem dX8_write_93 : decode cX8_write 93 = .ok (.aload_n 3, 1) := by decide +kernel
theorem dX8_write_94 : decode cX8_write 94 = .ok (.getfield 109, 3) := by decide +kernel
theorem dX8_write_97 : decode cX8_write 97 = .ok (.ifCond .ne 13, 3) := by decide +kernel
theorem dX8_write_100 : decode cX8_write 100 = .ok (.aload_n 0, 1) := by decide +kernel
theorem dX8_write_101 : decode cX8_write 101 = .ok (.getfield 31, 3) := by decide +kernel
theorem dX8_write_104 : decode cX8_write 104 = .ok (.bipush 48, 2) := by decide +kernel
theorem dX8_write_106 : decode cX8_write 106 = .ok (.invokevirtual 254, 3) := by decide +kernel
theorem dX8_write_109 : decode cX8_write 109 = .ok (.pop, 1) := by decide +kernel
theorem dX8_write_110 : decode cX8_write 110 = .ok (.aload_n 0, 1) := by decide +kernel
theorem dX8_write_111 : decode cX8_write 111 = .ok (.getfield 31, 3) := by decide +kernel
theorem dX8_write_114 : decode cX8_write 114 = .ok (.invokevirtual 260, 3) := by decide +kernel
theorem dX8_write_117 : decode cX8_write 117 = .ok (.ireturn, 1) := by decide +kernel
theorem dX8_out_0 : decode cX8_out 0 = .ok (.iload_n 1, 1) := by decide +kernel
theorem dX8_out_1 : decode cX8_out 1 = .ok (.ifCond .lt 14, 3) := by decide +kernel
theorem dX8_out_4 : decode cX8_out 4 = .ok (.iload_n 1, 1) := by decide +kernel
theorem dX8_out_5 : decode cX8_out 5 = .ok (.aload_n 0, 1) := by decide +kernel
theorem dX8_out_6 : decode cX8_out 6 = .ok (.getfield 31, 3) := by decide +kernel
theorem dX8_out_9 : decode cX8_out 9 = .ok (.invokevirtual 260, 3) := by decide +kernel
theorem dX8_out_12 : decode cX8_out 12 = .ok (.if_icmp .lt 7, 3) := by decide +kernel
theorem dX8_out_15 : decode cX8_out 15 = .ok (.iconst (-1), 1) := by decide +kernel
theorem dX8_out_16 : decode cX8_out 16 = .ok (.goto 11, 3) := by decide +kernel
theorem dX8_out_19 : decode cX8_out 19 = .ok (.aload_n 0, 1) := by decide +kernel
theorem dX8_out_20 : decode cX8_out 20 = .ok (.getfield 31, 3) := by decide +kernel
theorem dX8_out_23 : decode cX8_out 23 = .ok (.iload_n 1, 1) := by decide +kernel
theorem dX8_out_24 : decode cX8_out 24 = .ok (.invokevirtual 263, 3) := by decide +kernel
theorem dX8_out_27 : decode cX8_out 27 = .ok (.ireturn, 1) := by decide +kernel
theorem dX8_count_0 : decode cX8_count 0 = .ok (.iload_n 1, 1) := by decide +kernel
theorem dX8_count_1 : decode cX8_count 1 = .ok (.ifCond .ne 8, 3) := by decide +kernel
theorem dX8_count_4 : decode cX8_count 4 = .ok (.aload_n 0, 1) := by decide +kernel
theorem dX8_count_5 : decode cX8_count 5 = .ok (.getfield 67, 3) := by decide +kernel
theorem dX8_count_8 : decode cX8_count 8 = .ok (.ireturn, 1) := by decide +kernel
theorem dX8_count_9 : decode cX8_count 9 = .ok (.iload_n 1, 1) := by decide +kernel
theorem dX8_count_10 : decode cX8_count 10 = .ok (.iconst 1, 1) := by decide +kernel
theorem dX8_count_11 : decode cX8_count 11 = .ok (.if_icmp .ne 10, 3) := by decide +kernel
theorem dX8_count_14 : decode cX8_count 14 = .ok (.aload_n 0, 1) := by decide +kernel
theorem dX8_count_15 : decode cX8_count 15 = .ok (.getfield 71, 3) := by decide +kernel
theorem dX8_count_18 : decode cX8_count 18 = .ok (.goto 4, 3) := by decide +kernel
theorem dX8_count_21 : decode cX8_count 21 = .ok (.iconst (-1), 1) := by decide +kernel
theorem dX8_count_22 : decode cX8_count 22 = .ok (.ireturn, 1) := by decide +kernel
theorem dX8_puzzleAt_0 : decode cX8_puzzleAt 0 = .ok (.iload_n 1, 1) := by decide +kernel
theorem dX8_puzzleAt_1 : decode cX8_puzzleAt 1 = .ok (.ifCond .lt 11, 3) := by decide +kernel
theorem dX8_puzzleAt_4 : decode cX8_puzzleAt 4 = .ok (.iload_n 1, 1) := by decide +kernel
theorem dX8_puzzleAt_5 : decode cX8_puzzleAt 5 = .ok (.aload_n 0, 1) := by decide +kernel
theorem dX8_puzzleAt_6 : decode cX8_puzzleAt 6 = .ok (.getfield 67, 3) := by decide +kernel
theorem dX8_puzzleAt_9 : decode cX8_puzzleAt 9 = .ok (.if_icmp .lt 7, 3) := by decide +kernel
theorem dX8_puzzleAt_12 : decode cX8_puzzleAt 12 = .ok (.aconst_null, 1) := by decide +kernel
theorem dX8_puzzleAt_13 : decode cX8_puzzleAt 13 = .ok (.goto 9, 3) := by decide +kernel
theorem dX8_puzzleAt_16 : decode cX8_puzzleAt 16 = .ok (.aload_n 0, 1) := by decide +kernel
theorem dX8_puzzleAt_17 : decode cX8_puzzleAt 17 = .ok (.getfield 11, 3) := by decide +kernel
theorem dX8_puzzleAt_20 : decode cX8_puzzleAt 20 = .ok (.iload_n 1, 1) := by decide +kernel
theorem dX8_puzzleAt_21 : decode cX8_puzzleAt 21 = .ok (.aaload, 1) := by decide +kernel
theorem dX8_puzzleAt_22 : decode cX8_puzzleAt 22 = .ok (.areturn, 1) := by decide +kernel
theorem dX8_lineAt_0 : decode cX8_lineAt 0 = .ok (.aload_n 0, 1) := by decide +kernel
theorem dX8_lineAt_1 : decode cX8_lineAt 1 = .ok (.ifnull 16, 3) := by decide +kernel
theorem dX8_lineAt_4 : decode cX8_lineAt 4 = .ok (.iload_n 1, 1) := by decide +kernel
theorem dX8_lineAt_5 : decode cX8_lineAt 5 = .ok (.ifCond .lt 12, 3) := by decide +kernel
theorem dX8_lineAt_8 : decode cX8_lineAt 8 = .ok (.iload_n 1, 1) := by decide +kernel
theorem dX8_lineAt_9 : decode cX8_lineAt 9 = .ok (.aload_n 0, 1) := by decide +kernel
theorem dX8_lineAt_10 : decode cX8_lineAt 10 = .ok (.getfield 190, 3) := by decide +kernel
theorem dX8_lineAt_13 : decode cX8_lineAt 13 = .ok (.arraylength, 1) := by decide +kernel
theorem dX8_lineAt_14 : decode cX8_lineAt 14 = .ok (.if_icmp .lt 7, 3) := by decide +kernel
theorem dX8_lineAt_17 : decode cX8_lineAt 17 = .ok (.aconst_null, 1) := by decide +kernel
theorem dX8_lineAt_18 : decode cX8_lineAt 18 = .ok (.goto 9, 3) := by decide +kernel
theorem dX8_lineAt_21 : decode cX8_lineAt 21 = .ok (.aload_n 0, 1) := by decide +kernel
theorem dX8_lineAt_22 : decode cX8_lineAt 22 = .ok (.getfield 190, 3) := by decide +kernel
theorem dX8_lineAt_25 : decode cX8_lineAt 25 = .ok (.iload_n 1, 1) := by decide +kernel
theorem dX8_lineAt_26 : decode cX8_lineAt 26 = .ok (.aaload, 1) := by decide +kernel
theorem dX8_lineAt_27 : decode cX8_lineAt 27 = .ok (.areturn, 1) := by decide +kernel
theorem dX8_gameAt_0 : decode cX8_gameAt 0 = .ok (.iload_n 1, 1) := by decide +kernel
theorem dX8_gameAt_1 : decode cX8_gameAt 1 = .ok (.ifCond .lt 11, 3) := by decide +kernel
theorem dX8_gameAt_4 : decode cX8_gameAt 4 = .ok (.iload_n 1, 1) := by decide +kernel
theorem dX8_gameAt_5 : decode cX8_gameAt 5 = .ok (.aload_n 0, 1) := by decide +kernel
theorem dX8_gameAt_6 : decode cX8_gameAt 6 = .ok (.getfield 71, 3) := by decide +kernel
theorem dX8_gameAt_9 : decode cX8_gameAt 9 = .ok (.if_icmp .lt 7, 3) := by decide +kernel
theorem dX8_gameAt_12 : decode cX8_gameAt 12 = .ok (.aconst_null, 1) := by decide +kernel
theorem dX8_gameAt_13 : decode cX8_gameAt 13 = .ok (.goto 9, 3) := by decide +kernel
theorem dX8_gameAt_16 : decode cX8_gameAt 16 = .ok (.aload_n 0, 1) := by decide +kernel
theorem dX8_gameAt_17 : decode cX8_gameAt 17 = .ok (.getfield 17, 3) := by decide +kernel
theorem dX8_gameAt_20 : decode cX8_gameAt 20 = .ok (.iload_n 1, 1) := by decide +kernel
theorem dX8_gameAt_21 : decode cX8_gameAt 21 = .ok (.aaload, 1) := by decide +kernel
theorem dX8_gameAt_22 : decode cX8_gameAt 22 = .ok (.areturn, 1) := by decide +kernel
theorem dX8_canCome_0 : decode cX8_canCome 0 = .ok (.aload_n 0, 1) := by decide +kernel
theorem dX8_canCome_1 : decode cX8_canCome 1 = .ok (.getfield 67, 3) := by decide +kernel
theorem dX8_canCome_4 : decode cX8_canCome 4 = .ok (.bipush 30, 2) := by decide +kernel
theorem dX8_canCome_6 : decode cX8_canCome 6 = .ok (.if_icmp .ge 39, 3) := by decide +kernel
theorem dX8_canCome_9 : decode cX8_canCome 9 = .ok (.iload_n 1, 1) := by decide +kernel
theorem dX8_canCome_10 : decode cX8_canCome 10 = .ok (.iconst 1, 1) := by decide +kernel
theorem dX8_canCome_11 : decode cX8_canCome 11 = .ok (.if_icmp .lt 34, 3) := by decide +kernel
theorem dX8_canCome_14 : decode cX8_canCome 14 = .ok (.iload_n 1, 1) := by decide +kernel
theorem dX8_canCome_15 : decode cX8_canCome 15 = .ok (.bipush 10, 2) := by decide +kernel
theorem dX8_canCome_17 : decode cX8_canCome 17 = .ok (.if_icmp .gt 28, 3) := by decide +kernel
theorem dX8_canCome_20 : decode cX8_canCome 20 = .ok (.iload_n 2, 1) := by decide +kernel
theorem dX8_canCome_21 : decode cX8_canCome 21 = .ok (.iconst 1, 1) := by decide +kernel
theorem dX8_canCome_22 : decode cX8_canCome 22 = .ok (.if_icmp .lt 23, 3) := by decide +kernel
theorem dX8_canCome_25 : decode cX8_canCome 25 = .ok (.iload_n 2, 1) := by decide +kernel
theorem dX8_canCome_26 : decode cX8_canCome 26 = .ok (.bipush 10, 2) := by decide +kernel
theorem dX8_canCome_28 : decode cX8_canCome 28 = .ok (.if_icmp .gt 17, 3) := by decide +kernel
theorem dX8_canCome_31 : decode cX8_canCome 31 = .ok (.iload_n 3, 1) := by decide +kernel
theorem dX8_canCome_32 : decode cX8_canCome 32 = .ok (.iconst 1, 1) := by decide +kernel
theorem dX8_canCome_33 : decode cX8_canCome 33 = .ok (.if_icmp .lt 12, 3) := by decide +kernel
theorem dX8_canCome_36 : decode cX8_canCome 36 = .ok (.iload_n 3, 1) := by decide +kernel
theorem dX8_canCome_37 : decode cX8_canCome 37 = .ok (.iconst 3, 1) := by decide +kernel
theorem dX8_canCome_38 : decode cX8_canCome 38 = .ok (.if_icmp .gt 7, 3) := by decide +kernel
theorem dX8_canCome_41 : decode cX8_canCome 41 = .ok (.iconst 1, 1) := by decide +kernel
theorem dX8_canCome_42 : decode cX8_canCome 42 = .ok (.goto 4, 3) := by decide +kernel
theorem dX8_canCome_45 : decode cX8_canCome 45 = .ok (.iconst 0, 1) := by decide +kernel
theorem dX8_canCome_46 : decode cX8_canCome 46 = .ok (.ireturn, 1) := by decide +kernel
theorem dX8_admit_0 : decode cX8_admit 0 = .ok (.aload_n 0, 1) := by decide +kernel
theorem dX8_admit_1 : decode cX8_admit 1 = .ok (.getfield 11, 3) := by decide +kernel
theorem dX8_admit_4 : decode cX8_admit 4 = .ok (.aload_n 0, 1) := by decide +kernel
theorem dX8_admit_5 : decode cX8_admit 5 = .ok (.getfield 67, 3) := by decide +kernel
theorem dX8_admit_8 : decode cX8_admit 8 = .ok (.aload_n 1, 1) := by decide +kernel
theorem dX8_admit_9 : decode cX8_admit 9 = .ok (.aastore, 1) := by decide +kernel
theorem dX8_admit_10 : decode cX8_admit 10 = .ok (.aload_n 0, 1) := by decide +kernel
theorem dX8_admit_11 : decode cX8_admit 11 = .ok (.dup, 1) := by decide +kernel
theorem dX8_admit_12 : decode cX8_admit 12 = .ok (.getfield 67, 3) := by decide +kernel
theorem dX8_admit_15 : decode cX8_admit 15 = .ok (.iconst 1, 1) := by decide +kernel
theorem dX8_admit_16 : decode cX8_admit 16 = .ok (.iadd, 1) := by decide +kernel
theorem dX8_admit_17 : decode cX8_admit 17 = .ok (.putfield 67, 3) := by decide +kernel
theorem dX8_admit_20 : decode cX8_admit 20 = .ok (.aload_n 0, 1) := by decide +kernel
theorem dX8_admit_21 : decode cX8_admit 21 = .ok (.getfield 67, 3) := by decide +kernel
theorem dX8_admit_24 : decode cX8_admit 24 = .ok (.iconst 1, 1) := by decide +kernel
theorem dX8_admit_25 : decode cX8_admit 25 = .ok (.isub, 1) := by decide +kernel
theorem dX8_admit_26 : decode cX8_admit 26 = .ok (.ireturn, 1) := by decide +kernel
theorem dX8_cutCanvas_0 : decode cX8_cutCanvas 0 = .ok (.iconst 0, 1) := by decide +kernel
theorem dX8_cutCanvas_1 : decode cX8_cutCanvas 1 = .ok (.istore 4, 2) := by decide +kernel
theorem dX8_cutCanvas_3 : decode cX8_cutCanvas 3 = .ok (.iload 4, 2) := by decide +kernel
theorem dX8_cutCanvas_5 : decode cX8_cutCanvas 5 = .ok (.iload_n 2, 1) := by decide +kernel
theorem dX8_cutCanvas_6 : decode cX8_cutCanvas 6 = .ok (.if_icmp .ge 61, 3) := by decide +kernel
theorem dX8_cutCanvas_9 : decode cX8_cutCanvas 9 = .ok (.iconst 0, 1) := by decide +kernel
theorem dX8_cutCanvas_10 : decode cX8_cutCanvas 10 = .ok (.istore 5, 2) := by decide +kernel
theorem dX8_cutCanvas_12 : decode cX8_cutCanvas 12 = .ok (.iload 5, 2) := by decide +kernel
theorem dX8_cutCanvas_14 : decode cX8_cutCanvas 14 = .ok (.iload_n 1, 1) := by decide +kernel
theorem dX8_cutCanvas_15 : decode cX8_cutCanvas 15 = .ok (.if_icmp .ge 46, 3) := by decide +kernel
theorem dX8_cutCanvas_18 : decode cX8_cutCanvas 18 = .ok (.aload_n 0, 1) := by decide +kernel
theorem dX8_cutCanvas_19 : decode cX8_cutCanvas 19 = .ok (.getfield 21, 3) := by decide +kernel
theorem dX8_cutCanvas_22 : decode cX8_cutCanvas 22 = .ok (.iload 4, 2) := by decide +kernel
theorem dX8_cutCanvas_24 : decode cX8_cutCanvas 24 = .ok (.bipush 10, 2) := by decide +kernel
theorem dX8_cutCanvas_26 : decode cX8_cutCanvas 26 = .ok (.imul, 1) := by decide +kernel
theorem dX8_cutCanvas_27 : decode cX8_cutCanvas 27 = .ok (.iload 5, 2) := by decide +kernel
theorem dX8_cutCanvas_29 : decode cX8_cutCanvas 29 = .ok (.iadd, 1) := by decide +kernel
theorem dX8_cutCanvas_30 : decode cX8_cutCanvas 30 = .ok (.iaload, 1) := by decide +kernel
theorem dX8_cutCanvas_31 : decode cX8_cutCanvas 31 = .ok (.istore 6, 2) := by decide +kernel
theorem dX8_cutCanvas_33 : decode cX8_cutCanvas 33 = .ok (.iload 6, 2) := by decide +kernel
theorem dX8_cutCanvas_35 : decode cX8_cutCanvas 35 = .ok (.iload_n 3, 1) := by decide +kernel
theorem dX8_cutCanvas_36 : decode cX8_cutCanvas 36 = .ok (.if_icmp .le 5, 3) := by decide +kernel
theorem dX8_cutCanvas_39 : decode cX8_cutCanvas 39 = .ok (.iconst 0, 1) := by decide +kernel
theorem dX8_cutCanvas_40 : decode cX8_cutCanvas 40 = .ok (.ireturn, 1) := by decide +kernel
theorem dX8_cutCanvas_41 : decode cX8_cutCanvas 41 = .ok (.aload_n 0, 1) := by decide +kernel
theorem dX8_cutCanvas_42 : decode cX8_cutCanvas 42 = .ok (.getfield 25, 3) := by decide +kernel
theorem dX8_cutCanvas_45 : decode cX8_cutCanvas 45 = .ok (.iload 4, 2) := by decide +kernel
theorem dX8_cutCanvas_47 : decode cX8_cutCanvas 47 = .ok (.iload_n 1, 1) := by decide +kernel
theorem dX8_cutCanvas_48 : decode cX8_cutCanvas 48 = .ok (.imul, 1) := by decide +kernel
theorem dX8_cutCanvas_49 : decode cX8_cutCanvas 49 = .ok (.iload 5, 2) := by decide +kernel
theorem dX8_cutCanvas_51 : decode cX8_cutCanvas 51 = .ok (.iadd, 1) := by decide +kernel
theorem dX8_cutCanvas_52 : decode cX8_cutCanvas 52 = .ok (.iload 6, 2) := by decide +kernel
theorem dX8_cutCanvas_54 : decode cX8_cutCanvas 54 = .ok (.iastore, 1) := by decide +kernel
theorem dX8_cutCanvas_55 : decode cX8_cutCanvas 55 = .ok (.iinc 5 1, 3) := by decide +kernel
theorem dX8_cutCanvas_58 : decode cX8_cutCanvas 58 = .ok (.goto (-46), 3) := by decide +kernel
theorem dX8_cutCanvas_61 : decode cX8_cutCanvas 61 = .ok (.iinc 4 1, 3) := by decide +kernel
theorem dX8_cutCanvas_64 : decode cX8_cutCanvas 64 = .ok (.goto (-61), 3) := by decide +kernel
theorem dX8_cutCanvas_67 : decode cX8_cutCanvas 67 = .ok (.iconst 1, 1) := by decide +kernel
theorem dX8_cutCanvas_68 : decode cX8_cutCanvas 68 = .ok (.ireturn, 1) := by decide +kernel
theorem dX8_adviceFor_0 : decode cX8_adviceFor 0 = .ok (.aload_n 1, 1) := by decide +kernel
theorem dX8_adviceFor_1 : decode cX8_adviceFor 1 = .ok (.aload_n 0, 1) := by decide +kernel
theorem dX8_adviceFor_2 : decode cX8_adviceFor 2 = .ok (.getfield 25, 3) := by decide +kernel
theorem dX8_adviceFor_5 : decode cX8_adviceFor 5 = .ok (.invokevirtual 267, 3) := by decide +kernel
theorem dX8_adviceFor_8 : decode cX8_adviceFor 8 = .ok (.aload_n 1, 1) := by decide +kernel
theorem dX8_adviceFor_9 : decode cX8_adviceFor 9 = .ok (.getfield 212, 3) := by decide +kernel
theorem dX8_adviceFor_12 : decode cX8_adviceFor 12 = .ok (.getfield 190, 3) := by decide +kernel
theorem dX8_adviceFor_15 : decode cX8_adviceFor 15 = .ok (.astore_n 2, 1) := by decide +kernel
theorem dX8_adviceFor_16 : decode cX8_adviceFor 16 = .ok (.iconst 0, 1) := by decide +kernel
theorem dX8_adviceFor_17 : decode cX8_adviceFor 17 = .ok (.istore_n 3, 1) := by decide +kernel
theorem dX8_adviceFor_18 : decode cX8_adviceFor 18 = .ok (.iload_n 3, 1) := by decide +kernel
theorem dX8_adviceFor_19 : decode cX8_adviceFor 19 = .ok (.aload_n 2, 1) := by decide +kernel
theorem dX8_adviceFor_20 : decode cX8_adviceFor 20 = .ok (.arraylength, 1) := by decide +kernel
theorem dX8_adviceFor_21 : decode cX8_adviceFor 21 = .ok (.if_icmp .ge 107, 3) := by decide +kernel
theorem dX8_adviceFor_24 : decode cX8_adviceFor 24 = .ok (.aload_n 0, 1) := by decide +kernel
theorem dX8_adviceFor_25 : decode cX8_adviceFor 25 = .ok (.getfield 38, 3) := by decide +kernel
theorem dX8_adviceFor_28 : decode cX8_adviceFor 28 = .ok (.aload_n 2, 1) := by decide +kernel
theorem dX8_adviceFor_29 : decode cX8_adviceFor 29 = .ok (.iload_n 3, 1) := by decide +kernel
theorem dX8_adviceFor_30 : decode cX8_adviceFor 30 = .ok (.aaload, 1) := by decide +kernel
theorem dX8_adviceFor_31 : decode cX8_adviceFor 31 = .ok (.aload_n 0, 1) := by decide +kernel
theorem dX8_adviceFor_32 : decode cX8_adviceFor 32 = .ok (.getfield 25, 3) := by decide +kernel
theorem dX8_adviceFor_35 : decode cX8_adviceFor 35 = .ok (.invokevirtual 270, 3) := by decide +kernel
theorem dX8_adviceFor_38 : decode cX8_adviceFor 38 = .ok (.ifCond .ne 8, 3) := by decide +kernel
theorem dX8_adviceFor_41 : decode cX8_adviceFor 41 = .ok (.bipush (-2), 2) := by decide +kernel
theorem dX8_adviceFor_43 : decode cX8_adviceFor 43 = .ok (.iload_n 3, 1) := by decide +kernel
theorem dX8_adviceFor_44 : decode cX8_adviceFor 44 = .ok (.isub, 1) := by decide +kernel
theorem dX8_adviceFor_45 : decode cX8_adviceFor 45 = .ok (.ireturn, 1) := by decide +kernel
theorem dX8_adviceFor_46 : decode cX8_adviceFor 46 = .ok (.iconst 0, 1) := by decide +kernel
theorem dX8_adviceFor_47 : decode cX8_adviceFor 47 = .ok (.istore 4, 2) := by decide +kernel
theorem dX8_adviceFor_49 : decode cX8_adviceFor 49 = .ok (.iload 4, 2) := by decide +kernel
theorem dX8_adviceFor_51 : decode cX8_adviceFor 51 = .ok (.aload_n 2, 1) := by decide +kernel
theorem dX8_adviceFor_52 : decode cX8_adviceFor 52 = .ok (.iload_n 3, 1) := by decide +kernel
theorem dX8_adviceFor_53 : decode cX8_adviceFor 53 = .ok (.aaload, 1) := by decide +kernel
theorem dX8_adviceFor_54 : decode cX8_adviceFor 54 = .ok (.getfield 274, 3) := by decide +kernel
theorem dX8_adviceFor_57 : decode cX8_adviceFor 57 = .ok (.if_icmp .ge 65, 3) := by decide +kernel
theorem dX8_adviceFor_60 : decode cX8_adviceFor 60 = .ok (.aload_n 2, 1) := by decide +kernel
theorem dX8_adviceFor_61 : decode cX8_adviceFor 61 = .ok (.iload_n 3, 1) := by decide +kernel
theorem dX8_adviceFor_62 : decode cX8_adviceFor 62 = .ok (.aaload, 1) := by decide +kernel
theorem dX8_adviceFor_63 : decode cX8_adviceFor 63 = .ok (.iload 4, 2) := by decide +kernel
theorem dX8_adviceFor_65 : decode cX8_adviceFor 65 = .ok (.invokevirtual 276, 3) := by decide +kernel
theorem dX8_adviceFor_68 : decode cX8_adviceFor 68 = .ok (.istore 5, 2) := by decide +kernel
theorem dX8_adviceFor_70 : decode cX8_adviceFor 70 = .ok (.aload_n 1, 1) := by decide +kernel
theorem dX8_adviceFor_71 : decode cX8_adviceFor 71 = .ok (.getfield 219, 3) := by decide +kernel
theorem dX8_adviceFor_74 : decode cX8_adviceFor 74 = .ok (.iload 5, 2) := by decide +kernel
theorem dX8_adviceFor_76 : decode cX8_adviceFor 76 = .ok (.iaload, 1) := by decide +kernel
theorem dX8_adviceFor_77 : decode cX8_adviceFor 77 = .ok (.iconst (-1), 1) := by decide +kernel
theorem dX8_adviceFor_78 : decode cX8_adviceFor 78 = .ok (.if_icmp .ne 38, 3) := by decide +kernel
theorem dX8_adviceFor_81 : decode cX8_adviceFor 81 = .ok (.aload_n 0, 1) := by decide +kernel
theorem dX8_adviceFor_82 : decode cX8_adviceFor 82 = .ok (.getfield 38, 3) := by decide +kernel
theorem dX8_adviceFor_85 : decode cX8_adviceFor 85 = .ok (.getfield 280, 3) := by decide +kernel
theorem dX8_adviceFor_88 : decode cX8_adviceFor 88 = .ok (.iload 4, 2) := by decide +kernel
theorem dX8_adviceFor_90 : decode cX8_adviceFor 90 = .ok (.iaload, 1) := by decide +kernel
theorem dX8_adviceFor_91 : decode cX8_adviceFor 91 = .ok (.invokestatic 137, 3) := by decide +kernel
theorem dX8_adviceFor_94 : decode cX8_adviceFor 94 = .ok (.ifCond .eq 22, 3) := by decide +kernel
theorem dX8_adviceFor_97 : decode cX8_adviceFor 97 = .ok (.iconst 4, 1) := by decide +kernel
theorem dX8_adviceFor_98 : decode cX8_adviceFor 98 = .ok (.iload 5, 2) := by decide +kernel
theorem dX8_adviceFor_100 : decode cX8_adviceFor 100 = .ok (.imul, 1) := by decide +kernel
theorem dX8_adviceFor_101 : decode cX8_adviceFor 101 = .ok (.aload_n 0, 1) := by decide +kernel
theorem dX8_adviceFor_102 : decode cX8_adviceFor 102 = .ok (.getfield 38, 3) := by decide +kernel
theorem dX8_adviceFor_105 : decode cX8_adviceFor 105 = .ok (.getfield 280, 3) := by decide +kernel
theorem dX8_adviceFor_108 : decode cX8_adviceFor 108 = .ok (.iload 4, 2) := by decide +kernel
theorem dX8_adviceFor_110 : decode cX8_adviceFor 110 = .ok (.iaload, 1) := by decide +kernel
theorem dX8_adviceFor_111 : decode cX8_adviceFor 111 = .ok (.invokestatic 283, 3) := by decide +kernel
theorem dX8_adviceFor_114 : decode cX8_adviceFor 114 = .ok (.iadd, 1) := by decide +kernel
theorem dX8_adviceFor_115 : decode cX8_adviceFor 115 = .ok (.ireturn, 1) := by decide +kernel
theorem dX8_adviceFor_116 : decode cX8_adviceFor 116 = .ok (.iinc 4 1, 3) := by decide +kernel
theorem dX8_adviceFor_119 : decode cX8_adviceFor 119 = .ok (.goto (-70), 3) := by decide +kernel
theorem dX8_adviceFor_122 : decode cX8_adviceFor 122 = .ok (.iinc 3 1, 3) := by decide +kernel
theorem dX8_adviceFor_125 : decode cX8_adviceFor 125 = .ok (.goto (-107), 3) := by decide +kernel
theorem dX8_adviceFor_128 : decode cX8_adviceFor 128 = .ok (.iconst (-1), 1) := by decide +kernel
theorem dX8_adviceFor_129 : decode cX8_adviceFor 129 = .ok (.ireturn, 1) := by decide +kernel
theorem dX8_brokenLines_0 : decode cX8_brokenLines 0 = .ok (.aload_n 1, 1) := by decide +kernel
theorem dX8_brokenLines_1 : decode cX8_brokenLines 1 = .ok (.aload_n 0, 1) := by decide +kernel
theorem dX8_brokenLines_2 : decode cX8_brokenLines 2 = .ok (.getfield 25, 3) := by decide +kernel
theorem dX8_brokenLines_5 : decode cX8_brokenLines 5 = .ok (.invokevirtual 267, 3) := by decide +kernel
theorem dX8_brokenLines_8 : decode cX8_brokenLines 8 = .ok (.aload_n 1, 1) := by decide +kernel
theorem dX8_brokenLines_9 : decode cX8_brokenLines 9 = .ok (.getfield 212, 3) := by decide +kernel
theorem dX8_brokenLines_12 : decode cX8_brokenLines 12 = .ok (.getfield 190, 3) := by decide +kernel
theorem dX8_brokenLines_15 : decode cX8_brokenLines 15 = .ok (.astore_n 2, 1) := by decide +kernel
theorem dX8_brokenLines_16 : decode cX8_brokenLines 16 = .ok (.iconst 0, 1) := by decide +kernel
theorem dX8_brokenLines_17 : decode cX8_brokenLines 17 = .ok (.istore_n 3, 1) := by decide +kernel
theorem dX8_brokenLines_18 : decode cX8_brokenLines 18 = .ok (.iconst 0, 1) := by decide +kernel
theorem dX8_brokenLines_19 : decode cX8_brokenLines 19 = .ok (.istore 4, 2) := by decide +kernel
theorem dX8_brokenLines_21 : decode cX8_brokenLines 21 = .ok (.iload 4, 2) := by decide +kernel
theorem dX8_brokenLines_23 : decode cX8_brokenLines 23 = .ok (.aload_n 2, 1) := by decide +kernel
theorem dX8_brokenLines_24 : decode cX8_brokenLines 24 = .ok (.arraylength, 1) := by decide +kernel
theorem dX8_brokenLines_25 : decode cX8_brokenLines 25 = .ok (.if_icmp .ge 30, 3) := by decide +kernel
theorem dX8_brokenLines_28 : decode cX8_brokenLines 28 = .ok (.aload_n 0, 1) := by decide +kernel
theorem dX8_brokenLines_29 : decode cX8_brokenLines 29 = .ok (.getfield 38, 3) := by decide +kernel
theorem dX8_brokenLines_32 : decode cX8_brokenLines 32 = .ok (.aload_n 2, 1) := by decide +kernel
theorem dX8_brokenLines_33 : decode cX8_brokenLines 33 = .ok (.iload 4, 2) := by decide +kernel
theorem dX8_brokenLines_35 : decode cX8_brokenLines 35 = .ok (.aaload, 1) := by decide +kernel
theorem dX8_brokenLines_36 : decode cX8_brokenLines 36 = .ok (.aload_n 0, 1) := by decide +kernel
theorem dX8_brokenLines_37 : decode cX8_brokenLines 37 = .ok (.getfield 25, 3) := by decide +kernel
theorem dX8_brokenLines_40 : decode cX8_brokenLines 40 = .ok (.invokevirtual 270, 3) := by decide +kernel
theorem dX8_brokenLines_43 : decode cX8_brokenLines 43 = .ok (.ifCond .ne 6, 3) := by decide +kernel
theorem dX8_brokenLines_46 : decode cX8_brokenLines 46 = .ok (.iinc 3 1, 3) := by decide +kernel
theorem dX8_brokenLines_49 : decode cX8_brokenLines 49 = .ok (.iinc 4 1, 3) := by decide +kernel
theorem dX8_brokenLines_52 : decode cX8_brokenLines 52 = .ok (.goto (-31), 3) := by decide +kernel
theorem dX8_brokenLines_55 : decode cX8_brokenLines 55 = .ok (.iload_n 3, 1) := by decide +kernel
theorem dX8_brokenLines_56 : decode cX8_brokenLines 56 = .ok (.ireturn, 1) := by decide +kernel
theorem dX8_isOne_0 : decode cX8_isOne 0 = .ok (.iload_n 0, 1) := by decide +kernel
theorem dX8_isOne_1 : decode cX8_isOne 1 = .ok (.invokestatic 286, 3) := by decide +kernel
theorem dX8_isOne_4 : decode cX8_isOne 4 = .ok (.iconst 1, 1) := by decide +kernel
theorem dX8_isOne_5 : decode cX8_isOne 5 = .ok (.if_icmp .ne 7, 3) := by decide +kernel
theorem dX8_isOne_8 : decode cX8_isOne 8 = .ok (.iconst 1, 1) := by decide +kernel
theorem dX8_isOne_9 : decode cX8_isOne 9 = .ok (.goto 4, 3) := by decide +kernel
theorem dX8_isOne_12 : decode cX8_isOne 12 = .ok (.iconst 0, 1) := by decide +kernel
theorem dX8_isOne_13 : decode cX8_isOne 13 = .ok (.ireturn, 1) := by decide +kernel
theorem dX8_holds_0 : decode cX8_holds 0 = .ok (.iload_n 0, 1) := by decide +kernel
theorem dX8_holds_1 : decode cX8_holds 1 = .ok (.iconst 1, 1) := by decide +kernel
theorem dX8_holds_2 : decode cX8_holds 2 = .ok (.iload_n 1, 1) := by decide +kernel
theorem dX8_holds_3 : decode cX8_holds 3 = .ok (.ishl, 1) := by decide +kernel
theorem dX8_holds_4 : decode cX8_holds 4 = .ok (.iand, 1) := by decide +kernel
theorem dX8_holds_5 : decode cX8_holds 5 = .ok (.ifCond .eq 7, 3) := by decide +kernel
theorem dX8_holds_8 : decode cX8_holds 8 = .ok (.iconst 1, 1) := by decide +kernel
theorem dX8_holds_9 : decode cX8_holds 9 = .ok (.goto 4, 3) := by decide +kernel
theorem dX8_holds_12 : decode cX8_holds 12 = .ok (.iconst 0, 1) := by decide +kernel
theorem dX8_holds_13 : decode cX8_holds 13 = .ok (.ireturn, 1) := by decide +kernel
theorem dX8_firstOf_0 : decode cX8_firstOf 0 = .ok (.iconst 0, 1) := by decide +kernel
theorem dX8_firstOf_1 : decode cX8_firstOf 1 = .ok (.istore_n 1, 1) := by decide +kernel
theorem dX8_firstOf_2 : decode cX8_firstOf 2 = .ok (.iload_n 1, 1) := by decide +kernel
theorem dX8_firstOf_3 : decode cX8_firstOf 3 = .ok (.iconst 3, 1) := by decide +kernel
theorem dX8_firstOf_4 : decode cX8_firstOf 4 = .ok (.if_icmp .gt 19, 3) := by decide +kernel
theorem dX8_firstOf_7 : decode cX8_firstOf 7 = .ok (.iload_n 0, 1) := by decide +kernel
theorem dX8_firstOf_8 : decode cX8_firstOf 8 = .ok (.iload_n 1, 1) := by decide +kernel
theorem dX8_firstOf_9 : decode cX8_firstOf 9 = .ok (.invokestatic 291, 3) := by decide +kernel
theorem dX8_firstOf_12 : decode cX8_firstOf 12 = .ok (.ifCond .eq 5, 3) := by decide +kernel
theorem dX8_firstOf_15 : decode cX8_firstOf 15 = .ok (.iload_n 1, 1) := by decide +kernel
theorem dX8_firstOf_16 : decode cX8_firstOf 16 = .ok (.ireturn, 1) := by decide +kernel
theorem dX8_firstOf_17 : decode cX8_firstOf 17 = .ok (.iinc 1 1, 3) := by decide +kernel
theorem dX8_firstOf_20 : decode cX8_firstOf 20 = .ok (.goto (-18), 3) := by decide +kernel
theorem dX8_firstOf_23 : decode cX8_firstOf 23 = .ok (.iconst (-1), 1) := by decide +kernel
theorem dX8_firstOf_24 : decode cX8_firstOf 24 = .ok (.ireturn, 1) := by decide +kernel
