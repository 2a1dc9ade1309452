theorem dX4_init_0 : decode cX4_init 0 = .ok (.aload_n 0, 1) := by decide +kernel
theorem dX4_init_1 : decode cX4_init 1 = .ok (.invokespecial 3, 3) := by decide +kernel
theorem dX4_init_4 : decode cX4_init 4 = .ok (.aload_n 0, 1) := by decide +kernel
theorem dX4_init_5 : decode cX4_init 5 = .ok (.bipush 6, 2) := by decide +kernel
theorem dX4_init_7 : decode cX4_init 7 = .ok (.newarray .int, 2) := by decide +kernel
theorem dX4_init_9 : decode cX4_init 9 = .ok (.putfield 9, 3) := by decide +kernel
theorem dX4_init_12 : decode cX4_init 12 = .ok (.aload_n 0, 1) := by decide +kernel
theorem dX4_init_13 : decode cX4_init 13 = .ok (.bipush 6, 2) := by decide +kernel
theorem dX4_init_15 : decode cX4_init 15 = .ok (.newarray .int, 2) := by decide +kernel
theorem dX4_init_17 : decode cX4_init 17 = .ok (.putfield 15, 3) := by decide +kernel
theorem dX4_init_20 : decode cX4_init 20 = .ok (.aload_n 0, 1) := by decide +kernel
theorem dX4_init_21 : decode cX4_init 21 = .ok (.bipush 6, 2) := by decide +kernel
theorem dX4_init_23 : decode cX4_init 23 = .ok (.newarray .int, 2) := by decide +kernel
theorem dX4_init_25 : decode cX4_init 25 = .ok (.putfield 18, 3) := by decide +kernel
theorem dX4_init_28 : decode cX4_init 28 = .ok (.aload_n 0, 1) := by decide +kernel
theorem dX4_init_29 : decode cX4_init 29 = .ok (.bipush 6, 2) := by decide +kernel
theorem dX4_init_31 : decode cX4_init 31 = .ok (.newarray .int, 2) := by decide +kernel
theorem dX4_init_33 : decode cX4_init 33 = .ok (.putfield 21, 3) := by decide +kernel
theorem dX4_init_36 : decode cX4_init 36 = .ok (.aload_n 0, 1) := by decide +kernel
theorem dX4_init_37 : decode cX4_init 37 = .ok (.getstatic 24, 3) := by decide +kernel
theorem dX4_init_40 : decode cX4_init 40 = .ok (.putfield 30, 3) := by decide +kernel
theorem dX4_init_43 : decode cX4_init 43 = .ok (.aload_n 0, 1) := by decide +kernel
theorem dX4_init_44 : decode cX4_init 44 = .ok (.iconst (-1), 1) := by decide +kernel
theorem dX4_init_45 : decode cX4_init 45 = .ok (.putfield 33, 3) := by decide +kernel
theorem dX4_init_48 : decode cX4_init 48 = .ok (.return_, 1) := by decide +kernel
theorem dX4_empty_0 : decode cX4_empty 0 = .ok (.iconst 0, 1) := by decide +kernel
theorem dX4_empty_1 : decode cX4_empty 1 = .ok (.istore_n 1, 1) := by decide +kernel
theorem dX4_empty_2 : decode cX4_empty 2 = .ok (.iload_n 1, 1) := by decide +kernel
theorem dX4_empty_3 : decode cX4_empty 3 = .ok (.bipush 6, 2) := by decide +kernel
theorem dX4_empty_5 : decode cX4_empty 5 = .ok (.if_icmp .ge 16, 3) := by decide +kernel
theorem dX4_empty_8 : decode cX4_empty 8 = .ok (.aload_n 0, 1) := by decide +kernel
theorem dX4_empty_9 : decode cX4_empty 9 = .ok (.getfield 9, 3) := by decide +kernel
theorem dX4_empty_12 : decode cX4_empty 12 = .ok (.iload_n 1, 1) := by decide +kernel
theorem dX4_empty_13 : decode cX4_empty 13 = .ok (.iconst 0, 1) := by decide +kernel
theorem dX4_empty_14 : decode cX4_empty 14 = .ok (.iastore, 1) := by decide +kernel
theorem dX4_empty_15 : decode cX4_empty 15 = .ok (.iinc 1 1, 3) := by decide +kernel
theorem dX4_empty_18 : decode cX4_empty 18 = .ok (.goto (-16), 3) := by decide +kernel
theorem dX4_empty_21 : decode cX4_empty 21 = .ok (.aload_n 0, 1) := by decide +kernel
theorem dX4_empty_22 : decode cX4_empty 22 = .ok (.iconst 0, 1) := by decide +kernel
theorem dX4_empty_23 : decode cX4_empty 23 = .ok (.putfield 37, 3) := by decide +kernel
theorem dX4_empty_26 : decode cX4_empty 26 = .ok (.aload_n 0, 1) := by decide +kernel
theorem dX4_empty_27 : decode cX4_empty 27 = .ok (.iconst 0, 1) := by decide +kernel
theorem dX4_empty_28 : decode cX4_empty 28 = .ok (.putfield 40, 3) := by decide +kernel
theorem dX4_empty_31 : decode cX4_empty 31 = .ok (.return_, 1) := by decide +kernel
theorem dX4_becomeLike_0 : decode cX4_becomeLike 0 = .ok (.iconst 0, 1) := by decide +kernel
theorem dX4_becomeLike_1 : decode cX4_becomeLike 1 = .ok (.istore_n 2, 1) := by decide +kernel
theorem dX4_becomeLike_2 : decode cX4_becomeLike 2 = .ok (.iload_n 2, 1) := by decide +kernel
theorem dX4_becomeLike_3 : decode cX4_becomeLike 3 = .ok (.bipush 6, 2) := by decide +kernel
theorem dX4_becomeLike_5 : decode cX4_becomeLike 5 = .ok (.if_icmp .ge 21, 3) := by decide +kernel
theorem dX4_becomeLike_8 : decode cX4_becomeLike 8 = .ok (.aload_n 0, 1) := by decide +kernel
theorem dX4_becomeLike_9 : decode cX4_becomeLike 9 = .ok (.getfield 9, 3) := by decide +kernel
theorem dX4_becomeLike_12 : decode cX4_becomeLike 12 = .ok (.iload_n 2, 1) := by decide +kernel
theorem dX4_becomeLike_13 : decode cX4_becomeLike 13 = .ok (.aload_n 1, 1) := by decide +kernel
theorem dX4_becomeLike_14 : decode cX4_becomeLike 14 = .ok (.getfield 9, 3) := by decide +kernel
theorem dX4_becomeLike_17 : decode cX4_becomeLike 17 = .ok (.iload_n 2, 1) := by decide +kernel
theorem dX4_becomeLike_18 : decode cX4_becomeLike 18 = .ok (.iaload, 1) := by decide +kernel
theorem dX4_becomeLike_19 : decode cX4_becomeLike 19 = .ok (.iastore, 1) := by decide +kernel
theorem dX4_becomeLike_20 : decode cX4_becomeLike 20 = .ok (.iinc 2 1, 3) := by decide +kernel
theorem dX4_becomeLike_23 : decode cX4_becomeLike 23 = .ok (.goto (-21), 3) := by decide +kernel
theorem dX4_becomeLike_26 : decode cX4_becomeLike 26 = .ok (.aload_n 0, 1) := by decide +kernel
theorem dX4_becomeLike_27 : decode cX4_becomeLike 27 = .ok (.aload_n 1, 1) := by decide +kernel
theorem dX4_becomeLike_28 : decode cX4_becomeLike 28 = .ok (.getfield 37, 3) := by decide +kernel
theorem dX4_becomeLike_31 : decode cX4_becomeLike 31 = .ok (.putfield 37, 3) := by decide +kernel
theorem dX4_becomeLike_34 : decode cX4_becomeLike 34 = .ok (.aload_n 0, 1) := by decide +kernel
theorem dX4_becomeLike_35 : decode cX4_becomeLike 35 = .ok (.aload_n 1, 1) := by decide +kernel
theorem dX4_becomeLike_36 : decode cX4_becomeLike 36 = .ok (.getfield 30, 3) := by decide +kernel
theorem dX4_becomeLike_39 : decode cX4_becomeLike 39 = .ok (.putfield 30, 3) := by decide +kernel
theorem dX4_becomeLike_42 : decode cX4_becomeLike 42 = .ok (.aload_n 0, 1) := by decide +kernel
theorem dX4_becomeLike_43 : decode cX4_becomeLike 43 = .ok (.iconst 0, 1) := by decide +kernel
theorem dX4_becomeLike_44 : decode cX4_becomeLike 44 = .ok (.putfield 40, 3) := by decide +kernel
theorem dX4_becomeLike_47 : decode cX4_becomeLike 47 = .ok (.return_, 1) := by decide +kernel
theorem dX4_move_0 : decode cX4_move 0 = .ok (.iload_n 3, 1) := by decide +kernel
theorem dX4_move_1 : decode cX4_move 1 = .ok (.iconst 0, 1) := by decide +kernel
theorem dX4_move_2 : decode cX4_move 2 = .ok (.invokestatic 44, 3) := by decide +kernel
theorem dX4_move_5 : decode cX4_move 5 = .ok (.aload_n 0, 1) := by decide +kernel
theorem dX4_move_6 : decode cX4_move 6 = .ok (.getfield 9, 3) := by decide +kernel
theorem dX4_move_9 : decode cX4_move 9 = .ok (.iload_n 1, 1) := by decide +kernel
theorem dX4_move_10 : decode cX4_move 10 = .ok (.iaload, 1) := by decide +kernel
theorem dX4_move_11 : decode cX4_move 11 = .ok (.invokestatic 50, 3) := by decide +kernel
theorem dX4_move_14 : decode cX4_move 14 = .ok (.istore 4, 2) := by decide +kernel
theorem dX4_move_16 : decode cX4_move 16 = .ok (.aload_n 0, 1) := by decide +kernel
theorem dX4_move_17 : decode cX4_move 17 = .ok (.getfield 9, 3) := by decide +kernel
theorem dX4_move_20 : decode cX4_move 20 = .ok (.iload_n 1, 1) := by decide +kernel
theorem dX4_move_21 : decode cX4_move 21 = .ok (.dup2, 1) := by decide +kernel
theorem dX4_move_22 : decode cX4_move 22 = .ok (.iaload, 1) := by decide +kernel
theorem dX4_move_23 : decode cX4_move 23 = .ok (.iload 4, 2) := by decide +kernel
theorem dX4_move_25 : decode cX4_move 25 = .ok (.isub, 1) := by decide +kernel
theorem dX4_move_26 : decode cX4_move 26 = .ok (.iastore, 1) := by decide +kernel
theorem dX4_move_27 : decode cX4_move 27 = .ok (.aload_n 0, 1) := by decide +kernel
theorem dX4_move_28 : decode cX4_move 28 = .ok (.getfield 9, 3) := by decide +kernel
theorem dX4_move_31 : decode cX4_move 31 = .ok (.iload_n 2, 1) := by decide +kernel
theorem dX4_move_32 : decode cX4_move 32 = .ok (.dup2, 1) := by decide +kernel
theorem dX4_move_33 : decode cX4_move 33 = .ok (.iaload, 1) := by decide +kernel
theorem dX4_move_34 : decode cX4_move 34 = .ok (.iload 4, 2) := by decide +kernel
theorem dX4_move_36 : decode cX4_move 36 = .ok (.iadd, 1) := by decide +kernel
theorem dX4_move_37 : decode cX4_move 37 = .ok (.iastore, 1) := by decide +kernel
theorem dX4_move_38 : decode cX4_move 38 = .ok (.aload_n 0, 1) := by decide +kernel
theorem dX4_move_39 : decode cX4_move 39 = .ok (.iconst 0, 1) := by decide +kernel
theorem dX4_move_40 : decode cX4_move 40 = .ok (.putfield 40, 3) := by decide +kernel
theorem dX4_move_43 : decode cX4_move 43 = .ok (.iload 4, 2) := by decide +kernel
theorem dX4_move_45 : decode cX4_move 45 = .ok (.ireturn, 1) := by decide +kernel
theorem dX4_stir_0 : decode cX4_stir 0 = .ok (.iload_n 1, 1) := by decide +kernel
theorem dX4_stir_1 : decode cX4_stir 1 = .ok (.ifCond .le 23, 3) := by decide +kernel
theorem dX4_stir_4 : decode cX4_stir 4 = .ok (.iload_n 1, 1) := by decide +kernel
theorem dX4_stir_5 : decode cX4_stir 5 = .ok (.bipush 6, 2) := by decide +kernel
theorem dX4_stir_7 : decode cX4_stir 7 = .ok (.if_icmp .gt 17, 3) := by decide +kernel
theorem dX4_stir_10 : decode cX4_stir 10 = .ok (.aload_n 0, 1) := by decide +kernel
theorem dX4_stir_11 : decode cX4_stir 11 = .ok (.getfield 9, 3) := by decide +kernel
theorem dX4_stir_14 : decode cX4_stir 14 = .ok (.iload_n 1, 1) := by decide +kernel
theorem dX4_stir_15 : decode cX4_stir 15 = .ok (.iconst 1, 1) := by decide +kernel
theorem dX4_stir_16 : decode cX4_stir 16 = .ok (.isub, 1) := by decide +kernel
theorem dX4_stir_17 : decode cX4_stir 17 = .ok (.iaload, 1) := by decide +kernel
theorem dX4_stir_18 : decode cX4_stir 18 = .ok (.bipush 10, 2) := by decide +kernel
theorem dX4_stir_20 : decode cX4_stir 20 = .ok (.idiv, 1) := by decide +kernel
theorem dX4_stir_21 : decode cX4_stir 21 = .ok (.goto 4, 3) := by decide +kernel
theorem dX4_stir_24 : decode cX4_stir 24 = .ok (.iconst 0, 1) := by decide +kernel
theorem dX4_stir_25 : decode cX4_stir 25 = .ok (.istore_n 2, 1) := by decide +kernel
theorem dX4_stir_26 : decode cX4_stir 26 = .ok (.iconst 0, 1) := by decide +kernel
theorem dX4_stir_27 : decode cX4_stir 27 = .ok (.istore_n 3, 1) := by decide +kernel
theorem dX4_stir_28 : decode cX4_stir 28 = .ok (.iload_n 3, 1) := by decide +kernel
theorem dX4_stir_29 : decode cX4_stir 29 = .ok (.iload_n 1, 1) := by decide +kernel
theorem dX4_stir_30 : decode cX4_stir 30 = .ok (.if_icmp .ge 42, 3) := by decide +kernel
theorem dX4_stir_33 : decode cX4_stir 33 = .ok (.iload_n 3, 1) := by decide +kernel
theorem dX4_stir_34 : decode cX4_stir 34 = .ok (.bipush 6, 2) := by decide +kernel
theorem dX4_stir_36 : decode cX4_stir 36 = .ok (.if_icmp .ge 36, 3) := by decide +kernel
theorem dX4_stir_39 : decode cX4_stir 39 = .ok (.aload_n 0, 1) := by decide +kernel
theorem dX4_stir_40 : decode cX4_stir 40 = .ok (.getfield 9, 3) := by decide +kernel
theorem dX4_stir_43 : decode cX4_stir 43 = .ok (.iload_n 3, 1) := by decide +kernel
theorem dX4_stir_44 : decode cX4_stir 44 = .ok (.iaload, 1) := by decide +kernel
theorem dX4_stir_45 : decode cX4_stir 45 = .ok (.bipush 10, 2) := by decide +kernel
theorem dX4_stir_47 : decode cX4_stir 47 = .ok (.idiv, 1) := by decide +kernel
theorem dX4_stir_48 : decode cX4_stir 48 = .ok (.istore 4, 2) := by decide +kernel
theorem dX4_stir_50 : decode cX4_stir 50 = .ok (.aload_n 0, 1) := by decide +kernel
theorem dX4_stir_51 : decode cX4_stir 51 = .ok (.getfield 9, 3) := by decide +kernel
theorem dX4_stir_54 : decode cX4_stir 54 = .ok (.iload_n 3, 1) := by decide +kernel
theorem dX4_stir_55 : decode cX4_stir 55 = .ok (.dup2, 1) := by decide +kernel
theorem dX4_stir_56 : decode cX4_stir 56 = .ok (.iaload, 1) := by decide +kernel
theorem dX4_stir_57 : decode cX4_stir 57 = .ok (.iload_n 2, 1) := by decide +kernel
theorem dX4_stir_58 : decode cX4_stir 58 = .ok (.iload 4, 2) := by decide +kernel
theorem dX4_stir_60 : decode cX4_stir 60 = .ok (.isub, 1) := by decide +kernel
theorem dX4_stir_61 : decode cX4_stir 61 = .ok (.iadd, 1) := by decide +kernel
theorem dX4_stir_62 : decode cX4_stir 62 = .ok (.iastore, 1) := by decide +kernel
theorem dX4_stir_63 : decode cX4_stir 63 = .ok (.iload 4, 2) := by decide +kernel
theorem dX4_stir_65 : decode cX4_stir 65 = .ok (.istore_n 2, 1) := by decide +kernel
theorem dX4_stir_66 : decode cX4_stir 66 = .ok (.iinc 3 1, 3) := by decide +kernel
theorem dX4_stir_69 : decode cX4_stir 69 = .ok (.goto (-41), 3) := by decide +kernel
theorem dX4_stir_72 : decode cX4_stir 72 = .ok (.aload_n 0, 1) := by decide +kernel
theorem dX4_stir_73 : decode cX4_stir 73 = .ok (.iconst 0, 1) := by decide +kernel
theorem dX4_stir_74 : decode cX4_stir 74 = .ok (.putfield 40, 3) := by decide +kernel
theorem dX4_stir_77 : decode cX4_stir 77 = .ok (.return_, 1) := by decide +kernel
theorem dX4_count_0 : decode cX4_count 0 = .ok (.aload_n 0, 1) := by decide +kernel
theorem dX4_count_1 : decode cX4_count 1 = .ok (.getfield 40, 3) := by decide +kernel
theorem dX4_count_4 : decode cX4_count 4 = .ok (.ifCond .eq 4, 3) := by decide +kernel
theorem dX4_count_7 : decode cX4_count 7 = .ok (.return_, 1) := by decide +kernel
theorem dX4_count_8 : decode cX4_count 8 = .ok (.aload_n 0, 1) := by decide +kernel
theorem dX4_count_9 : decode cX4_count 9 = .ok (.iconst 1, 1) := by decide +kernel
theorem dX4_count_10 : decode cX4_count 10 = .ok (.putfield 40, 3) := by decide +kernel
theorem dX4_count_13 : decode cX4_count 13 = .ok (.aload_n 0, 1) := by decide +kernel
theorem dX4_count_14 : decode cX4_count 14 = .ok (.aload_n 1, 1) := by decide +kernel
theorem dX4_count_15 : decode cX4_count 15 = .ok (.invokevirtual 53, 3) := by decide +kernel
theorem dX4_count_18 : decode cX4_count 18 = .ok (.aload_n 0, 1) := by decide +kernel
theorem dX4_count_19 : decode cX4_count 19 = .ok (.invokevirtual 57, 3) := by decide +kernel
theorem dX4_count_22 : decode cX4_count 22 = .ok (.aload_n 0, 1) := by decide +kernel
theorem dX4_count_23 : decode cX4_count 23 = .ok (.getfield 33, 3) := by decide +kernel
theorem dX4_count_26 : decode cX4_count 26 = .ok (.iconst (-1), 1) := by decide +kernel
theorem dX4_count_27 : decode cX4_count 27 = .ok (.if_icmp .ne 4, 3) := by decide +kernel
theorem dX4_count_30 : decode cX4_count 30 = .ok (.return_, 1) := by decide +kernel
theorem dX4_count_31 : decode cX4_count 31 = .ok (.aload_n 0, 1) := by decide +kernel
theorem dX4_count_32 : decode cX4_count 32 = .ok (.getfield 30, 3) := by decide +kernel
theorem dX4_count_35 : decode cX4_count 35 = .ok (.getstatic 24, 3) := by decide +kernel
theorem dX4_count_38 : decode cX4_count 38 = .ok (.if_acmp .ne 19, 3) := by decide +kernel
theorem dX4_count_41 : decode cX4_count 41 = .ok (.aload_n 0, 1) := by decide +kernel
theorem dX4_count_42 : decode cX4_count 42 = .ok (.getfield 18, 3) := by decide +kernel
theorem dX4_count_45 : decode cX4_count 45 = .ok (.aload_n 0, 1) := by decide +kernel
theorem dX4_count_46 : decode cX4_count 46 = .ok (.getfield 33, 3) := by decide +kernel
theorem dX4_count_49 : decode cX4_count 49 = .ok (.aload_n 0, 1) := by decide +kernel
theorem dX4_count_50 : decode cX4_count 50 = .ok (.getfield 37, 3) := by decide +kernel
theorem dX4_count_53 : decode cX4_count 53 = .ok (.iastore, 1) := by decide +kernel
theorem dX4_count_54 : decode cX4_count 54 = .ok (.goto 24, 3) := by decide +kernel
theorem dX4_count_57 : decode cX4_count 57 = .ok (.aload_n 0, 1) := by decide +kernel
theorem dX4_count_58 : decode cX4_count 58 = .ok (.getfield 30, 3) := by decide +kernel
theorem dX4_count_61 : decode cX4_count 61 = .ok (.getstatic 60, 3) := by decide +kernel
theorem dX4_count_64 : decode cX4_count 64 = .ok (.if_acmp .ne 10, 3) := by decide +kernel
theorem dX4_count_67 : decode cX4_count 67 = .ok (.aload_n 0, 1) := by decide +kernel
theorem dX4_count_68 : decode cX4_count 68 = .ok (.invokevirtual 63, 3) := by decide +kernel
theorem dX4_count_71 : decode cX4_count 71 = .ok (.goto 7, 3) := by decide +kernel
theorem dX4_count_74 : decode cX4_count 74 = .ok (.aload_n 0, 1) := by decide +kernel
theorem dX4_count_75 : decode cX4_count 75 = .ok (.invokevirtual 66, 3) := by decide +kernel
theorem dX4_count_78 : decode cX4_count 78 = .ok (.return_, 1) := by decide +kernel
theorem dX4_emptySeatsLeft_0 : decode cX4_emptySeatsLeft 0 = .ok (.aload_n 0, 1) := by decide +kernel
theorem dX4_emptySeatsLeft_1 : decode cX4_emptySeatsLeft 1 = .ok (.getfield 37, 3) := by decide +kernel
theorem dX4_emptySeatsLeft_4 : decode cX4_emptySeatsLeft 4 = .ok (.istore_n 1, 1) := by decide +kernel
theorem dX4_emptySeatsLeft_5 : decode cX4_emptySeatsLeft 5 = .ok (.iconst 0, 1) := by decide +kernel
theorem dX4_emptySeatsLeft_6 : decode cX4_emptySeatsLeft 6 = .ok (.istore_n 2, 1) := by decide +kernel
theorem dX4_emptySeatsLeft_7 : decode cX4_emptySeatsLeft 7 = .ok (.iload_n 2, 1) := by decide +kernel
theorem dX4_emptySeatsLeft_8 : decode cX4_emptySeatsLeft 8 = .ok (.bipush 6, 2) := by decide +kernel
theorem dX4_emptySeatsLeft_10 : decode cX4_emptySeatsLeft 10 = .ok (.if_icmp .ge 18, 3) := by decide +kernel
theorem dX4_emptySeatsLeft_13 : decode cX4_emptySeatsLeft 13 = .ok (.iload_n 1, 1) := by decide +kernel
theorem dX4_emptySeatsLeft_14 : decode cX4_emptySeatsLeft 14 = .ok (.aload_n 0, 1) := by decide +kernel
theorem dX4_emptySeatsLeft_15 : decode cX4_emptySeatsLeft 15 = .ok (.getfield 18, 3) := by decide +kernel
theorem dX4_emptySeatsLeft_18 : decode cX4_emptySeatsLeft 18 = .ok (.iload_n 2, 1) := by decide +kernel
theorem dX4_emptySeatsLeft_19 : decode cX4_emptySeatsLeft 19 = .ok (.iaload, 1) := by decide +kernel
theorem dX4_emptySeatsLeft_20 : decode cX4_emptySeatsLeft 20 = .ok (.isub, 1) := by decide +kernel
theorem dX4_emptySeatsLeft_21 : decode cX4_emptySeatsLeft 21 = .ok (.istore_n 1, 1) := by decide +kernel
theorem dX4_emptySeatsLeft_22 : decode cX4_emptySeatsLeft 22 = .ok (.iinc 2 1, 3) := by decide +kernel
theorem dX4_emptySeatsLeft_25 : decode cX4_emptySeatsLeft 25 = .ok (.goto (-18), 3) := by decide +kernel
theorem dX4_emptySeatsLeft_28 : decode cX4_emptySeatsLeft 28 = .ok (.iload_n 1, 1) := by decide +kernel
theorem dX4_emptySeatsLeft_29 : decode cX4_emptySeatsLeft 29 = .ok (.ireturn, 1) := by decide +kernel
theorem dX4_beansMissing_0 : decode cX4_beansMissing 0 = .ok (.aload_n 0, 1) := by decide +kernel
theorem dX4_beansMissing_1 : decode cX4_beansMissing 1 = .ok (.getfield 33, 3) := by decide +kernel
theorem dX4_beansMissing_4 : decode cX4_beansMissing 4 = .ok (.iconst (-1), 1) := by decide +kernel
theorem dX4_beansMissing_5 : decode cX4_beansMissing 5 = .ok (.if_icmp .eq 11, 3) := by decide +kernel
theorem dX4_beansMissing_8 : decode cX4_beansMissing 8 = .ok (.iload_n 1, 1) := by decide +kernel
theorem dX4_beansMissing_9 : decode cX4_beansMissing 9 = .ok (.aload_n 0, 1) := by decide +kernel
theorem dX4_beansMissing_10 : decode cX4_beansMissing 10 = .ok (.getfield 33, 3) := by decide +kernel
theorem dX4_beansMissing_13 : decode cX4_beansMissing 13 = .ok (.if_icmp .ne 17, 3) := by decide +kernel
theorem dX4_beansMissing_16 : decode cX4_beansMissing 16 = .ok (.aload_n 0, 1) := by decide +kernel
theorem dX4_beansMissing_17 : decode cX4_beansMissing 17 = .ok (.getfield 33, 3) := by decide +kernel
theorem dX4_beansMissing_20 : decode cX4_beansMissing 20 = .ok (.iconst (-1), 1) := by decide +kernel
theorem dX4_beansMissing_21 : decode cX4_beansMissing 21 = .ok (.if_icmp .ne 7, 3) := by decide +kernel
theorem dX4_beansMissing_24 : decode cX4_beansMissing 24 = .ok (.iconst (-1), 1) := by decide +kernel
theorem dX4_beansMissing_25 : decode cX4_beansMissing 25 = .ok (.goto 4, 3) := by decide +kernel
theorem dX4_beansMissing_28 : decode cX4_beansMissing 28 = .ok (.iconst 0, 1) := by decide +kernel
theorem dX4_beansMissing_29 : decode cX4_beansMissing 29 = .ok (.ireturn, 1) := by decide +kernel
theorem dX4_beansMissing_30 : decode cX4_beansMissing 30 = .ok (.aload_n 0, 1) := by decide +kernel
theorem dX4_beansMissing_31 : decode cX4_beansMissing 31 = .ok (.getfield 15, 3) := by decide +kernel
theorem dX4_beansMissing_34 : decode cX4_beansMissing 34 = .ok (.aload_n 0, 1) := by decide +kernel
theorem dX4_beansMissing_35 : decode cX4_beansMissing 35 = .ok (.getfield 33, 3) := by decide +kernel
theorem dX4_beansMissing_38 : decode cX4_beansMissing 38 = .ok (.iaload, 1) := by decide +kernel
theorem dX4_beansMissing_39 : decode cX4_beansMissing 39 = .ok (.aload_n 0, 1) := by decide +kernel
theorem dX4_beansMissing_40 : decode cX4_beansMissing 40 = .ok (.getfield 15, 3) := by decide +kernel
theorem dX4_beansMissing_43 : decode cX4_beansMissing 43 = .ok (.iload_n 1, 1) := by decide +kernel
theorem dX4_beansMissing_44 : decode cX4_beansMissing 44 = .ok (.iaload, 1) := by decide +kernel
theorem dX4_beansMissing_45 : decode cX4_beansMissing 45 = .ok (.isub, 1) := by decide +kernel
theorem dX4_beansMissing_46 : decode cX4_beansMissing 46 = .ok (.aload_n 0, 1) := by decide +kernel
theorem dX4_beansMissing_47 : decode cX4_beansMissing 47 = .ok (.getfield 33, 3) := by decide +kernel
theorem dX4_beansMissing_50 : decode cX4_beansMissing 50 = .ok (.iload_n 1, 1) := by decide +kernel
theorem dX4_beansMissing_51 : decode cX4_beansMissing 51 = .ok (.if_icmp .ge 7, 3) := by decide +kernel
theorem dX4_beansMissing_54 : decode cX4_beansMissing 54 = .ok (.iconst 1, 1) := by decide +kernel
theorem dX4_beansMissing_55 : decode cX4_beansMissing 55 = .ok (.goto 4, 3) := by decide +kernel
theorem dX4_beansMissing_58 : decode cX4_beansMissing 58 = .ok (.iconst 0, 1) := by decide +kernel
theorem dX4_beansMissing_59 : decode cX4_beansMissing 59 = .ok (.iadd, 1) := by decide +kernel
theorem dX4_beansMissing_60 : decode cX4_beansMissing 60 = .ok (.iconst 1, 1) := by decide +kernel
theorem dX4_beansMissing_61 : decode cX4_beansMissing 61 = .ok (.iadd, 1) := by decide +kernel
theorem dX4_beansMissing_62 : decode cX4_beansMissing 62 = .ok (.iconst 2, 1) := by decide +kernel
theorem dX4_beansMissing_63 : decode cX4_beansMissing 63 = .ok (.idiv, 1) := by decide +kernel
theorem dX4_beansMissing_64 : decode cX4_beansMissing 64 = .ok (.istore_n 2, 1) := by decide +kernel
theorem dX4_beansMissing_65 : decode cX4_beansMissing 65 = .ok (.iconst 0, 1) := by decide +kernel
theorem dX4_beansMissing_66 : decode cX4_beansMissing 66 = .ok (.istore_n 3, 1) := by decide +kernel
theorem dX4_beansMissing_67 : decode cX4_beansMissing 67 = .ok (.iload_n 3, 1) := by decide +kernel
theorem dX4_beansMissing_68 : decode cX4_beansMissing 68 = .ok (.bipush 6, 2) := by decide +kernel
theorem dX4_beansMissing_70 : decode cX4_beansMissing 70 = .ok (.if_icmp .ge 55, 3) := by decide +kernel
theorem dX4_beansMissing_73 : decode cX4_beansMissing 73 = .ok (.iload_n 3, 1) := by decide +kernel
theorem dX4_beansMissing_74 : decode cX4_beansMissing 74 = .ok (.aload_n 0, 1) := by decide +kernel
theorem dX4_beansMissing_75 : decode cX4_beansMissing 75 = .ok (.getfield 33, 3) := by decide +kernel
theorem dX4_beansMissing_78 : decode cX4_beansMissing 78 = .ok (.if_icmp .eq 41, 3) := by decide +kernel
theorem dX4_beansMissing_81 : decode cX4_beansMissing 81 = .ok (.iload_n 3, 1) := by decide +kernel
theorem dX4_beansMissing_82 : decode cX4_beansMissing 82 = .ok (.iload_n 1, 1) := by decide +kernel
theorem dX4_beansMissing_83 : decode cX4_beansMissing 83 = .ok (.if_icmp .eq 36, 3) := by decide +kernel
theorem dX4_beansMissing_86 : decode cX4_beansMissing 86 = .ok (.aload_n 0, 1) := by decide +kernel
theorem dX4_beansMissing_87 : decode cX4_beansMissing 87 = .ok (.getfield 15, 3) := by decide +kernel
theorem dX4_beansMissing_90 : decode cX4_beansMissing 90 = .ok (.iload_n 3, 1) := by decide +kernel
theorem dX4_beansMissing_91 : decode cX4_beansMissing 91 = .ok (.iaload, 1) := by decide +kernel
theorem dX4_beansMissing_92 : decode cX4_beansMissing 92 = .ok (.aload_n 0, 1) := by decide +kernel
theorem dX4_beansMissing_93 : decode cX4_beansMissing 93 = .ok (.getfield 15, 3) := by decide +kernel
theorem dX4_beansMissing_96 : decode cX4_beansMissing 96 = .ok (.iload_n 1, 1) := by decide +kernel
theorem dX4_beansMissing_97 : decode cX4_beansMissing 97 = .ok (.iaload, 1) := by decide +kernel
theorem dX4_beansMissing_98 : decode cX4_beansMissing 98 = .ok (.isub, 1) := by decide +kernel
theorem dX4_beansMissing_99 : decode cX4_beansMissing 99 = .ok (.iload_n 3, 1) := by decide +kernel
theorem dX4_beansMissing_100 : decode cX4_beansMissing 100 = .ok (.iload_n 1, 1) := by decide +kernel
theorem dX4_beansMissing_101 : decode cX4_beansMissing 101 = .ok (.if_icmp .ge 7, 3) := by decide +kernel
theorem dX4_beansMissing_104 : decode cX4_beansMissing 104 = .ok (.iconst 1, 1) := by decide +kernel
theorem dX4_beansMissing_105 : decode cX4_beansMissing 105 = .ok (.goto 4, 3) := by decide +kernel
theorem dX4_beansMissing_108 : decode cX4_beansMissing 108 = .ok (.iconst 0, 1) := by decide +kernel
theorem dX4_beansMissing_109 : decode cX4_beansMissing 109 = .ok (.iadd, 1) := by decide +kernel
theorem dX4_beansMissing_110 : decode cX4_beansMissing 110 = .ok (.istore 4, 2) := by decide +kernel
theorem dX4_beansMissing_112 : decode cX4_beansMissing 112 = .ok (.iload_n 2, 1) := by decide +kernel
theorem dX4_beansMissing_113 : decode cX4_beansMissing 113 = .ok (.iload 4, 2) := by decide +kernel
theorem dX4_beansMissing_115 : decode cX4_beansMissing 115 = .ok (.invokestatic 44, 3) := by decide +kernel
theorem dX4_beansMissing_118 : decode cX4_beansMissing 118 = .ok (.istore_n 2, 1) := by decide +kernel
theorem dX4_beansMissing_119 : decode cX4_beansMissing 119 = .ok (.iinc 3 1, 3) := by decide +kernel
theorem dX4_beansMissing_122 : decode cX4_beansMissing 122 = .ok (.goto (-55), 3) := by decide +kernel
theorem dX4_beansMissing_125 : decode cX4_beansMissing 125 = .ok (.iload_n 2, 1) := by decide +kernel
theorem dX4_beansMissing_126 : decode cX4_beansMissing 126 = .ok (.aload_n 0, 1) := by decide +kernel
theorem dX4_beansMissing_127 : decode cX4_beansMissing 127 = .ok (.getfield 15, 3) := by decide +kernel
theorem dX4_beansMissing_130 : decode cX4_beansMissing 130 = .ok (.aload_n 0, 1) := by decide +kernel
theorem dX4_beansMissing_131 : decode cX4_beansMissing 131 = .ok (.getfield 33, 3) := by decide +kernel
theorem dX4_beansMissing_134 : decode cX4_beansMissing 134 = .ok (.iaload, 1) := by decide +kernel
theorem dX4_beansMissing_135 : decode cX4_beansMissing 135 = .ok (.if_icmp .gt 7, 3) := by decide +kernel
theorem dX4_beansMissing_138 : decode cX4_beansMissing 138 = .ok (.iload_n 2, 1) := by decide +kernel
theorem dX4_beansMissing_139 : decode cX4_beansMissing 139 = .ok (.goto 4, 3) := by decide +kernel
theorem dX4_beansMissing_142 : decode cX4_beansMissing 142 = .ok (.iconst (-1), 1) := by decide +kernel
theorem dX4_beansMissing_143 : decode cX4_beansMissing 143 = .ok (.ireturn, 1) := by decide +kernel
theorem dX4_pool_0 : decode cX4_pool 0 = .ok (.aload_n 0, 1) := by decide +kernel
theorem dX4_pool_1 : decode cX4_pool 1 = .ok (.iconst 0, 1) := by decide +kernel
theorem dX4_pool_2 : decode cX4_pool 2 = .ok (.putfield 69, 3) := by decide +kernel
theorem dX4_pool_5 : decode cX4_pool 5 = .ok (.iconst 0, 1) := by decide +kernel
theorem dX4_pool_6 : decode cX4_pool 6 = .ok (.istore_n 2, 1) := by decide +kernel
theorem dX4_pool_7 : decode cX4_pool 7 = .ok (.iload_n 2, 1) := by decide +kernel
theorem dX4_pool_8 : decode cX4_pool 8 = .ok (.bipush 6, 2) := by decide +kernel
theorem dX4_pool_10 : decode cX4_pool 10 = .ok (.if_icmp .ge 23, 3) := by decide +kernel
theorem dX4_pool_13 : decode cX4_pool 13 = .ok (.aload_n 0, 1) := by decide +kernel
theorem dX4_pool_14 : decode cX4_pool 14 = .ok (.getfield 15, 3) := by decide +kernel
theorem dX4_pool_17 : decode cX4_pool 17 = .ok (.iload_n 2, 1) := by decide +kernel
theorem dX4_pool_18 : decode cX4_pool 18 = .ok (.iconst 0, 1) := by decide +kernel
theorem dX4_pool_19 : decode cX4_pool 19 = .ok (.iastore, 1) := by decide +kernel
theorem dX4_pool_20 : decode cX4_pool 20 = .ok (.aload_n 0, 1) := by decide +kernel
theorem dX4_pool_21 : decode cX4_pool 21 = .ok (.getfield 18, 3) := by decide +kernel
theorem dX4_pool_24 : decode cX4_pool 24 = .ok (.iload_n 2, 1) := by decide +kernel
theorem dX4_pool_25 : decode cX4_pool 25 = .ok (.iconst 0, 1) := by decide +kernel
theorem dX4_pool_26 : decode cX4_pool 26 = .ok (.iastore, 1) := by decide +kernel
theorem dX4_pool_27 : decode cX4_pool 27 = .ok (.iinc 2 1, 3) := by decide +kernel
theorem dX4_pool_30 : decode cX4_pool 30 = .ok (.goto (-23), 3) := by decide +kernel
theorem dX4_pool_33 : decode cX4_pool 33 = .ok (.iconst 0, 1) := by decide +kernel
theorem dX4_pool_34 : decode cX4_pool 34 = .ok (.istore_n 2, 1) := by decide +kernel
theorem dX4_pool_35 : decode cX4_pool 35 = .ok (.iload_n 2, 1) := by decide +kernel
theorem dX4_pool_36 : decode cX4_pool 36 = .ok (.bipush 6, 2) := by decide +kernel
theorem dX4_pool_38 : decode cX4_pool 38 = .ok (.if_icmp .ge 41, 3) := by decide +kernel
theorem dX4_pool_41 : decode cX4_pool 41 = .ok (.aload_n 0, 1) := by decide +kernel
theorem dX4_pool_42 : decode cX4_pool 42 = .ok (.getfield 15, 3) := by decide +kernel
theorem dX4_pool_45 : decode cX4_pool 45 = .ok (.aload_n 1, 1) := by decide +kernel
theorem dX4_pool_46 : decode cX4_pool 46 = .ok (.iload_n 2, 1) := by decide +kernel
theorem dX4_pool_47 : decode cX4_pool 47 = .ok (.iaload, 1) := by decide +kernel
theorem dX4_pool_48 : decode cX4_pool 48 = .ok (.dup2, 1) := by decide +kernel
theorem dX4_pool_49 : decode cX4_pool 49 = .ok (.iaload, 1) := by decide +kernel
theorem dX4_pool_50 : decode cX4_pool 50 = .ok (.aload_n 0, 1) := by decide +kernel
theorem dX4_pool_51 : decode cX4_pool 51 = .ok (.getfield 9, 3) := by decide +kernel
theorem dX4_pool_54 : decode cX4_pool 54 = .ok (.iload_n 2, 1) := by decide +kernel
theorem dX4_pool_55 : decode cX4_pool 55 = .ok (.iaload, 1) := by decide +kernel
theorem dX4_pool_56 : decode cX4_pool 56 = .ok (.iadd, 1) := by decide +kernel
theorem dX4_pool_57 : decode cX4_pool 57 = .ok (.iastore, 1) := by decide +kernel
theorem dX4_pool_58 : decode cX4_pool 58 = .ok (.aload_n 0, 1) := by decide +kernel
theorem dX4_pool_59 : decode cX4_pool 59 = .ok (.dup, 1) := by decide +kernel
theorem dX4_pool_60 : decode cX4_pool 60 = .ok (.getfield 69, 3) := by decide +kernel
theorem dX4_pool_63 : decode cX4_pool 63 = .ok (.aload_n 0, 1) := by decide +kernel
theorem dX4_pool_64 : decode cX4_pool 64 = .ok (.getfield 9, 3) := by decide +kernel
theorem dX4_pool_67 : decode cX4_pool 67 = .ok (.iload_n 2, 1) := by decide +kernel
theorem dX4_pool_68 : decode cX4_pool 68 = .ok (.iaload, 1) := by decide +kernel
theorem dX4_pool_69 : decode cX4_pool 69 = .ok (.iadd, 1) := by decide +kernel
theorem dX4_pool_70 : decode cX4_pool 70 = .ok (.putfield 69, 3) := by decide +kernel
theorem dX4_pool_73 : decode cX4_pool 73 = .ok (.iinc 2 1, 3) := by decide +kernel
theorem dX4_pool_76 : decode cX4_pool 76 = .ok (.goto (-41), 3) := by decide +kernel
theorem dX4_pool_79 : decode cX4_pool 79 = .ok (.return_, 1) := by decide +kernel
theorem dX4_findFirst_0 : decode cX4_findFirst 0 = .ok (.aload_n 0, 1) := by decide +kernel
theorem dX4_findFirst_1 : decode cX4_findFirst 1 = .ok (.iconst (-1), 1) := by decide +kernel
theorem dX4_findFirst_2 : decode cX4_findFirst 2 = .ok (.putfield 33, 3) := by decide +kernel
theorem dX4_findFirst_5 : decode cX4_findFirst 5 = .ok (.iconst 0, 1) := by decide +kernel
theorem dX4_findFirst_6 : decode cX4_findFirst 6 = .ok (.istore_n 1, 1) := by decide +kernel
theorem dX4_findFirst_7 : decode cX4_findFirst 7 = .ok (.iconst 0, 1) := by decide +kernel
theorem dX4_findFirst_8 : decode cX4_findFirst 8 = .ok (.istore_n 2, 1) := by decide +kernel
theorem dX4_findFirst_9 : decode cX4_findFirst 9 = .ok (.iload_n 2, 1) := by decide +kernel
theorem dX4_findFirst_10 : decode cX4_findFirst 10 = .ok (.bipush 6, 2) := by decide +kernel
theorem dX4_findFirst_12 : decode cX4_findFirst 12 = .ok (.if_icmp .ge 31, 3) := by decide +kernel
theorem dX4_findFirst_15 : decode cX4_findFirst 15 = .ok (.aload_n 0, 1) := by decide +kernel
theorem dX4_findFirst_16 : decode cX4_findFirst 16 = .ok (.getfield 15, 3) := by decide +kernel
theorem dX4_findFirst_19 : decode cX4_findFirst 19 = .ok (.iload_n 2, 1) := by decide +kernel
theorem dX4_findFirst_20 : decode cX4_findFirst 20 = .ok (.iaload, 1) := by decide +kernel
theorem dX4_findFirst_21 : decode cX4_findFirst 21 = .ok (.iload_n 1, 1) := by decide +kernel
theorem dX4_findFirst_22 : decode cX4_findFirst 22 = .ok (.if_icmp .le 15, 3) := by decide +kernel
theorem dX4_findFirst_25 : decode cX4_findFirst 25 = .ok (.aload_n 0, 1) := by decide +kernel
theorem dX4_findFirst_26 : decode cX4_findFirst 26 = .ok (.iload_n 2, 1) := by decide +kernel
theorem dX4_findFirst_27 : decode cX4_findFirst 27 = .ok (.putfield 33, 3) := by decide +kernel
theorem dX4_findFirst_30 : decode cX4_findFirst 30 = .ok (.aload_n 0, 1) := by decide +kernel
theorem dX4_findFirst_31 : decode cX4_findFirst 31 = .ok (.getfield 15, 3) := by decide +kernel
theorem dX4_findFirst_34 : decode cX4_findFirst 34 = .ok (.iload_n 2, 1) := by decide +kernel
theorem dX4_findFirst_35 : decode cX4_findFirst 35 = .ok (.iaload, 1) := by decide +kernel
theorem dX4_findFirst_36 : decode cX4_findFirst 36 = .ok (.istore_n 1, 1) := by decide +kernel
theorem dX4_findFirst_37 : decode cX4_findFirst 37 = .ok (.iinc 2 1, 3) := by decide +kernel
theorem dX4_findFirst_40 : decode cX4_findFirst 40 = .ok (.goto (-31), 3) := by decide +kernel
theorem dX4_findFirst_43 : decode cX4_findFirst 43 = .ok (.iconst 0, 1) := by decide +kernel
theorem dX4_findFirst_44 : decode cX4_findFirst 44 = .ok (.istore_n 2, 1) := by decide +kernel
theorem dX4_findFirst_45 : decode cX4_findFirst 45 = .ok (.iconst 0, 1) := by decide +kernel
theorem dX4_findFirst_46 : decode cX4_findFirst 46 = .ok (.istore_n 3, 1) := by decide +kernel
theorem dX4_findFirst_47 : decode cX4_findFirst 47 = .ok (.iload_n 3, 1) := by decide +kernel
theorem dX4_findFirst_48 : decode cX4_findFirst 48 = .ok (.bipush 6, 2) := by decide +kernel
theorem dX4_findFirst_50 : decode cX4_findFirst 50 = .ok (.if_icmp .ge 34, 3) := by decide +kernel
theorem dX4_findFirst_53 : decode cX4_findFirst 53 = .ok (.iload_n 3, 1) := by decide +kernel
theorem dX4_findFirst_54 : decode cX4_findFirst 54 = .ok (.aload_n 0, 1) := by decide +kernel
theorem dX4_findFirst_55 : decode cX4_findFirst 55 = .ok (.getfield 33, 3) := by decide +kernel
theorem dX4_findFirst_58 : decode cX4_findFirst 58 = .ok (.if_icmp .eq 20, 3) := by decide +kernel
theorem dX4_findFirst_61 : decode cX4_findFirst 61 = .ok (.aload_n 0, 1) := by decide +kernel
theorem dX4_findFirst_62 : decode cX4_findFirst 62 = .ok (.getfield 15, 3) := by decide +kernel
theorem dX4_findFirst_65 : decode cX4_findFirst 65 = .ok (.iload_n 3, 1) := by decide +kernel
theorem dX4_findFirst_66 : decode cX4_findFirst 66 = .ok (.iaload, 1) := by decide +kernel
theorem dX4_findFirst_67 : decode cX4_findFirst 67 = .ok (.iload_n 2, 1) := by decide +kernel
theorem dX4_findFirst_68 : decode cX4_findFirst 68 = .ok (.if_icmp .le 10, 3) := by decide +kernel
theorem dX4_findFirst_71 : decode cX4_findFirst 71 = .ok (.aload_n 0, 1) := by decide +kernel
theorem dX4_findFirst_72 : decode cX4_findFirst 72 = .ok (.getfield 15, 3) := by decide +kernel
theorem dX4_findFirst_75 : decode cX4_findFirst 75 = .ok (.iload_n 3, 1) := by decide +kernel
theorem dX4_findFirst_76 : decode cX4_findFirst 76 = .ok (.iaload, 1) := by decide +kernel
theorem dX4_findFirst_77 : decode cX4_findFirst 77 = .ok (.istore_n 2, 1) := by decide +kernel
theorem dX4_findFirst_78 : decode cX4_findFirst 78 = .ok (.iinc 3 1, 3) := by decide +kernel
theorem dX4_findFirst_81 : decode cX4_findFirst 81 = .ok (.goto (-34), 3) := by decide +kernel
theorem dX4_findFirst_84 : decode cX4_findFirst 84 = .ok (.aload_n 0, 1) := by decide +kernel
theorem dX4_findFirst_85 : decode cX4_findFirst 85 = .ok (.iload_n 1, 1) := by decide +kernel
theorem dX4_findFirst_86 : decode cX4_findFirst 86 = .ok (.iload_n 2, 1) := by decide +kernel
theorem dX4_findFirst_87 : decode cX4_findFirst 87 = .ok (.isub, 1) := by decide +kernel
theorem dX4_findFirst_88 : decode cX4_findFirst 88 = .ok (.putfield 72, 3) := by decide +kernel
theorem dX4_findFirst_91 : decode cX4_findFirst 91 = .ok (.return_, 1) := by decide +kernel
theorem dX4_divideSeats_0 : decode cX4_divideSeats 0 = .ok (.iconst 0, 1) := by decide +kernel
theorem dX4_divideSeats_1 : decode cX4_divideSeats 1 = .ok (.istore_n 1, 1) := by decide +kernel
theorem dX4_divideSeats_2 : decode cX4_divideSeats 2 = .ok (.iload_n 1, 1) := by decide +kernel
theorem dX4_divideSeats_3 : decode cX4_divideSeats 3 = .ok (.aload_n 0, 1) := by decide +kernel
theorem dX4_divideSeats_4 : decode cX4_divideSeats 4 = .ok (.getfield 37, 3) := by decide +kernel
theorem dX4_divideSeats_7 : decode cX4_divideSeats 7 = .ok (.if_icmp .ge 93, 3) := by decide +kernel
theorem dX4_divideSeats_10 : decode cX4_divideSeats 10 = .ok (.aload_n 0, 1) := by decide +kernel
theorem dX4_divideSeats_11 : decode cX4_divideSeats 11 = .ok (.getfield 33, 3) := by decide +kernel
theorem dX4_divideSeats_14 : decode cX4_divideSeats 14 = .ok (.istore_n 2, 1) := by decide +kernel
theorem dX4_divideSeats_15 : decode cX4_divideSeats 15 = .ok (.iconst 0, 1) := by decide +kernel
theorem dX4_divideSeats_16 : decode cX4_divideSeats 16 = .ok (.istore_n 3, 1) := by decide +kernel
theorem dX4_divideSeats_17 : decode cX4_divideSeats 17 = .ok (.iload_n 3, 1) := by decide +kernel
theorem dX4_divideSeats_18 : decode cX4_divideSeats 18 = .ok (.bipush 6, 2) := by decide +kernel
theorem dX4_divideSeats_20 : decode cX4_divideSeats 20 = .ok (.if_icmp .ge 64, 3) := by decide +kernel
theorem dX4_divideSeats_23 : decode cX4_divideSeats 23 = .ok (.aload_n 0, 1) := by decide +kernel
theorem dX4_divideSeats_24 : decode cX4_divideSeats 24 = .ok (.getfield 15, 3) := by decide +kernel
theorem dX4_divideSeats_27 : decode cX4_divideSeats 27 = .ok (.iload_n 3, 1) := by decide +kernel
theorem dX4_divideSeats_28 : decode cX4_divideSeats 28 = .ok (.iaload, 1) := by decide +kernel
theorem dX4_divideSeats_29 : decode cX4_divideSeats 29 = .ok (.aload_n 0, 1) := by decide +kernel
theorem dX4_divideSeats_30 : decode cX4_divideSeats 30 = .ok (.getfield 18, 3) := by decide +kernel
theorem dX4_divideSeats_33 : decode cX4_divideSeats 33 = .ok (.iload_n 2, 1) := by decide +kernel
theorem dX4_divideSeats_34 : decode cX4_divideSeats 34 = .ok (.iaload, 1) := by decide +kernel
theorem dX4_divideSeats_35 : decode cX4_divideSeats 35 = .ok (.iconst 1, 1) := by decide +kernel
theorem dX4_divideSeats_36 : decode cX4_divideSeats 36 = .ok (.iadd, 1) := by decide +kernel
theorem dX4_divideSeats_37 : decode cX4_divideSeats 37 = .ok (.imul, 1) := by decide +kernel
theorem dX4_divideSeats_38 : decode cX4_divideSeats 38 = .ok (.istore 4, 2) := by decide +kernel
theorem dX4_divideSeats_40 : decode cX4_divideSeats 40 = .ok (.aload_n 0, 1) := by decide +kernel
theorem dX4_divideSeats_41 : decode cX4_divideSeats 41 = .ok (.getfield 15, 3) := by decide +kernel
theorem dX4_divideSeats_44 : decode cX4_divideSeats 44 = .ok (.iload_n 2, 1) := by decide +kernel
theorem dX4_divideSeats_45 : decode cX4_divideSeats 45 = .ok (.iaload, 1) := by decide +kernel
theorem dX4_divideSeats_46 : decode cX4_divideSeats 46 = .ok (.aload_n 0, 1) := by decide +kernel
theorem dX4_divideSeats_47 : decode cX4_divideSeats 47 = .ok (.getfield 18, 3) := by decide +kernel
theorem dX4_divideSeats_50 : decode cX4_divideSeats 50 = .ok (.iload_n 3, 1) := by decide +kernel
theorem dX4_divideSeats_51 : decode cX4_divideSeats 51 = .ok (.iaload, 1) := by decide +kernel
theorem dX4_divideSeats_52 : decode cX4_divideSeats 52 = .ok (.iconst 1, 1) := by decide +kernel
theorem dX4_divideSeats_53 : decode cX4_divideSeats 53 = .ok (.iadd, 1) := by decide +kernel
theorem dX4_divideSeats_54 : decode cX4_divideSeats 54 = .ok (.imul, 1) := by decide +kernel
theorem dX4_divideSeats_55 : decode cX4_divideSeats 55 = .ok (.istore 5, 2) := by decide +kernel
theorem dX4_divideSeats_57 : decode cX4_divideSeats 57 = .ok (.iload 4, 2) := by decide +kernel
theorem dX4_divideSeats_59 : decode cX4_divideSeats 59 = .ok (.iload 5, 2) := by decide +kernel
theorem dX4_divideSeats_61 : decode cX4_divideSeats 61 = .ok (.if_icmp .gt 15, 3) := by decide +kernel
theorem dX4_divideSeats_64 : decode cX4_divideSeats 64 = .ok (.iload 4, 2) := by decide +kernel
theorem dX4_divideSeats_66 : decode cX4_divideSeats 66 = .ok (.iload 5, 2) := by decide +kernel
theorem dX4_divideSeats_68 : decode cX4_divideSeats 68 = .ok (.if_icmp .ne 10, 3) := by decide +kernel
theorem dX4_divideSeats_71 : decode cX4_divideSeats 71 = .ok (.iload_n 3, 1) := by decide +kernel
theorem dX4_divideSeats_72 : decode cX4_divideSeats 72 = .ok (.iload_n 2, 1) := by decide +kernel
theorem dX4_divideSeats_73 : decode cX4_divideSeats 73 = .ok (.if_icmp .ge 5, 3) := by decide +kernel
theorem dX4_divideSeats_76 : decode cX4_divideSeats 76 = .ok (.iload_n 3, 1) := by decide +kernel
theorem dX4_divideSeats_77 : decode cX4_divideSeats 77 = .ok (.istore_n 2, 1) := by decide +kernel
theorem dX4_divideSeats_78 : decode cX4_divideSeats 78 = .ok (.iinc 3 1, 3) := by decide +kernel
theorem dX4_divideSeats_81 : decode cX4_divideSeats 81 = .ok (.goto (-64), 3) := by decide +kernel
theorem dX4_divideSeats_84 : decode cX4_divideSeats 84 = .ok (.aload_n 0, 1) := by decide +kernel
theorem dX4_divideSeats_85 : decode cX4_divideSeats 85 = .ok (.getfield 18, 3) := by decide +kernel
theorem dX4_divideSeats_88 : decode cX4_divideSeats 88 = .ok (.iload_n 2, 1) := by decide +kernel
theorem dX4_divideSeats_89 : decode cX4_divideSeats 89 = .ok (.dup2, 1) := by decide +kernel
theorem dX4_divideSeats_90 : decode cX4_divideSeats 90 = .ok (.iaload, 1) := by decide +kernel
theorem dX4_divideSeats_91 : decode cX4_divideSeats 91 = .ok (.iconst 1, 1) := by decide +kernel
theorem dX4_divideSeats_92 : decode cX4_divideSeats 92 = .ok (.iadd, 1) := by decide +kernel
theorem dX4_divideSeats_93 : decode cX4_divideSeats 93 = .ok (.iastore, 1) := by decide +kernel
theorem dX4_divideSeats_94 : decode cX4_divideSeats 94 = .ok (.iinc 1 1, 3) := by decide +kernel
theorem dX4_divideSeats_97 : decode cX4_divideSeats 97 = .ok (.goto (-95), 3) := by decide +kernel
theorem dX4_divideSeats_100 : decode cX4_divideSeats 100 = .ok (.return_, 1) := by decide +kernel
theorem dX4_giveSeatsByQuota_0 : decode cX4_giveSeatsByQuota 0 = .ok (.aload_n 0, 1) := by decide +kernel
theorem dX4_giveSeatsByQuota_1 : decode cX4_giveSeatsByQuota 1 = .ok (.getfield 37, 3) := by decide +kernel
theorem dX4_giveSeatsByQuota_4 : decode cX4_giveSeatsByQuota 4 = .ok (.ifCond .ge 7, 3) := by decide +kernel
theorem dX4_giveSeatsByQuota_7 : decode cX4_giveSeatsByQuota 7 = .ok (.iconst 1, 1) := by decide +kernel
theorem dX4_giveSeatsByQuota_8 : decode cX4_giveSeatsByQuota 8 = .ok (.goto 16, 3) := by decide +kernel
theorem dX4_giveSeatsByQuota_11 : decode cX4_giveSeatsByQuota 11 = .ok (.aload_n 0, 1) := by decide +kernel
theorem dX4_giveSeatsByQuota_12 : decode cX4_giveSeatsByQuota 12 = .ok (.getfield 69, 3) := by decide +kernel
theorem dX4_giveSeatsByQuota_15 : decode cX4_giveSeatsByQuota 15 = .ok (.aload_n 0, 1) := by decide +kernel
theorem dX4_giveSeatsByQuota_16 : decode cX4_giveSeatsByQuota 16 = .ok (.getfield 37, 3) := by decide +kernel
theorem dX4_giveSeatsByQuota_19 : decode cX4_giveSeatsByQuota 19 = .ok (.iconst 1, 1) := by decide +kernel
theorem dX4_giveSeatsByQuota_20 : decode cX4_giveSeatsByQuota 20 = .ok (.iadd, 1) := by decide +kernel
theorem dX4_giveSeatsByQuota_21 : decode cX4_giveSeatsByQuota 21 = .ok (.idiv, 1) := by decide +kernel
theorem dX4_giveSeatsByQuota_22 : decode cX4_giveSeatsByQuota 22 = .ok (.iconst 1, 1) := by decide +kernel
theorem dX4_giveSeatsByQuota_23 : decode cX4_giveSeatsByQuota 23 = .ok (.iadd, 1) := by decide +kernel
theorem dX4_giveSeatsByQuota_24 : decode cX4_giveSeatsByQuota 24 = .ok (.istore_n 1, 1) := by decide +kernel
theorem dX4_giveSeatsByQuota_25 : decode cX4_giveSeatsByQuota 25 = .ok (.iload_n 1, 1) := by decide +kernel
theorem dX4_giveSeatsByQuota_26 : decode cX4_giveSeatsByQuota 26 = .ok (.iconst 1, 1) := by decide +kernel
theorem dX4_giveSeatsByQuota_27 : decode cX4_giveSeatsByQuota 27 = .ok (.if_icmp .ge 4, 3) := by decide +kernel
theorem dX4_giveSeatsByQuota_30 : decode cX4_giveSeatsByQuota 30 = .ok (.return_, 1) := by decide +kernel
theorem dX4_giveSeatsByQuota_31 : decode cX4_giveSeatsByQuota 31 = .ok (.aload_n 0, 1) := by decide +kernel
theorem dX4_giveSeatsByQuota_32 : decode cX4_giveSeatsByQuota 32 = .ok (.getfield 37, 3) := by decide +kernel
theorem dX4_giveSeatsByQuota_35 : decode cX4_giveSeatsByQuota 35 = .ok (.istore_n 2, 1) := by decide +kernel
theorem dX4_giveSeatsByQuota_36 : decode cX4_giveSeatsByQuota 36 = .ok (.iconst 0, 1) := by decide +kernel
theorem dX4_giveSeatsByQuota_37 : decode cX4_giveSeatsByQuota 37 = .ok (.istore_n 3, 1) := by decide +kernel
theorem dX4_giveSeatsByQuota_38 : decode cX4_giveSeatsByQuota 38 = .ok (.iload_n 3, 1) := by decide +kernel
theorem dX4_giveSeatsByQuota_39 : decode cX4_giveSeatsByQuota 39 = .ok (.bipush 6, 2) := by decide +kernel
theorem dX4_giveSeatsByQuota_41 : decode cX4_giveSeatsByQuota 41 = .ok (.if_icmp .ge 53, 3) := by decide +kernel
theorem dX4_giveSeatsByQuota_44 : decode cX4_giveSeatsByQuota 44 = .ok (.aload_n 0, 1) := by decide +kernel
theorem dX4_giveSeatsByQuota_45 : decode cX4_giveSeatsByQuota 45 = .ok (.getfield 18, 3) := by decide +kernel
theorem dX4_giveSeatsByQuota_48 : decode cX4_giveSeatsByQuota 48 = .ok (.iload_n 3, 1) := by decide +kernel
theorem dX4_giveSeatsByQuota_49 : decode cX4_giveSeatsByQuota 49 = .ok (.aload_n 0, 1) := by decide +kernel
theorem dX4_giveSeatsByQuota_50 : decode cX4_giveSeatsByQuota 50 = .ok (.getfield 15, 3) := by decide +kernel
theorem dX4_giveSeatsByQuota_53 : decode cX4_giveSeatsByQuota 53 = .ok (.iload_n 3, 1) := by decide +kernel
theorem dX4_giveSeatsByQuota_54 : decode cX4_giveSeatsByQuota 54 = .ok (.iaload, 1) := by decide +kernel
theorem dX4_giveSeatsByQuota_55 : decode cX4_giveSeatsByQuota 55 = .ok (.iload_n 1, 1) := by decide +kernel
theorem dX4_giveSeatsByQuota_56 : decode cX4_giveSeatsByQuota 56 = .ok (.idiv, 1) := by decide +kernel
theorem dX4_giveSeatsByQuota_57 : decode cX4_giveSeatsByQuota 57 = .ok (.iastore, 1) := by decide +kernel
theorem dX4_giveSeatsByQuota_58 : decode cX4_giveSeatsByQuota 58 = .ok (.aload_n 0, 1) := by decide +kernel
theorem dX4_giveSeatsByQuota_59 : decode cX4_giveSeatsByQuota 59 = .ok (.getfield 21, 3) := by decide +kernel
theorem dX4_giveSeatsByQuota_62 : decode cX4_giveSeatsByQuota 62 = .ok (.iload_n 3, 1) := by decide +kernel
theorem dX4_giveSeatsByQuota_63 : decode cX4_giveSeatsByQuota 63 = .ok (.aload_n 0, 1) := by decide +kernel
theorem dX4_giveSeatsByQuota_64 : decode cX4_giveSeatsByQuota 64 = .ok (.getfield 15, 3) := by decide +kernel
theorem dX4_giveSeatsByQuota_67 : decode cX4_giveSeatsByQuota 67 = .ok (.iload_n 3, 1) := by decide +kernel
theorem dX4_giveSeatsByQuota_68 : decode cX4_giveSeatsByQuota 68 = .ok (.iaload, 1) := by decide +kernel
theorem dX4_giveSeatsByQuota_69 : decode cX4_giveSeatsByQuota 69 = .ok (.aload_n 0, 1) := by decide +kernel
theorem dX4_giveSeatsByQuota_70 : decode cX4_giveSeatsByQuota 70 = .ok (.getfield 18, 3) := by decide +kernel
theorem dX4_giveSeatsByQuota_73 : decode cX4_giveSeatsByQuota 73 = .ok (.iload_n 3, 1) := by decide +kernel
theorem dX4_giveSeatsByQuota_74 : decode cX4_giveSeatsByQuota 74 = .ok (.iaload, 1) := by decide +kernel
theorem dX4_giveSeatsByQuota_75 : decode cX4_giveSeatsByQuota 75 = .ok (.iload_n 1, 1) := by decide +kernel
theorem dX4_giveSeatsByQuota_76 : decode cX4_giveSeatsByQuota 76 = .ok (.imul, 1) := by decide +kernel
theorem dX4_giveSeatsByQuota_77 : decode cX4_giveSeatsByQuota 77 = .ok (.isub, 1) := by decide +kernel
theorem dX4_giveSeatsByQuota_78 : decode cX4_giveSeatsByQuota 78 = .ok (.iastore, 1) := by decide +kernel
theorem dX4_giveSeatsByQuota_79 : decode cX4_giveSeatsByQuota 79 = .ok (.iload_n 2, 1) := by decide +kernel
theorem dX4_giveSeatsByQuota_80 : decode cX4_giveSeatsByQuota 80 = .ok (.aload_n 0, 1) := by decide +kernel
theorem dX4_giveSeatsByQuota_81 : decode cX4_giveSeatsByQuota 81 = .ok (.getfield 18, 3) := by decide +kernel
theorem dX4_giveSeatsByQuota_84 : decode cX4_giveSeatsByQuota 84 = .ok (.iload_n 3, 1) := by decide +kernel
theorem dX4_giveSeatsByQuota_85 : decode cX4_giveSeatsByQuota 85 = .ok (.iaload, 1) := by decide +kernel
theorem dX4_giveSeatsByQuota_86 : decode cX4_giveSeatsByQuota 86 = .ok (.isub, 1) := by decide +kernel
theorem dX4_giveSeatsByQuota_87 : decode cX4_giveSeatsByQuota 87 = .ok (.istore_n 2, 1) := by decide +kernel
theorem dX4_giveSeatsByQuota_88 : decode cX4_giveSeatsByQuota 88 = .ok (.iinc 3 1, 3) := by decide +kernel
theorem dX4_giveSeatsByQuota_91 : decode cX4_giveSeatsByQuota 91 = .ok (.goto (-53), 3) := by decide +kernel
theorem dX4_giveSeatsByQuota_94 : decode cX4_giveSeatsByQuota 94 = .ok (.iload_n 2, 1) := by decide +kernel
theorem dX4_giveSeatsByQuota_95 : decode cX4_giveSeatsByQuota 95 = .ok (.ifCond .le 72, 3) := by decide +kernel
theorem dX4_giveSeatsByQuota_98 : decode cX4_giveSeatsByQuota 98 = .ok (.iconst 0, 1) := by decide +kernel
theorem dX4_giveSeatsByQuota_99 : decode cX4_giveSeatsByQuota 99 = .ok (.istore_n 3, 1) := by decide +kernel
theorem dX4_giveSeatsByQuota_100 : decode cX4_giveSeatsByQuota 100 = .ok (.iconst 1, 1) := by decide +kernel
theorem dX4_giveSeatsByQuota_101 : decode cX4_giveSeatsByQuota 101 = .ok (.istore 4, 2) := by decide +kernel
theorem dX4_giveSeatsByQuota_103 : decode cX4_giveSeatsByQuota 103 = .ok (.iload 4, 2) := by decide +kernel
theorem dX4_giveSeatsByQuota_105 : decode cX4_giveSeatsByQuota 105 = .ok (.bipush 6, 2) := by decide +kernel
theorem dX4_giveSeatsByQuota_107 : decode cX4_giveSeatsByQuota 107 = .ok (.if_icmp .ge 28, 3) := by decide +kernel
theorem dX4_giveSeatsByQuota_110 : decode cX4_giveSeatsByQuota 110 = .ok (.aload_n 0, 1) := by decide +kernel
theorem dX4_giveSeatsByQuota_111 : decode cX4_giveSeatsByQuota 111 = .ok (.getfield 21, 3) := by decide +kernel
theorem dX4_giveSeatsByQuota_114 : decode cX4_giveSeatsByQuota 114 = .ok (.iload 4, 2) := by decide +kernel
theorem dX4_giveSeatsByQuota_116 : decode cX4_giveSeatsByQuota 116 = .ok (.iaload, 1) := by decide +kernel
theorem dX4_giveSeatsByQuota_117 : decode cX4_giveSeatsByQuota 117 = .ok (.aload_n 0, 1) := by decide +kernel
theorem dX4_giveSeatsByQuota_118 : decode cX4_giveSeatsByQuota 118 = .ok (.getfield 21, 3) := by decide +kernel
theorem dX4_giveSeatsByQuota_121 : decode cX4_giveSeatsByQuota 121 = .ok (.iload_n 3, 1) := by decide +kernel
theorem dX4_giveSeatsByQuota_122 : decode cX4_giveSeatsByQuota 122 = .ok (.iaload, 1) := by decide +kernel
theorem dX4_giveSeatsByQuota_123 : decode cX4_giveSeatsByQuota 123 = .ok (.if_icmp .le 6, 3) := by decide +kernel
theorem dX4_giveSeatsByQuota_126 : decode cX4_giveSeatsByQuota 126 = .ok (.iload 4, 2) := by decide +kernel
theorem dX4_giveSeatsByQuota_128 : decode cX4_giveSeatsByQuota 128 = .ok (.istore_n 3, 1) := by decide +kernel
theorem dX4_giveSeatsByQuota_129 : decode cX4_giveSeatsByQuota 129 = .ok (.iinc 4 1, 3) := by decide +kernel
theorem dX4_giveSeatsByQuota_132 : decode cX4_giveSeatsByQuota 132 = .ok (.goto (-29), 3) := by decide +kernel
theorem dX4_giveSeatsByQuota_135 : decode cX4_giveSeatsByQuota 135 = .ok (.aload_n 0, 1) := by decide +kernel
theorem dX4_giveSeatsByQuota_136 : decode cX4_giveSeatsByQuota 136 = .ok (.getfield 21, 3) := by decide +kernel
theorem dX4_giveSeatsByQuota_139 : decode cX4_giveSeatsByQuota 139 = .ok (.iload_n 3, 1) := by decide +kernel
theorem dX4_giveSeatsByQuota_140 : decode cX4_giveSeatsByQuota 140 = .ok (.iaload, 1) := by decide +kernel
theorem dX4_giveSeatsByQuota_141 : decode cX4_giveSeatsByQuota 141 = .ok (.ifCond .le 20, 3) := by decide +kernel
theorem dX4_giveSeatsByQuota_144 : decode cX4_giveSeatsByQuota 144 = .ok (.aload_n 0, 1) := by decide +kernel
theorem dX4_giveSeatsByQuota_145 : decode cX4_giveSeatsByQuota 145 = .ok (.getfield 18, 3) := by decide +kernel
theorem dX4_giveSeatsByQuota_148 : decode cX4_giveSeatsByQuota 148 = .ok (.iload_n 3, 1) := by decide +kernel
theorem dX4_giveSeatsByQuota_149 : decode cX4_giveSeatsByQuota 149 = .ok (.dup2, 1) := by decide +kernel
theorem dX4_giveSeatsByQuota_150 : decode cX4_giveSeatsByQuota 150 = .ok (.iaload, 1) := by decide +kernel
theorem dX4_giveSeatsByQuota_151 : decode cX4_giveSeatsByQuota 151 = .ok (.iconst 1, 1) := by decide +kernel
theorem dX4_giveSeatsByQuota_152 : decode cX4_giveSeatsByQuota 152 = .ok (.iadd, 1) := by decide +kernel
theorem dX4_giveSeatsByQuota_153 : decode cX4_giveSeatsByQuota 153 = .ok (.iastore, 1) := by decide +kernel
theorem dX4_giveSeatsByQuota_154 : decode cX4_giveSeatsByQuota 154 = .ok (.aload_n 0, 1) := by decide +kernel
theorem dX4_giveSeatsByQuota_155 : decode cX4_giveSeatsByQuota 155 = .ok (.getfield 21, 3) := by decide +kernel
theorem dX4_giveSeatsByQuota_158 : decode cX4_giveSeatsByQuota 158 = .ok (.iload_n 3, 1) := by decide +kernel
theorem dX4_giveSeatsByQuota_159 : decode cX4_giveSeatsByQuota 159 = .ok (.iconst 0, 1) := by decide +kernel
theorem dX4_giveSeatsByQuota_160 : decode cX4_giveSeatsByQuota 160 = .ok (.iastore, 1) := by decide +kernel
theorem dX4_giveSeatsByQuota_161 : decode cX4_giveSeatsByQuota 161 = .ok (.iinc 2 (-1), 3) := by decide +kernel
theorem dX4_giveSeatsByQuota_164 : decode cX4_giveSeatsByQuota 164 = .ok (.goto (-70), 3) := by decide +kernel
theorem dX4_giveSeatsByQuota_167 : decode cX4_giveSeatsByQuota 167 = .ok (.return_, 1) := by decide +kernel
