theorem dX0_init_0 : decode cX0_init 0 = .ok (.aload_n 0, 1) := by decide +kernel
theorem dX0_init_1 : decode cX0_init 1 = .ok (.invokespecial 3, 3) := by decide +kernel
theorem dX0_init_4 : decode cX0_init 4 = .ok (.aload_n 0, 1) := by decide +kernel
theorem dX0_init_5 : decode cX0_init 5 = .ok (.bipush 8, 2) := by decide +kernel
theorem dX0_init_7 : decode cX0_init 7 = .ok (.newarray .int, 2) := by decide +kernel
theorem dX0_init_9 : decode cX0_init 9 = .ok (.putfield 9, 3) := by decide +kernel
theorem dX0_init_12 : decode cX0_init 12 = .ok (.aload_n 0, 1) := by decide +kernel
theorem dX0_init_13 : decode cX0_init 13 = .ok (.bipush 8, 2) := by decide +kernel
theorem dX0_init_15 : decode cX0_init 15 = .ok (.newarray .int, 2) := by decide +kernel
theorem dX0_init_17 : decode cX0_init 17 = .ok (.putfield 15, 3) := by decide +kernel
theorem dX0_init_20 : decode cX0_init 20 = .ok (.aload_n 0, 1) := by decide +kernel
theorem dX0_init_21 : decode cX0_init 21 = .ok (.iconst 1, 1) := by decide +kernel
theorem dX0_init_22 : decode cX0_init 22 = .ok (.putfield 18, 3) := by decide +kernel
theorem dX0_init_25 : decode cX0_init 25 = .ok (.return_, 1) := by decide +kernel
theorem dX0_clear_0 : decode cX0_clear 0 = .ok (.aload_n 0, 1) := by decide +kernel
theorem dX0_clear_1 : decode cX0_clear 1 = .ok (.iconst 0, 1) := by decide +kernel
theorem dX0_clear_2 : decode cX0_clear 2 = .ok (.putfield 22, 3) := by decide +kernel
theorem dX0_clear_5 : decode cX0_clear 5 = .ok (.aload_n 0, 1) := by decide +kernel
theorem dX0_clear_6 : decode cX0_clear 6 = .ok (.iconst 0, 1) := by decide +kernel
theorem dX0_clear_7 : decode cX0_clear 7 = .ok (.putfield 25, 3) := by decide +kernel
theorem dX0_clear_10 : decode cX0_clear 10 = .ok (.aload_n 0, 1) := by decide +kernel
theorem dX0_clear_11 : decode cX0_clear 11 = .ok (.iconst 0, 1) := by decide +kernel
theorem dX0_clear_12 : decode cX0_clear 12 = .ok (.putfield 29, 3) := by decide +kernel
theorem dX0_clear_15 : decode cX0_clear 15 = .ok (.aload_n 0, 1) := by decide +kernel
theorem dX0_clear_16 : decode cX0_clear 16 = .ok (.iconst 0, 1) := by decide +kernel
theorem dX0_clear_17 : decode cX0_clear 17 = .ok (.putfield 32, 3) := by decide +kernel
theorem dX0_clear_20 : decode cX0_clear 20 = .ok (.aload_n 0, 1) := by decide +kernel
theorem dX0_clear_21 : decode cX0_clear 21 = .ok (.iconst 0, 1) := by decide +kernel
theorem dX0_clear_22 : decode cX0_clear 22 = .ok (.putfield 35, 3) := by decide +kernel
theorem dX0_clear_25 : decode cX0_clear 25 = .ok (.aload_n 0, 1) := by decide +kernel
theorem dX0_clear_26 : decode cX0_clear 26 = .ok (.iconst 1, 1) := by decide +kernel
theorem dX0_clear_27 : decode cX0_clear 27 = .ok (.putfield 18, 3) := by decide +kernel
theorem dX0_clear_30 : decode cX0_clear 30 = .ok (.aload_n 0, 1) := by decide +kernel
theorem dX0_clear_31 : decode cX0_clear 31 = .ok (.iconst 0, 1) := by decide +kernel
theorem dX0_clear_32 : decode cX0_clear 32 = .ok (.putfield 38, 3) := by decide +kernel
theorem dX0_clear_35 : decode cX0_clear 35 = .ok (.aload_n 0, 1) := by decide +kernel
theorem dX0_clear_36 : decode cX0_clear 36 = .ok (.iconst 0, 1) := by decide +kernel
theorem dX0_clear_37 : decode cX0_clear 37 = .ok (.putfield 41, 3) := by decide +kernel
theorem dX0_clear_40 : decode cX0_clear 40 = .ok (.aload_n 0, 1) := by decide +kernel
theorem dX0_clear_41 : decode cX0_clear 41 = .ok (.iconst 0, 1) := by decide +kernel
theorem dX0_clear_42 : decode cX0_clear 42 = .ok (.putfield 44, 3) := by decide +kernel
theorem dX0_clear_45 : decode cX0_clear 45 = .ok (.return_, 1) := by decide +kernel
theorem dX0_load_0 : decode cX0_load 0 = .ok (.iconst 0, 1) := by decide +kernel
theorem dX0_load_1 : decode cX0_load 1 = .ok (.istore_n 1, 1) := by decide +kernel
theorem dX0_load_2 : decode cX0_load 2 = .ok (.iconst 0, 1) := by decide +kernel
theorem dX0_load_3 : decode cX0_load 3 = .ok (.istore_n 2, 1) := by decide +kernel
theorem dX0_load_4 : decode cX0_load 4 = .ok (.iload_n 2, 1) := by decide +kernel
theorem dX0_load_5 : decode cX0_load 5 = .ok (.aload_n 0, 1) := by decide +kernel
theorem dX0_load_6 : decode cX0_load 6 = .ok (.getfield 22, 3) := by decide +kernel
theorem dX0_load_9 : decode cX0_load 9 = .ok (.if_icmp .ge 18, 3) := by decide +kernel
theorem dX0_load_12 : decode cX0_load 12 = .ok (.iload_n 1, 1) := by decide +kernel
theorem dX0_load_13 : decode cX0_load 13 = .ok (.aload_n 0, 1) := by decide +kernel
theorem dX0_load_14 : decode cX0_load 14 = .ok (.getfield 15, 3) := by decide +kernel
theorem dX0_load_17 : decode cX0_load 17 = .ok (.iload_n 2, 1) := by decide +kernel
theorem dX0_load_18 : decode cX0_load 18 = .ok (.iaload, 1) := by decide +kernel
theorem dX0_load_19 : decode cX0_load 19 = .ok (.iadd, 1) := by decide +kernel
theorem dX0_load_20 : decode cX0_load 20 = .ok (.istore_n 1, 1) := by decide +kernel
theorem dX0_load_21 : decode cX0_load 21 = .ok (.iinc 2 1, 3) := by decide +kernel
theorem dX0_load_24 : decode cX0_load 24 = .ok (.goto (-20), 3) := by decide +kernel
theorem dX0_load_27 : decode cX0_load 27 = .ok (.iload_n 1, 1) := by decide +kernel
theorem dX0_load_28 : decode cX0_load 28 = .ok (.ireturn, 1) := by decide +kernel
theorem dX0_append_0 : decode cX0_append 0 = .ok (.aload_n 0, 1) := by decide +kernel
theorem dX0_append_1 : decode cX0_append 1 = .ok (.getfield 9, 3) := by decide +kernel
theorem dX0_append_4 : decode cX0_append 4 = .ok (.aload_n 0, 1) := by decide +kernel
theorem dX0_append_5 : decode cX0_append 5 = .ok (.getfield 22, 3) := by decide +kernel
theorem dX0_append_8 : decode cX0_append 8 = .ok (.iload_n 1, 1) := by decide +kernel
theorem dX0_append_9 : decode cX0_append 9 = .ok (.iastore, 1) := by decide +kernel
theorem dX0_append_10 : decode cX0_append 10 = .ok (.aload_n 0, 1) := by decide +kernel
theorem dX0_append_11 : decode cX0_append 11 = .ok (.getfield 15, 3) := by decide +kernel
theorem dX0_append_14 : decode cX0_append 14 = .ok (.aload_n 0, 1) := by decide +kernel
theorem dX0_append_15 : decode cX0_append 15 = .ok (.getfield 22, 3) := by decide +kernel
theorem dX0_append_18 : decode cX0_append 18 = .ok (.iload_n 2, 1) := by decide +kernel
theorem dX0_append_19 : decode cX0_append 19 = .ok (.iastore, 1) := by decide +kernel
theorem dX0_append_20 : decode cX0_append 20 = .ok (.aload_n 0, 1) := by decide +kernel
theorem dX0_append_21 : decode cX0_append 21 = .ok (.dup, 1) := by decide +kernel
theorem dX0_append_22 : decode cX0_append 22 = .ok (.getfield 22, 3) := by decide +kernel
theorem dX0_append_25 : decode cX0_append 25 = .ok (.iconst 1, 1) := by decide +kernel
theorem dX0_append_26 : decode cX0_append 26 = .ok (.iadd, 1) := by decide +kernel
theorem dX0_append_27 : decode cX0_append 27 = .ok (.putfield 22, 3) := by decide +kernel
theorem dX0_append_30 : decode cX0_append 30 = .ok (.return_, 1) := by decide +kernel
theorem dX0_sendBlock_0 : decode cX0_sendBlock 0 = .ok (.aload_n 0, 1) := by decide +kernel
theorem dX0_sendBlock_1 : decode cX0_sendBlock 1 = .ok (.getfield 15, 3) := by decide +kernel
theorem dX0_sendBlock_4 : decode cX0_sendBlock 4 = .ok (.iconst 0, 1) := by decide +kernel
theorem dX0_sendBlock_5 : decode cX0_sendBlock 5 = .ok (.dup2, 1) := by decide +kernel
theorem dX0_sendBlock_6 : decode cX0_sendBlock 6 = .ok (.iaload, 1) := by decide +kernel
theorem dX0_sendBlock_7 : decode cX0_sendBlock 7 = .ok (.iconst 1, 1) := by decide +kernel
theorem dX0_sendBlock_8 : decode cX0_sendBlock 8 = .ok (.isub, 1) := by decide +kernel
theorem dX0_sendBlock_9 : decode cX0_sendBlock 9 = .ok (.iastore, 1) := by decide +kernel
theorem dX0_sendBlock_10 : decode cX0_sendBlock 10 = .ok (.iload_n 1, 1) := by decide +kernel
theorem dX0_sendBlock_11 : decode cX0_sendBlock 11 = .ok (.ifCond .eq 8, 3) := by decide +kernel
theorem dX0_sendBlock_14 : decode cX0_sendBlock 14 = .ok (.aload_n 0, 1) := by decide +kernel
theorem dX0_sendBlock_15 : decode cX0_sendBlock 15 = .ok (.iconst 1, 1) := by decide +kernel
theorem dX0_sendBlock_16 : decode cX0_sendBlock 16 = .ok (.putfield 25, 3) := by decide +kernel
theorem dX0_sendBlock_19 : decode cX0_sendBlock 19 = .ok (.return_, 1) := by decide +kernel
theorem dX0_dropFirst_0 : decode cX0_dropFirst 0 = .ok (.aload_n 0, 1) := by decide +kernel
theorem dX0_dropFirst_1 : decode cX0_dropFirst 1 = .ok (.dup, 1) := by decide +kernel
theorem dX0_dropFirst_2 : decode cX0_dropFirst 2 = .ok (.getfield 22, 3) := by decide +kernel
theorem dX0_dropFirst_5 : decode cX0_dropFirst 5 = .ok (.iconst 1, 1) := by decide +kernel
theorem dX0_dropFirst_6 : decode cX0_dropFirst 6 = .ok (.isub, 1) := by decide +kernel
theorem dX0_dropFirst_7 : decode cX0_dropFirst 7 = .ok (.putfield 22, 3) := by decide +kernel
theorem dX0_dropFirst_10 : decode cX0_dropFirst 10 = .ok (.iconst 0, 1) := by decide +kernel
theorem dX0_dropFirst_11 : decode cX0_dropFirst 11 = .ok (.istore_n 1, 1) := by decide +kernel
theorem dX0_dropFirst_12 : decode cX0_dropFirst 12 = .ok (.iload_n 1, 1) := by decide +kernel
theorem dX0_dropFirst_13 : decode cX0_dropFirst 13 = .ok (.aload_n 0, 1) := by decide +kernel
theorem dX0_dropFirst_14 : decode cX0_dropFirst 14 = .ok (.getfield 22, 3) := by decide +kernel
theorem dX0_dropFirst_17 : decode cX0_dropFirst 17 = .ok (.if_icmp .ge 37, 3) := by decide +kernel
theorem dX0_dropFirst_20 : decode cX0_dropFirst 20 = .ok (.aload_n 0, 1) := by decide +kernel
theorem dX0_dropFirst_21 : decode cX0_dropFirst 21 = .ok (.getfield 9, 3) := by decide +kernel
theorem dX0_dropFirst_24 : decode cX0_dropFirst 24 = .ok (.iload_n 1, 1) := by decide +kernel
theorem dX0_dropFirst_25 : decode cX0_dropFirst 25 = .ok (.aload_n 0, 1) := by decide +kernel
theorem dX0_dropFirst_26 : decode cX0_dropFirst 26 = .ok (.getfield 9, 3) := by decide +kernel
theorem dX0_dropFirst_29 : decode cX0_dropFirst 29 = .ok (.iload_n 1, 1) := by decide +kernel
theorem dX0_dropFirst_30 : decode cX0_dropFirst 30 = .ok (.iconst 1, 1) := by decide +kernel
theorem dX0_dropFirst_31 : decode cX0_dropFirst 31 = .ok (.iadd, 1) := by decide +kernel
theorem dX0_dropFirst_32 : decode cX0_dropFirst 32 = .ok (.iaload, 1) := by decide +kernel
theorem dX0_dropFirst_33 : decode cX0_dropFirst 33 = .ok (.iastore, 1) := by decide +kernel
theorem dX0_dropFirst_34 : decode cX0_dropFirst 34 = .ok (.aload_n 0, 1) := by decide +kernel
theorem dX0_dropFirst_35 : decode cX0_dropFirst 35 = .ok (.getfield 15, 3) := by decide +kernel
theorem dX0_dropFirst_38 : decode cX0_dropFirst 38 = .ok (.iload_n 1, 1) := by decide +kernel
theorem dX0_dropFirst_39 : decode cX0_dropFirst 39 = .ok (.aload_n 0, 1) := by decide +kernel
theorem dX0_dropFirst_40 : decode cX0_dropFirst 40 = .ok (.getfield 15, 3) := by decide +kernel
theorem dX0_dropFirst_43 : decode cX0_dropFirst 43 = .ok (.iload_n 1, 1) := by decide +kernel
theorem dX0_dropFirst_44 : decode cX0_dropFirst 44 = .ok (.iconst 1, 1) := by decide +kernel
theorem dX0_dropFirst_45 : decode cX0_dropFirst 45 = .ok (.iadd, 1) := by decide +kernel
theorem dX0_dropFirst_46 : decode cX0_dropFirst 46 = .ok (.iaload, 1) := by decide +kernel
theorem dX0_dropFirst_47 : decode cX0_dropFirst 47 = .ok (.iastore, 1) := by decide +kernel
theorem dX0_dropFirst_48 : decode cX0_dropFirst 48 = .ok (.iinc 1 1, 3) := by decide +kernel
theorem dX0_dropFirst_51 : decode cX0_dropFirst 51 = .ok (.goto (-39), 3) := by decide +kernel
theorem dX0_dropFirst_54 : decode cX0_dropFirst 54 = .ok (.aload_n 0, 1) := by decide +kernel
theorem dX0_dropFirst_55 : decode cX0_dropFirst 55 = .ok (.iconst 0, 1) := by decide +kernel
theorem dX0_dropFirst_56 : decode cX0_dropFirst 56 = .ok (.putfield 25, 3) := by decide +kernel
theorem dX0_dropFirst_59 : decode cX0_dropFirst 59 = .ok (.return_, 1) := by decide +kernel
theorem dX0_giveContracted_0 : decode cX0_giveContracted 0 = .ok (.aload_n 0, 1) := by decide +kernel
theorem dX0_giveContracted_1 : decode cX0_giveContracted 1 = .ok (.iconst 0, 1) := by decide +kernel
theorem dX0_giveContracted_2 : decode cX0_giveContracted 2 = .ok (.putfield 44, 3) := by decide +kernel
theorem dX0_giveContracted_5 : decode cX0_giveContracted 5 = .ok (.aload_n 0, 1) := by decide +kernel
theorem dX0_giveContracted_6 : decode cX0_giveContracted 6 = .ok (.iload_n 1, 1) := by decide +kernel
theorem dX0_giveContracted_7 : decode cX0_giveContracted 7 = .ok (.ifCond .eq 31, 3) := by decide +kernel
theorem dX0_giveContracted_10 : decode cX0_giveContracted 10 = .ok (.aload_n 0, 1) := by decide +kernel
theorem dX0_giveContracted_11 : decode cX0_giveContracted 11 = .ok (.getfield 29, 3) := by decide +kernel
theorem dX0_giveContracted_14 : decode cX0_giveContracted 14 = .ok (.aload_n 0, 1) := by decide +kernel
theorem dX0_giveContracted_15 : decode cX0_giveContracted 15 = .ok (.getfield 32, 3) := by decide +kernel
theorem dX0_giveContracted_18 : decode cX0_giveContracted 18 = .ok (.iconst 0, 1) := by decide +kernel
theorem dX0_giveContracted_19 : decode cX0_giveContracted 19 = .ok (.aload_n 0, 1) := by decide +kernel
theorem dX0_giveContracted_20 : decode cX0_giveContracted 20 = .ok (.getfield 38, 3) := by decide +kernel
theorem dX0_giveContracted_23 : decode cX0_giveContracted 23 = .ok (.aload_n 0, 1) := by decide +kernel
theorem dX0_giveContracted_24 : decode cX0_giveContracted 24 = .ok (.getfield 29, 3) := by decide +kernel
theorem dX0_giveContracted_27 : decode cX0_giveContracted 27 = .ok (.isub, 1) := by decide +kernel
theorem dX0_giveContracted_28 : decode cX0_giveContracted 28 = .ok (.invokestatic 47, 3) := by decide +kernel
theorem dX0_giveContracted_31 : decode cX0_giveContracted 31 = .ok (.invokestatic 53, 3) := by decide +kernel
theorem dX0_giveContracted_34 : decode cX0_giveContracted 34 = .ok (.iadd, 1) := by decide +kernel
theorem dX0_giveContracted_35 : decode cX0_giveContracted 35 = .ok (.goto 4, 3) := by decide +kernel
theorem dX0_giveContracted_38 : decode cX0_giveContracted 38 = .ok (.iconst 0, 1) := by decide +kernel
theorem dX0_giveContracted_39 : decode cX0_giveContracted 39 = .ok (.putfield 41, 3) := by decide +kernel
theorem dX0_giveContracted_42 : decode cX0_giveContracted 42 = .ok (.return_, 1) := by decide +kernel
theorem dX0_wants_0 : decode cX0_wants 0 = .ok (.aload_n 0, 1) := by decide +kernel
theorem dX0_wants_1 : decode cX0_wants 1 = .ok (.getfield 41, 3) := by decide +kernel
theorem dX0_wants_4 : decode cX0_wants 4 = .ok (.aload_n 0, 1) := by decide +kernel
theorem dX0_wants_5 : decode cX0_wants 5 = .ok (.getfield 35, 3) := by decide +kernel
theorem dX0_wants_8 : decode cX0_wants 8 = .ok (.if_icmp .ge 18, 3) := by decide +kernel
theorem dX0_wants_11 : decode cX0_wants 11 = .ok (.aload_n 0, 1) := by decide +kernel
theorem dX0_wants_12 : decode cX0_wants 12 = .ok (.getfield 41, 3) := by decide +kernel
theorem dX0_wants_15 : decode cX0_wants 15 = .ok (.aload_n 0, 1) := by decide +kernel
theorem dX0_wants_16 : decode cX0_wants 16 = .ok (.getfield 38, 3) := by decide +kernel
theorem dX0_wants_19 : decode cX0_wants 19 = .ok (.if_icmp .ge 7, 3) := by decide +kernel
theorem dX0_wants_22 : decode cX0_wants 22 = .ok (.iconst 1, 1) := by decide +kernel
theorem dX0_wants_23 : decode cX0_wants 23 = .ok (.goto 4, 3) := by decide +kernel
theorem dX0_wants_26 : decode cX0_wants 26 = .ok (.iconst 0, 1) := by decide +kernel
theorem dX0_wants_27 : decode cX0_wants 27 = .ok (.ireturn, 1) := by decide +kernel
theorem dX0_hasLessSpareThan_0 : decode cX0_hasLessSpareThan 0 = .ok (.aload_n 0, 1) := by decide +kernel
theorem dX0_hasLessSpareThan_1 : decode cX0_hasLessSpareThan 1 = .ok (.getfield 44, 3) := by decide +kernel
theorem dX0_hasLessSpareThan_4 : decode cX0_hasLessSpareThan 4 = .ok (.aload_n 1, 1) := by decide +kernel
theorem dX0_hasLessSpareThan_5 : decode cX0_hasLessSpareThan 5 = .ok (.getfield 18, 3) := by decide +kernel
theorem dX0_hasLessSpareThan_8 : decode cX0_hasLessSpareThan 8 = .ok (.imul, 1) := by decide +kernel
theorem dX0_hasLessSpareThan_9 : decode cX0_hasLessSpareThan 9 = .ok (.aload_n 1, 1) := by decide +kernel
theorem dX0_hasLessSpareThan_10 : decode cX0_hasLessSpareThan 10 = .ok (.getfield 44, 3) := by decide +kernel
theorem dX0_hasLessSpareThan_13 : decode cX0_hasLessSpareThan 13 = .ok (.aload_n 0, 1) := by decide +kernel
theorem dX0_hasLessSpareThan_14 : decode cX0_hasLessSpareThan 14 = .ok (.getfield 18, 3) := by decide +kernel
theorem dX0_hasLessSpareThan_17 : decode cX0_hasLessSpareThan 17 = .ok (.imul, 1) := by decide +kernel
theorem dX0_hasLessSpareThan_18 : decode cX0_hasLessSpareThan 18 = .ok (.if_icmp .ge 7, 3) := by decide +kernel
theorem dX0_hasLessSpareThan_21 : decode cX0_hasLessSpareThan 21 = .ok (.iconst 1, 1) := by decide +kernel
theorem dX0_hasLessSpareThan_22 : decode cX0_hasLessSpareThan 22 = .ok (.goto 4, 3) := by decide +kernel
theorem dX0_hasLessSpareThan_25 : decode cX0_hasLessSpareThan 25 = .ok (.iconst 0, 1) := by decide +kernel
theorem dX0_hasLessSpareThan_26 : decode cX0_hasLessSpareThan 26 = .ok (.ireturn, 1) := by decide +kernel
set_option maxRecDepth 20000 in
theorem ggX1_init_X0_init : GoodIn wsX1_init wsX0_init := goodIn_r _ [9, 10, 2, 3, 11, 12, 13, 14, 30, 31, 32, 33, 34, 35, 36, 37, 38, 39, 40] (by decide +kernel) (by decide +kernel)
set_option maxRecDepth 20000 in
theorem gX1_init_X0_init_n17 : GoodIn wsX1_init (wsX0_init) := ggX1_init_X0_init
theorem dX1_init_0 : decode cX1_init 0 = .ok (.aload_n 0, 1) := by decide +kernel
theorem dX1_init_1 : decode cX1_init 1 = .ok (.invokespecial 3, 3) := by decide +kernel
theorem dX1_init_4 : decode cX1_init 4 = .ok (.aload_n 0, 1) := by decide +kernel
theorem dX1_init_5 : decode cX1_init 5 = .ok (.iconst 2, 1) := by decide +kernel
theorem dX1_init_6 : decode cX1_init 6 = .ok (.anewarray 9, 3) := by decide +kernel
theorem dX1_init_9 : decode cX1_init 9 = .ok (.putfield 11, 3) := by decide +kernel
theorem dX1_init_12 : decode cX1_init 12 = .ok (.iconst 0, 1) := by decide +kernel
theorem dX1_init_13 : decode cX1_init 13 = .ok (.istore_n 1, 1) := by decide +kernel
theorem dX1_init_14 : decode cX1_init 14 = .ok (.iload_n 1, 1) := by decide +kernel
theorem dX1_init_15 : decode cX1_init 15 = .ok (.iconst 2, 1) := by decide +kernel
theorem dX1_init_16 : decode cX1_init 16 = .ok (.if_icmp .ge 22, 3) := by decide +kernel
theorem dX1_init_19 : decode cX1_init 19 = .ok (.aload_n 0, 1) := by decide +kernel
theorem dX1_init_20 : decode cX1_init 20 = .ok (.getfield 11, 3) := by decide +kernel
theorem dX1_init_23 : decode cX1_init 23 = .ok (.iload_n 1, 1) := by decide +kernel
theorem dX1_init_24 : decode cX1_init 24 = .ok (.new 9, 3) := by decide +kernel
theorem dX1_init_27 : decode cX1_init 27 = .ok (.dup, 1) := by decide +kernel
theorem dX1_init_28 : decode cX1_init 28 = .ok (.invokespecial 17, 3) := by decide +kernel
theorem dX1_init_31 : decode cX1_init 31 = .ok (.aastore, 1) := by decide +kernel
theorem dX1_init_32 : decode cX1_init 32 = .ok (.iinc 1 1, 3) := by decide +kernel
theorem dX1_init_35 : decode cX1_init 35 = .ok (.goto (-21), 3) := by decide +kernel
theorem dX1_init_38 : decode cX1_init 38 = .ok (.return_, 1) := by decide +kernel
set_option maxRecDepth 20000 in
theorem ggX1_clear_X0_clear : GoodIn wsX1_clear wsX0_clear := goodIn_r _ [20, 21, 22, 23, 24, 25, 26, 27, 28, 29, 45, 46, 47, 48, 49, 50, 51, 52, 53, 54, 55] (by decide +kernel) (by decide +kernel)
set_option maxRecDepth 20000 in
theorem gX1_clear_X0_clear : GoodIn wsX1_clear (wsV RX1 62 RX0 yX0_clear wsX0_clear) := goodIn_app (goodIn_of _ (by decide +kernel)) ggX1_clear_X0_clear
theorem dX1_clear_0 : decode cX1_clear 0 = .ok (.aload_n 0, 1) := by decide +kernel
theorem dX1_clear_1 : decode cX1_clear 1 = .ok (.iconst 0, 1) := by decide +kernel
theorem dX1_clear_2 : decode cX1_clear 2 = .ok (.putfield 18, 3) := by decide +kernel
theorem dX1_clear_5 : decode cX1_clear 5 = .ok (.aload_n 0, 1) := by decide +kernel
theorem dX1_clear_6 : decode cX1_clear 6 = .ok (.iconst 0, 1) := by decide +kernel
theorem dX1_clear_7 : decode cX1_clear 7 = .ok (.putfield 22, 3) := by decide +kernel
theorem dX1_clear_10 : decode cX1_clear 10 = .ok (.aload_n 0, 1) := by decide +kernel
theorem dX1_clear_11 : decode cX1_clear 11 = .ok (.iconst 0, 1) := by decide +kernel
theorem dX1_clear_12 : decode cX1_clear 12 = .ok (.putfield 25, 3) := by decide +kernel
theorem dX1_clear_15 : decode cX1_clear 15 = .ok (.aload_n 0, 1) := by decide +kernel
theorem dX1_clear_16 : decode cX1_clear 16 = .ok (.iconst 0, 1) := by decide +kernel
theorem dX1_clear_17 : decode cX1_clear 17 = .ok (.putfield 28, 3) := by decide +kernel
theorem dX1_clear_20 : decode cX1_clear 20 = .ok (.aload_n 0, 1) := by decide +kernel
theorem dX1_clear_21 : decode cX1_clear 21 = .ok (.iconst 0, 1) := by decide +kernel
theorem dX1_clear_22 : decode cX1_clear 22 = .ok (.putfield 31, 3) := by decide +kernel
theorem dX1_clear_25 : decode cX1_clear 25 = .ok (.aload_n 0, 1) := by decide +kernel
theorem dX1_clear_26 : decode cX1_clear 26 = .ok (.iconst 0, 1) := by decide +kernel
theorem dX1_clear_27 : decode cX1_clear 27 = .ok (.putfield 34, 3) := by decide +kernel
theorem dX1_clear_30 : decode cX1_clear 30 = .ok (.aload_n 0, 1) := by decide +kernel
theorem dX1_clear_31 : decode cX1_clear 31 = .ok (.iconst 0, 1) := by decide +kernel
theorem dX1_clear_32 : decode cX1_clear 32 = .ok (.putfield 37, 3) := by decide +kernel
theorem dX1_clear_35 : decode cX1_clear 35 = .ok (.aload_n 0, 1) := by decide +kernel
theorem dX1_clear_36 : decode cX1_clear 36 = .ok (.iconst 0, 1) := by decide +kernel
theorem dX1_clear_37 : decode cX1_clear 37 = .ok (.putfield 41, 3) := by decide +kernel
theorem dX1_clear_40 : decode cX1_clear 40 = .ok (.aload_n 0, 1) := by decide +kernel
theorem dX1_clear_41 : decode cX1_clear 41 = .ok (.iconst 0, 1) := by decide +kernel
theorem dX1_clear_42 : decode cX1_clear 42 = .ok (.putfield 44, 3) := by decide +kernel
theorem dX1_clear_45 : decode cX1_clear 45 = .ok (.aload_n 0, 1) := by decide +kernel
theorem dX1_clear_46 : decode cX1_clear 46 = .ok (.iconst 0, 1) := by decide +kernel
theorem dX1_clear_47 : decode cX1_clear 47 = .ok (.putfield 47, 3) := by decide +kernel
theorem dX1_clear_50 : decode cX1_clear 50 = .ok (.aload_n 0, 1) := by decide +kernel
theorem dX1_clear_51 : decode cX1_clear 51 = .ok (.iconst 0, 1) := by decide +kernel
theorem dX1_clear_52 : decode cX1_clear 52 = .ok (.putfield 50, 3) := by decide +kernel
theorem dX1_clear_55 : decode cX1_clear 55 = .ok (.aload_n 0, 1) := by decide +kernel
theorem dX1_clear_56 : decode cX1_clear 56 = .ok (.iconst 0, 1) := by decide +kernel
theorem dX1_clear_57 : decode cX1_clear 57 = .ok (.putfield 53, 3) := by decide +kernel
theorem dX1_clear_60 : decode cX1_clear 60 = .ok (.aload_n 0, 1) := by decide +kernel
theorem dX1_clear_61 : decode cX1_clear 61 = .ok (.iconst 0, 1) := by decide +kernel
theorem dX1_clear_62 : decode cX1_clear 62 = .ok (.putfield 56, 3) := by decide +kernel
theorem dX1_clear_65 : decode cX1_clear 65 = .ok (.aload_n 0, 1) := by decide +kernel
theorem dX1_clear_66 : decode cX1_clear 66 = .ok (.iconst 0, 1) := by decide +kernel
theorem dX1_clear_67 : decode cX1_clear 67 = .ok (.putfield 59, 3) := by decide +kernel
theorem dX1_clear_70 : decode cX1_clear 70 = .ok (.aload_n 0, 1) := by decide +kernel
theorem dX1_clear_71 : decode cX1_clear 71 = .ok (.getfield 11, 3) := by decide +kernel
theorem dX1_clear_74 : decode cX1_clear 74 = .ok (.astore_n 1, 1) := by decide +kernel
theorem dX1_clear_75 : decode cX1_clear 75 = .ok (.aload_n 1, 1) := by decide +kernel
theorem dX1_clear_76 : decode cX1_clear 76 = .ok (.arraylength, 1) := by decide +kernel
theorem dX1_clear_77 : decode cX1_clear 77 = .ok (.istore_n 2, 1) := by decide +kernel
theorem dX1_clear_78 : decode cX1_clear 78 = .ok (.iconst 0, 1) := by decide +kernel
theorem dX1_clear_79 : decode cX1_clear 79 = .ok (.istore_n 3, 1) := by decide +kernel
theorem dX1_clear_80 : decode cX1_clear 80 = .ok (.iload_n 3, 1) := by decide +kernel
theorem dX1_clear_81 : decode cX1_clear 81 = .ok (.iload_n 2, 1) := by decide +kernel
theorem dX1_clear_82 : decode cX1_clear 82 = .ok (.if_icmp .ge 19, 3) := by decide +kernel
theorem dX1_clear_85 : decode cX1_clear 85 = .ok (.aload_n 1, 1) := by decide +kernel
theorem dX1_clear_86 : decode cX1_clear 86 = .ok (.iload_n 3, 1) := by decide +kernel
theorem dX1_clear_87 : decode cX1_clear 87 = .ok (.aaload, 1) := by decide +kernel
theorem dX1_clear_88 : decode cX1_clear 88 = .ok (.astore 4, 2) := by decide +kernel
theorem dX1_clear_90 : decode cX1_clear 90 = .ok (.aload 4, 2) := by decide +kernel
theorem dX1_clear_92 : decode cX1_clear 92 = .ok (.invokevirtual 62, 3) := by decide +kernel
theorem dX1_clear_95 : decode cX1_clear 95 = .ok (.iinc 3 1, 3) := by decide +kernel
theorem dX1_clear_98 : decode cX1_clear 98 = .ok (.goto (-18), 3) := by decide +kernel
theorem dX1_clear_101 : decode cX1_clear 101 = .ok (.return_, 1) := by decide +kernel
set_option maxRecDepth 20000 in
theorem ggX1_answerWindow_X2_mix : GoodIn wsX1_answerWindow wsX2_mix := goodIn_r _ [5, 6, 7] (by decide +kernel) (by decide +kernel)
set_option maxRecDepth 20000 in
theorem gX1_answerWindow_X2_mix_n65 : GoodIn wsX1_answerWindow (wsX2_mix) := ggX1_answerWindow_X2_mix
theorem dX1_answerWindow_0 : decode cX1_answerWindow 0 = .ok (.aload_n 0, 1) := by decide +kernel
theorem dX1_answerWindow_1 : decode cX1_answerWindow 1 = .ok (.getfield 22, 3) := by decide +kernel
theorem dX1_answerWindow_4 : decode cX1_answerWindow 4 = .ok (.aload_n 0, 1) := by decide +kernel
theorem dX1_answerWindow_5 : decode cX1_answerWindow 5 = .ok (.getfield 28, 3) := by decide +kernel
theorem dX1_answerWindow_8 : decode cX1_answerWindow 8 = .ok (.invokestatic 65, 3) := by decide +kernel
theorem dX1_answerWindow_11 : decode cX1_answerWindow 11 = .ok (.iconst 1, 1) := by decide +kernel
theorem dX1_answerWindow_12 : decode cX1_answerWindow 12 = .ok (.iushr, 1) := by decide +kernel
theorem dX1_answerWindow_13 : decode cX1_answerWindow 13 = .ok (.bipush 8, 2) := by decide +kernel
theorem dX1_answerWindow_15 : decode cX1_answerWindow 15 = .ok (.irem, 1) := by decide +kernel
theorem dX1_answerWindow_16 : decode cX1_answerWindow 16 = .ok (.ireturn, 1) := by decide +kernel
theorem dX1_burstLength_0 : decode cX1_burstLength 0 = .ok (.bipush 16, 2) := by decide +kernel
theorem dX1_burstLength_2 : decode cX1_burstLength 2 = .ok (.istore_n 1, 1) := by decide +kernel
theorem dX1_burstLength_3 : decode cX1_burstLength 3 = .ok (.aload_n 0, 1) := by decide +kernel
theorem dX1_burstLength_4 : decode cX1_burstLength 4 = .ok (.getfield 11, 3) := by decide +kernel
theorem dX1_burstLength_7 : decode cX1_burstLength 7 = .ok (.astore_n 2, 1) := by decide +kernel
theorem dX1_burstLength_8 : decode cX1_burstLength 8 = .ok (.aload_n 2, 1) := by decide +kernel
theorem dX1_burstLength_9 : decode cX1_burstLength 9 = .ok (.arraylength, 1) := by decide +kernel
theorem dX1_burstLength_10 : decode cX1_burstLength 10 = .ok (.istore_n 3, 1) := by decide +kernel
theorem dX1_burstLength_11 : decode cX1_burstLength 11 = .ok (.iconst 0, 1) := by decide +kernel
theorem dX1_burstLength_12 : decode cX1_burstLength 12 = .ok (.istore 4, 2) := by decide +kernel
theorem dX1_burstLength_14 : decode cX1_burstLength 14 = .ok (.iload 4, 2) := by decide +kernel
theorem dX1_burstLength_16 : decode cX1_burstLength 16 = .ok (.iload_n 3, 1) := by decide +kernel
theorem dX1_burstLength_17 : decode cX1_burstLength 17 = .ok (.if_icmp .ge 26, 3) := by decide +kernel
theorem dX1_burstLength_20 : decode cX1_burstLength 20 = .ok (.aload_n 2, 1) := by decide +kernel
theorem dX1_burstLength_21 : decode cX1_burstLength 21 = .ok (.iload 4, 2) := by decide +kernel
theorem dX1_burstLength_23 : decode cX1_burstLength 23 = .ok (.aaload, 1) := by decide +kernel
theorem dX1_burstLength_24 : decode cX1_burstLength 24 = .ok (.astore 5, 2) := by decide +kernel
theorem dX1_burstLength_26 : decode cX1_burstLength 26 = .ok (.iload_n 1, 1) := by decide +kernel
theorem dX1_burstLength_27 : decode cX1_burstLength 27 = .ok (.bipush 16, 2) := by decide +kernel
theorem dX1_burstLength_29 : decode cX1_burstLength 29 = .ok (.aload 5, 2) := by decide +kernel
theorem dX1_burstLength_31 : decode cX1_burstLength 31 = .ok (.getfield 69, 3) := by decide +kernel
theorem dX1_burstLength_34 : decode cX1_burstLength 34 = .ok (.imul, 1) := by decide +kernel
theorem dX1_burstLength_35 : decode cX1_burstLength 35 = .ok (.iadd, 1) := by decide +kernel
theorem dX1_burstLength_36 : decode cX1_burstLength 36 = .ok (.istore_n 1, 1) := by decide +kernel
theorem dX1_burstLength_37 : decode cX1_burstLength 37 = .ok (.iinc 4 1, 3) := by decide +kernel
theorem dX1_burstLength_40 : decode cX1_burstLength 40 = .ok (.goto (-26), 3) := by decide +kernel
theorem dX1_burstLength_43 : decode cX1_burstLength 43 = .ok (.iload_n 1, 1) := by decide +kernel
theorem dX1_burstLength_44 : decode cX1_burstLength 44 = .ok (.ireturn, 1) := by decide +kernel
set_option maxRecDepth 20000 in
theorem ggX1_takeWord_X2_mix : GoodIn wsX1_takeWord wsX2_mix := goodIn_r _ [8, 9, 10] (by decide +kernel) (by decide +kernel)
set_option maxRecDepth 20000 in
theorem gX1_takeWord_X2_mix_n65 : GoodIn wsX1_takeWord (wsX2_mix) := ggX1_takeWord_X2_mix
theorem dX1_takeWord_0 : decode cX1_takeWord 0 = .ok (.aload_n 0, 1) := by decide +kernel
theorem dX1_takeWord_1 : decode cX1_takeWord 1 = .ok (.getfield 47, 3) := by decide +kernel
theorem dX1_takeWord_4 : decode cX1_takeWord 4 = .ok (.ifCond .eq 37, 3) := by decide +kernel
theorem dX1_takeWord_7 : decode cX1_takeWord 7 = .ok (.aload_n 0, 1) := by decide +kernel
theorem dX1_takeWord_8 : decode cX1_takeWord 8 = .ok (.getfield 34, 3) := by decide +kernel
theorem dX1_takeWord_11 : decode cX1_takeWord 11 = .ok (.iload_n 1, 1) := by decide +kernel
theorem dX1_takeWord_12 : decode cX1_takeWord 12 = .ok (.invokestatic 65, 3) := by decide +kernel
theorem dX1_takeWord_15 : decode cX1_takeWord 15 = .ok (.istore_n 2, 1) := by decide +kernel
theorem dX1_takeWord_16 : decode cX1_takeWord 16 = .ok (.aload_n 0, 1) := by decide +kernel
theorem dX1_takeWord_17 : decode cX1_takeWord 17 = .ok (.aload_n 0, 1) := by decide +kernel
theorem dX1_takeWord_18 : decode cX1_takeWord 18 = .ok (.getfield 50, 3) := by decide +kernel
theorem dX1_takeWord_21 : decode cX1_takeWord 21 = .ok (.iload_n 2, 1) := by decide +kernel
theorem dX1_takeWord_22 : decode cX1_takeWord 22 = .ok (.ixor, 1) := by decide +kernel
theorem dX1_takeWord_23 : decode cX1_takeWord 23 = .ok (.putfield 56, 3) := by decide +kernel
theorem dX1_takeWord_26 : decode cX1_takeWord 26 = .ok (.aload_n 0, 1) := by decide +kernel
theorem dX1_takeWord_27 : decode cX1_takeWord 27 = .ok (.aload_n 0, 1) := by decide +kernel
theorem dX1_takeWord_28 : decode cX1_takeWord 28 = .ok (.getfield 56, 3) := by decide +kernel
theorem dX1_takeWord_31 : decode cX1_takeWord 31 = .ok (.iload_n 2, 1) := by decide +kernel
theorem dX1_takeWord_32 : decode cX1_takeWord 32 = .ok (.ixor, 1) := by decide +kernel
theorem dX1_takeWord_33 : decode cX1_takeWord 33 = .ok (.putfield 53, 3) := by decide +kernel
theorem dX1_takeWord_36 : decode cX1_takeWord 36 = .ok (.aload_n 0, 1) := by decide +kernel
theorem dX1_takeWord_37 : decode cX1_takeWord 37 = .ok (.iconst 0, 1) := by decide +kernel
theorem dX1_takeWord_38 : decode cX1_takeWord 38 = .ok (.putfield 47, 3) := by decide +kernel
theorem dX1_takeWord_41 : decode cX1_takeWord 41 = .ok (.return_, 1) := by decide +kernel
theorem dX1_takeKey_0 : decode cX1_takeKey 0 = .ok (.aload_n 0, 1) := by decide +kernel
theorem dX1_takeKey_1 : decode cX1_takeKey 1 = .ok (.getfield 37, 3) := by decide +kernel
theorem dX1_takeKey_4 : decode cX1_takeKey 4 = .ok (.ifCond .eq 31, 3) := by decide +kernel
theorem dX1_takeKey_7 : decode cX1_takeKey 7 = .ok (.aload_n 0, 1) := by decide +kernel
theorem dX1_takeKey_8 : decode cX1_takeKey 8 = .ok (.aload_n 0, 1) := by decide +kernel
theorem dX1_takeKey_9 : decode cX1_takeKey 9 = .ok (.getfield 41, 3) := by decide +kernel
theorem dX1_takeKey_12 : decode cX1_takeKey 12 = .ok (.putfield 44, 3) := by decide +kernel
theorem dX1_takeKey_15 : decode cX1_takeKey 15 = .ok (.aload_n 0, 1) := by decide +kernel
theorem dX1_takeKey_16 : decode cX1_takeKey 16 = .ok (.getfield 59, 3) := by decide +kernel
theorem dX1_takeKey_19 : decode cX1_takeKey 19 = .ok (.ifCond .ne 16, 3) := by decide +kernel
theorem dX1_takeKey_22 : decode cX1_takeKey 22 = .ok (.aload_n 0, 1) := by decide +kernel
theorem dX1_takeKey_23 : decode cX1_takeKey 23 = .ok (.aload_n 0, 1) := by decide +kernel
theorem dX1_takeKey_24 : decode cX1_takeKey 24 = .ok (.getfield 41, 3) := by decide +kernel
theorem dX1_takeKey_27 : decode cX1_takeKey 27 = .ok (.putfield 34, 3) := by decide +kernel
theorem dX1_takeKey_30 : decode cX1_takeKey 30 = .ok (.aload_n 0, 1) := by decide +kernel
theorem dX1_takeKey_31 : decode cX1_takeKey 31 = .ok (.iconst 0, 1) := by decide +kernel
theorem dX1_takeKey_32 : decode cX1_takeKey 32 = .ok (.putfield 37, 3) := by decide +kernel
theorem dX1_takeKey_35 : decode cX1_takeKey 35 = .ok (.return_, 1) := by decide +kernel
set_option maxRecDepth 20000 in
theorem ggX2_init_X1_init : GoodIn wsX2_init wsX1_init := goodIn_r _ [17, 18, 2, 3, 19, 20, 21, 22, 23, 24, 25, 8, 26, 27, 28, 45, 46, 47, 48, 49, 50, 51, 52, 53, 54, 55, 56, 57, 58, 59, 60, 61, 62, 63, 64, 65, 66, 67, 68, 69, 70] (by decide +kernel) (by decide +kernel)
set_option maxRecDepth 20000 in
theorem gX2_init_X1_init : GoodIn wsX2_init (wsX1_init) := ggX2_init_X1_init
theorem dX2_init_0 : decode cX2_init 0 = .ok (.aload_n 0, 1) := by decide +kernel
theorem dX2_init_1 : decode cX2_init 1 = .ok (.invokespecial 1, 3) := by decide +kernel
theorem dX2_init_4 : decode cX2_init 4 = .ok (.aload_n 0, 1) := by decide +kernel
theorem dX2_init_5 : decode cX2_init 5 = .ok (.iconst 5, 1) := by decide +kernel
theorem dX2_init_6 : decode cX2_init 6 = .ok (.anewarray 9, 3) := by decide +kernel
theorem dX2_init_9 : decode cX2_init 9 = .ok (.putfield 11, 3) := by decide +kernel
theorem dX2_init_12 : decode cX2_init 12 = .ok (.aload_n 0, 1) := by decide +kernel
theorem dX2_init_13 : decode cX2_init 13 = .ok (.iconst 2, 1) := by decide +kernel
theorem dX2_init_14 : decode cX2_init 14 = .ok (.newarray .boolean, 2) := by decide +kernel
theorem dX2_init_16 : decode cX2_init 16 = .ok (.putfield 15, 3) := by decide +kernel
theorem dX2_init_19 : decode cX2_init 19 = .ok (.aload_n 0, 1) := by decide +kernel
theorem dX2_init_20 : decode cX2_init 20 = .ok (.sipush 400, 3) := by decide +kernel
theorem dX2_init_23 : decode cX2_init 23 = .ok (.newarray .int, 2) := by decide +kernel
theorem dX2_init_25 : decode cX2_init 25 = .ok (.putfield 19, 3) := by decide +kernel
theorem dX2_init_28 : decode cX2_init 28 = .ok (.aload_n 0, 1) := by decide +kernel
theorem dX2_init_29 : decode cX2_init 29 = .ok (.bipush 8, 2) := by decide +kernel
theorem dX2_init_31 : decode cX2_init 31 = .ok (.newarray .int, 2) := by decide +kernel
theorem dX2_init_33 : decode cX2_init 33 = .ok (.putfield 23, 3) := by decide +kernel
theorem dX2_init_36 : decode cX2_init 36 = .ok (.aload_n 0, 1) := by decide +kernel
theorem dX2_init_37 : decode cX2_init 37 = .ok (.iconst 5, 1) := by decide +kernel
theorem dX2_init_38 : decode cX2_init 38 = .ok (.newarray .int, 2) := by decide +kernel
theorem dX2_init_40 : decode cX2_init 40 = .ok (.putfield 26, 3) := by decide +kernel
theorem dX2_init_43 : decode cX2_init 43 = .ok (.aload_n 0, 1) := by decide +kernel
theorem dX2_init_44 : decode cX2_init 44 = .ok (.iconst 5, 1) := by decide +kernel
theorem dX2_init_45 : decode cX2_init 45 = .ok (.newarray .int, 2) := by decide +kernel
theorem dX2_init_47 : decode cX2_init 47 = .ok (.putfield 29, 3) := by decide +kernel
theorem dX2_init_50 : decode cX2_init 50 = .ok (.iconst 0, 1) := by decide +kernel
theorem dX2_init_51 : decode cX2_init 51 = .ok (.istore_n 1, 1) := by decide +kernel
theorem dX2_init_52 : decode cX2_init 52 = .ok (.iload_n 1, 1) := by decide +kernel
theorem dX2_init_53 : decode cX2_init 53 = .ok (.iconst 5, 1) := by decide +kernel
theorem dX2_init_54 : decode cX2_init 54 = .ok (.if_icmp .ge 22, 3) := by decide +kernel
theorem dX2_init_57 : decode cX2_init 57 = .ok (.aload_n 0, 1) := by decide +kernel
theorem dX2_init_58 : decode cX2_init 58 = .ok (.getfield 11, 3) := by decide +kernel
theorem dX2_init_61 : decode cX2_init 61 = .ok (.iload_n 1, 1) := by decide +kernel
theorem dX2_init_62 : decode cX2_init 62 = .ok (.new 9, 3) := by decide +kernel
theorem dX2_init_65 : decode cX2_init 65 = .ok (.dup, 1) := by decide +kernel
theorem dX2_init_66 : decode cX2_init 66 = .ok (.invokespecial 32, 3) := by decide +kernel
theorem dX2_init_69 : decode cX2_init 69 = .ok (.aastore, 1) := by decide +kernel
theorem dX2_init_70 : decode cX2_init 70 = .ok (.iinc 1 1, 3) := by decide +kernel
theorem dX2_init_73 : decode cX2_init 73 = .ok (.goto (-21), 3) := by decide +kernel
theorem dX2_init_76 : decode cX2_init 76 = .ok (.return_, 1) := by decide +kernel
set_option maxRecDepth 20000 in
theorem ggX2_plug_X2_hasSerial : GoodIn wsX2_plug wsX2_hasSerial := goodIn_r _ [13, 5, 6, 7, 21, 22, 23, 24, 25, 26, 27, 28, 29, 30, 31, 32, 33, 34, 35, 36, 37, 38, 39, 40, 41, 42, 43, 44, 45, 46, 47, 48, 49, 50, 51] (by decide +kernel) (by decide +kernel)
set_option maxRecDepth 20000 in
theorem gX2_plug_X2_hasSerial : GoodIn wsX2_plug (wsV RX2 33 RX2 yX2_hasSerial wsX2_hasSerial) := goodIn_app (goodIn_of _ (by decide +kernel)) ggX2_plug_X2_hasSerial
set_option maxRecDepth 20000 in
theorem ggX2_plug_X2_isWay : GoodIn wsX2_plug wsX2_isWay := goodIn_r _ [16] (by decide +kernel) (by decide +kernel)
set_option maxRecDepth 20000 in
theorem gX2_plug_X2_isWay : GoodIn wsX2_plug (va_wsS RX2 44 yX2_isWay wsX2_isWay) := goodIn_app (goodIn_of _ (by decide +kernel)) ggX2_plug_X2_isWay
set_option maxRecDepth 20000 in
theorem ggX2_plug_X2_firstAway : GoodIn wsX2_plug wsX2_firstAway := goodIn_r _ [20, 5, 6, 21, 22, 23, 24, 25, 26, 27, 28, 29, 30, 31, 32, 33, 34, 35, 36, 37, 38, 39, 40, 41, 42, 43, 44, 45, 46, 47, 48, 49, 50, 51] (by decide +kernel) (by decide +kernel)
set_option maxRecDepth 20000 in
theorem gX2_plug_X2_firstAway : GoodIn wsX2_plug (wsV RX2 49 RX2 yX2_firstAway wsX2_firstAway) := goodIn_app (goodIn_of _ (by decide +kernel)) ggX2_plug_X2_firstAway
theorem dX2_plug_0 : decode cX2_plug 0 = .ok (.iload_n 1, 1) := by decide +kernel
theorem dX2_plug_1 : decode cX2_plug 1 = .ok (.ifCond .lt 18, 3) := by decide +kernel
theorem dX2_plug_4 : decode cX2_plug 4 = .ok (.iload_n 1, 1) := by decide +kernel
theorem dX2_plug_5 : decode cX2_plug 5 = .ok (.sipush 9999, 3) := by decide +kernel
theorem dX2_plug_8 : decode cX2_plug 8 = .ok (.if_icmp .gt 11, 3) := by decide +kernel
theorem dX2_plug_11 : decode cX2_plug 11 = .ok (.aload_n 0, 1) := by decide +kernel
theorem dX2_plug_12 : decode cX2_plug 12 = .ok (.iload_n 1, 1) := by decide +kernel
theorem dX2_plug_13 : decode cX2_plug 13 = .ok (.invokevirtual 33, 3) := by decide +kernel
theorem dX2_plug_16 : decode cX2_plug 16 = .ok (.ifCond .eq 13, 3) := by decide +kernel
theorem dX2_plug_19 : decode cX2_plug 19 = .ok (.new 37, 3) := by decide +kernel
theorem dX2_plug_22 : decode cX2_plug 22 = .ok (.dup, 1) := by decide +kernel
theorem dX2_plug_23 : decode cX2_plug 23 = .ok (.ldc 39, 2) := by decide +kernel
theorem dX2_plug_25 : decode cX2_plug 25 = .ok (.invokespecial 41, 3) := by decide +kernel
theorem dX2_plug_28 : decode cX2_plug 28 = .ok (.athrow, 1) := by decide +kernel
theorem dX2_plug_29 : decode cX2_plug 29 = .ok (.iload_n 2, 1) := by decide +kernel
theorem dX2_plug_30 : decode cX2_plug 30 = .ok (.invokestatic 44, 3) := by decide +kernel
theorem dX2_plug_33 : decode cX2_plug 33 = .ok (.ifCond .ne 13, 3) := by decide +kernel
theorem dX2_plug_36 : decode cX2_plug 36 = .ok (.new 37, 3) := by decide +kernel
theorem dX2_plug_39 : decode cX2_plug 39 = .ok (.dup, 1) := by decide +kernel
theorem dX2_plug_40 : decode cX2_plug 40 = .ok (.ldc 47, 2) := by decide +kernel
theorem dX2_plug_42 : decode cX2_plug 42 = .ok (.invokespecial 41, 3) := by decide +kernel
theorem dX2_plug_45 : decode cX2_plug 45 = .ok (.athrow, 1) := by decide +kernel
theorem dX2_plug_46 : decode cX2_plug 46 = .ok (.aload_n 0, 1) := by decide +kernel
theorem dX2_plug_47 : decode cX2_plug 47 = .ok (.invokevirtual 49, 3) := by decide +kernel
theorem dX2_plug_50 : decode cX2_plug 50 = .ok (.istore_n 3, 1) := by decide +kernel
theorem dX2_plug_51 : decode cX2_plug 51 = .ok (.iload_n 3, 1) := by decide +kernel
theorem dX2_plug_52 : decode cX2_plug 52 = .ok (.iconst 5, 1) := by decide +kernel
theorem dX2_plug_53 : decode cX2_plug 53 = .ok (.if_icmp .ne 13, 3) := by decide +kernel
theorem dX2_plug_56 : decode cX2_plug 56 = .ok (.new 53, 3) := by decide +kernel
theorem dX2_plug_59 : decode cX2_plug 59 = .ok (.dup, 1) := by decide +kernel
theorem dX2_plug_60 : decode cX2_plug 60 = .ok (.ldc 55, 2) := by decide +kernel
theorem dX2_plug_62 : decode cX2_plug 62 = .ok (.invokespecial 57, 3) := by decide +kernel
theorem dX2_plug_65 : decode cX2_plug 65 = .ok (.athrow, 1) := by decide +kernel
theorem dX2_plug_66 : decode cX2_plug 66 = .ok (.aload_n 0, 1) := by decide +kernel
theorem dX2_plug_67 : decode cX2_plug 67 = .ok (.getfield 11, 3) := by decide +kernel
theorem dX2_plug_70 : decode cX2_plug 70 = .ok (.iload_n 3, 1) := by decide +kernel
theorem dX2_plug_71 : decode cX2_plug 71 = .ok (.aaload, 1) := by decide +kernel
theorem dX2_plug_72 : decode cX2_plug 72 = .ok (.astore 4, 2) := by decide +kernel
theorem dX2_plug_74 : decode cX2_plug 74 = .ok (.aload 4, 2) := by decide +kernel
theorem dX2_plug_76 : decode cX2_plug 76 = .ok (.iconst 1, 1) := by decide +kernel
theorem dX2_plug_77 : decode cX2_plug 77 = .ok (.putfield 58, 3) := by decide +kernel
theorem dX2_plug_80 : decode cX2_plug 80 = .ok (.aload 4, 2) := by decide +kernel
theorem dX2_plug_82 : decode cX2_plug 82 = .ok (.iload_n 1, 1) := by decide +kernel
theorem dX2_plug_83 : decode cX2_plug 83 = .ok (.putfield 62, 3) := by decide +kernel
theorem dX2_plug_86 : decode cX2_plug 86 = .ok (.aload 4, 2) := by decide +kernel
theorem dX2_plug_88 : decode cX2_plug 88 = .ok (.iload_n 2, 1) := by decide +kernel
theorem dX2_plug_89 : decode cX2_plug 89 = .ok (.putfield 64, 3) := by decide +kernel
theorem dX2_plug_92 : decode cX2_plug 92 = .ok (.iload_n 3, 1) := by decide +kernel
theorem dX2_plug_93 : decode cX2_plug 93 = .ok (.ireturn, 1) := by decide +kernel
set_option maxRecDepth 20000 in
theorem ggX2_unplug_X2_plugged : GoodIn wsX2_unplug wsX2_plugged := goodIn_ca (goodIn_r _ [5, 6, 7, 8, 9, 10, 11, 4, 12, 13, 48, 49, 50, 51, 52, 53, 54, 55, 56, 57, 58, 59, 60, 61, 62, 63, 64, 65, 66, 67, 68, 69, 70, 71, 72, 73, 74, 75, 76, 77, 78] (by decide +kernel) (by decide +kernel)) (goodIn_sub (fun _ h => List.mem_cons_of_mem _ (List.mem_append_right _ h)) (by decide +kernel))
set_option maxRecDepth 20000 in
theorem gX2_unplug_X2_plugged : GoodIn wsX2_unplug (wsV RX2 66 RX2 yX2_plugged wsX2_plugged) := goodIn_app (goodIn_of _ (by decide +kernel)) ggX2_unplug_X2_plugged
set_option maxRecDepth 20000 in
theorem ggX2_unplug_X1_clear : GoodIn wsX2_unplug wsX1_clear := goodIn_r _ [18, 19, 20, 21, 22, 23, 24, 25, 26, 27, 28, 29, 30, 31, 32, 33, 34, 35, 36, 37, 38, 39, 40, 41, 42, 43, 44, 45, 46, 47, 48, 49, 50, 51, 52, 53, 54, 55, 56, 57, 58, 59, 60, 61, 62, 79, 80, 81, 82, 83, 84, 85, 86, 87, 88, 89] (by decide +kernel) (by decide +kernel)
set_option maxRecDepth 20000 in
theorem gX2_unplug_X1_clear : GoodIn wsX2_unplug (wsV RX2 70 RX1 yX1_clear wsX1_clear) := goodIn_app (goodIn_of _ (by decide +kernel)) ggX2_unplug_X1_clear
theorem dX2_unplug_0 : decode cX2_unplug 0 = .ok (.aload_n 0, 1) := by decide +kernel
theorem dX2_unplug_1 : decode cX2_unplug 1 = .ok (.iload_n 1, 1) := by decide +kernel
theorem dX2_unplug_2 : decode cX2_unplug 2 = .ok (.invokevirtual 66, 3) := by decide +kernel
theorem dX2_unplug_5 : decode cX2_unplug 5 = .ok (.invokevirtual 70, 3) := by decide +kernel
theorem dX2_unplug_8 : decode cX2_unplug 8 = .ok (.return_, 1) := by decide +kernel
set_option maxRecDepth 20000 in
theorem ggX2_contract_X2_pluggedContainer : GoodIn wsX2_contract wsX2_pluggedContainer := goodIn_ca (goodIn_r _ [13, 14, 15, 16, 12, 17, 1, 2, 18, 19, 20, 21, 22, 23, 24, 25, 26, 27, 43, 44, 45, 46, 47, 48, 49, 50, 51, 52, 53, 54, 55, 56, 57, 58, 59, 60, 61, 62, 63, 64, 65, 66, 67, 68, 69, 70, 71, 72, 73] (by decide +kernel) (by decide +kernel)) (goodIn_sub (fun _ h => List.mem_cons_of_mem _ (List.mem_append_left _ (List.mem_append_right _ h))) (by decide +kernel))
set_option maxRecDepth 20000 in
theorem gX2_contract_X2_pluggedContainer : GoodIn wsX2_contract (wsV RX2 73 RX2 yX2_pluggedContainer wsX2_pluggedContainer) := goodIn_app (goodIn_of _ (by decide +kernel)) ggX2_contract_X2_pluggedContainer
set_option maxRecDepth 20000 in
theorem ggX2_contract_X2_contracted : GoodIn wsX2_contract wsX2_contracted := goodIn_r _ [31, 23, 27, 5, 6, 58, 59, 60, 61, 62, 63, 64, 65, 66, 67, 68, 69, 70, 71, 72, 73, 43, 44, 45, 46, 47, 48, 49, 50, 51, 52, 53, 54, 55, 56, 57, 32, 33, 34, 35, 36, 37, 38, 39, 40, 41, 42] (by decide +kernel) (by decide +kernel)
set_option maxRecDepth 20000 in
theorem gX2_contract_X2_contracted : GoodIn wsX2_contract (wsV RX2 81 RX2 yX2_contracted wsX2_contracted) := goodIn_app (goodIn_of _ (by decide +kernel)) ggX2_contract_X2_contracted
theorem dX2_contract_0 : decode cX2_contract 0 = .ok (.aload_n 0, 1) := by decide +kernel
theorem dX2_contract_1 : decode cX2_contract 1 = .ok (.iload_n 1, 1) := by decide +kernel
theorem dX2_contract_2 : decode cX2_contract 2 = .ok (.iload_n 2, 1) := by decide +kernel
theorem dX2_contract_3 : decode cX2_contract 3 = .ok (.invokevirtual 73, 3) := by decide +kernel
theorem dX2_contract_6 : decode cX2_contract 6 = .ok (.astore 7, 2) := by decide +kernel
theorem dX2_contract_8 : decode cX2_contract 8 = .ok (.iload_n 3, 1) := by decide +kernel
theorem dX2_contract_9 : decode cX2_contract 9 = .ok (.ifCond .lt 28, 3) := by decide +kernel
theorem dX2_contract_12 : decode cX2_contract 12 = .ok (.iload 4, 2) := by decide +kernel
theorem dX2_contract_14 : decode cX2_contract 14 = .ok (.ifCond .lt 23, 3) := by decide +kernel
theorem dX2_contract_17 : decode cX2_contract 17 = .ok (.iload 5, 2) := by decide +kernel
theorem dX2_contract_19 : decode cX2_contract 19 = .ok (.bipush 60, 2) := by decide +kernel
theorem dX2_contract_21 : decode cX2_contract 21 = .ok (.if_icmp .gt 16, 3) := by decide +kernel
theorem dX2_contract_24 : decode cX2_contract 24 = .ok (.iload_n 3, 1) := by decide +kernel
theorem dX2_contract_25 : decode cX2_contract 25 = .ok (.i2l, 1) := by decide +kernel
theorem dX2_contract_26 : decode cX2_contract 26 = .ok (.iload 4, 2) := by decide +kernel
theorem dX2_contract_28 : decode cX2_contract 28 = .ok (.i2l, 1) := by decide +kernel
theorem dX2_contract_29 : decode cX2_contract 29 = .ok (.ladd, 1) := by decide +kernel
theorem dX2_contract_30 : decode cX2_contract 30 = .ok (.iload 5, 2) := by decide +kernel
theorem dX2_contract_32 : decode cX2_contract 32 = .ok (.i2l, 1) := by decide +kernel
theorem dX2_contract_33 : decode cX2_contract 33 = .ok (.lcmp, 1) := by decide +kernel
theorem dX2_contract_34 : decode cX2_contract 34 = .ok (.ifCond .le 13, 3) := by decide +kernel
theorem dX2_contract_37 : decode cX2_contract 37 = .ok (.new 37, 3) := by decide +kernel
theorem dX2_contract_40 : decode cX2_contract 40 = .ok (.dup, 1) := by decide +kernel
theorem dX2_contract_41 : decode cX2_contract 41 = .ok (.ldc 77, 2) := by decide +kernel
theorem dX2_contract_43 : decode cX2_contract 43 = .ok (.invokespecial 41, 3) := by decide +kernel
theorem dX2_contract_46 : decode cX2_contract 46 = .ok (.athrow, 1) := by decide +kernel
theorem dX2_contract_47 : decode cX2_contract 47 = .ok (.iload 6, 2) := by decide +kernel
theorem dX2_contract_49 : decode cX2_contract 49 = .ok (.iconst 1, 1) := by decide +kernel
theorem dX2_contract_50 : decode cX2_contract 50 = .ok (.if_icmp .lt 10, 3) := by decide +kernel
theorem dX2_contract_53 : decode cX2_contract 53 = .ok (.iload 6, 2) := by decide +kernel
theorem dX2_contract_55 : decode cX2_contract 55 = .ok (.bipush 9, 2) := by decide +kernel
theorem dX2_contract_57 : decode cX2_contract 57 = .ok (.if_icmp .le 13, 3) := by decide +kernel
theorem dX2_contract_60 : decode cX2_contract 60 = .ok (.new 37, 3) := by decide +kernel
theorem dX2_contract_63 : decode cX2_contract 63 = .ok (.dup, 1) := by decide +kernel
theorem dX2_contract_64 : decode cX2_contract 64 = .ok (.ldc 79, 2) := by decide +kernel
theorem dX2_contract_66 : decode cX2_contract 66 = .ok (.invokespecial 41, 3) := by decide +kernel
theorem dX2_contract_69 : decode cX2_contract 69 = .ok (.athrow, 1) := by decide +kernel
theorem dX2_contract_70 : decode cX2_contract 70 = .ok (.aload_n 0, 1) := by decide +kernel
theorem dX2_contract_71 : decode cX2_contract 71 = .ok (.invokevirtual 81, 3) := by decide +kernel
theorem dX2_contract_74 : decode cX2_contract 74 = .ok (.aload 7, 2) := by decide +kernel
theorem dX2_contract_76 : decode cX2_contract 76 = .ok (.getfield 84, 3) := by decide +kernel
theorem dX2_contract_79 : decode cX2_contract 79 = .ok (.isub, 1) := by decide +kernel
theorem dX2_contract_80 : decode cX2_contract 80 = .ok (.aload 7, 2) := by decide +kernel
theorem dX2_contract_82 : decode cX2_contract 82 = .ok (.getfield 89, 3) := by decide +kernel
theorem dX2_contract_85 : decode cX2_contract 85 = .ok (.isub, 1) := by decide +kernel
theorem dX2_contract_86 : decode cX2_contract 86 = .ok (.iload_n 3, 1) := by decide +kernel
theorem dX2_contract_87 : decode cX2_contract 87 = .ok (.iadd, 1) := by decide +kernel
theorem dX2_contract_88 : decode cX2_contract 88 = .ok (.iload 4, 2) := by decide +kernel
theorem dX2_contract_90 : decode cX2_contract 90 = .ok (.iadd, 1) := by decide +kernel
theorem dX2_contract_91 : decode cX2_contract 91 = .ok (.bipush 55, 2) := by decide +kernel
theorem dX2_contract_93 : decode cX2_contract 93 = .ok (.if_icmp .le 13, 3) := by decide +kernel
theorem dX2_contract_96 : decode cX2_contract 96 = .ok (.new 53, 3) := by decide +kernel
theorem dX2_contract_99 : decode cX2_contract 99 = .ok (.dup, 1) := by decide +kernel
theorem dX2_contract_100 : decode cX2_contract 100 = .ok (.ldc 92, 2) := by decide +kernel
theorem dX2_contract_102 : decode cX2_contract 102 = .ok (.invokespecial 57, 3) := by decide +kernel
theorem dX2_contract_105 : decode cX2_contract 105 = .ok (.athrow, 1) := by decide +kernel
theorem dX2_contract_106 : decode cX2_contract 106 = .ok (.aload 7, 2) := by decide +kernel
theorem dX2_contract_108 : decode cX2_contract 108 = .ok (.iload_n 3, 1) := by decide +kernel
theorem dX2_contract_109 : decode cX2_contract 109 = .ok (.putfield 84, 3) := by decide +kernel
theorem dX2_contract_112 : decode cX2_contract 112 = .ok (.aload 7, 2) := by decide +kernel
theorem dX2_contract_114 : decode cX2_contract 114 = .ok (.iload 4, 2) := by decide +kernel
theorem dX2_contract_116 : decode cX2_contract 116 = .ok (.putfield 89, 3) := by decide +kernel
theorem dX2_contract_119 : decode cX2_contract 119 = .ok (.aload 7, 2) := by decide +kernel
theorem dX2_contract_121 : decode cX2_contract 121 = .ok (.iload 5, 2) := by decide +kernel
theorem dX2_contract_123 : decode cX2_contract 123 = .ok (.putfield 94, 3) := by decide +kernel
theorem dX2_contract_126 : decode cX2_contract 126 = .ok (.aload 7, 2) := by decide +kernel
theorem dX2_contract_128 : decode cX2_contract 128 = .ok (.iload 6, 2) := by decide +kernel
theorem dX2_contract_130 : decode cX2_contract 130 = .ok (.putfield 97, 3) := by decide +kernel
theorem dX2_contract_133 : decode cX2_contract 133 = .ok (.return_, 1) := by decide +kernel
set_option maxRecDepth 20000 in
theorem ggX2_drift_X2_plugged : GoodIn wsX2_drift wsX2_plugged := goodIn_ca (goodIn_r _ [10, 1, 2, 4, 11, 12, 13, 9, 14, 15, 19, 20, 21, 22, 23, 24, 25, 26, 27, 28, 29, 30, 31, 32, 33, 34, 35, 36, 37, 38, 39, 40, 41, 42, 43, 44, 45, 46, 47, 48, 49] (by decide +kernel) (by decide +kernel)) (goodIn_sub (fun _ h => List.mem_cons_of_mem _ (List.mem_append_right _ h)) (by decide +kernel))
set_option maxRecDepth 20000 in
theorem gX2_drift_X2_plugged : GoodIn wsX2_drift (wsV RX2 66 RX2 yX2_plugged wsX2_plugged) := goodIn_app (goodIn_of _ (by decide +kernel)) ggX2_drift_X2_plugged
set_option maxRecDepth 20000 in
theorem ggX2_drift_X2_isWay : GoodIn wsX2_drift wsX2_isWay := goodIn_r _ [18] (by decide +kernel) (by decide +kernel)
set_option maxRecDepth 20000 in
theorem gX2_drift_X2_isWay : GoodIn wsX2_drift (va_wsS RX2 44 yX2_isWay wsX2_isWay) := goodIn_app (goodIn_of _ (by decide +kernel)) ggX2_drift_X2_isWay
theorem dX2_drift_0 : decode cX2_drift 0 = .ok (.aload_n 0, 1) := by decide +kernel
theorem dX2_drift_1 : decode cX2_drift 1 = .ok (.iload_n 1, 1) := by decide +kernel
theorem dX2_drift_2 : decode cX2_drift 2 = .ok (.invokevirtual 66, 3) := by decide +kernel
theorem dX2_drift_5 : decode cX2_drift 5 = .ok (.astore_n 3, 1) := by decide +kernel
theorem dX2_drift_6 : decode cX2_drift 6 = .ok (.iload_n 2, 1) := by decide +kernel
theorem dX2_drift_7 : decode cX2_drift 7 = .ok (.bipush (-2), 2) := by decide +kernel
theorem dX2_drift_9 : decode cX2_drift 9 = .ok (.if_icmp .lt 20, 3) := by decide +kernel
theorem dX2_drift_12 : decode cX2_drift 12 = .ok (.iload_n 2, 1) := by decide +kernel
theorem dX2_drift_13 : decode cX2_drift 13 = .ok (.iconst 2, 1) := by decide +kernel
theorem dX2_drift_14 : decode cX2_drift 14 = .ok (.if_icmp .gt 15, 3) := by decide +kernel
theorem dX2_drift_17 : decode cX2_drift 17 = .ok (.aload_n 3, 1) := by decide +kernel
theorem dX2_drift_18 : decode cX2_drift 18 = .ok (.getfield 64, 3) := by decide +kernel
theorem dX2_drift_21 : decode cX2_drift 21 = .ok (.iload_n 2, 1) := by decide +kernel
theorem dX2_drift_22 : decode cX2_drift 22 = .ok (.iadd, 1) := by decide +kernel
theorem dX2_drift_23 : decode cX2_drift 23 = .ok (.invokestatic 44, 3) := by decide +kernel
theorem dX2_drift_26 : decode cX2_drift 26 = .ok (.ifCond .ne 13, 3) := by decide +kernel
theorem dX2_drift_29 : decode cX2_drift 29 = .ok (.new 37, 3) := by decide +kernel
theorem dX2_drift_32 : decode cX2_drift 32 = .ok (.dup, 1) := by decide +kernel
theorem dX2_drift_33 : decode cX2_drift 33 = .ok (.ldc 99, 2) := by decide +kernel
theorem dX2_drift_35 : decode cX2_drift 35 = .ok (.invokespecial 41, 3) := by decide +kernel
theorem dX2_drift_38 : decode cX2_drift 38 = .ok (.athrow, 1) := by decide +kernel
theorem dX2_drift_39 : decode cX2_drift 39 = .ok (.aload_n 3, 1) := by decide +kernel
theorem dX2_drift_40 : decode cX2_drift 40 = .ok (.dup, 1) := by decide +kernel
theorem dX2_drift_41 : decode cX2_drift 41 = .ok (.getfield 64, 3) := by decide +kernel
theorem dX2_drift_44 : decode cX2_drift 44 = .ok (.iload_n 2, 1) := by decide +kernel
theorem dX2_drift_45 : decode cX2_drift 45 = .ok (.iadd, 1) := by decide +kernel
theorem dX2_drift_46 : decode cX2_drift 46 = .ok (.putfield 64, 3) := by decide +kernel
theorem dX2_drift_49 : decode cX2_drift 49 = .ok (.aload_n 3, 1) := by decide +kernel
theorem dX2_drift_50 : decode cX2_drift 50 = .ok (.getfield 58, 3) := by decide +kernel
theorem dX2_drift_53 : decode cX2_drift 53 = .ok (.iconst 2, 1) := by decide +kernel
theorem dX2_drift_54 : decode cX2_drift 54 = .ok (.if_icmp .ne 13, 3) := by decide +kernel
theorem dX2_drift_57 : decode cX2_drift 57 = .ok (.aload_n 3, 1) := by decide +kernel
theorem dX2_drift_58 : decode cX2_drift 58 = .ok (.dup, 1) := by decide +kernel
theorem dX2_drift_59 : decode cX2_drift 59 = .ok (.getfield 101, 3) := by decide +kernel
theorem dX2_drift_62 : decode cX2_drift 62 = .ok (.iload_n 2, 1) := by decide +kernel
theorem dX2_drift_63 : decode cX2_drift 63 = .ok (.iadd, 1) := by decide +kernel
theorem dX2_drift_64 : decode cX2_drift 64 = .ok (.putfield 101, 3) := by decide +kernel
theorem dX2_drift_67 : decode cX2_drift 67 = .ok (.return_, 1) := by decide +kernel
set_option maxRecDepth 20000 in
theorem ggX2_send_X2_pluggedContainer : GoodIn wsX2_send wsX2_pluggedContainer := goodIn_ca (goodIn_r _ [11, 12, 13, 14, 10, 15, 1, 2, 16, 17, 18, 19, 20, 21, 22, 23, 24, 25, 61, 62, 63, 64, 65, 66, 67, 68, 69, 70, 71, 72, 73, 74, 75, 45, 46, 47, 48, 49, 50, 51, 52, 53, 54, 55, 56, 57, 58, 59, 60] (by decide +kernel) (by decide +kernel)) (goodIn_sub (fun _ h => List.mem_cons_of_mem _ (List.mem_append_left _ (List.mem_append_right _ h))) (by decide +kernel))
set_option maxRecDepth 20000 in
theorem gX2_send_X2_pluggedContainer : GoodIn wsX2_send (wsV RX2 73 RX2 yX2_pluggedContainer wsX2_pluggedContainer) := goodIn_app (goodIn_of _ (by decide +kernel)) ggX2_send_X2_pluggedContainer
set_option maxRecDepth 20000 in
theorem ggX2_send_X0_append : GoodIn wsX2_send wsX0_append := goodIn_r _ [30, 31, 32, 33, 34, 35, 36, 37, 38, 39, 40, 41, 42, 43, 44] (by decide +kernel) (by decide +kernel)
set_option maxRecDepth 20000 in
theorem gX2_send_X0_append : GoodIn wsX2_send (wsV RX2 114 RX0 yX0_append wsX0_append) := goodIn_app (goodIn_of _ (by decide +kernel)) ggX2_send_X0_append
theorem dX2_send_0 : decode cX2_send 0 = .ok (.aload_n 0, 1) := by decide +kernel
theorem dX2_send_1 : decode cX2_send 1 = .ok (.iload_n 1, 1) := by decide +kernel
theorem dX2_send_2 : decode cX2_send 2 = .ok (.iload_n 2, 1) := by decide +kernel
theorem dX2_send_3 : decode cX2_send 3 = .ok (.invokevirtual 73, 3) := by decide +kernel
theorem dX2_send_6 : decode cX2_send 6 = .ok (.astore 4, 2) := by decide +kernel
theorem dX2_send_8 : decode cX2_send 8 = .ok (.iload_n 3, 1) := by decide +kernel
theorem dX2_send_9 : decode cX2_send 9 = .ok (.iconst 1, 1) := by decide +kernel
theorem dX2_send_10 : decode cX2_send 10 = .ok (.if_icmp .lt 9, 3) := by decide +kernel
theorem dX2_send_13 : decode cX2_send 13 = .ok (.iload_n 3, 1) := by decide +kernel
theorem dX2_send_14 : decode cX2_send 14 = .ok (.bipush 20, 2) := by decide +kernel
theorem dX2_send_16 : decode cX2_send 16 = .ok (.if_icmp .le 13, 3) := by decide +kernel
theorem dX2_send_19 : decode cX2_send 19 = .ok (.new 37, 3) := by decide +kernel
theorem dX2_send_22 : decode cX2_send 22 = .ok (.dup, 1) := by decide +kernel
theorem dX2_send_23 : decode cX2_send 23 = .ok (.ldc 104, 2) := by decide +kernel
theorem dX2_send_25 : decode cX2_send 25 = .ok (.invokespecial 41, 3) := by decide +kernel
theorem dX2_send_28 : decode cX2_send 28 = .ok (.athrow, 1) := by decide +kernel
theorem dX2_send_29 : decode cX2_send 29 = .ok (.aload 4, 2) := by decide +kernel
theorem dX2_send_31 : decode cX2_send 31 = .ok (.getfield 106, 3) := by decide +kernel
theorem dX2_send_34 : decode cX2_send 34 = .ok (.bipush 8, 2) := by decide +kernel
theorem dX2_send_36 : decode cX2_send 36 = .ok (.if_icmp .eq 12, 3) := by decide +kernel
theorem dX2_send_39 : decode cX2_send 39 = .ok (.aload_n 0, 1) := by decide +kernel
theorem dX2_send_40 : decode cX2_send 40 = .ok (.getfield 109, 3) := by decide +kernel
theorem dX2_send_43 : decode cX2_send 43 = .ok (.bipush 100, 2) := by decide +kernel
theorem dX2_send_45 : decode cX2_send 45 = .ok (.if_icmp .ne 13, 3) := by decide +kernel
theorem dX2_send_48 : decode cX2_send 48 = .ok (.new 53, 3) := by decide +kernel
theorem dX2_send_51 : decode cX2_send 51 = .ok (.dup, 1) := by decide +kernel
theorem dX2_send_52 : decode cX2_send 52 = .ok (.ldc 112, 2) := by decide +kernel
theorem dX2_send_54 : decode cX2_send 54 = .ok (.invokespecial 57, 3) := by decide +kernel
theorem dX2_send_57 : decode cX2_send 57 = .ok (.athrow, 1) := by decide +kernel
theorem dX2_send_58 : decode cX2_send 58 = .ok (.aload 4, 2) := by decide +kernel
theorem dX2_send_60 : decode cX2_send 60 = .ok (.aload_n 0, 1) := by decide +kernel
theorem dX2_send_61 : decode cX2_send 61 = .ok (.getfield 109, 3) := by decide +kernel
theorem dX2_send_64 : decode cX2_send 64 = .ok (.iload_n 3, 1) := by decide +kernel
theorem dX2_send_65 : decode cX2_send 65 = .ok (.invokevirtual 114, 3) := by decide +kernel
theorem dX2_send_68 : decode cX2_send 68 = .ok (.aload_n 0, 1) := by decide +kernel
theorem dX2_send_69 : decode cX2_send 69 = .ok (.dup, 1) := by decide +kernel
theorem dX2_send_70 : decode cX2_send 70 = .ok (.getfield 109, 3) := by decide +kernel
theorem dX2_send_73 : decode cX2_send 73 = .ok (.dup_x1, 1) := by decide +kernel
theorem dX2_send_74 : decode cX2_send 74 = .ok (.iconst 1, 1) := by decide +kernel
theorem dX2_send_75 : decode cX2_send 75 = .ok (.iadd, 1) := by decide +kernel
theorem dX2_send_76 : decode cX2_send 76 = .ok (.putfield 109, 3) := by decide +kernel
theorem dX2_send_79 : decode cX2_send 79 = .ok (.ireturn, 1) := by decide +kernel
set_option maxRecDepth 20000 in
theorem ggX2_key_X2_plugged : GoodIn wsX2_key wsX2_plugged := goodIn_ca (goodIn_r _ [11, 1, 2, 12, 13, 14, 15, 10, 16, 17, 18, 19, 20, 21, 22, 23, 24, 25, 26, 27, 28, 29, 30, 31, 32, 33, 34, 35, 36, 37, 38, 39, 40, 41, 42, 43, 44, 45, 46, 47, 48] (by decide +kernel) (by decide +kernel)) (goodIn_sub (fun _ h => List.mem_cons_of_mem _ (List.mem_append_left _ (List.mem_append_right _ h))) (by decide +kernel))
set_option maxRecDepth 20000 in
theorem gX2_key_X2_plugged : GoodIn wsX2_key (wsV RX2 66 RX2 yX2_plugged wsX2_plugged) := goodIn_app (goodIn_of _ (by decide +kernel)) ggX2_key_X2_plugged
theorem dX2_key_0 : decode cX2_key 0 = .ok (.aload_n 0, 1) := by decide +kernel
theorem dX2_key_1 : decode cX2_key 1 = .ok (.iload_n 1, 1) := by decide +kernel
theorem dX2_key_2 : decode cX2_key 2 = .ok (.invokevirtual 66, 3) := by decide +kernel
theorem dX2_key_5 : decode cX2_key 5 = .ok (.astore_n 3, 1) := by decide +kernel
theorem dX2_key_6 : decode cX2_key 6 = .ok (.iload_n 2, 1) := by decide +kernel
theorem dX2_key_7 : decode cX2_key 7 = .ok (.ifCond .lt 9, 3) := by decide +kernel
theorem dX2_key_10 : decode cX2_key 10 = .ok (.iload_n 2, 1) := by decide +kernel
theorem dX2_key_11 : decode cX2_key 11 = .ok (.bipush 99, 2) := by decide +kernel
theorem dX2_key_13 : decode cX2_key 13 = .ok (.if_icmp .le 13, 3) := by decide +kernel
theorem dX2_key_16 : decode cX2_key 16 = .ok (.new 37, 3) := by decide +kernel
theorem dX2_key_19 : decode cX2_key 19 = .ok (.dup, 1) := by decide +kernel
theorem dX2_key_20 : decode cX2_key 20 = .ok (.ldc 118, 2) := by decide +kernel
theorem dX2_key_22 : decode cX2_key 22 = .ok (.invokespecial 41, 3) := by decide +kernel
theorem dX2_key_25 : decode cX2_key 25 = .ok (.athrow, 1) := by decide +kernel
theorem dX2_key_26 : decode cX2_key 26 = .ok (.aload_n 3, 1) := by decide +kernel
theorem dX2_key_27 : decode cX2_key 27 = .ok (.getfield 120, 3) := by decide +kernel
theorem dX2_key_30 : decode cX2_key 30 = .ok (.ifCond .eq 13, 3) := by decide +kernel
theorem dX2_key_33 : decode cX2_key 33 = .ok (.new 53, 3) := by decide +kernel
theorem dX2_key_36 : decode cX2_key 36 = .ok (.dup, 1) := by decide +kernel
theorem dX2_key_37 : decode cX2_key 37 = .ok (.ldc 124, 2) := by decide +kernel
theorem dX2_key_39 : decode cX2_key 39 = .ok (.invokespecial 57, 3) := by decide +kernel
theorem dX2_key_42 : decode cX2_key 42 = .ok (.athrow, 1) := by decide +kernel
theorem dX2_key_43 : decode cX2_key 43 = .ok (.aload_n 3, 1) := by decide +kernel
theorem dX2_key_44 : decode cX2_key 44 = .ok (.iconst 1, 1) := by decide +kernel
theorem dX2_key_45 : decode cX2_key 45 = .ok (.putfield 120, 3) := by decide +kernel
theorem dX2_key_48 : decode cX2_key 48 = .ok (.aload_n 3, 1) := by decide +kernel
theorem dX2_key_49 : decode cX2_key 49 = .ok (.iload_n 2, 1) := by decide +kernel
theorem dX2_key_50 : decode cX2_key 50 = .ok (.putfield 126, 3) := by decide +kernel
theorem dX2_key_53 : decode cX2_key 53 = .ok (.return_, 1) := by decide +kernel
set_option maxRecDepth 20000 in
theorem ggX2_down_X2_plugged : GoodIn wsX2_down wsX2_plugged := goodIn_ca (goodIn_r _ [7, 8, 9, 10, 11, 12, 13, 6, 14, 15, 16, 17, 18, 19, 20, 21, 22, 23, 24, 25, 26, 27, 28, 29, 30, 31, 32, 33, 34, 35, 36, 37, 38, 39, 40, 41, 42, 43, 44, 45, 46] (by decide +kernel) (by decide +kernel)) (goodIn_sub (fun _ h => List.mem_cons_of_mem _ (List.mem_append_right _ h)) (by decide +kernel))
set_option maxRecDepth 20000 in
theorem gX2_down_X2_plugged : GoodIn wsX2_down (wsV RX2 66 RX2 yX2_plugged wsX2_plugged) := goodIn_app (goodIn_of _ (by decide +kernel)) ggX2_down_X2_plugged
theorem dX2_down_0 : decode cX2_down 0 = .ok (.aload_n 0, 1) := by decide +kernel
theorem dX2_down_1 : decode cX2_down 1 = .ok (.iload_n 1, 1) := by decide +kernel
theorem dX2_down_2 : decode cX2_down 2 = .ok (.invokevirtual 66, 3) := by decide +kernel
theorem dX2_down_5 : decode cX2_down 5 = .ok (.astore_n 3, 1) := by decide +kernel
theorem dX2_down_6 : decode cX2_down 6 = .ok (.aload_n 3, 1) := by decide +kernel
theorem dX2_down_7 : decode cX2_down 7 = .ok (.iconst 1, 1) := by decide +kernel
theorem dX2_down_8 : decode cX2_down 8 = .ok (.putfield 129, 3) := by decide +kernel
theorem dX2_down_11 : decode cX2_down 11 = .ok (.aload_n 3, 1) := by decide +kernel
theorem dX2_down_12 : decode cX2_down 12 = .ok (.iload_n 2, 1) := by decide +kernel
theorem dX2_down_13 : decode cX2_down 13 = .ok (.putfield 132, 3) := by decide +kernel
theorem dX2_down_16 : decode cX2_down 16 = .ok (.return_, 1) := by decide +kernel
set_option maxRecDepth 20000 in
theorem ggX2_spoil_X2_plugged : GoodIn wsX2_spoil wsX2_plugged := goodIn_ca (goodIn_r _ [6, 7, 8, 9, 10, 11, 12, 5, 13, 14, 15, 16, 17, 18, 19, 20, 21, 22, 23, 24, 25, 26, 27, 28, 29, 30, 31, 32, 33, 34, 35, 36, 37, 38, 39, 40, 41, 42, 43, 44, 45] (by decide +kernel) (by decide +kernel)) (goodIn_sub (fun _ h => List.mem_cons_of_mem _ (List.mem_append_right _ h)) (by decide +kernel))
set_option maxRecDepth 20000 in
theorem gX2_spoil_X2_plugged : GoodIn wsX2_spoil (wsV RX2 66 RX2 yX2_plugged wsX2_plugged) := goodIn_app (goodIn_of _ (by decide +kernel)) ggX2_spoil_X2_plugged
theorem dX2_spoil_0 : decode cX2_spoil 0 = .ok (.aload_n 0, 1) := by decide +kernel
theorem dX2_spoil_1 : decode cX2_spoil 1 = .ok (.iload_n 1, 1) := by decide +kernel
theorem dX2_spoil_2 : decode cX2_spoil 2 = .ok (.invokevirtual 66, 3) := by decide +kernel
theorem dX2_spoil_5 : decode cX2_spoil 5 = .ok (.iconst 1, 1) := by decide +kernel
theorem dX2_spoil_6 : decode cX2_spoil 6 = .ok (.putfield 135, 3) := by decide +kernel
theorem dX2_spoil_9 : decode cX2_spoil 9 = .ok (.return_, 1) := by decide +kernel
theorem dX2_feeder_0 : decode cX2_feeder 0 = .ok (.iload_n 1, 1) := by decide +kernel
theorem dX2_feeder_1 : decode cX2_feeder 1 = .ok (.ifCond .lt 8, 3) := by decide +kernel
theorem dX2_feeder_4 : decode cX2_feeder 4 = .ok (.iload_n 1, 1) := by decide +kernel
theorem dX2_feeder_5 : decode cX2_feeder 5 = .ok (.iconst 2, 1) := by decide +kernel
theorem dX2_feeder_6 : decode cX2_feeder 6 = .ok (.if_icmp .lt 13, 3) := by decide +kernel
theorem dX2_feeder_9 : decode cX2_feeder 9 = .ok (.new 37, 3) := by decide +kernel
theorem dX2_feeder_12 : decode cX2_feeder 12 = .ok (.dup, 1) := by decide +kernel
theorem dX2_feeder_13 : decode cX2_feeder 13 = .ok (.ldc 138, 2) := by decide +kernel
theorem dX2_feeder_15 : decode cX2_feeder 15 = .ok (.invokespecial 41, 3) := by decide +kernel
theorem dX2_feeder_18 : decode cX2_feeder 18 = .ok (.athrow, 1) := by decide +kernel
theorem dX2_feeder_19 : decode cX2_feeder 19 = .ok (.aload_n 0, 1) := by decide +kernel
theorem dX2_feeder_20 : decode cX2_feeder 20 = .ok (.getfield 15, 3) := by decide +kernel
theorem dX2_feeder_23 : decode cX2_feeder 23 = .ok (.iload_n 1, 1) := by decide +kernel
theorem dX2_feeder_24 : decode cX2_feeder 24 = .ok (.iload_n 2, 1) := by decide +kernel
theorem dX2_feeder_25 : decode cX2_feeder 25 = .ok (.bastore, 1) := by decide +kernel
theorem dX2_feeder_26 : decode cX2_feeder 26 = .ok (.return_, 1) := by decide +kernel
theorem dX2_discover_0 : decode cX2_discover 0 = .ok (.aload_n 0, 1) := by decide +kernel
theorem dX2_discover_1 : decode cX2_discover 1 = .ok (.iconst 1, 1) := by decide +kernel
theorem dX2_discover_2 : decode cX2_discover 2 = .ok (.putfield 140, 3) := by decide +kernel
theorem dX2_discover_5 : decode cX2_discover 5 = .ok (.return_, 1) := by decide +kernel
set_option maxRecDepth 20000 in
theorem ggX2_frame_X2_passDark : GoodIn wsX2_frame wsX2_passDark := goodIn_r _ [11, 4, 3, 2, 163, 164, 165, 166, 167, 168, 169, 170, 171, 172, 173, 174, 175, 176, 177, 178] (by decide +kernel) (by decide +kernel)
set_option maxRecDepth 20000 in
theorem gX2_frame_X2_passDark : GoodIn wsX2_frame (wsV RX2 149 RX2 yX2_passDark wsX2_passDark) := goodIn_app (goodIn_of _ (by decide +kernel)) ggX2_frame_X2_passDark
set_option maxRecDepth 20000 in
theorem ggX2_frame_X2_passQuiet : GoodIn wsX2_frame wsX2_passQuiet := goodIn_r _ [15, 16, 17, 18, 19, 20, 21, 22, 23, 24, 25, 26, 27, 10, 28, 29, 30, 163, 164, 165, 166, 167, 168, 169, 170, 171, 172, 173, 174, 175, 176, 177, 178, 179, 180, 181, 182, 183, 184, 185, 186, 187, 188, 189, 190, 191, 192, 193] (by decide +kernel) (by decide +kernel)
set_option maxRecDepth 20000 in
theorem gX2_frame_X2_passQuiet : GoodIn wsX2_frame (wsV RX2 155 RX2 yX2_passQuiet wsX2_passQuiet) := goodIn_app (goodIn_of _ (by decide +kernel)) ggX2_frame_X2_passQuiet
set_option maxRecDepth 20000 in
theorem ggX2_frame_X2_watchErrors : GoodIn wsX2_frame wsX2_watchErrors := goodIn_r _ [34, 17, 35, 36, 37, 38, 39, 18, 19, 40, 163, 164, 165, 166, 167, 168, 169, 170, 171, 172, 173, 174, 175, 176, 177, 178, 179, 180, 181, 182, 183, 184, 185, 186, 187, 188, 189, 190, 191, 192, 193] (by decide +kernel) (by decide +kernel)
set_option maxRecDepth 20000 in
theorem gX2_frame_X2_watchErrors : GoodIn wsX2_frame (wsV RX2 161 RX2 yX2_watchErrors wsX2_watchErrors) := goodIn_app (goodIn_of _ (by decide +kernel)) ggX2_frame_X2_watchErrors
set_option maxRecDepth 20000 in
theorem ggX2_frame_X2_makeMap : GoodIn wsX2_frame wsX2_makeMap := goodIn_r _ [44, 17, 18, 45, 46, 47, 48, 49, 50, 51, 52, 53, 54, 55, 56, 57, 58, 38, 59, 60, 61, 62, 63, 64, 65, 66, 10, 67, 68, 69, 70, 71, 72, 73, 74, 75, 76, 77, 78, 79, 80, 81, 82, 163, 164, 165, 166, 167, 168, 169, 170, 171, 172, 173, 174, 175, 176, 177, 178, 179, 180, 181, 182, 183, 184, 185, 186, 187, 188, 189, 190, 191, 192, 193, 194, 195, 196, 197, 198, 199, 200, 201, 202, 203, 204] (by decide +kernel) (by decide +kernel)
set_option maxRecDepth 20000 in
theorem gX2_frame_X2_makeMap : GoodIn wsX2_frame (wsV RX2 164 RX2 yX2_makeMap wsX2_makeMap) := goodIn_app (goodIn_of _ (by decide +kernel)) ggX2_frame_X2_makeMap
set_option maxRecDepth 20000 in
theorem ggX2_frame_X2_layBursts : GoodIn wsX2_frame wsX2_layBursts := goodIn_r _ [86, 17, 18, 87, 35, 88, 89, 90, 91, 23, 92, 93, 94, 163, 164, 165, 166, 167, 168, 169, 170, 171, 172, 173, 174, 175, 176, 177, 178, 179, 180, 181, 182, 183, 184, 185, 186, 187, 188, 189, 190, 191, 192, 193, 194, 195, 196, 197, 198, 199, 200, 201, 202, 203, 204] (by decide +kernel) (by decide +kernel)
set_option maxRecDepth 20000 in
theorem gX2_frame_X2_layBursts : GoodIn wsX2_frame (wsV RX2 167 RX2 yX2_layBursts wsX2_layBursts) := goodIn_app (goodIn_of _ (by decide +kernel)) ggX2_frame_X2_layBursts
set_option maxRecDepth 20000 in
theorem ggX2_frame_X2_countMeetings : GoodIn wsX2_frame wsX2_countMeetings := goodIn_r _ [98, 87, 99, 58, 38, 59, 88, 100, 61, 62, 101, 163, 164, 165, 166, 167, 168, 169, 170, 171, 172, 173, 174, 175, 176, 177, 178] (by decide +kernel) (by decide +kernel)
set_option maxRecDepth 20000 in
theorem gX2_frame_X2_countMeetings : GoodIn wsX2_frame (wsV RX2 170 RX2 yX2_countMeetings wsX2_countMeetings) := goodIn_app (goodIn_of _ (by decide +kernel)) ggX2_frame_X2_countMeetings
set_option maxRecDepth 20000 in
theorem ggX2_frame_X2_sendBlocks : GoodIn wsX2_frame wsX2_sendBlocks := goodIn_r _ [105, 17, 18, 45, 106, 107, 108, 109, 110, 10, 111, 46, 112, 113, 114, 115, 116, 117, 118, 119, 51, 120, 121, 122, 123, 124, 125, 126, 6, 127, 1, 128, 129, 130, 131, 132, 133, 134, 135, 136, 137, 163, 164, 165, 166, 167, 168, 169, 170, 171, 172, 173, 174, 175, 176, 177, 178, 179, 180, 181, 182, 183, 184, 185, 186, 187, 188, 189, 190, 191, 192, 193, 194, 195, 196, 197, 198, 199, 200, 201, 202, 203, 204] (by decide +kernel) (by decide +kernel)
set_option maxRecDepth 20000 in
theorem gX2_frame_X2_sendBlocks : GoodIn wsX2_frame (wsV RX2 173 RX2 yX2_sendBlocks wsX2_sendBlocks) := goodIn_app (goodIn_of _ (by decide +kernel)) ggX2_frame_X2_sendBlocks
set_option maxRecDepth 20000 in
theorem ggX2_frame_X2_tellDown : GoodIn wsX2_frame wsX2_tellDown := goodIn_r _ [141, 17, 18, 1, 142, 143, 144, 23, 145, 146, 147, 148, 149, 150, 27, 10, 28, 29, 30, 151, 152, 153, 154, 155, 156, 157, 158, 163, 164, 165, 166, 167, 168, 169, 170, 171, 172, 173, 174, 175, 176, 177, 178, 179, 180, 181, 182, 183, 184, 185, 186, 187, 188, 189, 190, 191, 192, 193] (by decide +kernel) (by decide +kernel)
set_option maxRecDepth 20000 in
theorem gX2_frame_X2_tellDown : GoodIn wsX2_frame (wsV RX2 176 RX2 yX2_tellDown wsX2_tellDown) := goodIn_app (goodIn_of _ (by decide +kernel)) ggX2_frame_X2_tellDown
set_option maxRecDepth 20000 in
theorem ggX2_frame_X2_clearSpoilt : GoodIn wsX2_frame wsX2_clearSpoilt := goodIn_r _ [162, 17, 106, 163, 164, 165, 166, 167, 168, 169, 170, 171, 172, 173, 174, 175, 176, 177, 178, 179, 180, 181, 182, 183, 184, 185, 186, 187, 188, 189, 190, 191, 192, 193] (by decide +kernel) (by decide +kernel)
set_option maxRecDepth 20000 in
theorem gX2_frame_X2_clearSpoilt : GoodIn wsX2_frame (wsV RX2 179 RX2 yX2_clearSpoilt wsX2_clearSpoilt) := goodIn_app (goodIn_of _ (by decide +kernel)) ggX2_frame_X2_clearSpoilt
theorem dX2_frame_0 : decode cX2_frame 0 = .ok (.aload_n 0, 1) := by decide +kernel
theorem dX2_frame_1 : decode cX2_frame 1 = .ok (.dup, 1) := by decide +kernel
theorem dX2_frame_2 : decode cX2_frame 2 = .ok (.getfield 143, 3) := by decide +kernel
theorem dX2_frame_5 : decode cX2_frame 5 = .ok (.iconst 1, 1) := by decide +kernel
theorem dX2_frame_6 : decode cX2_frame 6 = .ok (.iadd, 1) := by decide +kernel
theorem dX2_frame_7 : decode cX2_frame 7 = .ok (.putfield 143, 3) := by decide +kernel
theorem dX2_frame_10 : decode cX2_frame 10 = .ok (.aload_n 0, 1) := by decide +kernel
theorem dX2_frame_11 : decode cX2_frame 11 = .ok (.getfield 15, 3) := by decide +kernel
theorem dX2_frame_14 : decode cX2_frame 14 = .ok (.aload_n 0, 1) := by decide +kernel
theorem dX2_frame_15 : decode cX2_frame 15 = .ok (.getfield 146, 3) := by decide +kernel
theorem dX2_frame_18 : decode cX2_frame 18 = .ok (.baload, 1) := by decide +kernel
theorem dX2_frame_19 : decode cX2_frame 19 = .ok (.ifCond .eq 9, 3) := by decide +kernel
theorem dX2_frame_22 : decode cX2_frame 22 = .ok (.aload_n 0, 1) := by decide +kernel
theorem dX2_frame_23 : decode cX2_frame 23 = .ok (.invokevirtual 149, 3) := by decide +kernel
theorem dX2_frame_26 : decode cX2_frame 26 = .ok (.iconst (-1), 1) := by decide +kernel
theorem dX2_frame_27 : decode cX2_frame 27 = .ok (.ireturn, 1) := by decide +kernel
theorem dX2_frame_28 : decode cX2_frame 28 = .ok (.aload_n 0, 1) := by decide +kernel
theorem dX2_frame_29 : decode cX2_frame 29 = .ok (.iconst 0, 1) := by decide +kernel
theorem dX2_frame_30 : decode cX2_frame 30 = .ok (.putfield 152, 3) := by decide +kernel
theorem dX2_frame_33 : decode cX2_frame 33 = .ok (.aload_n 0, 1) := by decide +kernel
theorem dX2_frame_34 : decode cX2_frame 34 = .ok (.getfield 140, 3) := by decide +kernel
theorem dX2_frame_37 : decode cX2_frame 37 = .ok (.ifCond .eq 15, 3) := by decide +kernel
theorem dX2_frame_40 : decode cX2_frame 40 = .ok (.aload_n 0, 1) := by decide +kernel
theorem dX2_frame_41 : decode cX2_frame 41 = .ok (.iconst 0, 1) := by decide +kernel
theorem dX2_frame_42 : decode cX2_frame 42 = .ok (.putfield 140, 3) := by decide +kernel
theorem dX2_frame_45 : decode cX2_frame 45 = .ok (.aload_n 0, 1) := by decide +kernel
theorem dX2_frame_46 : decode cX2_frame 46 = .ok (.invokevirtual 155, 3) := by decide +kernel
theorem dX2_frame_49 : decode cX2_frame 49 = .ok (.bipush (-2), 2) := by decide +kernel
theorem dX2_frame_51 : decode cX2_frame 51 = .ok (.ireturn, 1) := by decide +kernel
theorem dX2_frame_52 : decode cX2_frame 52 = .ok (.aload_n 0, 1) := by decide +kernel
theorem dX2_frame_53 : decode cX2_frame 53 = .ok (.getfield 158, 3) := by decide +kernel
theorem dX2_frame_56 : decode cX2_frame 56 = .ok (.istore_n 1, 1) := by decide +kernel
theorem dX2_frame_57 : decode cX2_frame 57 = .ok (.aload_n 0, 1) := by decide +kernel
theorem dX2_frame_58 : decode cX2_frame 58 = .ok (.invokevirtual 161, 3) := by decide +kernel
theorem dX2_frame_61 : decode cX2_frame 61 = .ok (.aload_n 0, 1) := by decide +kernel
theorem dX2_frame_62 : decode cX2_frame 62 = .ok (.invokevirtual 164, 3) := by decide +kernel
theorem dX2_frame_65 : decode cX2_frame 65 = .ok (.aload_n 0, 1) := by decide +kernel
theorem dX2_frame_66 : decode cX2_frame 66 = .ok (.invokevirtual 167, 3) := by decide +kernel
theorem dX2_frame_69 : decode cX2_frame 69 = .ok (.aload_n 0, 1) := by decide +kernel
theorem dX2_frame_70 : decode cX2_frame 70 = .ok (.invokevirtual 170, 3) := by decide +kernel
theorem dX2_frame_73 : decode cX2_frame 73 = .ok (.aload_n 0, 1) := by decide +kernel
theorem dX2_frame_74 : decode cX2_frame 74 = .ok (.invokevirtual 173, 3) := by decide +kernel
theorem dX2_frame_77 : decode cX2_frame 77 = .ok (.aload_n 0, 1) := by decide +kernel
theorem dX2_frame_78 : decode cX2_frame 78 = .ok (.invokevirtual 176, 3) := by decide +kernel
theorem dX2_frame_81 : decode cX2_frame 81 = .ok (.aload_n 0, 1) := by decide +kernel
theorem dX2_frame_82 : decode cX2_frame 82 = .ok (.invokevirtual 179, 3) := by decide +kernel
theorem dX2_frame_85 : decode cX2_frame 85 = .ok (.aload_n 0, 1) := by decide +kernel
theorem dX2_frame_86 : decode cX2_frame 86 = .ok (.getfield 158, 3) := by decide +kernel
theorem dX2_frame_89 : decode cX2_frame 89 = .ok (.iload_n 1, 1) := by decide +kernel
theorem dX2_frame_90 : decode cX2_frame 90 = .ok (.isub, 1) := by decide +kernel
theorem dX2_frame_91 : decode cX2_frame 91 = .ok (.ireturn, 1) := by decide +kernel
set_option maxRecDepth 20000 in
theorem ggX2_unit_X2_numbered : GoodIn wsX2_unit wsX2_numbered := goodIn_ca (goodIn_r _ [14, 1, 2, 15, 31, 32, 33, 34, 35, 36, 37, 38, 39, 40, 41, 42, 43, 44, 45, 46] (by decide +kernel) (by decide +kernel)) (goodIn_sub (fun _ h => List.mem_cons_of_mem _ (List.mem_append_right _ h)) (by decide +kernel))
set_option maxRecDepth 20000 in
theorem gX2_unit_X2_numbered : GoodIn wsX2_unit (wsV RX2 182 RX2 yX2_numbered wsX2_numbered) := goodIn_app (goodIn_of _ (by decide +kernel)) ggX2_unit_X2_numbered
theorem dX2_unit_0 : decode cX2_unit 0 = .ok (.aload_n 0, 1) := by decide +kernel
theorem dX2_unit_1 : decode cX2_unit 1 = .ok (.iload_n 1, 1) := by decide +kernel
theorem dX2_unit_2 : decode cX2_unit 2 = .ok (.invokevirtual 182, 3) := by decide +kernel
theorem dX2_unit_5 : decode cX2_unit 5 = .ok (.astore_n 3, 1) := by decide +kernel
theorem dX2_unit_6 : decode cX2_unit 6 = .ok (.iload_n 2, 1) := by decide +kernel
theorem dX2_unit_7 : decode cX2_unit 7 = .ok (.tableswitch 76 0 6 #[41, 46, 51, 56, 61, 66, 71], 41) := by decide +kernel
theorem dX2_unit_48 : decode cX2_unit 48 = .ok (.aload_n 3, 1) := by decide +kernel
theorem dX2_unit_49 : decode cX2_unit 49 = .ok (.getfield 58, 3) := by decide +kernel
theorem dX2_unit_52 : decode cX2_unit 52 = .ok (.ireturn, 1) := by decide +kernel
theorem dX2_unit_53 : decode cX2_unit 53 = .ok (.aload_n 3, 1) := by decide +kernel
theorem dX2_unit_54 : decode cX2_unit 54 = .ok (.getfield 101, 3) := by decide +kernel
theorem dX2_unit_57 : decode cX2_unit 57 = .ok (.ireturn, 1) := by decide +kernel
theorem dX2_unit_58 : decode cX2_unit 58 = .ok (.aload_n 3, 1) := by decide +kernel
theorem dX2_unit_59 : decode cX2_unit 59 = .ok (.getfield 185, 3) := by decide +kernel
theorem dX2_unit_62 : decode cX2_unit 62 = .ok (.ireturn, 1) := by decide +kernel
theorem dX2_unit_63 : decode cX2_unit 63 = .ok (.aload_n 3, 1) := by decide +kernel
theorem dX2_unit_64 : decode cX2_unit 64 = .ok (.getfield 188, 3) := by decide +kernel
theorem dX2_unit_67 : decode cX2_unit 67 = .ok (.ireturn, 1) := by decide +kernel
theorem dX2_unit_68 : decode cX2_unit 68 = .ok (.aload_n 3, 1) := by decide +kernel
theorem dX2_unit_69 : decode cX2_unit 69 = .ok (.getfield 191, 3) := by decide +kernel
theorem dX2_unit_72 : decode cX2_unit 72 = .ok (.ireturn, 1) := by decide +kernel
theorem dX2_unit_73 : decode cX2_unit 73 = .ok (.aload_n 3, 1) := by decide +kernel
theorem dX2_unit_74 : decode cX2_unit 74 = .ok (.getfield 194, 3) := by decide +kernel
theorem dX2_unit_77 : decode cX2_unit 77 = .ok (.ireturn, 1) := by decide +kernel
theorem dX2_unit_78 : decode cX2_unit 78 = .ok (.aload_n 3, 1) := by decide +kernel
theorem dX2_unit_79 : decode cX2_unit 79 = .ok (.getfield 197, 3) := by decide +kernel
theorem dX2_unit_82 : decode cX2_unit 82 = .ok (.ireturn, 1) := by decide +kernel
theorem dX2_unit_83 : decode cX2_unit 83 = .ok (.new 37, 3) := by decide +kernel
theorem dX2_unit_86 : decode cX2_unit 86 = .ok (.dup, 1) := by decide +kernel
theorem dX2_unit_87 : decode cX2_unit 87 = .ok (.ldc 200, 2) := by decide +kernel
theorem dX2_unit_89 : decode cX2_unit 89 = .ok (.invokespecial 41, 3) := by decide +kernel
theorem dX2_unit_92 : decode cX2_unit 92 = .ok (.athrow, 1) := by decide +kernel
set_option maxRecDepth 20000 in
theorem ggX2_container_X2_numbered : GoodIn wsX2_container wsX2_numbered := goodIn_ca (goodIn_r _ [10, 1, 2, 11, 34, 35, 36, 37, 38, 39, 40, 41, 42, 43, 44, 45, 46, 47, 48, 49] (by decide +kernel) (by decide +kernel)) (goodIn_sub (fun _ h => List.mem_cons_of_mem _ (List.mem_append_right _ h)) (by decide +kernel))
set_option maxRecDepth 20000 in
theorem gX2_container_X2_numbered : GoodIn wsX2_container (wsV RX2 182 RX2 yX2_numbered wsX2_numbered) := goodIn_app (goodIn_of _ (by decide +kernel)) ggX2_container_X2_numbered
set_option maxRecDepth 20000 in
theorem ggX2_container_X2_containerOf : GoodIn wsX2_container wsX2_containerOf := goodIn_ca (goodIn_r _ [14, 1, 2, 15, 50, 51, 52, 53, 54, 55, 56, 57, 58, 59, 60, 61, 62, 63, 64] (by decide +kernel) (by decide +kernel)) (goodIn_sub (fun _ h => List.mem_cons_of_mem _ (List.mem_append_right _ h)) (by decide +kernel))
set_option maxRecDepth 20000 in
theorem gX2_container_X2_containerOf : GoodIn wsX2_container (va_wsS RX2 202 yX2_containerOf wsX2_containerOf) := goodIn_app (goodIn_of _ (by decide +kernel)) ggX2_container_X2_containerOf
set_option maxRecDepth 20000 in
theorem ggX2_container_X0_load : GoodIn wsX2_container wsX0_load := goodIn_r _ [20, 21, 22, 23, 24, 25, 26, 27, 28, 29, 30, 31, 32, 33] (by decide +kernel) (by decide +kernel)
set_option maxRecDepth 20000 in
theorem gX2_container_X0_load : GoodIn wsX2_container (wsV RX2 206 RX0 yX0_load wsX0_load) := goodIn_app (goodIn_of _ (by decide +kernel)) ggX2_container_X0_load
theorem dX2_container_0 : decode cX2_container 0 = .ok (.aload_n 0, 1) := by decide +kernel
theorem dX2_container_1 : decode cX2_container 1 = .ok (.iload_n 1, 1) := by decide +kernel
theorem dX2_container_2 : decode cX2_container 2 = .ok (.invokevirtual 182, 3) := by decide +kernel
theorem dX2_container_5 : decode cX2_container 5 = .ok (.iload_n 2, 1) := by decide +kernel
theorem dX2_container_6 : decode cX2_container 6 = .ok (.invokestatic 202, 3) := by decide +kernel
theorem dX2_container_9 : decode cX2_container 9 = .ok (.astore 4, 2) := by decide +kernel
theorem dX2_container_11 : decode cX2_container 11 = .ok (.iload_n 3, 1) := by decide +kernel
theorem dX2_container_12 : decode cX2_container 12 = .ok (.tableswitch 56 0 3 #[32, 38, 44, 50], 32) := by decide +kernel
theorem dX2_container_44 : decode cX2_container 44 = .ok (.aload 4, 2) := by decide +kernel
theorem dX2_container_46 : decode cX2_container 46 = .ok (.invokevirtual 206, 3) := by decide +kernel
theorem dX2_container_49 : decode cX2_container 49 = .ok (.ireturn, 1) := by decide +kernel
theorem dX2_container_50 : decode cX2_container 50 = .ok (.aload 4, 2) := by decide +kernel
theorem dX2_container_52 : decode cX2_container 52 = .ok (.getfield 209, 3) := by decide +kernel
theorem dX2_container_55 : decode cX2_container 55 = .ok (.ireturn, 1) := by decide +kernel
theorem dX2_container_56 : decode cX2_container 56 = .ok (.aload 4, 2) := by decide +kernel
theorem dX2_container_58 : decode cX2_container 58 = .ok (.getfield 212, 3) := by decide +kernel
theorem dX2_container_61 : decode cX2_container 61 = .ok (.ireturn, 1) := by decide +kernel
theorem dX2_container_62 : decode cX2_container 62 = .ok (.aload 4, 2) := by decide +kernel
theorem dX2_container_64 : decode cX2_container 64 = .ok (.getfield 106, 3) := by decide +kernel
theorem dX2_container_67 : decode cX2_container 67 = .ok (.ireturn, 1) := by decide +kernel
theorem dX2_container_68 : decode cX2_container 68 = .ok (.new 37, 3) := by decide +kernel
theorem dX2_container_71 : decode cX2_container 71 = .ok (.dup, 1) := by decide +kernel
theorem dX2_container_72 : decode cX2_container 72 = .ok (.ldc 200, 2) := by decide +kernel
theorem dX2_container_74 : decode cX2_container 74 = .ok (.invokespecial 41, 3) := by decide +kernel
theorem dX2_container_77 : decode cX2_container 77 = .ok (.athrow, 1) := by decide +kernel
theorem dX2_came_0 : decode cX2_came 0 = .ok (.iload_n 1, 1) := by decide +kernel
theorem dX2_came_1 : decode cX2_came 1 = .ok (.ifCond .lt 11, 3) := by decide +kernel
theorem dX2_came_4 : decode cX2_came 4 = .ok (.iload_n 1, 1) := by decide +kernel
theorem dX2_came_5 : decode cX2_came 5 = .ok (.aload_n 0, 1) := by decide +kernel
theorem dX2_came_6 : decode cX2_came 6 = .ok (.getfield 158, 3) := by decide +kernel
theorem dX2_came_9 : decode cX2_came 9 = .ok (.if_icmp .lt 13, 3) := by decide +kernel
theorem dX2_came_12 : decode cX2_came 12 = .ok (.new 215, 3) := by decide +kernel
theorem dX2_came_15 : decode cX2_came 15 = .ok (.dup, 1) := by decide +kernel
theorem dX2_came_16 : decode cX2_came 16 = .ok (.ldc 217, 2) := by decide +kernel
theorem dX2_came_18 : decode cX2_came 18 = .ok (.invokespecial 219, 3) := by decide +kernel
theorem dX2_came_21 : decode cX2_came 21 = .ok (.athrow, 1) := by decide +kernel
theorem dX2_came_22 : decode cX2_came 22 = .ok (.iload_n 2, 1) := by decide +kernel
theorem dX2_came_23 : decode cX2_came 23 = .ok (.ifCond .lt 8, 3) := by decide +kernel
theorem dX2_came_26 : decode cX2_came 26 = .ok (.iload_n 2, 1) := by decide +kernel
theorem dX2_came_27 : decode cX2_came 27 = .ok (.iconst 4, 1) := by decide +kernel
theorem dX2_came_28 : decode cX2_came 28 = .ok (.if_icmp .lt 13, 3) := by decide +kernel
theorem dX2_came_31 : decode cX2_came 31 = .ok (.new 37, 3) := by decide +kernel
theorem dX2_came_34 : decode cX2_came 34 = .ok (.dup, 1) := by decide +kernel
theorem dX2_came_35 : decode cX2_came 35 = .ok (.ldc 200, 2) := by decide +kernel
theorem dX2_came_37 : decode cX2_came 37 = .ok (.invokespecial 41, 3) := by decide +kernel
theorem dX2_came_40 : decode cX2_came 40 = .ok (.athrow, 1) := by decide +kernel
theorem dX2_came_41 : decode cX2_came 41 = .ok (.aload_n 0, 1) := by decide +kernel
theorem dX2_came_42 : decode cX2_came 42 = .ok (.getfield 19, 3) := by decide +kernel
theorem dX2_came_45 : decode cX2_came 45 = .ok (.iload_n 1, 1) := by decide +kernel
theorem dX2_came_46 : decode cX2_came 46 = .ok (.iconst 4, 1) := by decide +kernel
theorem dX2_came_47 : decode cX2_came 47 = .ok (.imul, 1) := by decide +kernel
theorem dX2_came_48 : decode cX2_came 48 = .ok (.iload_n 2, 1) := by decide +kernel
theorem dX2_came_49 : decode cX2_came 49 = .ok (.iadd, 1) := by decide +kernel
theorem dX2_came_50 : decode cX2_came 50 = .ok (.iaload, 1) := by decide +kernel
theorem dX2_came_51 : decode cX2_came 51 = .ok (.ireturn, 1) := by decide +kernel
theorem dX2_count_0 : decode cX2_count 0 = .ok (.iload_n 1, 1) := by decide +kernel
theorem dX2_count_1 : decode cX2_count 1 = .ok (.tableswitch 78 0 6 #[43, 48, 53, 58, 63, 68, 73], 43) := by decide +kernel
theorem dX2_count_44 : decode cX2_count 44 = .ok (.aload_n 0, 1) := by decide +kernel
theorem dX2_count_45 : decode cX2_count 45 = .ok (.getfield 158, 3) := by decide +kernel
theorem dX2_count_48 : decode cX2_count 48 = .ok (.ireturn, 1) := by decide +kernel
theorem dX2_count_49 : decode cX2_count 49 = .ok (.aload_n 0, 1) := by decide +kernel
theorem dX2_count_50 : decode cX2_count 50 = .ok (.getfield 220, 3) := by decide +kernel
theorem dX2_count_53 : decode cX2_count 53 = .ok (.ireturn, 1) := by decide +kernel
theorem dX2_count_54 : decode cX2_count 54 = .ok (.aload_n 0, 1) := by decide +kernel
theorem dX2_count_55 : decode cX2_count 55 = .ok (.getfield 143, 3) := by decide +kernel
theorem dX2_count_58 : decode cX2_count 58 = .ok (.ireturn, 1) := by decide +kernel
theorem dX2_count_59 : decode cX2_count 59 = .ok (.aload_n 0, 1) := by decide +kernel
theorem dX2_count_60 : decode cX2_count 60 = .ok (.getfield 146, 3) := by decide +kernel
theorem dX2_count_63 : decode cX2_count 63 = .ok (.ireturn, 1) := by decide +kernel
theorem dX2_count_64 : decode cX2_count 64 = .ok (.aload_n 0, 1) := by decide +kernel
theorem dX2_count_65 : decode cX2_count 65 = .ok (.getfield 223, 3) := by decide +kernel
theorem dX2_count_68 : decode cX2_count 68 = .ok (.ireturn, 1) := by decide +kernel
theorem dX2_count_69 : decode cX2_count 69 = .ok (.aload_n 0, 1) := by decide +kernel
theorem dX2_count_70 : decode cX2_count 70 = .ok (.getfield 226, 3) := by decide +kernel
theorem dX2_count_73 : decode cX2_count 73 = .ok (.ireturn, 1) := by decide +kernel
theorem dX2_count_74 : decode cX2_count 74 = .ok (.aload_n 0, 1) := by decide +kernel
theorem dX2_count_75 : decode cX2_count 75 = .ok (.getfield 229, 3) := by decide +kernel
theorem dX2_count_78 : decode cX2_count 78 = .ok (.ireturn, 1) := by decide +kernel
theorem dX2_count_79 : decode cX2_count 79 = .ok (.new 37, 3) := by decide +kernel
theorem dX2_count_82 : decode cX2_count 82 = .ok (.dup, 1) := by decide +kernel
theorem dX2_count_83 : decode cX2_count 83 = .ok (.ldc 232, 2) := by decide +kernel
theorem dX2_count_85 : decode cX2_count 85 = .ok (.invokespecial 41, 3) := by decide +kernel
theorem dX2_count_88 : decode cX2_count 88 = .ok (.athrow, 1) := by decide +kernel
theorem dX2_numbered_0 : decode cX2_numbered 0 = .ok (.iload_n 1, 1) := by decide +kernel
theorem dX2_numbered_1 : decode cX2_numbered 1 = .ok (.ifCond .lt 8, 3) := by decide +kernel
theorem dX2_numbered_4 : decode cX2_numbered 4 = .ok (.iload_n 1, 1) := by decide +kernel
theorem dX2_numbered_5 : decode cX2_numbered 5 = .ok (.iconst 5, 1) := by decide +kernel
theorem dX2_numbered_6 : decode cX2_numbered 6 = .ok (.if_icmp .lt 13, 3) := by decide +kernel
theorem dX2_numbered_9 : decode cX2_numbered 9 = .ok (.new 37, 3) := by decide +kernel
theorem dX2_numbered_12 : decode cX2_numbered 12 = .ok (.dup, 1) := by decide +kernel
theorem dX2_numbered_13 : decode cX2_numbered 13 = .ok (.ldc 234, 2) := by decide +kernel
theorem dX2_numbered_15 : decode cX2_numbered 15 = .ok (.invokespecial 41, 3) := by decide +kernel
theorem dX2_numbered_18 : decode cX2_numbered 18 = .ok (.athrow, 1) := by decide +kernel
theorem dX2_numbered_19 : decode cX2_numbered 19 = .ok (.aload_n 0, 1) := by decide +kernel
theorem dX2_numbered_20 : decode cX2_numbered 20 = .ok (.getfield 11, 3) := by decide +kernel
theorem dX2_numbered_23 : decode cX2_numbered 23 = .ok (.iload_n 1, 1) := by decide +kernel
theorem dX2_numbered_24 : decode cX2_numbered 24 = .ok (.aaload, 1) := by decide +kernel
theorem dX2_numbered_25 : decode cX2_numbered 25 = .ok (.areturn, 1) := by decide +kernel
set_option maxRecDepth 20000 in
theorem ggX2_plugged_X2_numbered : GoodIn wsX2_plugged wsX2_numbered := goodIn_ca (goodIn_r _ [8, 1, 2, 9, 25, 26, 27, 28, 29, 30, 31, 32, 33, 34, 35, 36, 37, 38, 39, 40] (by decide +kernel) (by decide +kernel)) (goodIn_sub (fun _ h => List.mem_cons_of_mem _ (List.mem_append_right _ h)) (by decide +kernel))
set_option maxRecDepth 20000 in
theorem gX2_plugged_X2_numbered : GoodIn wsX2_plugged (wsV RX2 182 RX2 yX2_numbered wsX2_numbered) := goodIn_app (goodIn_of _ (by decide +kernel)) ggX2_plugged_X2_numbered
theorem dX2_plugged_0 : decode cX2_plugged 0 = .ok (.aload_n 0, 1) := by decide +kernel
theorem dX2_plugged_1 : decode cX2_plugged 1 = .ok (.iload_n 1, 1) := by decide +kernel
theorem dX2_plugged_2 : decode cX2_plugged 2 = .ok (.invokevirtual 182, 3) := by decide +kernel
theorem dX2_plugged_5 : decode cX2_plugged 5 = .ok (.astore_n 2, 1) := by decide +kernel
theorem dX2_plugged_6 : decode cX2_plugged 6 = .ok (.aload_n 2, 1) := by decide +kernel
theorem dX2_plugged_7 : decode cX2_plugged 7 = .ok (.getfield 58, 3) := by decide +kernel
theorem dX2_plugged_10 : decode cX2_plugged 10 = .ok (.ifCond .ne 13, 3) := by decide +kernel
theorem dX2_plugged_13 : decode cX2_plugged 13 = .ok (.new 37, 3) := by decide +kernel
theorem dX2_plugged_16 : decode cX2_plugged 16 = .ok (.dup, 1) := by decide +kernel
theorem dX2_plugged_17 : decode cX2_plugged 17 = .ok (.ldc 236, 2) := by decide +kernel
theorem dX2_plugged_19 : decode cX2_plugged 19 = .ok (.invokespecial 41, 3) := by decide +kernel
theorem dX2_plugged_22 : decode cX2_plugged 22 = .ok (.athrow, 1) := by decide +kernel
theorem dX2_plugged_23 : decode cX2_plugged 23 = .ok (.aload_n 2, 1) := by decide +kernel
theorem dX2_plugged_24 : decode cX2_plugged 24 = .ok (.areturn, 1) := by decide +kernel
theorem dX2_containerOf_0 : decode cX2_containerOf 0 = .ok (.iload_n 1, 1) := by decide +kernel
theorem dX2_containerOf_1 : decode cX2_containerOf 1 = .ok (.ifCond .lt 8, 3) := by decide +kernel
theorem dX2_containerOf_4 : decode cX2_containerOf 4 = .ok (.iload_n 1, 1) := by decide +kernel
theorem dX2_containerOf_5 : decode cX2_containerOf 5 = .ok (.iconst 2, 1) := by decide +kernel
theorem dX2_containerOf_6 : decode cX2_containerOf 6 = .ok (.if_icmp .lt 13, 3) := by decide +kernel
theorem dX2_containerOf_9 : decode cX2_containerOf 9 = .ok (.new 37, 3) := by decide +kernel
theorem dX2_containerOf_12 : decode cX2_containerOf 12 = .ok (.dup, 1) := by decide +kernel
theorem dX2_containerOf_13 : decode cX2_containerOf 13 = .ok (.ldc 238, 2) := by decide +kernel
theorem dX2_containerOf_15 : decode cX2_containerOf 15 = .ok (.invokespecial 41, 3) := by decide +kernel
theorem dX2_containerOf_18 : decode cX2_containerOf 18 = .ok (.athrow, 1) := by decide +kernel
theorem dX2_containerOf_19 : decode cX2_containerOf 19 = .ok (.aload_n 0, 1) := by decide +kernel
theorem dX2_containerOf_20 : decode cX2_containerOf 20 = .ok (.getfield 240, 3) := by decide +kernel
theorem dX2_containerOf_23 : decode cX2_containerOf 23 = .ok (.iload_n 1, 1) := by decide +kernel
theorem dX2_containerOf_24 : decode cX2_containerOf 24 = .ok (.aaload, 1) := by decide +kernel
theorem dX2_containerOf_25 : decode cX2_containerOf 25 = .ok (.areturn, 1) := by decide +kernel
set_option maxRecDepth 20000 in
theorem ggX2_pluggedContainer_X2_plugged : GoodIn wsX2_pluggedContainer wsX2_plugged := goodIn_ca (goodIn_r _ [5, 6, 7, 8, 9, 10, 11, 4, 12, 13, 18, 19, 20, 21, 22, 23, 24, 25, 26, 27, 28, 29, 30, 31, 32, 33, 34, 35, 36, 37, 38, 39, 40, 41, 42, 43, 44, 45, 46, 47, 48] (by decide +kernel) (by decide +kernel)) (goodIn_sub (fun _ h => List.mem_cons_of_mem _ (List.mem_append_right _ h)) (by decide +kernel))
set_option maxRecDepth 20000 in
theorem gX2_pluggedContainer_X2_plugged : GoodIn wsX2_pluggedContainer (wsV RX2 66 RX2 yX2_plugged wsX2_plugged) := goodIn_app (goodIn_of _ (by decide +kernel)) ggX2_pluggedContainer_X2_plugged
set_option maxRecDepth 20000 in
theorem ggX2_pluggedContainer_X2_containerOf : GoodIn wsX2_pluggedContainer wsX2_containerOf := goodIn_ca (goodIn_r _ [16, 6, 7, 17, 18, 19, 20, 21, 22, 23, 24, 25, 26, 27, 28, 29, 30, 31, 32] (by decide +kernel) (by decide +kernel)) (goodIn_sub (fun _ h => List.mem_cons_of_mem _ (List.mem_append_right _ h)) (by decide +kernel))
set_option maxRecDepth 20000 in
theorem gX2_pluggedContainer_X2_containerOf : GoodIn wsX2_pluggedContainer (va_wsS RX2 202 yX2_containerOf wsX2_containerOf) := goodIn_app (goodIn_of _ (by decide +kernel)) ggX2_pluggedContainer_X2_containerOf
theorem dX2_pluggedContainer_0 : decode cX2_pluggedContainer 0 = .ok (.aload_n 0, 1) := by decide +kernel
theorem dX2_pluggedContainer_1 : decode cX2_pluggedContainer 1 = .ok (.iload_n 1, 1) := by decide +kernel
theorem dX2_pluggedContainer_2 : decode cX2_pluggedContainer 2 = .ok (.invokevirtual 66, 3) := by decide +kernel
theorem dX2_pluggedContainer_5 : decode cX2_pluggedContainer 5 = .ok (.iload_n 2, 1) := by decide +kernel
theorem dX2_pluggedContainer_6 : decode cX2_pluggedContainer 6 = .ok (.invokestatic 202, 3) := by decide +kernel
theorem dX2_pluggedContainer_9 : decode cX2_pluggedContainer 9 = .ok (.areturn, 1) := by decide +kernel
theorem dX2_hasSerial_0 : decode cX2_hasSerial 0 = .ok (.aload_n 0, 1) := by decide +kernel
theorem dX2_hasSerial_1 : decode cX2_hasSerial 1 = .ok (.getfield 11, 3) := by decide +kernel
theorem dX2_hasSerial_4 : decode cX2_hasSerial 4 = .ok (.astore_n 2, 1) := by decide +kernel
theorem dX2_hasSerial_5 : decode cX2_hasSerial 5 = .ok (.aload_n 2, 1) := by decide +kernel
theorem dX2_hasSerial_6 : decode cX2_hasSerial 6 = .ok (.arraylength, 1) := by decide +kernel
theorem dX2_hasSerial_7 : decode cX2_hasSerial 7 = .ok (.istore_n 3, 1) := by decide +kernel
theorem dX2_hasSerial_8 : decode cX2_hasSerial 8 = .ok (.iconst 0, 1) := by decide +kernel
theorem dX2_hasSerial_9 : decode cX2_hasSerial 9 = .ok (.istore 4, 2) := by decide +kernel
theorem dX2_hasSerial_11 : decode cX2_hasSerial 11 = .ok (.iload 4, 2) := by decide +kernel
theorem dX2_hasSerial_13 : decode cX2_hasSerial 13 = .ok (.iload_n 3, 1) := by decide +kernel
theorem dX2_hasSerial_14 : decode cX2_hasSerial 14 = .ok (.if_icmp .ge 34, 3) := by decide +kernel
theorem dX2_hasSerial_17 : decode cX2_hasSerial 17 = .ok (.aload_n 2, 1) := by decide +kernel
theorem dX2_hasSerial_18 : decode cX2_hasSerial 18 = .ok (.iload 4, 2) := by decide +kernel
theorem dX2_hasSerial_20 : decode cX2_hasSerial 20 = .ok (.aaload, 1) := by decide +kernel
theorem dX2_hasSerial_21 : decode cX2_hasSerial 21 = .ok (.astore 5, 2) := by decide +kernel
theorem dX2_hasSerial_23 : decode cX2_hasSerial 23 = .ok (.aload 5, 2) := by decide +kernel
theorem dX2_hasSerial_25 : decode cX2_hasSerial 25 = .ok (.getfield 58, 3) := by decide +kernel
theorem dX2_hasSerial_28 : decode cX2_hasSerial 28 = .ok (.ifCond .eq 14, 3) := by decide +kernel
theorem dX2_hasSerial_31 : decode cX2_hasSerial 31 = .ok (.aload 5, 2) := by decide +kernel
theorem dX2_hasSerial_33 : decode cX2_hasSerial 33 = .ok (.getfield 62, 3) := by decide +kernel
theorem dX2_hasSerial_36 : decode cX2_hasSerial 36 = .ok (.iload_n 1, 1) := by decide +kernel
theorem dX2_hasSerial_37 : decode cX2_hasSerial 37 = .ok (.if_icmp .ne 5, 3) := by decide +kernel
theorem dX2_hasSerial_40 : decode cX2_hasSerial 40 = .ok (.iconst 1, 1) := by decide +kernel
theorem dX2_hasSerial_41 : decode cX2_hasSerial 41 = .ok (.ireturn, 1) := by decide +kernel
theorem dX2_hasSerial_42 : decode cX2_hasSerial 42 = .ok (.iinc 4 1, 3) := by decide +kernel
theorem dX2_hasSerial_45 : decode cX2_hasSerial 45 = .ok (.goto (-34), 3) := by decide +kernel
theorem dX2_hasSerial_48 : decode cX2_hasSerial 48 = .ok (.iconst 0, 1) := by decide +kernel
theorem dX2_hasSerial_49 : decode cX2_hasSerial 49 = .ok (.ireturn, 1) := by decide +kernel
theorem dX2_isWay_0 : decode cX2_isWay 0 = .ok (.iload_n 0, 1) := by decide +kernel
theorem dX2_isWay_1 : decode cX2_isWay 1 = .ok (.bipush 100, 2) := by decide +kernel
theorem dX2_isWay_3 : decode cX2_isWay 3 = .ok (.if_icmp .lt 14, 3) := by decide +kernel
theorem dX2_isWay_6 : decode cX2_isWay 6 = .ok (.iload_n 0, 1) := by decide +kernel
theorem dX2_isWay_7 : decode cX2_isWay 7 = .ok (.sipush 600, 3) := by decide +kernel
theorem dX2_isWay_10 : decode cX2_isWay 10 = .ok (.if_icmp .gt 7, 3) := by decide +kernel
theorem dX2_isWay_13 : decode cX2_isWay 13 = .ok (.iconst 1, 1) := by decide +kernel
theorem dX2_isWay_14 : decode cX2_isWay 14 = .ok (.goto 4, 3) := by decide +kernel
theorem dX2_isWay_17 : decode cX2_isWay 17 = .ok (.iconst 0, 1) := by decide +kernel
theorem dX2_isWay_18 : decode cX2_isWay 18 = .ok (.ireturn, 1) := by decide +kernel
theorem dX2_firstAway_0 : decode cX2_firstAway 0 = .ok (.iconst 0, 1) := by decide +kernel
theorem dX2_firstAway_1 : decode cX2_firstAway 1 = .ok (.istore_n 1, 1) := by decide +kernel
theorem dX2_firstAway_2 : decode cX2_firstAway 2 = .ok (.iload_n 1, 1) := by decide +kernel
theorem dX2_firstAway_3 : decode cX2_firstAway 3 = .ok (.iconst 5, 1) := by decide +kernel
theorem dX2_firstAway_4 : decode cX2_firstAway 4 = .ok (.if_icmp .ge 21, 3) := by decide +kernel
theorem dX2_firstAway_7 : decode cX2_firstAway 7 = .ok (.aload_n 0, 1) := by decide +kernel
theorem dX2_firstAway_8 : decode cX2_firstAway 8 = .ok (.getfield 11, 3) := by decide +kernel
theorem dX2_firstAway_11 : decode cX2_firstAway 11 = .ok (.iload_n 1, 1) := by decide +kernel
theorem dX2_firstAway_12 : decode cX2_firstAway 12 = .ok (.aaload, 1) := by decide +kernel
theorem dX2_firstAway_13 : decode cX2_firstAway 13 = .ok (.getfield 58, 3) := by decide +kernel
theorem dX2_firstAway_16 : decode cX2_firstAway 16 = .ok (.ifCond .eq 9, 3) := by decide +kernel
theorem dX2_firstAway_19 : decode cX2_firstAway 19 = .ok (.iinc 1 1, 3) := by decide +kernel
theorem dX2_firstAway_22 : decode cX2_firstAway 22 = .ok (.goto (-20), 3) := by decide +kernel
theorem dX2_firstAway_25 : decode cX2_firstAway 25 = .ok (.iload_n 1, 1) := by decide +kernel
theorem dX2_firstAway_26 : decode cX2_firstAway 26 = .ok (.ireturn, 1) := by decide +kernel
theorem dX2_contracted_0 : decode cX2_contracted 0 = .ok (.iconst 0, 1) := by decide +kernel
theorem dX2_contracted_1 : decode cX2_contracted 1 = .ok (.istore_n 1, 1) := by decide +kernel
theorem dX2_contracted_2 : decode cX2_contracted 2 = .ok (.aload_n 0, 1) := by decide +kernel
theorem dX2_contracted_3 : decode cX2_contracted 3 = .ok (.getfield 11, 3) := by decide +kernel
theorem dX2_contracted_6 : decode cX2_contracted 6 = .ok (.astore_n 2, 1) := by decide +kernel
theorem dX2_contracted_7 : decode cX2_contracted 7 = .ok (.aload_n 2, 1) := by decide +kernel
theorem dX2_contracted_8 : decode cX2_contracted 8 = .ok (.arraylength, 1) := by decide +kernel
theorem dX2_contracted_9 : decode cX2_contracted 9 = .ok (.istore_n 3, 1) := by decide +kernel
theorem dX2_contracted_10 : decode cX2_contracted 10 = .ok (.iconst 0, 1) := by decide +kernel
theorem dX2_contracted_11 : decode cX2_contracted 11 = .ok (.istore 4, 2) := by decide +kernel
theorem dX2_contracted_13 : decode cX2_contracted 13 = .ok (.iload 4, 2) := by decide +kernel
theorem dX2_contracted_15 : decode cX2_contracted 15 = .ok (.iload_n 3, 1) := by decide +kernel
theorem dX2_contracted_16 : decode cX2_contracted 16 = .ok (.if_icmp .ge 64, 3) := by decide +kernel
theorem dX2_contracted_19 : decode cX2_contracted 19 = .ok (.aload_n 2, 1) := by decide +kernel
theorem dX2_contracted_20 : decode cX2_contracted 20 = .ok (.iload 4, 2) := by decide +kernel
theorem dX2_contracted_22 : decode cX2_contracted 22 = .ok (.aaload, 1) := by decide +kernel
theorem dX2_contracted_23 : decode cX2_contracted 23 = .ok (.astore 5, 2) := by decide +kernel
theorem dX2_contracted_25 : decode cX2_contracted 25 = .ok (.aload 5, 2) := by decide +kernel
theorem dX2_contracted_27 : decode cX2_contracted 27 = .ok (.getfield 240, 3) := by decide +kernel
theorem dX2_contracted_30 : decode cX2_contracted 30 = .ok (.astore 6, 2) := by decide +kernel
theorem dX2_contracted_32 : decode cX2_contracted 32 = .ok (.aload 6, 2) := by decide +kernel
theorem dX2_contracted_34 : decode cX2_contracted 34 = .ok (.arraylength, 1) := by decide +kernel
theorem dX2_contracted_35 : decode cX2_contracted 35 = .ok (.istore 7, 2) := by decide +kernel
theorem dX2_contracted_37 : decode cX2_contracted 37 = .ok (.iconst 0, 1) := by decide +kernel
theorem dX2_contracted_38 : decode cX2_contracted 38 = .ok (.istore 8, 2) := by decide +kernel
theorem dX2_contracted_40 : decode cX2_contracted 40 = .ok (.iload 8, 2) := by decide +kernel
theorem dX2_contracted_42 : decode cX2_contracted 42 = .ok (.iload 7, 2) := by decide +kernel
theorem dX2_contracted_44 : decode cX2_contracted 44 = .ok (.if_icmp .ge 30, 3) := by decide +kernel
theorem dX2_contracted_47 : decode cX2_contracted 47 = .ok (.aload 6, 2) := by decide +kernel
theorem dX2_contracted_49 : decode cX2_contracted 49 = .ok (.iload 8, 2) := by decide +kernel
theorem dX2_contracted_51 : decode cX2_contracted 51 = .ok (.aaload, 1) := by decide +kernel
theorem dX2_contracted_52 : decode cX2_contracted 52 = .ok (.astore 9, 2) := by decide +kernel
theorem dX2_contracted_54 : decode cX2_contracted 54 = .ok (.iload_n 1, 1) := by decide +kernel
theorem dX2_contracted_55 : decode cX2_contracted 55 = .ok (.aload 9, 2) := by decide +kernel
theorem dX2_contracted_57 : decode cX2_contracted 57 = .ok (.getfield 84, 3) := by decide +kernel
theorem dX2_contracted_60 : decode cX2_contracted 60 = .ok (.aload 9, 2) := by decide +kernel
theorem dX2_contracted_62 : decode cX2_contracted 62 = .ok (.getfield 89, 3) := by decide +kernel
theorem dX2_contracted_65 : decode cX2_contracted 65 = .ok (.iadd, 1) := by decide +kernel
theorem dX2_contracted_66 : decode cX2_contracted 66 = .ok (.iadd, 1) := by decide +kernel
theorem dX2_contracted_67 : decode cX2_contracted 67 = .ok (.istore_n 1, 1) := by decide +kernel
theorem dX2_contracted_68 : decode cX2_contracted 68 = .ok (.iinc 8 1, 3) := by decide +kernel
theorem dX2_contracted_71 : decode cX2_contracted 71 = .ok (.goto (-31), 3) := by decide +kernel
theorem dX2_contracted_74 : decode cX2_contracted 74 = .ok (.iinc 4 1, 3) := by decide +kernel
theorem dX2_contracted_77 : decode cX2_contracted 77 = .ok (.goto (-64), 3) := by decide +kernel
theorem dX2_contracted_80 : decode cX2_contracted 80 = .ok (.iload_n 1, 1) := by decide +kernel
theorem dX2_contracted_81 : decode cX2_contracted 81 = .ok (.ireturn, 1) := by decide +kernel
theorem dX2_passDark_0 : decode cX2_passDark 0 = .ok (.aload_n 0, 1) := by decide +kernel
theorem dX2_passDark_1 : decode cX2_passDark 1 = .ok (.dup, 1) := by decide +kernel
theorem dX2_passDark_2 : decode cX2_passDark 2 = .ok (.getfield 152, 3) := by decide +kernel
theorem dX2_passDark_5 : decode cX2_passDark 5 = .ok (.iconst 1, 1) := by decide +kernel
theorem dX2_passDark_6 : decode cX2_passDark 6 = .ok (.iadd, 1) := by decide +kernel
theorem dX2_passDark_7 : decode cX2_passDark 7 = .ok (.putfield 152, 3) := by decide +kernel
theorem dX2_passDark_10 : decode cX2_passDark 10 = .ok (.iconst 1, 1) := by decide +kernel
theorem dX2_passDark_11 : decode cX2_passDark 11 = .ok (.aload_n 0, 1) := by decide +kernel
theorem dX2_passDark_12 : decode cX2_passDark 12 = .ok (.getfield 146, 3) := by decide +kernel
theorem dX2_passDark_15 : decode cX2_passDark 15 = .ok (.isub, 1) := by decide +kernel
theorem dX2_passDark_16 : decode cX2_passDark 16 = .ok (.istore_n 1, 1) := by decide +kernel
theorem dX2_passDark_17 : decode cX2_passDark 17 = .ok (.aload_n 0, 1) := by decide +kernel
theorem dX2_passDark_18 : decode cX2_passDark 18 = .ok (.getfield 152, 3) := by decide +kernel
theorem dX2_passDark_21 : decode cX2_passDark 21 = .ok (.iconst 3, 1) := by decide +kernel
theorem dX2_passDark_22 : decode cX2_passDark 22 = .ok (.if_icmp .lt 22, 3) := by decide +kernel
theorem dX2_passDark_25 : decode cX2_passDark 25 = .ok (.aload_n 0, 1) := by decide +kernel
theorem dX2_passDark_26 : decode cX2_passDark 26 = .ok (.getfield 15, 3) := by decide +kernel
theorem dX2_passDark_29 : decode cX2_passDark 29 = .ok (.iload_n 1, 1) := by decide +kernel
theorem dX2_passDark_30 : decode cX2_passDark 30 = .ok (.baload, 1) := by decide +kernel
theorem dX2_passDark_31 : decode cX2_passDark 31 = .ok (.ifCond .ne 13, 3) := by decide +kernel
theorem dX2_passDark_34 : decode cX2_passDark 34 = .ok (.aload_n 0, 1) := by decide +kernel
theorem dX2_passDark_35 : decode cX2_passDark 35 = .ok (.iload_n 1, 1) := by decide +kernel
theorem dX2_passDark_36 : decode cX2_passDark 36 = .ok (.putfield 146, 3) := by decide +kernel
theorem dX2_passDark_39 : decode cX2_passDark 39 = .ok (.aload_n 0, 1) := by decide +kernel
theorem dX2_passDark_40 : decode cX2_passDark 40 = .ok (.iconst 0, 1) := by decide +kernel
theorem dX2_passDark_41 : decode cX2_passDark 41 = .ok (.putfield 152, 3) := by decide +kernel
theorem dX2_passDark_44 : decode cX2_passDark 44 = .ok (.return_, 1) := by decide +kernel
set_option maxRecDepth 20000 in
theorem ggX2_passQuiet_X1_answerWindow : GoodIn wsX2_passQuiet wsX1_answerWindow := goodIn_r _ [9, 10, 11, 12, 13, 14, 15, 16, 33, 34, 35, 36, 37, 38, 39, 40, 41, 42, 43, 44, 45, 46, 47] (by decide +kernel) (by decide +kernel)
set_option maxRecDepth 20000 in
theorem gX2_passQuiet_X1_answerWindow : GoodIn wsX2_passQuiet (wsV RX2 244 RX1 yX1_answerWindow wsX1_answerWindow) := goodIn_app (goodIn_of _ (by decide +kernel)) ggX2_passQuiet_X1_answerWindow
theorem dX2_passQuiet_0 : decode cX2_passQuiet 0 = .ok (.iconst 0, 1) := by decide +kernel
theorem dX2_passQuiet_1 : decode cX2_passQuiet 1 = .ok (.istore_n 1, 1) := by decide +kernel
theorem dX2_passQuiet_2 : decode cX2_passQuiet 2 = .ok (.iload_n 1, 1) := by decide +kernel
theorem dX2_passQuiet_3 : decode cX2_passQuiet 3 = .ok (.bipush 8, 2) := by decide +kernel
theorem dX2_passQuiet_5 : decode cX2_passQuiet 5 = .ok (.if_icmp .ge 16, 3) := by decide +kernel
theorem dX2_passQuiet_8 : decode cX2_passQuiet 8 = .ok (.aload_n 0, 1) := by decide +kernel
theorem dX2_passQuiet_9 : decode cX2_passQuiet 9 = .ok (.getfield 23, 3) := by decide +kernel
theorem dX2_passQuiet_12 : decode cX2_passQuiet 12 = .ok (.iload_n 1, 1) := by decide +kernel
theorem dX2_passQuiet_13 : decode cX2_passQuiet 13 = .ok (.iconst 0, 1) := by decide +kernel
theorem dX2_passQuiet_14 : decode cX2_passQuiet 14 = .ok (.iastore, 1) := by decide +kernel
theorem dX2_passQuiet_15 : decode cX2_passQuiet 15 = .ok (.iinc 1 1, 3) := by decide +kernel
theorem dX2_passQuiet_18 : decode cX2_passQuiet 18 = .ok (.goto (-16), 3) := by decide +kernel
theorem dX2_passQuiet_21 : decode cX2_passQuiet 21 = .ok (.aload_n 0, 1) := by decide +kernel
theorem dX2_passQuiet_22 : decode cX2_passQuiet 22 = .ok (.getfield 11, 3) := by decide +kernel
theorem dX2_passQuiet_25 : decode cX2_passQuiet 25 = .ok (.astore_n 1, 1) := by decide +kernel
theorem dX2_passQuiet_26 : decode cX2_passQuiet 26 = .ok (.aload_n 1, 1) := by decide +kernel
theorem dX2_passQuiet_27 : decode cX2_passQuiet 27 = .ok (.arraylength, 1) := by decide +kernel
theorem dX2_passQuiet_28 : decode cX2_passQuiet 28 = .ok (.istore_n 2, 1) := by decide +kernel
theorem dX2_passQuiet_29 : decode cX2_passQuiet 29 = .ok (.iconst 0, 1) := by decide +kernel
theorem dX2_passQuiet_30 : decode cX2_passQuiet 30 = .ok (.istore_n 3, 1) := by decide +kernel
theorem dX2_passQuiet_31 : decode cX2_passQuiet 31 = .ok (.iload_n 3, 1) := by decide +kernel
theorem dX2_passQuiet_32 : decode cX2_passQuiet 32 = .ok (.iload_n 2, 1) := by decide +kernel
theorem dX2_passQuiet_33 : decode cX2_passQuiet 33 = .ok (.if_icmp .ge 37, 3) := by decide +kernel
theorem dX2_passQuiet_36 : decode cX2_passQuiet 36 = .ok (.aload_n 1, 1) := by decide +kernel
theorem dX2_passQuiet_37 : decode cX2_passQuiet 37 = .ok (.iload_n 3, 1) := by decide +kernel
theorem dX2_passQuiet_38 : decode cX2_passQuiet 38 = .ok (.aaload, 1) := by decide +kernel
theorem dX2_passQuiet_39 : decode cX2_passQuiet 39 = .ok (.astore 4, 2) := by decide +kernel
theorem dX2_passQuiet_41 : decode cX2_passQuiet 41 = .ok (.aload 4, 2) := by decide +kernel
theorem dX2_passQuiet_43 : decode cX2_passQuiet 43 = .ok (.getfield 58, 3) := by decide +kernel
theorem dX2_passQuiet_46 : decode cX2_passQuiet 46 = .ok (.iconst 1, 1) := by decide +kernel
theorem dX2_passQuiet_47 : decode cX2_passQuiet 47 = .ok (.if_icmp .ne 17, 3) := by decide +kernel
theorem dX2_passQuiet_50 : decode cX2_passQuiet 50 = .ok (.aload_n 0, 1) := by decide +kernel
theorem dX2_passQuiet_51 : decode cX2_passQuiet 51 = .ok (.getfield 23, 3) := by decide +kernel
theorem dX2_passQuiet_54 : decode cX2_passQuiet 54 = .ok (.aload 4, 2) := by decide +kernel
theorem dX2_passQuiet_56 : decode cX2_passQuiet 56 = .ok (.invokevirtual 244, 3) := by decide +kernel
theorem dX2_passQuiet_59 : decode cX2_passQuiet 59 = .ok (.dup2, 1) := by decide +kernel
theorem dX2_passQuiet_60 : decode cX2_passQuiet 60 = .ok (.iaload, 1) := by decide +kernel
theorem dX2_passQuiet_61 : decode cX2_passQuiet 61 = .ok (.iconst 1, 1) := by decide +kernel
theorem dX2_passQuiet_62 : decode cX2_passQuiet 62 = .ok (.iadd, 1) := by decide +kernel
theorem dX2_passQuiet_63 : decode cX2_passQuiet 63 = .ok (.iastore, 1) := by decide +kernel
theorem dX2_passQuiet_64 : decode cX2_passQuiet 64 = .ok (.iinc 3 1, 3) := by decide +kernel
theorem dX2_passQuiet_67 : decode cX2_passQuiet 67 = .ok (.goto (-36), 3) := by decide +kernel
theorem dX2_passQuiet_70 : decode cX2_passQuiet 70 = .ok (.aload_n 0, 1) := by decide +kernel
theorem dX2_passQuiet_71 : decode cX2_passQuiet 71 = .ok (.getfield 11, 3) := by decide +kernel
theorem dX2_passQuiet_74 : decode cX2_passQuiet 74 = .ok (.astore_n 1, 1) := by decide +kernel
theorem dX2_passQuiet_75 : decode cX2_passQuiet 75 = .ok (.aload_n 1, 1) := by decide +kernel
theorem dX2_passQuiet_76 : decode cX2_passQuiet 76 = .ok (.arraylength, 1) := by decide +kernel
theorem dX2_passQuiet_77 : decode cX2_passQuiet 77 = .ok (.istore_n 2, 1) := by decide +kernel
theorem dX2_passQuiet_78 : decode cX2_passQuiet 78 = .ok (.iconst 0, 1) := by decide +kernel
theorem dX2_passQuiet_79 : decode cX2_passQuiet 79 = .ok (.istore_n 3, 1) := by decide +kernel
theorem dX2_passQuiet_80 : decode cX2_passQuiet 80 = .ok (.iload_n 3, 1) := by decide +kernel
theorem dX2_passQuiet_81 : decode cX2_passQuiet 81 = .ok (.iload_n 2, 1) := by decide +kernel
theorem dX2_passQuiet_82 : decode cX2_passQuiet 82 = .ok (.if_icmp .ge 57, 3) := by decide +kernel
theorem dX2_passQuiet_85 : decode cX2_passQuiet 85 = .ok (.aload_n 1, 1) := by decide +kernel
theorem dX2_passQuiet_86 : decode cX2_passQuiet 86 = .ok (.iload_n 3, 1) := by decide +kernel
theorem dX2_passQuiet_87 : decode cX2_passQuiet 87 = .ok (.aaload, 1) := by decide +kernel
theorem dX2_passQuiet_88 : decode cX2_passQuiet 88 = .ok (.astore 4, 2) := by decide +kernel
theorem dX2_passQuiet_90 : decode cX2_passQuiet 90 = .ok (.aload 4, 2) := by decide +kernel
theorem dX2_passQuiet_92 : decode cX2_passQuiet 92 = .ok (.getfield 58, 3) := by decide +kernel
theorem dX2_passQuiet_95 : decode cX2_passQuiet 95 = .ok (.iconst 1, 1) := by decide +kernel
theorem dX2_passQuiet_96 : decode cX2_passQuiet 96 = .ok (.if_icmp .ne 37, 3) := by decide +kernel
theorem dX2_passQuiet_99 : decode cX2_passQuiet 99 = .ok (.aload_n 0, 1) := by decide +kernel
theorem dX2_passQuiet_100 : decode cX2_passQuiet 100 = .ok (.getfield 23, 3) := by decide +kernel
theorem dX2_passQuiet_103 : decode cX2_passQuiet 103 = .ok (.aload 4, 2) := by decide +kernel
theorem dX2_passQuiet_105 : decode cX2_passQuiet 105 = .ok (.invokevirtual 244, 3) := by decide +kernel
theorem dX2_passQuiet_108 : decode cX2_passQuiet 108 = .ok (.iaload, 1) := by decide +kernel
theorem dX2_passQuiet_109 : decode cX2_passQuiet 109 = .ok (.iconst 1, 1) := by decide +kernel
theorem dX2_passQuiet_110 : decode cX2_passQuiet 110 = .ok (.if_icmp .ne 12, 3) := by decide +kernel
theorem dX2_passQuiet_113 : decode cX2_passQuiet 113 = .ok (.aload 4, 2) := by decide +kernel
theorem dX2_passQuiet_115 : decode cX2_passQuiet 115 = .ok (.iconst 2, 1) := by decide +kernel
theorem dX2_passQuiet_116 : decode cX2_passQuiet 116 = .ok (.putfield 58, 3) := by decide +kernel
theorem dX2_passQuiet_119 : decode cX2_passQuiet 119 = .ok (.goto 14, 3) := by decide +kernel
theorem dX2_passQuiet_122 : decode cX2_passQuiet 122 = .ok (.aload 4, 2) := by decide +kernel
theorem dX2_passQuiet_124 : decode cX2_passQuiet 124 = .ok (.dup, 1) := by decide +kernel
theorem dX2_passQuiet_125 : decode cX2_passQuiet 125 = .ok (.getfield 197, 3) := by decide +kernel
theorem dX2_passQuiet_128 : decode cX2_passQuiet 128 = .ok (.iconst 1, 1) := by decide +kernel
theorem dX2_passQuiet_129 : decode cX2_passQuiet 129 = .ok (.iadd, 1) := by decide +kernel
theorem dX2_passQuiet_130 : decode cX2_passQuiet 130 = .ok (.putfield 197, 3) := by decide +kernel
theorem dX2_passQuiet_133 : decode cX2_passQuiet 133 = .ok (.iinc 3 1, 3) := by decide +kernel
theorem dX2_passQuiet_136 : decode cX2_passQuiet 136 = .ok (.goto (-56), 3) := by decide +kernel
theorem dX2_passQuiet_139 : decode cX2_passQuiet 139 = .ok (.return_, 1) := by decide +kernel
theorem dX2_watchErrors_0 : decode cX2_watchErrors 0 = .ok (.aload_n 0, 1) := by decide +kernel
theorem dX2_watchErrors_1 : decode cX2_watchErrors 1 = .ok (.getfield 11, 3) := by decide +kernel
theorem dX2_watchErrors_4 : decode cX2_watchErrors 4 = .ok (.astore_n 1, 1) := by decide +kernel
theorem dX2_watchErrors_5 : decode cX2_watchErrors 5 = .ok (.aload_n 1, 1) := by decide +kernel
theorem dX2_watchErrors_6 : decode cX2_watchErrors 6 = .ok (.arraylength, 1) := by decide +kernel
theorem dX2_watchErrors_7 : decode cX2_watchErrors 7 = .ok (.istore_n 2, 1) := by decide +kernel
theorem dX2_watchErrors_8 : decode cX2_watchErrors 8 = .ok (.iconst 0, 1) := by decide +kernel
theorem dX2_watchErrors_9 : decode cX2_watchErrors 9 = .ok (.istore_n 3, 1) := by decide +kernel
theorem dX2_watchErrors_10 : decode cX2_watchErrors 10 = .ok (.iload_n 3, 1) := by decide +kernel
theorem dX2_watchErrors_11 : decode cX2_watchErrors 11 = .ok (.iload_n 2, 1) := by decide +kernel
theorem dX2_watchErrors_12 : decode cX2_watchErrors 12 = .ok (.if_icmp .ge 65, 3) := by decide +kernel
theorem dX2_watchErrors_15 : decode cX2_watchErrors 15 = .ok (.aload_n 1, 1) := by decide +kernel
theorem dX2_watchErrors_16 : decode cX2_watchErrors 16 = .ok (.iload_n 3, 1) := by decide +kernel
theorem dX2_watchErrors_17 : decode cX2_watchErrors 17 = .ok (.aaload, 1) := by decide +kernel
theorem dX2_watchErrors_18 : decode cX2_watchErrors 18 = .ok (.astore 4, 2) := by decide +kernel
theorem dX2_watchErrors_20 : decode cX2_watchErrors 20 = .ok (.aload 4, 2) := by decide +kernel
theorem dX2_watchErrors_22 : decode cX2_watchErrors 22 = .ok (.getfield 101, 3) := by decide +kernel
theorem dX2_watchErrors_25 : decode cX2_watchErrors 25 = .ok (.invokestatic 247, 3) := by decide +kernel
theorem dX2_watchErrors_28 : decode cX2_watchErrors 28 = .ok (.istore 5, 2) := by decide +kernel
theorem dX2_watchErrors_30 : decode cX2_watchErrors 30 = .ok (.iload 5, 2) := by decide +kernel
theorem dX2_watchErrors_32 : decode cX2_watchErrors 32 = .ok (.bipush 8, 2) := by decide +kernel
theorem dX2_watchErrors_34 : decode cX2_watchErrors 34 = .ok (.if_icmp .le 25, 3) := by decide +kernel
theorem dX2_watchErrors_37 : decode cX2_watchErrors 37 = .ok (.aload 4, 2) := by decide +kernel
theorem dX2_watchErrors_39 : decode cX2_watchErrors 39 = .ok (.iconst 1, 1) := by decide +kernel
theorem dX2_watchErrors_40 : decode cX2_watchErrors 40 = .ok (.putfield 58, 3) := by decide +kernel
theorem dX2_watchErrors_43 : decode cX2_watchErrors 43 = .ok (.aload 4, 2) := by decide +kernel
theorem dX2_watchErrors_45 : decode cX2_watchErrors 45 = .ok (.iconst 0, 1) := by decide +kernel
theorem dX2_watchErrors_46 : decode cX2_watchErrors 46 = .ok (.putfield 197, 3) := by decide +kernel
theorem dX2_watchErrors_49 : decode cX2_watchErrors 49 = .ok (.aload_n 0, 1) := by decide +kernel
theorem dX2_watchErrors_50 : decode cX2_watchErrors 50 = .ok (.dup, 1) := by decide +kernel
theorem dX2_watchErrors_51 : decode cX2_watchErrors 51 = .ok (.getfield 229, 3) := by decide +kernel
theorem dX2_watchErrors_54 : decode cX2_watchErrors 54 = .ok (.iconst 1, 1) := by decide +kernel
theorem dX2_watchErrors_55 : decode cX2_watchErrors 55 = .ok (.iadd, 1) := by decide +kernel
theorem dX2_watchErrors_56 : decode cX2_watchErrors 56 = .ok (.putfield 229, 3) := by decide +kernel
theorem dX2_watchErrors_59 : decode cX2_watchErrors 59 = .ok (.iload 5, 2) := by decide +kernel
theorem dX2_watchErrors_61 : decode cX2_watchErrors 61 = .ok (.iconst 4, 1) := by decide +kernel
theorem dX2_watchErrors_62 : decode cX2_watchErrors 62 = .ok (.if_icmp .le 9, 3) := by decide +kernel
theorem dX2_watchErrors_65 : decode cX2_watchErrors 65 = .ok (.aload 4, 2) := by decide +kernel
theorem dX2_watchErrors_67 : decode cX2_watchErrors 67 = .ok (.iconst 0, 1) := by decide +kernel
theorem dX2_watchErrors_68 : decode cX2_watchErrors 68 = .ok (.putfield 101, 3) := by decide +kernel
theorem dX2_watchErrors_71 : decode cX2_watchErrors 71 = .ok (.iinc 3 1, 3) := by decide +kernel
theorem dX2_watchErrors_74 : decode cX2_watchErrors 74 = .ok (.goto (-64), 3) := by decide +kernel
theorem dX2_watchErrors_77 : decode cX2_watchErrors 77 = .ok (.return_, 1) := by decide +kernel
set_option maxRecDepth 20000 in
theorem ggX2_makeMap_X0_giveContracted : GoodIn wsX2_makeMap wsX0_giveContracted := goodIn_r _ [10, 11, 12, 13, 14, 15, 16, 17, 18, 19, 20, 21, 22, 74, 75, 76, 77, 78, 79, 80, 81, 82, 83, 84] (by decide +kernel) (by decide +kernel)
set_option maxRecDepth 20000 in
theorem gX2_makeMap_X0_giveContracted : GoodIn wsX2_makeMap (wsV RX2 253 RX0 yX0_giveContracted wsX0_giveContracted) := goodIn_app (goodIn_of _ (by decide +kernel)) ggX2_makeMap_X0_giveContracted
set_option maxRecDepth 20000 in
theorem ggX2_makeMap_X2_giveSpare : GoodIn wsX2_makeMap wsX2_giveSpare := goodIn_r _ [27, 4, 28, 29, 30, 31, 26, 32, 1, 2, 3, 33, 34, 35, 9, 36, 22, 37, 14, 38, 39, 40, 41, 11, 42, 74, 75, 76, 77, 78, 79, 80, 81, 82, 83, 84, 43, 44, 45, 46, 47, 48, 49, 50, 51, 52, 53, 54, 55, 56, 57, 58, 59, 60, 61, 62, 63, 64, 65, 66, 67, 68, 69, 70, 71, 72, 73] (by decide +kernel) (by decide +kernel)
set_option maxRecDepth 20000 in
theorem gX2_makeMap_X2_giveSpare : GoodIn wsX2_makeMap (wsV RX2 257 RX2 yX2_giveSpare wsX2_giveSpare) := goodIn_app (goodIn_of _ (by decide +kernel)) ggX2_makeMap_X2_giveSpare
theorem dX2_makeMap_0 : decode cX2_makeMap 0 = .ok (.bipush 60, 2) := by decide +kernel
theorem dX2_makeMap_2 : decode cX2_makeMap 2 = .ok (.istore_n 1, 1) := by decide +kernel
theorem dX2_makeMap_3 : decode cX2_makeMap 3 = .ok (.aload_n 0, 1) := by decide +kernel
theorem dX2_makeMap_4 : decode cX2_makeMap 4 = .ok (.getfield 11, 3) := by decide +kernel
theorem dX2_makeMap_7 : decode cX2_makeMap 7 = .ok (.astore_n 2, 1) := by decide +kernel
theorem dX2_makeMap_8 : decode cX2_makeMap 8 = .ok (.aload_n 2, 1) := by decide +kernel
theorem dX2_makeMap_9 : decode cX2_makeMap 9 = .ok (.arraylength, 1) := by decide +kernel
theorem dX2_makeMap_10 : decode cX2_makeMap 10 = .ok (.istore_n 3, 1) := by decide +kernel
theorem dX2_makeMap_11 : decode cX2_makeMap 11 = .ok (.iconst 0, 1) := by decide +kernel
theorem dX2_makeMap_12 : decode cX2_makeMap 12 = .ok (.istore 4, 2) := by decide +kernel
theorem dX2_makeMap_14 : decode cX2_makeMap 14 = .ok (.iload 4, 2) := by decide +kernel
theorem dX2_makeMap_16 : decode cX2_makeMap 16 = .ok (.iload_n 3, 1) := by decide +kernel
theorem dX2_makeMap_17 : decode cX2_makeMap 17 = .ok (.if_icmp .ge 89, 3) := by decide +kernel
theorem dX2_makeMap_20 : decode cX2_makeMap 20 = .ok (.aload_n 2, 1) := by decide +kernel
theorem dX2_makeMap_21 : decode cX2_makeMap 21 = .ok (.iload 4, 2) := by decide +kernel
theorem dX2_makeMap_23 : decode cX2_makeMap 23 = .ok (.aaload, 1) := by decide +kernel
theorem dX2_makeMap_24 : decode cX2_makeMap 24 = .ok (.astore 5, 2) := by decide +kernel
theorem dX2_makeMap_26 : decode cX2_makeMap 26 = .ok (.aload 5, 2) := by decide +kernel
theorem dX2_makeMap_28 : decode cX2_makeMap 28 = .ok (.getfield 58, 3) := by decide +kernel
theorem dX2_makeMap_31 : decode cX2_makeMap 31 = .ok (.iconst 2, 1) := by decide +kernel
theorem dX2_makeMap_32 : decode cX2_makeMap 32 = .ok (.if_icmp .ne 7, 3) := by decide +kernel
theorem dX2_makeMap_35 : decode cX2_makeMap 35 = .ok (.iconst 1, 1) := by decide +kernel
theorem dX2_makeMap_36 : decode cX2_makeMap 36 = .ok (.goto 4, 3) := by decide +kernel
theorem dX2_makeMap_39 : decode cX2_makeMap 39 = .ok (.iconst 0, 1) := by decide +kernel
theorem dX2_makeMap_40 : decode cX2_makeMap 40 = .ok (.istore 6, 2) := by decide +kernel
theorem dX2_makeMap_42 : decode cX2_makeMap 42 = .ok (.iload 6, 2) := by decide +kernel
theorem dX2_makeMap_44 : decode cX2_makeMap 44 = .ok (.ifCond .eq 6, 3) := by decide +kernel
theorem dX2_makeMap_47 : decode cX2_makeMap 47 = .ok (.iinc 1 (-1), 3) := by decide +kernel
theorem dX2_makeMap_50 : decode cX2_makeMap 50 = .ok (.aload 5, 2) := by decide +kernel
theorem dX2_makeMap_52 : decode cX2_makeMap 52 = .ok (.getfield 240, 3) := by decide +kernel
theorem dX2_makeMap_55 : decode cX2_makeMap 55 = .ok (.astore 7, 2) := by decide +kernel
theorem dX2_makeMap_57 : decode cX2_makeMap 57 = .ok (.aload 7, 2) := by decide +kernel
theorem dX2_makeMap_59 : decode cX2_makeMap 59 = .ok (.arraylength, 1) := by decide +kernel
theorem dX2_makeMap_60 : decode cX2_makeMap 60 = .ok (.istore 8, 2) := by decide +kernel
theorem dX2_makeMap_62 : decode cX2_makeMap 62 = .ok (.iconst 0, 1) := by decide +kernel
theorem dX2_makeMap_63 : decode cX2_makeMap 63 = .ok (.istore 9, 2) := by decide +kernel
theorem dX2_makeMap_65 : decode cX2_makeMap 65 = .ok (.iload 9, 2) := by decide +kernel
theorem dX2_makeMap_67 : decode cX2_makeMap 67 = .ok (.iload 8, 2) := by decide +kernel
theorem dX2_makeMap_69 : decode cX2_makeMap 69 = .ok (.if_icmp .ge 31, 3) := by decide +kernel
theorem dX2_makeMap_72 : decode cX2_makeMap 72 = .ok (.aload 7, 2) := by decide +kernel
theorem dX2_makeMap_74 : decode cX2_makeMap 74 = .ok (.iload 9, 2) := by decide +kernel
theorem dX2_makeMap_76 : decode cX2_makeMap 76 = .ok (.aaload, 1) := by decide +kernel
theorem dX2_makeMap_77 : decode cX2_makeMap 77 = .ok (.astore 10, 2) := by decide +kernel
theorem dX2_makeMap_79 : decode cX2_makeMap 79 = .ok (.aload 10, 2) := by decide +kernel
theorem dX2_makeMap_81 : decode cX2_makeMap 81 = .ok (.iload 6, 2) := by decide +kernel
theorem dX2_makeMap_83 : decode cX2_makeMap 83 = .ok (.invokevirtual 253, 3) := by decide +kernel
theorem dX2_makeMap_86 : decode cX2_makeMap 86 = .ok (.iload_n 1, 1) := by decide +kernel
theorem dX2_makeMap_87 : decode cX2_makeMap 87 = .ok (.aload 10, 2) := by decide +kernel
theorem dX2_makeMap_89 : decode cX2_makeMap 89 = .ok (.getfield 212, 3) := by decide +kernel
theorem dX2_makeMap_92 : decode cX2_makeMap 92 = .ok (.isub, 1) := by decide +kernel
theorem dX2_makeMap_93 : decode cX2_makeMap 93 = .ok (.istore_n 1, 1) := by decide +kernel
theorem dX2_makeMap_94 : decode cX2_makeMap 94 = .ok (.iinc 9 1, 3) := by decide +kernel
theorem dX2_makeMap_97 : decode cX2_makeMap 97 = .ok (.goto (-32), 3) := by decide +kernel
theorem dX2_makeMap_100 : decode cX2_makeMap 100 = .ok (.iinc 4 1, 3) := by decide +kernel
theorem dX2_makeMap_103 : decode cX2_makeMap 103 = .ok (.goto (-89), 3) := by decide +kernel
theorem dX2_makeMap_106 : decode cX2_makeMap 106 = .ok (.aload_n 0, 1) := by decide +kernel
theorem dX2_makeMap_107 : decode cX2_makeMap 107 = .ok (.aload_n 0, 1) := by decide +kernel
theorem dX2_makeMap_108 : decode cX2_makeMap 108 = .ok (.iload_n 1, 1) := by decide +kernel
theorem dX2_makeMap_109 : decode cX2_makeMap 109 = .ok (.invokevirtual 257, 3) := by decide +kernel
theorem dX2_makeMap_112 : decode cX2_makeMap 112 = .ok (.putfield 226, 3) := by decide +kernel
theorem dX2_makeMap_115 : decode cX2_makeMap 115 = .ok (.return_, 1) := by decide +kernel
set_option maxRecDepth 20000 in
theorem ggX2_giveSpare_X2_nextToGive : GoodIn wsX2_giveSpare wsX2_nextToGive := goodIn_r _ [7, 8, 9, 10, 11, 12, 13, 14, 15, 16, 17, 18, 19, 20, 21, 22, 23, 24, 36, 37, 38, 39, 40, 41, 42, 43, 44, 45, 46, 47, 48, 49, 50, 51, 52, 53, 54, 55, 56, 57, 58, 59, 60, 61, 62, 63, 64, 65, 66, 25, 26, 27, 28, 29, 30, 31, 32, 33, 34, 35] (by decide +kernel) (by decide +kernel)
set_option maxRecDepth 20000 in
theorem gX2_giveSpare_X2_nextToGive : GoodIn wsX2_giveSpare (wsV RX2 260 RX2 yX2_nextToGive wsX2_nextToGive) := goodIn_app (goodIn_of _ (by decide +kernel)) ggX2_giveSpare_X2_nextToGive
theorem dX2_giveSpare_0 : decode cX2_giveSpare 0 = .ok (.iload_n 1, 1) := by decide +kernel
theorem dX2_giveSpare_1 : decode cX2_giveSpare 1 = .ok (.istore_n 2, 1) := by decide +kernel
theorem dX2_giveSpare_2 : decode cX2_giveSpare 2 = .ok (.iload_n 2, 1) := by decide +kernel
theorem dX2_giveSpare_3 : decode cX2_giveSpare 3 = .ok (.ifCond .le 40, 3) := by decide +kernel
theorem dX2_giveSpare_6 : decode cX2_giveSpare 6 = .ok (.aload_n 0, 1) := by decide +kernel
theorem dX2_giveSpare_7 : decode cX2_giveSpare 7 = .ok (.invokevirtual 260, 3) := by decide +kernel
theorem dX2_giveSpare_10 : decode cX2_giveSpare 10 = .ok (.astore_n 3, 1) := by decide +kernel
theorem dX2_giveSpare_11 : decode cX2_giveSpare 11 = .ok (.aload_n 3, 1) := by decide +kernel
theorem dX2_giveSpare_12 : decode cX2_giveSpare 12 = .ok (.ifnonnull 5, 3) := by decide +kernel
theorem dX2_giveSpare_15 : decode cX2_giveSpare 15 = .ok (.iload_n 2, 1) := by decide +kernel
theorem dX2_giveSpare_16 : decode cX2_giveSpare 16 = .ok (.ireturn, 1) := by decide +kernel
theorem dX2_giveSpare_17 : decode cX2_giveSpare 17 = .ok (.aload_n 3, 1) := by decide +kernel
theorem dX2_giveSpare_18 : decode cX2_giveSpare 18 = .ok (.dup, 1) := by decide +kernel
theorem dX2_giveSpare_19 : decode cX2_giveSpare 19 = .ok (.getfield 212, 3) := by decide +kernel
theorem dX2_giveSpare_22 : decode cX2_giveSpare 22 = .ok (.iconst 1, 1) := by decide +kernel
theorem dX2_giveSpare_23 : decode cX2_giveSpare 23 = .ok (.iadd, 1) := by decide +kernel
theorem dX2_giveSpare_24 : decode cX2_giveSpare 24 = .ok (.putfield 212, 3) := by decide +kernel
theorem dX2_giveSpare_27 : decode cX2_giveSpare 27 = .ok (.aload_n 3, 1) := by decide +kernel
theorem dX2_giveSpare_28 : decode cX2_giveSpare 28 = .ok (.dup, 1) := by decide +kernel
theorem dX2_giveSpare_29 : decode cX2_giveSpare 29 = .ok (.getfield 264, 3) := by decide +kernel
theorem dX2_giveSpare_32 : decode cX2_giveSpare 32 = .ok (.iconst 1, 1) := by decide +kernel
theorem dX2_giveSpare_33 : decode cX2_giveSpare 33 = .ok (.iadd, 1) := by decide +kernel
theorem dX2_giveSpare_34 : decode cX2_giveSpare 34 = .ok (.putfield 264, 3) := by decide +kernel
theorem dX2_giveSpare_37 : decode cX2_giveSpare 37 = .ok (.iinc 2 (-1), 3) := by decide +kernel
theorem dX2_giveSpare_40 : decode cX2_giveSpare 40 = .ok (.goto (-38), 3) := by decide +kernel
theorem dX2_giveSpare_43 : decode cX2_giveSpare 43 = .ok (.iconst 0, 1) := by decide +kernel
theorem dX2_giveSpare_44 : decode cX2_giveSpare 44 = .ok (.ireturn, 1) := by decide +kernel
set_option maxRecDepth 20000 in
theorem ggX2_nextToGive_X0_wants : GoodIn wsX2_nextToGive wsX0_wants := goodIn_r _ [8, 9, 10, 11, 49, 50, 51, 52, 53, 54, 55, 56, 57, 58, 59] (by decide +kernel) (by decide +kernel)
set_option maxRecDepth 20000 in
theorem gX2_nextToGive_X0_wants : GoodIn wsX2_nextToGive (wsV RX2 267 RX0 yX0_wants wsX0_wants) := goodIn_app (goodIn_of _ (by decide +kernel)) ggX2_nextToGive_X0_wants
set_option maxRecDepth 20000 in
theorem ggX2_nextToGive_X0_hasLessSpareThan : GoodIn wsX2_nextToGive wsX0_hasLessSpareThan := goodIn_r _ [15, 16, 17, 49, 50, 51, 52, 53, 54, 55, 56, 57, 58, 59] (by decide +kernel) (by decide +kernel)
set_option maxRecDepth 20000 in
theorem gX2_nextToGive_X0_hasLessSpareThan : GoodIn wsX2_nextToGive (wsV RX2 271 RX0 yX0_hasLessSpareThan wsX0_hasLessSpareThan) := goodIn_app (goodIn_of _ (by decide +kernel)) ggX2_nextToGive_X0_hasLessSpareThan
theorem dX2_nextToGive_0 : decode cX2_nextToGive 0 = .ok (.aconst_null, 1) := by decide +kernel
theorem dX2_nextToGive_1 : decode cX2_nextToGive 1 = .ok (.astore_n 1, 1) := by decide +kernel
theorem dX2_nextToGive_2 : decode cX2_nextToGive 2 = .ok (.aload_n 0, 1) := by decide +kernel
theorem dX2_nextToGive_3 : decode cX2_nextToGive 3 = .ok (.getfield 11, 3) := by decide +kernel
theorem dX2_nextToGive_6 : decode cX2_nextToGive 6 = .ok (.astore_n 2, 1) := by decide +kernel
theorem dX2_nextToGive_7 : decode cX2_nextToGive 7 = .ok (.aload_n 2, 1) := by decide +kernel
theorem dX2_nextToGive_8 : decode cX2_nextToGive 8 = .ok (.arraylength, 1) := by decide +kernel
theorem dX2_nextToGive_9 : decode cX2_nextToGive 9 = .ok (.istore_n 3, 1) := by decide +kernel
theorem dX2_nextToGive_10 : decode cX2_nextToGive 10 = .ok (.iconst 0, 1) := by decide +kernel
theorem dX2_nextToGive_11 : decode cX2_nextToGive 11 = .ok (.istore 4, 2) := by decide +kernel
theorem dX2_nextToGive_13 : decode cX2_nextToGive 13 = .ok (.iload 4, 2) := by decide +kernel
theorem dX2_nextToGive_15 : decode cX2_nextToGive 15 = .ok (.iload_n 3, 1) := by decide +kernel
theorem dX2_nextToGive_16 : decode cX2_nextToGive 16 = .ok (.if_icmp .ge 83, 3) := by decide +kernel
theorem dX2_nextToGive_19 : decode cX2_nextToGive 19 = .ok (.aload_n 2, 1) := by decide +kernel
theorem dX2_nextToGive_20 : decode cX2_nextToGive 20 = .ok (.iload 4, 2) := by decide +kernel
theorem dX2_nextToGive_22 : decode cX2_nextToGive 22 = .ok (.aaload, 1) := by decide +kernel
theorem dX2_nextToGive_23 : decode cX2_nextToGive 23 = .ok (.astore 5, 2) := by decide +kernel
theorem dX2_nextToGive_25 : decode cX2_nextToGive 25 = .ok (.aload 5, 2) := by decide +kernel
theorem dX2_nextToGive_27 : decode cX2_nextToGive 27 = .ok (.getfield 58, 3) := by decide +kernel
theorem dX2_nextToGive_30 : decode cX2_nextToGive 30 = .ok (.iconst 2, 1) := by decide +kernel
theorem dX2_nextToGive_31 : decode cX2_nextToGive 31 = .ok (.if_icmp .ne 62, 3) := by decide +kernel
theorem dX2_nextToGive_34 : decode cX2_nextToGive 34 = .ok (.aload 5, 2) := by decide +kernel
theorem dX2_nextToGive_36 : decode cX2_nextToGive 36 = .ok (.getfield 240, 3) := by decide +kernel
theorem dX2_nextToGive_39 : decode cX2_nextToGive 39 = .ok (.astore 6, 2) := by decide +kernel
theorem dX2_nextToGive_41 : decode cX2_nextToGive 41 = .ok (.aload 6, 2) := by decide +kernel
theorem dX2_nextToGive_43 : decode cX2_nextToGive 43 = .ok (.arraylength, 1) := by decide +kernel
theorem dX2_nextToGive_44 : decode cX2_nextToGive 44 = .ok (.istore 7, 2) := by decide +kernel
theorem dX2_nextToGive_46 : decode cX2_nextToGive 46 = .ok (.iconst 0, 1) := by decide +kernel
theorem dX2_nextToGive_47 : decode cX2_nextToGive 47 = .ok (.istore 8, 2) := by decide +kernel
theorem dX2_nextToGive_49 : decode cX2_nextToGive 49 = .ok (.iload 8, 2) := by decide +kernel
theorem dX2_nextToGive_51 : decode cX2_nextToGive 51 = .ok (.iload 7, 2) := by decide +kernel
theorem dX2_nextToGive_53 : decode cX2_nextToGive 53 = .ok (.if_icmp .ge 40, 3) := by decide +kernel
theorem dX2_nextToGive_56 : decode cX2_nextToGive 56 = .ok (.aload 6, 2) := by decide +kernel
theorem dX2_nextToGive_58 : decode cX2_nextToGive 58 = .ok (.iload 8, 2) := by decide +kernel
theorem dX2_nextToGive_60 : decode cX2_nextToGive 60 = .ok (.aaload, 1) := by decide +kernel
theorem dX2_nextToGive_61 : decode cX2_nextToGive 61 = .ok (.astore 9, 2) := by decide +kernel
theorem dX2_nextToGive_63 : decode cX2_nextToGive 63 = .ok (.aload 9, 2) := by decide +kernel
theorem dX2_nextToGive_65 : decode cX2_nextToGive 65 = .ok (.invokevirtual 267, 3) := by decide +kernel
theorem dX2_nextToGive_68 : decode cX2_nextToGive 68 = .ok (.ifCond .eq 19, 3) := by decide +kernel
theorem dX2_nextToGive_71 : decode cX2_nextToGive 71 = .ok (.aload_n 1, 1) := by decide +kernel
theorem dX2_nextToGive_72 : decode cX2_nextToGive 72 = .ok (.ifnull 12, 3) := by decide +kernel
theorem dX2_nextToGive_75 : decode cX2_nextToGive 75 = .ok (.aload 9, 2) := by decide +kernel
theorem dX2_nextToGive_77 : decode cX2_nextToGive 77 = .ok (.aload_n 1, 1) := by decide +kernel
theorem dX2_nextToGive_78 : decode cX2_nextToGive 78 = .ok (.invokevirtual 271, 3) := by decide +kernel
theorem dX2_nextToGive_81 : decode cX2_nextToGive 81 = .ok (.ifCond .eq 6, 3) := by decide +kernel
theorem dX2_nextToGive_84 : decode cX2_nextToGive 84 = .ok (.aload 9, 2) := by decide +kernel
theorem dX2_nextToGive_86 : decode cX2_nextToGive 86 = .ok (.astore_n 1, 1) := by decide +kernel
theorem dX2_nextToGive_87 : decode cX2_nextToGive 87 = .ok (.iinc 8 1, 3) := by decide +kernel
theorem dX2_nextToGive_90 : decode cX2_nextToGive 90 = .ok (.goto (-41), 3) := by decide +kernel
theorem dX2_nextToGive_93 : decode cX2_nextToGive 93 = .ok (.iinc 4 1, 3) := by decide +kernel
theorem dX2_nextToGive_96 : decode cX2_nextToGive 96 = .ok (.goto (-83), 3) := by decide +kernel
theorem dX2_nextToGive_99 : decode cX2_nextToGive 99 = .ok (.aload_n 1, 1) := by decide +kernel
theorem dX2_nextToGive_100 : decode cX2_nextToGive 100 = .ok (.areturn, 1) := by decide +kernel
set_option maxRecDepth 20000 in
theorem ggX2_layBursts_X1_burstLength : GoodIn wsX2_layBursts wsX1_burstLength := goodIn_r _ [10, 11, 12, 29, 30, 31, 32, 33, 34, 35, 36, 37, 38, 39, 40, 41, 42, 43, 44, 45, 46, 47, 48, 49, 50, 51, 52, 53, 54] (by decide +kernel) (by decide +kernel)
set_option maxRecDepth 20000 in
theorem gX2_layBursts_X1_burstLength : GoodIn wsX2_layBursts (wsV RX2 275 RX1 yX1_burstLength wsX1_burstLength) := goodIn_app (goodIn_of _ (by decide +kernel)) ggX2_layBursts_X1_burstLength
theorem dX2_layBursts_0 : decode cX2_layBursts 0 = .ok (.iconst 0, 1) := by decide +kernel
theorem dX2_layBursts_1 : decode cX2_layBursts 1 = .ok (.istore_n 1, 1) := by decide +kernel
theorem dX2_layBursts_2 : decode cX2_layBursts 2 = .ok (.iconst 0, 1) := by decide +kernel
theorem dX2_layBursts_3 : decode cX2_layBursts 3 = .ok (.istore_n 2, 1) := by decide +kernel
theorem dX2_layBursts_4 : decode cX2_layBursts 4 = .ok (.iload_n 2, 1) := by decide +kernel
theorem dX2_layBursts_5 : decode cX2_layBursts 5 = .ok (.iconst 5, 1) := by decide +kernel
theorem dX2_layBursts_6 : decode cX2_layBursts 6 = .ok (.if_icmp .ge 74, 3) := by decide +kernel
theorem dX2_layBursts_9 : decode cX2_layBursts 9 = .ok (.aload_n 0, 1) := by decide +kernel
theorem dX2_layBursts_10 : decode cX2_layBursts 10 = .ok (.getfield 11, 3) := by decide +kernel
theorem dX2_layBursts_13 : decode cX2_layBursts 13 = .ok (.iload_n 2, 1) := by decide +kernel
theorem dX2_layBursts_14 : decode cX2_layBursts 14 = .ok (.aaload, 1) := by decide +kernel
theorem dX2_layBursts_15 : decode cX2_layBursts 15 = .ok (.astore_n 3, 1) := by decide +kernel
theorem dX2_layBursts_16 : decode cX2_layBursts 16 = .ok (.aload_n 3, 1) := by decide +kernel
theorem dX2_layBursts_17 : decode cX2_layBursts 17 = .ok (.getfield 58, 3) := by decide +kernel
theorem dX2_layBursts_20 : decode cX2_layBursts 20 = .ok (.iconst 2, 1) := by decide +kernel
theorem dX2_layBursts_21 : decode cX2_layBursts 21 = .ok (.if_icmp .ne 10, 3) := by decide +kernel
theorem dX2_layBursts_24 : decode cX2_layBursts 24 = .ok (.aload_n 3, 1) := by decide +kernel
theorem dX2_layBursts_25 : decode cX2_layBursts 25 = .ok (.invokevirtual 275, 3) := by decide +kernel
theorem dX2_layBursts_28 : decode cX2_layBursts 28 = .ok (.goto 4, 3) := by decide +kernel
theorem dX2_layBursts_31 : decode cX2_layBursts 31 = .ok (.iconst 0, 1) := by decide +kernel
theorem dX2_layBursts_32 : decode cX2_layBursts 32 = .ok (.istore 4, 2) := by decide +kernel
theorem dX2_layBursts_34 : decode cX2_layBursts 34 = .ok (.aload_n 0, 1) := by decide +kernel
theorem dX2_layBursts_35 : decode cX2_layBursts 35 = .ok (.getfield 26, 3) := by decide +kernel
theorem dX2_layBursts_38 : decode cX2_layBursts 38 = .ok (.iload_n 2, 1) := by decide +kernel
theorem dX2_layBursts_39 : decode cX2_layBursts 39 = .ok (.iload_n 1, 1) := by decide +kernel
theorem dX2_layBursts_40 : decode cX2_layBursts 40 = .ok (.aload_n 3, 1) := by decide +kernel
theorem dX2_layBursts_41 : decode cX2_layBursts 41 = .ok (.getfield 101, 3) := by decide +kernel
theorem dX2_layBursts_44 : decode cX2_layBursts 44 = .ok (.iadd, 1) := by decide +kernel
theorem dX2_layBursts_45 : decode cX2_layBursts 45 = .ok (.iastore, 1) := by decide +kernel
theorem dX2_layBursts_46 : decode cX2_layBursts 46 = .ok (.aload_n 0, 1) := by decide +kernel
theorem dX2_layBursts_47 : decode cX2_layBursts 47 = .ok (.getfield 29, 3) := by decide +kernel
theorem dX2_layBursts_50 : decode cX2_layBursts 50 = .ok (.iload_n 2, 1) := by decide +kernel
theorem dX2_layBursts_51 : decode cX2_layBursts 51 = .ok (.aload_n 0, 1) := by decide +kernel
theorem dX2_layBursts_52 : decode cX2_layBursts 52 = .ok (.getfield 26, 3) := by decide +kernel
theorem dX2_layBursts_55 : decode cX2_layBursts 55 = .ok (.iload_n 2, 1) := by decide +kernel
theorem dX2_layBursts_56 : decode cX2_layBursts 56 = .ok (.iaload, 1) := by decide +kernel
theorem dX2_layBursts_57 : decode cX2_layBursts 57 = .ok (.iload 4, 2) := by decide +kernel
theorem dX2_layBursts_59 : decode cX2_layBursts 59 = .ok (.iadd, 1) := by decide +kernel
theorem dX2_layBursts_60 : decode cX2_layBursts 60 = .ok (.iastore, 1) := by decide +kernel
theorem dX2_layBursts_61 : decode cX2_layBursts 61 = .ok (.iload 4, 2) := by decide +kernel
theorem dX2_layBursts_63 : decode cX2_layBursts 63 = .ok (.ifCond .le 11, 3) := by decide +kernel
theorem dX2_layBursts_66 : decode cX2_layBursts 66 = .ok (.iload_n 1, 1) := by decide +kernel
theorem dX2_layBursts_67 : decode cX2_layBursts 67 = .ok (.iload 4, 2) := by decide +kernel
theorem dX2_layBursts_69 : decode cX2_layBursts 69 = .ok (.bipush 32, 2) := by decide +kernel
theorem dX2_layBursts_71 : decode cX2_layBursts 71 = .ok (.iadd, 1) := by decide +kernel
theorem dX2_layBursts_72 : decode cX2_layBursts 72 = .ok (.iadd, 1) := by decide +kernel
theorem dX2_layBursts_73 : decode cX2_layBursts 73 = .ok (.istore_n 1, 1) := by decide +kernel
theorem dX2_layBursts_74 : decode cX2_layBursts 74 = .ok (.iinc 2 1, 3) := by decide +kernel
theorem dX2_layBursts_77 : decode cX2_layBursts 77 = .ok (.goto (-73), 3) := by decide +kernel
theorem dX2_layBursts_80 : decode cX2_layBursts 80 = .ok (.return_, 1) := by decide +kernel
theorem dX2_countMeetings_0 : decode cX2_countMeetings 0 = .ok (.iconst 0, 1) := by decide +kernel
theorem dX2_countMeetings_1 : decode cX2_countMeetings 1 = .ok (.istore_n 1, 1) := by decide +kernel
theorem dX2_countMeetings_2 : decode cX2_countMeetings 2 = .ok (.iload_n 1, 1) := by decide +kernel
theorem dX2_countMeetings_3 : decode cX2_countMeetings 3 = .ok (.iconst 5, 1) := by decide +kernel
theorem dX2_countMeetings_4 : decode cX2_countMeetings 4 = .ok (.if_icmp .ge 67, 3) := by decide +kernel
theorem dX2_countMeetings_7 : decode cX2_countMeetings 7 = .ok (.iload_n 1, 1) := by decide +kernel
theorem dX2_countMeetings_8 : decode cX2_countMeetings 8 = .ok (.iconst 1, 1) := by decide +kernel
theorem dX2_countMeetings_9 : decode cX2_countMeetings 9 = .ok (.iadd, 1) := by decide +kernel
theorem dX2_countMeetings_10 : decode cX2_countMeetings 10 = .ok (.istore_n 2, 1) := by decide +kernel
theorem dX2_countMeetings_11 : decode cX2_countMeetings 11 = .ok (.iload_n 2, 1) := by decide +kernel
theorem dX2_countMeetings_12 : decode cX2_countMeetings 12 = .ok (.iconst 5, 1) := by decide +kernel
theorem dX2_countMeetings_13 : decode cX2_countMeetings 13 = .ok (.if_icmp .ge 52, 3) := by decide +kernel
theorem dX2_countMeetings_16 : decode cX2_countMeetings 16 = .ok (.aload_n 0, 1) := by decide +kernel
theorem dX2_countMeetings_17 : decode cX2_countMeetings 17 = .ok (.getfield 26, 3) := by decide +kernel
theorem dX2_countMeetings_20 : decode cX2_countMeetings 20 = .ok (.iload_n 1, 1) := by decide +kernel
theorem dX2_countMeetings_21 : decode cX2_countMeetings 21 = .ok (.iaload, 1) := by decide +kernel
theorem dX2_countMeetings_22 : decode cX2_countMeetings 22 = .ok (.aload_n 0, 1) := by decide +kernel
theorem dX2_countMeetings_23 : decode cX2_countMeetings 23 = .ok (.getfield 26, 3) := by decide +kernel
theorem dX2_countMeetings_26 : decode cX2_countMeetings 26 = .ok (.iload_n 2, 1) := by decide +kernel
theorem dX2_countMeetings_27 : decode cX2_countMeetings 27 = .ok (.iaload, 1) := by decide +kernel
theorem dX2_countMeetings_28 : decode cX2_countMeetings 28 = .ok (.invokestatic 278, 3) := by decide +kernel
theorem dX2_countMeetings_31 : decode cX2_countMeetings 31 = .ok (.aload_n 0, 1) := by decide +kernel
theorem dX2_countMeetings_32 : decode cX2_countMeetings 32 = .ok (.getfield 29, 3) := by decide +kernel
theorem dX2_countMeetings_35 : decode cX2_countMeetings 35 = .ok (.iload_n 1, 1) := by decide +kernel
theorem dX2_countMeetings_36 : decode cX2_countMeetings 36 = .ok (.iaload, 1) := by decide +kernel
theorem dX2_countMeetings_37 : decode cX2_countMeetings 37 = .ok (.aload_n 0, 1) := by decide +kernel
theorem dX2_countMeetings_38 : decode cX2_countMeetings 38 = .ok (.getfield 29, 3) := by decide +kernel
theorem dX2_countMeetings_41 : decode cX2_countMeetings 41 = .ok (.iload_n 2, 1) := by decide +kernel
theorem dX2_countMeetings_42 : decode cX2_countMeetings 42 = .ok (.iaload, 1) := by decide +kernel
theorem dX2_countMeetings_43 : decode cX2_countMeetings 43 = .ok (.invokestatic 282, 3) := by decide +kernel
theorem dX2_countMeetings_46 : decode cX2_countMeetings 46 = .ok (.if_icmp .ge 13, 3) := by decide +kernel
theorem dX2_countMeetings_49 : decode cX2_countMeetings 49 = .ok (.aload_n 0, 1) := by decide +kernel
theorem dX2_countMeetings_50 : decode cX2_countMeetings 50 = .ok (.dup, 1) := by decide +kernel
theorem dX2_countMeetings_51 : decode cX2_countMeetings 51 = .ok (.getfield 223, 3) := by decide +kernel
theorem dX2_countMeetings_54 : decode cX2_countMeetings 54 = .ok (.iconst 1, 1) := by decide +kernel
theorem dX2_countMeetings_55 : decode cX2_countMeetings 55 = .ok (.iadd, 1) := by decide +kernel
theorem dX2_countMeetings_56 : decode cX2_countMeetings 56 = .ok (.putfield 223, 3) := by decide +kernel
theorem dX2_countMeetings_59 : decode cX2_countMeetings 59 = .ok (.iinc 2 1, 3) := by decide +kernel
theorem dX2_countMeetings_62 : decode cX2_countMeetings 62 = .ok (.goto (-51), 3) := by decide +kernel
theorem dX2_countMeetings_65 : decode cX2_countMeetings 65 = .ok (.iinc 1 1, 3) := by decide +kernel
theorem dX2_countMeetings_68 : decode cX2_countMeetings 68 = .ok (.goto (-66), 3) := by decide +kernel
theorem dX2_countMeetings_71 : decode cX2_countMeetings 71 = .ok (.return_, 1) := by decide +kernel
set_option maxRecDepth 20000 in
theorem ggX2_sendBlocks_X2_sendFrom : GoodIn wsX2_sendBlocks wsX2_sendFrom := goodIn_r _ [10, 1, 4, 11, 12, 13, 14, 15, 16, 17, 18, 19, 20, 21, 22, 23, 24, 25, 26, 9, 27, 28, 29, 30, 31, 32, 33, 34, 35, 36, 41, 42, 43, 44, 45, 46, 47, 48, 49, 50, 51, 52, 53, 54, 55, 56, 57, 58, 59, 60, 61, 62, 63, 64, 65, 66, 67, 68, 69, 70, 71, 72, 73, 74, 75, 76, 77, 78, 79, 80, 81, 82] (by decide +kernel) (by decide +kernel)
set_option maxRecDepth 20000 in
theorem gX2_sendBlocks_X2_sendFrom : GoodIn wsX2_sendBlocks (wsV RX2 285 RX2 yX2_sendFrom wsX2_sendFrom) := goodIn_app (goodIn_of _ (by decide +kernel)) ggX2_sendBlocks_X2_sendFrom
set_option maxRecDepth 20000 in
theorem ggX2_sendBlocks_X0_load : GoodIn wsX2_sendBlocks wsX0_load := goodIn_r _ [40, 35, 22, 72, 73, 74, 75, 76, 77, 78, 79, 80, 81, 82] (by decide +kernel) (by decide +kernel)
set_option maxRecDepth 20000 in
theorem gX2_sendBlocks_X0_load : GoodIn wsX2_sendBlocks (wsV RX2 206 RX0 yX0_load wsX0_load) := goodIn_app (goodIn_of _ (by decide +kernel)) ggX2_sendBlocks_X0_load
theorem dX2_sendBlocks_0 : decode cX2_sendBlocks 0 = .ok (.iconst 0, 1) := by decide +kernel
theorem dX2_sendBlocks_1 : decode cX2_sendBlocks 1 = .ok (.istore_n 1, 1) := by decide +kernel
theorem dX2_sendBlocks_2 : decode cX2_sendBlocks 2 = .ok (.iload_n 1, 1) := by decide +kernel
theorem dX2_sendBlocks_3 : decode cX2_sendBlocks 3 = .ok (.iconst 5, 1) := by decide +kernel
theorem dX2_sendBlocks_4 : decode cX2_sendBlocks 4 = .ok (.if_icmp .ge 70, 3) := by decide +kernel
theorem dX2_sendBlocks_7 : decode cX2_sendBlocks 7 = .ok (.aload_n 0, 1) := by decide +kernel
theorem dX2_sendBlocks_8 : decode cX2_sendBlocks 8 = .ok (.getfield 11, 3) := by decide +kernel
theorem dX2_sendBlocks_11 : decode cX2_sendBlocks 11 = .ok (.iload_n 1, 1) := by decide +kernel
theorem dX2_sendBlocks_12 : decode cX2_sendBlocks 12 = .ok (.aaload, 1) := by decide +kernel
theorem dX2_sendBlocks_13 : decode cX2_sendBlocks 13 = .ok (.astore_n 2, 1) := by decide +kernel
theorem dX2_sendBlocks_14 : decode cX2_sendBlocks 14 = .ok (.aload_n 2, 1) := by decide +kernel
theorem dX2_sendBlocks_15 : decode cX2_sendBlocks 15 = .ok (.getfield 58, 3) := by decide +kernel
theorem dX2_sendBlocks_18 : decode cX2_sendBlocks 18 = .ok (.iconst 2, 1) := by decide +kernel
theorem dX2_sendBlocks_19 : decode cX2_sendBlocks 19 = .ok (.if_icmp .ne 49, 3) := by decide +kernel
theorem dX2_sendBlocks_22 : decode cX2_sendBlocks 22 = .ok (.iconst 0, 1) := by decide +kernel
theorem dX2_sendBlocks_23 : decode cX2_sendBlocks 23 = .ok (.istore_n 3, 1) := by decide +kernel
theorem dX2_sendBlocks_24 : decode cX2_sendBlocks 24 = .ok (.iload_n 3, 1) := by decide +kernel
theorem dX2_sendBlocks_25 : decode cX2_sendBlocks 25 = .ok (.iconst 2, 1) := by decide +kernel
theorem dX2_sendBlocks_26 : decode cX2_sendBlocks 26 = .ok (.if_icmp .ge 42, 3) := by decide +kernel
theorem dX2_sendBlocks_29 : decode cX2_sendBlocks 29 = .ok (.aload_n 2, 1) := by decide +kernel
theorem dX2_sendBlocks_30 : decode cX2_sendBlocks 30 = .ok (.getfield 240, 3) := by decide +kernel
theorem dX2_sendBlocks_33 : decode cX2_sendBlocks 33 = .ok (.iload_n 3, 1) := by decide +kernel
theorem dX2_sendBlocks_34 : decode cX2_sendBlocks 34 = .ok (.aaload, 1) := by decide +kernel
theorem dX2_sendBlocks_35 : decode cX2_sendBlocks 35 = .ok (.astore 4, 2) := by decide +kernel
theorem dX2_sendBlocks_37 : decode cX2_sendBlocks 37 = .ok (.aload_n 0, 1) := by decide +kernel
theorem dX2_sendBlocks_38 : decode cX2_sendBlocks 38 = .ok (.aload 4, 2) := by decide +kernel
theorem dX2_sendBlocks_40 : decode cX2_sendBlocks 40 = .ok (.iload_n 1, 1) := by decide +kernel
theorem dX2_sendBlocks_41 : decode cX2_sendBlocks 41 = .ok (.iload_n 3, 1) := by decide +kernel
theorem dX2_sendBlocks_42 : decode cX2_sendBlocks 42 = .ok (.invokevirtual 285, 3) := by decide +kernel
theorem dX2_sendBlocks_45 : decode cX2_sendBlocks 45 = .ok (.aload_n 2, 1) := by decide +kernel
theorem dX2_sendBlocks_46 : decode cX2_sendBlocks 46 = .ok (.getfield 135, 3) := by decide +kernel
theorem dX2_sendBlocks_49 : decode cX2_sendBlocks 49 = .ok (.ifCond .ne 13, 3) := by decide +kernel
theorem dX2_sendBlocks_52 : decode cX2_sendBlocks 52 = .ok (.aload 4, 2) := by decide +kernel
theorem dX2_sendBlocks_54 : decode cX2_sendBlocks 54 = .ok (.aload 4, 2) := by decide +kernel
theorem dX2_sendBlocks_56 : decode cX2_sendBlocks 56 = .ok (.invokevirtual 206, 3) := by decide +kernel
theorem dX2_sendBlocks_59 : decode cX2_sendBlocks 59 = .ok (.putfield 209, 3) := by decide +kernel
theorem dX2_sendBlocks_62 : decode cX2_sendBlocks 62 = .ok (.iinc 3 1, 3) := by decide +kernel
theorem dX2_sendBlocks_65 : decode cX2_sendBlocks 65 = .ok (.goto (-41), 3) := by decide +kernel
theorem dX2_sendBlocks_68 : decode cX2_sendBlocks 68 = .ok (.iinc 1 1, 3) := by decide +kernel
theorem dX2_sendBlocks_71 : decode cX2_sendBlocks 71 = .ok (.goto (-69), 3) := by decide +kernel
theorem dX2_sendBlocks_74 : decode cX2_sendBlocks 74 = .ok (.return_, 1) := by decide +kernel
set_option maxRecDepth 20000 in
theorem ggX2_sendFrom_X0_sendBlock : GoodIn wsX2_sendFrom wsX0_sendBlock := goodIn_r _ [13, 14, 15, 61, 62, 63, 64, 65, 66, 67, 68, 69, 70, 71] (by decide +kernel) (by decide +kernel)
set_option maxRecDepth 20000 in
theorem gX2_sendFrom_X0_sendBlock : GoodIn wsX2_sendFrom (wsV RX2 289 RX0 yX0_sendBlock wsX0_sendBlock) := goodIn_app (goodIn_of _ (by decide +kernel)) ggX2_sendFrom_X0_sendBlock
set_option maxRecDepth 20000 in
theorem ggX2_sendFrom_X2_note : GoodIn wsX2_sendFrom wsX2_note := goodIn_r _ [20, 21, 22, 23, 30, 31, 32, 33, 34, 35, 36, 37, 38, 39, 40, 41, 42, 43, 44, 45] (by decide +kernel) (by decide +kernel)
set_option maxRecDepth 20000 in
theorem gX2_sendFrom_X2_note : GoodIn wsX2_sendFrom (wsV RX2 301 RX2 yX2_note wsX2_note) := goodIn_app (goodIn_of _ (by decide +kernel)) ggX2_sendFrom_X2_note
set_option maxRecDepth 20000 in
theorem ggX2_sendFrom_X0_dropFirst : GoodIn wsX2_sendFrom wsX0_dropFirst := goodIn_r _ [27, 28, 29, 14, 15, 61, 62, 63, 64, 65, 66, 67, 68, 69, 70, 71] (by decide +kernel) (by decide +kernel)
set_option maxRecDepth 20000 in
theorem gX2_sendFrom_X0_dropFirst : GoodIn wsX2_sendFrom (wsV RX2 305 RX0 yX0_dropFirst wsX0_dropFirst) := goodIn_app (goodIn_of _ (by decide +kernel)) ggX2_sendFrom_X0_dropFirst
theorem dX2_sendFrom_0 : decode cX2_sendFrom 0 = .ok (.aload_n 0, 1) := by decide +kernel
theorem dX2_sendFrom_1 : decode cX2_sendFrom 1 = .ok (.getfield 11, 3) := by decide +kernel
theorem dX2_sendFrom_4 : decode cX2_sendFrom 4 = .ok (.iload_n 2, 1) := by decide +kernel
theorem dX2_sendFrom_5 : decode cX2_sendFrom 5 = .ok (.aaload, 1) := by decide +kernel
theorem dX2_sendFrom_6 : decode cX2_sendFrom 6 = .ok (.getfield 135, 3) := by decide +kernel
theorem dX2_sendFrom_9 : decode cX2_sendFrom 9 = .ok (.istore 4, 2) := by decide +kernel
theorem dX2_sendFrom_11 : decode cX2_sendFrom 11 = .ok (.iconst 0, 1) := by decide +kernel
theorem dX2_sendFrom_12 : decode cX2_sendFrom 12 = .ok (.istore 5, 2) := by decide +kernel
theorem dX2_sendFrom_14 : decode cX2_sendFrom 14 = .ok (.iload 5, 2) := by decide +kernel
theorem dX2_sendFrom_16 : decode cX2_sendFrom 16 = .ok (.aload_n 1, 1) := by decide +kernel
theorem dX2_sendFrom_17 : decode cX2_sendFrom 17 = .ok (.getfield 212, 3) := by decide +kernel
theorem dX2_sendFrom_20 : decode cX2_sendFrom 20 = .ok (.if_icmp .ge 67, 3) := by decide +kernel
theorem dX2_sendFrom_23 : decode cX2_sendFrom 23 = .ok (.aload_n 1, 1) := by decide +kernel
theorem dX2_sendFrom_24 : decode cX2_sendFrom 24 = .ok (.getfield 106, 3) := by decide +kernel
theorem dX2_sendFrom_27 : decode cX2_sendFrom 27 = .ok (.ifCond .le 60, 3) := by decide +kernel
theorem dX2_sendFrom_30 : decode cX2_sendFrom 30 = .ok (.aload_n 1, 1) := by decide +kernel
theorem dX2_sendFrom_31 : decode cX2_sendFrom 31 = .ok (.iload 4, 2) := by decide +kernel
theorem dX2_sendFrom_33 : decode cX2_sendFrom 33 = .ok (.invokevirtual 289, 3) := by decide +kernel
theorem dX2_sendFrom_36 : decode cX2_sendFrom 36 = .ok (.aload_n 1, 1) := by decide +kernel
theorem dX2_sendFrom_37 : decode cX2_sendFrom 37 = .ok (.getfield 292, 3) := by decide +kernel
theorem dX2_sendFrom_40 : decode cX2_sendFrom 40 = .ok (.iconst 0, 1) := by decide +kernel
theorem dX2_sendFrom_41 : decode cX2_sendFrom 41 = .ok (.iaload, 1) := by decide +kernel
theorem dX2_sendFrom_42 : decode cX2_sendFrom 42 = .ok (.ifCond .ne 39, 3) := by decide +kernel
theorem dX2_sendFrom_45 : decode cX2_sendFrom 45 = .ok (.aload_n 1, 1) := by decide +kernel
theorem dX2_sendFrom_46 : decode cX2_sendFrom 46 = .ok (.getfield 295, 3) := by decide +kernel
theorem dX2_sendFrom_49 : decode cX2_sendFrom 49 = .ok (.ifCond .eq 16, 3) := by decide +kernel
theorem dX2_sendFrom_52 : decode cX2_sendFrom 52 = .ok (.aload_n 0, 1) := by decide +kernel
theorem dX2_sendFrom_53 : decode cX2_sendFrom 53 = .ok (.dup, 1) := by decide +kernel
theorem dX2_sendFrom_54 : decode cX2_sendFrom 54 = .ok (.getfield 220, 3) := by decide +kernel
theorem dX2_sendFrom_57 : decode cX2_sendFrom 57 = .ok (.iconst 1, 1) := by decide +kernel
theorem dX2_sendFrom_58 : decode cX2_sendFrom 58 = .ok (.iadd, 1) := by decide +kernel
theorem dX2_sendFrom_59 : decode cX2_sendFrom 59 = .ok (.putfield 220, 3) := by decide +kernel
theorem dX2_sendFrom_62 : decode cX2_sendFrom 62 = .ok (.goto 15, 3) := by decide +kernel
theorem dX2_sendFrom_65 : decode cX2_sendFrom 65 = .ok (.aload_n 0, 1) := by decide +kernel
theorem dX2_sendFrom_66 : decode cX2_sendFrom 66 = .ok (.aload_n 1, 1) := by decide +kernel
theorem dX2_sendFrom_67 : decode cX2_sendFrom 67 = .ok (.getfield 298, 3) := by decide +kernel
theorem dX2_sendFrom_70 : decode cX2_sendFrom 70 = .ok (.iconst 0, 1) := by decide +kernel
theorem dX2_sendFrom_71 : decode cX2_sendFrom 71 = .ok (.iaload, 1) := by decide +kernel
theorem dX2_sendFrom_72 : decode cX2_sendFrom 72 = .ok (.iload_n 2, 1) := by decide +kernel
theorem dX2_sendFrom_73 : decode cX2_sendFrom 73 = .ok (.iload_n 3, 1) := by decide +kernel
theorem dX2_sendFrom_74 : decode cX2_sendFrom 74 = .ok (.invokevirtual 301, 3) := by decide +kernel
theorem dX2_sendFrom_77 : decode cX2_sendFrom 77 = .ok (.aload_n 1, 1) := by decide +kernel
theorem dX2_sendFrom_78 : decode cX2_sendFrom 78 = .ok (.invokevirtual 305, 3) := by decide +kernel
theorem dX2_sendFrom_81 : decode cX2_sendFrom 81 = .ok (.iinc 5 1, 3) := by decide +kernel
theorem dX2_sendFrom_84 : decode cX2_sendFrom 84 = .ok (.goto (-70), 3) := by decide +kernel
theorem dX2_sendFrom_87 : decode cX2_sendFrom 87 = .ok (.return_, 1) := by decide +kernel
theorem dX2_note_0 : decode cX2_note 0 = .ok (.aload_n 0, 1) := by decide +kernel
theorem dX2_note_1 : decode cX2_note 1 = .ok (.getfield 158, 3) := by decide +kernel
theorem dX2_note_4 : decode cX2_note 4 = .ok (.iconst 4, 1) := by decide +kernel
theorem dX2_note_5 : decode cX2_note 5 = .ok (.imul, 1) := by decide +kernel
theorem dX2_note_6 : decode cX2_note 6 = .ok (.istore 4, 2) := by decide +kernel
theorem dX2_note_8 : decode cX2_note 8 = .ok (.aload_n 0, 1) := by decide +kernel
theorem dX2_note_9 : decode cX2_note 9 = .ok (.getfield 19, 3) := by decide +kernel
theorem dX2_note_12 : decode cX2_note 12 = .ok (.iload 4, 2) := by decide +kernel
theorem dX2_note_14 : decode cX2_note 14 = .ok (.iload_n 1, 1) := by decide +kernel
theorem dX2_note_15 : decode cX2_note 15 = .ok (.iastore, 1) := by decide +kernel
theorem dX2_note_16 : decode cX2_note 16 = .ok (.aload_n 0, 1) := by decide +kernel
theorem dX2_note_17 : decode cX2_note 17 = .ok (.getfield 19, 3) := by decide +kernel
theorem dX2_note_20 : decode cX2_note 20 = .ok (.iload 4, 2) := by decide +kernel
theorem dX2_note_22 : decode cX2_note 22 = .ok (.iconst 1, 1) := by decide +kernel
theorem dX2_note_23 : decode cX2_note 23 = .ok (.iadd, 1) := by decide +kernel
theorem dX2_note_24 : decode cX2_note 24 = .ok (.iload_n 2, 1) := by decide +kernel
theorem dX2_note_25 : decode cX2_note 25 = .ok (.iastore, 1) := by decide +kernel
theorem dX2_note_26 : decode cX2_note 26 = .ok (.aload_n 0, 1) := by decide +kernel
theorem dX2_note_27 : decode cX2_note 27 = .ok (.getfield 19, 3) := by decide +kernel
theorem dX2_note_30 : decode cX2_note 30 = .ok (.iload 4, 2) := by decide +kernel
theorem dX2_note_32 : decode cX2_note 32 = .ok (.iconst 2, 1) := by decide +kernel
theorem dX2_note_33 : decode cX2_note 33 = .ok (.iadd, 1) := by decide +kernel
theorem dX2_note_34 : decode cX2_note 34 = .ok (.iload_n 3, 1) := by decide +kernel
theorem dX2_note_35 : decode cX2_note 35 = .ok (.iastore, 1) := by decide +kernel
theorem dX2_note_36 : decode cX2_note 36 = .ok (.aload_n 0, 1) := by decide +kernel
theorem dX2_note_37 : decode cX2_note 37 = .ok (.getfield 19, 3) := by decide +kernel
theorem dX2_note_40 : decode cX2_note 40 = .ok (.iload 4, 2) := by decide +kernel
theorem dX2_note_42 : decode cX2_note 42 = .ok (.iconst 3, 1) := by decide +kernel
theorem dX2_note_43 : decode cX2_note 43 = .ok (.iadd, 1) := by decide +kernel
theorem dX2_note_44 : decode cX2_note 44 = .ok (.aload_n 0, 1) := by decide +kernel
theorem dX2_note_45 : decode cX2_note 45 = .ok (.getfield 143, 3) := by decide +kernel
theorem dX2_note_48 : decode cX2_note 48 = .ok (.iastore, 1) := by decide +kernel
theorem dX2_note_49 : decode cX2_note 49 = .ok (.aload_n 0, 1) := by decide +kernel
theorem dX2_note_50 : decode cX2_note 50 = .ok (.dup, 1) := by decide +kernel
theorem dX2_note_51 : decode cX2_note 51 = .ok (.getfield 158, 3) := by decide +kernel
theorem dX2_note_54 : decode cX2_note 54 = .ok (.iconst 1, 1) := by decide +kernel
theorem dX2_note_55 : decode cX2_note 55 = .ok (.iadd, 1) := by decide +kernel
theorem dX2_note_56 : decode cX2_note 56 = .ok (.putfield 158, 3) := by decide +kernel
theorem dX2_note_59 : decode cX2_note 59 = .ok (.return_, 1) := by decide +kernel
set_option maxRecDepth 20000 in
theorem ggX2_tellDown_X1_takeWord : GoodIn wsX2_tellDown wsX1_takeWord := goodIn_r _ [8, 9, 10, 11, 12, 13, 14, 15, 16, 17, 18, 43, 44, 45, 46, 47, 48, 49, 50, 51, 52, 53, 54, 55, 56, 57] (by decide +kernel) (by decide +kernel)
set_option maxRecDepth 20000 in
theorem gX2_tellDown_X1_takeWord : GoodIn wsX2_tellDown (wsV RX2 308 RX1 yX1_takeWord wsX1_takeWord) := goodIn_app (goodIn_of _ (by decide +kernel)) ggX2_tellDown_X1_takeWord
set_option maxRecDepth 20000 in
theorem ggX2_tellDown_X1_takeKey : GoodIn wsX2_tellDown wsX1_takeKey := goodIn_r _ [22, 23, 24, 25, 26, 10, 43, 44, 45, 46, 47, 48, 49, 50, 51, 52, 53, 54, 55, 56, 57] (by decide +kernel) (by decide +kernel)
set_option maxRecDepth 20000 in
theorem gX2_tellDown_X1_takeKey : GoodIn wsX2_tellDown (wsV RX2 312 RX1 yX1_takeKey wsX1_takeKey) := goodIn_app (goodIn_of _ (by decide +kernel)) ggX2_tellDown_X1_takeKey
theorem dX2_tellDown_0 : decode cX2_tellDown 0 = .ok (.aload_n 0, 1) := by decide +kernel
theorem dX2_tellDown_1 : decode cX2_tellDown 1 = .ok (.getfield 11, 3) := by decide +kernel
theorem dX2_tellDown_4 : decode cX2_tellDown 4 = .ok (.astore_n 1, 1) := by decide +kernel
theorem dX2_tellDown_5 : decode cX2_tellDown 5 = .ok (.aload_n 1, 1) := by decide +kernel
theorem dX2_tellDown_6 : decode cX2_tellDown 6 = .ok (.arraylength, 1) := by decide +kernel
theorem dX2_tellDown_7 : decode cX2_tellDown 7 = .ok (.istore_n 2, 1) := by decide +kernel
theorem dX2_tellDown_8 : decode cX2_tellDown 8 = .ok (.iconst 0, 1) := by decide +kernel
theorem dX2_tellDown_9 : decode cX2_tellDown 9 = .ok (.istore_n 3, 1) := by decide +kernel
theorem dX2_tellDown_10 : decode cX2_tellDown 10 = .ok (.iload_n 3, 1) := by decide +kernel
theorem dX2_tellDown_11 : decode cX2_tellDown 11 = .ok (.iload_n 2, 1) := by decide +kernel
theorem dX2_tellDown_12 : decode cX2_tellDown 12 = .ok (.if_icmp .ge 37, 3) := by decide +kernel
theorem dX2_tellDown_15 : decode cX2_tellDown 15 = .ok (.aload_n 1, 1) := by decide +kernel
theorem dX2_tellDown_16 : decode cX2_tellDown 16 = .ok (.iload_n 3, 1) := by decide +kernel
theorem dX2_tellDown_17 : decode cX2_tellDown 17 = .ok (.aaload, 1) := by decide +kernel
theorem dX2_tellDown_18 : decode cX2_tellDown 18 = .ok (.astore 4, 2) := by decide +kernel
theorem dX2_tellDown_20 : decode cX2_tellDown 20 = .ok (.aload 4, 2) := by decide +kernel
theorem dX2_tellDown_22 : decode cX2_tellDown 22 = .ok (.getfield 58, 3) := by decide +kernel
theorem dX2_tellDown_25 : decode cX2_tellDown 25 = .ok (.iconst 2, 1) := by decide +kernel
theorem dX2_tellDown_26 : decode cX2_tellDown 26 = .ok (.if_icmp .ne 17, 3) := by decide +kernel
theorem dX2_tellDown_29 : decode cX2_tellDown 29 = .ok (.aload 4, 2) := by decide +kernel
theorem dX2_tellDown_31 : decode cX2_tellDown 31 = .ok (.aload_n 0, 1) := by decide +kernel
theorem dX2_tellDown_32 : decode cX2_tellDown 32 = .ok (.getfield 143, 3) := by decide +kernel
theorem dX2_tellDown_35 : decode cX2_tellDown 35 = .ok (.invokevirtual 308, 3) := by decide +kernel
theorem dX2_tellDown_38 : decode cX2_tellDown 38 = .ok (.aload 4, 2) := by decide +kernel
theorem dX2_tellDown_40 : decode cX2_tellDown 40 = .ok (.invokevirtual 312, 3) := by decide +kernel
theorem dX2_tellDown_43 : decode cX2_tellDown 43 = .ok (.iinc 3 1, 3) := by decide +kernel
theorem dX2_tellDown_46 : decode cX2_tellDown 46 = .ok (.goto (-36), 3) := by decide +kernel
theorem dX2_tellDown_49 : decode cX2_tellDown 49 = .ok (.return_, 1) := by decide +kernel
theorem dX2_clearSpoilt_0 : decode cX2_clearSpoilt 0 = .ok (.aload_n 0, 1) := by decide +kernel
theorem dX2_clearSpoilt_1 : decode cX2_clearSpoilt 1 = .ok (.getfield 11, 3) := by decide +kernel
theorem dX2_clearSpoilt_4 : decode cX2_clearSpoilt 4 = .ok (.astore_n 1, 1) := by decide +kernel
theorem dX2_clearSpoilt_5 : decode cX2_clearSpoilt 5 = .ok (.aload_n 1, 1) := by decide +kernel
theorem dX2_clearSpoilt_6 : decode cX2_clearSpoilt 6 = .ok (.arraylength, 1) := by decide +kernel
theorem dX2_clearSpoilt_7 : decode cX2_clearSpoilt 7 = .ok (.istore_n 2, 1) := by decide +kernel
theorem dX2_clearSpoilt_8 : decode cX2_clearSpoilt 8 = .ok (.iconst 0, 1) := by decide +kernel
theorem dX2_clearSpoilt_9 : decode cX2_clearSpoilt 9 = .ok (.istore_n 3, 1) := by decide +kernel
theorem dX2_clearSpoilt_10 : decode cX2_clearSpoilt 10 = .ok (.iload_n 3, 1) := by decide +kernel
theorem dX2_clearSpoilt_11 : decode cX2_clearSpoilt 11 = .ok (.iload_n 2, 1) := by decide +kernel
theorem dX2_clearSpoilt_12 : decode cX2_clearSpoilt 12 = .ok (.if_icmp .ge 20, 3) := by decide +kernel
theorem dX2_clearSpoilt_15 : decode cX2_clearSpoilt 15 = .ok (.aload_n 1, 1) := by decide +kernel
theorem dX2_clearSpoilt_16 : decode cX2_clearSpoilt 16 = .ok (.iload_n 3, 1) := by decide +kernel
theorem dX2_clearSpoilt_17 : decode cX2_clearSpoilt 17 = .ok (.aaload, 1) := by decide +kernel
theorem dX2_clearSpoilt_18 : decode cX2_clearSpoilt 18 = .ok (.astore 4, 2) := by decide +kernel
theorem dX2_clearSpoilt_20 : decode cX2_clearSpoilt 20 = .ok (.aload 4, 2) := by decide +kernel
theorem dX2_clearSpoilt_22 : decode cX2_clearSpoilt 22 = .ok (.iconst 0, 1) := by decide +kernel
theorem dX2_clearSpoilt_23 : decode cX2_clearSpoilt 23 = .ok (.putfield 135, 3) := by decide +kernel
theorem dX2_clearSpoilt_26 : decode cX2_clearSpoilt 26 = .ok (.iinc 3 1, 3) := by decide +kernel
theorem dX2_clearSpoilt_29 : decode cX2_clearSpoilt 29 = .ok (.goto (-19), 3) := by decide +kernel
theorem dX2_clearSpoilt_32 : decode cX2_clearSpoilt 32 = .ok (.return_, 1) := by decide +kernel
theorem dX2_mix_0 : decode cX2_mix 0 = .ok (.iload_n 0, 1) := by decide +kernel
theorem dX2_mix_1 : decode cX2_mix 1 = .ok (.ldc_w 315, 3) := by decide +kernel
theorem dX2_mix_4 : decode cX2_mix 4 = .ok (.imul, 1) := by decide +kernel
theorem dX2_mix_5 : decode cX2_mix 5 = .ok (.istore_n 2, 1) := by decide +kernel
theorem dX2_mix_6 : decode cX2_mix 6 = .ok (.iload_n 2, 1) := by decide +kernel
theorem dX2_mix_7 : decode cX2_mix 7 = .ok (.iload_n 2, 1) := by decide +kernel
theorem dX2_mix_8 : decode cX2_mix 8 = .ok (.bipush 15, 2) := by decide +kernel
theorem dX2_mix_10 : decode cX2_mix 10 = .ok (.iushr, 1) := by decide +kernel
theorem dX2_mix_11 : decode cX2_mix 11 = .ok (.ixor, 1) := by decide +kernel
theorem dX2_mix_12 : decode cX2_mix 12 = .ok (.istore_n 2, 1) := by decide +kernel
theorem dX2_mix_13 : decode cX2_mix 13 = .ok (.iload_n 2, 1) := by decide +kernel
theorem dX2_mix_14 : decode cX2_mix 14 = .ok (.iload_n 1, 1) := by decide +kernel
theorem dX2_mix_15 : decode cX2_mix 15 = .ok (.ixor, 1) := by decide +kernel
theorem dX2_mix_16 : decode cX2_mix 16 = .ok (.ldc_w 316, 3) := by decide +kernel
theorem dX2_mix_19 : decode cX2_mix 19 = .ok (.imul, 1) := by decide +kernel
theorem dX2_mix_20 : decode cX2_mix 20 = .ok (.istore_n 2, 1) := by decide +kernel
theorem dX2_mix_21 : decode cX2_mix 21 = .ok (.iload_n 2, 1) := by decide +kernel
theorem dX2_mix_22 : decode cX2_mix 22 = .ok (.iload_n 2, 1) := by decide +kernel
theorem dX2_mix_23 : decode cX2_mix 23 = .ok (.bipush 13, 2) := by decide +kernel
theorem dX2_mix_25 : decode cX2_mix 25 = .ok (.iushr, 1) := by decide +kernel
theorem dX2_mix_26 : decode cX2_mix 26 = .ok (.ixor, 1) := by decide +kernel
theorem dX2_mix_27 : decode cX2_mix 27 = .ok (.ireturn, 1) := by decide +kernel
theorem dJ9_abs_0f7a4_0 : decode cJ9_abs_0f7a4 0 = .ok (.iload_n 0, 1) := by decide +kernel
theorem dJ9_abs_0f7a4_1 : decode cJ9_abs_0f7a4 1 = .ok (.ifCond .ge 8, 3) := by decide +kernel
theorem dJ9_abs_0f7a4_4 : decode cJ9_abs_0f7a4 4 = .ok (.iload_n 0, 1) := by decide +kernel
theorem dJ9_abs_0f7a4_5 : decode cJ9_abs_0f7a4 5 = .ok (.ineg, 1) := by decide +kernel
theorem dJ9_abs_0f7a4_6 : decode cJ9_abs_0f7a4 6 = .ok (.goto 4, 3) := by decide +kernel
theorem dJ9_abs_0f7a4_9 : decode cJ9_abs_0f7a4 9 = .ok (.iload_n 0, 1) := by decide +kernel
theorem dJ9_abs_0f7a4_10 : decode cJ9_abs_0f7a4 10 = .ok (.ireturn, 1) := by decide +kernel
theorem dJ9_max_7cf53_0 : decode cJ9_max_7cf53 0 = .ok (.iload_n 0, 1) := by decide +kernel
theorem dJ9_max_7cf53_1 : decode cJ9_max_7cf53 1 = .ok (.iload_n 1, 1) := by decide +kernel
theorem dJ9_max_7cf53_2 : decode cJ9_max_7cf53 2 = .ok (.if_icmp .lt 7, 3) := by decide +kernel
theorem dJ9_max_7cf53_5 : decode cJ9_max_7cf53 5 = .ok (.iload_n 0, 1) := by decide +kernel
theorem dJ9_max_7cf53_6 : decode cJ9_max_7cf53 6 = .ok (.goto 4, 3) := by decide +kernel
theorem dJ9_max_7cf53_9 : decode cJ9_max_7cf53 9 = .ok (.iload_n 1, 1) := by decide +kernel
theorem dJ9_max_7cf53_10 : decode cJ9_max_7cf53 10 = .ok (.ireturn, 1) := by decide +kernel
theorem dJ9_min_7cf53_0 : decode cJ9_min_7cf53 0 = .ok (.iload_n 0, 1) := by decide +kernel
theorem dJ9_min_7cf53_1 : decode cJ9_min_7cf53 1 = .ok (.iload_n 1, 1) := by decide +kernel
theorem dJ9_min_7cf53_2 : decode cJ9_min_7cf53 2 = .ok (.if_icmp .gt 7, 3) := by decide +kernel
theorem dJ9_min_7cf53_5 : decode cJ9_min_7cf53 5 = .ok (.iload_n 0, 1) := by decide +kernel
theorem dJ9_min_7cf53_6 : decode cJ9_min_7cf53 6 = .ok (.goto 4, 3) := by decide +kernel
theorem dJ9_min_7cf53_9 : decode cJ9_min_7cf53 9 = .ok (.iload_n 1, 1) := by decide +kernel
theorem dJ9_min_7cf53_10 : decode cJ9_min_7cf53 10 = .ok (.ireturn, 1) := by decide +kernel
