theorem dX0_init_0 : decode cX0_init 0 = .ok (.aload_n 0, 1) := by decide +kernel
theorem dX0_init_1 : decode cX0_init 1 = .ok (.invokespecial 3, 3) := by decide +kernel
theorem dX0_init_4 : decode cX0_init 4 = .ok (.aload_n 0, 1) := by decide +kernel
theorem dX0_init_5 : decode cX0_init 5 = .ok (.sipush 250, 3) := by decide +kernel
theorem dX0_init_8 : decode cX0_init 8 = .ok (.newarray .int, 2) := by decide +kernel
theorem dX0_init_10 : decode cX0_init 10 = .ok (.putfield 9, 3) := by decide +kernel
theorem dX0_init_13 : decode cX0_init 13 = .ok (.aload_n 0, 1) := by decide +kernel
theorem dX0_init_14 : decode cX0_init 14 = .ok (.iconst 0, 1) := by decide +kernel
theorem dX0_init_15 : decode cX0_init 15 = .ok (.putfield 15, 3) := by decide +kernel
theorem dX0_init_18 : decode cX0_init 18 = .ok (.aload_n 0, 1) := by decide +kernel
theorem dX0_init_19 : decode cX0_init 19 = .ok (.sipush 249, 3) := by decide +kernel
theorem dX0_init_22 : decode cX0_init 22 = .ok (.newarray .int, 2) := by decide +kernel
theorem dX0_init_24 : decode cX0_init 24 = .ok (.putfield 19, 3) := by decide +kernel
theorem dX0_init_27 : decode cX0_init 27 = .ok (.aload_n 0, 1) := by decide +kernel
theorem dX0_init_28 : decode cX0_init 28 = .ok (.iconst 0, 1) := by decide +kernel
theorem dX0_init_29 : decode cX0_init 29 = .ok (.putfield 22, 3) := by decide +kernel
theorem dX0_init_32 : decode cX0_init 32 = .ok (.aload_n 0, 1) := by decide +kernel
theorem dX0_init_33 : decode cX0_init 33 = .ok (.iconst 0, 1) := by decide +kernel
theorem dX0_init_34 : decode cX0_init 34 = .ok (.putfield 25, 3) := by decide +kernel
theorem dX0_init_37 : decode cX0_init 37 = .ok (.aload_n 0, 1) := by decide +kernel
theorem dX0_init_38 : decode cX0_init 38 = .ok (.iconst 0, 1) := by decide +kernel
theorem dX0_init_39 : decode cX0_init 39 = .ok (.putfield 28, 3) := by decide +kernel
theorem dX0_init_42 : decode cX0_init 42 = .ok (.aload_n 0, 1) := by decide +kernel
theorem dX0_init_43 : decode cX0_init 43 = .ok (.iconst 0, 1) := by decide +kernel
theorem dX0_init_44 : decode cX0_init 44 = .ok (.putfield 32, 3) := by decide +kernel
theorem dX0_init_47 : decode cX0_init 47 = .ok (.aload_n 0, 1) := by decide +kernel
theorem dX0_init_48 : decode cX0_init 48 = .ok (.iconst 0, 1) := by decide +kernel
theorem dX0_init_49 : decode cX0_init 49 = .ok (.putfield 35, 3) := by decide +kernel
theorem dX0_init_52 : decode cX0_init 52 = .ok (.return_, 1) := by decide +kernel
theorem dX0_isFor_0 : decode cX0_isFor 0 = .ok (.iload_n 2, 1) := by decide +kernel
theorem dX0_isFor_1 : decode cX0_isFor 1 = .ok (.aload_n 0, 1) := by decide +kernel
theorem dX0_isFor_2 : decode cX0_isFor 2 = .ok (.getfield 22, 3) := by decide +kernel
theorem dX0_isFor_5 : decode cX0_isFor 5 = .ok (.if_icmp .eq 5, 3) := by decide +kernel
theorem dX0_isFor_8 : decode cX0_isFor 8 = .ok (.iconst 0, 1) := by decide +kernel
theorem dX0_isFor_9 : decode cX0_isFor 9 = .ok (.ireturn, 1) := by decide +kernel
theorem dX0_isFor_10 : decode cX0_isFor 10 = .ok (.iconst 0, 1) := by decide +kernel
theorem dX0_isFor_11 : decode cX0_isFor 11 = .ok (.istore_n 3, 1) := by decide +kernel
theorem dX0_isFor_12 : decode cX0_isFor 12 = .ok (.iload_n 3, 1) := by decide +kernel
theorem dX0_isFor_13 : decode cX0_isFor 13 = .ok (.iload_n 2, 1) := by decide +kernel
theorem dX0_isFor_14 : decode cX0_isFor 14 = .ok (.if_icmp .ge 23, 3) := by decide +kernel
theorem dX0_isFor_17 : decode cX0_isFor 17 = .ok (.aload_n 1, 1) := by decide +kernel
theorem dX0_isFor_18 : decode cX0_isFor 18 = .ok (.iload_n 3, 1) := by decide +kernel
theorem dX0_isFor_19 : decode cX0_isFor 19 = .ok (.iaload, 1) := by decide +kernel
theorem dX0_isFor_20 : decode cX0_isFor 20 = .ok (.aload_n 0, 1) := by decide +kernel
theorem dX0_isFor_21 : decode cX0_isFor 21 = .ok (.getfield 19, 3) := by decide +kernel
theorem dX0_isFor_24 : decode cX0_isFor 24 = .ok (.iload_n 3, 1) := by decide +kernel
theorem dX0_isFor_25 : decode cX0_isFor 25 = .ok (.iaload, 1) := by decide +kernel
theorem dX0_isFor_26 : decode cX0_isFor 26 = .ok (.if_icmp .eq 5, 3) := by decide +kernel
theorem dX0_isFor_29 : decode cX0_isFor 29 = .ok (.iconst 0, 1) := by decide +kernel
theorem dX0_isFor_30 : decode cX0_isFor 30 = .ok (.ireturn, 1) := by decide +kernel
theorem dX0_isFor_31 : decode cX0_isFor 31 = .ok (.iinc 3 1, 3) := by decide +kernel
theorem dX0_isFor_34 : decode cX0_isFor 34 = .ok (.goto (-22), 3) := by decide +kernel
theorem dX0_isFor_37 : decode cX0_isFor 37 = .ok (.iconst 1, 1) := by decide +kernel
theorem dX0_isFor_38 : decode cX0_isFor 38 = .ok (.ireturn, 1) := by decide +kernel
theorem dX0_bytes_0 : decode cX0_bytes 0 = .ok (.aload_n 0, 1) := by decide +kernel
theorem dX0_bytes_1 : decode cX0_bytes 1 = .ok (.getfield 9, 3) := by decide +kernel
theorem dX0_bytes_4 : decode cX0_bytes 4 = .ok (.areturn, 1) := by decide +kernel
theorem dX0_size_0 : decode cX0_size 0 = .ok (.aload_n 0, 1) := by decide +kernel
theorem dX0_size_1 : decode cX0_size 1 = .ok (.getfield 15, 3) := by decide +kernel
theorem dX0_size_4 : decode cX0_size 4 = .ok (.ireturn, 1) := by decide +kernel
theorem dX0_hasEvents_0 : decode cX0_hasEvents 0 = .ok (.aload_n 0, 1) := by decide +kernel
theorem dX0_hasEvents_1 : decode cX0_hasEvents 1 = .ok (.getfield 35, 3) := by decide +kernel
theorem dX0_hasEvents_4 : decode cX0_hasEvents 4 = .ok (.ireturn, 1) := by decide +kernel
theorem dX0_setNumber_0 : decode cX0_setNumber 0 = .ok (.aload_n 0, 1) := by decide +kernel
theorem dX0_setNumber_1 : decode cX0_setNumber 1 = .ok (.getfield 9, 3) := by decide +kernel
theorem dX0_setNumber_4 : decode cX0_setNumber 4 = .ok (.iconst 0, 1) := by decide +kernel
theorem dX0_setNumber_5 : decode cX0_setNumber 5 = .ok (.sipush 192, 3) := by decide +kernel
theorem dX0_setNumber_8 : decode cX0_setNumber 8 = .ok (.iload_n 1, 1) := by decide +kernel
theorem dX0_setNumber_9 : decode cX0_setNumber 9 = .ok (.ior, 1) := by decide +kernel
theorem dX0_setNumber_10 : decode cX0_setNumber 10 = .ok (.iastore, 1) := by decide +kernel
theorem dX0_setNumber_11 : decode cX0_setNumber 11 = .ok (.return_, 1) := by decide +kernel
theorem dX0_begin_0 : decode cX0_begin 0 = .ok (.aload_n 1, 1) := by decide +kernel
theorem dX0_begin_1 : decode cX0_begin 1 = .ok (.iconst 0, 1) := by decide +kernel
theorem dX0_begin_2 : decode cX0_begin 2 = .ok (.aload_n 0, 1) := by decide +kernel
theorem dX0_begin_3 : decode cX0_begin 3 = .ok (.getfield 19, 3) := by decide +kernel
theorem dX0_begin_6 : decode cX0_begin 6 = .ok (.iconst 0, 1) := by decide +kernel
theorem dX0_begin_7 : decode cX0_begin 7 = .ok (.iload_n 2, 1) := by decide +kernel
theorem dX0_begin_8 : decode cX0_begin 8 = .ok (.invokestatic 38, 3) := by decide +kernel
theorem dX0_begin_11 : decode cX0_begin 11 = .ok (.aload_n 0, 1) := by decide +kernel
theorem dX0_begin_12 : decode cX0_begin 12 = .ok (.iload_n 2, 1) := by decide +kernel
theorem dX0_begin_13 : decode cX0_begin 13 = .ok (.putfield 22, 3) := by decide +kernel
theorem dX0_begin_16 : decode cX0_begin 16 = .ok (.aload_n 0, 1) := by decide +kernel
theorem dX0_begin_17 : decode cX0_begin 17 = .ok (.iconst 5, 1) := by decide +kernel
theorem dX0_begin_18 : decode cX0_begin 18 = .ok (.putfield 15, 3) := by decide +kernel
theorem dX0_begin_21 : decode cX0_begin 21 = .ok (.aload_n 0, 1) := by decide +kernel
theorem dX0_begin_22 : decode cX0_begin 22 = .ok (.iconst 0, 1) := by decide +kernel
theorem dX0_begin_23 : decode cX0_begin 23 = .ok (.putfield 25, 3) := by decide +kernel
theorem dX0_begin_26 : decode cX0_begin 26 = .ok (.aload_n 0, 1) := by decide +kernel
theorem dX0_begin_27 : decode cX0_begin 27 = .ok (.iconst 0, 1) := by decide +kernel
theorem dX0_begin_28 : decode cX0_begin 28 = .ok (.putfield 28, 3) := by decide +kernel
theorem dX0_begin_31 : decode cX0_begin 31 = .ok (.aload_n 0, 1) := by decide +kernel
theorem dX0_begin_32 : decode cX0_begin 32 = .ok (.iconst 0, 1) := by decide +kernel
theorem dX0_begin_33 : decode cX0_begin 33 = .ok (.putfield 32, 3) := by decide +kernel
theorem dX0_begin_36 : decode cX0_begin 36 = .ok (.aload_n 0, 1) := by decide +kernel
theorem dX0_begin_37 : decode cX0_begin 37 = .ok (.iconst 0, 1) := by decide +kernel
theorem dX0_begin_38 : decode cX0_begin 38 = .ok (.putfield 35, 3) := by decide +kernel
theorem dX0_begin_41 : decode cX0_begin 41 = .ok (.return_, 1) := by decide +kernel
theorem dX0_addFault_0 : decode cX0_addFault 0 = .ok (.aload_n 0, 1) := by decide +kernel
theorem dX0_addFault_1 : decode cX0_addFault 1 = .ok (.dup, 1) := by decide +kernel
theorem dX0_addFault_2 : decode cX0_addFault 2 = .ok (.getfield 25, 3) := by decide +kernel
theorem dX0_addFault_5 : decode cX0_addFault 5 = .ok (.iload_n 1, 1) := by decide +kernel
theorem dX0_addFault_6 : decode cX0_addFault 6 = .ok (.ior, 1) := by decide +kernel
theorem dX0_addFault_7 : decode cX0_addFault 7 = .ok (.putfield 25, 3) := by decide +kernel
theorem dX0_addFault_10 : decode cX0_addFault 10 = .ok (.return_, 1) := by decide +kernel
theorem dX0_finish_0 : decode cX0_finish 0 = .ok (.aload_n 0, 1) := by decide +kernel
theorem dX0_finish_1 : decode cX0_finish 1 = .ok (.getfield 9, 3) := by decide +kernel
theorem dX0_finish_4 : decode cX0_finish 4 = .ok (.iconst 1, 1) := by decide +kernel
theorem dX0_finish_5 : decode cX0_finish 5 = .ok (.sipush 192, 3) := by decide +kernel
theorem dX0_finish_8 : decode cX0_finish 8 = .ok (.iload_n 1, 1) := by decide +kernel
theorem dX0_finish_9 : decode cX0_finish 9 = .ok (.ior, 1) := by decide +kernel
theorem dX0_finish_10 : decode cX0_finish 10 = .ok (.aload_n 0, 1) := by decide +kernel
theorem dX0_finish_11 : decode cX0_finish 11 = .ok (.getfield 35, 3) := by decide +kernel
theorem dX0_finish_14 : decode cX0_finish 14 = .ok (.ifCond .eq 8, 3) := by decide +kernel
theorem dX0_finish_17 : decode cX0_finish 17 = .ok (.bipush 32, 2) := by decide +kernel
theorem dX0_finish_19 : decode cX0_finish 19 = .ok (.goto 4, 3) := by decide +kernel
theorem dX0_finish_22 : decode cX0_finish 22 = .ok (.iconst 0, 1) := by decide +kernel
theorem dX0_finish_23 : decode cX0_finish 23 = .ok (.ior, 1) := by decide +kernel
theorem dX0_finish_24 : decode cX0_finish 24 = .ok (.iastore, 1) := by decide +kernel
theorem dX0_finish_25 : decode cX0_finish 25 = .ok (.aload_n 0, 1) := by decide +kernel
theorem dX0_finish_26 : decode cX0_finish 26 = .ok (.getfield 9, 3) := by decide +kernel
theorem dX0_finish_29 : decode cX0_finish 29 = .ok (.iconst 2, 1) := by decide +kernel
theorem dX0_finish_30 : decode cX0_finish 30 = .ok (.sipush 129, 3) := by decide +kernel
theorem dX0_finish_33 : decode cX0_finish 33 = .ok (.iastore, 1) := by decide +kernel
theorem dX0_finish_34 : decode cX0_finish 34 = .ok (.aload_n 0, 1) := by decide +kernel
theorem dX0_finish_35 : decode cX0_finish 35 = .ok (.getfield 9, 3) := by decide +kernel
theorem dX0_finish_38 : decode cX0_finish 38 = .ok (.iconst 3, 1) := by decide +kernel
theorem dX0_finish_39 : decode cX0_finish 39 = .ok (.iload_n 2, 1) := by decide +kernel
theorem dX0_finish_40 : decode cX0_finish 40 = .ok (.iastore, 1) := by decide +kernel
theorem dX0_finish_41 : decode cX0_finish 41 = .ok (.aload_n 0, 1) := by decide +kernel
theorem dX0_finish_42 : decode cX0_finish 42 = .ok (.getfield 9, 3) := by decide +kernel
theorem dX0_finish_45 : decode cX0_finish 45 = .ok (.iconst 4, 1) := by decide +kernel
theorem dX0_finish_46 : decode cX0_finish 46 = .ok (.aload_n 0, 1) := by decide +kernel
theorem dX0_finish_47 : decode cX0_finish 47 = .ok (.getfield 25, 3) := by decide +kernel
theorem dX0_finish_50 : decode cX0_finish 50 = .ok (.iload_n 3, 1) := by decide +kernel
theorem dX0_finish_51 : decode cX0_finish 51 = .ok (.ifCond .eq 8, 3) := by decide +kernel
theorem dX0_finish_54 : decode cX0_finish 54 = .ok (.bipush 8, 2) := by decide +kernel
theorem dX0_finish_56 : decode cX0_finish 56 = .ok (.goto 4, 3) := by decide +kernel
theorem dX0_finish_59 : decode cX0_finish 59 = .ok (.iconst 0, 1) := by decide +kernel
theorem dX0_finish_60 : decode cX0_finish 60 = .ok (.ior, 1) := by decide +kernel
theorem dX0_finish_61 : decode cX0_finish 61 = .ok (.iastore, 1) := by decide +kernel
theorem dX0_finish_62 : decode cX0_finish 62 = .ok (.return_, 1) := by decide +kernel
theorem dX0_put_0 : decode cX0_put 0 = .ok (.aload_n 0, 1) := by decide +kernel
theorem dX0_put_1 : decode cX0_put 1 = .ok (.getfield 15, 3) := by decide +kernel
theorem dX0_put_4 : decode cX0_put 4 = .ok (.aload_n 0, 1) := by decide +kernel
theorem dX0_put_5 : decode cX0_put 5 = .ok (.getfield 9, 3) := by decide +kernel
theorem dX0_put_8 : decode cX0_put 8 = .ok (.arraylength, 1) := by decide +kernel
theorem dX0_put_9 : decode cX0_put 9 = .ok (.if_icmp .ge 27, 3) := by decide +kernel
theorem dX0_put_12 : decode cX0_put 12 = .ok (.aload_n 0, 1) := by decide +kernel
theorem dX0_put_13 : decode cX0_put 13 = .ok (.getfield 9, 3) := by decide +kernel
theorem dX0_put_16 : decode cX0_put 16 = .ok (.aload_n 0, 1) := by decide +kernel
theorem dX0_put_17 : decode cX0_put 17 = .ok (.getfield 15, 3) := by decide +kernel
theorem dX0_put_20 : decode cX0_put 20 = .ok (.iload_n 1, 1) := by decide +kernel
theorem dX0_put_21 : decode cX0_put 21 = .ok (.sipush 255, 3) := by decide +kernel
theorem dX0_put_24 : decode cX0_put 24 = .ok (.iand, 1) := by decide +kernel
theorem dX0_put_25 : decode cX0_put 25 = .ok (.iastore, 1) := by decide +kernel
theorem dX0_put_26 : decode cX0_put 26 = .ok (.aload_n 0, 1) := by decide +kernel
theorem dX0_put_27 : decode cX0_put 27 = .ok (.dup, 1) := by decide +kernel
theorem dX0_put_28 : decode cX0_put 28 = .ok (.getfield 15, 3) := by decide +kernel
theorem dX0_put_31 : decode cX0_put 31 = .ok (.iconst 1, 1) := by decide +kernel
theorem dX0_put_32 : decode cX0_put 32 = .ok (.iadd, 1) := by decide +kernel
theorem dX0_put_33 : decode cX0_put 33 = .ok (.putfield 15, 3) := by decide +kernel
theorem dX0_put_36 : decode cX0_put 36 = .ok (.return_, 1) := by decide +kernel
theorem dX0_putRange_0 : decode cX0_putRange 0 = .ok (.iload_n 2, 1) := by decide +kernel
theorem dX0_putRange_1 : decode cX0_putRange 1 = .ok (.istore 4, 2) := by decide +kernel
theorem dX0_putRange_3 : decode cX0_putRange 3 = .ok (.iload 4, 2) := by decide +kernel
theorem dX0_putRange_5 : decode cX0_putRange 5 = .ok (.iload_n 3, 1) := by decide +kernel
theorem dX0_putRange_6 : decode cX0_putRange 6 = .ok (.if_icmp .ge 17, 3) := by decide +kernel
theorem dX0_putRange_9 : decode cX0_putRange 9 = .ok (.aload_n 0, 1) := by decide +kernel
theorem dX0_putRange_10 : decode cX0_putRange 10 = .ok (.aload_n 1, 1) := by decide +kernel
theorem dX0_putRange_11 : decode cX0_putRange 11 = .ok (.iload 4, 2) := by decide +kernel
theorem dX0_putRange_13 : decode cX0_putRange 13 = .ok (.iaload, 1) := by decide +kernel
theorem dX0_putRange_14 : decode cX0_putRange 14 = .ok (.invokevirtual 44, 3) := by decide +kernel
theorem dX0_putRange_17 : decode cX0_putRange 17 = .ok (.iinc 4 1, 3) := by decide +kernel
theorem dX0_putRange_20 : decode cX0_putRange 20 = .ok (.goto (-17), 3) := by decide +kernel
theorem dX0_putRange_23 : decode cX0_putRange 23 = .ok (.return_, 1) := by decide +kernel
theorem dX0_putBinaries_0 : decode cX0_putBinaries 0 = .ok (.aload_n 0, 1) := by decide +kernel
theorem dX0_putBinaries_1 : decode cX0_putBinaries 1 = .ok (.getfield 28, 3) := by decide +kernel
theorem dX0_putBinaries_4 : decode cX0_putBinaries 4 = .ok (.ifCond .ne 12, 3) := by decide +kernel
theorem dX0_putBinaries_7 : decode cX0_putBinaries 7 = .ok (.aload_n 0, 1) := by decide +kernel
theorem dX0_putBinaries_8 : decode cX0_putBinaries 8 = .ok (.bipush 21, 2) := by decide +kernel
theorem dX0_putBinaries_10 : decode cX0_putBinaries 10 = .ok (.invokevirtual 48, 3) := by decide +kernel
theorem dX0_putBinaries_13 : decode cX0_putBinaries 13 = .ok (.ifCond .ne 4, 3) := by decide +kernel
theorem dX0_putBinaries_16 : decode cX0_putBinaries 16 = .ok (.return_, 1) := by decide +kernel
theorem dX0_putBinaries_17 : decode cX0_putBinaries 17 = .ok (.aload_n 0, 1) := by decide +kernel
theorem dX0_putBinaries_18 : decode cX0_putBinaries 18 = .ok (.iconst 1, 1) := by decide +kernel
theorem dX0_putBinaries_19 : decode cX0_putBinaries 19 = .ok (.putfield 28, 3) := by decide +kernel
theorem dX0_putBinaries_22 : decode cX0_putBinaries 22 = .ok (.aload_n 0, 1) := by decide +kernel
theorem dX0_putBinaries_23 : decode cX0_putBinaries 23 = .ok (.iconst 1, 1) := by decide +kernel
theorem dX0_putBinaries_24 : decode cX0_putBinaries 24 = .ok (.invokevirtual 52, 3) := by decide +kernel
theorem dX0_putBinaries_27 : decode cX0_putBinaries 27 = .ok (.iconst 0, 1) := by decide +kernel
theorem dX0_putBinaries_28 : decode cX0_putBinaries 28 = .ok (.istore_n 2, 1) := by decide +kernel
theorem dX0_putBinaries_29 : decode cX0_putBinaries 29 = .ok (.iload_n 2, 1) := by decide +kernel
theorem dX0_putBinaries_30 : decode cX0_putBinaries 30 = .ok (.bipush 16, 2) := by decide +kernel
theorem dX0_putBinaries_32 : decode cX0_putBinaries 32 = .ok (.if_icmp .ge 29, 3) := by decide +kernel
theorem dX0_putBinaries_35 : decode cX0_putBinaries 35 = .ok (.aload_n 0, 1) := by decide +kernel
theorem dX0_putBinaries_36 : decode cX0_putBinaries 36 = .ok (.aload_n 1, 1) := by decide +kernel
theorem dX0_putBinaries_37 : decode cX0_putBinaries 37 = .ok (.iload_n 2, 1) := by decide +kernel
theorem dX0_putBinaries_38 : decode cX0_putBinaries 38 = .ok (.invokevirtual 55, 3) := by decide +kernel
theorem dX0_putBinaries_41 : decode cX0_putBinaries 41 = .ok (.ifCond .eq 7, 3) := by decide +kernel
theorem dX0_putBinaries_44 : decode cX0_putBinaries 44 = .ok (.iconst 1, 1) := by decide +kernel
theorem dX0_putBinaries_45 : decode cX0_putBinaries 45 = .ok (.goto 4, 3) := by decide +kernel
theorem dX0_putBinaries_48 : decode cX0_putBinaries 48 = .ok (.iconst 0, 1) := by decide +kernel
theorem dX0_putBinaries_49 : decode cX0_putBinaries 49 = .ok (.invokestatic 60, 3) := by decide +kernel
theorem dX0_putBinaries_52 : decode cX0_putBinaries 52 = .ok (.invokevirtual 44, 3) := by decide +kernel
theorem dX0_putBinaries_55 : decode cX0_putBinaries 55 = .ok (.iinc 2 1, 3) := by decide +kernel
theorem dX0_putBinaries_58 : decode cX0_putBinaries 58 = .ok (.goto (-29), 3) := by decide +kernel
theorem dX0_putBinaries_61 : decode cX0_putBinaries 61 = .ok (.return_, 1) := by decide +kernel
theorem dX0_putAnalogs_0 : decode cX0_putAnalogs 0 = .ok (.aload_n 0, 1) := by decide +kernel
theorem dX0_putAnalogs_1 : decode cX0_putAnalogs 1 = .ok (.getfield 32, 3) := by decide +kernel
theorem dX0_putAnalogs_4 : decode cX0_putAnalogs 4 = .ok (.ifCond .ne 12, 3) := by decide +kernel
theorem dX0_putAnalogs_7 : decode cX0_putAnalogs 7 = .ok (.aload_n 0, 1) := by decide +kernel
theorem dX0_putAnalogs_8 : decode cX0_putAnalogs 8 = .ok (.bipush 53, 2) := by decide +kernel
theorem dX0_putAnalogs_10 : decode cX0_putAnalogs 10 = .ok (.invokevirtual 48, 3) := by decide +kernel
theorem dX0_putAnalogs_13 : decode cX0_putAnalogs 13 = .ok (.ifCond .ne 4, 3) := by decide +kernel
theorem dX0_putAnalogs_16 : decode cX0_putAnalogs 16 = .ok (.return_, 1) := by decide +kernel
theorem dX0_putAnalogs_17 : decode cX0_putAnalogs 17 = .ok (.aload_n 0, 1) := by decide +kernel
theorem dX0_putAnalogs_18 : decode cX0_putAnalogs 18 = .ok (.iconst 1, 1) := by decide +kernel
theorem dX0_putAnalogs_19 : decode cX0_putAnalogs 19 = .ok (.putfield 32, 3) := by decide +kernel
theorem dX0_putAnalogs_22 : decode cX0_putAnalogs 22 = .ok (.aload_n 0, 1) := by decide +kernel
theorem dX0_putAnalogs_23 : decode cX0_putAnalogs 23 = .ok (.bipush 30, 2) := by decide +kernel
theorem dX0_putAnalogs_25 : decode cX0_putAnalogs 25 = .ok (.invokevirtual 52, 3) := by decide +kernel
theorem dX0_putAnalogs_28 : decode cX0_putAnalogs 28 = .ok (.iconst 0, 1) := by decide +kernel
theorem dX0_putAnalogs_29 : decode cX0_putAnalogs 29 = .ok (.istore_n 2, 1) := by decide +kernel
theorem dX0_putAnalogs_30 : decode cX0_putAnalogs 30 = .ok (.iload_n 2, 1) := by decide +kernel
theorem dX0_putAnalogs_31 : decode cX0_putAnalogs 31 = .ok (.bipush 16, 2) := by decide +kernel
theorem dX0_putAnalogs_33 : decode cX0_putAnalogs 33 = .ok (.if_icmp .ge 35, 3) := by decide +kernel
theorem dX0_putAnalogs_36 : decode cX0_putAnalogs 36 = .ok (.aload_n 0, 1) := by decide +kernel
theorem dX0_putAnalogs_37 : decode cX0_putAnalogs 37 = .ok (.iconst 1, 1) := by decide +kernel
theorem dX0_putAnalogs_38 : decode cX0_putAnalogs 38 = .ok (.invokevirtual 44, 3) := by decide +kernel
theorem dX0_putAnalogs_41 : decode cX0_putAnalogs 41 = .ok (.aload_n 0, 1) := by decide +kernel
theorem dX0_putAnalogs_42 : decode cX0_putAnalogs 42 = .ok (.aload_n 1, 1) := by decide +kernel
theorem dX0_putAnalogs_43 : decode cX0_putAnalogs 43 = .ok (.iload_n 2, 1) := by decide +kernel
theorem dX0_putAnalogs_44 : decode cX0_putAnalogs 44 = .ok (.invokevirtual 64, 3) := by decide +kernel
theorem dX0_putAnalogs_47 : decode cX0_putAnalogs 47 = .ok (.invokevirtual 44, 3) := by decide +kernel
theorem dX0_putAnalogs_50 : decode cX0_putAnalogs 50 = .ok (.aload_n 0, 1) := by decide +kernel
theorem dX0_putAnalogs_51 : decode cX0_putAnalogs 51 = .ok (.aload_n 1, 1) := by decide +kernel
theorem dX0_putAnalogs_52 : decode cX0_putAnalogs 52 = .ok (.iload_n 2, 1) := by decide +kernel
theorem dX0_putAnalogs_53 : decode cX0_putAnalogs 53 = .ok (.invokevirtual 64, 3) := by decide +kernel
theorem dX0_putAnalogs_56 : decode cX0_putAnalogs 56 = .ok (.bipush 8, 2) := by decide +kernel
theorem dX0_putAnalogs_58 : decode cX0_putAnalogs 58 = .ok (.ishr, 1) := by decide +kernel
theorem dX0_putAnalogs_59 : decode cX0_putAnalogs 59 = .ok (.invokevirtual 44, 3) := by decide +kernel
theorem dX0_putAnalogs_62 : decode cX0_putAnalogs 62 = .ok (.iinc 2 1, 3) := by decide +kernel
theorem dX0_putAnalogs_65 : decode cX0_putAnalogs 65 = .ok (.goto (-35), 3) := by decide +kernel
theorem dX0_putAnalogs_68 : decode cX0_putAnalogs 68 = .ok (.return_, 1) := by decide +kernel
theorem dX0_putEvents_0 : decode cX0_putEvents 0 = .ok (.iconst (-1), 1) := by decide +kernel
theorem dX0_putEvents_1 : decode cX0_putEvents 1 = .ok (.istore_n 2, 1) := by decide +kernel
theorem dX0_putEvents_2 : decode cX0_putEvents 2 = .ok (.iconst 0, 1) := by decide +kernel
theorem dX0_putEvents_3 : decode cX0_putEvents 3 = .ok (.istore_n 3, 1) := by decide +kernel
theorem dX0_putEvents_4 : decode cX0_putEvents 4 = .ok (.iconst 0, 1) := by decide +kernel
theorem dX0_putEvents_5 : decode cX0_putEvents 5 = .ok (.istore 4, 2) := by decide +kernel
theorem dX0_putEvents_7 : decode cX0_putEvents 7 = .ok (.iconst 0, 1) := by decide +kernel
theorem dX0_putEvents_8 : decode cX0_putEvents 8 = .ok (.istore 5, 2) := by decide +kernel
theorem dX0_putEvents_10 : decode cX0_putEvents 10 = .ok (.iload 5, 2) := by decide +kernel
theorem dX0_putEvents_12 : decode cX0_putEvents 12 = .ok (.aload_n 1, 1) := by decide +kernel
theorem dX0_putEvents_13 : decode cX0_putEvents 13 = .ok (.invokevirtual 67, 3) := by decide +kernel
theorem dX0_putEvents_16 : decode cX0_putEvents 16 = .ok (.if_icmp .ge 151, 3) := by decide +kernel
theorem dX0_putEvents_19 : decode cX0_putEvents 19 = .ok (.aload_n 1, 1) := by decide +kernel
theorem dX0_putEvents_20 : decode cX0_putEvents 20 = .ok (.iload 5, 2) := by decide +kernel
theorem dX0_putEvents_22 : decode cX0_putEvents 22 = .ok (.invokevirtual 73, 3) := by decide +kernel
theorem dX0_putEvents_25 : decode cX0_putEvents 25 = .ok (.ifCond .eq 6, 3) := by decide +kernel
theorem dX0_putEvents_28 : decode cX0_putEvents 28 = .ok (.goto 133, 3) := by decide +kernel
theorem dX0_putEvents_31 : decode cX0_putEvents 31 = .ok (.aload_n 1, 1) := by decide +kernel
theorem dX0_putEvents_32 : decode cX0_putEvents 32 = .ok (.iload 5, 2) := by decide +kernel
theorem dX0_putEvents_34 : decode cX0_putEvents 34 = .ok (.invokevirtual 76, 3) := by decide +kernel
theorem dX0_putEvents_37 : decode cX0_putEvents 37 = .ok (.iload_n 2, 1) := by decide +kernel
theorem dX0_putEvents_38 : decode cX0_putEvents 38 = .ok (.if_icmp .ne 10, 3) := by decide +kernel
theorem dX0_putEvents_41 : decode cX0_putEvents 41 = .ok (.iload_n 3, 1) := by decide +kernel
theorem dX0_putEvents_42 : decode cX0_putEvents 42 = .ok (.sipush 255, 3) := by decide +kernel
theorem dX0_putEvents_45 : decode cX0_putEvents 45 = .ok (.if_icmp .ne 7, 3) := by decide +kernel
theorem dX0_putEvents_48 : decode cX0_putEvents 48 = .ok (.iconst 1, 1) := by decide +kernel
theorem dX0_putEvents_49 : decode cX0_putEvents 49 = .ok (.goto 4, 3) := by decide +kernel
theorem dX0_putEvents_52 : decode cX0_putEvents 52 = .ok (.iconst 0, 1) := by decide +kernel
theorem dX0_putEvents_53 : decode cX0_putEvents 53 = .ok (.istore 6, 2) := by decide +kernel
theorem dX0_putEvents_55 : decode cX0_putEvents 55 = .ok (.aload_n 1, 1) := by decide +kernel
theorem dX0_putEvents_56 : decode cX0_putEvents 56 = .ok (.iload 5, 2) := by decide +kernel
theorem dX0_putEvents_58 : decode cX0_putEvents 58 = .ok (.invokevirtual 76, 3) := by decide +kernel
theorem dX0_putEvents_61 : decode cX0_putEvents 61 = .ok (.ifCond .ne 7, 3) := by decide +kernel
theorem dX0_putEvents_64 : decode cX0_putEvents 64 = .ok (.iconst 2, 1) := by decide +kernel
theorem dX0_putEvents_65 : decode cX0_putEvents 65 = .ok (.goto 4, 3) := by decide +kernel
theorem dX0_putEvents_68 : decode cX0_putEvents 68 = .ok (.iconst 4, 1) := by decide +kernel
theorem dX0_putEvents_69 : decode cX0_putEvents 69 = .ok (.istore 7, 2) := by decide +kernel
theorem dX0_putEvents_71 : decode cX0_putEvents 71 = .ok (.aload_n 0, 1) := by decide +kernel
theorem dX0_putEvents_72 : decode cX0_putEvents 72 = .ok (.iload 6, 2) := by decide +kernel
theorem dX0_putEvents_74 : decode cX0_putEvents 74 = .ok (.ifCond .eq 10, 3) := by decide +kernel
theorem dX0_putEvents_77 : decode cX0_putEvents 77 = .ok (.iconst 4, 1) := by decide +kernel
theorem dX0_putEvents_78 : decode cX0_putEvents 78 = .ok (.iload 7, 2) := by decide +kernel
theorem dX0_putEvents_80 : decode cX0_putEvents 80 = .ok (.iadd, 1) := by decide +kernel
theorem dX0_putEvents_81 : decode cX0_putEvents 81 = .ok (.goto 5, 3) := by decide +kernel
theorem dX0_putEvents_84 : decode cX0_putEvents 84 = .ok (.iload 7, 2) := by decide +kernel
theorem dX0_putEvents_86 : decode cX0_putEvents 86 = .ok (.invokevirtual 48, 3) := by decide +kernel
theorem dX0_putEvents_89 : decode cX0_putEvents 89 = .ok (.ifCond .ne 4, 3) := by decide +kernel
theorem dX0_putEvents_92 : decode cX0_putEvents 92 = .ok (.return_, 1) := by decide +kernel
theorem dX0_putEvents_93 : decode cX0_putEvents 93 = .ok (.iload 6, 2) := by decide +kernel
theorem dX0_putEvents_95 : decode cX0_putEvents 95 = .ok (.ifCond .eq 23, 3) := by decide +kernel
theorem dX0_putEvents_98 : decode cX0_putEvents 98 = .ok (.aload_n 1, 1) := by decide +kernel
theorem dX0_putEvents_99 : decode cX0_putEvents 99 = .ok (.iload 5, 2) := by decide +kernel
theorem dX0_putEvents_101 : decode cX0_putEvents 101 = .ok (.invokevirtual 76, 3) := by decide +kernel
theorem dX0_putEvents_104 : decode cX0_putEvents 104 = .ok (.istore_n 2, 1) := by decide +kernel
theorem dX0_putEvents_105 : decode cX0_putEvents 105 = .ok (.iconst 0, 1) := by decide +kernel
theorem dX0_putEvents_106 : decode cX0_putEvents 106 = .ok (.istore_n 3, 1) := by decide +kernel
theorem dX0_putEvents_107 : decode cX0_putEvents 107 = .ok (.aload_n 0, 1) := by decide +kernel
theorem dX0_putEvents_108 : decode cX0_putEvents 108 = .ok (.getfield 15, 3) := by decide +kernel
theorem dX0_putEvents_111 : decode cX0_putEvents 111 = .ok (.istore 4, 2) := by decide +kernel
theorem dX0_putEvents_113 : decode cX0_putEvents 113 = .ok (.aload_n 0, 1) := by decide +kernel
theorem dX0_putEvents_114 : decode cX0_putEvents 114 = .ok (.iload_n 2, 1) := by decide +kernel
theorem dX0_putEvents_115 : decode cX0_putEvents 115 = .ok (.invokevirtual 79, 3) := by decide +kernel
theorem dX0_putEvents_118 : decode cX0_putEvents 118 = .ok (.iinc 3 1, 3) := by decide +kernel
theorem dX0_putEvents_121 : decode cX0_putEvents 121 = .ok (.aload_n 0, 1) := by decide +kernel
theorem dX0_putEvents_122 : decode cX0_putEvents 122 = .ok (.getfield 9, 3) := by decide +kernel
theorem dX0_putEvents_125 : decode cX0_putEvents 125 = .ok (.iload 4, 2) := by decide +kernel
theorem dX0_putEvents_127 : decode cX0_putEvents 127 = .ok (.iconst 4, 1) := by decide +kernel
theorem dX0_putEvents_128 : decode cX0_putEvents 128 = .ok (.iadd, 1) := by decide +kernel
theorem dX0_putEvents_129 : decode cX0_putEvents 129 = .ok (.iconst 1, 1) := by decide +kernel
theorem dX0_putEvents_130 : decode cX0_putEvents 130 = .ok (.isub, 1) := by decide +kernel
theorem dX0_putEvents_131 : decode cX0_putEvents 131 = .ok (.iload_n 3, 1) := by decide +kernel
theorem dX0_putEvents_132 : decode cX0_putEvents 132 = .ok (.iastore, 1) := by decide +kernel
theorem dX0_putEvents_133 : decode cX0_putEvents 133 = .ok (.aload_n 0, 1) := by decide +kernel
theorem dX0_putEvents_134 : decode cX0_putEvents 134 = .ok (.iload_n 2, 1) := by decide +kernel
theorem dX0_putEvents_135 : decode cX0_putEvents 135 = .ok (.aload_n 1, 1) := by decide +kernel
theorem dX0_putEvents_136 : decode cX0_putEvents 136 = .ok (.iload 5, 2) := by decide +kernel
theorem dX0_putEvents_138 : decode cX0_putEvents 138 = .ok (.invokevirtual 82, 3) := by decide +kernel
theorem dX0_putEvents_141 : decode cX0_putEvents 141 = .ok (.aload_n 1, 1) := by decide +kernel
theorem dX0_putEvents_142 : decode cX0_putEvents 142 = .ok (.iload 5, 2) := by decide +kernel
theorem dX0_putEvents_144 : decode cX0_putEvents 144 = .ok (.invokevirtual 85, 3) := by decide +kernel
theorem dX0_putEvents_147 : decode cX0_putEvents 147 = .ok (.invokevirtual 88, 3) := by decide +kernel
theorem dX0_putEvents_150 : decode cX0_putEvents 150 = .ok (.aload_n 1, 1) := by decide +kernel
theorem dX0_putEvents_151 : decode cX0_putEvents 151 = .ok (.iload 5, 2) := by decide +kernel
theorem dX0_putEvents_153 : decode cX0_putEvents 153 = .ok (.invokevirtual 92, 3) := by decide +kernel
theorem dX0_putEvents_156 : decode cX0_putEvents 156 = .ok (.aload_n 0, 1) := by decide +kernel
theorem dX0_putEvents_157 : decode cX0_putEvents 157 = .ok (.iconst 1, 1) := by decide +kernel
theorem dX0_putEvents_158 : decode cX0_putEvents 158 = .ok (.putfield 35, 3) := by decide +kernel
theorem dX0_putEvents_161 : decode cX0_putEvents 161 = .ok (.iinc 5 1, 3) := by decide +kernel
theorem dX0_putEvents_164 : decode cX0_putEvents 164 = .ok (.goto (-154), 3) := by decide +kernel
theorem dX0_putEvents_167 : decode cX0_putEvents 167 = .ok (.return_, 1) := by decide +kernel
theorem dX0_hasRoom_0 : decode cX0_hasRoom 0 = .ok (.aload_n 0, 1) := by decide +kernel
theorem dX0_hasRoom_1 : decode cX0_hasRoom 1 = .ok (.getfield 15, 3) := by decide +kernel
theorem dX0_hasRoom_4 : decode cX0_hasRoom 4 = .ok (.iload_n 1, 1) := by decide +kernel
theorem dX0_hasRoom_5 : decode cX0_hasRoom 5 = .ok (.iadd, 1) := by decide +kernel
theorem dX0_hasRoom_6 : decode cX0_hasRoom 6 = .ok (.aload_n 0, 1) := by decide +kernel
theorem dX0_hasRoom_7 : decode cX0_hasRoom 7 = .ok (.getfield 9, 3) := by decide +kernel
theorem dX0_hasRoom_10 : decode cX0_hasRoom 10 = .ok (.arraylength, 1) := by decide +kernel
theorem dX0_hasRoom_11 : decode cX0_hasRoom 11 = .ok (.if_icmp .gt 7, 3) := by decide +kernel
theorem dX0_hasRoom_14 : decode cX0_hasRoom 14 = .ok (.iconst 1, 1) := by decide +kernel
theorem dX0_hasRoom_15 : decode cX0_hasRoom 15 = .ok (.goto 4, 3) := by decide +kernel
theorem dX0_hasRoom_18 : decode cX0_hasRoom 18 = .ok (.iconst 0, 1) := by decide +kernel
theorem dX0_hasRoom_19 : decode cX0_hasRoom 19 = .ok (.ireturn, 1) := by decide +kernel
theorem dX0_putStaticHead_0 : decode cX0_putStaticHead 0 = .ok (.aload_n 0, 1) := by decide +kernel
theorem dX0_putStaticHead_1 : decode cX0_putStaticHead 1 = .ok (.iload_n 1, 1) := by decide +kernel
theorem dX0_putStaticHead_2 : decode cX0_putStaticHead 2 = .ok (.invokevirtual 44, 3) := by decide +kernel
theorem dX0_putStaticHead_5 : decode cX0_putStaticHead 5 = .ok (.aload_n 0, 1) := by decide +kernel
theorem dX0_putStaticHead_6 : decode cX0_putStaticHead 6 = .ok (.iconst 2, 1) := by decide +kernel
theorem dX0_putStaticHead_7 : decode cX0_putStaticHead 7 = .ok (.invokevirtual 44, 3) := by decide +kernel
theorem dX0_putStaticHead_10 : decode cX0_putStaticHead 10 = .ok (.aload_n 0, 1) := by decide +kernel
theorem dX0_putStaticHead_11 : decode cX0_putStaticHead 11 = .ok (.iconst 0, 1) := by decide +kernel
theorem dX0_putStaticHead_12 : decode cX0_putStaticHead 12 = .ok (.invokevirtual 44, 3) := by decide +kernel
theorem dX0_putStaticHead_15 : decode cX0_putStaticHead 15 = .ok (.aload_n 0, 1) := by decide +kernel
theorem dX0_putStaticHead_16 : decode cX0_putStaticHead 16 = .ok (.iconst 0, 1) := by decide +kernel
theorem dX0_putStaticHead_17 : decode cX0_putStaticHead 17 = .ok (.invokevirtual 44, 3) := by decide +kernel
theorem dX0_putStaticHead_20 : decode cX0_putStaticHead 20 = .ok (.aload_n 0, 1) := by decide +kernel
theorem dX0_putStaticHead_21 : decode cX0_putStaticHead 21 = .ok (.bipush 15, 2) := by decide +kernel
theorem dX0_putStaticHead_23 : decode cX0_putStaticHead 23 = .ok (.invokevirtual 44, 3) := by decide +kernel
theorem dX0_putStaticHead_26 : decode cX0_putStaticHead 26 = .ok (.return_, 1) := by decide +kernel
theorem dX0_putEventHead_0 : decode cX0_putEventHead 0 = .ok (.aload_n 0, 1) := by decide +kernel
theorem dX0_putEventHead_1 : decode cX0_putEventHead 1 = .ok (.iload_n 1, 1) := by decide +kernel
theorem dX0_putEventHead_2 : decode cX0_putEventHead 2 = .ok (.ifCond .ne 7, 3) := by decide +kernel
theorem dX0_putEventHead_5 : decode cX0_putEventHead 5 = .ok (.iconst 2, 1) := by decide +kernel
theorem dX0_putEventHead_6 : decode cX0_putEventHead 6 = .ok (.goto 5, 3) := by decide +kernel
theorem dX0_putEventHead_9 : decode cX0_putEventHead 9 = .ok (.bipush 32, 2) := by decide +kernel
theorem dX0_putEventHead_11 : decode cX0_putEventHead 11 = .ok (.invokevirtual 44, 3) := by decide +kernel
theorem dX0_putEventHead_14 : decode cX0_putEventHead 14 = .ok (.aload_n 0, 1) := by decide +kernel
theorem dX0_putEventHead_15 : decode cX0_putEventHead 15 = .ok (.iload_n 1, 1) := by decide +kernel
theorem dX0_putEventHead_16 : decode cX0_putEventHead 16 = .ok (.ifCond .ne 7, 3) := by decide +kernel
theorem dX0_putEventHead_19 : decode cX0_putEventHead 19 = .ok (.iconst 1, 1) := by decide +kernel
theorem dX0_putEventHead_20 : decode cX0_putEventHead 20 = .ok (.goto 4, 3) := by decide +kernel
theorem dX0_putEventHead_23 : decode cX0_putEventHead 23 = .ok (.iconst 2, 1) := by decide +kernel
theorem dX0_putEventHead_24 : decode cX0_putEventHead 24 = .ok (.invokevirtual 44, 3) := by decide +kernel
theorem dX0_putEventHead_27 : decode cX0_putEventHead 27 = .ok (.aload_n 0, 1) := by decide +kernel
theorem dX0_putEventHead_28 : decode cX0_putEventHead 28 = .ok (.bipush 23, 2) := by decide +kernel
theorem dX0_putEventHead_30 : decode cX0_putEventHead 30 = .ok (.invokevirtual 44, 3) := by decide +kernel
theorem dX0_putEventHead_33 : decode cX0_putEventHead 33 = .ok (.aload_n 0, 1) := by decide +kernel
theorem dX0_putEventHead_34 : decode cX0_putEventHead 34 = .ok (.iconst 0, 1) := by decide +kernel
theorem dX0_putEventHead_35 : decode cX0_putEventHead 35 = .ok (.invokevirtual 44, 3) := by decide +kernel
theorem dX0_putEventHead_38 : decode cX0_putEventHead 38 = .ok (.return_, 1) := by decide +kernel
theorem dX0_putEvent_0 : decode cX0_putEvent 0 = .ok (.aload_n 0, 1) := by decide +kernel
theorem dX0_putEvent_1 : decode cX0_putEvent 1 = .ok (.iload_n 2, 1) := by decide +kernel
theorem dX0_putEvent_2 : decode cX0_putEvent 2 = .ok (.invokevirtual 44, 3) := by decide +kernel
theorem dX0_putEvent_5 : decode cX0_putEvent 5 = .ok (.iload_n 1, 1) := by decide +kernel
theorem dX0_putEvent_6 : decode cX0_putEvent 6 = .ok (.ifCond .ne 14, 3) := by decide +kernel
theorem dX0_putEvent_9 : decode cX0_putEvent 9 = .ok (.aload_n 0, 1) := by decide +kernel
theorem dX0_putEvent_10 : decode cX0_putEvent 10 = .ok (.iload_n 3, 1) := by decide +kernel
theorem dX0_putEvent_11 : decode cX0_putEvent 11 = .ok (.invokestatic 60, 3) := by decide +kernel
theorem dX0_putEvent_14 : decode cX0_putEvent 14 = .ok (.invokevirtual 44, 3) := by decide +kernel
theorem dX0_putEvent_17 : decode cX0_putEvent 17 = .ok (.goto 21, 3) := by decide +kernel
theorem dX0_putEvent_20 : decode cX0_putEvent 20 = .ok (.aload_n 0, 1) := by decide +kernel
theorem dX0_putEvent_21 : decode cX0_putEvent 21 = .ok (.iconst 1, 1) := by decide +kernel
theorem dX0_putEvent_22 : decode cX0_putEvent 22 = .ok (.invokevirtual 44, 3) := by decide +kernel
theorem dX0_putEvent_25 : decode cX0_putEvent 25 = .ok (.aload_n 0, 1) := by decide +kernel
theorem dX0_putEvent_26 : decode cX0_putEvent 26 = .ok (.iload_n 3, 1) := by decide +kernel
theorem dX0_putEvent_27 : decode cX0_putEvent 27 = .ok (.invokevirtual 44, 3) := by decide +kernel
theorem dX0_putEvent_30 : decode cX0_putEvent 30 = .ok (.aload_n 0, 1) := by decide +kernel
theorem dX0_putEvent_31 : decode cX0_putEvent 31 = .ok (.iload_n 3, 1) := by decide +kernel
theorem dX0_putEvent_32 : decode cX0_putEvent 32 = .ok (.bipush 8, 2) := by decide +kernel
theorem dX0_putEvent_34 : decode cX0_putEvent 34 = .ok (.ishr, 1) := by decide +kernel
theorem dX0_putEvent_35 : decode cX0_putEvent 35 = .ok (.invokevirtual 44, 3) := by decide +kernel
theorem dX0_putEvent_38 : decode cX0_putEvent 38 = .ok (.return_, 1) := by decide +kernel
theorem dX0_binaryByte_0 : decode cX0_binaryByte 0 = .ok (.iload_n 0, 1) := by decide +kernel
theorem dX0_binaryByte_1 : decode cX0_binaryByte 1 = .ok (.ifCond .ne 7, 3) := by decide +kernel
theorem dX0_binaryByte_4 : decode cX0_binaryByte 4 = .ok (.iconst 1, 1) := by decide +kernel
theorem dX0_binaryByte_5 : decode cX0_binaryByte 5 = .ok (.goto 6, 3) := by decide +kernel
theorem dX0_binaryByte_8 : decode cX0_binaryByte 8 = .ok (.sipush 129, 3) := by decide +kernel
theorem dX0_binaryByte_11 : decode cX0_binaryByte 11 = .ok (.ireturn, 1) := by decide +kernel
theorem dX1_init_0 : decode cX1_init 0 = .ok (.aload_n 0, 1) := by decide +kernel
theorem dX1_init_1 : decode cX1_init 1 = .ok (.invokespecial 3, 3) := by decide +kernel
theorem dX1_init_4 : decode cX1_init 4 = .ok (.aload_n 0, 1) := by decide +kernel
theorem dX1_init_5 : decode cX1_init 5 = .ok (.sipush 249, 3) := by decide +kernel
theorem dX1_init_8 : decode cX1_init 8 = .ok (.newarray .int, 2) := by decide +kernel
theorem dX1_init_10 : decode cX1_init 10 = .ok (.putfield 9, 3) := by decide +kernel
theorem dX1_init_13 : decode cX1_init 13 = .ok (.aload_n 0, 1) := by decide +kernel
theorem dX1_init_14 : decode cX1_init 14 = .ok (.iconst 0, 1) := by decide +kernel
theorem dX1_init_15 : decode cX1_init 15 = .ok (.putfield 15, 3) := by decide +kernel
theorem dX1_init_18 : decode cX1_init 18 = .ok (.aload_n 0, 1) := by decide +kernel
theorem dX1_init_19 : decode cX1_init 19 = .ok (.iconst 0, 1) := by decide +kernel
theorem dX1_init_20 : decode cX1_init 20 = .ok (.putfield 19, 3) := by decide +kernel
theorem dX1_init_23 : decode cX1_init 23 = .ok (.aload_n 0, 1) := by decide +kernel
theorem dX1_init_24 : decode cX1_init 24 = .ok (.iconst 0, 1) := by decide +kernel
theorem dX1_init_25 : decode cX1_init 25 = .ok (.putfield 23, 3) := by decide +kernel
theorem dX1_init_28 : decode cX1_init 28 = .ok (.return_, 1) := by decide +kernel
theorem dX1_bytes_0 : decode cX1_bytes 0 = .ok (.aload_n 0, 1) := by decide +kernel
theorem dX1_bytes_1 : decode cX1_bytes 1 = .ok (.getfield 9, 3) := by decide +kernel
theorem dX1_bytes_4 : decode cX1_bytes 4 = .ok (.areturn, 1) := by decide +kernel
theorem dX1_size_0 : decode cX1_size 0 = .ok (.aload_n 0, 1) := by decide +kernel
theorem dX1_size_1 : decode cX1_size 1 = .ok (.getfield 15, 3) := by decide +kernel
theorem dX1_size_4 : decode cX1_size 4 = .ok (.ireturn, 1) := by decide +kernel
theorem dX1_addSegment_0 : decode cX1_addSegment 0 = .ok (.iload_n 2, 1) := by decide +kernel
theorem dX1_addSegment_1 : decode cX1_addSegment 1 = .ok (.iconst 1, 1) := by decide +kernel
theorem dX1_addSegment_2 : decode cX1_addSegment 2 = .ok (.if_icmp .ge 10, 3) := by decide +kernel
theorem dX1_addSegment_5 : decode cX1_addSegment 5 = .ok (.aload_n 0, 1) := by decide +kernel
theorem dX1_addSegment_6 : decode cX1_addSegment 6 = .ok (.iconst 0, 1) := by decide +kernel
theorem dX1_addSegment_7 : decode cX1_addSegment 7 = .ok (.putfield 19, 3) := by decide +kernel
theorem dX1_addSegment_10 : decode cX1_addSegment 10 = .ok (.iconst 0, 1) := by decide +kernel
theorem dX1_addSegment_11 : decode cX1_addSegment 11 = .ok (.ireturn, 1) := by decide +kernel
theorem dX1_addSegment_12 : decode cX1_addSegment 12 = .ok (.aload_n 1, 1) := by decide +kernel
theorem dX1_addSegment_13 : decode cX1_addSegment 13 = .ok (.iconst 0, 1) := by decide +kernel
theorem dX1_addSegment_14 : decode cX1_addSegment 14 = .ok (.iaload, 1) := by decide +kernel
theorem dX1_addSegment_15 : decode cX1_addSegment 15 = .ok (.istore_n 3, 1) := by decide +kernel
theorem dX1_addSegment_16 : decode cX1_addSegment 16 = .ok (.aload_n 0, 1) := by decide +kernel
theorem dX1_addSegment_17 : decode cX1_addSegment 17 = .ok (.iload_n 3, 1) := by decide +kernel
theorem dX1_addSegment_18 : decode cX1_addSegment 18 = .ok (.bipush 64, 2) := by decide +kernel
theorem dX1_addSegment_20 : decode cX1_addSegment 20 = .ok (.iand, 1) := by decide +kernel
theorem dX1_addSegment_21 : decode cX1_addSegment 21 = .ok (.ifCond .eq 7, 3) := by decide +kernel
theorem dX1_addSegment_24 : decode cX1_addSegment 24 = .ok (.iconst 1, 1) := by decide +kernel
theorem dX1_addSegment_25 : decode cX1_addSegment 25 = .ok (.goto 4, 3) := by decide +kernel
theorem dX1_addSegment_28 : decode cX1_addSegment 28 = .ok (.iconst 0, 1) := by decide +kernel
theorem dX1_addSegment_29 : decode cX1_addSegment 29 = .ok (.iload_n 3, 1) := by decide +kernel
theorem dX1_addSegment_30 : decode cX1_addSegment 30 = .ok (.bipush 63, 2) := by decide +kernel
theorem dX1_addSegment_32 : decode cX1_addSegment 32 = .ok (.iand, 1) := by decide +kernel
theorem dX1_addSegment_33 : decode cX1_addSegment 33 = .ok (.invokevirtual 26, 3) := by decide +kernel
theorem dX1_addSegment_36 : decode cX1_addSegment 36 = .ok (.aload_n 0, 1) := by decide +kernel
theorem dX1_addSegment_37 : decode cX1_addSegment 37 = .ok (.getfield 15, 3) := by decide +kernel
theorem dX1_addSegment_40 : decode cX1_addSegment 40 = .ok (.iload_n 2, 1) := by decide +kernel
theorem dX1_addSegment_41 : decode cX1_addSegment 41 = .ok (.iadd, 1) := by decide +kernel
theorem dX1_addSegment_42 : decode cX1_addSegment 42 = .ok (.iconst 1, 1) := by decide +kernel
theorem dX1_addSegment_43 : decode cX1_addSegment 43 = .ok (.isub, 1) := by decide +kernel
theorem dX1_addSegment_44 : decode cX1_addSegment 44 = .ok (.sipush 249, 3) := by decide +kernel
theorem dX1_addSegment_47 : decode cX1_addSegment 47 = .ok (.if_icmp .le 8, 3) := by decide +kernel
theorem dX1_addSegment_50 : decode cX1_addSegment 50 = .ok (.aload_n 0, 1) := by decide +kernel
theorem dX1_addSegment_51 : decode cX1_addSegment 51 = .ok (.iconst 0, 1) := by decide +kernel
theorem dX1_addSegment_52 : decode cX1_addSegment 52 = .ok (.putfield 19, 3) := by decide +kernel
theorem dX1_addSegment_55 : decode cX1_addSegment 55 = .ok (.aload_n 0, 1) := by decide +kernel
theorem dX1_addSegment_56 : decode cX1_addSegment 56 = .ok (.getfield 19, 3) := by decide +kernel
theorem dX1_addSegment_59 : decode cX1_addSegment 59 = .ok (.ifCond .ne 5, 3) := by decide +kernel
theorem dX1_addSegment_62 : decode cX1_addSegment 62 = .ok (.iconst 0, 1) := by decide +kernel
theorem dX1_addSegment_63 : decode cX1_addSegment 63 = .ok (.ireturn, 1) := by decide +kernel
theorem dX1_addSegment_64 : decode cX1_addSegment 64 = .ok (.aload_n 1, 1) := by decide +kernel
theorem dX1_addSegment_65 : decode cX1_addSegment 65 = .ok (.iconst 1, 1) := by decide +kernel
theorem dX1_addSegment_66 : decode cX1_addSegment 66 = .ok (.aload_n 0, 1) := by decide +kernel
theorem dX1_addSegment_67 : decode cX1_addSegment 67 = .ok (.getfield 9, 3) := by decide +kernel
theorem dX1_addSegment_70 : decode cX1_addSegment 70 = .ok (.aload_n 0, 1) := by decide +kernel
theorem dX1_addSegment_71 : decode cX1_addSegment 71 = .ok (.getfield 15, 3) := by decide +kernel
theorem dX1_addSegment_74 : decode cX1_addSegment 74 = .ok (.iload_n 2, 1) := by decide +kernel
theorem dX1_addSegment_75 : decode cX1_addSegment 75 = .ok (.iconst 1, 1) := by decide +kernel
theorem dX1_addSegment_76 : decode cX1_addSegment 76 = .ok (.isub, 1) := by decide +kernel
theorem dX1_addSegment_77 : decode cX1_addSegment 77 = .ok (.invokestatic 30, 3) := by decide +kernel
theorem dX1_addSegment_80 : decode cX1_addSegment 80 = .ok (.aload_n 0, 1) := by decide +kernel
theorem dX1_addSegment_81 : decode cX1_addSegment 81 = .ok (.dup, 1) := by decide +kernel
theorem dX1_addSegment_82 : decode cX1_addSegment 82 = .ok (.getfield 15, 3) := by decide +kernel
theorem dX1_addSegment_85 : decode cX1_addSegment 85 = .ok (.iload_n 2, 1) := by decide +kernel
theorem dX1_addSegment_86 : decode cX1_addSegment 86 = .ok (.iconst 1, 1) := by decide +kernel
theorem dX1_addSegment_87 : decode cX1_addSegment 87 = .ok (.isub, 1) := by decide +kernel
theorem dX1_addSegment_88 : decode cX1_addSegment 88 = .ok (.iadd, 1) := by decide +kernel
theorem dX1_addSegment_89 : decode cX1_addSegment 89 = .ok (.putfield 15, 3) := by decide +kernel
theorem dX1_addSegment_92 : decode cX1_addSegment 92 = .ok (.iload_n 3, 1) := by decide +kernel
theorem dX1_addSegment_93 : decode cX1_addSegment 93 = .ok (.sipush 128, 3) := by decide +kernel
theorem dX1_addSegment_96 : decode cX1_addSegment 96 = .ok (.iand, 1) := by decide +kernel
theorem dX1_addSegment_97 : decode cX1_addSegment 97 = .ok (.ifCond .ne 5, 3) := by decide +kernel
theorem dX1_addSegment_100 : decode cX1_addSegment 100 = .ok (.iconst 0, 1) := by decide +kernel
theorem dX1_addSegment_101 : decode cX1_addSegment 101 = .ok (.ireturn, 1) := by decide +kernel
theorem dX1_addSegment_102 : decode cX1_addSegment 102 = .ok (.aload_n 0, 1) := by decide +kernel
theorem dX1_addSegment_103 : decode cX1_addSegment 103 = .ok (.iconst 0, 1) := by decide +kernel
theorem dX1_addSegment_104 : decode cX1_addSegment 104 = .ok (.putfield 19, 3) := by decide +kernel
theorem dX1_addSegment_107 : decode cX1_addSegment 107 = .ok (.aload_n 0, 1) := by decide +kernel
theorem dX1_addSegment_108 : decode cX1_addSegment 108 = .ok (.getfield 15, 3) := by decide +kernel
theorem dX1_addSegment_111 : decode cX1_addSegment 111 = .ok (.iconst 2, 1) := by decide +kernel
theorem dX1_addSegment_112 : decode cX1_addSegment 112 = .ok (.if_icmp .lt 23, 3) := by decide +kernel
theorem dX1_addSegment_115 : decode cX1_addSegment 115 = .ok (.aload_n 0, 1) := by decide +kernel
theorem dX1_addSegment_116 : decode cX1_addSegment 116 = .ok (.getfield 9, 3) := by decide +kernel
theorem dX1_addSegment_119 : decode cX1_addSegment 119 = .ok (.iconst 0, 1) := by decide +kernel
theorem dX1_addSegment_120 : decode cX1_addSegment 120 = .ok (.iaload, 1) := by decide +kernel
theorem dX1_addSegment_121 : decode cX1_addSegment 121 = .ok (.sipush 192, 3) := by decide +kernel
theorem dX1_addSegment_124 : decode cX1_addSegment 124 = .ok (.iand, 1) := by decide +kernel
theorem dX1_addSegment_125 : decode cX1_addSegment 125 = .ok (.sipush 192, 3) := by decide +kernel
theorem dX1_addSegment_128 : decode cX1_addSegment 128 = .ok (.if_icmp .ne 7, 3) := by decide +kernel
theorem dX1_addSegment_131 : decode cX1_addSegment 131 = .ok (.iconst 1, 1) := by decide +kernel
theorem dX1_addSegment_132 : decode cX1_addSegment 132 = .ok (.goto 4, 3) := by decide +kernel
theorem dX1_addSegment_135 : decode cX1_addSegment 135 = .ok (.iconst 0, 1) := by decide +kernel
theorem dX1_addSegment_136 : decode cX1_addSegment 136 = .ok (.ireturn, 1) := by decide +kernel
theorem dX1_beginOrGoOn_0 : decode cX1_beginOrGoOn 0 = .ok (.iload_n 1, 1) := by decide +kernel
theorem dX1_beginOrGoOn_1 : decode cX1_beginOrGoOn 1 = .ok (.ifCond .eq 16, 3) := by decide +kernel
theorem dX1_beginOrGoOn_4 : decode cX1_beginOrGoOn 4 = .ok (.aload_n 0, 1) := by decide +kernel
theorem dX1_beginOrGoOn_5 : decode cX1_beginOrGoOn 5 = .ok (.iconst 1, 1) := by decide +kernel
theorem dX1_beginOrGoOn_6 : decode cX1_beginOrGoOn 6 = .ok (.putfield 19, 3) := by decide +kernel
theorem dX1_beginOrGoOn_9 : decode cX1_beginOrGoOn 9 = .ok (.aload_n 0, 1) := by decide +kernel
theorem dX1_beginOrGoOn_10 : decode cX1_beginOrGoOn 10 = .ok (.iconst 0, 1) := by decide +kernel
theorem dX1_beginOrGoOn_11 : decode cX1_beginOrGoOn 11 = .ok (.putfield 15, 3) := by decide +kernel
theorem dX1_beginOrGoOn_14 : decode cX1_beginOrGoOn 14 = .ok (.goto 21, 3) := by decide +kernel
theorem dX1_beginOrGoOn_17 : decode cX1_beginOrGoOn 17 = .ok (.iload_n 2, 1) := by decide +kernel
theorem dX1_beginOrGoOn_18 : decode cX1_beginOrGoOn 18 = .ok (.aload_n 0, 1) := by decide +kernel
theorem dX1_beginOrGoOn_19 : decode cX1_beginOrGoOn 19 = .ok (.getfield 23, 3) := by decide +kernel
theorem dX1_beginOrGoOn_22 : decode cX1_beginOrGoOn 22 = .ok (.iconst 1, 1) := by decide +kernel
theorem dX1_beginOrGoOn_23 : decode cX1_beginOrGoOn 23 = .ok (.iadd, 1) := by decide +kernel
theorem dX1_beginOrGoOn_24 : decode cX1_beginOrGoOn 24 = .ok (.bipush 63, 2) := by decide +kernel
theorem dX1_beginOrGoOn_26 : decode cX1_beginOrGoOn 26 = .ok (.iand, 1) := by decide +kernel
theorem dX1_beginOrGoOn_27 : decode cX1_beginOrGoOn 27 = .ok (.if_icmp .eq 8, 3) := by decide +kernel
theorem dX1_beginOrGoOn_30 : decode cX1_beginOrGoOn 30 = .ok (.aload_n 0, 1) := by decide +kernel
theorem dX1_beginOrGoOn_31 : decode cX1_beginOrGoOn 31 = .ok (.iconst 0, 1) := by decide +kernel
theorem dX1_beginOrGoOn_32 : decode cX1_beginOrGoOn 32 = .ok (.putfield 19, 3) := by decide +kernel
theorem dX1_beginOrGoOn_35 : decode cX1_beginOrGoOn 35 = .ok (.aload_n 0, 1) := by decide +kernel
theorem dX1_beginOrGoOn_36 : decode cX1_beginOrGoOn 36 = .ok (.iload_n 2, 1) := by decide +kernel
theorem dX1_beginOrGoOn_37 : decode cX1_beginOrGoOn 37 = .ok (.putfield 23, 3) := by decide +kernel
theorem dX1_beginOrGoOn_40 : decode cX1_beginOrGoOn 40 = .ok (.return_, 1) := by decide +kernel
theorem dX2_init_0 : decode cX2_init 0 = .ok (.aload_n 0, 1) := by decide +kernel
theorem dX2_init_1 : decode cX2_init 1 = .ok (.invokespecial 1, 3) := by decide +kernel
theorem dX2_init_4 : decode cX2_init 4 = .ok (.aload_n 0, 1) := by decide +kernel
theorem dX2_init_5 : decode cX2_init 5 = .ok (.iconst 0, 1) := by decide +kernel
theorem dX2_init_6 : decode cX2_init 6 = .ok (.putfield 7, 3) := by decide +kernel
theorem dX2_init_9 : decode cX2_init 9 = .ok (.aload_n 0, 1) := by decide +kernel
theorem dX2_init_10 : decode cX2_init 10 = .ok (.iload_n 1, 1) := by decide +kernel
theorem dX2_init_11 : decode cX2_init 11 = .ok (.putfield 13, 3) := by decide +kernel
theorem dX2_init_14 : decode cX2_init 14 = .ok (.aload_n 0, 1) := by decide +kernel
theorem dX2_init_15 : decode cX2_init 15 = .ok (.iload_n 1, 1) := by decide +kernel
theorem dX2_init_16 : decode cX2_init 16 = .ok (.newarray .int, 2) := by decide +kernel
theorem dX2_init_18 : decode cX2_init 18 = .ok (.putfield 16, 3) := by decide +kernel
theorem dX2_init_21 : decode cX2_init 21 = .ok (.aload_n 0, 1) := by decide +kernel
theorem dX2_init_22 : decode cX2_init 22 = .ok (.iload_n 1, 1) := by decide +kernel
theorem dX2_init_23 : decode cX2_init 23 = .ok (.newarray .int, 2) := by decide +kernel
theorem dX2_init_25 : decode cX2_init 25 = .ok (.putfield 20, 3) := by decide +kernel
theorem dX2_init_28 : decode cX2_init 28 = .ok (.aload_n 0, 1) := by decide +kernel
theorem dX2_init_29 : decode cX2_init 29 = .ok (.iload_n 1, 1) := by decide +kernel
theorem dX2_init_30 : decode cX2_init 30 = .ok (.newarray .int, 2) := by decide +kernel
theorem dX2_init_32 : decode cX2_init 32 = .ok (.putfield 23, 3) := by decide +kernel
theorem dX2_init_35 : decode cX2_init 35 = .ok (.aload_n 0, 1) := by decide +kernel
theorem dX2_init_36 : decode cX2_init 36 = .ok (.iload_n 1, 1) := by decide +kernel
theorem dX2_init_37 : decode cX2_init 37 = .ok (.newarray .boolean, 2) := by decide +kernel
theorem dX2_init_39 : decode cX2_init 39 = .ok (.putfield 26, 3) := by decide +kernel
theorem dX2_init_42 : decode cX2_init 42 = .ok (.return_, 1) := by decide +kernel
theorem dX2_size_0 : decode cX2_size 0 = .ok (.aload_n 0, 1) := by decide +kernel
theorem dX2_size_1 : decode cX2_size 1 = .ok (.getfield 7, 3) := by decide +kernel
theorem dX2_size_4 : decode cX2_size 4 = .ok (.ireturn, 1) := by decide +kernel
theorem dX2_isFull_0 : decode cX2_isFull 0 = .ok (.aload_n 0, 1) := by decide +kernel
theorem dX2_isFull_1 : decode cX2_isFull 1 = .ok (.getfield 7, 3) := by decide +kernel
theorem dX2_isFull_4 : decode cX2_isFull 4 = .ok (.aload_n 0, 1) := by decide +kernel
theorem dX2_isFull_5 : decode cX2_isFull 5 = .ok (.getfield 13, 3) := by decide +kernel
theorem dX2_isFull_8 : decode cX2_isFull 8 = .ok (.if_icmp .lt 7, 3) := by decide +kernel
theorem dX2_isFull_11 : decode cX2_isFull 11 = .ok (.iconst 1, 1) := by decide +kernel
theorem dX2_isFull_12 : decode cX2_isFull 12 = .ok (.goto 4, 3) := by decide +kernel
theorem dX2_isFull_15 : decode cX2_isFull 15 = .ok (.iconst 0, 1) := by decide +kernel
theorem dX2_isFull_16 : decode cX2_isFull 16 = .ok (.ireturn, 1) := by decide +kernel
theorem dX2_kindAt_0 : decode cX2_kindAt 0 = .ok (.aload_n 0, 1) := by decide +kernel
theorem dX2_kindAt_1 : decode cX2_kindAt 1 = .ok (.getfield 16, 3) := by decide +kernel
theorem dX2_kindAt_4 : decode cX2_kindAt 4 = .ok (.iload_n 1, 1) := by decide +kernel
theorem dX2_kindAt_5 : decode cX2_kindAt 5 = .ok (.iaload, 1) := by decide +kernel
theorem dX2_kindAt_6 : decode cX2_kindAt 6 = .ok (.ireturn, 1) := by decide +kernel
theorem dX2_numberAt_0 : decode cX2_numberAt 0 = .ok (.aload_n 0, 1) := by decide +kernel
theorem dX2_numberAt_1 : decode cX2_numberAt 1 = .ok (.getfield 20, 3) := by decide +kernel
theorem dX2_numberAt_4 : decode cX2_numberAt 4 = .ok (.iload_n 1, 1) := by decide +kernel
theorem dX2_numberAt_5 : decode cX2_numberAt 5 = .ok (.iaload, 1) := by decide +kernel
theorem dX2_numberAt_6 : decode cX2_numberAt 6 = .ok (.ireturn, 1) := by decide +kernel
theorem dX2_valueAt_0 : decode cX2_valueAt 0 = .ok (.aload_n 0, 1) := by decide +kernel
theorem dX2_valueAt_1 : decode cX2_valueAt 1 = .ok (.getfield 23, 3) := by decide +kernel
theorem dX2_valueAt_4 : decode cX2_valueAt 4 = .ok (.iload_n 1, 1) := by decide +kernel
theorem dX2_valueAt_5 : decode cX2_valueAt 5 = .ok (.iaload, 1) := by decide +kernel
theorem dX2_valueAt_6 : decode cX2_valueAt 6 = .ok (.ireturn, 1) := by decide +kernel
theorem dX2_isAnswered_0 : decode cX2_isAnswered 0 = .ok (.aload_n 0, 1) := by decide +kernel
theorem dX2_isAnswered_1 : decode cX2_isAnswered 1 = .ok (.getfield 26, 3) := by decide +kernel
theorem dX2_isAnswered_4 : decode cX2_isAnswered 4 = .ok (.iload_n 1, 1) := by decide +kernel
theorem dX2_isAnswered_5 : decode cX2_isAnswered 5 = .ok (.baload, 1) := by decide +kernel
theorem dX2_isAnswered_6 : decode cX2_isAnswered 6 = .ok (.ireturn, 1) := by decide +kernel
theorem dX2_markAnswered_0 : decode cX2_markAnswered 0 = .ok (.aload_n 0, 1) := by decide +kernel
theorem dX2_markAnswered_1 : decode cX2_markAnswered 1 = .ok (.getfield 26, 3) := by decide +kernel
theorem dX2_markAnswered_4 : decode cX2_markAnswered 4 = .ok (.iload_n 1, 1) := by decide +kernel
theorem dX2_markAnswered_5 : decode cX2_markAnswered 5 = .ok (.iconst 1, 1) := by decide +kernel
theorem dX2_markAnswered_6 : decode cX2_markAnswered 6 = .ok (.bastore, 1) := by decide +kernel
theorem dX2_markAnswered_7 : decode cX2_markAnswered 7 = .ok (.return_, 1) := by decide +kernel
theorem dX2_append_0 : decode cX2_append 0 = .ok (.aload_n 0, 1) := by decide +kernel
theorem dX2_append_1 : decode cX2_append 1 = .ok (.invokevirtual 30, 3) := by decide +kernel
theorem dX2_append_4 : decode cX2_append 4 = .ok (.ifCond .eq 4, 3) := by decide +kernel
theorem dX2_append_7 : decode cX2_append 7 = .ok (.return_, 1) := by decide +kernel
theorem dX2_append_8 : decode cX2_append 8 = .ok (.aload_n 0, 1) := by decide +kernel
theorem dX2_append_9 : decode cX2_append 9 = .ok (.getfield 16, 3) := by decide +kernel
theorem dX2_append_12 : decode cX2_append 12 = .ok (.aload_n 0, 1) := by decide +kernel
theorem dX2_append_13 : decode cX2_append 13 = .ok (.getfield 7, 3) := by decide +kernel
theorem dX2_append_16 : decode cX2_append 16 = .ok (.iload_n 1, 1) := by decide +kernel
theorem dX2_append_17 : decode cX2_append 17 = .ok (.iastore, 1) := by decide +kernel
theorem dX2_append_18 : decode cX2_append 18 = .ok (.aload_n 0, 1) := by decide +kernel
theorem dX2_append_19 : decode cX2_append 19 = .ok (.getfield 20, 3) := by decide +kernel
theorem dX2_append_22 : decode cX2_append 22 = .ok (.aload_n 0, 1) := by decide +kernel
theorem dX2_append_23 : decode cX2_append 23 = .ok (.getfield 7, 3) := by decide +kernel
theorem dX2_append_26 : decode cX2_append 26 = .ok (.iload_n 2, 1) := by decide +kernel
theorem dX2_append_27 : decode cX2_append 27 = .ok (.iastore, 1) := by decide +kernel
theorem dX2_append_28 : decode cX2_append 28 = .ok (.aload_n 0, 1) := by decide +kernel
theorem dX2_append_29 : decode cX2_append 29 = .ok (.getfield 23, 3) := by decide +kernel
theorem dX2_append_32 : decode cX2_append 32 = .ok (.aload_n 0, 1) := by decide +kernel
theorem dX2_append_33 : decode cX2_append 33 = .ok (.getfield 7, 3) := by decide +kernel
theorem dX2_append_36 : decode cX2_append 36 = .ok (.iload_n 3, 1) := by decide +kernel
theorem dX2_append_37 : decode cX2_append 37 = .ok (.iastore, 1) := by decide +kernel
theorem dX2_append_38 : decode cX2_append 38 = .ok (.aload_n 0, 1) := by decide +kernel
theorem dX2_append_39 : decode cX2_append 39 = .ok (.getfield 26, 3) := by decide +kernel
theorem dX2_append_42 : decode cX2_append 42 = .ok (.aload_n 0, 1) := by decide +kernel
theorem dX2_append_43 : decode cX2_append 43 = .ok (.getfield 7, 3) := by decide +kernel
theorem dX2_append_46 : decode cX2_append 46 = .ok (.iconst 0, 1) := by decide +kernel
theorem dX2_append_47 : decode cX2_append 47 = .ok (.bastore, 1) := by decide +kernel
theorem dX2_append_48 : decode cX2_append 48 = .ok (.aload_n 0, 1) := by decide +kernel
theorem dX2_append_49 : decode cX2_append 49 = .ok (.dup, 1) := by decide +kernel
theorem dX2_append_50 : decode cX2_append 50 = .ok (.getfield 7, 3) := by decide +kernel
theorem dX2_append_53 : decode cX2_append 53 = .ok (.iconst 1, 1) := by decide +kernel
theorem dX2_append_54 : decode cX2_append 54 = .ok (.iadd, 1) := by decide +kernel
theorem dX2_append_55 : decode cX2_append 55 = .ok (.putfield 7, 3) := by decide +kernel
theorem dX2_append_58 : decode cX2_append 58 = .ok (.return_, 1) := by decide +kernel
theorem dX2_removeOldest_0 : decode cX2_removeOldest 0 = .ok (.iconst 1, 1) := by decide +kernel
theorem dX2_removeOldest_1 : decode cX2_removeOldest 1 = .ok (.istore_n 1, 1) := by decide +kernel
theorem dX2_removeOldest_2 : decode cX2_removeOldest 2 = .ok (.iload_n 1, 1) := by decide +kernel
theorem dX2_removeOldest_3 : decode cX2_removeOldest 3 = .ok (.aload_n 0, 1) := by decide +kernel
theorem dX2_removeOldest_4 : decode cX2_removeOldest 4 = .ok (.getfield 7, 3) := by decide +kernel
theorem dX2_removeOldest_7 : decode cX2_removeOldest 7 = .ok (.if_icmp .ge 17, 3) := by decide +kernel
theorem dX2_removeOldest_10 : decode cX2_removeOldest 10 = .ok (.aload_n 0, 1) := by decide +kernel
theorem dX2_removeOldest_11 : decode cX2_removeOldest 11 = .ok (.iload_n 1, 1) := by decide +kernel
theorem dX2_removeOldest_12 : decode cX2_removeOldest 12 = .ok (.iload_n 1, 1) := by decide +kernel
theorem dX2_removeOldest_13 : decode cX2_removeOldest 13 = .ok (.iconst 1, 1) := by decide +kernel
theorem dX2_removeOldest_14 : decode cX2_removeOldest 14 = .ok (.isub, 1) := by decide +kernel
theorem dX2_removeOldest_15 : decode cX2_removeOldest 15 = .ok (.invokevirtual 34, 3) := by decide +kernel
theorem dX2_removeOldest_18 : decode cX2_removeOldest 18 = .ok (.iinc 1 1, 3) := by decide +kernel
theorem dX2_removeOldest_21 : decode cX2_removeOldest 21 = .ok (.goto (-19), 3) := by decide +kernel
theorem dX2_removeOldest_24 : decode cX2_removeOldest 24 = .ok (.aload_n 0, 1) := by decide +kernel
theorem dX2_removeOldest_25 : decode cX2_removeOldest 25 = .ok (.iconst 0, 1) := by decide +kernel
theorem dX2_removeOldest_26 : decode cX2_removeOldest 26 = .ok (.aload_n 0, 1) := by decide +kernel
theorem dX2_removeOldest_27 : decode cX2_removeOldest 27 = .ok (.getfield 7, 3) := by decide +kernel
theorem dX2_removeOldest_30 : decode cX2_removeOldest 30 = .ok (.iconst 1, 1) := by decide +kernel
theorem dX2_removeOldest_31 : decode cX2_removeOldest 31 = .ok (.isub, 1) := by decide +kernel
theorem dX2_removeOldest_32 : decode cX2_removeOldest 32 = .ok (.invokestatic 38, 3) := by decide +kernel
theorem dX2_removeOldest_35 : decode cX2_removeOldest 35 = .ok (.putfield 7, 3) := by decide +kernel
theorem dX2_removeOldest_38 : decode cX2_removeOldest 38 = .ok (.return_, 1) := by decide +kernel
theorem dX2_removeAnswered_0 : decode cX2_removeAnswered 0 = .ok (.iconst 0, 1) := by decide +kernel
theorem dX2_removeAnswered_1 : decode cX2_removeAnswered 1 = .ok (.istore_n 1, 1) := by decide +kernel
theorem dX2_removeAnswered_2 : decode cX2_removeAnswered 2 = .ok (.iconst 0, 1) := by decide +kernel
theorem dX2_removeAnswered_3 : decode cX2_removeAnswered 3 = .ok (.istore_n 2, 1) := by decide +kernel
theorem dX2_removeAnswered_4 : decode cX2_removeAnswered 4 = .ok (.iload_n 2, 1) := by decide +kernel
theorem dX2_removeAnswered_5 : decode cX2_removeAnswered 5 = .ok (.aload_n 0, 1) := by decide +kernel
theorem dX2_removeAnswered_6 : decode cX2_removeAnswered 6 = .ok (.getfield 7, 3) := by decide +kernel
theorem dX2_removeAnswered_9 : decode cX2_removeAnswered 9 = .ok (.if_icmp .ge 27, 3) := by decide +kernel
theorem dX2_removeAnswered_12 : decode cX2_removeAnswered 12 = .ok (.aload_n 0, 1) := by decide +kernel
theorem dX2_removeAnswered_13 : decode cX2_removeAnswered 13 = .ok (.getfield 26, 3) := by decide +kernel
theorem dX2_removeAnswered_16 : decode cX2_removeAnswered 16 = .ok (.iload_n 2, 1) := by decide +kernel
theorem dX2_removeAnswered_17 : decode cX2_removeAnswered 17 = .ok (.baload, 1) := by decide +kernel
theorem dX2_removeAnswered_18 : decode cX2_removeAnswered 18 = .ok (.ifCond .ne 12, 3) := by decide +kernel
theorem dX2_removeAnswered_21 : decode cX2_removeAnswered 21 = .ok (.aload_n 0, 1) := by decide +kernel
theorem dX2_removeAnswered_22 : decode cX2_removeAnswered 22 = .ok (.iload_n 2, 1) := by decide +kernel
theorem dX2_removeAnswered_23 : decode cX2_removeAnswered 23 = .ok (.iload_n 1, 1) := by decide +kernel
theorem dX2_removeAnswered_24 : decode cX2_removeAnswered 24 = .ok (.invokevirtual 34, 3) := by decide +kernel
theorem dX2_removeAnswered_27 : decode cX2_removeAnswered 27 = .ok (.iinc 1 1, 3) := by decide +kernel
theorem dX2_removeAnswered_30 : decode cX2_removeAnswered 30 = .ok (.iinc 2 1, 3) := by decide +kernel
theorem dX2_removeAnswered_33 : decode cX2_removeAnswered 33 = .ok (.goto (-29), 3) := by decide +kernel
theorem dX2_removeAnswered_36 : decode cX2_removeAnswered 36 = .ok (.aload_n 0, 1) := by decide +kernel
theorem dX2_removeAnswered_37 : decode cX2_removeAnswered 37 = .ok (.iload_n 1, 1) := by decide +kernel
theorem dX2_removeAnswered_38 : decode cX2_removeAnswered 38 = .ok (.putfield 7, 3) := by decide +kernel
theorem dX2_removeAnswered_41 : decode cX2_removeAnswered 41 = .ok (.return_, 1) := by decide +kernel
theorem dX2_unmarkAll_0 : decode cX2_unmarkAll 0 = .ok (.iconst 0, 1) := by decide +kernel
theorem dX2_unmarkAll_1 : decode cX2_unmarkAll 1 = .ok (.istore_n 1, 1) := by decide +kernel
theorem dX2_unmarkAll_2 : decode cX2_unmarkAll 2 = .ok (.iload_n 1, 1) := by decide +kernel
theorem dX2_unmarkAll_3 : decode cX2_unmarkAll 3 = .ok (.aload_n 0, 1) := by decide +kernel
theorem dX2_unmarkAll_4 : decode cX2_unmarkAll 4 = .ok (.getfield 7, 3) := by decide +kernel
theorem dX2_unmarkAll_7 : decode cX2_unmarkAll 7 = .ok (.if_icmp .ge 16, 3) := by decide +kernel
theorem dX2_unmarkAll_10 : decode cX2_unmarkAll 10 = .ok (.aload_n 0, 1) := by decide +kernel
theorem dX2_unmarkAll_11 : decode cX2_unmarkAll 11 = .ok (.getfield 26, 3) := by decide +kernel
theorem dX2_unmarkAll_14 : decode cX2_unmarkAll 14 = .ok (.iload_n 1, 1) := by decide +kernel
theorem dX2_unmarkAll_15 : decode cX2_unmarkAll 15 = .ok (.iconst 0, 1) := by decide +kernel
theorem dX2_unmarkAll_16 : decode cX2_unmarkAll 16 = .ok (.bastore, 1) := by decide +kernel
theorem dX2_unmarkAll_17 : decode cX2_unmarkAll 17 = .ok (.iinc 1 1, 3) := by decide +kernel
theorem dX2_unmarkAll_20 : decode cX2_unmarkAll 20 = .ok (.goto (-18), 3) := by decide +kernel
theorem dX2_unmarkAll_23 : decode cX2_unmarkAll 23 = .ok (.return_, 1) := by decide +kernel
theorem dX2_hasUnanswered_0 : decode cX2_hasUnanswered 0 = .ok (.iconst 0, 1) := by decide +kernel
theorem dX2_hasUnanswered_1 : decode cX2_hasUnanswered 1 = .ok (.istore_n 1, 1) := by decide +kernel
theorem dX2_hasUnanswered_2 : decode cX2_hasUnanswered 2 = .ok (.iload_n 1, 1) := by decide +kernel
theorem dX2_hasUnanswered_3 : decode cX2_hasUnanswered 3 = .ok (.aload_n 0, 1) := by decide +kernel
theorem dX2_hasUnanswered_4 : decode cX2_hasUnanswered 4 = .ok (.getfield 7, 3) := by decide +kernel
theorem dX2_hasUnanswered_7 : decode cX2_hasUnanswered 7 = .ok (.if_icmp .ge 20, 3) := by decide +kernel
theorem dX2_hasUnanswered_10 : decode cX2_hasUnanswered 10 = .ok (.aload_n 0, 1) := by decide +kernel
theorem dX2_hasUnanswered_11 : decode cX2_hasUnanswered 11 = .ok (.getfield 26, 3) := by decide +kernel
theorem dX2_hasUnanswered_14 : decode cX2_hasUnanswered 14 = .ok (.iload_n 1, 1) := by decide +kernel
theorem dX2_hasUnanswered_15 : decode cX2_hasUnanswered 15 = .ok (.baload, 1) := by decide +kernel
theorem dX2_hasUnanswered_16 : decode cX2_hasUnanswered 16 = .ok (.ifCond .ne 5, 3) := by decide +kernel
theorem dX2_hasUnanswered_19 : decode cX2_hasUnanswered 19 = .ok (.iconst 1, 1) := by decide +kernel
theorem dX2_hasUnanswered_20 : decode cX2_hasUnanswered 20 = .ok (.ireturn, 1) := by decide +kernel
theorem dX2_hasUnanswered_21 : decode cX2_hasUnanswered 21 = .ok (.iinc 1 1, 3) := by decide +kernel
theorem dX2_hasUnanswered_24 : decode cX2_hasUnanswered 24 = .ok (.goto (-22), 3) := by decide +kernel
theorem dX2_hasUnanswered_27 : decode cX2_hasUnanswered 27 = .ok (.iconst 0, 1) := by decide +kernel
theorem dX2_hasUnanswered_28 : decode cX2_hasUnanswered 28 = .ok (.ireturn, 1) := by decide +kernel
theorem dX2_move_0 : decode cX2_move 0 = .ok (.aload_n 0, 1) := by decide +kernel
theorem dX2_move_1 : decode cX2_move 1 = .ok (.getfield 16, 3) := by decide +kernel
theorem dX2_move_4 : decode cX2_move 4 = .ok (.iload_n 2, 1) := by decide +kernel
theorem dX2_move_5 : decode cX2_move 5 = .ok (.aload_n 0, 1) := by decide +kernel
theorem dX2_move_6 : decode cX2_move 6 = .ok (.getfield 16, 3) := by decide +kernel
theorem dX2_move_9 : decode cX2_move 9 = .ok (.iload_n 1, 1) := by decide +kernel
theorem dX2_move_10 : decode cX2_move 10 = .ok (.iaload, 1) := by decide +kernel
theorem dX2_move_11 : decode cX2_move 11 = .ok (.iastore, 1) := by decide +kernel
theorem dX2_move_12 : decode cX2_move 12 = .ok (.aload_n 0, 1) := by decide +kernel
theorem dX2_move_13 : decode cX2_move 13 = .ok (.getfield 20, 3) := by decide +kernel
theorem dX2_move_16 : decode cX2_move 16 = .ok (.iload_n 2, 1) := by decide +kernel
theorem dX2_move_17 : decode cX2_move 17 = .ok (.aload_n 0, 1) := by decide +kernel
theorem dX2_move_18 : decode cX2_move 18 = .ok (.getfield 20, 3) := by decide +kernel
theorem dX2_move_21 : decode cX2_move 21 = .ok (.iload_n 1, 1) := by decide +kernel
theorem dX2_move_22 : decode cX2_move 22 = .ok (.iaload, 1) := by decide +kernel
theorem dX2_move_23 : decode cX2_move 23 = .ok (.iastore, 1) := by decide +kernel
theorem dX2_move_24 : decode cX2_move 24 = .ok (.aload_n 0, 1) := by decide +kernel
theorem dX2_move_25 : decode cX2_move 25 = .ok (.getfield 23, 3) := by decide +kernel
theorem dX2_move_28 : decode cX2_move 28 = .ok (.iload_n 2, 1) := by decide +kernel
theorem dX2_move_29 : decode cX2_move 29 = .ok (.aload_n 0, 1) := by decide +kernel
theorem dX2_move_30 : decode cX2_move 30 = .ok (.getfield 23, 3) := by decide +kernel
theorem dX2_move_33 : decode cX2_move 33 = .ok (.iload_n 1, 1) := by decide +kernel
theorem dX2_move_34 : decode cX2_move 34 = .ok (.iaload, 1) := by decide +kernel
theorem dX2_move_35 : decode cX2_move 35 = .ok (.iastore, 1) := by decide +kernel
theorem dX2_move_36 : decode cX2_move 36 = .ok (.aload_n 0, 1) := by decide +kernel
theorem dX2_move_37 : decode cX2_move 37 = .ok (.getfield 26, 3) := by decide +kernel
theorem dX2_move_40 : decode cX2_move 40 = .ok (.iload_n 2, 1) := by decide +kernel
theorem dX2_move_41 : decode cX2_move 41 = .ok (.aload_n 0, 1) := by decide +kernel
theorem dX2_move_42 : decode cX2_move 42 = .ok (.getfield 26, 3) := by decide +kernel
theorem dX2_move_45 : decode cX2_move 45 = .ok (.iload_n 1, 1) := by decide +kernel
theorem dX2_move_46 : decode cX2_move 46 = .ok (.baload, 1) := by decide +kernel
theorem dX2_move_47 : decode cX2_move 47 = .ok (.bastore, 1) := by decide +kernel
theorem dX2_move_48 : decode cX2_move 48 = .ok (.return_, 1) := by decide +kernel
theorem dX3_init_0 : decode cX3_init 0 = .ok (.aload_n 0, 1) := by decide +kernel
theorem dX3_init_1 : decode cX3_init 1 = .ok (.invokespecial 3, 3) := by decide +kernel
theorem dX3_init_4 : decode cX3_init 4 = .ok (.aload_n 0, 1) := by decide +kernel
theorem dX3_init_5 : decode cX3_init 5 = .ok (.iconst 0, 1) := by decide +kernel
theorem dX3_init_6 : decode cX3_init 6 = .ok (.putfield 9, 3) := by decide +kernel
theorem dX3_init_9 : decode cX3_init 9 = .ok (.aload_n 0, 1) := by decide +kernel
theorem dX3_init_10 : decode cX3_init 10 = .ok (.iconst (-1), 1) := by decide +kernel
theorem dX3_init_11 : decode cX3_init 11 = .ok (.putfield 15, 3) := by decide +kernel
theorem dX3_init_14 : decode cX3_init 14 = .ok (.aload_n 0, 1) := by decide +kernel
theorem dX3_init_15 : decode cX3_init 15 = .ok (.iconst 3, 1) := by decide +kernel
theorem dX3_init_16 : decode cX3_init 16 = .ok (.anewarray 19, 3) := by decide +kernel
theorem dX3_init_19 : decode cX3_init 19 = .ok (.putfield 21, 3) := by decide +kernel
theorem dX3_init_22 : decode cX3_init 22 = .ok (.iconst 0, 1) := by decide +kernel
theorem dX3_init_23 : decode cX3_init 23 = .ok (.istore_n 2, 1) := by decide +kernel
theorem dX3_init_24 : decode cX3_init 24 = .ok (.iload_n 2, 1) := by decide +kernel
theorem dX3_init_25 : decode cX3_init 25 = .ok (.iconst 3, 1) := by decide +kernel
theorem dX3_init_26 : decode cX3_init 26 = .ok (.if_icmp .ge 23, 3) := by decide +kernel
theorem dX3_init_29 : decode cX3_init 29 = .ok (.aload_n 0, 1) := by decide +kernel
theorem dX3_init_30 : decode cX3_init 30 = .ok (.getfield 21, 3) := by decide +kernel
theorem dX3_init_33 : decode cX3_init 33 = .ok (.iload_n 2, 1) := by decide +kernel
theorem dX3_init_34 : decode cX3_init 34 = .ok (.new 19, 3) := by decide +kernel
theorem dX3_init_37 : decode cX3_init 37 = .ok (.dup, 1) := by decide +kernel
theorem dX3_init_38 : decode cX3_init 38 = .ok (.iload_n 1, 1) := by decide +kernel
theorem dX3_init_39 : decode cX3_init 39 = .ok (.invokespecial 25, 3) := by decide +kernel
theorem dX3_init_42 : decode cX3_init 42 = .ok (.aastore, 1) := by decide +kernel
theorem dX3_init_43 : decode cX3_init 43 = .ok (.iinc 2 1, 3) := by decide +kernel
theorem dX3_init_46 : decode cX3_init 46 = .ok (.goto (-22), 3) := by decide +kernel
theorem dX3_init_49 : decode cX3_init 49 = .ok (.return_, 1) := by decide +kernel
theorem dX3_ofClass_0 : decode cX3_ofClass 0 = .ok (.aload_n 0, 1) := by decide +kernel
theorem dX3_ofClass_1 : decode cX3_ofClass 1 = .ok (.getfield 21, 3) := by decide +kernel
theorem dX3_ofClass_4 : decode cX3_ofClass 4 = .ok (.iload_n 1, 1) := by decide +kernel
theorem dX3_ofClass_5 : decode cX3_ofClass 5 = .ok (.iconst 1, 1) := by decide +kernel
theorem dX3_ofClass_6 : decode cX3_ofClass 6 = .ok (.isub, 1) := by decide +kernel
theorem dX3_ofClass_7 : decode cX3_ofClass 7 = .ok (.aaload, 1) := by decide +kernel
theorem dX3_ofClass_8 : decode cX3_ofClass 8 = .ok (.areturn, 1) := by decide +kernel
theorem dX3_areLost_0 : decode cX3_areLost 0 = .ok (.aload_n 0, 1) := by decide +kernel
theorem dX3_areLost_1 : decode cX3_areLost 1 = .ok (.getfield 9, 3) := by decide +kernel
theorem dX3_areLost_4 : decode cX3_areLost 4 = .ok (.ireturn, 1) := by decide +kernel
theorem dX3_add_0 : decode cX3_add 0 = .ok (.iload_n 1, 1) := by decide +kernel
theorem dX3_add_1 : decode cX3_add 1 = .ok (.ifCond .ne 4, 3) := by decide +kernel
theorem dX3_add_4 : decode cX3_add 4 = .ok (.return_, 1) := by decide +kernel
theorem dX3_add_5 : decode cX3_add 5 = .ok (.aload_n 0, 1) := by decide +kernel
theorem dX3_add_6 : decode cX3_add 6 = .ok (.getfield 21, 3) := by decide +kernel
theorem dX3_add_9 : decode cX3_add 9 = .ok (.iload_n 1, 1) := by decide +kernel
theorem dX3_add_10 : decode cX3_add 10 = .ok (.iconst 1, 1) := by decide +kernel
theorem dX3_add_11 : decode cX3_add 11 = .ok (.isub, 1) := by decide +kernel
theorem dX3_add_12 : decode cX3_add 12 = .ok (.aaload, 1) := by decide +kernel
theorem dX3_add_13 : decode cX3_add 13 = .ok (.invokevirtual 28, 3) := by decide +kernel
theorem dX3_add_16 : decode cX3_add 16 = .ok (.ifCond .eq 19, 3) := by decide +kernel
theorem dX3_add_19 : decode cX3_add 19 = .ok (.aload_n 0, 1) := by decide +kernel
theorem dX3_add_20 : decode cX3_add 20 = .ok (.getfield 21, 3) := by decide +kernel
theorem dX3_add_23 : decode cX3_add 23 = .ok (.iload_n 1, 1) := by decide +kernel
theorem dX3_add_24 : decode cX3_add 24 = .ok (.iconst 1, 1) := by decide +kernel
theorem dX3_add_25 : decode cX3_add 25 = .ok (.isub, 1) := by decide +kernel
theorem dX3_add_26 : decode cX3_add 26 = .ok (.aaload, 1) := by decide +kernel
theorem dX3_add_27 : decode cX3_add 27 = .ok (.invokevirtual 32, 3) := by decide +kernel
theorem dX3_add_30 : decode cX3_add 30 = .ok (.aload_n 0, 1) := by decide +kernel
theorem dX3_add_31 : decode cX3_add 31 = .ok (.iconst 1, 1) := by decide +kernel
theorem dX3_add_32 : decode cX3_add 32 = .ok (.putfield 9, 3) := by decide +kernel
theorem dX3_add_35 : decode cX3_add 35 = .ok (.aload_n 0, 1) := by decide +kernel
theorem dX3_add_36 : decode cX3_add 36 = .ok (.getfield 21, 3) := by decide +kernel
theorem dX3_add_39 : decode cX3_add 39 = .ok (.iload_n 1, 1) := by decide +kernel
theorem dX3_add_40 : decode cX3_add 40 = .ok (.iconst 1, 1) := by decide +kernel
theorem dX3_add_41 : decode cX3_add 41 = .ok (.isub, 1) := by decide +kernel
theorem dX3_add_42 : decode cX3_add 42 = .ok (.aaload, 1) := by decide +kernel
theorem dX3_add_43 : decode cX3_add 43 = .ok (.iload_n 2, 1) := by decide +kernel
theorem dX3_add_44 : decode cX3_add 44 = .ok (.iload_n 3, 1) := by decide +kernel
theorem dX3_add_45 : decode cX3_add 45 = .ok (.iload 4, 2) := by decide +kernel
theorem dX3_add_47 : decode cX3_add 47 = .ok (.invokevirtual 35, 3) := by decide +kernel
theorem dX3_add_50 : decode cX3_add 50 = .ok (.return_, 1) := by decide +kernel
theorem dX3_waitFor_0 : decode cX3_waitFor 0 = .ok (.aload_n 0, 1) := by decide +kernel
theorem dX3_waitFor_1 : decode cX3_waitFor 1 = .ok (.iload_n 1, 1) := by decide +kernel
theorem dX3_waitFor_2 : decode cX3_waitFor 2 = .ok (.putfield 15, 3) := by decide +kernel
theorem dX3_waitFor_5 : decode cX3_waitFor 5 = .ok (.return_, 1) := by decide +kernel
theorem dX3_stopWaiting_0 : decode cX3_stopWaiting 0 = .ok (.aload_n 0, 1) := by decide +kernel
theorem dX3_stopWaiting_1 : decode cX3_stopWaiting 1 = .ok (.iconst (-1), 1) := by decide +kernel
theorem dX3_stopWaiting_2 : decode cX3_stopWaiting 2 = .ok (.putfield 15, 3) := by decide +kernel
theorem dX3_stopWaiting_5 : decode cX3_stopWaiting 5 = .ok (.iconst 0, 1) := by decide +kernel
theorem dX3_stopWaiting_6 : decode cX3_stopWaiting 6 = .ok (.istore_n 1, 1) := by decide +kernel
theorem dX3_stopWaiting_7 : decode cX3_stopWaiting 7 = .ok (.iload_n 1, 1) := by decide +kernel
theorem dX3_stopWaiting_8 : decode cX3_stopWaiting 8 = .ok (.iconst 3, 1) := by decide +kernel
theorem dX3_stopWaiting_9 : decode cX3_stopWaiting 9 = .ok (.if_icmp .ge 18, 3) := by decide +kernel
theorem dX3_stopWaiting_12 : decode cX3_stopWaiting 12 = .ok (.aload_n 0, 1) := by decide +kernel
theorem dX3_stopWaiting_13 : decode cX3_stopWaiting 13 = .ok (.getfield 21, 3) := by decide +kernel
theorem dX3_stopWaiting_16 : decode cX3_stopWaiting 16 = .ok (.iload_n 1, 1) := by decide +kernel
theorem dX3_stopWaiting_17 : decode cX3_stopWaiting 17 = .ok (.aaload, 1) := by decide +kernel
theorem dX3_stopWaiting_18 : decode cX3_stopWaiting 18 = .ok (.invokevirtual 39, 3) := by decide +kernel
theorem dX3_stopWaiting_21 : decode cX3_stopWaiting 21 = .ok (.iinc 1 1, 3) := by decide +kernel
theorem dX3_stopWaiting_24 : decode cX3_stopWaiting 24 = .ok (.goto (-17), 3) := by decide +kernel
theorem dX3_stopWaiting_27 : decode cX3_stopWaiting 27 = .ok (.return_, 1) := by decide +kernel
theorem dX3_confirm_0 : decode cX3_confirm 0 = .ok (.aload_n 0, 1) := by decide +kernel
theorem dX3_confirm_1 : decode cX3_confirm 1 = .ok (.getfield 15, 3) := by decide +kernel
theorem dX3_confirm_4 : decode cX3_confirm 4 = .ok (.iload_n 1, 1) := by decide +kernel
theorem dX3_confirm_5 : decode cX3_confirm 5 = .ok (.if_icmp .eq 4, 3) := by decide +kernel
theorem dX3_confirm_8 : decode cX3_confirm 8 = .ok (.return_, 1) := by decide +kernel
theorem dX3_confirm_9 : decode cX3_confirm 9 = .ok (.aload_n 0, 1) := by decide +kernel
theorem dX3_confirm_10 : decode cX3_confirm 10 = .ok (.iconst (-1), 1) := by decide +kernel
theorem dX3_confirm_11 : decode cX3_confirm 11 = .ok (.putfield 15, 3) := by decide +kernel
theorem dX3_confirm_14 : decode cX3_confirm 14 = .ok (.aload_n 0, 1) := by decide +kernel
theorem dX3_confirm_15 : decode cX3_confirm 15 = .ok (.iconst 0, 1) := by decide +kernel
theorem dX3_confirm_16 : decode cX3_confirm 16 = .ok (.putfield 9, 3) := by decide +kernel
theorem dX3_confirm_19 : decode cX3_confirm 19 = .ok (.iconst 0, 1) := by decide +kernel
theorem dX3_confirm_20 : decode cX3_confirm 20 = .ok (.istore_n 2, 1) := by decide +kernel
theorem dX3_confirm_21 : decode cX3_confirm 21 = .ok (.iload_n 2, 1) := by decide +kernel
theorem dX3_confirm_22 : decode cX3_confirm 22 = .ok (.iconst 3, 1) := by decide +kernel
theorem dX3_confirm_23 : decode cX3_confirm 23 = .ok (.if_icmp .ge 18, 3) := by decide +kernel
theorem dX3_confirm_26 : decode cX3_confirm 26 = .ok (.aload_n 0, 1) := by decide +kernel
theorem dX3_confirm_27 : decode cX3_confirm 27 = .ok (.getfield 21, 3) := by decide +kernel
theorem dX3_confirm_30 : decode cX3_confirm 30 = .ok (.iload_n 2, 1) := by decide +kernel
theorem dX3_confirm_31 : decode cX3_confirm 31 = .ok (.aaload, 1) := by decide +kernel
theorem dX3_confirm_32 : decode cX3_confirm 32 = .ok (.invokevirtual 42, 3) := by decide +kernel
theorem dX3_confirm_35 : decode cX3_confirm 35 = .ok (.iinc 2 1, 3) := by decide +kernel
theorem dX3_confirm_38 : decode cX3_confirm 38 = .ok (.goto (-17), 3) := by decide +kernel
theorem dX3_confirm_41 : decode cX3_confirm 41 = .ok (.return_, 1) := by decide +kernel
theorem dX3_classesLeft_0 : decode cX3_classesLeft 0 = .ok (.iconst 0, 1) := by decide +kernel
theorem dX3_classesLeft_1 : decode cX3_classesLeft 1 = .ok (.istore_n 1, 1) := by decide +kernel
theorem dX3_classesLeft_2 : decode cX3_classesLeft 2 = .ok (.iconst 0, 1) := by decide +kernel
theorem dX3_classesLeft_3 : decode cX3_classesLeft 3 = .ok (.istore_n 2, 1) := by decide +kernel
theorem dX3_classesLeft_4 : decode cX3_classesLeft 4 = .ok (.iload_n 2, 1) := by decide +kernel
theorem dX3_classesLeft_5 : decode cX3_classesLeft 5 = .ok (.iconst 3, 1) := by decide +kernel
theorem dX3_classesLeft_6 : decode cX3_classesLeft 6 = .ok (.if_icmp .ge 27, 3) := by decide +kernel
theorem dX3_classesLeft_9 : decode cX3_classesLeft 9 = .ok (.aload_n 0, 1) := by decide +kernel
theorem dX3_classesLeft_10 : decode cX3_classesLeft 10 = .ok (.getfield 21, 3) := by decide +kernel
theorem dX3_classesLeft_13 : decode cX3_classesLeft 13 = .ok (.iload_n 2, 1) := by decide +kernel
theorem dX3_classesLeft_14 : decode cX3_classesLeft 14 = .ok (.aaload, 1) := by decide +kernel
theorem dX3_classesLeft_15 : decode cX3_classesLeft 15 = .ok (.invokevirtual 45, 3) := by decide +kernel
theorem dX3_classesLeft_18 : decode cX3_classesLeft 18 = .ok (.ifCond .eq 9, 3) := by decide +kernel
theorem dX3_classesLeft_21 : decode cX3_classesLeft 21 = .ok (.iload_n 1, 1) := by decide +kernel
theorem dX3_classesLeft_22 : decode cX3_classesLeft 22 = .ok (.iconst 2, 1) := by decide +kernel
theorem dX3_classesLeft_23 : decode cX3_classesLeft 23 = .ok (.iload_n 2, 1) := by decide +kernel
theorem dX3_classesLeft_24 : decode cX3_classesLeft 24 = .ok (.ishl, 1) := by decide +kernel
theorem dX3_classesLeft_25 : decode cX3_classesLeft 25 = .ok (.ior, 1) := by decide +kernel
theorem dX3_classesLeft_26 : decode cX3_classesLeft 26 = .ok (.istore_n 1, 1) := by decide +kernel
theorem dX3_classesLeft_27 : decode cX3_classesLeft 27 = .ok (.iinc 2 1, 3) := by decide +kernel
theorem dX3_classesLeft_30 : decode cX3_classesLeft 30 = .ok (.goto (-26), 3) := by decide +kernel
theorem dX3_classesLeft_33 : decode cX3_classesLeft 33 = .ok (.iload_n 1, 1) := by decide +kernel
theorem dX3_classesLeft_34 : decode cX3_classesLeft 34 = .ok (.ireturn, 1) := by decide +kernel
theorem dX4_init_0 : decode cX4_init 0 = .ok (.aload_n 0, 1) := by decide +kernel
theorem dX4_init_1 : decode cX4_init 1 = .ok (.invokespecial 3, 3) := by decide +kernel
theorem dX4_init_4 : decode cX4_init 4 = .ok (.aload_n 0, 1) := by decide +kernel
theorem dX4_init_5 : decode cX4_init 5 = .ok (.sipush 311, 3) := by decide +kernel
theorem dX4_init_8 : decode cX4_init 8 = .ok (.newarray .int, 2) := by decide +kernel
theorem dX4_init_10 : decode cX4_init 10 = .ok (.putfield 11, 3) := by decide +kernel
theorem dX4_init_13 : decode cX4_init 13 = .ok (.aload_n 0, 1) := by decide +kernel
theorem dX4_init_14 : decode cX4_init 14 = .ok (.iconst 0, 1) := by decide +kernel
theorem dX4_init_15 : decode cX4_init 15 = .ok (.putfield 15, 3) := by decide +kernel
theorem dX4_init_18 : decode cX4_init 18 = .ok (.aload_n 0, 1) := by decide +kernel
theorem dX4_init_19 : decode cX4_init 19 = .ok (.sipush 250, 3) := by decide +kernel
theorem dX4_init_22 : decode cX4_init 22 = .ok (.newarray .int, 2) := by decide +kernel
theorem dX4_init_24 : decode cX4_init 24 = .ok (.putfield 19, 3) := by decide +kernel
theorem dX4_init_27 : decode cX4_init 27 = .ok (.aload_n 0, 1) := by decide +kernel
theorem dX4_init_28 : decode cX4_init 28 = .ok (.iconst 0, 1) := by decide +kernel
theorem dX4_init_29 : decode cX4_init 29 = .ok (.putfield 22, 3) := by decide +kernel
theorem dX4_init_32 : decode cX4_init 32 = .ok (.aload_n 0, 1) := by decide +kernel
theorem dX4_init_33 : decode cX4_init 33 = .ok (.iconst 0, 1) := by decide +kernel
theorem dX4_init_34 : decode cX4_init 34 = .ok (.putfield 25, 3) := by decide +kernel
theorem dX4_init_37 : decode cX4_init 37 = .ok (.aload_n 0, 1) := by decide +kernel
theorem dX4_init_38 : decode cX4_init 38 = .ok (.iload_n 1, 1) := by decide +kernel
theorem dX4_init_39 : decode cX4_init 39 = .ok (.putfield 28, 3) := by decide +kernel
theorem dX4_init_42 : decode cX4_init 42 = .ok (.aload_n 0, 1) := by decide +kernel
theorem dX4_init_43 : decode cX4_init 43 = .ok (.iload_n 2, 1) := by decide +kernel
theorem dX4_init_44 : decode cX4_init 44 = .ok (.putfield 31, 3) := by decide +kernel
theorem dX4_init_47 : decode cX4_init 47 = .ok (.return_, 1) := by decide +kernel
theorem dX4_size_0 : decode cX4_size 0 = .ok (.aload_n 0, 1) := by decide +kernel
theorem dX4_size_1 : decode cX4_size 1 = .ok (.getfield 15, 3) := by decide +kernel
theorem dX4_size_4 : decode cX4_size 4 = .ok (.ireturn, 1) := by decide +kernel
theorem dX4_control_0 : decode cX4_control 0 = .ok (.aload_n 0, 1) := by decide +kernel
theorem dX4_control_1 : decode cX4_control 1 = .ok (.getfield 25, 3) := by decide +kernel
theorem dX4_control_4 : decode cX4_control 4 = .ok (.ireturn, 1) := by decide +kernel
theorem dX4_data_0 : decode cX4_data 0 = .ok (.aload_n 0, 1) := by decide +kernel
theorem dX4_data_1 : decode cX4_data 1 = .ok (.getfield 19, 3) := by decide +kernel
theorem dX4_data_4 : decode cX4_data 4 = .ok (.areturn, 1) := by decide +kernel
theorem dX4_dataLength_0 : decode cX4_dataLength 0 = .ok (.aload_n 0, 1) := by decide +kernel
theorem dX4_dataLength_1 : decode cX4_dataLength 1 = .ok (.getfield 22, 3) := by decide +kernel
theorem dX4_dataLength_4 : decode cX4_dataLength 4 = .ok (.ireturn, 1) := by decide +kernel
theorem dX4_addWord_0 : decode cX4_addWord 0 = .ok (.iconst 0, 1) := by decide +kernel
theorem dX4_addWord_1 : decode cX4_addWord 1 = .ok (.istore_n 3, 1) := by decide +kernel
theorem dX4_addWord_2 : decode cX4_addWord 2 = .ok (.iload_n 3, 1) := by decide +kernel
theorem dX4_addWord_3 : decode cX4_addWord 3 = .ok (.iconst 4, 1) := by decide +kernel
theorem dX4_addWord_4 : decode cX4_addWord 4 = .ok (.if_icmp .ge 56, 3) := by decide +kernel
theorem dX4_addWord_7 : decode cX4_addWord 7 = .ok (.iload_n 3, 1) := by decide +kernel
theorem dX4_addWord_8 : decode cX4_addWord 8 = .ok (.iload_n 2, 1) := by decide +kernel
theorem dX4_addWord_9 : decode cX4_addWord 9 = .ok (.if_icmp .ge 51, 3) := by decide +kernel
theorem dX4_addWord_12 : decode cX4_addWord 12 = .ok (.aload_n 0, 1) := by decide +kernel
theorem dX4_addWord_13 : decode cX4_addWord 13 = .ok (.getfield 15, 3) := by decide +kernel
theorem dX4_addWord_16 : decode cX4_addWord 16 = .ok (.sipush 311, 3) := by decide +kernel
theorem dX4_addWord_19 : decode cX4_addWord 19 = .ok (.if_icmp .ge 35, 3) := by decide +kernel
theorem dX4_addWord_22 : decode cX4_addWord 22 = .ok (.aload_n 0, 1) := by decide +kernel
theorem dX4_addWord_23 : decode cX4_addWord 23 = .ok (.getfield 11, 3) := by decide +kernel
theorem dX4_addWord_26 : decode cX4_addWord 26 = .ok (.aload_n 0, 1) := by decide +kernel
theorem dX4_addWord_27 : decode cX4_addWord 27 = .ok (.getfield 15, 3) := by decide +kernel
theorem dX4_addWord_30 : decode cX4_addWord 30 = .ok (.iload_n 1, 1) := by decide +kernel
theorem dX4_addWord_31 : decode cX4_addWord 31 = .ok (.bipush 24, 2) := by decide +kernel
theorem dX4_addWord_33 : decode cX4_addWord 33 = .ok (.bipush 8, 2) := by decide +kernel
theorem dX4_addWord_35 : decode cX4_addWord 35 = .ok (.iload_n 3, 1) := by decide +kernel
theorem dX4_addWord_36 : decode cX4_addWord 36 = .ok (.imul, 1) := by decide +kernel
theorem dX4_addWord_37 : decode cX4_addWord 37 = .ok (.isub, 1) := by decide +kernel
theorem dX4_addWord_38 : decode cX4_addWord 38 = .ok (.iushr, 1) := by decide +kernel
theorem dX4_addWord_39 : decode cX4_addWord 39 = .ok (.sipush 255, 3) := by decide +kernel
theorem dX4_addWord_42 : decode cX4_addWord 42 = .ok (.iand, 1) := by decide +kernel
theorem dX4_addWord_43 : decode cX4_addWord 43 = .ok (.iastore, 1) := by decide +kernel
theorem dX4_addWord_44 : decode cX4_addWord 44 = .ok (.aload_n 0, 1) := by decide +kernel
theorem dX4_addWord_45 : decode cX4_addWord 45 = .ok (.dup, 1) := by decide +kernel
theorem dX4_addWord_46 : decode cX4_addWord 46 = .ok (.getfield 15, 3) := by decide +kernel
theorem dX4_addWord_49 : decode cX4_addWord 49 = .ok (.iconst 1, 1) := by decide +kernel
theorem dX4_addWord_50 : decode cX4_addWord 50 = .ok (.iadd, 1) := by decide +kernel
theorem dX4_addWord_51 : decode cX4_addWord 51 = .ok (.putfield 15, 3) := by decide +kernel
theorem dX4_addWord_54 : decode cX4_addWord 54 = .ok (.iinc 3 1, 3) := by decide +kernel
theorem dX4_addWord_57 : decode cX4_addWord 57 = .ok (.goto (-55), 3) := by decide +kernel
theorem dX4_addWord_60 : decode cX4_addWord 60 = .ok (.return_, 1) := by decide +kernel
theorem dX4_nextFrame_0 : decode cX4_nextFrame 0 = .ok (.aload_n 0, 1) := by decide +kernel
theorem dX4_nextFrame_1 : decode cX4_nextFrame 1 = .ok (.getfield 15, 3) := by decide +kernel
theorem dX4_nextFrame_4 : decode cX4_nextFrame 4 = .ok (.istore_n 1, 1) := by decide +kernel
theorem dX4_nextFrame_5 : decode cX4_nextFrame 5 = .ok (.iload_n 1, 1) := by decide +kernel
theorem dX4_nextFrame_6 : decode cX4_nextFrame 6 = .ok (.iconst 2, 1) := by decide +kernel
theorem dX4_nextFrame_7 : decode cX4_nextFrame 7 = .ok (.if_icmp .lt 67, 3) := by decide +kernel
theorem dX4_nextFrame_10 : decode cX4_nextFrame 10 = .ok (.aload_n 0, 1) := by decide +kernel
theorem dX4_nextFrame_11 : decode cX4_nextFrame 11 = .ok (.invokevirtual 34, 3) := by decide +kernel
theorem dX4_nextFrame_14 : decode cX4_nextFrame 14 = .ok (.ifCond .eq 49, 3) := by decide +kernel
theorem dX4_nextFrame_17 : decode cX4_nextFrame 17 = .ok (.aload_n 0, 1) := by decide +kernel
theorem dX4_nextFrame_18 : decode cX4_nextFrame 18 = .ok (.getfield 15, 3) := by decide +kernel
theorem dX4_nextFrame_21 : decode cX4_nextFrame 21 = .ok (.bipush 10, 2) := by decide +kernel
theorem dX4_nextFrame_23 : decode cX4_nextFrame 23 = .ok (.if_icmp .lt 25, 3) := by decide +kernel
theorem dX4_nextFrame_26 : decode cX4_nextFrame 26 = .ok (.aload_n 0, 1) := by decide +kernel
theorem dX4_nextFrame_27 : decode cX4_nextFrame 27 = .ok (.getfield 15, 3) := by decide +kernel
theorem dX4_nextFrame_30 : decode cX4_nextFrame 30 = .ok (.aload_n 0, 1) := by decide +kernel
theorem dX4_nextFrame_31 : decode cX4_nextFrame 31 = .ok (.getfield 11, 3) := by decide +kernel
theorem dX4_nextFrame_34 : decode cX4_nextFrame 34 = .ok (.iconst 2, 1) := by decide +kernel
theorem dX4_nextFrame_35 : decode cX4_nextFrame 35 = .ok (.iaload, 1) := by decide +kernel
theorem dX4_nextFrame_36 : decode cX4_nextFrame 36 = .ok (.iconst 5, 1) := by decide +kernel
theorem dX4_nextFrame_37 : decode cX4_nextFrame 37 = .ok (.isub, 1) := by decide +kernel
theorem dX4_nextFrame_38 : decode cX4_nextFrame 38 = .ok (.invokestatic 38, 3) := by decide +kernel
theorem dX4_nextFrame_41 : decode cX4_nextFrame 41 = .ok (.if_icmp .lt 7, 3) := by decide +kernel
theorem dX4_nextFrame_44 : decode cX4_nextFrame 44 = .ok (.iconst 1, 1) := by decide +kernel
theorem dX4_nextFrame_45 : decode cX4_nextFrame 45 = .ok (.goto 4, 3) := by decide +kernel
theorem dX4_nextFrame_48 : decode cX4_nextFrame 48 = .ok (.iconst 0, 1) := by decide +kernel
theorem dX4_nextFrame_49 : decode cX4_nextFrame 49 = .ok (.istore_n 2, 1) := by decide +kernel
theorem dX4_nextFrame_50 : decode cX4_nextFrame 50 = .ok (.iload_n 2, 1) := by decide +kernel
theorem dX4_nextFrame_51 : decode cX4_nextFrame 51 = .ok (.ifCond .eq 10, 3) := by decide +kernel
theorem dX4_nextFrame_54 : decode cX4_nextFrame 54 = .ok (.aload_n 0, 1) := by decide +kernel
theorem dX4_nextFrame_55 : decode cX4_nextFrame 55 = .ok (.invokevirtual 42, 3) := by decide +kernel
theorem dX4_nextFrame_58 : decode cX4_nextFrame 58 = .ok (.goto 4, 3) := by decide +kernel
theorem dX4_nextFrame_61 : decode cX4_nextFrame 61 = .ok (.iconst 0, 1) := by decide +kernel
theorem dX4_nextFrame_62 : decode cX4_nextFrame 62 = .ok (.ireturn, 1) := by decide +kernel
theorem dX4_nextFrame_63 : decode cX4_nextFrame 63 = .ok (.aload_n 0, 1) := by decide +kernel
theorem dX4_nextFrame_64 : decode cX4_nextFrame 64 = .ok (.iconst 1, 1) := by decide +kernel
theorem dX4_nextFrame_65 : decode cX4_nextFrame 65 = .ok (.invokevirtual 46, 3) := by decide +kernel
theorem dX4_nextFrame_68 : decode cX4_nextFrame 68 = .ok (.iinc 1 (-1), 3) := by decide +kernel
theorem dX4_nextFrame_71 : decode cX4_nextFrame 71 = .ok (.goto (-66), 3) := by decide +kernel
theorem dX4_nextFrame_74 : decode cX4_nextFrame 74 = .ok (.iconst 0, 1) := by decide +kernel
theorem dX4_nextFrame_75 : decode cX4_nextFrame 75 = .ok (.ireturn, 1) := by decide +kernel
theorem dX4_mayBeginFrame_0 : decode cX4_mayBeginFrame 0 = .ok (.aload_n 0, 1) := by decide +kernel
theorem dX4_mayBeginFrame_1 : decode cX4_mayBeginFrame 1 = .ok (.getfield 11, 3) := by decide +kernel
theorem dX4_mayBeginFrame_4 : decode cX4_mayBeginFrame 4 = .ok (.iconst 0, 1) := by decide +kernel
theorem dX4_mayBeginFrame_5 : decode cX4_mayBeginFrame 5 = .ok (.iaload, 1) := by decide +kernel
theorem dX4_mayBeginFrame_6 : decode cX4_mayBeginFrame 6 = .ok (.iconst 5, 1) := by decide +kernel
theorem dX4_mayBeginFrame_7 : decode cX4_mayBeginFrame 7 = .ok (.if_icmp .ne 14, 3) := by decide +kernel
theorem dX4_mayBeginFrame_10 : decode cX4_mayBeginFrame 10 = .ok (.aload_n 0, 1) := by decide +kernel
theorem dX4_mayBeginFrame_11 : decode cX4_mayBeginFrame 11 = .ok (.getfield 11, 3) := by decide +kernel
theorem dX4_mayBeginFrame_14 : decode cX4_mayBeginFrame 14 = .ok (.iconst 1, 1) := by decide +kernel
theorem dX4_mayBeginFrame_15 : decode cX4_mayBeginFrame 15 = .ok (.iaload, 1) := by decide +kernel
theorem dX4_mayBeginFrame_16 : decode cX4_mayBeginFrame 16 = .ok (.bipush 100, 2) := by decide +kernel
theorem dX4_mayBeginFrame_18 : decode cX4_mayBeginFrame 18 = .ok (.if_icmp .eq 5, 3) := by decide +kernel
theorem dX4_mayBeginFrame_21 : decode cX4_mayBeginFrame 21 = .ok (.iconst 0, 1) := by decide +kernel
theorem dX4_mayBeginFrame_22 : decode cX4_mayBeginFrame 22 = .ok (.ireturn, 1) := by decide +kernel
theorem dX4_mayBeginFrame_23 : decode cX4_mayBeginFrame 23 = .ok (.aload_n 0, 1) := by decide +kernel
theorem dX4_mayBeginFrame_24 : decode cX4_mayBeginFrame 24 = .ok (.getfield 15, 3) := by decide +kernel
theorem dX4_mayBeginFrame_27 : decode cX4_mayBeginFrame 27 = .ok (.bipush 10, 2) := by decide +kernel
theorem dX4_mayBeginFrame_29 : decode cX4_mayBeginFrame 29 = .ok (.if_icmp .lt 23, 3) := by decide +kernel
theorem dX4_mayBeginFrame_32 : decode cX4_mayBeginFrame 32 = .ok (.aload_n 0, 1) := by decide +kernel
theorem dX4_mayBeginFrame_33 : decode cX4_mayBeginFrame 33 = .ok (.getfield 11, 3) := by decide +kernel
theorem dX4_mayBeginFrame_36 : decode cX4_mayBeginFrame 36 = .ok (.iconst 2, 1) := by decide +kernel
theorem dX4_mayBeginFrame_37 : decode cX4_mayBeginFrame 37 = .ok (.iaload, 1) := by decide +kernel
theorem dX4_mayBeginFrame_38 : decode cX4_mayBeginFrame 38 = .ok (.iconst 5, 1) := by decide +kernel
theorem dX4_mayBeginFrame_39 : decode cX4_mayBeginFrame 39 = .ok (.if_icmp .lt 17, 3) := by decide +kernel
theorem dX4_mayBeginFrame_42 : decode cX4_mayBeginFrame 42 = .ok (.aload_n 0, 1) := by decide +kernel
theorem dX4_mayBeginFrame_43 : decode cX4_mayBeginFrame 43 = .ok (.iconst 0, 1) := by decide +kernel
theorem dX4_mayBeginFrame_44 : decode cX4_mayBeginFrame 44 = .ok (.bipush 8, 2) := by decide +kernel
theorem dX4_mayBeginFrame_46 : decode cX4_mayBeginFrame 46 = .ok (.invokevirtual 50, 3) := by decide +kernel
theorem dX4_mayBeginFrame_49 : decode cX4_mayBeginFrame 49 = .ok (.ifCond .eq 7, 3) := by decide +kernel
theorem dX4_mayBeginFrame_52 : decode cX4_mayBeginFrame 52 = .ok (.iconst 1, 1) := by decide +kernel
theorem dX4_mayBeginFrame_53 : decode cX4_mayBeginFrame 53 = .ok (.goto 4, 3) := by decide +kernel
theorem dX4_mayBeginFrame_56 : decode cX4_mayBeginFrame 56 = .ok (.iconst 0, 1) := by decide +kernel
theorem dX4_mayBeginFrame_57 : decode cX4_mayBeginFrame 57 = .ok (.ireturn, 1) := by decide +kernel
theorem dX4_takeFrame_0 : decode cX4_takeFrame 0 = .ok (.aload_n 0, 1) := by decide +kernel
theorem dX4_takeFrame_1 : decode cX4_takeFrame 1 = .ok (.aload_n 0, 1) := by decide +kernel
theorem dX4_takeFrame_2 : decode cX4_takeFrame 2 = .ok (.getfield 11, 3) := by decide +kernel
theorem dX4_takeFrame_5 : decode cX4_takeFrame 5 = .ok (.iconst 3, 1) := by decide +kernel
theorem dX4_takeFrame_6 : decode cX4_takeFrame 6 = .ok (.iaload, 1) := by decide +kernel
theorem dX4_takeFrame_7 : decode cX4_takeFrame 7 = .ok (.putfield 25, 3) := by decide +kernel
theorem dX4_takeFrame_10 : decode cX4_takeFrame 10 = .ok (.aload_n 0, 1) := by decide +kernel
theorem dX4_takeFrame_11 : decode cX4_takeFrame 11 = .ok (.aload_n 0, 1) := by decide +kernel
theorem dX4_takeFrame_12 : decode cX4_takeFrame 12 = .ok (.getfield 11, 3) := by decide +kernel
theorem dX4_takeFrame_15 : decode cX4_takeFrame 15 = .ok (.iconst 2, 1) := by decide +kernel
theorem dX4_takeFrame_16 : decode cX4_takeFrame 16 = .ok (.iaload, 1) := by decide +kernel
theorem dX4_takeFrame_17 : decode cX4_takeFrame 17 = .ok (.iconst 5, 1) := by decide +kernel
theorem dX4_takeFrame_18 : decode cX4_takeFrame 18 = .ok (.isub, 1) := by decide +kernel
theorem dX4_takeFrame_19 : decode cX4_takeFrame 19 = .ok (.invokevirtual 54, 3) := by decide +kernel
theorem dX4_takeFrame_22 : decode cX4_takeFrame 22 = .ok (.istore_n 1, 1) := by decide +kernel
theorem dX4_takeFrame_23 : decode cX4_takeFrame 23 = .ok (.aload_n 0, 1) := by decide +kernel
theorem dX4_takeFrame_24 : decode cX4_takeFrame 24 = .ok (.iconst 4, 1) := by decide +kernel
theorem dX4_takeFrame_25 : decode cX4_takeFrame 25 = .ok (.invokevirtual 58, 3) := by decide +kernel
theorem dX4_takeFrame_28 : decode cX4_takeFrame 28 = .ok (.aload_n 0, 1) := by decide +kernel
theorem dX4_takeFrame_29 : decode cX4_takeFrame 29 = .ok (.getfield 28, 3) := by decide +kernel
theorem dX4_takeFrame_32 : decode cX4_takeFrame 32 = .ok (.if_icmp .ne 34, 3) := by decide +kernel
theorem dX4_takeFrame_35 : decode cX4_takeFrame 35 = .ok (.aload_n 0, 1) := by decide +kernel
theorem dX4_takeFrame_36 : decode cX4_takeFrame 36 = .ok (.bipush 6, 2) := by decide +kernel
theorem dX4_takeFrame_38 : decode cX4_takeFrame 38 = .ok (.invokevirtual 58, 3) := by decide +kernel
theorem dX4_takeFrame_41 : decode cX4_takeFrame 41 = .ok (.aload_n 0, 1) := by decide +kernel
theorem dX4_takeFrame_42 : decode cX4_takeFrame 42 = .ok (.getfield 31, 3) := by decide +kernel
theorem dX4_takeFrame_45 : decode cX4_takeFrame 45 = .ok (.if_icmp .ne 21, 3) := by decide +kernel
theorem dX4_takeFrame_48 : decode cX4_takeFrame 48 = .ok (.aload_n 0, 1) := by decide +kernel
theorem dX4_takeFrame_49 : decode cX4_takeFrame 49 = .ok (.getfield 25, 3) := by decide +kernel
theorem dX4_takeFrame_52 : decode cX4_takeFrame 52 = .ok (.sipush 192, 3) := by decide +kernel
theorem dX4_takeFrame_55 : decode cX4_takeFrame 55 = .ok (.iand, 1) := by decide +kernel
theorem dX4_takeFrame_56 : decode cX4_takeFrame 56 = .ok (.sipush 192, 3) := by decide +kernel
theorem dX4_takeFrame_59 : decode cX4_takeFrame 59 = .ok (.if_icmp .ne 7, 3) := by decide +kernel
theorem dX4_takeFrame_62 : decode cX4_takeFrame 62 = .ok (.iconst 1, 1) := by decide +kernel
theorem dX4_takeFrame_63 : decode cX4_takeFrame 63 = .ok (.goto 4, 3) := by decide +kernel
theorem dX4_takeFrame_66 : decode cX4_takeFrame 66 = .ok (.iconst 0, 1) := by decide +kernel
theorem dX4_takeFrame_67 : decode cX4_takeFrame 67 = .ok (.istore_n 2, 1) := by decide +kernel
theorem dX4_takeFrame_68 : decode cX4_takeFrame 68 = .ok (.aload_n 0, 1) := by decide +kernel
theorem dX4_takeFrame_69 : decode cX4_takeFrame 69 = .ok (.aload_n 0, 1) := by decide +kernel
theorem dX4_takeFrame_70 : decode cX4_takeFrame 70 = .ok (.getfield 22, 3) := by decide +kernel
theorem dX4_takeFrame_73 : decode cX4_takeFrame 73 = .ok (.invokestatic 38, 3) := by decide +kernel
theorem dX4_takeFrame_76 : decode cX4_takeFrame 76 = .ok (.invokevirtual 46, 3) := by decide +kernel
theorem dX4_takeFrame_79 : decode cX4_takeFrame 79 = .ok (.iload_n 1, 1) := by decide +kernel
theorem dX4_takeFrame_80 : decode cX4_takeFrame 80 = .ok (.ifCond .ne 5, 3) := by decide +kernel
theorem dX4_takeFrame_83 : decode cX4_takeFrame 83 = .ok (.iconst 1, 1) := by decide +kernel
theorem dX4_takeFrame_84 : decode cX4_takeFrame 84 = .ok (.ireturn, 1) := by decide +kernel
theorem dX4_takeFrame_85 : decode cX4_takeFrame 85 = .ok (.iload_n 2, 1) := by decide +kernel
theorem dX4_takeFrame_86 : decode cX4_takeFrame 86 = .ok (.ifCond .eq 7, 3) := by decide +kernel
theorem dX4_takeFrame_89 : decode cX4_takeFrame 89 = .ok (.iconst 3, 1) := by decide +kernel
theorem dX4_takeFrame_90 : decode cX4_takeFrame 90 = .ok (.goto 4, 3) := by decide +kernel
theorem dX4_takeFrame_93 : decode cX4_takeFrame 93 = .ok (.iconst 2, 1) := by decide +kernel
theorem dX4_takeFrame_94 : decode cX4_takeFrame 94 = .ok (.ireturn, 1) := by decide +kernel
theorem dX4_copyData_0 : decode cX4_copyData 0 = .ok (.iconst 1, 1) := by decide +kernel
theorem dX4_copyData_1 : decode cX4_copyData 1 = .ok (.istore_n 2, 1) := by decide +kernel
theorem dX4_copyData_2 : decode cX4_copyData 2 = .ok (.bipush 10, 2) := by decide +kernel
theorem dX4_copyData_4 : decode cX4_copyData 4 = .ok (.istore_n 3, 1) := by decide +kernel
theorem dX4_copyData_5 : decode cX4_copyData 5 = .ok (.aload_n 0, 1) := by decide +kernel
theorem dX4_copyData_6 : decode cX4_copyData 6 = .ok (.iload_n 1, 1) := by decide +kernel
theorem dX4_copyData_7 : decode cX4_copyData 7 = .ok (.putfield 22, 3) := by decide +kernel
theorem dX4_copyData_10 : decode cX4_copyData 10 = .ok (.iconst 0, 1) := by decide +kernel
theorem dX4_copyData_11 : decode cX4_copyData 11 = .ok (.istore 4, 2) := by decide +kernel
theorem dX4_copyData_13 : decode cX4_copyData 13 = .ok (.iload 4, 2) := by decide +kernel
theorem dX4_copyData_15 : decode cX4_copyData 15 = .ok (.iload_n 1, 1) := by decide +kernel
theorem dX4_copyData_16 : decode cX4_copyData 16 = .ok (.if_icmp .ge 65, 3) := by decide +kernel
theorem dX4_copyData_19 : decode cX4_copyData 19 = .ok (.bipush 16, 2) := by decide +kernel
theorem dX4_copyData_21 : decode cX4_copyData 21 = .ok (.iload_n 1, 1) := by decide +kernel
theorem dX4_copyData_22 : decode cX4_copyData 22 = .ok (.iload 4, 2) := by decide +kernel
theorem dX4_copyData_24 : decode cX4_copyData 24 = .ok (.isub, 1) := by decide +kernel
theorem dX4_copyData_25 : decode cX4_copyData 25 = .ok (.invokestatic 61, 3) := by decide +kernel
theorem dX4_copyData_28 : decode cX4_copyData 28 = .ok (.istore 5, 2) := by decide +kernel
theorem dX4_copyData_30 : decode cX4_copyData 30 = .ok (.aload_n 0, 1) := by decide +kernel
theorem dX4_copyData_31 : decode cX4_copyData 31 = .ok (.getfield 11, 3) := by decide +kernel
theorem dX4_copyData_34 : decode cX4_copyData 34 = .ok (.iload_n 3, 1) := by decide +kernel
theorem dX4_copyData_35 : decode cX4_copyData 35 = .ok (.aload_n 0, 1) := by decide +kernel
theorem dX4_copyData_36 : decode cX4_copyData 36 = .ok (.getfield 19, 3) := by decide +kernel
theorem dX4_copyData_39 : decode cX4_copyData 39 = .ok (.iload 4, 2) := by decide +kernel
theorem dX4_copyData_41 : decode cX4_copyData 41 = .ok (.iload 5, 2) := by decide +kernel
theorem dX4_copyData_43 : decode cX4_copyData 43 = .ok (.invokestatic 67, 3) := by decide +kernel
theorem dX4_copyData_46 : decode cX4_copyData 46 = .ok (.iload_n 2, 1) := by decide +kernel
theorem dX4_copyData_47 : decode cX4_copyData 47 = .ok (.ifCond .eq 19, 3) := by decide +kernel
theorem dX4_copyData_50 : decode cX4_copyData 50 = .ok (.aload_n 0, 1) := by decide +kernel
theorem dX4_copyData_51 : decode cX4_copyData 51 = .ok (.iload_n 3, 1) := by decide +kernel
theorem dX4_copyData_52 : decode cX4_copyData 52 = .ok (.iload_n 3, 1) := by decide +kernel
theorem dX4_copyData_53 : decode cX4_copyData 53 = .ok (.iload 5, 2) := by decide +kernel
theorem dX4_copyData_55 : decode cX4_copyData 55 = .ok (.iadd, 1) := by decide +kernel
theorem dX4_copyData_56 : decode cX4_copyData 56 = .ok (.invokevirtual 50, 3) := by decide +kernel
theorem dX4_copyData_59 : decode cX4_copyData 59 = .ok (.ifCond .eq 7, 3) := by decide +kernel
theorem dX4_copyData_62 : decode cX4_copyData 62 = .ok (.iconst 1, 1) := by decide +kernel
theorem dX4_copyData_63 : decode cX4_copyData 63 = .ok (.goto 4, 3) := by decide +kernel
theorem dX4_copyData_66 : decode cX4_copyData 66 = .ok (.iconst 0, 1) := by decide +kernel
theorem dX4_copyData_67 : decode cX4_copyData 67 = .ok (.istore_n 2, 1) := by decide +kernel
theorem dX4_copyData_68 : decode cX4_copyData 68 = .ok (.iload_n 3, 1) := by decide +kernel
theorem dX4_copyData_69 : decode cX4_copyData 69 = .ok (.iload 5, 2) := by decide +kernel
theorem dX4_copyData_71 : decode cX4_copyData 71 = .ok (.iconst 2, 1) := by decide +kernel
theorem dX4_copyData_72 : decode cX4_copyData 72 = .ok (.iadd, 1) := by decide +kernel
theorem dX4_copyData_73 : decode cX4_copyData 73 = .ok (.iadd, 1) := by decide +kernel
theorem dX4_copyData_74 : decode cX4_copyData 74 = .ok (.istore_n 3, 1) := by decide +kernel
theorem dX4_copyData_75 : decode cX4_copyData 75 = .ok (.iinc 4 16, 3) := by decide +kernel
theorem dX4_copyData_78 : decode cX4_copyData 78 = .ok (.goto (-65), 3) := by decide +kernel
theorem dX4_copyData_81 : decode cX4_copyData 81 = .ok (.iload_n 2, 1) := by decide +kernel
theorem dX4_copyData_82 : decode cX4_copyData 82 = .ok (.ireturn, 1) := by decide +kernel
theorem dX4_isCheckRight_0 : decode cX4_isCheckRight 0 = .ok (.aload_n 0, 1) := by decide +kernel
theorem dX4_isCheckRight_1 : decode cX4_isCheckRight 1 = .ok (.iload_n 2, 1) := by decide +kernel
theorem dX4_isCheckRight_2 : decode cX4_isCheckRight 2 = .ok (.invokevirtual 58, 3) := by decide +kernel
theorem dX4_isCheckRight_5 : decode cX4_isCheckRight 5 = .ok (.aload_n 0, 1) := by decide +kernel
theorem dX4_isCheckRight_6 : decode cX4_isCheckRight 6 = .ok (.getfield 11, 3) := by decide +kernel
theorem dX4_isCheckRight_9 : decode cX4_isCheckRight 9 = .ok (.iload_n 1, 1) := by decide +kernel
theorem dX4_isCheckRight_10 : decode cX4_isCheckRight 10 = .ok (.iload_n 2, 1) := by decide +kernel
theorem dX4_isCheckRight_11 : decode cX4_isCheckRight 11 = .ok (.invokestatic 73, 3) := by decide +kernel
theorem dX4_isCheckRight_14 : decode cX4_isCheckRight 14 = .ok (.if_icmp .ne 7, 3) := by decide +kernel
theorem dX4_isCheckRight_17 : decode cX4_isCheckRight 17 = .ok (.iconst 1, 1) := by decide +kernel
theorem dX4_isCheckRight_18 : decode cX4_isCheckRight 18 = .ok (.goto 4, 3) := by decide +kernel
theorem dX4_isCheckRight_21 : decode cX4_isCheckRight 21 = .ok (.iconst 0, 1) := by decide +kernel
theorem dX4_isCheckRight_22 : decode cX4_isCheckRight 22 = .ok (.ireturn, 1) := by decide +kernel
theorem dX4_twoAt_0 : decode cX4_twoAt 0 = .ok (.aload_n 0, 1) := by decide +kernel
theorem dX4_twoAt_1 : decode cX4_twoAt 1 = .ok (.getfield 11, 3) := by decide +kernel
theorem dX4_twoAt_4 : decode cX4_twoAt 4 = .ok (.iload_n 1, 1) := by decide +kernel
theorem dX4_twoAt_5 : decode cX4_twoAt 5 = .ok (.iaload, 1) := by decide +kernel
theorem dX4_twoAt_6 : decode cX4_twoAt 6 = .ok (.aload_n 0, 1) := by decide +kernel
theorem dX4_twoAt_7 : decode cX4_twoAt 7 = .ok (.getfield 11, 3) := by decide +kernel
theorem dX4_twoAt_10 : decode cX4_twoAt 10 = .ok (.iload_n 1, 1) := by decide +kernel
theorem dX4_twoAt_11 : decode cX4_twoAt 11 = .ok (.iconst 1, 1) := by decide +kernel
theorem dX4_twoAt_12 : decode cX4_twoAt 12 = .ok (.iadd, 1) := by decide +kernel
theorem dX4_twoAt_13 : decode cX4_twoAt 13 = .ok (.iaload, 1) := by decide +kernel
theorem dX4_twoAt_14 : decode cX4_twoAt 14 = .ok (.bipush 8, 2) := by decide +kernel
theorem dX4_twoAt_16 : decode cX4_twoAt 16 = .ok (.ishl, 1) := by decide +kernel
theorem dX4_twoAt_17 : decode cX4_twoAt 17 = .ok (.ior, 1) := by decide +kernel
theorem dX4_twoAt_18 : decode cX4_twoAt 18 = .ok (.ireturn, 1) := by decide +kernel
theorem dX4_drop_0 : decode cX4_drop 0 = .ok (.aload_n 0, 1) := by decide +kernel
theorem dX4_drop_1 : decode cX4_drop 1 = .ok (.dup, 1) := by decide +kernel
theorem dX4_drop_2 : decode cX4_drop 2 = .ok (.getfield 15, 3) := by decide +kernel
theorem dX4_drop_5 : decode cX4_drop 5 = .ok (.iload_n 1, 1) := by decide +kernel
theorem dX4_drop_6 : decode cX4_drop 6 = .ok (.isub, 1) := by decide +kernel
theorem dX4_drop_7 : decode cX4_drop 7 = .ok (.putfield 15, 3) := by decide +kernel
theorem dX4_drop_10 : decode cX4_drop 10 = .ok (.aload_n 0, 1) := by decide +kernel
theorem dX4_drop_11 : decode cX4_drop 11 = .ok (.getfield 11, 3) := by decide +kernel
theorem dX4_drop_14 : decode cX4_drop 14 = .ok (.iload_n 1, 1) := by decide +kernel
theorem dX4_drop_15 : decode cX4_drop 15 = .ok (.aload_n 0, 1) := by decide +kernel
theorem dX4_drop_16 : decode cX4_drop 16 = .ok (.getfield 11, 3) := by decide +kernel
theorem dX4_drop_19 : decode cX4_drop 19 = .ok (.iconst 0, 1) := by decide +kernel
theorem dX4_drop_20 : decode cX4_drop 20 = .ok (.aload_n 0, 1) := by decide +kernel
theorem dX4_drop_21 : decode cX4_drop 21 = .ok (.getfield 15, 3) := by decide +kernel
theorem dX4_drop_24 : decode cX4_drop 24 = .ok (.invokestatic 67, 3) := by decide +kernel
theorem dX4_drop_27 : decode cX4_drop 27 = .ok (.return_, 1) := by decide +kernel
theorem dX5_init_0 : decode cX5_init 0 = .ok (.aload_n 0, 1) := by decide +kernel
theorem dX5_init_1 : decode cX5_init 1 = .ok (.invokespecial 3, 3) := by decide +kernel
theorem dX5_init_4 : decode cX5_init 4 = .ok (.aload_n 0, 1) := by decide +kernel
theorem dX5_init_5 : decode cX5_init 5 = .ok (.iconst 0, 1) := by decide +kernel
theorem dX5_init_6 : decode cX5_init 6 = .ok (.putfield 9, 3) := by decide +kernel
theorem dX5_init_9 : decode cX5_init 9 = .ok (.aload_n 0, 1) := by decide +kernel
theorem dX5_init_10 : decode cX5_init 10 = .ok (.iconst 0, 1) := by decide +kernel
theorem dX5_init_11 : decode cX5_init 11 = .ok (.putfield 15, 3) := by decide +kernel
theorem dX5_init_14 : decode cX5_init 14 = .ok (.aload_n 0, 1) := by decide +kernel
theorem dX5_init_15 : decode cX5_init 15 = .ok (.iconst 0, 1) := by decide +kernel
theorem dX5_init_16 : decode cX5_init 16 = .ok (.putfield 19, 3) := by decide +kernel
theorem dX5_init_19 : decode cX5_init 19 = .ok (.return_, 1) := by decide +kernel
theorem dX5_takesData_0 : decode cX5_takesData 0 = .ok (.aload_n 0, 1) := by decide +kernel
theorem dX5_takesData_1 : decode cX5_takesData 1 = .ok (.getfield 19, 3) := by decide +kernel
theorem dX5_takesData_4 : decode cX5_takesData 4 = .ok (.ireturn, 1) := by decide +kernel
theorem dX5_replyTo_0 : decode cX5_replyTo 0 = .ok (.aload_n 0, 1) := by decide +kernel
theorem dX5_replyTo_1 : decode cX5_replyTo 1 = .ok (.iconst 0, 1) := by decide +kernel
theorem dX5_replyTo_2 : decode cX5_replyTo 2 = .ok (.putfield 19, 3) := by decide +kernel
theorem dX5_replyTo_5 : decode cX5_replyTo 5 = .ok (.iload_n 1, 1) := by decide +kernel
theorem dX5_replyTo_6 : decode cX5_replyTo 6 = .ok (.bipush 15, 2) := by decide +kernel
theorem dX5_replyTo_8 : decode cX5_replyTo 8 = .ok (.iand, 1) := by decide +kernel
theorem dX5_replyTo_9 : decode cX5_replyTo 9 = .ok (.tableswitch 91 0 9 #[55, 91, 67, 74, 81, 91, 91, 91, 91, 88], 55) := by decide +kernel
theorem dX5_replyTo_64 : decode cX5_replyTo 64 = .ok (.aload_n 0, 1) := by decide +kernel
theorem dX5_replyTo_65 : decode cX5_replyTo 65 = .ok (.iconst 1, 1) := by decide +kernel
theorem dX5_replyTo_66 : decode cX5_replyTo 66 = .ok (.putfield 9, 3) := by decide +kernel
theorem dX5_replyTo_69 : decode cX5_replyTo 69 = .ok (.aload_n 0, 1) := by decide +kernel
theorem dX5_replyTo_70 : decode cX5_replyTo 70 = .ok (.iconst 1, 1) := by decide +kernel
theorem dX5_replyTo_71 : decode cX5_replyTo 71 = .ok (.putfield 15, 3) := by decide +kernel
theorem dX5_replyTo_74 : decode cX5_replyTo 74 = .ok (.iconst 0, 1) := by decide +kernel
theorem dX5_replyTo_75 : decode cX5_replyTo 75 = .ok (.ireturn, 1) := by decide +kernel
theorem dX5_replyTo_76 : decode cX5_replyTo 76 = .ok (.aload_n 0, 1) := by decide +kernel
theorem dX5_replyTo_77 : decode cX5_replyTo 77 = .ok (.iload_n 1, 1) := by decide +kernel
theorem dX5_replyTo_78 : decode cX5_replyTo 78 = .ok (.iconst 0, 1) := by decide +kernel
theorem dX5_replyTo_79 : decode cX5_replyTo 79 = .ok (.invokevirtual 22, 3) := by decide +kernel
theorem dX5_replyTo_82 : decode cX5_replyTo 82 = .ok (.ireturn, 1) := by decide +kernel
theorem dX5_replyTo_83 : decode cX5_replyTo 83 = .ok (.aload_n 0, 1) := by decide +kernel
theorem dX5_replyTo_84 : decode cX5_replyTo 84 = .ok (.iload_n 1, 1) := by decide +kernel
theorem dX5_replyTo_85 : decode cX5_replyTo 85 = .ok (.iconst 1, 1) := by decide +kernel
theorem dX5_replyTo_86 : decode cX5_replyTo 86 = .ok (.invokevirtual 22, 3) := by decide +kernel
theorem dX5_replyTo_89 : decode cX5_replyTo 89 = .ok (.ireturn, 1) := by decide +kernel
theorem dX5_replyTo_90 : decode cX5_replyTo 90 = .ok (.aload_n 0, 1) := by decide +kernel
theorem dX5_replyTo_91 : decode cX5_replyTo 91 = .ok (.iconst 1, 1) := by decide +kernel
theorem dX5_replyTo_92 : decode cX5_replyTo 92 = .ok (.putfield 19, 3) := by decide +kernel
theorem dX5_replyTo_95 : decode cX5_replyTo 95 = .ok (.iconst (-1), 1) := by decide +kernel
theorem dX5_replyTo_96 : decode cX5_replyTo 96 = .ok (.ireturn, 1) := by decide +kernel
theorem dX5_replyTo_97 : decode cX5_replyTo 97 = .ok (.bipush 11, 2) := by decide +kernel
theorem dX5_replyTo_99 : decode cX5_replyTo 99 = .ok (.ireturn, 1) := by decide +kernel
theorem dX5_replyTo_100 : decode cX5_replyTo 100 = .ok (.bipush 15, 2) := by decide +kernel
theorem dX5_replyTo_102 : decode cX5_replyTo 102 = .ok (.ireturn, 1) := by decide +kernel
theorem dX5_replyToCounted_0 : decode cX5_replyToCounted 0 = .ok (.aload_n 0, 1) := by decide +kernel
theorem dX5_replyToCounted_1 : decode cX5_replyToCounted 1 = .ok (.getfield 9, 3) := by decide +kernel
theorem dX5_replyToCounted_4 : decode cX5_replyToCounted 4 = .ok (.ifCond .ne 5, 3) := by decide +kernel
theorem dX5_replyToCounted_7 : decode cX5_replyToCounted 7 = .ok (.iconst 1, 1) := by decide +kernel
theorem dX5_replyToCounted_8 : decode cX5_replyToCounted 8 = .ok (.ireturn, 1) := by decide +kernel
theorem dX5_replyToCounted_9 : decode cX5_replyToCounted 9 = .ok (.iload_n 1, 1) := by decide +kernel
theorem dX5_replyToCounted_10 : decode cX5_replyToCounted 10 = .ok (.iconst 5, 1) := by decide +kernel
theorem dX5_replyToCounted_11 : decode cX5_replyToCounted 11 = .ok (.ishr, 1) := by decide +kernel
theorem dX5_replyToCounted_12 : decode cX5_replyToCounted 12 = .ok (.iconst 1, 1) := by decide +kernel
theorem dX5_replyToCounted_13 : decode cX5_replyToCounted 13 = .ok (.iand, 1) := by decide +kernel
theorem dX5_replyToCounted_14 : decode cX5_replyToCounted 14 = .ok (.aload_n 0, 1) := by decide +kernel
theorem dX5_replyToCounted_15 : decode cX5_replyToCounted 15 = .ok (.getfield 15, 3) := by decide +kernel
theorem dX5_replyToCounted_18 : decode cX5_replyToCounted 18 = .ok (.if_icmp .ne 18, 3) := by decide +kernel
theorem dX5_replyToCounted_21 : decode cX5_replyToCounted 21 = .ok (.aload_n 0, 1) := by decide +kernel
theorem dX5_replyToCounted_22 : decode cX5_replyToCounted 22 = .ok (.iconst 1, 1) := by decide +kernel
theorem dX5_replyToCounted_23 : decode cX5_replyToCounted 23 = .ok (.aload_n 0, 1) := by decide +kernel
theorem dX5_replyToCounted_24 : decode cX5_replyToCounted 24 = .ok (.getfield 15, 3) := by decide +kernel
theorem dX5_replyToCounted_27 : decode cX5_replyToCounted 27 = .ok (.isub, 1) := by decide +kernel
theorem dX5_replyToCounted_28 : decode cX5_replyToCounted 28 = .ok (.putfield 15, 3) := by decide +kernel
theorem dX5_replyToCounted_31 : decode cX5_replyToCounted 31 = .ok (.aload_n 0, 1) := by decide +kernel
theorem dX5_replyToCounted_32 : decode cX5_replyToCounted 32 = .ok (.iload_n 2, 1) := by decide +kernel
theorem dX5_replyToCounted_33 : decode cX5_replyToCounted 33 = .ok (.putfield 19, 3) := by decide +kernel
theorem dX5_replyToCounted_36 : decode cX5_replyToCounted 36 = .ok (.iconst 0, 1) := by decide +kernel
theorem dX5_replyToCounted_37 : decode cX5_replyToCounted 37 = .ok (.ireturn, 1) := by decide +kernel
theorem dX6_init_0 : decode cX6_init 0 = .ok (.aload_n 0, 1) := by decide +kernel
theorem dX6_init_1 : decode cX6_init 1 = .ok (.invokespecial 3, 3) := by decide +kernel
theorem dX6_init_4 : decode cX6_init 4 = .ok (.aload_n 0, 1) := by decide +kernel
theorem dX6_init_5 : decode cX6_init 5 = .ok (.sipush 4000, 3) := by decide +kernel
theorem dX6_init_8 : decode cX6_init 8 = .ok (.newarray .int, 2) := by decide +kernel
theorem dX6_init_10 : decode cX6_init 10 = .ok (.putfield 11, 3) := by decide +kernel
theorem dX6_init_13 : decode cX6_init 13 = .ok (.aload_n 0, 1) := by decide +kernel
theorem dX6_init_14 : decode cX6_init 14 = .ok (.iconst 0, 1) := by decide +kernel
theorem dX6_init_15 : decode cX6_init 15 = .ok (.putfield 15, 3) := by decide +kernel
theorem dX6_init_18 : decode cX6_init 18 = .ok (.aload_n 0, 1) := by decide +kernel
theorem dX6_init_19 : decode cX6_init 19 = .ok (.iconst 0, 1) := by decide +kernel
theorem dX6_init_20 : decode cX6_init 20 = .ok (.putfield 19, 3) := by decide +kernel
theorem dX6_init_23 : decode cX6_init 23 = .ok (.aload_n 0, 1) := by decide +kernel
theorem dX6_init_24 : decode cX6_init 24 = .ok (.iload_n 1, 1) := by decide +kernel
theorem dX6_init_25 : decode cX6_init 25 = .ok (.putfield 22, 3) := by decide +kernel
theorem dX6_init_28 : decode cX6_init 28 = .ok (.aload_n 0, 1) := by decide +kernel
theorem dX6_init_29 : decode cX6_init 29 = .ok (.iload_n 2, 1) := by decide +kernel
theorem dX6_init_30 : decode cX6_init 30 = .ok (.putfield 25, 3) := by decide +kernel
theorem dX6_init_33 : decode cX6_init 33 = .ok (.return_, 1) := by decide +kernel
theorem dX6_size_0 : decode cX6_size 0 = .ok (.aload_n 0, 1) := by decide +kernel
theorem dX6_size_1 : decode cX6_size 1 = .ok (.getfield 15, 3) := by decide +kernel
theorem dX6_size_4 : decode cX6_size 4 = .ok (.ireturn, 1) := by decide +kernel
theorem dX6_byteAt_0 : decode cX6_byteAt 0 = .ok (.aload_n 0, 1) := by decide +kernel
theorem dX6_byteAt_1 : decode cX6_byteAt 1 = .ok (.getfield 11, 3) := by decide +kernel
theorem dX6_byteAt_4 : decode cX6_byteAt 4 = .ok (.iload_n 1, 1) := by decide +kernel
theorem dX6_byteAt_5 : decode cX6_byteAt 5 = .ok (.iaload, 1) := by decide +kernel
theorem dX6_byteAt_6 : decode cX6_byteAt 6 = .ok (.ireturn, 1) := by decide +kernel
theorem dX6_empty_0 : decode cX6_empty 0 = .ok (.aload_n 0, 1) := by decide +kernel
theorem dX6_empty_1 : decode cX6_empty 1 = .ok (.iconst 0, 1) := by decide +kernel
theorem dX6_empty_2 : decode cX6_empty 2 = .ok (.putfield 15, 3) := by decide +kernel
theorem dX6_empty_5 : decode cX6_empty 5 = .ok (.return_, 1) := by decide +kernel
theorem dX6_sendReply_0 : decode cX6_sendReply 0 = .ok (.aload_n 0, 1) := by decide +kernel
theorem dX6_sendReply_1 : decode cX6_sendReply 1 = .ok (.iconst 0, 1) := by decide +kernel
theorem dX6_sendReply_2 : decode cX6_sendReply 2 = .ok (.invokevirtual 28, 3) := by decide +kernel
theorem dX6_sendReply_5 : decode cX6_sendReply 5 = .ok (.ifCond .eq 9, 3) := by decide +kernel
theorem dX6_sendReply_8 : decode cX6_sendReply 8 = .ok (.aload_n 0, 1) := by decide +kernel
theorem dX6_sendReply_9 : decode cX6_sendReply 9 = .ok (.iload_n 1, 1) := by decide +kernel
theorem dX6_sendReply_10 : decode cX6_sendReply 10 = .ok (.iconst 0, 1) := by decide +kernel
theorem dX6_sendReply_11 : decode cX6_sendReply 11 = .ok (.invokevirtual 32, 3) := by decide +kernel
theorem dX6_sendReply_14 : decode cX6_sendReply 14 = .ok (.return_, 1) := by decide +kernel
theorem dX6_sendAnswer_0 : decode cX6_sendAnswer 0 = .ok (.aload_n 0, 1) := by decide +kernel
theorem dX6_sendAnswer_1 : decode cX6_sendAnswer 1 = .ok (.aload_n 1, 1) := by decide +kernel
theorem dX6_sendAnswer_2 : decode cX6_sendAnswer 2 = .ok (.invokevirtual 36, 3) := by decide +kernel
theorem dX6_sendAnswer_5 : decode cX6_sendAnswer 5 = .ok (.invokevirtual 28, 3) := by decide +kernel
theorem dX6_sendAnswer_8 : decode cX6_sendAnswer 8 = .ok (.ifCond .ne 4, 3) := by decide +kernel
theorem dX6_sendAnswer_11 : decode cX6_sendAnswer 11 = .ok (.return_, 1) := by decide +kernel
theorem dX6_sendAnswer_12 : decode cX6_sendAnswer 12 = .ok (.aload_n 1, 1) := by decide +kernel
theorem dX6_sendAnswer_13 : decode cX6_sendAnswer 13 = .ok (.aload_n 0, 1) := by decide +kernel
theorem dX6_sendAnswer_14 : decode cX6_sendAnswer 14 = .ok (.getfield 19, 3) := by decide +kernel
theorem dX6_sendAnswer_17 : decode cX6_sendAnswer 17 = .ok (.invokevirtual 42, 3) := by decide +kernel
theorem dX6_sendAnswer_20 : decode cX6_sendAnswer 20 = .ok (.aload_n 0, 1) := by decide +kernel
theorem dX6_sendAnswer_21 : decode cX6_sendAnswer 21 = .ok (.aload_n 0, 1) := by decide +kernel
theorem dX6_sendAnswer_22 : decode cX6_sendAnswer 22 = .ok (.getfield 19, 3) := by decide +kernel
theorem dX6_sendAnswer_25 : decode cX6_sendAnswer 25 = .ok (.iconst 1, 1) := by decide +kernel
theorem dX6_sendAnswer_26 : decode cX6_sendAnswer 26 = .ok (.iadd, 1) := by decide +kernel
theorem dX6_sendAnswer_27 : decode cX6_sendAnswer 27 = .ok (.bipush 63, 2) := by decide +kernel
theorem dX6_sendAnswer_29 : decode cX6_sendAnswer 29 = .ok (.iand, 1) := by decide +kernel
theorem dX6_sendAnswer_30 : decode cX6_sendAnswer 30 = .ok (.putfield 19, 3) := by decide +kernel
theorem dX6_sendAnswer_33 : decode cX6_sendAnswer 33 = .ok (.aload_n 0, 1) := by decide +kernel
theorem dX6_sendAnswer_34 : decode cX6_sendAnswer 34 = .ok (.bipush 68, 2) := by decide +kernel
theorem dX6_sendAnswer_36 : decode cX6_sendAnswer 36 = .ok (.aload_n 1, 1) := by decide +kernel
theorem dX6_sendAnswer_37 : decode cX6_sendAnswer 37 = .ok (.invokevirtual 36, 3) := by decide +kernel
theorem dX6_sendAnswer_40 : decode cX6_sendAnswer 40 = .ok (.invokevirtual 32, 3) := by decide +kernel
theorem dX6_sendAnswer_43 : decode cX6_sendAnswer 43 = .ok (.iconst 0, 1) := by decide +kernel
theorem dX6_sendAnswer_44 : decode cX6_sendAnswer 44 = .ok (.istore_n 2, 1) := by decide +kernel
theorem dX6_sendAnswer_45 : decode cX6_sendAnswer 45 = .ok (.iload_n 2, 1) := by decide +kernel
theorem dX6_sendAnswer_46 : decode cX6_sendAnswer 46 = .ok (.aload_n 1, 1) := by decide +kernel
theorem dX6_sendAnswer_47 : decode cX6_sendAnswer 47 = .ok (.invokevirtual 36, 3) := by decide +kernel
theorem dX6_sendAnswer_50 : decode cX6_sendAnswer 50 = .ok (.if_icmp .ge 29, 3) := by decide +kernel
theorem dX6_sendAnswer_53 : decode cX6_sendAnswer 53 = .ok (.aload_n 0, 1) := by decide +kernel
theorem dX6_sendAnswer_54 : decode cX6_sendAnswer 54 = .ok (.aload_n 1, 1) := by decide +kernel
theorem dX6_sendAnswer_55 : decode cX6_sendAnswer 55 = .ok (.invokevirtual 46, 3) := by decide +kernel
theorem dX6_sendAnswer_58 : decode cX6_sendAnswer 58 = .ok (.iload_n 2, 1) := by decide +kernel
theorem dX6_sendAnswer_59 : decode cX6_sendAnswer 59 = .ok (.bipush 16, 2) := by decide +kernel
theorem dX6_sendAnswer_61 : decode cX6_sendAnswer 61 = .ok (.aload_n 1, 1) := by decide +kernel
theorem dX6_sendAnswer_62 : decode cX6_sendAnswer 62 = .ok (.invokevirtual 36, 3) := by decide +kernel
theorem dX6_sendAnswer_65 : decode cX6_sendAnswer 65 = .ok (.iload_n 2, 1) := by decide +kernel
theorem dX6_sendAnswer_66 : decode cX6_sendAnswer 66 = .ok (.isub, 1) := by decide +kernel
theorem dX6_sendAnswer_67 : decode cX6_sendAnswer 67 = .ok (.invokestatic 50, 3) := by decide +kernel
theorem dX6_sendAnswer_70 : decode cX6_sendAnswer 70 = .ok (.invokevirtual 56, 3) := by decide +kernel
theorem dX6_sendAnswer_73 : decode cX6_sendAnswer 73 = .ok (.iinc 2 16, 3) := by decide +kernel
theorem dX6_sendAnswer_76 : decode cX6_sendAnswer 76 = .ok (.goto (-31), 3) := by decide +kernel
theorem dX6_sendAnswer_79 : decode cX6_sendAnswer 79 = .ok (.return_, 1) := by decide +kernel
theorem dX6_hasRoomFor_0 : decode cX6_hasRoomFor 0 = .ok (.aload_n 0, 1) := by decide +kernel
theorem dX6_hasRoomFor_1 : decode cX6_hasRoomFor 1 = .ok (.getfield 15, 3) := by decide +kernel
theorem dX6_hasRoomFor_4 : decode cX6_hasRoomFor 4 = .ok (.iload_n 1, 1) := by decide +kernel
theorem dX6_hasRoomFor_5 : decode cX6_hasRoomFor 5 = .ok (.invokestatic 60, 3) := by decide +kernel
theorem dX6_hasRoomFor_8 : decode cX6_hasRoomFor 8 = .ok (.iadd, 1) := by decide +kernel
theorem dX6_hasRoomFor_9 : decode cX6_hasRoomFor 9 = .ok (.sipush 4000, 3) := by decide +kernel
theorem dX6_hasRoomFor_12 : decode cX6_hasRoomFor 12 = .ok (.if_icmp .gt 7, 3) := by decide +kernel
theorem dX6_hasRoomFor_15 : decode cX6_hasRoomFor 15 = .ok (.iconst 1, 1) := by decide +kernel
theorem dX6_hasRoomFor_16 : decode cX6_hasRoomFor 16 = .ok (.goto 4, 3) := by decide +kernel
theorem dX6_hasRoomFor_19 : decode cX6_hasRoomFor 19 = .ok (.iconst 0, 1) := by decide +kernel
theorem dX6_hasRoomFor_20 : decode cX6_hasRoomFor 20 = .ok (.ireturn, 1) := by decide +kernel
theorem dX6_putHead_0 : decode cX6_putHead 0 = .ok (.aload_n 0, 1) := by decide +kernel
theorem dX6_putHead_1 : decode cX6_putHead 1 = .ok (.getfield 15, 3) := by decide +kernel
theorem dX6_putHead_4 : decode cX6_putHead 4 = .ok (.istore_n 3, 1) := by decide +kernel
theorem dX6_putHead_5 : decode cX6_putHead 5 = .ok (.aload_n 0, 1) := by decide +kernel
theorem dX6_putHead_6 : decode cX6_putHead 6 = .ok (.iconst 5, 1) := by decide +kernel
theorem dX6_putHead_7 : decode cX6_putHead 7 = .ok (.invokevirtual 64, 3) := by decide +kernel
theorem dX6_putHead_10 : decode cX6_putHead 10 = .ok (.aload_n 0, 1) := by decide +kernel
theorem dX6_putHead_11 : decode cX6_putHead 11 = .ok (.bipush 100, 2) := by decide +kernel
theorem dX6_putHead_13 : decode cX6_putHead 13 = .ok (.invokevirtual 64, 3) := by decide +kernel
theorem dX6_putHead_16 : decode cX6_putHead 16 = .ok (.aload_n 0, 1) := by decide +kernel
theorem dX6_putHead_17 : decode cX6_putHead 17 = .ok (.iconst 5, 1) := by decide +kernel
theorem dX6_putHead_18 : decode cX6_putHead 18 = .ok (.iload_n 2, 1) := by decide +kernel
theorem dX6_putHead_19 : decode cX6_putHead 19 = .ok (.iadd, 1) := by decide +kernel
theorem dX6_putHead_20 : decode cX6_putHead 20 = .ok (.invokevirtual 64, 3) := by decide +kernel
theorem dX6_putHead_23 : decode cX6_putHead 23 = .ok (.aload_n 0, 1) := by decide +kernel
theorem dX6_putHead_24 : decode cX6_putHead 24 = .ok (.iload_n 1, 1) := by decide +kernel
theorem dX6_putHead_25 : decode cX6_putHead 25 = .ok (.invokevirtual 64, 3) := by decide +kernel
theorem dX6_putHead_28 : decode cX6_putHead 28 = .ok (.aload_n 0, 1) := by decide +kernel
theorem dX6_putHead_29 : decode cX6_putHead 29 = .ok (.aload_n 0, 1) := by decide +kernel
theorem dX6_putHead_30 : decode cX6_putHead 30 = .ok (.getfield 25, 3) := by decide +kernel
theorem dX6_putHead_33 : decode cX6_putHead 33 = .ok (.invokevirtual 67, 3) := by decide +kernel
theorem dX6_putHead_36 : decode cX6_putHead 36 = .ok (.aload_n 0, 1) := by decide +kernel
theorem dX6_putHead_37 : decode cX6_putHead 37 = .ok (.aload_n 0, 1) := by decide +kernel
theorem dX6_putHead_38 : decode cX6_putHead 38 = .ok (.getfield 22, 3) := by decide +kernel
theorem dX6_putHead_41 : decode cX6_putHead 41 = .ok (.invokevirtual 67, 3) := by decide +kernel
theorem dX6_putHead_44 : decode cX6_putHead 44 = .ok (.aload_n 0, 1) := by decide +kernel
theorem dX6_putHead_45 : decode cX6_putHead 45 = .ok (.aload_n 0, 1) := by decide +kernel
theorem dX6_putHead_46 : decode cX6_putHead 46 = .ok (.getfield 11, 3) := by decide +kernel
theorem dX6_putHead_49 : decode cX6_putHead 49 = .ok (.iload_n 3, 1) := by decide +kernel
theorem dX6_putHead_50 : decode cX6_putHead 50 = .ok (.aload_n 0, 1) := by decide +kernel
theorem dX6_putHead_51 : decode cX6_putHead 51 = .ok (.getfield 15, 3) := by decide +kernel
theorem dX6_putHead_54 : decode cX6_putHead 54 = .ok (.invokestatic 70, 3) := by decide +kernel
theorem dX6_putHead_57 : decode cX6_putHead 57 = .ok (.invokevirtual 67, 3) := by decide +kernel
theorem dX6_putHead_60 : decode cX6_putHead 60 = .ok (.return_, 1) := by decide +kernel
theorem dX6_putBlock_0 : decode cX6_putBlock 0 = .ok (.aload_n 1, 1) := by decide +kernel
theorem dX6_putBlock_1 : decode cX6_putBlock 1 = .ok (.iload_n 2, 1) := by decide +kernel
theorem dX6_putBlock_2 : decode cX6_putBlock 2 = .ok (.aload_n 0, 1) := by decide +kernel
theorem dX6_putBlock_3 : decode cX6_putBlock 3 = .ok (.getfield 11, 3) := by decide +kernel
theorem dX6_putBlock_6 : decode cX6_putBlock 6 = .ok (.aload_n 0, 1) := by decide +kernel
theorem dX6_putBlock_7 : decode cX6_putBlock 7 = .ok (.getfield 15, 3) := by decide +kernel
theorem dX6_putBlock_10 : decode cX6_putBlock 10 = .ok (.iload_n 3, 1) := by decide +kernel
theorem dX6_putBlock_11 : decode cX6_putBlock 11 = .ok (.invokestatic 74, 3) := by decide +kernel
theorem dX6_putBlock_14 : decode cX6_putBlock 14 = .ok (.aload_n 0, 1) := by decide +kernel
theorem dX6_putBlock_15 : decode cX6_putBlock 15 = .ok (.dup, 1) := by decide +kernel
theorem dX6_putBlock_16 : decode cX6_putBlock 16 = .ok (.getfield 15, 3) := by decide +kernel
theorem dX6_putBlock_19 : decode cX6_putBlock 19 = .ok (.iload_n 3, 1) := by decide +kernel
theorem dX6_putBlock_20 : decode cX6_putBlock 20 = .ok (.iadd, 1) := by decide +kernel
theorem dX6_putBlock_21 : decode cX6_putBlock 21 = .ok (.putfield 15, 3) := by decide +kernel
theorem dX6_putBlock_24 : decode cX6_putBlock 24 = .ok (.aload_n 0, 1) := by decide +kernel
theorem dX6_putBlock_25 : decode cX6_putBlock 25 = .ok (.aload_n 0, 1) := by decide +kernel
theorem dX6_putBlock_26 : decode cX6_putBlock 26 = .ok (.getfield 11, 3) := by decide +kernel
theorem dX6_putBlock_29 : decode cX6_putBlock 29 = .ok (.aload_n 0, 1) := by decide +kernel
theorem dX6_putBlock_30 : decode cX6_putBlock 30 = .ok (.getfield 15, 3) := by decide +kernel
theorem dX6_putBlock_33 : decode cX6_putBlock 33 = .ok (.iload_n 3, 1) := by decide +kernel
theorem dX6_putBlock_34 : decode cX6_putBlock 34 = .ok (.isub, 1) := by decide +kernel
theorem dX6_putBlock_35 : decode cX6_putBlock 35 = .ok (.aload_n 0, 1) := by decide +kernel
theorem dX6_putBlock_36 : decode cX6_putBlock 36 = .ok (.getfield 15, 3) := by decide +kernel
theorem dX6_putBlock_39 : decode cX6_putBlock 39 = .ok (.invokestatic 70, 3) := by decide +kernel
theorem dX6_putBlock_42 : decode cX6_putBlock 42 = .ok (.invokevirtual 67, 3) := by decide +kernel
theorem dX6_putBlock_45 : decode cX6_putBlock 45 = .ok (.return_, 1) := by decide +kernel
theorem dX6_putTwo_0 : decode cX6_putTwo 0 = .ok (.aload_n 0, 1) := by decide +kernel
theorem dX6_putTwo_1 : decode cX6_putTwo 1 = .ok (.iload_n 1, 1) := by decide +kernel
theorem dX6_putTwo_2 : decode cX6_putTwo 2 = .ok (.sipush 255, 3) := by decide +kernel
theorem dX6_putTwo_5 : decode cX6_putTwo 5 = .ok (.iand, 1) := by decide +kernel
theorem dX6_putTwo_6 : decode cX6_putTwo 6 = .ok (.invokevirtual 64, 3) := by decide +kernel
theorem dX6_putTwo_9 : decode cX6_putTwo 9 = .ok (.aload_n 0, 1) := by decide +kernel
theorem dX6_putTwo_10 : decode cX6_putTwo 10 = .ok (.iload_n 1, 1) := by decide +kernel
theorem dX6_putTwo_11 : decode cX6_putTwo 11 = .ok (.bipush 8, 2) := by decide +kernel
theorem dX6_putTwo_13 : decode cX6_putTwo 13 = .ok (.ishr, 1) := by decide +kernel
theorem dX6_putTwo_14 : decode cX6_putTwo 14 = .ok (.invokevirtual 64, 3) := by decide +kernel
theorem dX6_putTwo_17 : decode cX6_putTwo 17 = .ok (.return_, 1) := by decide +kernel
theorem dX6_put_0 : decode cX6_put 0 = .ok (.aload_n 0, 1) := by decide +kernel
theorem dX6_put_1 : decode cX6_put 1 = .ok (.getfield 11, 3) := by decide +kernel
theorem dX6_put_4 : decode cX6_put 4 = .ok (.aload_n 0, 1) := by decide +kernel
theorem dX6_put_5 : decode cX6_put 5 = .ok (.getfield 15, 3) := by decide +kernel
theorem dX6_put_8 : decode cX6_put 8 = .ok (.iload_n 1, 1) := by decide +kernel
theorem dX6_put_9 : decode cX6_put 9 = .ok (.iastore, 1) := by decide +kernel
theorem dX6_put_10 : decode cX6_put 10 = .ok (.aload_n 0, 1) := by decide +kernel
theorem dX6_put_11 : decode cX6_put 11 = .ok (.dup, 1) := by decide +kernel
theorem dX6_put_12 : decode cX6_put 12 = .ok (.getfield 15, 3) := by decide +kernel
theorem dX6_put_15 : decode cX6_put 15 = .ok (.iconst 1, 1) := by decide +kernel
theorem dX6_put_16 : decode cX6_put 16 = .ok (.iadd, 1) := by decide +kernel
theorem dX6_put_17 : decode cX6_put 17 = .ok (.putfield 15, 3) := by decide +kernel
theorem dX6_put_20 : decode cX6_put 20 = .ok (.return_, 1) := by decide +kernel
theorem dX7_init_0 : decode cX7_init 0 = .ok (.aload_n 0, 1) := by decide +kernel
theorem dX7_init_1 : decode cX7_init 1 = .ok (.invokespecial 3, 3) := by decide +kernel
theorem dX7_init_4 : decode cX7_init 4 = .ok (.aload_n 0, 1) := by decide +kernel
theorem dX7_init_5 : decode cX7_init 5 = .ok (.bipush 16, 2) := by decide +kernel
theorem dX7_init_7 : decode cX7_init 7 = .ok (.newarray .boolean, 2) := by decide +kernel
theorem dX7_init_9 : decode cX7_init 9 = .ok (.putfield 9, 3) := by decide +kernel
theorem dX7_init_12 : decode cX7_init 12 = .ok (.aload_n 0, 1) := by decide +kernel
theorem dX7_init_13 : decode cX7_init 13 = .ok (.bipush 16, 2) := by decide +kernel
theorem dX7_init_15 : decode cX7_init 15 = .ok (.newarray .int, 2) := by decide +kernel
theorem dX7_init_17 : decode cX7_init 17 = .ok (.putfield 15, 3) := by decide +kernel
theorem dX7_init_20 : decode cX7_init 20 = .ok (.aload_n 0, 1) := by decide +kernel
theorem dX7_init_21 : decode cX7_init 21 = .ok (.bipush 16, 2) := by decide +kernel
theorem dX7_init_23 : decode cX7_init 23 = .ok (.newarray .int, 2) := by decide +kernel
theorem dX7_init_25 : decode cX7_init 25 = .ok (.putfield 19, 3) := by decide +kernel
theorem dX7_init_28 : decode cX7_init 28 = .ok (.aload_n 0, 1) := by decide +kernel
theorem dX7_init_29 : decode cX7_init 29 = .ok (.bipush 16, 2) := by decide +kernel
theorem dX7_init_31 : decode cX7_init 31 = .ok (.newarray .int, 2) := by decide +kernel
theorem dX7_init_33 : decode cX7_init 33 = .ok (.putfield 22, 3) := by decide +kernel
theorem dX7_init_36 : decode cX7_init 36 = .ok (.aload_n 0, 1) := by decide +kernel
theorem dX7_init_37 : decode cX7_init 37 = .ok (.bipush 16, 2) := by decide +kernel
theorem dX7_init_39 : decode cX7_init 39 = .ok (.newarray .int, 2) := by decide +kernel
theorem dX7_init_41 : decode cX7_init 41 = .ok (.putfield 25, 3) := by decide +kernel
theorem dX7_init_44 : decode cX7_init 44 = .ok (.aload_n 0, 1) := by decide +kernel
theorem dX7_init_45 : decode cX7_init 45 = .ok (.bipush 16, 2) := by decide +kernel
theorem dX7_init_47 : decode cX7_init 47 = .ok (.newarray .int, 2) := by decide +kernel
theorem dX7_init_49 : decode cX7_init 49 = .ok (.putfield 28, 3) := by decide +kernel
theorem dX7_init_52 : decode cX7_init 52 = .ok (.return_, 1) := by decide +kernel
theorem dX7_isOn_0 : decode cX7_isOn 0 = .ok (.aload_n 0, 1) := by decide +kernel
theorem dX7_isOn_1 : decode cX7_isOn 1 = .ok (.getfield 9, 3) := by decide +kernel
theorem dX7_isOn_4 : decode cX7_isOn 4 = .ok (.iload_n 1, 1) := by decide +kernel
theorem dX7_isOn_5 : decode cX7_isOn 5 = .ok (.baload, 1) := by decide +kernel
theorem dX7_isOn_6 : decode cX7_isOn 6 = .ok (.ireturn, 1) := by decide +kernel
theorem dX7_valueOf_0 : decode cX7_valueOf 0 = .ok (.aload_n 0, 1) := by decide +kernel
theorem dX7_valueOf_1 : decode cX7_valueOf 1 = .ok (.getfield 15, 3) := by decide +kernel
theorem dX7_valueOf_4 : decode cX7_valueOf 4 = .ok (.iload_n 1, 1) := by decide +kernel
theorem dX7_valueOf_5 : decode cX7_valueOf 5 = .ok (.iaload, 1) := by decide +kernel
theorem dX7_valueOf_6 : decode cX7_valueOf 6 = .ok (.ireturn, 1) := by decide +kernel
theorem dX7_classOf_0 : decode cX7_classOf 0 = .ok (.iload_n 1, 1) := by decide +kernel
theorem dX7_classOf_1 : decode cX7_classOf 1 = .ok (.ifCond .ne 12, 3) := by decide +kernel
theorem dX7_classOf_4 : decode cX7_classOf 4 = .ok (.aload_n 0, 1) := by decide +kernel
theorem dX7_classOf_5 : decode cX7_classOf 5 = .ok (.getfield 25, 3) := by decide +kernel
theorem dX7_classOf_8 : decode cX7_classOf 8 = .ok (.iload_n 2, 1) := by decide +kernel
theorem dX7_classOf_9 : decode cX7_classOf 9 = .ok (.iaload, 1) := by decide +kernel
theorem dX7_classOf_10 : decode cX7_classOf 10 = .ok (.goto 9, 3) := by decide +kernel
theorem dX7_classOf_13 : decode cX7_classOf 13 = .ok (.aload_n 0, 1) := by decide +kernel
theorem dX7_classOf_14 : decode cX7_classOf 14 = .ok (.getfield 28, 3) := by decide +kernel
theorem dX7_classOf_17 : decode cX7_classOf 17 = .ok (.iload_n 2, 1) := by decide +kernel
theorem dX7_classOf_18 : decode cX7_classOf 18 = .ok (.iaload, 1) := by decide +kernel
theorem dX7_classOf_19 : decode cX7_classOf 19 = .ok (.ireturn, 1) := by decide +kernel
theorem dX7_changeBinary_0 : decode cX7_changeBinary 0 = .ok (.aload_n 0, 1) := by decide +kernel
theorem dX7_changeBinary_1 : decode cX7_changeBinary 1 = .ok (.getfield 9, 3) := by decide +kernel
theorem dX7_changeBinary_4 : decode cX7_changeBinary 4 = .ok (.iload_n 1, 1) := by decide +kernel
theorem dX7_changeBinary_5 : decode cX7_changeBinary 5 = .ok (.baload, 1) := by decide +kernel
theorem dX7_changeBinary_6 : decode cX7_changeBinary 6 = .ok (.iload_n 2, 1) := by decide +kernel
theorem dX7_changeBinary_7 : decode cX7_changeBinary 7 = .ok (.if_icmp .eq 7, 3) := by decide +kernel
theorem dX7_changeBinary_10 : decode cX7_changeBinary 10 = .ok (.iconst 1, 1) := by decide +kernel
theorem dX7_changeBinary_11 : decode cX7_changeBinary 11 = .ok (.goto 4, 3) := by decide +kernel
theorem dX7_changeBinary_14 : decode cX7_changeBinary 14 = .ok (.iconst 0, 1) := by decide +kernel
theorem dX7_changeBinary_15 : decode cX7_changeBinary 15 = .ok (.istore_n 3, 1) := by decide +kernel
theorem dX7_changeBinary_16 : decode cX7_changeBinary 16 = .ok (.aload_n 0, 1) := by decide +kernel
theorem dX7_changeBinary_17 : decode cX7_changeBinary 17 = .ok (.getfield 9, 3) := by decide +kernel
theorem dX7_changeBinary_20 : decode cX7_changeBinary 20 = .ok (.iload_n 1, 1) := by decide +kernel
theorem dX7_changeBinary_21 : decode cX7_changeBinary 21 = .ok (.iload_n 2, 1) := by decide +kernel
theorem dX7_changeBinary_22 : decode cX7_changeBinary 22 = .ok (.bastore, 1) := by decide +kernel
theorem dX7_changeBinary_23 : decode cX7_changeBinary 23 = .ok (.iload_n 3, 1) := by decide +kernel
theorem dX7_changeBinary_24 : decode cX7_changeBinary 24 = .ok (.ireturn, 1) := by decide +kernel
theorem dX7_changeAnalog_0 : decode cX7_changeAnalog 0 = .ok (.aload_n 0, 1) := by decide +kernel
theorem dX7_changeAnalog_1 : decode cX7_changeAnalog 1 = .ok (.getfield 15, 3) := by decide +kernel
theorem dX7_changeAnalog_4 : decode cX7_changeAnalog 4 = .ok (.iload_n 1, 1) := by decide +kernel
theorem dX7_changeAnalog_5 : decode cX7_changeAnalog 5 = .ok (.iload_n 2, 1) := by decide +kernel
theorem dX7_changeAnalog_6 : decode cX7_changeAnalog 6 = .ok (.iastore, 1) := by decide +kernel
theorem dX7_changeAnalog_7 : decode cX7_changeAnalog 7 = .ok (.iload_n 2, 1) := by decide +kernel
theorem dX7_changeAnalog_8 : decode cX7_changeAnalog 8 = .ok (.aload_n 0, 1) := by decide +kernel
theorem dX7_changeAnalog_9 : decode cX7_changeAnalog 9 = .ok (.getfield 19, 3) := by decide +kernel
theorem dX7_changeAnalog_12 : decode cX7_changeAnalog 12 = .ok (.iload_n 1, 1) := by decide +kernel
theorem dX7_changeAnalog_13 : decode cX7_changeAnalog 13 = .ok (.iaload, 1) := by decide +kernel
theorem dX7_changeAnalog_14 : decode cX7_changeAnalog 14 = .ok (.isub, 1) := by decide +kernel
theorem dX7_changeAnalog_15 : decode cX7_changeAnalog 15 = .ok (.invokestatic 31, 3) := by decide +kernel
theorem dX7_changeAnalog_18 : decode cX7_changeAnalog 18 = .ok (.aload_n 0, 1) := by decide +kernel
theorem dX7_changeAnalog_19 : decode cX7_changeAnalog 19 = .ok (.getfield 22, 3) := by decide +kernel
theorem dX7_changeAnalog_22 : decode cX7_changeAnalog 22 = .ok (.iload_n 1, 1) := by decide +kernel
theorem dX7_changeAnalog_23 : decode cX7_changeAnalog 23 = .ok (.iaload, 1) := by decide +kernel
theorem dX7_changeAnalog_24 : decode cX7_changeAnalog 24 = .ok (.if_icmp .le 7, 3) := by decide +kernel
theorem dX7_changeAnalog_27 : decode cX7_changeAnalog 27 = .ok (.iconst 1, 1) := by decide +kernel
theorem dX7_changeAnalog_28 : decode cX7_changeAnalog 28 = .ok (.goto 4, 3) := by decide +kernel
theorem dX7_changeAnalog_31 : decode cX7_changeAnalog 31 = .ok (.iconst 0, 1) := by decide +kernel
theorem dX7_changeAnalog_32 : decode cX7_changeAnalog 32 = .ok (.istore_n 3, 1) := by decide +kernel
theorem dX7_changeAnalog_33 : decode cX7_changeAnalog 33 = .ok (.aload_n 0, 1) := by decide +kernel
theorem dX7_changeAnalog_34 : decode cX7_changeAnalog 34 = .ok (.getfield 28, 3) := by decide +kernel
theorem dX7_changeAnalog_37 : decode cX7_changeAnalog 37 = .ok (.iload_n 1, 1) := by decide +kernel
theorem dX7_changeAnalog_38 : decode cX7_changeAnalog 38 = .ok (.iaload, 1) := by decide +kernel
theorem dX7_changeAnalog_39 : decode cX7_changeAnalog 39 = .ok (.ifCond .eq 7, 3) := by decide +kernel
theorem dX7_changeAnalog_42 : decode cX7_changeAnalog 42 = .ok (.iload_n 3, 1) := by decide +kernel
theorem dX7_changeAnalog_43 : decode cX7_changeAnalog 43 = .ok (.ifCond .ne 5, 3) := by decide +kernel
theorem dX7_changeAnalog_46 : decode cX7_changeAnalog 46 = .ok (.iconst 0, 1) := by decide +kernel
theorem dX7_changeAnalog_47 : decode cX7_changeAnalog 47 = .ok (.ireturn, 1) := by decide +kernel
theorem dX7_changeAnalog_48 : decode cX7_changeAnalog 48 = .ok (.aload_n 0, 1) := by decide +kernel
theorem dX7_changeAnalog_49 : decode cX7_changeAnalog 49 = .ok (.getfield 19, 3) := by decide +kernel
theorem dX7_changeAnalog_52 : decode cX7_changeAnalog 52 = .ok (.iload_n 1, 1) := by decide +kernel
theorem dX7_changeAnalog_53 : decode cX7_changeAnalog 53 = .ok (.iload_n 2, 1) := by decide +kernel
theorem dX7_changeAnalog_54 : decode cX7_changeAnalog 54 = .ok (.iastore, 1) := by decide +kernel
theorem dX7_changeAnalog_55 : decode cX7_changeAnalog 55 = .ok (.iconst 1, 1) := by decide +kernel
theorem dX7_changeAnalog_56 : decode cX7_changeAnalog 56 = .ok (.ireturn, 1) := by decide +kernel
theorem dX7_changeClass_0 : decode cX7_changeClass 0 = .ok (.iload_n 1, 1) := by decide +kernel
theorem dX7_changeClass_1 : decode cX7_changeClass 1 = .ok (.ifCond .ne 10, 3) := by decide +kernel
theorem dX7_changeClass_4 : decode cX7_changeClass 4 = .ok (.aload_n 0, 1) := by decide +kernel
theorem dX7_changeClass_5 : decode cX7_changeClass 5 = .ok (.getfield 25, 3) := by decide +kernel
theorem dX7_changeClass_8 : decode cX7_changeClass 8 = .ok (.goto 7, 3) := by decide +kernel
theorem dX7_changeClass_11 : decode cX7_changeClass 11 = .ok (.aload_n 0, 1) := by decide +kernel
theorem dX7_changeClass_12 : decode cX7_changeClass 12 = .ok (.getfield 28, 3) := by decide +kernel
theorem dX7_changeClass_15 : decode cX7_changeClass 15 = .ok (.astore 4, 2) := by decide +kernel
theorem dX7_changeClass_17 : decode cX7_changeClass 17 = .ok (.aload 4, 2) := by decide +kernel
theorem dX7_changeClass_19 : decode cX7_changeClass 19 = .ok (.iload_n 2, 1) := by decide +kernel
theorem dX7_changeClass_20 : decode cX7_changeClass 20 = .ok (.iaload, 1) := by decide +kernel
theorem dX7_changeClass_21 : decode cX7_changeClass 21 = .ok (.iload_n 3, 1) := by decide +kernel
theorem dX7_changeClass_22 : decode cX7_changeClass 22 = .ok (.if_icmp .eq 7, 3) := by decide +kernel
theorem dX7_changeClass_25 : decode cX7_changeClass 25 = .ok (.iconst 1, 1) := by decide +kernel
theorem dX7_changeClass_26 : decode cX7_changeClass 26 = .ok (.goto 4, 3) := by decide +kernel
theorem dX7_changeClass_29 : decode cX7_changeClass 29 = .ok (.iconst 0, 1) := by decide +kernel
theorem dX7_changeClass_30 : decode cX7_changeClass 30 = .ok (.istore 5, 2) := by decide +kernel
theorem dX7_changeClass_32 : decode cX7_changeClass 32 = .ok (.aload 4, 2) := by decide +kernel
theorem dX7_changeClass_34 : decode cX7_changeClass 34 = .ok (.iload_n 2, 1) := by decide +kernel
theorem dX7_changeClass_35 : decode cX7_changeClass 35 = .ok (.iload_n 3, 1) := by decide +kernel
theorem dX7_changeClass_36 : decode cX7_changeClass 36 = .ok (.iastore, 1) := by decide +kernel
theorem dX7_changeClass_37 : decode cX7_changeClass 37 = .ok (.iload 5, 2) := by decide +kernel
theorem dX7_changeClass_39 : decode cX7_changeClass 39 = .ok (.ireturn, 1) := by decide +kernel
theorem dX7_changeBand_0 : decode cX7_changeBand 0 = .ok (.aload_n 0, 1) := by decide +kernel
theorem dX7_changeBand_1 : decode cX7_changeBand 1 = .ok (.getfield 22, 3) := by decide +kernel
theorem dX7_changeBand_4 : decode cX7_changeBand 4 = .ok (.iload_n 1, 1) := by decide +kernel
theorem dX7_changeBand_5 : decode cX7_changeBand 5 = .ok (.iload_n 2, 1) := by decide +kernel
theorem dX7_changeBand_6 : decode cX7_changeBand 6 = .ok (.iastore, 1) := by decide +kernel
theorem dX7_changeBand_7 : decode cX7_changeBand 7 = .ok (.return_, 1) := by decide +kernel
theorem dX8_init_0 : decode cX8_init 0 = .ok (.aload_n 0, 1) := by decide +kernel
theorem dX8_init_1 : decode cX8_init 1 = .ok (.invokespecial 3, 3) := by decide +kernel
theorem dX8_init_4 : decode cX8_init 4 = .ok (.aload_n 0, 1) := by decide +kernel
theorem dX8_init_5 : decode cX8_init 5 = .ok (.bipush 8, 2) := by decide +kernel
theorem dX8_init_7 : decode cX8_init 7 = .ok (.newarray .int, 2) := by decide +kernel
theorem dX8_init_9 : decode cX8_init 9 = .ok (.putfield 9, 3) := by decide +kernel
theorem dX8_init_12 : decode cX8_init 12 = .ok (.aload_n 0, 1) := by decide +kernel
theorem dX8_init_13 : decode cX8_init 13 = .ok (.iconst 0, 1) := by decide +kernel
theorem dX8_init_14 : decode cX8_init 14 = .ok (.putfield 15, 3) := by decide +kernel
theorem dX8_init_17 : decode cX8_init 17 = .ok (.aload_n 0, 1) := by decide +kernel
theorem dX8_init_18 : decode cX8_init 18 = .ok (.bipush 102, 2) := by decide +kernel
theorem dX8_init_20 : decode cX8_init 20 = .ok (.newarray .int, 2) := by decide +kernel
theorem dX8_init_22 : decode cX8_init 22 = .ok (.putfield 19, 3) := by decide +kernel
theorem dX8_init_25 : decode cX8_init 25 = .ok (.aload_n 0, 1) := by decide +kernel
theorem dX8_init_26 : decode cX8_init 26 = .ok (.iconst 0, 1) := by decide +kernel
theorem dX8_init_27 : decode cX8_init 27 = .ok (.putfield 22, 3) := by decide +kernel
theorem dX8_init_30 : decode cX8_init 30 = .ok (.aload_n 0, 1) := by decide +kernel
theorem dX8_init_31 : decode cX8_init 31 = .ok (.iconst 0, 1) := by decide +kernel
theorem dX8_init_32 : decode cX8_init 32 = .ok (.putfield 25, 3) := by decide +kernel
theorem dX8_init_35 : decode cX8_init 35 = .ok (.aload_n 0, 1) := by decide +kernel
theorem dX8_init_36 : decode cX8_init 36 = .ok (.iload_n 1, 1) := by decide +kernel
theorem dX8_init_37 : decode cX8_init 37 = .ok (.putfield 28, 3) := by decide +kernel
theorem dX8_init_40 : decode cX8_init 40 = .ok (.iconst 0, 1) := by decide +kernel
theorem dX8_init_41 : decode cX8_init 41 = .ok (.istore_n 2, 1) := by decide +kernel
theorem dX8_init_42 : decode cX8_init 42 = .ok (.iload_n 2, 1) := by decide +kernel
theorem dX8_init_43 : decode cX8_init 43 = .ok (.bipush 8, 2) := by decide +kernel
theorem dX8_init_45 : decode cX8_init 45 = .ok (.if_icmp .ge 16, 3) := by decide +kernel
theorem dX8_init_48 : decode cX8_init 48 = .ok (.aload_n 0, 1) := by decide +kernel
theorem dX8_init_49 : decode cX8_init 49 = .ok (.getfield 9, 3) := by decide +kernel
theorem dX8_init_52 : decode cX8_init 52 = .ok (.iload_n 2, 1) := by decide +kernel
theorem dX8_init_53 : decode cX8_init 53 = .ok (.iconst (-1), 1) := by decide +kernel
theorem dX8_init_54 : decode cX8_init 54 = .ok (.iastore, 1) := by decide +kernel
theorem dX8_init_55 : decode cX8_init 55 = .ok (.iinc 2 1, 3) := by decide +kernel
theorem dX8_init_58 : decode cX8_init 58 = .ok (.goto (-16), 3) := by decide +kernel
theorem dX8_init_61 : decode cX8_init 61 = .ok (.return_, 1) := by decide +kernel
theorem dX8_isWellFormed_0 : decode cX8_isWellFormed 0 = .ok (.iload_n 1, 1) := by decide +kernel
theorem dX8_isWellFormed_1 : decode cX8_isWellFormed 1 = .ok (.bipush 6, 2) := by decide +kernel
theorem dX8_isWellFormed_3 : decode cX8_isWellFormed 3 = .ok (.if_icmp .lt 26, 3) := by decide +kernel
theorem dX8_isWellFormed_6 : decode cX8_isWellFormed 6 = .ok (.aload_n 0, 1) := by decide +kernel
theorem dX8_isWellFormed_7 : decode cX8_isWellFormed 7 = .ok (.iconst 2, 1) := by decide +kernel
theorem dX8_isWellFormed_8 : decode cX8_isWellFormed 8 = .ok (.iaload, 1) := by decide +kernel
theorem dX8_isWellFormed_9 : decode cX8_isWellFormed 9 = .ok (.bipush 12, 2) := by decide +kernel
theorem dX8_isWellFormed_11 : decode cX8_isWellFormed 11 = .ok (.if_icmp .ne 18, 3) := by decide +kernel
theorem dX8_isWellFormed_14 : decode cX8_isWellFormed 14 = .ok (.aload_n 0, 1) := by decide +kernel
theorem dX8_isWellFormed_15 : decode cX8_isWellFormed 15 = .ok (.iconst 3, 1) := by decide +kernel
theorem dX8_isWellFormed_16 : decode cX8_isWellFormed 16 = .ok (.iaload, 1) := by decide +kernel
theorem dX8_isWellFormed_17 : decode cX8_isWellFormed 17 = .ok (.iconst 1, 1) := by decide +kernel
theorem dX8_isWellFormed_18 : decode cX8_isWellFormed 18 = .ok (.if_icmp .ne 11, 3) := by decide +kernel
theorem dX8_isWellFormed_21 : decode cX8_isWellFormed 21 = .ok (.aload_n 0, 1) := by decide +kernel
theorem dX8_isWellFormed_22 : decode cX8_isWellFormed 22 = .ok (.iconst 4, 1) := by decide +kernel
theorem dX8_isWellFormed_23 : decode cX8_isWellFormed 23 = .ok (.iaload, 1) := by decide +kernel
theorem dX8_isWellFormed_24 : decode cX8_isWellFormed 24 = .ok (.bipush 23, 2) := by decide +kernel
theorem dX8_isWellFormed_26 : decode cX8_isWellFormed 26 = .ok (.if_icmp .eq 5, 3) := by decide +kernel
theorem dX8_isWellFormed_29 : decode cX8_isWellFormed 29 = .ok (.iconst 0, 1) := by decide +kernel
theorem dX8_isWellFormed_30 : decode cX8_isWellFormed 30 = .ok (.ireturn, 1) := by decide +kernel
theorem dX8_isWellFormed_31 : decode cX8_isWellFormed 31 = .ok (.aload_n 0, 1) := by decide +kernel
theorem dX8_isWellFormed_32 : decode cX8_isWellFormed 32 = .ok (.iconst 5, 1) := by decide +kernel
theorem dX8_isWellFormed_33 : decode cX8_isWellFormed 33 = .ok (.iaload, 1) := by decide +kernel
theorem dX8_isWellFormed_34 : decode cX8_isWellFormed 34 = .ok (.istore_n 2, 1) := by decide +kernel
theorem dX8_isWellFormed_35 : decode cX8_isWellFormed 35 = .ok (.iload_n 2, 1) := by decide +kernel
theorem dX8_isWellFormed_36 : decode cX8_isWellFormed 36 = .ok (.iconst 1, 1) := by decide +kernel
theorem dX8_isWellFormed_37 : decode cX8_isWellFormed 37 = .ok (.if_icmp .lt 24, 3) := by decide +kernel
theorem dX8_isWellFormed_40 : decode cX8_isWellFormed 40 = .ok (.iload_n 2, 1) := by decide +kernel
theorem dX8_isWellFormed_41 : decode cX8_isWellFormed 41 = .ok (.bipush 8, 2) := by decide +kernel
theorem dX8_isWellFormed_43 : decode cX8_isWellFormed 43 = .ok (.if_icmp .gt 18, 3) := by decide +kernel
theorem dX8_isWellFormed_46 : decode cX8_isWellFormed 46 = .ok (.iload_n 1, 1) := by decide +kernel
theorem dX8_isWellFormed_47 : decode cX8_isWellFormed 47 = .ok (.bipush 6, 2) := by decide +kernel
theorem dX8_isWellFormed_49 : decode cX8_isWellFormed 49 = .ok (.bipush 12, 2) := by decide +kernel
theorem dX8_isWellFormed_51 : decode cX8_isWellFormed 51 = .ok (.iload_n 2, 1) := by decide +kernel
theorem dX8_isWellFormed_52 : decode cX8_isWellFormed 52 = .ok (.imul, 1) := by decide +kernel
theorem dX8_isWellFormed_53 : decode cX8_isWellFormed 53 = .ok (.iadd, 1) := by decide +kernel
theorem dX8_isWellFormed_54 : decode cX8_isWellFormed 54 = .ok (.if_icmp .ne 7, 3) := by decide +kernel
theorem dX8_isWellFormed_57 : decode cX8_isWellFormed 57 = .ok (.iconst 1, 1) := by decide +kernel
theorem dX8_isWellFormed_58 : decode cX8_isWellFormed 58 = .ok (.goto 4, 3) := by decide +kernel
theorem dX8_isWellFormed_61 : decode cX8_isWellFormed 61 = .ok (.iconst 0, 1) := by decide +kernel
theorem dX8_isWellFormed_62 : decode cX8_isWellFormed 62 = .ok (.ireturn, 1) := by decide +kernel
theorem dX8_isKnown_0 : decode cX8_isKnown 0 = .ok (.iload_n 0, 1) := by decide +kernel
theorem dX8_isKnown_1 : decode cX8_isKnown 1 = .ok (.ifCond .lt 23, 3) := by decide +kernel
theorem dX8_isKnown_4 : decode cX8_isKnown 4 = .ok (.iload_n 0, 1) := by decide +kernel
theorem dX8_isKnown_5 : decode cX8_isKnown 5 = .ok (.bipush 8, 2) := by decide +kernel
theorem dX8_isKnown_7 : decode cX8_isKnown 7 = .ok (.if_icmp .ge 17, 3) := by decide +kernel
theorem dX8_isKnown_10 : decode cX8_isKnown 10 = .ok (.iload_n 1, 1) := by decide +kernel
theorem dX8_isKnown_11 : decode cX8_isKnown 11 = .ok (.iconst 3, 1) := by decide +kernel
theorem dX8_isKnown_12 : decode cX8_isKnown 12 = .ok (.if_icmp .eq 8, 3) := by decide +kernel
theorem dX8_isKnown_15 : decode cX8_isKnown 15 = .ok (.iload_n 1, 1) := by decide +kernel
theorem dX8_isKnown_16 : decode cX8_isKnown 16 = .ok (.iconst 4, 1) := by decide +kernel
theorem dX8_isKnown_17 : decode cX8_isKnown 17 = .ok (.if_icmp .ne 7, 3) := by decide +kernel
theorem dX8_isKnown_20 : decode cX8_isKnown 20 = .ok (.iconst 1, 1) := by decide +kernel
theorem dX8_isKnown_21 : decode cX8_isKnown 21 = .ok (.goto 4, 3) := by decide +kernel
theorem dX8_isKnown_24 : decode cX8_isKnown 24 = .ok (.iconst 0, 1) := by decide +kernel
theorem dX8_isKnown_25 : decode cX8_isKnown 25 = .ok (.ireturn, 1) := by decide +kernel
theorem dX8_codeOf_0 : decode cX8_codeOf 0 = .ok (.aload_n 0, 1) := by decide +kernel
theorem dX8_codeOf_1 : decode cX8_codeOf 1 = .ok (.getfield 9, 3) := by decide +kernel
theorem dX8_codeOf_4 : decode cX8_codeOf 4 = .ok (.iload_n 1, 1) := by decide +kernel
theorem dX8_codeOf_5 : decode cX8_codeOf 5 = .ok (.iaload, 1) := by decide +kernel
theorem dX8_codeOf_6 : decode cX8_codeOf 6 = .ok (.ireturn, 1) := by decide +kernel
theorem dX8_acts_0 : decode cX8_acts 0 = .ok (.aload_n 0, 1) := by decide +kernel
theorem dX8_acts_1 : decode cX8_acts 1 = .ok (.getfield 15, 3) := by decide +kernel
theorem dX8_acts_4 : decode cX8_acts 4 = .ok (.ireturn, 1) := by decide +kernel
theorem dX8_act_0 : decode cX8_act 0 = .ok (.aload_n 0, 1) := by decide +kernel
theorem dX8_act_1 : decode cX8_act 1 = .ok (.getfield 9, 3) := by decide +kernel
theorem dX8_act_4 : decode cX8_act 4 = .ok (.iload_n 1, 1) := by decide +kernel
theorem dX8_act_5 : decode cX8_act 5 = .ok (.iload_n 2, 1) := by decide +kernel
theorem dX8_act_6 : decode cX8_act 6 = .ok (.iastore, 1) := by decide +kernel
theorem dX8_act_7 : decode cX8_act 7 = .ok (.aload_n 0, 1) := by decide +kernel
theorem dX8_act_8 : decode cX8_act 8 = .ok (.dup, 1) := by decide +kernel
theorem dX8_act_9 : decode cX8_act 9 = .ok (.getfield 15, 3) := by decide +kernel
theorem dX8_act_12 : decode cX8_act 12 = .ok (.iconst 1, 1) := by decide +kernel
theorem dX8_act_13 : decode cX8_act 13 = .ok (.iadd, 1) := by decide +kernel
theorem dX8_act_14 : decode cX8_act 14 = .ok (.putfield 15, 3) := by decide +kernel
theorem dX8_act_17 : decode cX8_act 17 = .ok (.return_, 1) := by decide +kernel
theorem dX8_forgetSelected_0 : decode cX8_forgetSelected 0 = .ok (.aload_n 0, 1) := by decide +kernel
theorem dX8_forgetSelected_1 : decode cX8_forgetSelected 1 = .ok (.iconst 0, 1) := by decide +kernel
theorem dX8_forgetSelected_2 : decode cX8_forgetSelected 2 = .ok (.putfield 22, 3) := by decide +kernel
theorem dX8_forgetSelected_5 : decode cX8_forgetSelected 5 = .ok (.return_, 1) := by decide +kernel
theorem dX8_keepSelected_0 : decode cX8_keepSelected 0 = .ok (.aload_n 1, 1) := by decide +kernel
theorem dX8_keepSelected_1 : decode cX8_keepSelected 1 = .ok (.iconst 0, 1) := by decide +kernel
theorem dX8_keepSelected_2 : decode cX8_keepSelected 2 = .ok (.aload_n 0, 1) := by decide +kernel
theorem dX8_keepSelected_3 : decode cX8_keepSelected 3 = .ok (.getfield 19, 3) := by decide +kernel
theorem dX8_keepSelected_6 : decode cX8_keepSelected 6 = .ok (.iconst 0, 1) := by decide +kernel
theorem dX8_keepSelected_7 : decode cX8_keepSelected 7 = .ok (.iload_n 2, 1) := by decide +kernel
theorem dX8_keepSelected_8 : decode cX8_keepSelected 8 = .ok (.invokestatic 31, 3) := by decide +kernel
theorem dX8_keepSelected_11 : decode cX8_keepSelected 11 = .ok (.aload_n 0, 1) := by decide +kernel
theorem dX8_keepSelected_12 : decode cX8_keepSelected 12 = .ok (.iload_n 2, 1) := by decide +kernel
theorem dX8_keepSelected_13 : decode cX8_keepSelected 13 = .ok (.putfield 22, 3) := by decide +kernel
theorem dX8_keepSelected_16 : decode cX8_keepSelected 16 = .ok (.aload_n 0, 1) := by decide +kernel
theorem dX8_keepSelected_17 : decode cX8_keepSelected 17 = .ok (.iload_n 3, 1) := by decide +kernel
theorem dX8_keepSelected_18 : decode cX8_keepSelected 18 = .ok (.putfield 25, 3) := by decide +kernel
theorem dX8_keepSelected_21 : decode cX8_keepSelected 21 = .ok (.return_, 1) := by decide +kernel
theorem dX8_standingOf_0 : decode cX8_standingOf 0 = .ok (.aload_n 1, 1) := by decide +kernel
theorem dX8_standingOf_1 : decode cX8_standingOf 1 = .ok (.iconst 0, 1) := by decide +kernel
theorem dX8_standingOf_2 : decode cX8_standingOf 2 = .ok (.iaload, 1) := by decide +kernel
theorem dX8_standingOf_3 : decode cX8_standingOf 3 = .ok (.bipush 15, 2) := by decide +kernel
theorem dX8_standingOf_5 : decode cX8_standingOf 5 = .ok (.iand, 1) := by decide +kernel
theorem dX8_standingOf_6 : decode cX8_standingOf 6 = .ok (.aload_n 0, 1) := by decide +kernel
theorem dX8_standingOf_7 : decode cX8_standingOf 7 = .ok (.getfield 19, 3) := by decide +kernel
theorem dX8_standingOf_10 : decode cX8_standingOf 10 = .ok (.iconst 0, 1) := by decide +kernel
theorem dX8_standingOf_11 : decode cX8_standingOf 11 = .ok (.iaload, 1) := by decide +kernel
theorem dX8_standingOf_12 : decode cX8_standingOf 12 = .ok (.iconst 1, 1) := by decide +kernel
theorem dX8_standingOf_13 : decode cX8_standingOf 13 = .ok (.iadd, 1) := by decide +kernel
theorem dX8_standingOf_14 : decode cX8_standingOf 14 = .ok (.bipush 15, 2) := by decide +kernel
theorem dX8_standingOf_16 : decode cX8_standingOf 16 = .ok (.iand, 1) := by decide +kernel
theorem dX8_standingOf_17 : decode cX8_standingOf 17 = .ok (.if_icmp .ne 7, 3) := by decide +kernel
theorem dX8_standingOf_20 : decode cX8_standingOf 20 = .ok (.iconst 1, 1) := by decide +kernel
theorem dX8_standingOf_21 : decode cX8_standingOf 21 = .ok (.goto 4, 3) := by decide +kernel
theorem dX8_standingOf_24 : decode cX8_standingOf 24 = .ok (.iconst 0, 1) := by decide +kernel
theorem dX8_standingOf_25 : decode cX8_standingOf 25 = .ok (.istore 4, 2) := by decide +kernel
theorem dX8_standingOf_27 : decode cX8_standingOf 27 = .ok (.aload_n 0, 1) := by decide +kernel
theorem dX8_standingOf_28 : decode cX8_standingOf 28 = .ok (.getfield 22, 3) := by decide +kernel
theorem dX8_standingOf_31 : decode cX8_standingOf 31 = .ok (.iload_n 2, 1) := by decide +kernel
theorem dX8_standingOf_32 : decode cX8_standingOf 32 = .ok (.if_icmp .ne 8, 3) := by decide +kernel
theorem dX8_standingOf_35 : decode cX8_standingOf 35 = .ok (.iload 4, 2) := by decide +kernel
theorem dX8_standingOf_37 : decode cX8_standingOf 37 = .ok (.ifCond .ne 5, 3) := by decide +kernel
theorem dX8_standingOf_40 : decode cX8_standingOf 40 = .ok (.iconst 2, 1) := by decide +kernel
theorem dX8_standingOf_41 : decode cX8_standingOf 41 = .ok (.ireturn, 1) := by decide +kernel
theorem dX8_standingOf_42 : decode cX8_standingOf 42 = .ok (.iconst 2, 1) := by decide +kernel
theorem dX8_standingOf_43 : decode cX8_standingOf 43 = .ok (.istore 5, 2) := by decide +kernel
theorem dX8_standingOf_45 : decode cX8_standingOf 45 = .ok (.iload 5, 2) := by decide +kernel
theorem dX8_standingOf_47 : decode cX8_standingOf 47 = .ok (.iload_n 2, 1) := by decide +kernel
theorem dX8_standingOf_48 : decode cX8_standingOf 48 = .ok (.if_icmp .ge 25, 3) := by decide +kernel
theorem dX8_standingOf_51 : decode cX8_standingOf 51 = .ok (.aload_n 1, 1) := by decide +kernel
theorem dX8_standingOf_52 : decode cX8_standingOf 52 = .ok (.iload 5, 2) := by decide +kernel
theorem dX8_standingOf_54 : decode cX8_standingOf 54 = .ok (.iaload, 1) := by decide +kernel
theorem dX8_standingOf_55 : decode cX8_standingOf 55 = .ok (.aload_n 0, 1) := by decide +kernel
theorem dX8_standingOf_56 : decode cX8_standingOf 56 = .ok (.getfield 19, 3) := by decide +kernel
theorem dX8_standingOf_59 : decode cX8_standingOf 59 = .ok (.iload 5, 2) := by decide +kernel
theorem dX8_standingOf_61 : decode cX8_standingOf 61 = .ok (.iaload, 1) := by decide +kernel
theorem dX8_standingOf_62 : decode cX8_standingOf 62 = .ok (.if_icmp .eq 5, 3) := by decide +kernel
theorem dX8_standingOf_65 : decode cX8_standingOf 65 = .ok (.iconst 2, 1) := by decide +kernel
theorem dX8_standingOf_66 : decode cX8_standingOf 66 = .ok (.ireturn, 1) := by decide +kernel
theorem dX8_standingOf_67 : decode cX8_standingOf 67 = .ok (.iinc 5 1, 3) := by decide +kernel
theorem dX8_standingOf_70 : decode cX8_standingOf 70 = .ok (.goto (-25), 3) := by decide +kernel
theorem dX8_standingOf_73 : decode cX8_standingOf 73 = .ok (.iload_n 3, 1) := by decide +kernel
theorem dX8_standingOf_74 : decode cX8_standingOf 74 = .ok (.aload_n 0, 1) := by decide +kernel
theorem dX8_standingOf_75 : decode cX8_standingOf 75 = .ok (.getfield 25, 3) := by decide +kernel
theorem dX8_standingOf_78 : decode cX8_standingOf 78 = .ok (.isub, 1) := by decide +kernel
theorem dX8_standingOf_79 : decode cX8_standingOf 79 = .ok (.aload_n 0, 1) := by decide +kernel
theorem dX8_standingOf_80 : decode cX8_standingOf 80 = .ok (.getfield 28, 3) := by decide +kernel
theorem dX8_standingOf_83 : decode cX8_standingOf 83 = .ok (.if_icmp .le 7, 3) := by decide +kernel
theorem dX8_standingOf_86 : decode cX8_standingOf 86 = .ok (.iconst 1, 1) := by decide +kernel
theorem dX8_standingOf_87 : decode cX8_standingOf 87 = .ok (.goto 4, 3) := by decide +kernel
theorem dX8_standingOf_90 : decode cX8_standingOf 90 = .ok (.iconst 0, 1) := by decide +kernel
theorem dX8_standingOf_91 : decode cX8_standingOf 91 = .ok (.ireturn, 1) := by decide +kernel
theorem dX9_init_0 : decode cX9_init 0 = .ok (.aload_n 0, 1) := by decide +kernel
theorem dX9_init_1 : decode cX9_init 1 = .ok (.invokespecial 1, 3) := by decide +kernel
theorem dX9_init_4 : decode cX9_init 4 = .ok (.aload_n 0, 1) := by decide +kernel
theorem dX9_init_5 : decode cX9_init 5 = .ok (.new 7, 3) := by decide +kernel
theorem dX9_init_8 : decode cX9_init 8 = .ok (.dup, 1) := by decide +kernel
theorem dX9_init_9 : decode cX9_init 9 = .ok (.iload_n 1, 1) := by decide +kernel
theorem dX9_init_10 : decode cX9_init 10 = .ok (.ldc 9, 2) := by decide +kernel
theorem dX9_init_12 : decode cX9_init 12 = .ok (.iand, 1) := by decide +kernel
theorem dX9_init_13 : decode cX9_init 13 = .ok (.iload_n 2, 1) := by decide +kernel
theorem dX9_init_14 : decode cX9_init 14 = .ok (.ldc 9, 2) := by decide +kernel
theorem dX9_init_16 : decode cX9_init 16 = .ok (.iand, 1) := by decide +kernel
theorem dX9_init_17 : decode cX9_init 17 = .ok (.invokespecial 10, 3) := by decide +kernel
theorem dX9_init_20 : decode cX9_init 20 = .ok (.putfield 13, 3) := by decide +kernel
theorem dX9_init_23 : decode cX9_init 23 = .ok (.aload_n 0, 1) := by decide +kernel
theorem dX9_init_24 : decode cX9_init 24 = .ok (.new 19, 3) := by decide +kernel
theorem dX9_init_27 : decode cX9_init 27 = .ok (.dup, 1) := by decide +kernel
theorem dX9_init_28 : decode cX9_init 28 = .ok (.invokespecial 21, 3) := by decide +kernel
theorem dX9_init_31 : decode cX9_init 31 = .ok (.putfield 22, 3) := by decide +kernel
theorem dX9_init_34 : decode cX9_init 34 = .ok (.aload_n 0, 1) := by decide +kernel
theorem dX9_init_35 : decode cX9_init 35 = .ok (.new 26, 3) := by decide +kernel
theorem dX9_init_38 : decode cX9_init 38 = .ok (.dup, 1) := by decide +kernel
theorem dX9_init_39 : decode cX9_init 39 = .ok (.invokespecial 28, 3) := by decide +kernel
theorem dX9_init_42 : decode cX9_init 42 = .ok (.putfield 29, 3) := by decide +kernel
theorem dX9_init_45 : decode cX9_init 45 = .ok (.aload_n 0, 1) := by decide +kernel
theorem dX9_init_46 : decode cX9_init 46 = .ok (.new 33, 3) := by decide +kernel
theorem dX9_init_49 : decode cX9_init 49 = .ok (.dup, 1) := by decide +kernel
theorem dX9_init_50 : decode cX9_init 50 = .ok (.invokespecial 35, 3) := by decide +kernel
theorem dX9_init_53 : decode cX9_init 53 = .ok (.putfield 36, 3) := by decide +kernel
theorem dX9_init_56 : decode cX9_init 56 = .ok (.aload_n 0, 1) := by decide +kernel
theorem dX9_init_57 : decode cX9_init 57 = .ok (.new 40, 3) := by decide +kernel
theorem dX9_init_60 : decode cX9_init 60 = .ok (.dup, 1) := by decide +kernel
theorem dX9_init_61 : decode cX9_init 61 = .ok (.iload_n 1, 1) := by decide +kernel
theorem dX9_init_62 : decode cX9_init 62 = .ok (.ldc 9, 2) := by decide +kernel
theorem dX9_init_64 : decode cX9_init 64 = .ok (.iand, 1) := by decide +kernel
theorem dX9_init_65 : decode cX9_init 65 = .ok (.iload_n 2, 1) := by decide +kernel
theorem dX9_init_66 : decode cX9_init 66 = .ok (.ldc 9, 2) := by decide +kernel
theorem dX9_init_68 : decode cX9_init 68 = .ok (.iand, 1) := by decide +kernel
theorem dX9_init_69 : decode cX9_init 69 = .ok (.invokespecial 42, 3) := by decide +kernel
theorem dX9_init_72 : decode cX9_init 72 = .ok (.putfield 43, 3) := by decide +kernel
theorem dX9_init_75 : decode cX9_init 75 = .ok (.aload_n 0, 1) := by decide +kernel
theorem dX9_init_76 : decode cX9_init 76 = .ok (.new 47, 3) := by decide +kernel
theorem dX9_init_79 : decode cX9_init 79 = .ok (.dup, 1) := by decide +kernel
theorem dX9_init_80 : decode cX9_init 80 = .ok (.invokespecial 49, 3) := by decide +kernel
theorem dX9_init_83 : decode cX9_init 83 = .ok (.putfield 50, 3) := by decide +kernel
theorem dX9_init_86 : decode cX9_init 86 = .ok (.aload_n 0, 1) := by decide +kernel
theorem dX9_init_87 : decode cX9_init 87 = .ok (.new 54, 3) := by decide +kernel
theorem dX9_init_90 : decode cX9_init 90 = .ok (.dup, 1) := by decide +kernel
theorem dX9_init_91 : decode cX9_init 91 = .ok (.iconst 1, 1) := by decide +kernel
theorem dX9_init_92 : decode cX9_init 92 = .ok (.bipush 40, 2) := by decide +kernel
theorem dX9_init_94 : decode cX9_init 94 = .ok (.iload_n 3, 1) := by decide +kernel
theorem dX9_init_95 : decode cX9_init 95 = .ok (.invokestatic 56, 3) := by decide +kernel
theorem dX9_init_98 : decode cX9_init 98 = .ok (.invokestatic 62, 3) := by decide +kernel
theorem dX9_init_101 : decode cX9_init 101 = .ok (.invokespecial 65, 3) := by decide +kernel
theorem dX9_init_104 : decode cX9_init 104 = .ok (.putfield 68, 3) := by decide +kernel
theorem dX9_init_107 : decode cX9_init 107 = .ok (.aload_n 0, 1) := by decide +kernel
theorem dX9_init_108 : decode cX9_init 108 = .ok (.new 72, 3) := by decide +kernel
theorem dX9_init_111 : decode cX9_init 111 = .ok (.dup, 1) := by decide +kernel
theorem dX9_init_112 : decode cX9_init 112 = .ok (.iconst 0, 1) := by decide +kernel
theorem dX9_init_113 : decode cX9_init 113 = .ok (.sipush 10000, 3) := by decide +kernel
theorem dX9_init_116 : decode cX9_init 116 = .ok (.iload 4, 2) := by decide +kernel
theorem dX9_init_118 : decode cX9_init 118 = .ok (.invokestatic 56, 3) := by decide +kernel
theorem dX9_init_121 : decode cX9_init 121 = .ok (.invokestatic 62, 3) := by decide +kernel
theorem dX9_init_124 : decode cX9_init 124 = .ok (.invokespecial 74, 3) := by decide +kernel
theorem dX9_init_127 : decode cX9_init 127 = .ok (.putfield 75, 3) := by decide +kernel
theorem dX9_init_130 : decode cX9_init 130 = .ok (.aload_n 0, 1) := by decide +kernel
theorem dX9_init_131 : decode cX9_init 131 = .ok (.iconst 4, 1) := by decide +kernel
theorem dX9_init_132 : decode cX9_init 132 = .ok (.newarray .int, 2) := by decide +kernel
theorem dX9_init_134 : decode cX9_init 134 = .ok (.putfield 79, 3) := by decide +kernel
theorem dX9_init_137 : decode cX9_init 137 = .ok (.aload_n 0, 1) := by decide +kernel
theorem dX9_init_138 : decode cX9_init 138 = .ok (.iconst 0, 1) := by decide +kernel
theorem dX9_init_139 : decode cX9_init 139 = .ok (.putfield 83, 3) := by decide +kernel
theorem dX9_init_142 : decode cX9_init 142 = .ok (.aload_n 0, 1) := by decide +kernel
theorem dX9_init_143 : decode cX9_init 143 = .ok (.iconst 0, 1) := by decide +kernel
theorem dX9_init_144 : decode cX9_init 144 = .ok (.putfield 87, 3) := by decide +kernel
theorem dX9_init_147 : decode cX9_init 147 = .ok (.aload_n 0, 1) := by decide +kernel
theorem dX9_init_148 : decode cX9_init 148 = .ok (.iconst 1, 1) := by decide +kernel
theorem dX9_init_149 : decode cX9_init 149 = .ok (.putfield 90, 3) := by decide +kernel
theorem dX9_init_152 : decode cX9_init 152 = .ok (.return_, 1) := by decide +kernel
theorem dX9_feed_0 : decode cX9_feed 0 = .ok (.iload 6, 2) := by decide +kernel
theorem dX9_feed_2 : decode cX9_feed 2 = .ok (.iconst 1, 1) := by decide +kernel
theorem dX9_feed_3 : decode cX9_feed 3 = .ok (.if_icmp .lt 10, 3) := by decide +kernel
theorem dX9_feed_6 : decode cX9_feed 6 = .ok (.iload 6, 2) := by decide +kernel
theorem dX9_feed_8 : decode cX9_feed 8 = .ok (.bipush 20, 2) := by decide +kernel
theorem dX9_feed_10 : decode cX9_feed 10 = .ok (.if_icmp .le 13, 3) := by decide +kernel
theorem dX9_feed_13 : decode cX9_feed 13 = .ok (.new 94, 3) := by decide +kernel
theorem dX9_feed_16 : decode cX9_feed 16 = .ok (.dup, 1) := by decide +kernel
theorem dX9_feed_17 : decode cX9_feed 17 = .ok (.ldc 96, 2) := by decide +kernel
theorem dX9_feed_19 : decode cX9_feed 19 = .ok (.invokespecial 98, 3) := by decide +kernel
theorem dX9_feed_22 : decode cX9_feed 22 = .ok (.athrow, 1) := by decide +kernel
theorem dX9_feed_23 : decode cX9_feed 23 = .ok (.aload_n 0, 1) := by decide +kernel
theorem dX9_feed_24 : decode cX9_feed 24 = .ok (.getfield 13, 3) := by decide +kernel
theorem dX9_feed_27 : decode cX9_feed 27 = .ok (.iload_n 1, 1) := by decide +kernel
theorem dX9_feed_28 : decode cX9_feed 28 = .ok (.iload 6, 2) := by decide +kernel
theorem dX9_feed_30 : decode cX9_feed 30 = .ok (.invokevirtual 101, 3) := by decide +kernel
theorem dX9_feed_33 : decode cX9_feed 33 = .ok (.aload_n 0, 1) := by decide +kernel
theorem dX9_feed_34 : decode cX9_feed 34 = .ok (.getfield 13, 3) := by decide +kernel
theorem dX9_feed_37 : decode cX9_feed 37 = .ok (.iload_n 2, 1) := by decide +kernel
theorem dX9_feed_38 : decode cX9_feed 38 = .ok (.iload 6, 2) := by decide +kernel
theorem dX9_feed_40 : decode cX9_feed 40 = .ok (.iconst 4, 1) := by decide +kernel
theorem dX9_feed_41 : decode cX9_feed 41 = .ok (.isub, 1) := by decide +kernel
theorem dX9_feed_42 : decode cX9_feed 42 = .ok (.invokevirtual 101, 3) := by decide +kernel
theorem dX9_feed_45 : decode cX9_feed 45 = .ok (.aload_n 0, 1) := by decide +kernel
theorem dX9_feed_46 : decode cX9_feed 46 = .ok (.getfield 13, 3) := by decide +kernel
theorem dX9_feed_49 : decode cX9_feed 49 = .ok (.iload_n 3, 1) := by decide +kernel
theorem dX9_feed_50 : decode cX9_feed 50 = .ok (.iload 6, 2) := by decide +kernel
theorem dX9_feed_52 : decode cX9_feed 52 = .ok (.bipush 8, 2) := by decide +kernel
theorem dX9_feed_54 : decode cX9_feed 54 = .ok (.isub, 1) := by decide +kernel
theorem dX9_feed_55 : decode cX9_feed 55 = .ok (.invokevirtual 101, 3) := by decide +kernel
theorem dX9_feed_58 : decode cX9_feed 58 = .ok (.aload_n 0, 1) := by decide +kernel
theorem dX9_feed_59 : decode cX9_feed 59 = .ok (.getfield 13, 3) := by decide +kernel
theorem dX9_feed_62 : decode cX9_feed 62 = .ok (.iload 4, 2) := by decide +kernel
theorem dX9_feed_64 : decode cX9_feed 64 = .ok (.iload 6, 2) := by decide +kernel
theorem dX9_feed_66 : decode cX9_feed 66 = .ok (.bipush 12, 2) := by decide +kernel
theorem dX9_feed_68 : decode cX9_feed 68 = .ok (.isub, 1) := by decide +kernel
theorem dX9_feed_69 : decode cX9_feed 69 = .ok (.invokevirtual 101, 3) := by decide +kernel
theorem dX9_feed_72 : decode cX9_feed 72 = .ok (.aload_n 0, 1) := by decide +kernel
theorem dX9_feed_73 : decode cX9_feed 73 = .ok (.getfield 13, 3) := by decide +kernel
theorem dX9_feed_76 : decode cX9_feed 76 = .ok (.iload 5, 2) := by decide +kernel
theorem dX9_feed_78 : decode cX9_feed 78 = .ok (.iload 6, 2) := by decide +kernel
theorem dX9_feed_80 : decode cX9_feed 80 = .ok (.bipush 16, 2) := by decide +kernel
theorem dX9_feed_82 : decode cX9_feed 82 = .ok (.isub, 1) := by decide +kernel
theorem dX9_feed_83 : decode cX9_feed 83 = .ok (.invokevirtual 101, 3) := by decide +kernel
theorem dX9_feed_86 : decode cX9_feed 86 = .ok (.iconst 0, 1) := by decide +kernel
theorem dX9_feed_87 : decode cX9_feed 87 = .ok (.istore 7, 2) := by decide +kernel
theorem dX9_feed_89 : decode cX9_feed 89 = .ok (.iconst 0, 1) := by decide +kernel
theorem dX9_feed_90 : decode cX9_feed 90 = .ok (.istore 8, 2) := by decide +kernel
theorem dX9_feed_92 : decode cX9_feed 92 = .ok (.iload 8, 2) := by decide +kernel
theorem dX9_feed_94 : decode cX9_feed 94 = .ok (.sipush 311, 3) := by decide +kernel
theorem dX9_feed_97 : decode cX9_feed 97 = .ok (.if_icmp .ge 92, 3) := by decide +kernel
theorem dX9_feed_100 : decode cX9_feed 100 = .ok (.aload_n 0, 1) := by decide +kernel
theorem dX9_feed_101 : decode cX9_feed 101 = .ok (.getfield 13, 3) := by decide +kernel
theorem dX9_feed_104 : decode cX9_feed 104 = .ok (.invokevirtual 104, 3) := by decide +kernel
theorem dX9_feed_107 : decode cX9_feed 107 = .ok (.istore 9, 2) := by decide +kernel
theorem dX9_feed_109 : decode cX9_feed 109 = .ok (.iload 9, 2) := by decide +kernel
theorem dX9_feed_111 : decode cX9_feed 111 = .ok (.ifCond .ne 6, 3) := by decide +kernel
theorem dX9_feed_114 : decode cX9_feed 114 = .ok (.goto 75, 3) := by decide +kernel
theorem dX9_feed_117 : decode cX9_feed 117 = .ok (.aload_n 0, 1) := by decide +kernel
theorem dX9_feed_118 : decode cX9_feed 118 = .ok (.getfield 79, 3) := by decide +kernel
theorem dX9_feed_121 : decode cX9_feed 121 = .ok (.iload 9, 2) := by decide +kernel
theorem dX9_feed_123 : decode cX9_feed 123 = .ok (.dup2, 1) := by decide +kernel
theorem dX9_feed_124 : decode cX9_feed 124 = .ok (.iaload, 1) := by decide +kernel
theorem dX9_feed_125 : decode cX9_feed 125 = .ok (.iconst 1, 1) := by decide +kernel
theorem dX9_feed_126 : decode cX9_feed 126 = .ok (.iadd, 1) := by decide +kernel
theorem dX9_feed_127 : decode cX9_feed 127 = .ok (.iastore, 1) := by decide +kernel
theorem dX9_feed_128 : decode cX9_feed 128 = .ok (.iload 9, 2) := by decide +kernel
theorem dX9_feed_130 : decode cX9_feed 130 = .ok (.iconst 3, 1) := by decide +kernel
theorem dX9_feed_131 : decode cX9_feed 131 = .ok (.if_icmp .ne 52, 3) := by decide +kernel
theorem dX9_feed_134 : decode cX9_feed 134 = .ok (.iinc 7 1, 3) := by decide +kernel
theorem dX9_feed_137 : decode cX9_feed 137 = .ok (.aload_n 0, 1) := by decide +kernel
theorem dX9_feed_138 : decode cX9_feed 138 = .ok (.invokevirtual 108, 3) := by decide +kernel
theorem dX9_feed_141 : decode cX9_feed 141 = .ok (.ifCond .eq 42, 3) := by decide +kernel
theorem dX9_feed_144 : decode cX9_feed 144 = .ok (.aload_n 0, 1) := by decide +kernel
theorem dX9_feed_145 : decode cX9_feed 145 = .ok (.aload_n 0, 1) := by decide +kernel
theorem dX9_feed_146 : decode cX9_feed 146 = .ok (.getfield 29, 3) := by decide +kernel
theorem dX9_feed_149 : decode cX9_feed 149 = .ok (.invokevirtual 112, 3) := by decide +kernel
theorem dX9_feed_152 : decode cX9_feed 152 = .ok (.aload_n 0, 1) := by decide +kernel
theorem dX9_feed_153 : decode cX9_feed 153 = .ok (.getfield 29, 3) := by decide +kernel
theorem dX9_feed_156 : decode cX9_feed 156 = .ok (.invokevirtual 116, 3) := by decide +kernel
theorem dX9_feed_159 : decode cX9_feed 159 = .ok (.invokevirtual 119, 3) := by decide +kernel
theorem dX9_feed_162 : decode cX9_feed 162 = .ok (.ifCond .eq 21, 3) := by decide +kernel
theorem dX9_feed_165 : decode cX9_feed 165 = .ok (.aload_n 0, 1) := by decide +kernel
theorem dX9_feed_166 : decode cX9_feed 166 = .ok (.aload_n 0, 1) := by decide +kernel
theorem dX9_feed_167 : decode cX9_feed 167 = .ok (.getfield 29, 3) := by decide +kernel
theorem dX9_feed_170 : decode cX9_feed 170 = .ok (.invokevirtual 112, 3) := by decide +kernel
theorem dX9_feed_173 : decode cX9_feed 173 = .ok (.aload_n 0, 1) := by decide +kernel
theorem dX9_feed_174 : decode cX9_feed 174 = .ok (.getfield 29, 3) := by decide +kernel
theorem dX9_feed_177 : decode cX9_feed 177 = .ok (.invokevirtual 116, 3) := by decide +kernel
theorem dX9_feed_180 : decode cX9_feed 180 = .ok (.invokevirtual 123, 3) := by decide +kernel
theorem dX9_feed_183 : decode cX9_feed 183 = .ok (.iinc 8 1, 3) := by decide +kernel
theorem dX9_feed_186 : decode cX9_feed 186 = .ok (.goto (-94), 3) := by decide +kernel
theorem dX9_feed_189 : decode cX9_feed 189 = .ok (.iload 7, 2) := by decide +kernel
theorem dX9_feed_191 : decode cX9_feed 191 = .ok (.ireturn, 1) := by decide +kernel
theorem dX9_tick_0 : decode cX9_tick 0 = .ok (.iload_n 1, 1) := by decide +kernel
theorem dX9_tick_1 : decode cX9_tick 1 = .ok (.ifCond .lt 14, 3) := by decide +kernel
theorem dX9_tick_4 : decode cX9_tick 4 = .ok (.iload_n 1, 1) := by decide +kernel
theorem dX9_tick_5 : decode cX9_tick 5 = .ok (.ldc 127, 2) := by decide +kernel
theorem dX9_tick_7 : decode cX9_tick 7 = .ok (.aload_n 0, 1) := by decide +kernel
theorem dX9_tick_8 : decode cX9_tick 8 = .ok (.getfield 87, 3) := by decide +kernel
theorem dX9_tick_11 : decode cX9_tick 11 = .ok (.isub, 1) := by decide +kernel
theorem dX9_tick_12 : decode cX9_tick 12 = .ok (.if_icmp .le 13, 3) := by decide +kernel
theorem dX9_tick_15 : decode cX9_tick 15 = .ok (.new 94, 3) := by decide +kernel
theorem dX9_tick_18 : decode cX9_tick 18 = .ok (.dup, 1) := by decide +kernel
theorem dX9_tick_19 : decode cX9_tick 19 = .ok (.ldc 128, 2) := by decide +kernel
theorem dX9_tick_21 : decode cX9_tick 21 = .ok (.invokespecial 98, 3) := by decide +kernel
theorem dX9_tick_24 : decode cX9_tick 24 = .ok (.athrow, 1) := by decide +kernel
theorem dX9_tick_25 : decode cX9_tick 25 = .ok (.aload_n 0, 1) := by decide +kernel
theorem dX9_tick_26 : decode cX9_tick 26 = .ok (.dup, 1) := by decide +kernel
theorem dX9_tick_27 : decode cX9_tick 27 = .ok (.getfield 87, 3) := by decide +kernel
theorem dX9_tick_30 : decode cX9_tick 30 = .ok (.iload_n 1, 1) := by decide +kernel
theorem dX9_tick_31 : decode cX9_tick 31 = .ok (.iadd, 1) := by decide +kernel
theorem dX9_tick_32 : decode cX9_tick 32 = .ok (.putfield 87, 3) := by decide +kernel
theorem dX9_tick_35 : decode cX9_tick 35 = .ok (.return_, 1) := by decide +kernel
theorem dX9_binary_0 : decode cX9_binary 0 = .ok (.iload_n 1, 1) := by decide +kernel
theorem dX9_binary_1 : decode cX9_binary 1 = .ok (.invokestatic 130, 3) := by decide +kernel
theorem dX9_binary_4 : decode cX9_binary 4 = .ok (.ifCond .ne 13, 3) := by decide +kernel
theorem dX9_binary_7 : decode cX9_binary 7 = .ok (.new 134, 3) := by decide +kernel
theorem dX9_binary_10 : decode cX9_binary 10 = .ok (.dup, 1) := by decide +kernel
theorem dX9_binary_11 : decode cX9_binary 11 = .ok (.ldc 136, 2) := by decide +kernel
theorem dX9_binary_13 : decode cX9_binary 13 = .ok (.invokespecial 138, 3) := by decide +kernel
theorem dX9_binary_16 : decode cX9_binary 16 = .ok (.athrow, 1) := by decide +kernel
theorem dX9_binary_17 : decode cX9_binary 17 = .ok (.aload_n 0, 1) := by decide +kernel
theorem dX9_binary_18 : decode cX9_binary 18 = .ok (.getfield 50, 3) := by decide +kernel
theorem dX9_binary_21 : decode cX9_binary 21 = .ok (.iload_n 1, 1) := by decide +kernel
theorem dX9_binary_22 : decode cX9_binary 22 = .ok (.iload_n 2, 1) := by decide +kernel
theorem dX9_binary_23 : decode cX9_binary 23 = .ok (.invokevirtual 139, 3) := by decide +kernel
theorem dX9_binary_26 : decode cX9_binary 26 = .ok (.ifCond .ne 5, 3) := by decide +kernel
theorem dX9_binary_29 : decode cX9_binary 29 = .ok (.iconst 0, 1) := by decide +kernel
theorem dX9_binary_30 : decode cX9_binary 30 = .ok (.ireturn, 1) := by decide +kernel
theorem dX9_binary_31 : decode cX9_binary 31 = .ok (.aload_n 0, 1) := by decide +kernel
theorem dX9_binary_32 : decode cX9_binary 32 = .ok (.getfield 68, 3) := by decide +kernel
theorem dX9_binary_35 : decode cX9_binary 35 = .ok (.aload_n 0, 1) := by decide +kernel
theorem dX9_binary_36 : decode cX9_binary 36 = .ok (.getfield 50, 3) := by decide +kernel
theorem dX9_binary_39 : decode cX9_binary 39 = .ok (.iconst 0, 1) := by decide +kernel
theorem dX9_binary_40 : decode cX9_binary 40 = .ok (.iload_n 1, 1) := by decide +kernel
theorem dX9_binary_41 : decode cX9_binary 41 = .ok (.invokevirtual 143, 3) := by decide +kernel
theorem dX9_binary_44 : decode cX9_binary 44 = .ok (.iconst 0, 1) := by decide +kernel
theorem dX9_binary_45 : decode cX9_binary 45 = .ok (.iload_n 1, 1) := by decide +kernel
theorem dX9_binary_46 : decode cX9_binary 46 = .ok (.iload_n 2, 1) := by decide +kernel
theorem dX9_binary_47 : decode cX9_binary 47 = .ok (.ifCond .eq 7, 3) := by decide +kernel
theorem dX9_binary_50 : decode cX9_binary 50 = .ok (.iconst 1, 1) := by decide +kernel
theorem dX9_binary_51 : decode cX9_binary 51 = .ok (.goto 4, 3) := by decide +kernel
theorem dX9_binary_54 : decode cX9_binary 54 = .ok (.iconst 0, 1) := by decide +kernel
theorem dX9_binary_55 : decode cX9_binary 55 = .ok (.invokevirtual 146, 3) := by decide +kernel
theorem dX9_binary_58 : decode cX9_binary 58 = .ok (.iconst 1, 1) := by decide +kernel
theorem dX9_binary_59 : decode cX9_binary 59 = .ok (.ireturn, 1) := by decide +kernel
theorem dX9_analog_0 : decode cX9_analog 0 = .ok (.iload_n 1, 1) := by decide +kernel
theorem dX9_analog_1 : decode cX9_analog 1 = .ok (.invokestatic 130, 3) := by decide +kernel
theorem dX9_analog_4 : decode cX9_analog 4 = .ok (.ifCond .ne 13, 3) := by decide +kernel
theorem dX9_analog_7 : decode cX9_analog 7 = .ok (.new 134, 3) := by decide +kernel
theorem dX9_analog_10 : decode cX9_analog 10 = .ok (.dup, 1) := by decide +kernel
theorem dX9_analog_11 : decode cX9_analog 11 = .ok (.ldc 150, 2) := by decide +kernel
theorem dX9_analog_13 : decode cX9_analog 13 = .ok (.invokespecial 138, 3) := by decide +kernel
theorem dX9_analog_16 : decode cX9_analog 16 = .ok (.athrow, 1) := by decide +kernel
theorem dX9_analog_17 : decode cX9_analog 17 = .ok (.iload_n 2, 1) := by decide +kernel
theorem dX9_analog_18 : decode cX9_analog 18 = .ok (.sipush (-32768), 3) := by decide +kernel
theorem dX9_analog_21 : decode cX9_analog 21 = .ok (.if_icmp .lt 10, 3) := by decide +kernel
theorem dX9_analog_24 : decode cX9_analog 24 = .ok (.iload_n 2, 1) := by decide +kernel
theorem dX9_analog_25 : decode cX9_analog 25 = .ok (.sipush 32767, 3) := by decide +kernel
theorem dX9_analog_28 : decode cX9_analog 28 = .ok (.if_icmp .le 13, 3) := by decide +kernel
theorem dX9_analog_31 : decode cX9_analog 31 = .ok (.new 94, 3) := by decide +kernel
theorem dX9_analog_34 : decode cX9_analog 34 = .ok (.dup, 1) := by decide +kernel
theorem dX9_analog_35 : decode cX9_analog 35 = .ok (.ldc 152, 2) := by decide +kernel
theorem dX9_analog_37 : decode cX9_analog 37 = .ok (.invokespecial 98, 3) := by decide +kernel
theorem dX9_analog_40 : decode cX9_analog 40 = .ok (.athrow, 1) := by decide +kernel
theorem dX9_analog_41 : decode cX9_analog 41 = .ok (.aload_n 0, 1) := by decide +kernel
theorem dX9_analog_42 : decode cX9_analog 42 = .ok (.getfield 50, 3) := by decide +kernel
theorem dX9_analog_45 : decode cX9_analog 45 = .ok (.iload_n 1, 1) := by decide +kernel
theorem dX9_analog_46 : decode cX9_analog 46 = .ok (.iload_n 2, 1) := by decide +kernel
theorem dX9_analog_47 : decode cX9_analog 47 = .ok (.invokevirtual 154, 3) := by decide +kernel
theorem dX9_analog_50 : decode cX9_analog 50 = .ok (.ifCond .ne 5, 3) := by decide +kernel
theorem dX9_analog_53 : decode cX9_analog 53 = .ok (.iconst 0, 1) := by decide +kernel
theorem dX9_analog_54 : decode cX9_analog 54 = .ok (.ireturn, 1) := by decide +kernel
theorem dX9_analog_55 : decode cX9_analog 55 = .ok (.aload_n 0, 1) := by decide +kernel
theorem dX9_analog_56 : decode cX9_analog 56 = .ok (.getfield 68, 3) := by decide +kernel
theorem dX9_analog_59 : decode cX9_analog 59 = .ok (.aload_n 0, 1) := by decide +kernel
theorem dX9_analog_60 : decode cX9_analog 60 = .ok (.getfield 50, 3) := by decide +kernel
theorem dX9_analog_63 : decode cX9_analog 63 = .ok (.iconst 1, 1) := by decide +kernel
theorem dX9_analog_64 : decode cX9_analog 64 = .ok (.iload_n 1, 1) := by decide +kernel
theorem dX9_analog_65 : decode cX9_analog 65 = .ok (.invokevirtual 143, 3) := by decide +kernel
theorem dX9_analog_68 : decode cX9_analog 68 = .ok (.iconst 1, 1) := by decide +kernel
theorem dX9_analog_69 : decode cX9_analog 69 = .ok (.iload_n 1, 1) := by decide +kernel
theorem dX9_analog_70 : decode cX9_analog 70 = .ok (.iload_n 2, 1) := by decide +kernel
theorem dX9_analog_71 : decode cX9_analog 71 = .ok (.invokevirtual 146, 3) := by decide +kernel
theorem dX9_analog_74 : decode cX9_analog 74 = .ok (.iconst 1, 1) := by decide +kernel
theorem dX9_analog_75 : decode cX9_analog 75 = .ok (.ireturn, 1) := by decide +kernel
theorem dX9_sort_0 : decode cX9_sort 0 = .ok (.iload_n 2, 1) := by decide +kernel
theorem dX9_sort_1 : decode cX9_sort 1 = .ok (.invokestatic 130, 3) := by decide +kernel
theorem dX9_sort_4 : decode cX9_sort 4 = .ok (.ifCond .ne 13, 3) := by decide +kernel
theorem dX9_sort_7 : decode cX9_sort 7 = .ok (.new 134, 3) := by decide +kernel
theorem dX9_sort_10 : decode cX9_sort 10 = .ok (.dup, 1) := by decide +kernel
theorem dX9_sort_11 : decode cX9_sort 11 = .ok (.ldc 158, 2) := by decide +kernel
theorem dX9_sort_13 : decode cX9_sort 13 = .ok (.invokespecial 138, 3) := by decide +kernel
theorem dX9_sort_16 : decode cX9_sort 16 = .ok (.athrow, 1) := by decide +kernel
theorem dX9_sort_17 : decode cX9_sort 17 = .ok (.iload_n 3, 1) := by decide +kernel
theorem dX9_sort_18 : decode cX9_sort 18 = .ok (.ifCond .lt 8, 3) := by decide +kernel
theorem dX9_sort_21 : decode cX9_sort 21 = .ok (.iload_n 3, 1) := by decide +kernel
theorem dX9_sort_22 : decode cX9_sort 22 = .ok (.iconst 3, 1) := by decide +kernel
theorem dX9_sort_23 : decode cX9_sort 23 = .ok (.if_icmp .le 13, 3) := by decide +kernel
theorem dX9_sort_26 : decode cX9_sort 26 = .ok (.new 134, 3) := by decide +kernel
theorem dX9_sort_29 : decode cX9_sort 29 = .ok (.dup, 1) := by decide +kernel
theorem dX9_sort_30 : decode cX9_sort 30 = .ok (.ldc 160, 2) := by decide +kernel
theorem dX9_sort_32 : decode cX9_sort 32 = .ok (.invokespecial 138, 3) := by decide +kernel
theorem dX9_sort_35 : decode cX9_sort 35 = .ok (.athrow, 1) := by decide +kernel
theorem dX9_sort_36 : decode cX9_sort 36 = .ok (.aload_n 0, 1) := by decide +kernel
theorem dX9_sort_37 : decode cX9_sort 37 = .ok (.getfield 50, 3) := by decide +kernel
theorem dX9_sort_40 : decode cX9_sort 40 = .ok (.iload_n 1, 1) := by decide +kernel
theorem dX9_sort_41 : decode cX9_sort 41 = .ok (.ifCond .eq 7, 3) := by decide +kernel
theorem dX9_sort_44 : decode cX9_sort 44 = .ok (.iconst 1, 1) := by decide +kernel
theorem dX9_sort_45 : decode cX9_sort 45 = .ok (.goto 4, 3) := by decide +kernel
theorem dX9_sort_48 : decode cX9_sort 48 = .ok (.iconst 0, 1) := by decide +kernel
theorem dX9_sort_49 : decode cX9_sort 49 = .ok (.iload_n 2, 1) := by decide +kernel
theorem dX9_sort_50 : decode cX9_sort 50 = .ok (.iload_n 3, 1) := by decide +kernel
theorem dX9_sort_51 : decode cX9_sort 51 = .ok (.invokevirtual 162, 3) := by decide +kernel
theorem dX9_sort_54 : decode cX9_sort 54 = .ok (.ireturn, 1) := by decide +kernel
theorem dX9_band_0 : decode cX9_band 0 = .ok (.iload_n 1, 1) := by decide +kernel
theorem dX9_band_1 : decode cX9_band 1 = .ok (.invokestatic 130, 3) := by decide +kernel
theorem dX9_band_4 : decode cX9_band 4 = .ok (.ifCond .ne 13, 3) := by decide +kernel
theorem dX9_band_7 : decode cX9_band 7 = .ok (.new 134, 3) := by decide +kernel
theorem dX9_band_10 : decode cX9_band 10 = .ok (.dup, 1) := by decide +kernel
theorem dX9_band_11 : decode cX9_band 11 = .ok (.ldc 150, 2) := by decide +kernel
theorem dX9_band_13 : decode cX9_band 13 = .ok (.invokespecial 138, 3) := by decide +kernel
theorem dX9_band_16 : decode cX9_band 16 = .ok (.athrow, 1) := by decide +kernel
theorem dX9_band_17 : decode cX9_band 17 = .ok (.iload_n 2, 1) := by decide +kernel
theorem dX9_band_18 : decode cX9_band 18 = .ok (.ifCond .lt 9, 3) := by decide +kernel
theorem dX9_band_21 : decode cX9_band 21 = .ok (.iload_n 2, 1) := by decide +kernel
theorem dX9_band_22 : decode cX9_band 22 = .ok (.ldc 9, 2) := by decide +kernel
theorem dX9_band_24 : decode cX9_band 24 = .ok (.if_icmp .le 13, 3) := by decide +kernel
theorem dX9_band_27 : decode cX9_band 27 = .ok (.new 94, 3) := by decide +kernel
theorem dX9_band_30 : decode cX9_band 30 = .ok (.dup, 1) := by decide +kernel
theorem dX9_band_31 : decode cX9_band 31 = .ok (.ldc 166, 2) := by decide +kernel
theorem dX9_band_33 : decode cX9_band 33 = .ok (.invokespecial 98, 3) := by decide +kernel
theorem dX9_band_36 : decode cX9_band 36 = .ok (.athrow, 1) := by decide +kernel
theorem dX9_band_37 : decode cX9_band 37 = .ok (.aload_n 0, 1) := by decide +kernel
theorem dX9_band_38 : decode cX9_band 38 = .ok (.getfield 50, 3) := by decide +kernel
theorem dX9_band_41 : decode cX9_band 41 = .ok (.iload_n 1, 1) := by decide +kernel
theorem dX9_band_42 : decode cX9_band 42 = .ok (.iload_n 2, 1) := by decide +kernel
theorem dX9_band_43 : decode cX9_band 43 = .ok (.invokevirtual 168, 3) := by decide +kernel
theorem dX9_band_46 : decode cX9_band 46 = .ok (.return_, 1) := by decide +kernel
theorem dX9_sent_0 : decode cX9_sent 0 = .ok (.iload_n 1, 1) := by decide +kernel
theorem dX9_sent_1 : decode cX9_sent 1 = .ok (.ifCond .lt 14, 3) := by decide +kernel
theorem dX9_sent_4 : decode cX9_sent 4 = .ok (.iload_n 1, 1) := by decide +kernel
theorem dX9_sent_5 : decode cX9_sent 5 = .ok (.aload_n 0, 1) := by decide +kernel
theorem dX9_sent_6 : decode cX9_sent 6 = .ok (.getfield 43, 3) := by decide +kernel
theorem dX9_sent_9 : decode cX9_sent 9 = .ok (.invokevirtual 171, 3) := by decide +kernel
theorem dX9_sent_12 : decode cX9_sent 12 = .ok (.if_icmp .lt 13, 3) := by decide +kernel
theorem dX9_sent_15 : decode cX9_sent 15 = .ok (.new 134, 3) := by decide +kernel
theorem dX9_sent_18 : decode cX9_sent 18 = .ok (.dup, 1) := by decide +kernel
theorem dX9_sent_19 : decode cX9_sent 19 = .ok (.ldc 172, 2) := by decide +kernel
theorem dX9_sent_21 : decode cX9_sent 21 = .ok (.invokespecial 138, 3) := by decide +kernel
theorem dX9_sent_24 : decode cX9_sent 24 = .ok (.athrow, 1) := by decide +kernel
theorem dX9_sent_25 : decode cX9_sent 25 = .ok (.aload_n 0, 1) := by decide +kernel
theorem dX9_sent_26 : decode cX9_sent 26 = .ok (.getfield 43, 3) := by decide +kernel
theorem dX9_sent_29 : decode cX9_sent 29 = .ok (.iload_n 1, 1) := by decide +kernel
theorem dX9_sent_30 : decode cX9_sent 30 = .ok (.invokevirtual 174, 3) := by decide +kernel
theorem dX9_sent_33 : decode cX9_sent 33 = .ok (.ireturn, 1) := by decide +kernel
theorem dX9_take_0 : decode cX9_take 0 = .ok (.aload_n 0, 1) := by decide +kernel
theorem dX9_take_1 : decode cX9_take 1 = .ok (.getfield 43, 3) := by decide +kernel
theorem dX9_take_4 : decode cX9_take 4 = .ok (.invokevirtual 171, 3) := by decide +kernel
theorem dX9_take_7 : decode cX9_take 7 = .ok (.istore_n 1, 1) := by decide +kernel
theorem dX9_take_8 : decode cX9_take 8 = .ok (.aload_n 0, 1) := by decide +kernel
theorem dX9_take_9 : decode cX9_take 9 = .ok (.getfield 43, 3) := by decide +kernel
theorem dX9_take_12 : decode cX9_take 12 = .ok (.invokevirtual 178, 3) := by decide +kernel
theorem dX9_take_15 : decode cX9_take 15 = .ok (.iload_n 1, 1) := by decide +kernel
theorem dX9_take_16 : decode cX9_take 16 = .ok (.ireturn, 1) := by decide +kernel
theorem dX9_relay_0 : decode cX9_relay 0 = .ok (.iload_n 1, 1) := by decide +kernel
theorem dX9_relay_1 : decode cX9_relay 1 = .ok (.ifCond .lt 9, 3) := by decide +kernel
theorem dX9_relay_4 : decode cX9_relay 4 = .ok (.iload_n 1, 1) := by decide +kernel
theorem dX9_relay_5 : decode cX9_relay 5 = .ok (.bipush 8, 2) := by decide +kernel
theorem dX9_relay_7 : decode cX9_relay 7 = .ok (.if_icmp .lt 13, 3) := by decide +kernel
theorem dX9_relay_10 : decode cX9_relay 10 = .ok (.new 134, 3) := by decide +kernel
theorem dX9_relay_13 : decode cX9_relay 13 = .ok (.dup, 1) := by decide +kernel
theorem dX9_relay_14 : decode cX9_relay 14 = .ok (.ldc 181, 2) := by decide +kernel
theorem dX9_relay_16 : decode cX9_relay 16 = .ok (.invokespecial 138, 3) := by decide +kernel
theorem dX9_relay_19 : decode cX9_relay 19 = .ok (.athrow, 1) := by decide +kernel
theorem dX9_relay_20 : decode cX9_relay 20 = .ok (.aload_n 0, 1) := by decide +kernel
theorem dX9_relay_21 : decode cX9_relay 21 = .ok (.getfield 75, 3) := by decide +kernel
theorem dX9_relay_24 : decode cX9_relay 24 = .ok (.iload_n 1, 1) := by decide +kernel
theorem dX9_relay_25 : decode cX9_relay 25 = .ok (.invokevirtual 183, 3) := by decide +kernel
theorem dX9_relay_28 : decode cX9_relay 28 = .ok (.ireturn, 1) := by decide +kernel
theorem dX9_event_0 : decode cX9_event 0 = .ok (.iload_n 1, 1) := by decide +kernel
theorem dX9_event_1 : decode cX9_event 1 = .ok (.iconst 1, 1) := by decide +kernel
theorem dX9_event_2 : decode cX9_event 2 = .ok (.if_icmp .lt 8, 3) := by decide +kernel
theorem dX9_event_5 : decode cX9_event 5 = .ok (.iload_n 1, 1) := by decide +kernel
theorem dX9_event_6 : decode cX9_event 6 = .ok (.iconst 3, 1) := by decide +kernel
theorem dX9_event_7 : decode cX9_event 7 = .ok (.if_icmp .le 13, 3) := by decide +kernel
theorem dX9_event_10 : decode cX9_event 10 = .ok (.new 134, 3) := by decide +kernel
theorem dX9_event_13 : decode cX9_event 13 = .ok (.dup, 1) := by decide +kernel
theorem dX9_event_14 : decode cX9_event 14 = .ok (.ldc 160, 2) := by decide +kernel
theorem dX9_event_16 : decode cX9_event 16 = .ok (.invokespecial 138, 3) := by decide +kernel
theorem dX9_event_19 : decode cX9_event 19 = .ok (.athrow, 1) := by decide +kernel
theorem dX9_event_20 : decode cX9_event 20 = .ok (.aload_n 0, 1) := by decide +kernel
theorem dX9_event_21 : decode cX9_event 21 = .ok (.getfield 68, 3) := by decide +kernel
theorem dX9_event_24 : decode cX9_event 24 = .ok (.iload_n 1, 1) := by decide +kernel
theorem dX9_event_25 : decode cX9_event 25 = .ok (.invokevirtual 186, 3) := by decide +kernel
theorem dX9_event_28 : decode cX9_event 28 = .ok (.astore 4, 2) := by decide +kernel
theorem dX9_event_30 : decode cX9_event 30 = .ok (.iload_n 2, 1) := by decide +kernel
theorem dX9_event_31 : decode cX9_event 31 = .ok (.ifCond .lt 12, 3) := by decide +kernel
theorem dX9_event_34 : decode cX9_event 34 = .ok (.iload_n 2, 1) := by decide +kernel
theorem dX9_event_35 : decode cX9_event 35 = .ok (.aload 4, 2) := by decide +kernel
theorem dX9_event_37 : decode cX9_event 37 = .ok (.invokevirtual 190, 3) := by decide +kernel
theorem dX9_event_40 : decode cX9_event 40 = .ok (.if_icmp .lt 13, 3) := by decide +kernel
theorem dX9_event_43 : decode cX9_event 43 = .ok (.new 134, 3) := by decide +kernel
theorem dX9_event_46 : decode cX9_event 46 = .ok (.dup, 1) := by decide +kernel
theorem dX9_event_47 : decode cX9_event 47 = .ok (.ldc 193, 2) := by decide +kernel
theorem dX9_event_49 : decode cX9_event 49 = .ok (.invokespecial 138, 3) := by decide +kernel
theorem dX9_event_52 : decode cX9_event 52 = .ok (.athrow, 1) := by decide +kernel
theorem dX9_event_53 : decode cX9_event 53 = .ok (.iload_n 3, 1) := by decide +kernel
theorem dX9_event_54 : decode cX9_event 54 = .ok (.tableswitch 47 0 2 #[26, 33, 40], 26) := by decide +kernel
theorem dX9_event_80 : decode cX9_event 80 = .ok (.aload 4, 2) := by decide +kernel
theorem dX9_event_82 : decode cX9_event 82 = .ok (.iload_n 2, 1) := by decide +kernel
theorem dX9_event_83 : decode cX9_event 83 = .ok (.invokevirtual 195, 3) := by decide +kernel
theorem dX9_event_86 : decode cX9_event 86 = .ok (.ireturn, 1) := by decide +kernel
theorem dX9_event_87 : decode cX9_event 87 = .ok (.aload 4, 2) := by decide +kernel
theorem dX9_event_89 : decode cX9_event 89 = .ok (.iload_n 2, 1) := by decide +kernel
theorem dX9_event_90 : decode cX9_event 90 = .ok (.invokevirtual 198, 3) := by decide +kernel
theorem dX9_event_93 : decode cX9_event 93 = .ok (.ireturn, 1) := by decide +kernel
theorem dX9_event_94 : decode cX9_event 94 = .ok (.aload 4, 2) := by decide +kernel
theorem dX9_event_96 : decode cX9_event 96 = .ok (.iload_n 2, 1) := by decide +kernel
theorem dX9_event_97 : decode cX9_event 97 = .ok (.invokevirtual 201, 3) := by decide +kernel
theorem dX9_event_100 : decode cX9_event 100 = .ok (.ireturn, 1) := by decide +kernel
theorem dX9_event_101 : decode cX9_event 101 = .ok (.new 134, 3) := by decide +kernel
theorem dX9_event_104 : decode cX9_event 104 = .ok (.dup, 1) := by decide +kernel
theorem dX9_event_105 : decode cX9_event 105 = .ok (.ldc 204, 2) := by decide +kernel
theorem dX9_event_107 : decode cX9_event 107 = .ok (.invokespecial 138, 3) := by decide +kernel
theorem dX9_event_110 : decode cX9_event 110 = .ok (.athrow, 1) := by decide +kernel
theorem dX9_check_0 : decode cX9_check 0 = .ok (.iload_n 2, 1) := by decide +kernel
theorem dX9_check_1 : decode cX9_check 1 = .ok (.ifCond .lt 10, 3) := by decide +kernel
theorem dX9_check_4 : decode cX9_check 4 = .ok (.iload_n 2, 1) := by decide +kernel
theorem dX9_check_5 : decode cX9_check 5 = .ok (.sipush 300, 3) := by decide +kernel
theorem dX9_check_8 : decode cX9_check 8 = .ok (.if_icmp .le 13, 3) := by decide +kernel
theorem dX9_check_11 : decode cX9_check 11 = .ok (.new 94, 3) := by decide +kernel
theorem dX9_check_14 : decode cX9_check 14 = .ok (.dup, 1) := by decide +kernel
theorem dX9_check_15 : decode cX9_check 15 = .ok (.ldc 206, 2) := by decide +kernel
theorem dX9_check_17 : decode cX9_check 17 = .ok (.invokespecial 98, 3) := by decide +kernel
theorem dX9_check_20 : decode cX9_check 20 = .ok (.athrow, 1) := by decide +kernel
theorem dX9_check_21 : decode cX9_check 21 = .ok (.iconst 0, 1) := by decide +kernel
theorem dX9_check_22 : decode cX9_check 22 = .ok (.istore_n 3, 1) := by decide +kernel
theorem dX9_check_23 : decode cX9_check 23 = .ok (.iconst 0, 1) := by decide +kernel
theorem dX9_check_24 : decode cX9_check 24 = .ok (.istore 4, 2) := by decide +kernel
theorem dX9_check_26 : decode cX9_check 26 = .ok (.iload 4, 2) := by decide +kernel
theorem dX9_check_28 : decode cX9_check 28 = .ok (.iload_n 2, 1) := by decide +kernel
theorem dX9_check_29 : decode cX9_check 29 = .ok (.if_icmp .ge 22, 3) := by decide +kernel
theorem dX9_check_32 : decode cX9_check 32 = .ok (.iload_n 3, 1) := by decide +kernel
theorem dX9_check_33 : decode cX9_check 33 = .ok (.iload_n 1, 1) := by decide +kernel
theorem dX9_check_34 : decode cX9_check 34 = .ok (.iload 4, 2) := by decide +kernel
theorem dX9_check_36 : decode cX9_check 36 = .ok (.iadd, 1) := by decide +kernel
theorem dX9_check_37 : decode cX9_check 37 = .ok (.sipush 255, 3) := by decide +kernel
theorem dX9_check_40 : decode cX9_check 40 = .ok (.iand, 1) := by decide +kernel
theorem dX9_check_41 : decode cX9_check 41 = .ok (.invokestatic 208, 3) := by decide +kernel
theorem dX9_check_44 : decode cX9_check 44 = .ok (.istore_n 3, 1) := by decide +kernel
theorem dX9_check_45 : decode cX9_check 45 = .ok (.iinc 4 1, 3) := by decide +kernel
theorem dX9_check_48 : decode cX9_check 48 = .ok (.goto (-22), 3) := by decide +kernel
theorem dX9_check_51 : decode cX9_check 51 = .ok (.iload_n 3, 1) := by decide +kernel
theorem dX9_check_52 : decode cX9_check 52 = .ok (.ldc 9, 2) := by decide +kernel
theorem dX9_check_54 : decode cX9_check 54 = .ok (.ixor, 1) := by decide +kernel
theorem dX9_check_55 : decode cX9_check 55 = .ok (.ireturn, 1) := by decide +kernel
theorem dX9_count_0 : decode cX9_count 0 = .ok (.iload_n 1, 1) := by decide +kernel
theorem dX9_count_1 : decode cX9_count 1 = .ok (.tableswitch 166 0 12 #[67, 75, 82, 89, 96, 101, 109, 117, 117, 117, 132, 145, 161], 67) := by decide +kernel
theorem dX9_count_68 : decode cX9_count 68 = .ok (.aload_n 0, 1) := by decide +kernel
theorem dX9_count_69 : decode cX9_count 69 = .ok (.getfield 43, 3) := by decide +kernel
theorem dX9_count_72 : decode cX9_count 72 = .ok (.invokevirtual 171, 3) := by decide +kernel
theorem dX9_count_75 : decode cX9_count 75 = .ok (.ireturn, 1) := by decide +kernel
theorem dX9_count_76 : decode cX9_count 76 = .ok (.aload_n 0, 1) := by decide +kernel
theorem dX9_count_77 : decode cX9_count 77 = .ok (.getfield 79, 3) := by decide +kernel
theorem dX9_count_80 : decode cX9_count 80 = .ok (.iconst 3, 1) := by decide +kernel
theorem dX9_count_81 : decode cX9_count 81 = .ok (.iaload, 1) := by decide +kernel
theorem dX9_count_82 : decode cX9_count 82 = .ok (.ireturn, 1) := by decide +kernel
theorem dX9_count_83 : decode cX9_count 83 = .ok (.aload_n 0, 1) := by decide +kernel
theorem dX9_count_84 : decode cX9_count 84 = .ok (.getfield 79, 3) := by decide +kernel
theorem dX9_count_87 : decode cX9_count 87 = .ok (.iconst 1, 1) := by decide +kernel
theorem dX9_count_88 : decode cX9_count 88 = .ok (.iaload, 1) := by decide +kernel
theorem dX9_count_89 : decode cX9_count 89 = .ok (.ireturn, 1) := by decide +kernel
theorem dX9_count_90 : decode cX9_count 90 = .ok (.aload_n 0, 1) := by decide +kernel
theorem dX9_count_91 : decode cX9_count 91 = .ok (.getfield 79, 3) := by decide +kernel
theorem dX9_count_94 : decode cX9_count 94 = .ok (.iconst 2, 1) := by decide +kernel
theorem dX9_count_95 : decode cX9_count 95 = .ok (.iaload, 1) := by decide +kernel
theorem dX9_count_96 : decode cX9_count 96 = .ok (.ireturn, 1) := by decide +kernel
theorem dX9_count_97 : decode cX9_count 97 = .ok (.aload_n 0, 1) := by decide +kernel
theorem dX9_count_98 : decode cX9_count 98 = .ok (.getfield 83, 3) := by decide +kernel
theorem dX9_count_101 : decode cX9_count 101 = .ok (.ireturn, 1) := by decide +kernel
theorem dX9_count_102 : decode cX9_count 102 = .ok (.aload_n 0, 1) := by decide +kernel
theorem dX9_count_103 : decode cX9_count 103 = .ok (.getfield 75, 3) := by decide +kernel
theorem dX9_count_106 : decode cX9_count 106 = .ok (.invokevirtual 211, 3) := by decide +kernel
theorem dX9_count_109 : decode cX9_count 109 = .ok (.ireturn, 1) := by decide +kernel
theorem dX9_count_110 : decode cX9_count 110 = .ok (.aload_n 0, 1) := by decide +kernel
theorem dX9_count_111 : decode cX9_count 111 = .ok (.getfield 13, 3) := by decide +kernel
theorem dX9_count_114 : decode cX9_count 114 = .ok (.invokevirtual 214, 3) := by decide +kernel
theorem dX9_count_117 : decode cX9_count 117 = .ok (.ireturn, 1) := by decide +kernel
theorem dX9_count_118 : decode cX9_count 118 = .ok (.aload_n 0, 1) := by decide +kernel
theorem dX9_count_119 : decode cX9_count 119 = .ok (.getfield 68, 3) := by decide +kernel
theorem dX9_count_122 : decode cX9_count 122 = .ok (.iload_n 1, 1) := by decide +kernel
theorem dX9_count_123 : decode cX9_count 123 = .ok (.bipush 6, 2) := by decide +kernel
theorem dX9_count_125 : decode cX9_count 125 = .ok (.isub, 1) := by decide +kernel
theorem dX9_count_126 : decode cX9_count 126 = .ok (.invokevirtual 186, 3) := by decide +kernel
theorem dX9_count_129 : decode cX9_count 129 = .ok (.invokevirtual 190, 3) := by decide +kernel
theorem dX9_count_132 : decode cX9_count 132 = .ok (.ireturn, 1) := by decide +kernel
theorem dX9_count_133 : decode cX9_count 133 = .ok (.aload_n 0, 1) := by decide +kernel
theorem dX9_count_134 : decode cX9_count 134 = .ok (.getfield 90, 3) := by decide +kernel
theorem dX9_count_137 : decode cX9_count 137 = .ok (.ifCond .eq 7, 3) := by decide +kernel
theorem dX9_count_140 : decode cX9_count 140 = .ok (.iconst 1, 1) := by decide +kernel
theorem dX9_count_141 : decode cX9_count 141 = .ok (.goto 4, 3) := by decide +kernel
theorem dX9_count_144 : decode cX9_count 144 = .ok (.iconst 0, 1) := by decide +kernel
theorem dX9_count_145 : decode cX9_count 145 = .ok (.ireturn, 1) := by decide +kernel
theorem dX9_count_146 : decode cX9_count 146 = .ok (.aload_n 0, 1) := by decide +kernel
theorem dX9_count_147 : decode cX9_count 147 = .ok (.getfield 68, 3) := by decide +kernel
theorem dX9_count_150 : decode cX9_count 150 = .ok (.invokevirtual 215, 3) := by decide +kernel
theorem dX9_count_153 : decode cX9_count 153 = .ok (.ifCond .eq 7, 3) := by decide +kernel
theorem dX9_count_156 : decode cX9_count 156 = .ok (.iconst 1, 1) := by decide +kernel
theorem dX9_count_157 : decode cX9_count 157 = .ok (.goto 4, 3) := by decide +kernel
theorem dX9_count_160 : decode cX9_count 160 = .ok (.iconst 0, 1) := by decide +kernel
theorem dX9_count_161 : decode cX9_count 161 = .ok (.ireturn, 1) := by decide +kernel
theorem dX9_count_162 : decode cX9_count 162 = .ok (.aload_n 0, 1) := by decide +kernel
theorem dX9_count_163 : decode cX9_count 163 = .ok (.getfield 87, 3) := by decide +kernel
theorem dX9_count_166 : decode cX9_count 166 = .ok (.ireturn, 1) := by decide +kernel
theorem dX9_count_167 : decode cX9_count 167 = .ok (.new 134, 3) := by decide +kernel
theorem dX9_count_170 : decode cX9_count 170 = .ok (.dup, 1) := by decide +kernel
theorem dX9_count_171 : decode cX9_count 171 = .ok (.ldc 204, 2) := by decide +kernel
theorem dX9_count_173 : decode cX9_count 173 = .ok (.invokespecial 138, 3) := by decide +kernel
theorem dX9_count_176 : decode cX9_count 176 = .ok (.athrow, 1) := by decide +kernel
theorem dX9_isPoint_0 : decode cX9_isPoint 0 = .ok (.iload_n 0, 1) := by decide +kernel
theorem dX9_isPoint_1 : decode cX9_isPoint 1 = .ok (.ifCond .lt 13, 3) := by decide +kernel
theorem dX9_isPoint_4 : decode cX9_isPoint 4 = .ok (.iload_n 0, 1) := by decide +kernel
theorem dX9_isPoint_5 : decode cX9_isPoint 5 = .ok (.bipush 16, 2) := by decide +kernel
theorem dX9_isPoint_7 : decode cX9_isPoint 7 = .ok (.if_icmp .ge 7, 3) := by decide +kernel
theorem dX9_isPoint_10 : decode cX9_isPoint 10 = .ok (.iconst 1, 1) := by decide +kernel
theorem dX9_isPoint_11 : decode cX9_isPoint 11 = .ok (.goto 4, 3) := by decide +kernel
theorem dX9_isPoint_14 : decode cX9_isPoint 14 = .ok (.iconst 0, 1) := by decide +kernel
theorem dX9_isPoint_15 : decode cX9_isPoint 15 = .ok (.ireturn, 1) := by decide +kernel
theorem dX9_stirIn_0 : decode cX9_stirIn 0 = .ok (.iload_n 0, 1) := by decide +kernel
theorem dX9_stirIn_1 : decode cX9_stirIn 1 = .ok (.iload_n 1, 1) := by decide +kernel
theorem dX9_stirIn_2 : decode cX9_stirIn 2 = .ok (.ixor, 1) := by decide +kernel
theorem dX9_stirIn_3 : decode cX9_stirIn 3 = .ok (.istore_n 2, 1) := by decide +kernel
theorem dX9_stirIn_4 : decode cX9_stirIn 4 = .ok (.iconst 0, 1) := by decide +kernel
theorem dX9_stirIn_5 : decode cX9_stirIn 5 = .ok (.istore_n 3, 1) := by decide +kernel
theorem dX9_stirIn_6 : decode cX9_stirIn 6 = .ok (.iload_n 3, 1) := by decide +kernel
theorem dX9_stirIn_7 : decode cX9_stirIn 7 = .ok (.bipush 8, 2) := by decide +kernel
theorem dX9_stirIn_9 : decode cX9_stirIn 9 = .ok (.if_icmp .ge 29, 3) := by decide +kernel
theorem dX9_stirIn_12 : decode cX9_stirIn 12 = .ok (.iload_n 2, 1) := by decide +kernel
theorem dX9_stirIn_13 : decode cX9_stirIn 13 = .ok (.iconst 1, 1) := by decide +kernel
theorem dX9_stirIn_14 : decode cX9_stirIn 14 = .ok (.iand, 1) := by decide +kernel
theorem dX9_stirIn_15 : decode cX9_stirIn 15 = .ok (.iconst 1, 1) := by decide +kernel
theorem dX9_stirIn_16 : decode cX9_stirIn 16 = .ok (.if_icmp .ne 12, 3) := by decide +kernel
theorem dX9_stirIn_19 : decode cX9_stirIn 19 = .ok (.iload_n 2, 1) := by decide +kernel
theorem dX9_stirIn_20 : decode cX9_stirIn 20 = .ok (.iconst 1, 1) := by decide +kernel
theorem dX9_stirIn_21 : decode cX9_stirIn 21 = .ok (.iushr, 1) := by decide +kernel
theorem dX9_stirIn_22 : decode cX9_stirIn 22 = .ok (.ldc 218, 2) := by decide +kernel
theorem dX9_stirIn_24 : decode cX9_stirIn 24 = .ok (.ixor, 1) := by decide +kernel
theorem dX9_stirIn_25 : decode cX9_stirIn 25 = .ok (.goto 6, 3) := by decide +kernel
theorem dX9_stirIn_28 : decode cX9_stirIn 28 = .ok (.iload_n 2, 1) := by decide +kernel
theorem dX9_stirIn_29 : decode cX9_stirIn 29 = .ok (.iconst 1, 1) := by decide +kernel
theorem dX9_stirIn_30 : decode cX9_stirIn 30 = .ok (.iushr, 1) := by decide +kernel
theorem dX9_stirIn_31 : decode cX9_stirIn 31 = .ok (.istore_n 2, 1) := by decide +kernel
theorem dX9_stirIn_32 : decode cX9_stirIn 32 = .ok (.iinc 3 1, 3) := by decide +kernel
theorem dX9_stirIn_35 : decode cX9_stirIn 35 = .ok (.goto (-29), 3) := by decide +kernel
theorem dX9_stirIn_38 : decode cX9_stirIn 38 = .ok (.iload_n 2, 1) := by decide +kernel
theorem dX9_stirIn_39 : decode cX9_stirIn 39 = .ok (.ireturn, 1) := by decide +kernel
theorem dX9_checkOf_0 : decode cX9_checkOf 0 = .ok (.iconst 0, 1) := by decide +kernel
theorem dX9_checkOf_1 : decode cX9_checkOf 1 = .ok (.istore_n 3, 1) := by decide +kernel
theorem dX9_checkOf_2 : decode cX9_checkOf 2 = .ok (.iload_n 1, 1) := by decide +kernel
theorem dX9_checkOf_3 : decode cX9_checkOf 3 = .ok (.istore 4, 2) := by decide +kernel
theorem dX9_checkOf_5 : decode cX9_checkOf 5 = .ok (.iload 4, 2) := by decide +kernel
theorem dX9_checkOf_7 : decode cX9_checkOf 7 = .ok (.iload_n 2, 1) := by decide +kernel
theorem dX9_checkOf_8 : decode cX9_checkOf 8 = .ok (.if_icmp .ge 18, 3) := by decide +kernel
theorem dX9_checkOf_11 : decode cX9_checkOf 11 = .ok (.iload_n 3, 1) := by decide +kernel
theorem dX9_checkOf_12 : decode cX9_checkOf 12 = .ok (.aload_n 0, 1) := by decide +kernel
theorem dX9_checkOf_13 : decode cX9_checkOf 13 = .ok (.iload 4, 2) := by decide +kernel
theorem dX9_checkOf_15 : decode cX9_checkOf 15 = .ok (.iaload, 1) := by decide +kernel
theorem dX9_checkOf_16 : decode cX9_checkOf 16 = .ok (.invokestatic 208, 3) := by decide +kernel
theorem dX9_checkOf_19 : decode cX9_checkOf 19 = .ok (.istore_n 3, 1) := by decide +kernel
theorem dX9_checkOf_20 : decode cX9_checkOf 20 = .ok (.iinc 4 1, 3) := by decide +kernel
theorem dX9_checkOf_23 : decode cX9_checkOf 23 = .ok (.goto (-18), 3) := by decide +kernel
theorem dX9_checkOf_26 : decode cX9_checkOf 26 = .ok (.iload_n 3, 1) := by decide +kernel
theorem dX9_checkOf_27 : decode cX9_checkOf 27 = .ok (.ldc 9, 2) := by decide +kernel
theorem dX9_checkOf_29 : decode cX9_checkOf 29 = .ok (.ixor, 1) := by decide +kernel
theorem dX9_checkOf_30 : decode cX9_checkOf 30 = .ok (.ireturn, 1) := by decide +kernel
theorem dX9_frameLength_0 : decode cX9_frameLength 0 = .ok (.iload_n 0, 1) := by decide +kernel
theorem dX9_frameLength_1 : decode cX9_frameLength 1 = .ok (.bipush 16, 2) := by decide +kernel
theorem dX9_frameLength_3 : decode cX9_frameLength 3 = .ok (.iadd, 1) := by decide +kernel
theorem dX9_frameLength_4 : decode cX9_frameLength 4 = .ok (.iconst 1, 1) := by decide +kernel
theorem dX9_frameLength_5 : decode cX9_frameLength 5 = .ok (.isub, 1) := by decide +kernel
theorem dX9_frameLength_6 : decode cX9_frameLength 6 = .ok (.bipush 16, 2) := by decide +kernel
theorem dX9_frameLength_8 : decode cX9_frameLength 8 = .ok (.idiv, 1) := by decide +kernel
theorem dX9_frameLength_9 : decode cX9_frameLength 9 = .ok (.istore_n 1, 1) := by decide +kernel
theorem dX9_frameLength_10 : decode cX9_frameLength 10 = .ok (.bipush 10, 2) := by decide +kernel
theorem dX9_frameLength_12 : decode cX9_frameLength 12 = .ok (.iload_n 0, 1) := by decide +kernel
theorem dX9_frameLength_13 : decode cX9_frameLength 13 = .ok (.iadd, 1) := by decide +kernel
theorem dX9_frameLength_14 : decode cX9_frameLength 14 = .ok (.iconst 2, 1) := by decide +kernel
theorem dX9_frameLength_15 : decode cX9_frameLength 15 = .ok (.iload_n 1, 1) := by decide +kernel
theorem dX9_frameLength_16 : decode cX9_frameLength 16 = .ok (.imul, 1) := by decide +kernel
theorem dX9_frameLength_17 : decode cX9_frameLength 17 = .ok (.iadd, 1) := by decide +kernel
theorem dX9_frameLength_18 : decode cX9_frameLength 18 = .ok (.ireturn, 1) := by decide +kernel
theorem dX9_completesRequest_0 : decode cX9_completesRequest 0 = .ok (.aload_n 0, 1) := by decide +kernel
theorem dX9_completesRequest_1 : decode cX9_completesRequest 1 = .ok (.getfield 22, 3) := by decide +kernel
theorem dX9_completesRequest_4 : decode cX9_completesRequest 4 = .ok (.aload_n 0, 1) := by decide +kernel
theorem dX9_completesRequest_5 : decode cX9_completesRequest 5 = .ok (.getfield 13, 3) := by decide +kernel
theorem dX9_completesRequest_8 : decode cX9_completesRequest 8 = .ok (.invokevirtual 219, 3) := by decide +kernel
theorem dX9_completesRequest_11 : decode cX9_completesRequest 11 = .ok (.invokevirtual 222, 3) := by decide +kernel
theorem dX9_completesRequest_14 : decode cX9_completesRequest 14 = .ok (.istore_n 1, 1) := by decide +kernel
theorem dX9_completesRequest_15 : decode cX9_completesRequest 15 = .ok (.iload_n 1, 1) := by decide +kernel
theorem dX9_completesRequest_16 : decode cX9_completesRequest 16 = .ok (.iconst (-1), 1) := by decide +kernel
theorem dX9_completesRequest_17 : decode cX9_completesRequest 17 = .ok (.if_icmp .eq 11, 3) := by decide +kernel
theorem dX9_completesRequest_20 : decode cX9_completesRequest 20 = .ok (.aload_n 0, 1) := by decide +kernel
theorem dX9_completesRequest_21 : decode cX9_completesRequest 21 = .ok (.getfield 43, 3) := by decide +kernel
theorem dX9_completesRequest_24 : decode cX9_completesRequest 24 = .ok (.iload_n 1, 1) := by decide +kernel
theorem dX9_completesRequest_25 : decode cX9_completesRequest 25 = .ok (.invokevirtual 225, 3) := by decide +kernel
theorem dX9_completesRequest_28 : decode cX9_completesRequest 28 = .ok (.aload_n 0, 1) := by decide +kernel
theorem dX9_completesRequest_29 : decode cX9_completesRequest 29 = .ok (.getfield 22, 3) := by decide +kernel
theorem dX9_completesRequest_32 : decode cX9_completesRequest 32 = .ok (.invokevirtual 228, 3) := by decide +kernel
theorem dX9_completesRequest_35 : decode cX9_completesRequest 35 = .ok (.ifCond .eq 31, 3) := by decide +kernel
theorem dX9_completesRequest_38 : decode cX9_completesRequest 38 = .ok (.aload_n 0, 1) := by decide +kernel
theorem dX9_completesRequest_39 : decode cX9_completesRequest 39 = .ok (.getfield 29, 3) := by decide +kernel
theorem dX9_completesRequest_42 : decode cX9_completesRequest 42 = .ok (.aload_n 0, 1) := by decide +kernel
theorem dX9_completesRequest_43 : decode cX9_completesRequest 43 = .ok (.getfield 13, 3) := by decide +kernel
theorem dX9_completesRequest_46 : decode cX9_completesRequest 46 = .ok (.invokevirtual 231, 3) := by decide +kernel
theorem dX9_completesRequest_49 : decode cX9_completesRequest 49 = .ok (.aload_n 0, 1) := by decide +kernel
theorem dX9_completesRequest_50 : decode cX9_completesRequest 50 = .ok (.getfield 13, 3) := by decide +kernel
theorem dX9_completesRequest_53 : decode cX9_completesRequest 53 = .ok (.invokevirtual 234, 3) := by decide +kernel
theorem dX9_completesRequest_56 : decode cX9_completesRequest 56 = .ok (.invokevirtual 237, 3) := by decide +kernel
theorem dX9_completesRequest_59 : decode cX9_completesRequest 59 = .ok (.ifCond .eq 7, 3) := by decide +kernel
theorem dX9_completesRequest_62 : decode cX9_completesRequest 62 = .ok (.iconst 1, 1) := by decide +kernel
theorem dX9_completesRequest_63 : decode cX9_completesRequest 63 = .ok (.goto 4, 3) := by decide +kernel
theorem dX9_completesRequest_66 : decode cX9_completesRequest 66 = .ok (.iconst 0, 1) := by decide +kernel
theorem dX9_completesRequest_67 : decode cX9_completesRequest 67 = .ok (.ireturn, 1) := by decide +kernel
theorem dX9_needsNewAnswer_0 : decode cX9_needsNewAnswer 0 = .ok (.aload_n 0, 1) := by decide +kernel
theorem dX9_needsNewAnswer_1 : decode cX9_needsNewAnswer 1 = .ok (.dup, 1) := by decide +kernel
theorem dX9_needsNewAnswer_2 : decode cX9_needsNewAnswer 2 = .ok (.getfield 83, 3) := by decide +kernel
theorem dX9_needsNewAnswer_5 : decode cX9_needsNewAnswer 5 = .ok (.iconst 1, 1) := by decide +kernel
theorem dX9_needsNewAnswer_6 : decode cX9_needsNewAnswer 6 = .ok (.iadd, 1) := by decide +kernel
theorem dX9_needsNewAnswer_7 : decode cX9_needsNewAnswer 7 = .ok (.putfield 83, 3) := by decide +kernel
theorem dX9_needsNewAnswer_10 : decode cX9_needsNewAnswer 10 = .ok (.aload_n 0, 1) := by decide +kernel
theorem dX9_needsNewAnswer_11 : decode cX9_needsNewAnswer 11 = .ok (.getfield 36, 3) := by decide +kernel
theorem dX9_needsNewAnswer_14 : decode cX9_needsNewAnswer 14 = .ok (.aload_n 1, 1) := by decide +kernel
theorem dX9_needsNewAnswer_15 : decode cX9_needsNewAnswer 15 = .ok (.iload_n 2, 1) := by decide +kernel
theorem dX9_needsNewAnswer_16 : decode cX9_needsNewAnswer 16 = .ok (.invokevirtual 240, 3) := by decide +kernel
theorem dX9_needsNewAnswer_19 : decode cX9_needsNewAnswer 19 = .ok (.ifCond .eq 16, 3) := by decide +kernel
theorem dX9_needsNewAnswer_22 : decode cX9_needsNewAnswer 22 = .ok (.aload_n 0, 1) := by decide +kernel
theorem dX9_needsNewAnswer_23 : decode cX9_needsNewAnswer 23 = .ok (.getfield 43, 3) := by decide +kernel
theorem dX9_needsNewAnswer_26 : decode cX9_needsNewAnswer 26 = .ok (.aload_n 0, 1) := by decide +kernel
theorem dX9_needsNewAnswer_27 : decode cX9_needsNewAnswer 27 = .ok (.getfield 36, 3) := by decide +kernel
theorem dX9_needsNewAnswer_30 : decode cX9_needsNewAnswer 30 = .ok (.invokevirtual 243, 3) := by decide +kernel
theorem dX9_needsNewAnswer_33 : decode cX9_needsNewAnswer 33 = .ok (.iconst 0, 1) := by decide +kernel
theorem dX9_needsNewAnswer_34 : decode cX9_needsNewAnswer 34 = .ok (.ireturn, 1) := by decide +kernel
theorem dX9_needsNewAnswer_35 : decode cX9_needsNewAnswer 35 = .ok (.aload_n 1, 1) := by decide +kernel
theorem dX9_needsNewAnswer_36 : decode cX9_needsNewAnswer 36 = .ok (.iconst 1, 1) := by decide +kernel
theorem dX9_needsNewAnswer_37 : decode cX9_needsNewAnswer 37 = .ok (.iaload, 1) := by decide +kernel
theorem dX9_needsNewAnswer_38 : decode cX9_needsNewAnswer 38 = .ok (.ifCond .ne 18, 3) := by decide +kernel
theorem dX9_needsNewAnswer_41 : decode cX9_needsNewAnswer 41 = .ok (.aload_n 0, 1) := by decide +kernel
theorem dX9_needsNewAnswer_42 : decode cX9_needsNewAnswer 42 = .ok (.getfield 68, 3) := by decide +kernel
theorem dX9_needsNewAnswer_45 : decode cX9_needsNewAnswer 45 = .ok (.aload_n 1, 1) := by decide +kernel
theorem dX9_needsNewAnswer_46 : decode cX9_needsNewAnswer 46 = .ok (.iconst 0, 1) := by decide +kernel
theorem dX9_needsNewAnswer_47 : decode cX9_needsNewAnswer 47 = .ok (.iaload, 1) := by decide +kernel
theorem dX9_needsNewAnswer_48 : decode cX9_needsNewAnswer 48 = .ok (.bipush 15, 2) := by decide +kernel
theorem dX9_needsNewAnswer_50 : decode cX9_needsNewAnswer 50 = .ok (.iand, 1) := by decide +kernel
theorem dX9_needsNewAnswer_51 : decode cX9_needsNewAnswer 51 = .ok (.invokevirtual 247, 3) := by decide +kernel
theorem dX9_needsNewAnswer_54 : decode cX9_needsNewAnswer 54 = .ok (.iconst 0, 1) := by decide +kernel
theorem dX9_needsNewAnswer_55 : decode cX9_needsNewAnswer 55 = .ok (.ireturn, 1) := by decide +kernel
theorem dX9_needsNewAnswer_56 : decode cX9_needsNewAnswer 56 = .ok (.iconst 1, 1) := by decide +kernel
theorem dX9_needsNewAnswer_57 : decode cX9_needsNewAnswer 57 = .ok (.ireturn, 1) := by decide +kernel
theorem dX9_answerRequest_0 : decode cX9_answerRequest 0 = .ok (.aload_n 1, 1) := by decide +kernel
theorem dX9_answerRequest_1 : decode cX9_answerRequest 1 = .ok (.iconst 0, 1) := by decide +kernel
theorem dX9_answerRequest_2 : decode cX9_answerRequest 2 = .ok (.iaload, 1) := by decide +kernel
theorem dX9_answerRequest_3 : decode cX9_answerRequest 3 = .ok (.bipush 15, 2) := by decide +kernel
theorem dX9_answerRequest_5 : decode cX9_answerRequest 5 = .ok (.iand, 1) := by decide +kernel
theorem dX9_answerRequest_6 : decode cX9_answerRequest 6 = .ok (.istore_n 3, 1) := by decide +kernel
theorem dX9_answerRequest_7 : decode cX9_answerRequest 7 = .ok (.aload_n 1, 1) := by decide +kernel
theorem dX9_answerRequest_8 : decode cX9_answerRequest 8 = .ok (.iconst 1, 1) := by decide +kernel
theorem dX9_answerRequest_9 : decode cX9_answerRequest 9 = .ok (.iaload, 1) := by decide +kernel
theorem dX9_answerRequest_10 : decode cX9_answerRequest 10 = .ok (.istore 4, 2) := by decide +kernel
theorem dX9_answerRequest_12 : decode cX9_answerRequest 12 = .ok (.iload 4, 2) := by decide +kernel
theorem dX9_answerRequest_14 : decode cX9_answerRequest 14 = .ok (.iconst 4, 1) := by decide +kernel
theorem dX9_answerRequest_15 : decode cX9_answerRequest 15 = .ok (.if_icmp .eq 10, 3) := by decide +kernel
theorem dX9_answerRequest_18 : decode cX9_answerRequest 18 = .ok (.aload_n 0, 1) := by decide +kernel
theorem dX9_answerRequest_19 : decode cX9_answerRequest 19 = .ok (.getfield 75, 3) := by decide +kernel
theorem dX9_answerRequest_22 : decode cX9_answerRequest 22 = .ok (.invokevirtual 250, 3) := by decide +kernel
theorem dX9_answerRequest_25 : decode cX9_answerRequest 25 = .ok (.aload_n 0, 1) := by decide +kernel
theorem dX9_answerRequest_26 : decode cX9_answerRequest 26 = .ok (.getfield 68, 3) := by decide +kernel
theorem dX9_answerRequest_29 : decode cX9_answerRequest 29 = .ok (.invokevirtual 253, 3) := by decide +kernel
theorem dX9_answerRequest_32 : decode cX9_answerRequest 32 = .ok (.aload_n 0, 1) := by decide +kernel
theorem dX9_answerRequest_33 : decode cX9_answerRequest 33 = .ok (.getfield 36, 3) := by decide +kernel
theorem dX9_answerRequest_36 : decode cX9_answerRequest 36 = .ok (.aload_n 1, 1) := by decide +kernel
theorem dX9_answerRequest_37 : decode cX9_answerRequest 37 = .ok (.iload_n 2, 1) := by decide +kernel
theorem dX9_answerRequest_38 : decode cX9_answerRequest 38 = .ok (.invokevirtual 256, 3) := by decide +kernel
theorem dX9_answerRequest_41 : decode cX9_answerRequest 41 = .ok (.iload 4, 2) := by decide +kernel
theorem dX9_answerRequest_43 : decode cX9_answerRequest 43 = .ok (.tableswitch 62 1 5 #[33, 42, 51, 51, 51], 33) := by decide +kernel
theorem dX9_answerRequest_76 : decode cX9_answerRequest 76 = .ok (.aload_n 0, 1) := by decide +kernel
theorem dX9_answerRequest_77 : decode cX9_answerRequest 77 = .ok (.aload_n 1, 1) := by decide +kernel
theorem dX9_answerRequest_78 : decode cX9_answerRequest 78 = .ok (.iload_n 2, 1) := by decide +kernel
theorem dX9_answerRequest_79 : decode cX9_answerRequest 79 = .ok (.invokevirtual 259, 3) := by decide +kernel
theorem dX9_answerRequest_82 : decode cX9_answerRequest 82 = .ok (.goto 31, 3) := by decide +kernel
theorem dX9_answerRequest_85 : decode cX9_answerRequest 85 = .ok (.aload_n 0, 1) := by decide +kernel
theorem dX9_answerRequest_86 : decode cX9_answerRequest 86 = .ok (.aload_n 1, 1) := by decide +kernel
theorem dX9_answerRequest_87 : decode cX9_answerRequest 87 = .ok (.iload_n 2, 1) := by decide +kernel
theorem dX9_answerRequest_88 : decode cX9_answerRequest 88 = .ok (.invokevirtual 262, 3) := by decide +kernel
theorem dX9_answerRequest_91 : decode cX9_answerRequest 91 = .ok (.goto 22, 3) := by decide +kernel
theorem dX9_answerRequest_94 : decode cX9_answerRequest 94 = .ok (.aload_n 0, 1) := by decide +kernel
theorem dX9_answerRequest_95 : decode cX9_answerRequest 95 = .ok (.iload 4, 2) := by decide +kernel
theorem dX9_answerRequest_97 : decode cX9_answerRequest 97 = .ok (.aload_n 1, 1) := by decide +kernel
theorem dX9_answerRequest_98 : decode cX9_answerRequest 98 = .ok (.iload_n 2, 1) := by decide +kernel
theorem dX9_answerRequest_99 : decode cX9_answerRequest 99 = .ok (.invokevirtual 265, 3) := by decide +kernel
theorem dX9_answerRequest_102 : decode cX9_answerRequest 102 = .ok (.goto 11, 3) := by decide +kernel
theorem dX9_answerRequest_105 : decode cX9_answerRequest 105 = .ok (.aload_n 0, 1) := by decide +kernel
theorem dX9_answerRequest_106 : decode cX9_answerRequest 106 = .ok (.getfield 36, 3) := by decide +kernel
theorem dX9_answerRequest_109 : decode cX9_answerRequest 109 = .ok (.iconst 1, 1) := by decide +kernel
theorem dX9_answerRequest_110 : decode cX9_answerRequest 110 = .ok (.invokevirtual 268, 3) := by decide +kernel
theorem dX9_answerRequest_113 : decode cX9_answerRequest 113 = .ok (.aload_n 0, 1) := by decide +kernel
theorem dX9_answerRequest_114 : decode cX9_answerRequest 114 = .ok (.getfield 36, 3) := by decide +kernel
theorem dX9_answerRequest_117 : decode cX9_answerRequest 117 = .ok (.invokevirtual 271, 3) := by decide +kernel
theorem dX9_answerRequest_120 : decode cX9_answerRequest 120 = .ok (.ifCond .eq 11, 3) := by decide +kernel
theorem dX9_answerRequest_123 : decode cX9_answerRequest 123 = .ok (.aload_n 0, 1) := by decide +kernel
theorem dX9_answerRequest_124 : decode cX9_answerRequest 124 = .ok (.getfield 68, 3) := by decide +kernel
theorem dX9_answerRequest_127 : decode cX9_answerRequest 127 = .ok (.iload_n 3, 1) := by decide +kernel
theorem dX9_answerRequest_128 : decode cX9_answerRequest 128 = .ok (.invokevirtual 274, 3) := by decide +kernel
theorem dX9_answerRequest_131 : decode cX9_answerRequest 131 = .ok (.aload_n 0, 1) := by decide +kernel
theorem dX9_answerRequest_132 : decode cX9_answerRequest 132 = .ok (.getfield 36, 3) := by decide +kernel
theorem dX9_answerRequest_135 : decode cX9_answerRequest 135 = .ok (.iload_n 3, 1) := by decide +kernel
theorem dX9_answerRequest_136 : decode cX9_answerRequest 136 = .ok (.aload_n 0, 1) := by decide +kernel
theorem dX9_answerRequest_137 : decode cX9_answerRequest 137 = .ok (.getfield 68, 3) := by decide +kernel
theorem dX9_answerRequest_140 : decode cX9_answerRequest 140 = .ok (.invokevirtual 277, 3) := by decide +kernel
theorem dX9_answerRequest_143 : decode cX9_answerRequest 143 = .ok (.aload_n 0, 1) := by decide +kernel
theorem dX9_answerRequest_144 : decode cX9_answerRequest 144 = .ok (.getfield 90, 3) := by decide +kernel
theorem dX9_answerRequest_147 : decode cX9_answerRequest 147 = .ok (.ifCond .eq 9, 3) := by decide +kernel
theorem dX9_answerRequest_150 : decode cX9_answerRequest 150 = .ok (.sipush 128, 3) := by decide +kernel
theorem dX9_answerRequest_153 : decode cX9_answerRequest 153 = .ok (.goto 4, 3) := by decide +kernel
theorem dX9_answerRequest_156 : decode cX9_answerRequest 156 = .ok (.iconst 0, 1) := by decide +kernel
theorem dX9_answerRequest_157 : decode cX9_answerRequest 157 = .ok (.ior, 1) := by decide +kernel
theorem dX9_answerRequest_158 : decode cX9_answerRequest 158 = .ok (.aload_n 0, 1) := by decide +kernel
theorem dX9_answerRequest_159 : decode cX9_answerRequest 159 = .ok (.getfield 68, 3) := by decide +kernel
theorem dX9_answerRequest_162 : decode cX9_answerRequest 162 = .ok (.invokevirtual 215, 3) := by decide +kernel
theorem dX9_answerRequest_165 : decode cX9_answerRequest 165 = .ok (.invokevirtual 280, 3) := by decide +kernel
theorem dX9_answerRequest_168 : decode cX9_answerRequest 168 = .ok (.aload_n 0, 1) := by decide +kernel
theorem dX9_answerRequest_169 : decode cX9_answerRequest 169 = .ok (.getfield 43, 3) := by decide +kernel
theorem dX9_answerRequest_172 : decode cX9_answerRequest 172 = .ok (.aload_n 0, 1) := by decide +kernel
theorem dX9_answerRequest_173 : decode cX9_answerRequest 173 = .ok (.getfield 36, 3) := by decide +kernel
theorem dX9_answerRequest_176 : decode cX9_answerRequest 176 = .ok (.invokevirtual 243, 3) := by decide +kernel
theorem dX9_answerRequest_179 : decode cX9_answerRequest 179 = .ok (.return_, 1) := by decide +kernel
theorem dX9_read_0 : decode cX9_read 0 = .ok (.iconst 2, 1) := by decide +kernel
theorem dX9_read_1 : decode cX9_read 1 = .ok (.istore_n 3, 1) := by decide +kernel
theorem dX9_read_2 : decode cX9_read 2 = .ok (.iload_n 3, 1) := by decide +kernel
theorem dX9_read_3 : decode cX9_read 3 = .ok (.iload_n 2, 1) := by decide +kernel
theorem dX9_read_4 : decode cX9_read 4 = .ok (.if_icmp .ge 47, 3) := by decide +kernel
theorem dX9_read_7 : decode cX9_read 7 = .ok (.iload_n 3, 1) := by decide +kernel
theorem dX9_read_8 : decode cX9_read 8 = .ok (.iconst 3, 1) := by decide +kernel
theorem dX9_read_9 : decode cX9_read 9 = .ok (.iadd, 1) := by decide +kernel
theorem dX9_read_10 : decode cX9_read 10 = .ok (.iload_n 2, 1) := by decide +kernel
theorem dX9_read_11 : decode cX9_read 11 = .ok (.if_icmp .gt 13, 3) := by decide +kernel
theorem dX9_read_14 : decode cX9_read 14 = .ok (.aload_n 1, 1) := by decide +kernel
theorem dX9_read_15 : decode cX9_read 15 = .ok (.iload_n 3, 1) := by decide +kernel
theorem dX9_read_16 : decode cX9_read 16 = .ok (.iconst 2, 1) := by decide +kernel
theorem dX9_read_17 : decode cX9_read 17 = .ok (.iadd, 1) := by decide +kernel
theorem dX9_read_18 : decode cX9_read 18 = .ok (.iaload, 1) := by decide +kernel
theorem dX9_read_19 : decode cX9_read 19 = .ok (.bipush 6, 2) := by decide +kernel
theorem dX9_read_21 : decode cX9_read 21 = .ok (.if_icmp .eq 12, 3) := by decide +kernel
theorem dX9_read_24 : decode cX9_read 24 = .ok (.aload_n 0, 1) := by decide +kernel
theorem dX9_read_25 : decode cX9_read 25 = .ok (.getfield 36, 3) := by decide +kernel
theorem dX9_read_28 : decode cX9_read 28 = .ok (.iconst 4, 1) := by decide +kernel
theorem dX9_read_29 : decode cX9_read 29 = .ok (.invokevirtual 268, 3) := by decide +kernel
theorem dX9_read_32 : decode cX9_read 32 = .ok (.return_, 1) := by decide +kernel
theorem dX9_read_33 : decode cX9_read 33 = .ok (.aload_n 0, 1) := by decide +kernel
theorem dX9_read_34 : decode cX9_read 34 = .ok (.aload_n 1, 1) := by decide +kernel
theorem dX9_read_35 : decode cX9_read 35 = .ok (.iload_n 3, 1) := by decide +kernel
theorem dX9_read_36 : decode cX9_read 36 = .ok (.iaload, 1) := by decide +kernel
theorem dX9_read_37 : decode cX9_read 37 = .ok (.aload_n 1, 1) := by decide +kernel
theorem dX9_read_38 : decode cX9_read 38 = .ok (.iload_n 3, 1) := by decide +kernel
theorem dX9_read_39 : decode cX9_read 39 = .ok (.iconst 1, 1) := by decide +kernel
theorem dX9_read_40 : decode cX9_read 40 = .ok (.iadd, 1) := by decide +kernel
theorem dX9_read_41 : decode cX9_read 41 = .ok (.iaload, 1) := by decide +kernel
theorem dX9_read_42 : decode cX9_read 42 = .ok (.invokevirtual 284, 3) := by decide +kernel
theorem dX9_read_45 : decode cX9_read 45 = .ok (.iinc 3 3, 3) := by decide +kernel
theorem dX9_read_48 : decode cX9_read 48 = .ok (.goto (-46), 3) := by decide +kernel
theorem dX9_read_51 : decode cX9_read 51 = .ok (.return_, 1) := by decide +kernel
theorem dX9_readObject_0 : decode cX9_readObject 0 = .ok (.iload_n 2, 1) := by decide +kernel
theorem dX9_readObject_1 : decode cX9_readObject 1 = .ok (.ifCond .eq 8, 3) := by decide +kernel
theorem dX9_readObject_4 : decode cX9_readObject 4 = .ok (.iload_n 2, 1) := by decide +kernel
theorem dX9_readObject_5 : decode cX9_readObject 5 = .ok (.iconst 2, 1) := by decide +kernel
theorem dX9_readObject_6 : decode cX9_readObject 6 = .ok (.if_icmp .ne 7, 3) := by decide +kernel
theorem dX9_readObject_9 : decode cX9_readObject 9 = .ok (.iconst 1, 1) := by decide +kernel
theorem dX9_readObject_10 : decode cX9_readObject 10 = .ok (.goto 4, 3) := by decide +kernel
theorem dX9_readObject_13 : decode cX9_readObject 13 = .ok (.iconst 0, 1) := by decide +kernel
theorem dX9_readObject_14 : decode cX9_readObject 14 = .ok (.istore_n 3, 1) := by decide +kernel
theorem dX9_readObject_15 : decode cX9_readObject 15 = .ok (.iload_n 1, 1) := by decide +kernel
theorem dX9_readObject_16 : decode cX9_readObject 16 = .ok (.bipush 60, 2) := by decide +kernel
theorem dX9_readObject_18 : decode cX9_readObject 18 = .ok (.if_icmp .ne 33, 3) := by decide +kernel
theorem dX9_readObject_21 : decode cX9_readObject 21 = .ok (.iload_n 2, 1) := by decide +kernel
theorem dX9_readObject_22 : decode cX9_readObject 22 = .ok (.iconst 1, 1) := by decide +kernel
theorem dX9_readObject_23 : decode cX9_readObject 23 = .ok (.if_icmp .ne 28, 3) := by decide +kernel
theorem dX9_readObject_26 : decode cX9_readObject 26 = .ok (.aload_n 0, 1) := by decide +kernel
theorem dX9_readObject_27 : decode cX9_readObject 27 = .ok (.getfield 36, 3) := by decide +kernel
theorem dX9_readObject_30 : decode cX9_readObject 30 = .ok (.aload_n 0, 1) := by decide +kernel
theorem dX9_readObject_31 : decode cX9_readObject 31 = .ok (.getfield 50, 3) := by decide +kernel
theorem dX9_readObject_34 : decode cX9_readObject 34 = .ok (.invokevirtual 287, 3) := by decide +kernel
theorem dX9_readObject_37 : decode cX9_readObject 37 = .ok (.aload_n 0, 1) := by decide +kernel
theorem dX9_readObject_38 : decode cX9_readObject 38 = .ok (.getfield 36, 3) := by decide +kernel
theorem dX9_readObject_41 : decode cX9_readObject 41 = .ok (.aload_n 0, 1) := by decide +kernel
theorem dX9_readObject_42 : decode cX9_readObject 42 = .ok (.getfield 50, 3) := by decide +kernel
theorem dX9_readObject_45 : decode cX9_readObject 45 = .ok (.invokevirtual 291, 3) := by decide +kernel
theorem dX9_readObject_48 : decode cX9_readObject 48 = .ok (.goto 94, 3) := by decide +kernel
theorem dX9_readObject_51 : decode cX9_readObject 51 = .ok (.iload_n 1, 1) := by decide +kernel
theorem dX9_readObject_52 : decode cX9_readObject 52 = .ok (.iconst 1, 1) := by decide +kernel
theorem dX9_readObject_53 : decode cX9_readObject 53 = .ok (.if_icmp .ne 21, 3) := by decide +kernel
theorem dX9_readObject_56 : decode cX9_readObject 56 = .ok (.iload_n 3, 1) := by decide +kernel
theorem dX9_readObject_57 : decode cX9_readObject 57 = .ok (.ifCond .eq 17, 3) := by decide +kernel
theorem dX9_readObject_60 : decode cX9_readObject 60 = .ok (.aload_n 0, 1) := by decide +kernel
theorem dX9_readObject_61 : decode cX9_readObject 61 = .ok (.getfield 36, 3) := by decide +kernel
theorem dX9_readObject_64 : decode cX9_readObject 64 = .ok (.aload_n 0, 1) := by decide +kernel
theorem dX9_readObject_65 : decode cX9_readObject 65 = .ok (.getfield 50, 3) := by decide +kernel
theorem dX9_readObject_68 : decode cX9_readObject 68 = .ok (.invokevirtual 287, 3) := by decide +kernel
theorem dX9_readObject_71 : decode cX9_readObject 71 = .ok (.goto 71, 3) := by decide +kernel
theorem dX9_readObject_74 : decode cX9_readObject 74 = .ok (.iload_n 1, 1) := by decide +kernel
theorem dX9_readObject_75 : decode cX9_readObject 75 = .ok (.bipush 30, 2) := by decide +kernel
theorem dX9_readObject_77 : decode cX9_readObject 77 = .ok (.if_icmp .ne 21, 3) := by decide +kernel
theorem dX9_readObject_80 : decode cX9_readObject 80 = .ok (.iload_n 3, 1) := by decide +kernel
theorem dX9_readObject_81 : decode cX9_readObject 81 = .ok (.ifCond .eq 17, 3) := by decide +kernel
theorem dX9_readObject_84 : decode cX9_readObject 84 = .ok (.aload_n 0, 1) := by decide +kernel
theorem dX9_readObject_85 : decode cX9_readObject 85 = .ok (.getfield 36, 3) := by decide +kernel
theorem dX9_readObject_88 : decode cX9_readObject 88 = .ok (.aload_n 0, 1) := by decide +kernel
theorem dX9_readObject_89 : decode cX9_readObject 89 = .ok (.getfield 50, 3) := by decide +kernel
theorem dX9_readObject_92 : decode cX9_readObject 92 = .ok (.invokevirtual 291, 3) := by decide +kernel
theorem dX9_readObject_95 : decode cX9_readObject 95 = .ok (.goto 47, 3) := by decide +kernel
theorem dX9_readObject_98 : decode cX9_readObject 98 = .ok (.iload_n 1, 1) := by decide +kernel
theorem dX9_readObject_99 : decode cX9_readObject 99 = .ok (.bipush 60, 2) := by decide +kernel
theorem dX9_readObject_101 : decode cX9_readObject 101 = .ok (.if_icmp .ne 33, 3) := by decide +kernel
theorem dX9_readObject_104 : decode cX9_readObject 104 = .ok (.iload_n 2, 1) := by decide +kernel
theorem dX9_readObject_105 : decode cX9_readObject 105 = .ok (.iconst 2, 1) := by decide +kernel
theorem dX9_readObject_106 : decode cX9_readObject 106 = .ok (.if_icmp .lt 28, 3) := by decide +kernel
theorem dX9_readObject_109 : decode cX9_readObject 109 = .ok (.iload_n 2, 1) := by decide +kernel
theorem dX9_readObject_110 : decode cX9_readObject 110 = .ok (.iconst 4, 1) := by decide +kernel
theorem dX9_readObject_111 : decode cX9_readObject 111 = .ok (.if_icmp .gt 23, 3) := by decide +kernel
theorem dX9_readObject_114 : decode cX9_readObject 114 = .ok (.aload_n 0, 1) := by decide +kernel
theorem dX9_readObject_115 : decode cX9_readObject 115 = .ok (.getfield 36, 3) := by decide +kernel
theorem dX9_readObject_118 : decode cX9_readObject 118 = .ok (.aload_n 0, 1) := by decide +kernel
theorem dX9_readObject_119 : decode cX9_readObject 119 = .ok (.getfield 68, 3) := by decide +kernel
theorem dX9_readObject_122 : decode cX9_readObject 122 = .ok (.iload_n 2, 1) := by decide +kernel
theorem dX9_readObject_123 : decode cX9_readObject 123 = .ok (.iconst 1, 1) := by decide +kernel
theorem dX9_readObject_124 : decode cX9_readObject 124 = .ok (.isub, 1) := by decide +kernel
theorem dX9_readObject_125 : decode cX9_readObject 125 = .ok (.invokevirtual 186, 3) := by decide +kernel
theorem dX9_readObject_128 : decode cX9_readObject 128 = .ok (.invokevirtual 294, 3) := by decide +kernel
theorem dX9_readObject_131 : decode cX9_readObject 131 = .ok (.goto 11, 3) := by decide +kernel
theorem dX9_readObject_134 : decode cX9_readObject 134 = .ok (.aload_n 0, 1) := by decide +kernel
theorem dX9_readObject_135 : decode cX9_readObject 135 = .ok (.getfield 36, 3) := by decide +kernel
theorem dX9_readObject_138 : decode cX9_readObject 138 = .ok (.iconst 2, 1) := by decide +kernel
theorem dX9_readObject_139 : decode cX9_readObject 139 = .ok (.invokevirtual 268, 3) := by decide +kernel
theorem dX9_readObject_142 : decode cX9_readObject 142 = .ok (.return_, 1) := by decide +kernel
theorem dX9_write_0 : decode cX9_write 0 = .ok (.iload_n 2, 1) := by decide +kernel
theorem dX9_write_1 : decode cX9_write 1 = .ok (.bipush 8, 2) := by decide +kernel
theorem dX9_write_3 : decode cX9_write 3 = .ok (.if_icmp .ne 52, 3) := by decide +kernel
theorem dX9_write_6 : decode cX9_write 6 = .ok (.aload_n 1, 1) := by decide +kernel
theorem dX9_write_7 : decode cX9_write 7 = .ok (.iconst 2, 1) := by decide +kernel
theorem dX9_write_8 : decode cX9_write 8 = .ok (.iaload, 1) := by decide +kernel
theorem dX9_write_9 : decode cX9_write 9 = .ok (.bipush 80, 2) := by decide +kernel
theorem dX9_write_11 : decode cX9_write 11 = .ok (.if_icmp .ne 44, 3) := by decide +kernel
theorem dX9_write_14 : decode cX9_write 14 = .ok (.aload_n 1, 1) := by decide +kernel
theorem dX9_write_15 : decode cX9_write 15 = .ok (.iconst 3, 1) := by decide +kernel
theorem dX9_write_16 : decode cX9_write 16 = .ok (.iaload, 1) := by decide +kernel
theorem dX9_write_17 : decode cX9_write 17 = .ok (.iconst 1, 1) := by decide +kernel
theorem dX9_write_18 : decode cX9_write 18 = .ok (.if_icmp .ne 37, 3) := by decide +kernel
theorem dX9_write_21 : decode cX9_write 21 = .ok (.aload_n 1, 1) := by decide +kernel
theorem dX9_write_22 : decode cX9_write 22 = .ok (.iconst 4, 1) := by decide +kernel
theorem dX9_write_23 : decode cX9_write 23 = .ok (.iaload, 1) := by decide +kernel
theorem dX9_write_24 : decode cX9_write 24 = .ok (.ifCond .ne 31, 3) := by decide +kernel
theorem dX9_write_27 : decode cX9_write 27 = .ok (.aload_n 1, 1) := by decide +kernel
theorem dX9_write_28 : decode cX9_write 28 = .ok (.iconst 5, 1) := by decide +kernel
theorem dX9_write_29 : decode cX9_write 29 = .ok (.iaload, 1) := by decide +kernel
theorem dX9_write_30 : decode cX9_write 30 = .ok (.bipush 7, 2) := by decide +kernel
theorem dX9_write_32 : decode cX9_write 32 = .ok (.if_icmp .ne 23, 3) := by decide +kernel
theorem dX9_write_35 : decode cX9_write 35 = .ok (.aload_n 1, 1) := by decide +kernel
theorem dX9_write_36 : decode cX9_write 36 = .ok (.bipush 6, 2) := by decide +kernel
theorem dX9_write_38 : decode cX9_write 38 = .ok (.iaload, 1) := by decide +kernel
theorem dX9_write_39 : decode cX9_write 39 = .ok (.bipush 7, 2) := by decide +kernel
theorem dX9_write_41 : decode cX9_write 41 = .ok (.if_icmp .ne 14, 3) := by decide +kernel
theorem dX9_write_44 : decode cX9_write 44 = .ok (.aload_n 1, 1) := by decide +kernel
theorem dX9_write_45 : decode cX9_write 45 = .ok (.bipush 7, 2) := by decide +kernel
theorem dX9_write_47 : decode cX9_write 47 = .ok (.iaload, 1) := by decide +kernel
theorem dX9_write_48 : decode cX9_write 48 = .ok (.ifCond .ne 7, 3) := by decide +kernel
theorem dX9_write_51 : decode cX9_write 51 = .ok (.iconst 1, 1) := by decide +kernel
theorem dX9_write_52 : decode cX9_write 52 = .ok (.goto 4, 3) := by decide +kernel
theorem dX9_write_55 : decode cX9_write 55 = .ok (.iconst 0, 1) := by decide +kernel
theorem dX9_write_56 : decode cX9_write 56 = .ok (.istore_n 3, 1) := by decide +kernel
theorem dX9_write_57 : decode cX9_write 57 = .ok (.iload_n 3, 1) := by decide +kernel
theorem dX9_write_58 : decode cX9_write 58 = .ok (.ifCond .eq 11, 3) := by decide +kernel
theorem dX9_write_61 : decode cX9_write 61 = .ok (.aload_n 0, 1) := by decide +kernel
theorem dX9_write_62 : decode cX9_write 62 = .ok (.iconst 0, 1) := by decide +kernel
theorem dX9_write_63 : decode cX9_write 63 = .ok (.putfield 90, 3) := by decide +kernel
theorem dX9_write_66 : decode cX9_write 66 = .ok (.goto 11, 3) := by decide +kernel
theorem dX9_write_69 : decode cX9_write 69 = .ok (.aload_n 0, 1) := by decide +kernel
theorem dX9_write_70 : decode cX9_write 70 = .ok (.getfield 36, 3) := by decide +kernel
theorem dX9_write_73 : decode cX9_write 73 = .ok (.iconst 4, 1) := by decide +kernel
theorem dX9_write_74 : decode cX9_write 74 = .ok (.invokevirtual 268, 3) := by decide +kernel
theorem dX9_write_77 : decode cX9_write 77 = .ok (.return_, 1) := by decide +kernel
theorem dX9_control_0 : decode cX9_control 0 = .ok (.aload_n 2, 1) := by decide +kernel
theorem dX9_control_1 : decode cX9_control 1 = .ok (.iload_n 3, 1) := by decide +kernel
theorem dX9_control_2 : decode cX9_control 2 = .ok (.invokestatic 298, 3) := by decide +kernel
theorem dX9_control_5 : decode cX9_control 5 = .ok (.ifCond .ne 12, 3) := by decide +kernel
theorem dX9_control_8 : decode cX9_control 8 = .ok (.aload_n 0, 1) := by decide +kernel
theorem dX9_control_9 : decode cX9_control 9 = .ok (.getfield 36, 3) := by decide +kernel
theorem dX9_control_12 : decode cX9_control 12 = .ok (.iconst 4, 1) := by decide +kernel
theorem dX9_control_13 : decode cX9_control 13 = .ok (.invokevirtual 268, 3) := by decide +kernel
theorem dX9_control_16 : decode cX9_control 16 = .ok (.return_, 1) := by decide +kernel
theorem dX9_control_17 : decode cX9_control 17 = .ok (.iload_n 1, 1) := by decide +kernel
theorem dX9_control_18 : decode cX9_control 18 = .ok (.iconst 4, 1) := by decide +kernel
theorem dX9_control_19 : decode cX9_control 19 = .ok (.if_icmp .ne 19, 3) := by decide +kernel
theorem dX9_control_22 : decode cX9_control 22 = .ok (.aload_n 0, 1) := by decide +kernel
theorem dX9_control_23 : decode cX9_control 23 = .ok (.getfield 75, 3) := by decide +kernel
theorem dX9_control_26 : decode cX9_control 26 = .ok (.aload_n 2, 1) := by decide +kernel
theorem dX9_control_27 : decode cX9_control 27 = .ok (.iload_n 3, 1) := by decide +kernel
theorem dX9_control_28 : decode cX9_control 28 = .ok (.aload_n 0, 1) := by decide +kernel
theorem dX9_control_29 : decode cX9_control 29 = .ok (.getfield 87, 3) := by decide +kernel
theorem dX9_control_32 : decode cX9_control 32 = .ok (.invokevirtual 301, 3) := by decide +kernel
theorem dX9_control_35 : decode cX9_control 35 = .ok (.goto 4, 3) := by decide +kernel
theorem dX9_control_38 : decode cX9_control 38 = .ok (.iconst 0, 1) := by decide +kernel
theorem dX9_control_39 : decode cX9_control 39 = .ok (.istore 4, 2) := by decide +kernel
theorem dX9_control_41 : decode cX9_control 41 = .ok (.iconst 1, 1) := by decide +kernel
theorem dX9_control_42 : decode cX9_control 42 = .ok (.istore 5, 2) := by decide +kernel
theorem dX9_control_44 : decode cX9_control 44 = .ok (.aload_n 0, 1) := by decide +kernel
theorem dX9_control_45 : decode cX9_control 45 = .ok (.getfield 36, 3) := by decide +kernel
theorem dX9_control_48 : decode cX9_control 48 = .ok (.aload_n 2, 1) := by decide +kernel
theorem dX9_control_49 : decode cX9_control 49 = .ok (.iconst 2, 1) := by decide +kernel
theorem dX9_control_50 : decode cX9_control 50 = .ok (.bipush 6, 2) := by decide +kernel
theorem dX9_control_52 : decode cX9_control 52 = .ok (.invokevirtual 305, 3) := by decide +kernel
theorem dX9_control_55 : decode cX9_control 55 = .ok (.bipush 6, 2) := by decide +kernel
theorem dX9_control_57 : decode cX9_control 57 = .ok (.istore 6, 2) := by decide +kernel
theorem dX9_control_59 : decode cX9_control 59 = .ok (.iload 6, 2) := by decide +kernel
theorem dX9_control_61 : decode cX9_control 61 = .ok (.bipush 12, 2) := by decide +kernel
theorem dX9_control_63 : decode cX9_control 63 = .ok (.iadd, 1) := by decide +kernel
theorem dX9_control_64 : decode cX9_control 64 = .ok (.iload_n 3, 1) := by decide +kernel
theorem dX9_control_65 : decode cX9_control 65 = .ok (.if_icmp .gt 107, 3) := by decide +kernel
theorem dX9_control_68 : decode cX9_control 68 = .ok (.aload_n 2, 1) := by decide +kernel
theorem dX9_control_69 : decode cX9_control 69 = .ok (.iload 6, 2) := by decide +kernel
theorem dX9_control_71 : decode cX9_control 71 = .ok (.iaload, 1) := by decide +kernel
theorem dX9_control_72 : decode cX9_control 72 = .ok (.aload_n 2, 1) := by decide +kernel
theorem dX9_control_73 : decode cX9_control 73 = .ok (.iload 6, 2) := by decide +kernel
theorem dX9_control_75 : decode cX9_control 75 = .ok (.iconst 1, 1) := by decide +kernel
theorem dX9_control_76 : decode cX9_control 76 = .ok (.iadd, 1) := by decide +kernel
theorem dX9_control_77 : decode cX9_control 77 = .ok (.iaload, 1) := by decide +kernel
theorem dX9_control_78 : decode cX9_control 78 = .ok (.invokestatic 309, 3) := by decide +kernel
theorem dX9_control_81 : decode cX9_control 81 = .ok (.istore 7, 2) := by decide +kernel
theorem dX9_control_83 : decode cX9_control 83 = .ok (.iload 7, 2) := by decide +kernel
theorem dX9_control_85 : decode cX9_control 85 = .ok (.ifCond .eq 8, 3) := by decide +kernel
theorem dX9_control_88 : decode cX9_control 88 = .ok (.iload 4, 2) := by decide +kernel
theorem dX9_control_90 : decode cX9_control 90 = .ok (.goto 4, 3) := by decide +kernel
theorem dX9_control_93 : decode cX9_control 93 = .ok (.iconst 4, 1) := by decide +kernel
theorem dX9_control_94 : decode cX9_control 94 = .ok (.istore 8, 2) := by decide +kernel
theorem dX9_control_96 : decode cX9_control 96 = .ok (.aload_n 0, 1) := by decide +kernel
theorem dX9_control_97 : decode cX9_control 97 = .ok (.getfield 36, 3) := by decide +kernel
theorem dX9_control_100 : decode cX9_control 100 = .ok (.aload_n 2, 1) := by decide +kernel
theorem dX9_control_101 : decode cX9_control 101 = .ok (.iload 6, 2) := by decide +kernel
theorem dX9_control_103 : decode cX9_control 103 = .ok (.iload 6, 2) := by decide +kernel
theorem dX9_control_105 : decode cX9_control 105 = .ok (.bipush 12, 2) := by decide +kernel
theorem dX9_control_107 : decode cX9_control 107 = .ok (.iadd, 1) := by decide +kernel
theorem dX9_control_108 : decode cX9_control 108 = .ok (.iconst 1, 1) := by decide +kernel
theorem dX9_control_109 : decode cX9_control 109 = .ok (.isub, 1) := by decide +kernel
theorem dX9_control_110 : decode cX9_control 110 = .ok (.invokevirtual 305, 3) := by decide +kernel
theorem dX9_control_113 : decode cX9_control 113 = .ok (.aload_n 0, 1) := by decide +kernel
theorem dX9_control_114 : decode cX9_control 114 = .ok (.getfield 36, 3) := by decide +kernel
theorem dX9_control_117 : decode cX9_control 117 = .ok (.iload 8, 2) := by decide +kernel
theorem dX9_control_119 : decode cX9_control 119 = .ok (.invokevirtual 312, 3) := by decide +kernel
theorem dX9_control_122 : decode cX9_control 122 = .ok (.iload 5, 2) := by decide +kernel
theorem dX9_control_124 : decode cX9_control 124 = .ok (.ifCond .eq 12, 3) := by decide +kernel
theorem dX9_control_127 : decode cX9_control 127 = .ok (.iload 8, 2) := by decide +kernel
theorem dX9_control_129 : decode cX9_control 129 = .ok (.ifCond .ne 7, 3) := by decide +kernel
theorem dX9_control_132 : decode cX9_control 132 = .ok (.iconst 1, 1) := by decide +kernel
theorem dX9_control_133 : decode cX9_control 133 = .ok (.goto 4, 3) := by decide +kernel
theorem dX9_control_136 : decode cX9_control 136 = .ok (.iconst 0, 1) := by decide +kernel
theorem dX9_control_137 : decode cX9_control 137 = .ok (.istore 5, 2) := by decide +kernel
theorem dX9_control_139 : decode cX9_control 139 = .ok (.iload 8, 2) := by decide +kernel
theorem dX9_control_141 : decode cX9_control 141 = .ok (.ifCond .ne 25, 3) := by decide +kernel
theorem dX9_control_144 : decode cX9_control 144 = .ok (.iload_n 1, 1) := by decide +kernel
theorem dX9_control_145 : decode cX9_control 145 = .ok (.iconst 3, 1) := by decide +kernel
theorem dX9_control_146 : decode cX9_control 146 = .ok (.if_icmp .eq 20, 3) := by decide +kernel
theorem dX9_control_149 : decode cX9_control 149 = .ok (.aload_n 0, 1) := by decide +kernel
theorem dX9_control_150 : decode cX9_control 150 = .ok (.getfield 75, 3) := by decide +kernel
theorem dX9_control_153 : decode cX9_control 153 = .ok (.aload_n 2, 1) := by decide +kernel
theorem dX9_control_154 : decode cX9_control 154 = .ok (.iload 6, 2) := by decide +kernel
theorem dX9_control_156 : decode cX9_control 156 = .ok (.iaload, 1) := by decide +kernel
theorem dX9_control_157 : decode cX9_control 157 = .ok (.aload_n 2, 1) := by decide +kernel
theorem dX9_control_158 : decode cX9_control 158 = .ok (.iload 6, 2) := by decide +kernel
theorem dX9_control_160 : decode cX9_control 160 = .ok (.iconst 1, 1) := by decide +kernel
theorem dX9_control_161 : decode cX9_control 161 = .ok (.iadd, 1) := by decide +kernel
theorem dX9_control_162 : decode cX9_control 162 = .ok (.iaload, 1) := by decide +kernel
theorem dX9_control_163 : decode cX9_control 163 = .ok (.invokevirtual 315, 3) := by decide +kernel
theorem dX9_control_166 : decode cX9_control 166 = .ok (.iinc 6 12, 3) := by decide +kernel
theorem dX9_control_169 : decode cX9_control 169 = .ok (.goto (-110), 3) := by decide +kernel
theorem dX9_control_172 : decode cX9_control 172 = .ok (.iload_n 1, 1) := by decide +kernel
theorem dX9_control_173 : decode cX9_control 173 = .ok (.iconst 4, 1) := by decide +kernel
theorem dX9_control_174 : decode cX9_control 174 = .ok (.if_icmp .ne 10, 3) := by decide +kernel
theorem dX9_control_177 : decode cX9_control 177 = .ok (.aload_n 0, 1) := by decide +kernel
theorem dX9_control_178 : decode cX9_control 178 = .ok (.getfield 75, 3) := by decide +kernel
theorem dX9_control_181 : decode cX9_control 181 = .ok (.invokevirtual 250, 3) := by decide +kernel
theorem dX9_control_184 : decode cX9_control 184 = .ok (.iload_n 1, 1) := by decide +kernel
theorem dX9_control_185 : decode cX9_control 185 = .ok (.iconst 3, 1) := by decide +kernel
theorem dX9_control_186 : decode cX9_control 186 = .ok (.if_icmp .ne 21, 3) := by decide +kernel
theorem dX9_control_189 : decode cX9_control 189 = .ok (.iload 5, 2) := by decide +kernel
theorem dX9_control_191 : decode cX9_control 191 = .ok (.ifCond .eq 16, 3) := by decide +kernel
theorem dX9_control_194 : decode cX9_control 194 = .ok (.aload_n 0, 1) := by decide +kernel
theorem dX9_control_195 : decode cX9_control 195 = .ok (.getfield 75, 3) := by decide +kernel
theorem dX9_control_198 : decode cX9_control 198 = .ok (.aload_n 2, 1) := by decide +kernel
theorem dX9_control_199 : decode cX9_control 199 = .ok (.iload_n 3, 1) := by decide +kernel
theorem dX9_control_200 : decode cX9_control 200 = .ok (.aload_n 0, 1) := by decide +kernel
theorem dX9_control_201 : decode cX9_control 201 = .ok (.getfield 87, 3) := by decide +kernel
theorem dX9_control_204 : decode cX9_control 204 = .ok (.invokevirtual 318, 3) := by decide +kernel
theorem dX9_control_207 : decode cX9_control 207 = .ok (.return_, 1) := by decide +kernel
theorem dX10_init_0 : decode cX10_init 0 = .ok (.aload_n 0, 1) := by decide +kernel
theorem dX10_init_1 : decode cX10_init 1 = .ok (.invokespecial 1, 3) := by decide +kernel
theorem dX10_init_4 : decode cX10_init 4 = .ok (.aload_n 0, 1) := by decide +kernel
theorem dX10_init_5 : decode cX10_init 5 = .ok (.sipush 400, 3) := by decide +kernel
theorem dX10_init_8 : decode cX10_init 8 = .ok (.newarray .int, 2) := by decide +kernel
theorem dX10_init_10 : decode cX10_init 10 = .ok (.putfield 7, 3) := by decide +kernel
theorem dX10_init_13 : decode cX10_init 13 = .ok (.aload_n 0, 1) := by decide +kernel
theorem dX10_init_14 : decode cX10_init 14 = .ok (.sipush 260, 3) := by decide +kernel
theorem dX10_init_17 : decode cX10_init 17 = .ok (.newarray .int, 2) := by decide +kernel
theorem dX10_init_19 : decode cX10_init 19 = .ok (.putfield 13, 3) := by decide +kernel
theorem dX10_init_22 : decode cX10_init 22 = .ok (.aload_n 0, 1) := by decide +kernel
theorem dX10_init_23 : decode cX10_init 23 = .ok (.sipush 600, 3) := by decide +kernel
theorem dX10_init_26 : decode cX10_init 26 = .ok (.newarray .int, 2) := by decide +kernel
theorem dX10_init_28 : decode cX10_init 28 = .ok (.putfield 16, 3) := by decide +kernel
theorem dX10_init_31 : decode cX10_init 31 = .ok (.aload_n 0, 1) := by decide +kernel
theorem dX10_init_32 : decode cX10_init 32 = .ok (.sipush 260, 3) := by decide +kernel
theorem dX10_init_35 : decode cX10_init 35 = .ok (.newarray .int, 2) := by decide +kernel
theorem dX10_init_37 : decode cX10_init 37 = .ok (.putfield 19, 3) := by decide +kernel
theorem dX10_init_40 : decode cX10_init 40 = .ok (.aload_n 0, 1) := by decide +kernel
theorem dX10_init_41 : decode cX10_init 41 = .ok (.sipush 260, 3) := by decide +kernel
theorem dX10_init_44 : decode cX10_init 44 = .ok (.newarray .int, 2) := by decide +kernel
theorem dX10_init_46 : decode cX10_init 46 = .ok (.putfield 22, 3) := by decide +kernel
theorem dX10_init_49 : decode cX10_init 49 = .ok (.aload_n 0, 1) := by decide +kernel
theorem dX10_init_50 : decode cX10_init 50 = .ok (.sipush 4000, 3) := by decide +kernel
theorem dX10_init_53 : decode cX10_init 53 = .ok (.newarray .int, 2) := by decide +kernel
theorem dX10_init_55 : decode cX10_init 55 = .ok (.putfield 25, 3) := by decide +kernel
theorem dX10_init_58 : decode cX10_init 58 = .ok (.aload_n 0, 1) := by decide +kernel
theorem dX10_init_59 : decode cX10_init 59 = .ok (.sipush 300, 3) := by decide +kernel
theorem dX10_init_62 : decode cX10_init 62 = .ok (.newarray .int, 2) := by decide +kernel
theorem dX10_init_64 : decode cX10_init 64 = .ok (.putfield 28, 3) := by decide +kernel
theorem dX10_init_67 : decode cX10_init 67 = .ok (.aload_n 0, 1) := by decide +kernel
theorem dX10_init_68 : decode cX10_init 68 = .ok (.bipush 16, 2) := by decide +kernel
theorem dX10_init_70 : decode cX10_init 70 = .ok (.newarray .boolean, 2) := by decide +kernel
theorem dX10_init_72 : decode cX10_init 72 = .ok (.putfield 31, 3) := by decide +kernel
theorem dX10_init_75 : decode cX10_init 75 = .ok (.aload_n 0, 1) := by decide +kernel
theorem dX10_init_76 : decode cX10_init 76 = .ok (.bipush 16, 2) := by decide +kernel
theorem dX10_init_78 : decode cX10_init 78 = .ok (.newarray .int, 2) := by decide +kernel
theorem dX10_init_80 : decode cX10_init 80 = .ok (.putfield 35, 3) := by decide +kernel
theorem dX10_init_83 : decode cX10_init 83 = .ok (.aload_n 0, 1) := by decide +kernel
theorem dX10_init_84 : decode cX10_init 84 = .ok (.bipush 16, 2) := by decide +kernel
theorem dX10_init_86 : decode cX10_init 86 = .ok (.newarray .int, 2) := by decide +kernel
theorem dX10_init_88 : decode cX10_init 88 = .ok (.putfield 38, 3) := by decide +kernel
theorem dX10_init_91 : decode cX10_init 91 = .ok (.aload_n 0, 1) := by decide +kernel
theorem dX10_init_92 : decode cX10_init 92 = .ok (.bipush 16, 2) := by decide +kernel
theorem dX10_init_94 : decode cX10_init 94 = .ok (.newarray .int, 2) := by decide +kernel
theorem dX10_init_96 : decode cX10_init 96 = .ok (.putfield 41, 3) := by decide +kernel
theorem dX10_init_99 : decode cX10_init 99 = .ok (.aload_n 0, 1) := by decide +kernel
theorem dX10_init_100 : decode cX10_init 100 = .ok (.bipush 32, 2) := by decide +kernel
theorem dX10_init_102 : decode cX10_init 102 = .ok (.newarray .int, 2) := by decide +kernel
theorem dX10_init_104 : decode cX10_init 104 = .ok (.putfield 44, 3) := by decide +kernel
theorem dX10_init_107 : decode cX10_init 107 = .ok (.aload_n 0, 1) := by decide +kernel
theorem dX10_init_108 : decode cX10_init 108 = .ok (.sipush 640, 3) := by decide +kernel
theorem dX10_init_111 : decode cX10_init 111 = .ok (.newarray .int, 2) := by decide +kernel
theorem dX10_init_113 : decode cX10_init 113 = .ok (.putfield 47, 3) := by decide +kernel
theorem dX10_init_116 : decode cX10_init 116 = .ok (.aload_n 0, 1) := by decide +kernel
theorem dX10_init_117 : decode cX10_init 117 = .ok (.iconst 4, 1) := by decide +kernel
theorem dX10_init_118 : decode cX10_init 118 = .ok (.newarray .int, 2) := by decide +kernel
theorem dX10_init_120 : decode cX10_init 120 = .ok (.putfield 50, 3) := by decide +kernel
theorem dX10_init_123 : decode cX10_init 123 = .ok (.aload_n 0, 1) := by decide +kernel
theorem dX10_init_124 : decode cX10_init 124 = .ok (.sipush 260, 3) := by decide +kernel
theorem dX10_init_127 : decode cX10_init 127 = .ok (.newarray .int, 2) := by decide +kernel
theorem dX10_init_129 : decode cX10_init 129 = .ok (.putfield 53, 3) := by decide +kernel
theorem dX10_init_132 : decode cX10_init 132 = .ok (.aload_n 0, 1) := by decide +kernel
theorem dX10_init_133 : decode cX10_init 133 = .ok (.bipush 8, 2) := by decide +kernel
theorem dX10_init_135 : decode cX10_init 135 = .ok (.newarray .int, 2) := by decide +kernel
theorem dX10_init_137 : decode cX10_init 137 = .ok (.putfield 56, 3) := by decide +kernel
theorem dX10_init_140 : decode cX10_init 140 = .ok (.aload_n 0, 1) := by decide +kernel
theorem dX10_init_141 : decode cX10_init 141 = .ok (.iload_n 1, 1) := by decide +kernel
theorem dX10_init_142 : decode cX10_init 142 = .ok (.ldc 59, 2) := by decide +kernel
theorem dX10_init_144 : decode cX10_init 144 = .ok (.iand, 1) := by decide +kernel
theorem dX10_init_145 : decode cX10_init 145 = .ok (.putfield 60, 3) := by decide +kernel
theorem dX10_init_148 : decode cX10_init 148 = .ok (.aload_n 0, 1) := by decide +kernel
theorem dX10_init_149 : decode cX10_init 149 = .ok (.iload_n 2, 1) := by decide +kernel
theorem dX10_init_150 : decode cX10_init 150 = .ok (.ldc 59, 2) := by decide +kernel
theorem dX10_init_152 : decode cX10_init 152 = .ok (.iand, 1) := by decide +kernel
theorem dX10_init_153 : decode cX10_init 153 = .ok (.putfield 64, 3) := by decide +kernel
theorem dX10_init_156 : decode cX10_init 156 = .ok (.aload_n 0, 1) := by decide +kernel
theorem dX10_init_157 : decode cX10_init 157 = .ok (.iload_n 3, 1) := by decide +kernel
theorem dX10_init_158 : decode cX10_init 158 = .ok (.iconst 1, 1) := by decide +kernel
theorem dX10_init_159 : decode cX10_init 159 = .ok (.if_icmp .ge 7, 3) := by decide +kernel
theorem dX10_init_162 : decode cX10_init 162 = .ok (.iconst 1, 1) := by decide +kernel
theorem dX10_init_163 : decode cX10_init 163 = .ok (.goto 15, 3) := by decide +kernel
theorem dX10_init_166 : decode cX10_init 166 = .ok (.iload_n 3, 1) := by decide +kernel
theorem dX10_init_167 : decode cX10_init 167 = .ok (.bipush 40, 2) := by decide +kernel
theorem dX10_init_169 : decode cX10_init 169 = .ok (.if_icmp .le 8, 3) := by decide +kernel
theorem dX10_init_172 : decode cX10_init 172 = .ok (.bipush 40, 2) := by decide +kernel
theorem dX10_init_174 : decode cX10_init 174 = .ok (.goto 4, 3) := by decide +kernel
theorem dX10_init_177 : decode cX10_init 177 = .ok (.iload_n 3, 1) := by decide +kernel
theorem dX10_init_178 : decode cX10_init 178 = .ok (.putfield 67, 3) := by decide +kernel
theorem dX10_init_181 : decode cX10_init 181 = .ok (.aload_n 0, 1) := by decide +kernel
theorem dX10_init_182 : decode cX10_init 182 = .ok (.iload 4, 2) := by decide +kernel
theorem dX10_init_184 : decode cX10_init 184 = .ok (.ifCond .ge 7, 3) := by decide +kernel
theorem dX10_init_187 : decode cX10_init 187 = .ok (.iconst 0, 1) := by decide +kernel
theorem dX10_init_188 : decode cX10_init 188 = .ok (.goto 19, 3) := by decide +kernel
theorem dX10_init_191 : decode cX10_init 191 = .ok (.iload 4, 2) := by decide +kernel
theorem dX10_init_193 : decode cX10_init 193 = .ok (.sipush 10000, 3) := by decide +kernel
theorem dX10_init_196 : decode cX10_init 196 = .ok (.if_icmp .le 9, 3) := by decide +kernel
theorem dX10_init_199 : decode cX10_init 199 = .ok (.sipush 10000, 3) := by decide +kernel
theorem dX10_init_202 : decode cX10_init 202 = .ok (.goto 5, 3) := by decide +kernel
theorem dX10_init_205 : decode cX10_init 205 = .ok (.iload 4, 2) := by decide +kernel
theorem dX10_init_207 : decode cX10_init 207 = .ok (.putfield 70, 3) := by decide +kernel
theorem dX10_init_210 : decode cX10_init 210 = .ok (.aload_n 0, 1) := by decide +kernel
theorem dX10_init_211 : decode cX10_init 211 = .ok (.iconst 1, 1) := by decide +kernel
theorem dX10_init_212 : decode cX10_init 212 = .ok (.putfield 73, 3) := by decide +kernel
theorem dX10_init_215 : decode cX10_init 215 = .ok (.aload_n 0, 1) := by decide +kernel
theorem dX10_init_216 : decode cX10_init 216 = .ok (.iconst (-1), 1) := by decide +kernel
theorem dX10_init_217 : decode cX10_init 217 = .ok (.putfield 77, 3) := by decide +kernel
theorem dX10_init_220 : decode cX10_init 220 = .ok (.aload_n 0, 1) := by decide +kernel
theorem dX10_init_221 : decode cX10_init 221 = .ok (.iconst (-1), 1) := by decide +kernel
theorem dX10_init_222 : decode cX10_init 222 = .ok (.putfield 80, 3) := by decide +kernel
theorem dX10_init_225 : decode cX10_init 225 = .ok (.aload_n 0, 1) := by decide +kernel
theorem dX10_init_226 : decode cX10_init 226 = .ok (.iconst (-1), 1) := by decide +kernel
theorem dX10_init_227 : decode cX10_init 227 = .ok (.putfield 83, 3) := by decide +kernel
theorem dX10_init_230 : decode cX10_init 230 = .ok (.aload_n 0, 1) := by decide +kernel
theorem dX10_init_231 : decode cX10_init 231 = .ok (.iconst (-1), 1) := by decide +kernel
theorem dX10_init_232 : decode cX10_init 232 = .ok (.putfield 86, 3) := by decide +kernel
theorem dX10_init_235 : decode cX10_init 235 = .ok (.iconst 0, 1) := by decide +kernel
theorem dX10_init_236 : decode cX10_init 236 = .ok (.istore 5, 2) := by decide +kernel
theorem dX10_init_238 : decode cX10_init 238 = .ok (.iload 5, 2) := by decide +kernel
theorem dX10_init_240 : decode cX10_init 240 = .ok (.bipush 8, 2) := by decide +kernel
theorem dX10_init_242 : decode cX10_init 242 = .ok (.if_icmp .ge 17, 3) := by decide +kernel
theorem dX10_init_245 : decode cX10_init 245 = .ok (.aload_n 0, 1) := by decide +kernel
theorem dX10_init_246 : decode cX10_init 246 = .ok (.getfield 56, 3) := by decide +kernel
theorem dX10_init_249 : decode cX10_init 249 = .ok (.iload 5, 2) := by decide +kernel
theorem dX10_init_251 : decode cX10_init 251 = .ok (.iconst (-1), 1) := by decide +kernel
theorem dX10_init_252 : decode cX10_init 252 = .ok (.iastore, 1) := by decide +kernel
theorem dX10_init_253 : decode cX10_init 253 = .ok (.iinc 5 1, 3) := by decide +kernel
theorem dX10_init_256 : decode cX10_init 256 = .ok (.goto (-18), 3) := by decide +kernel
theorem dX10_init_259 : decode cX10_init 259 = .ok (.return_, 1) := by decide +kernel
theorem dX10_further_0 : decode cX10_further 0 = .ok (.iload_n 0, 1) := by decide +kernel
theorem dX10_further_1 : decode cX10_further 1 = .ok (.iload_n 1, 1) := by decide +kernel
theorem dX10_further_2 : decode cX10_further 2 = .ok (.ixor, 1) := by decide +kernel
theorem dX10_further_3 : decode cX10_further 3 = .ok (.istore_n 2, 1) := by decide +kernel
theorem dX10_further_4 : decode cX10_further 4 = .ok (.iconst 0, 1) := by decide +kernel
theorem dX10_further_5 : decode cX10_further 5 = .ok (.istore_n 3, 1) := by decide +kernel
theorem dX10_further_6 : decode cX10_further 6 = .ok (.iload_n 3, 1) := by decide +kernel
theorem dX10_further_7 : decode cX10_further 7 = .ok (.bipush 8, 2) := by decide +kernel
