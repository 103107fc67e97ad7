theorem dL_cell_0 : decode cL_cell 0 = .ok (.iload_n 1, 1) := by decide +kernel
theorem dL_cell_1 : decode cL_cell 1 = .ok (.aload_n 0, 1) := by decide +kernel
theorem dL_cell_2 : decode cL_cell 2 = .ok (.arraylength, 1) := by decide +kernel
theorem dL_cell_3 : decode cL_cell 3 = .ok (.if_icmp .ge 9, 3) := by decide +kernel
theorem dL_cell_6 : decode cL_cell 6 = .ok (.aload_n 0, 1) := by decide +kernel
theorem dL_cell_7 : decode cL_cell 7 = .ok (.iload_n 1, 1) := by decide +kernel
theorem dL_cell_8 : decode cL_cell 8 = .ok (.iaload, 1) := by decide +kernel
theorem dL_cell_9 : decode cL_cell 9 = .ok (.goto 7, 3) := by decide +kernel
theorem dL_cell_12 : decode cL_cell 12 = .ok (.ldc 7, 2) := by decide +kernel
theorem dL_cell_14 : decode cL_cell 14 = .ok (.iload_n 1, 1) := by decide +kernel
theorem dL_cell_15 : decode cL_cell 15 = .ok (.imul, 1) := by decide +kernel
theorem dL_cell_16 : decode cL_cell 16 = .ok (.ireturn, 1) := by decide +kernel
theorem dL_build_0 : decode cL_build 0 = .ok (.aload_n 0, 1) := by decide +kernel
theorem dL_build_1 : decode cL_build 1 = .ok (.iload_n 1, 1) := by decide +kernel
theorem dL_build_2 : decode cL_build 2 = .ok (.iload_n 2, 1) := by decide +kernel
theorem dL_build_3 : decode cL_build 3 = .ok (.invokevirtual 8, 3) := by decide +kernel
theorem dL_build_6 : decode cL_build 6 = .ok (.ireturn, 1) := by decide +kernel
theorem dL_build_7 : decode cL_build 7 = .ok (.astore_n 3, 1) := by decide +kernel
theorem dL_build_8 : decode cL_build 8 = .ok (.iconst (-1), 1) := by decide +kernel
theorem dL_build_9 : decode cL_build 9 = .ok (.ireturn, 1) := by decide +kernel
theorem dL_build_10 : decode cL_build 10 = .ok (.astore_n 3, 1) := by decide +kernel
theorem dL_build_11 : decode cL_build 11 = .ok (.bipush (-2), 2) := by decide +kernel
theorem dL_build_13 : decode cL_build 13 = .ok (.ireturn, 1) := by decide +kernel
theorem dL_addGuest_0 : decode cL_addGuest 0 = .ok (.aload_n 0, 1) := by decide +kernel
theorem dL_addGuest_1 : decode cL_addGuest 1 = .ok (.invokevirtual 18, 3) := by decide +kernel
theorem dL_addGuest_4 : decode cL_addGuest 4 = .ok (.ireturn, 1) := by decide +kernel
theorem dL_addGuest_5 : decode cL_addGuest 5 = .ok (.astore_n 1, 1) := by decide +kernel
theorem dL_addGuest_6 : decode cL_addGuest 6 = .ok (.iconst (-1), 1) := by decide +kernel
theorem dL_addGuest_7 : decode cL_addGuest 7 = .ok (.ireturn, 1) := by decide +kernel
theorem dL_book_0 : decode cL_book 0 = .ok (.aload_n 0, 1) := by decide +kernel
theorem dL_book_1 : decode cL_book 1 = .ok (.iload_n 1, 1) := by decide +kernel
theorem dL_book_2 : decode cL_book 2 = .ok (.iload_n 2, 1) := by decide +kernel
theorem dL_book_3 : decode cL_book 3 = .ok (.iload_n 3, 1) := by decide +kernel
theorem dL_book_4 : decode cL_book 4 = .ok (.invokevirtual 22, 3) := by decide +kernel
theorem dL_book_7 : decode cL_book 7 = .ok (.ireturn, 1) := by decide +kernel
theorem dL_book_8 : decode cL_book 8 = .ok (.astore 4, 2) := by decide +kernel
theorem dL_book_10 : decode cL_book 10 = .ok (.iconst (-1), 1) := by decide +kernel
theorem dL_book_11 : decode cL_book 11 = .ok (.ireturn, 1) := by decide +kernel
theorem dL_book_12 : decode cL_book 12 = .ok (.astore 4, 2) := by decide +kernel
theorem dL_book_14 : decode cL_book 14 = .ok (.bipush (-2), 2) := by decide +kernel
theorem dL_book_16 : decode cL_book 16 = .ok (.ireturn, 1) := by decide +kernel
theorem dL_book_17 : decode cL_book 17 = .ok (.astore 4, 2) := by decide +kernel
theorem dL_book_19 : decode cL_book 19 = .ok (.bipush (-3), 2) := by decide +kernel
theorem dL_book_21 : decode cL_book 21 = .ok (.ireturn, 1) := by decide +kernel
theorem dL_book_22 : decode cL_book 22 = .ok (.astore 4, 2) := by decide +kernel
theorem dL_book_24 : decode cL_book 24 = .ok (.bipush (-4), 2) := by decide +kernel
theorem dL_book_26 : decode cL_book 26 = .ok (.ireturn, 1) := by decide +kernel
theorem dL_cancel_0 : decode cL_cancel 0 = .ok (.aload_n 0, 1) := by decide +kernel
theorem dL_cancel_1 : decode cL_cancel 1 = .ok (.iload_n 1, 1) := by decide +kernel
theorem dL_cancel_2 : decode cL_cancel 2 = .ok (.invokevirtual 30, 3) := by decide +kernel
theorem dL_cancel_5 : decode cL_cancel 5 = .ok (.ireturn, 1) := by decide +kernel
theorem dL_cancel_6 : decode cL_cancel 6 = .ok (.astore_n 2, 1) := by decide +kernel
theorem dL_cancel_7 : decode cL_cancel 7 = .ok (.iconst (-1), 1) := by decide +kernel
theorem dL_cancel_8 : decode cL_cancel 8 = .ok (.ireturn, 1) := by decide +kernel
theorem dL_cancel_9 : decode cL_cancel 9 = .ok (.astore_n 2, 1) := by decide +kernel
theorem dL_cancel_10 : decode cL_cancel 10 = .ok (.bipush (-2), 2) := by decide +kernel
theorem dL_cancel_12 : decode cL_cancel 12 = .ok (.ireturn, 1) := by decide +kernel
theorem dL_join_0 : decode cL_join 0 = .ok (.aload_n 0, 1) := by decide +kernel
theorem dL_join_1 : decode cL_join 1 = .ok (.iload_n 1, 1) := by decide +kernel
theorem dL_join_2 : decode cL_join 2 = .ok (.iload_n 2, 1) := by decide +kernel
theorem dL_join_3 : decode cL_join 3 = .ok (.invokevirtual 34, 3) := by decide +kernel
theorem dL_join_6 : decode cL_join 6 = .ok (.ireturn, 1) := by decide +kernel
theorem dL_join_7 : decode cL_join 7 = .ok (.astore_n 3, 1) := by decide +kernel
theorem dL_join_8 : decode cL_join 8 = .ok (.iconst (-1), 1) := by decide +kernel
theorem dL_join_9 : decode cL_join 9 = .ok (.ireturn, 1) := by decide +kernel
theorem dL_join_10 : decode cL_join 10 = .ok (.astore_n 3, 1) := by decide +kernel
theorem dL_join_11 : decode cL_join 11 = .ok (.bipush (-2), 2) := by decide +kernel
theorem dL_join_13 : decode cL_join 13 = .ok (.ireturn, 1) := by decide +kernel
theorem dL_join_14 : decode cL_join 14 = .ok (.astore_n 3, 1) := by decide +kernel
theorem dL_join_15 : decode cL_join 15 = .ok (.bipush (-3), 2) := by decide +kernel
theorem dL_join_17 : decode cL_join 17 = .ok (.ireturn, 1) := by decide +kernel
theorem dL_leave_0 : decode cL_leave 0 = .ok (.aload_n 0, 1) := by decide +kernel
theorem dL_leave_1 : decode cL_leave 1 = .ok (.iload_n 1, 1) := by decide +kernel
theorem dL_leave_2 : decode cL_leave 2 = .ok (.invokevirtual 37, 3) := by decide +kernel
theorem dL_leave_5 : decode cL_leave 5 = .ok (.ireturn, 1) := by decide +kernel
theorem dL_leave_6 : decode cL_leave 6 = .ok (.astore_n 2, 1) := by decide +kernel
theorem dL_leave_7 : decode cL_leave 7 = .ok (.iconst (-1), 1) := by decide +kernel
theorem dL_leave_8 : decode cL_leave 8 = .ok (.ireturn, 1) := by decide +kernel
theorem dL_leave_9 : decode cL_leave 9 = .ok (.astore_n 2, 1) := by decide +kernel
theorem dL_leave_10 : decode cL_leave 10 = .ok (.bipush (-2), 2) := by decide +kernel
theorem dL_leave_12 : decode cL_leave 12 = .ok (.ireturn, 1) := by decide +kernel
theorem dL_pass_0 : decode cL_pass 0 = .ok (.aload_n 0, 1) := by decide +kernel
theorem dL_pass_1 : decode cL_pass 1 = .ok (.iload_n 1, 1) := by decide +kernel
theorem dL_pass_2 : decode cL_pass 2 = .ok (.invokevirtual 42, 3) := by decide +kernel
theorem dL_pass_5 : decode cL_pass 5 = .ok (.ireturn, 1) := by decide +kernel
theorem dL_pass_6 : decode cL_pass 6 = .ok (.astore_n 2, 1) := by decide +kernel
theorem dL_pass_7 : decode cL_pass 7 = .ok (.iconst (-1), 1) := by decide +kernel
theorem dL_pass_8 : decode cL_pass 8 = .ok (.ireturn, 1) := by decide +kernel
theorem dL_duration_0 : decode cL_duration 0 = .ok (.aload_n 0, 1) := by decide +kernel
theorem dL_duration_1 : decode cL_duration 1 = .ok (.iload_n 1, 1) := by decide +kernel
theorem dL_duration_2 : decode cL_duration 2 = .ok (.invokevirtual 45, 3) := by decide +kernel
theorem dL_duration_5 : decode cL_duration 5 = .ok (.ireturn, 1) := by decide +kernel
theorem dL_duration_6 : decode cL_duration 6 = .ok (.astore_n 2, 1) := by decide +kernel
theorem dL_duration_7 : decode cL_duration 7 = .ok (.bipush (-11), 2) := by decide +kernel
theorem dL_duration_9 : decode cL_duration 9 = .ok (.ireturn, 1) := by decide +kernel
theorem dL_price_0 : decode cL_price 0 = .ok (.aload_n 0, 1) := by decide +kernel
theorem dL_price_1 : decode cL_price 1 = .ok (.iload_n 1, 1) := by decide +kernel
theorem dL_price_2 : decode cL_price 2 = .ok (.invokevirtual 48, 3) := by decide +kernel
theorem dL_price_5 : decode cL_price 5 = .ok (.ireturn, 1) := by decide +kernel
theorem dL_price_6 : decode cL_price 6 = .ok (.astore_n 2, 1) := by decide +kernel
theorem dL_price_7 : decode cL_price 7 = .ok (.bipush (-11), 2) := by decide +kernel
theorem dL_price_9 : decode cL_price 9 = .ok (.ireturn, 1) := by decide +kernel
theorem dL_wetness_0 : decode cL_wetness 0 = .ok (.aload_n 0, 1) := by decide +kernel
theorem dL_wetness_1 : decode cL_wetness 1 = .ok (.iload_n 1, 1) := by decide +kernel
theorem dL_wetness_2 : decode cL_wetness 2 = .ok (.invokevirtual 51, 3) := by decide +kernel
theorem dL_wetness_5 : decode cL_wetness 5 = .ok (.ireturn, 1) := by decide +kernel
theorem dL_wetness_6 : decode cL_wetness 6 = .ok (.astore_n 2, 1) := by decide +kernel
theorem dL_wetness_7 : decode cL_wetness 7 = .ok (.bipush (-11), 2) := by decide +kernel
theorem dL_wetness_9 : decode cL_wetness 9 = .ok (.ireturn, 1) := by decide +kernel
theorem dL_rider_0 : decode cL_rider 0 = .ok (.aload_n 0, 1) := by decide +kernel
theorem dL_rider_1 : decode cL_rider 1 = .ok (.iload_n 1, 1) := by decide +kernel
theorem dL_rider_2 : decode cL_rider 2 = .ok (.invokevirtual 54, 3) := by decide +kernel
theorem dL_rider_5 : decode cL_rider 5 = .ok (.ireturn, 1) := by decide +kernel
theorem dL_rider_6 : decode cL_rider 6 = .ok (.astore_n 2, 1) := by decide +kernel
theorem dL_rider_7 : decode cL_rider 7 = .ok (.bipush (-11), 2) := by decide +kernel
theorem dL_rider_9 : decode cL_rider 9 = .ok (.ireturn, 1) := by decide +kernel
theorem dL_rider_10 : decode cL_rider 10 = .ok (.astore_n 2, 1) := by decide +kernel
theorem dL_rider_11 : decode cL_rider 11 = .ok (.bipush (-13), 2) := by decide +kernel
theorem dL_rider_13 : decode cL_rider 13 = .ok (.ireturn, 1) := by decide +kernel
theorem dL_coins_0 : decode cL_coins 0 = .ok (.aload_n 0, 1) := by decide +kernel
theorem dL_coins_1 : decode cL_coins 1 = .ok (.iload_n 1, 1) := by decide +kernel
theorem dL_coins_2 : decode cL_coins 2 = .ok (.invokevirtual 57, 3) := by decide +kernel
theorem dL_coins_5 : decode cL_coins 5 = .ok (.ireturn, 1) := by decide +kernel
theorem dL_coins_6 : decode cL_coins 6 = .ok (.astore_n 2, 1) := by decide +kernel
theorem dL_coins_7 : decode cL_coins 7 = .ok (.bipush (-11), 2) := by decide +kernel
theorem dL_coins_9 : decode cL_coins 9 = .ok (.ireturn, 1) := by decide +kernel
theorem dL_queueOf_0 : decode cL_queueOf 0 = .ok (.aload_n 0, 1) := by decide +kernel
theorem dL_queueOf_1 : decode cL_queueOf 1 = .ok (.iload_n 1, 1) := by decide +kernel
theorem dL_queueOf_2 : decode cL_queueOf 2 = .ok (.invokevirtual 60, 3) := by decide +kernel
theorem dL_queueOf_5 : decode cL_queueOf 5 = .ok (.ireturn, 1) := by decide +kernel
theorem dL_queueOf_6 : decode cL_queueOf 6 = .ok (.astore_n 2, 1) := by decide +kernel
theorem dL_queueOf_7 : decode cL_queueOf 7 = .ok (.bipush (-11), 2) := by decide +kernel
theorem dL_queueOf_9 : decode cL_queueOf 9 = .ok (.ireturn, 1) := by decide +kernel
theorem dL_queueOf_10 : decode cL_queueOf 10 = .ok (.astore_n 2, 1) := by decide +kernel
theorem dL_queueOf_11 : decode cL_queueOf 11 = .ok (.bipush (-13), 2) := by decide +kernel
theorem dL_queueOf_13 : decode cL_queueOf 13 = .ok (.ireturn, 1) := by decide +kernel
theorem dL_queueLength_0 : decode cL_queueLength 0 = .ok (.aload_n 0, 1) := by decide +kernel
theorem dL_queueLength_1 : decode cL_queueLength 1 = .ok (.iload_n 1, 1) := by decide +kernel
theorem dL_queueLength_2 : decode cL_queueLength 2 = .ok (.invokevirtual 63, 3) := by decide +kernel
theorem dL_queueLength_5 : decode cL_queueLength 5 = .ok (.ireturn, 1) := by decide +kernel
theorem dL_queueLength_6 : decode cL_queueLength 6 = .ok (.astore_n 2, 1) := by decide +kernel
theorem dL_queueLength_7 : decode cL_queueLength 7 = .ok (.bipush (-11), 2) := by decide +kernel
theorem dL_queueLength_9 : decode cL_queueLength 9 = .ok (.ireturn, 1) := by decide +kernel
theorem dL_queued_0 : decode cL_queued 0 = .ok (.aload_n 0, 1) := by decide +kernel
theorem dL_queued_1 : decode cL_queued 1 = .ok (.iload_n 1, 1) := by decide +kernel
theorem dL_queued_2 : decode cL_queued 2 = .ok (.iload_n 2, 1) := by decide +kernel
theorem dL_queued_3 : decode cL_queued 3 = .ok (.invokevirtual 66, 3) := by decide +kernel
theorem dL_queued_6 : decode cL_queued 6 = .ok (.ireturn, 1) := by decide +kernel
theorem dL_queued_7 : decode cL_queued 7 = .ok (.astore_n 3, 1) := by decide +kernel
theorem dL_queued_8 : decode cL_queued 8 = .ok (.bipush (-11), 2) := by decide +kernel
theorem dL_queued_10 : decode cL_queued 10 = .ok (.ireturn, 1) := by decide +kernel
theorem dL_queued_11 : decode cL_queued 11 = .ok (.astore_n 3, 1) := by decide +kernel
theorem dL_queued_12 : decode cL_queued 12 = .ok (.bipush (-13), 2) := by decide +kernel
theorem dL_queued_14 : decode cL_queued 14 = .ok (.ireturn, 1) := by decide +kernel
theorem dL_guestOf_0 : decode cL_guestOf 0 = .ok (.aload_n 0, 1) := by decide +kernel
theorem dL_guestOf_1 : decode cL_guestOf 1 = .ok (.iload_n 1, 1) := by decide +kernel
theorem dL_guestOf_2 : decode cL_guestOf 2 = .ok (.invokevirtual 69, 3) := by decide +kernel
theorem dL_guestOf_5 : decode cL_guestOf 5 = .ok (.ireturn, 1) := by decide +kernel
theorem dL_guestOf_6 : decode cL_guestOf 6 = .ok (.astore_n 2, 1) := by decide +kernel
theorem dL_guestOf_7 : decode cL_guestOf 7 = .ok (.bipush (-11), 2) := by decide +kernel
theorem dL_guestOf_9 : decode cL_guestOf 9 = .ok (.ireturn, 1) := by decide +kernel
theorem dL_slideOf_0 : decode cL_slideOf 0 = .ok (.aload_n 0, 1) := by decide +kernel
theorem dL_slideOf_1 : decode cL_slideOf 1 = .ok (.iload_n 1, 1) := by decide +kernel
theorem dL_slideOf_2 : decode cL_slideOf 2 = .ok (.invokevirtual 72, 3) := by decide +kernel
theorem dL_slideOf_5 : decode cL_slideOf 5 = .ok (.ireturn, 1) := by decide +kernel
theorem dL_slideOf_6 : decode cL_slideOf 6 = .ok (.astore_n 2, 1) := by decide +kernel
theorem dL_slideOf_7 : decode cL_slideOf 7 = .ok (.bipush (-11), 2) := by decide +kernel
theorem dL_slideOf_9 : decode cL_slideOf 9 = .ok (.ireturn, 1) := by decide +kernel
theorem dL_startOf_0 : decode cL_startOf 0 = .ok (.aload_n 0, 1) := by decide +kernel
theorem dL_startOf_1 : decode cL_startOf 1 = .ok (.iload_n 1, 1) := by decide +kernel
theorem dL_startOf_2 : decode cL_startOf 2 = .ok (.invokevirtual 75, 3) := by decide +kernel
theorem dL_startOf_5 : decode cL_startOf 5 = .ok (.ireturn, 1) := by decide +kernel
theorem dL_startOf_6 : decode cL_startOf 6 = .ok (.astore_n 2, 1) := by decide +kernel
theorem dL_startOf_7 : decode cL_startOf 7 = .ok (.bipush (-11), 2) := by decide +kernel
theorem dL_startOf_9 : decode cL_startOf 9 = .ok (.ireturn, 1) := by decide +kernel
theorem dL_hasStarted_0 : decode cL_hasStarted 0 = .ok (.aload_n 0, 1) := by decide +kernel
theorem dL_hasStarted_1 : decode cL_hasStarted 1 = .ok (.iload_n 1, 1) := by decide +kernel
theorem dL_hasStarted_2 : decode cL_hasStarted 2 = .ok (.invokevirtual 78, 3) := by decide +kernel
theorem dL_hasStarted_5 : decode cL_hasStarted 5 = .ok (.ifCond .eq 7, 3) := by decide +kernel
theorem dL_hasStarted_8 : decode cL_hasStarted 8 = .ok (.iconst 1, 1) := by decide +kernel
theorem dL_hasStarted_9 : decode cL_hasStarted 9 = .ok (.goto 4, 3) := by decide +kernel
theorem dL_hasStarted_12 : decode cL_hasStarted 12 = .ok (.iconst 0, 1) := by decide +kernel
theorem dL_hasStarted_13 : decode cL_hasStarted 13 = .ok (.ireturn, 1) := by decide +kernel
theorem dL_hasStarted_14 : decode cL_hasStarted 14 = .ok (.astore_n 2, 1) := by decide +kernel
theorem dL_hasStarted_15 : decode cL_hasStarted 15 = .ok (.bipush (-11), 2) := by decide +kernel
theorem dL_hasStarted_17 : decode cL_hasStarted 17 = .ok (.ireturn, 1) := by decide +kernel
theorem dL_byStart_0 : decode cL_byStart 0 = .ok (.aload_n 0, 1) := by decide +kernel
theorem dL_byStart_1 : decode cL_byStart 1 = .ok (.iload_n 1, 1) := by decide +kernel
theorem dL_byStart_2 : decode cL_byStart 2 = .ok (.invokevirtual 82, 3) := by decide +kernel
theorem dL_byStart_5 : decode cL_byStart 5 = .ok (.ireturn, 1) := by decide +kernel
theorem dL_byStart_6 : decode cL_byStart 6 = .ok (.astore_n 2, 1) := by decide +kernel
theorem dL_byStart_7 : decode cL_byStart 7 = .ok (.bipush (-13), 2) := by decide +kernel
theorem dL_byStart_9 : decode cL_byStart 9 = .ok (.ireturn, 1) := by decide +kernel
theorem dL_isFree_0 : decode cL_isFree 0 = .ok (.aload_n 0, 1) := by decide +kernel
theorem dL_isFree_1 : decode cL_isFree 1 = .ok (.iload_n 1, 1) := by decide +kernel
theorem dL_isFree_2 : decode cL_isFree 2 = .ok (.iload_n 2, 1) := by decide +kernel
theorem dL_isFree_3 : decode cL_isFree 3 = .ok (.invokevirtual 85, 3) := by decide +kernel
theorem dL_isFree_6 : decode cL_isFree 6 = .ok (.ifCond .eq 7, 3) := by decide +kernel
theorem dL_isFree_9 : decode cL_isFree 9 = .ok (.iconst 1, 1) := by decide +kernel
theorem dL_isFree_10 : decode cL_isFree 10 = .ok (.goto 4, 3) := by decide +kernel
theorem dL_isFree_13 : decode cL_isFree 13 = .ok (.iconst 0, 1) := by decide +kernel
theorem dL_isFree_14 : decode cL_isFree 14 = .ok (.ireturn, 1) := by decide +kernel
theorem dL_isFree_15 : decode cL_isFree 15 = .ok (.astore_n 3, 1) := by decide +kernel
theorem dL_isFree_16 : decode cL_isFree 16 = .ok (.bipush (-11), 2) := by decide +kernel
theorem dL_isFree_18 : decode cL_isFree 18 = .ok (.ireturn, 1) := by decide +kernel
theorem dL_isFree_19 : decode cL_isFree 19 = .ok (.astore_n 3, 1) := by decide +kernel
theorem dL_isFree_20 : decode cL_isFree 20 = .ok (.bipush (-12), 2) := by decide +kernel
theorem dL_isFree_22 : decode cL_isFree 22 = .ok (.ireturn, 1) := by decide +kernel
theorem dL_firstFree_0 : decode cL_firstFree 0 = .ok (.aload_n 0, 1) := by decide +kernel
theorem dL_firstFree_1 : decode cL_firstFree 1 = .ok (.iload_n 1, 1) := by decide +kernel
theorem dL_firstFree_2 : decode cL_firstFree 2 = .ok (.iload_n 2, 1) := by decide +kernel
theorem dL_firstFree_3 : decode cL_firstFree 3 = .ok (.invokevirtual 89, 3) := by decide +kernel
theorem dL_firstFree_6 : decode cL_firstFree 6 = .ok (.ireturn, 1) := by decide +kernel
theorem dL_firstFree_7 : decode cL_firstFree 7 = .ok (.astore_n 3, 1) := by decide +kernel
theorem dL_firstFree_8 : decode cL_firstFree 8 = .ok (.bipush (-11), 2) := by decide +kernel
theorem dL_firstFree_10 : decode cL_firstFree 10 = .ok (.ireturn, 1) := by decide +kernel
theorem dL_firstFree_11 : decode cL_firstFree 11 = .ok (.astore_n 3, 1) := by decide +kernel
theorem dL_firstFree_12 : decode cL_firstFree 12 = .ok (.bipush (-12), 2) := by decide +kernel
theorem dL_firstFree_14 : decode cL_firstFree 14 = .ok (.ireturn, 1) := by decide +kernel
theorem dL_firstFree_15 : decode cL_firstFree 15 = .ok (.astore_n 3, 1) := by decide +kernel
theorem dL_firstFree_16 : decode cL_firstFree 16 = .ok (.bipush (-13), 2) := by decide +kernel
theorem dL_firstFree_18 : decode cL_firstFree 18 = .ok (.ireturn, 1) := by decide +kernel
theorem dL_byGaps_0 : decode cL_byGaps 0 = .ok (.aload_n 0, 1) := by decide +kernel
theorem dL_byGaps_1 : decode cL_byGaps 1 = .ok (.iload_n 1, 1) := by decide +kernel
theorem dL_byGaps_2 : decode cL_byGaps 2 = .ok (.iload_n 2, 1) := by decide +kernel
theorem dL_byGaps_3 : decode cL_byGaps 3 = .ok (.invokevirtual 92, 3) := by decide +kernel
theorem dL_byGaps_6 : decode cL_byGaps 6 = .ok (.ireturn, 1) := by decide +kernel
theorem dL_byGaps_7 : decode cL_byGaps 7 = .ok (.astore_n 3, 1) := by decide +kernel
theorem dL_byGaps_8 : decode cL_byGaps 8 = .ok (.bipush (-11), 2) := by decide +kernel
theorem dL_byGaps_10 : decode cL_byGaps 10 = .ok (.ireturn, 1) := by decide +kernel
theorem dL_byGaps_11 : decode cL_byGaps 11 = .ok (.astore_n 3, 1) := by decide +kernel
theorem dL_byGaps_12 : decode cL_byGaps 12 = .ok (.bipush (-12), 2) := by decide +kernel
theorem dL_byGaps_14 : decode cL_byGaps 14 = .ok (.ireturn, 1) := by decide +kernel
theorem dL_byGaps_15 : decode cL_byGaps 15 = .ok (.astore_n 3, 1) := by decide +kernel
theorem dL_byGaps_16 : decode cL_byGaps 16 = .ok (.bipush (-13), 2) := by decide +kernel
theorem dL_byGaps_18 : decode cL_byGaps 18 = .ok (.ireturn, 1) := by decide +kernel
theorem dL_finishedGuest_0 : decode cL_finishedGuest 0 = .ok (.aload_n 0, 1) := by decide +kernel
theorem dL_finishedGuest_1 : decode cL_finishedGuest 1 = .ok (.iload_n 1, 1) := by decide +kernel
theorem dL_finishedGuest_2 : decode cL_finishedGuest 2 = .ok (.invokevirtual 95, 3) := by decide +kernel
theorem dL_finishedGuest_5 : decode cL_finishedGuest 5 = .ok (.ireturn, 1) := by decide +kernel
theorem dL_finishedGuest_6 : decode cL_finishedGuest 6 = .ok (.astore_n 2, 1) := by decide +kernel
theorem dL_finishedGuest_7 : decode cL_finishedGuest 7 = .ok (.bipush (-13), 2) := by decide +kernel
theorem dL_finishedGuest_9 : decode cL_finishedGuest 9 = .ok (.ireturn, 1) := by decide +kernel
theorem dL_finishedSlide_0 : decode cL_finishedSlide 0 = .ok (.aload_n 0, 1) := by decide +kernel
theorem dL_finishedSlide_1 : decode cL_finishedSlide 1 = .ok (.iload_n 1, 1) := by decide +kernel
theorem dL_finishedSlide_2 : decode cL_finishedSlide 2 = .ok (.invokevirtual 98, 3) := by decide +kernel
theorem dL_finishedSlide_5 : decode cL_finishedSlide 5 = .ok (.ireturn, 1) := by decide +kernel
theorem dL_finishedSlide_6 : decode cL_finishedSlide 6 = .ok (.astore_n 2, 1) := by decide +kernel
theorem dL_finishedSlide_7 : decode cL_finishedSlide 7 = .ok (.bipush (-13), 2) := by decide +kernel
theorem dL_finishedSlide_9 : decode cL_finishedSlide 9 = .ok (.ireturn, 1) := by decide +kernel
theorem dL_finishMinute_0 : decode cL_finishMinute 0 = .ok (.aload_n 0, 1) := by decide +kernel
theorem dL_finishMinute_1 : decode cL_finishMinute 1 = .ok (.iload_n 1, 1) := by decide +kernel
theorem dL_finishMinute_2 : decode cL_finishMinute 2 = .ok (.invokevirtual 101, 3) := by decide +kernel
theorem dL_finishMinute_5 : decode cL_finishMinute 5 = .ok (.ireturn, 1) := by decide +kernel
theorem dL_finishMinute_6 : decode cL_finishMinute 6 = .ok (.astore_n 2, 1) := by decide +kernel
theorem dL_finishMinute_7 : decode cL_finishMinute 7 = .ok (.bipush (-13), 2) := by decide +kernel
theorem dL_finishMinute_9 : decode cL_finishMinute 9 = .ok (.ireturn, 1) := by decide +kernel
theorem dL_rides_0 : decode cL_rides 0 = .ok (.aload_n 0, 1) := by decide +kernel
theorem dL_rides_1 : decode cL_rides 1 = .ok (.iload_n 1, 1) := by decide +kernel
theorem dL_rides_2 : decode cL_rides 2 = .ok (.invokevirtual 104, 3) := by decide +kernel
theorem dL_rides_5 : decode cL_rides 5 = .ok (.ireturn, 1) := by decide +kernel
theorem dL_rides_6 : decode cL_rides 6 = .ok (.astore_n 2, 1) := by decide +kernel
theorem dL_rides_7 : decode cL_rides 7 = .ok (.bipush (-11), 2) := by decide +kernel
theorem dL_rides_9 : decode cL_rides 9 = .ok (.ireturn, 1) := by decide +kernel
theorem dL_byRides_0 : decode cL_byRides 0 = .ok (.aload_n 0, 1) := by decide +kernel
theorem dL_byRides_1 : decode cL_byRides 1 = .ok (.iload_n 1, 1) := by decide +kernel
theorem dL_byRides_2 : decode cL_byRides 2 = .ok (.invokevirtual 107, 3) := by decide +kernel
theorem dL_byRides_5 : decode cL_byRides 5 = .ok (.ireturn, 1) := by decide +kernel
theorem dL_byRides_6 : decode cL_byRides 6 = .ok (.astore_n 2, 1) := by decide +kernel
theorem dL_byRides_7 : decode cL_byRides 7 = .ok (.bipush (-13), 2) := by decide +kernel
theorem dL_byRides_9 : decode cL_byRides 9 = .ok (.ireturn, 1) := by decide +kernel
theorem dL_byWetness_0 : decode cL_byWetness 0 = .ok (.aload_n 0, 1) := by decide +kernel
theorem dL_byWetness_1 : decode cL_byWetness 1 = .ok (.iload_n 1, 1) := by decide +kernel
theorem dL_byWetness_2 : decode cL_byWetness 2 = .ok (.invokevirtual 110, 3) := by decide +kernel
theorem dL_byWetness_5 : decode cL_byWetness 5 = .ok (.ireturn, 1) := by decide +kernel
theorem dL_byWetness_6 : decode cL_byWetness 6 = .ok (.astore_n 2, 1) := by decide +kernel
theorem dL_byWetness_7 : decode cL_byWetness 7 = .ok (.bipush (-13), 2) := by decide +kernel
theorem dL_byWetness_9 : decode cL_byWetness 9 = .ok (.ireturn, 1) := by decide +kernel
theorem dL_feed_0 : decode cL_feed 0 = .ok (.aload_n 0, 1) := by decide +kernel
theorem dL_feed_1 : decode cL_feed 1 = .ok (.iload_n 1, 1) := by decide +kernel
theorem dL_feed_2 : decode cL_feed 2 = .ok (.invokevirtual 113, 3) := by decide +kernel
theorem dL_feed_5 : decode cL_feed 5 = .ok (.ireturn, 1) := by decide +kernel
theorem dL_feed_6 : decode cL_feed 6 = .ok (.astore_n 2, 1) := by decide +kernel
theorem dL_feed_7 : decode cL_feed 7 = .ok (.bipush (-14), 2) := by decide +kernel
theorem dL_feed_9 : decode cL_feed 9 = .ok (.ireturn, 1) := by decide +kernel
theorem dL_runs_0 : decode cL_runs 0 = .ok (.aload_n 0, 1) := by decide +kernel
theorem dL_runs_1 : decode cL_runs 1 = .ok (.invokevirtual 117, 3) := by decide +kernel
theorem dL_runs_4 : decode cL_runs 4 = .ok (.ireturn, 1) := by decide +kernel
theorem dL_runs_5 : decode cL_runs 5 = .ok (.astore_n 1, 1) := by decide +kernel
theorem dL_runs_6 : decode cL_runs 6 = .ok (.iconst (-1), 1) := by decide +kernel
theorem dL_runs_7 : decode cL_runs 7 = .ok (.ireturn, 1) := by decide +kernel
theorem dL_runs_8 : decode cL_runs 8 = .ok (.astore_n 1, 1) := by decide +kernel
theorem dL_runs_9 : decode cL_runs 9 = .ok (.bipush (-2), 2) := by decide +kernel
theorem dL_runs_11 : decode cL_runs 11 = .ok (.ireturn, 1) := by decide +kernel
theorem dL_writeSlide_0 : decode cL_writeSlide 0 = .ok (.aload_n 0, 1) := by decide +kernel
theorem dL_writeSlide_1 : decode cL_writeSlide 1 = .ok (.iload_n 1, 1) := by decide +kernel
theorem dL_writeSlide_2 : decode cL_writeSlide 2 = .ok (.invokevirtual 126, 3) := by decide +kernel
theorem dL_writeSlide_5 : decode cL_writeSlide 5 = .ok (.ireturn, 1) := by decide +kernel
theorem dL_writeSlide_6 : decode cL_writeSlide 6 = .ok (.astore_n 2, 1) := by decide +kernel
theorem dL_writeSlide_7 : decode cL_writeSlide 7 = .ok (.bipush (-11), 2) := by decide +kernel
theorem dL_writeSlide_9 : decode cL_writeSlide 9 = .ok (.ireturn, 1) := by decide +kernel
theorem dL_outputAt_0 : decode cL_outputAt 0 = .ok (.aload_n 0, 1) := by decide +kernel
theorem dL_outputAt_1 : decode cL_outputAt 1 = .ok (.iload_n 1, 1) := by decide +kernel
theorem dL_outputAt_2 : decode cL_outputAt 2 = .ok (.invokevirtual 129, 3) := by decide +kernel
theorem dL_outputAt_5 : decode cL_outputAt 5 = .ok (.ireturn, 1) := by decide +kernel
theorem dL_outputAt_6 : decode cL_outputAt 6 = .ok (.astore_n 2, 1) := by decide +kernel
theorem dL_outputAt_7 : decode cL_outputAt 7 = .ok (.bipush (-11), 2) := by decide +kernel
theorem dL_outputAt_9 : decode cL_outputAt 9 = .ok (.ireturn, 1) := by decide +kernel
theorem dL_undo_0 : decode cL_undo 0 = .ok (.aload_n 0, 1) := by decide +kernel
theorem dL_undo_1 : decode cL_undo 1 = .ok (.invokevirtual 133, 3) := by decide +kernel
theorem dL_undo_4 : decode cL_undo 4 = .ok (.ireturn, 1) := by decide +kernel
theorem dL_undo_5 : decode cL_undo 5 = .ok (.astore_n 1, 1) := by decide +kernel
theorem dL_undo_6 : decode cL_undo 6 = .ok (.iconst (-1), 1) := by decide +kernel
theorem dL_undo_7 : decode cL_undo 7 = .ok (.ireturn, 1) := by decide +kernel
theorem dL_run_0 : decode cL_run 0 = .ok (.iconst 0, 1) := by decide +kernel
theorem dL_run_1 : decode cL_run 1 = .ok (.istore_n 2, 1) := by decide +kernel
theorem dL_run_2 : decode cL_run 2 = .ok (.iload_n 2, 1) := by decide +kernel
theorem dL_run_3 : decode cL_run 3 = .ok (.aload_n 1, 1) := by decide +kernel
theorem dL_run_4 : decode cL_run 4 = .ok (.invokevirtual 136, 3) := by decide +kernel
theorem dL_run_7 : decode cL_run 7 = .ok (.if_icmp .ge 27, 3) := by decide +kernel
theorem dL_run_10 : decode cL_run 10 = .ok (.aload_n 0, 1) := by decide +kernel
theorem dL_run_11 : decode cL_run 11 = .ok (.aload_n 1, 1) := by decide +kernel
theorem dL_run_12 : decode cL_run 12 = .ok (.iload_n 2, 1) := by decide +kernel
theorem dL_run_13 : decode cL_run 13 = .ok (.invokevirtual 141, 3) := by decide +kernel
theorem dL_run_16 : decode cL_run 16 = .ok (.invokestatic 144, 3) := by decide +kernel
theorem dL_run_19 : decode cL_run 19 = .ok (.iload_n 2, 1) := by decide +kernel
theorem dL_run_20 : decode cL_run 20 = .ok (.iconst 1, 1) := by decide +kernel
theorem dL_run_21 : decode cL_run 21 = .ok (.iadd, 1) := by decide +kernel
theorem dL_run_22 : decode cL_run 22 = .ok (.if_icmp .eq 6, 3) := by decide +kernel
theorem dL_run_25 : decode cL_run 25 = .ok (.bipush (-9), 2) := by decide +kernel
theorem dL_run_27 : decode cL_run 27 = .ok (.ireturn, 1) := by decide +kernel
theorem dL_run_28 : decode cL_run 28 = .ok (.iinc 2 1, 3) := by decide +kernel
theorem dL_run_31 : decode cL_run 31 = .ok (.goto (-29), 3) := by decide +kernel
theorem dL_run_34 : decode cL_run 34 = .ok (.aload_n 0, 1) := by decide +kernel
theorem dL_run_35 : decode cL_run 35 = .ok (.invokestatic 149, 3) := by decide +kernel
theorem dL_run_38 : decode cL_run 38 = .ok (.ireturn, 1) := by decide +kernel
theorem dL_drawn_0 : decode cL_drawn 0 = .ok (.new 9, 3) := by decide +kernel
theorem dL_drawn_3 : decode cL_drawn 3 = .ok (.dup, 1) := by decide +kernel
theorem dL_drawn_4 : decode cL_drawn 4 = .ok (.invokespecial 153, 3) := by decide +kernel
theorem dL_drawn_7 : decode cL_drawn 7 = .ok (.astore_n 1, 1) := by decide +kernel
theorem dL_drawn_8 : decode cL_drawn 8 = .ok (.aload_n 0, 1) := by decide +kernel
theorem dL_drawn_9 : decode cL_drawn 9 = .ok (.iconst 0, 1) := by decide +kernel
theorem dL_drawn_10 : decode cL_drawn 10 = .ok (.invokestatic 154, 3) := by decide +kernel
theorem dL_drawn_13 : decode cL_drawn 13 = .ok (.iconst 1, 1) := by decide +kernel
theorem dL_drawn_14 : decode cL_drawn 14 = .ok (.iushr, 1) := by decide +kernel
theorem dL_drawn_15 : decode cL_drawn 15 = .ok (.istore_n 2, 1) := by decide +kernel
theorem dL_drawn_16 : decode cL_drawn 16 = .ok (.iconst 1, 1) := by decide +kernel
theorem dL_drawn_17 : decode cL_drawn 17 = .ok (.iload_n 2, 1) := by decide +kernel
theorem dL_drawn_18 : decode cL_drawn 18 = .ok (.iconst 4, 1) := by decide +kernel
theorem dL_drawn_19 : decode cL_drawn 19 = .ok (.irem, 1) := by decide +kernel
theorem dL_drawn_20 : decode cL_drawn 20 = .ok (.iadd, 1) := by decide +kernel
theorem dL_drawn_21 : decode cL_drawn 21 = .ok (.istore_n 3, 1) := by decide +kernel
theorem dL_drawn_22 : decode cL_drawn 22 = .ok (.iconst 2, 1) := by decide +kernel
theorem dL_drawn_23 : decode cL_drawn 23 = .ok (.iload_n 2, 1) := by decide +kernel
theorem dL_drawn_24 : decode cL_drawn 24 = .ok (.iconst 2, 1) := by decide +kernel
theorem dL_drawn_25 : decode cL_drawn 25 = .ok (.iushr, 1) := by decide +kernel
theorem dL_drawn_26 : decode cL_drawn 26 = .ok (.bipush 7, 2) := by decide +kernel
theorem dL_drawn_28 : decode cL_drawn 28 = .ok (.irem, 1) := by decide +kernel
theorem dL_drawn_29 : decode cL_drawn 29 = .ok (.iadd, 1) := by decide +kernel
theorem dL_drawn_30 : decode cL_drawn 30 = .ok (.istore 4, 2) := by decide +kernel
theorem dL_drawn_32 : decode cL_drawn 32 = .ok (.iconst 0, 1) := by decide +kernel
theorem dL_drawn_33 : decode cL_drawn 33 = .ok (.istore 5, 2) := by decide +kernel
theorem dL_drawn_35 : decode cL_drawn 35 = .ok (.iload 5, 2) := by decide +kernel
theorem dL_drawn_37 : decode cL_drawn 37 = .ok (.iload_n 3, 1) := by decide +kernel
theorem dL_drawn_38 : decode cL_drawn 38 = .ok (.if_icmp .ge 58, 3) := by decide +kernel
theorem dL_drawn_41 : decode cL_drawn 41 = .ok (.aload_n 0, 1) := by decide +kernel
theorem dL_drawn_42 : decode cL_drawn 42 = .ok (.iconst 1, 1) := by decide +kernel
theorem dL_drawn_43 : decode cL_drawn 43 = .ok (.iload 5, 2) := by decide +kernel
theorem dL_drawn_45 : decode cL_drawn 45 = .ok (.iadd, 1) := by decide +kernel
theorem dL_drawn_46 : decode cL_drawn 46 = .ok (.invokestatic 154, 3) := by decide +kernel
theorem dL_drawn_49 : decode cL_drawn 49 = .ok (.iconst 1, 1) := by decide +kernel
theorem dL_drawn_50 : decode cL_drawn 50 = .ok (.iushr, 1) := by decide +kernel
theorem dL_drawn_51 : decode cL_drawn 51 = .ok (.istore 6, 2) := by decide +kernel
theorem dL_drawn_53 : decode cL_drawn 53 = .ok (.aload_n 1, 1) := by decide +kernel
theorem dL_drawn_54 : decode cL_drawn 54 = .ok (.iconst 1, 1) := by decide +kernel
theorem dL_drawn_55 : decode cL_drawn 55 = .ok (.iload 6, 2) := by decide +kernel
theorem dL_drawn_57 : decode cL_drawn 57 = .ok (.iload_n 2, 1) := by decide +kernel
theorem dL_drawn_58 : decode cL_drawn 58 = .ok (.iconst 3, 1) := by decide +kernel
theorem dL_drawn_59 : decode cL_drawn 59 = .ok (.irem, 1) := by decide +kernel
theorem dL_drawn_60 : decode cL_drawn 60 = .ok (.ifCond .ne 8, 3) := by decide +kernel
theorem dL_drawn_63 : decode cL_drawn 63 = .ok (.bipush 9, 2) := by decide +kernel
theorem dL_drawn_65 : decode cL_drawn 65 = .ok (.goto 4, 3) := by decide +kernel
theorem dL_drawn_68 : decode cL_drawn 68 = .ok (.iconst 3, 1) := by decide +kernel
theorem dL_drawn_69 : decode cL_drawn 69 = .ok (.irem, 1) := by decide +kernel
theorem dL_drawn_70 : decode cL_drawn 70 = .ok (.iadd, 1) := by decide +kernel
theorem dL_drawn_71 : decode cL_drawn 71 = .ok (.iconst 1, 1) := by decide +kernel
theorem dL_drawn_72 : decode cL_drawn 72 = .ok (.iload 6, 2) := by decide +kernel
theorem dL_drawn_74 : decode cL_drawn 74 = .ok (.iconst 4, 1) := by decide +kernel
theorem dL_drawn_75 : decode cL_drawn 75 = .ok (.iushr, 1) := by decide +kernel
theorem dL_drawn_76 : decode cL_drawn 76 = .ok (.bipush 9, 2) := by decide +kernel
theorem dL_drawn_78 : decode cL_drawn 78 = .ok (.irem, 1) := by decide +kernel
theorem dL_drawn_79 : decode cL_drawn 79 = .ok (.iadd, 1) := by decide +kernel
theorem dL_drawn_80 : decode cL_drawn 80 = .ok (.invokestatic 158, 3) := by decide +kernel
theorem dL_drawn_83 : decode cL_drawn 83 = .ok (.iload 5, 2) := by decide +kernel
theorem dL_drawn_85 : decode cL_drawn 85 = .ok (.if_icmp .eq 5, 3) := by decide +kernel
theorem dL_drawn_88 : decode cL_drawn 88 = .ok (.aconst_null, 1) := by decide +kernel
theorem dL_drawn_89 : decode cL_drawn 89 = .ok (.areturn, 1) := by decide +kernel
theorem dL_drawn_90 : decode cL_drawn 90 = .ok (.iinc 5 1, 3) := by decide +kernel
theorem dL_drawn_93 : decode cL_drawn 93 = .ok (.goto (-58), 3) := by decide +kernel
theorem dL_drawn_96 : decode cL_drawn 96 = .ok (.iconst 0, 1) := by decide +kernel
theorem dL_drawn_97 : decode cL_drawn 97 = .ok (.istore 5, 2) := by decide +kernel
theorem dL_drawn_99 : decode cL_drawn 99 = .ok (.iload 5, 2) := by decide +kernel
theorem dL_drawn_101 : decode cL_drawn 101 = .ok (.iload 4, 2) := by decide +kernel
theorem dL_drawn_103 : decode cL_drawn 103 = .ok (.if_icmp .ge 20, 3) := by decide +kernel
theorem dL_drawn_106 : decode cL_drawn 106 = .ok (.aload_n 1, 1) := by decide +kernel
theorem dL_drawn_107 : decode cL_drawn 107 = .ok (.invokestatic 162, 3) := by decide +kernel
theorem dL_drawn_110 : decode cL_drawn 110 = .ok (.iload 5, 2) := by decide +kernel
theorem dL_drawn_112 : decode cL_drawn 112 = .ok (.if_icmp .eq 5, 3) := by decide +kernel
theorem dL_drawn_115 : decode cL_drawn 115 = .ok (.aconst_null, 1) := by decide +kernel
theorem dL_drawn_116 : decode cL_drawn 116 = .ok (.areturn, 1) := by decide +kernel
theorem dL_drawn_117 : decode cL_drawn 117 = .ok (.iinc 5 1, 3) := by decide +kernel
theorem dL_drawn_120 : decode cL_drawn 120 = .ok (.goto (-21), 3) := by decide +kernel
theorem dL_drawn_123 : decode cL_drawn 123 = .ok (.iconst 0, 1) := by decide +kernel
theorem dL_drawn_124 : decode cL_drawn 124 = .ok (.istore 5, 2) := by decide +kernel
theorem dL_drawn_126 : decode cL_drawn 126 = .ok (.iload 5, 2) := by decide +kernel
theorem dL_drawn_128 : decode cL_drawn 128 = .ok (.bipush 14, 2) := by decide +kernel
theorem dL_drawn_130 : decode cL_drawn 130 = .ok (.if_icmp .ge 127, 3) := by decide +kernel
theorem dL_drawn_133 : decode cL_drawn 133 = .ok (.aload_n 0, 1) := by decide +kernel
theorem dL_drawn_134 : decode cL_drawn 134 = .ok (.iconst 5, 1) := by decide +kernel
theorem dL_drawn_135 : decode cL_drawn 135 = .ok (.iload 5, 2) := by decide +kernel
theorem dL_drawn_137 : decode cL_drawn 137 = .ok (.iadd, 1) := by decide +kernel
theorem dL_drawn_138 : decode cL_drawn 138 = .ok (.invokestatic 154, 3) := by decide +kernel
theorem dL_drawn_141 : decode cL_drawn 141 = .ok (.iconst 1, 1) := by decide +kernel
theorem dL_drawn_142 : decode cL_drawn 142 = .ok (.iushr, 1) := by decide +kernel
theorem dL_drawn_143 : decode cL_drawn 143 = .ok (.istore 6, 2) := by decide +kernel
theorem dL_drawn_145 : decode cL_drawn 145 = .ok (.iload 6, 2) := by decide +kernel
theorem dL_drawn_147 : decode cL_drawn 147 = .ok (.iconst 3, 1) := by decide +kernel
theorem dL_drawn_148 : decode cL_drawn 148 = .ok (.iushr, 1) := by decide +kernel
theorem dL_drawn_149 : decode cL_drawn 149 = .ok (.iload 4, 2) := by decide +kernel
theorem dL_drawn_151 : decode cL_drawn 151 = .ok (.irem, 1) := by decide +kernel
theorem dL_drawn_152 : decode cL_drawn 152 = .ok (.istore 7, 2) := by decide +kernel
theorem dL_drawn_154 : decode cL_drawn 154 = .ok (.iload 6, 2) := by decide +kernel
theorem dL_drawn_156 : decode cL_drawn 156 = .ok (.bipush 6, 2) := by decide +kernel
theorem dL_drawn_158 : decode cL_drawn 158 = .ok (.iushr, 1) := by decide +kernel
theorem dL_drawn_159 : decode cL_drawn 159 = .ok (.iload_n 3, 1) := by decide +kernel
theorem dL_drawn_160 : decode cL_drawn 160 = .ok (.irem, 1) := by decide +kernel
theorem dL_drawn_161 : decode cL_drawn 161 = .ok (.istore 8, 2) := by decide +kernel
theorem dL_drawn_163 : decode cL_drawn 163 = .ok (.iload 6, 2) := by decide +kernel
theorem dL_drawn_165 : decode cL_drawn 165 = .ok (.bipush 8, 2) := by decide +kernel
theorem dL_drawn_167 : decode cL_drawn 167 = .ok (.irem, 1) := by decide +kernel
theorem dL_drawn_168 : decode cL_drawn 168 = .ok (.iconst 4, 1) := by decide +kernel
theorem dL_drawn_169 : decode cL_drawn 169 = .ok (.if_icmp .ge 38, 3) := by decide +kernel
theorem dL_drawn_172 : decode cL_drawn 172 = .ok (.aload_n 1, 1) := by decide +kernel
theorem dL_drawn_173 : decode cL_drawn 173 = .ok (.iload 7, 2) := by decide +kernel
theorem dL_drawn_175 : decode cL_drawn 175 = .ok (.iload 8, 2) := by decide +kernel
theorem dL_drawn_177 : decode cL_drawn 177 = .ok (.aload_n 1, 1) := by decide +kernel
theorem dL_drawn_178 : decode cL_drawn 178 = .ok (.invokevirtual 164, 3) := by decide +kernel
theorem dL_drawn_181 : decode cL_drawn 181 = .ok (.iload 6, 2) := by decide +kernel
theorem dL_drawn_183 : decode cL_drawn 183 = .ok (.bipush 9, 2) := by decide +kernel
theorem dL_drawn_185 : decode cL_drawn 185 = .ok (.iushr, 1) := by decide +kernel
theorem dL_drawn_186 : decode cL_drawn 186 = .ok (.iload_n 2, 1) := by decide +kernel
theorem dL_drawn_187 : decode cL_drawn 187 = .ok (.iconst 2, 1) := by decide +kernel
theorem dL_drawn_188 : decode cL_drawn 188 = .ok (.irem, 1) := by decide +kernel
theorem dL_drawn_189 : decode cL_drawn 189 = .ok (.ifCond .ne 8, 3) := by decide +kernel
theorem dL_drawn_192 : decode cL_drawn 192 = .ok (.bipush 9, 2) := by decide +kernel
theorem dL_drawn_194 : decode cL_drawn 194 = .ok (.goto 5, 3) := by decide +kernel
theorem dL_drawn_197 : decode cL_drawn 197 = .ok (.bipush 25, 2) := by decide +kernel
theorem dL_drawn_199 : decode cL_drawn 199 = .ok (.irem, 1) := by decide +kernel
theorem dL_drawn_200 : decode cL_drawn 200 = .ok (.iadd, 1) := by decide +kernel
theorem dL_drawn_201 : decode cL_drawn 201 = .ok (.invokestatic 167, 3) := by decide +kernel
theorem dL_drawn_204 : decode cL_drawn 204 = .ok (.goto 37, 3) := by decide +kernel
theorem dL_drawn_207 : decode cL_drawn 207 = .ok (.iload 6, 2) := by decide +kernel
theorem dL_drawn_209 : decode cL_drawn 209 = .ok (.bipush 8, 2) := by decide +kernel
theorem dL_drawn_211 : decode cL_drawn 211 = .ok (.irem, 1) := by decide +kernel
theorem dL_drawn_212 : decode cL_drawn 212 = .ok (.bipush 6, 2) := by decide +kernel
theorem dL_drawn_214 : decode cL_drawn 214 = .ok (.if_icmp .ge 14, 3) := by decide +kernel
theorem dL_drawn_217 : decode cL_drawn 217 = .ok (.aload_n 1, 1) := by decide +kernel
theorem dL_drawn_218 : decode cL_drawn 218 = .ok (.iload 7, 2) := by decide +kernel
theorem dL_drawn_220 : decode cL_drawn 220 = .ok (.iload 8, 2) := by decide +kernel
theorem dL_drawn_222 : decode cL_drawn 222 = .ok (.invokestatic 170, 3) := by decide +kernel
theorem dL_drawn_225 : decode cL_drawn 225 = .ok (.goto 16, 3) := by decide +kernel
theorem dL_drawn_228 : decode cL_drawn 228 = .ok (.aload_n 1, 1) := by decide +kernel
theorem dL_drawn_229 : decode cL_drawn 229 = .ok (.iconst 1, 1) := by decide +kernel
theorem dL_drawn_230 : decode cL_drawn 230 = .ok (.iload 6, 2) := by decide +kernel
theorem dL_drawn_232 : decode cL_drawn 232 = .ok (.bipush 9, 2) := by decide +kernel
theorem dL_drawn_234 : decode cL_drawn 234 = .ok (.iushr, 1) := by decide +kernel
theorem dL_drawn_235 : decode cL_drawn 235 = .ok (.iconst 4, 1) := by decide +kernel
theorem dL_drawn_236 : decode cL_drawn 236 = .ok (.irem, 1) := by decide +kernel
theorem dL_drawn_237 : decode cL_drawn 237 = .ok (.iadd, 1) := by decide +kernel
theorem dL_drawn_238 : decode cL_drawn 238 = .ok (.invokestatic 173, 3) := by decide +kernel
theorem dL_drawn_241 : decode cL_drawn 241 = .ok (.istore 9, 2) := by decide +kernel
theorem dL_drawn_243 : decode cL_drawn 243 = .ok (.iload 9, 2) := by decide +kernel
theorem dL_drawn_245 : decode cL_drawn 245 = .ok (.iconst (-1), 1) := by decide +kernel
theorem dL_drawn_246 : decode cL_drawn 246 = .ok (.if_icmp .ne 5, 3) := by decide +kernel
theorem dL_drawn_249 : decode cL_drawn 249 = .ok (.aconst_null, 1) := by decide +kernel
theorem dL_drawn_250 : decode cL_drawn 250 = .ok (.areturn, 1) := by decide +kernel
theorem dL_drawn_251 : decode cL_drawn 251 = .ok (.iinc 5 1, 3) := by decide +kernel
theorem dL_drawn_254 : decode cL_drawn 254 = .ok (.goto (-128), 3) := by decide +kernel
theorem dL_drawn_257 : decode cL_drawn 257 = .ok (.aload_n 1, 1) := by decide +kernel
theorem dL_drawn_258 : decode cL_drawn 258 = .ok (.areturn, 1) := by decide +kernel
theorem dL_endOf_0 : decode cL_endOf 0 = .ok (.aload_n 0, 1) := by decide +kernel
theorem dL_endOf_1 : decode cL_endOf 1 = .ok (.iload_n 1, 1) := by decide +kernel
theorem dL_endOf_2 : decode cL_endOf 2 = .ok (.invokevirtual 75, 3) := by decide +kernel
theorem dL_endOf_5 : decode cL_endOf 5 = .ok (.aload_n 0, 1) := by decide +kernel
theorem dL_endOf_6 : decode cL_endOf 6 = .ok (.aload_n 0, 1) := by decide +kernel
theorem dL_endOf_7 : decode cL_endOf 7 = .ok (.iload_n 1, 1) := by decide +kernel
theorem dL_endOf_8 : decode cL_endOf 8 = .ok (.invokevirtual 72, 3) := by decide +kernel
theorem dL_endOf_11 : decode cL_endOf 11 = .ok (.invokevirtual 45, 3) := by decide +kernel
theorem dL_endOf_14 : decode cL_endOf 14 = .ok (.iadd, 1) := by decide +kernel
theorem dL_endOf_15 : decode cL_endOf 15 = .ok (.ireturn, 1) := by decide +kernel
theorem dL_isAt_0 : decode cL_isAt 0 = .ok (.aload_n 0, 1) := by decide +kernel
theorem dL_isAt_1 : decode cL_isAt 1 = .ok (.iload_n 1, 1) := by decide +kernel
theorem dL_isAt_2 : decode cL_isAt 2 = .ok (.invokevirtual 75, 3) := by decide +kernel
theorem dL_isAt_5 : decode cL_isAt 5 = .ok (.iload_n 2, 1) := by decide +kernel
theorem dL_isAt_6 : decode cL_isAt 6 = .ok (.if_icmp .gt 16, 3) := by decide +kernel
theorem dL_isAt_9 : decode cL_isAt 9 = .ok (.iload_n 2, 1) := by decide +kernel
theorem dL_isAt_10 : decode cL_isAt 10 = .ok (.aload_n 0, 1) := by decide +kernel
theorem dL_isAt_11 : decode cL_isAt 11 = .ok (.iload_n 1, 1) := by decide +kernel
theorem dL_isAt_12 : decode cL_isAt 12 = .ok (.invokestatic 177, 3) := by decide +kernel
theorem dL_isAt_15 : decode cL_isAt 15 = .ok (.if_icmp .ge 7, 3) := by decide +kernel
theorem dL_isAt_18 : decode cL_isAt 18 = .ok (.iconst 1, 1) := by decide +kernel
theorem dL_isAt_19 : decode cL_isAt 19 = .ok (.goto 4, 3) := by decide +kernel
theorem dL_isAt_22 : decode cL_isAt 22 = .ok (.iconst 0, 1) := by decide +kernel
theorem dL_isAt_23 : decode cL_isAt 23 = .ok (.ireturn, 1) := by decide +kernel
theorem dL_during_0 : decode cL_during 0 = .ok (.iconst (-1), 1) := by decide +kernel
theorem dL_during_1 : decode cL_during 1 = .ok (.istore_n 3, 1) := by decide +kernel
theorem dL_during_2 : decode cL_during 2 = .ok (.iconst 0, 1) := by decide +kernel
theorem dL_during_3 : decode cL_during 3 = .ok (.istore 4, 2) := by decide +kernel
theorem dL_during_5 : decode cL_during 5 = .ok (.iload 4, 2) := by decide +kernel
theorem dL_during_7 : decode cL_during 7 = .ok (.aload_n 0, 1) := by decide +kernel
theorem dL_during_8 : decode cL_during 8 = .ok (.invokevirtual 180, 3) := by decide +kernel
theorem dL_during_11 : decode cL_during 11 = .ok (.if_icmp .ge 36, 3) := by decide +kernel
theorem dL_during_14 : decode cL_during 14 = .ok (.aload_n 0, 1) := by decide +kernel
theorem dL_during_15 : decode cL_during 15 = .ok (.iload 4, 2) := by decide +kernel
theorem dL_during_17 : decode cL_during 17 = .ok (.invokevirtual 72, 3) := by decide +kernel
theorem dL_during_20 : decode cL_during 20 = .ok (.iload_n 1, 1) := by decide +kernel
theorem dL_during_21 : decode cL_during 21 = .ok (.if_icmp .ne 18, 3) := by decide +kernel
theorem dL_during_24 : decode cL_during 24 = .ok (.aload_n 0, 1) := by decide +kernel
theorem dL_during_25 : decode cL_during 25 = .ok (.iload 4, 2) := by decide +kernel
theorem dL_during_27 : decode cL_during 27 = .ok (.iload_n 2, 1) := by decide +kernel
theorem dL_during_28 : decode cL_during 28 = .ok (.invokestatic 183, 3) := by decide +kernel
theorem dL_during_31 : decode cL_during 31 = .ok (.ifCond .eq 8, 3) := by decide +kernel
theorem dL_during_34 : decode cL_during 34 = .ok (.iload 4, 2) := by decide +kernel
theorem dL_during_36 : decode cL_during 36 = .ok (.goto 4, 3) := by decide +kernel
theorem dL_during_39 : decode cL_during 39 = .ok (.iload_n 3, 1) := by decide +kernel
theorem dL_during_40 : decode cL_during 40 = .ok (.istore_n 3, 1) := by decide +kernel
theorem dL_during_41 : decode cL_during 41 = .ok (.iinc 4 1, 3) := by decide +kernel
theorem dL_during_44 : decode cL_during 44 = .ok (.goto (-39), 3) := by decide +kernel
theorem dL_during_47 : decode cL_during 47 = .ok (.iload_n 3, 1) := by decide +kernel
theorem dL_during_48 : decode cL_during 48 = .ok (.ireturn, 1) := by decide +kernel
theorem dL_isOpen_0 : decode cL_isOpen 0 = .ok (.iconst 1, 1) := by decide +kernel
theorem dL_isOpen_1 : decode cL_isOpen 1 = .ok (.istore 4, 2) := by decide +kernel
theorem dL_isOpen_3 : decode cL_isOpen 3 = .ok (.iload_n 3, 1) := by decide +kernel
theorem dL_isOpen_4 : decode cL_isOpen 4 = .ok (.istore 5, 2) := by decide +kernel
theorem dL_isOpen_6 : decode cL_isOpen 6 = .ok (.iload 5, 2) := by decide +kernel
theorem dL_isOpen_8 : decode cL_isOpen 8 = .ok (.iload_n 3, 1) := by decide +kernel
theorem dL_isOpen_9 : decode cL_isOpen 9 = .ok (.aload_n 0, 1) := by decide +kernel
theorem dL_isOpen_10 : decode cL_isOpen 10 = .ok (.iload_n 2, 1) := by decide +kernel
theorem dL_isOpen_11 : decode cL_isOpen 11 = .ok (.invokevirtual 45, 3) := by decide +kernel
theorem dL_isOpen_14 : decode cL_isOpen 14 = .ok (.iadd, 1) := by decide +kernel
theorem dL_isOpen_15 : decode cL_isOpen 15 = .ok (.if_icmp .ge 70, 3) := by decide +kernel
theorem dL_isOpen_18 : decode cL_isOpen 18 = .ok (.iconst 0, 1) := by decide +kernel
theorem dL_isOpen_19 : decode cL_isOpen 19 = .ok (.istore 6, 2) := by decide +kernel
theorem dL_isOpen_21 : decode cL_isOpen 21 = .ok (.iload 6, 2) := by decide +kernel
theorem dL_isOpen_23 : decode cL_isOpen 23 = .ok (.aload_n 0, 1) := by decide +kernel
theorem dL_isOpen_24 : decode cL_isOpen 24 = .ok (.invokevirtual 180, 3) := by decide +kernel
theorem dL_isOpen_27 : decode cL_isOpen 27 = .ok (.if_icmp .ge 52, 3) := by decide +kernel
theorem dL_isOpen_30 : decode cL_isOpen 30 = .ok (.iload 4, 2) := by decide +kernel
theorem dL_isOpen_32 : decode cL_isOpen 32 = .ok (.ifCond .eq 38, 3) := by decide +kernel
theorem dL_isOpen_35 : decode cL_isOpen 35 = .ok (.aload_n 0, 1) := by decide +kernel
theorem dL_isOpen_36 : decode cL_isOpen 36 = .ok (.iload 6, 2) := by decide +kernel
theorem dL_isOpen_38 : decode cL_isOpen 38 = .ok (.iload 5, 2) := by decide +kernel
theorem dL_isOpen_40 : decode cL_isOpen 40 = .ok (.invokestatic 183, 3) := by decide +kernel
theorem dL_isOpen_43 : decode cL_isOpen 43 = .ok (.ifCond .eq 23, 3) := by decide +kernel
theorem dL_isOpen_46 : decode cL_isOpen 46 = .ok (.aload_n 0, 1) := by decide +kernel
theorem dL_isOpen_47 : decode cL_isOpen 47 = .ok (.iload 6, 2) := by decide +kernel
theorem dL_isOpen_49 : decode cL_isOpen 49 = .ok (.invokevirtual 72, 3) := by decide +kernel
theorem dL_isOpen_52 : decode cL_isOpen 52 = .ok (.iload_n 2, 1) := by decide +kernel
theorem dL_isOpen_53 : decode cL_isOpen 53 = .ok (.if_icmp .eq 17, 3) := by decide +kernel
theorem dL_isOpen_56 : decode cL_isOpen 56 = .ok (.aload_n 0, 1) := by decide +kernel
theorem dL_isOpen_57 : decode cL_isOpen 57 = .ok (.iload 6, 2) := by decide +kernel
theorem dL_isOpen_59 : decode cL_isOpen 59 = .ok (.invokevirtual 69, 3) := by decide +kernel
theorem dL_isOpen_62 : decode cL_isOpen 62 = .ok (.iload_n 1, 1) := by decide +kernel
theorem dL_isOpen_63 : decode cL_isOpen 63 = .ok (.if_icmp .eq 7, 3) := by decide +kernel
theorem dL_isOpen_66 : decode cL_isOpen 66 = .ok (.iconst 1, 1) := by decide +kernel
theorem dL_isOpen_67 : decode cL_isOpen 67 = .ok (.goto 4, 3) := by decide +kernel
theorem dL_isOpen_70 : decode cL_isOpen 70 = .ok (.iconst 0, 1) := by decide +kernel
theorem dL_isOpen_71 : decode cL_isOpen 71 = .ok (.istore 4, 2) := by decide +kernel
theorem dL_isOpen_73 : decode cL_isOpen 73 = .ok (.iinc 6 1, 3) := by decide +kernel
theorem dL_isOpen_76 : decode cL_isOpen 76 = .ok (.goto (-55), 3) := by decide +kernel
theorem dL_isOpen_79 : decode cL_isOpen 79 = .ok (.iinc 5 1, 3) := by decide +kernel
theorem dL_isOpen_82 : decode cL_isOpen 82 = .ok (.goto (-76), 3) := by decide +kernel
theorem dL_isOpen_85 : decode cL_isOpen 85 = .ok (.iload 4, 2) := by decide +kernel
theorem dL_isOpen_87 : decode cL_isOpen 87 = .ok (.ireturn, 1) := by decide +kernel
theorem dL_law_0 : decode cL_law 0 = .ok (.aload_n 0, 1) := by decide +kernel
theorem dL_law_1 : decode cL_law 1 = .ok (.invokestatic 187, 3) := by decide +kernel
theorem dL_law_4 : decode cL_law 4 = .ok (.astore_n 1, 1) := by decide +kernel
theorem dL_law_5 : decode cL_law 5 = .ok (.aload_n 1, 1) := by decide +kernel
theorem dL_law_6 : decode cL_law 6 = .ok (.ifnull 43, 3) := by decide +kernel
theorem dL_law_9 : decode cL_law 9 = .ok (.aload_n 1, 1) := by decide +kernel
theorem dL_law_10 : decode cL_law 10 = .ok (.invokestatic 191, 3) := by decide +kernel
theorem dL_law_13 : decode cL_law 13 = .ok (.ifCond .eq 36, 3) := by decide +kernel
theorem dL_law_16 : decode cL_law 16 = .ok (.aload_n 1, 1) := by decide +kernel
theorem dL_law_17 : decode cL_law 17 = .ok (.invokestatic 195, 3) := by decide +kernel
theorem dL_law_20 : decode cL_law 20 = .ok (.ifCond .eq 29, 3) := by decide +kernel
theorem dL_law_23 : decode cL_law 23 = .ok (.aload_n 1, 1) := by decide +kernel
theorem dL_law_24 : decode cL_law 24 = .ok (.invokestatic 198, 3) := by decide +kernel
theorem dL_law_27 : decode cL_law 27 = .ok (.ifCond .eq 22, 3) := by decide +kernel
theorem dL_law_30 : decode cL_law 30 = .ok (.aload_n 1, 1) := by decide +kernel
theorem dL_law_31 : decode cL_law 31 = .ok (.invokestatic 201, 3) := by decide +kernel
theorem dL_law_34 : decode cL_law 34 = .ok (.ifCond .eq 15, 3) := by decide +kernel
theorem dL_law_37 : decode cL_law 37 = .ok (.aload_n 0, 1) := by decide +kernel
theorem dL_law_38 : decode cL_law 38 = .ok (.aload_n 1, 1) := by decide +kernel
theorem dL_law_39 : decode cL_law 39 = .ok (.invokestatic 204, 3) := by decide +kernel
theorem dL_law_42 : decode cL_law 42 = .ok (.ifCond .eq 7, 3) := by decide +kernel
theorem dL_law_45 : decode cL_law 45 = .ok (.iconst 1, 1) := by decide +kernel
theorem dL_law_46 : decode cL_law 46 = .ok (.goto 4, 3) := by decide +kernel
theorem dL_law_49 : decode cL_law 49 = .ok (.iconst 0, 1) := by decide +kernel
theorem dL_law_50 : decode cL_law 50 = .ok (.ireturn, 1) := by decide +kernel
theorem dL_bookings_0 : decode cL_bookings 0 = .ok (.aload_n 0, 1) := by decide +kernel
theorem dL_bookings_1 : decode cL_bookings 1 = .ok (.invokevirtual 180, 3) := by decide +kernel
theorem dL_bookings_4 : decode cL_bookings 4 = .ok (.istore_n 1, 1) := by decide +kernel
theorem dL_bookings_5 : decode cL_bookings 5 = .ok (.iconst 0, 1) := by decide +kernel
theorem dL_bookings_6 : decode cL_bookings 6 = .ok (.istore_n 2, 1) := by decide +kernel
theorem dL_bookings_7 : decode cL_bookings 7 = .ok (.iconst 0, 1) := by decide +kernel
theorem dL_bookings_8 : decode cL_bookings 8 = .ok (.istore_n 3, 1) := by decide +kernel
theorem dL_bookings_9 : decode cL_bookings 9 = .ok (.iload_n 3, 1) := by decide +kernel
theorem dL_bookings_10 : decode cL_bookings 10 = .ok (.iload_n 1, 1) := by decide +kernel
theorem dL_bookings_11 : decode cL_bookings 11 = .ok (.if_icmp .ge 255, 3) := by decide +kernel
theorem dL_bookings_14 : decode cL_bookings 14 = .ok (.iconst 0, 1) := by decide +kernel
theorem dL_bookings_15 : decode cL_bookings 15 = .ok (.istore 4, 2) := by decide +kernel
theorem dL_bookings_17 : decode cL_bookings 17 = .ok (.iconst 0, 1) := by decide +kernel
theorem dL_bookings_18 : decode cL_bookings 18 = .ok (.istore 5, 2) := by decide +kernel
theorem dL_bookings_20 : decode cL_bookings 20 = .ok (.iload 5, 2) := by decide +kernel
theorem dL_bookings_22 : decode cL_bookings 22 = .ok (.iload_n 1, 1) := by decide +kernel
theorem dL_bookings_23 : decode cL_bookings 23 = .ok (.if_icmp .ge 109, 3) := by decide +kernel
theorem dL_bookings_26 : decode cL_bookings 26 = .ok (.iload 5, 2) := by decide +kernel
theorem dL_bookings_28 : decode cL_bookings 28 = .ok (.iload_n 3, 1) := by decide +kernel
theorem dL_bookings_29 : decode cL_bookings 29 = .ok (.if_icmp .eq 63, 3) := by decide +kernel
theorem dL_bookings_32 : decode cL_bookings 32 = .ok (.aload_n 0, 1) := by decide +kernel
theorem dL_bookings_33 : decode cL_bookings 33 = .ok (.iload_n 3, 1) := by decide +kernel
theorem dL_bookings_34 : decode cL_bookings 34 = .ok (.invokevirtual 72, 3) := by decide +kernel
theorem dL_bookings_37 : decode cL_bookings 37 = .ok (.aload_n 0, 1) := by decide +kernel
theorem dL_bookings_38 : decode cL_bookings 38 = .ok (.iload 5, 2) := by decide +kernel
theorem dL_bookings_40 : decode cL_bookings 40 = .ok (.invokevirtual 72, 3) := by decide +kernel
theorem dL_bookings_43 : decode cL_bookings 43 = .ok (.if_icmp .eq 17, 3) := by decide +kernel
theorem dL_bookings_46 : decode cL_bookings 46 = .ok (.aload_n 0, 1) := by decide +kernel
theorem dL_bookings_47 : decode cL_bookings 47 = .ok (.iload_n 3, 1) := by decide +kernel
theorem dL_bookings_48 : decode cL_bookings 48 = .ok (.invokevirtual 69, 3) := by decide +kernel
theorem dL_bookings_51 : decode cL_bookings 51 = .ok (.aload_n 0, 1) := by decide +kernel
theorem dL_bookings_52 : decode cL_bookings 52 = .ok (.iload 5, 2) := by decide +kernel
theorem dL_bookings_54 : decode cL_bookings 54 = .ok (.invokevirtual 69, 3) := by decide +kernel
theorem dL_bookings_57 : decode cL_bookings 57 = .ok (.if_icmp .ne 35, 3) := by decide +kernel
theorem dL_bookings_60 : decode cL_bookings 60 = .ok (.aload_n 0, 1) := by decide +kernel
theorem dL_bookings_61 : decode cL_bookings 61 = .ok (.iload_n 3, 1) := by decide +kernel
theorem dL_bookings_62 : decode cL_bookings 62 = .ok (.invokevirtual 75, 3) := by decide +kernel
theorem dL_bookings_65 : decode cL_bookings 65 = .ok (.aload_n 0, 1) := by decide +kernel
theorem dL_bookings_66 : decode cL_bookings 66 = .ok (.iload 5, 2) := by decide +kernel
theorem dL_bookings_68 : decode cL_bookings 68 = .ok (.invokestatic 177, 3) := by decide +kernel
theorem dL_bookings_71 : decode cL_bookings 71 = .ok (.if_icmp .ge 21, 3) := by decide +kernel
theorem dL_bookings_74 : decode cL_bookings 74 = .ok (.aload_n 0, 1) := by decide +kernel
theorem dL_bookings_75 : decode cL_bookings 75 = .ok (.iload 5, 2) := by decide +kernel
theorem dL_bookings_77 : decode cL_bookings 77 = .ok (.invokevirtual 75, 3) := by decide +kernel
theorem dL_bookings_80 : decode cL_bookings 80 = .ok (.aload_n 0, 1) := by decide +kernel
theorem dL_bookings_81 : decode cL_bookings 81 = .ok (.iload_n 3, 1) := by decide +kernel
theorem dL_bookings_82 : decode cL_bookings 82 = .ok (.invokestatic 177, 3) := by decide +kernel
theorem dL_bookings_85 : decode cL_bookings 85 = .ok (.if_icmp .ge 7, 3) := by decide +kernel
theorem dL_bookings_88 : decode cL_bookings 88 = .ok (.iconst 1, 1) := by decide +kernel
theorem dL_bookings_89 : decode cL_bookings 89 = .ok (.goto 4, 3) := by decide +kernel
theorem dL_bookings_92 : decode cL_bookings 92 = .ok (.iconst 0, 1) := by decide +kernel
theorem dL_bookings_93 : decode cL_bookings 93 = .ok (.istore 6, 2) := by decide +kernel
theorem dL_bookings_95 : decode cL_bookings 95 = .ok (.iload 4, 2) := by decide +kernel
theorem dL_bookings_97 : decode cL_bookings 97 = .ok (.aload_n 0, 1) := by decide +kernel
theorem dL_bookings_98 : decode cL_bookings 98 = .ok (.iload 5, 2) := by decide +kernel
theorem dL_bookings_100 : decode cL_bookings 100 = .ok (.aload_n 0, 1) := by decide +kernel
theorem dL_bookings_101 : decode cL_bookings 101 = .ok (.iload_n 3, 1) := by decide +kernel
theorem dL_bookings_102 : decode cL_bookings 102 = .ok (.invokevirtual 75, 3) := by decide +kernel
theorem dL_bookings_105 : decode cL_bookings 105 = .ok (.invokestatic 183, 3) := by decide +kernel
theorem dL_bookings_108 : decode cL_bookings 108 = .ok (.ifCond .eq 7, 3) := by decide +kernel
theorem dL_bookings_111 : decode cL_bookings 111 = .ok (.iconst 1, 1) := by decide +kernel
theorem dL_bookings_112 : decode cL_bookings 112 = .ok (.goto 4, 3) := by decide +kernel
theorem dL_bookings_115 : decode cL_bookings 115 = .ok (.iconst 0, 1) := by decide +kernel
theorem dL_bookings_116 : decode cL_bookings 116 = .ok (.iadd, 1) := by decide +kernel
theorem dL_bookings_117 : decode cL_bookings 117 = .ok (.istore 4, 2) := by decide +kernel
theorem dL_bookings_119 : decode cL_bookings 119 = .ok (.iload 6, 2) := by decide +kernel
theorem dL_bookings_121 : decode cL_bookings 121 = .ok (.ifCond .eq 5, 3) := by decide +kernel
theorem dL_bookings_124 : decode cL_bookings 124 = .ok (.iconst 0, 1) := by decide +kernel
theorem dL_bookings_125 : decode cL_bookings 125 = .ok (.ireturn, 1) := by decide +kernel
theorem dL_bookings_126 : decode cL_bookings 126 = .ok (.iinc 5 1, 3) := by decide +kernel
theorem dL_bookings_129 : decode cL_bookings 129 = .ok (.goto (-109), 3) := by decide +kernel
theorem dL_bookings_132 : decode cL_bookings 132 = .ok (.iload_n 2, 1) := by decide +kernel
theorem dL_bookings_133 : decode cL_bookings 133 = .ok (.iload 4, 2) := by decide +kernel
theorem dL_bookings_135 : decode cL_bookings 135 = .ok (.invokestatic 208, 3) := by decide +kernel
theorem dL_bookings_138 : decode cL_bookings 138 = .ok (.istore_n 2, 1) := by decide +kernel
theorem dL_bookings_139 : decode cL_bookings 139 = .ok (.aload_n 0, 1) := by decide +kernel
theorem dL_bookings_140 : decode cL_bookings 140 = .ok (.iload_n 3, 1) := by decide +kernel
theorem dL_bookings_141 : decode cL_bookings 141 = .ok (.invokestatic 213, 3) := by decide +kernel
theorem dL_bookings_144 : decode cL_bookings 144 = .ok (.istore 5, 2) := by decide +kernel
theorem dL_bookings_146 : decode cL_bookings 146 = .ok (.iload_n 3, 1) := by decide +kernel
theorem dL_bookings_147 : decode cL_bookings 147 = .ok (.ifCond .ne 7, 3) := by decide +kernel
theorem dL_bookings_150 : decode cL_bookings 150 = .ok (.iconst (-1), 1) := by decide +kernel
theorem dL_bookings_151 : decode cL_bookings 151 = .ok (.goto 10, 3) := by decide +kernel
theorem dL_bookings_154 : decode cL_bookings 154 = .ok (.aload_n 0, 1) := by decide +kernel
theorem dL_bookings_155 : decode cL_bookings 155 = .ok (.iload_n 3, 1) := by decide +kernel
theorem dL_bookings_156 : decode cL_bookings 156 = .ok (.iconst 1, 1) := by decide +kernel
theorem dL_bookings_157 : decode cL_bookings 157 = .ok (.isub, 1) := by decide +kernel
theorem dL_bookings_158 : decode cL_bookings 158 = .ok (.invokestatic 213, 3) := by decide +kernel
theorem dL_bookings_161 : decode cL_bookings 161 = .ok (.istore 6, 2) := by decide +kernel
theorem dL_bookings_163 : decode cL_bookings 163 = .ok (.iload_n 3, 1) := by decide +kernel
theorem dL_bookings_164 : decode cL_bookings 164 = .ok (.ifCond .ne 7, 3) := by decide +kernel
theorem dL_bookings_167 : decode cL_bookings 167 = .ok (.iconst 1, 1) := by decide +kernel
theorem dL_bookings_168 : decode cL_bookings 168 = .ok (.goto 16, 3) := by decide +kernel
theorem dL_bookings_171 : decode cL_bookings 171 = .ok (.aload_n 0, 1) := by decide +kernel
theorem dL_bookings_172 : decode cL_bookings 172 = .ok (.iload 5, 2) := by decide +kernel
theorem dL_bookings_174 : decode cL_bookings 174 = .ok (.invokevirtual 75, 3) := by decide +kernel
theorem dL_bookings_177 : decode cL_bookings 177 = .ok (.aload_n 0, 1) := by decide +kernel
theorem dL_bookings_178 : decode cL_bookings 178 = .ok (.iload 6, 2) := by decide +kernel
theorem dL_bookings_180 : decode cL_bookings 180 = .ok (.invokevirtual 75, 3) := by decide +kernel
theorem dL_bookings_183 : decode cL_bookings 183 = .ok (.isub, 1) := by decide +kernel
theorem dL_bookings_184 : decode cL_bookings 184 = .ok (.istore 7, 2) := by decide +kernel
theorem dL_bookings_186 : decode cL_bookings 186 = .ok (.iload 7, 2) := by decide +kernel
theorem dL_bookings_188 : decode cL_bookings 188 = .ok (.ifCond .eq 8, 3) := by decide +kernel
theorem dL_bookings_191 : decode cL_bookings 191 = .ok (.iload 7, 2) := by decide +kernel
theorem dL_bookings_193 : decode cL_bookings 193 = .ok (.goto 16, 3) := by decide +kernel
theorem dL_bookings_196 : decode cL_bookings 196 = .ok (.aload_n 0, 1) := by decide +kernel
theorem dL_bookings_197 : decode cL_bookings 197 = .ok (.iload 5, 2) := by decide +kernel
theorem dL_bookings_199 : decode cL_bookings 199 = .ok (.invokevirtual 72, 3) := by decide +kernel
theorem dL_bookings_202 : decode cL_bookings 202 = .ok (.aload_n 0, 1) := by decide +kernel
theorem dL_bookings_203 : decode cL_bookings 203 = .ok (.iload 6, 2) := by decide +kernel
theorem dL_bookings_205 : decode cL_bookings 205 = .ok (.invokevirtual 72, 3) := by decide +kernel
theorem dL_bookings_208 : decode cL_bookings 208 = .ok (.isub, 1) := by decide +kernel
theorem dL_bookings_209 : decode cL_bookings 209 = .ok (.istore 7, 2) := by decide +kernel
theorem dL_bookings_211 : decode cL_bookings 211 = .ok (.iload 5, 2) := by decide +kernel
theorem dL_bookings_213 : decode cL_bookings 213 = .ok (.ifCond .lt 45, 3) := by decide +kernel
theorem dL_bookings_216 : decode cL_bookings 216 = .ok (.iload 7, 2) := by decide +kernel
theorem dL_bookings_218 : decode cL_bookings 218 = .ok (.ifCond .le 40, 3) := by decide +kernel
theorem dL_bookings_221 : decode cL_bookings 221 = .ok (.aload_n 0, 1) := by decide +kernel
theorem dL_bookings_222 : decode cL_bookings 222 = .ok (.iload_n 3, 1) := by decide +kernel
theorem dL_bookings_223 : decode cL_bookings 223 = .ok (.invokestatic 216, 3) := by decide +kernel
theorem dL_bookings_226 : decode cL_bookings 226 = .ok (.aload_n 0, 1) := by decide +kernel
theorem dL_bookings_227 : decode cL_bookings 227 = .ok (.iload_n 3, 1) := by decide +kernel
theorem dL_bookings_228 : decode cL_bookings 228 = .ok (.invokevirtual 75, 3) := by decide +kernel
theorem dL_bookings_231 : decode cL_bookings 231 = .ok (.aload_n 0, 1) := by decide +kernel
theorem dL_bookings_232 : decode cL_bookings 232 = .ok (.invokevirtual 164, 3) := by decide +kernel
theorem dL_bookings_235 : decode cL_bookings 235 = .ok (.if_icmp .gt 7, 3) := by decide +kernel
theorem dL_bookings_238 : decode cL_bookings 238 = .ok (.iconst 1, 1) := by decide +kernel
theorem dL_bookings_239 : decode cL_bookings 239 = .ok (.goto 4, 3) := by decide +kernel
theorem dL_bookings_242 : decode cL_bookings 242 = .ok (.iconst 0, 1) := by decide +kernel
theorem dL_bookings_243 : decode cL_bookings 243 = .ok (.if_icmp .ne 15, 3) := by decide +kernel
theorem dL_bookings_246 : decode cL_bookings 246 = .ok (.aload_n 0, 1) := by decide +kernel
theorem dL_bookings_247 : decode cL_bookings 247 = .ok (.iload_n 3, 1) := by decide +kernel
theorem dL_bookings_248 : decode cL_bookings 248 = .ok (.invokestatic 177, 3) := by decide +kernel
theorem dL_bookings_251 : decode cL_bookings 251 = .ok (.aload_n 0, 1) := by decide +kernel
theorem dL_bookings_252 : decode cL_bookings 252 = .ok (.invokevirtual 164, 3) := by decide +kernel
theorem dL_bookings_255 : decode cL_bookings 255 = .ok (.if_icmp .gt 5, 3) := by decide +kernel
theorem dL_bookings_258 : decode cL_bookings 258 = .ok (.iconst 0, 1) := by decide +kernel
theorem dL_bookings_259 : decode cL_bookings 259 = .ok (.ireturn, 1) := by decide +kernel
theorem dL_bookings_260 : decode cL_bookings 260 = .ok (.iinc 3 1, 3) := by decide +kernel
theorem dL_bookings_263 : decode cL_bookings 263 = .ok (.goto (-254), 3) := by decide +kernel
theorem dL_bookings_266 : decode cL_bookings 266 = .ok (.aload_n 0, 1) := by decide +kernel
theorem dL_bookings_267 : decode cL_bookings 267 = .ok (.invokevirtual 218, 3) := by decide +kernel
theorem dL_bookings_270 : decode cL_bookings 270 = .ok (.iload_n 2, 1) := by decide +kernel
theorem dL_bookings_271 : decode cL_bookings 271 = .ok (.if_icmp .ne 105, 3) := by decide +kernel
theorem dL_bookings_274 : decode cL_bookings 274 = .ok (.aload_n 0, 1) := by decide +kernel
theorem dL_bookings_275 : decode cL_bookings 275 = .ok (.invokevirtual 221, 3) := by decide +kernel
theorem dL_bookings_278 : decode cL_bookings 278 = .ok (.iload_n 2, 1) := by decide +kernel
theorem dL_bookings_279 : decode cL_bookings 279 = .ok (.if_icmp .ne 97, 3) := by decide +kernel
theorem dL_bookings_282 : decode cL_bookings 282 = .ok (.aload_n 0, 1) := by decide +kernel
theorem dL_bookings_283 : decode cL_bookings 283 = .ok (.invokevirtual 224, 3) := by decide +kernel
theorem dL_bookings_286 : decode cL_bookings 286 = .ok (.aload_n 0, 1) := by decide +kernel
theorem dL_bookings_287 : decode cL_bookings 287 = .ok (.iconst (-1), 1) := by decide +kernel
theorem dL_bookings_288 : decode cL_bookings 288 = .ok (.invokestatic 227, 3) := by decide +kernel
theorem dL_bookings_291 : decode cL_bookings 291 = .ok (.if_icmp .ne 85, 3) := by decide +kernel
theorem dL_bookings_294 : decode cL_bookings 294 = .ok (.aload_n 0, 1) := by decide +kernel
theorem dL_bookings_295 : decode cL_bookings 295 = .ok (.invokevirtual 230, 3) := by decide +kernel
theorem dL_bookings_298 : decode cL_bookings 298 = .ok (.aload_n 0, 1) := by decide +kernel
theorem dL_bookings_299 : decode cL_bookings 299 = .ok (.invokevirtual 224, 3) := by decide +kernel
theorem dL_bookings_302 : decode cL_bookings 302 = .ok (.if_icmp .ne 74, 3) := by decide +kernel
theorem dL_bookings_305 : decode cL_bookings 305 = .ok (.aload_n 0, 1) := by decide +kernel
theorem dL_bookings_306 : decode cL_bookings 306 = .ok (.invokevirtual 233, 3) := by decide +kernel
theorem dL_bookings_309 : decode cL_bookings 309 = .ok (.ifCond .eq 67, 3) := by decide +kernel
theorem dL_bookings_312 : decode cL_bookings 312 = .ok (.aload_n 0, 1) := by decide +kernel
theorem dL_bookings_313 : decode cL_bookings 313 = .ok (.iload_n 1, 1) := by decide +kernel
theorem dL_bookings_314 : decode cL_bookings 314 = .ok (.invokestatic 213, 3) := by decide +kernel
theorem dL_bookings_317 : decode cL_bookings 317 = .ok (.bipush (-13), 2) := by decide +kernel
theorem dL_bookings_319 : decode cL_bookings 319 = .ok (.if_icmp .ne 57, 3) := by decide +kernel
theorem dL_bookings_322 : decode cL_bookings 322 = .ok (.aload_n 0, 1) := by decide +kernel
theorem dL_bookings_323 : decode cL_bookings 323 = .ok (.iconst (-1), 1) := by decide +kernel
theorem dL_bookings_324 : decode cL_bookings 324 = .ok (.invokestatic 213, 3) := by decide +kernel
theorem dL_bookings_327 : decode cL_bookings 327 = .ok (.bipush (-13), 2) := by decide +kernel
theorem dL_bookings_329 : decode cL_bookings 329 = .ok (.if_icmp .ne 47, 3) := by decide +kernel
theorem dL_bookings_332 : decode cL_bookings 332 = .ok (.aload_n 0, 1) := by decide +kernel
theorem dL_bookings_333 : decode cL_bookings 333 = .ok (.iload_n 1, 1) := by decide +kernel
theorem dL_bookings_334 : decode cL_bookings 334 = .ok (.invokestatic 237, 3) := by decide +kernel
theorem dL_bookings_337 : decode cL_bookings 337 = .ok (.bipush (-11), 2) := by decide +kernel
theorem dL_bookings_339 : decode cL_bookings 339 = .ok (.if_icmp .ne 37, 3) := by decide +kernel
theorem dL_bookings_342 : decode cL_bookings 342 = .ok (.aload_n 0, 1) := by decide +kernel
theorem dL_bookings_343 : decode cL_bookings 343 = .ok (.iload_n 1, 1) := by decide +kernel
theorem dL_bookings_344 : decode cL_bookings 344 = .ok (.invokestatic 240, 3) := by decide +kernel
theorem dL_bookings_347 : decode cL_bookings 347 = .ok (.bipush (-11), 2) := by decide +kernel
theorem dL_bookings_349 : decode cL_bookings 349 = .ok (.if_icmp .ne 27, 3) := by decide +kernel
theorem dL_bookings_352 : decode cL_bookings 352 = .ok (.aload_n 0, 1) := by decide +kernel
theorem dL_bookings_353 : decode cL_bookings 353 = .ok (.iconst (-1), 1) := by decide +kernel
theorem dL_bookings_354 : decode cL_bookings 354 = .ok (.invokestatic 243, 3) := by decide +kernel
theorem dL_bookings_357 : decode cL_bookings 357 = .ok (.bipush (-11), 2) := by decide +kernel
theorem dL_bookings_359 : decode cL_bookings 359 = .ok (.if_icmp .ne 17, 3) := by decide +kernel
theorem dL_bookings_362 : decode cL_bookings 362 = .ok (.aload_n 0, 1) := by decide +kernel
theorem dL_bookings_363 : decode cL_bookings 363 = .ok (.iload_n 1, 1) := by decide +kernel
theorem dL_bookings_364 : decode cL_bookings 364 = .ok (.invokestatic 216, 3) := by decide +kernel
theorem dL_bookings_367 : decode cL_bookings 367 = .ok (.bipush (-11), 2) := by decide +kernel
theorem dL_bookings_369 : decode cL_bookings 369 = .ok (.if_icmp .ne 7, 3) := by decide +kernel
theorem dL_bookings_372 : decode cL_bookings 372 = .ok (.iconst 1, 1) := by decide +kernel
theorem dL_bookings_373 : decode cL_bookings 373 = .ok (.goto 4, 3) := by decide +kernel
theorem dL_bookings_376 : decode cL_bookings 376 = .ok (.iconst 0, 1) := by decide +kernel
theorem dL_bookings_377 : decode cL_bookings 377 = .ok (.ireturn, 1) := by decide +kernel
theorem dL_watched_0 : decode cL_watched 0 = .ok (.iconst 0, 1) := by decide +kernel
theorem dL_watched_1 : decode cL_watched 1 = .ok (.istore_n 2, 1) := by decide +kernel
theorem dL_watched_2 : decode cL_watched 2 = .ok (.iconst 0, 1) := by decide +kernel
theorem dL_watched_3 : decode cL_watched 3 = .ok (.istore_n 3, 1) := by decide +kernel
theorem dL_watched_4 : decode cL_watched 4 = .ok (.iload_n 3, 1) := by decide +kernel
theorem dL_watched_5 : decode cL_watched 5 = .ok (.aload_n 0, 1) := by decide +kernel
theorem dL_watched_6 : decode cL_watched 6 = .ok (.invokevirtual 180, 3) := by decide +kernel
theorem dL_watched_9 : decode cL_watched 9 = .ok (.if_icmp .ge 124, 3) := by decide +kernel
theorem dL_watched_12 : decode cL_watched 12 = .ok (.aload_n 0, 1) := by decide +kernel
theorem dL_watched_13 : decode cL_watched 13 = .ok (.iload_n 3, 1) := by decide +kernel
theorem dL_watched_14 : decode cL_watched 14 = .ok (.invokevirtual 75, 3) := by decide +kernel
theorem dL_watched_17 : decode cL_watched 17 = .ok (.iload_n 1, 1) := by decide +kernel
theorem dL_watched_18 : decode cL_watched 18 = .ok (.if_icmp .lt 7, 3) := by decide +kernel
theorem dL_watched_21 : decode cL_watched 21 = .ok (.iconst 1, 1) := by decide +kernel
theorem dL_watched_22 : decode cL_watched 22 = .ok (.goto 4, 3) := by decide +kernel
theorem dL_watched_25 : decode cL_watched 25 = .ok (.iconst 0, 1) := by decide +kernel
theorem dL_watched_26 : decode cL_watched 26 = .ok (.istore 4, 2) := by decide +kernel
theorem dL_watched_28 : decode cL_watched 28 = .ok (.iconst 0, 1) := by decide +kernel
theorem dL_watched_29 : decode cL_watched 29 = .ok (.istore 5, 2) := by decide +kernel
theorem dL_watched_31 : decode cL_watched 31 = .ok (.iload 5, 2) := by decide +kernel
theorem dL_watched_33 : decode cL_watched 33 = .ok (.aload_n 0, 1) := by decide +kernel
theorem dL_watched_34 : decode cL_watched 34 = .ok (.invokevirtual 180, 3) := by decide +kernel
theorem dL_watched_37 : decode cL_watched 37 = .ok (.if_icmp .ge 65, 3) := by decide +kernel
theorem dL_watched_40 : decode cL_watched 40 = .ok (.iload 4, 2) := by decide +kernel
theorem dL_watched_42 : decode cL_watched 42 = .ok (.ifCond .eq 60, 3) := by decide +kernel
theorem dL_watched_45 : decode cL_watched 45 = .ok (.aload_n 0, 1) := by decide +kernel
theorem dL_watched_46 : decode cL_watched 46 = .ok (.iload 5, 2) := by decide +kernel
theorem dL_watched_48 : decode cL_watched 48 = .ok (.invokevirtual 75, 3) := by decide +kernel
theorem dL_watched_51 : decode cL_watched 51 = .ok (.iload_n 1, 1) := by decide +kernel
theorem dL_watched_52 : decode cL_watched 52 = .ok (.if_icmp .lt 37, 3) := by decide +kernel
theorem dL_watched_55 : decode cL_watched 55 = .ok (.aload_n 0, 1) := by decide +kernel
theorem dL_watched_56 : decode cL_watched 56 = .ok (.iload 5, 2) := by decide +kernel
theorem dL_watched_58 : decode cL_watched 58 = .ok (.invokestatic 177, 3) := by decide +kernel
theorem dL_watched_61 : decode cL_watched 61 = .ok (.aload_n 0, 1) := by decide +kernel
theorem dL_watched_62 : decode cL_watched 62 = .ok (.iload_n 3, 1) := by decide +kernel
theorem dL_watched_63 : decode cL_watched 63 = .ok (.invokestatic 177, 3) := by decide +kernel
theorem dL_watched_66 : decode cL_watched 66 = .ok (.if_icmp .gt 23, 3) := by decide +kernel
theorem dL_watched_69 : decode cL_watched 69 = .ok (.aload_n 0, 1) := by decide +kernel
theorem dL_watched_70 : decode cL_watched 70 = .ok (.iload 5, 2) := by decide +kernel
theorem dL_watched_72 : decode cL_watched 72 = .ok (.invokestatic 177, 3) := by decide +kernel
theorem dL_watched_75 : decode cL_watched 75 = .ok (.aload_n 0, 1) := by decide +kernel
theorem dL_watched_76 : decode cL_watched 76 = .ok (.iload_n 3, 1) := by decide +kernel
theorem dL_watched_77 : decode cL_watched 77 = .ok (.invokestatic 177, 3) := by decide +kernel
theorem dL_watched_80 : decode cL_watched 80 = .ok (.if_icmp .ne 13, 3) := by decide +kernel
theorem dL_watched_83 : decode cL_watched 83 = .ok (.iload 5, 2) := by decide +kernel
theorem dL_watched_85 : decode cL_watched 85 = .ok (.iload_n 3, 1) := by decide +kernel
theorem dL_watched_86 : decode cL_watched 86 = .ok (.if_icmp .lt 7, 3) := by decide +kernel
theorem dL_watched_89 : decode cL_watched 89 = .ok (.iconst 1, 1) := by decide +kernel
theorem dL_watched_90 : decode cL_watched 90 = .ok (.goto 4, 3) := by decide +kernel
theorem dL_watched_93 : decode cL_watched 93 = .ok (.iconst 0, 1) := by decide +kernel
theorem dL_watched_94 : decode cL_watched 94 = .ok (.istore 4, 2) := by decide +kernel
theorem dL_watched_96 : decode cL_watched 96 = .ok (.iinc 5 1, 3) := by decide +kernel
theorem dL_watched_99 : decode cL_watched 99 = .ok (.goto (-68), 3) := by decide +kernel
theorem dL_watched_102 : decode cL_watched 102 = .ok (.iload 4, 2) := by decide +kernel
theorem dL_watched_104 : decode cL_watched 104 = .ok (.ifCond .eq 21, 3) := by decide +kernel
theorem dL_watched_107 : decode cL_watched 107 = .ok (.iload_n 2, 1) := by decide +kernel
theorem dL_watched_108 : decode cL_watched 108 = .ok (.iconst 1, 1) := by decide +kernel
theorem dL_watched_109 : decode cL_watched 109 = .ok (.aload_n 0, 1) := by decide +kernel
theorem dL_watched_110 : decode cL_watched 110 = .ok (.aload_n 0, 1) := by decide +kernel
theorem dL_watched_111 : decode cL_watched 111 = .ok (.iload_n 3, 1) := by decide +kernel
theorem dL_watched_112 : decode cL_watched 112 = .ok (.invokestatic 177, 3) := by decide +kernel
theorem dL_watched_115 : decode cL_watched 115 = .ok (.invokestatic 227, 3) := by decide +kernel
theorem dL_watched_118 : decode cL_watched 118 = .ok (.iadd, 1) := by decide +kernel
theorem dL_watched_119 : decode cL_watched 119 = .ok (.invokestatic 208, 3) := by decide +kernel
theorem dL_watched_122 : decode cL_watched 122 = .ok (.goto 4, 3) := by decide +kernel
theorem dL_watched_125 : decode cL_watched 125 = .ok (.iload_n 2, 1) := by decide +kernel
theorem dL_watched_126 : decode cL_watched 126 = .ok (.istore_n 2, 1) := by decide +kernel
theorem dL_watched_127 : decode cL_watched 127 = .ok (.iinc 3 1, 3) := by decide +kernel
theorem dL_watched_130 : decode cL_watched 130 = .ok (.goto (-126), 3) := by decide +kernel
theorem dL_watched_133 : decode cL_watched 133 = .ok (.iload_n 2, 1) := by decide +kernel
theorem dL_watched_134 : decode cL_watched 134 = .ok (.ireturn, 1) := by decide +kernel
theorem dL_spells_0 : decode cL_spells 0 = .ok (.iload_n 1, 1) := by decide +kernel
theorem dL_spells_1 : decode cL_spells 1 = .ok (.aload_n 2, 1) := by decide +kernel
theorem dL_spells_2 : decode cL_spells 2 = .ok (.invokevirtual 136, 3) := by decide +kernel
theorem dL_spells_5 : decode cL_spells 5 = .ok (.if_icmp .ne 7, 3) := by decide +kernel
theorem dL_spells_8 : decode cL_spells 8 = .ok (.iconst 1, 1) := by decide +kernel
theorem dL_spells_9 : decode cL_spells 9 = .ok (.goto 4, 3) := by decide +kernel
theorem dL_spells_12 : decode cL_spells 12 = .ok (.iconst 0, 1) := by decide +kernel
theorem dL_spells_13 : decode cL_spells 13 = .ok (.istore_n 3, 1) := by decide +kernel
theorem dL_spells_14 : decode cL_spells 14 = .ok (.iconst 0, 1) := by decide +kernel
theorem dL_spells_15 : decode cL_spells 15 = .ok (.istore 4, 2) := by decide +kernel
theorem dL_spells_17 : decode cL_spells 17 = .ok (.iload 4, 2) := by decide +kernel
theorem dL_spells_19 : decode cL_spells 19 = .ok (.aload_n 2, 1) := by decide +kernel
theorem dL_spells_20 : decode cL_spells 20 = .ok (.invokevirtual 136, 3) := by decide +kernel
theorem dL_spells_23 : decode cL_spells 23 = .ok (.if_icmp .ge 34, 3) := by decide +kernel
theorem dL_spells_26 : decode cL_spells 26 = .ok (.iload_n 3, 1) := by decide +kernel
theorem dL_spells_27 : decode cL_spells 27 = .ok (.ifCond .eq 30, 3) := by decide +kernel
theorem dL_spells_30 : decode cL_spells 30 = .ok (.aload_n 0, 1) := by decide +kernel
theorem dL_spells_31 : decode cL_spells 31 = .ok (.iload 4, 2) := by decide +kernel
theorem dL_spells_33 : decode cL_spells 33 = .ok (.invokestatic 246, 3) := by decide +kernel
theorem dL_spells_36 : decode cL_spells 36 = .ok (.aload_n 2, 1) := by decide +kernel
theorem dL_spells_37 : decode cL_spells 37 = .ok (.iload 4, 2) := by decide +kernel
theorem dL_spells_39 : decode cL_spells 39 = .ok (.invokevirtual 141, 3) := by decide +kernel
theorem dL_spells_42 : decode cL_spells 42 = .ok (.if_icmp .ne 7, 3) := by decide +kernel
theorem dL_spells_45 : decode cL_spells 45 = .ok (.iconst 1, 1) := by decide +kernel
theorem dL_spells_46 : decode cL_spells 46 = .ok (.goto 4, 3) := by decide +kernel
theorem dL_spells_49 : decode cL_spells 49 = .ok (.iconst 0, 1) := by decide +kernel
theorem dL_spells_50 : decode cL_spells 50 = .ok (.istore_n 3, 1) := by decide +kernel
theorem dL_spells_51 : decode cL_spells 51 = .ok (.iinc 4 1, 3) := by decide +kernel
theorem dL_spells_54 : decode cL_spells 54 = .ok (.goto (-37), 3) := by decide +kernel
theorem dL_spells_57 : decode cL_spells 57 = .ok (.iload_n 3, 1) := by decide +kernel
theorem dL_spells_58 : decode cL_spells 58 = .ok (.ifCond .eq 17, 3) := by decide +kernel
theorem dL_spells_61 : decode cL_spells 61 = .ok (.aload_n 0, 1) := by decide +kernel
theorem dL_spells_62 : decode cL_spells 62 = .ok (.iload_n 1, 1) := by decide +kernel
theorem dL_spells_63 : decode cL_spells 63 = .ok (.invokestatic 246, 3) := by decide +kernel
theorem dL_spells_66 : decode cL_spells 66 = .ok (.bipush (-11), 2) := by decide +kernel
theorem dL_spells_68 : decode cL_spells 68 = .ok (.if_icmp .ne 7, 3) := by decide +kernel
theorem dL_spells_71 : decode cL_spells 71 = .ok (.iconst 1, 1) := by decide +kernel
theorem dL_spells_72 : decode cL_spells 72 = .ok (.goto 4, 3) := by decide +kernel
theorem dL_spells_75 : decode cL_spells 75 = .ok (.iconst 0, 1) := by decide +kernel
theorem dL_spells_76 : decode cL_spells 76 = .ok (.ireturn, 1) := by decide +kernel
theorem dL_slides_0 : decode cL_slides 0 = .ok (.aload_n 0, 1) := by decide +kernel
theorem dL_slides_1 : decode cL_slides 1 = .ok (.invokevirtual 249, 3) := by decide +kernel
theorem dL_slides_4 : decode cL_slides 4 = .ok (.istore_n 1, 1) := by decide +kernel
theorem dL_slides_5 : decode cL_slides 5 = .ok (.aload_n 0, 1) := by decide +kernel
theorem dL_slides_6 : decode cL_slides 6 = .ok (.invokevirtual 164, 3) := by decide +kernel
theorem dL_slides_9 : decode cL_slides 9 = .ok (.istore_n 2, 1) := by decide +kernel
theorem dL_slides_10 : decode cL_slides 10 = .ok (.iconst 0, 1) := by decide +kernel
theorem dL_slides_11 : decode cL_slides 11 = .ok (.istore_n 3, 1) := by decide +kernel
theorem dL_slides_12 : decode cL_slides 12 = .ok (.iconst 0, 1) := by decide +kernel
theorem dL_slides_13 : decode cL_slides 13 = .ok (.istore 4, 2) := by decide +kernel
theorem dL_slides_15 : decode cL_slides 15 = .ok (.iload 4, 2) := by decide +kernel
theorem dL_slides_17 : decode cL_slides 17 = .ok (.iload_n 1, 1) := by decide +kernel
theorem dL_slides_18 : decode cL_slides 18 = .ok (.if_icmp .ge 543, 3) := by decide +kernel
theorem dL_slides_21 : decode cL_slides 21 = .ok (.aload_n 0, 1) := by decide +kernel
theorem dL_slides_22 : decode cL_slides 22 = .ok (.iload 4, 2) := by decide +kernel
theorem dL_slides_24 : decode cL_slides 24 = .ok (.iload_n 2, 1) := by decide +kernel
theorem dL_slides_25 : decode cL_slides 25 = .ok (.invokestatic 252, 3) := by decide +kernel
theorem dL_slides_28 : decode cL_slides 28 = .ok (.istore 5, 2) := by decide +kernel
theorem dL_slides_30 : decode cL_slides 30 = .ok (.iload_n 3, 1) := by decide +kernel
theorem dL_slides_31 : decode cL_slides 31 = .ok (.iload 5, 2) := by decide +kernel
theorem dL_slides_33 : decode cL_slides 33 = .ok (.ifCond .ge 7, 3) := by decide +kernel
theorem dL_slides_36 : decode cL_slides 36 = .ok (.iconst 0, 1) := by decide +kernel
theorem dL_slides_37 : decode cL_slides 37 = .ok (.goto 4, 3) := by decide +kernel
theorem dL_slides_40 : decode cL_slides 40 = .ok (.iconst 1, 1) := by decide +kernel
theorem dL_slides_41 : decode cL_slides 41 = .ok (.iadd, 1) := by decide +kernel
theorem dL_slides_42 : decode cL_slides 42 = .ok (.istore_n 3, 1) := by decide +kernel
theorem dL_slides_43 : decode cL_slides 43 = .ok (.aload_n 0, 1) := by decide +kernel
theorem dL_slides_44 : decode cL_slides 44 = .ok (.iload 4, 2) := by decide +kernel
theorem dL_slides_46 : decode cL_slides 46 = .ok (.invokestatic 255, 3) := by decide +kernel
theorem dL_slides_49 : decode cL_slides 49 = .ok (.iload 5, 2) := by decide +kernel
theorem dL_slides_51 : decode cL_slides 51 = .ok (.ifCond .ge 8, 3) := by decide +kernel
theorem dL_slides_54 : decode cL_slides 54 = .ok (.bipush (-13), 2) := by decide +kernel
theorem dL_slides_56 : decode cL_slides 56 = .ok (.goto 9, 3) := by decide +kernel
theorem dL_slides_59 : decode cL_slides 59 = .ok (.aload_n 0, 1) := by decide +kernel
theorem dL_slides_60 : decode cL_slides 60 = .ok (.iload 5, 2) := by decide +kernel
theorem dL_slides_62 : decode cL_slides 62 = .ok (.invokevirtual 69, 3) := by decide +kernel
theorem dL_slides_65 : decode cL_slides 65 = .ok (.if_icmp .ne 23, 3) := by decide +kernel
theorem dL_slides_68 : decode cL_slides 68 = .ok (.aload_n 0, 1) := by decide +kernel
theorem dL_slides_69 : decode cL_slides 69 = .ok (.iload 4, 2) := by decide +kernel
theorem dL_slides_71 : decode cL_slides 71 = .ok (.invokestatic 257, 3) := by decide +kernel
theorem dL_slides_74 : decode cL_slides 74 = .ok (.ifCond .lt 14, 3) := by decide +kernel
theorem dL_slides_77 : decode cL_slides 77 = .ok (.aload_n 0, 1) := by decide +kernel
theorem dL_slides_78 : decode cL_slides 78 = .ok (.iload 4, 2) := by decide +kernel
theorem dL_slides_80 : decode cL_slides 80 = .ok (.invokestatic 257, 3) := by decide +kernel
theorem dL_slides_83 : decode cL_slides 83 = .ok (.bipush 9, 2) := by decide +kernel
theorem dL_slides_85 : decode cL_slides 85 = .ok (.if_icmp .le 5, 3) := by decide +kernel
theorem dL_slides_88 : decode cL_slides 88 = .ok (.iconst 0, 1) := by decide +kernel
theorem dL_slides_89 : decode cL_slides 89 = .ok (.ireturn, 1) := by decide +kernel
theorem dL_slides_90 : decode cL_slides 90 = .ok (.bipush (-13), 2) := by decide +kernel
theorem dL_slides_92 : decode cL_slides 92 = .ok (.istore 6, 2) := by decide +kernel
theorem dL_slides_94 : decode cL_slides 94 = .ok (.iload_n 2, 1) := by decide +kernel
theorem dL_slides_95 : decode cL_slides 95 = .ok (.bipush 120, 2) := by decide +kernel
theorem dL_slides_97 : decode cL_slides 97 = .ok (.iadd, 1) := by decide +kernel
theorem dL_slides_98 : decode cL_slides 98 = .ok (.istore 7, 2) := by decide +kernel
theorem dL_slides_100 : decode cL_slides 100 = .ok (.iload 7, 2) := by decide +kernel
theorem dL_slides_102 : decode cL_slides 102 = .ok (.iload_n 2, 1) := by decide +kernel
theorem dL_slides_103 : decode cL_slides 103 = .ok (.if_icmp .lt 83, 3) := by decide +kernel
theorem dL_slides_106 : decode cL_slides 106 = .ok (.aload_n 0, 1) := by decide +kernel
theorem dL_slides_107 : decode cL_slides 107 = .ok (.iconst (-1), 1) := by decide +kernel
theorem dL_slides_108 : decode cL_slides 108 = .ok (.iload 4, 2) := by decide +kernel
theorem dL_slides_110 : decode cL_slides 110 = .ok (.iload 7, 2) := by decide +kernel
theorem dL_slides_112 : decode cL_slides 112 = .ok (.invokestatic 259, 3) := by decide +kernel
theorem dL_slides_115 : decode cL_slides 115 = .ok (.istore 8, 2) := by decide +kernel
theorem dL_slides_117 : decode cL_slides 117 = .ok (.iload 8, 2) := by decide +kernel
theorem dL_slides_119 : decode cL_slides 119 = .ok (.ifCond .eq 8, 3) := by decide +kernel
theorem dL_slides_122 : decode cL_slides 122 = .ok (.iload 7, 2) := by decide +kernel
theorem dL_slides_124 : decode cL_slides 124 = .ok (.goto 5, 3) := by decide +kernel
theorem dL_slides_127 : decode cL_slides 127 = .ok (.iload 6, 2) := by decide +kernel
theorem dL_slides_129 : decode cL_slides 129 = .ok (.istore 6, 2) := by decide +kernel
theorem dL_slides_131 : decode cL_slides 131 = .ok (.aload_n 0, 1) := by decide +kernel
theorem dL_slides_132 : decode cL_slides 132 = .ok (.iload 4, 2) := by decide +kernel
theorem dL_slides_134 : decode cL_slides 134 = .ok (.iload 7, 2) := by decide +kernel
theorem dL_slides_136 : decode cL_slides 136 = .ok (.invokestatic 263, 3) := by decide +kernel
theorem dL_slides_139 : decode cL_slides 139 = .ok (.iload 8, 2) := by decide +kernel
theorem dL_slides_141 : decode cL_slides 141 = .ok (.ifCond .eq 7, 3) := by decide +kernel
theorem dL_slides_144 : decode cL_slides 144 = .ok (.iconst 1, 1) := by decide +kernel
theorem dL_slides_145 : decode cL_slides 145 = .ok (.goto 4, 3) := by decide +kernel
theorem dL_slides_148 : decode cL_slides 148 = .ok (.iconst 0, 1) := by decide +kernel
theorem dL_slides_149 : decode cL_slides 149 = .ok (.if_icmp .ne 29, 3) := by decide +kernel
theorem dL_slides_152 : decode cL_slides 152 = .ok (.aload_n 0, 1) := by decide +kernel
theorem dL_slides_153 : decode cL_slides 153 = .ok (.iload 4, 2) := by decide +kernel
theorem dL_slides_155 : decode cL_slides 155 = .ok (.iload 7, 2) := by decide +kernel
theorem dL_slides_157 : decode cL_slides 157 = .ok (.invokestatic 265, 3) := by decide +kernel
theorem dL_slides_160 : decode cL_slides 160 = .ok (.iload 6, 2) := by decide +kernel
theorem dL_slides_162 : decode cL_slides 162 = .ok (.if_icmp .ne 16, 3) := by decide +kernel
theorem dL_slides_165 : decode cL_slides 165 = .ok (.aload_n 0, 1) := by decide +kernel
theorem dL_slides_166 : decode cL_slides 166 = .ok (.iload 4, 2) := by decide +kernel
theorem dL_slides_168 : decode cL_slides 168 = .ok (.iload 7, 2) := by decide +kernel
theorem dL_slides_170 : decode cL_slides 170 = .ok (.invokestatic 267, 3) := by decide +kernel
theorem dL_slides_173 : decode cL_slides 173 = .ok (.iload 6, 2) := by decide +kernel
theorem dL_slides_175 : decode cL_slides 175 = .ok (.if_icmp .eq 5, 3) := by decide +kernel
theorem dL_slides_178 : decode cL_slides 178 = .ok (.iconst 0, 1) := by decide +kernel
theorem dL_slides_179 : decode cL_slides 179 = .ok (.ireturn, 1) := by decide +kernel
theorem dL_slides_180 : decode cL_slides 180 = .ok (.iinc 7 (-1), 3) := by decide +kernel
theorem dL_slides_183 : decode cL_slides 183 = .ok (.goto (-83), 3) := by decide +kernel
theorem dL_slides_186 : decode cL_slides 186 = .ok (.new 270, 3) := by decide +kernel
theorem dL_slides_189 : decode cL_slides 189 = .ok (.dup, 1) := by decide +kernel
theorem dL_slides_190 : decode cL_slides 190 = .ok (.invokespecial 272, 3) := by decide +kernel
theorem dL_slides_193 : decode cL_slides 193 = .ok (.aload_n 0, 1) := by decide +kernel
theorem dL_slides_194 : decode cL_slides 194 = .ok (.iload 4, 2) := by decide +kernel
theorem dL_slides_196 : decode cL_slides 196 = .ok (.invokevirtual 45, 3) := by decide +kernel
theorem dL_slides_199 : decode cL_slides 199 = .ok (.invokevirtual 273, 3) := by decide +kernel
theorem dL_slides_202 : decode cL_slides 202 = .ok (.ldc_w 277, 3) := by decide +kernel
theorem dL_slides_205 : decode cL_slides 205 = .ok (.invokevirtual 279, 3) := by decide +kernel
theorem dL_slides_208 : decode cL_slides 208 = .ok (.aload_n 0, 1) := by decide +kernel
theorem dL_slides_209 : decode cL_slides 209 = .ok (.iload 4, 2) := by decide +kernel
theorem dL_slides_211 : decode cL_slides 211 = .ok (.invokevirtual 48, 3) := by decide +kernel
theorem dL_slides_214 : decode cL_slides 214 = .ok (.invokevirtual 273, 3) := by decide +kernel
theorem dL_slides_217 : decode cL_slides 217 = .ok (.ldc_w 282, 3) := by decide +kernel
theorem dL_slides_220 : decode cL_slides 220 = .ok (.invokevirtual 279, 3) := by decide +kernel
theorem dL_slides_223 : decode cL_slides 223 = .ok (.aload_n 0, 1) := by decide +kernel
theorem dL_slides_224 : decode cL_slides 224 = .ok (.iload 4, 2) := by decide +kernel
theorem dL_slides_226 : decode cL_slides 226 = .ok (.invokevirtual 51, 3) := by decide +kernel
theorem dL_slides_229 : decode cL_slides 229 = .ok (.invokevirtual 273, 3) := by decide +kernel
theorem dL_slides_232 : decode cL_slides 232 = .ok (.ldc_w 284, 3) := by decide +kernel
theorem dL_slides_235 : decode cL_slides 235 = .ok (.invokevirtual 279, 3) := by decide +kernel
theorem dL_slides_238 : decode cL_slides 238 = .ok (.invokevirtual 286, 3) := by decide +kernel
theorem dL_slides_241 : decode cL_slides 241 = .ok (.astore 7, 2) := by decide +kernel
theorem dL_slides_243 : decode cL_slides 243 = .ok (.iconst 0, 1) := by decide +kernel
theorem dL_slides_244 : decode cL_slides 244 = .ok (.istore 8, 2) := by decide +kernel
theorem dL_slides_246 : decode cL_slides 246 = .ok (.iload 8, 2) := by decide +kernel
theorem dL_slides_248 : decode cL_slides 248 = .ok (.aload_n 0, 1) := by decide +kernel
theorem dL_slides_249 : decode cL_slides 249 = .ok (.invokevirtual 180, 3) := by decide +kernel
theorem dL_slides_252 : decode cL_slides 252 = .ok (.if_icmp .ge 94, 3) := by decide +kernel
theorem dL_slides_255 : decode cL_slides 255 = .ok (.aload_n 0, 1) := by decide +kernel
theorem dL_slides_256 : decode cL_slides 256 = .ok (.iload 8, 2) := by decide +kernel
theorem dL_slides_258 : decode cL_slides 258 = .ok (.invokevirtual 82, 3) := by decide +kernel
theorem dL_slides_261 : decode cL_slides 261 = .ok (.istore 9, 2) := by decide +kernel
theorem dL_slides_263 : decode cL_slides 263 = .ok (.new 270, 3) := by decide +kernel
theorem dL_slides_266 : decode cL_slides 266 = .ok (.dup, 1) := by decide +kernel
theorem dL_slides_267 : decode cL_slides 267 = .ok (.invokespecial 272, 3) := by decide +kernel
theorem dL_slides_270 : decode cL_slides 270 = .ok (.aload 7, 2) := by decide +kernel
theorem dL_slides_272 : decode cL_slides 272 = .ok (.invokevirtual 279, 3) := by decide +kernel
theorem dL_slides_275 : decode cL_slides 275 = .ok (.aload_n 0, 1) := by decide +kernel
theorem dL_slides_276 : decode cL_slides 276 = .ok (.iload 9, 2) := by decide +kernel
theorem dL_slides_278 : decode cL_slides 278 = .ok (.invokevirtual 72, 3) := by decide +kernel
theorem dL_slides_281 : decode cL_slides 281 = .ok (.iload 4, 2) := by decide +kernel
theorem dL_slides_283 : decode cL_slides 283 = .ok (.if_icmp .ne 46, 3) := by decide +kernel
theorem dL_slides_286 : decode cL_slides 286 = .ok (.new 270, 3) := by decide +kernel
theorem dL_slides_289 : decode cL_slides 289 = .ok (.dup, 1) := by decide +kernel
theorem dL_slides_290 : decode cL_slides 290 = .ok (.invokespecial 272, 3) := by decide +kernel
theorem dL_slides_293 : decode cL_slides 293 = .ok (.ldc_w 290, 3) := by decide +kernel
theorem dL_slides_296 : decode cL_slides 296 = .ok (.invokevirtual 279, 3) := by decide +kernel
theorem dL_slides_299 : decode cL_slides 299 = .ok (.aload_n 0, 1) := by decide +kernel
theorem dL_slides_300 : decode cL_slides 300 = .ok (.iload 9, 2) := by decide +kernel
theorem dL_slides_302 : decode cL_slides 302 = .ok (.invokevirtual 69, 3) := by decide +kernel
theorem dL_slides_305 : decode cL_slides 305 = .ok (.invokevirtual 273, 3) := by decide +kernel
theorem dL_slides_308 : decode cL_slides 308 = .ok (.ldc_w 292, 3) := by decide +kernel
theorem dL_slides_311 : decode cL_slides 311 = .ok (.invokevirtual 279, 3) := by decide +kernel
theorem dL_slides_314 : decode cL_slides 314 = .ok (.aload_n 0, 1) := by decide +kernel
theorem dL_slides_315 : decode cL_slides 315 = .ok (.iload 9, 2) := by decide +kernel
theorem dL_slides_317 : decode cL_slides 317 = .ok (.invokevirtual 75, 3) := by decide +kernel
theorem dL_slides_320 : decode cL_slides 320 = .ok (.invokevirtual 273, 3) := by decide +kernel
theorem dL_slides_323 : decode cL_slides 323 = .ok (.invokevirtual 286, 3) := by decide +kernel
theorem dL_slides_326 : decode cL_slides 326 = .ok (.goto 6, 3) := by decide +kernel
theorem dL_slides_329 : decode cL_slides 329 = .ok (.ldc_w 294, 3) := by decide +kernel
theorem dL_slides_332 : decode cL_slides 332 = .ok (.invokevirtual 279, 3) := by decide +kernel
theorem dL_slides_335 : decode cL_slides 335 = .ok (.invokevirtual 286, 3) := by decide +kernel
theorem dL_slides_338 : decode cL_slides 338 = .ok (.astore 7, 2) := by decide +kernel
theorem dL_slides_340 : decode cL_slides 340 = .ok (.iinc 8 1, 3) := by decide +kernel
theorem dL_slides_343 : decode cL_slides 343 = .ok (.goto (-97), 3) := by decide +kernel
theorem dL_slides_346 : decode cL_slides 346 = .ok (.aload_n 0, 1) := by decide +kernel
theorem dL_slides_347 : decode cL_slides 347 = .ok (.iload 4, 2) := by decide +kernel
theorem dL_slides_349 : decode cL_slides 349 = .ok (.invokestatic 296, 3) := by decide +kernel
theorem dL_slides_352 : decode cL_slides 352 = .ok (.istore 8, 2) := by decide +kernel
theorem dL_slides_354 : decode cL_slides 354 = .ok (.iload 4, 2) := by decide +kernel
theorem dL_slides_356 : decode cL_slides 356 = .ok (.ifCond .ne 7, 3) := by decide +kernel
theorem dL_slides_359 : decode cL_slides 359 = .ok (.iconst (-1), 1) := by decide +kernel
theorem dL_slides_360 : decode cL_slides 360 = .ok (.goto 11, 3) := by decide +kernel
theorem dL_slides_363 : decode cL_slides 363 = .ok (.aload_n 0, 1) := by decide +kernel
theorem dL_slides_364 : decode cL_slides 364 = .ok (.iload 4, 2) := by decide +kernel
theorem dL_slides_366 : decode cL_slides 366 = .ok (.iconst 1, 1) := by decide +kernel
theorem dL_slides_367 : decode cL_slides 367 = .ok (.isub, 1) := by decide +kernel
theorem dL_slides_368 : decode cL_slides 368 = .ok (.invokestatic 296, 3) := by decide +kernel
theorem dL_slides_371 : decode cL_slides 371 = .ok (.istore 9, 2) := by decide +kernel
theorem dL_slides_373 : decode cL_slides 373 = .ok (.iload 4, 2) := by decide +kernel
theorem dL_slides_375 : decode cL_slides 375 = .ok (.ifCond .ne 7, 3) := by decide +kernel
theorem dL_slides_378 : decode cL_slides 378 = .ok (.iconst 1, 1) := by decide +kernel
theorem dL_slides_379 : decode cL_slides 379 = .ok (.goto 16, 3) := by decide +kernel
theorem dL_slides_382 : decode cL_slides 382 = .ok (.aload_n 0, 1) := by decide +kernel
theorem dL_slides_383 : decode cL_slides 383 = .ok (.iload 9, 2) := by decide +kernel
theorem dL_slides_385 : decode cL_slides 385 = .ok (.invokestatic 257, 3) := by decide +kernel
theorem dL_slides_388 : decode cL_slides 388 = .ok (.aload_n 0, 1) := by decide +kernel
theorem dL_slides_389 : decode cL_slides 389 = .ok (.iload 8, 2) := by decide +kernel
theorem dL_slides_391 : decode cL_slides 391 = .ok (.invokestatic 257, 3) := by decide +kernel
theorem dL_slides_394 : decode cL_slides 394 = .ok (.isub, 1) := by decide +kernel
theorem dL_slides_395 : decode cL_slides 395 = .ok (.istore 10, 2) := by decide +kernel
theorem dL_slides_397 : decode cL_slides 397 = .ok (.aload_n 0, 1) := by decide +kernel
theorem dL_slides_398 : decode cL_slides 398 = .ok (.aload_n 0, 1) := by decide +kernel
theorem dL_slides_399 : decode cL_slides 399 = .ok (.iload 4, 2) := by decide +kernel
theorem dL_slides_401 : decode cL_slides 401 = .ok (.invokestatic 299, 3) := by decide +kernel
theorem dL_slides_404 : decode cL_slides 404 = .ok (.aload 7, 2) := by decide +kernel
theorem dL_slides_406 : decode cL_slides 406 = .ok (.invokestatic 301, 3) := by decide +kernel
theorem dL_slides_409 : decode cL_slides 409 = .ok (.ifCond .eq 68, 3) := by decide +kernel
theorem dL_slides_412 : decode cL_slides 412 = .ok (.iload 8, 2) := by decide +kernel
theorem dL_slides_414 : decode cL_slides 414 = .ok (.ifCond .lt 63, 3) := by decide +kernel
theorem dL_slides_417 : decode cL_slides 417 = .ok (.iload 10, 2) := by decide +kernel
theorem dL_slides_419 : decode cL_slides 419 = .ok (.ifCond .lt 58, 3) := by decide +kernel
theorem dL_slides_422 : decode cL_slides 422 = .ok (.iload 10, 2) := by decide +kernel
theorem dL_slides_424 : decode cL_slides 424 = .ok (.ifCond .ne 10, 3) := by decide +kernel
theorem dL_slides_427 : decode cL_slides 427 = .ok (.iload 9, 2) := by decide +kernel
theorem dL_slides_429 : decode cL_slides 429 = .ok (.iload 8, 2) := by decide +kernel
theorem dL_slides_431 : decode cL_slides 431 = .ok (.if_icmp .gt 46, 3) := by decide +kernel
theorem dL_slides_434 : decode cL_slides 434 = .ok (.aload_n 0, 1) := by decide +kernel
theorem dL_slides_435 : decode cL_slides 435 = .ok (.iload 4, 2) := by decide +kernel
theorem dL_slides_437 : decode cL_slides 437 = .ok (.iload_n 2, 1) := by decide +kernel
theorem dL_slides_438 : decode cL_slides 438 = .ok (.iconst 1, 1) := by decide +kernel
theorem dL_slides_439 : decode cL_slides 439 = .ok (.isub, 1) := by decide +kernel
theorem dL_slides_440 : decode cL_slides 440 = .ok (.invokestatic 263, 3) := by decide +kernel
theorem dL_slides_443 : decode cL_slides 443 = .ok (.bipush (-12), 2) := by decide +kernel
theorem dL_slides_445 : decode cL_slides 445 = .ok (.if_icmp .ne 32, 3) := by decide +kernel
theorem dL_slides_448 : decode cL_slides 448 = .ok (.aload_n 0, 1) := by decide +kernel
theorem dL_slides_449 : decode cL_slides 449 = .ok (.iload 4, 2) := by decide +kernel
theorem dL_slides_451 : decode cL_slides 451 = .ok (.iload_n 2, 1) := by decide +kernel
theorem dL_slides_452 : decode cL_slides 452 = .ok (.bipush 121, 2) := by decide +kernel
theorem dL_slides_454 : decode cL_slides 454 = .ok (.iadd, 1) := by decide +kernel
theorem dL_slides_455 : decode cL_slides 455 = .ok (.invokestatic 265, 3) := by decide +kernel
theorem dL_slides_458 : decode cL_slides 458 = .ok (.bipush (-12), 2) := by decide +kernel
theorem dL_slides_460 : decode cL_slides 460 = .ok (.if_icmp .ne 17, 3) := by decide +kernel
theorem dL_slides_463 : decode cL_slides 463 = .ok (.aload_n 0, 1) := by decide +kernel
theorem dL_slides_464 : decode cL_slides 464 = .ok (.iload 4, 2) := by decide +kernel
theorem dL_slides_466 : decode cL_slides 466 = .ok (.iload_n 2, 1) := by decide +kernel
theorem dL_slides_467 : decode cL_slides 467 = .ok (.iconst 1, 1) := by decide +kernel
theorem dL_slides_468 : decode cL_slides 468 = .ok (.isub, 1) := by decide +kernel
theorem dL_slides_469 : decode cL_slides 469 = .ok (.invokestatic 267, 3) := by decide +kernel
theorem dL_slides_472 : decode cL_slides 472 = .ok (.bipush (-12), 2) := by decide +kernel
theorem dL_slides_474 : decode cL_slides 474 = .ok (.if_icmp .eq 5, 3) := by decide +kernel
theorem dL_slides_477 : decode cL_slides 477 = .ok (.iconst 0, 1) := by decide +kernel
theorem dL_slides_478 : decode cL_slides 478 = .ok (.ireturn, 1) := by decide +kernel
theorem dL_slides_479 : decode cL_slides 479 = .ok (.aload_n 0, 1) := by decide +kernel
theorem dL_slides_480 : decode cL_slides 480 = .ok (.iload 4, 2) := by decide +kernel
theorem dL_slides_482 : decode cL_slides 482 = .ok (.invokestatic 305, 3) := by decide +kernel
theorem dL_slides_485 : decode cL_slides 485 = .ok (.istore 11, 2) := by decide +kernel
theorem dL_slides_487 : decode cL_slides 487 = .ok (.iconst 0, 1) := by decide +kernel
theorem dL_slides_488 : decode cL_slides 488 = .ok (.istore 12, 2) := by decide +kernel
theorem dL_slides_490 : decode cL_slides 490 = .ok (.iload 12, 2) := by decide +kernel
theorem dL_slides_492 : decode cL_slides 492 = .ok (.iload 11, 2) := by decide +kernel
theorem dL_slides_494 : decode cL_slides 494 = .ok (.if_icmp .ge 28, 3) := by decide +kernel
theorem dL_slides_497 : decode cL_slides 497 = .ok (.aload_n 0, 1) := by decide +kernel
theorem dL_slides_498 : decode cL_slides 498 = .ok (.aload_n 0, 1) := by decide +kernel
theorem dL_slides_499 : decode cL_slides 499 = .ok (.iload 4, 2) := by decide +kernel
theorem dL_slides_501 : decode cL_slides 501 = .ok (.iload 12, 2) := by decide +kernel
theorem dL_slides_503 : decode cL_slides 503 = .ok (.invokestatic 307, 3) := by decide +kernel
theorem dL_slides_506 : decode cL_slides 506 = .ok (.invokestatic 310, 3) := by decide +kernel
theorem dL_slides_509 : decode cL_slides 509 = .ok (.iload 4, 2) := by decide +kernel
theorem dL_slides_511 : decode cL_slides 511 = .ok (.if_icmp .eq 5, 3) := by decide +kernel
theorem dL_slides_514 : decode cL_slides 514 = .ok (.iconst 0, 1) := by decide +kernel
theorem dL_slides_515 : decode cL_slides 515 = .ok (.ireturn, 1) := by decide +kernel
theorem dL_slides_516 : decode cL_slides 516 = .ok (.iinc 12 1, 3) := by decide +kernel
theorem dL_slides_519 : decode cL_slides 519 = .ok (.goto (-29), 3) := by decide +kernel
theorem dL_slides_522 : decode cL_slides 522 = .ok (.iload 11, 2) := by decide +kernel
theorem dL_slides_524 : decode cL_slides 524 = .ok (.iconst 5, 1) := by decide +kernel
theorem dL_slides_525 : decode cL_slides 525 = .ok (.if_icmp .gt 28, 3) := by decide +kernel
theorem dL_slides_528 : decode cL_slides 528 = .ok (.aload_n 0, 1) := by decide +kernel
theorem dL_slides_529 : decode cL_slides 529 = .ok (.iload 4, 2) := by decide +kernel
theorem dL_slides_531 : decode cL_slides 531 = .ok (.iload 11, 2) := by decide +kernel
theorem dL_slides_533 : decode cL_slides 533 = .ok (.invokestatic 307, 3) := by decide +kernel
theorem dL_slides_536 : decode cL_slides 536 = .ok (.bipush (-13), 2) := by decide +kernel
theorem dL_slides_538 : decode cL_slides 538 = .ok (.if_icmp .ne 15, 3) := by decide +kernel
theorem dL_slides_541 : decode cL_slides 541 = .ok (.aload_n 0, 1) := by decide +kernel
theorem dL_slides_542 : decode cL_slides 542 = .ok (.iload 4, 2) := by decide +kernel
theorem dL_slides_544 : decode cL_slides 544 = .ok (.iconst (-1), 1) := by decide +kernel
theorem dL_slides_545 : decode cL_slides 545 = .ok (.invokestatic 307, 3) := by decide +kernel
theorem dL_slides_548 : decode cL_slides 548 = .ok (.bipush (-13), 2) := by decide +kernel
theorem dL_slides_550 : decode cL_slides 550 = .ok (.if_icmp .eq 5, 3) := by decide +kernel
theorem dL_slides_553 : decode cL_slides 553 = .ok (.iconst 0, 1) := by decide +kernel
theorem dL_slides_554 : decode cL_slides 554 = .ok (.ireturn, 1) := by decide +kernel
theorem dL_slides_555 : decode cL_slides 555 = .ok (.iinc 4 1, 3) := by decide +kernel
theorem dL_slides_558 : decode cL_slides 558 = .ok (.goto (-543), 3) := by decide +kernel
theorem dL_slides_561 : decode cL_slides 561 = .ok (.aload_n 0, 1) := by decide +kernel
theorem dL_slides_562 : decode cL_slides 562 = .ok (.invokevirtual 312, 3) := by decide +kernel
theorem dL_slides_565 : decode cL_slides 565 = .ok (.iload_n 3, 1) := by decide +kernel
theorem dL_slides_566 : decode cL_slides 566 = .ok (.i2f, 1) := by decide +kernel
theorem dL_slides_567 : decode cL_slides 567 = .ok (.iload_n 1, 1) := by decide +kernel
theorem dL_slides_568 : decode cL_slides 568 = .ok (.i2f, 1) := by decide +kernel
theorem dL_slides_569 : decode cL_slides 569 = .ok (.fdiv, 1) := by decide +kernel
theorem dL_slides_570 : decode cL_slides 570 = .ok (.fcmp .l, 1) := by decide +kernel
theorem dL_slides_571 : decode cL_slides 571 = .ok (.ifCond .ne 122, 3) := by decide +kernel
theorem dL_slides_574 : decode cL_slides 574 = .ok (.aload_n 0, 1) := by decide +kernel
theorem dL_slides_575 : decode cL_slides 575 = .ok (.iload_n 1, 1) := by decide +kernel
theorem dL_slides_576 : decode cL_slides 576 = .ok (.invokestatic 296, 3) := by decide +kernel
theorem dL_slides_579 : decode cL_slides 579 = .ok (.bipush (-13), 2) := by decide +kernel
theorem dL_slides_581 : decode cL_slides 581 = .ok (.if_icmp .ne 112, 3) := by decide +kernel
theorem dL_slides_584 : decode cL_slides 584 = .ok (.aload_n 0, 1) := by decide +kernel
theorem dL_slides_585 : decode cL_slides 585 = .ok (.iload_n 1, 1) := by decide +kernel
theorem dL_slides_586 : decode cL_slides 586 = .ok (.invokestatic 316, 3) := by decide +kernel
theorem dL_slides_589 : decode cL_slides 589 = .ok (.bipush (-11), 2) := by decide +kernel
theorem dL_slides_591 : decode cL_slides 591 = .ok (.if_icmp .ne 102, 3) := by decide +kernel
theorem dL_slides_594 : decode cL_slides 594 = .ok (.aload_n 0, 1) := by decide +kernel
theorem dL_slides_595 : decode cL_slides 595 = .ok (.iload_n 1, 1) := by decide +kernel
theorem dL_slides_596 : decode cL_slides 596 = .ok (.invokestatic 318, 3) := by decide +kernel
theorem dL_slides_599 : decode cL_slides 599 = .ok (.bipush (-11), 2) := by decide +kernel
theorem dL_slides_601 : decode cL_slides 601 = .ok (.if_icmp .ne 92, 3) := by decide +kernel
theorem dL_slides_604 : decode cL_slides 604 = .ok (.aload_n 0, 1) := by decide +kernel
theorem dL_slides_605 : decode cL_slides 605 = .ok (.iconst (-1), 1) := by decide +kernel
theorem dL_slides_606 : decode cL_slides 606 = .ok (.invokestatic 257, 3) := by decide +kernel
theorem dL_slides_609 : decode cL_slides 609 = .ok (.bipush (-11), 2) := by decide +kernel
theorem dL_slides_611 : decode cL_slides 611 = .ok (.if_icmp .ne 82, 3) := by decide +kernel
theorem dL_slides_614 : decode cL_slides 614 = .ok (.aload_n 0, 1) := by decide +kernel
theorem dL_slides_615 : decode cL_slides 615 = .ok (.iload_n 1, 1) := by decide +kernel
theorem dL_slides_616 : decode cL_slides 616 = .ok (.invokestatic 255, 3) := by decide +kernel
theorem dL_slides_619 : decode cL_slides 619 = .ok (.bipush (-11), 2) := by decide +kernel
theorem dL_slides_621 : decode cL_slides 621 = .ok (.if_icmp .ne 72, 3) := by decide +kernel
theorem dL_slides_624 : decode cL_slides 624 = .ok (.aload_n 0, 1) := by decide +kernel
theorem dL_slides_625 : decode cL_slides 625 = .ok (.iload_n 1, 1) := by decide +kernel
theorem dL_slides_626 : decode cL_slides 626 = .ok (.invokestatic 305, 3) := by decide +kernel
theorem dL_slides_629 : decode cL_slides 629 = .ok (.bipush (-11), 2) := by decide +kernel
theorem dL_slides_631 : decode cL_slides 631 = .ok (.if_icmp .ne 62, 3) := by decide +kernel
theorem dL_slides_634 : decode cL_slides 634 = .ok (.aload_n 0, 1) := by decide +kernel
theorem dL_slides_635 : decode cL_slides 635 = .ok (.iload_n 1, 1) := by decide +kernel
theorem dL_slides_636 : decode cL_slides 636 = .ok (.iconst 0, 1) := by decide +kernel
theorem dL_slides_637 : decode cL_slides 637 = .ok (.invokestatic 307, 3) := by decide +kernel
theorem dL_slides_640 : decode cL_slides 640 = .ok (.bipush (-11), 2) := by decide +kernel
theorem dL_slides_642 : decode cL_slides 642 = .ok (.if_icmp .ne 51, 3) := by decide +kernel
theorem dL_slides_645 : decode cL_slides 645 = .ok (.aload_n 0, 1) := by decide +kernel
theorem dL_slides_646 : decode cL_slides 646 = .ok (.iload_n 1, 1) := by decide +kernel
theorem dL_slides_647 : decode cL_slides 647 = .ok (.bipush (-9), 2) := by decide +kernel
theorem dL_slides_649 : decode cL_slides 649 = .ok (.invokestatic 263, 3) := by decide +kernel
theorem dL_slides_652 : decode cL_slides 652 = .ok (.bipush (-11), 2) := by decide +kernel
theorem dL_slides_654 : decode cL_slides 654 = .ok (.if_icmp .ne 39, 3) := by decide +kernel
theorem dL_slides_657 : decode cL_slides 657 = .ok (.aload_n 0, 1) := by decide +kernel
theorem dL_slides_658 : decode cL_slides 658 = .ok (.iload_n 1, 1) := by decide +kernel
theorem dL_slides_659 : decode cL_slides 659 = .ok (.iconst 0, 1) := by decide +kernel
theorem dL_slides_660 : decode cL_slides 660 = .ok (.invokestatic 265, 3) := by decide +kernel
theorem dL_slides_663 : decode cL_slides 663 = .ok (.bipush (-11), 2) := by decide +kernel
theorem dL_slides_665 : decode cL_slides 665 = .ok (.if_icmp .ne 28, 3) := by decide +kernel
theorem dL_slides_668 : decode cL_slides 668 = .ok (.aload_n 0, 1) := by decide +kernel
theorem dL_slides_669 : decode cL_slides 669 = .ok (.iconst (-1), 1) := by decide +kernel
theorem dL_slides_670 : decode cL_slides 670 = .ok (.iconst 0, 1) := by decide +kernel
theorem dL_slides_671 : decode cL_slides 671 = .ok (.invokestatic 267, 3) := by decide +kernel
theorem dL_slides_674 : decode cL_slides 674 = .ok (.bipush (-11), 2) := by decide +kernel
theorem dL_slides_676 : decode cL_slides 676 = .ok (.if_icmp .ne 17, 3) := by decide +kernel
theorem dL_slides_679 : decode cL_slides 679 = .ok (.aload_n 0, 1) := by decide +kernel
theorem dL_slides_680 : decode cL_slides 680 = .ok (.iload_n 1, 1) := by decide +kernel
theorem dL_slides_681 : decode cL_slides 681 = .ok (.invokestatic 299, 3) := by decide +kernel
theorem dL_slides_684 : decode cL_slides 684 = .ok (.bipush (-11), 2) := by decide +kernel
theorem dL_slides_686 : decode cL_slides 686 = .ok (.if_icmp .ne 7, 3) := by decide +kernel
theorem dL_slides_689 : decode cL_slides 689 = .ok (.iconst 1, 1) := by decide +kernel
theorem dL_slides_690 : decode cL_slides 690 = .ok (.goto 4, 3) := by decide +kernel
theorem dL_slides_693 : decode cL_slides 693 = .ok (.iconst 0, 1) := by decide +kernel
theorem dL_slides_694 : decode cL_slides 694 = .ok (.ireturn, 1) := by decide +kernel
theorem dL_guests_0 : decode cL_guests 0 = .ok (.aload_n 0, 1) := by decide +kernel
theorem dL_guests_1 : decode cL_guests 1 = .ok (.invokevirtual 320, 3) := by decide +kernel
theorem dL_guests_4 : decode cL_guests 4 = .ok (.istore_n 1, 1) := by decide +kernel
theorem dL_guests_5 : decode cL_guests 5 = .ok (.iconst 0, 1) := by decide +kernel
theorem dL_guests_6 : decode cL_guests 6 = .ok (.istore_n 2, 1) := by decide +kernel
theorem dL_guests_7 : decode cL_guests 7 = .ok (.iconst 0, 1) := by decide +kernel
theorem dL_guests_8 : decode cL_guests 8 = .ok (.istore_n 3, 1) := by decide +kernel
theorem dL_guests_9 : decode cL_guests 9 = .ok (.iconst 0, 1) := by decide +kernel
theorem dL_guests_10 : decode cL_guests 10 = .ok (.istore 4, 2) := by decide +kernel
theorem dL_guests_12 : decode cL_guests 12 = .ok (.iconst 0, 1) := by decide +kernel
theorem dL_guests_13 : decode cL_guests 13 = .ok (.istore 5, 2) := by decide +kernel
theorem dL_guests_15 : decode cL_guests 15 = .ok (.iload 5, 2) := by decide +kernel
theorem dL_guests_17 : decode cL_guests 17 = .ok (.iload_n 1, 1) := by decide +kernel
theorem dL_guests_18 : decode cL_guests 18 = .ok (.if_icmp .ge 144, 3) := by decide +kernel
theorem dL_guests_21 : decode cL_guests 21 = .ok (.aload_n 0, 1) := by decide +kernel
theorem dL_guests_22 : decode cL_guests 22 = .ok (.iload 5, 2) := by decide +kernel
theorem dL_guests_24 : decode cL_guests 24 = .ok (.invokestatic 323, 3) := by decide +kernel
theorem dL_guests_27 : decode cL_guests 27 = .ok (.istore 6, 2) := by decide +kernel
theorem dL_guests_29 : decode cL_guests 29 = .ok (.iload 5, 2) := by decide +kernel
theorem dL_guests_31 : decode cL_guests 31 = .ok (.ifCond .ne 7, 3) := by decide +kernel
theorem dL_guests_34 : decode cL_guests 34 = .ok (.iconst (-1), 1) := by decide +kernel
theorem dL_guests_35 : decode cL_guests 35 = .ok (.goto 11, 3) := by decide +kernel
theorem dL_guests_38 : decode cL_guests 38 = .ok (.aload_n 0, 1) := by decide +kernel
theorem dL_guests_39 : decode cL_guests 39 = .ok (.iload 5, 2) := by decide +kernel
theorem dL_guests_41 : decode cL_guests 41 = .ok (.iconst 1, 1) := by decide +kernel
theorem dL_guests_42 : decode cL_guests 42 = .ok (.isub, 1) := by decide +kernel
theorem dL_guests_43 : decode cL_guests 43 = .ok (.invokestatic 323, 3) := by decide +kernel
theorem dL_guests_46 : decode cL_guests 46 = .ok (.istore 7, 2) := by decide +kernel
theorem dL_guests_48 : decode cL_guests 48 = .ok (.iload 5, 2) := by decide +kernel
theorem dL_guests_50 : decode cL_guests 50 = .ok (.ifCond .ne 7, 3) := by decide +kernel
theorem dL_guests_53 : decode cL_guests 53 = .ok (.iconst 1, 1) := by decide +kernel
theorem dL_guests_54 : decode cL_guests 54 = .ok (.goto 16, 3) := by decide +kernel
theorem dL_guests_57 : decode cL_guests 57 = .ok (.aload_n 0, 1) := by decide +kernel
theorem dL_guests_58 : decode cL_guests 58 = .ok (.iload 7, 2) := by decide +kernel
theorem dL_guests_60 : decode cL_guests 60 = .ok (.invokestatic 326, 3) := by decide +kernel
theorem dL_guests_63 : decode cL_guests 63 = .ok (.aload_n 0, 1) := by decide +kernel
theorem dL_guests_64 : decode cL_guests 64 = .ok (.iload 6, 2) := by decide +kernel
theorem dL_guests_66 : decode cL_guests 66 = .ok (.invokestatic 326, 3) := by decide +kernel
theorem dL_guests_69 : decode cL_guests 69 = .ok (.isub, 1) := by decide +kernel
theorem dL_guests_70 : decode cL_guests 70 = .ok (.istore 8, 2) := by decide +kernel
theorem dL_guests_72 : decode cL_guests 72 = .ok (.iload 8, 2) := by decide +kernel
theorem dL_guests_74 : decode cL_guests 74 = .ok (.ifCond .eq 8, 3) := by decide +kernel
theorem dL_guests_77 : decode cL_guests 77 = .ok (.iload 8, 2) := by decide +kernel
theorem dL_guests_79 : decode cL_guests 79 = .ok (.goto 16, 3) := by decide +kernel
theorem dL_guests_82 : decode cL_guests 82 = .ok (.aload_n 0, 1) := by decide +kernel
theorem dL_guests_83 : decode cL_guests 83 = .ok (.iload 7, 2) := by decide +kernel
theorem dL_guests_85 : decode cL_guests 85 = .ok (.invokestatic 328, 3) := by decide +kernel
theorem dL_guests_88 : decode cL_guests 88 = .ok (.aload_n 0, 1) := by decide +kernel
theorem dL_guests_89 : decode cL_guests 89 = .ok (.iload 6, 2) := by decide +kernel
theorem dL_guests_91 : decode cL_guests 91 = .ok (.invokestatic 328, 3) := by decide +kernel
theorem dL_guests_94 : decode cL_guests 94 = .ok (.isub, 1) := by decide +kernel
theorem dL_guests_95 : decode cL_guests 95 = .ok (.istore 8, 2) := by decide +kernel
theorem dL_guests_97 : decode cL_guests 97 = .ok (.iload_n 2, 1) := by decide +kernel
theorem dL_guests_98 : decode cL_guests 98 = .ok (.aload_n 0, 1) := by decide +kernel
theorem dL_guests_99 : decode cL_guests 99 = .ok (.iload 5, 2) := by decide +kernel
theorem dL_guests_101 : decode cL_guests 101 = .ok (.invokestatic 328, 3) := by decide +kernel
theorem dL_guests_104 : decode cL_guests 104 = .ok (.iadd, 1) := by decide +kernel
theorem dL_guests_105 : decode cL_guests 105 = .ok (.istore_n 2, 1) := by decide +kernel
theorem dL_guests_106 : decode cL_guests 106 = .ok (.iload_n 3, 1) := by decide +kernel
theorem dL_guests_107 : decode cL_guests 107 = .ok (.aload_n 0, 1) := by decide +kernel
theorem dL_guests_108 : decode cL_guests 108 = .ok (.iload 5, 2) := by decide +kernel
theorem dL_guests_110 : decode cL_guests 110 = .ok (.invokestatic 310, 3) := by decide +kernel
theorem dL_guests_113 : decode cL_guests 113 = .ok (.ifCond .lt 7, 3) := by decide +kernel
theorem dL_guests_116 : decode cL_guests 116 = .ok (.iconst 1, 1) := by decide +kernel
theorem dL_guests_117 : decode cL_guests 117 = .ok (.goto 4, 3) := by decide +kernel
theorem dL_guests_120 : decode cL_guests 120 = .ok (.iconst 0, 1) := by decide +kernel
theorem dL_guests_121 : decode cL_guests 121 = .ok (.iadd, 1) := by decide +kernel
theorem dL_guests_122 : decode cL_guests 122 = .ok (.istore_n 3, 1) := by decide +kernel
theorem dL_guests_123 : decode cL_guests 123 = .ok (.iload 6, 2) := by decide +kernel
theorem dL_guests_125 : decode cL_guests 125 = .ok (.ifCond .lt 29, 3) := by decide +kernel
theorem dL_guests_128 : decode cL_guests 128 = .ok (.iload 8, 2) := by decide +kernel
theorem dL_guests_130 : decode cL_guests 130 = .ok (.ifCond .lt 24, 3) := by decide +kernel
theorem dL_guests_133 : decode cL_guests 133 = .ok (.iload 8, 2) := by decide +kernel
theorem dL_guests_135 : decode cL_guests 135 = .ok (.ifCond .ne 10, 3) := by decide +kernel
theorem dL_guests_138 : decode cL_guests 138 = .ok (.iload 7, 2) := by decide +kernel
theorem dL_guests_140 : decode cL_guests 140 = .ok (.iload 6, 2) := by decide +kernel
theorem dL_guests_142 : decode cL_guests 142 = .ok (.if_icmp .gt 12, 3) := by decide +kernel
theorem dL_guests_145 : decode cL_guests 145 = .ok (.aload_n 0, 1) := by decide +kernel
theorem dL_guests_146 : decode cL_guests 146 = .ok (.iload 5, 2) := by decide +kernel
theorem dL_guests_148 : decode cL_guests 148 = .ok (.invokestatic 328, 3) := by decide +kernel
theorem dL_guests_151 : decode cL_guests 151 = .ok (.ifCond .ge 5, 3) := by decide +kernel
theorem dL_guests_154 : decode cL_guests 154 = .ok (.iconst 0, 1) := by decide +kernel
theorem dL_guests_155 : decode cL_guests 155 = .ok (.ireturn, 1) := by decide +kernel
theorem dL_guests_156 : decode cL_guests 156 = .ok (.iinc 5 1, 3) := by decide +kernel
theorem dL_guests_159 : decode cL_guests 159 = .ok (.goto (-144), 3) := by decide +kernel
theorem dL_guests_162 : decode cL_guests 162 = .ok (.iconst 0, 1) := by decide +kernel
theorem dL_guests_163 : decode cL_guests 163 = .ok (.istore 5, 2) := by decide +kernel
theorem dL_guests_165 : decode cL_guests 165 = .ok (.iload 5, 2) := by decide +kernel
theorem dL_guests_167 : decode cL_guests 167 = .ok (.aload_n 0, 1) := by decide +kernel
theorem dL_guests_168 : decode cL_guests 168 = .ok (.invokevirtual 249, 3) := by decide +kernel
theorem dL_guests_171 : decode cL_guests 171 = .ok (.if_icmp .ge 20, 3) := by decide +kernel
theorem dL_guests_174 : decode cL_guests 174 = .ok (.iload 4, 2) := by decide +kernel
theorem dL_guests_176 : decode cL_guests 176 = .ok (.aload_n 0, 1) := by decide +kernel
theorem dL_guests_177 : decode cL_guests 177 = .ok (.iload 5, 2) := by decide +kernel
theorem dL_guests_179 : decode cL_guests 179 = .ok (.invokestatic 305, 3) := by decide +kernel
theorem dL_guests_182 : decode cL_guests 182 = .ok (.iadd, 1) := by decide +kernel
theorem dL_guests_183 : decode cL_guests 183 = .ok (.istore 4, 2) := by decide +kernel
theorem dL_guests_185 : decode cL_guests 185 = .ok (.iinc 5 1, 3) := by decide +kernel
theorem dL_guests_188 : decode cL_guests 188 = .ok (.goto (-23), 3) := by decide +kernel
theorem dL_guests_191 : decode cL_guests 191 = .ok (.iload_n 2, 1) := by decide +kernel
theorem dL_guests_192 : decode cL_guests 192 = .ok (.aload_n 0, 1) := by decide +kernel
theorem dL_guests_193 : decode cL_guests 193 = .ok (.invokevirtual 330, 3) := by decide +kernel
theorem dL_guests_196 : decode cL_guests 196 = .ok (.iadd, 1) := by decide +kernel
theorem dL_guests_197 : decode cL_guests 197 = .ok (.bipush 50, 2) := by decide +kernel
theorem dL_guests_199 : decode cL_guests 199 = .ok (.iload_n 1, 1) := by decide +kernel
theorem dL_guests_200 : decode cL_guests 200 = .ok (.imul, 1) := by decide +kernel
theorem dL_guests_201 : decode cL_guests 201 = .ok (.if_icmp .ne 66, 3) := by decide +kernel
theorem dL_guests_204 : decode cL_guests 204 = .ok (.iload_n 3, 1) := by decide +kernel
theorem dL_guests_205 : decode cL_guests 205 = .ok (.iload 4, 2) := by decide +kernel
theorem dL_guests_207 : decode cL_guests 207 = .ok (.if_icmp .ne 60, 3) := by decide +kernel
theorem dL_guests_210 : decode cL_guests 210 = .ok (.aload_n 0, 1) := by decide +kernel
theorem dL_guests_211 : decode cL_guests 211 = .ok (.invokevirtual 333, 3) := by decide +kernel
theorem dL_guests_214 : decode cL_guests 214 = .ok (.iload_n 2, 1) := by decide +kernel
theorem dL_guests_215 : decode cL_guests 215 = .ok (.i2d, 1) := by decide +kernel
theorem dL_guests_216 : decode cL_guests 216 = .ok (.iload_n 1, 1) := by decide +kernel
theorem dL_guests_217 : decode cL_guests 217 = .ok (.i2d, 1) := by decide +kernel
theorem dL_guests_218 : decode cL_guests 218 = .ok (.ddiv, 1) := by decide +kernel
theorem dL_guests_219 : decode cL_guests 219 = .ok (.dcmp .l, 1) := by decide +kernel
theorem dL_guests_220 : decode cL_guests 220 = .ok (.ifCond .ne 47, 3) := by decide +kernel
theorem dL_guests_223 : decode cL_guests 223 = .ok (.aload_n 0, 1) := by decide +kernel
theorem dL_guests_224 : decode cL_guests 224 = .ok (.iload_n 1, 1) := by decide +kernel
theorem dL_guests_225 : decode cL_guests 225 = .ok (.invokestatic 323, 3) := by decide +kernel
theorem dL_guests_228 : decode cL_guests 228 = .ok (.bipush (-13), 2) := by decide +kernel
theorem dL_guests_230 : decode cL_guests 230 = .ok (.if_icmp .ne 37, 3) := by decide +kernel
theorem dL_guests_233 : decode cL_guests 233 = .ok (.aload_n 0, 1) := by decide +kernel
theorem dL_guests_234 : decode cL_guests 234 = .ok (.iload_n 1, 1) := by decide +kernel
theorem dL_guests_235 : decode cL_guests 235 = .ok (.invokestatic 328, 3) := by decide +kernel
theorem dL_guests_238 : decode cL_guests 238 = .ok (.bipush (-11), 2) := by decide +kernel
theorem dL_guests_240 : decode cL_guests 240 = .ok (.if_icmp .ne 27, 3) := by decide +kernel
theorem dL_guests_243 : decode cL_guests 243 = .ok (.aload_n 0, 1) := by decide +kernel
theorem dL_guests_244 : decode cL_guests 244 = .ok (.iload_n 1, 1) := by decide +kernel
theorem dL_guests_245 : decode cL_guests 245 = .ok (.invokestatic 310, 3) := by decide +kernel
theorem dL_guests_248 : decode cL_guests 248 = .ok (.bipush (-11), 2) := by decide +kernel
theorem dL_guests_250 : decode cL_guests 250 = .ok (.if_icmp .ne 17, 3) := by decide +kernel
theorem dL_guests_253 : decode cL_guests 253 = .ok (.aload_n 0, 1) := by decide +kernel
theorem dL_guests_254 : decode cL_guests 254 = .ok (.iconst (-1), 1) := by decide +kernel
theorem dL_guests_255 : decode cL_guests 255 = .ok (.invokestatic 326, 3) := by decide +kernel
theorem dL_guests_258 : decode cL_guests 258 = .ok (.bipush (-11), 2) := by decide +kernel
theorem dL_guests_260 : decode cL_guests 260 = .ok (.if_icmp .ne 7, 3) := by decide +kernel
theorem dL_guests_263 : decode cL_guests 263 = .ok (.iconst 1, 1) := by decide +kernel
theorem dL_guests_264 : decode cL_guests 264 = .ok (.goto 4, 3) := by decide +kernel
theorem dL_guests_267 : decode cL_guests 267 = .ok (.iconst 0, 1) := by decide +kernel
theorem dL_guests_268 : decode cL_guests 268 = .ok (.ireturn, 1) := by decide +kernel
theorem dL_finishes_0 : decode cL_finishes 0 = .ok (.aload_n 0, 1) := by decide +kernel
theorem dL_finishes_1 : decode cL_finishes 1 = .ok (.invokevirtual 337, 3) := by decide +kernel
theorem dL_finishes_4 : decode cL_finishes 4 = .ok (.istore_n 1, 1) := by decide +kernel
theorem dL_finishes_5 : decode cL_finishes 5 = .ok (.iconst 0, 1) := by decide +kernel
theorem dL_finishes_6 : decode cL_finishes 6 = .ok (.istore_n 2, 1) := by decide +kernel
theorem dL_finishes_7 : decode cL_finishes 7 = .ok (.bipush 10, 2) := by decide +kernel
theorem dL_finishes_9 : decode cL_finishes 9 = .ok (.newarray .int, 2) := by decide +kernel
theorem dL_finishes_11 : decode cL_finishes 11 = .ok (.astore_n 3, 1) := by decide +kernel
theorem dL_finishes_12 : decode cL_finishes 12 = .ok (.iconst 0, 1) := by decide +kernel
theorem dL_finishes_13 : decode cL_finishes 13 = .ok (.istore 4, 2) := by decide +kernel
theorem dL_finishes_15 : decode cL_finishes 15 = .ok (.iload 4, 2) := by decide +kernel
theorem dL_finishes_17 : decode cL_finishes 17 = .ok (.iload_n 1, 1) := by decide +kernel
theorem dL_finishes_18 : decode cL_finishes 18 = .ok (.if_icmp .ge 106, 3) := by decide +kernel
theorem dL_finishes_21 : decode cL_finishes 21 = .ok (.iconst 0, 1) := by decide +kernel
theorem dL_finishes_22 : decode cL_finishes 22 = .ok (.istore 5, 2) := by decide +kernel
theorem dL_finishes_24 : decode cL_finishes 24 = .ok (.iload 5, 2) := by decide +kernel
theorem dL_finishes_26 : decode cL_finishes 26 = .ok (.iload 4, 2) := by decide +kernel
theorem dL_finishes_28 : decode cL_finishes 28 = .ok (.if_icmp .ge 32, 3) := by decide +kernel
theorem dL_finishes_31 : decode cL_finishes 31 = .ok (.iload_n 2, 1) := by decide +kernel
theorem dL_finishes_32 : decode cL_finishes 32 = .ok (.aload_n 0, 1) := by decide +kernel
theorem dL_finishes_33 : decode cL_finishes 33 = .ok (.iload 4, 2) := by decide +kernel
theorem dL_finishes_35 : decode cL_finishes 35 = .ok (.invokestatic 340, 3) := by decide +kernel
theorem dL_finishes_38 : decode cL_finishes 38 = .ok (.aload_n 0, 1) := by decide +kernel
theorem dL_finishes_39 : decode cL_finishes 39 = .ok (.iload 5, 2) := by decide +kernel
theorem dL_finishes_41 : decode cL_finishes 41 = .ok (.invokestatic 340, 3) := by decide +kernel
theorem dL_finishes_44 : decode cL_finishes 44 = .ok (.if_icmp .ne 7, 3) := by decide +kernel
theorem dL_finishes_47 : decode cL_finishes 47 = .ok (.iconst 1, 1) := by decide +kernel
theorem dL_finishes_48 : decode cL_finishes 48 = .ok (.goto 4, 3) := by decide +kernel
theorem dL_finishes_51 : decode cL_finishes 51 = .ok (.iconst 0, 1) := by decide +kernel
theorem dL_finishes_52 : decode cL_finishes 52 = .ok (.iadd, 1) := by decide +kernel
theorem dL_finishes_53 : decode cL_finishes 53 = .ok (.istore_n 2, 1) := by decide +kernel
theorem dL_finishes_54 : decode cL_finishes 54 = .ok (.iinc 5 1, 3) := by decide +kernel
theorem dL_finishes_57 : decode cL_finishes 57 = .ok (.goto (-33), 3) := by decide +kernel
theorem dL_finishes_60 : decode cL_finishes 60 = .ok (.aload_n 3, 1) := by decide +kernel
theorem dL_finishes_61 : decode cL_finishes 61 = .ok (.aload_n 0, 1) := by decide +kernel
theorem dL_finishes_62 : decode cL_finishes 62 = .ok (.iload 4, 2) := by decide +kernel
theorem dL_finishes_64 : decode cL_finishes 64 = .ok (.invokestatic 342, 3) := by decide +kernel
theorem dL_finishes_67 : decode cL_finishes 67 = .ok (.dup2, 1) := by decide +kernel
theorem dL_finishes_68 : decode cL_finishes 68 = .ok (.iaload, 1) := by decide +kernel
theorem dL_finishes_69 : decode cL_finishes 69 = .ok (.iconst 1, 1) := by decide +kernel
theorem dL_finishes_70 : decode cL_finishes 70 = .ok (.iadd, 1) := by decide +kernel
theorem dL_finishes_71 : decode cL_finishes 71 = .ok (.iastore, 1) := by decide +kernel
theorem dL_finishes_72 : decode cL_finishes 72 = .ok (.aload_n 0, 1) := by decide +kernel
theorem dL_finishes_73 : decode cL_finishes 73 = .ok (.iload 4, 2) := by decide +kernel
theorem dL_finishes_75 : decode cL_finishes 75 = .ok (.invokestatic 340, 3) := by decide +kernel
theorem dL_finishes_78 : decode cL_finishes 78 = .ok (.aload_n 0, 1) := by decide +kernel
theorem dL_finishes_79 : decode cL_finishes 79 = .ok (.invokevirtual 164, 3) := by decide +kernel
theorem dL_finishes_82 : decode cL_finishes 82 = .ok (.if_icmp .gt 34, 3) := by decide +kernel
theorem dL_finishes_85 : decode cL_finishes 85 = .ok (.iload 4, 2) := by decide +kernel
theorem dL_finishes_87 : decode cL_finishes 87 = .ok (.ifCond .le 20, 3) := by decide +kernel
theorem dL_finishes_90 : decode cL_finishes 90 = .ok (.aload_n 0, 1) := by decide +kernel
theorem dL_finishes_91 : decode cL_finishes 91 = .ok (.iload 4, 2) := by decide +kernel
theorem dL_finishes_93 : decode cL_finishes 93 = .ok (.invokestatic 340, 3) := by decide +kernel
theorem dL_finishes_96 : decode cL_finishes 96 = .ok (.aload_n 0, 1) := by decide +kernel
theorem dL_finishes_97 : decode cL_finishes 97 = .ok (.iload 4, 2) := by decide +kernel
theorem dL_finishes_99 : decode cL_finishes 99 = .ok (.iconst 1, 1) := by decide +kernel
theorem dL_finishes_100 : decode cL_finishes 100 = .ok (.isub, 1) := by decide +kernel
theorem dL_finishes_101 : decode cL_finishes 101 = .ok (.invokestatic 340, 3) := by decide +kernel
theorem dL_finishes_104 : decode cL_finishes 104 = .ok (.if_icmp .gt 12, 3) := by decide +kernel
theorem dL_finishes_107 : decode cL_finishes 107 = .ok (.aload_n 0, 1) := by decide +kernel
theorem dL_finishes_108 : decode cL_finishes 108 = .ok (.iload 4, 2) := by decide +kernel
theorem dL_finishes_110 : decode cL_finishes 110 = .ok (.invokestatic 344, 3) := by decide +kernel
theorem dL_finishes_113 : decode cL_finishes 113 = .ok (.ifCond .ge 5, 3) := by decide +kernel
theorem dL_finishes_116 : decode cL_finishes 116 = .ok (.iconst 0, 1) := by decide +kernel
theorem dL_finishes_117 : decode cL_finishes 117 = .ok (.ireturn, 1) := by decide +kernel
theorem dL_finishes_118 : decode cL_finishes 118 = .ok (.iinc 4 1, 3) := by decide +kernel
theorem dL_finishes_121 : decode cL_finishes 121 = .ok (.goto (-106), 3) := by decide +kernel
theorem dL_finishes_124 : decode cL_finishes 124 = .ok (.iconst 0, 1) := by decide +kernel
theorem dL_finishes_125 : decode cL_finishes 125 = .ok (.istore 4, 2) := by decide +kernel
theorem dL_finishes_127 : decode cL_finishes 127 = .ok (.iload 4, 2) := by decide +kernel
theorem dL_finishes_129 : decode cL_finishes 129 = .ok (.aload_n 0, 1) := by decide +kernel
theorem dL_finishes_130 : decode cL_finishes 130 = .ok (.invokevirtual 320, 3) := by decide +kernel
theorem dL_finishes_133 : decode cL_finishes 133 = .ok (.if_icmp .ge 43, 3) := by decide +kernel
theorem dL_finishes_136 : decode cL_finishes 136 = .ok (.aload_n 0, 1) := by decide +kernel
theorem dL_finishes_137 : decode cL_finishes 137 = .ok (.iload 4, 2) := by decide +kernel
theorem dL_finishes_139 : decode cL_finishes 139 = .ok (.invokestatic 326, 3) := by decide +kernel
theorem dL_finishes_142 : decode cL_finishes 142 = .ok (.aload_n 3, 1) := by decide +kernel
theorem dL_finishes_143 : decode cL_finishes 143 = .ok (.iload 4, 2) := by decide +kernel
theorem dL_finishes_145 : decode cL_finishes 145 = .ok (.iaload, 1) := by decide +kernel
theorem dL_finishes_146 : decode cL_finishes 146 = .ok (.if_icmp .lt 22, 3) := by decide +kernel
theorem dL_finishes_149 : decode cL_finishes 149 = .ok (.iload_n 1, 1) := by decide +kernel
theorem dL_finishes_150 : decode cL_finishes 150 = .ok (.bipush 16, 2) := by decide +kernel
theorem dL_finishes_152 : decode cL_finishes 152 = .ok (.if_icmp .ge 18, 3) := by decide +kernel
theorem dL_finishes_155 : decode cL_finishes 155 = .ok (.aload_n 0, 1) := by decide +kernel
theorem dL_finishes_156 : decode cL_finishes 156 = .ok (.iload 4, 2) := by decide +kernel
theorem dL_finishes_158 : decode cL_finishes 158 = .ok (.invokestatic 326, 3) := by decide +kernel
theorem dL_finishes_161 : decode cL_finishes 161 = .ok (.aload_n 3, 1) := by decide +kernel
theorem dL_finishes_162 : decode cL_finishes 162 = .ok (.iload 4, 2) := by decide +kernel
theorem dL_finishes_164 : decode cL_finishes 164 = .ok (.iaload, 1) := by decide +kernel
theorem dL_finishes_165 : decode cL_finishes 165 = .ok (.if_icmp .eq 5, 3) := by decide +kernel
theorem dL_finishes_168 : decode cL_finishes 168 = .ok (.iconst 0, 1) := by decide +kernel
theorem dL_finishes_169 : decode cL_finishes 169 = .ok (.ireturn, 1) := by decide +kernel
theorem dL_finishes_170 : decode cL_finishes 170 = .ok (.iinc 4 1, 3) := by decide +kernel
theorem dL_finishes_173 : decode cL_finishes 173 = .ok (.goto (-46), 3) := by decide +kernel
theorem dL_finishes_176 : decode cL_finishes 176 = .ok (.aload_n 0, 1) := by decide +kernel
theorem dL_finishes_177 : decode cL_finishes 177 = .ok (.invokevirtual 346, 3) := by decide +kernel
theorem dL_finishes_180 : decode cL_finishes 180 = .ok (.iload_n 2, 1) := by decide +kernel
theorem dL_finishes_181 : decode cL_finishes 181 = .ok (.if_icmp .ne 51, 3) := by decide +kernel
theorem dL_finishes_184 : decode cL_finishes 184 = .ok (.aload_n 0, 1) := by decide +kernel
theorem dL_finishes_185 : decode cL_finishes 185 = .ok (.invokevirtual 349, 3) := by decide +kernel
theorem dL_finishes_188 : decode cL_finishes 188 = .ok (.iload_n 2, 1) := by decide +kernel
theorem dL_finishes_189 : decode cL_finishes 189 = .ok (.if_icmp .ne 43, 3) := by decide +kernel
theorem dL_finishes_192 : decode cL_finishes 192 = .ok (.iload_n 1, 1) := by decide +kernel
theorem dL_finishes_193 : decode cL_finishes 193 = .ok (.bipush 16, 2) := by decide +kernel
theorem dL_finishes_195 : decode cL_finishes 195 = .ok (.if_icmp .gt 37, 3) := by decide +kernel
theorem dL_finishes_198 : decode cL_finishes 198 = .ok (.aload_n 0, 1) := by decide +kernel
theorem dL_finishes_199 : decode cL_finishes 199 = .ok (.iload_n 1, 1) := by decide +kernel
theorem dL_finishes_200 : decode cL_finishes 200 = .ok (.invokestatic 342, 3) := by decide +kernel
theorem dL_finishes_203 : decode cL_finishes 203 = .ok (.bipush (-13), 2) := by decide +kernel
theorem dL_finishes_205 : decode cL_finishes 205 = .ok (.if_icmp .ne 27, 3) := by decide +kernel
theorem dL_finishes_208 : decode cL_finishes 208 = .ok (.aload_n 0, 1) := by decide +kernel
theorem dL_finishes_209 : decode cL_finishes 209 = .ok (.iload_n 1, 1) := by decide +kernel
theorem dL_finishes_210 : decode cL_finishes 210 = .ok (.invokestatic 344, 3) := by decide +kernel
theorem dL_finishes_213 : decode cL_finishes 213 = .ok (.bipush (-13), 2) := by decide +kernel
theorem dL_finishes_215 : decode cL_finishes 215 = .ok (.if_icmp .ne 17, 3) := by decide +kernel
theorem dL_finishes_218 : decode cL_finishes 218 = .ok (.aload_n 0, 1) := by decide +kernel
theorem dL_finishes_219 : decode cL_finishes 219 = .ok (.iconst (-1), 1) := by decide +kernel
theorem dL_finishes_220 : decode cL_finishes 220 = .ok (.invokestatic 340, 3) := by decide +kernel
theorem dL_finishes_223 : decode cL_finishes 223 = .ok (.bipush (-13), 2) := by decide +kernel
theorem dL_finishes_225 : decode cL_finishes 225 = .ok (.if_icmp .ne 7, 3) := by decide +kernel
theorem dL_finishes_228 : decode cL_finishes 228 = .ok (.iconst 1, 1) := by decide +kernel
theorem dL_finishes_229 : decode cL_finishes 229 = .ok (.goto 4, 3) := by decide +kernel
theorem dL_finishes_232 : decode cL_finishes 232 = .ok (.iconst 0, 1) := by decide +kernel
theorem dL_finishes_233 : decode cL_finishes 233 = .ok (.ireturn, 1) := by decide +kernel
theorem dL_sum_0 : decode cL_sum 0 = .ok (.ldc2_w 352, 3) := by decide +kernel
theorem dL_sum_3 : decode cL_sum 3 = .ok (.aload_n 0, 1) := by decide +kernel
theorem dL_sum_4 : decode cL_sum 4 = .ok (.invokevirtual 164, 3) := by decide +kernel
theorem dL_sum_7 : decode cL_sum 7 = .ok (.i2l, 1) := by decide +kernel
theorem dL_sum_8 : decode cL_sum 8 = .ok (.ladd, 1) := by decide +kernel
theorem dL_sum_9 : decode cL_sum 9 = .ok (.lstore_n 1, 1) := by decide +kernel
theorem dL_sum_10 : decode cL_sum 10 = .ok (.ldc2_w 354, 3) := by decide +kernel
theorem dL_sum_13 : decode cL_sum 13 = .ok (.lload_n 1, 1) := by decide +kernel
theorem dL_sum_14 : decode cL_sum 14 = .ok (.lmul, 1) := by decide +kernel
theorem dL_sum_15 : decode cL_sum 15 = .ok (.sipush 1000, 3) := by decide +kernel
theorem dL_sum_18 : decode cL_sum 18 = .ok (.aload_n 0, 1) := by decide +kernel
theorem dL_sum_19 : decode cL_sum 19 = .ok (.invokevirtual 356, 3) := by decide +kernel
theorem dL_sum_22 : decode cL_sum 22 = .ok (.imul, 1) := by decide +kernel
theorem dL_sum_23 : decode cL_sum 23 = .ok (.i2l, 1) := by decide +kernel
theorem dL_sum_24 : decode cL_sum 24 = .ok (.ladd, 1) := by decide +kernel
theorem dL_sum_25 : decode cL_sum 25 = .ok (.aload_n 0, 1) := by decide +kernel
theorem dL_sum_26 : decode cL_sum 26 = .ok (.invokevirtual 359, 3) := by decide +kernel
theorem dL_sum_29 : decode cL_sum 29 = .ok (.i2l, 1) := by decide +kernel
theorem dL_sum_30 : decode cL_sum 30 = .ok (.ladd, 1) := by decide +kernel
theorem dL_sum_31 : decode cL_sum 31 = .ok (.lstore_n 1, 1) := by decide +kernel
theorem dL_sum_32 : decode cL_sum 32 = .ok (.ldc2_w 354, 3) := by decide +kernel
theorem dL_sum_35 : decode cL_sum 35 = .ok (.lload_n 1, 1) := by decide +kernel
theorem dL_sum_36 : decode cL_sum 36 = .ok (.lmul, 1) := by decide +kernel
theorem dL_sum_37 : decode cL_sum 37 = .ok (.aload_n 0, 1) := by decide +kernel
theorem dL_sum_38 : decode cL_sum 38 = .ok (.invokevirtual 330, 3) := by decide +kernel
theorem dL_sum_41 : decode cL_sum 41 = .ok (.i2l, 1) := by decide +kernel
theorem dL_sum_42 : decode cL_sum 42 = .ok (.ladd, 1) := by decide +kernel
theorem dL_sum_43 : decode cL_sum 43 = .ok (.lstore_n 1, 1) := by decide +kernel
theorem dL_sum_44 : decode cL_sum 44 = .ok (.iconst 0, 1) := by decide +kernel
theorem dL_sum_45 : decode cL_sum 45 = .ok (.istore_n 3, 1) := by decide +kernel
theorem dL_sum_46 : decode cL_sum 46 = .ok (.iload_n 3, 1) := by decide +kernel
theorem dL_sum_47 : decode cL_sum 47 = .ok (.aload_n 0, 1) := by decide +kernel
theorem dL_sum_48 : decode cL_sum 48 = .ok (.invokevirtual 249, 3) := by decide +kernel
theorem dL_sum_51 : decode cL_sum 51 = .ok (.if_icmp .ge 76, 3) := by decide +kernel
theorem dL_sum_54 : decode cL_sum 54 = .ok (.ldc2_w 362, 3) := by decide +kernel
theorem dL_sum_57 : decode cL_sum 57 = .ok (.lload_n 1, 1) := by decide +kernel
theorem dL_sum_58 : decode cL_sum 58 = .ok (.lmul, 1) := by decide +kernel
theorem dL_sum_59 : decode cL_sum 59 = .ok (.bipush 100, 2) := by decide +kernel
theorem dL_sum_61 : decode cL_sum 61 = .ok (.aload_n 0, 1) := by decide +kernel
theorem dL_sum_62 : decode cL_sum 62 = .ok (.iload_n 3, 1) := by decide +kernel
theorem dL_sum_63 : decode cL_sum 63 = .ok (.invokevirtual 45, 3) := by decide +kernel
theorem dL_sum_66 : decode cL_sum 66 = .ok (.imul, 1) := by decide +kernel
theorem dL_sum_67 : decode cL_sum 67 = .ok (.i2l, 1) := by decide +kernel
theorem dL_sum_68 : decode cL_sum 68 = .ok (.ladd, 1) := by decide +kernel
theorem dL_sum_69 : decode cL_sum 69 = .ok (.bipush 10, 2) := by decide +kernel
theorem dL_sum_71 : decode cL_sum 71 = .ok (.aload_n 0, 1) := by decide +kernel
theorem dL_sum_72 : decode cL_sum 72 = .ok (.iload_n 3, 1) := by decide +kernel
theorem dL_sum_73 : decode cL_sum 73 = .ok (.invokevirtual 48, 3) := by decide +kernel
theorem dL_sum_76 : decode cL_sum 76 = .ok (.imul, 1) := by decide +kernel
theorem dL_sum_77 : decode cL_sum 77 = .ok (.i2l, 1) := by decide +kernel
theorem dL_sum_78 : decode cL_sum 78 = .ok (.ladd, 1) := by decide +kernel
theorem dL_sum_79 : decode cL_sum 79 = .ok (.aload_n 0, 1) := by decide +kernel
theorem dL_sum_80 : decode cL_sum 80 = .ok (.iload_n 3, 1) := by decide +kernel
theorem dL_sum_81 : decode cL_sum 81 = .ok (.invokevirtual 51, 3) := by decide +kernel
theorem dL_sum_84 : decode cL_sum 84 = .ok (.i2l, 1) := by decide +kernel
theorem dL_sum_85 : decode cL_sum 85 = .ok (.ladd, 1) := by decide +kernel
theorem dL_sum_86 : decode cL_sum 86 = .ok (.lstore_n 1, 1) := by decide +kernel
theorem dL_sum_87 : decode cL_sum 87 = .ok (.iconst 0, 1) := by decide +kernel
theorem dL_sum_88 : decode cL_sum 88 = .ok (.istore 4, 2) := by decide +kernel
theorem dL_sum_90 : decode cL_sum 90 = .ok (.iload 4, 2) := by decide +kernel
theorem dL_sum_92 : decode cL_sum 92 = .ok (.aload_n 0, 1) := by decide +kernel
theorem dL_sum_93 : decode cL_sum 93 = .ok (.iload_n 3, 1) := by decide +kernel
theorem dL_sum_94 : decode cL_sum 94 = .ok (.invokevirtual 63, 3) := by decide +kernel
theorem dL_sum_97 : decode cL_sum 97 = .ok (.if_icmp .ge 24, 3) := by decide +kernel
theorem dL_sum_100 : decode cL_sum 100 = .ok (.ldc2_w 364, 3) := by decide +kernel
theorem dL_sum_103 : decode cL_sum 103 = .ok (.lload_n 1, 1) := by decide +kernel
theorem dL_sum_104 : decode cL_sum 104 = .ok (.lmul, 1) := by decide +kernel
theorem dL_sum_105 : decode cL_sum 105 = .ok (.aload_n 0, 1) := by decide +kernel
theorem dL_sum_106 : decode cL_sum 106 = .ok (.iload_n 3, 1) := by decide +kernel
theorem dL_sum_107 : decode cL_sum 107 = .ok (.iload 4, 2) := by decide +kernel
theorem dL_sum_109 : decode cL_sum 109 = .ok (.invokevirtual 66, 3) := by decide +kernel
theorem dL_sum_112 : decode cL_sum 112 = .ok (.i2l, 1) := by decide +kernel
theorem dL_sum_113 : decode cL_sum 113 = .ok (.ladd, 1) := by decide +kernel
theorem dL_sum_114 : decode cL_sum 114 = .ok (.lstore_n 1, 1) := by decide +kernel
theorem dL_sum_115 : decode cL_sum 115 = .ok (.iinc 4 1, 3) := by decide +kernel
theorem dL_sum_118 : decode cL_sum 118 = .ok (.goto (-28), 3) := by decide +kernel
theorem dL_sum_121 : decode cL_sum 121 = .ok (.iinc 3 1, 3) := by decide +kernel
theorem dL_sum_124 : decode cL_sum 124 = .ok (.goto (-78), 3) := by decide +kernel
theorem dL_sum_127 : decode cL_sum 127 = .ok (.iconst 0, 1) := by decide +kernel
theorem dL_sum_128 : decode cL_sum 128 = .ok (.istore_n 3, 1) := by decide +kernel
theorem dL_sum_129 : decode cL_sum 129 = .ok (.iload_n 3, 1) := by decide +kernel
theorem dL_sum_130 : decode cL_sum 130 = .ok (.aload_n 0, 1) := by decide +kernel
theorem dL_sum_131 : decode cL_sum 131 = .ok (.invokevirtual 320, 3) := by decide +kernel
theorem dL_sum_134 : decode cL_sum 134 = .ok (.if_icmp .ge 32, 3) := by decide +kernel
theorem dL_sum_137 : decode cL_sum 137 = .ok (.ldc2_w 366, 3) := by decide +kernel
theorem dL_sum_140 : decode cL_sum 140 = .ok (.lload_n 1, 1) := by decide +kernel
theorem dL_sum_141 : decode cL_sum 141 = .ok (.lmul, 1) := by decide +kernel
theorem dL_sum_142 : decode cL_sum 142 = .ok (.bipush 100, 2) := by decide +kernel
theorem dL_sum_144 : decode cL_sum 144 = .ok (.aload_n 0, 1) := by decide +kernel
theorem dL_sum_145 : decode cL_sum 145 = .ok (.iload_n 3, 1) := by decide +kernel
theorem dL_sum_146 : decode cL_sum 146 = .ok (.invokevirtual 104, 3) := by decide +kernel
theorem dL_sum_149 : decode cL_sum 149 = .ok (.imul, 1) := by decide +kernel
theorem dL_sum_150 : decode cL_sum 150 = .ok (.i2l, 1) := by decide +kernel
theorem dL_sum_151 : decode cL_sum 151 = .ok (.ladd, 1) := by decide +kernel
theorem dL_sum_152 : decode cL_sum 152 = .ok (.aload_n 0, 1) := by decide +kernel
theorem dL_sum_153 : decode cL_sum 153 = .ok (.iload_n 3, 1) := by decide +kernel
theorem dL_sum_154 : decode cL_sum 154 = .ok (.invokevirtual 57, 3) := by decide +kernel
theorem dL_sum_157 : decode cL_sum 157 = .ok (.i2l, 1) := by decide +kernel
theorem dL_sum_158 : decode cL_sum 158 = .ok (.ladd, 1) := by decide +kernel
theorem dL_sum_159 : decode cL_sum 159 = .ok (.lstore_n 1, 1) := by decide +kernel
theorem dL_sum_160 : decode cL_sum 160 = .ok (.iinc 3 1, 3) := by decide +kernel
theorem dL_sum_163 : decode cL_sum 163 = .ok (.goto (-34), 3) := by decide +kernel
theorem dL_sum_166 : decode cL_sum 166 = .ok (.iconst 0, 1) := by decide +kernel
theorem dL_sum_167 : decode cL_sum 167 = .ok (.istore_n 3, 1) := by decide +kernel
theorem dL_sum_168 : decode cL_sum 168 = .ok (.iload_n 3, 1) := by decide +kernel
theorem dL_sum_169 : decode cL_sum 169 = .ok (.aload_n 0, 1) := by decide +kernel
theorem dL_sum_170 : decode cL_sum 170 = .ok (.invokevirtual 180, 3) := by decide +kernel
theorem dL_sum_173 : decode cL_sum 173 = .ok (.if_icmp .ge 45, 3) := by decide +kernel
theorem dL_sum_176 : decode cL_sum 176 = .ok (.ldc2_w 368, 3) := by decide +kernel
theorem dL_sum_179 : decode cL_sum 179 = .ok (.lload_n 1, 1) := by decide +kernel
theorem dL_sum_180 : decode cL_sum 180 = .ok (.lmul, 1) := by decide +kernel
theorem dL_sum_181 : decode cL_sum 181 = .ok (.bipush 10, 2) := by decide +kernel
theorem dL_sum_183 : decode cL_sum 183 = .ok (.aload_n 0, 1) := by decide +kernel
theorem dL_sum_184 : decode cL_sum 184 = .ok (.iload_n 3, 1) := by decide +kernel
theorem dL_sum_185 : decode cL_sum 185 = .ok (.invokevirtual 69, 3) := by decide +kernel
theorem dL_sum_188 : decode cL_sum 188 = .ok (.imul, 1) := by decide +kernel
theorem dL_sum_189 : decode cL_sum 189 = .ok (.i2l, 1) := by decide +kernel
theorem dL_sum_190 : decode cL_sum 190 = .ok (.ladd, 1) := by decide +kernel
theorem dL_sum_191 : decode cL_sum 191 = .ok (.aload_n 0, 1) := by decide +kernel
theorem dL_sum_192 : decode cL_sum 192 = .ok (.iload_n 3, 1) := by decide +kernel
theorem dL_sum_193 : decode cL_sum 193 = .ok (.invokevirtual 72, 3) := by decide +kernel
theorem dL_sum_196 : decode cL_sum 196 = .ok (.i2l, 1) := by decide +kernel
theorem dL_sum_197 : decode cL_sum 197 = .ok (.ladd, 1) := by decide +kernel
theorem dL_sum_198 : decode cL_sum 198 = .ok (.lstore_n 1, 1) := by decide +kernel
theorem dL_sum_199 : decode cL_sum 199 = .ok (.ldc2_w 370, 3) := by decide +kernel
theorem dL_sum_202 : decode cL_sum 202 = .ok (.lload_n 1, 1) := by decide +kernel
theorem dL_sum_203 : decode cL_sum 203 = .ok (.lmul, 1) := by decide +kernel
theorem dL_sum_204 : decode cL_sum 204 = .ok (.aload_n 0, 1) := by decide +kernel
theorem dL_sum_205 : decode cL_sum 205 = .ok (.iload_n 3, 1) := by decide +kernel
theorem dL_sum_206 : decode cL_sum 206 = .ok (.invokevirtual 75, 3) := by decide +kernel
theorem dL_sum_209 : decode cL_sum 209 = .ok (.i2l, 1) := by decide +kernel
theorem dL_sum_210 : decode cL_sum 210 = .ok (.ladd, 1) := by decide +kernel
theorem dL_sum_211 : decode cL_sum 211 = .ok (.lstore_n 1, 1) := by decide +kernel
theorem dL_sum_212 : decode cL_sum 212 = .ok (.iinc 3 1, 3) := by decide +kernel
theorem dL_sum_215 : decode cL_sum 215 = .ok (.goto (-47), 3) := by decide +kernel
theorem dL_sum_218 : decode cL_sum 218 = .ok (.iconst 0, 1) := by decide +kernel
theorem dL_sum_219 : decode cL_sum 219 = .ok (.istore_n 3, 1) := by decide +kernel
theorem dL_sum_220 : decode cL_sum 220 = .ok (.iload_n 3, 1) := by decide +kernel
theorem dL_sum_221 : decode cL_sum 221 = .ok (.aload_n 0, 1) := by decide +kernel
theorem dL_sum_222 : decode cL_sum 222 = .ok (.invokevirtual 337, 3) := by decide +kernel
theorem dL_sum_225 : decode cL_sum 225 = .ok (.if_icmp .ge 42, 3) := by decide +kernel
theorem dL_sum_228 : decode cL_sum 228 = .ok (.ldc2_w 372, 3) := by decide +kernel
theorem dL_sum_231 : decode cL_sum 231 = .ok (.lload_n 1, 1) := by decide +kernel
theorem dL_sum_232 : decode cL_sum 232 = .ok (.lmul, 1) := by decide +kernel
theorem dL_sum_233 : decode cL_sum 233 = .ok (.bipush 100, 2) := by decide +kernel
theorem dL_sum_235 : decode cL_sum 235 = .ok (.aload_n 0, 1) := by decide +kernel
theorem dL_sum_236 : decode cL_sum 236 = .ok (.iload_n 3, 1) := by decide +kernel
theorem dL_sum_237 : decode cL_sum 237 = .ok (.invokevirtual 101, 3) := by decide +kernel
theorem dL_sum_240 : decode cL_sum 240 = .ok (.imul, 1) := by decide +kernel
theorem dL_sum_241 : decode cL_sum 241 = .ok (.i2l, 1) := by decide +kernel
theorem dL_sum_242 : decode cL_sum 242 = .ok (.ladd, 1) := by decide +kernel
theorem dL_sum_243 : decode cL_sum 243 = .ok (.bipush 10, 2) := by decide +kernel
theorem dL_sum_245 : decode cL_sum 245 = .ok (.aload_n 0, 1) := by decide +kernel
theorem dL_sum_246 : decode cL_sum 246 = .ok (.iload_n 3, 1) := by decide +kernel
theorem dL_sum_247 : decode cL_sum 247 = .ok (.invokevirtual 98, 3) := by decide +kernel
theorem dL_sum_250 : decode cL_sum 250 = .ok (.imul, 1) := by decide +kernel
theorem dL_sum_251 : decode cL_sum 251 = .ok (.i2l, 1) := by decide +kernel
theorem dL_sum_252 : decode cL_sum 252 = .ok (.ladd, 1) := by decide +kernel
theorem dL_sum_253 : decode cL_sum 253 = .ok (.aload_n 0, 1) := by decide +kernel
theorem dL_sum_254 : decode cL_sum 254 = .ok (.iload_n 3, 1) := by decide +kernel
theorem dL_sum_255 : decode cL_sum 255 = .ok (.invokevirtual 95, 3) := by decide +kernel
theorem dL_sum_258 : decode cL_sum 258 = .ok (.i2l, 1) := by decide +kernel
theorem dL_sum_259 : decode cL_sum 259 = .ok (.ladd, 1) := by decide +kernel
theorem dL_sum_260 : decode cL_sum 260 = .ok (.lstore_n 1, 1) := by decide +kernel
theorem dL_sum_261 : decode cL_sum 261 = .ok (.iinc 3 1, 3) := by decide +kernel
theorem dL_sum_264 : decode cL_sum 264 = .ok (.goto (-44), 3) := by decide +kernel
theorem dL_sum_267 : decode cL_sum 267 = .ok (.lload_n 1, 1) := by decide +kernel
theorem dL_sum_268 : decode cL_sum 268 = .ok (.lreturn, 1) := by decide +kernel
theorem dL_undone_0 : decode cL_undone 0 = .ok (.bipush 9, 2) := by decide +kernel
theorem dL_undone_2 : decode cL_undone 2 = .ok (.newarray .long, 2) := by decide +kernel
theorem dL_undone_4 : decode cL_undone 4 = .ok (.astore_n 2, 1) := by decide +kernel
theorem dL_undone_5 : decode cL_undone 5 = .ok (.iconst 0, 1) := by decide +kernel
theorem dL_undone_6 : decode cL_undone 6 = .ok (.istore_n 3, 1) := by decide +kernel
theorem dL_undone_7 : decode cL_undone 7 = .ok (.iconst 0, 1) := by decide +kernel
theorem dL_undone_8 : decode cL_undone 8 = .ok (.istore 4, 2) := by decide +kernel
theorem dL_undone_10 : decode cL_undone 10 = .ok (.iload 4, 2) := by decide +kernel
theorem dL_undone_12 : decode cL_undone 12 = .ok (.bipush 7, 2) := by decide +kernel
theorem dL_undone_14 : decode cL_undone 14 = .ok (.if_icmp .ge 332, 3) := by decide +kernel
theorem dL_undone_17 : decode cL_undone 17 = .ok (.aload_n 0, 1) := by decide +kernel
theorem dL_undone_18 : decode cL_undone 18 = .ok (.bipush 19, 2) := by decide +kernel
theorem dL_undone_20 : decode cL_undone 20 = .ok (.iload 4, 2) := by decide +kernel
theorem dL_undone_22 : decode cL_undone 22 = .ok (.iadd, 1) := by decide +kernel
theorem dL_undone_23 : decode cL_undone 23 = .ok (.invokestatic 154, 3) := by decide +kernel
theorem dL_undone_26 : decode cL_undone 26 = .ok (.iconst 1, 1) := by decide +kernel
theorem dL_undone_27 : decode cL_undone 27 = .ok (.iushr, 1) := by decide +kernel
theorem dL_undone_28 : decode cL_undone 28 = .ok (.istore 5, 2) := by decide +kernel
theorem dL_undone_30 : decode cL_undone 30 = .ok (.iload 5, 2) := by decide +kernel
theorem dL_undone_32 : decode cL_undone 32 = .ok (.iconst 4, 1) := by decide +kernel
theorem dL_undone_33 : decode cL_undone 33 = .ok (.iushr, 1) := by decide +kernel
theorem dL_undone_34 : decode cL_undone 34 = .ok (.istore 6, 2) := by decide +kernel
theorem dL_undone_36 : decode cL_undone 36 = .ok (.aload_n 2, 1) := by decide +kernel
theorem dL_undone_37 : decode cL_undone 37 = .ok (.iload_n 3, 1) := by decide +kernel
theorem dL_undone_38 : decode cL_undone 38 = .ok (.aload_n 1, 1) := by decide +kernel
theorem dL_undone_39 : decode cL_undone 39 = .ok (.invokestatic 374, 3) := by decide +kernel
theorem dL_undone_42 : decode cL_undone 42 = .ok (.lastore, 1) := by decide +kernel
theorem dL_undone_43 : decode cL_undone 43 = .ok (.iload 5, 2) := by decide +kernel
theorem dL_undone_45 : decode cL_undone 45 = .ok (.bipush 9, 2) := by decide +kernel
theorem dL_undone_47 : decode cL_undone 47 = .ok (.irem, 1) := by decide +kernel
theorem dL_undone_48 : decode cL_undone 48 = .ok (.tableswitch 182 0 7 #[48, 85, 85, 120, 134, 134, 154, 168], 48) := by decide +kernel
theorem dL_undone_96 : decode cL_undone 96 = .ok (.iload 6, 2) := by decide +kernel
theorem dL_undone_98 : decode cL_undone 98 = .ok (.iconst 2, 1) := by decide +kernel
theorem dL_undone_99 : decode cL_undone 99 = .ok (.irem, 1) := by decide +kernel
theorem dL_undone_100 : decode cL_undone 100 = .ok (.ifCond .ne 24, 3) := by decide +kernel
theorem dL_undone_103 : decode cL_undone 103 = .ok (.aload_n 1, 1) := by decide +kernel
theorem dL_undone_104 : decode cL_undone 104 = .ok (.iload 6, 2) := by decide +kernel
theorem dL_undone_106 : decode cL_undone 106 = .ok (.iconst 1, 1) := by decide +kernel
theorem dL_undone_107 : decode cL_undone 107 = .ok (.iushr, 1) := by decide +kernel
theorem dL_undone_108 : decode cL_undone 108 = .ok (.bipush 11, 2) := by decide +kernel
theorem dL_undone_110 : decode cL_undone 110 = .ok (.irem, 1) := by decide +kernel
theorem dL_undone_111 : decode cL_undone 111 = .ok (.iload 6, 2) := by decide +kernel
theorem dL_undone_113 : decode cL_undone 113 = .ok (.iconst 5, 1) := by decide +kernel
theorem dL_undone_114 : decode cL_undone 114 = .ok (.iushr, 1) := by decide +kernel
theorem dL_undone_115 : decode cL_undone 115 = .ok (.bipush 11, 2) := by decide +kernel
theorem dL_undone_117 : decode cL_undone 117 = .ok (.irem, 1) := by decide +kernel
theorem dL_undone_118 : decode cL_undone 118 = .ok (.invokestatic 158, 3) := by decide +kernel
theorem dL_undone_121 : decode cL_undone 121 = .ok (.goto 7, 3) := by decide +kernel
theorem dL_undone_124 : decode cL_undone 124 = .ok (.aload_n 1, 1) := by decide +kernel
theorem dL_undone_125 : decode cL_undone 125 = .ok (.invokestatic 162, 3) := by decide +kernel
theorem dL_undone_128 : decode cL_undone 128 = .ok (.istore 7, 2) := by decide +kernel
theorem dL_undone_130 : decode cL_undone 130 = .ok (.goto 179, 3) := by decide +kernel
theorem dL_undone_133 : decode cL_undone 133 = .ok (.aload_n 1, 1) := by decide +kernel
theorem dL_undone_134 : decode cL_undone 134 = .ok (.iload 6, 2) := by decide +kernel
theorem dL_undone_136 : decode cL_undone 136 = .ok (.bipush 11, 2) := by decide +kernel
theorem dL_undone_138 : decode cL_undone 138 = .ok (.irem, 1) := by decide +kernel
theorem dL_undone_139 : decode cL_undone 139 = .ok (.iload 6, 2) := by decide +kernel
theorem dL_undone_141 : decode cL_undone 141 = .ok (.iconst 4, 1) := by decide +kernel
theorem dL_undone_142 : decode cL_undone 142 = .ok (.iushr, 1) := by decide +kernel
theorem dL_undone_143 : decode cL_undone 143 = .ok (.iconst 5, 1) := by decide +kernel
theorem dL_undone_144 : decode cL_undone 144 = .ok (.irem, 1) := by decide +kernel
theorem dL_undone_145 : decode cL_undone 145 = .ok (.aload_n 1, 1) := by decide +kernel
theorem dL_undone_146 : decode cL_undone 146 = .ok (.invokevirtual 164, 3) := by decide +kernel
theorem dL_undone_149 : decode cL_undone 149 = .ok (.iload 6, 2) := by decide +kernel
theorem dL_undone_151 : decode cL_undone 151 = .ok (.bipush 7, 2) := by decide +kernel
theorem dL_undone_153 : decode cL_undone 153 = .ok (.iushr, 1) := by decide +kernel
theorem dL_undone_154 : decode cL_undone 154 = .ok (.bipush 123, 2) := by decide +kernel
theorem dL_undone_156 : decode cL_undone 156 = .ok (.irem, 1) := by decide +kernel
theorem dL_undone_157 : decode cL_undone 157 = .ok (.iadd, 1) := by decide +kernel
theorem dL_undone_158 : decode cL_undone 158 = .ok (.iconst 1, 1) := by decide +kernel
theorem dL_undone_159 : decode cL_undone 159 = .ok (.isub, 1) := by decide +kernel
theorem dL_undone_160 : decode cL_undone 160 = .ok (.invokestatic 167, 3) := by decide +kernel
theorem dL_undone_163 : decode cL_undone 163 = .ok (.istore 7, 2) := by decide +kernel
theorem dL_undone_165 : decode cL_undone 165 = .ok (.goto 144, 3) := by decide +kernel
theorem dL_undone_168 : decode cL_undone 168 = .ok (.aload_n 1, 1) := by decide +kernel
theorem dL_undone_169 : decode cL_undone 169 = .ok (.iload 6, 2) := by decide +kernel
theorem dL_undone_171 : decode cL_undone 171 = .ok (.bipush 14, 2) := by decide +kernel
theorem dL_undone_173 : decode cL_undone 173 = .ok (.irem, 1) := by decide +kernel
theorem dL_undone_174 : decode cL_undone 174 = .ok (.invokestatic 378, 3) := by decide +kernel
theorem dL_undone_177 : decode cL_undone 177 = .ok (.istore 7, 2) := by decide +kernel
theorem dL_undone_179 : decode cL_undone 179 = .ok (.goto 130, 3) := by decide +kernel
theorem dL_undone_182 : decode cL_undone 182 = .ok (.aload_n 1, 1) := by decide +kernel
theorem dL_undone_183 : decode cL_undone 183 = .ok (.iload 6, 2) := by decide +kernel
theorem dL_undone_185 : decode cL_undone 185 = .ok (.bipush 11, 2) := by decide +kernel
theorem dL_undone_187 : decode cL_undone 187 = .ok (.irem, 1) := by decide +kernel
theorem dL_undone_188 : decode cL_undone 188 = .ok (.iload 6, 2) := by decide +kernel
theorem dL_undone_190 : decode cL_undone 190 = .ok (.iconst 4, 1) := by decide +kernel
theorem dL_undone_191 : decode cL_undone 191 = .ok (.iushr, 1) := by decide +kernel
theorem dL_undone_192 : decode cL_undone 192 = .ok (.iconst 5, 1) := by decide +kernel
theorem dL_undone_193 : decode cL_undone 193 = .ok (.irem, 1) := by decide +kernel
theorem dL_undone_194 : decode cL_undone 194 = .ok (.invokestatic 170, 3) := by decide +kernel
theorem dL_undone_197 : decode cL_undone 197 = .ok (.istore 7, 2) := by decide +kernel
theorem dL_undone_199 : decode cL_undone 199 = .ok (.goto 110, 3) := by decide +kernel
theorem dL_undone_202 : decode cL_undone 202 = .ok (.aload_n 1, 1) := by decide +kernel
theorem dL_undone_203 : decode cL_undone 203 = .ok (.iload 6, 2) := by decide +kernel
theorem dL_undone_205 : decode cL_undone 205 = .ok (.bipush 11, 2) := by decide +kernel
theorem dL_undone_207 : decode cL_undone 207 = .ok (.irem, 1) := by decide +kernel
theorem dL_undone_208 : decode cL_undone 208 = .ok (.invokestatic 380, 3) := by decide +kernel
theorem dL_undone_211 : decode cL_undone 211 = .ok (.istore 7, 2) := by decide +kernel
theorem dL_undone_213 : decode cL_undone 213 = .ok (.goto 96, 3) := by decide +kernel
theorem dL_undone_216 : decode cL_undone 216 = .ok (.aload_n 1, 1) := by decide +kernel
theorem dL_undone_217 : decode cL_undone 217 = .ok (.iload 6, 2) := by decide +kernel
theorem dL_undone_219 : decode cL_undone 219 = .ok (.bipush 62, 2) := by decide +kernel
theorem dL_undone_221 : decode cL_undone 221 = .ok (.irem, 1) := by decide +kernel
theorem dL_undone_222 : decode cL_undone 222 = .ok (.invokestatic 173, 3) := by decide +kernel
theorem dL_undone_225 : decode cL_undone 225 = .ok (.istore 7, 2) := by decide +kernel
theorem dL_undone_227 : decode cL_undone 227 = .ok (.goto 82, 3) := by decide +kernel
theorem dL_undone_230 : decode cL_undone 230 = .ok (.aload_n 1, 1) := by decide +kernel
theorem dL_undone_231 : decode cL_undone 231 = .ok (.new 270, 3) := by decide +kernel
theorem dL_undone_234 : decode cL_undone 234 = .ok (.dup, 1) := by decide +kernel
theorem dL_undone_235 : decode cL_undone 235 = .ok (.invokespecial 272, 3) := by decide +kernel
theorem dL_undone_238 : decode cL_undone 238 = .ok (.ldc_w 383, 3) := by decide +kernel
theorem dL_undone_241 : decode cL_undone 241 = .ok (.invokevirtual 279, 3) := by decide +kernel
theorem dL_undone_244 : decode cL_undone 244 = .ok (.iload 6, 2) := by decide +kernel
theorem dL_undone_246 : decode cL_undone 246 = .ok (.bipush 9, 2) := by decide +kernel
theorem dL_undone_248 : decode cL_undone 248 = .ok (.irem, 1) := by decide +kernel
theorem dL_undone_249 : decode cL_undone 249 = .ok (.invokevirtual 273, 3) := by decide +kernel
theorem dL_undone_252 : decode cL_undone 252 = .ok (.ldc_w 290, 3) := by decide +kernel
theorem dL_undone_255 : decode cL_undone 255 = .ok (.invokevirtual 279, 3) := by decide +kernel
theorem dL_undone_258 : decode cL_undone 258 = .ok (.iload 6, 2) := by decide +kernel
theorem dL_undone_260 : decode cL_undone 260 = .ok (.iconst 4, 1) := by decide +kernel
theorem dL_undone_261 : decode cL_undone 261 = .ok (.iushr, 1) := by decide +kernel
theorem dL_undone_262 : decode cL_undone 262 = .ok (.iconst 4, 1) := by decide +kernel
theorem dL_undone_263 : decode cL_undone 263 = .ok (.irem, 1) := by decide +kernel
theorem dL_undone_264 : decode cL_undone 264 = .ok (.invokevirtual 273, 3) := by decide +kernel
theorem dL_undone_267 : decode cL_undone 267 = .ok (.ldc_w 385, 3) := by decide +kernel
theorem dL_undone_270 : decode cL_undone 270 = .ok (.invokevirtual 279, 3) := by decide +kernel
theorem dL_undone_273 : decode cL_undone 273 = .ok (.iload 6, 2) := by decide +kernel
theorem dL_undone_275 : decode cL_undone 275 = .ok (.bipush 6, 2) := by decide +kernel
theorem dL_undone_277 : decode cL_undone 277 = .ok (.iushr, 1) := by decide +kernel
theorem dL_undone_278 : decode cL_undone 278 = .ok (.bipush 9, 2) := by decide +kernel
theorem dL_undone_280 : decode cL_undone 280 = .ok (.irem, 1) := by decide +kernel
theorem dL_undone_281 : decode cL_undone 281 = .ok (.invokevirtual 273, 3) := by decide +kernel
theorem dL_undone_284 : decode cL_undone 284 = .ok (.ldc_w 387, 3) := by decide +kernel
theorem dL_undone_287 : decode cL_undone 287 = .ok (.invokevirtual 279, 3) := by decide +kernel
theorem dL_undone_290 : decode cL_undone 290 = .ok (.iload 6, 2) := by decide +kernel
theorem dL_undone_292 : decode cL_undone 292 = .ok (.bipush 9, 2) := by decide +kernel
theorem dL_undone_294 : decode cL_undone 294 = .ok (.iushr, 1) := by decide +kernel
theorem dL_undone_295 : decode cL_undone 295 = .ok (.bipush 9, 2) := by decide +kernel
theorem dL_undone_297 : decode cL_undone 297 = .ok (.irem, 1) := by decide +kernel
theorem dL_undone_298 : decode cL_undone 298 = .ok (.invokevirtual 273, 3) := by decide +kernel
theorem dL_undone_301 : decode cL_undone 301 = .ok (.invokevirtual 286, 3) := by decide +kernel
theorem dL_undone_304 : decode cL_undone 304 = .ok (.invokestatic 389, 3) := by decide +kernel
theorem dL_undone_307 : decode cL_undone 307 = .ok (.istore 7, 2) := by decide +kernel
theorem dL_undone_309 : decode cL_undone 309 = .ok (.iload 7, 2) := by decide +kernel
theorem dL_undone_311 : decode cL_undone 311 = .ok (.ifCond .ge 16, 3) := by decide +kernel
theorem dL_undone_314 : decode cL_undone 314 = .ok (.aload_n 1, 1) := by decide +kernel
theorem dL_undone_315 : decode cL_undone 315 = .ok (.invokestatic 374, 3) := by decide +kernel
theorem dL_undone_318 : decode cL_undone 318 = .ok (.aload_n 2, 1) := by decide +kernel
theorem dL_undone_319 : decode cL_undone 319 = .ok (.iload_n 3, 1) := by decide +kernel
theorem dL_undone_320 : decode cL_undone 320 = .ok (.laload, 1) := by decide +kernel
theorem dL_undone_321 : decode cL_undone 321 = .ok (.lcmp, 1) := by decide +kernel
theorem dL_undone_322 : decode cL_undone 322 = .ok (.ifCond .eq 5, 3) := by decide +kernel
theorem dL_undone_325 : decode cL_undone 325 = .ok (.iconst 0, 1) := by decide +kernel
theorem dL_undone_326 : decode cL_undone 326 = .ok (.ireturn, 1) := by decide +kernel
theorem dL_undone_327 : decode cL_undone 327 = .ok (.iload_n 3, 1) := by decide +kernel
theorem dL_undone_328 : decode cL_undone 328 = .ok (.iload 7, 2) := by decide +kernel
theorem dL_undone_330 : decode cL_undone 330 = .ok (.ifCond .ge 7, 3) := by decide +kernel
theorem dL_undone_333 : decode cL_undone 333 = .ok (.iconst 0, 1) := by decide +kernel
theorem dL_undone_334 : decode cL_undone 334 = .ok (.goto 4, 3) := by decide +kernel
theorem dL_undone_337 : decode cL_undone 337 = .ok (.iconst 1, 1) := by decide +kernel
theorem dL_undone_338 : decode cL_undone 338 = .ok (.iadd, 1) := by decide +kernel
theorem dL_undone_339 : decode cL_undone 339 = .ok (.istore_n 3, 1) := by decide +kernel
theorem dL_undone_340 : decode cL_undone 340 = .ok (.iinc 4 1, 3) := by decide +kernel
theorem dL_undone_343 : decode cL_undone 343 = .ok (.goto (-333), 3) := by decide +kernel
theorem dL_undone_346 : decode cL_undone 346 = .ok (.aload_n 1, 1) := by decide +kernel
theorem dL_undone_347 : decode cL_undone 347 = .ok (.invokevirtual 393, 3) := by decide +kernel
theorem dL_undone_350 : decode cL_undone 350 = .ok (.istore 4, 2) := by decide +kernel
theorem dL_undone_352 : decode cL_undone 352 = .ok (.iload_n 3, 1) := by decide +kernel
theorem dL_undone_353 : decode cL_undone 353 = .ok (.iconst 1, 1) := by decide +kernel
theorem dL_undone_354 : decode cL_undone 354 = .ok (.isub, 1) := by decide +kernel
theorem dL_undone_355 : decode cL_undone 355 = .ok (.istore 5, 2) := by decide +kernel
theorem dL_undone_357 : decode cL_undone 357 = .ok (.iload 5, 2) := by decide +kernel
theorem dL_undone_359 : decode cL_undone 359 = .ok (.ifCond .lt 35, 3) := by decide +kernel
theorem dL_undone_362 : decode cL_undone 362 = .ok (.iinc 4 (-1), 3) := by decide +kernel
theorem dL_undone_365 : decode cL_undone 365 = .ok (.aload_n 1, 1) := by decide +kernel
theorem dL_undone_366 : decode cL_undone 366 = .ok (.invokestatic 396, 3) := by decide +kernel
theorem dL_undone_369 : decode cL_undone 369 = .ok (.iload 4, 2) := by decide +kernel
theorem dL_undone_371 : decode cL_undone 371 = .ok (.if_icmp .ne 15, 3) := by decide +kernel
theorem dL_undone_374 : decode cL_undone 374 = .ok (.aload_n 1, 1) := by decide +kernel
theorem dL_undone_375 : decode cL_undone 375 = .ok (.invokestatic 374, 3) := by decide +kernel
theorem dL_undone_378 : decode cL_undone 378 = .ok (.aload_n 2, 1) := by decide +kernel
theorem dL_undone_379 : decode cL_undone 379 = .ok (.iload 5, 2) := by decide +kernel
theorem dL_undone_381 : decode cL_undone 381 = .ok (.laload, 1) := by decide +kernel
theorem dL_undone_382 : decode cL_undone 382 = .ok (.lcmp, 1) := by decide +kernel
theorem dL_undone_383 : decode cL_undone 383 = .ok (.ifCond .eq 5, 3) := by decide +kernel
theorem dL_undone_386 : decode cL_undone 386 = .ok (.iconst 0, 1) := by decide +kernel
theorem dL_undone_387 : decode cL_undone 387 = .ok (.ireturn, 1) := by decide +kernel
theorem dL_undone_388 : decode cL_undone 388 = .ok (.iinc 5 (-1), 3) := by decide +kernel
theorem dL_undone_391 : decode cL_undone 391 = .ok (.goto (-34), 3) := by decide +kernel
theorem dL_undone_394 : decode cL_undone 394 = .ok (.iconst 1, 1) := by decide +kernel
theorem dL_undone_395 : decode cL_undone 395 = .ok (.ireturn, 1) := by decide +kernel
