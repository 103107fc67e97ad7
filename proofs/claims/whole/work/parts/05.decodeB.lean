theorem dX12_init_0 : decode cX12_init 0 = .ok (.aload_n 0, 1) := by decide +kernel
theorem dX12_init_1 : decode cX12_init 1 = .ok (.invokespecial 3, 3) := by decide +kernel
theorem dX12_init_4 : decode cX12_init 4 = .ok (.aload_n 0, 1) := by decide +kernel
theorem dX12_init_5 : decode cX12_init 5 = .ok (.sipush 158, 3) := by decide +kernel
theorem dX12_init_8 : decode cX12_init 8 = .ok (.newarray .int, 2) := by decide +kernel
theorem dX12_init_10 : decode cX12_init 10 = .ok (.putfield 9, 3) := by decide +kernel
theorem dX12_init_13 : decode cX12_init 13 = .ok (.aload_n 0, 1) := by decide +kernel
theorem dX12_init_14 : decode cX12_init 14 = .ok (.sipush 158, 3) := by decide +kernel
theorem dX12_init_17 : decode cX12_init 17 = .ok (.newarray .int, 2) := by decide +kernel
theorem dX12_init_19 : decode cX12_init 19 = .ok (.putfield 13, 3) := by decide +kernel
theorem dX12_init_22 : decode cX12_init 22 = .ok (.aload_n 0, 1) := by decide +kernel
theorem dX12_init_23 : decode cX12_init 23 = .ok (.sipush 158, 3) := by decide +kernel
theorem dX12_init_26 : decode cX12_init 26 = .ok (.newarray .int, 2) := by decide +kernel
theorem dX12_init_28 : decode cX12_init 28 = .ok (.putfield 16, 3) := by decide +kernel
theorem dX12_init_31 : decode cX12_init 31 = .ok (.aload_n 0, 1) := by decide +kernel
theorem dX12_init_32 : decode cX12_init 32 = .ok (.sipush 1264, 3) := by decide +kernel
theorem dX12_init_35 : decode cX12_init 35 = .ok (.newarray .int, 2) := by decide +kernel
theorem dX12_init_37 : decode cX12_init 37 = .ok (.putfield 19, 3) := by decide +kernel
theorem dX12_init_40 : decode cX12_init 40 = .ok (.aload_n 0, 1) := by decide +kernel
theorem dX12_init_41 : decode cX12_init 41 = .ok (.sipush 180, 3) := by decide +kernel
theorem dX12_init_44 : decode cX12_init 44 = .ok (.newarray .char, 2) := by decide +kernel
theorem dX12_init_46 : decode cX12_init 46 = .ok (.putfield 22, 3) := by decide +kernel
theorem dX12_init_49 : decode cX12_init 49 = .ok (.aload_n 0, 1) := by decide +kernel
theorem dX12_init_50 : decode cX12_init 50 = .ok (.bipush 60, 2) := by decide +kernel
theorem dX12_init_52 : decode cX12_init 52 = .ok (.newarray .char, 2) := by decide +kernel
theorem dX12_init_54 : decode cX12_init 54 = .ok (.putfield 26, 3) := by decide +kernel
theorem dX12_init_57 : decode cX12_init 57 = .ok (.aload_n 0, 1) := by decide +kernel
theorem dX12_init_58 : decode cX12_init 58 = .ok (.iconst (-1), 1) := by decide +kernel
theorem dX12_init_59 : decode cX12_init 59 = .ok (.putfield 29, 3) := by decide +kernel
theorem dX12_init_62 : decode cX12_init 62 = .ok (.aload_n 0, 1) := by decide +kernel
theorem dX12_init_63 : decode cX12_init 63 = .ok (.iconst (-1), 1) := by decide +kernel
theorem dX12_init_64 : decode cX12_init 64 = .ok (.putfield 33, 3) := by decide +kernel
theorem dX12_init_67 : decode cX12_init 67 = .ok (.aload_n 0, 1) := by decide +kernel
theorem dX12_init_68 : decode cX12_init 68 = .ok (.sipush 240, 3) := by decide +kernel
theorem dX12_init_71 : decode cX12_init 71 = .ok (.newarray .int, 2) := by decide +kernel
theorem dX12_init_73 : decode cX12_init 73 = .ok (.putfield 36, 3) := by decide +kernel
theorem dX12_init_76 : decode cX12_init 76 = .ok (.return_, 1) := by decide +kernel
theorem dX12_thrown_0 : decode cX12_thrown 0 = .ok (.aload_n 0, 1) := by decide +kernel
theorem dX12_thrown_1 : decode cX12_thrown 1 = .ok (.getfield 39, 3) := by decide +kernel
theorem dX12_thrown_4 : decode cX12_thrown 4 = .ok (.ireturn, 1) := by decide +kernel
theorem dX12_in_0 : decode cX12_in 0 = .ok (.iload_n 0, 1) := by decide +kernel
theorem dX12_in_1 : decode cX12_in 1 = .ok (.iload_n 1, 1) := by decide +kernel
theorem dX12_in_2 : decode cX12_in 2 = .ok (.if_icmp .lt 12, 3) := by decide +kernel
theorem dX12_in_5 : decode cX12_in 5 = .ok (.iload_n 0, 1) := by decide +kernel
theorem dX12_in_6 : decode cX12_in 6 = .ok (.iload_n 2, 1) := by decide +kernel
theorem dX12_in_7 : decode cX12_in 7 = .ok (.if_icmp .gt 7, 3) := by decide +kernel
theorem dX12_in_10 : decode cX12_in 10 = .ok (.iconst 1, 1) := by decide +kernel
theorem dX12_in_11 : decode cX12_in 11 = .ok (.goto 4, 3) := by decide +kernel
theorem dX12_in_14 : decode cX12_in 14 = .ok (.iconst 0, 1) := by decide +kernel
theorem dX12_in_15 : decode cX12_in 15 = .ok (.ireturn, 1) := by decide +kernel
theorem dX12_keep_0 : decode cX12_keep 0 = .ok (.aload_n 0, 1) := by decide +kernel
theorem dX12_keep_1 : decode cX12_keep 1 = .ok (.iconst 0, 1) := by decide +kernel
theorem dX12_keep_2 : decode cX12_keep 2 = .ok (.putfield 39, 3) := by decide +kernel
theorem dX12_keep_5 : decode cX12_keep 5 = .ok (.aload_n 0, 1) := by decide +kernel
theorem dX12_keep_6 : decode cX12_keep 6 = .ok (.getfield 9, 3) := by decide +kernel
theorem dX12_keep_9 : decode cX12_keep 9 = .ok (.iconst 0, 1) := by decide +kernel
theorem dX12_keep_10 : decode cX12_keep 10 = .ok (.aload_n 0, 1) := by decide +kernel
theorem dX12_keep_11 : decode cX12_keep 11 = .ok (.getfield 13, 3) := by decide +kernel
theorem dX12_keep_14 : decode cX12_keep 14 = .ok (.iconst 0, 1) := by decide +kernel
theorem dX12_keep_15 : decode cX12_keep 15 = .ok (.sipush 158, 3) := by decide +kernel
theorem dX12_keep_18 : decode cX12_keep 18 = .ok (.invokestatic 42, 3) := by decide +kernel
theorem dX12_keep_21 : decode cX12_keep 21 = .ok (.return_, 1) := by decide +kernel
theorem dX12_ends_0 : decode cX12_ends 0 = .ok (.aload_n 0, 1) := by decide +kernel
theorem dX12_ends_1 : decode cX12_ends 1 = .ok (.getfield 39, 3) := by decide +kernel
theorem dX12_ends_4 : decode cX12_ends 4 = .ok (.ifCond .le 21, 3) := by decide +kernel
theorem dX12_ends_7 : decode cX12_ends 7 = .ok (.aload_n 0, 1) := by decide +kernel
theorem dX12_ends_8 : decode cX12_ends 8 = .ok (.getfield 13, 3) := by decide +kernel
theorem dX12_ends_11 : decode cX12_ends 11 = .ok (.iconst 0, 1) := by decide +kernel
theorem dX12_ends_12 : decode cX12_ends 12 = .ok (.aload_n 0, 1) := by decide +kernel
theorem dX12_ends_13 : decode cX12_ends 13 = .ok (.getfield 9, 3) := by decide +kernel
theorem dX12_ends_16 : decode cX12_ends 16 = .ok (.iconst 0, 1) := by decide +kernel
theorem dX12_ends_17 : decode cX12_ends 17 = .ok (.sipush 158, 3) := by decide +kernel
theorem dX12_ends_20 : decode cX12_ends 20 = .ok (.invokestatic 42, 3) := by decide +kernel
theorem dX12_ends_23 : decode cX12_ends 23 = .ok (.iconst 0, 1) := by decide +kernel
theorem dX12_ends_24 : decode cX12_ends 24 = .ok (.ireturn, 1) := by decide +kernel
theorem dX12_ends_25 : decode cX12_ends 25 = .ok (.aload_n 0, 1) := by decide +kernel
theorem dX12_ends_26 : decode cX12_ends 26 = .ok (.getfield 48, 3) := by decide +kernel
theorem dX12_ends_29 : decode cX12_ends 29 = .ok (.bipush 8, 2) := by decide +kernel
theorem dX12_ends_31 : decode cX12_ends 31 = .ok (.if_icmp .ne 31, 3) := by decide +kernel
theorem dX12_ends_34 : decode cX12_ends 34 = .ok (.aload_n 0, 1) := by decide +kernel
theorem dX12_ends_35 : decode cX12_ends 35 = .ok (.getfield 19, 3) := by decide +kernel
theorem dX12_ends_38 : decode cX12_ends 38 = .ok (.sipush 158, 3) := by decide +kernel
theorem dX12_ends_41 : decode cX12_ends 41 = .ok (.aload_n 0, 1) := by decide +kernel
theorem dX12_ends_42 : decode cX12_ends 42 = .ok (.getfield 19, 3) := by decide +kernel
theorem dX12_ends_45 : decode cX12_ends 45 = .ok (.iconst 0, 1) := by decide +kernel
theorem dX12_ends_46 : decode cX12_ends 46 = .ok (.sipush 1106, 3) := by decide +kernel
theorem dX12_ends_49 : decode cX12_ends 49 = .ok (.invokestatic 42, 3) := by decide +kernel
theorem dX12_ends_52 : decode cX12_ends 52 = .ok (.aload_n 0, 1) := by decide +kernel
theorem dX12_ends_53 : decode cX12_ends 53 = .ok (.dup, 1) := by decide +kernel
theorem dX12_ends_54 : decode cX12_ends 54 = .ok (.getfield 48, 3) := by decide +kernel
theorem dX12_ends_57 : decode cX12_ends 57 = .ok (.iconst 1, 1) := by decide +kernel
theorem dX12_ends_58 : decode cX12_ends 58 = .ok (.isub, 1) := by decide +kernel
theorem dX12_ends_59 : decode cX12_ends 59 = .ok (.putfield 48, 3) := by decide +kernel
theorem dX12_ends_62 : decode cX12_ends 62 = .ok (.aload_n 0, 1) := by decide +kernel
theorem dX12_ends_63 : decode cX12_ends 63 = .ok (.getfield 13, 3) := by decide +kernel
theorem dX12_ends_66 : decode cX12_ends 66 = .ok (.iconst 0, 1) := by decide +kernel
theorem dX12_ends_67 : decode cX12_ends 67 = .ok (.aload_n 0, 1) := by decide +kernel
theorem dX12_ends_68 : decode cX12_ends 68 = .ok (.getfield 19, 3) := by decide +kernel
theorem dX12_ends_71 : decode cX12_ends 71 = .ok (.sipush 158, 3) := by decide +kernel
theorem dX12_ends_74 : decode cX12_ends 74 = .ok (.aload_n 0, 1) := by decide +kernel
theorem dX12_ends_75 : decode cX12_ends 75 = .ok (.getfield 48, 3) := by decide +kernel
theorem dX12_ends_78 : decode cX12_ends 78 = .ok (.imul, 1) := by decide +kernel
theorem dX12_ends_79 : decode cX12_ends 79 = .ok (.sipush 158, 3) := by decide +kernel
theorem dX12_ends_82 : decode cX12_ends 82 = .ok (.invokestatic 42, 3) := by decide +kernel
theorem dX12_ends_85 : decode cX12_ends 85 = .ok (.aload_n 0, 1) := by decide +kernel
theorem dX12_ends_86 : decode cX12_ends 86 = .ok (.dup, 1) := by decide +kernel
theorem dX12_ends_87 : decode cX12_ends 87 = .ok (.getfield 48, 3) := by decide +kernel
theorem dX12_ends_90 : decode cX12_ends 90 = .ok (.iconst 1, 1) := by decide +kernel
theorem dX12_ends_91 : decode cX12_ends 91 = .ok (.iadd, 1) := by decide +kernel
theorem dX12_ends_92 : decode cX12_ends 92 = .ok (.putfield 48, 3) := by decide +kernel
theorem dX12_ends_95 : decode cX12_ends 95 = .ok (.iload_n 1, 1) := by decide +kernel
theorem dX12_ends_96 : decode cX12_ends 96 = .ok (.ireturn, 1) := by decide +kernel
theorem dX12_fails_0 : decode cX12_fails 0 = .ok (.aload_n 0, 1) := by decide +kernel
theorem dX12_fails_1 : decode cX12_fails 1 = .ok (.iload_n 1, 1) := by decide +kernel
theorem dX12_fails_2 : decode cX12_fails 2 = .ok (.putfield 39, 3) := by decide +kernel
theorem dX12_fails_5 : decode cX12_fails 5 = .ok (.iconst 0, 1) := by decide +kernel
theorem dX12_fails_6 : decode cX12_fails 6 = .ok (.ireturn, 1) := by decide +kernel
theorem dX12_isThere_0 : decode cX12_isThere 0 = .ok (.aload_n 0, 1) := by decide +kernel
theorem dX12_isThere_1 : decode cX12_isThere 1 = .ok (.iload_n 1, 1) := by decide +kernel
theorem dX12_isThere_2 : decode cX12_isThere 2 = .ok (.ifCond .eq 7, 3) := by decide +kernel
theorem dX12_isThere_5 : decode cX12_isThere 5 = .ok (.iconst 0, 1) := by decide +kernel
theorem dX12_isThere_6 : decode cX12_isThere 6 = .ok (.goto 4, 3) := by decide +kernel
theorem dX12_isThere_9 : decode cX12_isThere 9 = .ok (.iconst 1, 1) := by decide +kernel
theorem dX12_isThere_10 : decode cX12_isThere 10 = .ok (.putfield 39, 3) := by decide +kernel
theorem dX12_isThere_13 : decode cX12_isThere 13 = .ok (.iload_n 1, 1) := by decide +kernel
theorem dX12_isThere_14 : decode cX12_isThere 14 = .ok (.ireturn, 1) := by decide +kernel
theorem dX12_isSlide_0 : decode cX12_isSlide 0 = .ok (.iload_n 1, 1) := by decide +kernel
theorem dX12_isSlide_1 : decode cX12_isSlide 1 = .ok (.iconst 0, 1) := by decide +kernel
theorem dX12_isSlide_2 : decode cX12_isSlide 2 = .ok (.aload_n 0, 1) := by decide +kernel
theorem dX12_isSlide_3 : decode cX12_isSlide 3 = .ok (.getfield 9, 3) := by decide +kernel
theorem dX12_isSlide_6 : decode cX12_isSlide 6 = .ok (.iconst 0, 1) := by decide +kernel
theorem dX12_isSlide_7 : decode cX12_isSlide 7 = .ok (.iaload, 1) := by decide +kernel
theorem dX12_isSlide_8 : decode cX12_isSlide 8 = .ok (.iconst 1, 1) := by decide +kernel
theorem dX12_isSlide_9 : decode cX12_isSlide 9 = .ok (.isub, 1) := by decide +kernel
theorem dX12_isSlide_10 : decode cX12_isSlide 10 = .ok (.invokestatic 51, 3) := by decide +kernel
theorem dX12_isSlide_13 : decode cX12_isSlide 13 = .ok (.ireturn, 1) := by decide +kernel
theorem dX12_isGuest_0 : decode cX12_isGuest 0 = .ok (.iload_n 1, 1) := by decide +kernel
theorem dX12_isGuest_1 : decode cX12_isGuest 1 = .ok (.iconst 0, 1) := by decide +kernel
theorem dX12_isGuest_2 : decode cX12_isGuest 2 = .ok (.aload_n 0, 1) := by decide +kernel
theorem dX12_isGuest_3 : decode cX12_isGuest 3 = .ok (.getfield 9, 3) := by decide +kernel
theorem dX12_isGuest_6 : decode cX12_isGuest 6 = .ok (.iconst 1, 1) := by decide +kernel
theorem dX12_isGuest_7 : decode cX12_isGuest 7 = .ok (.iaload, 1) := by decide +kernel
theorem dX12_isGuest_8 : decode cX12_isGuest 8 = .ok (.iconst 1, 1) := by decide +kernel
theorem dX12_isGuest_9 : decode cX12_isGuest 9 = .ok (.isub, 1) := by decide +kernel
theorem dX12_isGuest_10 : decode cX12_isGuest 10 = .ok (.invokestatic 51, 3) := by decide +kernel
theorem dX12_isGuest_13 : decode cX12_isGuest 13 = .ok (.ireturn, 1) := by decide +kernel
theorem dX12_isBooking_0 : decode cX12_isBooking 0 = .ok (.iload_n 1, 1) := by decide +kernel
theorem dX12_isBooking_1 : decode cX12_isBooking 1 = .ok (.iconst 0, 1) := by decide +kernel
theorem dX12_isBooking_2 : decode cX12_isBooking 2 = .ok (.aload_n 0, 1) := by decide +kernel
theorem dX12_isBooking_3 : decode cX12_isBooking 3 = .ok (.getfield 9, 3) := by decide +kernel
theorem dX12_isBooking_6 : decode cX12_isBooking 6 = .ok (.iconst 2, 1) := by decide +kernel
theorem dX12_isBooking_7 : decode cX12_isBooking 7 = .ok (.iaload, 1) := by decide +kernel
theorem dX12_isBooking_8 : decode cX12_isBooking 8 = .ok (.iconst 1, 1) := by decide +kernel
theorem dX12_isBooking_9 : decode cX12_isBooking 9 = .ok (.isub, 1) := by decide +kernel
theorem dX12_isBooking_10 : decode cX12_isBooking 10 = .ok (.invokestatic 51, 3) := by decide +kernel
theorem dX12_isBooking_13 : decode cX12_isBooking 13 = .ok (.ireturn, 1) := by decide +kernel
theorem dX12_slide_0 : decode cX12_slide 0 = .ok (.aload_n 0, 1) := by decide +kernel
theorem dX12_slide_1 : decode cX12_slide 1 = .ok (.getfield 9, 3) := by decide +kernel
theorem dX12_slide_4 : decode cX12_slide 4 = .ok (.bipush 8, 2) := by decide +kernel
theorem dX12_slide_6 : decode cX12_slide 6 = .ok (.bipush 9, 2) := by decide +kernel
theorem dX12_slide_8 : decode cX12_slide 8 = .ok (.iload_n 1, 1) := by decide +kernel
theorem dX12_slide_9 : decode cX12_slide 9 = .ok (.imul, 1) := by decide +kernel
theorem dX12_slide_10 : decode cX12_slide 10 = .ok (.iadd, 1) := by decide +kernel
theorem dX12_slide_11 : decode cX12_slide 11 = .ok (.iload_n 2, 1) := by decide +kernel
theorem dX12_slide_12 : decode cX12_slide 12 = .ok (.iadd, 1) := by decide +kernel
theorem dX12_slide_13 : decode cX12_slide 13 = .ok (.iaload, 1) := by decide +kernel
theorem dX12_slide_14 : decode cX12_slide 14 = .ok (.ireturn, 1) := by decide +kernel
theorem dX12_wets_0 : decode cX12_wets 0 = .ok (.aload_n 0, 1) := by decide +kernel
theorem dX12_wets_1 : decode cX12_wets 1 = .ok (.getfield 9, 3) := by decide +kernel
theorem dX12_wets_4 : decode cX12_wets 4 = .ok (.bipush 8, 2) := by decide +kernel
theorem dX12_wets_6 : decode cX12_wets 6 = .ok (.bipush 9, 2) := by decide +kernel
theorem dX12_wets_8 : decode cX12_wets 8 = .ok (.iload_n 1, 1) := by decide +kernel
theorem dX12_wets_9 : decode cX12_wets 9 = .ok (.imul, 1) := by decide +kernel
theorem dX12_wets_10 : decode cX12_wets 10 = .ok (.iadd, 1) := by decide +kernel
theorem dX12_wets_11 : decode cX12_wets 11 = .ok (.iconst 2, 1) := by decide +kernel
theorem dX12_wets_12 : decode cX12_wets 12 = .ok (.iadd, 1) := by decide +kernel
theorem dX12_wets_13 : decode cX12_wets 13 = .ok (.iconst 0, 1) := by decide +kernel
theorem dX12_wets_14 : decode cX12_wets 14 = .ok (.bipush 9, 2) := by decide +kernel
theorem dX12_wets_16 : decode cX12_wets 16 = .ok (.iload_n 2, 1) := by decide +kernel
theorem dX12_wets_17 : decode cX12_wets 17 = .ok (.invokestatic 55, 3) := by decide +kernel
theorem dX12_wets_20 : decode cX12_wets 20 = .ok (.invokestatic 61, 3) := by decide +kernel
theorem dX12_wets_23 : decode cX12_wets 23 = .ok (.iastore, 1) := by decide +kernel
theorem dX12_wets_24 : decode cX12_wets 24 = .ok (.return_, 1) := by decide +kernel
theorem dX12_guest_0 : decode cX12_guest 0 = .ok (.aload_n 0, 1) := by decide +kernel
theorem dX12_guest_1 : decode cX12_guest 1 = .ok (.getfield 9, 3) := by decide +kernel
theorem dX12_guest_4 : decode cX12_guest 4 = .ok (.bipush 44, 2) := by decide +kernel
theorem dX12_guest_6 : decode cX12_guest 6 = .ok (.iconst 3, 1) := by decide +kernel
theorem dX12_guest_7 : decode cX12_guest 7 = .ok (.iload_n 1, 1) := by decide +kernel
theorem dX12_guest_8 : decode cX12_guest 8 = .ok (.imul, 1) := by decide +kernel
theorem dX12_guest_9 : decode cX12_guest 9 = .ok (.iadd, 1) := by decide +kernel
theorem dX12_guest_10 : decode cX12_guest 10 = .ok (.iload_n 2, 1) := by decide +kernel
theorem dX12_guest_11 : decode cX12_guest 11 = .ok (.iadd, 1) := by decide +kernel
theorem dX12_guest_12 : decode cX12_guest 12 = .ok (.iaload, 1) := by decide +kernel
theorem dX12_guest_13 : decode cX12_guest 13 = .ok (.ireturn, 1) := by decide +kernel
theorem dX12_booking_0 : decode cX12_booking 0 = .ok (.aload_n 0, 1) := by decide +kernel
theorem dX12_booking_1 : decode cX12_booking 1 = .ok (.getfield 9, 3) := by decide +kernel
theorem dX12_booking_4 : decode cX12_booking 4 = .ok (.bipush 74, 2) := by decide +kernel
theorem dX12_booking_6 : decode cX12_booking 6 = .ok (.iconst 3, 1) := by decide +kernel
theorem dX12_booking_7 : decode cX12_booking 7 = .ok (.iload_n 1, 1) := by decide +kernel
theorem dX12_booking_8 : decode cX12_booking 8 = .ok (.imul, 1) := by decide +kernel
theorem dX12_booking_9 : decode cX12_booking 9 = .ok (.iadd, 1) := by decide +kernel
theorem dX12_booking_10 : decode cX12_booking 10 = .ok (.iload_n 2, 1) := by decide +kernel
theorem dX12_booking_11 : decode cX12_booking 11 = .ok (.iadd, 1) := by decide +kernel
theorem dX12_booking_12 : decode cX12_booking 12 = .ok (.iaload, 1) := by decide +kernel
theorem dX12_booking_13 : decode cX12_booking 13 = .ok (.ireturn, 1) := by decide +kernel
theorem dX12_startOf_0 : decode cX12_startOf 0 = .ok (.aload_n 0, 1) := by decide +kernel
theorem dX12_startOf_1 : decode cX12_startOf 1 = .ok (.iload_n 1, 1) := by decide +kernel
theorem dX12_startOf_2 : decode cX12_startOf 2 = .ok (.iconst 2, 1) := by decide +kernel
theorem dX12_startOf_3 : decode cX12_startOf 3 = .ok (.invokevirtual 64, 3) := by decide +kernel
theorem dX12_startOf_6 : decode cX12_startOf 6 = .ok (.ireturn, 1) := by decide +kernel
theorem dX12_endOf_0 : decode cX12_endOf 0 = .ok (.aload_n 0, 1) := by decide +kernel
theorem dX12_endOf_1 : decode cX12_endOf 1 = .ok (.iload_n 1, 1) := by decide +kernel
theorem dX12_endOf_2 : decode cX12_endOf 2 = .ok (.invokevirtual 67, 3) := by decide +kernel
theorem dX12_endOf_5 : decode cX12_endOf 5 = .ok (.aload_n 0, 1) := by decide +kernel
theorem dX12_endOf_6 : decode cX12_endOf 6 = .ok (.aload_n 0, 1) := by decide +kernel
theorem dX12_endOf_7 : decode cX12_endOf 7 = .ok (.iload_n 1, 1) := by decide +kernel
theorem dX12_endOf_8 : decode cX12_endOf 8 = .ok (.iconst 1, 1) := by decide +kernel
theorem dX12_endOf_9 : decode cX12_endOf 9 = .ok (.invokevirtual 64, 3) := by decide +kernel
theorem dX12_endOf_12 : decode cX12_endOf 12 = .ok (.iconst 0, 1) := by decide +kernel
theorem dX12_endOf_13 : decode cX12_endOf 13 = .ok (.invokevirtual 71, 3) := by decide +kernel
theorem dX12_endOf_16 : decode cX12_endOf 16 = .ok (.iadd, 1) := by decide +kernel
theorem dX12_endOf_17 : decode cX12_endOf 17 = .ok (.ireturn, 1) := by decide +kernel
theorem dX12_isStart_0 : decode cX12_isStart 0 = .ok (.iload_n 1, 1) := by decide +kernel
theorem dX12_isStart_1 : decode cX12_isStart 1 = .ok (.aload_n 0, 1) := by decide +kernel
theorem dX12_isStart_2 : decode cX12_isStart 2 = .ok (.getfield 9, 3) := by decide +kernel
theorem dX12_isStart_5 : decode cX12_isStart 5 = .ok (.iconst 3, 1) := by decide +kernel
theorem dX12_isStart_6 : decode cX12_isStart 6 = .ok (.iaload, 1) := by decide +kernel
theorem dX12_isStart_7 : decode cX12_isStart 7 = .ok (.aload_n 0, 1) := by decide +kernel
theorem dX12_isStart_8 : decode cX12_isStart 8 = .ok (.getfield 9, 3) := by decide +kernel
theorem dX12_isStart_11 : decode cX12_isStart 11 = .ok (.iconst 3, 1) := by decide +kernel
theorem dX12_isStart_12 : decode cX12_isStart 12 = .ok (.iaload, 1) := by decide +kernel
theorem dX12_isStart_13 : decode cX12_isStart 13 = .ok (.bipush 120, 2) := by decide +kernel
theorem dX12_isStart_15 : decode cX12_isStart 15 = .ok (.iadd, 1) := by decide +kernel
theorem dX12_isStart_16 : decode cX12_isStart 16 = .ok (.invokestatic 51, 3) := by decide +kernel
theorem dX12_isStart_19 : decode cX12_isStart 19 = .ok (.ireturn, 1) := by decide +kernel
theorem dX12_pays_0 : decode cX12_pays 0 = .ok (.aload_n 0, 1) := by decide +kernel
theorem dX12_pays_1 : decode cX12_pays 1 = .ok (.getfield 9, 3) := by decide +kernel
theorem dX12_pays_4 : decode cX12_pays 4 = .ok (.bipush 44, 2) := by decide +kernel
theorem dX12_pays_6 : decode cX12_pays 6 = .ok (.iconst 3, 1) := by decide +kernel
theorem dX12_pays_7 : decode cX12_pays 7 = .ok (.iload_n 1, 1) := by decide +kernel
theorem dX12_pays_8 : decode cX12_pays 8 = .ok (.imul, 1) := by decide +kernel
theorem dX12_pays_9 : decode cX12_pays 9 = .ok (.iadd, 1) := by decide +kernel
theorem dX12_pays_10 : decode cX12_pays 10 = .ok (.dup2, 1) := by decide +kernel
theorem dX12_pays_11 : decode cX12_pays 11 = .ok (.iaload, 1) := by decide +kernel
theorem dX12_pays_12 : decode cX12_pays 12 = .ok (.iload_n 2, 1) := by decide +kernel
theorem dX12_pays_13 : decode cX12_pays 13 = .ok (.isub, 1) := by decide +kernel
theorem dX12_pays_14 : decode cX12_pays 14 = .ok (.iastore, 1) := by decide +kernel
theorem dX12_pays_15 : decode cX12_pays 15 = .ok (.aload_n 0, 1) := by decide +kernel
theorem dX12_pays_16 : decode cX12_pays 16 = .ok (.getfield 9, 3) := by decide +kernel
theorem dX12_pays_19 : decode cX12_pays 19 = .ok (.bipush 7, 2) := by decide +kernel
theorem dX12_pays_21 : decode cX12_pays 21 = .ok (.dup2, 1) := by decide +kernel
theorem dX12_pays_22 : decode cX12_pays 22 = .ok (.iaload, 1) := by decide +kernel
theorem dX12_pays_23 : decode cX12_pays 23 = .ok (.iload_n 2, 1) := by decide +kernel
theorem dX12_pays_24 : decode cX12_pays 24 = .ok (.iadd, 1) := by decide +kernel
theorem dX12_pays_25 : decode cX12_pays 25 = .ok (.iastore, 1) := by decide +kernel
theorem dX12_pays_26 : decode cX12_pays 26 = .ok (.return_, 1) := by decide +kernel
theorem dX12_doBuildSlide_0 : decode cX12_doBuildSlide 0 = .ok (.aload_n 0, 1) := by decide +kernel
theorem dX12_doBuildSlide_1 : decode cX12_doBuildSlide 1 = .ok (.getfield 9, 3) := by decide +kernel
theorem dX12_doBuildSlide_4 : decode cX12_doBuildSlide 4 = .ok (.iconst 0, 1) := by decide +kernel
theorem dX12_doBuildSlide_5 : decode cX12_doBuildSlide 5 = .ok (.iaload, 1) := by decide +kernel
theorem dX12_doBuildSlide_6 : decode cX12_doBuildSlide 6 = .ok (.istore_n 3, 1) := by decide +kernel
theorem dX12_doBuildSlide_7 : decode cX12_doBuildSlide 7 = .ok (.iload_n 1, 1) := by decide +kernel
theorem dX12_doBuildSlide_8 : decode cX12_doBuildSlide 8 = .ok (.iconst 1, 1) := by decide +kernel
theorem dX12_doBuildSlide_9 : decode cX12_doBuildSlide 9 = .ok (.bipush 9, 2) := by decide +kernel
theorem dX12_doBuildSlide_11 : decode cX12_doBuildSlide 11 = .ok (.invokestatic 51, 3) := by decide +kernel
theorem dX12_doBuildSlide_14 : decode cX12_doBuildSlide 14 = .ok (.ifCond .eq 13, 3) := by decide +kernel
theorem dX12_doBuildSlide_17 : decode cX12_doBuildSlide 17 = .ok (.iload_n 2, 1) := by decide +kernel
theorem dX12_doBuildSlide_18 : decode cX12_doBuildSlide 18 = .ok (.iconst 1, 1) := by decide +kernel
theorem dX12_doBuildSlide_19 : decode cX12_doBuildSlide 19 = .ok (.bipush 9, 2) := by decide +kernel
theorem dX12_doBuildSlide_21 : decode cX12_doBuildSlide 21 = .ok (.invokestatic 51, 3) := by decide +kernel
theorem dX12_doBuildSlide_24 : decode cX12_doBuildSlide 24 = .ok (.ifCond .ne 9, 3) := by decide +kernel
theorem dX12_doBuildSlide_27 : decode cX12_doBuildSlide 27 = .ok (.aload_n 0, 1) := by decide +kernel
theorem dX12_doBuildSlide_28 : decode cX12_doBuildSlide 28 = .ok (.iconst 1, 1) := by decide +kernel
theorem dX12_doBuildSlide_29 : decode cX12_doBuildSlide 29 = .ok (.invokevirtual 74, 3) := by decide +kernel
theorem dX12_doBuildSlide_32 : decode cX12_doBuildSlide 32 = .ok (.ireturn, 1) := by decide +kernel
theorem dX12_doBuildSlide_33 : decode cX12_doBuildSlide 33 = .ok (.iload_n 3, 1) := by decide +kernel
theorem dX12_doBuildSlide_34 : decode cX12_doBuildSlide 34 = .ok (.iconst 4, 1) := by decide +kernel
theorem dX12_doBuildSlide_35 : decode cX12_doBuildSlide 35 = .ok (.if_icmp .ne 9, 3) := by decide +kernel
theorem dX12_doBuildSlide_38 : decode cX12_doBuildSlide 38 = .ok (.aload_n 0, 1) := by decide +kernel
theorem dX12_doBuildSlide_39 : decode cX12_doBuildSlide 39 = .ok (.iconst 2, 1) := by decide +kernel
theorem dX12_doBuildSlide_40 : decode cX12_doBuildSlide 40 = .ok (.invokevirtual 74, 3) := by decide +kernel
theorem dX12_doBuildSlide_43 : decode cX12_doBuildSlide 43 = .ok (.ireturn, 1) := by decide +kernel
theorem dX12_doBuildSlide_44 : decode cX12_doBuildSlide 44 = .ok (.iconst 0, 1) := by decide +kernel
theorem dX12_doBuildSlide_45 : decode cX12_doBuildSlide 45 = .ok (.istore 4, 2) := by decide +kernel
theorem dX12_doBuildSlide_47 : decode cX12_doBuildSlide 47 = .ok (.iload 4, 2) := by decide +kernel
theorem dX12_doBuildSlide_49 : decode cX12_doBuildSlide 49 = .ok (.bipush 9, 2) := by decide +kernel
theorem dX12_doBuildSlide_51 : decode cX12_doBuildSlide 51 = .ok (.if_icmp .ge 25, 3) := by decide +kernel
theorem dX12_doBuildSlide_54 : decode cX12_doBuildSlide 54 = .ok (.aload_n 0, 1) := by decide +kernel
theorem dX12_doBuildSlide_55 : decode cX12_doBuildSlide 55 = .ok (.getfield 9, 3) := by decide +kernel
theorem dX12_doBuildSlide_58 : decode cX12_doBuildSlide 58 = .ok (.bipush 8, 2) := by decide +kernel
theorem dX12_doBuildSlide_60 : decode cX12_doBuildSlide 60 = .ok (.bipush 9, 2) := by decide +kernel
theorem dX12_doBuildSlide_62 : decode cX12_doBuildSlide 62 = .ok (.iload_n 3, 1) := by decide +kernel
theorem dX12_doBuildSlide_63 : decode cX12_doBuildSlide 63 = .ok (.imul, 1) := by decide +kernel
theorem dX12_doBuildSlide_64 : decode cX12_doBuildSlide 64 = .ok (.iadd, 1) := by decide +kernel
theorem dX12_doBuildSlide_65 : decode cX12_doBuildSlide 65 = .ok (.iload 4, 2) := by decide +kernel
theorem dX12_doBuildSlide_67 : decode cX12_doBuildSlide 67 = .ok (.iadd, 1) := by decide +kernel
theorem dX12_doBuildSlide_68 : decode cX12_doBuildSlide 68 = .ok (.iconst 0, 1) := by decide +kernel
theorem dX12_doBuildSlide_69 : decode cX12_doBuildSlide 69 = .ok (.iastore, 1) := by decide +kernel
theorem dX12_doBuildSlide_70 : decode cX12_doBuildSlide 70 = .ok (.iinc 4 1, 3) := by decide +kernel
theorem dX12_doBuildSlide_73 : decode cX12_doBuildSlide 73 = .ok (.goto (-26), 3) := by decide +kernel
theorem dX12_doBuildSlide_76 : decode cX12_doBuildSlide 76 = .ok (.aload_n 0, 1) := by decide +kernel
theorem dX12_doBuildSlide_77 : decode cX12_doBuildSlide 77 = .ok (.getfield 9, 3) := by decide +kernel
theorem dX12_doBuildSlide_80 : decode cX12_doBuildSlide 80 = .ok (.bipush 8, 2) := by decide +kernel
theorem dX12_doBuildSlide_82 : decode cX12_doBuildSlide 82 = .ok (.bipush 9, 2) := by decide +kernel
theorem dX12_doBuildSlide_84 : decode cX12_doBuildSlide 84 = .ok (.iload_n 3, 1) := by decide +kernel
theorem dX12_doBuildSlide_85 : decode cX12_doBuildSlide 85 = .ok (.imul, 1) := by decide +kernel
theorem dX12_doBuildSlide_86 : decode cX12_doBuildSlide 86 = .ok (.iadd, 1) := by decide +kernel
theorem dX12_doBuildSlide_87 : decode cX12_doBuildSlide 87 = .ok (.iload_n 1, 1) := by decide +kernel
theorem dX12_doBuildSlide_88 : decode cX12_doBuildSlide 88 = .ok (.iastore, 1) := by decide +kernel
theorem dX12_doBuildSlide_89 : decode cX12_doBuildSlide 89 = .ok (.aload_n 0, 1) := by decide +kernel
theorem dX12_doBuildSlide_90 : decode cX12_doBuildSlide 90 = .ok (.getfield 9, 3) := by decide +kernel
theorem dX12_doBuildSlide_93 : decode cX12_doBuildSlide 93 = .ok (.bipush 8, 2) := by decide +kernel
theorem dX12_doBuildSlide_95 : decode cX12_doBuildSlide 95 = .ok (.bipush 9, 2) := by decide +kernel
theorem dX12_doBuildSlide_97 : decode cX12_doBuildSlide 97 = .ok (.iload_n 3, 1) := by decide +kernel
theorem dX12_doBuildSlide_98 : decode cX12_doBuildSlide 98 = .ok (.imul, 1) := by decide +kernel
theorem dX12_doBuildSlide_99 : decode cX12_doBuildSlide 99 = .ok (.iadd, 1) := by decide +kernel
theorem dX12_doBuildSlide_100 : decode cX12_doBuildSlide 100 = .ok (.iconst 1, 1) := by decide +kernel
theorem dX12_doBuildSlide_101 : decode cX12_doBuildSlide 101 = .ok (.iadd, 1) := by decide +kernel
theorem dX12_doBuildSlide_102 : decode cX12_doBuildSlide 102 = .ok (.iload_n 2, 1) := by decide +kernel
theorem dX12_doBuildSlide_103 : decode cX12_doBuildSlide 103 = .ok (.iastore, 1) := by decide +kernel
theorem dX12_doBuildSlide_104 : decode cX12_doBuildSlide 104 = .ok (.aload_n 0, 1) := by decide +kernel
theorem dX12_doBuildSlide_105 : decode cX12_doBuildSlide 105 = .ok (.getfield 9, 3) := by decide +kernel
theorem dX12_doBuildSlide_108 : decode cX12_doBuildSlide 108 = .ok (.iconst 0, 1) := by decide +kernel
theorem dX12_doBuildSlide_109 : decode cX12_doBuildSlide 109 = .ok (.dup2, 1) := by decide +kernel
theorem dX12_doBuildSlide_110 : decode cX12_doBuildSlide 110 = .ok (.iaload, 1) := by decide +kernel
theorem dX12_doBuildSlide_111 : decode cX12_doBuildSlide 111 = .ok (.iconst 1, 1) := by decide +kernel
theorem dX12_doBuildSlide_112 : decode cX12_doBuildSlide 112 = .ok (.iadd, 1) := by decide +kernel
theorem dX12_doBuildSlide_113 : decode cX12_doBuildSlide 113 = .ok (.iastore, 1) := by decide +kernel
theorem dX12_doBuildSlide_114 : decode cX12_doBuildSlide 114 = .ok (.iload_n 3, 1) := by decide +kernel
theorem dX12_doBuildSlide_115 : decode cX12_doBuildSlide 115 = .ok (.ireturn, 1) := by decide +kernel
theorem dX12_buildSlide_0 : decode cX12_buildSlide 0 = .ok (.aload_n 0, 1) := by decide +kernel
theorem dX12_buildSlide_1 : decode cX12_buildSlide 1 = .ok (.invokevirtual 77, 3) := by decide +kernel
theorem dX12_buildSlide_4 : decode cX12_buildSlide 4 = .ok (.aload_n 0, 1) := by decide +kernel
theorem dX12_buildSlide_5 : decode cX12_buildSlide 5 = .ok (.aload_n 0, 1) := by decide +kernel
theorem dX12_buildSlide_6 : decode cX12_buildSlide 6 = .ok (.iload_n 1, 1) := by decide +kernel
theorem dX12_buildSlide_7 : decode cX12_buildSlide 7 = .ok (.iload_n 2, 1) := by decide +kernel
theorem dX12_buildSlide_8 : decode cX12_buildSlide 8 = .ok (.invokevirtual 80, 3) := by decide +kernel
theorem dX12_buildSlide_11 : decode cX12_buildSlide 11 = .ok (.invokevirtual 83, 3) := by decide +kernel
theorem dX12_buildSlide_14 : decode cX12_buildSlide 14 = .ok (.ireturn, 1) := by decide +kernel
theorem dX12_doAddGuest_0 : decode cX12_doAddGuest 0 = .ok (.aload_n 0, 1) := by decide +kernel
theorem dX12_doAddGuest_1 : decode cX12_doAddGuest 1 = .ok (.getfield 9, 3) := by decide +kernel
theorem dX12_doAddGuest_4 : decode cX12_doAddGuest 4 = .ok (.iconst 1, 1) := by decide +kernel
theorem dX12_doAddGuest_5 : decode cX12_doAddGuest 5 = .ok (.iaload, 1) := by decide +kernel
theorem dX12_doAddGuest_6 : decode cX12_doAddGuest 6 = .ok (.istore_n 1, 1) := by decide +kernel
theorem dX12_doAddGuest_7 : decode cX12_doAddGuest 7 = .ok (.iload_n 1, 1) := by decide +kernel
theorem dX12_doAddGuest_8 : decode cX12_doAddGuest 8 = .ok (.bipush 10, 2) := by decide +kernel
theorem dX12_doAddGuest_10 : decode cX12_doAddGuest 10 = .ok (.if_icmp .ne 9, 3) := by decide +kernel
theorem dX12_doAddGuest_13 : decode cX12_doAddGuest 13 = .ok (.aload_n 0, 1) := by decide +kernel
theorem dX12_doAddGuest_14 : decode cX12_doAddGuest 14 = .ok (.iconst 1, 1) := by decide +kernel
theorem dX12_doAddGuest_15 : decode cX12_doAddGuest 15 = .ok (.invokevirtual 74, 3) := by decide +kernel
theorem dX12_doAddGuest_18 : decode cX12_doAddGuest 18 = .ok (.ireturn, 1) := by decide +kernel
theorem dX12_doAddGuest_19 : decode cX12_doAddGuest 19 = .ok (.aload_n 0, 1) := by decide +kernel
theorem dX12_doAddGuest_20 : decode cX12_doAddGuest 20 = .ok (.getfield 9, 3) := by decide +kernel
theorem dX12_doAddGuest_23 : decode cX12_doAddGuest 23 = .ok (.bipush 44, 2) := by decide +kernel
theorem dX12_doAddGuest_25 : decode cX12_doAddGuest 25 = .ok (.iconst 3, 1) := by decide +kernel
theorem dX12_doAddGuest_26 : decode cX12_doAddGuest 26 = .ok (.iload_n 1, 1) := by decide +kernel
theorem dX12_doAddGuest_27 : decode cX12_doAddGuest 27 = .ok (.imul, 1) := by decide +kernel
theorem dX12_doAddGuest_28 : decode cX12_doAddGuest 28 = .ok (.iadd, 1) := by decide +kernel
theorem dX12_doAddGuest_29 : decode cX12_doAddGuest 29 = .ok (.bipush 50, 2) := by decide +kernel
theorem dX12_doAddGuest_31 : decode cX12_doAddGuest 31 = .ok (.iastore, 1) := by decide +kernel
theorem dX12_doAddGuest_32 : decode cX12_doAddGuest 32 = .ok (.aload_n 0, 1) := by decide +kernel
theorem dX12_doAddGuest_33 : decode cX12_doAddGuest 33 = .ok (.getfield 9, 3) := by decide +kernel
theorem dX12_doAddGuest_36 : decode cX12_doAddGuest 36 = .ok (.bipush 44, 2) := by decide +kernel
theorem dX12_doAddGuest_38 : decode cX12_doAddGuest 38 = .ok (.iconst 3, 1) := by decide +kernel
theorem dX12_doAddGuest_39 : decode cX12_doAddGuest 39 = .ok (.iload_n 1, 1) := by decide +kernel
theorem dX12_doAddGuest_40 : decode cX12_doAddGuest 40 = .ok (.imul, 1) := by decide +kernel
theorem dX12_doAddGuest_41 : decode cX12_doAddGuest 41 = .ok (.iadd, 1) := by decide +kernel
theorem dX12_doAddGuest_42 : decode cX12_doAddGuest 42 = .ok (.iconst 1, 1) := by decide +kernel
theorem dX12_doAddGuest_43 : decode cX12_doAddGuest 43 = .ok (.iadd, 1) := by decide +kernel
theorem dX12_doAddGuest_44 : decode cX12_doAddGuest 44 = .ok (.iconst 0, 1) := by decide +kernel
theorem dX12_doAddGuest_45 : decode cX12_doAddGuest 45 = .ok (.iastore, 1) := by decide +kernel
theorem dX12_doAddGuest_46 : decode cX12_doAddGuest 46 = .ok (.aload_n 0, 1) := by decide +kernel
theorem dX12_doAddGuest_47 : decode cX12_doAddGuest 47 = .ok (.getfield 9, 3) := by decide +kernel
theorem dX12_doAddGuest_50 : decode cX12_doAddGuest 50 = .ok (.bipush 44, 2) := by decide +kernel
theorem dX12_doAddGuest_52 : decode cX12_doAddGuest 52 = .ok (.iconst 3, 1) := by decide +kernel
theorem dX12_doAddGuest_53 : decode cX12_doAddGuest 53 = .ok (.iload_n 1, 1) := by decide +kernel
theorem dX12_doAddGuest_54 : decode cX12_doAddGuest 54 = .ok (.imul, 1) := by decide +kernel
theorem dX12_doAddGuest_55 : decode cX12_doAddGuest 55 = .ok (.iadd, 1) := by decide +kernel
theorem dX12_doAddGuest_56 : decode cX12_doAddGuest 56 = .ok (.iconst 2, 1) := by decide +kernel
theorem dX12_doAddGuest_57 : decode cX12_doAddGuest 57 = .ok (.iadd, 1) := by decide +kernel
theorem dX12_doAddGuest_58 : decode cX12_doAddGuest 58 = .ok (.iconst 0, 1) := by decide +kernel
theorem dX12_doAddGuest_59 : decode cX12_doAddGuest 59 = .ok (.iastore, 1) := by decide +kernel
theorem dX12_doAddGuest_60 : decode cX12_doAddGuest 60 = .ok (.aload_n 0, 1) := by decide +kernel
theorem dX12_doAddGuest_61 : decode cX12_doAddGuest 61 = .ok (.getfield 9, 3) := by decide +kernel
theorem dX12_doAddGuest_64 : decode cX12_doAddGuest 64 = .ok (.iconst 1, 1) := by decide +kernel
theorem dX12_doAddGuest_65 : decode cX12_doAddGuest 65 = .ok (.dup2, 1) := by decide +kernel
theorem dX12_doAddGuest_66 : decode cX12_doAddGuest 66 = .ok (.iaload, 1) := by decide +kernel
theorem dX12_doAddGuest_67 : decode cX12_doAddGuest 67 = .ok (.iconst 1, 1) := by decide +kernel
theorem dX12_doAddGuest_68 : decode cX12_doAddGuest 68 = .ok (.iadd, 1) := by decide +kernel
theorem dX12_doAddGuest_69 : decode cX12_doAddGuest 69 = .ok (.iastore, 1) := by decide +kernel
theorem dX12_doAddGuest_70 : decode cX12_doAddGuest 70 = .ok (.iload_n 1, 1) := by decide +kernel
theorem dX12_doAddGuest_71 : decode cX12_doAddGuest 71 = .ok (.ireturn, 1) := by decide +kernel
theorem dX12_addGuest_0 : decode cX12_addGuest 0 = .ok (.aload_n 0, 1) := by decide +kernel
theorem dX12_addGuest_1 : decode cX12_addGuest 1 = .ok (.invokevirtual 77, 3) := by decide +kernel
theorem dX12_addGuest_4 : decode cX12_addGuest 4 = .ok (.aload_n 0, 1) := by decide +kernel
theorem dX12_addGuest_5 : decode cX12_addGuest 5 = .ok (.aload_n 0, 1) := by decide +kernel
theorem dX12_addGuest_6 : decode cX12_addGuest 6 = .ok (.invokevirtual 86, 3) := by decide +kernel
theorem dX12_addGuest_9 : decode cX12_addGuest 9 = .ok (.invokevirtual 83, 3) := by decide +kernel
theorem dX12_addGuest_12 : decode cX12_addGuest 12 = .ok (.ireturn, 1) := by decide +kernel
theorem dX12_clashes_0 : decode cX12_clashes 0 = .ok (.iconst 0, 1) := by decide +kernel
theorem dX12_clashes_1 : decode cX12_clashes 1 = .ok (.istore 4, 2) := by decide +kernel
theorem dX12_clashes_3 : decode cX12_clashes 3 = .ok (.iload_n 3, 1) := by decide +kernel
theorem dX12_clashes_4 : decode cX12_clashes 4 = .ok (.aload_n 0, 1) := by decide +kernel
theorem dX12_clashes_5 : decode cX12_clashes 5 = .ok (.iload_n 2, 1) := by decide +kernel
theorem dX12_clashes_6 : decode cX12_clashes 6 = .ok (.iconst 0, 1) := by decide +kernel
theorem dX12_clashes_7 : decode cX12_clashes 7 = .ok (.invokevirtual 71, 3) := by decide +kernel
theorem dX12_clashes_10 : decode cX12_clashes 10 = .ok (.iadd, 1) := by decide +kernel
theorem dX12_clashes_11 : decode cX12_clashes 11 = .ok (.istore 5, 2) := by decide +kernel
theorem dX12_clashes_13 : decode cX12_clashes 13 = .ok (.iconst 0, 1) := by decide +kernel
theorem dX12_clashes_14 : decode cX12_clashes 14 = .ok (.istore 6, 2) := by decide +kernel
theorem dX12_clashes_16 : decode cX12_clashes 16 = .ok (.iload 6, 2) := by decide +kernel
theorem dX12_clashes_18 : decode cX12_clashes 18 = .ok (.aload_n 0, 1) := by decide +kernel
theorem dX12_clashes_19 : decode cX12_clashes 19 = .ok (.getfield 9, 3) := by decide +kernel
theorem dX12_clashes_22 : decode cX12_clashes 22 = .ok (.iconst 2, 1) := by decide +kernel
theorem dX12_clashes_23 : decode cX12_clashes 23 = .ok (.iaload, 1) := by decide +kernel
theorem dX12_clashes_24 : decode cX12_clashes 24 = .ok (.if_icmp .ge 76, 3) := by decide +kernel
theorem dX12_clashes_27 : decode cX12_clashes 27 = .ok (.aload_n 0, 1) := by decide +kernel
theorem dX12_clashes_28 : decode cX12_clashes 28 = .ok (.iload 6, 2) := by decide +kernel
theorem dX12_clashes_30 : decode cX12_clashes 30 = .ok (.iconst 1, 1) := by decide +kernel
theorem dX12_clashes_31 : decode cX12_clashes 31 = .ok (.invokevirtual 64, 3) := by decide +kernel
theorem dX12_clashes_34 : decode cX12_clashes 34 = .ok (.iload_n 2, 1) := by decide +kernel
theorem dX12_clashes_35 : decode cX12_clashes 35 = .ok (.if_icmp .eq 14, 3) := by decide +kernel
theorem dX12_clashes_38 : decode cX12_clashes 38 = .ok (.aload_n 0, 1) := by decide +kernel
theorem dX12_clashes_39 : decode cX12_clashes 39 = .ok (.iload 6, 2) := by decide +kernel
theorem dX12_clashes_41 : decode cX12_clashes 41 = .ok (.iconst 0, 1) := by decide +kernel
theorem dX12_clashes_42 : decode cX12_clashes 42 = .ok (.invokevirtual 64, 3) := by decide +kernel
theorem dX12_clashes_45 : decode cX12_clashes 45 = .ok (.iload_n 1, 1) := by decide +kernel
theorem dX12_clashes_46 : decode cX12_clashes 46 = .ok (.if_icmp .ne 7, 3) := by decide +kernel
theorem dX12_clashes_49 : decode cX12_clashes 49 = .ok (.iconst 1, 1) := by decide +kernel
theorem dX12_clashes_50 : decode cX12_clashes 50 = .ok (.goto 4, 3) := by decide +kernel
theorem dX12_clashes_53 : decode cX12_clashes 53 = .ok (.iconst 0, 1) := by decide +kernel
theorem dX12_clashes_54 : decode cX12_clashes 54 = .ok (.istore 7, 2) := by decide +kernel
theorem dX12_clashes_56 : decode cX12_clashes 56 = .ok (.iload 4, 2) := by decide +kernel
theorem dX12_clashes_58 : decode cX12_clashes 58 = .ok (.ifCond .ne 29, 3) := by decide +kernel
theorem dX12_clashes_61 : decode cX12_clashes 61 = .ok (.iload 7, 2) := by decide +kernel
theorem dX12_clashes_63 : decode cX12_clashes 63 = .ok (.ifCond .eq 28, 3) := by decide +kernel
theorem dX12_clashes_66 : decode cX12_clashes 66 = .ok (.aload_n 0, 1) := by decide +kernel
theorem dX12_clashes_67 : decode cX12_clashes 67 = .ok (.iload 6, 2) := by decide +kernel
theorem dX12_clashes_69 : decode cX12_clashes 69 = .ok (.invokevirtual 67, 3) := by decide +kernel
theorem dX12_clashes_72 : decode cX12_clashes 72 = .ok (.iload 5, 2) := by decide +kernel
theorem dX12_clashes_74 : decode cX12_clashes 74 = .ok (.if_icmp .ge 17, 3) := by decide +kernel
theorem dX12_clashes_77 : decode cX12_clashes 77 = .ok (.iload_n 3, 1) := by decide +kernel
theorem dX12_clashes_78 : decode cX12_clashes 78 = .ok (.aload_n 0, 1) := by decide +kernel
theorem dX12_clashes_79 : decode cX12_clashes 79 = .ok (.iload 6, 2) := by decide +kernel
theorem dX12_clashes_81 : decode cX12_clashes 81 = .ok (.invokevirtual 90, 3) := by decide +kernel
theorem dX12_clashes_84 : decode cX12_clashes 84 = .ok (.if_icmp .ge 7, 3) := by decide +kernel
theorem dX12_clashes_87 : decode cX12_clashes 87 = .ok (.iconst 1, 1) := by decide +kernel
theorem dX12_clashes_88 : decode cX12_clashes 88 = .ok (.goto 4, 3) := by decide +kernel
theorem dX12_clashes_91 : decode cX12_clashes 91 = .ok (.iconst 0, 1) := by decide +kernel
theorem dX12_clashes_92 : decode cX12_clashes 92 = .ok (.istore 4, 2) := by decide +kernel
theorem dX12_clashes_94 : decode cX12_clashes 94 = .ok (.iinc 6 1, 3) := by decide +kernel
theorem dX12_clashes_97 : decode cX12_clashes 97 = .ok (.goto (-81), 3) := by decide +kernel
theorem dX12_clashes_100 : decode cX12_clashes 100 = .ok (.iload 4, 2) := by decide +kernel
theorem dX12_clashes_102 : decode cX12_clashes 102 = .ok (.ireturn, 1) := by decide +kernel
theorem dX12_makes_0 : decode cX12_makes 0 = .ok (.aload_n 0, 1) := by decide +kernel
theorem dX12_makes_1 : decode cX12_makes 1 = .ok (.getfield 9, 3) := by decide +kernel
theorem dX12_makes_4 : decode cX12_makes 4 = .ok (.iconst 2, 1) := by decide +kernel
theorem dX12_makes_5 : decode cX12_makes 5 = .ok (.iaload, 1) := by decide +kernel
theorem dX12_makes_6 : decode cX12_makes 6 = .ok (.istore 4, 2) := by decide +kernel
theorem dX12_makes_8 : decode cX12_makes 8 = .ok (.aload_n 0, 1) := by decide +kernel
theorem dX12_makes_9 : decode cX12_makes 9 = .ok (.iload_n 1, 1) := by decide +kernel
theorem dX12_makes_10 : decode cX12_makes 10 = .ok (.aload_n 0, 1) := by decide +kernel
theorem dX12_makes_11 : decode cX12_makes 11 = .ok (.iload_n 2, 1) := by decide +kernel
theorem dX12_makes_12 : decode cX12_makes 12 = .ok (.iconst 1, 1) := by decide +kernel
theorem dX12_makes_13 : decode cX12_makes 13 = .ok (.invokevirtual 71, 3) := by decide +kernel
theorem dX12_makes_16 : decode cX12_makes 16 = .ok (.invokevirtual 93, 3) := by decide +kernel
theorem dX12_makes_19 : decode cX12_makes 19 = .ok (.aload_n 0, 1) := by decide +kernel
theorem dX12_makes_20 : decode cX12_makes 20 = .ok (.getfield 9, 3) := by decide +kernel
theorem dX12_makes_23 : decode cX12_makes 23 = .ok (.bipush 74, 2) := by decide +kernel
theorem dX12_makes_25 : decode cX12_makes 25 = .ok (.iconst 3, 1) := by decide +kernel
theorem dX12_makes_26 : decode cX12_makes 26 = .ok (.iload 4, 2) := by decide +kernel
theorem dX12_makes_28 : decode cX12_makes 28 = .ok (.imul, 1) := by decide +kernel
theorem dX12_makes_29 : decode cX12_makes 29 = .ok (.iadd, 1) := by decide +kernel
theorem dX12_makes_30 : decode cX12_makes 30 = .ok (.iload_n 1, 1) := by decide +kernel
theorem dX12_makes_31 : decode cX12_makes 31 = .ok (.iastore, 1) := by decide +kernel
theorem dX12_makes_32 : decode cX12_makes 32 = .ok (.aload_n 0, 1) := by decide +kernel
theorem dX12_makes_33 : decode cX12_makes 33 = .ok (.getfield 9, 3) := by decide +kernel
theorem dX12_makes_36 : decode cX12_makes 36 = .ok (.bipush 74, 2) := by decide +kernel
theorem dX12_makes_38 : decode cX12_makes 38 = .ok (.iconst 3, 1) := by decide +kernel
theorem dX12_makes_39 : decode cX12_makes 39 = .ok (.iload 4, 2) := by decide +kernel
theorem dX12_makes_41 : decode cX12_makes 41 = .ok (.imul, 1) := by decide +kernel
theorem dX12_makes_42 : decode cX12_makes 42 = .ok (.iadd, 1) := by decide +kernel
theorem dX12_makes_43 : decode cX12_makes 43 = .ok (.iconst 1, 1) := by decide +kernel
theorem dX12_makes_44 : decode cX12_makes 44 = .ok (.iadd, 1) := by decide +kernel
theorem dX12_makes_45 : decode cX12_makes 45 = .ok (.iload_n 2, 1) := by decide +kernel
theorem dX12_makes_46 : decode cX12_makes 46 = .ok (.iastore, 1) := by decide +kernel
theorem dX12_makes_47 : decode cX12_makes 47 = .ok (.aload_n 0, 1) := by decide +kernel
theorem dX12_makes_48 : decode cX12_makes 48 = .ok (.getfield 9, 3) := by decide +kernel
theorem dX12_makes_51 : decode cX12_makes 51 = .ok (.bipush 74, 2) := by decide +kernel
theorem dX12_makes_53 : decode cX12_makes 53 = .ok (.iconst 3, 1) := by decide +kernel
theorem dX12_makes_54 : decode cX12_makes 54 = .ok (.iload 4, 2) := by decide +kernel
theorem dX12_makes_56 : decode cX12_makes 56 = .ok (.imul, 1) := by decide +kernel
theorem dX12_makes_57 : decode cX12_makes 57 = .ok (.iadd, 1) := by decide +kernel
theorem dX12_makes_58 : decode cX12_makes 58 = .ok (.iconst 2, 1) := by decide +kernel
theorem dX12_makes_59 : decode cX12_makes 59 = .ok (.iadd, 1) := by decide +kernel
theorem dX12_makes_60 : decode cX12_makes 60 = .ok (.iload_n 3, 1) := by decide +kernel
theorem dX12_makes_61 : decode cX12_makes 61 = .ok (.iastore, 1) := by decide +kernel
theorem dX12_makes_62 : decode cX12_makes 62 = .ok (.aload_n 0, 1) := by decide +kernel
theorem dX12_makes_63 : decode cX12_makes 63 = .ok (.getfield 9, 3) := by decide +kernel
theorem dX12_makes_66 : decode cX12_makes 66 = .ok (.iconst 2, 1) := by decide +kernel
theorem dX12_makes_67 : decode cX12_makes 67 = .ok (.dup2, 1) := by decide +kernel
theorem dX12_makes_68 : decode cX12_makes 68 = .ok (.iaload, 1) := by decide +kernel
theorem dX12_makes_69 : decode cX12_makes 69 = .ok (.iconst 1, 1) := by decide +kernel
theorem dX12_makes_70 : decode cX12_makes 70 = .ok (.iadd, 1) := by decide +kernel
theorem dX12_makes_71 : decode cX12_makes 71 = .ok (.iastore, 1) := by decide +kernel
theorem dX12_makes_72 : decode cX12_makes 72 = .ok (.iload 4, 2) := by decide +kernel
theorem dX12_makes_74 : decode cX12_makes 74 = .ok (.ireturn, 1) := by decide +kernel
theorem dX12_doBook_0 : decode cX12_doBook 0 = .ok (.aload_n 0, 1) := by decide +kernel
theorem dX12_doBook_1 : decode cX12_doBook 1 = .ok (.iload_n 1, 1) := by decide +kernel
theorem dX12_doBook_2 : decode cX12_doBook 2 = .ok (.invokevirtual 97, 3) := by decide +kernel
theorem dX12_doBook_5 : decode cX12_doBook 5 = .ok (.ifCond .eq 11, 3) := by decide +kernel
theorem dX12_doBook_8 : decode cX12_doBook 8 = .ok (.aload_n 0, 1) := by decide +kernel
theorem dX12_doBook_9 : decode cX12_doBook 9 = .ok (.iload_n 2, 1) := by decide +kernel
theorem dX12_doBook_10 : decode cX12_doBook 10 = .ok (.invokevirtual 101, 3) := by decide +kernel
theorem dX12_doBook_13 : decode cX12_doBook 13 = .ok (.ifCond .ne 9, 3) := by decide +kernel
theorem dX12_doBook_16 : decode cX12_doBook 16 = .ok (.aload_n 0, 1) := by decide +kernel
theorem dX12_doBook_17 : decode cX12_doBook 17 = .ok (.iconst 1, 1) := by decide +kernel
theorem dX12_doBook_18 : decode cX12_doBook 18 = .ok (.invokevirtual 74, 3) := by decide +kernel
theorem dX12_doBook_21 : decode cX12_doBook 21 = .ok (.ireturn, 1) := by decide +kernel
theorem dX12_doBook_22 : decode cX12_doBook 22 = .ok (.aload_n 0, 1) := by decide +kernel
theorem dX12_doBook_23 : decode cX12_doBook 23 = .ok (.iload_n 3, 1) := by decide +kernel
theorem dX12_doBook_24 : decode cX12_doBook 24 = .ok (.invokevirtual 104, 3) := by decide +kernel
theorem dX12_doBook_27 : decode cX12_doBook 27 = .ok (.ifCond .ne 9, 3) := by decide +kernel
theorem dX12_doBook_30 : decode cX12_doBook 30 = .ok (.aload_n 0, 1) := by decide +kernel
theorem dX12_doBook_31 : decode cX12_doBook 31 = .ok (.iconst 2, 1) := by decide +kernel
theorem dX12_doBook_32 : decode cX12_doBook 32 = .ok (.invokevirtual 74, 3) := by decide +kernel
theorem dX12_doBook_35 : decode cX12_doBook 35 = .ok (.ireturn, 1) := by decide +kernel
theorem dX12_doBook_36 : decode cX12_doBook 36 = .ok (.aload_n 0, 1) := by decide +kernel
theorem dX12_doBook_37 : decode cX12_doBook 37 = .ok (.getfield 9, 3) := by decide +kernel
theorem dX12_doBook_40 : decode cX12_doBook 40 = .ok (.iconst 2, 1) := by decide +kernel
theorem dX12_doBook_41 : decode cX12_doBook 41 = .ok (.iaload, 1) := by decide +kernel
theorem dX12_doBook_42 : decode cX12_doBook 42 = .ok (.bipush 12, 2) := by decide +kernel
theorem dX12_doBook_44 : decode cX12_doBook 44 = .ok (.if_icmp .eq 18, 3) := by decide +kernel
theorem dX12_doBook_47 : decode cX12_doBook 47 = .ok (.aload_n 0, 1) := by decide +kernel
theorem dX12_doBook_48 : decode cX12_doBook 48 = .ok (.iload_n 1, 1) := by decide +kernel
theorem dX12_doBook_49 : decode cX12_doBook 49 = .ok (.iconst 0, 1) := by decide +kernel
theorem dX12_doBook_50 : decode cX12_doBook 50 = .ok (.invokevirtual 107, 3) := by decide +kernel
theorem dX12_doBook_53 : decode cX12_doBook 53 = .ok (.aload_n 0, 1) := by decide +kernel
theorem dX12_doBook_54 : decode cX12_doBook 54 = .ok (.iload_n 2, 1) := by decide +kernel
theorem dX12_doBook_55 : decode cX12_doBook 55 = .ok (.iconst 1, 1) := by decide +kernel
theorem dX12_doBook_56 : decode cX12_doBook 56 = .ok (.invokevirtual 71, 3) := by decide +kernel
theorem dX12_doBook_59 : decode cX12_doBook 59 = .ok (.if_icmp .ge 9, 3) := by decide +kernel
theorem dX12_doBook_62 : decode cX12_doBook 62 = .ok (.aload_n 0, 1) := by decide +kernel
theorem dX12_doBook_63 : decode cX12_doBook 63 = .ok (.iconst 3, 1) := by decide +kernel
theorem dX12_doBook_64 : decode cX12_doBook 64 = .ok (.invokevirtual 74, 3) := by decide +kernel
theorem dX12_doBook_67 : decode cX12_doBook 67 = .ok (.ireturn, 1) := by decide +kernel
theorem dX12_doBook_68 : decode cX12_doBook 68 = .ok (.aload_n 0, 1) := by decide +kernel
theorem dX12_doBook_69 : decode cX12_doBook 69 = .ok (.iload_n 1, 1) := by decide +kernel
theorem dX12_doBook_70 : decode cX12_doBook 70 = .ok (.iload_n 2, 1) := by decide +kernel
theorem dX12_doBook_71 : decode cX12_doBook 71 = .ok (.iload_n 3, 1) := by decide +kernel
theorem dX12_doBook_72 : decode cX12_doBook 72 = .ok (.invokevirtual 110, 3) := by decide +kernel
theorem dX12_doBook_75 : decode cX12_doBook 75 = .ok (.ifCond .eq 9, 3) := by decide +kernel
theorem dX12_doBook_78 : decode cX12_doBook 78 = .ok (.aload_n 0, 1) := by decide +kernel
theorem dX12_doBook_79 : decode cX12_doBook 79 = .ok (.iconst 4, 1) := by decide +kernel
theorem dX12_doBook_80 : decode cX12_doBook 80 = .ok (.invokevirtual 74, 3) := by decide +kernel
theorem dX12_doBook_83 : decode cX12_doBook 83 = .ok (.ireturn, 1) := by decide +kernel
theorem dX12_doBook_84 : decode cX12_doBook 84 = .ok (.aload_n 0, 1) := by decide +kernel
theorem dX12_doBook_85 : decode cX12_doBook 85 = .ok (.iload_n 1, 1) := by decide +kernel
theorem dX12_doBook_86 : decode cX12_doBook 86 = .ok (.iload_n 2, 1) := by decide +kernel
theorem dX12_doBook_87 : decode cX12_doBook 87 = .ok (.iload_n 3, 1) := by decide +kernel
theorem dX12_doBook_88 : decode cX12_doBook 88 = .ok (.invokevirtual 113, 3) := by decide +kernel
theorem dX12_doBook_91 : decode cX12_doBook 91 = .ok (.ireturn, 1) := by decide +kernel
theorem dX12_book_0 : decode cX12_book 0 = .ok (.aload_n 0, 1) := by decide +kernel
theorem dX12_book_1 : decode cX12_book 1 = .ok (.invokevirtual 77, 3) := by decide +kernel
theorem dX12_book_4 : decode cX12_book 4 = .ok (.aload_n 0, 1) := by decide +kernel
theorem dX12_book_5 : decode cX12_book 5 = .ok (.aload_n 0, 1) := by decide +kernel
theorem dX12_book_6 : decode cX12_book 6 = .ok (.iload_n 1, 1) := by decide +kernel
theorem dX12_book_7 : decode cX12_book 7 = .ok (.iload_n 2, 1) := by decide +kernel
theorem dX12_book_8 : decode cX12_book 8 = .ok (.iload_n 3, 1) := by decide +kernel
theorem dX12_book_9 : decode cX12_book 9 = .ok (.invokevirtual 117, 3) := by decide +kernel
theorem dX12_book_12 : decode cX12_book 12 = .ok (.invokevirtual 83, 3) := by decide +kernel
theorem dX12_book_15 : decode cX12_book 15 = .ok (.ireturn, 1) := by decide +kernel
theorem dX12_drops_0 : decode cX12_drops 0 = .ok (.aload_n 0, 1) := by decide +kernel
theorem dX12_drops_1 : decode cX12_drops 1 = .ok (.getfield 9, 3) := by decide +kernel
theorem dX12_drops_4 : decode cX12_drops 4 = .ok (.iconst 2, 1) := by decide +kernel
theorem dX12_drops_5 : decode cX12_drops 5 = .ok (.dup2, 1) := by decide +kernel
theorem dX12_drops_6 : decode cX12_drops 6 = .ok (.iaload, 1) := by decide +kernel
theorem dX12_drops_7 : decode cX12_drops 7 = .ok (.iconst 1, 1) := by decide +kernel
theorem dX12_drops_8 : decode cX12_drops 8 = .ok (.isub, 1) := by decide +kernel
theorem dX12_drops_9 : decode cX12_drops 9 = .ok (.iastore, 1) := by decide +kernel
theorem dX12_drops_10 : decode cX12_drops 10 = .ok (.bipush 74, 2) := by decide +kernel
theorem dX12_drops_12 : decode cX12_drops 12 = .ok (.iconst 3, 1) := by decide +kernel
theorem dX12_drops_13 : decode cX12_drops 13 = .ok (.iload_n 1, 1) := by decide +kernel
theorem dX12_drops_14 : decode cX12_drops 14 = .ok (.imul, 1) := by decide +kernel
theorem dX12_drops_15 : decode cX12_drops 15 = .ok (.iadd, 1) := by decide +kernel
theorem dX12_drops_16 : decode cX12_drops 16 = .ok (.istore_n 2, 1) := by decide +kernel
theorem dX12_drops_17 : decode cX12_drops 17 = .ok (.aload_n 0, 1) := by decide +kernel
theorem dX12_drops_18 : decode cX12_drops 18 = .ok (.getfield 9, 3) := by decide +kernel
theorem dX12_drops_21 : decode cX12_drops 21 = .ok (.iload_n 2, 1) := by decide +kernel
theorem dX12_drops_22 : decode cX12_drops 22 = .ok (.iconst 3, 1) := by decide +kernel
theorem dX12_drops_23 : decode cX12_drops 23 = .ok (.iadd, 1) := by decide +kernel
theorem dX12_drops_24 : decode cX12_drops 24 = .ok (.aload_n 0, 1) := by decide +kernel
theorem dX12_drops_25 : decode cX12_drops 25 = .ok (.getfield 9, 3) := by decide +kernel
theorem dX12_drops_28 : decode cX12_drops 28 = .ok (.iload_n 2, 1) := by decide +kernel
theorem dX12_drops_29 : decode cX12_drops 29 = .ok (.iconst 3, 1) := by decide +kernel
theorem dX12_drops_30 : decode cX12_drops 30 = .ok (.aload_n 0, 1) := by decide +kernel
theorem dX12_drops_31 : decode cX12_drops 31 = .ok (.getfield 9, 3) := by decide +kernel
theorem dX12_drops_34 : decode cX12_drops 34 = .ok (.iconst 2, 1) := by decide +kernel
theorem dX12_drops_35 : decode cX12_drops 35 = .ok (.iaload, 1) := by decide +kernel
theorem dX12_drops_36 : decode cX12_drops 36 = .ok (.iload_n 1, 1) := by decide +kernel
theorem dX12_drops_37 : decode cX12_drops 37 = .ok (.isub, 1) := by decide +kernel
theorem dX12_drops_38 : decode cX12_drops 38 = .ok (.imul, 1) := by decide +kernel
theorem dX12_drops_39 : decode cX12_drops 39 = .ok (.invokestatic 42, 3) := by decide +kernel
theorem dX12_drops_42 : decode cX12_drops 42 = .ok (.return_, 1) := by decide +kernel
theorem dX12_doCancel_0 : decode cX12_doCancel 0 = .ok (.aload_n 0, 1) := by decide +kernel
theorem dX12_doCancel_1 : decode cX12_doCancel 1 = .ok (.iload_n 1, 1) := by decide +kernel
theorem dX12_doCancel_2 : decode cX12_doCancel 2 = .ok (.invokevirtual 120, 3) := by decide +kernel
theorem dX12_doCancel_5 : decode cX12_doCancel 5 = .ok (.ifCond .ne 9, 3) := by decide +kernel
theorem dX12_doCancel_8 : decode cX12_doCancel 8 = .ok (.aload_n 0, 1) := by decide +kernel
theorem dX12_doCancel_9 : decode cX12_doCancel 9 = .ok (.iconst 1, 1) := by decide +kernel
theorem dX12_doCancel_10 : decode cX12_doCancel 10 = .ok (.invokevirtual 74, 3) := by decide +kernel
theorem dX12_doCancel_13 : decode cX12_doCancel 13 = .ok (.ireturn, 1) := by decide +kernel
theorem dX12_doCancel_14 : decode cX12_doCancel 14 = .ok (.aload_n 0, 1) := by decide +kernel
theorem dX12_doCancel_15 : decode cX12_doCancel 15 = .ok (.iload_n 1, 1) := by decide +kernel
theorem dX12_doCancel_16 : decode cX12_doCancel 16 = .ok (.invokevirtual 67, 3) := by decide +kernel
theorem dX12_doCancel_19 : decode cX12_doCancel 19 = .ok (.aload_n 0, 1) := by decide +kernel
theorem dX12_doCancel_20 : decode cX12_doCancel 20 = .ok (.getfield 9, 3) := by decide +kernel
theorem dX12_doCancel_23 : decode cX12_doCancel 23 = .ok (.iconst 3, 1) := by decide +kernel
theorem dX12_doCancel_24 : decode cX12_doCancel 24 = .ok (.iaload, 1) := by decide +kernel
theorem dX12_doCancel_25 : decode cX12_doCancel 25 = .ok (.if_icmp .gt 9, 3) := by decide +kernel
theorem dX12_doCancel_28 : decode cX12_doCancel 28 = .ok (.aload_n 0, 1) := by decide +kernel
theorem dX12_doCancel_29 : decode cX12_doCancel 29 = .ok (.iconst 2, 1) := by decide +kernel
theorem dX12_doCancel_30 : decode cX12_doCancel 30 = .ok (.invokevirtual 74, 3) := by decide +kernel
theorem dX12_doCancel_33 : decode cX12_doCancel 33 = .ok (.ireturn, 1) := by decide +kernel
theorem dX12_doCancel_34 : decode cX12_doCancel 34 = .ok (.aload_n 0, 1) := by decide +kernel
theorem dX12_doCancel_35 : decode cX12_doCancel 35 = .ok (.iload_n 1, 1) := by decide +kernel
theorem dX12_doCancel_36 : decode cX12_doCancel 36 = .ok (.iconst 0, 1) := by decide +kernel
theorem dX12_doCancel_37 : decode cX12_doCancel 37 = .ok (.invokevirtual 64, 3) := by decide +kernel
theorem dX12_doCancel_40 : decode cX12_doCancel 40 = .ok (.istore_n 2, 1) := by decide +kernel
theorem dX12_doCancel_41 : decode cX12_doCancel 41 = .ok (.aload_n 0, 1) := by decide +kernel
theorem dX12_doCancel_42 : decode cX12_doCancel 42 = .ok (.aload_n 0, 1) := by decide +kernel
theorem dX12_doCancel_43 : decode cX12_doCancel 43 = .ok (.iload_n 1, 1) := by decide +kernel
theorem dX12_doCancel_44 : decode cX12_doCancel 44 = .ok (.iconst 1, 1) := by decide +kernel
theorem dX12_doCancel_45 : decode cX12_doCancel 45 = .ok (.invokevirtual 64, 3) := by decide +kernel
theorem dX12_doCancel_48 : decode cX12_doCancel 48 = .ok (.iconst 1, 1) := by decide +kernel
theorem dX12_doCancel_49 : decode cX12_doCancel 49 = .ok (.invokevirtual 71, 3) := by decide +kernel
theorem dX12_doCancel_52 : decode cX12_doCancel 52 = .ok (.istore_n 3, 1) := by decide +kernel
theorem dX12_doCancel_53 : decode cX12_doCancel 53 = .ok (.aload_n 0, 1) := by decide +kernel
theorem dX12_doCancel_54 : decode cX12_doCancel 54 = .ok (.iload_n 2, 1) := by decide +kernel
theorem dX12_doCancel_55 : decode cX12_doCancel 55 = .ok (.iload_n 3, 1) := by decide +kernel
theorem dX12_doCancel_56 : decode cX12_doCancel 56 = .ok (.ineg, 1) := by decide +kernel
theorem dX12_doCancel_57 : decode cX12_doCancel 57 = .ok (.invokevirtual 93, 3) := by decide +kernel
theorem dX12_doCancel_60 : decode cX12_doCancel 60 = .ok (.aload_n 0, 1) := by decide +kernel
theorem dX12_doCancel_61 : decode cX12_doCancel 61 = .ok (.getfield 9, 3) := by decide +kernel
theorem dX12_doCancel_64 : decode cX12_doCancel 64 = .ok (.bipush 6, 2) := by decide +kernel
theorem dX12_doCancel_66 : decode cX12_doCancel 66 = .ok (.dup2, 1) := by decide +kernel
theorem dX12_doCancel_67 : decode cX12_doCancel 67 = .ok (.iaload, 1) := by decide +kernel
theorem dX12_doCancel_68 : decode cX12_doCancel 68 = .ok (.iload_n 3, 1) := by decide +kernel
theorem dX12_doCancel_69 : decode cX12_doCancel 69 = .ok (.iadd, 1) := by decide +kernel
theorem dX12_doCancel_70 : decode cX12_doCancel 70 = .ok (.iastore, 1) := by decide +kernel
theorem dX12_doCancel_71 : decode cX12_doCancel 71 = .ok (.aload_n 0, 1) := by decide +kernel
theorem dX12_doCancel_72 : decode cX12_doCancel 72 = .ok (.iload_n 1, 1) := by decide +kernel
theorem dX12_doCancel_73 : decode cX12_doCancel 73 = .ok (.invokevirtual 123, 3) := by decide +kernel
theorem dX12_doCancel_76 : decode cX12_doCancel 76 = .ok (.aload_n 0, 1) := by decide +kernel
theorem dX12_doCancel_77 : decode cX12_doCancel 77 = .ok (.iload_n 2, 1) := by decide +kernel
theorem dX12_doCancel_78 : decode cX12_doCancel 78 = .ok (.iconst 0, 1) := by decide +kernel
theorem dX12_doCancel_79 : decode cX12_doCancel 79 = .ok (.invokevirtual 107, 3) := by decide +kernel
theorem dX12_doCancel_82 : decode cX12_doCancel 82 = .ok (.ireturn, 1) := by decide +kernel
theorem dX12_cancel_0 : decode cX12_cancel 0 = .ok (.aload_n 0, 1) := by decide +kernel
theorem dX12_cancel_1 : decode cX12_cancel 1 = .ok (.invokevirtual 77, 3) := by decide +kernel
theorem dX12_cancel_4 : decode cX12_cancel 4 = .ok (.aload_n 0, 1) := by decide +kernel
theorem dX12_cancel_5 : decode cX12_cancel 5 = .ok (.aload_n 0, 1) := by decide +kernel
theorem dX12_cancel_6 : decode cX12_cancel 6 = .ok (.iload_n 1, 1) := by decide +kernel
theorem dX12_cancel_7 : decode cX12_cancel 7 = .ok (.invokevirtual 127, 3) := by decide +kernel
theorem dX12_cancel_10 : decode cX12_cancel 10 = .ok (.invokevirtual 83, 3) := by decide +kernel
theorem dX12_cancel_13 : decode cX12_cancel 13 = .ok (.ireturn, 1) := by decide +kernel
theorem dX12_queued_0 : decode cX12_queued 0 = .ok (.aload_n 0, 1) := by decide +kernel
theorem dX12_queued_1 : decode cX12_queued 1 = .ok (.iload_n 1, 1) := by decide +kernel
theorem dX12_queued_2 : decode cX12_queued 2 = .ok (.iconst 4, 1) := by decide +kernel
theorem dX12_queued_3 : decode cX12_queued 3 = .ok (.iload_n 2, 1) := by decide +kernel
theorem dX12_queued_4 : decode cX12_queued 4 = .ok (.iadd, 1) := by decide +kernel
theorem dX12_queued_5 : decode cX12_queued 5 = .ok (.invokevirtual 71, 3) := by decide +kernel
theorem dX12_queued_8 : decode cX12_queued 8 = .ok (.ireturn, 1) := by decide +kernel
theorem dX12_doJoin_0 : decode cX12_doJoin 0 = .ok (.aload_n 0, 1) := by decide +kernel
theorem dX12_doJoin_1 : decode cX12_doJoin 1 = .ok (.iload_n 1, 1) := by decide +kernel
theorem dX12_doJoin_2 : decode cX12_doJoin 2 = .ok (.invokevirtual 97, 3) := by decide +kernel
theorem dX12_doJoin_5 : decode cX12_doJoin 5 = .ok (.ifCond .eq 11, 3) := by decide +kernel
theorem dX12_doJoin_8 : decode cX12_doJoin 8 = .ok (.aload_n 0, 1) := by decide +kernel
theorem dX12_doJoin_9 : decode cX12_doJoin 9 = .ok (.iload_n 2, 1) := by decide +kernel
theorem dX12_doJoin_10 : decode cX12_doJoin 10 = .ok (.invokevirtual 101, 3) := by decide +kernel
theorem dX12_doJoin_13 : decode cX12_doJoin 13 = .ok (.ifCond .ne 9, 3) := by decide +kernel
theorem dX12_doJoin_16 : decode cX12_doJoin 16 = .ok (.aload_n 0, 1) := by decide +kernel
theorem dX12_doJoin_17 : decode cX12_doJoin 17 = .ok (.iconst 1, 1) := by decide +kernel
theorem dX12_doJoin_18 : decode cX12_doJoin 18 = .ok (.invokevirtual 74, 3) := by decide +kernel
theorem dX12_doJoin_21 : decode cX12_doJoin 21 = .ok (.ireturn, 1) := by decide +kernel
theorem dX12_doJoin_22 : decode cX12_doJoin 22 = .ok (.aload_n 0, 1) := by decide +kernel
theorem dX12_doJoin_23 : decode cX12_doJoin 23 = .ok (.iload_n 1, 1) := by decide +kernel
theorem dX12_doJoin_24 : decode cX12_doJoin 24 = .ok (.iconst 2, 1) := by decide +kernel
theorem dX12_doJoin_25 : decode cX12_doJoin 25 = .ok (.invokevirtual 107, 3) := by decide +kernel
theorem dX12_doJoin_28 : decode cX12_doJoin 28 = .ok (.ifCond .le 9, 3) := by decide +kernel
theorem dX12_doJoin_31 : decode cX12_doJoin 31 = .ok (.aload_n 0, 1) := by decide +kernel
theorem dX12_doJoin_32 : decode cX12_doJoin 32 = .ok (.iconst 2, 1) := by decide +kernel
theorem dX12_doJoin_33 : decode cX12_doJoin 33 = .ok (.invokevirtual 74, 3) := by decide +kernel
theorem dX12_doJoin_36 : decode cX12_doJoin 36 = .ok (.ireturn, 1) := by decide +kernel
theorem dX12_doJoin_37 : decode cX12_doJoin 37 = .ok (.aload_n 0, 1) := by decide +kernel
theorem dX12_doJoin_38 : decode cX12_doJoin 38 = .ok (.iload_n 2, 1) := by decide +kernel
theorem dX12_doJoin_39 : decode cX12_doJoin 39 = .ok (.iconst 3, 1) := by decide +kernel
theorem dX12_doJoin_40 : decode cX12_doJoin 40 = .ok (.invokevirtual 71, 3) := by decide +kernel
theorem dX12_doJoin_43 : decode cX12_doJoin 43 = .ok (.istore_n 3, 1) := by decide +kernel
theorem dX12_doJoin_44 : decode cX12_doJoin 44 = .ok (.iload_n 3, 1) := by decide +kernel
theorem dX12_doJoin_45 : decode cX12_doJoin 45 = .ok (.iconst 5, 1) := by decide +kernel
theorem dX12_doJoin_46 : decode cX12_doJoin 46 = .ok (.if_icmp .ne 9, 3) := by decide +kernel
theorem dX12_doJoin_49 : decode cX12_doJoin 49 = .ok (.aload_n 0, 1) := by decide +kernel
theorem dX12_doJoin_50 : decode cX12_doJoin 50 = .ok (.iconst 3, 1) := by decide +kernel
theorem dX12_doJoin_51 : decode cX12_doJoin 51 = .ok (.invokevirtual 74, 3) := by decide +kernel
theorem dX12_doJoin_54 : decode cX12_doJoin 54 = .ok (.ireturn, 1) := by decide +kernel
theorem dX12_doJoin_55 : decode cX12_doJoin 55 = .ok (.bipush 8, 2) := by decide +kernel
theorem dX12_doJoin_57 : decode cX12_doJoin 57 = .ok (.bipush 9, 2) := by decide +kernel
theorem dX12_doJoin_59 : decode cX12_doJoin 59 = .ok (.iload_n 2, 1) := by decide +kernel
theorem dX12_doJoin_60 : decode cX12_doJoin 60 = .ok (.imul, 1) := by decide +kernel
theorem dX12_doJoin_61 : decode cX12_doJoin 61 = .ok (.iadd, 1) := by decide +kernel
theorem dX12_doJoin_62 : decode cX12_doJoin 62 = .ok (.istore 4, 2) := by decide +kernel
theorem dX12_doJoin_64 : decode cX12_doJoin 64 = .ok (.aload_n 0, 1) := by decide +kernel
theorem dX12_doJoin_65 : decode cX12_doJoin 65 = .ok (.getfield 9, 3) := by decide +kernel
theorem dX12_doJoin_68 : decode cX12_doJoin 68 = .ok (.iload 4, 2) := by decide +kernel
theorem dX12_doJoin_70 : decode cX12_doJoin 70 = .ok (.iconst 4, 1) := by decide +kernel
theorem dX12_doJoin_71 : decode cX12_doJoin 71 = .ok (.iadd, 1) := by decide +kernel
theorem dX12_doJoin_72 : decode cX12_doJoin 72 = .ok (.iload_n 3, 1) := by decide +kernel
theorem dX12_doJoin_73 : decode cX12_doJoin 73 = .ok (.iadd, 1) := by decide +kernel
theorem dX12_doJoin_74 : decode cX12_doJoin 74 = .ok (.iload_n 1, 1) := by decide +kernel
theorem dX12_doJoin_75 : decode cX12_doJoin 75 = .ok (.iastore, 1) := by decide +kernel
theorem dX12_doJoin_76 : decode cX12_doJoin 76 = .ok (.aload_n 0, 1) := by decide +kernel
theorem dX12_doJoin_77 : decode cX12_doJoin 77 = .ok (.getfield 9, 3) := by decide +kernel
theorem dX12_doJoin_80 : decode cX12_doJoin 80 = .ok (.iload 4, 2) := by decide +kernel
theorem dX12_doJoin_82 : decode cX12_doJoin 82 = .ok (.iconst 3, 1) := by decide +kernel
theorem dX12_doJoin_83 : decode cX12_doJoin 83 = .ok (.iadd, 1) := by decide +kernel
theorem dX12_doJoin_84 : decode cX12_doJoin 84 = .ok (.dup2, 1) := by decide +kernel
theorem dX12_doJoin_85 : decode cX12_doJoin 85 = .ok (.iaload, 1) := by decide +kernel
theorem dX12_doJoin_86 : decode cX12_doJoin 86 = .ok (.iconst 1, 1) := by decide +kernel
theorem dX12_doJoin_87 : decode cX12_doJoin 87 = .ok (.iadd, 1) := by decide +kernel
theorem dX12_doJoin_88 : decode cX12_doJoin 88 = .ok (.iastore, 1) := by decide +kernel
theorem dX12_doJoin_89 : decode cX12_doJoin 89 = .ok (.aload_n 0, 1) := by decide +kernel
theorem dX12_doJoin_90 : decode cX12_doJoin 90 = .ok (.getfield 9, 3) := by decide +kernel
theorem dX12_doJoin_93 : decode cX12_doJoin 93 = .ok (.bipush 44, 2) := by decide +kernel
theorem dX12_doJoin_95 : decode cX12_doJoin 95 = .ok (.iconst 3, 1) := by decide +kernel
theorem dX12_doJoin_96 : decode cX12_doJoin 96 = .ok (.iload_n 1, 1) := by decide +kernel
theorem dX12_doJoin_97 : decode cX12_doJoin 97 = .ok (.imul, 1) := by decide +kernel
theorem dX12_doJoin_98 : decode cX12_doJoin 98 = .ok (.iadd, 1) := by decide +kernel
theorem dX12_doJoin_99 : decode cX12_doJoin 99 = .ok (.iconst 2, 1) := by decide +kernel
theorem dX12_doJoin_100 : decode cX12_doJoin 100 = .ok (.iadd, 1) := by decide +kernel
theorem dX12_doJoin_101 : decode cX12_doJoin 101 = .ok (.iload_n 2, 1) := by decide +kernel
theorem dX12_doJoin_102 : decode cX12_doJoin 102 = .ok (.iconst 1, 1) := by decide +kernel
theorem dX12_doJoin_103 : decode cX12_doJoin 103 = .ok (.iadd, 1) := by decide +kernel
theorem dX12_doJoin_104 : decode cX12_doJoin 104 = .ok (.iastore, 1) := by decide +kernel
theorem dX12_doJoin_105 : decode cX12_doJoin 105 = .ok (.iload_n 3, 1) := by decide +kernel
theorem dX12_doJoin_106 : decode cX12_doJoin 106 = .ok (.iconst 1, 1) := by decide +kernel
theorem dX12_doJoin_107 : decode cX12_doJoin 107 = .ok (.iadd, 1) := by decide +kernel
theorem dX12_doJoin_108 : decode cX12_doJoin 108 = .ok (.ireturn, 1) := by decide +kernel
theorem dX12_joinQueue_0 : decode cX12_joinQueue 0 = .ok (.aload_n 0, 1) := by decide +kernel
theorem dX12_joinQueue_1 : decode cX12_joinQueue 1 = .ok (.invokevirtual 77, 3) := by decide +kernel
theorem dX12_joinQueue_4 : decode cX12_joinQueue 4 = .ok (.aload_n 0, 1) := by decide +kernel
theorem dX12_joinQueue_5 : decode cX12_joinQueue 5 = .ok (.aload_n 0, 1) := by decide +kernel
theorem dX12_joinQueue_6 : decode cX12_joinQueue 6 = .ok (.iload_n 1, 1) := by decide +kernel
theorem dX12_joinQueue_7 : decode cX12_joinQueue 7 = .ok (.iload_n 2, 1) := by decide +kernel
theorem dX12_joinQueue_8 : decode cX12_joinQueue 8 = .ok (.invokevirtual 130, 3) := by decide +kernel
theorem dX12_joinQueue_11 : decode cX12_joinQueue 11 = .ok (.invokevirtual 83, 3) := by decide +kernel
theorem dX12_joinQueue_14 : decode cX12_joinQueue 14 = .ok (.ireturn, 1) := by decide +kernel
theorem dX12_doLeave_0 : decode cX12_doLeave 0 = .ok (.aload_n 0, 1) := by decide +kernel
theorem dX12_doLeave_1 : decode cX12_doLeave 1 = .ok (.iload_n 1, 1) := by decide +kernel
theorem dX12_doLeave_2 : decode cX12_doLeave 2 = .ok (.invokevirtual 97, 3) := by decide +kernel
theorem dX12_doLeave_5 : decode cX12_doLeave 5 = .ok (.ifCond .ne 9, 3) := by decide +kernel
theorem dX12_doLeave_8 : decode cX12_doLeave 8 = .ok (.aload_n 0, 1) := by decide +kernel
theorem dX12_doLeave_9 : decode cX12_doLeave 9 = .ok (.iconst 1, 1) := by decide +kernel
theorem dX12_doLeave_10 : decode cX12_doLeave 10 = .ok (.invokevirtual 74, 3) := by decide +kernel
theorem dX12_doLeave_13 : decode cX12_doLeave 13 = .ok (.ireturn, 1) := by decide +kernel
theorem dX12_doLeave_14 : decode cX12_doLeave 14 = .ok (.aload_n 0, 1) := by decide +kernel
theorem dX12_doLeave_15 : decode cX12_doLeave 15 = .ok (.iload_n 1, 1) := by decide +kernel
theorem dX12_doLeave_16 : decode cX12_doLeave 16 = .ok (.iconst 2, 1) := by decide +kernel
theorem dX12_doLeave_17 : decode cX12_doLeave 17 = .ok (.invokevirtual 107, 3) := by decide +kernel
theorem dX12_doLeave_20 : decode cX12_doLeave 20 = .ok (.iconst 1, 1) := by decide +kernel
theorem dX12_doLeave_21 : decode cX12_doLeave 21 = .ok (.isub, 1) := by decide +kernel
theorem dX12_doLeave_22 : decode cX12_doLeave 22 = .ok (.istore_n 2, 1) := by decide +kernel
theorem dX12_doLeave_23 : decode cX12_doLeave 23 = .ok (.iload_n 2, 1) := by decide +kernel
theorem dX12_doLeave_24 : decode cX12_doLeave 24 = .ok (.ifCond .ge 9, 3) := by decide +kernel
theorem dX12_doLeave_27 : decode cX12_doLeave 27 = .ok (.aload_n 0, 1) := by decide +kernel
theorem dX12_doLeave_28 : decode cX12_doLeave 28 = .ok (.iconst 2, 1) := by decide +kernel
theorem dX12_doLeave_29 : decode cX12_doLeave 29 = .ok (.invokevirtual 74, 3) := by decide +kernel
theorem dX12_doLeave_32 : decode cX12_doLeave 32 = .ok (.ireturn, 1) := by decide +kernel
theorem dX12_doLeave_33 : decode cX12_doLeave 33 = .ok (.bipush 8, 2) := by decide +kernel
theorem dX12_doLeave_35 : decode cX12_doLeave 35 = .ok (.bipush 9, 2) := by decide +kernel
theorem dX12_doLeave_37 : decode cX12_doLeave 37 = .ok (.iload_n 2, 1) := by decide +kernel
theorem dX12_doLeave_38 : decode cX12_doLeave 38 = .ok (.imul, 1) := by decide +kernel
theorem dX12_doLeave_39 : decode cX12_doLeave 39 = .ok (.iadd, 1) := by decide +kernel
theorem dX12_doLeave_40 : decode cX12_doLeave 40 = .ok (.istore_n 3, 1) := by decide +kernel
theorem dX12_doLeave_41 : decode cX12_doLeave 41 = .ok (.iconst 0, 1) := by decide +kernel
theorem dX12_doLeave_42 : decode cX12_doLeave 42 = .ok (.istore 4, 2) := by decide +kernel
theorem dX12_doLeave_44 : decode cX12_doLeave 44 = .ok (.iconst 0, 1) := by decide +kernel
theorem dX12_doLeave_45 : decode cX12_doLeave 45 = .ok (.istore 5, 2) := by decide +kernel
theorem dX12_doLeave_47 : decode cX12_doLeave 47 = .ok (.iload 5, 2) := by decide +kernel
theorem dX12_doLeave_49 : decode cX12_doLeave 49 = .ok (.aload_n 0, 1) := by decide +kernel
theorem dX12_doLeave_50 : decode cX12_doLeave 50 = .ok (.getfield 9, 3) := by decide +kernel
theorem dX12_doLeave_53 : decode cX12_doLeave 53 = .ok (.iload_n 3, 1) := by decide +kernel
theorem dX12_doLeave_54 : decode cX12_doLeave 54 = .ok (.iconst 3, 1) := by decide +kernel
theorem dX12_doLeave_55 : decode cX12_doLeave 55 = .ok (.iadd, 1) := by decide +kernel
theorem dX12_doLeave_56 : decode cX12_doLeave 56 = .ok (.iaload, 1) := by decide +kernel
theorem dX12_doLeave_57 : decode cX12_doLeave 57 = .ok (.if_icmp .ge 56, 3) := by decide +kernel
theorem dX12_doLeave_60 : decode cX12_doLeave 60 = .ok (.aload_n 0, 1) := by decide +kernel
theorem dX12_doLeave_61 : decode cX12_doLeave 61 = .ok (.getfield 9, 3) := by decide +kernel
theorem dX12_doLeave_64 : decode cX12_doLeave 64 = .ok (.iload_n 3, 1) := by decide +kernel
theorem dX12_doLeave_65 : decode cX12_doLeave 65 = .ok (.iconst 4, 1) := by decide +kernel
theorem dX12_doLeave_66 : decode cX12_doLeave 66 = .ok (.iadd, 1) := by decide +kernel
theorem dX12_doLeave_67 : decode cX12_doLeave 67 = .ok (.iload 4, 2) := by decide +kernel
theorem dX12_doLeave_69 : decode cX12_doLeave 69 = .ok (.iadd, 1) := by decide +kernel
theorem dX12_doLeave_70 : decode cX12_doLeave 70 = .ok (.aload_n 0, 1) := by decide +kernel
theorem dX12_doLeave_71 : decode cX12_doLeave 71 = .ok (.getfield 9, 3) := by decide +kernel
theorem dX12_doLeave_74 : decode cX12_doLeave 74 = .ok (.iload_n 3, 1) := by decide +kernel
theorem dX12_doLeave_75 : decode cX12_doLeave 75 = .ok (.iconst 4, 1) := by decide +kernel
theorem dX12_doLeave_76 : decode cX12_doLeave 76 = .ok (.iadd, 1) := by decide +kernel
theorem dX12_doLeave_77 : decode cX12_doLeave 77 = .ok (.iload 5, 2) := by decide +kernel
theorem dX12_doLeave_79 : decode cX12_doLeave 79 = .ok (.iadd, 1) := by decide +kernel
theorem dX12_doLeave_80 : decode cX12_doLeave 80 = .ok (.iaload, 1) := by decide +kernel
theorem dX12_doLeave_81 : decode cX12_doLeave 81 = .ok (.iastore, 1) := by decide +kernel
theorem dX12_doLeave_82 : decode cX12_doLeave 82 = .ok (.iload 4, 2) := by decide +kernel
theorem dX12_doLeave_84 : decode cX12_doLeave 84 = .ok (.aload_n 0, 1) := by decide +kernel
theorem dX12_doLeave_85 : decode cX12_doLeave 85 = .ok (.getfield 9, 3) := by decide +kernel
theorem dX12_doLeave_88 : decode cX12_doLeave 88 = .ok (.iload_n 3, 1) := by decide +kernel
theorem dX12_doLeave_89 : decode cX12_doLeave 89 = .ok (.iconst 4, 1) := by decide +kernel
theorem dX12_doLeave_90 : decode cX12_doLeave 90 = .ok (.iadd, 1) := by decide +kernel
theorem dX12_doLeave_91 : decode cX12_doLeave 91 = .ok (.iload 5, 2) := by decide +kernel
theorem dX12_doLeave_93 : decode cX12_doLeave 93 = .ok (.iadd, 1) := by decide +kernel
theorem dX12_doLeave_94 : decode cX12_doLeave 94 = .ok (.iaload, 1) := by decide +kernel
theorem dX12_doLeave_95 : decode cX12_doLeave 95 = .ok (.iload_n 1, 1) := by decide +kernel
theorem dX12_doLeave_96 : decode cX12_doLeave 96 = .ok (.if_icmp .ne 7, 3) := by decide +kernel
theorem dX12_doLeave_99 : decode cX12_doLeave 99 = .ok (.iconst 0, 1) := by decide +kernel
theorem dX12_doLeave_100 : decode cX12_doLeave 100 = .ok (.goto 4, 3) := by decide +kernel
theorem dX12_doLeave_103 : decode cX12_doLeave 103 = .ok (.iconst 1, 1) := by decide +kernel
theorem dX12_doLeave_104 : decode cX12_doLeave 104 = .ok (.iadd, 1) := by decide +kernel
theorem dX12_doLeave_105 : decode cX12_doLeave 105 = .ok (.istore 4, 2) := by decide +kernel
theorem dX12_doLeave_107 : decode cX12_doLeave 107 = .ok (.iinc 5 1, 3) := by decide +kernel
theorem dX12_doLeave_110 : decode cX12_doLeave 110 = .ok (.goto (-63), 3) := by decide +kernel
theorem dX12_doLeave_113 : decode cX12_doLeave 113 = .ok (.aload_n 0, 1) := by decide +kernel
theorem dX12_doLeave_114 : decode cX12_doLeave 114 = .ok (.getfield 9, 3) := by decide +kernel
theorem dX12_doLeave_117 : decode cX12_doLeave 117 = .ok (.iload_n 3, 1) := by decide +kernel
theorem dX12_doLeave_118 : decode cX12_doLeave 118 = .ok (.iconst 3, 1) := by decide +kernel
theorem dX12_doLeave_119 : decode cX12_doLeave 119 = .ok (.iadd, 1) := by decide +kernel
theorem dX12_doLeave_120 : decode cX12_doLeave 120 = .ok (.iload 4, 2) := by decide +kernel
theorem dX12_doLeave_122 : decode cX12_doLeave 122 = .ok (.iastore, 1) := by decide +kernel
theorem dX12_doLeave_123 : decode cX12_doLeave 123 = .ok (.aload_n 0, 1) := by decide +kernel
theorem dX12_doLeave_124 : decode cX12_doLeave 124 = .ok (.getfield 9, 3) := by decide +kernel
theorem dX12_doLeave_127 : decode cX12_doLeave 127 = .ok (.bipush 44, 2) := by decide +kernel
theorem dX12_doLeave_129 : decode cX12_doLeave 129 = .ok (.iconst 3, 1) := by decide +kernel
theorem dX12_doLeave_130 : decode cX12_doLeave 130 = .ok (.iload_n 1, 1) := by decide +kernel
theorem dX12_doLeave_131 : decode cX12_doLeave 131 = .ok (.imul, 1) := by decide +kernel
theorem dX12_doLeave_132 : decode cX12_doLeave 132 = .ok (.iadd, 1) := by decide +kernel
theorem dX12_doLeave_133 : decode cX12_doLeave 133 = .ok (.iconst 2, 1) := by decide +kernel
theorem dX12_doLeave_134 : decode cX12_doLeave 134 = .ok (.iadd, 1) := by decide +kernel
theorem dX12_doLeave_135 : decode cX12_doLeave 135 = .ok (.iconst 0, 1) := by decide +kernel
theorem dX12_doLeave_136 : decode cX12_doLeave 136 = .ok (.iastore, 1) := by decide +kernel
theorem dX12_doLeave_137 : decode cX12_doLeave 137 = .ok (.iload_n 2, 1) := by decide +kernel
theorem dX12_doLeave_138 : decode cX12_doLeave 138 = .ok (.ireturn, 1) := by decide +kernel
theorem dX12_leaveQueue_0 : decode cX12_leaveQueue 0 = .ok (.aload_n 0, 1) := by decide +kernel
theorem dX12_leaveQueue_1 : decode cX12_leaveQueue 1 = .ok (.invokevirtual 77, 3) := by decide +kernel
theorem dX12_leaveQueue_4 : decode cX12_leaveQueue 4 = .ok (.aload_n 0, 1) := by decide +kernel
theorem dX12_leaveQueue_5 : decode cX12_leaveQueue 5 = .ok (.aload_n 0, 1) := by decide +kernel
theorem dX12_leaveQueue_6 : decode cX12_leaveQueue 6 = .ok (.iload_n 1, 1) := by decide +kernel
theorem dX12_leaveQueue_7 : decode cX12_leaveQueue 7 = .ok (.invokevirtual 133, 3) := by decide +kernel
theorem dX12_leaveQueue_10 : decode cX12_leaveQueue 10 = .ok (.invokevirtual 83, 3) := by decide +kernel
theorem dX12_leaveQueue_13 : decode cX12_leaveQueue 13 = .ok (.ireturn, 1) := by decide +kernel
theorem dX12_calls_0 : decode cX12_calls 0 = .ok (.aload_n 0, 1) := by decide +kernel
theorem dX12_calls_1 : decode cX12_calls 1 = .ok (.iload_n 1, 1) := by decide +kernel
theorem dX12_calls_2 : decode cX12_calls 2 = .ok (.iconst 3, 1) := by decide +kernel
theorem dX12_calls_3 : decode cX12_calls 3 = .ok (.invokevirtual 71, 3) := by decide +kernel
theorem dX12_calls_6 : decode cX12_calls 6 = .ok (.ifCond .ne 4, 3) := by decide +kernel
theorem dX12_calls_9 : decode cX12_calls 9 = .ok (.return_, 1) := by decide +kernel
theorem dX12_calls_10 : decode cX12_calls 10 = .ok (.aload_n 0, 1) := by decide +kernel
theorem dX12_calls_11 : decode cX12_calls 11 = .ok (.iload_n 1, 1) := by decide +kernel
theorem dX12_calls_12 : decode cX12_calls 12 = .ok (.iconst 0, 1) := by decide +kernel
theorem dX12_calls_13 : decode cX12_calls 13 = .ok (.invokevirtual 136, 3) := by decide +kernel
theorem dX12_calls_16 : decode cX12_calls 16 = .ok (.istore_n 2, 1) := by decide +kernel
theorem dX12_calls_17 : decode cX12_calls 17 = .ok (.aload_n 0, 1) := by decide +kernel
theorem dX12_calls_18 : decode cX12_calls 18 = .ok (.iload_n 2, 1) := by decide +kernel
theorem dX12_calls_19 : decode cX12_calls 19 = .ok (.iconst 0, 1) := by decide +kernel
theorem dX12_calls_20 : decode cX12_calls 20 = .ok (.invokevirtual 107, 3) := by decide +kernel
theorem dX12_calls_23 : decode cX12_calls 23 = .ok (.aload_n 0, 1) := by decide +kernel
theorem dX12_calls_24 : decode cX12_calls 24 = .ok (.iload_n 1, 1) := by decide +kernel
theorem dX12_calls_25 : decode cX12_calls 25 = .ok (.iconst 1, 1) := by decide +kernel
theorem dX12_calls_26 : decode cX12_calls 26 = .ok (.invokevirtual 71, 3) := by decide +kernel
theorem dX12_calls_29 : decode cX12_calls 29 = .ok (.if_icmp .ge 7, 3) := by decide +kernel
theorem dX12_calls_32 : decode cX12_calls 32 = .ok (.iconst 1, 1) := by decide +kernel
theorem dX12_calls_33 : decode cX12_calls 33 = .ok (.goto 4, 3) := by decide +kernel
theorem dX12_calls_36 : decode cX12_calls 36 = .ok (.iconst 0, 1) := by decide +kernel
theorem dX12_calls_37 : decode cX12_calls 37 = .ok (.istore_n 3, 1) := by decide +kernel
theorem dX12_calls_38 : decode cX12_calls 38 = .ok (.iload_n 3, 1) := by decide +kernel
theorem dX12_calls_39 : decode cX12_calls 39 = .ok (.ifCond .ne 33, 3) := by decide +kernel
theorem dX12_calls_42 : decode cX12_calls 42 = .ok (.aload_n 0, 1) := by decide +kernel
theorem dX12_calls_43 : decode cX12_calls 43 = .ok (.getfield 9, 3) := by decide +kernel
theorem dX12_calls_46 : decode cX12_calls 46 = .ok (.iconst 2, 1) := by decide +kernel
theorem dX12_calls_47 : decode cX12_calls 47 = .ok (.iaload, 1) := by decide +kernel
theorem dX12_calls_48 : decode cX12_calls 48 = .ok (.bipush 12, 2) := by decide +kernel
theorem dX12_calls_50 : decode cX12_calls 50 = .ok (.if_icmp .ge 22, 3) := by decide +kernel
theorem dX12_calls_53 : decode cX12_calls 53 = .ok (.aload_n 0, 1) := by decide +kernel
theorem dX12_calls_54 : decode cX12_calls 54 = .ok (.iload_n 2, 1) := by decide +kernel
theorem dX12_calls_55 : decode cX12_calls 55 = .ok (.iload_n 1, 1) := by decide +kernel
theorem dX12_calls_56 : decode cX12_calls 56 = .ok (.aload_n 0, 1) := by decide +kernel
theorem dX12_calls_57 : decode cX12_calls 57 = .ok (.getfield 9, 3) := by decide +kernel
theorem dX12_calls_60 : decode cX12_calls 60 = .ok (.iconst 3, 1) := by decide +kernel
theorem dX12_calls_61 : decode cX12_calls 61 = .ok (.iaload, 1) := by decide +kernel
theorem dX12_calls_62 : decode cX12_calls 62 = .ok (.invokevirtual 110, 3) := by decide +kernel
theorem dX12_calls_65 : decode cX12_calls 65 = .ok (.ifCond .ne 7, 3) := by decide +kernel
theorem dX12_calls_68 : decode cX12_calls 68 = .ok (.iconst 1, 1) := by decide +kernel
theorem dX12_calls_69 : decode cX12_calls 69 = .ok (.goto 4, 3) := by decide +kernel
theorem dX12_calls_72 : decode cX12_calls 72 = .ok (.iconst 0, 1) := by decide +kernel
theorem dX12_calls_73 : decode cX12_calls 73 = .ok (.istore 4, 2) := by decide +kernel
theorem dX12_calls_75 : decode cX12_calls 75 = .ok (.iload_n 3, 1) := by decide +kernel
theorem dX12_calls_76 : decode cX12_calls 76 = .ok (.ifCond .ne 8, 3) := by decide +kernel
theorem dX12_calls_79 : decode cX12_calls 79 = .ok (.iload 4, 2) := by decide +kernel
theorem dX12_calls_81 : decode cX12_calls 81 = .ok (.ifCond .eq 10, 3) := by decide +kernel
theorem dX12_calls_84 : decode cX12_calls 84 = .ok (.aload_n 0, 1) := by decide +kernel
theorem dX12_calls_85 : decode cX12_calls 85 = .ok (.iload_n 2, 1) := by decide +kernel
theorem dX12_calls_86 : decode cX12_calls 86 = .ok (.invokevirtual 133, 3) := by decide +kernel
theorem dX12_calls_89 : decode cX12_calls 89 = .ok (.istore 5, 2) := by decide +kernel
theorem dX12_calls_91 : decode cX12_calls 91 = .ok (.iload 4, 2) := by decide +kernel
theorem dX12_calls_93 : decode cX12_calls 93 = .ok (.ifCond .eq 17, 3) := by decide +kernel
theorem dX12_calls_96 : decode cX12_calls 96 = .ok (.aload_n 0, 1) := by decide +kernel
theorem dX12_calls_97 : decode cX12_calls 97 = .ok (.iload_n 2, 1) := by decide +kernel
theorem dX12_calls_98 : decode cX12_calls 98 = .ok (.iload_n 1, 1) := by decide +kernel
theorem dX12_calls_99 : decode cX12_calls 99 = .ok (.aload_n 0, 1) := by decide +kernel
theorem dX12_calls_100 : decode cX12_calls 100 = .ok (.getfield 9, 3) := by decide +kernel
theorem dX12_calls_103 : decode cX12_calls 103 = .ok (.iconst 3, 1) := by decide +kernel
theorem dX12_calls_104 : decode cX12_calls 104 = .ok (.iaload, 1) := by decide +kernel
theorem dX12_calls_105 : decode cX12_calls 105 = .ok (.invokevirtual 113, 3) := by decide +kernel
theorem dX12_calls_108 : decode cX12_calls 108 = .ok (.istore 5, 2) := by decide +kernel
theorem dX12_calls_110 : decode cX12_calls 110 = .ok (.return_, 1) := by decide +kernel
theorem dX12_during_0 : decode cX12_during 0 = .ok (.iconst (-1), 1) := by decide +kernel
theorem dX12_during_1 : decode cX12_during 1 = .ok (.istore_n 3, 1) := by decide +kernel
theorem dX12_during_2 : decode cX12_during 2 = .ok (.iconst 0, 1) := by decide +kernel
theorem dX12_during_3 : decode cX12_during 3 = .ok (.istore 4, 2) := by decide +kernel
theorem dX12_during_5 : decode cX12_during 5 = .ok (.iload 4, 2) := by decide +kernel
theorem dX12_during_7 : decode cX12_during 7 = .ok (.aload_n 0, 1) := by decide +kernel
theorem dX12_during_8 : decode cX12_during 8 = .ok (.getfield 9, 3) := by decide +kernel
theorem dX12_during_11 : decode cX12_during 11 = .ok (.iconst 2, 1) := by decide +kernel
theorem dX12_during_12 : decode cX12_during 12 = .ok (.iaload, 1) := by decide +kernel
theorem dX12_during_13 : decode cX12_during 13 = .ok (.if_icmp .ge 48, 3) := by decide +kernel
theorem dX12_during_16 : decode cX12_during 16 = .ok (.aload_n 0, 1) := by decide +kernel
theorem dX12_during_17 : decode cX12_during 17 = .ok (.iload 4, 2) := by decide +kernel
theorem dX12_during_19 : decode cX12_during 19 = .ok (.iconst 1, 1) := by decide +kernel
theorem dX12_during_20 : decode cX12_during 20 = .ok (.invokevirtual 64, 3) := by decide +kernel
theorem dX12_during_23 : decode cX12_during 23 = .ok (.iload_n 1, 1) := by decide +kernel
theorem dX12_during_24 : decode cX12_during 24 = .ok (.if_icmp .ne 29, 3) := by decide +kernel
theorem dX12_during_27 : decode cX12_during 27 = .ok (.iload_n 2, 1) := by decide +kernel
theorem dX12_during_28 : decode cX12_during 28 = .ok (.aload_n 0, 1) := by decide +kernel
theorem dX12_during_29 : decode cX12_during 29 = .ok (.iload 4, 2) := by decide +kernel
theorem dX12_during_31 : decode cX12_during 31 = .ok (.invokevirtual 67, 3) := by decide +kernel
theorem dX12_during_34 : decode cX12_during 34 = .ok (.aload_n 0, 1) := by decide +kernel
theorem dX12_during_35 : decode cX12_during 35 = .ok (.iload 4, 2) := by decide +kernel
theorem dX12_during_37 : decode cX12_during 37 = .ok (.invokevirtual 90, 3) := by decide +kernel
theorem dX12_during_40 : decode cX12_during 40 = .ok (.iconst 1, 1) := by decide +kernel
theorem dX12_during_41 : decode cX12_during 41 = .ok (.isub, 1) := by decide +kernel
theorem dX12_during_42 : decode cX12_during 42 = .ok (.invokestatic 51, 3) := by decide +kernel
theorem dX12_during_45 : decode cX12_during 45 = .ok (.ifCond .eq 8, 3) := by decide +kernel
theorem dX12_during_48 : decode cX12_during 48 = .ok (.iload 4, 2) := by decide +kernel
theorem dX12_during_50 : decode cX12_during 50 = .ok (.goto 4, 3) := by decide +kernel
theorem dX12_during_53 : decode cX12_during 53 = .ok (.iload_n 3, 1) := by decide +kernel
theorem dX12_during_54 : decode cX12_during 54 = .ok (.istore_n 3, 1) := by decide +kernel
theorem dX12_during_55 : decode cX12_during 55 = .ok (.iinc 4 1, 3) := by decide +kernel
theorem dX12_during_58 : decode cX12_during 58 = .ok (.goto (-53), 3) := by decide +kernel
theorem dX12_during_61 : decode cX12_during 61 = .ok (.iload_n 3, 1) := by decide +kernel
theorem dX12_during_62 : decode cX12_during 62 = .ok (.ireturn, 1) := by decide +kernel
theorem dX12_finishes_0 : decode cX12_finishes 0 = .ok (.aload_n 0, 1) := by decide +kernel
theorem dX12_finishes_1 : decode cX12_finishes 1 = .ok (.iload_n 1, 1) := by decide +kernel
theorem dX12_finishes_2 : decode cX12_finishes 2 = .ok (.iconst 0, 1) := by decide +kernel
theorem dX12_finishes_3 : decode cX12_finishes 3 = .ok (.invokevirtual 64, 3) := by decide +kernel
theorem dX12_finishes_6 : decode cX12_finishes 6 = .ok (.istore_n 2, 1) := by decide +kernel
theorem dX12_finishes_7 : decode cX12_finishes 7 = .ok (.aload_n 0, 1) := by decide +kernel
theorem dX12_finishes_8 : decode cX12_finishes 8 = .ok (.iload_n 1, 1) := by decide +kernel
theorem dX12_finishes_9 : decode cX12_finishes 9 = .ok (.iconst 1, 1) := by decide +kernel
theorem dX12_finishes_10 : decode cX12_finishes 10 = .ok (.invokevirtual 64, 3) := by decide +kernel
theorem dX12_finishes_13 : decode cX12_finishes 13 = .ok (.istore_n 3, 1) := by decide +kernel
theorem dX12_finishes_14 : decode cX12_finishes 14 = .ok (.aload_n 0, 1) := by decide +kernel
theorem dX12_finishes_15 : decode cX12_finishes 15 = .ok (.iload_n 3, 1) := by decide +kernel
theorem dX12_finishes_16 : decode cX12_finishes 16 = .ok (.iconst 2, 1) := by decide +kernel
theorem dX12_finishes_17 : decode cX12_finishes 17 = .ok (.invokevirtual 71, 3) := by decide +kernel
theorem dX12_finishes_20 : decode cX12_finishes 20 = .ok (.istore 4, 2) := by decide +kernel
theorem dX12_finishes_22 : decode cX12_finishes 22 = .ok (.iload 4, 2) := by decide +kernel
theorem dX12_finishes_24 : decode cX12_finishes 24 = .ok (.iconst 5, 1) := by decide +kernel
theorem dX12_finishes_25 : decode cX12_finishes 25 = .ok (.if_icmp .lt 43, 3) := by decide +kernel
theorem dX12_finishes_28 : decode cX12_finishes 28 = .ok (.aload_n 0, 1) := by decide +kernel
theorem dX12_finishes_29 : decode cX12_finishes 29 = .ok (.iload_n 3, 1) := by decide +kernel
theorem dX12_finishes_30 : decode cX12_finishes 30 = .ok (.iconst 1, 1) := by decide +kernel
theorem dX12_finishes_31 : decode cX12_finishes 31 = .ok (.invokevirtual 71, 3) := by decide +kernel
theorem dX12_finishes_34 : decode cX12_finishes 34 = .ok (.iconst 2, 1) := by decide +kernel
theorem dX12_finishes_35 : decode cX12_finishes 35 = .ok (.idiv, 1) := by decide +kernel
theorem dX12_finishes_36 : decode cX12_finishes 36 = .ok (.istore 5, 2) := by decide +kernel
theorem dX12_finishes_38 : decode cX12_finishes 38 = .ok (.aload_n 0, 1) := by decide +kernel
theorem dX12_finishes_39 : decode cX12_finishes 39 = .ok (.iload_n 2, 1) := by decide +kernel
theorem dX12_finishes_40 : decode cX12_finishes 40 = .ok (.iload 5, 2) := by decide +kernel
theorem dX12_finishes_42 : decode cX12_finishes 42 = .ok (.ineg, 1) := by decide +kernel
theorem dX12_finishes_43 : decode cX12_finishes 43 = .ok (.invokevirtual 93, 3) := by decide +kernel
theorem dX12_finishes_46 : decode cX12_finishes 46 = .ok (.aload_n 0, 1) := by decide +kernel
theorem dX12_finishes_47 : decode cX12_finishes 47 = .ok (.getfield 9, 3) := by decide +kernel
theorem dX12_finishes_50 : decode cX12_finishes 50 = .ok (.bipush 6, 2) := by decide +kernel
theorem dX12_finishes_52 : decode cX12_finishes 52 = .ok (.dup2, 1) := by decide +kernel
theorem dX12_finishes_53 : decode cX12_finishes 53 = .ok (.iaload, 1) := by decide +kernel
theorem dX12_finishes_54 : decode cX12_finishes 54 = .ok (.iload 5, 2) := by decide +kernel
theorem dX12_finishes_56 : decode cX12_finishes 56 = .ok (.iadd, 1) := by decide +kernel
theorem dX12_finishes_57 : decode cX12_finishes 57 = .ok (.iastore, 1) := by decide +kernel
theorem dX12_finishes_58 : decode cX12_finishes 58 = .ok (.aload_n 0, 1) := by decide +kernel
theorem dX12_finishes_59 : decode cX12_finishes 59 = .ok (.getfield 9, 3) := by decide +kernel
theorem dX12_finishes_62 : decode cX12_finishes 62 = .ok (.iconst 5, 1) := by decide +kernel
theorem dX12_finishes_63 : decode cX12_finishes 63 = .ok (.dup2, 1) := by decide +kernel
theorem dX12_finishes_64 : decode cX12_finishes 64 = .ok (.iaload, 1) := by decide +kernel
theorem dX12_finishes_65 : decode cX12_finishes 65 = .ok (.iconst 1, 1) := by decide +kernel
theorem dX12_finishes_66 : decode cX12_finishes 66 = .ok (.iadd, 1) := by decide +kernel
theorem dX12_finishes_67 : decode cX12_finishes 67 = .ok (.iastore, 1) := by decide +kernel
theorem dX12_finishes_68 : decode cX12_finishes 68 = .ok (.aload_n 0, 1) := by decide +kernel
theorem dX12_finishes_69 : decode cX12_finishes 69 = .ok (.iload_n 3, 1) := by decide +kernel
theorem dX12_finishes_70 : decode cX12_finishes 70 = .ok (.iload 4, 2) := by decide +kernel
theorem dX12_finishes_72 : decode cX12_finishes 72 = .ok (.iconst 2, 1) := by decide +kernel
theorem dX12_finishes_73 : decode cX12_finishes 73 = .ok (.iadd, 1) := by decide +kernel
theorem dX12_finishes_74 : decode cX12_finishes 74 = .ok (.invokevirtual 139, 3) := by decide +kernel
theorem dX12_finishes_77 : decode cX12_finishes 77 = .ok (.aload_n 0, 1) := by decide +kernel
theorem dX12_finishes_78 : decode cX12_finishes 78 = .ok (.getfield 9, 3) := by decide +kernel
theorem dX12_finishes_81 : decode cX12_finishes 81 = .ok (.bipush 110, 2) := by decide +kernel
theorem dX12_finishes_83 : decode cX12_finishes 83 = .ok (.aload_n 0, 1) := by decide +kernel
theorem dX12_finishes_84 : decode cX12_finishes 84 = .ok (.getfield 9, 3) := by decide +kernel
theorem dX12_finishes_87 : decode cX12_finishes 87 = .ok (.bipush 113, 2) := by decide +kernel
theorem dX12_finishes_89 : decode cX12_finishes 89 = .ok (.bipush 45, 2) := by decide +kernel
theorem dX12_finishes_91 : decode cX12_finishes 91 = .ok (.invokestatic 42, 3) := by decide +kernel
theorem dX12_finishes_94 : decode cX12_finishes 94 = .ok (.aload_n 0, 1) := by decide +kernel
theorem dX12_finishes_95 : decode cX12_finishes 95 = .ok (.getfield 9, 3) := by decide +kernel
theorem dX12_finishes_98 : decode cX12_finishes 98 = .ok (.bipush 110, 2) := by decide +kernel
theorem dX12_finishes_100 : decode cX12_finishes 100 = .ok (.iload_n 2, 1) := by decide +kernel
theorem dX12_finishes_101 : decode cX12_finishes 101 = .ok (.iastore, 1) := by decide +kernel
theorem dX12_finishes_102 : decode cX12_finishes 102 = .ok (.aload_n 0, 1) := by decide +kernel
theorem dX12_finishes_103 : decode cX12_finishes 103 = .ok (.getfield 9, 3) := by decide +kernel
theorem dX12_finishes_106 : decode cX12_finishes 106 = .ok (.bipush 111, 2) := by decide +kernel
theorem dX12_finishes_108 : decode cX12_finishes 108 = .ok (.iload_n 3, 1) := by decide +kernel
theorem dX12_finishes_109 : decode cX12_finishes 109 = .ok (.iastore, 1) := by decide +kernel
theorem dX12_finishes_110 : decode cX12_finishes 110 = .ok (.aload_n 0, 1) := by decide +kernel
theorem dX12_finishes_111 : decode cX12_finishes 111 = .ok (.getfield 9, 3) := by decide +kernel
theorem dX12_finishes_114 : decode cX12_finishes 114 = .ok (.bipush 112, 2) := by decide +kernel
theorem dX12_finishes_116 : decode cX12_finishes 116 = .ok (.aload_n 0, 1) := by decide +kernel
theorem dX12_finishes_117 : decode cX12_finishes 117 = .ok (.getfield 9, 3) := by decide +kernel
theorem dX12_finishes_120 : decode cX12_finishes 120 = .ok (.iconst 3, 1) := by decide +kernel
theorem dX12_finishes_121 : decode cX12_finishes 121 = .ok (.iaload, 1) := by decide +kernel
theorem dX12_finishes_122 : decode cX12_finishes 122 = .ok (.iastore, 1) := by decide +kernel
theorem dX12_finishes_123 : decode cX12_finishes 123 = .ok (.aload_n 0, 1) := by decide +kernel
theorem dX12_finishes_124 : decode cX12_finishes 124 = .ok (.getfield 9, 3) := by decide +kernel
theorem dX12_finishes_127 : decode cX12_finishes 127 = .ok (.iconst 4, 1) := by decide +kernel
theorem dX12_finishes_128 : decode cX12_finishes 128 = .ok (.bipush 16, 2) := by decide +kernel
theorem dX12_finishes_130 : decode cX12_finishes 130 = .ok (.aload_n 0, 1) := by decide +kernel
theorem dX12_finishes_131 : decode cX12_finishes 131 = .ok (.getfield 9, 3) := by decide +kernel
theorem dX12_finishes_134 : decode cX12_finishes 134 = .ok (.iconst 4, 1) := by decide +kernel
theorem dX12_finishes_135 : decode cX12_finishes 135 = .ok (.iaload, 1) := by decide +kernel
theorem dX12_finishes_136 : decode cX12_finishes 136 = .ok (.iconst 1, 1) := by decide +kernel
theorem dX12_finishes_137 : decode cX12_finishes 137 = .ok (.iadd, 1) := by decide +kernel
theorem dX12_finishes_138 : decode cX12_finishes 138 = .ok (.invokestatic 55, 3) := by decide +kernel
theorem dX12_finishes_141 : decode cX12_finishes 141 = .ok (.iastore, 1) := by decide +kernel
theorem dX12_finishes_142 : decode cX12_finishes 142 = .ok (.aload_n 0, 1) := by decide +kernel
theorem dX12_finishes_143 : decode cX12_finishes 143 = .ok (.getfield 9, 3) := by decide +kernel
theorem dX12_finishes_146 : decode cX12_finishes 146 = .ok (.bipush 44, 2) := by decide +kernel
theorem dX12_finishes_148 : decode cX12_finishes 148 = .ok (.iconst 3, 1) := by decide +kernel
theorem dX12_finishes_149 : decode cX12_finishes 149 = .ok (.iload_n 2, 1) := by decide +kernel
theorem dX12_finishes_150 : decode cX12_finishes 150 = .ok (.imul, 1) := by decide +kernel
theorem dX12_finishes_151 : decode cX12_finishes 151 = .ok (.iadd, 1) := by decide +kernel
theorem dX12_finishes_152 : decode cX12_finishes 152 = .ok (.iconst 1, 1) := by decide +kernel
theorem dX12_finishes_153 : decode cX12_finishes 153 = .ok (.iadd, 1) := by decide +kernel
theorem dX12_finishes_154 : decode cX12_finishes 154 = .ok (.dup2, 1) := by decide +kernel
theorem dX12_finishes_155 : decode cX12_finishes 155 = .ok (.iaload, 1) := by decide +kernel
theorem dX12_finishes_156 : decode cX12_finishes 156 = .ok (.iconst 1, 1) := by decide +kernel
theorem dX12_finishes_157 : decode cX12_finishes 157 = .ok (.iadd, 1) := by decide +kernel
theorem dX12_finishes_158 : decode cX12_finishes 158 = .ok (.iastore, 1) := by decide +kernel
theorem dX12_finishes_159 : decode cX12_finishes 159 = .ok (.aload_n 0, 1) := by decide +kernel
theorem dX12_finishes_160 : decode cX12_finishes 160 = .ok (.iload_n 1, 1) := by decide +kernel
theorem dX12_finishes_161 : decode cX12_finishes 161 = .ok (.invokevirtual 123, 3) := by decide +kernel
theorem dX12_finishes_164 : decode cX12_finishes 164 = .ok (.return_, 1) := by decide +kernel
theorem dX12_passesOne_0 : decode cX12_passesOne 0 = .ok (.iconst 0, 1) := by decide +kernel
theorem dX12_passesOne_1 : decode cX12_passesOne 1 = .ok (.istore_n 1, 1) := by decide +kernel
theorem dX12_passesOne_2 : decode cX12_passesOne 2 = .ok (.iload_n 1, 1) := by decide +kernel
theorem dX12_passesOne_3 : decode cX12_passesOne 3 = .ok (.aload_n 0, 1) := by decide +kernel
theorem dX12_passesOne_4 : decode cX12_passesOne 4 = .ok (.getfield 9, 3) := by decide +kernel
theorem dX12_passesOne_7 : decode cX12_passesOne 7 = .ok (.iconst 0, 1) := by decide +kernel
theorem dX12_passesOne_8 : decode cX12_passesOne 8 = .ok (.iaload, 1) := by decide +kernel
theorem dX12_passesOne_9 : decode cX12_passesOne 9 = .ok (.if_icmp .ge 14, 3) := by decide +kernel
theorem dX12_passesOne_12 : decode cX12_passesOne 12 = .ok (.aload_n 0, 1) := by decide +kernel
theorem dX12_passesOne_13 : decode cX12_passesOne 13 = .ok (.iload_n 1, 1) := by decide +kernel
theorem dX12_passesOne_14 : decode cX12_passesOne 14 = .ok (.invokevirtual 142, 3) := by decide +kernel
theorem dX12_passesOne_17 : decode cX12_passesOne 17 = .ok (.iinc 1 1, 3) := by decide +kernel
theorem dX12_passesOne_20 : decode cX12_passesOne 20 = .ok (.goto (-18), 3) := by decide +kernel
theorem dX12_passesOne_23 : decode cX12_passesOne 23 = .ok (.aload_n 0, 1) := by decide +kernel
theorem dX12_passesOne_24 : decode cX12_passesOne 24 = .ok (.getfield 9, 3) := by decide +kernel
theorem dX12_passesOne_27 : decode cX12_passesOne 27 = .ok (.iconst 3, 1) := by decide +kernel
theorem dX12_passesOne_28 : decode cX12_passesOne 28 = .ok (.dup2, 1) := by decide +kernel
theorem dX12_passesOne_29 : decode cX12_passesOne 29 = .ok (.iaload, 1) := by decide +kernel
theorem dX12_passesOne_30 : decode cX12_passesOne 30 = .ok (.iconst 1, 1) := by decide +kernel
theorem dX12_passesOne_31 : decode cX12_passesOne 31 = .ok (.iadd, 1) := by decide +kernel
theorem dX12_passesOne_32 : decode cX12_passesOne 32 = .ok (.iastore, 1) := by decide +kernel
theorem dX12_passesOne_33 : decode cX12_passesOne 33 = .ok (.iconst 0, 1) := by decide +kernel
theorem dX12_passesOne_34 : decode cX12_passesOne 34 = .ok (.istore_n 1, 1) := by decide +kernel
theorem dX12_passesOne_35 : decode cX12_passesOne 35 = .ok (.iload_n 1, 1) := by decide +kernel
theorem dX12_passesOne_36 : decode cX12_passesOne 36 = .ok (.aload_n 0, 1) := by decide +kernel
theorem dX12_passesOne_37 : decode cX12_passesOne 37 = .ok (.getfield 9, 3) := by decide +kernel
theorem dX12_passesOne_40 : decode cX12_passesOne 40 = .ok (.iconst 0, 1) := by decide +kernel
theorem dX12_passesOne_41 : decode cX12_passesOne 41 = .ok (.iaload, 1) := by decide +kernel
theorem dX12_passesOne_42 : decode cX12_passesOne 42 = .ok (.if_icmp .ge 38, 3) := by decide +kernel
theorem dX12_passesOne_45 : decode cX12_passesOne 45 = .ok (.aload_n 0, 1) := by decide +kernel
theorem dX12_passesOne_46 : decode cX12_passesOne 46 = .ok (.iload_n 1, 1) := by decide +kernel
theorem dX12_passesOne_47 : decode cX12_passesOne 47 = .ok (.aload_n 0, 1) := by decide +kernel
theorem dX12_passesOne_48 : decode cX12_passesOne 48 = .ok (.getfield 9, 3) := by decide +kernel
theorem dX12_passesOne_51 : decode cX12_passesOne 51 = .ok (.iconst 3, 1) := by decide +kernel
theorem dX12_passesOne_52 : decode cX12_passesOne 52 = .ok (.iaload, 1) := by decide +kernel
theorem dX12_passesOne_53 : decode cX12_passesOne 53 = .ok (.iconst 1, 1) := by decide +kernel
theorem dX12_passesOne_54 : decode cX12_passesOne 54 = .ok (.isub, 1) := by decide +kernel
theorem dX12_passesOne_55 : decode cX12_passesOne 55 = .ok (.invokevirtual 145, 3) := by decide +kernel
theorem dX12_passesOne_58 : decode cX12_passesOne 58 = .ok (.ifCond .ge 16, 3) := by decide +kernel
theorem dX12_passesOne_61 : decode cX12_passesOne 61 = .ok (.aload_n 0, 1) := by decide +kernel
theorem dX12_passesOne_62 : decode cX12_passesOne 62 = .ok (.iload_n 1, 1) := by decide +kernel
theorem dX12_passesOne_63 : decode cX12_passesOne 63 = .ok (.aload_n 0, 1) := by decide +kernel
theorem dX12_passesOne_64 : decode cX12_passesOne 64 = .ok (.iload_n 1, 1) := by decide +kernel
theorem dX12_passesOne_65 : decode cX12_passesOne 65 = .ok (.iconst 2, 1) := by decide +kernel
theorem dX12_passesOne_66 : decode cX12_passesOne 66 = .ok (.invokevirtual 71, 3) := by decide +kernel
theorem dX12_passesOne_69 : decode cX12_passesOne 69 = .ok (.iconst 1, 1) := by decide +kernel
theorem dX12_passesOne_70 : decode cX12_passesOne 70 = .ok (.isub, 1) := by decide +kernel
theorem dX12_passesOne_71 : decode cX12_passesOne 71 = .ok (.invokevirtual 139, 3) := by decide +kernel
theorem dX12_passesOne_74 : decode cX12_passesOne 74 = .ok (.iinc 1 1, 3) := by decide +kernel
theorem dX12_passesOne_77 : decode cX12_passesOne 77 = .ok (.goto (-42), 3) := by decide +kernel
theorem dX12_passesOne_80 : decode cX12_passesOne 80 = .ok (.iconst 0, 1) := by decide +kernel
theorem dX12_passesOne_81 : decode cX12_passesOne 81 = .ok (.istore_n 1, 1) := by decide +kernel
theorem dX12_passesOne_82 : decode cX12_passesOne 82 = .ok (.iconst 0, 1) := by decide +kernel
theorem dX12_passesOne_83 : decode cX12_passesOne 83 = .ok (.istore_n 2, 1) := by decide +kernel
theorem dX12_passesOne_84 : decode cX12_passesOne 84 = .ok (.iload_n 2, 1) := by decide +kernel
theorem dX12_passesOne_85 : decode cX12_passesOne 85 = .ok (.aload_n 0, 1) := by decide +kernel
theorem dX12_passesOne_86 : decode cX12_passesOne 86 = .ok (.getfield 9, 3) := by decide +kernel
theorem dX12_passesOne_89 : decode cX12_passesOne 89 = .ok (.iconst 2, 1) := by decide +kernel
theorem dX12_passesOne_90 : decode cX12_passesOne 90 = .ok (.iaload, 1) := by decide +kernel
theorem dX12_passesOne_91 : decode cX12_passesOne 91 = .ok (.if_icmp .ge 59, 3) := by decide +kernel
theorem dX12_passesOne_94 : decode cX12_passesOne 94 = .ok (.aload_n 0, 1) := by decide +kernel
theorem dX12_passesOne_95 : decode cX12_passesOne 95 = .ok (.iload_n 2, 1) := by decide +kernel
theorem dX12_passesOne_96 : decode cX12_passesOne 96 = .ok (.invokevirtual 90, 3) := by decide +kernel
theorem dX12_passesOne_99 : decode cX12_passesOne 99 = .ok (.aload_n 0, 1) := by decide +kernel
theorem dX12_passesOne_100 : decode cX12_passesOne 100 = .ok (.getfield 9, 3) := by decide +kernel
theorem dX12_passesOne_103 : decode cX12_passesOne 103 = .ok (.iconst 3, 1) := by decide +kernel
theorem dX12_passesOne_104 : decode cX12_passesOne 104 = .ok (.iaload, 1) := by decide +kernel
theorem dX12_passesOne_105 : decode cX12_passesOne 105 = .ok (.if_icmp .ne 7, 3) := by decide +kernel
theorem dX12_passesOne_108 : decode cX12_passesOne 108 = .ok (.iconst 1, 1) := by decide +kernel
theorem dX12_passesOne_109 : decode cX12_passesOne 109 = .ok (.goto 4, 3) := by decide +kernel
theorem dX12_passesOne_112 : decode cX12_passesOne 112 = .ok (.iconst 0, 1) := by decide +kernel
theorem dX12_passesOne_113 : decode cX12_passesOne 113 = .ok (.istore_n 3, 1) := by decide +kernel
theorem dX12_passesOne_114 : decode cX12_passesOne 114 = .ok (.iload_n 3, 1) := by decide +kernel
theorem dX12_passesOne_115 : decode cX12_passesOne 115 = .ok (.ifCond .eq 8, 3) := by decide +kernel
theorem dX12_passesOne_118 : decode cX12_passesOne 118 = .ok (.aload_n 0, 1) := by decide +kernel
theorem dX12_passesOne_119 : decode cX12_passesOne 119 = .ok (.iload_n 2, 1) := by decide +kernel
theorem dX12_passesOne_120 : decode cX12_passesOne 120 = .ok (.invokevirtual 148, 3) := by decide +kernel
theorem dX12_passesOne_123 : decode cX12_passesOne 123 = .ok (.iload_n 1, 1) := by decide +kernel
theorem dX12_passesOne_124 : decode cX12_passesOne 124 = .ok (.iload_n 3, 1) := by decide +kernel
theorem dX12_passesOne_125 : decode cX12_passesOne 125 = .ok (.ifCond .eq 7, 3) := by decide +kernel
theorem dX12_passesOne_128 : decode cX12_passesOne 128 = .ok (.iconst 1, 1) := by decide +kernel
theorem dX12_passesOne_129 : decode cX12_passesOne 129 = .ok (.goto 4, 3) := by decide +kernel
theorem dX12_passesOne_132 : decode cX12_passesOne 132 = .ok (.iconst 0, 1) := by decide +kernel
theorem dX12_passesOne_133 : decode cX12_passesOne 133 = .ok (.iadd, 1) := by decide +kernel
theorem dX12_passesOne_134 : decode cX12_passesOne 134 = .ok (.istore_n 1, 1) := by decide +kernel
theorem dX12_passesOne_135 : decode cX12_passesOne 135 = .ok (.iload_n 2, 1) := by decide +kernel
theorem dX12_passesOne_136 : decode cX12_passesOne 136 = .ok (.iload_n 3, 1) := by decide +kernel
theorem dX12_passesOne_137 : decode cX12_passesOne 137 = .ok (.ifCond .eq 7, 3) := by decide +kernel
theorem dX12_passesOne_140 : decode cX12_passesOne 140 = .ok (.iconst 0, 1) := by decide +kernel
theorem dX12_passesOne_141 : decode cX12_passesOne 141 = .ok (.goto 4, 3) := by decide +kernel
theorem dX12_passesOne_144 : decode cX12_passesOne 144 = .ok (.iconst 1, 1) := by decide +kernel
theorem dX12_passesOne_145 : decode cX12_passesOne 145 = .ok (.iadd, 1) := by decide +kernel
theorem dX12_passesOne_146 : decode cX12_passesOne 146 = .ok (.istore_n 2, 1) := by decide +kernel
theorem dX12_passesOne_147 : decode cX12_passesOne 147 = .ok (.goto (-63), 3) := by decide +kernel
theorem dX12_passesOne_150 : decode cX12_passesOne 150 = .ok (.iload_n 1, 1) := by decide +kernel
theorem dX12_passesOne_151 : decode cX12_passesOne 151 = .ok (.ireturn, 1) := by decide +kernel
theorem dX12_doPass_0 : decode cX12_doPass 0 = .ok (.iload_n 1, 1) := by decide +kernel
theorem dX12_doPass_1 : decode cX12_doPass 1 = .ok (.iconst 1, 1) := by decide +kernel
theorem dX12_doPass_2 : decode cX12_doPass 2 = .ok (.bipush 60, 2) := by decide +kernel
theorem dX12_doPass_4 : decode cX12_doPass 4 = .ok (.invokestatic 51, 3) := by decide +kernel
theorem dX12_doPass_7 : decode cX12_doPass 7 = .ok (.ifCond .ne 9, 3) := by decide +kernel
theorem dX12_doPass_10 : decode cX12_doPass 10 = .ok (.aload_n 0, 1) := by decide +kernel
theorem dX12_doPass_11 : decode cX12_doPass 11 = .ok (.iconst 1, 1) := by decide +kernel
theorem dX12_doPass_12 : decode cX12_doPass 12 = .ok (.invokevirtual 74, 3) := by decide +kernel
theorem dX12_doPass_15 : decode cX12_doPass 15 = .ok (.ireturn, 1) := by decide +kernel
theorem dX12_doPass_16 : decode cX12_doPass 16 = .ok (.iconst 0, 1) := by decide +kernel
theorem dX12_doPass_17 : decode cX12_doPass 17 = .ok (.istore_n 2, 1) := by decide +kernel
theorem dX12_doPass_18 : decode cX12_doPass 18 = .ok (.iconst 0, 1) := by decide +kernel
theorem dX12_doPass_19 : decode cX12_doPass 19 = .ok (.istore_n 3, 1) := by decide +kernel
theorem dX12_doPass_20 : decode cX12_doPass 20 = .ok (.iload_n 3, 1) := by decide +kernel
theorem dX12_doPass_21 : decode cX12_doPass 21 = .ok (.iload_n 1, 1) := by decide +kernel
theorem dX12_doPass_22 : decode cX12_doPass 22 = .ok (.if_icmp .ge 16, 3) := by decide +kernel
theorem dX12_doPass_25 : decode cX12_doPass 25 = .ok (.iload_n 2, 1) := by decide +kernel
theorem dX12_doPass_26 : decode cX12_doPass 26 = .ok (.aload_n 0, 1) := by decide +kernel
theorem dX12_doPass_27 : decode cX12_doPass 27 = .ok (.invokevirtual 151, 3) := by decide +kernel
theorem dX12_doPass_30 : decode cX12_doPass 30 = .ok (.iadd, 1) := by decide +kernel
theorem dX12_doPass_31 : decode cX12_doPass 31 = .ok (.istore_n 2, 1) := by decide +kernel
theorem dX12_doPass_32 : decode cX12_doPass 32 = .ok (.iinc 3 1, 3) := by decide +kernel
theorem dX12_doPass_35 : decode cX12_doPass 35 = .ok (.goto (-15), 3) := by decide +kernel
theorem dX12_doPass_38 : decode cX12_doPass 38 = .ok (.iload_n 2, 1) := by decide +kernel
theorem dX12_doPass_39 : decode cX12_doPass 39 = .ok (.ireturn, 1) := by decide +kernel
theorem dX12_passMinutes_0 : decode cX12_passMinutes 0 = .ok (.aload_n 0, 1) := by decide +kernel
theorem dX12_passMinutes_1 : decode cX12_passMinutes 1 = .ok (.invokevirtual 77, 3) := by decide +kernel
theorem dX12_passMinutes_4 : decode cX12_passMinutes 4 = .ok (.aload_n 0, 1) := by decide +kernel
theorem dX12_passMinutes_5 : decode cX12_passMinutes 5 = .ok (.aload_n 0, 1) := by decide +kernel
theorem dX12_passMinutes_6 : decode cX12_passMinutes 6 = .ok (.iload_n 1, 1) := by decide +kernel
theorem dX12_passMinutes_7 : decode cX12_passMinutes 7 = .ok (.invokevirtual 154, 3) := by decide +kernel
theorem dX12_passMinutes_10 : decode cX12_passMinutes 10 = .ok (.invokevirtual 83, 3) := by decide +kernel
theorem dX12_passMinutes_13 : decode cX12_passMinutes 13 = .ok (.ireturn, 1) := by decide +kernel
theorem dX12_minute_0 : decode cX12_minute 0 = .ok (.aload_n 0, 1) := by decide +kernel
theorem dX12_minute_1 : decode cX12_minute 1 = .ok (.iconst 0, 1) := by decide +kernel
theorem dX12_minute_2 : decode cX12_minute 2 = .ok (.putfield 39, 3) := by decide +kernel
theorem dX12_minute_5 : decode cX12_minute 5 = .ok (.aload_n 0, 1) := by decide +kernel
theorem dX12_minute_6 : decode cX12_minute 6 = .ok (.getfield 9, 3) := by decide +kernel
theorem dX12_minute_9 : decode cX12_minute 9 = .ok (.iconst 3, 1) := by decide +kernel
theorem dX12_minute_10 : decode cX12_minute 10 = .ok (.iaload, 1) := by decide +kernel
theorem dX12_minute_11 : decode cX12_minute 11 = .ok (.ireturn, 1) := by decide +kernel
theorem dX12_slideCount_0 : decode cX12_slideCount 0 = .ok (.aload_n 0, 1) := by decide +kernel
theorem dX12_slideCount_1 : decode cX12_slideCount 1 = .ok (.iconst 0, 1) := by decide +kernel
theorem dX12_slideCount_2 : decode cX12_slideCount 2 = .ok (.putfield 39, 3) := by decide +kernel
theorem dX12_slideCount_5 : decode cX12_slideCount 5 = .ok (.aload_n 0, 1) := by decide +kernel
theorem dX12_slideCount_6 : decode cX12_slideCount 6 = .ok (.getfield 9, 3) := by decide +kernel
theorem dX12_slideCount_9 : decode cX12_slideCount 9 = .ok (.iconst 0, 1) := by decide +kernel
theorem dX12_slideCount_10 : decode cX12_slideCount 10 = .ok (.iaload, 1) := by decide +kernel
theorem dX12_slideCount_11 : decode cX12_slideCount 11 = .ok (.ireturn, 1) := by decide +kernel
theorem dX12_duration_0 : decode cX12_duration 0 = .ok (.aload_n 0, 1) := by decide +kernel
theorem dX12_duration_1 : decode cX12_duration 1 = .ok (.aload_n 0, 1) := by decide +kernel
theorem dX12_duration_2 : decode cX12_duration 2 = .ok (.iload_n 1, 1) := by decide +kernel
theorem dX12_duration_3 : decode cX12_duration 3 = .ok (.invokevirtual 101, 3) := by decide +kernel
theorem dX12_duration_6 : decode cX12_duration 6 = .ok (.invokevirtual 157, 3) := by decide +kernel
theorem dX12_duration_9 : decode cX12_duration 9 = .ok (.ifCond .eq 12, 3) := by decide +kernel
theorem dX12_duration_12 : decode cX12_duration 12 = .ok (.aload_n 0, 1) := by decide +kernel
theorem dX12_duration_13 : decode cX12_duration 13 = .ok (.iload_n 1, 1) := by decide +kernel
theorem dX12_duration_14 : decode cX12_duration 14 = .ok (.iconst 0, 1) := by decide +kernel
theorem dX12_duration_15 : decode cX12_duration 15 = .ok (.invokevirtual 71, 3) := by decide +kernel
theorem dX12_duration_18 : decode cX12_duration 18 = .ok (.goto 4, 3) := by decide +kernel
theorem dX12_duration_21 : decode cX12_duration 21 = .ok (.iconst 0, 1) := by decide +kernel
theorem dX12_duration_22 : decode cX12_duration 22 = .ok (.ireturn, 1) := by decide +kernel
theorem dX12_price_0 : decode cX12_price 0 = .ok (.aload_n 0, 1) := by decide +kernel
theorem dX12_price_1 : decode cX12_price 1 = .ok (.aload_n 0, 1) := by decide +kernel
theorem dX12_price_2 : decode cX12_price 2 = .ok (.iload_n 1, 1) := by decide +kernel
theorem dX12_price_3 : decode cX12_price 3 = .ok (.invokevirtual 101, 3) := by decide +kernel
theorem dX12_price_6 : decode cX12_price 6 = .ok (.invokevirtual 157, 3) := by decide +kernel
theorem dX12_price_9 : decode cX12_price 9 = .ok (.ifCond .eq 12, 3) := by decide +kernel
theorem dX12_price_12 : decode cX12_price 12 = .ok (.aload_n 0, 1) := by decide +kernel
theorem dX12_price_13 : decode cX12_price 13 = .ok (.iload_n 1, 1) := by decide +kernel
theorem dX12_price_14 : decode cX12_price 14 = .ok (.iconst 1, 1) := by decide +kernel
theorem dX12_price_15 : decode cX12_price 15 = .ok (.invokevirtual 71, 3) := by decide +kernel
theorem dX12_price_18 : decode cX12_price 18 = .ok (.goto 4, 3) := by decide +kernel
theorem dX12_price_21 : decode cX12_price 21 = .ok (.iconst 0, 1) := by decide +kernel
theorem dX12_price_22 : decode cX12_price 22 = .ok (.ireturn, 1) := by decide +kernel
theorem dX12_wetness_0 : decode cX12_wetness 0 = .ok (.aload_n 0, 1) := by decide +kernel
theorem dX12_wetness_1 : decode cX12_wetness 1 = .ok (.aload_n 0, 1) := by decide +kernel
theorem dX12_wetness_2 : decode cX12_wetness 2 = .ok (.iload_n 1, 1) := by decide +kernel
theorem dX12_wetness_3 : decode cX12_wetness 3 = .ok (.invokevirtual 101, 3) := by decide +kernel
theorem dX12_wetness_6 : decode cX12_wetness 6 = .ok (.invokevirtual 157, 3) := by decide +kernel
theorem dX12_wetness_9 : decode cX12_wetness 9 = .ok (.ifCond .eq 12, 3) := by decide +kernel
theorem dX12_wetness_12 : decode cX12_wetness 12 = .ok (.aload_n 0, 1) := by decide +kernel
theorem dX12_wetness_13 : decode cX12_wetness 13 = .ok (.iload_n 1, 1) := by decide +kernel
theorem dX12_wetness_14 : decode cX12_wetness 14 = .ok (.iconst 2, 1) := by decide +kernel
theorem dX12_wetness_15 : decode cX12_wetness 15 = .ok (.invokevirtual 71, 3) := by decide +kernel
theorem dX12_wetness_18 : decode cX12_wetness 18 = .ok (.goto 4, 3) := by decide +kernel
theorem dX12_wetness_21 : decode cX12_wetness 21 = .ok (.iconst 0, 1) := by decide +kernel
theorem dX12_wetness_22 : decode cX12_wetness 22 = .ok (.ireturn, 1) := by decide +kernel
theorem dX12_rider_0 : decode cX12_rider 0 = .ok (.aload_n 0, 1) := by decide +kernel
theorem dX12_rider_1 : decode cX12_rider 1 = .ok (.iload_n 1, 1) := by decide +kernel
theorem dX12_rider_2 : decode cX12_rider 2 = .ok (.invokevirtual 101, 3) := by decide +kernel
theorem dX12_rider_5 : decode cX12_rider 5 = .ok (.ifCond .eq 17, 3) := by decide +kernel
theorem dX12_rider_8 : decode cX12_rider 8 = .ok (.aload_n 0, 1) := by decide +kernel
theorem dX12_rider_9 : decode cX12_rider 9 = .ok (.iload_n 1, 1) := by decide +kernel
theorem dX12_rider_10 : decode cX12_rider 10 = .ok (.aload_n 0, 1) := by decide +kernel
theorem dX12_rider_11 : decode cX12_rider 11 = .ok (.getfield 9, 3) := by decide +kernel
theorem dX12_rider_14 : decode cX12_rider 14 = .ok (.iconst 3, 1) := by decide +kernel
theorem dX12_rider_15 : decode cX12_rider 15 = .ok (.iaload, 1) := by decide +kernel
theorem dX12_rider_16 : decode cX12_rider 16 = .ok (.invokevirtual 145, 3) := by decide +kernel
theorem dX12_rider_19 : decode cX12_rider 19 = .ok (.goto 4, 3) := by decide +kernel
theorem dX12_rider_22 : decode cX12_rider 22 = .ok (.iconst (-1), 1) := by decide +kernel
theorem dX12_rider_23 : decode cX12_rider 23 = .ok (.istore_n 2, 1) := by decide +kernel
theorem dX12_rider_24 : decode cX12_rider 24 = .ok (.aload_n 0, 1) := by decide +kernel
theorem dX12_rider_25 : decode cX12_rider 25 = .ok (.aload_n 0, 1) := by decide +kernel
theorem dX12_rider_26 : decode cX12_rider 26 = .ok (.iload_n 1, 1) := by decide +kernel
theorem dX12_rider_27 : decode cX12_rider 27 = .ok (.invokevirtual 101, 3) := by decide +kernel
theorem dX12_rider_30 : decode cX12_rider 30 = .ok (.ifCond .ne 7, 3) := by decide +kernel
theorem dX12_rider_33 : decode cX12_rider 33 = .ok (.iconst 1, 1) := by decide +kernel
theorem dX12_rider_34 : decode cX12_rider 34 = .ok (.goto 12, 3) := by decide +kernel
theorem dX12_rider_37 : decode cX12_rider 37 = .ok (.iload_n 2, 1) := by decide +kernel
theorem dX12_rider_38 : decode cX12_rider 38 = .ok (.ifCond .ge 7, 3) := by decide +kernel
theorem dX12_rider_41 : decode cX12_rider 41 = .ok (.iconst 2, 1) := by decide +kernel
theorem dX12_rider_42 : decode cX12_rider 42 = .ok (.goto 4, 3) := by decide +kernel
theorem dX12_rider_45 : decode cX12_rider 45 = .ok (.iconst 0, 1) := by decide +kernel
theorem dX12_rider_46 : decode cX12_rider 46 = .ok (.putfield 39, 3) := by decide +kernel
theorem dX12_rider_49 : decode cX12_rider 49 = .ok (.aload_n 0, 1) := by decide +kernel
theorem dX12_rider_50 : decode cX12_rider 50 = .ok (.getfield 39, 3) := by decide +kernel
theorem dX12_rider_53 : decode cX12_rider 53 = .ok (.ifCond .le 7, 3) := by decide +kernel
theorem dX12_rider_56 : decode cX12_rider 56 = .ok (.iconst 0, 1) := by decide +kernel
theorem dX12_rider_57 : decode cX12_rider 57 = .ok (.goto 9, 3) := by decide +kernel
theorem dX12_rider_60 : decode cX12_rider 60 = .ok (.aload_n 0, 1) := by decide +kernel
theorem dX12_rider_61 : decode cX12_rider 61 = .ok (.iload_n 2, 1) := by decide +kernel
theorem dX12_rider_62 : decode cX12_rider 62 = .ok (.iconst 0, 1) := by decide +kernel
theorem dX12_rider_63 : decode cX12_rider 63 = .ok (.invokevirtual 64, 3) := by decide +kernel
theorem dX12_rider_66 : decode cX12_rider 66 = .ok (.ireturn, 1) := by decide +kernel
theorem dX12_guestCount_0 : decode cX12_guestCount 0 = .ok (.aload_n 0, 1) := by decide +kernel
theorem dX12_guestCount_1 : decode cX12_guestCount 1 = .ok (.iconst 0, 1) := by decide +kernel
theorem dX12_guestCount_2 : decode cX12_guestCount 2 = .ok (.putfield 39, 3) := by decide +kernel
theorem dX12_guestCount_5 : decode cX12_guestCount 5 = .ok (.aload_n 0, 1) := by decide +kernel
theorem dX12_guestCount_6 : decode cX12_guestCount 6 = .ok (.getfield 9, 3) := by decide +kernel
theorem dX12_guestCount_9 : decode cX12_guestCount 9 = .ok (.iconst 1, 1) := by decide +kernel
theorem dX12_guestCount_10 : decode cX12_guestCount 10 = .ok (.iaload, 1) := by decide +kernel
theorem dX12_guestCount_11 : decode cX12_guestCount 11 = .ok (.ireturn, 1) := by decide +kernel
theorem dX12_coins_0 : decode cX12_coins 0 = .ok (.aload_n 0, 1) := by decide +kernel
theorem dX12_coins_1 : decode cX12_coins 1 = .ok (.aload_n 0, 1) := by decide +kernel
theorem dX12_coins_2 : decode cX12_coins 2 = .ok (.iload_n 1, 1) := by decide +kernel
theorem dX12_coins_3 : decode cX12_coins 3 = .ok (.invokevirtual 97, 3) := by decide +kernel
theorem dX12_coins_6 : decode cX12_coins 6 = .ok (.invokevirtual 157, 3) := by decide +kernel
theorem dX12_coins_9 : decode cX12_coins 9 = .ok (.ifCond .eq 12, 3) := by decide +kernel
theorem dX12_coins_12 : decode cX12_coins 12 = .ok (.aload_n 0, 1) := by decide +kernel
theorem dX12_coins_13 : decode cX12_coins 13 = .ok (.iload_n 1, 1) := by decide +kernel
theorem dX12_coins_14 : decode cX12_coins 14 = .ok (.iconst 0, 1) := by decide +kernel
theorem dX12_coins_15 : decode cX12_coins 15 = .ok (.invokevirtual 107, 3) := by decide +kernel
theorem dX12_coins_18 : decode cX12_coins 18 = .ok (.goto 4, 3) := by decide +kernel
theorem dX12_coins_21 : decode cX12_coins 21 = .ok (.iconst 0, 1) := by decide +kernel
theorem dX12_coins_22 : decode cX12_coins 22 = .ok (.ireturn, 1) := by decide +kernel
theorem dX12_queueOf_0 : decode cX12_queueOf 0 = .ok (.aload_n 0, 1) := by decide +kernel
theorem dX12_queueOf_1 : decode cX12_queueOf 1 = .ok (.aload_n 0, 1) := by decide +kernel
theorem dX12_queueOf_2 : decode cX12_queueOf 2 = .ok (.iload_n 1, 1) := by decide +kernel
theorem dX12_queueOf_3 : decode cX12_queueOf 3 = .ok (.invokevirtual 97, 3) := by decide +kernel
theorem dX12_queueOf_6 : decode cX12_queueOf 6 = .ok (.ifCond .ne 7, 3) := by decide +kernel
theorem dX12_queueOf_9 : decode cX12_queueOf 9 = .ok (.iconst 1, 1) := by decide +kernel
theorem dX12_queueOf_10 : decode cX12_queueOf 10 = .ok (.goto 17, 3) := by decide +kernel
theorem dX12_queueOf_13 : decode cX12_queueOf 13 = .ok (.aload_n 0, 1) := by decide +kernel
theorem dX12_queueOf_14 : decode cX12_queueOf 14 = .ok (.iload_n 1, 1) := by decide +kernel
theorem dX12_queueOf_15 : decode cX12_queueOf 15 = .ok (.iconst 2, 1) := by decide +kernel
theorem dX12_queueOf_16 : decode cX12_queueOf 16 = .ok (.invokevirtual 107, 3) := by decide +kernel
theorem dX12_queueOf_19 : decode cX12_queueOf 19 = .ok (.ifCond .ne 7, 3) := by decide +kernel
theorem dX12_queueOf_22 : decode cX12_queueOf 22 = .ok (.iconst 2, 1) := by decide +kernel
theorem dX12_queueOf_23 : decode cX12_queueOf 23 = .ok (.goto 4, 3) := by decide +kernel
theorem dX12_queueOf_26 : decode cX12_queueOf 26 = .ok (.iconst 0, 1) := by decide +kernel
theorem dX12_queueOf_27 : decode cX12_queueOf 27 = .ok (.putfield 39, 3) := by decide +kernel
theorem dX12_queueOf_30 : decode cX12_queueOf 30 = .ok (.aload_n 0, 1) := by decide +kernel
theorem dX12_queueOf_31 : decode cX12_queueOf 31 = .ok (.getfield 39, 3) := by decide +kernel
theorem dX12_queueOf_34 : decode cX12_queueOf 34 = .ok (.ifCond .le 7, 3) := by decide +kernel
theorem dX12_queueOf_37 : decode cX12_queueOf 37 = .ok (.iconst 0, 1) := by decide +kernel
theorem dX12_queueOf_38 : decode cX12_queueOf 38 = .ok (.goto 11, 3) := by decide +kernel
theorem dX12_queueOf_41 : decode cX12_queueOf 41 = .ok (.aload_n 0, 1) := by decide +kernel
theorem dX12_queueOf_42 : decode cX12_queueOf 42 = .ok (.iload_n 1, 1) := by decide +kernel
theorem dX12_queueOf_43 : decode cX12_queueOf 43 = .ok (.iconst 2, 1) := by decide +kernel
theorem dX12_queueOf_44 : decode cX12_queueOf 44 = .ok (.invokevirtual 107, 3) := by decide +kernel
theorem dX12_queueOf_47 : decode cX12_queueOf 47 = .ok (.iconst 1, 1) := by decide +kernel
theorem dX12_queueOf_48 : decode cX12_queueOf 48 = .ok (.isub, 1) := by decide +kernel
theorem dX12_queueOf_49 : decode cX12_queueOf 49 = .ok (.ireturn, 1) := by decide +kernel
theorem dX12_queueLength_0 : decode cX12_queueLength 0 = .ok (.aload_n 0, 1) := by decide +kernel
theorem dX12_queueLength_1 : decode cX12_queueLength 1 = .ok (.aload_n 0, 1) := by decide +kernel
theorem dX12_queueLength_2 : decode cX12_queueLength 2 = .ok (.iload_n 1, 1) := by decide +kernel
theorem dX12_queueLength_3 : decode cX12_queueLength 3 = .ok (.invokevirtual 101, 3) := by decide +kernel
theorem dX12_queueLength_6 : decode cX12_queueLength 6 = .ok (.invokevirtual 157, 3) := by decide +kernel
theorem dX12_queueLength_9 : decode cX12_queueLength 9 = .ok (.ifCond .eq 12, 3) := by decide +kernel
theorem dX12_queueLength_12 : decode cX12_queueLength 12 = .ok (.aload_n 0, 1) := by decide +kernel
theorem dX12_queueLength_13 : decode cX12_queueLength 13 = .ok (.iload_n 1, 1) := by decide +kernel
theorem dX12_queueLength_14 : decode cX12_queueLength 14 = .ok (.iconst 3, 1) := by decide +kernel
theorem dX12_queueLength_15 : decode cX12_queueLength 15 = .ok (.invokevirtual 71, 3) := by decide +kernel
theorem dX12_queueLength_18 : decode cX12_queueLength 18 = .ok (.goto 4, 3) := by decide +kernel
theorem dX12_queueLength_21 : decode cX12_queueLength 21 = .ok (.iconst 0, 1) := by decide +kernel
theorem dX12_queueLength_22 : decode cX12_queueLength 22 = .ok (.ireturn, 1) := by decide +kernel
theorem dX12_queuedGuest_0 : decode cX12_queuedGuest 0 = .ok (.aload_n 0, 1) := by decide +kernel
theorem dX12_queuedGuest_1 : decode cX12_queuedGuest 1 = .ok (.aload_n 0, 1) := by decide +kernel
theorem dX12_queuedGuest_2 : decode cX12_queuedGuest 2 = .ok (.iload_n 1, 1) := by decide +kernel
theorem dX12_queuedGuest_3 : decode cX12_queuedGuest 3 = .ok (.invokevirtual 101, 3) := by decide +kernel
theorem dX12_queuedGuest_6 : decode cX12_queuedGuest 6 = .ok (.ifCond .ne 7, 3) := by decide +kernel
theorem dX12_queuedGuest_9 : decode cX12_queuedGuest 9 = .ok (.iconst 1, 1) := by decide +kernel
theorem dX12_queuedGuest_10 : decode cX12_queuedGuest 10 = .ok (.goto 24, 3) := by decide +kernel
theorem dX12_queuedGuest_13 : decode cX12_queuedGuest 13 = .ok (.iload_n 2, 1) := by decide +kernel
theorem dX12_queuedGuest_14 : decode cX12_queuedGuest 14 = .ok (.iconst 0, 1) := by decide +kernel
theorem dX12_queuedGuest_15 : decode cX12_queuedGuest 15 = .ok (.aload_n 0, 1) := by decide +kernel
theorem dX12_queuedGuest_16 : decode cX12_queuedGuest 16 = .ok (.iload_n 1, 1) := by decide +kernel
theorem dX12_queuedGuest_17 : decode cX12_queuedGuest 17 = .ok (.iconst 3, 1) := by decide +kernel
theorem dX12_queuedGuest_18 : decode cX12_queuedGuest 18 = .ok (.invokevirtual 71, 3) := by decide +kernel
theorem dX12_queuedGuest_21 : decode cX12_queuedGuest 21 = .ok (.iconst 1, 1) := by decide +kernel
theorem dX12_queuedGuest_22 : decode cX12_queuedGuest 22 = .ok (.isub, 1) := by decide +kernel
theorem dX12_queuedGuest_23 : decode cX12_queuedGuest 23 = .ok (.invokestatic 51, 3) := by decide +kernel
theorem dX12_queuedGuest_26 : decode cX12_queuedGuest 26 = .ok (.ifCond .ne 7, 3) := by decide +kernel
theorem dX12_queuedGuest_29 : decode cX12_queuedGuest 29 = .ok (.iconst 2, 1) := by decide +kernel
theorem dX12_queuedGuest_30 : decode cX12_queuedGuest 30 = .ok (.goto 4, 3) := by decide +kernel
theorem dX12_queuedGuest_33 : decode cX12_queuedGuest 33 = .ok (.iconst 0, 1) := by decide +kernel
theorem dX12_queuedGuest_34 : decode cX12_queuedGuest 34 = .ok (.putfield 39, 3) := by decide +kernel
theorem dX12_queuedGuest_37 : decode cX12_queuedGuest 37 = .ok (.aload_n 0, 1) := by decide +kernel
theorem dX12_queuedGuest_38 : decode cX12_queuedGuest 38 = .ok (.getfield 39, 3) := by decide +kernel
theorem dX12_queuedGuest_41 : decode cX12_queuedGuest 41 = .ok (.ifCond .le 7, 3) := by decide +kernel
theorem dX12_queuedGuest_44 : decode cX12_queuedGuest 44 = .ok (.iconst 0, 1) := by decide +kernel
theorem dX12_queuedGuest_45 : decode cX12_queuedGuest 45 = .ok (.goto 9, 3) := by decide +kernel
theorem dX12_queuedGuest_48 : decode cX12_queuedGuest 48 = .ok (.aload_n 0, 1) := by decide +kernel
theorem dX12_queuedGuest_49 : decode cX12_queuedGuest 49 = .ok (.iload_n 1, 1) := by decide +kernel
theorem dX12_queuedGuest_50 : decode cX12_queuedGuest 50 = .ok (.iload_n 2, 1) := by decide +kernel
theorem dX12_queuedGuest_51 : decode cX12_queuedGuest 51 = .ok (.invokevirtual 136, 3) := by decide +kernel
theorem dX12_queuedGuest_54 : decode cX12_queuedGuest 54 = .ok (.ireturn, 1) := by decide +kernel
theorem dX12_bookingCount_0 : decode cX12_bookingCount 0 = .ok (.aload_n 0, 1) := by decide +kernel
theorem dX12_bookingCount_1 : decode cX12_bookingCount 1 = .ok (.iconst 0, 1) := by decide +kernel
theorem dX12_bookingCount_2 : decode cX12_bookingCount 2 = .ok (.putfield 39, 3) := by decide +kernel
theorem dX12_bookingCount_5 : decode cX12_bookingCount 5 = .ok (.aload_n 0, 1) := by decide +kernel
theorem dX12_bookingCount_6 : decode cX12_bookingCount 6 = .ok (.getfield 9, 3) := by decide +kernel
theorem dX12_bookingCount_9 : decode cX12_bookingCount 9 = .ok (.iconst 2, 1) := by decide +kernel
theorem dX12_bookingCount_10 : decode cX12_bookingCount 10 = .ok (.iaload, 1) := by decide +kernel
theorem dX12_bookingCount_11 : decode cX12_bookingCount 11 = .ok (.ireturn, 1) := by decide +kernel
theorem dX12_bookedGuest_0 : decode cX12_bookedGuest 0 = .ok (.aload_n 0, 1) := by decide +kernel
theorem dX12_bookedGuest_1 : decode cX12_bookedGuest 1 = .ok (.aload_n 0, 1) := by decide +kernel
theorem dX12_bookedGuest_2 : decode cX12_bookedGuest 2 = .ok (.iload_n 1, 1) := by decide +kernel
theorem dX12_bookedGuest_3 : decode cX12_bookedGuest 3 = .ok (.invokevirtual 120, 3) := by decide +kernel
theorem dX12_bookedGuest_6 : decode cX12_bookedGuest 6 = .ok (.invokevirtual 157, 3) := by decide +kernel
theorem dX12_bookedGuest_9 : decode cX12_bookedGuest 9 = .ok (.ifCond .eq 12, 3) := by decide +kernel
theorem dX12_bookedGuest_12 : decode cX12_bookedGuest 12 = .ok (.aload_n 0, 1) := by decide +kernel
theorem dX12_bookedGuest_13 : decode cX12_bookedGuest 13 = .ok (.iload_n 1, 1) := by decide +kernel
theorem dX12_bookedGuest_14 : decode cX12_bookedGuest 14 = .ok (.iconst 0, 1) := by decide +kernel
theorem dX12_bookedGuest_15 : decode cX12_bookedGuest 15 = .ok (.invokevirtual 64, 3) := by decide +kernel
theorem dX12_bookedGuest_18 : decode cX12_bookedGuest 18 = .ok (.goto 4, 3) := by decide +kernel
theorem dX12_bookedGuest_21 : decode cX12_bookedGuest 21 = .ok (.iconst 0, 1) := by decide +kernel
theorem dX12_bookedGuest_22 : decode cX12_bookedGuest 22 = .ok (.ireturn, 1) := by decide +kernel
theorem dX12_bookedSlide_0 : decode cX12_bookedSlide 0 = .ok (.aload_n 0, 1) := by decide +kernel
theorem dX12_bookedSlide_1 : decode cX12_bookedSlide 1 = .ok (.aload_n 0, 1) := by decide +kernel
theorem dX12_bookedSlide_2 : decode cX12_bookedSlide 2 = .ok (.iload_n 1, 1) := by decide +kernel
theorem dX12_bookedSlide_3 : decode cX12_bookedSlide 3 = .ok (.invokevirtual 120, 3) := by decide +kernel
theorem dX12_bookedSlide_6 : decode cX12_bookedSlide 6 = .ok (.invokevirtual 157, 3) := by decide +kernel
theorem dX12_bookedSlide_9 : decode cX12_bookedSlide 9 = .ok (.ifCond .eq 12, 3) := by decide +kernel
theorem dX12_bookedSlide_12 : decode cX12_bookedSlide 12 = .ok (.aload_n 0, 1) := by decide +kernel
theorem dX12_bookedSlide_13 : decode cX12_bookedSlide 13 = .ok (.iload_n 1, 1) := by decide +kernel
theorem dX12_bookedSlide_14 : decode cX12_bookedSlide 14 = .ok (.iconst 1, 1) := by decide +kernel
theorem dX12_bookedSlide_15 : decode cX12_bookedSlide 15 = .ok (.invokevirtual 64, 3) := by decide +kernel
theorem dX12_bookedSlide_18 : decode cX12_bookedSlide 18 = .ok (.goto 4, 3) := by decide +kernel
theorem dX12_bookedSlide_21 : decode cX12_bookedSlide 21 = .ok (.iconst 0, 1) := by decide +kernel
theorem dX12_bookedSlide_22 : decode cX12_bookedSlide 22 = .ok (.ireturn, 1) := by decide +kernel
theorem dX12_start_0 : decode cX12_start 0 = .ok (.aload_n 0, 1) := by decide +kernel
theorem dX12_start_1 : decode cX12_start 1 = .ok (.aload_n 0, 1) := by decide +kernel
theorem dX12_start_2 : decode cX12_start 2 = .ok (.iload_n 1, 1) := by decide +kernel
theorem dX12_start_3 : decode cX12_start 3 = .ok (.invokevirtual 120, 3) := by decide +kernel
theorem dX12_start_6 : decode cX12_start 6 = .ok (.invokevirtual 157, 3) := by decide +kernel
theorem dX12_start_9 : decode cX12_start 9 = .ok (.ifCond .eq 11, 3) := by decide +kernel
theorem dX12_start_12 : decode cX12_start 12 = .ok (.aload_n 0, 1) := by decide +kernel
theorem dX12_start_13 : decode cX12_start 13 = .ok (.iload_n 1, 1) := by decide +kernel
theorem dX12_start_14 : decode cX12_start 14 = .ok (.invokevirtual 67, 3) := by decide +kernel
theorem dX12_start_17 : decode cX12_start 17 = .ok (.goto 4, 3) := by decide +kernel
theorem dX12_start_20 : decode cX12_start 20 = .ok (.iconst 0, 1) := by decide +kernel
theorem dX12_start_21 : decode cX12_start 21 = .ok (.ireturn, 1) := by decide +kernel
theorem dX12_hasStarted_0 : decode cX12_hasStarted 0 = .ok (.aload_n 0, 1) := by decide +kernel
theorem dX12_hasStarted_1 : decode cX12_hasStarted 1 = .ok (.aload_n 0, 1) := by decide +kernel
theorem dX12_hasStarted_2 : decode cX12_hasStarted 2 = .ok (.iload_n 1, 1) := by decide +kernel
theorem dX12_hasStarted_3 : decode cX12_hasStarted 3 = .ok (.invokevirtual 120, 3) := by decide +kernel
theorem dX12_hasStarted_6 : decode cX12_hasStarted 6 = .ok (.invokevirtual 157, 3) := by decide +kernel
theorem dX12_hasStarted_9 : decode cX12_hasStarted 9 = .ok (.ifCond .eq 21, 3) := by decide +kernel
theorem dX12_hasStarted_12 : decode cX12_hasStarted 12 = .ok (.aload_n 0, 1) := by decide +kernel
theorem dX12_hasStarted_13 : decode cX12_hasStarted 13 = .ok (.iload_n 1, 1) := by decide +kernel
theorem dX12_hasStarted_14 : decode cX12_hasStarted 14 = .ok (.invokevirtual 67, 3) := by decide +kernel
theorem dX12_hasStarted_17 : decode cX12_hasStarted 17 = .ok (.aload_n 0, 1) := by decide +kernel
theorem dX12_hasStarted_18 : decode cX12_hasStarted 18 = .ok (.getfield 9, 3) := by decide +kernel
theorem dX12_hasStarted_21 : decode cX12_hasStarted 21 = .ok (.iconst 3, 1) := by decide +kernel
theorem dX12_hasStarted_22 : decode cX12_hasStarted 22 = .ok (.iaload, 1) := by decide +kernel
theorem dX12_hasStarted_23 : decode cX12_hasStarted 23 = .ok (.if_icmp .gt 7, 3) := by decide +kernel
theorem dX12_hasStarted_26 : decode cX12_hasStarted 26 = .ok (.iconst 1, 1) := by decide +kernel
theorem dX12_hasStarted_27 : decode cX12_hasStarted 27 = .ok (.goto 4, 3) := by decide +kernel
theorem dX12_hasStarted_30 : decode cX12_hasStarted 30 = .ok (.iconst 0, 1) := by decide +kernel
theorem dX12_hasStarted_31 : decode cX12_hasStarted 31 = .ok (.ireturn, 1) := by decide +kernel
theorem dX12_ranked_0 : decode cX12_ranked 0 = .ok (.iconst (-1), 1) := by decide +kernel
theorem dX12_ranked_1 : decode cX12_ranked 1 = .ok (.istore_n 2, 1) := by decide +kernel
theorem dX12_ranked_2 : decode cX12_ranked 2 = .ok (.iconst 0, 1) := by decide +kernel
theorem dX12_ranked_3 : decode cX12_ranked 3 = .ok (.istore_n 3, 1) := by decide +kernel
theorem dX12_ranked_4 : decode cX12_ranked 4 = .ok (.iload_n 3, 1) := by decide +kernel
theorem dX12_ranked_5 : decode cX12_ranked 5 = .ok (.aload_n 0, 1) := by decide +kernel
theorem dX12_ranked_6 : decode cX12_ranked 6 = .ok (.getfield 9, 3) := by decide +kernel
theorem dX12_ranked_9 : decode cX12_ranked 9 = .ok (.iconst 2, 1) := by decide +kernel
theorem dX12_ranked_10 : decode cX12_ranked 10 = .ok (.iaload, 1) := by decide +kernel
theorem dX12_ranked_11 : decode cX12_ranked 11 = .ok (.if_icmp .ge 94, 3) := by decide +kernel
theorem dX12_ranked_14 : decode cX12_ranked 14 = .ok (.iconst 0, 1) := by decide +kernel
theorem dX12_ranked_15 : decode cX12_ranked 15 = .ok (.istore 4, 2) := by decide +kernel
theorem dX12_ranked_17 : decode cX12_ranked 17 = .ok (.iconst 0, 1) := by decide +kernel
theorem dX12_ranked_18 : decode cX12_ranked 18 = .ok (.istore 5, 2) := by decide +kernel
theorem dX12_ranked_20 : decode cX12_ranked 20 = .ok (.iload 5, 2) := by decide +kernel
theorem dX12_ranked_22 : decode cX12_ranked 22 = .ok (.aload_n 0, 1) := by decide +kernel
theorem dX12_ranked_23 : decode cX12_ranked 23 = .ok (.getfield 9, 3) := by decide +kernel
theorem dX12_ranked_26 : decode cX12_ranked 26 = .ok (.iconst 2, 1) := by decide +kernel
theorem dX12_ranked_27 : decode cX12_ranked 27 = .ok (.iaload, 1) := by decide +kernel
theorem dX12_ranked_28 : decode cX12_ranked 28 = .ok (.if_icmp .ge 59, 3) := by decide +kernel
theorem dX12_ranked_31 : decode cX12_ranked 31 = .ok (.aload_n 0, 1) := by decide +kernel
theorem dX12_ranked_32 : decode cX12_ranked 32 = .ok (.iload_n 3, 1) := by decide +kernel
theorem dX12_ranked_33 : decode cX12_ranked 33 = .ok (.invokevirtual 67, 3) := by decide +kernel
theorem dX12_ranked_36 : decode cX12_ranked 36 = .ok (.aload_n 0, 1) := by decide +kernel
theorem dX12_ranked_37 : decode cX12_ranked 37 = .ok (.iload 5, 2) := by decide +kernel
theorem dX12_ranked_39 : decode cX12_ranked 39 = .ok (.invokevirtual 67, 3) := by decide +kernel
theorem dX12_ranked_42 : decode cX12_ranked 42 = .ok (.isub, 1) := by decide +kernel
theorem dX12_ranked_43 : decode cX12_ranked 43 = .ok (.istore 6, 2) := by decide +kernel
theorem dX12_ranked_45 : decode cX12_ranked 45 = .ok (.iload 4, 2) := by decide +kernel
theorem dX12_ranked_47 : decode cX12_ranked 47 = .ok (.iload 6, 2) := by decide +kernel
theorem dX12_ranked_49 : decode cX12_ranked 49 = .ok (.ifCond .gt 24, 3) := by decide +kernel
theorem dX12_ranked_52 : decode cX12_ranked 52 = .ok (.iload 6, 2) := by decide +kernel
theorem dX12_ranked_54 : decode cX12_ranked 54 = .ok (.ifCond .ne 23, 3) := by decide +kernel
theorem dX12_ranked_57 : decode cX12_ranked 57 = .ok (.aload_n 0, 1) := by decide +kernel
theorem dX12_ranked_58 : decode cX12_ranked 58 = .ok (.iload 5, 2) := by decide +kernel
theorem dX12_ranked_60 : decode cX12_ranked 60 = .ok (.iconst 1, 1) := by decide +kernel
theorem dX12_ranked_61 : decode cX12_ranked 61 = .ok (.invokevirtual 64, 3) := by decide +kernel
theorem dX12_ranked_64 : decode cX12_ranked 64 = .ok (.aload_n 0, 1) := by decide +kernel
theorem dX12_ranked_65 : decode cX12_ranked 65 = .ok (.iload_n 3, 1) := by decide +kernel
theorem dX12_ranked_66 : decode cX12_ranked 66 = .ok (.iconst 1, 1) := by decide +kernel
theorem dX12_ranked_67 : decode cX12_ranked 67 = .ok (.invokevirtual 64, 3) := by decide +kernel
theorem dX12_ranked_70 : decode cX12_ranked 70 = .ok (.if_icmp .ge 7, 3) := by decide +kernel
theorem dX12_ranked_73 : decode cX12_ranked 73 = .ok (.iconst 1, 1) := by decide +kernel
theorem dX12_ranked_74 : decode cX12_ranked 74 = .ok (.goto 4, 3) := by decide +kernel
theorem dX12_ranked_77 : decode cX12_ranked 77 = .ok (.iconst 0, 1) := by decide +kernel
theorem dX12_ranked_78 : decode cX12_ranked 78 = .ok (.iadd, 1) := by decide +kernel
theorem dX12_ranked_79 : decode cX12_ranked 79 = .ok (.istore 4, 2) := by decide +kernel
theorem dX12_ranked_81 : decode cX12_ranked 81 = .ok (.iinc 5 1, 3) := by decide +kernel
theorem dX12_ranked_84 : decode cX12_ranked 84 = .ok (.goto (-64), 3) := by decide +kernel
theorem dX12_ranked_87 : decode cX12_ranked 87 = .ok (.iload 4, 2) := by decide +kernel
theorem dX12_ranked_89 : decode cX12_ranked 89 = .ok (.iload_n 1, 1) := by decide +kernel
theorem dX12_ranked_90 : decode cX12_ranked 90 = .ok (.if_icmp .ne 7, 3) := by decide +kernel
theorem dX12_ranked_93 : decode cX12_ranked 93 = .ok (.iload_n 3, 1) := by decide +kernel
theorem dX12_ranked_94 : decode cX12_ranked 94 = .ok (.goto 4, 3) := by decide +kernel
theorem dX12_ranked_97 : decode cX12_ranked 97 = .ok (.iload_n 2, 1) := by decide +kernel
theorem dX12_ranked_98 : decode cX12_ranked 98 = .ok (.istore_n 2, 1) := by decide +kernel
theorem dX12_ranked_99 : decode cX12_ranked 99 = .ok (.iinc 3 1, 3) := by decide +kernel
theorem dX12_ranked_102 : decode cX12_ranked 102 = .ok (.goto (-98), 3) := by decide +kernel
theorem dX12_ranked_105 : decode cX12_ranked 105 = .ok (.iload_n 2, 1) := by decide +kernel
theorem dX12_ranked_106 : decode cX12_ranked 106 = .ok (.ireturn, 1) := by decide +kernel
theorem dX12_bookingByStart_0 : decode cX12_bookingByStart 0 = .ok (.aload_n 0, 1) := by decide +kernel
theorem dX12_bookingByStart_1 : decode cX12_bookingByStart 1 = .ok (.aload_n 0, 1) := by decide +kernel
theorem dX12_bookingByStart_2 : decode cX12_bookingByStart 2 = .ok (.iload_n 1, 1) := by decide +kernel
theorem dX12_bookingByStart_3 : decode cX12_bookingByStart 3 = .ok (.invokevirtual 120, 3) := by decide +kernel
theorem dX12_bookingByStart_6 : decode cX12_bookingByStart 6 = .ok (.invokevirtual 157, 3) := by decide +kernel
theorem dX12_bookingByStart_9 : decode cX12_bookingByStart 9 = .ok (.ifCond .eq 11, 3) := by decide +kernel
theorem dX12_bookingByStart_12 : decode cX12_bookingByStart 12 = .ok (.aload_n 0, 1) := by decide +kernel
theorem dX12_bookingByStart_13 : decode cX12_bookingByStart 13 = .ok (.iload_n 1, 1) := by decide +kernel
theorem dX12_bookingByStart_14 : decode cX12_bookingByStart 14 = .ok (.invokevirtual 161, 3) := by decide +kernel
theorem dX12_bookingByStart_17 : decode cX12_bookingByStart 17 = .ok (.goto 4, 3) := by decide +kernel
theorem dX12_bookingByStart_20 : decode cX12_bookingByStart 20 = .ok (.iconst 0, 1) := by decide +kernel
theorem dX12_bookingByStart_21 : decode cX12_bookingByStart 21 = .ok (.ireturn, 1) := by decide +kernel
theorem dX12_isFree_0 : decode cX12_isFree 0 = .ok (.aload_n 0, 1) := by decide +kernel
theorem dX12_isFree_1 : decode cX12_isFree 1 = .ok (.aload_n 0, 1) := by decide +kernel
theorem dX12_isFree_2 : decode cX12_isFree 2 = .ok (.iload_n 1, 1) := by decide +kernel
theorem dX12_isFree_3 : decode cX12_isFree 3 = .ok (.invokevirtual 101, 3) := by decide +kernel
theorem dX12_isFree_6 : decode cX12_isFree 6 = .ok (.ifCond .ne 7, 3) := by decide +kernel
theorem dX12_isFree_9 : decode cX12_isFree 9 = .ok (.iconst 1, 1) := by decide +kernel
theorem dX12_isFree_10 : decode cX12_isFree 10 = .ok (.goto 16, 3) := by decide +kernel
theorem dX12_isFree_13 : decode cX12_isFree 13 = .ok (.aload_n 0, 1) := by decide +kernel
theorem dX12_isFree_14 : decode cX12_isFree 14 = .ok (.iload_n 2, 1) := by decide +kernel
theorem dX12_isFree_15 : decode cX12_isFree 15 = .ok (.invokevirtual 104, 3) := by decide +kernel
theorem dX12_isFree_18 : decode cX12_isFree 18 = .ok (.ifCond .ne 7, 3) := by decide +kernel
theorem dX12_isFree_21 : decode cX12_isFree 21 = .ok (.iconst 2, 1) := by decide +kernel
theorem dX12_isFree_22 : decode cX12_isFree 22 = .ok (.goto 4, 3) := by decide +kernel
theorem dX12_isFree_25 : decode cX12_isFree 25 = .ok (.iconst 0, 1) := by decide +kernel
theorem dX12_isFree_26 : decode cX12_isFree 26 = .ok (.putfield 39, 3) := by decide +kernel
theorem dX12_isFree_29 : decode cX12_isFree 29 = .ok (.aload_n 0, 1) := by decide +kernel
theorem dX12_isFree_30 : decode cX12_isFree 30 = .ok (.getfield 39, 3) := by decide +kernel
theorem dX12_isFree_33 : decode cX12_isFree 33 = .ok (.ifCond .ne 17, 3) := by decide +kernel
theorem dX12_isFree_36 : decode cX12_isFree 36 = .ok (.aload_n 0, 1) := by decide +kernel
theorem dX12_isFree_37 : decode cX12_isFree 37 = .ok (.iconst (-1), 1) := by decide +kernel
theorem dX12_isFree_38 : decode cX12_isFree 38 = .ok (.iload_n 1, 1) := by decide +kernel
theorem dX12_isFree_39 : decode cX12_isFree 39 = .ok (.iload_n 2, 1) := by decide +kernel
theorem dX12_isFree_40 : decode cX12_isFree 40 = .ok (.invokevirtual 110, 3) := by decide +kernel
theorem dX12_isFree_43 : decode cX12_isFree 43 = .ok (.ifCond .ne 7, 3) := by decide +kernel
theorem dX12_isFree_46 : decode cX12_isFree 46 = .ok (.iconst 1, 1) := by decide +kernel
theorem dX12_isFree_47 : decode cX12_isFree 47 = .ok (.goto 4, 3) := by decide +kernel
theorem dX12_isFree_50 : decode cX12_isFree 50 = .ok (.iconst 0, 1) := by decide +kernel
theorem dX12_isFree_51 : decode cX12_isFree 51 = .ok (.ireturn, 1) := by decide +kernel
theorem dX12_firstFree_0 : decode cX12_firstFree 0 = .ok (.aload_n 0, 1) := by decide +kernel
theorem dX12_firstFree_1 : decode cX12_firstFree 1 = .ok (.aload_n 0, 1) := by decide +kernel
theorem dX12_firstFree_2 : decode cX12_firstFree 2 = .ok (.iload_n 1, 1) := by decide +kernel
theorem dX12_firstFree_3 : decode cX12_firstFree 3 = .ok (.invokevirtual 101, 3) := by decide +kernel
theorem dX12_firstFree_6 : decode cX12_firstFree 6 = .ok (.ifCond .ne 7, 3) := by decide +kernel
theorem dX12_firstFree_9 : decode cX12_firstFree 9 = .ok (.iconst 1, 1) := by decide +kernel
theorem dX12_firstFree_10 : decode cX12_firstFree 10 = .ok (.goto 16, 3) := by decide +kernel
theorem dX12_firstFree_13 : decode cX12_firstFree 13 = .ok (.aload_n 0, 1) := by decide +kernel
theorem dX12_firstFree_14 : decode cX12_firstFree 14 = .ok (.iload_n 2, 1) := by decide +kernel
theorem dX12_firstFree_15 : decode cX12_firstFree 15 = .ok (.invokevirtual 104, 3) := by decide +kernel
theorem dX12_firstFree_18 : decode cX12_firstFree 18 = .ok (.ifCond .ne 7, 3) := by decide +kernel
theorem dX12_firstFree_21 : decode cX12_firstFree 21 = .ok (.iconst 2, 1) := by decide +kernel
theorem dX12_firstFree_22 : decode cX12_firstFree 22 = .ok (.goto 4, 3) := by decide +kernel
theorem dX12_firstFree_25 : decode cX12_firstFree 25 = .ok (.iconst 0, 1) := by decide +kernel
theorem dX12_firstFree_26 : decode cX12_firstFree 26 = .ok (.putfield 39, 3) := by decide +kernel
theorem dX12_firstFree_29 : decode cX12_firstFree 29 = .ok (.aload_n 0, 1) := by decide +kernel
theorem dX12_firstFree_30 : decode cX12_firstFree 30 = .ok (.getfield 39, 3) := by decide +kernel
theorem dX12_firstFree_33 : decode cX12_firstFree 33 = .ok (.ifCond .le 5, 3) := by decide +kernel
theorem dX12_firstFree_36 : decode cX12_firstFree 36 = .ok (.iconst 0, 1) := by decide +kernel
theorem dX12_firstFree_37 : decode cX12_firstFree 37 = .ok (.ireturn, 1) := by decide +kernel
theorem dX12_firstFree_38 : decode cX12_firstFree 38 = .ok (.iload_n 2, 1) := by decide +kernel
theorem dX12_firstFree_39 : decode cX12_firstFree 39 = .ok (.istore_n 3, 1) := by decide +kernel
theorem dX12_firstFree_40 : decode cX12_firstFree 40 = .ok (.aload_n 0, 1) := by decide +kernel
theorem dX12_firstFree_41 : decode cX12_firstFree 41 = .ok (.iload_n 3, 1) := by decide +kernel
theorem dX12_firstFree_42 : decode cX12_firstFree 42 = .ok (.invokevirtual 104, 3) := by decide +kernel
theorem dX12_firstFree_45 : decode cX12_firstFree 45 = .ok (.ifCond .eq 19, 3) := by decide +kernel
theorem dX12_firstFree_48 : decode cX12_firstFree 48 = .ok (.aload_n 0, 1) := by decide +kernel
theorem dX12_firstFree_49 : decode cX12_firstFree 49 = .ok (.iconst (-1), 1) := by decide +kernel
theorem dX12_firstFree_50 : decode cX12_firstFree 50 = .ok (.iload_n 1, 1) := by decide +kernel
theorem dX12_firstFree_51 : decode cX12_firstFree 51 = .ok (.iload_n 3, 1) := by decide +kernel
theorem dX12_firstFree_52 : decode cX12_firstFree 52 = .ok (.invokevirtual 110, 3) := by decide +kernel
theorem dX12_firstFree_55 : decode cX12_firstFree 55 = .ok (.ifCond .eq 9, 3) := by decide +kernel
theorem dX12_firstFree_58 : decode cX12_firstFree 58 = .ok (.iinc 3 1, 3) := by decide +kernel
theorem dX12_firstFree_61 : decode cX12_firstFree 61 = .ok (.goto (-21), 3) := by decide +kernel
theorem dX12_firstFree_64 : decode cX12_firstFree 64 = .ok (.aload_n 0, 1) := by decide +kernel
theorem dX12_firstFree_65 : decode cX12_firstFree 65 = .ok (.aload_n 0, 1) := by decide +kernel
theorem dX12_firstFree_66 : decode cX12_firstFree 66 = .ok (.iload_n 3, 1) := by decide +kernel
theorem dX12_firstFree_67 : decode cX12_firstFree 67 = .ok (.invokevirtual 104, 3) := by decide +kernel
theorem dX12_firstFree_70 : decode cX12_firstFree 70 = .ok (.ifCond .eq 7, 3) := by decide +kernel
theorem dX12_firstFree_73 : decode cX12_firstFree 73 = .ok (.iconst 0, 1) := by decide +kernel
theorem dX12_firstFree_74 : decode cX12_firstFree 74 = .ok (.goto 4, 3) := by decide +kernel
theorem dX12_firstFree_77 : decode cX12_firstFree 77 = .ok (.iconst 3, 1) := by decide +kernel
theorem dX12_firstFree_78 : decode cX12_firstFree 78 = .ok (.putfield 39, 3) := by decide +kernel
theorem dX12_firstFree_81 : decode cX12_firstFree 81 = .ok (.aload_n 0, 1) := by decide +kernel
theorem dX12_firstFree_82 : decode cX12_firstFree 82 = .ok (.getfield 39, 3) := by decide +kernel
theorem dX12_firstFree_85 : decode cX12_firstFree 85 = .ok (.ifCond .le 7, 3) := by decide +kernel
theorem dX12_firstFree_88 : decode cX12_firstFree 88 = .ok (.iconst 0, 1) := by decide +kernel
theorem dX12_firstFree_89 : decode cX12_firstFree 89 = .ok (.goto 4, 3) := by decide +kernel
theorem dX12_firstFree_92 : decode cX12_firstFree 92 = .ok (.iload_n 3, 1) := by decide +kernel
theorem dX12_firstFree_93 : decode cX12_firstFree 93 = .ok (.ireturn, 1) := by decide +kernel
theorem dX12_firstFreeByGaps_0 : decode cX12_firstFreeByGaps 0 = .ok (.aload_n 0, 1) := by decide +kernel
theorem dX12_firstFreeByGaps_1 : decode cX12_firstFreeByGaps 1 = .ok (.iload_n 1, 1) := by decide +kernel
theorem dX12_firstFreeByGaps_2 : decode cX12_firstFreeByGaps 2 = .ok (.iload_n 2, 1) := by decide +kernel
theorem dX12_firstFreeByGaps_3 : decode cX12_firstFreeByGaps 3 = .ok (.invokevirtual 164, 3) := by decide +kernel
theorem dX12_firstFreeByGaps_6 : decode cX12_firstFreeByGaps 6 = .ok (.ireturn, 1) := by decide +kernel
theorem dX12_mostWatched_0 : decode cX12_mostWatched 0 = .ok (.aload_n 0, 1) := by decide +kernel
theorem dX12_mostWatched_1 : decode cX12_mostWatched 1 = .ok (.iconst 0, 1) := by decide +kernel
theorem dX12_mostWatched_2 : decode cX12_mostWatched 2 = .ok (.putfield 39, 3) := by decide +kernel
theorem dX12_mostWatched_5 : decode cX12_mostWatched 5 = .ok (.iconst 0, 1) := by decide +kernel
theorem dX12_mostWatched_6 : decode cX12_mostWatched 6 = .ok (.istore_n 1, 1) := by decide +kernel
theorem dX12_mostWatched_7 : decode cX12_mostWatched 7 = .ok (.iconst (-1), 1) := by decide +kernel
theorem dX12_mostWatched_8 : decode cX12_mostWatched 8 = .ok (.istore_n 2, 1) := by decide +kernel
theorem dX12_mostWatched_9 : decode cX12_mostWatched 9 = .ok (.iconst 1, 1) := by decide +kernel
theorem dX12_mostWatched_10 : decode cX12_mostWatched 10 = .ok (.istore_n 3, 1) := by decide +kernel
theorem dX12_mostWatched_11 : decode cX12_mostWatched 11 = .ok (.iload_n 3, 1) := by decide +kernel
theorem dX12_mostWatched_12 : decode cX12_mostWatched 12 = .ok (.ifCond .eq 86, 3) := by decide +kernel
theorem dX12_mostWatched_15 : decode cX12_mostWatched 15 = .ok (.ldc 169, 2) := by decide +kernel
theorem dX12_mostWatched_17 : decode cX12_mostWatched 17 = .ok (.istore 4, 2) := by decide +kernel
theorem dX12_mostWatched_19 : decode cX12_mostWatched 19 = .ok (.iconst 0, 1) := by decide +kernel
theorem dX12_mostWatched_20 : decode cX12_mostWatched 20 = .ok (.istore 5, 2) := by decide +kernel
theorem dX12_mostWatched_22 : decode cX12_mostWatched 22 = .ok (.iload 5, 2) := by decide +kernel
theorem dX12_mostWatched_24 : decode cX12_mostWatched 24 = .ok (.aload_n 0, 1) := by decide +kernel
theorem dX12_mostWatched_25 : decode cX12_mostWatched 25 = .ok (.getfield 9, 3) := by decide +kernel
theorem dX12_mostWatched_28 : decode cX12_mostWatched 28 = .ok (.iconst 2, 1) := by decide +kernel
theorem dX12_mostWatched_29 : decode cX12_mostWatched 29 = .ok (.iaload, 1) := by decide +kernel
theorem dX12_mostWatched_30 : decode cX12_mostWatched 30 = .ok (.if_icmp .ge 37, 3) := by decide +kernel
theorem dX12_mostWatched_33 : decode cX12_mostWatched 33 = .ok (.aload_n 0, 1) := by decide +kernel
theorem dX12_mostWatched_34 : decode cX12_mostWatched 34 = .ok (.iload 5, 2) := by decide +kernel
theorem dX12_mostWatched_36 : decode cX12_mostWatched 36 = .ok (.invokevirtual 67, 3) := by decide +kernel
theorem dX12_mostWatched_39 : decode cX12_mostWatched 39 = .ok (.iload_n 2, 1) := by decide +kernel
theorem dX12_mostWatched_40 : decode cX12_mostWatched 40 = .ok (.if_icmp .lt 17, 3) := by decide +kernel
theorem dX12_mostWatched_43 : decode cX12_mostWatched 43 = .ok (.iload 4, 2) := by decide +kernel
theorem dX12_mostWatched_45 : decode cX12_mostWatched 45 = .ok (.aload_n 0, 1) := by decide +kernel
theorem dX12_mostWatched_46 : decode cX12_mostWatched 46 = .ok (.iload 5, 2) := by decide +kernel
theorem dX12_mostWatched_48 : decode cX12_mostWatched 48 = .ok (.invokevirtual 90, 3) := by decide +kernel
theorem dX12_mostWatched_51 : decode cX12_mostWatched 51 = .ok (.invokestatic 55, 3) := by decide +kernel
theorem dX12_mostWatched_54 : decode cX12_mostWatched 54 = .ok (.goto 5, 3) := by decide +kernel
theorem dX12_mostWatched_57 : decode cX12_mostWatched 57 = .ok (.iload 4, 2) := by decide +kernel
theorem dX12_mostWatched_59 : decode cX12_mostWatched 59 = .ok (.istore 4, 2) := by decide +kernel
theorem dX12_mostWatched_61 : decode cX12_mostWatched 61 = .ok (.iinc 5 1, 3) := by decide +kernel
theorem dX12_mostWatched_64 : decode cX12_mostWatched 64 = .ok (.goto (-42), 3) := by decide +kernel
theorem dX12_mostWatched_67 : decode cX12_mostWatched 67 = .ok (.iload 4, 2) := by decide +kernel
theorem dX12_mostWatched_69 : decode cX12_mostWatched 69 = .ok (.ldc 169, 2) := by decide +kernel
theorem dX12_mostWatched_71 : decode cX12_mostWatched 71 = .ok (.if_icmp .ge 7, 3) := by decide +kernel
theorem dX12_mostWatched_74 : decode cX12_mostWatched 74 = .ok (.iconst 1, 1) := by decide +kernel
theorem dX12_mostWatched_75 : decode cX12_mostWatched 75 = .ok (.goto 4, 3) := by decide +kernel
theorem dX12_mostWatched_78 : decode cX12_mostWatched 78 = .ok (.iconst 0, 1) := by decide +kernel
theorem dX12_mostWatched_79 : decode cX12_mostWatched 79 = .ok (.istore_n 3, 1) := by decide +kernel
theorem dX12_mostWatched_80 : decode cX12_mostWatched 80 = .ok (.iload_n 1, 1) := by decide +kernel
theorem dX12_mostWatched_81 : decode cX12_mostWatched 81 = .ok (.iload_n 3, 1) := by decide +kernel
theorem dX12_mostWatched_82 : decode cX12_mostWatched 82 = .ok (.ifCond .eq 7, 3) := by decide +kernel
theorem dX12_mostWatched_85 : decode cX12_mostWatched 85 = .ok (.iconst 1, 1) := by decide +kernel
theorem dX12_mostWatched_86 : decode cX12_mostWatched 86 = .ok (.goto 4, 3) := by decide +kernel
theorem dX12_mostWatched_89 : decode cX12_mostWatched 89 = .ok (.iconst 0, 1) := by decide +kernel
theorem dX12_mostWatched_90 : decode cX12_mostWatched 90 = .ok (.iadd, 1) := by decide +kernel
theorem dX12_mostWatched_91 : decode cX12_mostWatched 91 = .ok (.istore_n 1, 1) := by decide +kernel
theorem dX12_mostWatched_92 : decode cX12_mostWatched 92 = .ok (.iload 4, 2) := by decide +kernel
theorem dX12_mostWatched_94 : decode cX12_mostWatched 94 = .ok (.istore_n 2, 1) := by decide +kernel
theorem dX12_mostWatched_95 : decode cX12_mostWatched 95 = .ok (.goto (-84), 3) := by decide +kernel
theorem dX12_mostWatched_98 : decode cX12_mostWatched 98 = .ok (.iload_n 1, 1) := by decide +kernel
theorem dX12_mostWatched_99 : decode cX12_mostWatched 99 = .ok (.ireturn, 1) := by decide +kernel
theorem dX12_mostWatchedByTable_0 : decode cX12_mostWatchedByTable 0 = .ok (.aload_n 0, 1) := by decide +kernel
theorem dX12_mostWatchedByTable_1 : decode cX12_mostWatchedByTable 1 = .ok (.invokevirtual 170, 3) := by decide +kernel
theorem dX12_mostWatchedByTable_4 : decode cX12_mostWatchedByTable 4 = .ok (.ireturn, 1) := by decide +kernel
theorem dX12_mostAtOnce_0 : decode cX12_mostAtOnce 0 = .ok (.aload_n 0, 1) := by decide +kernel
theorem dX12_mostAtOnce_1 : decode cX12_mostAtOnce 1 = .ok (.iconst 0, 1) := by decide +kernel
theorem dX12_mostAtOnce_2 : decode cX12_mostAtOnce 2 = .ok (.putfield 39, 3) := by decide +kernel
theorem dX12_mostAtOnce_5 : decode cX12_mostAtOnce 5 = .ok (.iconst 0, 1) := by decide +kernel
theorem dX12_mostAtOnce_6 : decode cX12_mostAtOnce 6 = .ok (.istore_n 1, 1) := by decide +kernel
theorem dX12_mostAtOnce_7 : decode cX12_mostAtOnce 7 = .ok (.iconst 0, 1) := by decide +kernel
theorem dX12_mostAtOnce_8 : decode cX12_mostAtOnce 8 = .ok (.istore_n 2, 1) := by decide +kernel
theorem dX12_mostAtOnce_9 : decode cX12_mostAtOnce 9 = .ok (.iload_n 2, 1) := by decide +kernel
theorem dX12_mostAtOnce_10 : decode cX12_mostAtOnce 10 = .ok (.aload_n 0, 1) := by decide +kernel
theorem dX12_mostAtOnce_11 : decode cX12_mostAtOnce 11 = .ok (.getfield 9, 3) := by decide +kernel
theorem dX12_mostAtOnce_14 : decode cX12_mostAtOnce 14 = .ok (.iconst 2, 1) := by decide +kernel
theorem dX12_mostAtOnce_15 : decode cX12_mostAtOnce 15 = .ok (.iaload, 1) := by decide +kernel
theorem dX12_mostAtOnce_16 : decode cX12_mostAtOnce 16 = .ok (.if_icmp .ge 70, 3) := by decide +kernel
theorem dX12_mostAtOnce_19 : decode cX12_mostAtOnce 19 = .ok (.iconst 0, 1) := by decide +kernel
theorem dX12_mostAtOnce_20 : decode cX12_mostAtOnce 20 = .ok (.istore_n 3, 1) := by decide +kernel
theorem dX12_mostAtOnce_21 : decode cX12_mostAtOnce 21 = .ok (.iconst 0, 1) := by decide +kernel
theorem dX12_mostAtOnce_22 : decode cX12_mostAtOnce 22 = .ok (.istore 4, 2) := by decide +kernel
theorem dX12_mostAtOnce_24 : decode cX12_mostAtOnce 24 = .ok (.iload 4, 2) := by decide +kernel
theorem dX12_mostAtOnce_26 : decode cX12_mostAtOnce 26 = .ok (.aload_n 0, 1) := by decide +kernel
theorem dX12_mostAtOnce_27 : decode cX12_mostAtOnce 27 = .ok (.getfield 9, 3) := by decide +kernel
theorem dX12_mostAtOnce_30 : decode cX12_mostAtOnce 30 = .ok (.iconst 2, 1) := by decide +kernel
theorem dX12_mostAtOnce_31 : decode cX12_mostAtOnce 31 = .ok (.iaload, 1) := by decide +kernel
theorem dX12_mostAtOnce_32 : decode cX12_mostAtOnce 32 = .ok (.if_icmp .ge 42, 3) := by decide +kernel
theorem dX12_mostAtOnce_35 : decode cX12_mostAtOnce 35 = .ok (.iload_n 3, 1) := by decide +kernel
theorem dX12_mostAtOnce_36 : decode cX12_mostAtOnce 36 = .ok (.aload_n 0, 1) := by decide +kernel
theorem dX12_mostAtOnce_37 : decode cX12_mostAtOnce 37 = .ok (.iload_n 2, 1) := by decide +kernel
theorem dX12_mostAtOnce_38 : decode cX12_mostAtOnce 38 = .ok (.invokevirtual 67, 3) := by decide +kernel
theorem dX12_mostAtOnce_41 : decode cX12_mostAtOnce 41 = .ok (.aload_n 0, 1) := by decide +kernel
theorem dX12_mostAtOnce_42 : decode cX12_mostAtOnce 42 = .ok (.iload 4, 2) := by decide +kernel
theorem dX12_mostAtOnce_44 : decode cX12_mostAtOnce 44 = .ok (.invokevirtual 67, 3) := by decide +kernel
theorem dX12_mostAtOnce_47 : decode cX12_mostAtOnce 47 = .ok (.aload_n 0, 1) := by decide +kernel
theorem dX12_mostAtOnce_48 : decode cX12_mostAtOnce 48 = .ok (.iload 4, 2) := by decide +kernel
theorem dX12_mostAtOnce_50 : decode cX12_mostAtOnce 50 = .ok (.invokevirtual 90, 3) := by decide +kernel
theorem dX12_mostAtOnce_53 : decode cX12_mostAtOnce 53 = .ok (.iconst 1, 1) := by decide +kernel
theorem dX12_mostAtOnce_54 : decode cX12_mostAtOnce 54 = .ok (.isub, 1) := by decide +kernel
theorem dX12_mostAtOnce_55 : decode cX12_mostAtOnce 55 = .ok (.invokestatic 51, 3) := by decide +kernel
theorem dX12_mostAtOnce_58 : decode cX12_mostAtOnce 58 = .ok (.ifCond .eq 7, 3) := by decide +kernel
theorem dX12_mostAtOnce_61 : decode cX12_mostAtOnce 61 = .ok (.iconst 1, 1) := by decide +kernel
theorem dX12_mostAtOnce_62 : decode cX12_mostAtOnce 62 = .ok (.goto 4, 3) := by decide +kernel
theorem dX12_mostAtOnce_65 : decode cX12_mostAtOnce 65 = .ok (.iconst 0, 1) := by decide +kernel
theorem dX12_mostAtOnce_66 : decode cX12_mostAtOnce 66 = .ok (.iadd, 1) := by decide +kernel
theorem dX12_mostAtOnce_67 : decode cX12_mostAtOnce 67 = .ok (.istore_n 3, 1) := by decide +kernel
theorem dX12_mostAtOnce_68 : decode cX12_mostAtOnce 68 = .ok (.iinc 4 1, 3) := by decide +kernel
theorem dX12_mostAtOnce_71 : decode cX12_mostAtOnce 71 = .ok (.goto (-47), 3) := by decide +kernel
theorem dX12_mostAtOnce_74 : decode cX12_mostAtOnce 74 = .ok (.iload_n 1, 1) := by decide +kernel
theorem dX12_mostAtOnce_75 : decode cX12_mostAtOnce 75 = .ok (.iload_n 3, 1) := by decide +kernel
theorem dX12_mostAtOnce_76 : decode cX12_mostAtOnce 76 = .ok (.invokestatic 61, 3) := by decide +kernel
theorem dX12_mostAtOnce_79 : decode cX12_mostAtOnce 79 = .ok (.istore_n 1, 1) := by decide +kernel
theorem dX12_mostAtOnce_80 : decode cX12_mostAtOnce 80 = .ok (.iinc 2 1, 3) := by decide +kernel
theorem dX12_mostAtOnce_83 : decode cX12_mostAtOnce 83 = .ok (.goto (-74), 3) := by decide +kernel
theorem dX12_mostAtOnce_86 : decode cX12_mostAtOnce 86 = .ok (.iload_n 1, 1) := by decide +kernel
theorem dX12_mostAtOnce_87 : decode cX12_mostAtOnce 87 = .ok (.ireturn, 1) := by decide +kernel
theorem dX12_mostAtOnceBySweep_0 : decode cX12_mostAtOnceBySweep 0 = .ok (.aload_n 0, 1) := by decide +kernel
theorem dX12_mostAtOnceBySweep_1 : decode cX12_mostAtOnceBySweep 1 = .ok (.invokevirtual 173, 3) := by decide +kernel
theorem dX12_mostAtOnceBySweep_4 : decode cX12_mostAtOnceBySweep 4 = .ok (.ireturn, 1) := by decide +kernel
theorem dX12_finish_0 : decode cX12_finish 0 = .ok (.aload_n 0, 1) := by decide +kernel
theorem dX12_finish_1 : decode cX12_finish 1 = .ok (.iload_n 1, 1) := by decide +kernel
theorem dX12_finish_2 : decode cX12_finish 2 = .ok (.iconst 0, 1) := by decide +kernel
theorem dX12_finish_3 : decode cX12_finish 3 = .ok (.aload_n 0, 1) := by decide +kernel
theorem dX12_finish_4 : decode cX12_finish 4 = .ok (.getfield 9, 3) := by decide +kernel
theorem dX12_finish_7 : decode cX12_finish 7 = .ok (.iconst 4, 1) := by decide +kernel
theorem dX12_finish_8 : decode cX12_finish 8 = .ok (.iaload, 1) := by decide +kernel
theorem dX12_finish_9 : decode cX12_finish 9 = .ok (.iconst 1, 1) := by decide +kernel
theorem dX12_finish_10 : decode cX12_finish 10 = .ok (.isub, 1) := by decide +kernel
theorem dX12_finish_11 : decode cX12_finish 11 = .ok (.invokestatic 51, 3) := by decide +kernel
theorem dX12_finish_14 : decode cX12_finish 14 = .ok (.invokevirtual 157, 3) := by decide +kernel
theorem dX12_finish_17 : decode cX12_finish 17 = .ok (.ifCond .eq 19, 3) := by decide +kernel
theorem dX12_finish_20 : decode cX12_finish 20 = .ok (.aload_n 0, 1) := by decide +kernel
theorem dX12_finish_21 : decode cX12_finish 21 = .ok (.getfield 9, 3) := by decide +kernel
theorem dX12_finish_24 : decode cX12_finish 24 = .ok (.bipush 110, 2) := by decide +kernel
theorem dX12_finish_26 : decode cX12_finish 26 = .ok (.iconst 3, 1) := by decide +kernel
theorem dX12_finish_27 : decode cX12_finish 27 = .ok (.iload_n 1, 1) := by decide +kernel
theorem dX12_finish_28 : decode cX12_finish 28 = .ok (.imul, 1) := by decide +kernel
theorem dX12_finish_29 : decode cX12_finish 29 = .ok (.iadd, 1) := by decide +kernel
theorem dX12_finish_30 : decode cX12_finish 30 = .ok (.iload_n 2, 1) := by decide +kernel
theorem dX12_finish_31 : decode cX12_finish 31 = .ok (.iadd, 1) := by decide +kernel
theorem dX12_finish_32 : decode cX12_finish 32 = .ok (.iaload, 1) := by decide +kernel
theorem dX12_finish_33 : decode cX12_finish 33 = .ok (.goto 4, 3) := by decide +kernel
theorem dX12_finish_36 : decode cX12_finish 36 = .ok (.iconst 0, 1) := by decide +kernel
theorem dX12_finish_37 : decode cX12_finish 37 = .ok (.ireturn, 1) := by decide +kernel
theorem dX12_finishCount_0 : decode cX12_finishCount 0 = .ok (.aload_n 0, 1) := by decide +kernel
theorem dX12_finishCount_1 : decode cX12_finishCount 1 = .ok (.iconst 0, 1) := by decide +kernel
theorem dX12_finishCount_2 : decode cX12_finishCount 2 = .ok (.putfield 39, 3) := by decide +kernel
theorem dX12_finishCount_5 : decode cX12_finishCount 5 = .ok (.aload_n 0, 1) := by decide +kernel
theorem dX12_finishCount_6 : decode cX12_finishCount 6 = .ok (.getfield 9, 3) := by decide +kernel
theorem dX12_finishCount_9 : decode cX12_finishCount 9 = .ok (.iconst 4, 1) := by decide +kernel
theorem dX12_finishCount_10 : decode cX12_finishCount 10 = .ok (.iaload, 1) := by decide +kernel
theorem dX12_finishCount_11 : decode cX12_finishCount 11 = .ok (.ireturn, 1) := by decide +kernel
theorem dX12_finishedGuest_0 : decode cX12_finishedGuest 0 = .ok (.aload_n 0, 1) := by decide +kernel
theorem dX12_finishedGuest_1 : decode cX12_finishedGuest 1 = .ok (.iload_n 1, 1) := by decide +kernel
theorem dX12_finishedGuest_2 : decode cX12_finishedGuest 2 = .ok (.iconst 0, 1) := by decide +kernel
theorem dX12_finishedGuest_3 : decode cX12_finishedGuest 3 = .ok (.invokevirtual 176, 3) := by decide +kernel
theorem dX12_finishedGuest_6 : decode cX12_finishedGuest 6 = .ok (.ireturn, 1) := by decide +kernel
theorem dX12_finishedSlide_0 : decode cX12_finishedSlide 0 = .ok (.aload_n 0, 1) := by decide +kernel
theorem dX12_finishedSlide_1 : decode cX12_finishedSlide 1 = .ok (.iload_n 1, 1) := by decide +kernel
theorem dX12_finishedSlide_2 : decode cX12_finishedSlide 2 = .ok (.iconst 1, 1) := by decide +kernel
theorem dX12_finishedSlide_3 : decode cX12_finishedSlide 3 = .ok (.invokevirtual 176, 3) := by decide +kernel
theorem dX12_finishedSlide_6 : decode cX12_finishedSlide 6 = .ok (.ireturn, 1) := by decide +kernel
theorem dX12_finishMinute_0 : decode cX12_finishMinute 0 = .ok (.aload_n 0, 1) := by decide +kernel
theorem dX12_finishMinute_1 : decode cX12_finishMinute 1 = .ok (.iload_n 1, 1) := by decide +kernel
theorem dX12_finishMinute_2 : decode cX12_finishMinute 2 = .ok (.iconst 2, 1) := by decide +kernel
theorem dX12_finishMinute_3 : decode cX12_finishMinute 3 = .ok (.invokevirtual 176, 3) := by decide +kernel
theorem dX12_finishMinute_6 : decode cX12_finishMinute 6 = .ok (.ireturn, 1) := by decide +kernel
theorem dX12_photoFinishes_0 : decode cX12_photoFinishes 0 = .ok (.aload_n 0, 1) := by decide +kernel
theorem dX12_photoFinishes_1 : decode cX12_photoFinishes 1 = .ok (.iconst 0, 1) := by decide +kernel
theorem dX12_photoFinishes_2 : decode cX12_photoFinishes 2 = .ok (.putfield 39, 3) := by decide +kernel
theorem dX12_photoFinishes_5 : decode cX12_photoFinishes 5 = .ok (.iconst 0, 1) := by decide +kernel
theorem dX12_photoFinishes_6 : decode cX12_photoFinishes 6 = .ok (.istore_n 1, 1) := by decide +kernel
theorem dX12_photoFinishes_7 : decode cX12_photoFinishes 7 = .ok (.iconst 0, 1) := by decide +kernel
theorem dX12_photoFinishes_8 : decode cX12_photoFinishes 8 = .ok (.istore_n 2, 1) := by decide +kernel
theorem dX12_photoFinishes_9 : decode cX12_photoFinishes 9 = .ok (.iload_n 2, 1) := by decide +kernel
theorem dX12_photoFinishes_10 : decode cX12_photoFinishes 10 = .ok (.aload_n 0, 1) := by decide +kernel
theorem dX12_photoFinishes_11 : decode cX12_photoFinishes 11 = .ok (.getfield 9, 3) := by decide +kernel
theorem dX12_photoFinishes_14 : decode cX12_photoFinishes 14 = .ok (.iconst 4, 1) := by decide +kernel
theorem dX12_photoFinishes_15 : decode cX12_photoFinishes 15 = .ok (.iaload, 1) := by decide +kernel
theorem dX12_photoFinishes_16 : decode cX12_photoFinishes 16 = .ok (.if_icmp .ge 59, 3) := by decide +kernel
theorem dX12_photoFinishes_19 : decode cX12_photoFinishes 19 = .ok (.iconst 0, 1) := by decide +kernel
theorem dX12_photoFinishes_20 : decode cX12_photoFinishes 20 = .ok (.istore_n 3, 1) := by decide +kernel
theorem dX12_photoFinishes_21 : decode cX12_photoFinishes 21 = .ok (.iload_n 3, 1) := by decide +kernel
theorem dX12_photoFinishes_22 : decode cX12_photoFinishes 22 = .ok (.iload_n 2, 1) := by decide +kernel
theorem dX12_photoFinishes_23 : decode cX12_photoFinishes 23 = .ok (.if_icmp .ge 46, 3) := by decide +kernel
theorem dX12_photoFinishes_26 : decode cX12_photoFinishes 26 = .ok (.iload_n 1, 1) := by decide +kernel
theorem dX12_photoFinishes_27 : decode cX12_photoFinishes 27 = .ok (.aload_n 0, 1) := by decide +kernel
theorem dX12_photoFinishes_28 : decode cX12_photoFinishes 28 = .ok (.getfield 9, 3) := by decide +kernel
theorem dX12_photoFinishes_31 : decode cX12_photoFinishes 31 = .ok (.bipush 110, 2) := by decide +kernel
theorem dX12_photoFinishes_33 : decode cX12_photoFinishes 33 = .ok (.iconst 3, 1) := by decide +kernel
theorem dX12_photoFinishes_34 : decode cX12_photoFinishes 34 = .ok (.iload_n 2, 1) := by decide +kernel
theorem dX12_photoFinishes_35 : decode cX12_photoFinishes 35 = .ok (.imul, 1) := by decide +kernel
theorem dX12_photoFinishes_36 : decode cX12_photoFinishes 36 = .ok (.iadd, 1) := by decide +kernel
theorem dX12_photoFinishes_37 : decode cX12_photoFinishes 37 = .ok (.iconst 2, 1) := by decide +kernel
theorem dX12_photoFinishes_38 : decode cX12_photoFinishes 38 = .ok (.iadd, 1) := by decide +kernel
theorem dX12_photoFinishes_39 : decode cX12_photoFinishes 39 = .ok (.iaload, 1) := by decide +kernel
theorem dX12_photoFinishes_40 : decode cX12_photoFinishes 40 = .ok (.aload_n 0, 1) := by decide +kernel
theorem dX12_photoFinishes_41 : decode cX12_photoFinishes 41 = .ok (.getfield 9, 3) := by decide +kernel
theorem dX12_photoFinishes_44 : decode cX12_photoFinishes 44 = .ok (.bipush 110, 2) := by decide +kernel
theorem dX12_photoFinishes_46 : decode cX12_photoFinishes 46 = .ok (.iconst 3, 1) := by decide +kernel
theorem dX12_photoFinishes_47 : decode cX12_photoFinishes 47 = .ok (.iload_n 3, 1) := by decide +kernel
theorem dX12_photoFinishes_48 : decode cX12_photoFinishes 48 = .ok (.imul, 1) := by decide +kernel
theorem dX12_photoFinishes_49 : decode cX12_photoFinishes 49 = .ok (.iadd, 1) := by decide +kernel
theorem dX12_photoFinishes_50 : decode cX12_photoFinishes 50 = .ok (.iconst 2, 1) := by decide +kernel
theorem dX12_photoFinishes_51 : decode cX12_photoFinishes 51 = .ok (.iadd, 1) := by decide +kernel
theorem dX12_photoFinishes_52 : decode cX12_photoFinishes 52 = .ok (.iaload, 1) := by decide +kernel
theorem dX12_photoFinishes_53 : decode cX12_photoFinishes 53 = .ok (.if_icmp .ne 7, 3) := by decide +kernel
theorem dX12_photoFinishes_56 : decode cX12_photoFinishes 56 = .ok (.iconst 1, 1) := by decide +kernel
theorem dX12_photoFinishes_57 : decode cX12_photoFinishes 57 = .ok (.goto 4, 3) := by decide +kernel
theorem dX12_photoFinishes_60 : decode cX12_photoFinishes 60 = .ok (.iconst 0, 1) := by decide +kernel
theorem dX12_photoFinishes_61 : decode cX12_photoFinishes 61 = .ok (.iadd, 1) := by decide +kernel
theorem dX12_photoFinishes_62 : decode cX12_photoFinishes 62 = .ok (.istore_n 1, 1) := by decide +kernel
theorem dX12_photoFinishes_63 : decode cX12_photoFinishes 63 = .ok (.iinc 3 1, 3) := by decide +kernel
theorem dX12_photoFinishes_66 : decode cX12_photoFinishes 66 = .ok (.goto (-45), 3) := by decide +kernel
theorem dX12_photoFinishes_69 : decode cX12_photoFinishes 69 = .ok (.iinc 2 1, 3) := by decide +kernel
theorem dX12_photoFinishes_72 : decode cX12_photoFinishes 72 = .ok (.goto (-63), 3) := by decide +kernel
theorem dX12_photoFinishes_75 : decode cX12_photoFinishes 75 = .ok (.iload_n 1, 1) := by decide +kernel
theorem dX12_photoFinishes_76 : decode cX12_photoFinishes 76 = .ok (.ireturn, 1) := by decide +kernel
theorem dX12_photoFinishesByRuns_0 : decode cX12_photoFinishesByRuns 0 = .ok (.aload_n 0, 1) := by decide +kernel
theorem dX12_photoFinishesByRuns_1 : decode cX12_photoFinishesByRuns 1 = .ok (.invokevirtual 179, 3) := by decide +kernel
theorem dX12_photoFinishesByRuns_4 : decode cX12_photoFinishesByRuns 4 = .ok (.ireturn, 1) := by decide +kernel
theorem dX12_splashes_0 : decode cX12_splashes 0 = .ok (.aload_n 0, 1) := by decide +kernel
theorem dX12_splashes_1 : decode cX12_splashes 1 = .ok (.iconst 0, 1) := by decide +kernel
theorem dX12_splashes_2 : decode cX12_splashes 2 = .ok (.putfield 39, 3) := by decide +kernel
theorem dX12_splashes_5 : decode cX12_splashes 5 = .ok (.aload_n 0, 1) := by decide +kernel
theorem dX12_splashes_6 : decode cX12_splashes 6 = .ok (.getfield 9, 3) := by decide +kernel
theorem dX12_splashes_9 : decode cX12_splashes 9 = .ok (.iconst 5, 1) := by decide +kernel
theorem dX12_splashes_10 : decode cX12_splashes 10 = .ok (.iaload, 1) := by decide +kernel
theorem dX12_splashes_11 : decode cX12_splashes 11 = .ok (.ireturn, 1) := by decide +kernel
theorem dX12_refundedCoins_0 : decode cX12_refundedCoins 0 = .ok (.aload_n 0, 1) := by decide +kernel
theorem dX12_refundedCoins_1 : decode cX12_refundedCoins 1 = .ok (.iconst 0, 1) := by decide +kernel
theorem dX12_refundedCoins_2 : decode cX12_refundedCoins 2 = .ok (.putfield 39, 3) := by decide +kernel
theorem dX12_refundedCoins_5 : decode cX12_refundedCoins 5 = .ok (.aload_n 0, 1) := by decide +kernel
theorem dX12_refundedCoins_6 : decode cX12_refundedCoins 6 = .ok (.getfield 9, 3) := by decide +kernel
theorem dX12_refundedCoins_9 : decode cX12_refundedCoins 9 = .ok (.bipush 6, 2) := by decide +kernel
theorem dX12_refundedCoins_11 : decode cX12_refundedCoins 11 = .ok (.iaload, 1) := by decide +kernel
theorem dX12_refundedCoins_12 : decode cX12_refundedCoins 12 = .ok (.ireturn, 1) := by decide +kernel
theorem dX12_officeCoins_0 : decode cX12_officeCoins 0 = .ok (.aload_n 0, 1) := by decide +kernel
theorem dX12_officeCoins_1 : decode cX12_officeCoins 1 = .ok (.iconst 0, 1) := by decide +kernel
theorem dX12_officeCoins_2 : decode cX12_officeCoins 2 = .ok (.putfield 39, 3) := by decide +kernel
theorem dX12_officeCoins_5 : decode cX12_officeCoins 5 = .ok (.aload_n 0, 1) := by decide +kernel
theorem dX12_officeCoins_6 : decode cX12_officeCoins 6 = .ok (.getfield 9, 3) := by decide +kernel
theorem dX12_officeCoins_9 : decode cX12_officeCoins 9 = .ok (.bipush 7, 2) := by decide +kernel
theorem dX12_officeCoins_11 : decode cX12_officeCoins 11 = .ok (.iaload, 1) := by decide +kernel
theorem dX12_officeCoins_12 : decode cX12_officeCoins 12 = .ok (.ireturn, 1) := by decide +kernel
theorem dX12_rides_0 : decode cX12_rides 0 = .ok (.aload_n 0, 1) := by decide +kernel
theorem dX12_rides_1 : decode cX12_rides 1 = .ok (.aload_n 0, 1) := by decide +kernel
theorem dX12_rides_2 : decode cX12_rides 2 = .ok (.iload_n 1, 1) := by decide +kernel
theorem dX12_rides_3 : decode cX12_rides 3 = .ok (.invokevirtual 97, 3) := by decide +kernel
theorem dX12_rides_6 : decode cX12_rides 6 = .ok (.invokevirtual 157, 3) := by decide +kernel
theorem dX12_rides_9 : decode cX12_rides 9 = .ok (.ifCond .eq 12, 3) := by decide +kernel
theorem dX12_rides_12 : decode cX12_rides 12 = .ok (.aload_n 0, 1) := by decide +kernel
theorem dX12_rides_13 : decode cX12_rides 13 = .ok (.iload_n 1, 1) := by decide +kernel
theorem dX12_rides_14 : decode cX12_rides 14 = .ok (.iconst 1, 1) := by decide +kernel
theorem dX12_rides_15 : decode cX12_rides 15 = .ok (.invokevirtual 107, 3) := by decide +kernel
theorem dX12_rides_18 : decode cX12_rides 18 = .ok (.goto 4, 3) := by decide +kernel
theorem dX12_rides_21 : decode cX12_rides 21 = .ok (.iconst 0, 1) := by decide +kernel
theorem dX12_rides_22 : decode cX12_rides 22 = .ok (.ireturn, 1) := by decide +kernel
theorem dX12_guestByRides_0 : decode cX12_guestByRides 0 = .ok (.iconst 0, 1) := by decide +kernel
theorem dX12_guestByRides_1 : decode cX12_guestByRides 1 = .ok (.istore_n 2, 1) := by decide +kernel
theorem dX12_guestByRides_2 : decode cX12_guestByRides 2 = .ok (.aload_n 0, 1) := by decide +kernel
theorem dX12_guestByRides_3 : decode cX12_guestByRides 3 = .ok (.aload_n 0, 1) := by decide +kernel
theorem dX12_guestByRides_4 : decode cX12_guestByRides 4 = .ok (.iload_n 1, 1) := by decide +kernel
theorem dX12_guestByRides_5 : decode cX12_guestByRides 5 = .ok (.invokevirtual 97, 3) := by decide +kernel
theorem dX12_guestByRides_8 : decode cX12_guestByRides 8 = .ok (.invokevirtual 157, 3) := by decide +kernel
theorem dX12_guestByRides_11 : decode cX12_guestByRides 11 = .ok (.istore_n 3, 1) := by decide +kernel
theorem dX12_guestByRides_12 : decode cX12_guestByRides 12 = .ok (.iconst 0, 1) := by decide +kernel
theorem dX12_guestByRides_13 : decode cX12_guestByRides 13 = .ok (.istore 4, 2) := by decide +kernel
theorem dX12_guestByRides_15 : decode cX12_guestByRides 15 = .ok (.iload 4, 2) := by decide +kernel
theorem dX12_guestByRides_17 : decode cX12_guestByRides 17 = .ok (.aload_n 0, 1) := by decide +kernel
theorem dX12_guestByRides_18 : decode cX12_guestByRides 18 = .ok (.getfield 9, 3) := by decide +kernel
theorem dX12_guestByRides_21 : decode cX12_guestByRides 21 = .ok (.iconst 1, 1) := by decide +kernel
theorem dX12_guestByRides_22 : decode cX12_guestByRides 22 = .ok (.iaload, 1) := by decide +kernel
theorem dX12_guestByRides_23 : decode cX12_guestByRides 23 = .ok (.if_icmp .ge 120, 3) := by decide +kernel
theorem dX12_guestByRides_26 : decode cX12_guestByRides 26 = .ok (.iload_n 3, 1) := by decide +kernel
theorem dX12_guestByRides_27 : decode cX12_guestByRides 27 = .ok (.ifCond .eq 116, 3) := by decide +kernel
theorem dX12_guestByRides_30 : decode cX12_guestByRides 30 = .ok (.iconst 0, 1) := by decide +kernel
theorem dX12_guestByRides_31 : decode cX12_guestByRides 31 = .ok (.istore 5, 2) := by decide +kernel
theorem dX12_guestByRides_33 : decode cX12_guestByRides 33 = .ok (.iconst 0, 1) := by decide +kernel
theorem dX12_guestByRides_34 : decode cX12_guestByRides 34 = .ok (.istore 6, 2) := by decide +kernel
theorem dX12_guestByRides_36 : decode cX12_guestByRides 36 = .ok (.iload 6, 2) := by decide +kernel
theorem dX12_guestByRides_38 : decode cX12_guestByRides 38 = .ok (.aload_n 0, 1) := by decide +kernel
theorem dX12_guestByRides_39 : decode cX12_guestByRides 39 = .ok (.getfield 9, 3) := by decide +kernel
theorem dX12_guestByRides_42 : decode cX12_guestByRides 42 = .ok (.iconst 1, 1) := by decide +kernel
theorem dX12_guestByRides_43 : decode cX12_guestByRides 43 = .ok (.iaload, 1) := by decide +kernel
theorem dX12_guestByRides_44 : decode cX12_guestByRides 44 = .ok (.if_icmp .ge 80, 3) := by decide +kernel
theorem dX12_guestByRides_47 : decode cX12_guestByRides 47 = .ok (.aload_n 0, 1) := by decide +kernel
theorem dX12_guestByRides_48 : decode cX12_guestByRides 48 = .ok (.iload 6, 2) := by decide +kernel
theorem dX12_guestByRides_50 : decode cX12_guestByRides 50 = .ok (.iconst 1, 1) := by decide +kernel
theorem dX12_guestByRides_51 : decode cX12_guestByRides 51 = .ok (.invokevirtual 107, 3) := by decide +kernel
theorem dX12_guestByRides_54 : decode cX12_guestByRides 54 = .ok (.aload_n 0, 1) := by decide +kernel
theorem dX12_guestByRides_55 : decode cX12_guestByRides 55 = .ok (.iload 4, 2) := by decide +kernel
theorem dX12_guestByRides_57 : decode cX12_guestByRides 57 = .ok (.iconst 1, 1) := by decide +kernel
theorem dX12_guestByRides_58 : decode cX12_guestByRides 58 = .ok (.invokevirtual 107, 3) := by decide +kernel
theorem dX12_guestByRides_61 : decode cX12_guestByRides 61 = .ok (.isub, 1) := by decide +kernel
theorem dX12_guestByRides_62 : decode cX12_guestByRides 62 = .ok (.istore 7, 2) := by decide +kernel
theorem dX12_guestByRides_64 : decode cX12_guestByRides 64 = .ok (.aload_n 0, 1) := by decide +kernel
theorem dX12_guestByRides_65 : decode cX12_guestByRides 65 = .ok (.iload 6, 2) := by decide +kernel
theorem dX12_guestByRides_67 : decode cX12_guestByRides 67 = .ok (.iconst 0, 1) := by decide +kernel
theorem dX12_guestByRides_68 : decode cX12_guestByRides 68 = .ok (.invokevirtual 107, 3) := by decide +kernel
theorem dX12_guestByRides_71 : decode cX12_guestByRides 71 = .ok (.aload_n 0, 1) := by decide +kernel
theorem dX12_guestByRides_72 : decode cX12_guestByRides 72 = .ok (.iload 4, 2) := by decide +kernel
theorem dX12_guestByRides_74 : decode cX12_guestByRides 74 = .ok (.iconst 0, 1) := by decide +kernel
theorem dX12_guestByRides_75 : decode cX12_guestByRides 75 = .ok (.invokevirtual 107, 3) := by decide +kernel
theorem dX12_guestByRides_78 : decode cX12_guestByRides 78 = .ok (.isub, 1) := by decide +kernel
theorem dX12_guestByRides_79 : decode cX12_guestByRides 79 = .ok (.istore 8, 2) := by decide +kernel
theorem dX12_guestByRides_81 : decode cX12_guestByRides 81 = .ok (.iload 5, 2) := by decide +kernel
theorem dX12_guestByRides_83 : decode cX12_guestByRides 83 = .ok (.iload 7, 2) := by decide +kernel
theorem dX12_guestByRides_85 : decode cX12_guestByRides 85 = .ok (.ifCond .gt 25, 3) := by decide +kernel
theorem dX12_guestByRides_88 : decode cX12_guestByRides 88 = .ok (.iload 7, 2) := by decide +kernel
theorem dX12_guestByRides_90 : decode cX12_guestByRides 90 = .ok (.ifCond .ne 24, 3) := by decide +kernel
theorem dX12_guestByRides_93 : decode cX12_guestByRides 93 = .ok (.iload 8, 2) := by decide +kernel
theorem dX12_guestByRides_95 : decode cX12_guestByRides 95 = .ok (.ifCond .gt 15, 3) := by decide +kernel
theorem dX12_guestByRides_98 : decode cX12_guestByRides 98 = .ok (.iload 8, 2) := by decide +kernel
theorem dX12_guestByRides_100 : decode cX12_guestByRides 100 = .ok (.ifCond .ne 14, 3) := by decide +kernel
theorem dX12_guestByRides_103 : decode cX12_guestByRides 103 = .ok (.iload 6, 2) := by decide +kernel
theorem dX12_guestByRides_105 : decode cX12_guestByRides 105 = .ok (.iload 4, 2) := by decide +kernel
theorem dX12_guestByRides_107 : decode cX12_guestByRides 107 = .ok (.if_icmp .ge 7, 3) := by decide +kernel
theorem dX12_guestByRides_110 : decode cX12_guestByRides 110 = .ok (.iconst 1, 1) := by decide +kernel
theorem dX12_guestByRides_111 : decode cX12_guestByRides 111 = .ok (.goto 4, 3) := by decide +kernel
theorem dX12_guestByRides_114 : decode cX12_guestByRides 114 = .ok (.iconst 0, 1) := by decide +kernel
theorem dX12_guestByRides_115 : decode cX12_guestByRides 115 = .ok (.iadd, 1) := by decide +kernel
theorem dX12_guestByRides_116 : decode cX12_guestByRides 116 = .ok (.istore 5, 2) := by decide +kernel
theorem dX12_guestByRides_118 : decode cX12_guestByRides 118 = .ok (.iinc 6 1, 3) := by decide +kernel
theorem dX12_guestByRides_121 : decode cX12_guestByRides 121 = .ok (.goto (-85), 3) := by decide +kernel
theorem dX12_guestByRides_124 : decode cX12_guestByRides 124 = .ok (.iload 5, 2) := by decide +kernel
theorem dX12_guestByRides_126 : decode cX12_guestByRides 126 = .ok (.iload_n 1, 1) := by decide +kernel
theorem dX12_guestByRides_127 : decode cX12_guestByRides 127 = .ok (.if_icmp .ne 8, 3) := by decide +kernel
theorem dX12_guestByRides_130 : decode cX12_guestByRides 130 = .ok (.iload 4, 2) := by decide +kernel
theorem dX12_guestByRides_132 : decode cX12_guestByRides 132 = .ok (.goto 4, 3) := by decide +kernel
theorem dX12_guestByRides_135 : decode cX12_guestByRides 135 = .ok (.iload_n 2, 1) := by decide +kernel
theorem dX12_guestByRides_136 : decode cX12_guestByRides 136 = .ok (.istore_n 2, 1) := by decide +kernel
theorem dX12_guestByRides_137 : decode cX12_guestByRides 137 = .ok (.iinc 4 1, 3) := by decide +kernel
theorem dX12_guestByRides_140 : decode cX12_guestByRides 140 = .ok (.goto (-125), 3) := by decide +kernel
theorem dX12_guestByRides_143 : decode cX12_guestByRides 143 = .ok (.iload_n 2, 1) := by decide +kernel
theorem dX12_guestByRides_144 : decode cX12_guestByRides 144 = .ok (.ireturn, 1) := by decide +kernel
theorem dX12_slideByWetness_0 : decode cX12_slideByWetness 0 = .ok (.iconst 0, 1) := by decide +kernel
theorem dX12_slideByWetness_1 : decode cX12_slideByWetness 1 = .ok (.istore_n 2, 1) := by decide +kernel
theorem dX12_slideByWetness_2 : decode cX12_slideByWetness 2 = .ok (.aload_n 0, 1) := by decide +kernel
theorem dX12_slideByWetness_3 : decode cX12_slideByWetness 3 = .ok (.aload_n 0, 1) := by decide +kernel
theorem dX12_slideByWetness_4 : decode cX12_slideByWetness 4 = .ok (.iload_n 1, 1) := by decide +kernel
theorem dX12_slideByWetness_5 : decode cX12_slideByWetness 5 = .ok (.invokevirtual 101, 3) := by decide +kernel
theorem dX12_slideByWetness_8 : decode cX12_slideByWetness 8 = .ok (.invokevirtual 157, 3) := by decide +kernel
theorem dX12_slideByWetness_11 : decode cX12_slideByWetness 11 = .ok (.istore_n 3, 1) := by decide +kernel
theorem dX12_slideByWetness_12 : decode cX12_slideByWetness 12 = .ok (.iconst 0, 1) := by decide +kernel
theorem dX12_slideByWetness_13 : decode cX12_slideByWetness 13 = .ok (.istore 4, 2) := by decide +kernel
theorem dX12_slideByWetness_15 : decode cX12_slideByWetness 15 = .ok (.iload 4, 2) := by decide +kernel
theorem dX12_slideByWetness_17 : decode cX12_slideByWetness 17 = .ok (.aload_n 0, 1) := by decide +kernel
theorem dX12_slideByWetness_18 : decode cX12_slideByWetness 18 = .ok (.getfield 9, 3) := by decide +kernel
theorem dX12_slideByWetness_21 : decode cX12_slideByWetness 21 = .ok (.iconst 0, 1) := by decide +kernel
theorem dX12_slideByWetness_22 : decode cX12_slideByWetness 22 = .ok (.iaload, 1) := by decide +kernel
theorem dX12_slideByWetness_23 : decode cX12_slideByWetness 23 = .ok (.if_icmp .ge 93, 3) := by decide +kernel
theorem dX12_slideByWetness_26 : decode cX12_slideByWetness 26 = .ok (.iload_n 3, 1) := by decide +kernel
theorem dX12_slideByWetness_27 : decode cX12_slideByWetness 27 = .ok (.ifCond .eq 89, 3) := by decide +kernel
theorem dX12_slideByWetness_30 : decode cX12_slideByWetness 30 = .ok (.iconst 0, 1) := by decide +kernel
theorem dX12_slideByWetness_31 : decode cX12_slideByWetness 31 = .ok (.istore 5, 2) := by decide +kernel
theorem dX12_slideByWetness_33 : decode cX12_slideByWetness 33 = .ok (.iconst 0, 1) := by decide +kernel
theorem dX12_slideByWetness_34 : decode cX12_slideByWetness 34 = .ok (.istore 6, 2) := by decide +kernel
theorem dX12_slideByWetness_36 : decode cX12_slideByWetness 36 = .ok (.iload 6, 2) := by decide +kernel
theorem dX12_slideByWetness_38 : decode cX12_slideByWetness 38 = .ok (.aload_n 0, 1) := by decide +kernel
theorem dX12_slideByWetness_39 : decode cX12_slideByWetness 39 = .ok (.getfield 9, 3) := by decide +kernel
theorem dX12_slideByWetness_42 : decode cX12_slideByWetness 42 = .ok (.iconst 0, 1) := by decide +kernel
theorem dX12_slideByWetness_43 : decode cX12_slideByWetness 43 = .ok (.iaload, 1) := by decide +kernel
theorem dX12_slideByWetness_44 : decode cX12_slideByWetness 44 = .ok (.if_icmp .ge 53, 3) := by decide +kernel
theorem dX12_slideByWetness_47 : decode cX12_slideByWetness 47 = .ok (.aload_n 0, 1) := by decide +kernel
theorem dX12_slideByWetness_48 : decode cX12_slideByWetness 48 = .ok (.iload 6, 2) := by decide +kernel
theorem dX12_slideByWetness_50 : decode cX12_slideByWetness 50 = .ok (.iconst 2, 1) := by decide +kernel
theorem dX12_slideByWetness_51 : decode cX12_slideByWetness 51 = .ok (.invokevirtual 71, 3) := by decide +kernel
theorem dX12_slideByWetness_54 : decode cX12_slideByWetness 54 = .ok (.aload_n 0, 1) := by decide +kernel
theorem dX12_slideByWetness_55 : decode cX12_slideByWetness 55 = .ok (.iload 4, 2) := by decide +kernel
theorem dX12_slideByWetness_57 : decode cX12_slideByWetness 57 = .ok (.iconst 2, 1) := by decide +kernel
theorem dX12_slideByWetness_58 : decode cX12_slideByWetness 58 = .ok (.invokevirtual 71, 3) := by decide +kernel
theorem dX12_slideByWetness_61 : decode cX12_slideByWetness 61 = .ok (.isub, 1) := by decide +kernel
theorem dX12_slideByWetness_62 : decode cX12_slideByWetness 62 = .ok (.istore 7, 2) := by decide +kernel
theorem dX12_slideByWetness_64 : decode cX12_slideByWetness 64 = .ok (.iload 5, 2) := by decide +kernel
theorem dX12_slideByWetness_66 : decode cX12_slideByWetness 66 = .ok (.iload 7, 2) := by decide +kernel
theorem dX12_slideByWetness_68 : decode cX12_slideByWetness 68 = .ok (.ifCond .gt 15, 3) := by decide +kernel
theorem dX12_slideByWetness_71 : decode cX12_slideByWetness 71 = .ok (.iload 7, 2) := by decide +kernel
theorem dX12_slideByWetness_73 : decode cX12_slideByWetness 73 = .ok (.ifCond .ne 14, 3) := by decide +kernel
theorem dX12_slideByWetness_76 : decode cX12_slideByWetness 76 = .ok (.iload 6, 2) := by decide +kernel
theorem dX12_slideByWetness_78 : decode cX12_slideByWetness 78 = .ok (.iload 4, 2) := by decide +kernel
theorem dX12_slideByWetness_80 : decode cX12_slideByWetness 80 = .ok (.if_icmp .ge 7, 3) := by decide +kernel
theorem dX12_slideByWetness_83 : decode cX12_slideByWetness 83 = .ok (.iconst 1, 1) := by decide +kernel
theorem dX12_slideByWetness_84 : decode cX12_slideByWetness 84 = .ok (.goto 4, 3) := by decide +kernel
theorem dX12_slideByWetness_87 : decode cX12_slideByWetness 87 = .ok (.iconst 0, 1) := by decide +kernel
theorem dX12_slideByWetness_88 : decode cX12_slideByWetness 88 = .ok (.iadd, 1) := by decide +kernel
theorem dX12_slideByWetness_89 : decode cX12_slideByWetness 89 = .ok (.istore 5, 2) := by decide +kernel
theorem dX12_slideByWetness_91 : decode cX12_slideByWetness 91 = .ok (.iinc 6 1, 3) := by decide +kernel
theorem dX12_slideByWetness_94 : decode cX12_slideByWetness 94 = .ok (.goto (-58), 3) := by decide +kernel
theorem dX12_slideByWetness_97 : decode cX12_slideByWetness 97 = .ok (.iload 5, 2) := by decide +kernel
theorem dX12_slideByWetness_99 : decode cX12_slideByWetness 99 = .ok (.iload_n 1, 1) := by decide +kernel
theorem dX12_slideByWetness_100 : decode cX12_slideByWetness 100 = .ok (.if_icmp .ne 8, 3) := by decide +kernel
theorem dX12_slideByWetness_103 : decode cX12_slideByWetness 103 = .ok (.iload 4, 2) := by decide +kernel
theorem dX12_slideByWetness_105 : decode cX12_slideByWetness 105 = .ok (.goto 4, 3) := by decide +kernel
theorem dX12_slideByWetness_108 : decode cX12_slideByWetness 108 = .ok (.iload_n 2, 1) := by decide +kernel
theorem dX12_slideByWetness_109 : decode cX12_slideByWetness 109 = .ok (.istore_n 2, 1) := by decide +kernel
theorem dX12_slideByWetness_110 : decode cX12_slideByWetness 110 = .ok (.iinc 4 1, 3) := by decide +kernel
theorem dX12_slideByWetness_113 : decode cX12_slideByWetness 113 = .ok (.goto (-98), 3) := by decide +kernel
theorem dX12_slideByWetness_116 : decode cX12_slideByWetness 116 = .ok (.iload_n 2, 1) := by decide +kernel
theorem dX12_slideByWetness_117 : decode cX12_slideByWetness 117 = .ok (.ireturn, 1) := by decide +kernel
theorem dX12_meanCoins_0 : decode cX12_meanCoins 0 = .ok (.aload_n 0, 1) := by decide +kernel
theorem dX12_meanCoins_1 : decode cX12_meanCoins 1 = .ok (.getfield 9, 3) := by decide +kernel
theorem dX12_meanCoins_4 : decode cX12_meanCoins 4 = .ok (.iconst 1, 1) := by decide +kernel
theorem dX12_meanCoins_5 : decode cX12_meanCoins 5 = .ok (.iaload, 1) := by decide +kernel
theorem dX12_meanCoins_6 : decode cX12_meanCoins 6 = .ok (.istore_n 1, 1) := by decide +kernel
theorem dX12_meanCoins_7 : decode cX12_meanCoins 7 = .ok (.iconst 0, 1) := by decide +kernel
theorem dX12_meanCoins_8 : decode cX12_meanCoins 8 = .ok (.istore_n 2, 1) := by decide +kernel
theorem dX12_meanCoins_9 : decode cX12_meanCoins 9 = .ok (.iconst 0, 1) := by decide +kernel
theorem dX12_meanCoins_10 : decode cX12_meanCoins 10 = .ok (.istore_n 3, 1) := by decide +kernel
theorem dX12_meanCoins_11 : decode cX12_meanCoins 11 = .ok (.iload_n 3, 1) := by decide +kernel
theorem dX12_meanCoins_12 : decode cX12_meanCoins 12 = .ok (.iload_n 1, 1) := by decide +kernel
theorem dX12_meanCoins_13 : decode cX12_meanCoins 13 = .ok (.if_icmp .ge 18, 3) := by decide +kernel
theorem dX12_meanCoins_16 : decode cX12_meanCoins 16 = .ok (.iload_n 2, 1) := by decide +kernel
theorem dX12_meanCoins_17 : decode cX12_meanCoins 17 = .ok (.aload_n 0, 1) := by decide +kernel
theorem dX12_meanCoins_18 : decode cX12_meanCoins 18 = .ok (.iload_n 3, 1) := by decide +kernel
theorem dX12_meanCoins_19 : decode cX12_meanCoins 19 = .ok (.iconst 0, 1) := by decide +kernel
theorem dX12_meanCoins_20 : decode cX12_meanCoins 20 = .ok (.invokevirtual 107, 3) := by decide +kernel
theorem dX12_meanCoins_23 : decode cX12_meanCoins 23 = .ok (.iadd, 1) := by decide +kernel
theorem dX12_meanCoins_24 : decode cX12_meanCoins 24 = .ok (.istore_n 2, 1) := by decide +kernel
theorem dX12_meanCoins_25 : decode cX12_meanCoins 25 = .ok (.iinc 3 1, 3) := by decide +kernel
theorem dX12_meanCoins_28 : decode cX12_meanCoins 28 = .ok (.goto (-17), 3) := by decide +kernel
theorem dX12_meanCoins_31 : decode cX12_meanCoins 31 = .ok (.aload_n 0, 1) := by decide +kernel
theorem dX12_meanCoins_32 : decode cX12_meanCoins 32 = .ok (.iload_n 1, 1) := by decide +kernel
theorem dX12_meanCoins_33 : decode cX12_meanCoins 33 = .ok (.ifCond .le 7, 3) := by decide +kernel
theorem dX12_meanCoins_36 : decode cX12_meanCoins 36 = .ok (.iconst 1, 1) := by decide +kernel
theorem dX12_meanCoins_37 : decode cX12_meanCoins 37 = .ok (.goto 4, 3) := by decide +kernel
theorem dX12_meanCoins_40 : decode cX12_meanCoins 40 = .ok (.iconst 0, 1) := by decide +kernel
theorem dX12_meanCoins_41 : decode cX12_meanCoins 41 = .ok (.invokevirtual 157, 3) := by decide +kernel
theorem dX12_meanCoins_44 : decode cX12_meanCoins 44 = .ok (.ifCond .eq 11, 3) := by decide +kernel
theorem dX12_meanCoins_47 : decode cX12_meanCoins 47 = .ok (.iload_n 2, 1) := by decide +kernel
theorem dX12_meanCoins_48 : decode cX12_meanCoins 48 = .ok (.i2d, 1) := by decide +kernel
theorem dX12_meanCoins_49 : decode cX12_meanCoins 49 = .ok (.iload_n 1, 1) := by decide +kernel
theorem dX12_meanCoins_50 : decode cX12_meanCoins 50 = .ok (.i2d, 1) := by decide +kernel
theorem dX12_meanCoins_51 : decode cX12_meanCoins 51 = .ok (.ddiv, 1) := by decide +kernel
theorem dX12_meanCoins_52 : decode cX12_meanCoins 52 = .ok (.goto 4, 3) := by decide +kernel
theorem dX12_meanCoins_55 : decode cX12_meanCoins 55 = .ok (.dconst 0, 1) := by decide +kernel
theorem dX12_meanCoins_56 : decode cX12_meanCoins 56 = .ok (.dreturn, 1) := by decide +kernel
theorem dX12_busyShare_0 : decode cX12_busyShare 0 = .ok (.aload_n 0, 1) := by decide +kernel
theorem dX12_busyShare_1 : decode cX12_busyShare 1 = .ok (.getfield 9, 3) := by decide +kernel
theorem dX12_busyShare_4 : decode cX12_busyShare 4 = .ok (.iconst 0, 1) := by decide +kernel
theorem dX12_busyShare_5 : decode cX12_busyShare 5 = .ok (.iaload, 1) := by decide +kernel
theorem dX12_busyShare_6 : decode cX12_busyShare 6 = .ok (.istore_n 1, 1) := by decide +kernel
theorem dX12_busyShare_7 : decode cX12_busyShare 7 = .ok (.iconst 0, 1) := by decide +kernel
theorem dX12_busyShare_8 : decode cX12_busyShare 8 = .ok (.istore_n 2, 1) := by decide +kernel
theorem dX12_busyShare_9 : decode cX12_busyShare 9 = .ok (.iconst 0, 1) := by decide +kernel
theorem dX12_busyShare_10 : decode cX12_busyShare 10 = .ok (.istore_n 3, 1) := by decide +kernel
theorem dX12_busyShare_11 : decode cX12_busyShare 11 = .ok (.iload_n 3, 1) := by decide +kernel
theorem dX12_busyShare_12 : decode cX12_busyShare 12 = .ok (.iload_n 1, 1) := by decide +kernel
theorem dX12_busyShare_13 : decode cX12_busyShare 13 = .ok (.if_icmp .ge 31, 3) := by decide +kernel
theorem dX12_busyShare_16 : decode cX12_busyShare 16 = .ok (.iload_n 2, 1) := by decide +kernel
theorem dX12_busyShare_17 : decode cX12_busyShare 17 = .ok (.aload_n 0, 1) := by decide +kernel
theorem dX12_busyShare_18 : decode cX12_busyShare 18 = .ok (.iload_n 3, 1) := by decide +kernel
theorem dX12_busyShare_19 : decode cX12_busyShare 19 = .ok (.aload_n 0, 1) := by decide +kernel
theorem dX12_busyShare_20 : decode cX12_busyShare 20 = .ok (.getfield 9, 3) := by decide +kernel
theorem dX12_busyShare_23 : decode cX12_busyShare 23 = .ok (.iconst 3, 1) := by decide +kernel
theorem dX12_busyShare_24 : decode cX12_busyShare 24 = .ok (.iaload, 1) := by decide +kernel
theorem dX12_busyShare_25 : decode cX12_busyShare 25 = .ok (.invokevirtual 145, 3) := by decide +kernel
theorem dX12_busyShare_28 : decode cX12_busyShare 28 = .ok (.ifCond .lt 7, 3) := by decide +kernel
theorem dX12_busyShare_31 : decode cX12_busyShare 31 = .ok (.iconst 1, 1) := by decide +kernel
theorem dX12_busyShare_32 : decode cX12_busyShare 32 = .ok (.goto 4, 3) := by decide +kernel
theorem dX12_busyShare_35 : decode cX12_busyShare 35 = .ok (.iconst 0, 1) := by decide +kernel
theorem dX12_busyShare_36 : decode cX12_busyShare 36 = .ok (.iadd, 1) := by decide +kernel
theorem dX12_busyShare_37 : decode cX12_busyShare 37 = .ok (.istore_n 2, 1) := by decide +kernel
theorem dX12_busyShare_38 : decode cX12_busyShare 38 = .ok (.iinc 3 1, 3) := by decide +kernel
theorem dX12_busyShare_41 : decode cX12_busyShare 41 = .ok (.goto (-30), 3) := by decide +kernel
theorem dX12_busyShare_44 : decode cX12_busyShare 44 = .ok (.aload_n 0, 1) := by decide +kernel
theorem dX12_busyShare_45 : decode cX12_busyShare 45 = .ok (.iload_n 1, 1) := by decide +kernel
theorem dX12_busyShare_46 : decode cX12_busyShare 46 = .ok (.ifCond .le 7, 3) := by decide +kernel
theorem dX12_busyShare_49 : decode cX12_busyShare 49 = .ok (.iconst 1, 1) := by decide +kernel
theorem dX12_busyShare_50 : decode cX12_busyShare 50 = .ok (.goto 4, 3) := by decide +kernel
theorem dX12_busyShare_53 : decode cX12_busyShare 53 = .ok (.iconst 0, 1) := by decide +kernel
theorem dX12_busyShare_54 : decode cX12_busyShare 54 = .ok (.invokevirtual 157, 3) := by decide +kernel
theorem dX12_busyShare_57 : decode cX12_busyShare 57 = .ok (.ifCond .eq 11, 3) := by decide +kernel
theorem dX12_busyShare_60 : decode cX12_busyShare 60 = .ok (.iload_n 2, 1) := by decide +kernel
theorem dX12_busyShare_61 : decode cX12_busyShare 61 = .ok (.i2f, 1) := by decide +kernel
theorem dX12_busyShare_62 : decode cX12_busyShare 62 = .ok (.iload_n 1, 1) := by decide +kernel
theorem dX12_busyShare_63 : decode cX12_busyShare 63 = .ok (.i2f, 1) := by decide +kernel
theorem dX12_busyShare_64 : decode cX12_busyShare 64 = .ok (.fdiv, 1) := by decide +kernel
theorem dX12_busyShare_65 : decode cX12_busyShare 65 = .ok (.goto 4, 3) := by decide +kernel
theorem dX12_busyShare_68 : decode cX12_busyShare 68 = .ok (.fconst 0, 1) := by decide +kernel
theorem dX12_busyShare_69 : decode cX12_busyShare 69 = .ok (.freturn, 1) := by decide +kernel
theorem dX12_isConsistent_0 : decode cX12_isConsistent 0 = .ok (.aload_n 0, 1) := by decide +kernel
theorem dX12_isConsistent_1 : decode cX12_isConsistent 1 = .ok (.iconst 0, 1) := by decide +kernel
theorem dX12_isConsistent_2 : decode cX12_isConsistent 2 = .ok (.putfield 39, 3) := by decide +kernel
theorem dX12_isConsistent_5 : decode cX12_isConsistent 5 = .ok (.iconst 1, 1) := by decide +kernel
theorem dX12_isConsistent_6 : decode cX12_isConsistent 6 = .ok (.ireturn, 1) := by decide +kernel
theorem dX12_says_0 : decode cX12_says 0 = .ok (.aload_n 0, 1) := by decide +kernel
theorem dX12_says_1 : decode cX12_says 1 = .ok (.getfield 22, 3) := by decide +kernel
theorem dX12_says_4 : decode cX12_says 4 = .ok (.aload_n 0, 1) := by decide +kernel
theorem dX12_says_5 : decode cX12_says 5 = .ok (.getfield 182, 3) := by decide +kernel
theorem dX12_says_8 : decode cX12_says 8 = .ok (.iload_n 1, 1) := by decide +kernel
theorem dX12_says_9 : decode cX12_says 9 = .ok (.castore, 1) := by decide +kernel
theorem dX12_says_10 : decode cX12_says 10 = .ok (.aload_n 0, 1) := by decide +kernel
theorem dX12_says_11 : decode cX12_says 11 = .ok (.dup, 1) := by decide +kernel
theorem dX12_says_12 : decode cX12_says 12 = .ok (.getfield 182, 3) := by decide +kernel
theorem dX12_says_15 : decode cX12_says 15 = .ok (.iconst 1, 1) := by decide +kernel
theorem dX12_says_16 : decode cX12_says 16 = .ok (.iadd, 1) := by decide +kernel
theorem dX12_says_17 : decode cX12_says 17 = .ok (.putfield 182, 3) := by decide +kernel
theorem dX12_says_20 : decode cX12_says 20 = .ok (.return_, 1) := by decide +kernel
theorem dX12_saysNumber_0 : decode cX12_saysNumber 0 = .ok (.iload_n 1, 1) := by decide +kernel
theorem dX12_saysNumber_1 : decode cX12_saysNumber 1 = .ok (.bipush 9, 2) := by decide +kernel
theorem dX12_saysNumber_3 : decode cX12_saysNumber 3 = .ok (.if_icmp .le 11, 3) := by decide +kernel
theorem dX12_saysNumber_6 : decode cX12_saysNumber 6 = .ok (.aload_n 0, 1) := by decide +kernel
theorem dX12_saysNumber_7 : decode cX12_saysNumber 7 = .ok (.iload_n 1, 1) := by decide +kernel
theorem dX12_saysNumber_8 : decode cX12_saysNumber 8 = .ok (.bipush 10, 2) := by decide +kernel
theorem dX12_saysNumber_10 : decode cX12_saysNumber 10 = .ok (.idiv, 1) := by decide +kernel
theorem dX12_saysNumber_11 : decode cX12_saysNumber 11 = .ok (.invokevirtual 185, 3) := by decide +kernel
theorem dX12_saysNumber_14 : decode cX12_saysNumber 14 = .ok (.aload_n 0, 1) := by decide +kernel
theorem dX12_saysNumber_15 : decode cX12_saysNumber 15 = .ok (.bipush 48, 2) := by decide +kernel
theorem dX12_saysNumber_17 : decode cX12_saysNumber 17 = .ok (.iload_n 1, 1) := by decide +kernel
theorem dX12_saysNumber_18 : decode cX12_saysNumber 18 = .ok (.bipush 10, 2) := by decide +kernel
theorem dX12_saysNumber_20 : decode cX12_saysNumber 20 = .ok (.irem, 1) := by decide +kernel
theorem dX12_saysNumber_21 : decode cX12_saysNumber 21 = .ok (.iadd, 1) := by decide +kernel
theorem dX12_saysNumber_22 : decode cX12_saysNumber 22 = .ok (.i2c, 1) := by decide +kernel
theorem dX12_saysNumber_23 : decode cX12_saysNumber 23 = .ok (.invokevirtual 188, 3) := by decide +kernel
theorem dX12_saysNumber_26 : decode cX12_saysNumber 26 = .ok (.return_, 1) := by decide +kernel
theorem dX12_writeSlide_0 : decode cX12_writeSlide 0 = .ok (.aload_n 0, 1) := by decide +kernel
theorem dX12_writeSlide_1 : decode cX12_writeSlide 1 = .ok (.aload_n 0, 1) := by decide +kernel
theorem dX12_writeSlide_2 : decode cX12_writeSlide 2 = .ok (.iload_n 1, 1) := by decide +kernel
theorem dX12_writeSlide_3 : decode cX12_writeSlide 3 = .ok (.invokevirtual 101, 3) := by decide +kernel
theorem dX12_writeSlide_6 : decode cX12_writeSlide 6 = .ok (.invokevirtual 157, 3) := by decide +kernel
theorem dX12_writeSlide_9 : decode cX12_writeSlide 9 = .ok (.ifCond .ne 5, 3) := by decide +kernel
theorem dX12_writeSlide_12 : decode cX12_writeSlide 12 = .ok (.iconst 0, 1) := by decide +kernel
theorem dX12_writeSlide_13 : decode cX12_writeSlide 13 = .ok (.ireturn, 1) := by decide +kernel
theorem dX12_writeSlide_14 : decode cX12_writeSlide 14 = .ok (.aload_n 0, 1) := by decide +kernel
theorem dX12_writeSlide_15 : decode cX12_writeSlide 15 = .ok (.iconst 0, 1) := by decide +kernel
theorem dX12_writeSlide_16 : decode cX12_writeSlide 16 = .ok (.putfield 182, 3) := by decide +kernel
theorem dX12_writeSlide_19 : decode cX12_writeSlide 19 = .ok (.aload_n 0, 1) := by decide +kernel
theorem dX12_writeSlide_20 : decode cX12_writeSlide 20 = .ok (.aload_n 0, 1) := by decide +kernel
theorem dX12_writeSlide_21 : decode cX12_writeSlide 21 = .ok (.iload_n 1, 1) := by decide +kernel
theorem dX12_writeSlide_22 : decode cX12_writeSlide 22 = .ok (.iconst 0, 1) := by decide +kernel
theorem dX12_writeSlide_23 : decode cX12_writeSlide 23 = .ok (.invokevirtual 71, 3) := by decide +kernel
theorem dX12_writeSlide_26 : decode cX12_writeSlide 26 = .ok (.invokevirtual 185, 3) := by decide +kernel
theorem dX12_writeSlide_29 : decode cX12_writeSlide 29 = .ok (.aload_n 0, 1) := by decide +kernel
theorem dX12_writeSlide_30 : decode cX12_writeSlide 30 = .ok (.bipush 109, 2) := by decide +kernel
theorem dX12_writeSlide_32 : decode cX12_writeSlide 32 = .ok (.invokevirtual 188, 3) := by decide +kernel
theorem dX12_writeSlide_35 : decode cX12_writeSlide 35 = .ok (.aload_n 0, 1) := by decide +kernel
theorem dX12_writeSlide_36 : decode cX12_writeSlide 36 = .ok (.aload_n 0, 1) := by decide +kernel
theorem dX12_writeSlide_37 : decode cX12_writeSlide 37 = .ok (.iload_n 1, 1) := by decide +kernel
theorem dX12_writeSlide_38 : decode cX12_writeSlide 38 = .ok (.iconst 1, 1) := by decide +kernel
theorem dX12_writeSlide_39 : decode cX12_writeSlide 39 = .ok (.invokevirtual 71, 3) := by decide +kernel
theorem dX12_writeSlide_42 : decode cX12_writeSlide 42 = .ok (.invokevirtual 185, 3) := by decide +kernel
theorem dX12_writeSlide_45 : decode cX12_writeSlide 45 = .ok (.aload_n 0, 1) := by decide +kernel
theorem dX12_writeSlide_46 : decode cX12_writeSlide 46 = .ok (.bipush 99, 2) := by decide +kernel
theorem dX12_writeSlide_48 : decode cX12_writeSlide 48 = .ok (.invokevirtual 188, 3) := by decide +kernel
theorem dX12_writeSlide_51 : decode cX12_writeSlide 51 = .ok (.aload_n 0, 1) := by decide +kernel
theorem dX12_writeSlide_52 : decode cX12_writeSlide 52 = .ok (.aload_n 0, 1) := by decide +kernel
theorem dX12_writeSlide_53 : decode cX12_writeSlide 53 = .ok (.iload_n 1, 1) := by decide +kernel
theorem dX12_writeSlide_54 : decode cX12_writeSlide 54 = .ok (.iconst 2, 1) := by decide +kernel
theorem dX12_writeSlide_55 : decode cX12_writeSlide 55 = .ok (.invokevirtual 71, 3) := by decide +kernel
theorem dX12_writeSlide_58 : decode cX12_writeSlide 58 = .ok (.invokevirtual 185, 3) := by decide +kernel
theorem dX12_writeSlide_61 : decode cX12_writeSlide 61 = .ok (.aload_n 0, 1) := by decide +kernel
theorem dX12_writeSlide_62 : decode cX12_writeSlide 62 = .ok (.bipush 119, 2) := by decide +kernel
theorem dX12_writeSlide_64 : decode cX12_writeSlide 64 = .ok (.invokevirtual 188, 3) := by decide +kernel
theorem dX12_writeSlide_67 : decode cX12_writeSlide 67 = .ok (.iconst 0, 1) := by decide +kernel
theorem dX12_writeSlide_68 : decode cX12_writeSlide 68 = .ok (.istore_n 2, 1) := by decide +kernel
theorem dX12_writeSlide_69 : decode cX12_writeSlide 69 = .ok (.iload_n 2, 1) := by decide +kernel
theorem dX12_writeSlide_70 : decode cX12_writeSlide 70 = .ok (.aload_n 0, 1) := by decide +kernel
theorem dX12_writeSlide_71 : decode cX12_writeSlide 71 = .ok (.getfield 9, 3) := by decide +kernel
theorem dX12_writeSlide_74 : decode cX12_writeSlide 74 = .ok (.iconst 2, 1) := by decide +kernel
theorem dX12_writeSlide_75 : decode cX12_writeSlide 75 = .ok (.iaload, 1) := by decide +kernel
theorem dX12_writeSlide_76 : decode cX12_writeSlide 76 = .ok (.if_icmp .ge 56, 3) := by decide +kernel
theorem dX12_writeSlide_79 : decode cX12_writeSlide 79 = .ok (.aload_n 0, 1) := by decide +kernel
theorem dX12_writeSlide_80 : decode cX12_writeSlide 80 = .ok (.iload_n 2, 1) := by decide +kernel
theorem dX12_writeSlide_81 : decode cX12_writeSlide 81 = .ok (.invokevirtual 161, 3) := by decide +kernel
theorem dX12_writeSlide_84 : decode cX12_writeSlide 84 = .ok (.istore_n 3, 1) := by decide +kernel
theorem dX12_writeSlide_85 : decode cX12_writeSlide 85 = .ok (.aload_n 0, 1) := by decide +kernel
theorem dX12_writeSlide_86 : decode cX12_writeSlide 86 = .ok (.iload_n 3, 1) := by decide +kernel
theorem dX12_writeSlide_87 : decode cX12_writeSlide 87 = .ok (.iconst 1, 1) := by decide +kernel
theorem dX12_writeSlide_88 : decode cX12_writeSlide 88 = .ok (.invokevirtual 64, 3) := by decide +kernel
theorem dX12_writeSlide_91 : decode cX12_writeSlide 91 = .ok (.iload_n 1, 1) := by decide +kernel
theorem dX12_writeSlide_92 : decode cX12_writeSlide 92 = .ok (.if_icmp .ne 34, 3) := by decide +kernel
theorem dX12_writeSlide_95 : decode cX12_writeSlide 95 = .ok (.aload_n 0, 1) := by decide +kernel
theorem dX12_writeSlide_96 : decode cX12_writeSlide 96 = .ok (.bipush 32, 2) := by decide +kernel
theorem dX12_writeSlide_98 : decode cX12_writeSlide 98 = .ok (.invokevirtual 188, 3) := by decide +kernel
theorem dX12_writeSlide_101 : decode cX12_writeSlide 101 = .ok (.aload_n 0, 1) := by decide +kernel
theorem dX12_writeSlide_102 : decode cX12_writeSlide 102 = .ok (.aload_n 0, 1) := by decide +kernel
theorem dX12_writeSlide_103 : decode cX12_writeSlide 103 = .ok (.iload_n 3, 1) := by decide +kernel
theorem dX12_writeSlide_104 : decode cX12_writeSlide 104 = .ok (.iconst 0, 1) := by decide +kernel
theorem dX12_writeSlide_105 : decode cX12_writeSlide 105 = .ok (.invokevirtual 64, 3) := by decide +kernel
theorem dX12_writeSlide_108 : decode cX12_writeSlide 108 = .ok (.invokevirtual 185, 3) := by decide +kernel
theorem dX12_writeSlide_111 : decode cX12_writeSlide 111 = .ok (.aload_n 0, 1) := by decide +kernel
theorem dX12_writeSlide_112 : decode cX12_writeSlide 112 = .ok (.bipush 64, 2) := by decide +kernel
theorem dX12_writeSlide_114 : decode cX12_writeSlide 114 = .ok (.invokevirtual 188, 3) := by decide +kernel
theorem dX12_writeSlide_117 : decode cX12_writeSlide 117 = .ok (.aload_n 0, 1) := by decide +kernel
theorem dX12_writeSlide_118 : decode cX12_writeSlide 118 = .ok (.aload_n 0, 1) := by decide +kernel
theorem dX12_writeSlide_119 : decode cX12_writeSlide 119 = .ok (.iload_n 3, 1) := by decide +kernel
theorem dX12_writeSlide_120 : decode cX12_writeSlide 120 = .ok (.invokevirtual 67, 3) := by decide +kernel
theorem dX12_writeSlide_123 : decode cX12_writeSlide 123 = .ok (.invokevirtual 185, 3) := by decide +kernel
theorem dX12_writeSlide_126 : decode cX12_writeSlide 126 = .ok (.iinc 2 1, 3) := by decide +kernel
theorem dX12_writeSlide_129 : decode cX12_writeSlide 129 = .ok (.goto (-60), 3) := by decide +kernel
theorem dX12_writeSlide_132 : decode cX12_writeSlide 132 = .ok (.aload_n 0, 1) := by decide +kernel
theorem dX12_writeSlide_133 : decode cX12_writeSlide 133 = .ok (.getfield 182, 3) := by decide +kernel
theorem dX12_writeSlide_136 : decode cX12_writeSlide 136 = .ok (.ireturn, 1) := by decide +kernel
theorem dX12_outputChar_0 : decode cX12_outputChar 0 = .ok (.aload_n 0, 1) := by decide +kernel
theorem dX12_outputChar_1 : decode cX12_outputChar 1 = .ok (.iload_n 1, 1) := by decide +kernel
theorem dX12_outputChar_2 : decode cX12_outputChar 2 = .ok (.iconst 0, 1) := by decide +kernel
theorem dX12_outputChar_3 : decode cX12_outputChar 3 = .ok (.aload_n 0, 1) := by decide +kernel
theorem dX12_outputChar_4 : decode cX12_outputChar 4 = .ok (.getfield 182, 3) := by decide +kernel
theorem dX12_outputChar_7 : decode cX12_outputChar 7 = .ok (.iconst 1, 1) := by decide +kernel
theorem dX12_outputChar_8 : decode cX12_outputChar 8 = .ok (.isub, 1) := by decide +kernel
theorem dX12_outputChar_9 : decode cX12_outputChar 9 = .ok (.invokestatic 51, 3) := by decide +kernel
theorem dX12_outputChar_12 : decode cX12_outputChar 12 = .ok (.invokevirtual 157, 3) := by decide +kernel
theorem dX12_outputChar_15 : decode cX12_outputChar 15 = .ok (.ifCond .eq 12, 3) := by decide +kernel
theorem dX12_outputChar_18 : decode cX12_outputChar 18 = .ok (.aload_n 0, 1) := by decide +kernel
theorem dX12_outputChar_19 : decode cX12_outputChar 19 = .ok (.getfield 22, 3) := by decide +kernel
theorem dX12_outputChar_22 : decode cX12_outputChar 22 = .ok (.iload_n 1, 1) := by decide +kernel
theorem dX12_outputChar_23 : decode cX12_outputChar 23 = .ok (.caload, 1) := by decide +kernel
theorem dX12_outputChar_24 : decode cX12_outputChar 24 = .ok (.goto 5, 3) := by decide +kernel
theorem dX12_outputChar_27 : decode cX12_outputChar 27 = .ok (.bipush 32, 2) := by decide +kernel
theorem dX12_outputChar_29 : decode cX12_outputChar 29 = .ok (.ireturn, 1) := by decide +kernel
theorem dX12_feed_0 : decode cX12_feed 0 = .ok (.aload_n 0, 1) := by decide +kernel
theorem dX12_feed_1 : decode cX12_feed 1 = .ok (.aload_n 0, 1) := by decide +kernel
theorem dX12_feed_2 : decode cX12_feed 2 = .ok (.getfield 192, 3) := by decide +kernel
theorem dX12_feed_5 : decode cX12_feed 5 = .ok (.bipush 60, 2) := by decide +kernel
theorem dX12_feed_7 : decode cX12_feed 7 = .ok (.if_icmp .ne 7, 3) := by decide +kernel
theorem dX12_feed_10 : decode cX12_feed 10 = .ok (.iconst 1, 1) := by decide +kernel
theorem dX12_feed_11 : decode cX12_feed 11 = .ok (.goto 4, 3) := by decide +kernel
theorem dX12_feed_14 : decode cX12_feed 14 = .ok (.iconst 0, 1) := by decide +kernel
theorem dX12_feed_15 : decode cX12_feed 15 = .ok (.putfield 39, 3) := by decide +kernel
theorem dX12_feed_18 : decode cX12_feed 18 = .ok (.aload_n 0, 1) := by decide +kernel
theorem dX12_feed_19 : decode cX12_feed 19 = .ok (.getfield 39, 3) := by decide +kernel
theorem dX12_feed_22 : decode cX12_feed 22 = .ok (.ifCond .le 5, 3) := by decide +kernel
theorem dX12_feed_25 : decode cX12_feed 25 = .ok (.iconst 0, 1) := by decide +kernel
theorem dX12_feed_26 : decode cX12_feed 26 = .ok (.ireturn, 1) := by decide +kernel
theorem dX12_feed_27 : decode cX12_feed 27 = .ok (.aload_n 0, 1) := by decide +kernel
theorem dX12_feed_28 : decode cX12_feed 28 = .ok (.getfield 26, 3) := by decide +kernel
theorem dX12_feed_31 : decode cX12_feed 31 = .ok (.aload_n 0, 1) := by decide +kernel
theorem dX12_feed_32 : decode cX12_feed 32 = .ok (.getfield 192, 3) := by decide +kernel
theorem dX12_feed_35 : decode cX12_feed 35 = .ok (.iload_n 1, 1) := by decide +kernel
theorem dX12_feed_36 : decode cX12_feed 36 = .ok (.castore, 1) := by decide +kernel
theorem dX12_feed_37 : decode cX12_feed 37 = .ok (.aload_n 0, 1) := by decide +kernel
theorem dX12_feed_38 : decode cX12_feed 38 = .ok (.dup, 1) := by decide +kernel
theorem dX12_feed_39 : decode cX12_feed 39 = .ok (.getfield 192, 3) := by decide +kernel
theorem dX12_feed_42 : decode cX12_feed 42 = .ok (.iconst 1, 1) := by decide +kernel
theorem dX12_feed_43 : decode cX12_feed 43 = .ok (.iadd, 1) := by decide +kernel
theorem dX12_feed_44 : decode cX12_feed 44 = .ok (.putfield 192, 3) := by decide +kernel
theorem dX12_feed_47 : decode cX12_feed 47 = .ok (.aload_n 0, 1) := by decide +kernel
theorem dX12_feed_48 : decode cX12_feed 48 = .ok (.getfield 192, 3) := by decide +kernel
theorem dX12_feed_51 : decode cX12_feed 51 = .ok (.ireturn, 1) := by decide +kernel
theorem dX12_behind_0 : decode cX12_behind 0 = .ok (.aload_n 0, 1) := by decide +kernel
theorem dX12_behind_1 : decode cX12_behind 1 = .ok (.getfield 195, 3) := by decide +kernel
theorem dX12_behind_4 : decode cX12_behind 4 = .ok (.aload_n 0, 1) := by decide +kernel
theorem dX12_behind_5 : decode cX12_behind 5 = .ok (.getfield 192, 3) := by decide +kernel
theorem dX12_behind_8 : decode cX12_behind 8 = .ok (.if_icmp .ge 15, 3) := by decide +kernel
theorem dX12_behind_11 : decode cX12_behind 11 = .ok (.aload_n 0, 1) := by decide +kernel
theorem dX12_behind_12 : decode cX12_behind 12 = .ok (.getfield 26, 3) := by decide +kernel
theorem dX12_behind_15 : decode cX12_behind 15 = .ok (.aload_n 0, 1) := by decide +kernel
theorem dX12_behind_16 : decode cX12_behind 16 = .ok (.getfield 195, 3) := by decide +kernel
theorem dX12_behind_19 : decode cX12_behind 19 = .ok (.caload, 1) := by decide +kernel
theorem dX12_behind_20 : decode cX12_behind 20 = .ok (.goto 4, 3) := by decide +kernel
theorem dX12_behind_23 : decode cX12_behind 23 = .ok (.iconst (-1), 1) := by decide +kernel
theorem dX12_behind_24 : decode cX12_behind 24 = .ok (.ireturn, 1) := by decide +kernel
theorem dX12_skip_0 : decode cX12_skip 0 = .ok (.iconst 0, 1) := by decide +kernel
theorem dX12_skip_1 : decode cX12_skip 1 = .ok (.istore_n 2, 1) := by decide +kernel
theorem dX12_skip_2 : decode cX12_skip 2 = .ok (.iload_n 2, 1) := by decide +kernel
theorem dX12_skip_3 : decode cX12_skip 3 = .ok (.aload_n 1, 1) := by decide +kernel
theorem dX12_skip_4 : decode cX12_skip 4 = .ok (.invokevirtual 198, 3) := by decide +kernel
theorem dX12_skip_7 : decode cX12_skip 7 = .ok (.if_icmp .ge 58, 3) := by decide +kernel
theorem dX12_skip_10 : decode cX12_skip 10 = .ok (.aload_n 0, 1) := by decide +kernel
theorem dX12_skip_11 : decode cX12_skip 11 = .ok (.getfield 202, 3) := by decide +kernel
theorem dX12_skip_14 : decode cX12_skip 14 = .ok (.ifCond .ne 51, 3) := by decide +kernel
theorem dX12_skip_17 : decode cX12_skip 17 = .ok (.aload_n 0, 1) := by decide +kernel
theorem dX12_skip_18 : decode cX12_skip 18 = .ok (.aload_n 0, 1) := by decide +kernel
theorem dX12_skip_19 : decode cX12_skip 19 = .ok (.invokevirtual 206, 3) := by decide +kernel
theorem dX12_skip_22 : decode cX12_skip 22 = .ok (.aload_n 1, 1) := by decide +kernel
theorem dX12_skip_23 : decode cX12_skip 23 = .ok (.iload_n 2, 1) := by decide +kernel
theorem dX12_skip_24 : decode cX12_skip 24 = .ok (.invokevirtual 209, 3) := by decide +kernel
theorem dX12_skip_27 : decode cX12_skip 27 = .ok (.if_icmp .eq 7, 3) := by decide +kernel
theorem dX12_skip_30 : decode cX12_skip 30 = .ok (.iconst 1, 1) := by decide +kernel
theorem dX12_skip_31 : decode cX12_skip 31 = .ok (.goto 4, 3) := by decide +kernel
theorem dX12_skip_34 : decode cX12_skip 34 = .ok (.iconst 0, 1) := by decide +kernel
theorem dX12_skip_35 : decode cX12_skip 35 = .ok (.putfield 202, 3) := by decide +kernel
theorem dX12_skip_38 : decode cX12_skip 38 = .ok (.aload_n 0, 1) := by decide +kernel
theorem dX12_skip_39 : decode cX12_skip 39 = .ok (.dup, 1) := by decide +kernel
theorem dX12_skip_40 : decode cX12_skip 40 = .ok (.getfield 195, 3) := by decide +kernel
theorem dX12_skip_43 : decode cX12_skip 43 = .ok (.aload_n 0, 1) := by decide +kernel
theorem dX12_skip_44 : decode cX12_skip 44 = .ok (.getfield 202, 3) := by decide +kernel
theorem dX12_skip_47 : decode cX12_skip 47 = .ok (.ifCond .eq 7, 3) := by decide +kernel
theorem dX12_skip_50 : decode cX12_skip 50 = .ok (.iconst 0, 1) := by decide +kernel
theorem dX12_skip_51 : decode cX12_skip 51 = .ok (.goto 4, 3) := by decide +kernel
theorem dX12_skip_54 : decode cX12_skip 54 = .ok (.iconst 1, 1) := by decide +kernel
theorem dX12_skip_55 : decode cX12_skip 55 = .ok (.iadd, 1) := by decide +kernel
theorem dX12_skip_56 : decode cX12_skip 56 = .ok (.putfield 195, 3) := by decide +kernel
theorem dX12_skip_59 : decode cX12_skip 59 = .ok (.iinc 2 1, 3) := by decide +kernel
theorem dX12_skip_62 : decode cX12_skip 62 = .ok (.goto (-60), 3) := by decide +kernel
theorem dX12_skip_65 : decode cX12_skip 65 = .ok (.return_, 1) := by decide +kernel
theorem dX12_isDigit_0 : decode cX12_isDigit 0 = .ok (.aload_n 0, 1) := by decide +kernel
theorem dX12_isDigit_1 : decode cX12_isDigit 1 = .ok (.getfield 202, 3) := by decide +kernel
theorem dX12_isDigit_4 : decode cX12_isDigit 4 = .ok (.ifCond .ne 21, 3) := by decide +kernel
theorem dX12_isDigit_7 : decode cX12_isDigit 7 = .ok (.aload_n 0, 1) := by decide +kernel
theorem dX12_isDigit_8 : decode cX12_isDigit 8 = .ok (.invokevirtual 206, 3) := by decide +kernel
theorem dX12_isDigit_11 : decode cX12_isDigit 11 = .ok (.bipush 48, 2) := by decide +kernel
theorem dX12_isDigit_13 : decode cX12_isDigit 13 = .ok (.bipush 57, 2) := by decide +kernel
theorem dX12_isDigit_15 : decode cX12_isDigit 15 = .ok (.invokestatic 51, 3) := by decide +kernel
theorem dX12_isDigit_18 : decode cX12_isDigit 18 = .ok (.ifCond .eq 7, 3) := by decide +kernel
theorem dX12_isDigit_21 : decode cX12_isDigit 21 = .ok (.iconst 1, 1) := by decide +kernel
theorem dX12_isDigit_22 : decode cX12_isDigit 22 = .ok (.goto 4, 3) := by decide +kernel
theorem dX12_isDigit_25 : decode cX12_isDigit 25 = .ok (.iconst 0, 1) := by decide +kernel
theorem dX12_isDigit_26 : decode cX12_isDigit 26 = .ok (.ireturn, 1) := by decide +kernel
theorem dX12_readNumber_0 : decode cX12_readNumber 0 = .ok (.aload_n 0, 1) := by decide +kernel
theorem dX12_readNumber_1 : decode cX12_readNumber 1 = .ok (.ldc 213, 2) := by decide +kernel
theorem dX12_readNumber_3 : decode cX12_readNumber 3 = .ok (.invokevirtual 215, 3) := by decide +kernel
theorem dX12_readNumber_6 : decode cX12_readNumber 6 = .ok (.aload_n 0, 1) := by decide +kernel
theorem dX12_readNumber_7 : decode cX12_readNumber 7 = .ok (.aload_n 0, 1) := by decide +kernel
theorem dX12_readNumber_8 : decode cX12_readNumber 8 = .ok (.getfield 202, 3) := by decide +kernel
theorem dX12_readNumber_11 : decode cX12_readNumber 11 = .ok (.ifCond .ne 10, 3) := by decide +kernel
theorem dX12_readNumber_14 : decode cX12_readNumber 14 = .ok (.aload_n 0, 1) := by decide +kernel
theorem dX12_readNumber_15 : decode cX12_readNumber 15 = .ok (.invokevirtual 219, 3) := by decide +kernel
theorem dX12_readNumber_18 : decode cX12_readNumber 18 = .ok (.ifCond .ne 7, 3) := by decide +kernel
theorem dX12_readNumber_21 : decode cX12_readNumber 21 = .ok (.iconst 1, 1) := by decide +kernel
theorem dX12_readNumber_22 : decode cX12_readNumber 22 = .ok (.goto 4, 3) := by decide +kernel
theorem dX12_readNumber_25 : decode cX12_readNumber 25 = .ok (.iconst 0, 1) := by decide +kernel
theorem dX12_readNumber_26 : decode cX12_readNumber 26 = .ok (.putfield 202, 3) := by decide +kernel
theorem dX12_readNumber_29 : decode cX12_readNumber 29 = .ok (.iconst 0, 1) := by decide +kernel
theorem dX12_readNumber_30 : decode cX12_readNumber 30 = .ok (.istore_n 2, 1) := by decide +kernel
theorem dX12_readNumber_31 : decode cX12_readNumber 31 = .ok (.iconst 0, 1) := by decide +kernel
theorem dX12_readNumber_32 : decode cX12_readNumber 32 = .ok (.istore_n 3, 1) := by decide +kernel
theorem dX12_readNumber_33 : decode cX12_readNumber 33 = .ok (.iload_n 3, 1) := by decide +kernel
theorem dX12_readNumber_34 : decode cX12_readNumber 34 = .ok (.iload_n 1, 1) := by decide +kernel
theorem dX12_readNumber_35 : decode cX12_readNumber 35 = .ok (.if_icmp .ge 44, 3) := by decide +kernel
theorem dX12_readNumber_38 : decode cX12_readNumber 38 = .ok (.aload_n 0, 1) := by decide +kernel
theorem dX12_readNumber_39 : decode cX12_readNumber 39 = .ok (.invokevirtual 219, 3) := by decide +kernel
theorem dX12_readNumber_42 : decode cX12_readNumber 42 = .ok (.ifCond .eq 37, 3) := by decide +kernel
theorem dX12_readNumber_45 : decode cX12_readNumber 45 = .ok (.bipush 10, 2) := by decide +kernel
theorem dX12_readNumber_47 : decode cX12_readNumber 47 = .ok (.iload_n 2, 1) := by decide +kernel
theorem dX12_readNumber_48 : decode cX12_readNumber 48 = .ok (.imul, 1) := by decide +kernel
theorem dX12_readNumber_49 : decode cX12_readNumber 49 = .ok (.aload_n 0, 1) := by decide +kernel
theorem dX12_readNumber_50 : decode cX12_readNumber 50 = .ok (.getfield 26, 3) := by decide +kernel
theorem dX12_readNumber_53 : decode cX12_readNumber 53 = .ok (.aload_n 0, 1) := by decide +kernel
theorem dX12_readNumber_54 : decode cX12_readNumber 54 = .ok (.getfield 195, 3) := by decide +kernel
theorem dX12_readNumber_57 : decode cX12_readNumber 57 = .ok (.caload, 1) := by decide +kernel
theorem dX12_readNumber_58 : decode cX12_readNumber 58 = .ok (.iadd, 1) := by decide +kernel
theorem dX12_readNumber_59 : decode cX12_readNumber 59 = .ok (.bipush 48, 2) := by decide +kernel
theorem dX12_readNumber_61 : decode cX12_readNumber 61 = .ok (.isub, 1) := by decide +kernel
theorem dX12_readNumber_62 : decode cX12_readNumber 62 = .ok (.istore_n 2, 1) := by decide +kernel
theorem dX12_readNumber_63 : decode cX12_readNumber 63 = .ok (.aload_n 0, 1) := by decide +kernel
theorem dX12_readNumber_64 : decode cX12_readNumber 64 = .ok (.dup, 1) := by decide +kernel
theorem dX12_readNumber_65 : decode cX12_readNumber 65 = .ok (.getfield 195, 3) := by decide +kernel
theorem dX12_readNumber_68 : decode cX12_readNumber 68 = .ok (.iconst 1, 1) := by decide +kernel
theorem dX12_readNumber_69 : decode cX12_readNumber 69 = .ok (.iadd, 1) := by decide +kernel
theorem dX12_readNumber_70 : decode cX12_readNumber 70 = .ok (.putfield 195, 3) := by decide +kernel
theorem dX12_readNumber_73 : decode cX12_readNumber 73 = .ok (.iinc 3 1, 3) := by decide +kernel
theorem dX12_readNumber_76 : decode cX12_readNumber 76 = .ok (.goto (-43), 3) := by decide +kernel
theorem dX12_readNumber_79 : decode cX12_readNumber 79 = .ok (.iload_n 2, 1) := by decide +kernel
theorem dX12_readNumber_80 : decode cX12_readNumber 80 = .ok (.ireturn, 1) := by decide +kernel
theorem dX12_readCommand_0 : decode cX12_readCommand 0 = .ok (.aload_n 0, 1) := by decide +kernel
theorem dX12_readCommand_1 : decode cX12_readCommand 1 = .ok (.getfield 202, 3) := by decide +kernel
theorem dX12_readCommand_4 : decode cX12_readCommand 4 = .ok (.ifCond .eq 4, 3) := by decide +kernel
theorem dX12_readCommand_7 : decode cX12_readCommand 7 = .ok (.return_, 1) := by decide +kernel
theorem dX12_readCommand_8 : decode cX12_readCommand 8 = .ok (.aload_n 0, 1) := by decide +kernel
theorem dX12_readCommand_9 : decode cX12_readCommand 9 = .ok (.invokevirtual 206, 3) := by decide +kernel
theorem dX12_readCommand_12 : decode cX12_readCommand 12 = .ok (.istore_n 1, 1) := by decide +kernel
theorem dX12_readCommand_13 : decode cX12_readCommand 13 = .ok (.iconst 4, 1) := by decide +kernel
theorem dX12_readCommand_14 : decode cX12_readCommand 14 = .ok (.aload_n 0, 1) := by decide +kernel
theorem dX12_readCommand_15 : decode cX12_readCommand 15 = .ok (.getfield 223, 3) := by decide +kernel
theorem dX12_readCommand_18 : decode cX12_readCommand 18 = .ok (.imul, 1) := by decide +kernel
theorem dX12_readCommand_19 : decode cX12_readCommand 19 = .ok (.istore_n 2, 1) := by decide +kernel
theorem dX12_readCommand_20 : decode cX12_readCommand 20 = .ok (.aload_n 0, 1) := by decide +kernel
theorem dX12_readCommand_21 : decode cX12_readCommand 21 = .ok (.dup, 1) := by decide +kernel
theorem dX12_readCommand_22 : decode cX12_readCommand 22 = .ok (.getfield 223, 3) := by decide +kernel
theorem dX12_readCommand_25 : decode cX12_readCommand 25 = .ok (.iconst 1, 1) := by decide +kernel
theorem dX12_readCommand_26 : decode cX12_readCommand 26 = .ok (.iadd, 1) := by decide +kernel
theorem dX12_readCommand_27 : decode cX12_readCommand 27 = .ok (.putfield 223, 3) := by decide +kernel
theorem dX12_readCommand_30 : decode cX12_readCommand 30 = .ok (.aload_n 0, 1) := by decide +kernel
theorem dX12_readCommand_31 : decode cX12_readCommand 31 = .ok (.getfield 36, 3) := by decide +kernel
theorem dX12_readCommand_34 : decode cX12_readCommand 34 = .ok (.iload_n 2, 1) := by decide +kernel
theorem dX12_readCommand_35 : decode cX12_readCommand 35 = .ok (.iload_n 1, 1) := by decide +kernel
theorem dX12_readCommand_36 : decode cX12_readCommand 36 = .ok (.iastore, 1) := by decide +kernel
theorem dX12_readCommand_37 : decode cX12_readCommand 37 = .ok (.iload_n 1, 1) := by decide +kernel
theorem dX12_readCommand_38 : decode cX12_readCommand 38 = .ok (.lookupswitch 238 #[(98, 104), (99, 152), (108, 174), (113, 58), (115, 58), (119, 196)], 58) := by decide +kernel
theorem dX12_readCommand_96 : decode cX12_readCommand 96 = .ok (.aload_n 0, 1) := by decide +kernel
theorem dX12_readCommand_97 : decode cX12_readCommand 97 = .ok (.iload_n 1, 1) := by decide +kernel
theorem dX12_readCommand_98 : decode cX12_readCommand 98 = .ok (.bipush 115, 2) := by decide +kernel
theorem dX12_readCommand_100 : decode cX12_readCommand 100 = .ok (.if_icmp .ne 8, 3) := by decide +kernel
theorem dX12_readCommand_103 : decode cX12_readCommand 103 = .ok (.ldc 226, 2) := by decide +kernel
theorem dX12_readCommand_105 : decode cX12_readCommand 105 = .ok (.goto 5, 3) := by decide +kernel
theorem dX12_readCommand_108 : decode cX12_readCommand 108 = .ok (.ldc 227, 2) := by decide +kernel
theorem dX12_readCommand_110 : decode cX12_readCommand 110 = .ok (.invokevirtual 215, 3) := by decide +kernel
theorem dX12_readCommand_113 : decode cX12_readCommand 113 = .ok (.aload_n 0, 1) := by decide +kernel
theorem dX12_readCommand_114 : decode cX12_readCommand 114 = .ok (.getfield 36, 3) := by decide +kernel
theorem dX12_readCommand_117 : decode cX12_readCommand 117 = .ok (.iload_n 2, 1) := by decide +kernel
theorem dX12_readCommand_118 : decode cX12_readCommand 118 = .ok (.iconst 1, 1) := by decide +kernel
theorem dX12_readCommand_119 : decode cX12_readCommand 119 = .ok (.iadd, 1) := by decide +kernel
theorem dX12_readCommand_120 : decode cX12_readCommand 120 = .ok (.aload_n 0, 1) := by decide +kernel
theorem dX12_readCommand_121 : decode cX12_readCommand 121 = .ok (.iconst 1, 1) := by decide +kernel
theorem dX12_readCommand_122 : decode cX12_readCommand 122 = .ok (.invokevirtual 229, 3) := by decide +kernel
theorem dX12_readCommand_125 : decode cX12_readCommand 125 = .ok (.iastore, 1) := by decide +kernel
theorem dX12_readCommand_126 : decode cX12_readCommand 126 = .ok (.aload_n 0, 1) := by decide +kernel
theorem dX12_readCommand_127 : decode cX12_readCommand 127 = .ok (.getfield 36, 3) := by decide +kernel
theorem dX12_readCommand_130 : decode cX12_readCommand 130 = .ok (.iload_n 2, 1) := by decide +kernel
theorem dX12_readCommand_131 : decode cX12_readCommand 131 = .ok (.iconst 2, 1) := by decide +kernel
theorem dX12_readCommand_132 : decode cX12_readCommand 132 = .ok (.iadd, 1) := by decide +kernel
theorem dX12_readCommand_133 : decode cX12_readCommand 133 = .ok (.aload_n 0, 1) := by decide +kernel
theorem dX12_readCommand_134 : decode cX12_readCommand 134 = .ok (.iconst 1, 1) := by decide +kernel
theorem dX12_readCommand_135 : decode cX12_readCommand 135 = .ok (.invokevirtual 229, 3) := by decide +kernel
theorem dX12_readCommand_138 : decode cX12_readCommand 138 = .ok (.iastore, 1) := by decide +kernel
theorem dX12_readCommand_139 : decode cX12_readCommand 139 = .ok (.goto 143, 3) := by decide +kernel
theorem dX12_readCommand_142 : decode cX12_readCommand 142 = .ok (.aload_n 0, 1) := by decide +kernel
theorem dX12_readCommand_143 : decode cX12_readCommand 143 = .ok (.ldc 232, 2) := by decide +kernel
theorem dX12_readCommand_145 : decode cX12_readCommand 145 = .ok (.invokevirtual 215, 3) := by decide +kernel
theorem dX12_readCommand_148 : decode cX12_readCommand 148 = .ok (.aload_n 0, 1) := by decide +kernel
theorem dX12_readCommand_149 : decode cX12_readCommand 149 = .ok (.getfield 36, 3) := by decide +kernel
theorem dX12_readCommand_152 : decode cX12_readCommand 152 = .ok (.iload_n 2, 1) := by decide +kernel
theorem dX12_readCommand_153 : decode cX12_readCommand 153 = .ok (.iconst 1, 1) := by decide +kernel
theorem dX12_readCommand_154 : decode cX12_readCommand 154 = .ok (.iadd, 1) := by decide +kernel
theorem dX12_readCommand_155 : decode cX12_readCommand 155 = .ok (.aload_n 0, 1) := by decide +kernel
theorem dX12_readCommand_156 : decode cX12_readCommand 156 = .ok (.iconst 1, 1) := by decide +kernel
theorem dX12_readCommand_157 : decode cX12_readCommand 157 = .ok (.invokevirtual 229, 3) := by decide +kernel
theorem dX12_readCommand_160 : decode cX12_readCommand 160 = .ok (.iastore, 1) := by decide +kernel
theorem dX12_readCommand_161 : decode cX12_readCommand 161 = .ok (.aload_n 0, 1) := by decide +kernel
theorem dX12_readCommand_162 : decode cX12_readCommand 162 = .ok (.getfield 36, 3) := by decide +kernel
theorem dX12_readCommand_165 : decode cX12_readCommand 165 = .ok (.iload_n 2, 1) := by decide +kernel
theorem dX12_readCommand_166 : decode cX12_readCommand 166 = .ok (.iconst 2, 1) := by decide +kernel
theorem dX12_readCommand_167 : decode cX12_readCommand 167 = .ok (.iadd, 1) := by decide +kernel
theorem dX12_readCommand_168 : decode cX12_readCommand 168 = .ok (.aload_n 0, 1) := by decide +kernel
theorem dX12_readCommand_169 : decode cX12_readCommand 169 = .ok (.iconst 1, 1) := by decide +kernel
theorem dX12_readCommand_170 : decode cX12_readCommand 170 = .ok (.invokevirtual 229, 3) := by decide +kernel
theorem dX12_readCommand_173 : decode cX12_readCommand 173 = .ok (.iastore, 1) := by decide +kernel
theorem dX12_readCommand_174 : decode cX12_readCommand 174 = .ok (.aload_n 0, 1) := by decide +kernel
theorem dX12_readCommand_175 : decode cX12_readCommand 175 = .ok (.getfield 36, 3) := by decide +kernel
theorem dX12_readCommand_178 : decode cX12_readCommand 178 = .ok (.iload_n 2, 1) := by decide +kernel
theorem dX12_readCommand_179 : decode cX12_readCommand 179 = .ok (.iconst 3, 1) := by decide +kernel
theorem dX12_readCommand_180 : decode cX12_readCommand 180 = .ok (.iadd, 1) := by decide +kernel
theorem dX12_readCommand_181 : decode cX12_readCommand 181 = .ok (.aload_n 0, 1) := by decide +kernel
theorem dX12_readCommand_182 : decode cX12_readCommand 182 = .ok (.iconst 4, 1) := by decide +kernel
theorem dX12_readCommand_183 : decode cX12_readCommand 183 = .ok (.invokevirtual 229, 3) := by decide +kernel
theorem dX12_readCommand_186 : decode cX12_readCommand 186 = .ok (.iastore, 1) := by decide +kernel
theorem dX12_readCommand_187 : decode cX12_readCommand 187 = .ok (.goto 95, 3) := by decide +kernel
theorem dX12_readCommand_190 : decode cX12_readCommand 190 = .ok (.aload_n 0, 1) := by decide +kernel
theorem dX12_readCommand_191 : decode cX12_readCommand 191 = .ok (.ldc 234, 2) := by decide +kernel
theorem dX12_readCommand_193 : decode cX12_readCommand 193 = .ok (.invokevirtual 215, 3) := by decide +kernel
theorem dX12_readCommand_196 : decode cX12_readCommand 196 = .ok (.aload_n 0, 1) := by decide +kernel
theorem dX12_readCommand_197 : decode cX12_readCommand 197 = .ok (.getfield 36, 3) := by decide +kernel
theorem dX12_readCommand_200 : decode cX12_readCommand 200 = .ok (.iload_n 2, 1) := by decide +kernel
theorem dX12_readCommand_201 : decode cX12_readCommand 201 = .ok (.iconst 1, 1) := by decide +kernel
theorem dX12_readCommand_202 : decode cX12_readCommand 202 = .ok (.iadd, 1) := by decide +kernel
theorem dX12_readCommand_203 : decode cX12_readCommand 203 = .ok (.aload_n 0, 1) := by decide +kernel
theorem dX12_readCommand_204 : decode cX12_readCommand 204 = .ok (.iconst 2, 1) := by decide +kernel
theorem dX12_readCommand_205 : decode cX12_readCommand 205 = .ok (.invokevirtual 229, 3) := by decide +kernel
theorem dX12_readCommand_208 : decode cX12_readCommand 208 = .ok (.iastore, 1) := by decide +kernel
theorem dX12_readCommand_209 : decode cX12_readCommand 209 = .ok (.goto 73, 3) := by decide +kernel
theorem dX12_readCommand_212 : decode cX12_readCommand 212 = .ok (.aload_n 0, 1) := by decide +kernel
theorem dX12_readCommand_213 : decode cX12_readCommand 213 = .ok (.ldc 236, 2) := by decide +kernel
theorem dX12_readCommand_215 : decode cX12_readCommand 215 = .ok (.invokevirtual 215, 3) := by decide +kernel
theorem dX12_readCommand_218 : decode cX12_readCommand 218 = .ok (.aload_n 0, 1) := by decide +kernel
theorem dX12_readCommand_219 : decode cX12_readCommand 219 = .ok (.getfield 36, 3) := by decide +kernel
theorem dX12_readCommand_222 : decode cX12_readCommand 222 = .ok (.iload_n 2, 1) := by decide +kernel
theorem dX12_readCommand_223 : decode cX12_readCommand 223 = .ok (.iconst 1, 1) := by decide +kernel
theorem dX12_readCommand_224 : decode cX12_readCommand 224 = .ok (.iadd, 1) := by decide +kernel
theorem dX12_readCommand_225 : decode cX12_readCommand 225 = .ok (.aload_n 0, 1) := by decide +kernel
theorem dX12_readCommand_226 : decode cX12_readCommand 226 = .ok (.iconst 1, 1) := by decide +kernel
theorem dX12_readCommand_227 : decode cX12_readCommand 227 = .ok (.invokevirtual 229, 3) := by decide +kernel
theorem dX12_readCommand_230 : decode cX12_readCommand 230 = .ok (.iastore, 1) := by decide +kernel
theorem dX12_readCommand_231 : decode cX12_readCommand 231 = .ok (.goto 51, 3) := by decide +kernel
theorem dX12_readCommand_234 : decode cX12_readCommand 234 = .ok (.aload_n 0, 1) := by decide +kernel
theorem dX12_readCommand_235 : decode cX12_readCommand 235 = .ok (.ldc 238, 2) := by decide +kernel
theorem dX12_readCommand_237 : decode cX12_readCommand 237 = .ok (.invokevirtual 215, 3) := by decide +kernel
theorem dX12_readCommand_240 : decode cX12_readCommand 240 = .ok (.aload_n 0, 1) := by decide +kernel
theorem dX12_readCommand_241 : decode cX12_readCommand 241 = .ok (.getfield 36, 3) := by decide +kernel
theorem dX12_readCommand_244 : decode cX12_readCommand 244 = .ok (.iload_n 2, 1) := by decide +kernel
theorem dX12_readCommand_245 : decode cX12_readCommand 245 = .ok (.iconst 1, 1) := by decide +kernel
theorem dX12_readCommand_246 : decode cX12_readCommand 246 = .ok (.iadd, 1) := by decide +kernel
theorem dX12_readCommand_247 : decode cX12_readCommand 247 = .ok (.aload_n 0, 1) := by decide +kernel
theorem dX12_readCommand_248 : decode cX12_readCommand 248 = .ok (.getfield 202, 3) := by decide +kernel
theorem dX12_readCommand_251 : decode cX12_readCommand 251 = .ok (.ifCond .ne 20, 3) := by decide +kernel
theorem dX12_readCommand_254 : decode cX12_readCommand 254 = .ok (.aload_n 0, 1) := by decide +kernel
theorem dX12_readCommand_255 : decode cX12_readCommand 255 = .ok (.invokevirtual 206, 3) := by decide +kernel
theorem dX12_readCommand_258 : decode cX12_readCommand 258 = .ok (.bipush 32, 2) := by decide +kernel
theorem dX12_readCommand_260 : decode cX12_readCommand 260 = .ok (.if_icmp .ne 11, 3) := by decide +kernel
theorem dX12_readCommand_263 : decode cX12_readCommand 263 = .ok (.aload_n 0, 1) := by decide +kernel
theorem dX12_readCommand_264 : decode cX12_readCommand 264 = .ok (.iconst 2, 1) := by decide +kernel
theorem dX12_readCommand_265 : decode cX12_readCommand 265 = .ok (.invokevirtual 229, 3) := by decide +kernel
theorem dX12_readCommand_268 : decode cX12_readCommand 268 = .ok (.goto 4, 3) := by decide +kernel
theorem dX12_readCommand_271 : decode cX12_readCommand 271 = .ok (.iconst 1, 1) := by decide +kernel
theorem dX12_readCommand_272 : decode cX12_readCommand 272 = .ok (.iastore, 1) := by decide +kernel
theorem dX12_readCommand_273 : decode cX12_readCommand 273 = .ok (.goto 9, 3) := by decide +kernel
theorem dX12_readCommand_276 : decode cX12_readCommand 276 = .ok (.aload_n 0, 1) := by decide +kernel
theorem dX12_readCommand_277 : decode cX12_readCommand 277 = .ok (.ldc 240, 2) := by decide +kernel
theorem dX12_readCommand_279 : decode cX12_readCommand 279 = .ok (.invokevirtual 215, 3) := by decide +kernel
theorem dX12_readCommand_282 : decode cX12_readCommand 282 = .ok (.return_, 1) := by decide +kernel
theorem dX12_does_0 : decode cX12_does 0 = .ok (.aload_n 0, 1) := by decide +kernel
theorem dX12_does_1 : decode cX12_does 1 = .ok (.getfield 36, 3) := by decide +kernel
theorem dX12_does_4 : decode cX12_does 4 = .ok (.iconst 4, 1) := by decide +kernel
theorem dX12_does_5 : decode cX12_does 5 = .ok (.iload_n 1, 1) := by decide +kernel
theorem dX12_does_6 : decode cX12_does 6 = .ok (.imul, 1) := by decide +kernel
theorem dX12_does_7 : decode cX12_does 7 = .ok (.iconst 1, 1) := by decide +kernel
theorem dX12_does_8 : decode cX12_does 8 = .ok (.iadd, 1) := by decide +kernel
theorem dX12_does_9 : decode cX12_does 9 = .ok (.iaload, 1) := by decide +kernel
theorem dX12_does_10 : decode cX12_does 10 = .ok (.istore_n 2, 1) := by decide +kernel
theorem dX12_does_11 : decode cX12_does 11 = .ok (.aload_n 0, 1) := by decide +kernel
theorem dX12_does_12 : decode cX12_does 12 = .ok (.getfield 36, 3) := by decide +kernel
theorem dX12_does_15 : decode cX12_does 15 = .ok (.iconst 4, 1) := by decide +kernel
theorem dX12_does_16 : decode cX12_does 16 = .ok (.iload_n 1, 1) := by decide +kernel
theorem dX12_does_17 : decode cX12_does 17 = .ok (.imul, 1) := by decide +kernel
theorem dX12_does_18 : decode cX12_does 18 = .ok (.iconst 2, 1) := by decide +kernel
theorem dX12_does_19 : decode cX12_does 19 = .ok (.iadd, 1) := by decide +kernel
theorem dX12_does_20 : decode cX12_does 20 = .ok (.iaload, 1) := by decide +kernel
theorem dX12_does_21 : decode cX12_does 21 = .ok (.istore_n 3, 1) := by decide +kernel
theorem dX12_does_22 : decode cX12_does 22 = .ok (.aload_n 0, 1) := by decide +kernel
theorem dX12_does_23 : decode cX12_does 23 = .ok (.getfield 36, 3) := by decide +kernel
theorem dX12_does_26 : decode cX12_does 26 = .ok (.iconst 4, 1) := by decide +kernel
theorem dX12_does_27 : decode cX12_does 27 = .ok (.iload_n 1, 1) := by decide +kernel
theorem dX12_does_28 : decode cX12_does 28 = .ok (.imul, 1) := by decide +kernel
theorem dX12_does_29 : decode cX12_does 29 = .ok (.iaload, 1) := by decide +kernel
theorem dX12_does_30 : decode cX12_does 30 = .ok (.lookupswitch 131 #[(98, 80), (99, 101), (108, 111), (113, 69), (115, 58), (119, 121)], 58) := by decide +kernel
theorem dX12_does_88 : decode cX12_does 88 = .ok (.aload_n 0, 1) := by decide +kernel
theorem dX12_does_89 : decode cX12_does 89 = .ok (.iload_n 2, 1) := by decide +kernel
theorem dX12_does_90 : decode cX12_does 90 = .ok (.iload_n 3, 1) := by decide +kernel
theorem dX12_does_91 : decode cX12_does 91 = .ok (.invokevirtual 80, 3) := by decide +kernel
theorem dX12_does_94 : decode cX12_does 94 = .ok (.istore 4, 2) := by decide +kernel
theorem dX12_does_96 : decode cX12_does 96 = .ok (.goto 71, 3) := by decide +kernel
theorem dX12_does_99 : decode cX12_does 99 = .ok (.aload_n 0, 1) := by decide +kernel
theorem dX12_does_100 : decode cX12_does 100 = .ok (.iload_n 2, 1) := by decide +kernel
theorem dX12_does_101 : decode cX12_does 101 = .ok (.iload_n 3, 1) := by decide +kernel
theorem dX12_does_102 : decode cX12_does 102 = .ok (.invokevirtual 130, 3) := by decide +kernel
theorem dX12_does_105 : decode cX12_does 105 = .ok (.istore 4, 2) := by decide +kernel
theorem dX12_does_107 : decode cX12_does 107 = .ok (.goto 60, 3) := by decide +kernel
theorem dX12_does_110 : decode cX12_does 110 = .ok (.aload_n 0, 1) := by decide +kernel
theorem dX12_does_111 : decode cX12_does 111 = .ok (.iload_n 2, 1) := by decide +kernel
theorem dX12_does_112 : decode cX12_does 112 = .ok (.iload_n 3, 1) := by decide +kernel
theorem dX12_does_113 : decode cX12_does 113 = .ok (.aload_n 0, 1) := by decide +kernel
theorem dX12_does_114 : decode cX12_does 114 = .ok (.getfield 36, 3) := by decide +kernel
theorem dX12_does_117 : decode cX12_does 117 = .ok (.iconst 4, 1) := by decide +kernel
theorem dX12_does_118 : decode cX12_does 118 = .ok (.iload_n 1, 1) := by decide +kernel
theorem dX12_does_119 : decode cX12_does 119 = .ok (.imul, 1) := by decide +kernel
theorem dX12_does_120 : decode cX12_does 120 = .ok (.iconst 3, 1) := by decide +kernel
theorem dX12_does_121 : decode cX12_does 121 = .ok (.iadd, 1) := by decide +kernel
theorem dX12_does_122 : decode cX12_does 122 = .ok (.iaload, 1) := by decide +kernel
theorem dX12_does_123 : decode cX12_does 123 = .ok (.invokevirtual 117, 3) := by decide +kernel
theorem dX12_does_126 : decode cX12_does 126 = .ok (.istore 4, 2) := by decide +kernel
theorem dX12_does_128 : decode cX12_does 128 = .ok (.goto 39, 3) := by decide +kernel
theorem dX12_does_131 : decode cX12_does 131 = .ok (.aload_n 0, 1) := by decide +kernel
theorem dX12_does_132 : decode cX12_does 132 = .ok (.iload_n 2, 1) := by decide +kernel
theorem dX12_does_133 : decode cX12_does 133 = .ok (.invokevirtual 127, 3) := by decide +kernel
theorem dX12_does_136 : decode cX12_does 136 = .ok (.istore 4, 2) := by decide +kernel
theorem dX12_does_138 : decode cX12_does 138 = .ok (.goto 29, 3) := by decide +kernel
theorem dX12_does_141 : decode cX12_does 141 = .ok (.aload_n 0, 1) := by decide +kernel
theorem dX12_does_142 : decode cX12_does 142 = .ok (.iload_n 2, 1) := by decide +kernel
theorem dX12_does_143 : decode cX12_does 143 = .ok (.invokevirtual 133, 3) := by decide +kernel
theorem dX12_does_146 : decode cX12_does 146 = .ok (.istore 4, 2) := by decide +kernel
theorem dX12_does_148 : decode cX12_does 148 = .ok (.goto 19, 3) := by decide +kernel
theorem dX12_does_151 : decode cX12_does 151 = .ok (.aload_n 0, 1) := by decide +kernel
theorem dX12_does_152 : decode cX12_does 152 = .ok (.iload_n 2, 1) := by decide +kernel
theorem dX12_does_153 : decode cX12_does 153 = .ok (.invokevirtual 154, 3) := by decide +kernel
theorem dX12_does_156 : decode cX12_does 156 = .ok (.istore 4, 2) := by decide +kernel
theorem dX12_does_158 : decode cX12_does 158 = .ok (.goto 9, 3) := by decide +kernel
theorem dX12_does_161 : decode cX12_does 161 = .ok (.aload_n 0, 1) := by decide +kernel
theorem dX12_does_162 : decode cX12_does 162 = .ok (.invokevirtual 86, 3) := by decide +kernel
theorem dX12_does_165 : decode cX12_does 165 = .ok (.istore 4, 2) := by decide +kernel
theorem dX12_does_167 : decode cX12_does 167 = .ok (.return_, 1) := by decide +kernel
theorem dX12_runCommands_0 : decode cX12_runCommands 0 = .ok (.aload_n 0, 1) := by decide +kernel
theorem dX12_runCommands_1 : decode cX12_runCommands 1 = .ok (.iconst 0, 1) := by decide +kernel
theorem dX12_runCommands_2 : decode cX12_runCommands 2 = .ok (.putfield 195, 3) := by decide +kernel
theorem dX12_runCommands_5 : decode cX12_runCommands 5 = .ok (.aload_n 0, 1) := by decide +kernel
theorem dX12_runCommands_6 : decode cX12_runCommands 6 = .ok (.iconst 0, 1) := by decide +kernel
theorem dX12_runCommands_7 : decode cX12_runCommands 7 = .ok (.putfield 202, 3) := by decide +kernel
theorem dX12_runCommands_10 : decode cX12_runCommands 10 = .ok (.aload_n 0, 1) := by decide +kernel
theorem dX12_runCommands_11 : decode cX12_runCommands 11 = .ok (.iconst 0, 1) := by decide +kernel
theorem dX12_runCommands_12 : decode cX12_runCommands 12 = .ok (.putfield 223, 3) := by decide +kernel
theorem dX12_runCommands_15 : decode cX12_runCommands 15 = .ok (.aload_n 0, 1) := by decide +kernel
theorem dX12_runCommands_16 : decode cX12_runCommands 16 = .ok (.invokevirtual 241, 3) := by decide +kernel
theorem dX12_runCommands_19 : decode cX12_runCommands 19 = .ok (.aload_n 0, 1) := by decide +kernel
theorem dX12_runCommands_20 : decode cX12_runCommands 20 = .ok (.getfield 202, 3) := by decide +kernel
theorem dX12_runCommands_23 : decode cX12_runCommands 23 = .ok (.ifCond .ne 29, 3) := by decide +kernel
theorem dX12_runCommands_26 : decode cX12_runCommands 26 = .ok (.aload_n 0, 1) := by decide +kernel
theorem dX12_runCommands_27 : decode cX12_runCommands 27 = .ok (.invokevirtual 206, 3) := by decide +kernel
theorem dX12_runCommands_30 : decode cX12_runCommands 30 = .ok (.bipush 59, 2) := by decide +kernel
theorem dX12_runCommands_32 : decode cX12_runCommands 32 = .ok (.if_icmp .ne 20, 3) := by decide +kernel
theorem dX12_runCommands_35 : decode cX12_runCommands 35 = .ok (.aload_n 0, 1) := by decide +kernel
theorem dX12_runCommands_36 : decode cX12_runCommands 36 = .ok (.dup, 1) := by decide +kernel
theorem dX12_runCommands_37 : decode cX12_runCommands 37 = .ok (.getfield 195, 3) := by decide +kernel
theorem dX12_runCommands_40 : decode cX12_runCommands 40 = .ok (.iconst 1, 1) := by decide +kernel
theorem dX12_runCommands_41 : decode cX12_runCommands 41 = .ok (.iadd, 1) := by decide +kernel
theorem dX12_runCommands_42 : decode cX12_runCommands 42 = .ok (.putfield 195, 3) := by decide +kernel
theorem dX12_runCommands_45 : decode cX12_runCommands 45 = .ok (.aload_n 0, 1) := by decide +kernel
theorem dX12_runCommands_46 : decode cX12_runCommands 46 = .ok (.invokevirtual 241, 3) := by decide +kernel
theorem dX12_runCommands_49 : decode cX12_runCommands 49 = .ok (.goto (-30), 3) := by decide +kernel
theorem dX12_runCommands_52 : decode cX12_runCommands 52 = .ok (.aload_n 0, 1) := by decide +kernel
theorem dX12_runCommands_53 : decode cX12_runCommands 53 = .ok (.aload_n 0, 1) := by decide +kernel
theorem dX12_runCommands_54 : decode cX12_runCommands 54 = .ok (.getfield 202, 3) := by decide +kernel
theorem dX12_runCommands_57 : decode cX12_runCommands 57 = .ok (.ifCond .ne 14, 3) := by decide +kernel
theorem dX12_runCommands_60 : decode cX12_runCommands 60 = .ok (.aload_n 0, 1) := by decide +kernel
theorem dX12_runCommands_61 : decode cX12_runCommands 61 = .ok (.getfield 195, 3) := by decide +kernel
theorem dX12_runCommands_64 : decode cX12_runCommands 64 = .ok (.aload_n 0, 1) := by decide +kernel
theorem dX12_runCommands_65 : decode cX12_runCommands 65 = .ok (.getfield 192, 3) := by decide +kernel
theorem dX12_runCommands_68 : decode cX12_runCommands 68 = .ok (.if_icmp .ge 7, 3) := by decide +kernel
theorem dX12_runCommands_71 : decode cX12_runCommands 71 = .ok (.iconst 1, 1) := by decide +kernel
theorem dX12_runCommands_72 : decode cX12_runCommands 72 = .ok (.goto 4, 3) := by decide +kernel
theorem dX12_runCommands_75 : decode cX12_runCommands 75 = .ok (.iconst 0, 1) := by decide +kernel
theorem dX12_runCommands_76 : decode cX12_runCommands 76 = .ok (.putfield 202, 3) := by decide +kernel
theorem dX12_runCommands_79 : decode cX12_runCommands 79 = .ok (.aload_n 0, 1) := by decide +kernel
theorem dX12_runCommands_80 : decode cX12_runCommands 80 = .ok (.aload_n 0, 1) := by decide +kernel
theorem dX12_runCommands_81 : decode cX12_runCommands 81 = .ok (.getfield 202, 3) := by decide +kernel
theorem dX12_runCommands_84 : decode cX12_runCommands 84 = .ok (.ifCond .eq 10, 3) := by decide +kernel
theorem dX12_runCommands_87 : decode cX12_runCommands 87 = .ok (.aload_n 0, 1) := by decide +kernel
theorem dX12_runCommands_88 : decode cX12_runCommands 88 = .ok (.getfield 195, 3) := by decide +kernel
theorem dX12_runCommands_91 : decode cX12_runCommands 91 = .ok (.goto 7, 3) := by decide +kernel
theorem dX12_runCommands_94 : decode cX12_runCommands 94 = .ok (.aload_n 0, 1) := by decide +kernel
theorem dX12_runCommands_95 : decode cX12_runCommands 95 = .ok (.getfield 29, 3) := by decide +kernel
theorem dX12_runCommands_98 : decode cX12_runCommands 98 = .ok (.putfield 29, 3) := by decide +kernel
theorem dX12_runCommands_101 : decode cX12_runCommands 101 = .ok (.aload_n 0, 1) := by decide +kernel
theorem dX12_runCommands_102 : decode cX12_runCommands 102 = .ok (.iconst 0, 1) := by decide +kernel
theorem dX12_runCommands_103 : decode cX12_runCommands 103 = .ok (.putfield 192, 3) := by decide +kernel
theorem dX12_runCommands_106 : decode cX12_runCommands 106 = .ok (.aload_n 0, 1) := by decide +kernel
theorem dX12_runCommands_107 : decode cX12_runCommands 107 = .ok (.getfield 202, 3) := by decide +kernel
theorem dX12_runCommands_110 : decode cX12_runCommands 110 = .ok (.ifCond .eq 9, 3) := by decide +kernel
theorem dX12_runCommands_113 : decode cX12_runCommands 113 = .ok (.aload_n 0, 1) := by decide +kernel
theorem dX12_runCommands_114 : decode cX12_runCommands 114 = .ok (.iconst 1, 1) := by decide +kernel
theorem dX12_runCommands_115 : decode cX12_runCommands 115 = .ok (.invokevirtual 74, 3) := by decide +kernel
theorem dX12_runCommands_118 : decode cX12_runCommands 118 = .ok (.ireturn, 1) := by decide +kernel
theorem dX12_runCommands_119 : decode cX12_runCommands 119 = .ok (.aload_n 0, 1) := by decide +kernel
theorem dX12_runCommands_120 : decode cX12_runCommands 120 = .ok (.invokevirtual 77, 3) := by decide +kernel
theorem dX12_runCommands_123 : decode cX12_runCommands 123 = .ok (.iconst 0, 1) := by decide +kernel
theorem dX12_runCommands_124 : decode cX12_runCommands 124 = .ok (.istore_n 1, 1) := by decide +kernel
theorem dX12_runCommands_125 : decode cX12_runCommands 125 = .ok (.iload_n 1, 1) := by decide +kernel
theorem dX12_runCommands_126 : decode cX12_runCommands 126 = .ok (.aload_n 0, 1) := by decide +kernel
theorem dX12_runCommands_127 : decode cX12_runCommands 127 = .ok (.getfield 223, 3) := by decide +kernel
theorem dX12_runCommands_130 : decode cX12_runCommands 130 = .ok (.if_icmp .ge 36, 3) := by decide +kernel
theorem dX12_runCommands_133 : decode cX12_runCommands 133 = .ok (.aload_n 0, 1) := by decide +kernel
theorem dX12_runCommands_134 : decode cX12_runCommands 134 = .ok (.iload_n 1, 1) := by decide +kernel
theorem dX12_runCommands_135 : decode cX12_runCommands 135 = .ok (.invokevirtual 244, 3) := by decide +kernel
theorem dX12_runCommands_138 : decode cX12_runCommands 138 = .ok (.aload_n 0, 1) := by decide +kernel
theorem dX12_runCommands_139 : decode cX12_runCommands 139 = .ok (.getfield 39, 3) := by decide +kernel
theorem dX12_runCommands_142 : decode cX12_runCommands 142 = .ok (.ifCond .le 18, 3) := by decide +kernel
theorem dX12_runCommands_145 : decode cX12_runCommands 145 = .ok (.aload_n 0, 1) := by decide +kernel
theorem dX12_runCommands_146 : decode cX12_runCommands 146 = .ok (.iload_n 1, 1) := by decide +kernel
theorem dX12_runCommands_147 : decode cX12_runCommands 147 = .ok (.putfield 33, 3) := by decide +kernel
theorem dX12_runCommands_150 : decode cX12_runCommands 150 = .ok (.aload_n 0, 1) := by decide +kernel
theorem dX12_runCommands_151 : decode cX12_runCommands 151 = .ok (.aload_n 0, 1) := by decide +kernel
theorem dX12_runCommands_152 : decode cX12_runCommands 152 = .ok (.iconst 2, 1) := by decide +kernel
theorem dX12_runCommands_153 : decode cX12_runCommands 153 = .ok (.invokevirtual 74, 3) := by decide +kernel
theorem dX12_runCommands_156 : decode cX12_runCommands 156 = .ok (.invokevirtual 83, 3) := by decide +kernel
theorem dX12_runCommands_159 : decode cX12_runCommands 159 = .ok (.ireturn, 1) := by decide +kernel
theorem dX12_runCommands_160 : decode cX12_runCommands 160 = .ok (.iinc 1 1, 3) := by decide +kernel
theorem dX12_runCommands_163 : decode cX12_runCommands 163 = .ok (.goto (-38), 3) := by decide +kernel
theorem dX12_runCommands_166 : decode cX12_runCommands 166 = .ok (.aload_n 0, 1) := by decide +kernel
theorem dX12_runCommands_167 : decode cX12_runCommands 167 = .ok (.aload_n 0, 1) := by decide +kernel
theorem dX12_runCommands_168 : decode cX12_runCommands 168 = .ok (.getfield 223, 3) := by decide +kernel
theorem dX12_runCommands_171 : decode cX12_runCommands 171 = .ok (.invokevirtual 83, 3) := by decide +kernel
theorem dX12_runCommands_174 : decode cX12_runCommands 174 = .ok (.ireturn, 1) := by decide +kernel
theorem dX12_errorPosition_0 : decode cX12_errorPosition 0 = .ok (.aload_n 0, 1) := by decide +kernel
theorem dX12_errorPosition_1 : decode cX12_errorPosition 1 = .ok (.aload_n 0, 1) := by decide +kernel
theorem dX12_errorPosition_2 : decode cX12_errorPosition 2 = .ok (.getfield 29, 3) := by decide +kernel
theorem dX12_errorPosition_5 : decode cX12_errorPosition 5 = .ok (.ifCond .lt 7, 3) := by decide +kernel
theorem dX12_errorPosition_8 : decode cX12_errorPosition 8 = .ok (.iconst 1, 1) := by decide +kernel
theorem dX12_errorPosition_9 : decode cX12_errorPosition 9 = .ok (.goto 4, 3) := by decide +kernel
theorem dX12_errorPosition_12 : decode cX12_errorPosition 12 = .ok (.iconst 0, 1) := by decide +kernel
theorem dX12_errorPosition_13 : decode cX12_errorPosition 13 = .ok (.invokevirtual 157, 3) := by decide +kernel
theorem dX12_errorPosition_16 : decode cX12_errorPosition 16 = .ok (.ifCond .eq 10, 3) := by decide +kernel
theorem dX12_errorPosition_19 : decode cX12_errorPosition 19 = .ok (.aload_n 0, 1) := by decide +kernel
theorem dX12_errorPosition_20 : decode cX12_errorPosition 20 = .ok (.getfield 29, 3) := by decide +kernel
theorem dX12_errorPosition_23 : decode cX12_errorPosition 23 = .ok (.goto 4, 3) := by decide +kernel
theorem dX12_errorPosition_26 : decode cX12_errorPosition 26 = .ok (.iconst 0, 1) := by decide +kernel
theorem dX12_errorPosition_27 : decode cX12_errorPosition 27 = .ok (.ireturn, 1) := by decide +kernel
theorem dX12_failedCommand_0 : decode cX12_failedCommand 0 = .ok (.aload_n 0, 1) := by decide +kernel
theorem dX12_failedCommand_1 : decode cX12_failedCommand 1 = .ok (.aload_n 0, 1) := by decide +kernel
theorem dX12_failedCommand_2 : decode cX12_failedCommand 2 = .ok (.getfield 33, 3) := by decide +kernel
theorem dX12_failedCommand_5 : decode cX12_failedCommand 5 = .ok (.ifCond .lt 7, 3) := by decide +kernel
theorem dX12_failedCommand_8 : decode cX12_failedCommand 8 = .ok (.iconst 1, 1) := by decide +kernel
theorem dX12_failedCommand_9 : decode cX12_failedCommand 9 = .ok (.goto 4, 3) := by decide +kernel
theorem dX12_failedCommand_12 : decode cX12_failedCommand 12 = .ok (.iconst 0, 1) := by decide +kernel
theorem dX12_failedCommand_13 : decode cX12_failedCommand 13 = .ok (.invokevirtual 157, 3) := by decide +kernel
theorem dX12_failedCommand_16 : decode cX12_failedCommand 16 = .ok (.ifCond .eq 10, 3) := by decide +kernel
theorem dX12_failedCommand_19 : decode cX12_failedCommand 19 = .ok (.aload_n 0, 1) := by decide +kernel
theorem dX12_failedCommand_20 : decode cX12_failedCommand 20 = .ok (.getfield 33, 3) := by decide +kernel
theorem dX12_failedCommand_23 : decode cX12_failedCommand 23 = .ok (.goto 4, 3) := by decide +kernel
theorem dX12_failedCommand_26 : decode cX12_failedCommand 26 = .ok (.iconst 0, 1) := by decide +kernel
theorem dX12_failedCommand_27 : decode cX12_failedCommand 27 = .ok (.ireturn, 1) := by decide +kernel
theorem dX12_undoCount_0 : decode cX12_undoCount 0 = .ok (.aload_n 0, 1) := by decide +kernel
theorem dX12_undoCount_1 : decode cX12_undoCount 1 = .ok (.iconst 0, 1) := by decide +kernel
theorem dX12_undoCount_2 : decode cX12_undoCount 2 = .ok (.putfield 39, 3) := by decide +kernel
theorem dX12_undoCount_5 : decode cX12_undoCount 5 = .ok (.aload_n 0, 1) := by decide +kernel
theorem dX12_undoCount_6 : decode cX12_undoCount 6 = .ok (.getfield 48, 3) := by decide +kernel
theorem dX12_undoCount_9 : decode cX12_undoCount 9 = .ok (.ireturn, 1) := by decide +kernel
theorem dX12_undo_0 : decode cX12_undo 0 = .ok (.aload_n 0, 1) := by decide +kernel
theorem dX12_undo_1 : decode cX12_undo 1 = .ok (.aload_n 0, 1) := by decide +kernel
theorem dX12_undo_2 : decode cX12_undo 2 = .ok (.getfield 48, 3) := by decide +kernel
theorem dX12_undo_5 : decode cX12_undo 5 = .ok (.ifCond .ne 7, 3) := by decide +kernel
theorem dX12_undo_8 : decode cX12_undo 8 = .ok (.iconst 1, 1) := by decide +kernel
theorem dX12_undo_9 : decode cX12_undo 9 = .ok (.goto 4, 3) := by decide +kernel
theorem dX12_undo_12 : decode cX12_undo 12 = .ok (.iconst 0, 1) := by decide +kernel
theorem dX12_undo_13 : decode cX12_undo 13 = .ok (.putfield 39, 3) := by decide +kernel
theorem dX12_undo_16 : decode cX12_undo 16 = .ok (.aload_n 0, 1) := by decide +kernel
theorem dX12_undo_17 : decode cX12_undo 17 = .ok (.getfield 39, 3) := by decide +kernel
theorem dX12_undo_20 : decode cX12_undo 20 = .ok (.ifCond .le 5, 3) := by decide +kernel
theorem dX12_undo_23 : decode cX12_undo 23 = .ok (.iconst 0, 1) := by decide +kernel
theorem dX12_undo_24 : decode cX12_undo 24 = .ok (.ireturn, 1) := by decide +kernel
theorem dX12_undo_25 : decode cX12_undo 25 = .ok (.aload_n 0, 1) := by decide +kernel
theorem dX12_undo_26 : decode cX12_undo 26 = .ok (.dup, 1) := by decide +kernel
theorem dX12_undo_27 : decode cX12_undo 27 = .ok (.getfield 48, 3) := by decide +kernel
theorem dX12_undo_30 : decode cX12_undo 30 = .ok (.iconst 1, 1) := by decide +kernel
theorem dX12_undo_31 : decode cX12_undo 31 = .ok (.isub, 1) := by decide +kernel
theorem dX12_undo_32 : decode cX12_undo 32 = .ok (.putfield 48, 3) := by decide +kernel
theorem dX12_undo_35 : decode cX12_undo 35 = .ok (.aload_n 0, 1) := by decide +kernel
theorem dX12_undo_36 : decode cX12_undo 36 = .ok (.getfield 19, 3) := by decide +kernel
theorem dX12_undo_39 : decode cX12_undo 39 = .ok (.sipush 158, 3) := by decide +kernel
theorem dX12_undo_42 : decode cX12_undo 42 = .ok (.aload_n 0, 1) := by decide +kernel
theorem dX12_undo_43 : decode cX12_undo 43 = .ok (.getfield 48, 3) := by decide +kernel
theorem dX12_undo_46 : decode cX12_undo 46 = .ok (.imul, 1) := by decide +kernel
theorem dX12_undo_47 : decode cX12_undo 47 = .ok (.aload_n 0, 1) := by decide +kernel
theorem dX12_undo_48 : decode cX12_undo 48 = .ok (.getfield 9, 3) := by decide +kernel
theorem dX12_undo_51 : decode cX12_undo 51 = .ok (.iconst 0, 1) := by decide +kernel
theorem dX12_undo_52 : decode cX12_undo 52 = .ok (.sipush 158, 3) := by decide +kernel
theorem dX12_undo_55 : decode cX12_undo 55 = .ok (.invokestatic 42, 3) := by decide +kernel
theorem dX12_undo_58 : decode cX12_undo 58 = .ok (.aload_n 0, 1) := by decide +kernel
theorem dX12_undo_59 : decode cX12_undo 59 = .ok (.getfield 48, 3) := by decide +kernel
theorem dX12_undo_62 : decode cX12_undo 62 = .ok (.ireturn, 1) := by decide +kernel
theorem dX12_save_0 : decode cX12_save 0 = .ok (.aload_n 0, 1) := by decide +kernel
theorem dX12_save_1 : decode cX12_save 1 = .ok (.iconst 0, 1) := by decide +kernel
theorem dX12_save_2 : decode cX12_save 2 = .ok (.putfield 39, 3) := by decide +kernel
theorem dX12_save_5 : decode cX12_save 5 = .ok (.aload_n 0, 1) := by decide +kernel
theorem dX12_save_6 : decode cX12_save 6 = .ok (.getfield 9, 3) := by decide +kernel
theorem dX12_save_9 : decode cX12_save 9 = .ok (.iconst 0, 1) := by decide +kernel
theorem dX12_save_10 : decode cX12_save 10 = .ok (.aload_n 0, 1) := by decide +kernel
theorem dX12_save_11 : decode cX12_save 11 = .ok (.getfield 16, 3) := by decide +kernel
theorem dX12_save_14 : decode cX12_save 14 = .ok (.iconst 0, 1) := by decide +kernel
theorem dX12_save_15 : decode cX12_save 15 = .ok (.sipush 158, 3) := by decide +kernel
theorem dX12_save_18 : decode cX12_save 18 = .ok (.invokestatic 42, 3) := by decide +kernel
theorem dX12_save_21 : decode cX12_save 21 = .ok (.aload_n 0, 1) := by decide +kernel
theorem dX12_save_22 : decode cX12_save 22 = .ok (.iconst 1, 1) := by decide +kernel
theorem dX12_save_23 : decode cX12_save 23 = .ok (.putfield 247, 3) := by decide +kernel
theorem dX12_save_26 : decode cX12_save 26 = .ok (.aload_n 0, 1) := by decide +kernel
theorem dX12_save_27 : decode cX12_save 27 = .ok (.getfield 9, 3) := by decide +kernel
theorem dX12_save_30 : decode cX12_save 30 = .ok (.iconst 2, 1) := by decide +kernel
theorem dX12_save_31 : decode cX12_save 31 = .ok (.iaload, 1) := by decide +kernel
theorem dX12_save_32 : decode cX12_save 32 = .ok (.ireturn, 1) := by decide +kernel
theorem dX12_restore_0 : decode cX12_restore 0 = .ok (.aload_n 0, 1) := by decide +kernel
theorem dX12_restore_1 : decode cX12_restore 1 = .ok (.aload_n 0, 1) := by decide +kernel
theorem dX12_restore_2 : decode cX12_restore 2 = .ok (.getfield 247, 3) := by decide +kernel
theorem dX12_restore_5 : decode cX12_restore 5 = .ok (.ifCond .eq 7, 3) := by decide +kernel
theorem dX12_restore_8 : decode cX12_restore 8 = .ok (.iconst 0, 1) := by decide +kernel
theorem dX12_restore_9 : decode cX12_restore 9 = .ok (.goto 4, 3) := by decide +kernel
theorem dX12_restore_12 : decode cX12_restore 12 = .ok (.iconst 1, 1) := by decide +kernel
theorem dX12_restore_13 : decode cX12_restore 13 = .ok (.putfield 39, 3) := by decide +kernel
theorem dX12_restore_16 : decode cX12_restore 16 = .ok (.aload_n 0, 1) := by decide +kernel
theorem dX12_restore_17 : decode cX12_restore 17 = .ok (.getfield 39, 3) := by decide +kernel
theorem dX12_restore_20 : decode cX12_restore 20 = .ok (.ifCond .le 5, 3) := by decide +kernel
theorem dX12_restore_23 : decode cX12_restore 23 = .ok (.iconst 0, 1) := by decide +kernel
theorem dX12_restore_24 : decode cX12_restore 24 = .ok (.ireturn, 1) := by decide +kernel
theorem dX12_restore_25 : decode cX12_restore 25 = .ok (.aload_n 0, 1) := by decide +kernel
theorem dX12_restore_26 : decode cX12_restore 26 = .ok (.getfield 16, 3) := by decide +kernel
theorem dX12_restore_29 : decode cX12_restore 29 = .ok (.iconst 0, 1) := by decide +kernel
theorem dX12_restore_30 : decode cX12_restore 30 = .ok (.aload_n 0, 1) := by decide +kernel
theorem dX12_restore_31 : decode cX12_restore 31 = .ok (.getfield 9, 3) := by decide +kernel
theorem dX12_restore_34 : decode cX12_restore 34 = .ok (.iconst 0, 1) := by decide +kernel
theorem dX12_restore_35 : decode cX12_restore 35 = .ok (.sipush 158, 3) := by decide +kernel
theorem dX12_restore_38 : decode cX12_restore 38 = .ok (.invokestatic 42, 3) := by decide +kernel
theorem dX12_restore_41 : decode cX12_restore 41 = .ok (.aload_n 0, 1) := by decide +kernel
theorem dX12_restore_42 : decode cX12_restore 42 = .ok (.iconst 0, 1) := by decide +kernel
theorem dX12_restore_43 : decode cX12_restore 43 = .ok (.putfield 48, 3) := by decide +kernel
theorem dX12_restore_46 : decode cX12_restore 46 = .ok (.aload_n 0, 1) := by decide +kernel
theorem dX12_restore_47 : decode cX12_restore 47 = .ok (.getfield 9, 3) := by decide +kernel
theorem dX12_restore_50 : decode cX12_restore 50 = .ok (.iconst 2, 1) := by decide +kernel
theorem dX12_restore_51 : decode cX12_restore 51 = .ok (.iaload, 1) := by decide +kernel
theorem dX12_restore_52 : decode cX12_restore 52 = .ok (.ireturn, 1) := by decide +kernel
theorem dJ0_length_8abf5_0 : decode cJ0_length_8abf5 0 = .ok (.aload_n 0, 1) := by decide +kernel
theorem dJ0_length_8abf5_1 : decode cJ0_length_8abf5 1 = .ok (.getfield 9, 3) := by decide +kernel
theorem dJ0_length_8abf5_4 : decode cJ0_length_8abf5 4 = .ok (.arraylength, 1) := by decide +kernel
theorem dJ0_length_8abf5_5 : decode cJ0_length_8abf5 5 = .ok (.aload_n 0, 1) := by decide +kernel
theorem dJ0_length_8abf5_6 : decode cJ0_length_8abf5 6 = .ok (.invokevirtual 335, 3) := by decide +kernel
theorem dJ0_length_8abf5_9 : decode cJ0_length_8abf5 9 = .ok (.ishr, 1) := by decide +kernel
theorem dJ0_length_8abf5_10 : decode cJ0_length_8abf5 10 = .ok (.ireturn, 1) := by decide +kernel
theorem dJ0_charAt_5068e_0 : decode cJ0_charAt_5068e 0 = .ok (.aload_n 0, 1) := by decide +kernel
theorem dJ0_charAt_5068e_1 : decode cJ0_charAt_5068e 1 = .ok (.invokevirtual 492, 3) := by decide +kernel
theorem dJ0_charAt_5068e_4 : decode cJ0_charAt_5068e 4 = .ok (.ifCond .eq 12, 3) := by decide +kernel
theorem dJ0_charAt_5068e_7 : decode cJ0_charAt_5068e 7 = .ok (.aload_n 0, 1) := by decide +kernel
theorem dJ0_charAt_5068e_8 : decode cJ0_charAt_5068e 8 = .ok (.getfield 9, 3) := by decide +kernel
theorem dJ0_charAt_5068e_11 : decode cJ0_charAt_5068e 11 = .ok (.iload_n 1, 1) := by decide +kernel
theorem dJ0_charAt_5068e_12 : decode cJ0_charAt_5068e 12 = .ok (.invokestatic 495, 3) := by decide +kernel
theorem dJ0_charAt_5068e_15 : decode cJ0_charAt_5068e 15 = .ok (.ireturn, 1) := by decide +kernel
theorem dJ0_charAt_5068e_16 : decode cJ0_charAt_5068e 16 = .ok (.aload_n 0, 1) := by decide +kernel
theorem dJ0_charAt_5068e_17 : decode cJ0_charAt_5068e 17 = .ok (.getfield 9, 3) := by decide +kernel
theorem dJ0_charAt_5068e_20 : decode cJ0_charAt_5068e 20 = .ok (.iload_n 1, 1) := by decide +kernel
theorem dJ0_charAt_5068e_21 : decode cJ0_charAt_5068e 21 = .ok (.invokestatic 498, 3) := by decide +kernel
theorem dJ0_charAt_5068e_24 : decode cJ0_charAt_5068e 24 = .ok (.ireturn, 1) := by decide +kernel
theorem dJ0_coder_7d493_0 : decode cJ0_coder_7d493 0 = .ok (.getstatic 38, 3) := by decide +kernel
theorem dJ0_coder_7d493_3 : decode cJ0_coder_7d493 3 = .ok (.ifCond .eq 10, 3) := by decide +kernel
theorem dJ0_coder_7d493_6 : decode cJ0_coder_7d493 6 = .ok (.aload_n 0, 1) := by decide +kernel
theorem dJ0_coder_7d493_7 : decode cJ0_coder_7d493 7 = .ok (.getfield 15, 3) := by decide +kernel
theorem dJ0_coder_7d493_10 : decode cJ0_coder_7d493 10 = .ok (.goto 4, 3) := by decide +kernel
theorem dJ0_coder_7d493_13 : decode cJ0_coder_7d493 13 = .ok (.iconst 1, 1) := by decide +kernel
theorem dJ0_coder_7d493_14 : decode cJ0_coder_7d493 14 = .ok (.ireturn, 1) := by decide +kernel
theorem dJ0_isLatin1_aae02_0 : decode cJ0_isLatin1_aae02 0 = .ok (.getstatic 38, 3) := by decide +kernel
theorem dJ0_isLatin1_aae02_3 : decode cJ0_isLatin1_aae02 3 = .ok (.ifCond .eq 14, 3) := by decide +kernel
theorem dJ0_isLatin1_aae02_6 : decode cJ0_isLatin1_aae02 6 = .ok (.aload_n 0, 1) := by decide +kernel
theorem dJ0_isLatin1_aae02_7 : decode cJ0_isLatin1_aae02 7 = .ok (.getfield 15, 3) := by decide +kernel
theorem dJ0_isLatin1_aae02_10 : decode cJ0_isLatin1_aae02 10 = .ok (.ifCond .ne 7, 3) := by decide +kernel
theorem dJ0_isLatin1_aae02_13 : decode cJ0_isLatin1_aae02 13 = .ok (.iconst 1, 1) := by decide +kernel
theorem dJ0_isLatin1_aae02_14 : decode cJ0_isLatin1_aae02 14 = .ok (.goto 4, 3) := by decide +kernel
theorem dJ0_isLatin1_aae02_17 : decode cJ0_isLatin1_aae02 17 = .ok (.iconst 0, 1) := by decide +kernel
theorem dJ0_isLatin1_aae02_18 : decode cJ0_isLatin1_aae02 18 = .ok (.ireturn, 1) := by decide +kernel
theorem dJ0_checkIndex_df160_0 : decode cJ0_checkIndex_df160 0 = .ok (.iload_n 0, 1) := by decide +kernel
theorem dJ0_checkIndex_df160_1 : decode cJ0_checkIndex_df160 1 = .ok (.iload_n 1, 1) := by decide +kernel
theorem dJ0_checkIndex_df160_2 : decode cJ0_checkIndex_df160 2 = .ok (.getstatic 1053, 3) := by decide +kernel
theorem dJ0_checkIndex_df160_5 : decode cJ0_checkIndex_df160 5 = .ok (.invokestatic 1059, 3) := by decide +kernel
theorem dJ0_checkIndex_df160_8 : decode cJ0_checkIndex_df160 8 = .ok (.pop, 1) := by decide +kernel
theorem dJ0_checkIndex_df160_9 : decode cJ0_checkIndex_df160 9 = .ok (.return_, 1) := by decide +kernel
theorem dJ1_charAt_3b067_0 : decode cJ1_charAt_3b067 0 = .ok (.iload_n 1, 1) := by decide +kernel
theorem dJ1_charAt_3b067_1 : decode cJ1_charAt_3b067 1 = .ok (.aload_n 0, 1) := by decide +kernel
theorem dJ1_charAt_3b067_2 : decode cJ1_charAt_3b067 2 = .ok (.arraylength, 1) := by decide +kernel
theorem dJ1_charAt_3b067_3 : decode cJ1_charAt_3b067 3 = .ok (.invokestatic 9, 3) := by decide +kernel
theorem dJ1_charAt_3b067_6 : decode cJ1_charAt_3b067 6 = .ok (.aload_n 0, 1) := by decide +kernel
theorem dJ1_charAt_3b067_7 : decode cJ1_charAt_3b067 7 = .ok (.iload_n 1, 1) := by decide +kernel
theorem dJ1_charAt_3b067_8 : decode cJ1_charAt_3b067 8 = .ok (.baload, 1) := by decide +kernel
theorem dJ1_charAt_3b067_9 : decode cJ1_charAt_3b067 9 = .ok (.sipush 255, 3) := by decide +kernel
theorem dJ1_charAt_3b067_12 : decode cJ1_charAt_3b067 12 = .ok (.iand, 1) := by decide +kernel
theorem dJ1_charAt_3b067_13 : decode cJ1_charAt_3b067 13 = .ok (.i2c, 1) := by decide +kernel
theorem dJ1_charAt_3b067_14 : decode cJ1_charAt_3b067 14 = .ok (.ireturn, 1) := by decide +kernel
theorem dJ3_checkIndex_8e157_0 : decode cJ3_checkIndex_8e157 0 = .ok (.iload_n 0, 1) := by decide +kernel
theorem dJ3_checkIndex_8e157_1 : decode cJ3_checkIndex_8e157 1 = .ok (.ifCond .lt 8, 3) := by decide +kernel
theorem dJ3_checkIndex_8e157_4 : decode cJ3_checkIndex_8e157 4 = .ok (.iload_n 0, 1) := by decide +kernel
theorem dJ3_checkIndex_8e157_5 : decode cJ3_checkIndex_8e157 5 = .ok (.iload_n 1, 1) := by decide +kernel
theorem dJ3_checkIndex_8e157_6 : decode cJ3_checkIndex_8e157 6 = .ok (.if_icmp .lt 10, 3) := by decide +kernel
theorem dJ3_checkIndex_8e157_9 : decode cJ3_checkIndex_8e157 9 = .ok (.aload_n 2, 1) := by decide +kernel
theorem dJ3_checkIndex_8e157_10 : decode cJ3_checkIndex_8e157 10 = .ok (.iload_n 0, 1) := by decide +kernel
theorem dJ3_checkIndex_8e157_11 : decode cJ3_checkIndex_8e157 11 = .ok (.iload_n 1, 1) := by decide +kernel
theorem dJ3_checkIndex_8e157_12 : decode cJ3_checkIndex_8e157 12 = .ok (.invokestatic 95, 3) := by decide +kernel
theorem dJ3_checkIndex_8e157_15 : decode cJ3_checkIndex_8e157 15 = .ok (.athrow, 1) := by decide +kernel
theorem dJ3_checkIndex_8e157_16 : decode cJ3_checkIndex_8e157 16 = .ok (.iload_n 0, 1) := by decide +kernel
theorem dJ3_checkIndex_8e157_17 : decode cJ3_checkIndex_8e157 17 = .ok (.ireturn, 1) := by decide +kernel
theorem dJx29ce0_ordinal_8abf5_0 : decode cJx29ce0_ordinal_8abf5 0 = .ok (.aload_n 0, 1) := by decide +kernel
theorem dJx29ce0_ordinal_8abf5_1 : decode cJx29ce0_ordinal_8abf5 1 = .ok (.getfield 7, 3) := by decide +kernel
theorem dJx29ce0_ordinal_8abf5_4 : decode cJx29ce0_ordinal_8abf5 4 = .ok (.ireturn, 1) := by decide +kernel
