theorem dX1_init_0 : decode cX1_init 0 = .ok (.aload_n 0, 1) := by decide +kernel
theorem dX1_init_1 : decode cX1_init 1 = .ok (.invokespecial 3, 3) := by decide +kernel
theorem dX1_init_4 : decode cX1_init 4 = .ok (.aload_n 0, 1) := by decide +kernel
theorem dX1_init_5 : decode cX1_init 5 = .ok (.iconst 0, 1) := by decide +kernel
theorem dX1_init_6 : decode cX1_init 6 = .ok (.putfield 9, 3) := by decide +kernel
theorem dX1_init_9 : decode cX1_init 9 = .ok (.aload_n 0, 1) := by decide +kernel
theorem dX1_init_10 : decode cX1_init 10 = .ok (.bipush 12, 2) := by decide +kernel
theorem dX1_init_12 : decode cX1_init 12 = .ok (.newarray .int, 2) := by decide +kernel
theorem dX1_init_14 : decode cX1_init 14 = .ok (.putfield 15, 3) := by decide +kernel
theorem dX1_init_17 : decode cX1_init 17 = .ok (.aload_n 0, 1) := by decide +kernel
theorem dX1_init_18 : decode cX1_init 18 = .ok (.bipush 12, 2) := by decide +kernel
theorem dX1_init_20 : decode cX1_init 20 = .ok (.newarray .int, 2) := by decide +kernel
theorem dX1_init_22 : decode cX1_init 22 = .ok (.putfield 19, 3) := by decide +kernel
theorem dX1_init_25 : decode cX1_init 25 = .ok (.aload_n 0, 1) := by decide +kernel
theorem dX1_init_26 : decode cX1_init 26 = .ok (.bipush 12, 2) := by decide +kernel
theorem dX1_init_28 : decode cX1_init 28 = .ok (.newarray .int, 2) := by decide +kernel
theorem dX1_init_30 : decode cX1_init 30 = .ok (.putfield 22, 3) := by decide +kernel
theorem dX1_init_33 : decode cX1_init 33 = .ok (.aload_n 0, 1) := by decide +kernel
theorem dX1_init_34 : decode cX1_init 34 = .ok (.bipush 12, 2) := by decide +kernel
theorem dX1_init_36 : decode cX1_init 36 = .ok (.newarray .int, 2) := by decide +kernel
theorem dX1_init_38 : decode cX1_init 38 = .ok (.putfield 25, 3) := by decide +kernel
theorem dX1_init_41 : decode cX1_init 41 = .ok (.return_, 1) := by decide +kernel
theorem dX1_copyFrom_0 : decode cX1_copyFrom 0 = .ok (.aload_n 0, 1) := by decide +kernel
theorem dX1_copyFrom_1 : decode cX1_copyFrom 1 = .ok (.aload_n 1, 1) := by decide +kernel
theorem dX1_copyFrom_2 : decode cX1_copyFrom 2 = .ok (.getfield 9, 3) := by decide +kernel
theorem dX1_copyFrom_5 : decode cX1_copyFrom 5 = .ok (.putfield 9, 3) := by decide +kernel
theorem dX1_copyFrom_8 : decode cX1_copyFrom 8 = .ok (.aload_n 1, 1) := by decide +kernel
theorem dX1_copyFrom_9 : decode cX1_copyFrom 9 = .ok (.getfield 15, 3) := by decide +kernel
theorem dX1_copyFrom_12 : decode cX1_copyFrom 12 = .ok (.iconst 0, 1) := by decide +kernel
theorem dX1_copyFrom_13 : decode cX1_copyFrom 13 = .ok (.aload_n 0, 1) := by decide +kernel
theorem dX1_copyFrom_14 : decode cX1_copyFrom 14 = .ok (.getfield 15, 3) := by decide +kernel
theorem dX1_copyFrom_17 : decode cX1_copyFrom 17 = .ok (.iconst 0, 1) := by decide +kernel
theorem dX1_copyFrom_18 : decode cX1_copyFrom 18 = .ok (.bipush 12, 2) := by decide +kernel
theorem dX1_copyFrom_20 : decode cX1_copyFrom 20 = .ok (.invokestatic 28, 3) := by decide +kernel
theorem dX1_copyFrom_23 : decode cX1_copyFrom 23 = .ok (.aload_n 1, 1) := by decide +kernel
theorem dX1_copyFrom_24 : decode cX1_copyFrom 24 = .ok (.getfield 19, 3) := by decide +kernel
theorem dX1_copyFrom_27 : decode cX1_copyFrom 27 = .ok (.iconst 0, 1) := by decide +kernel
theorem dX1_copyFrom_28 : decode cX1_copyFrom 28 = .ok (.aload_n 0, 1) := by decide +kernel
theorem dX1_copyFrom_29 : decode cX1_copyFrom 29 = .ok (.getfield 19, 3) := by decide +kernel
theorem dX1_copyFrom_32 : decode cX1_copyFrom 32 = .ok (.iconst 0, 1) := by decide +kernel
theorem dX1_copyFrom_33 : decode cX1_copyFrom 33 = .ok (.bipush 12, 2) := by decide +kernel
theorem dX1_copyFrom_35 : decode cX1_copyFrom 35 = .ok (.invokestatic 28, 3) := by decide +kernel
theorem dX1_copyFrom_38 : decode cX1_copyFrom 38 = .ok (.aload_n 1, 1) := by decide +kernel
theorem dX1_copyFrom_39 : decode cX1_copyFrom 39 = .ok (.getfield 22, 3) := by decide +kernel
theorem dX1_copyFrom_42 : decode cX1_copyFrom 42 = .ok (.iconst 0, 1) := by decide +kernel
theorem dX1_copyFrom_43 : decode cX1_copyFrom 43 = .ok (.aload_n 0, 1) := by decide +kernel
theorem dX1_copyFrom_44 : decode cX1_copyFrom 44 = .ok (.getfield 22, 3) := by decide +kernel
theorem dX1_copyFrom_47 : decode cX1_copyFrom 47 = .ok (.iconst 0, 1) := by decide +kernel
theorem dX1_copyFrom_48 : decode cX1_copyFrom 48 = .ok (.bipush 12, 2) := by decide +kernel
theorem dX1_copyFrom_50 : decode cX1_copyFrom 50 = .ok (.invokestatic 28, 3) := by decide +kernel
theorem dX1_copyFrom_53 : decode cX1_copyFrom 53 = .ok (.aload_n 1, 1) := by decide +kernel
theorem dX1_copyFrom_54 : decode cX1_copyFrom 54 = .ok (.getfield 25, 3) := by decide +kernel
theorem dX1_copyFrom_57 : decode cX1_copyFrom 57 = .ok (.iconst 0, 1) := by decide +kernel
theorem dX1_copyFrom_58 : decode cX1_copyFrom 58 = .ok (.aload_n 0, 1) := by decide +kernel
theorem dX1_copyFrom_59 : decode cX1_copyFrom 59 = .ok (.getfield 25, 3) := by decide +kernel
theorem dX1_copyFrom_62 : decode cX1_copyFrom 62 = .ok (.iconst 0, 1) := by decide +kernel
theorem dX1_copyFrom_63 : decode cX1_copyFrom 63 = .ok (.bipush 12, 2) := by decide +kernel
theorem dX1_copyFrom_65 : decode cX1_copyFrom 65 = .ok (.invokestatic 28, 3) := by decide +kernel
theorem dX1_copyFrom_68 : decode cX1_copyFrom 68 = .ok (.return_, 1) := by decide +kernel
theorem dX1_has_0 : decode cX1_has 0 = .ok (.iload_n 1, 1) := by decide +kernel
theorem dX1_has_1 : decode cX1_has 1 = .ok (.ifCond .lt 15, 3) := by decide +kernel
theorem dX1_has_4 : decode cX1_has 4 = .ok (.iload_n 1, 1) := by decide +kernel
theorem dX1_has_5 : decode cX1_has 5 = .ok (.aload_n 0, 1) := by decide +kernel
theorem dX1_has_6 : decode cX1_has 6 = .ok (.getfield 9, 3) := by decide +kernel
theorem dX1_has_9 : decode cX1_has 9 = .ok (.if_icmp .ge 7, 3) := by decide +kernel
theorem dX1_has_12 : decode cX1_has 12 = .ok (.iconst 1, 1) := by decide +kernel
theorem dX1_has_13 : decode cX1_has 13 = .ok (.goto 4, 3) := by decide +kernel
theorem dX1_has_16 : decode cX1_has 16 = .ok (.iconst 0, 1) := by decide +kernel
theorem dX1_has_17 : decode cX1_has 17 = .ok (.ireturn, 1) := by decide +kernel
theorem dX1_isFull_0 : decode cX1_isFull 0 = .ok (.aload_n 0, 1) := by decide +kernel
theorem dX1_isFull_1 : decode cX1_isFull 1 = .ok (.getfield 9, 3) := by decide +kernel
theorem dX1_isFull_4 : decode cX1_isFull 4 = .ok (.bipush 12, 2) := by decide +kernel
theorem dX1_isFull_6 : decode cX1_isFull 6 = .ok (.if_icmp .lt 7, 3) := by decide +kernel
theorem dX1_isFull_9 : decode cX1_isFull 9 = .ok (.iconst 1, 1) := by decide +kernel
theorem dX1_isFull_10 : decode cX1_isFull 10 = .ok (.goto 4, 3) := by decide +kernel
theorem dX1_isFull_13 : decode cX1_isFull 13 = .ok (.iconst 0, 1) := by decide +kernel
theorem dX1_isFull_14 : decode cX1_isFull 14 = .ok (.ireturn, 1) := by decide +kernel
theorem dX1_append_0 : decode cX1_append 0 = .ok (.aload_n 0, 1) := by decide +kernel
theorem dX1_append_1 : decode cX1_append 1 = .ok (.getfield 15, 3) := by decide +kernel
theorem dX1_append_4 : decode cX1_append 4 = .ok (.aload_n 0, 1) := by decide +kernel
theorem dX1_append_5 : decode cX1_append 5 = .ok (.getfield 9, 3) := by decide +kernel
theorem dX1_append_8 : decode cX1_append 8 = .ok (.iload_n 1, 1) := by decide +kernel
theorem dX1_append_9 : decode cX1_append 9 = .ok (.iastore, 1) := by decide +kernel
theorem dX1_append_10 : decode cX1_append 10 = .ok (.aload_n 0, 1) := by decide +kernel
theorem dX1_append_11 : decode cX1_append 11 = .ok (.getfield 19, 3) := by decide +kernel
theorem dX1_append_14 : decode cX1_append 14 = .ok (.aload_n 0, 1) := by decide +kernel
theorem dX1_append_15 : decode cX1_append 15 = .ok (.getfield 9, 3) := by decide +kernel
theorem dX1_append_18 : decode cX1_append 18 = .ok (.iload_n 2, 1) := by decide +kernel
theorem dX1_append_19 : decode cX1_append 19 = .ok (.iastore, 1) := by decide +kernel
theorem dX1_append_20 : decode cX1_append 20 = .ok (.aload_n 0, 1) := by decide +kernel
theorem dX1_append_21 : decode cX1_append 21 = .ok (.getfield 22, 3) := by decide +kernel
theorem dX1_append_24 : decode cX1_append 24 = .ok (.aload_n 0, 1) := by decide +kernel
theorem dX1_append_25 : decode cX1_append 25 = .ok (.getfield 9, 3) := by decide +kernel
theorem dX1_append_28 : decode cX1_append 28 = .ok (.iload_n 3, 1) := by decide +kernel
theorem dX1_append_29 : decode cX1_append 29 = .ok (.iastore, 1) := by decide +kernel
theorem dX1_append_30 : decode cX1_append 30 = .ok (.aload_n 0, 1) := by decide +kernel
theorem dX1_append_31 : decode cX1_append 31 = .ok (.getfield 25, 3) := by decide +kernel
theorem dX1_append_34 : decode cX1_append 34 = .ok (.aload_n 0, 1) := by decide +kernel
theorem dX1_append_35 : decode cX1_append 35 = .ok (.getfield 9, 3) := by decide +kernel
theorem dX1_append_38 : decode cX1_append 38 = .ok (.iload 4, 2) := by decide +kernel
theorem dX1_append_40 : decode cX1_append 40 = .ok (.iastore, 1) := by decide +kernel
theorem dX1_append_41 : decode cX1_append 41 = .ok (.aload_n 0, 1) := by decide +kernel
theorem dX1_append_42 : decode cX1_append 42 = .ok (.dup, 1) := by decide +kernel
theorem dX1_append_43 : decode cX1_append 43 = .ok (.getfield 9, 3) := by decide +kernel
theorem dX1_append_46 : decode cX1_append 46 = .ok (.iconst 1, 1) := by decide +kernel
theorem dX1_append_47 : decode cX1_append 47 = .ok (.iadd, 1) := by decide +kernel
theorem dX1_append_48 : decode cX1_append 48 = .ok (.putfield 9, 3) := by decide +kernel
theorem dX1_append_51 : decode cX1_append 51 = .ok (.aload_n 0, 1) := by decide +kernel
theorem dX1_append_52 : decode cX1_append 52 = .ok (.getfield 9, 3) := by decide +kernel
theorem dX1_append_55 : decode cX1_append 55 = .ok (.iconst 1, 1) := by decide +kernel
theorem dX1_append_56 : decode cX1_append 56 = .ok (.isub, 1) := by decide +kernel
theorem dX1_append_57 : decode cX1_append 57 = .ok (.ireturn, 1) := by decide +kernel
theorem dX1_remove_0 : decode cX1_remove 0 = .ok (.iload_n 1, 1) := by decide +kernel
theorem dX1_remove_1 : decode cX1_remove 1 = .ok (.iconst 1, 1) := by decide +kernel
theorem dX1_remove_2 : decode cX1_remove 2 = .ok (.iadd, 1) := by decide +kernel
theorem dX1_remove_3 : decode cX1_remove 3 = .ok (.istore_n 2, 1) := by decide +kernel
theorem dX1_remove_4 : decode cX1_remove 4 = .ok (.iload_n 2, 1) := by decide +kernel
theorem dX1_remove_5 : decode cX1_remove 5 = .ok (.aload_n 0, 1) := by decide +kernel
theorem dX1_remove_6 : decode cX1_remove 6 = .ok (.getfield 9, 3) := by decide +kernel
theorem dX1_remove_9 : decode cX1_remove 9 = .ok (.if_icmp .ge 65, 3) := by decide +kernel
theorem dX1_remove_12 : decode cX1_remove 12 = .ok (.aload_n 0, 1) := by decide +kernel
theorem dX1_remove_13 : decode cX1_remove 13 = .ok (.getfield 15, 3) := by decide +kernel
theorem dX1_remove_16 : decode cX1_remove 16 = .ok (.iload_n 2, 1) := by decide +kernel
theorem dX1_remove_17 : decode cX1_remove 17 = .ok (.iconst 1, 1) := by decide +kernel
theorem dX1_remove_18 : decode cX1_remove 18 = .ok (.isub, 1) := by decide +kernel
theorem dX1_remove_19 : decode cX1_remove 19 = .ok (.aload_n 0, 1) := by decide +kernel
theorem dX1_remove_20 : decode cX1_remove 20 = .ok (.getfield 15, 3) := by decide +kernel
theorem dX1_remove_23 : decode cX1_remove 23 = .ok (.iload_n 2, 1) := by decide +kernel
theorem dX1_remove_24 : decode cX1_remove 24 = .ok (.iaload, 1) := by decide +kernel
theorem dX1_remove_25 : decode cX1_remove 25 = .ok (.iastore, 1) := by decide +kernel
theorem dX1_remove_26 : decode cX1_remove 26 = .ok (.aload_n 0, 1) := by decide +kernel
theorem dX1_remove_27 : decode cX1_remove 27 = .ok (.getfield 19, 3) := by decide +kernel
theorem dX1_remove_30 : decode cX1_remove 30 = .ok (.iload_n 2, 1) := by decide +kernel
theorem dX1_remove_31 : decode cX1_remove 31 = .ok (.iconst 1, 1) := by decide +kernel
theorem dX1_remove_32 : decode cX1_remove 32 = .ok (.isub, 1) := by decide +kernel
theorem dX1_remove_33 : decode cX1_remove 33 = .ok (.aload_n 0, 1) := by decide +kernel
theorem dX1_remove_34 : decode cX1_remove 34 = .ok (.getfield 19, 3) := by decide +kernel
theorem dX1_remove_37 : decode cX1_remove 37 = .ok (.iload_n 2, 1) := by decide +kernel
theorem dX1_remove_38 : decode cX1_remove 38 = .ok (.iaload, 1) := by decide +kernel
theorem dX1_remove_39 : decode cX1_remove 39 = .ok (.iastore, 1) := by decide +kernel
theorem dX1_remove_40 : decode cX1_remove 40 = .ok (.aload_n 0, 1) := by decide +kernel
theorem dX1_remove_41 : decode cX1_remove 41 = .ok (.getfield 22, 3) := by decide +kernel
theorem dX1_remove_44 : decode cX1_remove 44 = .ok (.iload_n 2, 1) := by decide +kernel
theorem dX1_remove_45 : decode cX1_remove 45 = .ok (.iconst 1, 1) := by decide +kernel
theorem dX1_remove_46 : decode cX1_remove 46 = .ok (.isub, 1) := by decide +kernel
theorem dX1_remove_47 : decode cX1_remove 47 = .ok (.aload_n 0, 1) := by decide +kernel
theorem dX1_remove_48 : decode cX1_remove 48 = .ok (.getfield 22, 3) := by decide +kernel
theorem dX1_remove_51 : decode cX1_remove 51 = .ok (.iload_n 2, 1) := by decide +kernel
theorem dX1_remove_52 : decode cX1_remove 52 = .ok (.iaload, 1) := by decide +kernel
theorem dX1_remove_53 : decode cX1_remove 53 = .ok (.iastore, 1) := by decide +kernel
theorem dX1_remove_54 : decode cX1_remove 54 = .ok (.aload_n 0, 1) := by decide +kernel
theorem dX1_remove_55 : decode cX1_remove 55 = .ok (.getfield 25, 3) := by decide +kernel
theorem dX1_remove_58 : decode cX1_remove 58 = .ok (.iload_n 2, 1) := by decide +kernel
theorem dX1_remove_59 : decode cX1_remove 59 = .ok (.iconst 1, 1) := by decide +kernel
theorem dX1_remove_60 : decode cX1_remove 60 = .ok (.isub, 1) := by decide +kernel
theorem dX1_remove_61 : decode cX1_remove 61 = .ok (.aload_n 0, 1) := by decide +kernel
theorem dX1_remove_62 : decode cX1_remove 62 = .ok (.getfield 25, 3) := by decide +kernel
theorem dX1_remove_65 : decode cX1_remove 65 = .ok (.iload_n 2, 1) := by decide +kernel
theorem dX1_remove_66 : decode cX1_remove 66 = .ok (.iaload, 1) := by decide +kernel
theorem dX1_remove_67 : decode cX1_remove 67 = .ok (.iastore, 1) := by decide +kernel
theorem dX1_remove_68 : decode cX1_remove 68 = .ok (.iinc 2 1, 3) := by decide +kernel
theorem dX1_remove_71 : decode cX1_remove 71 = .ok (.goto (-67), 3) := by decide +kernel
theorem dX1_remove_74 : decode cX1_remove 74 = .ok (.aload_n 0, 1) := by decide +kernel
theorem dX1_remove_75 : decode cX1_remove 75 = .ok (.dup, 1) := by decide +kernel
theorem dX1_remove_76 : decode cX1_remove 76 = .ok (.getfield 9, 3) := by decide +kernel
theorem dX1_remove_79 : decode cX1_remove 79 = .ok (.iconst 1, 1) := by decide +kernel
theorem dX1_remove_80 : decode cX1_remove 80 = .ok (.isub, 1) := by decide +kernel
theorem dX1_remove_81 : decode cX1_remove 81 = .ok (.putfield 9, 3) := by decide +kernel
theorem dX1_remove_84 : decode cX1_remove 84 = .ok (.return_, 1) := by decide +kernel
theorem dX1_isSlideFree_0 : decode cX1_isSlideFree 0 = .ok (.iconst 0, 1) := by decide +kernel
theorem dX1_isSlideFree_1 : decode cX1_isSlideFree 1 = .ok (.istore 4, 2) := by decide +kernel
theorem dX1_isSlideFree_3 : decode cX1_isSlideFree 3 = .ok (.iload 4, 2) := by decide +kernel
theorem dX1_isSlideFree_5 : decode cX1_isSlideFree 5 = .ok (.aload_n 0, 1) := by decide +kernel
theorem dX1_isSlideFree_6 : decode cX1_isSlideFree 6 = .ok (.getfield 9, 3) := by decide +kernel
theorem dX1_isSlideFree_9 : decode cX1_isSlideFree 9 = .ok (.if_icmp .ge 33, 3) := by decide +kernel
theorem dX1_isSlideFree_12 : decode cX1_isSlideFree 12 = .ok (.aload_n 0, 1) := by decide +kernel
theorem dX1_isSlideFree_13 : decode cX1_isSlideFree 13 = .ok (.getfield 19, 3) := by decide +kernel
theorem dX1_isSlideFree_16 : decode cX1_isSlideFree 16 = .ok (.iload 4, 2) := by decide +kernel
theorem dX1_isSlideFree_18 : decode cX1_isSlideFree 18 = .ok (.iaload, 1) := by decide +kernel
theorem dX1_isSlideFree_19 : decode cX1_isSlideFree 19 = .ok (.iload_n 1, 1) := by decide +kernel
theorem dX1_isSlideFree_20 : decode cX1_isSlideFree 20 = .ok (.if_icmp .ne 16, 3) := by decide +kernel
theorem dX1_isSlideFree_23 : decode cX1_isSlideFree 23 = .ok (.aload_n 0, 1) := by decide +kernel
theorem dX1_isSlideFree_24 : decode cX1_isSlideFree 24 = .ok (.iload 4, 2) := by decide +kernel
theorem dX1_isSlideFree_26 : decode cX1_isSlideFree 26 = .ok (.iload_n 2, 1) := by decide +kernel
theorem dX1_isSlideFree_27 : decode cX1_isSlideFree 27 = .ok (.iload_n 3, 1) := by decide +kernel
theorem dX1_isSlideFree_28 : decode cX1_isSlideFree 28 = .ok (.invokevirtual 34, 3) := by decide +kernel
theorem dX1_isSlideFree_31 : decode cX1_isSlideFree 31 = .ok (.ifCond .eq 5, 3) := by decide +kernel
theorem dX1_isSlideFree_34 : decode cX1_isSlideFree 34 = .ok (.iconst 0, 1) := by decide +kernel
theorem dX1_isSlideFree_35 : decode cX1_isSlideFree 35 = .ok (.ireturn, 1) := by decide +kernel
theorem dX1_isSlideFree_36 : decode cX1_isSlideFree 36 = .ok (.iinc 4 1, 3) := by decide +kernel
theorem dX1_isSlideFree_39 : decode cX1_isSlideFree 39 = .ok (.goto (-36), 3) := by decide +kernel
theorem dX1_isSlideFree_42 : decode cX1_isSlideFree 42 = .ok (.iconst 1, 1) := by decide +kernel
theorem dX1_isSlideFree_43 : decode cX1_isSlideFree 43 = .ok (.ireturn, 1) := by decide +kernel
theorem dX1_areFree_0 : decode cX1_areFree 0 = .ok (.iconst 0, 1) := by decide +kernel
theorem dX1_areFree_1 : decode cX1_areFree 1 = .ok (.istore 5, 2) := by decide +kernel
theorem dX1_areFree_3 : decode cX1_areFree 3 = .ok (.iload 5, 2) := by decide +kernel
theorem dX1_areFree_5 : decode cX1_areFree 5 = .ok (.aload_n 0, 1) := by decide +kernel
theorem dX1_areFree_6 : decode cX1_areFree 6 = .ok (.getfield 9, 3) := by decide +kernel
theorem dX1_areFree_9 : decode cX1_areFree 9 = .ok (.if_icmp .ge 57, 3) := by decide +kernel
theorem dX1_areFree_12 : decode cX1_areFree 12 = .ok (.aload_n 0, 1) := by decide +kernel
theorem dX1_areFree_13 : decode cX1_areFree 13 = .ok (.getfield 15, 3) := by decide +kernel
theorem dX1_areFree_16 : decode cX1_areFree 16 = .ok (.iload 5, 2) := by decide +kernel
theorem dX1_areFree_18 : decode cX1_areFree 18 = .ok (.iaload, 1) := by decide +kernel
theorem dX1_areFree_19 : decode cX1_areFree 19 = .ok (.iload_n 1, 1) := by decide +kernel
theorem dX1_areFree_20 : decode cX1_areFree 20 = .ok (.if_icmp .eq 14, 3) := by decide +kernel
theorem dX1_areFree_23 : decode cX1_areFree 23 = .ok (.aload_n 0, 1) := by decide +kernel
theorem dX1_areFree_24 : decode cX1_areFree 24 = .ok (.getfield 19, 3) := by decide +kernel
theorem dX1_areFree_27 : decode cX1_areFree 27 = .ok (.iload 5, 2) := by decide +kernel
theorem dX1_areFree_29 : decode cX1_areFree 29 = .ok (.iaload, 1) := by decide +kernel
theorem dX1_areFree_30 : decode cX1_areFree 30 = .ok (.iload_n 2, 1) := by decide +kernel
theorem dX1_areFree_31 : decode cX1_areFree 31 = .ok (.if_icmp .ne 7, 3) := by decide +kernel
theorem dX1_areFree_34 : decode cX1_areFree 34 = .ok (.iconst 1, 1) := by decide +kernel
theorem dX1_areFree_35 : decode cX1_areFree 35 = .ok (.goto 4, 3) := by decide +kernel
theorem dX1_areFree_38 : decode cX1_areFree 38 = .ok (.iconst 0, 1) := by decide +kernel
theorem dX1_areFree_39 : decode cX1_areFree 39 = .ok (.istore 6, 2) := by decide +kernel
theorem dX1_areFree_41 : decode cX1_areFree 41 = .ok (.iload 6, 2) := by decide +kernel
theorem dX1_areFree_43 : decode cX1_areFree 43 = .ok (.ifCond .eq 17, 3) := by decide +kernel
theorem dX1_areFree_46 : decode cX1_areFree 46 = .ok (.aload_n 0, 1) := by decide +kernel
theorem dX1_areFree_47 : decode cX1_areFree 47 = .ok (.iload 5, 2) := by decide +kernel
theorem dX1_areFree_49 : decode cX1_areFree 49 = .ok (.iload_n 3, 1) := by decide +kernel
theorem dX1_areFree_50 : decode cX1_areFree 50 = .ok (.iload 4, 2) := by decide +kernel
theorem dX1_areFree_52 : decode cX1_areFree 52 = .ok (.invokevirtual 34, 3) := by decide +kernel
theorem dX1_areFree_55 : decode cX1_areFree 55 = .ok (.ifCond .eq 5, 3) := by decide +kernel
theorem dX1_areFree_58 : decode cX1_areFree 58 = .ok (.iconst 0, 1) := by decide +kernel
theorem dX1_areFree_59 : decode cX1_areFree 59 = .ok (.ireturn, 1) := by decide +kernel
theorem dX1_areFree_60 : decode cX1_areFree 60 = .ok (.iinc 5 1, 3) := by decide +kernel
theorem dX1_areFree_63 : decode cX1_areFree 63 = .ok (.goto (-60), 3) := by decide +kernel
theorem dX1_areFree_66 : decode cX1_areFree 66 = .ok (.iconst 1, 1) := by decide +kernel
theorem dX1_areFree_67 : decode cX1_areFree 67 = .ok (.ireturn, 1) := by decide +kernel
theorem dX1_meets_0 : decode cX1_meets 0 = .ok (.aload_n 0, 1) := by decide +kernel
theorem dX1_meets_1 : decode cX1_meets 1 = .ok (.getfield 22, 3) := by decide +kernel
theorem dX1_meets_4 : decode cX1_meets 4 = .ok (.iload_n 1, 1) := by decide +kernel
theorem dX1_meets_5 : decode cX1_meets 5 = .ok (.iaload, 1) := by decide +kernel
theorem dX1_meets_6 : decode cX1_meets 6 = .ok (.iload_n 3, 1) := by decide +kernel
theorem dX1_meets_7 : decode cX1_meets 7 = .ok (.if_icmp .ge 17, 3) := by decide +kernel
theorem dX1_meets_10 : decode cX1_meets 10 = .ok (.iload_n 2, 1) := by decide +kernel
theorem dX1_meets_11 : decode cX1_meets 11 = .ok (.aload_n 0, 1) := by decide +kernel
theorem dX1_meets_12 : decode cX1_meets 12 = .ok (.getfield 25, 3) := by decide +kernel
theorem dX1_meets_15 : decode cX1_meets 15 = .ok (.iload_n 1, 1) := by decide +kernel
theorem dX1_meets_16 : decode cX1_meets 16 = .ok (.iaload, 1) := by decide +kernel
theorem dX1_meets_17 : decode cX1_meets 17 = .ok (.if_icmp .ge 7, 3) := by decide +kernel
theorem dX1_meets_20 : decode cX1_meets 20 = .ok (.iconst 1, 1) := by decide +kernel
theorem dX1_meets_21 : decode cX1_meets 21 = .ok (.goto 4, 3) := by decide +kernel
theorem dX1_meets_24 : decode cX1_meets 24 = .ok (.iconst 0, 1) := by decide +kernel
theorem dX1_meets_25 : decode cX1_meets 25 = .ok (.ireturn, 1) := by decide +kernel
theorem dX1_takesPlaceAt_0 : decode cX1_takesPlaceAt 0 = .ok (.aload_n 0, 1) := by decide +kernel
theorem dX1_takesPlaceAt_1 : decode cX1_takesPlaceAt 1 = .ok (.getfield 22, 3) := by decide +kernel
theorem dX1_takesPlaceAt_4 : decode cX1_takesPlaceAt 4 = .ok (.iload_n 1, 1) := by decide +kernel
theorem dX1_takesPlaceAt_5 : decode cX1_takesPlaceAt 5 = .ok (.iaload, 1) := by decide +kernel
theorem dX1_takesPlaceAt_6 : decode cX1_takesPlaceAt 6 = .ok (.iload_n 2, 1) := by decide +kernel
theorem dX1_takesPlaceAt_7 : decode cX1_takesPlaceAt 7 = .ok (.if_icmp .gt 17, 3) := by decide +kernel
theorem dX1_takesPlaceAt_10 : decode cX1_takesPlaceAt 10 = .ok (.iload_n 2, 1) := by decide +kernel
theorem dX1_takesPlaceAt_11 : decode cX1_takesPlaceAt 11 = .ok (.aload_n 0, 1) := by decide +kernel
theorem dX1_takesPlaceAt_12 : decode cX1_takesPlaceAt 12 = .ok (.getfield 25, 3) := by decide +kernel
theorem dX1_takesPlaceAt_15 : decode cX1_takesPlaceAt 15 = .ok (.iload_n 1, 1) := by decide +kernel
theorem dX1_takesPlaceAt_16 : decode cX1_takesPlaceAt 16 = .ok (.iaload, 1) := by decide +kernel
theorem dX1_takesPlaceAt_17 : decode cX1_takesPlaceAt 17 = .ok (.if_icmp .ge 7, 3) := by decide +kernel
theorem dX1_takesPlaceAt_20 : decode cX1_takesPlaceAt 20 = .ok (.iconst 1, 1) := by decide +kernel
theorem dX1_takesPlaceAt_21 : decode cX1_takesPlaceAt 21 = .ok (.goto 4, 3) := by decide +kernel
theorem dX1_takesPlaceAt_24 : decode cX1_takesPlaceAt 24 = .ok (.iconst 0, 1) := by decide +kernel
theorem dX1_takesPlaceAt_25 : decode cX1_takesPlaceAt 25 = .ok (.ireturn, 1) := by decide +kernel
theorem dX1_onSlideAt_0 : decode cX1_onSlideAt 0 = .ok (.iconst 0, 1) := by decide +kernel
theorem dX1_onSlideAt_1 : decode cX1_onSlideAt 1 = .ok (.istore_n 3, 1) := by decide +kernel
theorem dX1_onSlideAt_2 : decode cX1_onSlideAt 2 = .ok (.iload_n 3, 1) := by decide +kernel
theorem dX1_onSlideAt_3 : decode cX1_onSlideAt 3 = .ok (.aload_n 0, 1) := by decide +kernel
theorem dX1_onSlideAt_4 : decode cX1_onSlideAt 4 = .ok (.getfield 9, 3) := by decide +kernel
theorem dX1_onSlideAt_7 : decode cX1_onSlideAt 7 = .ok (.if_icmp .ge 30, 3) := by decide +kernel
theorem dX1_onSlideAt_10 : decode cX1_onSlideAt 10 = .ok (.aload_n 0, 1) := by decide +kernel
theorem dX1_onSlideAt_11 : decode cX1_onSlideAt 11 = .ok (.getfield 19, 3) := by decide +kernel
theorem dX1_onSlideAt_14 : decode cX1_onSlideAt 14 = .ok (.iload_n 3, 1) := by decide +kernel
theorem dX1_onSlideAt_15 : decode cX1_onSlideAt 15 = .ok (.iaload, 1) := by decide +kernel
theorem dX1_onSlideAt_16 : decode cX1_onSlideAt 16 = .ok (.iload_n 1, 1) := by decide +kernel
theorem dX1_onSlideAt_17 : decode cX1_onSlideAt 17 = .ok (.if_icmp .ne 14, 3) := by decide +kernel
theorem dX1_onSlideAt_20 : decode cX1_onSlideAt 20 = .ok (.aload_n 0, 1) := by decide +kernel
theorem dX1_onSlideAt_21 : decode cX1_onSlideAt 21 = .ok (.iload_n 3, 1) := by decide +kernel
theorem dX1_onSlideAt_22 : decode cX1_onSlideAt 22 = .ok (.iload_n 2, 1) := by decide +kernel
theorem dX1_onSlideAt_23 : decode cX1_onSlideAt 23 = .ok (.invokevirtual 38, 3) := by decide +kernel
theorem dX1_onSlideAt_26 : decode cX1_onSlideAt 26 = .ok (.ifCond .eq 5, 3) := by decide +kernel
theorem dX1_onSlideAt_29 : decode cX1_onSlideAt 29 = .ok (.iload_n 3, 1) := by decide +kernel
theorem dX1_onSlideAt_30 : decode cX1_onSlideAt 30 = .ok (.ireturn, 1) := by decide +kernel
theorem dX1_onSlideAt_31 : decode cX1_onSlideAt 31 = .ok (.iinc 3 1, 3) := by decide +kernel
theorem dX1_onSlideAt_34 : decode cX1_onSlideAt 34 = .ok (.goto (-32), 3) := by decide +kernel
theorem dX1_onSlideAt_37 : decode cX1_onSlideAt 37 = .ok (.iconst (-1), 1) := by decide +kernel
theorem dX1_onSlideAt_38 : decode cX1_onSlideAt 38 = .ok (.ireturn, 1) := by decide +kernel
theorem dX1_nextOnSlide_0 : decode cX1_nextOnSlide 0 = .ok (.iconst (-1), 1) := by decide +kernel
theorem dX1_nextOnSlide_1 : decode cX1_nextOnSlide 1 = .ok (.istore_n 3, 1) := by decide +kernel
theorem dX1_nextOnSlide_2 : decode cX1_nextOnSlide 2 = .ok (.iconst 0, 1) := by decide +kernel
theorem dX1_nextOnSlide_3 : decode cX1_nextOnSlide 3 = .ok (.istore 4, 2) := by decide +kernel
theorem dX1_nextOnSlide_5 : decode cX1_nextOnSlide 5 = .ok (.iload 4, 2) := by decide +kernel
theorem dX1_nextOnSlide_7 : decode cX1_nextOnSlide 7 = .ok (.aload_n 0, 1) := by decide +kernel
theorem dX1_nextOnSlide_8 : decode cX1_nextOnSlide 8 = .ok (.getfield 9, 3) := by decide +kernel
theorem dX1_nextOnSlide_11 : decode cX1_nextOnSlide 11 = .ok (.if_icmp .ge 55, 3) := by decide +kernel
theorem dX1_nextOnSlide_14 : decode cX1_nextOnSlide 14 = .ok (.aload_n 0, 1) := by decide +kernel
theorem dX1_nextOnSlide_15 : decode cX1_nextOnSlide 15 = .ok (.getfield 19, 3) := by decide +kernel
theorem dX1_nextOnSlide_18 : decode cX1_nextOnSlide 18 = .ok (.iload 4, 2) := by decide +kernel
theorem dX1_nextOnSlide_20 : decode cX1_nextOnSlide 20 = .ok (.iaload, 1) := by decide +kernel
theorem dX1_nextOnSlide_21 : decode cX1_nextOnSlide 21 = .ok (.iload_n 1, 1) := by decide +kernel
theorem dX1_nextOnSlide_22 : decode cX1_nextOnSlide 22 = .ok (.if_icmp .ne 38, 3) := by decide +kernel
theorem dX1_nextOnSlide_25 : decode cX1_nextOnSlide 25 = .ok (.aload_n 0, 1) := by decide +kernel
theorem dX1_nextOnSlide_26 : decode cX1_nextOnSlide 26 = .ok (.getfield 22, 3) := by decide +kernel
theorem dX1_nextOnSlide_29 : decode cX1_nextOnSlide 29 = .ok (.iload 4, 2) := by decide +kernel
theorem dX1_nextOnSlide_31 : decode cX1_nextOnSlide 31 = .ok (.iaload, 1) := by decide +kernel
theorem dX1_nextOnSlide_32 : decode cX1_nextOnSlide 32 = .ok (.iload_n 2, 1) := by decide +kernel
theorem dX1_nextOnSlide_33 : decode cX1_nextOnSlide 33 = .ok (.if_icmp .le 27, 3) := by decide +kernel
theorem dX1_nextOnSlide_36 : decode cX1_nextOnSlide 36 = .ok (.iload_n 3, 1) := by decide +kernel
theorem dX1_nextOnSlide_37 : decode cX1_nextOnSlide 37 = .ok (.iconst (-1), 1) := by decide +kernel
theorem dX1_nextOnSlide_38 : decode cX1_nextOnSlide 38 = .ok (.if_icmp .eq 19, 3) := by decide +kernel
theorem dX1_nextOnSlide_41 : decode cX1_nextOnSlide 41 = .ok (.aload_n 0, 1) := by decide +kernel
theorem dX1_nextOnSlide_42 : decode cX1_nextOnSlide 42 = .ok (.getfield 22, 3) := by decide +kernel
theorem dX1_nextOnSlide_45 : decode cX1_nextOnSlide 45 = .ok (.iload 4, 2) := by decide +kernel
theorem dX1_nextOnSlide_47 : decode cX1_nextOnSlide 47 = .ok (.iaload, 1) := by decide +kernel
theorem dX1_nextOnSlide_48 : decode cX1_nextOnSlide 48 = .ok (.aload_n 0, 1) := by decide +kernel
theorem dX1_nextOnSlide_49 : decode cX1_nextOnSlide 49 = .ok (.getfield 22, 3) := by decide +kernel
theorem dX1_nextOnSlide_52 : decode cX1_nextOnSlide 52 = .ok (.iload_n 3, 1) := by decide +kernel
theorem dX1_nextOnSlide_53 : decode cX1_nextOnSlide 53 = .ok (.iaload, 1) := by decide +kernel
theorem dX1_nextOnSlide_54 : decode cX1_nextOnSlide 54 = .ok (.if_icmp .ge 6, 3) := by decide +kernel
theorem dX1_nextOnSlide_57 : decode cX1_nextOnSlide 57 = .ok (.iload 4, 2) := by decide +kernel
theorem dX1_nextOnSlide_59 : decode cX1_nextOnSlide 59 = .ok (.istore_n 3, 1) := by decide +kernel
theorem dX1_nextOnSlide_60 : decode cX1_nextOnSlide 60 = .ok (.iinc 4 1, 3) := by decide +kernel
theorem dX1_nextOnSlide_63 : decode cX1_nextOnSlide 63 = .ok (.goto (-58), 3) := by decide +kernel
theorem dX1_nextOnSlide_66 : decode cX1_nextOnSlide 66 = .ok (.iload_n 3, 1) := by decide +kernel
theorem dX1_nextOnSlide_67 : decode cX1_nextOnSlide 67 = .ok (.ireturn, 1) := by decide +kernel
theorem dX1_rankByStart_0 : decode cX1_rankByStart 0 = .ok (.iconst 0, 1) := by decide +kernel
theorem dX1_rankByStart_1 : decode cX1_rankByStart 1 = .ok (.istore_n 2, 1) := by decide +kernel
theorem dX1_rankByStart_2 : decode cX1_rankByStart 2 = .ok (.iconst 0, 1) := by decide +kernel
theorem dX1_rankByStart_3 : decode cX1_rankByStart 3 = .ok (.istore_n 3, 1) := by decide +kernel
theorem dX1_rankByStart_4 : decode cX1_rankByStart 4 = .ok (.iload_n 3, 1) := by decide +kernel
theorem dX1_rankByStart_5 : decode cX1_rankByStart 5 = .ok (.aload_n 0, 1) := by decide +kernel
theorem dX1_rankByStart_6 : decode cX1_rankByStart 6 = .ok (.getfield 9, 3) := by decide +kernel
theorem dX1_rankByStart_9 : decode cX1_rankByStart 9 = .ok (.if_icmp .ge 57, 3) := by decide +kernel
theorem dX1_rankByStart_12 : decode cX1_rankByStart 12 = .ok (.aload_n 0, 1) := by decide +kernel
theorem dX1_rankByStart_13 : decode cX1_rankByStart 13 = .ok (.getfield 22, 3) := by decide +kernel
theorem dX1_rankByStart_16 : decode cX1_rankByStart 16 = .ok (.iload_n 3, 1) := by decide +kernel
theorem dX1_rankByStart_17 : decode cX1_rankByStart 17 = .ok (.iaload, 1) := by decide +kernel
theorem dX1_rankByStart_18 : decode cX1_rankByStart 18 = .ok (.aload_n 0, 1) := by decide +kernel
theorem dX1_rankByStart_19 : decode cX1_rankByStart 19 = .ok (.getfield 22, 3) := by decide +kernel
theorem dX1_rankByStart_22 : decode cX1_rankByStart 22 = .ok (.iload_n 1, 1) := by decide +kernel
theorem dX1_rankByStart_23 : decode cX1_rankByStart 23 = .ok (.iaload, 1) := by decide +kernel
theorem dX1_rankByStart_24 : decode cX1_rankByStart 24 = .ok (.if_icmp .lt 33, 3) := by decide +kernel
theorem dX1_rankByStart_27 : decode cX1_rankByStart 27 = .ok (.aload_n 0, 1) := by decide +kernel
theorem dX1_rankByStart_28 : decode cX1_rankByStart 28 = .ok (.getfield 22, 3) := by decide +kernel
theorem dX1_rankByStart_31 : decode cX1_rankByStart 31 = .ok (.iload_n 3, 1) := by decide +kernel
theorem dX1_rankByStart_32 : decode cX1_rankByStart 32 = .ok (.iaload, 1) := by decide +kernel
theorem dX1_rankByStart_33 : decode cX1_rankByStart 33 = .ok (.aload_n 0, 1) := by decide +kernel
theorem dX1_rankByStart_34 : decode cX1_rankByStart 34 = .ok (.getfield 22, 3) := by decide +kernel
theorem dX1_rankByStart_37 : decode cX1_rankByStart 37 = .ok (.iload_n 1, 1) := by decide +kernel
theorem dX1_rankByStart_38 : decode cX1_rankByStart 38 = .ok (.iaload, 1) := by decide +kernel
theorem dX1_rankByStart_39 : decode cX1_rankByStart 39 = .ok (.if_icmp .ne 21, 3) := by decide +kernel
theorem dX1_rankByStart_42 : decode cX1_rankByStart 42 = .ok (.aload_n 0, 1) := by decide +kernel
theorem dX1_rankByStart_43 : decode cX1_rankByStart 43 = .ok (.getfield 19, 3) := by decide +kernel
theorem dX1_rankByStart_46 : decode cX1_rankByStart 46 = .ok (.iload_n 3, 1) := by decide +kernel
theorem dX1_rankByStart_47 : decode cX1_rankByStart 47 = .ok (.iaload, 1) := by decide +kernel
theorem dX1_rankByStart_48 : decode cX1_rankByStart 48 = .ok (.aload_n 0, 1) := by decide +kernel
theorem dX1_rankByStart_49 : decode cX1_rankByStart 49 = .ok (.getfield 19, 3) := by decide +kernel
theorem dX1_rankByStart_52 : decode cX1_rankByStart 52 = .ok (.iload_n 1, 1) := by decide +kernel
theorem dX1_rankByStart_53 : decode cX1_rankByStart 53 = .ok (.iaload, 1) := by decide +kernel
theorem dX1_rankByStart_54 : decode cX1_rankByStart 54 = .ok (.if_icmp .ge 6, 3) := by decide +kernel
theorem dX1_rankByStart_57 : decode cX1_rankByStart 57 = .ok (.iinc 2 1, 3) := by decide +kernel
theorem dX1_rankByStart_60 : decode cX1_rankByStart 60 = .ok (.iinc 3 1, 3) := by decide +kernel
theorem dX1_rankByStart_63 : decode cX1_rankByStart 63 = .ok (.goto (-59), 3) := by decide +kernel
theorem dX1_rankByStart_66 : decode cX1_rankByStart 66 = .ok (.iload_n 2, 1) := by decide +kernel
theorem dX1_rankByStart_67 : decode cX1_rankByStart 67 = .ok (.ireturn, 1) := by decide +kernel
theorem dX1_watchedByEarliestEnd_0 : decode cX1_watchedByEarliestEnd 0 = .ok (.iconst 0, 1) := by decide +kernel
theorem dX1_watchedByEarliestEnd_1 : decode cX1_watchedByEarliestEnd 1 = .ok (.istore_n 1, 1) := by decide +kernel
theorem dX1_watchedByEarliestEnd_2 : decode cX1_watchedByEarliestEnd 2 = .ok (.iconst 0, 1) := by decide +kernel
theorem dX1_watchedByEarliestEnd_3 : decode cX1_watchedByEarliestEnd 3 = .ok (.istore_n 2, 1) := by decide +kernel
theorem dX1_watchedByEarliestEnd_4 : decode cX1_watchedByEarliestEnd 4 = .ok (.iconst 0, 1) := by decide +kernel
theorem dX1_watchedByEarliestEnd_5 : decode cX1_watchedByEarliestEnd 5 = .ok (.istore_n 3, 1) := by decide +kernel
theorem dX1_watchedByEarliestEnd_6 : decode cX1_watchedByEarliestEnd 6 = .ok (.iload_n 3, 1) := by decide +kernel
theorem dX1_watchedByEarliestEnd_7 : decode cX1_watchedByEarliestEnd 7 = .ok (.aload_n 0, 1) := by decide +kernel
theorem dX1_watchedByEarliestEnd_8 : decode cX1_watchedByEarliestEnd 8 = .ok (.getfield 9, 3) := by decide +kernel
theorem dX1_watchedByEarliestEnd_11 : decode cX1_watchedByEarliestEnd 11 = .ok (.if_icmp .ge 35, 3) := by decide +kernel
theorem dX1_watchedByEarliestEnd_14 : decode cX1_watchedByEarliestEnd 14 = .ok (.aload_n 0, 1) := by decide +kernel
theorem dX1_watchedByEarliestEnd_15 : decode cX1_watchedByEarliestEnd 15 = .ok (.iload_n 2, 1) := by decide +kernel
theorem dX1_watchedByEarliestEnd_16 : decode cX1_watchedByEarliestEnd 16 = .ok (.invokevirtual 42, 3) := by decide +kernel
theorem dX1_watchedByEarliestEnd_19 : decode cX1_watchedByEarliestEnd 19 = .ok (.istore 4, 2) := by decide +kernel
theorem dX1_watchedByEarliestEnd_21 : decode cX1_watchedByEarliestEnd 21 = .ok (.iload 4, 2) := by decide +kernel
theorem dX1_watchedByEarliestEnd_23 : decode cX1_watchedByEarliestEnd 23 = .ok (.iconst (-1), 1) := by decide +kernel
theorem dX1_watchedByEarliestEnd_24 : decode cX1_watchedByEarliestEnd 24 = .ok (.if_icmp .ne 5, 3) := by decide +kernel
theorem dX1_watchedByEarliestEnd_27 : decode cX1_watchedByEarliestEnd 27 = .ok (.iload_n 1, 1) := by decide +kernel
theorem dX1_watchedByEarliestEnd_28 : decode cX1_watchedByEarliestEnd 28 = .ok (.ireturn, 1) := by decide +kernel
theorem dX1_watchedByEarliestEnd_29 : decode cX1_watchedByEarliestEnd 29 = .ok (.iinc 1 1, 3) := by decide +kernel
theorem dX1_watchedByEarliestEnd_32 : decode cX1_watchedByEarliestEnd 32 = .ok (.aload_n 0, 1) := by decide +kernel
theorem dX1_watchedByEarliestEnd_33 : decode cX1_watchedByEarliestEnd 33 = .ok (.getfield 25, 3) := by decide +kernel
theorem dX1_watchedByEarliestEnd_36 : decode cX1_watchedByEarliestEnd 36 = .ok (.iload 4, 2) := by decide +kernel
theorem dX1_watchedByEarliestEnd_38 : decode cX1_watchedByEarliestEnd 38 = .ok (.iaload, 1) := by decide +kernel
theorem dX1_watchedByEarliestEnd_39 : decode cX1_watchedByEarliestEnd 39 = .ok (.istore_n 2, 1) := by decide +kernel
theorem dX1_watchedByEarliestEnd_40 : decode cX1_watchedByEarliestEnd 40 = .ok (.iinc 3 1, 3) := by decide +kernel
theorem dX1_watchedByEarliestEnd_43 : decode cX1_watchedByEarliestEnd 43 = .ok (.goto (-37), 3) := by decide +kernel
theorem dX1_watchedByEarliestEnd_46 : decode cX1_watchedByEarliestEnd 46 = .ok (.iload_n 1, 1) := by decide +kernel
theorem dX1_watchedByEarliestEnd_47 : decode cX1_watchedByEarliestEnd 47 = .ok (.ireturn, 1) := by decide +kernel
theorem dX1_earliestEndFrom_0 : decode cX1_earliestEndFrom 0 = .ok (.iconst (-1), 1) := by decide +kernel
theorem dX1_earliestEndFrom_1 : decode cX1_earliestEndFrom 1 = .ok (.istore_n 2, 1) := by decide +kernel
theorem dX1_earliestEndFrom_2 : decode cX1_earliestEndFrom 2 = .ok (.iconst 0, 1) := by decide +kernel
theorem dX1_earliestEndFrom_3 : decode cX1_earliestEndFrom 3 = .ok (.istore_n 3, 1) := by decide +kernel
theorem dX1_earliestEndFrom_4 : decode cX1_earliestEndFrom 4 = .ok (.iload_n 3, 1) := by decide +kernel
theorem dX1_earliestEndFrom_5 : decode cX1_earliestEndFrom 5 = .ok (.aload_n 0, 1) := by decide +kernel
theorem dX1_earliestEndFrom_6 : decode cX1_earliestEndFrom 6 = .ok (.getfield 9, 3) := by decide +kernel
theorem dX1_earliestEndFrom_9 : decode cX1_earliestEndFrom 9 = .ok (.if_icmp .ge 41, 3) := by decide +kernel
theorem dX1_earliestEndFrom_12 : decode cX1_earliestEndFrom 12 = .ok (.aload_n 0, 1) := by decide +kernel
theorem dX1_earliestEndFrom_13 : decode cX1_earliestEndFrom 13 = .ok (.getfield 22, 3) := by decide +kernel
theorem dX1_earliestEndFrom_16 : decode cX1_earliestEndFrom 16 = .ok (.iload_n 3, 1) := by decide +kernel
theorem dX1_earliestEndFrom_17 : decode cX1_earliestEndFrom 17 = .ok (.iaload, 1) := by decide +kernel
theorem dX1_earliestEndFrom_18 : decode cX1_earliestEndFrom 18 = .ok (.iload_n 1, 1) := by decide +kernel
theorem dX1_earliestEndFrom_19 : decode cX1_earliestEndFrom 19 = .ok (.if_icmp .lt 25, 3) := by decide +kernel
theorem dX1_earliestEndFrom_22 : decode cX1_earliestEndFrom 22 = .ok (.iload_n 2, 1) := by decide +kernel
theorem dX1_earliestEndFrom_23 : decode cX1_earliestEndFrom 23 = .ok (.iconst (-1), 1) := by decide +kernel
theorem dX1_earliestEndFrom_24 : decode cX1_earliestEndFrom 24 = .ok (.if_icmp .eq 18, 3) := by decide +kernel
theorem dX1_earliestEndFrom_27 : decode cX1_earliestEndFrom 27 = .ok (.aload_n 0, 1) := by decide +kernel
theorem dX1_earliestEndFrom_28 : decode cX1_earliestEndFrom 28 = .ok (.getfield 25, 3) := by decide +kernel
theorem dX1_earliestEndFrom_31 : decode cX1_earliestEndFrom 31 = .ok (.iload_n 3, 1) := by decide +kernel
theorem dX1_earliestEndFrom_32 : decode cX1_earliestEndFrom 32 = .ok (.iaload, 1) := by decide +kernel
theorem dX1_earliestEndFrom_33 : decode cX1_earliestEndFrom 33 = .ok (.aload_n 0, 1) := by decide +kernel
theorem dX1_earliestEndFrom_34 : decode cX1_earliestEndFrom 34 = .ok (.getfield 25, 3) := by decide +kernel
theorem dX1_earliestEndFrom_37 : decode cX1_earliestEndFrom 37 = .ok (.iload_n 2, 1) := by decide +kernel
theorem dX1_earliestEndFrom_38 : decode cX1_earliestEndFrom 38 = .ok (.iaload, 1) := by decide +kernel
theorem dX1_earliestEndFrom_39 : decode cX1_earliestEndFrom 39 = .ok (.if_icmp .ge 5, 3) := by decide +kernel
theorem dX1_earliestEndFrom_42 : decode cX1_earliestEndFrom 42 = .ok (.iload_n 3, 1) := by decide +kernel
theorem dX1_earliestEndFrom_43 : decode cX1_earliestEndFrom 43 = .ok (.istore_n 2, 1) := by decide +kernel
theorem dX1_earliestEndFrom_44 : decode cX1_earliestEndFrom 44 = .ok (.iinc 3 1, 3) := by decide +kernel
theorem dX1_earliestEndFrom_47 : decode cX1_earliestEndFrom 47 = .ok (.goto (-43), 3) := by decide +kernel
theorem dX1_earliestEndFrom_50 : decode cX1_earliestEndFrom 50 = .ok (.iload_n 2, 1) := by decide +kernel
theorem dX1_earliestEndFrom_51 : decode cX1_earliestEndFrom 51 = .ok (.ireturn, 1) := by decide +kernel
theorem dX1_atOnceByStarts_0 : decode cX1_atOnceByStarts 0 = .ok (.iconst 0, 1) := by decide +kernel
theorem dX1_atOnceByStarts_1 : decode cX1_atOnceByStarts 1 = .ok (.istore_n 1, 1) := by decide +kernel
theorem dX1_atOnceByStarts_2 : decode cX1_atOnceByStarts 2 = .ok (.iconst 0, 1) := by decide +kernel
theorem dX1_atOnceByStarts_3 : decode cX1_atOnceByStarts 3 = .ok (.istore_n 2, 1) := by decide +kernel
theorem dX1_atOnceByStarts_4 : decode cX1_atOnceByStarts 4 = .ok (.iload_n 2, 1) := by decide +kernel
theorem dX1_atOnceByStarts_5 : decode cX1_atOnceByStarts 5 = .ok (.aload_n 0, 1) := by decide +kernel
theorem dX1_atOnceByStarts_6 : decode cX1_atOnceByStarts 6 = .ok (.getfield 9, 3) := by decide +kernel
theorem dX1_atOnceByStarts_9 : decode cX1_atOnceByStarts 9 = .ok (.if_icmp .ge 53, 3) := by decide +kernel
theorem dX1_atOnceByStarts_12 : decode cX1_atOnceByStarts 12 = .ok (.iconst 0, 1) := by decide +kernel
theorem dX1_atOnceByStarts_13 : decode cX1_atOnceByStarts 13 = .ok (.istore_n 3, 1) := by decide +kernel
theorem dX1_atOnceByStarts_14 : decode cX1_atOnceByStarts 14 = .ok (.iconst 0, 1) := by decide +kernel
theorem dX1_atOnceByStarts_15 : decode cX1_atOnceByStarts 15 = .ok (.istore 4, 2) := by decide +kernel
theorem dX1_atOnceByStarts_17 : decode cX1_atOnceByStarts 17 = .ok (.iload 4, 2) := by decide +kernel
theorem dX1_atOnceByStarts_19 : decode cX1_atOnceByStarts 19 = .ok (.aload_n 0, 1) := by decide +kernel
theorem dX1_atOnceByStarts_20 : decode cX1_atOnceByStarts 20 = .ok (.getfield 9, 3) := by decide +kernel
theorem dX1_atOnceByStarts_23 : decode cX1_atOnceByStarts 23 = .ok (.if_icmp .ge 27, 3) := by decide +kernel
theorem dX1_atOnceByStarts_26 : decode cX1_atOnceByStarts 26 = .ok (.aload_n 0, 1) := by decide +kernel
theorem dX1_atOnceByStarts_27 : decode cX1_atOnceByStarts 27 = .ok (.iload 4, 2) := by decide +kernel
theorem dX1_atOnceByStarts_29 : decode cX1_atOnceByStarts 29 = .ok (.aload_n 0, 1) := by decide +kernel
theorem dX1_atOnceByStarts_30 : decode cX1_atOnceByStarts 30 = .ok (.getfield 22, 3) := by decide +kernel
theorem dX1_atOnceByStarts_33 : decode cX1_atOnceByStarts 33 = .ok (.iload_n 2, 1) := by decide +kernel
theorem dX1_atOnceByStarts_34 : decode cX1_atOnceByStarts 34 = .ok (.iaload, 1) := by decide +kernel
theorem dX1_atOnceByStarts_35 : decode cX1_atOnceByStarts 35 = .ok (.invokevirtual 38, 3) := by decide +kernel
theorem dX1_atOnceByStarts_38 : decode cX1_atOnceByStarts 38 = .ok (.ifCond .eq 6, 3) := by decide +kernel
theorem dX1_atOnceByStarts_41 : decode cX1_atOnceByStarts 41 = .ok (.iinc 3 1, 3) := by decide +kernel
theorem dX1_atOnceByStarts_44 : decode cX1_atOnceByStarts 44 = .ok (.iinc 4 1, 3) := by decide +kernel
theorem dX1_atOnceByStarts_47 : decode cX1_atOnceByStarts 47 = .ok (.goto (-30), 3) := by decide +kernel
theorem dX1_atOnceByStarts_50 : decode cX1_atOnceByStarts 50 = .ok (.iload_n 1, 1) := by decide +kernel
theorem dX1_atOnceByStarts_51 : decode cX1_atOnceByStarts 51 = .ok (.iload_n 3, 1) := by decide +kernel
theorem dX1_atOnceByStarts_52 : decode cX1_atOnceByStarts 52 = .ok (.invokestatic 46, 3) := by decide +kernel
theorem dX1_atOnceByStarts_55 : decode cX1_atOnceByStarts 55 = .ok (.istore_n 1, 1) := by decide +kernel
theorem dX1_atOnceByStarts_56 : decode cX1_atOnceByStarts 56 = .ok (.iinc 2 1, 3) := by decide +kernel
theorem dX1_atOnceByStarts_59 : decode cX1_atOnceByStarts 59 = .ok (.goto (-55), 3) := by decide +kernel
theorem dX1_atOnceByStarts_62 : decode cX1_atOnceByStarts 62 = .ok (.iload_n 1, 1) := by decide +kernel
theorem dX1_atOnceByStarts_63 : decode cX1_atOnceByStarts 63 = .ok (.ireturn, 1) := by decide +kernel
theorem dX1_atOnceBySweeping_0 : decode cX1_atOnceBySweeping 0 = .ok (.iconst 0, 1) := by decide +kernel
theorem dX1_atOnceBySweeping_1 : decode cX1_atOnceBySweeping 1 = .ok (.istore_n 1, 1) := by decide +kernel
theorem dX1_atOnceBySweeping_2 : decode cX1_atOnceBySweeping 2 = .ok (.iconst 0, 1) := by decide +kernel
theorem dX1_atOnceBySweeping_3 : decode cX1_atOnceBySweeping 3 = .ok (.istore_n 2, 1) := by decide +kernel
theorem dX1_atOnceBySweeping_4 : decode cX1_atOnceBySweeping 4 = .ok (.iconst (-1), 1) := by decide +kernel
theorem dX1_atOnceBySweeping_5 : decode cX1_atOnceBySweeping 5 = .ok (.istore_n 3, 1) := by decide +kernel
theorem dX1_atOnceBySweeping_6 : decode cX1_atOnceBySweeping 6 = .ok (.iconst 0, 1) := by decide +kernel
theorem dX1_atOnceBySweeping_7 : decode cX1_atOnceBySweeping 7 = .ok (.istore 4, 2) := by decide +kernel
theorem dX1_atOnceBySweeping_9 : decode cX1_atOnceBySweeping 9 = .ok (.iload 4, 2) := by decide +kernel
theorem dX1_atOnceBySweeping_11 : decode cX1_atOnceBySweeping 11 = .ok (.iconst 2, 1) := by decide +kernel
theorem dX1_atOnceBySweeping_12 : decode cX1_atOnceBySweeping 12 = .ok (.aload_n 0, 1) := by decide +kernel
theorem dX1_atOnceBySweeping_13 : decode cX1_atOnceBySweeping 13 = .ok (.getfield 9, 3) := by decide +kernel
theorem dX1_atOnceBySweeping_16 : decode cX1_atOnceBySweeping 16 = .ok (.imul, 1) := by decide +kernel
theorem dX1_atOnceBySweeping_17 : decode cX1_atOnceBySweeping 17 = .ok (.if_icmp .ge 29, 3) := by decide +kernel
theorem dX1_atOnceBySweeping_20 : decode cX1_atOnceBySweeping 20 = .ok (.aload_n 0, 1) := by decide +kernel
theorem dX1_atOnceBySweeping_21 : decode cX1_atOnceBySweeping 21 = .ok (.iload_n 3, 1) := by decide +kernel
theorem dX1_atOnceBySweeping_22 : decode cX1_atOnceBySweeping 22 = .ok (.invokevirtual 52, 3) := by decide +kernel
theorem dX1_atOnceBySweeping_25 : decode cX1_atOnceBySweeping 25 = .ok (.istore_n 3, 1) := by decide +kernel
theorem dX1_atOnceBySweeping_26 : decode cX1_atOnceBySweeping 26 = .ok (.iload_n 2, 1) := by decide +kernel
theorem dX1_atOnceBySweeping_27 : decode cX1_atOnceBySweeping 27 = .ok (.aload_n 0, 1) := by decide +kernel
theorem dX1_atOnceBySweeping_28 : decode cX1_atOnceBySweeping 28 = .ok (.iload_n 3, 1) := by decide +kernel
theorem dX1_atOnceBySweeping_29 : decode cX1_atOnceBySweeping 29 = .ok (.invokevirtual 55, 3) := by decide +kernel
theorem dX1_atOnceBySweeping_32 : decode cX1_atOnceBySweeping 32 = .ok (.iadd, 1) := by decide +kernel
theorem dX1_atOnceBySweeping_33 : decode cX1_atOnceBySweeping 33 = .ok (.istore_n 2, 1) := by decide +kernel
theorem dX1_atOnceBySweeping_34 : decode cX1_atOnceBySweeping 34 = .ok (.iload_n 1, 1) := by decide +kernel
theorem dX1_atOnceBySweeping_35 : decode cX1_atOnceBySweeping 35 = .ok (.iload_n 2, 1) := by decide +kernel
theorem dX1_atOnceBySweeping_36 : decode cX1_atOnceBySweeping 36 = .ok (.invokestatic 46, 3) := by decide +kernel
theorem dX1_atOnceBySweeping_39 : decode cX1_atOnceBySweeping 39 = .ok (.istore_n 1, 1) := by decide +kernel
theorem dX1_atOnceBySweeping_40 : decode cX1_atOnceBySweeping 40 = .ok (.iinc 4 1, 3) := by decide +kernel
theorem dX1_atOnceBySweeping_43 : decode cX1_atOnceBySweeping 43 = .ok (.goto (-34), 3) := by decide +kernel
theorem dX1_atOnceBySweeping_46 : decode cX1_atOnceBySweeping 46 = .ok (.iload_n 1, 1) := by decide +kernel
theorem dX1_atOnceBySweeping_47 : decode cX1_atOnceBySweeping 47 = .ok (.ireturn, 1) := by decide +kernel
theorem dX1_nextStartOrEnd_0 : decode cX1_nextStartOrEnd 0 = .ok (.ldc 58, 2) := by decide +kernel
theorem dX1_nextStartOrEnd_2 : decode cX1_nextStartOrEnd 2 = .ok (.istore_n 2, 1) := by decide +kernel
theorem dX1_nextStartOrEnd_3 : decode cX1_nextStartOrEnd 3 = .ok (.iconst 0, 1) := by decide +kernel
theorem dX1_nextStartOrEnd_4 : decode cX1_nextStartOrEnd 4 = .ok (.istore_n 3, 1) := by decide +kernel
theorem dX1_nextStartOrEnd_5 : decode cX1_nextStartOrEnd 5 = .ok (.iload_n 3, 1) := by decide +kernel
theorem dX1_nextStartOrEnd_6 : decode cX1_nextStartOrEnd 6 = .ok (.aload_n 0, 1) := by decide +kernel
theorem dX1_nextStartOrEnd_7 : decode cX1_nextStartOrEnd 7 = .ok (.getfield 9, 3) := by decide +kernel
theorem dX1_nextStartOrEnd_10 : decode cX1_nextStartOrEnd 10 = .ok (.if_icmp .ge 51, 3) := by decide +kernel
theorem dX1_nextStartOrEnd_13 : decode cX1_nextStartOrEnd 13 = .ok (.aload_n 0, 1) := by decide +kernel
theorem dX1_nextStartOrEnd_14 : decode cX1_nextStartOrEnd 14 = .ok (.getfield 22, 3) := by decide +kernel
theorem dX1_nextStartOrEnd_17 : decode cX1_nextStartOrEnd 17 = .ok (.iload_n 3, 1) := by decide +kernel
theorem dX1_nextStartOrEnd_18 : decode cX1_nextStartOrEnd 18 = .ok (.iaload, 1) := by decide +kernel
theorem dX1_nextStartOrEnd_19 : decode cX1_nextStartOrEnd 19 = .ok (.iload_n 1, 1) := by decide +kernel
theorem dX1_nextStartOrEnd_20 : decode cX1_nextStartOrEnd 20 = .ok (.if_icmp .le 14, 3) := by decide +kernel
theorem dX1_nextStartOrEnd_23 : decode cX1_nextStartOrEnd 23 = .ok (.iload_n 2, 1) := by decide +kernel
theorem dX1_nextStartOrEnd_24 : decode cX1_nextStartOrEnd 24 = .ok (.aload_n 0, 1) := by decide +kernel
theorem dX1_nextStartOrEnd_25 : decode cX1_nextStartOrEnd 25 = .ok (.getfield 22, 3) := by decide +kernel
theorem dX1_nextStartOrEnd_28 : decode cX1_nextStartOrEnd 28 = .ok (.iload_n 3, 1) := by decide +kernel
theorem dX1_nextStartOrEnd_29 : decode cX1_nextStartOrEnd 29 = .ok (.iaload, 1) := by decide +kernel
theorem dX1_nextStartOrEnd_30 : decode cX1_nextStartOrEnd 30 = .ok (.invokestatic 59, 3) := by decide +kernel
theorem dX1_nextStartOrEnd_33 : decode cX1_nextStartOrEnd 33 = .ok (.istore_n 2, 1) := by decide +kernel
theorem dX1_nextStartOrEnd_34 : decode cX1_nextStartOrEnd 34 = .ok (.aload_n 0, 1) := by decide +kernel
theorem dX1_nextStartOrEnd_35 : decode cX1_nextStartOrEnd 35 = .ok (.getfield 25, 3) := by decide +kernel
theorem dX1_nextStartOrEnd_38 : decode cX1_nextStartOrEnd 38 = .ok (.iload_n 3, 1) := by decide +kernel
theorem dX1_nextStartOrEnd_39 : decode cX1_nextStartOrEnd 39 = .ok (.iaload, 1) := by decide +kernel
theorem dX1_nextStartOrEnd_40 : decode cX1_nextStartOrEnd 40 = .ok (.iload_n 1, 1) := by decide +kernel
theorem dX1_nextStartOrEnd_41 : decode cX1_nextStartOrEnd 41 = .ok (.if_icmp .le 14, 3) := by decide +kernel
theorem dX1_nextStartOrEnd_44 : decode cX1_nextStartOrEnd 44 = .ok (.iload_n 2, 1) := by decide +kernel
theorem dX1_nextStartOrEnd_45 : decode cX1_nextStartOrEnd 45 = .ok (.aload_n 0, 1) := by decide +kernel
theorem dX1_nextStartOrEnd_46 : decode cX1_nextStartOrEnd 46 = .ok (.getfield 25, 3) := by decide +kernel
theorem dX1_nextStartOrEnd_49 : decode cX1_nextStartOrEnd 49 = .ok (.iload_n 3, 1) := by decide +kernel
theorem dX1_nextStartOrEnd_50 : decode cX1_nextStartOrEnd 50 = .ok (.iaload, 1) := by decide +kernel
theorem dX1_nextStartOrEnd_51 : decode cX1_nextStartOrEnd 51 = .ok (.invokestatic 59, 3) := by decide +kernel
theorem dX1_nextStartOrEnd_54 : decode cX1_nextStartOrEnd 54 = .ok (.istore_n 2, 1) := by decide +kernel
theorem dX1_nextStartOrEnd_55 : decode cX1_nextStartOrEnd 55 = .ok (.iinc 3 1, 3) := by decide +kernel
theorem dX1_nextStartOrEnd_58 : decode cX1_nextStartOrEnd 58 = .ok (.goto (-53), 3) := by decide +kernel
theorem dX1_nextStartOrEnd_61 : decode cX1_nextStartOrEnd 61 = .ok (.iload_n 2, 1) := by decide +kernel
theorem dX1_nextStartOrEnd_62 : decode cX1_nextStartOrEnd 62 = .ok (.ireturn, 1) := by decide +kernel
theorem dX1_startsLessEndsAt_0 : decode cX1_startsLessEndsAt 0 = .ok (.iconst 0, 1) := by decide +kernel
theorem dX1_startsLessEndsAt_1 : decode cX1_startsLessEndsAt 1 = .ok (.istore_n 2, 1) := by decide +kernel
theorem dX1_startsLessEndsAt_2 : decode cX1_startsLessEndsAt 2 = .ok (.iconst 0, 1) := by decide +kernel
theorem dX1_startsLessEndsAt_3 : decode cX1_startsLessEndsAt 3 = .ok (.istore_n 3, 1) := by decide +kernel
theorem dX1_startsLessEndsAt_4 : decode cX1_startsLessEndsAt 4 = .ok (.iload_n 3, 1) := by decide +kernel
theorem dX1_startsLessEndsAt_5 : decode cX1_startsLessEndsAt 5 = .ok (.aload_n 0, 1) := by decide +kernel
theorem dX1_startsLessEndsAt_6 : decode cX1_startsLessEndsAt 6 = .ok (.getfield 9, 3) := by decide +kernel
theorem dX1_startsLessEndsAt_9 : decode cX1_startsLessEndsAt 9 = .ok (.if_icmp .ge 35, 3) := by decide +kernel
theorem dX1_startsLessEndsAt_12 : decode cX1_startsLessEndsAt 12 = .ok (.aload_n 0, 1) := by decide +kernel
theorem dX1_startsLessEndsAt_13 : decode cX1_startsLessEndsAt 13 = .ok (.getfield 22, 3) := by decide +kernel
theorem dX1_startsLessEndsAt_16 : decode cX1_startsLessEndsAt 16 = .ok (.iload_n 3, 1) := by decide +kernel
theorem dX1_startsLessEndsAt_17 : decode cX1_startsLessEndsAt 17 = .ok (.iaload, 1) := by decide +kernel
theorem dX1_startsLessEndsAt_18 : decode cX1_startsLessEndsAt 18 = .ok (.iload_n 1, 1) := by decide +kernel
theorem dX1_startsLessEndsAt_19 : decode cX1_startsLessEndsAt 19 = .ok (.if_icmp .ne 6, 3) := by decide +kernel
theorem dX1_startsLessEndsAt_22 : decode cX1_startsLessEndsAt 22 = .ok (.iinc 2 1, 3) := by decide +kernel
theorem dX1_startsLessEndsAt_25 : decode cX1_startsLessEndsAt 25 = .ok (.aload_n 0, 1) := by decide +kernel
theorem dX1_startsLessEndsAt_26 : decode cX1_startsLessEndsAt 26 = .ok (.getfield 25, 3) := by decide +kernel
theorem dX1_startsLessEndsAt_29 : decode cX1_startsLessEndsAt 29 = .ok (.iload_n 3, 1) := by decide +kernel
theorem dX1_startsLessEndsAt_30 : decode cX1_startsLessEndsAt 30 = .ok (.iaload, 1) := by decide +kernel
theorem dX1_startsLessEndsAt_31 : decode cX1_startsLessEndsAt 31 = .ok (.iload_n 1, 1) := by decide +kernel
theorem dX1_startsLessEndsAt_32 : decode cX1_startsLessEndsAt 32 = .ok (.if_icmp .ne 6, 3) := by decide +kernel
theorem dX1_startsLessEndsAt_35 : decode cX1_startsLessEndsAt 35 = .ok (.iinc 2 (-1), 3) := by decide +kernel
theorem dX1_startsLessEndsAt_38 : decode cX1_startsLessEndsAt 38 = .ok (.iinc 3 1, 3) := by decide +kernel
theorem dX1_startsLessEndsAt_41 : decode cX1_startsLessEndsAt 41 = .ok (.goto (-37), 3) := by decide +kernel
theorem dX1_startsLessEndsAt_44 : decode cX1_startsLessEndsAt 44 = .ok (.iload_n 2, 1) := by decide +kernel
theorem dX1_startsLessEndsAt_45 : decode cX1_startsLessEndsAt 45 = .ok (.ireturn, 1) := by decide +kernel
theorem dX2_init_0 : decode cX2_init 0 = .ok (.aload_n 0, 1) := by decide +kernel
theorem dX2_init_1 : decode cX2_init 1 = .ok (.invokespecial 3, 3) := by decide +kernel
theorem dX2_init_4 : decode cX2_init 4 = .ok (.aload_n 0, 1) := by decide +kernel
theorem dX2_init_5 : decode cX2_init 5 = .ok (.bipush 12, 2) := by decide +kernel
theorem dX2_init_7 : decode cX2_init 7 = .ok (.newarray .int, 2) := by decide +kernel
theorem dX2_init_9 : decode cX2_init 9 = .ok (.putfield 9, 3) := by decide +kernel
theorem dX2_init_12 : decode cX2_init 12 = .ok (.aload_n 0, 1) := by decide +kernel
theorem dX2_init_13 : decode cX2_init 13 = .ok (.bipush 12, 2) := by decide +kernel
theorem dX2_init_15 : decode cX2_init 15 = .ok (.newarray .int, 2) := by decide +kernel
theorem dX2_init_17 : decode cX2_init 17 = .ok (.putfield 15, 3) := by decide +kernel
theorem dX2_init_20 : decode cX2_init 20 = .ok (.return_, 1) := by decide +kernel
theorem dX2_longestChain_0 : decode cX2_longestChain 0 = .ok (.iconst 0, 1) := by decide +kernel
theorem dX2_longestChain_1 : decode cX2_longestChain 1 = .ok (.istore_n 2, 1) := by decide +kernel
theorem dX2_longestChain_2 : decode cX2_longestChain 2 = .ok (.iload_n 2, 1) := by decide +kernel
theorem dX2_longestChain_3 : decode cX2_longestChain 3 = .ok (.aload_n 1, 1) := by decide +kernel
theorem dX2_longestChain_4 : decode cX2_longestChain 4 = .ok (.getfield 18, 3) := by decide +kernel
theorem dX2_longestChain_7 : decode cX2_longestChain 7 = .ok (.if_icmp .ge 20, 3) := by decide +kernel
theorem dX2_longestChain_10 : decode cX2_longestChain 10 = .ok (.aload_n 0, 1) := by decide +kernel
theorem dX2_longestChain_11 : decode cX2_longestChain 11 = .ok (.getfield 9, 3) := by decide +kernel
theorem dX2_longestChain_14 : decode cX2_longestChain 14 = .ok (.aload_n 1, 1) := by decide +kernel
theorem dX2_longestChain_15 : decode cX2_longestChain 15 = .ok (.iload_n 2, 1) := by decide +kernel
theorem dX2_longestChain_16 : decode cX2_longestChain 16 = .ok (.invokevirtual 24, 3) := by decide +kernel
theorem dX2_longestChain_19 : decode cX2_longestChain 19 = .ok (.iload_n 2, 1) := by decide +kernel
theorem dX2_longestChain_20 : decode cX2_longestChain 20 = .ok (.iastore, 1) := by decide +kernel
theorem dX2_longestChain_21 : decode cX2_longestChain 21 = .ok (.iinc 2 1, 3) := by decide +kernel
theorem dX2_longestChain_24 : decode cX2_longestChain 24 = .ok (.goto (-22), 3) := by decide +kernel
theorem dX2_longestChain_27 : decode cX2_longestChain 27 = .ok (.iconst 0, 1) := by decide +kernel
theorem dX2_longestChain_28 : decode cX2_longestChain 28 = .ok (.istore_n 2, 1) := by decide +kernel
theorem dX2_longestChain_29 : decode cX2_longestChain 29 = .ok (.iconst 0, 1) := by decide +kernel
theorem dX2_longestChain_30 : decode cX2_longestChain 30 = .ok (.istore_n 3, 1) := by decide +kernel
theorem dX2_longestChain_31 : decode cX2_longestChain 31 = .ok (.iload_n 3, 1) := by decide +kernel
theorem dX2_longestChain_32 : decode cX2_longestChain 32 = .ok (.aload_n 1, 1) := by decide +kernel
theorem dX2_longestChain_33 : decode cX2_longestChain 33 = .ok (.getfield 18, 3) := by decide +kernel
theorem dX2_longestChain_36 : decode cX2_longestChain 36 = .ok (.if_icmp .ge 34, 3) := by decide +kernel
theorem dX2_longestChain_39 : decode cX2_longestChain 39 = .ok (.aload_n 0, 1) := by decide +kernel
theorem dX2_longestChain_40 : decode cX2_longestChain 40 = .ok (.getfield 15, 3) := by decide +kernel
theorem dX2_longestChain_43 : decode cX2_longestChain 43 = .ok (.iload_n 3, 1) := by decide +kernel
theorem dX2_longestChain_44 : decode cX2_longestChain 44 = .ok (.iconst 1, 1) := by decide +kernel
theorem dX2_longestChain_45 : decode cX2_longestChain 45 = .ok (.aload_n 0, 1) := by decide +kernel
theorem dX2_longestChain_46 : decode cX2_longestChain 46 = .ok (.aload_n 1, 1) := by decide +kernel
theorem dX2_longestChain_47 : decode cX2_longestChain 47 = .ok (.iload_n 3, 1) := by decide +kernel
theorem dX2_longestChain_48 : decode cX2_longestChain 48 = .ok (.invokevirtual 28, 3) := by decide +kernel
theorem dX2_longestChain_51 : decode cX2_longestChain 51 = .ok (.iadd, 1) := by decide +kernel
theorem dX2_longestChain_52 : decode cX2_longestChain 52 = .ok (.iastore, 1) := by decide +kernel
theorem dX2_longestChain_53 : decode cX2_longestChain 53 = .ok (.iload_n 2, 1) := by decide +kernel
theorem dX2_longestChain_54 : decode cX2_longestChain 54 = .ok (.aload_n 0, 1) := by decide +kernel
theorem dX2_longestChain_55 : decode cX2_longestChain 55 = .ok (.getfield 15, 3) := by decide +kernel
theorem dX2_longestChain_58 : decode cX2_longestChain 58 = .ok (.iload_n 3, 1) := by decide +kernel
theorem dX2_longestChain_59 : decode cX2_longestChain 59 = .ok (.iaload, 1) := by decide +kernel
theorem dX2_longestChain_60 : decode cX2_longestChain 60 = .ok (.invokestatic 32, 3) := by decide +kernel
theorem dX2_longestChain_63 : decode cX2_longestChain 63 = .ok (.istore_n 2, 1) := by decide +kernel
theorem dX2_longestChain_64 : decode cX2_longestChain 64 = .ok (.iinc 3 1, 3) := by decide +kernel
theorem dX2_longestChain_67 : decode cX2_longestChain 67 = .ok (.goto (-36), 3) := by decide +kernel
theorem dX2_longestChain_70 : decode cX2_longestChain 70 = .ok (.iload_n 2, 1) := by decide +kernel
theorem dX2_longestChain_71 : decode cX2_longestChain 71 = .ok (.ireturn, 1) := by decide +kernel
theorem dX2_longestBefore_0 : decode cX2_longestBefore 0 = .ok (.iconst 0, 1) := by decide +kernel
theorem dX2_longestBefore_1 : decode cX2_longestBefore 1 = .ok (.istore_n 3, 1) := by decide +kernel
theorem dX2_longestBefore_2 : decode cX2_longestBefore 2 = .ok (.iconst 0, 1) := by decide +kernel
theorem dX2_longestBefore_3 : decode cX2_longestBefore 3 = .ok (.istore 4, 2) := by decide +kernel
theorem dX2_longestBefore_5 : decode cX2_longestBefore 5 = .ok (.iload 4, 2) := by decide +kernel
theorem dX2_longestBefore_7 : decode cX2_longestBefore 7 = .ok (.iload_n 2, 1) := by decide +kernel
theorem dX2_longestBefore_8 : decode cX2_longestBefore 8 = .ok (.if_icmp .ge 47, 3) := by decide +kernel
theorem dX2_longestBefore_11 : decode cX2_longestBefore 11 = .ok (.aload_n 1, 1) := by decide +kernel
theorem dX2_longestBefore_12 : decode cX2_longestBefore 12 = .ok (.getfield 38, 3) := by decide +kernel
theorem dX2_longestBefore_15 : decode cX2_longestBefore 15 = .ok (.aload_n 0, 1) := by decide +kernel
theorem dX2_longestBefore_16 : decode cX2_longestBefore 16 = .ok (.getfield 9, 3) := by decide +kernel
theorem dX2_longestBefore_19 : decode cX2_longestBefore 19 = .ok (.iload 4, 2) := by decide +kernel
theorem dX2_longestBefore_21 : decode cX2_longestBefore 21 = .ok (.iaload, 1) := by decide +kernel
theorem dX2_longestBefore_22 : decode cX2_longestBefore 22 = .ok (.iaload, 1) := by decide +kernel
theorem dX2_longestBefore_23 : decode cX2_longestBefore 23 = .ok (.aload_n 1, 1) := by decide +kernel
theorem dX2_longestBefore_24 : decode cX2_longestBefore 24 = .ok (.getfield 41, 3) := by decide +kernel
theorem dX2_longestBefore_27 : decode cX2_longestBefore 27 = .ok (.aload_n 0, 1) := by decide +kernel
theorem dX2_longestBefore_28 : decode cX2_longestBefore 28 = .ok (.getfield 9, 3) := by decide +kernel
theorem dX2_longestBefore_31 : decode cX2_longestBefore 31 = .ok (.iload_n 2, 1) := by decide +kernel
theorem dX2_longestBefore_32 : decode cX2_longestBefore 32 = .ok (.iaload, 1) := by decide +kernel
theorem dX2_longestBefore_33 : decode cX2_longestBefore 33 = .ok (.iaload, 1) := by decide +kernel
theorem dX2_longestBefore_34 : decode cX2_longestBefore 34 = .ok (.if_icmp .gt 15, 3) := by decide +kernel
theorem dX2_longestBefore_37 : decode cX2_longestBefore 37 = .ok (.iload_n 3, 1) := by decide +kernel
theorem dX2_longestBefore_38 : decode cX2_longestBefore 38 = .ok (.aload_n 0, 1) := by decide +kernel
theorem dX2_longestBefore_39 : decode cX2_longestBefore 39 = .ok (.getfield 15, 3) := by decide +kernel
theorem dX2_longestBefore_42 : decode cX2_longestBefore 42 = .ok (.iload 4, 2) := by decide +kernel
theorem dX2_longestBefore_44 : decode cX2_longestBefore 44 = .ok (.iaload, 1) := by decide +kernel
theorem dX2_longestBefore_45 : decode cX2_longestBefore 45 = .ok (.invokestatic 32, 3) := by decide +kernel
theorem dX2_longestBefore_48 : decode cX2_longestBefore 48 = .ok (.istore_n 3, 1) := by decide +kernel
theorem dX2_longestBefore_49 : decode cX2_longestBefore 49 = .ok (.iinc 4 1, 3) := by decide +kernel
theorem dX2_longestBefore_52 : decode cX2_longestBefore 52 = .ok (.goto (-47), 3) := by decide +kernel
theorem dX2_longestBefore_55 : decode cX2_longestBefore 55 = .ok (.iload_n 3, 1) := by decide +kernel
theorem dX2_longestBefore_56 : decode cX2_longestBefore 56 = .ok (.ireturn, 1) := by decide +kernel
theorem dX4_init_0 : decode cX4_init 0 = .ok (.aload_n 0, 1) := by decide +kernel
theorem dX4_init_1 : decode cX4_init 1 = .ok (.invokespecial 3, 3) := by decide +kernel
theorem dX4_init_4 : decode cX4_init 4 = .ok (.aload_n 0, 1) := by decide +kernel
theorem dX4_init_5 : decode cX4_init 5 = .ok (.bipush 60, 2) := by decide +kernel
theorem dX4_init_7 : decode cX4_init 7 = .ok (.newarray .char, 2) := by decide +kernel
theorem dX4_init_9 : decode cX4_init 9 = .ok (.putfield 9, 3) := by decide +kernel
theorem dX4_init_12 : decode cX4_init 12 = .ok (.aload_n 0, 1) := by decide +kernel
theorem dX4_init_13 : decode cX4_init 13 = .ok (.iconst 0, 1) := by decide +kernel
theorem dX4_init_14 : decode cX4_init 14 = .ok (.putfield 15, 3) := by decide +kernel
theorem dX4_init_17 : decode cX4_init 17 = .ok (.aload_n 0, 1) := by decide +kernel
theorem dX4_init_18 : decode cX4_init 18 = .ok (.iconst 0, 1) := by decide +kernel
theorem dX4_init_19 : decode cX4_init 19 = .ok (.putfield 19, 3) := by decide +kernel
theorem dX4_init_22 : decode cX4_init 22 = .ok (.aload_n 0, 1) := by decide +kernel
theorem dX4_init_23 : decode cX4_init 23 = .ok (.iconst 3, 1) := by decide +kernel
theorem dX4_init_24 : decode cX4_init 24 = .ok (.newarray .int, 2) := by decide +kernel
theorem dX4_init_26 : decode cX4_init 26 = .ok (.putfield 22, 3) := by decide +kernel
theorem dX4_init_29 : decode cX4_init 29 = .ok (.return_, 1) := by decide +kernel
theorem dX4_append_0 : decode cX4_append 0 = .ok (.aload_n 0, 1) := by decide +kernel
theorem dX4_append_1 : decode cX4_append 1 = .ok (.getfield 9, 3) := by decide +kernel
theorem dX4_append_4 : decode cX4_append 4 = .ok (.aload_n 0, 1) := by decide +kernel
theorem dX4_append_5 : decode cX4_append 5 = .ok (.getfield 15, 3) := by decide +kernel
theorem dX4_append_8 : decode cX4_append 8 = .ok (.iload_n 1, 1) := by decide +kernel
theorem dX4_append_9 : decode cX4_append 9 = .ok (.castore, 1) := by decide +kernel
theorem dX4_append_10 : decode cX4_append 10 = .ok (.aload_n 0, 1) := by decide +kernel
theorem dX4_append_11 : decode cX4_append 11 = .ok (.dup, 1) := by decide +kernel
theorem dX4_append_12 : decode cX4_append 12 = .ok (.getfield 15, 3) := by decide +kernel
theorem dX4_append_15 : decode cX4_append 15 = .ok (.iconst 1, 1) := by decide +kernel
theorem dX4_append_16 : decode cX4_append 16 = .ok (.iadd, 1) := by decide +kernel
theorem dX4_append_17 : decode cX4_append 17 = .ok (.putfield 15, 3) := by decide +kernel
theorem dX4_append_20 : decode cX4_append 20 = .ok (.return_, 1) := by decide +kernel
theorem dX4_empty_0 : decode cX4_empty 0 = .ok (.aload_n 0, 1) := by decide +kernel
theorem dX4_empty_1 : decode cX4_empty 1 = .ok (.iconst 0, 1) := by decide +kernel
theorem dX4_empty_2 : decode cX4_empty 2 = .ok (.putfield 15, 3) := by decide +kernel
theorem dX4_empty_5 : decode cX4_empty 5 = .ok (.return_, 1) := by decide +kernel
theorem dX4_rewind_0 : decode cX4_rewind 0 = .ok (.aload_n 0, 1) := by decide +kernel
theorem dX4_rewind_1 : decode cX4_rewind 1 = .ok (.iconst 0, 1) := by decide +kernel
theorem dX4_rewind_2 : decode cX4_rewind 2 = .ok (.putfield 19, 3) := by decide +kernel
theorem dX4_rewind_5 : decode cX4_rewind 5 = .ok (.return_, 1) := by decide +kernel
theorem dX4_countCommands_0 : decode cX4_countCommands 0 = .ok (.aload_n 0, 1) := by decide +kernel
theorem dX4_countCommands_1 : decode cX4_countCommands 1 = .ok (.invokevirtual 26, 3) := by decide +kernel
theorem dX4_countCommands_4 : decode cX4_countCommands 4 = .ok (.iconst 0, 1) := by decide +kernel
theorem dX4_countCommands_5 : decode cX4_countCommands 5 = .ok (.istore_n 1, 1) := by decide +kernel
theorem dX4_countCommands_6 : decode cX4_countCommands 6 = .ok (.iload_n 1, 1) := by decide +kernel
theorem dX4_countCommands_7 : decode cX4_countCommands 7 = .ok (.bipush 60, 2) := by decide +kernel
theorem dX4_countCommands_9 : decode cX4_countCommands 9 = .ok (.if_icmp .gt 36, 3) := by decide +kernel
theorem dX4_countCommands_12 : decode cX4_countCommands 12 = .ok (.iload_n 1, 1) := by decide +kernel
theorem dX4_countCommands_13 : decode cX4_countCommands 13 = .ok (.ifCond .le 16, 3) := by decide +kernel
theorem dX4_countCommands_16 : decode cX4_countCommands 16 = .ok (.aload_n 0, 1) := by decide +kernel
theorem dX4_countCommands_17 : decode cX4_countCommands 17 = .ok (.getfield 19, 3) := by decide +kernel
theorem dX4_countCommands_20 : decode cX4_countCommands 20 = .ok (.aload_n 0, 1) := by decide +kernel
theorem dX4_countCommands_21 : decode cX4_countCommands 21 = .ok (.getfield 15, 3) := by decide +kernel
theorem dX4_countCommands_24 : decode cX4_countCommands 24 = .ok (.if_icmp .ne 5, 3) := by decide +kernel
theorem dX4_countCommands_27 : decode cX4_countCommands 27 = .ok (.iload_n 1, 1) := by decide +kernel
theorem dX4_countCommands_28 : decode cX4_countCommands 28 = .ok (.ireturn, 1) := by decide +kernel
theorem dX4_countCommands_29 : decode cX4_countCommands 29 = .ok (.aload_n 0, 1) := by decide +kernel
theorem dX4_countCommands_30 : decode cX4_countCommands 30 = .ok (.iload_n 1, 1) := by decide +kernel
theorem dX4_countCommands_31 : decode cX4_countCommands 31 = .ok (.invokevirtual 29, 3) := by decide +kernel
theorem dX4_countCommands_34 : decode cX4_countCommands 34 = .ok (.ifnonnull 5, 3) := by decide +kernel
theorem dX4_countCommands_37 : decode cX4_countCommands 37 = .ok (.iconst (-1), 1) := by decide +kernel
theorem dX4_countCommands_38 : decode cX4_countCommands 38 = .ok (.ireturn, 1) := by decide +kernel
theorem dX4_countCommands_39 : decode cX4_countCommands 39 = .ok (.iinc 1 1, 3) := by decide +kernel
theorem dX4_countCommands_42 : decode cX4_countCommands 42 = .ok (.goto (-36), 3) := by decide +kernel
theorem dX4_countCommands_45 : decode cX4_countCommands 45 = .ok (.iconst (-1), 1) := by decide +kernel
theorem dX4_countCommands_46 : decode cX4_countCommands 46 = .ok (.ireturn, 1) := by decide +kernel
theorem dX4_readCommand_0 : decode cX4_readCommand 0 = .ok (.iload_n 1, 1) := by decide +kernel
theorem dX4_readCommand_1 : decode cX4_readCommand 1 = .ok (.ifCond .le 14, 3) := by decide +kernel
theorem dX4_readCommand_4 : decode cX4_readCommand 4 = .ok (.aload_n 0, 1) := by decide +kernel
theorem dX4_readCommand_5 : decode cX4_readCommand 5 = .ok (.bipush 59, 2) := by decide +kernel
theorem dX4_readCommand_7 : decode cX4_readCommand 7 = .ok (.invokevirtual 33, 3) := by decide +kernel
theorem dX4_readCommand_10 : decode cX4_readCommand 10 = .ok (.ifCond .ne 5, 3) := by decide +kernel
theorem dX4_readCommand_13 : decode cX4_readCommand 13 = .ok (.aconst_null, 1) := by decide +kernel
theorem dX4_readCommand_14 : decode cX4_readCommand 14 = .ok (.areturn, 1) := by decide +kernel
theorem dX4_readCommand_15 : decode cX4_readCommand 15 = .ok (.aload_n 0, 1) := by decide +kernel
theorem dX4_readCommand_16 : decode cX4_readCommand 16 = .ok (.invokevirtual 37, 3) := by decide +kernel
theorem dX4_readCommand_19 : decode cX4_readCommand 19 = .ok (.astore_n 2, 1) := by decide +kernel
theorem dX4_readCommand_20 : decode cX4_readCommand 20 = .ok (.aload_n 2, 1) := by decide +kernel
theorem dX4_readCommand_21 : decode cX4_readCommand 21 = .ok (.ifnonnull 5, 3) := by decide +kernel
theorem dX4_readCommand_24 : decode cX4_readCommand 24 = .ok (.aconst_null, 1) := by decide +kernel
theorem dX4_readCommand_25 : decode cX4_readCommand 25 = .ok (.areturn, 1) := by decide +kernel
theorem dX4_readCommand_26 : decode cX4_readCommand 26 = .ok (.aload_n 2, 1) := by decide +kernel
theorem dX4_readCommand_27 : decode cX4_readCommand 27 = .ok (.getstatic 41, 3) := by decide +kernel
theorem dX4_readCommand_30 : decode cX4_readCommand 30 = .ok (.if_acmp .ne 21, 3) := by decide +kernel
theorem dX4_readCommand_33 : decode cX4_readCommand 33 = .ok (.aload_n 0, 1) := by decide +kernel
theorem dX4_readCommand_34 : decode cX4_readCommand 34 = .ok (.bipush 32, 2) := by decide +kernel
theorem dX4_readCommand_36 : decode cX4_readCommand 36 = .ok (.invokevirtual 47, 3) := by decide +kernel
theorem dX4_readCommand_39 : decode cX4_readCommand 39 = .ok (.ifCond .ne 12, 3) := by decide +kernel
theorem dX4_readCommand_42 : decode cX4_readCommand 42 = .ok (.aload_n 0, 1) := by decide +kernel
theorem dX4_readCommand_43 : decode cX4_readCommand 43 = .ok (.getfield 22, 3) := by decide +kernel
theorem dX4_readCommand_46 : decode cX4_readCommand 46 = .ok (.iconst 0, 1) := by decide +kernel
theorem dX4_readCommand_47 : decode cX4_readCommand 47 = .ok (.iconst 1, 1) := by decide +kernel
theorem dX4_readCommand_48 : decode cX4_readCommand 48 = .ok (.iastore, 1) := by decide +kernel
theorem dX4_readCommand_49 : decode cX4_readCommand 49 = .ok (.aload_n 2, 1) := by decide +kernel
theorem dX4_readCommand_50 : decode cX4_readCommand 50 = .ok (.areturn, 1) := by decide +kernel
theorem dX4_readCommand_51 : decode cX4_readCommand 51 = .ok (.aload_n 0, 1) := by decide +kernel
theorem dX4_readCommand_52 : decode cX4_readCommand 52 = .ok (.aload_n 2, 1) := by decide +kernel
theorem dX4_readCommand_53 : decode cX4_readCommand 53 = .ok (.invokevirtual 50, 3) := by decide +kernel
theorem dX4_readCommand_56 : decode cX4_readCommand 56 = .ok (.ifCond .eq 7, 3) := by decide +kernel
theorem dX4_readCommand_59 : decode cX4_readCommand 59 = .ok (.aload_n 2, 1) := by decide +kernel
theorem dX4_readCommand_60 : decode cX4_readCommand 60 = .ok (.goto 4, 3) := by decide +kernel
theorem dX4_readCommand_63 : decode cX4_readCommand 63 = .ok (.aconst_null, 1) := by decide +kernel
theorem dX4_readCommand_64 : decode cX4_readCommand 64 = .ok (.areturn, 1) := by decide +kernel
theorem dX4_isNext_0 : decode cX4_isNext 0 = .ok (.aload_n 0, 1) := by decide +kernel
theorem dX4_isNext_1 : decode cX4_isNext 1 = .ok (.getfield 19, 3) := by decide +kernel
theorem dX4_isNext_4 : decode cX4_isNext 4 = .ok (.aload_n 0, 1) := by decide +kernel
theorem dX4_isNext_5 : decode cX4_isNext 5 = .ok (.getfield 15, 3) := by decide +kernel
theorem dX4_isNext_8 : decode cX4_isNext 8 = .ok (.if_icmp .ge 20, 3) := by decide +kernel
theorem dX4_isNext_11 : decode cX4_isNext 11 = .ok (.aload_n 0, 1) := by decide +kernel
theorem dX4_isNext_12 : decode cX4_isNext 12 = .ok (.getfield 9, 3) := by decide +kernel
theorem dX4_isNext_15 : decode cX4_isNext 15 = .ok (.aload_n 0, 1) := by decide +kernel
theorem dX4_isNext_16 : decode cX4_isNext 16 = .ok (.getfield 19, 3) := by decide +kernel
theorem dX4_isNext_19 : decode cX4_isNext 19 = .ok (.caload, 1) := by decide +kernel
theorem dX4_isNext_20 : decode cX4_isNext 20 = .ok (.iload_n 1, 1) := by decide +kernel
theorem dX4_isNext_21 : decode cX4_isNext 21 = .ok (.if_icmp .ne 7, 3) := by decide +kernel
theorem dX4_isNext_24 : decode cX4_isNext 24 = .ok (.iconst 1, 1) := by decide +kernel
theorem dX4_isNext_25 : decode cX4_isNext 25 = .ok (.goto 4, 3) := by decide +kernel
theorem dX4_isNext_28 : decode cX4_isNext 28 = .ok (.iconst 0, 1) := by decide +kernel
theorem dX4_isNext_29 : decode cX4_isNext 29 = .ok (.ireturn, 1) := by decide +kernel
theorem dX4_takeSign_0 : decode cX4_takeSign 0 = .ok (.aload_n 0, 1) := by decide +kernel
theorem dX4_takeSign_1 : decode cX4_takeSign 1 = .ok (.iload_n 1, 1) := by decide +kernel
theorem dX4_takeSign_2 : decode cX4_takeSign 2 = .ok (.invokevirtual 47, 3) := by decide +kernel
theorem dX4_takeSign_5 : decode cX4_takeSign 5 = .ok (.ifCond .ne 5, 3) := by decide +kernel
theorem dX4_takeSign_8 : decode cX4_takeSign 8 = .ok (.iconst 0, 1) := by decide +kernel
theorem dX4_takeSign_9 : decode cX4_takeSign 9 = .ok (.ireturn, 1) := by decide +kernel
theorem dX4_takeSign_10 : decode cX4_takeSign 10 = .ok (.aload_n 0, 1) := by decide +kernel
theorem dX4_takeSign_11 : decode cX4_takeSign 11 = .ok (.dup, 1) := by decide +kernel
theorem dX4_takeSign_12 : decode cX4_takeSign 12 = .ok (.getfield 19, 3) := by decide +kernel
theorem dX4_takeSign_15 : decode cX4_takeSign 15 = .ok (.iconst 1, 1) := by decide +kernel
theorem dX4_takeSign_16 : decode cX4_takeSign 16 = .ok (.iadd, 1) := by decide +kernel
theorem dX4_takeSign_17 : decode cX4_takeSign 17 = .ok (.putfield 19, 3) := by decide +kernel
theorem dX4_takeSign_20 : decode cX4_takeSign 20 = .ok (.iconst 1, 1) := by decide +kernel
theorem dX4_takeSign_21 : decode cX4_takeSign 21 = .ok (.ireturn, 1) := by decide +kernel
theorem dX4_takeKeyword_0 : decode cX4_takeKeyword 0 = .ok (.aconst_null, 1) := by decide +kernel
theorem dX4_takeKeyword_1 : decode cX4_takeKeyword 1 = .ok (.astore_n 1, 1) := by decide +kernel
theorem dX4_takeKeyword_2 : decode cX4_takeKeyword 2 = .ok (.iconst 0, 1) := by decide +kernel
theorem dX4_takeKeyword_3 : decode cX4_takeKeyword 3 = .ok (.istore_n 2, 1) := by decide +kernel
theorem dX4_takeKeyword_4 : decode cX4_takeKeyword 4 = .ok (.getstatic 54, 3) := by decide +kernel
theorem dX4_takeKeyword_7 : decode cX4_takeKeyword 7 = .ok (.astore_n 3, 1) := by decide +kernel
theorem dX4_takeKeyword_8 : decode cX4_takeKeyword 8 = .ok (.aload_n 3, 1) := by decide +kernel
theorem dX4_takeKeyword_9 : decode cX4_takeKeyword 9 = .ok (.arraylength, 1) := by decide +kernel
theorem dX4_takeKeyword_10 : decode cX4_takeKeyword 10 = .ok (.istore 4, 2) := by decide +kernel
theorem dX4_takeKeyword_12 : decode cX4_takeKeyword 12 = .ok (.iconst 0, 1) := by decide +kernel
theorem dX4_takeKeyword_13 : decode cX4_takeKeyword 13 = .ok (.istore 5, 2) := by decide +kernel
theorem dX4_takeKeyword_15 : decode cX4_takeKeyword 15 = .ok (.iload 5, 2) := by decide +kernel
theorem dX4_takeKeyword_17 : decode cX4_takeKeyword 17 = .ok (.iload 4, 2) := by decide +kernel
theorem dX4_takeKeyword_19 : decode cX4_takeKeyword 19 = .ok (.if_icmp .ge 38, 3) := by decide +kernel
theorem dX4_takeKeyword_22 : decode cX4_takeKeyword 22 = .ok (.aload_n 3, 1) := by decide +kernel
theorem dX4_takeKeyword_23 : decode cX4_takeKeyword 23 = .ok (.iload 5, 2) := by decide +kernel
theorem dX4_takeKeyword_25 : decode cX4_takeKeyword 25 = .ok (.aaload, 1) := by decide +kernel
theorem dX4_takeKeyword_26 : decode cX4_takeKeyword 26 = .ok (.astore 6, 2) := by decide +kernel
theorem dX4_takeKeyword_28 : decode cX4_takeKeyword 28 = .ok (.aload_n 0, 1) := by decide +kernel
theorem dX4_takeKeyword_29 : decode cX4_takeKeyword 29 = .ok (.aload 6, 2) := by decide +kernel
theorem dX4_takeKeyword_31 : decode cX4_takeKeyword 31 = .ok (.getfield 58, 3) := by decide +kernel
theorem dX4_takeKeyword_34 : decode cX4_takeKeyword 34 = .ok (.invokevirtual 62, 3) := by decide +kernel
theorem dX4_takeKeyword_37 : decode cX4_takeKeyword 37 = .ok (.istore 7, 2) := by decide +kernel
theorem dX4_takeKeyword_39 : decode cX4_takeKeyword 39 = .ok (.iload 7, 2) := by decide +kernel
theorem dX4_takeKeyword_41 : decode cX4_takeKeyword 41 = .ok (.iload_n 2, 1) := by decide +kernel
theorem dX4_takeKeyword_42 : decode cX4_takeKeyword 42 = .ok (.if_icmp .le 9, 3) := by decide +kernel
theorem dX4_takeKeyword_45 : decode cX4_takeKeyword 45 = .ok (.iload 7, 2) := by decide +kernel
theorem dX4_takeKeyword_47 : decode cX4_takeKeyword 47 = .ok (.istore_n 2, 1) := by decide +kernel
theorem dX4_takeKeyword_48 : decode cX4_takeKeyword 48 = .ok (.aload 6, 2) := by decide +kernel
theorem dX4_takeKeyword_50 : decode cX4_takeKeyword 50 = .ok (.astore_n 1, 1) := by decide +kernel
theorem dX4_takeKeyword_51 : decode cX4_takeKeyword 51 = .ok (.iinc 5 1, 3) := by decide +kernel
theorem dX4_takeKeyword_54 : decode cX4_takeKeyword 54 = .ok (.goto (-39), 3) := by decide +kernel
theorem dX4_takeKeyword_57 : decode cX4_takeKeyword 57 = .ok (.aload_n 0, 1) := by decide +kernel
theorem dX4_takeKeyword_58 : decode cX4_takeKeyword 58 = .ok (.dup, 1) := by decide +kernel
theorem dX4_takeKeyword_59 : decode cX4_takeKeyword 59 = .ok (.getfield 19, 3) := by decide +kernel
theorem dX4_takeKeyword_62 : decode cX4_takeKeyword 62 = .ok (.iload_n 2, 1) := by decide +kernel
theorem dX4_takeKeyword_63 : decode cX4_takeKeyword 63 = .ok (.iadd, 1) := by decide +kernel
theorem dX4_takeKeyword_64 : decode cX4_takeKeyword 64 = .ok (.putfield 19, 3) := by decide +kernel
theorem dX4_takeKeyword_67 : decode cX4_takeKeyword 67 = .ok (.aload_n 1, 1) := by decide +kernel
theorem dX4_takeKeyword_68 : decode cX4_takeKeyword 68 = .ok (.ifnull 14, 3) := by decide +kernel
theorem dX4_takeKeyword_71 : decode cX4_takeKeyword 71 = .ok (.iload_n 2, 1) := by decide +kernel
theorem dX4_takeKeyword_72 : decode cX4_takeKeyword 72 = .ok (.aload_n 1, 1) := by decide +kernel
theorem dX4_takeKeyword_73 : decode cX4_takeKeyword 73 = .ok (.getfield 58, 3) := by decide +kernel
theorem dX4_takeKeyword_76 : decode cX4_takeKeyword 76 = .ok (.invokevirtual 66, 3) := by decide +kernel
theorem dX4_takeKeyword_79 : decode cX4_takeKeyword 79 = .ok (.if_icmp .ge 5, 3) := by decide +kernel
theorem dX4_takeKeyword_82 : decode cX4_takeKeyword 82 = .ok (.aconst_null, 1) := by decide +kernel
theorem dX4_takeKeyword_83 : decode cX4_takeKeyword 83 = .ok (.areturn, 1) := by decide +kernel
theorem dX4_takeKeyword_84 : decode cX4_takeKeyword 84 = .ok (.aload_n 1, 1) := by decide +kernel
theorem dX4_takeKeyword_85 : decode cX4_takeKeyword 85 = .ok (.areturn, 1) := by decide +kernel
theorem dX4_lettersInCommon_0 : decode cX4_lettersInCommon 0 = .ok (.iconst 0, 1) := by decide +kernel
theorem dX4_lettersInCommon_1 : decode cX4_lettersInCommon 1 = .ok (.istore_n 2, 1) := by decide +kernel
theorem dX4_lettersInCommon_2 : decode cX4_lettersInCommon 2 = .ok (.iload_n 2, 1) := by decide +kernel
theorem dX4_lettersInCommon_3 : decode cX4_lettersInCommon 3 = .ok (.aload_n 1, 1) := by decide +kernel
theorem dX4_lettersInCommon_4 : decode cX4_lettersInCommon 4 = .ok (.invokevirtual 66, 3) := by decide +kernel
theorem dX4_lettersInCommon_7 : decode cX4_lettersInCommon 7 = .ok (.if_icmp .ge 41, 3) := by decide +kernel
theorem dX4_lettersInCommon_10 : decode cX4_lettersInCommon 10 = .ok (.aload_n 0, 1) := by decide +kernel
theorem dX4_lettersInCommon_11 : decode cX4_lettersInCommon 11 = .ok (.getfield 19, 3) := by decide +kernel
theorem dX4_lettersInCommon_14 : decode cX4_lettersInCommon 14 = .ok (.iload_n 2, 1) := by decide +kernel
theorem dX4_lettersInCommon_15 : decode cX4_lettersInCommon 15 = .ok (.iadd, 1) := by decide +kernel
theorem dX4_lettersInCommon_16 : decode cX4_lettersInCommon 16 = .ok (.aload_n 0, 1) := by decide +kernel
theorem dX4_lettersInCommon_17 : decode cX4_lettersInCommon 17 = .ok (.getfield 15, 3) := by decide +kernel
theorem dX4_lettersInCommon_20 : decode cX4_lettersInCommon 20 = .ok (.if_icmp .ge 28, 3) := by decide +kernel
theorem dX4_lettersInCommon_23 : decode cX4_lettersInCommon 23 = .ok (.aload_n 0, 1) := by decide +kernel
theorem dX4_lettersInCommon_24 : decode cX4_lettersInCommon 24 = .ok (.getfield 9, 3) := by decide +kernel
theorem dX4_lettersInCommon_27 : decode cX4_lettersInCommon 27 = .ok (.aload_n 0, 1) := by decide +kernel
theorem dX4_lettersInCommon_28 : decode cX4_lettersInCommon 28 = .ok (.getfield 19, 3) := by decide +kernel
theorem dX4_lettersInCommon_31 : decode cX4_lettersInCommon 31 = .ok (.iload_n 2, 1) := by decide +kernel
theorem dX4_lettersInCommon_32 : decode cX4_lettersInCommon 32 = .ok (.iadd, 1) := by decide +kernel
theorem dX4_lettersInCommon_33 : decode cX4_lettersInCommon 33 = .ok (.caload, 1) := by decide +kernel
theorem dX4_lettersInCommon_34 : decode cX4_lettersInCommon 34 = .ok (.aload_n 1, 1) := by decide +kernel
theorem dX4_lettersInCommon_35 : decode cX4_lettersInCommon 35 = .ok (.iload_n 2, 1) := by decide +kernel
theorem dX4_lettersInCommon_36 : decode cX4_lettersInCommon 36 = .ok (.invokevirtual 71, 3) := by decide +kernel
theorem dX4_lettersInCommon_39 : decode cX4_lettersInCommon 39 = .ok (.if_icmp .ne 9, 3) := by decide +kernel
theorem dX4_lettersInCommon_42 : decode cX4_lettersInCommon 42 = .ok (.iinc 2 1, 3) := by decide +kernel
theorem dX4_lettersInCommon_45 : decode cX4_lettersInCommon 45 = .ok (.goto (-43), 3) := by decide +kernel
theorem dX4_lettersInCommon_48 : decode cX4_lettersInCommon 48 = .ok (.iload_n 2, 1) := by decide +kernel
theorem dX4_lettersInCommon_49 : decode cX4_lettersInCommon 49 = .ok (.ireturn, 1) := by decide +kernel
theorem dX4_takeNumbers_0 : decode cX4_takeNumbers 0 = .ok (.iconst 0, 1) := by decide +kernel
theorem dX4_takeNumbers_1 : decode cX4_takeNumbers 1 = .ok (.istore_n 2, 1) := by decide +kernel
theorem dX4_takeNumbers_2 : decode cX4_takeNumbers 2 = .ok (.iload_n 2, 1) := by decide +kernel
theorem dX4_takeNumbers_3 : decode cX4_takeNumbers 3 = .ok (.aload_n 1, 1) := by decide +kernel
theorem dX4_takeNumbers_4 : decode cX4_takeNumbers 4 = .ok (.getfield 75, 3) := by decide +kernel
theorem dX4_takeNumbers_7 : decode cX4_takeNumbers 7 = .ok (.if_icmp .ge 48, 3) := by decide +kernel
theorem dX4_takeNumbers_10 : decode cX4_takeNumbers 10 = .ok (.iload_n 2, 1) := by decide +kernel
theorem dX4_takeNumbers_11 : decode cX4_takeNumbers 11 = .ok (.aload_n 1, 1) := by decide +kernel
theorem dX4_takeNumbers_12 : decode cX4_takeNumbers 12 = .ok (.getfield 75, 3) := by decide +kernel
theorem dX4_takeNumbers_15 : decode cX4_takeNumbers 15 = .ok (.iconst 1, 1) := by decide +kernel
theorem dX4_takeNumbers_16 : decode cX4_takeNumbers 16 = .ok (.isub, 1) := by decide +kernel
theorem dX4_takeNumbers_17 : decode cX4_takeNumbers 17 = .ok (.if_icmp .ne 10, 3) := by decide +kernel
theorem dX4_takeNumbers_20 : decode cX4_takeNumbers 20 = .ok (.aload_n 1, 1) := by decide +kernel
theorem dX4_takeNumbers_21 : decode cX4_takeNumbers 21 = .ok (.getfield 78, 3) := by decide +kernel
theorem dX4_takeNumbers_24 : decode cX4_takeNumbers 24 = .ok (.goto 4, 3) := by decide +kernel
theorem dX4_takeNumbers_27 : decode cX4_takeNumbers 27 = .ok (.iconst 1, 1) := by decide +kernel
theorem dX4_takeNumbers_28 : decode cX4_takeNumbers 28 = .ok (.istore_n 3, 1) := by decide +kernel
theorem dX4_takeNumbers_29 : decode cX4_takeNumbers 29 = .ok (.aload_n 0, 1) := by decide +kernel
theorem dX4_takeNumbers_30 : decode cX4_takeNumbers 30 = .ok (.bipush 32, 2) := by decide +kernel
theorem dX4_takeNumbers_32 : decode cX4_takeNumbers 32 = .ok (.invokevirtual 33, 3) := by decide +kernel
theorem dX4_takeNumbers_35 : decode cX4_takeNumbers 35 = .ok (.ifCond .eq 12, 3) := by decide +kernel
theorem dX4_takeNumbers_38 : decode cX4_takeNumbers 38 = .ok (.aload_n 0, 1) := by decide +kernel
theorem dX4_takeNumbers_39 : decode cX4_takeNumbers 39 = .ok (.iload_n 2, 1) := by decide +kernel
theorem dX4_takeNumbers_40 : decode cX4_takeNumbers 40 = .ok (.iload_n 3, 1) := by decide +kernel
theorem dX4_takeNumbers_41 : decode cX4_takeNumbers 41 = .ok (.invokevirtual 81, 3) := by decide +kernel
theorem dX4_takeNumbers_44 : decode cX4_takeNumbers 44 = .ok (.ifCond .ne 5, 3) := by decide +kernel
theorem dX4_takeNumbers_47 : decode cX4_takeNumbers 47 = .ok (.iconst 0, 1) := by decide +kernel
theorem dX4_takeNumbers_48 : decode cX4_takeNumbers 48 = .ok (.ireturn, 1) := by decide +kernel
theorem dX4_takeNumbers_49 : decode cX4_takeNumbers 49 = .ok (.iinc 2 1, 3) := by decide +kernel
theorem dX4_takeNumbers_52 : decode cX4_takeNumbers 52 = .ok (.goto (-50), 3) := by decide +kernel
theorem dX4_takeNumbers_55 : decode cX4_takeNumbers 55 = .ok (.iconst 1, 1) := by decide +kernel
theorem dX4_takeNumbers_56 : decode cX4_takeNumbers 56 = .ok (.ireturn, 1) := by decide +kernel
theorem dX4_takeNumber_0 : decode cX4_takeNumber 0 = .ok (.iconst 0, 1) := by decide +kernel
theorem dX4_takeNumber_1 : decode cX4_takeNumber 1 = .ok (.istore_n 3, 1) := by decide +kernel
theorem dX4_takeNumber_2 : decode cX4_takeNumber 2 = .ok (.iconst 0, 1) := by decide +kernel
theorem dX4_takeNumber_3 : decode cX4_takeNumber 3 = .ok (.istore 4, 2) := by decide +kernel
theorem dX4_takeNumber_5 : decode cX4_takeNumber 5 = .ok (.iload 4, 2) := by decide +kernel
theorem dX4_takeNumber_7 : decode cX4_takeNumber 7 = .ok (.iload_n 2, 1) := by decide +kernel
theorem dX4_takeNumber_8 : decode cX4_takeNumber 8 = .ok (.if_icmp .ge 44, 3) := by decide +kernel
theorem dX4_takeNumber_11 : decode cX4_takeNumber 11 = .ok (.aload_n 0, 1) := by decide +kernel
theorem dX4_takeNumber_12 : decode cX4_takeNumber 12 = .ok (.invokevirtual 85, 3) := by decide +kernel
theorem dX4_takeNumber_15 : decode cX4_takeNumber 15 = .ok (.ifCond .eq 37, 3) := by decide +kernel
theorem dX4_takeNumber_18 : decode cX4_takeNumber 18 = .ok (.bipush 10, 2) := by decide +kernel
theorem dX4_takeNumber_20 : decode cX4_takeNumber 20 = .ok (.iload_n 3, 1) := by decide +kernel
theorem dX4_takeNumber_21 : decode cX4_takeNumber 21 = .ok (.imul, 1) := by decide +kernel
theorem dX4_takeNumber_22 : decode cX4_takeNumber 22 = .ok (.aload_n 0, 1) := by decide +kernel
theorem dX4_takeNumber_23 : decode cX4_takeNumber 23 = .ok (.getfield 9, 3) := by decide +kernel
theorem dX4_takeNumber_26 : decode cX4_takeNumber 26 = .ok (.aload_n 0, 1) := by decide +kernel
theorem dX4_takeNumber_27 : decode cX4_takeNumber 27 = .ok (.getfield 19, 3) := by decide +kernel
theorem dX4_takeNumber_30 : decode cX4_takeNumber 30 = .ok (.caload, 1) := by decide +kernel
theorem dX4_takeNumber_31 : decode cX4_takeNumber 31 = .ok (.bipush 48, 2) := by decide +kernel
theorem dX4_takeNumber_33 : decode cX4_takeNumber 33 = .ok (.isub, 1) := by decide +kernel
theorem dX4_takeNumber_34 : decode cX4_takeNumber 34 = .ok (.iadd, 1) := by decide +kernel
theorem dX4_takeNumber_35 : decode cX4_takeNumber 35 = .ok (.istore_n 3, 1) := by decide +kernel
theorem dX4_takeNumber_36 : decode cX4_takeNumber 36 = .ok (.aload_n 0, 1) := by decide +kernel
theorem dX4_takeNumber_37 : decode cX4_takeNumber 37 = .ok (.dup, 1) := by decide +kernel
theorem dX4_takeNumber_38 : decode cX4_takeNumber 38 = .ok (.getfield 19, 3) := by decide +kernel
theorem dX4_takeNumber_41 : decode cX4_takeNumber 41 = .ok (.iconst 1, 1) := by decide +kernel
theorem dX4_takeNumber_42 : decode cX4_takeNumber 42 = .ok (.iadd, 1) := by decide +kernel
theorem dX4_takeNumber_43 : decode cX4_takeNumber 43 = .ok (.putfield 19, 3) := by decide +kernel
theorem dX4_takeNumber_46 : decode cX4_takeNumber 46 = .ok (.iinc 4 1, 3) := by decide +kernel
theorem dX4_takeNumber_49 : decode cX4_takeNumber 49 = .ok (.goto (-44), 3) := by decide +kernel
theorem dX4_takeNumber_52 : decode cX4_takeNumber 52 = .ok (.aload_n 0, 1) := by decide +kernel
theorem dX4_takeNumber_53 : decode cX4_takeNumber 53 = .ok (.getfield 22, 3) := by decide +kernel
theorem dX4_takeNumber_56 : decode cX4_takeNumber 56 = .ok (.iload_n 1, 1) := by decide +kernel
theorem dX4_takeNumber_57 : decode cX4_takeNumber 57 = .ok (.iload_n 3, 1) := by decide +kernel
theorem dX4_takeNumber_58 : decode cX4_takeNumber 58 = .ok (.iastore, 1) := by decide +kernel
theorem dX4_takeNumber_59 : decode cX4_takeNumber 59 = .ok (.iload 4, 2) := by decide +kernel
theorem dX4_takeNumber_61 : decode cX4_takeNumber 61 = .ok (.ifCond .le 7, 3) := by decide +kernel
theorem dX4_takeNumber_64 : decode cX4_takeNumber 64 = .ok (.iconst 1, 1) := by decide +kernel
theorem dX4_takeNumber_65 : decode cX4_takeNumber 65 = .ok (.goto 4, 3) := by decide +kernel
theorem dX4_takeNumber_68 : decode cX4_takeNumber 68 = .ok (.iconst 0, 1) := by decide +kernel
theorem dX4_takeNumber_69 : decode cX4_takeNumber 69 = .ok (.ireturn, 1) := by decide +kernel
theorem dX4_isDigitNext_0 : decode cX4_isDigitNext 0 = .ok (.aload_n 0, 1) := by decide +kernel
theorem dX4_isDigitNext_1 : decode cX4_isDigitNext 1 = .ok (.getfield 19, 3) := by decide +kernel
theorem dX4_isDigitNext_4 : decode cX4_isDigitNext 4 = .ok (.aload_n 0, 1) := by decide +kernel
theorem dX4_isDigitNext_5 : decode cX4_isDigitNext 5 = .ok (.getfield 15, 3) := by decide +kernel
theorem dX4_isDigitNext_8 : decode cX4_isDigitNext 8 = .ok (.if_icmp .ge 35, 3) := by decide +kernel
theorem dX4_isDigitNext_11 : decode cX4_isDigitNext 11 = .ok (.aload_n 0, 1) := by decide +kernel
theorem dX4_isDigitNext_12 : decode cX4_isDigitNext 12 = .ok (.getfield 9, 3) := by decide +kernel
theorem dX4_isDigitNext_15 : decode cX4_isDigitNext 15 = .ok (.aload_n 0, 1) := by decide +kernel
theorem dX4_isDigitNext_16 : decode cX4_isDigitNext 16 = .ok (.getfield 19, 3) := by decide +kernel
theorem dX4_isDigitNext_19 : decode cX4_isDigitNext 19 = .ok (.caload, 1) := by decide +kernel
theorem dX4_isDigitNext_20 : decode cX4_isDigitNext 20 = .ok (.bipush 48, 2) := by decide +kernel
theorem dX4_isDigitNext_22 : decode cX4_isDigitNext 22 = .ok (.if_icmp .lt 21, 3) := by decide +kernel
theorem dX4_isDigitNext_25 : decode cX4_isDigitNext 25 = .ok (.aload_n 0, 1) := by decide +kernel
theorem dX4_isDigitNext_26 : decode cX4_isDigitNext 26 = .ok (.getfield 9, 3) := by decide +kernel
theorem dX4_isDigitNext_29 : decode cX4_isDigitNext 29 = .ok (.aload_n 0, 1) := by decide +kernel
theorem dX4_isDigitNext_30 : decode cX4_isDigitNext 30 = .ok (.getfield 19, 3) := by decide +kernel
theorem dX4_isDigitNext_33 : decode cX4_isDigitNext 33 = .ok (.caload, 1) := by decide +kernel
theorem dX4_isDigitNext_34 : decode cX4_isDigitNext 34 = .ok (.bipush 57, 2) := by decide +kernel
theorem dX4_isDigitNext_36 : decode cX4_isDigitNext 36 = .ok (.if_icmp .gt 7, 3) := by decide +kernel
theorem dX4_isDigitNext_39 : decode cX4_isDigitNext 39 = .ok (.iconst 1, 1) := by decide +kernel
theorem dX4_isDigitNext_40 : decode cX4_isDigitNext 40 = .ok (.goto 4, 3) := by decide +kernel
theorem dX4_isDigitNext_43 : decode cX4_isDigitNext 43 = .ok (.iconst 0, 1) := by decide +kernel
theorem dX4_isDigitNext_44 : decode cX4_isDigitNext 44 = .ok (.ireturn, 1) := by decide +kernel
theorem dX5_init_0 : decode cX5_init 0 = .ok (.aload_n 0, 1) := by decide +kernel
theorem dX5_init_1 : decode cX5_init 1 = .ok (.invokespecial 3, 3) := by decide +kernel
theorem dX5_init_4 : decode cX5_init 4 = .ok (.aload_n 0, 1) := by decide +kernel
theorem dX5_init_5 : decode cX5_init 5 = .ok (.iconst 0, 1) := by decide +kernel
theorem dX5_init_6 : decode cX5_init 6 = .ok (.putfield 9, 3) := by decide +kernel
theorem dX5_init_9 : decode cX5_init 9 = .ok (.aload_n 0, 1) := by decide +kernel
theorem dX5_init_10 : decode cX5_init 10 = .ok (.bipush 16, 2) := by decide +kernel
theorem dX5_init_12 : decode cX5_init 12 = .ok (.newarray .int, 2) := by decide +kernel
theorem dX5_init_14 : decode cX5_init 14 = .ok (.putfield 15, 3) := by decide +kernel
theorem dX5_init_17 : decode cX5_init 17 = .ok (.aload_n 0, 1) := by decide +kernel
theorem dX5_init_18 : decode cX5_init 18 = .ok (.bipush 16, 2) := by decide +kernel
theorem dX5_init_20 : decode cX5_init 20 = .ok (.newarray .int, 2) := by decide +kernel
theorem dX5_init_22 : decode cX5_init 22 = .ok (.putfield 19, 3) := by decide +kernel
theorem dX5_init_25 : decode cX5_init 25 = .ok (.aload_n 0, 1) := by decide +kernel
theorem dX5_init_26 : decode cX5_init 26 = .ok (.bipush 16, 2) := by decide +kernel
theorem dX5_init_28 : decode cX5_init 28 = .ok (.newarray .int, 2) := by decide +kernel
theorem dX5_init_30 : decode cX5_init 30 = .ok (.putfield 22, 3) := by decide +kernel
theorem dX5_init_33 : decode cX5_init 33 = .ok (.return_, 1) := by decide +kernel
theorem dX5_copyFrom_0 : decode cX5_copyFrom 0 = .ok (.aload_n 0, 1) := by decide +kernel
theorem dX5_copyFrom_1 : decode cX5_copyFrom 1 = .ok (.aload_n 1, 1) := by decide +kernel
theorem dX5_copyFrom_2 : decode cX5_copyFrom 2 = .ok (.getfield 9, 3) := by decide +kernel
theorem dX5_copyFrom_5 : decode cX5_copyFrom 5 = .ok (.putfield 9, 3) := by decide +kernel
theorem dX5_copyFrom_8 : decode cX5_copyFrom 8 = .ok (.aload_n 1, 1) := by decide +kernel
theorem dX5_copyFrom_9 : decode cX5_copyFrom 9 = .ok (.getfield 15, 3) := by decide +kernel
theorem dX5_copyFrom_12 : decode cX5_copyFrom 12 = .ok (.iconst 0, 1) := by decide +kernel
theorem dX5_copyFrom_13 : decode cX5_copyFrom 13 = .ok (.aload_n 0, 1) := by decide +kernel
theorem dX5_copyFrom_14 : decode cX5_copyFrom 14 = .ok (.getfield 15, 3) := by decide +kernel
theorem dX5_copyFrom_17 : decode cX5_copyFrom 17 = .ok (.iconst 0, 1) := by decide +kernel
theorem dX5_copyFrom_18 : decode cX5_copyFrom 18 = .ok (.bipush 16, 2) := by decide +kernel
theorem dX5_copyFrom_20 : decode cX5_copyFrom 20 = .ok (.invokestatic 25, 3) := by decide +kernel
theorem dX5_copyFrom_23 : decode cX5_copyFrom 23 = .ok (.aload_n 1, 1) := by decide +kernel
theorem dX5_copyFrom_24 : decode cX5_copyFrom 24 = .ok (.getfield 19, 3) := by decide +kernel
theorem dX5_copyFrom_27 : decode cX5_copyFrom 27 = .ok (.iconst 0, 1) := by decide +kernel
theorem dX5_copyFrom_28 : decode cX5_copyFrom 28 = .ok (.aload_n 0, 1) := by decide +kernel
theorem dX5_copyFrom_29 : decode cX5_copyFrom 29 = .ok (.getfield 19, 3) := by decide +kernel
theorem dX5_copyFrom_32 : decode cX5_copyFrom 32 = .ok (.iconst 0, 1) := by decide +kernel
theorem dX5_copyFrom_33 : decode cX5_copyFrom 33 = .ok (.bipush 16, 2) := by decide +kernel
theorem dX5_copyFrom_35 : decode cX5_copyFrom 35 = .ok (.invokestatic 25, 3) := by decide +kernel
theorem dX5_copyFrom_38 : decode cX5_copyFrom 38 = .ok (.aload_n 1, 1) := by decide +kernel
theorem dX5_copyFrom_39 : decode cX5_copyFrom 39 = .ok (.getfield 22, 3) := by decide +kernel
theorem dX5_copyFrom_42 : decode cX5_copyFrom 42 = .ok (.iconst 0, 1) := by decide +kernel
theorem dX5_copyFrom_43 : decode cX5_copyFrom 43 = .ok (.aload_n 0, 1) := by decide +kernel
theorem dX5_copyFrom_44 : decode cX5_copyFrom 44 = .ok (.getfield 22, 3) := by decide +kernel
theorem dX5_copyFrom_47 : decode cX5_copyFrom 47 = .ok (.iconst 0, 1) := by decide +kernel
theorem dX5_copyFrom_48 : decode cX5_copyFrom 48 = .ok (.bipush 16, 2) := by decide +kernel
theorem dX5_copyFrom_50 : decode cX5_copyFrom 50 = .ok (.invokestatic 25, 3) := by decide +kernel
theorem dX5_copyFrom_53 : decode cX5_copyFrom 53 = .ok (.return_, 1) := by decide +kernel
theorem dX5_rowOf_0 : decode cX5_rowOf 0 = .ok (.aload_n 0, 1) := by decide +kernel
theorem dX5_rowOf_1 : decode cX5_rowOf 1 = .ok (.getfield 9, 3) := by decide +kernel
theorem dX5_rowOf_4 : decode cX5_rowOf 4 = .ok (.iconst 1, 1) := by decide +kernel
theorem dX5_rowOf_5 : decode cX5_rowOf 5 = .ok (.isub, 1) := by decide +kernel
theorem dX5_rowOf_6 : decode cX5_rowOf 6 = .ok (.iload_n 1, 1) := by decide +kernel
theorem dX5_rowOf_7 : decode cX5_rowOf 7 = .ok (.isub, 1) := by decide +kernel
theorem dX5_rowOf_8 : decode cX5_rowOf 8 = .ok (.ireturn, 1) := by decide +kernel
theorem dX5_append_0 : decode cX5_append 0 = .ok (.aload_n 0, 1) := by decide +kernel
theorem dX5_append_1 : decode cX5_append 1 = .ok (.getfield 9, 3) := by decide +kernel
theorem dX5_append_4 : decode cX5_append 4 = .ok (.bipush 16, 2) := by decide +kernel
theorem dX5_append_6 : decode cX5_append 6 = .ok (.if_icmp .lt 79, 3) := by decide +kernel
theorem dX5_append_9 : decode cX5_append 9 = .ok (.iconst 1, 1) := by decide +kernel
theorem dX5_append_10 : decode cX5_append 10 = .ok (.istore 4, 2) := by decide +kernel
theorem dX5_append_12 : decode cX5_append 12 = .ok (.iload 4, 2) := by decide +kernel
theorem dX5_append_14 : decode cX5_append 14 = .ok (.aload_n 0, 1) := by decide +kernel
theorem dX5_append_15 : decode cX5_append 15 = .ok (.getfield 9, 3) := by decide +kernel
theorem dX5_append_18 : decode cX5_append 18 = .ok (.if_icmp .ge 57, 3) := by decide +kernel
theorem dX5_append_21 : decode cX5_append 21 = .ok (.aload_n 0, 1) := by decide +kernel
theorem dX5_append_22 : decode cX5_append 22 = .ok (.getfield 15, 3) := by decide +kernel
theorem dX5_append_25 : decode cX5_append 25 = .ok (.iload 4, 2) := by decide +kernel
theorem dX5_append_27 : decode cX5_append 27 = .ok (.iconst 1, 1) := by decide +kernel
theorem dX5_append_28 : decode cX5_append 28 = .ok (.isub, 1) := by decide +kernel
theorem dX5_append_29 : decode cX5_append 29 = .ok (.aload_n 0, 1) := by decide +kernel
theorem dX5_append_30 : decode cX5_append 30 = .ok (.getfield 15, 3) := by decide +kernel
theorem dX5_append_33 : decode cX5_append 33 = .ok (.iload 4, 2) := by decide +kernel
theorem dX5_append_35 : decode cX5_append 35 = .ok (.iaload, 1) := by decide +kernel
theorem dX5_append_36 : decode cX5_append 36 = .ok (.iastore, 1) := by decide +kernel
theorem dX5_append_37 : decode cX5_append 37 = .ok (.aload_n 0, 1) := by decide +kernel
theorem dX5_append_38 : decode cX5_append 38 = .ok (.getfield 19, 3) := by decide +kernel
theorem dX5_append_41 : decode cX5_append 41 = .ok (.iload 4, 2) := by decide +kernel
theorem dX5_append_43 : decode cX5_append 43 = .ok (.iconst 1, 1) := by decide +kernel
theorem dX5_append_44 : decode cX5_append 44 = .ok (.isub, 1) := by decide +kernel
theorem dX5_append_45 : decode cX5_append 45 = .ok (.aload_n 0, 1) := by decide +kernel
theorem dX5_append_46 : decode cX5_append 46 = .ok (.getfield 19, 3) := by decide +kernel
theorem dX5_append_49 : decode cX5_append 49 = .ok (.iload 4, 2) := by decide +kernel
theorem dX5_append_51 : decode cX5_append 51 = .ok (.iaload, 1) := by decide +kernel
theorem dX5_append_52 : decode cX5_append 52 = .ok (.iastore, 1) := by decide +kernel
theorem dX5_append_53 : decode cX5_append 53 = .ok (.aload_n 0, 1) := by decide +kernel
theorem dX5_append_54 : decode cX5_append 54 = .ok (.getfield 22, 3) := by decide +kernel
theorem dX5_append_57 : decode cX5_append 57 = .ok (.iload 4, 2) := by decide +kernel
theorem dX5_append_59 : decode cX5_append 59 = .ok (.iconst 1, 1) := by decide +kernel
theorem dX5_append_60 : decode cX5_append 60 = .ok (.isub, 1) := by decide +kernel
theorem dX5_append_61 : decode cX5_append 61 = .ok (.aload_n 0, 1) := by decide +kernel
theorem dX5_append_62 : decode cX5_append 62 = .ok (.getfield 22, 3) := by decide +kernel
theorem dX5_append_65 : decode cX5_append 65 = .ok (.iload 4, 2) := by decide +kernel
theorem dX5_append_67 : decode cX5_append 67 = .ok (.iaload, 1) := by decide +kernel
theorem dX5_append_68 : decode cX5_append 68 = .ok (.iastore, 1) := by decide +kernel
theorem dX5_append_69 : decode cX5_append 69 = .ok (.iinc 4 1, 3) := by decide +kernel
theorem dX5_append_72 : decode cX5_append 72 = .ok (.goto (-60), 3) := by decide +kernel
theorem dX5_append_75 : decode cX5_append 75 = .ok (.aload_n 0, 1) := by decide +kernel
theorem dX5_append_76 : decode cX5_append 76 = .ok (.dup, 1) := by decide +kernel
theorem dX5_append_77 : decode cX5_append 77 = .ok (.getfield 9, 3) := by decide +kernel
theorem dX5_append_80 : decode cX5_append 80 = .ok (.iconst 1, 1) := by decide +kernel
theorem dX5_append_81 : decode cX5_append 81 = .ok (.isub, 1) := by decide +kernel
theorem dX5_append_82 : decode cX5_append 82 = .ok (.putfield 9, 3) := by decide +kernel
theorem dX5_append_85 : decode cX5_append 85 = .ok (.aload_n 0, 1) := by decide +kernel
theorem dX5_append_86 : decode cX5_append 86 = .ok (.getfield 15, 3) := by decide +kernel
theorem dX5_append_89 : decode cX5_append 89 = .ok (.aload_n 0, 1) := by decide +kernel
theorem dX5_append_90 : decode cX5_append 90 = .ok (.getfield 9, 3) := by decide +kernel
theorem dX5_append_93 : decode cX5_append 93 = .ok (.iload_n 1, 1) := by decide +kernel
theorem dX5_append_94 : decode cX5_append 94 = .ok (.iastore, 1) := by decide +kernel
theorem dX5_append_95 : decode cX5_append 95 = .ok (.aload_n 0, 1) := by decide +kernel
theorem dX5_append_96 : decode cX5_append 96 = .ok (.getfield 19, 3) := by decide +kernel
theorem dX5_append_99 : decode cX5_append 99 = .ok (.aload_n 0, 1) := by decide +kernel
theorem dX5_append_100 : decode cX5_append 100 = .ok (.getfield 9, 3) := by decide +kernel
theorem dX5_append_103 : decode cX5_append 103 = .ok (.iload_n 2, 1) := by decide +kernel
theorem dX5_append_104 : decode cX5_append 104 = .ok (.iastore, 1) := by decide +kernel
theorem dX5_append_105 : decode cX5_append 105 = .ok (.aload_n 0, 1) := by decide +kernel
theorem dX5_append_106 : decode cX5_append 106 = .ok (.getfield 22, 3) := by decide +kernel
theorem dX5_append_109 : decode cX5_append 109 = .ok (.aload_n 0, 1) := by decide +kernel
theorem dX5_append_110 : decode cX5_append 110 = .ok (.getfield 9, 3) := by decide +kernel
theorem dX5_append_113 : decode cX5_append 113 = .ok (.iload_n 3, 1) := by decide +kernel
theorem dX5_append_114 : decode cX5_append 114 = .ok (.iastore, 1) := by decide +kernel
theorem dX5_append_115 : decode cX5_append 115 = .ok (.aload_n 0, 1) := by decide +kernel
theorem dX5_append_116 : decode cX5_append 116 = .ok (.dup, 1) := by decide +kernel
theorem dX5_append_117 : decode cX5_append 117 = .ok (.getfield 9, 3) := by decide +kernel
theorem dX5_append_120 : decode cX5_append 120 = .ok (.iconst 1, 1) := by decide +kernel
theorem dX5_append_121 : decode cX5_append 121 = .ok (.iadd, 1) := by decide +kernel
theorem dX5_append_122 : decode cX5_append 122 = .ok (.putfield 9, 3) := by decide +kernel
theorem dX5_append_125 : decode cX5_append 125 = .ok (.return_, 1) := by decide +kernel
theorem dX5_equalPairs_0 : decode cX5_equalPairs 0 = .ok (.iconst 0, 1) := by decide +kernel
theorem dX5_equalPairs_1 : decode cX5_equalPairs 1 = .ok (.istore_n 1, 1) := by decide +kernel
theorem dX5_equalPairs_2 : decode cX5_equalPairs 2 = .ok (.iconst 0, 1) := by decide +kernel
theorem dX5_equalPairs_3 : decode cX5_equalPairs 3 = .ok (.istore_n 2, 1) := by decide +kernel
theorem dX5_equalPairs_4 : decode cX5_equalPairs 4 = .ok (.iload_n 2, 1) := by decide +kernel
theorem dX5_equalPairs_5 : decode cX5_equalPairs 5 = .ok (.aload_n 0, 1) := by decide +kernel
theorem dX5_equalPairs_6 : decode cX5_equalPairs 6 = .ok (.getfield 9, 3) := by decide +kernel
theorem dX5_equalPairs_9 : decode cX5_equalPairs 9 = .ok (.if_icmp .ge 45, 3) := by decide +kernel
theorem dX5_equalPairs_12 : decode cX5_equalPairs 12 = .ok (.iload_n 2, 1) := by decide +kernel
theorem dX5_equalPairs_13 : decode cX5_equalPairs 13 = .ok (.iconst 1, 1) := by decide +kernel
theorem dX5_equalPairs_14 : decode cX5_equalPairs 14 = .ok (.iadd, 1) := by decide +kernel
theorem dX5_equalPairs_15 : decode cX5_equalPairs 15 = .ok (.istore_n 3, 1) := by decide +kernel
theorem dX5_equalPairs_16 : decode cX5_equalPairs 16 = .ok (.iload_n 3, 1) := by decide +kernel
theorem dX5_equalPairs_17 : decode cX5_equalPairs 17 = .ok (.aload_n 0, 1) := by decide +kernel
theorem dX5_equalPairs_18 : decode cX5_equalPairs 18 = .ok (.getfield 9, 3) := by decide +kernel
theorem dX5_equalPairs_21 : decode cX5_equalPairs 21 = .ok (.if_icmp .ge 27, 3) := by decide +kernel
theorem dX5_equalPairs_24 : decode cX5_equalPairs 24 = .ok (.aload_n 0, 1) := by decide +kernel
theorem dX5_equalPairs_25 : decode cX5_equalPairs 25 = .ok (.getfield 22, 3) := by decide +kernel
theorem dX5_equalPairs_28 : decode cX5_equalPairs 28 = .ok (.iload_n 2, 1) := by decide +kernel
theorem dX5_equalPairs_29 : decode cX5_equalPairs 29 = .ok (.iaload, 1) := by decide +kernel
theorem dX5_equalPairs_30 : decode cX5_equalPairs 30 = .ok (.aload_n 0, 1) := by decide +kernel
theorem dX5_equalPairs_31 : decode cX5_equalPairs 31 = .ok (.getfield 22, 3) := by decide +kernel
theorem dX5_equalPairs_34 : decode cX5_equalPairs 34 = .ok (.iload_n 3, 1) := by decide +kernel
theorem dX5_equalPairs_35 : decode cX5_equalPairs 35 = .ok (.iaload, 1) := by decide +kernel
theorem dX5_equalPairs_36 : decode cX5_equalPairs 36 = .ok (.if_icmp .ne 6, 3) := by decide +kernel
theorem dX5_equalPairs_39 : decode cX5_equalPairs 39 = .ok (.iinc 1 1, 3) := by decide +kernel
theorem dX5_equalPairs_42 : decode cX5_equalPairs 42 = .ok (.iinc 3 1, 3) := by decide +kernel
theorem dX5_equalPairs_45 : decode cX5_equalPairs 45 = .ok (.goto (-29), 3) := by decide +kernel
theorem dX5_equalPairs_48 : decode cX5_equalPairs 48 = .ok (.iinc 2 1, 3) := by decide +kernel
theorem dX5_equalPairs_51 : decode cX5_equalPairs 51 = .ok (.goto (-47), 3) := by decide +kernel
theorem dX5_equalPairs_54 : decode cX5_equalPairs 54 = .ok (.iload_n 1, 1) := by decide +kernel
theorem dX5_equalPairs_55 : decode cX5_equalPairs 55 = .ok (.ireturn, 1) := by decide +kernel
theorem dX5_equalPairsFromRuns_0 : decode cX5_equalPairsFromRuns 0 = .ok (.iconst 0, 1) := by decide +kernel
theorem dX5_equalPairsFromRuns_1 : decode cX5_equalPairsFromRuns 1 = .ok (.istore_n 1, 1) := by decide +kernel
theorem dX5_equalPairsFromRuns_2 : decode cX5_equalPairsFromRuns 2 = .ok (.iconst 0, 1) := by decide +kernel
theorem dX5_equalPairsFromRuns_3 : decode cX5_equalPairsFromRuns 3 = .ok (.istore_n 2, 1) := by decide +kernel
theorem dX5_equalPairsFromRuns_4 : decode cX5_equalPairsFromRuns 4 = .ok (.iconst 0, 1) := by decide +kernel
theorem dX5_equalPairsFromRuns_5 : decode cX5_equalPairsFromRuns 5 = .ok (.istore_n 3, 1) := by decide +kernel
theorem dX5_equalPairsFromRuns_6 : decode cX5_equalPairsFromRuns 6 = .ok (.iload_n 3, 1) := by decide +kernel
theorem dX5_equalPairsFromRuns_7 : decode cX5_equalPairsFromRuns 7 = .ok (.aload_n 0, 1) := by decide +kernel
theorem dX5_equalPairsFromRuns_8 : decode cX5_equalPairsFromRuns 8 = .ok (.getfield 9, 3) := by decide +kernel
theorem dX5_equalPairsFromRuns_11 : decode cX5_equalPairsFromRuns 11 = .ok (.if_icmp .ge 51, 3) := by decide +kernel
theorem dX5_equalPairsFromRuns_14 : decode cX5_equalPairsFromRuns 14 = .ok (.iinc 2 1, 3) := by decide +kernel
theorem dX5_equalPairsFromRuns_17 : decode cX5_equalPairsFromRuns 17 = .ok (.iload_n 3, 1) := by decide +kernel
theorem dX5_equalPairsFromRuns_18 : decode cX5_equalPairsFromRuns 18 = .ok (.iconst 1, 1) := by decide +kernel
theorem dX5_equalPairsFromRuns_19 : decode cX5_equalPairsFromRuns 19 = .ok (.iadd, 1) := by decide +kernel
theorem dX5_equalPairsFromRuns_20 : decode cX5_equalPairsFromRuns 20 = .ok (.aload_n 0, 1) := by decide +kernel
theorem dX5_equalPairsFromRuns_21 : decode cX5_equalPairsFromRuns 21 = .ok (.getfield 9, 3) := by decide +kernel
theorem dX5_equalPairsFromRuns_24 : decode cX5_equalPairsFromRuns 24 = .ok (.if_icmp .eq 20, 3) := by decide +kernel
theorem dX5_equalPairsFromRuns_27 : decode cX5_equalPairsFromRuns 27 = .ok (.aload_n 0, 1) := by decide +kernel
theorem dX5_equalPairsFromRuns_28 : decode cX5_equalPairsFromRuns 28 = .ok (.getfield 22, 3) := by decide +kernel
theorem dX5_equalPairsFromRuns_31 : decode cX5_equalPairsFromRuns 31 = .ok (.iload_n 3, 1) := by decide +kernel
theorem dX5_equalPairsFromRuns_32 : decode cX5_equalPairsFromRuns 32 = .ok (.iconst 1, 1) := by decide +kernel
theorem dX5_equalPairsFromRuns_33 : decode cX5_equalPairsFromRuns 33 = .ok (.iadd, 1) := by decide +kernel
theorem dX5_equalPairsFromRuns_34 : decode cX5_equalPairsFromRuns 34 = .ok (.iaload, 1) := by decide +kernel
theorem dX5_equalPairsFromRuns_35 : decode cX5_equalPairsFromRuns 35 = .ok (.aload_n 0, 1) := by decide +kernel
theorem dX5_equalPairsFromRuns_36 : decode cX5_equalPairsFromRuns 36 = .ok (.getfield 22, 3) := by decide +kernel
theorem dX5_equalPairsFromRuns_39 : decode cX5_equalPairsFromRuns 39 = .ok (.iload_n 3, 1) := by decide +kernel
theorem dX5_equalPairsFromRuns_40 : decode cX5_equalPairsFromRuns 40 = .ok (.iaload, 1) := by decide +kernel
theorem dX5_equalPairsFromRuns_41 : decode cX5_equalPairsFromRuns 41 = .ok (.if_icmp .eq 15, 3) := by decide +kernel
theorem dX5_equalPairsFromRuns_44 : decode cX5_equalPairsFromRuns 44 = .ok (.iload_n 1, 1) := by decide +kernel
theorem dX5_equalPairsFromRuns_45 : decode cX5_equalPairsFromRuns 45 = .ok (.iload_n 2, 1) := by decide +kernel
theorem dX5_equalPairsFromRuns_46 : decode cX5_equalPairsFromRuns 46 = .ok (.iload_n 2, 1) := by decide +kernel
theorem dX5_equalPairsFromRuns_47 : decode cX5_equalPairsFromRuns 47 = .ok (.iconst 1, 1) := by decide +kernel
theorem dX5_equalPairsFromRuns_48 : decode cX5_equalPairsFromRuns 48 = .ok (.isub, 1) := by decide +kernel
theorem dX5_equalPairsFromRuns_49 : decode cX5_equalPairsFromRuns 49 = .ok (.imul, 1) := by decide +kernel
theorem dX5_equalPairsFromRuns_50 : decode cX5_equalPairsFromRuns 50 = .ok (.iconst 2, 1) := by decide +kernel
theorem dX5_equalPairsFromRuns_51 : decode cX5_equalPairsFromRuns 51 = .ok (.idiv, 1) := by decide +kernel
theorem dX5_equalPairsFromRuns_52 : decode cX5_equalPairsFromRuns 52 = .ok (.iadd, 1) := by decide +kernel
theorem dX5_equalPairsFromRuns_53 : decode cX5_equalPairsFromRuns 53 = .ok (.istore_n 1, 1) := by decide +kernel
theorem dX5_equalPairsFromRuns_54 : decode cX5_equalPairsFromRuns 54 = .ok (.iconst 0, 1) := by decide +kernel
theorem dX5_equalPairsFromRuns_55 : decode cX5_equalPairsFromRuns 55 = .ok (.istore_n 2, 1) := by decide +kernel
theorem dX5_equalPairsFromRuns_56 : decode cX5_equalPairsFromRuns 56 = .ok (.iinc 3 1, 3) := by decide +kernel
theorem dX5_equalPairsFromRuns_59 : decode cX5_equalPairsFromRuns 59 = .ok (.goto (-53), 3) := by decide +kernel
theorem dX5_equalPairsFromRuns_62 : decode cX5_equalPairsFromRuns 62 = .ok (.iload_n 1, 1) := by decide +kernel
theorem dX5_equalPairsFromRuns_63 : decode cX5_equalPairsFromRuns 63 = .ok (.ireturn, 1) := by decide +kernel
theorem dX6_init_0 : decode cX6_init 0 = .ok (.aload_n 0, 1) := by decide +kernel
theorem dX6_init_1 : decode cX6_init 1 = .ok (.invokespecial 3, 3) := by decide +kernel
theorem dX6_init_4 : decode cX6_init 4 = .ok (.aload_n 0, 1) := by decide +kernel
theorem dX6_init_5 : decode cX6_init 5 = .ok (.iconst 0, 1) := by decide +kernel
theorem dX6_init_6 : decode cX6_init 6 = .ok (.putfield 9, 3) := by decide +kernel
theorem dX6_init_9 : decode cX6_init 9 = .ok (.aload_n 0, 1) := by decide +kernel
theorem dX6_init_10 : decode cX6_init 10 = .ok (.bipush 10, 2) := by decide +kernel
theorem dX6_init_12 : decode cX6_init 12 = .ok (.newarray .int, 2) := by decide +kernel
theorem dX6_init_14 : decode cX6_init 14 = .ok (.putfield 15, 3) := by decide +kernel
theorem dX6_init_17 : decode cX6_init 17 = .ok (.aload_n 0, 1) := by decide +kernel
theorem dX6_init_18 : decode cX6_init 18 = .ok (.bipush 10, 2) := by decide +kernel
theorem dX6_init_20 : decode cX6_init 20 = .ok (.newarray .int, 2) := by decide +kernel
theorem dX6_init_22 : decode cX6_init 22 = .ok (.putfield 19, 3) := by decide +kernel
theorem dX6_init_25 : decode cX6_init 25 = .ok (.return_, 1) := by decide +kernel
theorem dX6_copyFrom_0 : decode cX6_copyFrom 0 = .ok (.aload_n 0, 1) := by decide +kernel
theorem dX6_copyFrom_1 : decode cX6_copyFrom 1 = .ok (.aload_n 1, 1) := by decide +kernel
theorem dX6_copyFrom_2 : decode cX6_copyFrom 2 = .ok (.getfield 9, 3) := by decide +kernel
theorem dX6_copyFrom_5 : decode cX6_copyFrom 5 = .ok (.putfield 9, 3) := by decide +kernel
theorem dX6_copyFrom_8 : decode cX6_copyFrom 8 = .ok (.aload_n 1, 1) := by decide +kernel
theorem dX6_copyFrom_9 : decode cX6_copyFrom 9 = .ok (.getfield 15, 3) := by decide +kernel
theorem dX6_copyFrom_12 : decode cX6_copyFrom 12 = .ok (.iconst 0, 1) := by decide +kernel
theorem dX6_copyFrom_13 : decode cX6_copyFrom 13 = .ok (.aload_n 0, 1) := by decide +kernel
theorem dX6_copyFrom_14 : decode cX6_copyFrom 14 = .ok (.getfield 15, 3) := by decide +kernel
theorem dX6_copyFrom_17 : decode cX6_copyFrom 17 = .ok (.iconst 0, 1) := by decide +kernel
theorem dX6_copyFrom_18 : decode cX6_copyFrom 18 = .ok (.bipush 10, 2) := by decide +kernel
theorem dX6_copyFrom_20 : decode cX6_copyFrom 20 = .ok (.invokestatic 22, 3) := by decide +kernel
theorem dX6_copyFrom_23 : decode cX6_copyFrom 23 = .ok (.aload_n 1, 1) := by decide +kernel
theorem dX6_copyFrom_24 : decode cX6_copyFrom 24 = .ok (.getfield 19, 3) := by decide +kernel
theorem dX6_copyFrom_27 : decode cX6_copyFrom 27 = .ok (.iconst 0, 1) := by decide +kernel
theorem dX6_copyFrom_28 : decode cX6_copyFrom 28 = .ok (.aload_n 0, 1) := by decide +kernel
theorem dX6_copyFrom_29 : decode cX6_copyFrom 29 = .ok (.getfield 19, 3) := by decide +kernel
theorem dX6_copyFrom_32 : decode cX6_copyFrom 32 = .ok (.iconst 0, 1) := by decide +kernel
theorem dX6_copyFrom_33 : decode cX6_copyFrom 33 = .ok (.bipush 10, 2) := by decide +kernel
theorem dX6_copyFrom_35 : decode cX6_copyFrom 35 = .ok (.invokestatic 22, 3) := by decide +kernel
theorem dX6_copyFrom_38 : decode cX6_copyFrom 38 = .ok (.return_, 1) := by decide +kernel
theorem dX6_has_0 : decode cX6_has 0 = .ok (.iload_n 1, 1) := by decide +kernel
theorem dX6_has_1 : decode cX6_has 1 = .ok (.ifCond .lt 15, 3) := by decide +kernel
theorem dX6_has_4 : decode cX6_has 4 = .ok (.iload_n 1, 1) := by decide +kernel
theorem dX6_has_5 : decode cX6_has 5 = .ok (.aload_n 0, 1) := by decide +kernel
theorem dX6_has_6 : decode cX6_has 6 = .ok (.getfield 9, 3) := by decide +kernel
theorem dX6_has_9 : decode cX6_has 9 = .ok (.if_icmp .ge 7, 3) := by decide +kernel
theorem dX6_has_12 : decode cX6_has 12 = .ok (.iconst 1, 1) := by decide +kernel
theorem dX6_has_13 : decode cX6_has 13 = .ok (.goto 4, 3) := by decide +kernel
theorem dX6_has_16 : decode cX6_has 16 = .ok (.iconst 0, 1) := by decide +kernel
theorem dX6_has_17 : decode cX6_has 17 = .ok (.ireturn, 1) := by decide +kernel
theorem dX6_append_0 : decode cX6_append 0 = .ok (.aload_n 0, 1) := by decide +kernel
theorem dX6_append_1 : decode cX6_append 1 = .ok (.getfield 15, 3) := by decide +kernel
theorem dX6_append_4 : decode cX6_append 4 = .ok (.aload_n 0, 1) := by decide +kernel
theorem dX6_append_5 : decode cX6_append 5 = .ok (.getfield 9, 3) := by decide +kernel
theorem dX6_append_8 : decode cX6_append 8 = .ok (.bipush 50, 2) := by decide +kernel
theorem dX6_append_10 : decode cX6_append 10 = .ok (.iastore, 1) := by decide +kernel
theorem dX6_append_11 : decode cX6_append 11 = .ok (.aload_n 0, 1) := by decide +kernel
theorem dX6_append_12 : decode cX6_append 12 = .ok (.getfield 19, 3) := by decide +kernel
theorem dX6_append_15 : decode cX6_append 15 = .ok (.aload_n 0, 1) := by decide +kernel
theorem dX6_append_16 : decode cX6_append 16 = .ok (.getfield 9, 3) := by decide +kernel
theorem dX6_append_19 : decode cX6_append 19 = .ok (.iconst 0, 1) := by decide +kernel
theorem dX6_append_20 : decode cX6_append 20 = .ok (.iastore, 1) := by decide +kernel
theorem dX6_append_21 : decode cX6_append 21 = .ok (.aload_n 0, 1) := by decide +kernel
theorem dX6_append_22 : decode cX6_append 22 = .ok (.dup, 1) := by decide +kernel
theorem dX6_append_23 : decode cX6_append 23 = .ok (.getfield 9, 3) := by decide +kernel
theorem dX6_append_26 : decode cX6_append 26 = .ok (.iconst 1, 1) := by decide +kernel
theorem dX6_append_27 : decode cX6_append 27 = .ok (.iadd, 1) := by decide +kernel
theorem dX6_append_28 : decode cX6_append 28 = .ok (.putfield 9, 3) := by decide +kernel
theorem dX6_append_31 : decode cX6_append 31 = .ok (.aload_n 0, 1) := by decide +kernel
theorem dX6_append_32 : decode cX6_append 32 = .ok (.getfield 9, 3) := by decide +kernel
theorem dX6_append_35 : decode cX6_append 35 = .ok (.iconst 1, 1) := by decide +kernel
theorem dX6_append_36 : decode cX6_append 36 = .ok (.isub, 1) := by decide +kernel
theorem dX6_append_37 : decode cX6_append 37 = .ok (.ireturn, 1) := by decide +kernel
theorem dX6_allCoins_0 : decode cX6_allCoins 0 = .ok (.iconst 0, 1) := by decide +kernel
theorem dX6_allCoins_1 : decode cX6_allCoins 1 = .ok (.istore_n 1, 1) := by decide +kernel
theorem dX6_allCoins_2 : decode cX6_allCoins 2 = .ok (.iconst 0, 1) := by decide +kernel
theorem dX6_allCoins_3 : decode cX6_allCoins 3 = .ok (.istore_n 2, 1) := by decide +kernel
theorem dX6_allCoins_4 : decode cX6_allCoins 4 = .ok (.iload_n 2, 1) := by decide +kernel
theorem dX6_allCoins_5 : decode cX6_allCoins 5 = .ok (.aload_n 0, 1) := by decide +kernel
theorem dX6_allCoins_6 : decode cX6_allCoins 6 = .ok (.getfield 9, 3) := by decide +kernel
theorem dX6_allCoins_9 : decode cX6_allCoins 9 = .ok (.if_icmp .ge 18, 3) := by decide +kernel
theorem dX6_allCoins_12 : decode cX6_allCoins 12 = .ok (.iload_n 1, 1) := by decide +kernel
theorem dX6_allCoins_13 : decode cX6_allCoins 13 = .ok (.aload_n 0, 1) := by decide +kernel
theorem dX6_allCoins_14 : decode cX6_allCoins 14 = .ok (.getfield 15, 3) := by decide +kernel
theorem dX6_allCoins_17 : decode cX6_allCoins 17 = .ok (.iload_n 2, 1) := by decide +kernel
theorem dX6_allCoins_18 : decode cX6_allCoins 18 = .ok (.iaload, 1) := by decide +kernel
theorem dX6_allCoins_19 : decode cX6_allCoins 19 = .ok (.iadd, 1) := by decide +kernel
theorem dX6_allCoins_20 : decode cX6_allCoins 20 = .ok (.istore_n 1, 1) := by decide +kernel
theorem dX6_allCoins_21 : decode cX6_allCoins 21 = .ok (.iinc 2 1, 3) := by decide +kernel
theorem dX6_allCoins_24 : decode cX6_allCoins 24 = .ok (.goto (-20), 3) := by decide +kernel
theorem dX6_allCoins_27 : decode cX6_allCoins 27 = .ok (.iload_n 1, 1) := by decide +kernel
theorem dX6_allCoins_28 : decode cX6_allCoins 28 = .ok (.ireturn, 1) := by decide +kernel
theorem dX6_rankByRidden_0 : decode cX6_rankByRidden 0 = .ok (.iconst 0, 1) := by decide +kernel
theorem dX6_rankByRidden_1 : decode cX6_rankByRidden 1 = .ok (.istore_n 2, 1) := by decide +kernel
theorem dX6_rankByRidden_2 : decode cX6_rankByRidden 2 = .ok (.iconst 0, 1) := by decide +kernel
theorem dX6_rankByRidden_3 : decode cX6_rankByRidden 3 = .ok (.istore_n 3, 1) := by decide +kernel
theorem dX6_rankByRidden_4 : decode cX6_rankByRidden 4 = .ok (.iload_n 3, 1) := by decide +kernel
theorem dX6_rankByRidden_5 : decode cX6_rankByRidden 5 = .ok (.aload_n 0, 1) := by decide +kernel
theorem dX6_rankByRidden_6 : decode cX6_rankByRidden 6 = .ok (.getfield 9, 3) := by decide +kernel
theorem dX6_rankByRidden_9 : decode cX6_rankByRidden 9 = .ok (.if_icmp .ge 21, 3) := by decide +kernel
theorem dX6_rankByRidden_12 : decode cX6_rankByRidden 12 = .ok (.aload_n 0, 1) := by decide +kernel
theorem dX6_rankByRidden_13 : decode cX6_rankByRidden 13 = .ok (.iload_n 3, 1) := by decide +kernel
theorem dX6_rankByRidden_14 : decode cX6_rankByRidden 14 = .ok (.iload_n 1, 1) := by decide +kernel
theorem dX6_rankByRidden_15 : decode cX6_rankByRidden 15 = .ok (.invokevirtual 28, 3) := by decide +kernel
theorem dX6_rankByRidden_18 : decode cX6_rankByRidden 18 = .ok (.ifCond .eq 6, 3) := by decide +kernel
theorem dX6_rankByRidden_21 : decode cX6_rankByRidden 21 = .ok (.iinc 2 1, 3) := by decide +kernel
theorem dX6_rankByRidden_24 : decode cX6_rankByRidden 24 = .ok (.iinc 3 1, 3) := by decide +kernel
theorem dX6_rankByRidden_27 : decode cX6_rankByRidden 27 = .ok (.goto (-23), 3) := by decide +kernel
theorem dX6_rankByRidden_30 : decode cX6_rankByRidden 30 = .ok (.iload_n 2, 1) := by decide +kernel
theorem dX6_rankByRidden_31 : decode cX6_rankByRidden 31 = .ok (.ireturn, 1) := by decide +kernel
theorem dX6_isBefore_0 : decode cX6_isBefore 0 = .ok (.aload_n 0, 1) := by decide +kernel
theorem dX6_isBefore_1 : decode cX6_isBefore 1 = .ok (.getfield 19, 3) := by decide +kernel
theorem dX6_isBefore_4 : decode cX6_isBefore 4 = .ok (.iload_n 1, 1) := by decide +kernel
theorem dX6_isBefore_5 : decode cX6_isBefore 5 = .ok (.iaload, 1) := by decide +kernel
theorem dX6_isBefore_6 : decode cX6_isBefore 6 = .ok (.aload_n 0, 1) := by decide +kernel
theorem dX6_isBefore_7 : decode cX6_isBefore 7 = .ok (.getfield 19, 3) := by decide +kernel
theorem dX6_isBefore_10 : decode cX6_isBefore 10 = .ok (.iload_n 2, 1) := by decide +kernel
theorem dX6_isBefore_11 : decode cX6_isBefore 11 = .ok (.iaload, 1) := by decide +kernel
theorem dX6_isBefore_12 : decode cX6_isBefore 12 = .ok (.if_icmp .eq 24, 3) := by decide +kernel
theorem dX6_isBefore_15 : decode cX6_isBefore 15 = .ok (.aload_n 0, 1) := by decide +kernel
theorem dX6_isBefore_16 : decode cX6_isBefore 16 = .ok (.getfield 19, 3) := by decide +kernel
theorem dX6_isBefore_19 : decode cX6_isBefore 19 = .ok (.iload_n 1, 1) := by decide +kernel
theorem dX6_isBefore_20 : decode cX6_isBefore 20 = .ok (.iaload, 1) := by decide +kernel
theorem dX6_isBefore_21 : decode cX6_isBefore 21 = .ok (.aload_n 0, 1) := by decide +kernel
theorem dX6_isBefore_22 : decode cX6_isBefore 22 = .ok (.getfield 19, 3) := by decide +kernel
theorem dX6_isBefore_25 : decode cX6_isBefore 25 = .ok (.iload_n 2, 1) := by decide +kernel
theorem dX6_isBefore_26 : decode cX6_isBefore 26 = .ok (.iaload, 1) := by decide +kernel
theorem dX6_isBefore_27 : decode cX6_isBefore 27 = .ok (.if_icmp .le 7, 3) := by decide +kernel
theorem dX6_isBefore_30 : decode cX6_isBefore 30 = .ok (.iconst 1, 1) := by decide +kernel
theorem dX6_isBefore_31 : decode cX6_isBefore 31 = .ok (.goto 4, 3) := by decide +kernel
theorem dX6_isBefore_34 : decode cX6_isBefore 34 = .ok (.iconst 0, 1) := by decide +kernel
theorem dX6_isBefore_35 : decode cX6_isBefore 35 = .ok (.ireturn, 1) := by decide +kernel
theorem dX6_isBefore_36 : decode cX6_isBefore 36 = .ok (.aload_n 0, 1) := by decide +kernel
theorem dX6_isBefore_37 : decode cX6_isBefore 37 = .ok (.getfield 15, 3) := by decide +kernel
theorem dX6_isBefore_40 : decode cX6_isBefore 40 = .ok (.iload_n 1, 1) := by decide +kernel
theorem dX6_isBefore_41 : decode cX6_isBefore 41 = .ok (.iaload, 1) := by decide +kernel
theorem dX6_isBefore_42 : decode cX6_isBefore 42 = .ok (.aload_n 0, 1) := by decide +kernel
theorem dX6_isBefore_43 : decode cX6_isBefore 43 = .ok (.getfield 15, 3) := by decide +kernel
theorem dX6_isBefore_46 : decode cX6_isBefore 46 = .ok (.iload_n 2, 1) := by decide +kernel
theorem dX6_isBefore_47 : decode cX6_isBefore 47 = .ok (.iaload, 1) := by decide +kernel
theorem dX6_isBefore_48 : decode cX6_isBefore 48 = .ok (.if_icmp .eq 24, 3) := by decide +kernel
theorem dX6_isBefore_51 : decode cX6_isBefore 51 = .ok (.aload_n 0, 1) := by decide +kernel
theorem dX6_isBefore_52 : decode cX6_isBefore 52 = .ok (.getfield 15, 3) := by decide +kernel
theorem dX6_isBefore_55 : decode cX6_isBefore 55 = .ok (.iload_n 1, 1) := by decide +kernel
theorem dX6_isBefore_56 : decode cX6_isBefore 56 = .ok (.iaload, 1) := by decide +kernel
theorem dX6_isBefore_57 : decode cX6_isBefore 57 = .ok (.aload_n 0, 1) := by decide +kernel
theorem dX6_isBefore_58 : decode cX6_isBefore 58 = .ok (.getfield 15, 3) := by decide +kernel
theorem dX6_isBefore_61 : decode cX6_isBefore 61 = .ok (.iload_n 2, 1) := by decide +kernel
theorem dX6_isBefore_62 : decode cX6_isBefore 62 = .ok (.iaload, 1) := by decide +kernel
theorem dX6_isBefore_63 : decode cX6_isBefore 63 = .ok (.if_icmp .le 7, 3) := by decide +kernel
theorem dX6_isBefore_66 : decode cX6_isBefore 66 = .ok (.iconst 1, 1) := by decide +kernel
theorem dX6_isBefore_67 : decode cX6_isBefore 67 = .ok (.goto 4, 3) := by decide +kernel
theorem dX6_isBefore_70 : decode cX6_isBefore 70 = .ok (.iconst 0, 1) := by decide +kernel
theorem dX6_isBefore_71 : decode cX6_isBefore 71 = .ok (.ireturn, 1) := by decide +kernel
theorem dX6_isBefore_72 : decode cX6_isBefore 72 = .ok (.iload_n 1, 1) := by decide +kernel
theorem dX6_isBefore_73 : decode cX6_isBefore 73 = .ok (.iload_n 2, 1) := by decide +kernel
theorem dX6_isBefore_74 : decode cX6_isBefore 74 = .ok (.if_icmp .ge 7, 3) := by decide +kernel
theorem dX6_isBefore_77 : decode cX6_isBefore 77 = .ok (.iconst 1, 1) := by decide +kernel
theorem dX6_isBefore_78 : decode cX6_isBefore 78 = .ok (.goto 4, 3) := by decide +kernel
theorem dX6_isBefore_81 : decode cX6_isBefore 81 = .ok (.iconst 0, 1) := by decide +kernel
theorem dX6_isBefore_82 : decode cX6_isBefore 82 = .ok (.ireturn, 1) := by decide +kernel
theorem dX7_init_0 : decode cX7_init 0 = .ok (.aload_n 0, 1) := by decide +kernel
theorem dX7_init_1 : decode cX7_init 1 = .ok (.invokespecial 3, 3) := by decide +kernel
theorem dX7_init_4 : decode cX7_init 4 = .ok (.aload_n 0, 1) := by decide +kernel
theorem dX7_init_5 : decode cX7_init 5 = .ok (.bipush 9, 2) := by decide +kernel
theorem dX7_init_7 : decode cX7_init 7 = .ok (.anewarray 9, 3) := by decide +kernel
theorem dX7_init_10 : decode cX7_init 10 = .ok (.putfield 11, 3) := by decide +kernel
theorem dX7_init_13 : decode cX7_init 13 = .ok (.aload_n 0, 1) := by decide +kernel
theorem dX7_init_14 : decode cX7_init 14 = .ok (.iconst 0, 1) := by decide +kernel
theorem dX7_init_15 : decode cX7_init 15 = .ok (.putfield 17, 3) := by decide +kernel
theorem dX7_init_18 : decode cX7_init 18 = .ok (.aload_n 0, 1) := by decide +kernel
theorem dX7_init_19 : decode cX7_init 19 = .ok (.iconst 0, 1) := by decide +kernel
theorem dX7_init_20 : decode cX7_init 20 = .ok (.putfield 21, 3) := by decide +kernel
theorem dX7_init_23 : decode cX7_init 23 = .ok (.iconst 0, 1) := by decide +kernel
theorem dX7_init_24 : decode cX7_init 24 = .ok (.istore_n 1, 1) := by decide +kernel
theorem dX7_init_25 : decode cX7_init 25 = .ok (.iload_n 1, 1) := by decide +kernel
theorem dX7_init_26 : decode cX7_init 26 = .ok (.bipush 8, 2) := by decide +kernel
theorem dX7_init_28 : decode cX7_init 28 = .ok (.if_icmp .gt 22, 3) := by decide +kernel
theorem dX7_init_31 : decode cX7_init 31 = .ok (.aload_n 0, 1) := by decide +kernel
theorem dX7_init_32 : decode cX7_init 32 = .ok (.getfield 11, 3) := by decide +kernel
theorem dX7_init_35 : decode cX7_init 35 = .ok (.iload_n 1, 1) := by decide +kernel
theorem dX7_init_36 : decode cX7_init 36 = .ok (.new 9, 3) := by decide +kernel
theorem dX7_init_39 : decode cX7_init 39 = .ok (.dup, 1) := by decide +kernel
theorem dX7_init_40 : decode cX7_init 40 = .ok (.invokespecial 24, 3) := by decide +kernel
theorem dX7_init_43 : decode cX7_init 43 = .ok (.aastore, 1) := by decide +kernel
theorem dX7_init_44 : decode cX7_init 44 = .ok (.iinc 1 1, 3) := by decide +kernel
theorem dX7_init_47 : decode cX7_init 47 = .ok (.goto (-22), 3) := by decide +kernel
theorem dX7_init_50 : decode cX7_init 50 = .ok (.return_, 1) := by decide +kernel
theorem dX7_prepare_0 : decode cX7_prepare 0 = .ok (.aload_n 0, 1) := by decide +kernel
theorem dX7_prepare_1 : decode cX7_prepare 1 = .ok (.getfield 11, 3) := by decide +kernel
theorem dX7_prepare_4 : decode cX7_prepare 4 = .ok (.aload_n 0, 1) := by decide +kernel
theorem dX7_prepare_5 : decode cX7_prepare 5 = .ok (.getfield 17, 3) := by decide +kernel
theorem dX7_prepare_8 : decode cX7_prepare 8 = .ok (.aaload, 1) := by decide +kernel
theorem dX7_prepare_9 : decode cX7_prepare 9 = .ok (.aload_n 1, 1) := by decide +kernel
theorem dX7_prepare_10 : decode cX7_prepare 10 = .ok (.invokevirtual 25, 3) := by decide +kernel
theorem dX7_prepare_13 : decode cX7_prepare 13 = .ok (.return_, 1) := by decide +kernel
theorem dX7_dropChanges_0 : decode cX7_dropChanges 0 = .ok (.aload_n 1, 1) := by decide +kernel
theorem dX7_dropChanges_1 : decode cX7_dropChanges 1 = .ok (.aload_n 0, 1) := by decide +kernel
theorem dX7_dropChanges_2 : decode cX7_dropChanges 2 = .ok (.getfield 11, 3) := by decide +kernel
theorem dX7_dropChanges_5 : decode cX7_dropChanges 5 = .ok (.aload_n 0, 1) := by decide +kernel
theorem dX7_dropChanges_6 : decode cX7_dropChanges 6 = .ok (.getfield 17, 3) := by decide +kernel
theorem dX7_dropChanges_9 : decode cX7_dropChanges 9 = .ok (.aaload, 1) := by decide +kernel
theorem dX7_dropChanges_10 : decode cX7_dropChanges 10 = .ok (.invokevirtual 25, 3) := by decide +kernel
theorem dX7_dropChanges_13 : decode cX7_dropChanges 13 = .ok (.return_, 1) := by decide +kernel
theorem dX7_keep_0 : decode cX7_keep 0 = .ok (.aload_n 0, 1) := by decide +kernel
theorem dX7_keep_1 : decode cX7_keep 1 = .ok (.aload_n 0, 1) := by decide +kernel
theorem dX7_keep_2 : decode cX7_keep 2 = .ok (.getfield 17, 3) := by decide +kernel
theorem dX7_keep_5 : decode cX7_keep 5 = .ok (.bipush 8, 2) := by decide +kernel
theorem dX7_keep_7 : decode cX7_keep 7 = .ok (.if_icmp .ne 7, 3) := by decide +kernel
theorem dX7_keep_10 : decode cX7_keep 10 = .ok (.iconst 0, 1) := by decide +kernel
theorem dX7_keep_11 : decode cX7_keep 11 = .ok (.goto 9, 3) := by decide +kernel
theorem dX7_keep_14 : decode cX7_keep 14 = .ok (.aload_n 0, 1) := by decide +kernel
theorem dX7_keep_15 : decode cX7_keep 15 = .ok (.getfield 17, 3) := by decide +kernel
theorem dX7_keep_18 : decode cX7_keep 18 = .ok (.iconst 1, 1) := by decide +kernel
theorem dX7_keep_19 : decode cX7_keep 19 = .ok (.iadd, 1) := by decide +kernel
theorem dX7_keep_20 : decode cX7_keep 20 = .ok (.putfield 17, 3) := by decide +kernel
theorem dX7_keep_23 : decode cX7_keep 23 = .ok (.aload_n 0, 1) := by decide +kernel
theorem dX7_keep_24 : decode cX7_keep 24 = .ok (.bipush 8, 2) := by decide +kernel
theorem dX7_keep_26 : decode cX7_keep 26 = .ok (.aload_n 0, 1) := by decide +kernel
theorem dX7_keep_27 : decode cX7_keep 27 = .ok (.getfield 21, 3) := by decide +kernel
theorem dX7_keep_30 : decode cX7_keep 30 = .ok (.iconst 1, 1) := by decide +kernel
theorem dX7_keep_31 : decode cX7_keep 31 = .ok (.iadd, 1) := by decide +kernel
theorem dX7_keep_32 : decode cX7_keep 32 = .ok (.invokestatic 29, 3) := by decide +kernel
theorem dX7_keep_35 : decode cX7_keep 35 = .ok (.putfield 21, 3) := by decide +kernel
theorem dX7_keep_38 : decode cX7_keep 38 = .ok (.return_, 1) := by decide +kernel
theorem dX7_takeBack_0 : decode cX7_takeBack 0 = .ok (.aload_n 0, 1) := by decide +kernel
theorem dX7_takeBack_1 : decode cX7_takeBack 1 = .ok (.aload_n 0, 1) := by decide +kernel
theorem dX7_takeBack_2 : decode cX7_takeBack 2 = .ok (.getfield 17, 3) := by decide +kernel
theorem dX7_takeBack_5 : decode cX7_takeBack 5 = .ok (.ifCond .ne 8, 3) := by decide +kernel
theorem dX7_takeBack_8 : decode cX7_takeBack 8 = .ok (.bipush 8, 2) := by decide +kernel
theorem dX7_takeBack_10 : decode cX7_takeBack 10 = .ok (.goto 9, 3) := by decide +kernel
theorem dX7_takeBack_13 : decode cX7_takeBack 13 = .ok (.aload_n 0, 1) := by decide +kernel
theorem dX7_takeBack_14 : decode cX7_takeBack 14 = .ok (.getfield 17, 3) := by decide +kernel
theorem dX7_takeBack_17 : decode cX7_takeBack 17 = .ok (.iconst 1, 1) := by decide +kernel
theorem dX7_takeBack_18 : decode cX7_takeBack 18 = .ok (.isub, 1) := by decide +kernel
theorem dX7_takeBack_19 : decode cX7_takeBack 19 = .ok (.putfield 17, 3) := by decide +kernel
theorem dX7_takeBack_22 : decode cX7_takeBack 22 = .ok (.aload_n 0, 1) := by decide +kernel
theorem dX7_takeBack_23 : decode cX7_takeBack 23 = .ok (.dup, 1) := by decide +kernel
theorem dX7_takeBack_24 : decode cX7_takeBack 24 = .ok (.getfield 21, 3) := by decide +kernel
theorem dX7_takeBack_27 : decode cX7_takeBack 27 = .ok (.iconst 1, 1) := by decide +kernel
theorem dX7_takeBack_28 : decode cX7_takeBack 28 = .ok (.isub, 1) := by decide +kernel
theorem dX7_takeBack_29 : decode cX7_takeBack 29 = .ok (.putfield 21, 3) := by decide +kernel
theorem dX7_takeBack_32 : decode cX7_takeBack 32 = .ok (.aload_n 1, 1) := by decide +kernel
theorem dX7_takeBack_33 : decode cX7_takeBack 33 = .ok (.aload_n 0, 1) := by decide +kernel
theorem dX7_takeBack_34 : decode cX7_takeBack 34 = .ok (.getfield 11, 3) := by decide +kernel
theorem dX7_takeBack_37 : decode cX7_takeBack 37 = .ok (.aload_n 0, 1) := by decide +kernel
theorem dX7_takeBack_38 : decode cX7_takeBack 38 = .ok (.getfield 17, 3) := by decide +kernel
theorem dX7_takeBack_41 : decode cX7_takeBack 41 = .ok (.aaload, 1) := by decide +kernel
theorem dX7_takeBack_42 : decode cX7_takeBack 42 = .ok (.invokevirtual 25, 3) := by decide +kernel
theorem dX7_takeBack_45 : decode cX7_takeBack 45 = .ok (.return_, 1) := by decide +kernel
theorem dX8_init_0 : decode cX8_init 0 = .ok (.aload_n 0, 1) := by decide +kernel
theorem dX8_init_1 : decode cX8_init 1 = .ok (.invokespecial 3, 3) := by decide +kernel
theorem dX8_init_4 : decode cX8_init 4 = .ok (.aload_n 0, 1) := by decide +kernel
theorem dX8_init_5 : decode cX8_init 5 = .ok (.iconst 0, 1) := by decide +kernel
theorem dX8_init_6 : decode cX8_init 6 = .ok (.putfield 9, 3) := by decide +kernel
theorem dX8_init_9 : decode cX8_init 9 = .ok (.aload_n 0, 1) := by decide +kernel
theorem dX8_init_10 : decode cX8_init 10 = .ok (.iconst 0, 1) := by decide +kernel
theorem dX8_init_11 : decode cX8_init 11 = .ok (.putfield 15, 3) := by decide +kernel
theorem dX8_init_14 : decode cX8_init 14 = .ok (.aload_n 0, 1) := by decide +kernel
theorem dX8_init_15 : decode cX8_init 15 = .ok (.iconst 0, 1) := by decide +kernel
theorem dX8_init_16 : decode cX8_init 16 = .ok (.putfield 18, 3) := by decide +kernel
theorem dX8_init_19 : decode cX8_init 19 = .ok (.aload_n 0, 1) := by decide +kernel
theorem dX8_init_20 : decode cX8_init 20 = .ok (.iconst 0, 1) := by decide +kernel
theorem dX8_init_21 : decode cX8_init 21 = .ok (.putfield 21, 3) := by decide +kernel
theorem dX8_init_24 : decode cX8_init 24 = .ok (.aload_n 0, 1) := by decide +kernel
theorem dX8_init_25 : decode cX8_init 25 = .ok (.new 24, 3) := by decide +kernel
theorem dX8_init_28 : decode cX8_init 28 = .ok (.dup, 1) := by decide +kernel
theorem dX8_init_29 : decode cX8_init 29 = .ok (.invokespecial 26, 3) := by decide +kernel
theorem dX8_init_32 : decode cX8_init 32 = .ok (.putfield 27, 3) := by decide +kernel
theorem dX8_init_35 : decode cX8_init 35 = .ok (.aload_n 0, 1) := by decide +kernel
theorem dX8_init_36 : decode cX8_init 36 = .ok (.new 31, 3) := by decide +kernel
theorem dX8_init_39 : decode cX8_init 39 = .ok (.dup, 1) := by decide +kernel
theorem dX8_init_40 : decode cX8_init 40 = .ok (.invokespecial 33, 3) := by decide +kernel
theorem dX8_init_43 : decode cX8_init 43 = .ok (.putfield 34, 3) := by decide +kernel
theorem dX8_init_46 : decode cX8_init 46 = .ok (.aload_n 0, 1) := by decide +kernel
theorem dX8_init_47 : decode cX8_init 47 = .ok (.new 38, 3) := by decide +kernel
theorem dX8_init_50 : decode cX8_init 50 = .ok (.dup, 1) := by decide +kernel
theorem dX8_init_51 : decode cX8_init 51 = .ok (.invokespecial 40, 3) := by decide +kernel
theorem dX8_init_54 : decode cX8_init 54 = .ok (.putfield 41, 3) := by decide +kernel
theorem dX8_init_57 : decode cX8_init 57 = .ok (.aload_n 0, 1) := by decide +kernel
theorem dX8_init_58 : decode cX8_init 58 = .ok (.new 45, 3) := by decide +kernel
theorem dX8_init_61 : decode cX8_init 61 = .ok (.dup, 1) := by decide +kernel
theorem dX8_init_62 : decode cX8_init 62 = .ok (.invokespecial 47, 3) := by decide +kernel
theorem dX8_init_65 : decode cX8_init 65 = .ok (.putfield 48, 3) := by decide +kernel
theorem dX8_init_68 : decode cX8_init 68 = .ok (.aload_n 0, 1) := by decide +kernel
theorem dX8_init_69 : decode cX8_init 69 = .ok (.new 52, 3) := by decide +kernel
theorem dX8_init_72 : decode cX8_init 72 = .ok (.dup, 1) := by decide +kernel
theorem dX8_init_73 : decode cX8_init 73 = .ok (.invokespecial 54, 3) := by decide +kernel
theorem dX8_init_76 : decode cX8_init 76 = .ok (.putfield 55, 3) := by decide +kernel
theorem dX8_init_79 : decode cX8_init 79 = .ok (.return_, 1) := by decide +kernel
theorem dX8_copyFrom_0 : decode cX8_copyFrom 0 = .ok (.aload_n 0, 1) := by decide +kernel
theorem dX8_copyFrom_1 : decode cX8_copyFrom 1 = .ok (.aload_n 1, 1) := by decide +kernel
theorem dX8_copyFrom_2 : decode cX8_copyFrom 2 = .ok (.getfield 9, 3) := by decide +kernel
theorem dX8_copyFrom_5 : decode cX8_copyFrom 5 = .ok (.putfield 9, 3) := by decide +kernel
theorem dX8_copyFrom_8 : decode cX8_copyFrom 8 = .ok (.aload_n 0, 1) := by decide +kernel
theorem dX8_copyFrom_9 : decode cX8_copyFrom 9 = .ok (.aload_n 1, 1) := by decide +kernel
theorem dX8_copyFrom_10 : decode cX8_copyFrom 10 = .ok (.getfield 15, 3) := by decide +kernel
theorem dX8_copyFrom_13 : decode cX8_copyFrom 13 = .ok (.putfield 15, 3) := by decide +kernel
theorem dX8_copyFrom_16 : decode cX8_copyFrom 16 = .ok (.aload_n 0, 1) := by decide +kernel
theorem dX8_copyFrom_17 : decode cX8_copyFrom 17 = .ok (.aload_n 1, 1) := by decide +kernel
theorem dX8_copyFrom_18 : decode cX8_copyFrom 18 = .ok (.getfield 18, 3) := by decide +kernel
theorem dX8_copyFrom_21 : decode cX8_copyFrom 21 = .ok (.putfield 18, 3) := by decide +kernel
theorem dX8_copyFrom_24 : decode cX8_copyFrom 24 = .ok (.aload_n 0, 1) := by decide +kernel
theorem dX8_copyFrom_25 : decode cX8_copyFrom 25 = .ok (.aload_n 1, 1) := by decide +kernel
theorem dX8_copyFrom_26 : decode cX8_copyFrom 26 = .ok (.getfield 21, 3) := by decide +kernel
theorem dX8_copyFrom_29 : decode cX8_copyFrom 29 = .ok (.putfield 21, 3) := by decide +kernel
theorem dX8_copyFrom_32 : decode cX8_copyFrom 32 = .ok (.aload_n 0, 1) := by decide +kernel
theorem dX8_copyFrom_33 : decode cX8_copyFrom 33 = .ok (.getfield 27, 3) := by decide +kernel
theorem dX8_copyFrom_36 : decode cX8_copyFrom 36 = .ok (.aload_n 1, 1) := by decide +kernel
theorem dX8_copyFrom_37 : decode cX8_copyFrom 37 = .ok (.getfield 27, 3) := by decide +kernel
theorem dX8_copyFrom_40 : decode cX8_copyFrom 40 = .ok (.invokevirtual 59, 3) := by decide +kernel
theorem dX8_copyFrom_43 : decode cX8_copyFrom 43 = .ok (.aload_n 0, 1) := by decide +kernel
theorem dX8_copyFrom_44 : decode cX8_copyFrom 44 = .ok (.getfield 34, 3) := by decide +kernel
theorem dX8_copyFrom_47 : decode cX8_copyFrom 47 = .ok (.aload_n 1, 1) := by decide +kernel
theorem dX8_copyFrom_48 : decode cX8_copyFrom 48 = .ok (.getfield 34, 3) := by decide +kernel
theorem dX8_copyFrom_51 : decode cX8_copyFrom 51 = .ok (.invokevirtual 63, 3) := by decide +kernel
theorem dX8_copyFrom_54 : decode cX8_copyFrom 54 = .ok (.aload_n 0, 1) := by decide +kernel
theorem dX8_copyFrom_55 : decode cX8_copyFrom 55 = .ok (.getfield 41, 3) := by decide +kernel
theorem dX8_copyFrom_58 : decode cX8_copyFrom 58 = .ok (.aload_n 1, 1) := by decide +kernel
theorem dX8_copyFrom_59 : decode cX8_copyFrom 59 = .ok (.getfield 41, 3) := by decide +kernel
theorem dX8_copyFrom_62 : decode cX8_copyFrom 62 = .ok (.invokevirtual 66, 3) := by decide +kernel
theorem dX8_copyFrom_65 : decode cX8_copyFrom 65 = .ok (.aload_n 0, 1) := by decide +kernel
theorem dX8_copyFrom_66 : decode cX8_copyFrom 66 = .ok (.getfield 48, 3) := by decide +kernel
theorem dX8_copyFrom_69 : decode cX8_copyFrom 69 = .ok (.aload_n 1, 1) := by decide +kernel
theorem dX8_copyFrom_70 : decode cX8_copyFrom 70 = .ok (.getfield 48, 3) := by decide +kernel
theorem dX8_copyFrom_73 : decode cX8_copyFrom 73 = .ok (.invokevirtual 69, 3) := by decide +kernel
theorem dX8_copyFrom_76 : decode cX8_copyFrom 76 = .ok (.aload_n 0, 1) := by decide +kernel
theorem dX8_copyFrom_77 : decode cX8_copyFrom 77 = .ok (.getfield 55, 3) := by decide +kernel
theorem dX8_copyFrom_80 : decode cX8_copyFrom 80 = .ok (.aload_n 1, 1) := by decide +kernel
theorem dX8_copyFrom_81 : decode cX8_copyFrom 81 = .ok (.getfield 55, 3) := by decide +kernel
theorem dX8_copyFrom_84 : decode cX8_copyFrom 84 = .ok (.invokevirtual 72, 3) := by decide +kernel
theorem dX8_copyFrom_87 : decode cX8_copyFrom 87 = .ok (.return_, 1) := by decide +kernel
theorem dX8_tryBuild_0 : decode cX8_tryBuild 0 = .ok (.iload_n 1, 1) := by decide +kernel
theorem dX8_tryBuild_1 : decode cX8_tryBuild 1 = .ok (.iconst 1, 1) := by decide +kernel
theorem dX8_tryBuild_2 : decode cX8_tryBuild 2 = .ok (.if_icmp .lt 20, 3) := by decide +kernel
theorem dX8_tryBuild_5 : decode cX8_tryBuild 5 = .ok (.iload_n 1, 1) := by decide +kernel
theorem dX8_tryBuild_6 : decode cX8_tryBuild 6 = .ok (.bipush 9, 2) := by decide +kernel
theorem dX8_tryBuild_8 : decode cX8_tryBuild 8 = .ok (.if_icmp .gt 14, 3) := by decide +kernel
theorem dX8_tryBuild_11 : decode cX8_tryBuild 11 = .ok (.iload_n 2, 1) := by decide +kernel
theorem dX8_tryBuild_12 : decode cX8_tryBuild 12 = .ok (.iconst 1, 1) := by decide +kernel
theorem dX8_tryBuild_13 : decode cX8_tryBuild 13 = .ok (.if_icmp .lt 9, 3) := by decide +kernel
theorem dX8_tryBuild_16 : decode cX8_tryBuild 16 = .ok (.iload_n 2, 1) := by decide +kernel
theorem dX8_tryBuild_17 : decode cX8_tryBuild 17 = .ok (.bipush 9, 2) := by decide +kernel
theorem dX8_tryBuild_19 : decode cX8_tryBuild 19 = .ok (.if_icmp .le 6, 3) := by decide +kernel
theorem dX8_tryBuild_22 : decode cX8_tryBuild 22 = .ok (.bipush (-2), 2) := by decide +kernel
theorem dX8_tryBuild_24 : decode cX8_tryBuild 24 = .ok (.ireturn, 1) := by decide +kernel
theorem dX8_tryBuild_25 : decode cX8_tryBuild 25 = .ok (.aload_n 0, 1) := by decide +kernel
theorem dX8_tryBuild_26 : decode cX8_tryBuild 26 = .ok (.getfield 27, 3) := by decide +kernel
theorem dX8_tryBuild_29 : decode cX8_tryBuild 29 = .ok (.getfield 75, 3) := by decide +kernel
theorem dX8_tryBuild_32 : decode cX8_tryBuild 32 = .ok (.iconst 4, 1) := by decide +kernel
theorem dX8_tryBuild_33 : decode cX8_tryBuild 33 = .ok (.if_icmp .lt 6, 3) := by decide +kernel
theorem dX8_tryBuild_36 : decode cX8_tryBuild 36 = .ok (.bipush (-3), 2) := by decide +kernel
theorem dX8_tryBuild_38 : decode cX8_tryBuild 38 = .ok (.ireturn, 1) := by decide +kernel
theorem dX8_tryBuild_39 : decode cX8_tryBuild 39 = .ok (.aload_n 0, 1) := by decide +kernel
theorem dX8_tryBuild_40 : decode cX8_tryBuild 40 = .ok (.getfield 27, 3) := by decide +kernel
theorem dX8_tryBuild_43 : decode cX8_tryBuild 43 = .ok (.iload_n 1, 1) := by decide +kernel
theorem dX8_tryBuild_44 : decode cX8_tryBuild 44 = .ok (.iload_n 2, 1) := by decide +kernel
theorem dX8_tryBuild_45 : decode cX8_tryBuild 45 = .ok (.invokevirtual 78, 3) := by decide +kernel
theorem dX8_tryBuild_48 : decode cX8_tryBuild 48 = .ok (.ireturn, 1) := by decide +kernel
theorem dX8_tryGuest_0 : decode cX8_tryGuest 0 = .ok (.aload_n 0, 1) := by decide +kernel
theorem dX8_tryGuest_1 : decode cX8_tryGuest 1 = .ok (.getfield 34, 3) := by decide +kernel
theorem dX8_tryGuest_4 : decode cX8_tryGuest 4 = .ok (.getfield 82, 3) := by decide +kernel
theorem dX8_tryGuest_7 : decode cX8_tryGuest 7 = .ok (.bipush 10, 2) := by decide +kernel
theorem dX8_tryGuest_9 : decode cX8_tryGuest 9 = .ok (.if_icmp .lt 6, 3) := by decide +kernel
theorem dX8_tryGuest_12 : decode cX8_tryGuest 12 = .ok (.bipush (-3), 2) := by decide +kernel
theorem dX8_tryGuest_14 : decode cX8_tryGuest 14 = .ok (.ireturn, 1) := by decide +kernel
theorem dX8_tryGuest_15 : decode cX8_tryGuest 15 = .ok (.aload_n 0, 1) := by decide +kernel
theorem dX8_tryGuest_16 : decode cX8_tryGuest 16 = .ok (.getfield 34, 3) := by decide +kernel
theorem dX8_tryGuest_19 : decode cX8_tryGuest 19 = .ok (.invokevirtual 83, 3) := by decide +kernel
theorem dX8_tryGuest_22 : decode cX8_tryGuest 22 = .ok (.ireturn, 1) := by decide +kernel
theorem dX8_tryBook_0 : decode cX8_tryBook 0 = .ok (.aload_n 0, 1) := by decide +kernel
theorem dX8_tryBook_1 : decode cX8_tryBook 1 = .ok (.getfield 34, 3) := by decide +kernel
theorem dX8_tryBook_4 : decode cX8_tryBook 4 = .ok (.iload_n 1, 1) := by decide +kernel
theorem dX8_tryBook_5 : decode cX8_tryBook 5 = .ok (.invokevirtual 86, 3) := by decide +kernel
theorem dX8_tryBook_8 : decode cX8_tryBook 8 = .ok (.ifCond .eq 14, 3) := by decide +kernel
theorem dX8_tryBook_11 : decode cX8_tryBook 11 = .ok (.aload_n 0, 1) := by decide +kernel
theorem dX8_tryBook_12 : decode cX8_tryBook 12 = .ok (.getfield 27, 3) := by decide +kernel
theorem dX8_tryBook_15 : decode cX8_tryBook 15 = .ok (.iload_n 2, 1) := by decide +kernel
theorem dX8_tryBook_16 : decode cX8_tryBook 16 = .ok (.invokevirtual 90, 3) := by decide +kernel
theorem dX8_tryBook_19 : decode cX8_tryBook 19 = .ok (.ifCond .ne 5, 3) := by decide +kernel
theorem dX8_tryBook_22 : decode cX8_tryBook 22 = .ok (.iconst (-1), 1) := by decide +kernel
theorem dX8_tryBook_23 : decode cX8_tryBook 23 = .ok (.ireturn, 1) := by decide +kernel
theorem dX8_tryBook_24 : decode cX8_tryBook 24 = .ok (.aload_n 0, 1) := by decide +kernel
theorem dX8_tryBook_25 : decode cX8_tryBook 25 = .ok (.iload_n 3, 1) := by decide +kernel
theorem dX8_tryBook_26 : decode cX8_tryBook 26 = .ok (.invokevirtual 91, 3) := by decide +kernel
theorem dX8_tryBook_29 : decode cX8_tryBook 29 = .ok (.ifCond .ne 6, 3) := by decide +kernel
theorem dX8_tryBook_32 : decode cX8_tryBook 32 = .ok (.bipush (-2), 2) := by decide +kernel
theorem dX8_tryBook_34 : decode cX8_tryBook 34 = .ok (.ireturn, 1) := by decide +kernel
theorem dX8_tryBook_35 : decode cX8_tryBook 35 = .ok (.aload_n 0, 1) := by decide +kernel
theorem dX8_tryBook_36 : decode cX8_tryBook 36 = .ok (.getfield 41, 3) := by decide +kernel
theorem dX8_tryBook_39 : decode cX8_tryBook 39 = .ok (.invokevirtual 94, 3) := by decide +kernel
theorem dX8_tryBook_42 : decode cX8_tryBook 42 = .ok (.ifCond .ne 24, 3) := by decide +kernel
theorem dX8_tryBook_45 : decode cX8_tryBook 45 = .ok (.aload_n 0, 1) := by decide +kernel
theorem dX8_tryBook_46 : decode cX8_tryBook 46 = .ok (.getfield 34, 3) := by decide +kernel
theorem dX8_tryBook_49 : decode cX8_tryBook 49 = .ok (.getfield 98, 3) := by decide +kernel
theorem dX8_tryBook_52 : decode cX8_tryBook 52 = .ok (.iload_n 1, 1) := by decide +kernel
theorem dX8_tryBook_53 : decode cX8_tryBook 53 = .ok (.iaload, 1) := by decide +kernel
theorem dX8_tryBook_54 : decode cX8_tryBook 54 = .ok (.aload_n 0, 1) := by decide +kernel
theorem dX8_tryBook_55 : decode cX8_tryBook 55 = .ok (.getfield 27, 3) := by decide +kernel
theorem dX8_tryBook_58 : decode cX8_tryBook 58 = .ok (.getfield 102, 3) := by decide +kernel
theorem dX8_tryBook_61 : decode cX8_tryBook 61 = .ok (.iload_n 2, 1) := by decide +kernel
theorem dX8_tryBook_62 : decode cX8_tryBook 62 = .ok (.iaload, 1) := by decide +kernel
theorem dX8_tryBook_63 : decode cX8_tryBook 63 = .ok (.if_icmp .ge 6, 3) := by decide +kernel
theorem dX8_tryBook_66 : decode cX8_tryBook 66 = .ok (.bipush (-3), 2) := by decide +kernel
theorem dX8_tryBook_68 : decode cX8_tryBook 68 = .ok (.ireturn, 1) := by decide +kernel
theorem dX8_tryBook_69 : decode cX8_tryBook 69 = .ok (.aload_n 0, 1) := by decide +kernel
theorem dX8_tryBook_70 : decode cX8_tryBook 70 = .ok (.getfield 41, 3) := by decide +kernel
theorem dX8_tryBook_73 : decode cX8_tryBook 73 = .ok (.iload_n 1, 1) := by decide +kernel
theorem dX8_tryBook_74 : decode cX8_tryBook 74 = .ok (.iload_n 2, 1) := by decide +kernel
theorem dX8_tryBook_75 : decode cX8_tryBook 75 = .ok (.iload_n 3, 1) := by decide +kernel
theorem dX8_tryBook_76 : decode cX8_tryBook 76 = .ok (.aload_n 0, 1) := by decide +kernel
theorem dX8_tryBook_77 : decode cX8_tryBook 77 = .ok (.iload_n 3, 1) := by decide +kernel
theorem dX8_tryBook_78 : decode cX8_tryBook 78 = .ok (.iload_n 2, 1) := by decide +kernel
theorem dX8_tryBook_79 : decode cX8_tryBook 79 = .ok (.invokevirtual 105, 3) := by decide +kernel
theorem dX8_tryBook_82 : decode cX8_tryBook 82 = .ok (.invokevirtual 108, 3) := by decide +kernel
theorem dX8_tryBook_85 : decode cX8_tryBook 85 = .ok (.ifCond .ne 6, 3) := by decide +kernel
theorem dX8_tryBook_88 : decode cX8_tryBook 88 = .ok (.bipush (-4), 2) := by decide +kernel
theorem dX8_tryBook_90 : decode cX8_tryBook 90 = .ok (.ireturn, 1) := by decide +kernel
theorem dX8_tryBook_91 : decode cX8_tryBook 91 = .ok (.aload_n 0, 1) := by decide +kernel
theorem dX8_tryBook_92 : decode cX8_tryBook 92 = .ok (.iload_n 1, 1) := by decide +kernel
theorem dX8_tryBook_93 : decode cX8_tryBook 93 = .ok (.iload_n 2, 1) := by decide +kernel
theorem dX8_tryBook_94 : decode cX8_tryBook 94 = .ok (.iload_n 3, 1) := by decide +kernel
theorem dX8_tryBook_95 : decode cX8_tryBook 95 = .ok (.invokevirtual 112, 3) := by decide +kernel
theorem dX8_tryBook_98 : decode cX8_tryBook 98 = .ok (.ireturn, 1) := by decide +kernel
theorem dX8_tryCancel_0 : decode cX8_tryCancel 0 = .ok (.aload_n 0, 1) := by decide +kernel
theorem dX8_tryCancel_1 : decode cX8_tryCancel 1 = .ok (.getfield 41, 3) := by decide +kernel
theorem dX8_tryCancel_4 : decode cX8_tryCancel 4 = .ok (.iload_n 1, 1) := by decide +kernel
theorem dX8_tryCancel_5 : decode cX8_tryCancel 5 = .ok (.invokevirtual 116, 3) := by decide +kernel
theorem dX8_tryCancel_8 : decode cX8_tryCancel 8 = .ok (.ifCond .ne 5, 3) := by decide +kernel
theorem dX8_tryCancel_11 : decode cX8_tryCancel 11 = .ok (.iconst (-1), 1) := by decide +kernel
theorem dX8_tryCancel_12 : decode cX8_tryCancel 12 = .ok (.ireturn, 1) := by decide +kernel
theorem dX8_tryCancel_13 : decode cX8_tryCancel 13 = .ok (.aload_n 0, 1) := by decide +kernel
theorem dX8_tryCancel_14 : decode cX8_tryCancel 14 = .ok (.getfield 41, 3) := by decide +kernel
theorem dX8_tryCancel_17 : decode cX8_tryCancel 17 = .ok (.getfield 117, 3) := by decide +kernel
theorem dX8_tryCancel_20 : decode cX8_tryCancel 20 = .ok (.iload_n 1, 1) := by decide +kernel
theorem dX8_tryCancel_21 : decode cX8_tryCancel 21 = .ok (.iaload, 1) := by decide +kernel
theorem dX8_tryCancel_22 : decode cX8_tryCancel 22 = .ok (.aload_n 0, 1) := by decide +kernel
theorem dX8_tryCancel_23 : decode cX8_tryCancel 23 = .ok (.getfield 9, 3) := by decide +kernel
theorem dX8_tryCancel_26 : decode cX8_tryCancel 26 = .ok (.if_icmp .gt 6, 3) := by decide +kernel
theorem dX8_tryCancel_29 : decode cX8_tryCancel 29 = .ok (.bipush (-3), 2) := by decide +kernel
theorem dX8_tryCancel_31 : decode cX8_tryCancel 31 = .ok (.ireturn, 1) := by decide +kernel
theorem dX8_tryCancel_32 : decode cX8_tryCancel 32 = .ok (.aload_n 0, 1) := by decide +kernel
theorem dX8_tryCancel_33 : decode cX8_tryCancel 33 = .ok (.getfield 41, 3) := by decide +kernel
theorem dX8_tryCancel_36 : decode cX8_tryCancel 36 = .ok (.getfield 120, 3) := by decide +kernel
theorem dX8_tryCancel_39 : decode cX8_tryCancel 39 = .ok (.iload_n 1, 1) := by decide +kernel
theorem dX8_tryCancel_40 : decode cX8_tryCancel 40 = .ok (.iaload, 1) := by decide +kernel
theorem dX8_tryCancel_41 : decode cX8_tryCancel 41 = .ok (.istore_n 2, 1) := by decide +kernel
theorem dX8_tryCancel_42 : decode cX8_tryCancel 42 = .ok (.aload_n 0, 1) := by decide +kernel
theorem dX8_tryCancel_43 : decode cX8_tryCancel 43 = .ok (.iload_n 2, 1) := by decide +kernel
theorem dX8_tryCancel_44 : decode cX8_tryCancel 44 = .ok (.aload_n 0, 1) := by decide +kernel
theorem dX8_tryCancel_45 : decode cX8_tryCancel 45 = .ok (.getfield 27, 3) := by decide +kernel
theorem dX8_tryCancel_48 : decode cX8_tryCancel 48 = .ok (.getfield 102, 3) := by decide +kernel
theorem dX8_tryCancel_51 : decode cX8_tryCancel 51 = .ok (.aload_n 0, 1) := by decide +kernel
theorem dX8_tryCancel_52 : decode cX8_tryCancel 52 = .ok (.getfield 41, 3) := by decide +kernel
theorem dX8_tryCancel_55 : decode cX8_tryCancel 55 = .ok (.getfield 122, 3) := by decide +kernel
theorem dX8_tryCancel_58 : decode cX8_tryCancel 58 = .ok (.iload_n 1, 1) := by decide +kernel
theorem dX8_tryCancel_59 : decode cX8_tryCancel 59 = .ok (.iaload, 1) := by decide +kernel
theorem dX8_tryCancel_60 : decode cX8_tryCancel 60 = .ok (.iaload, 1) := by decide +kernel
theorem dX8_tryCancel_61 : decode cX8_tryCancel 61 = .ok (.invokevirtual 124, 3) := by decide +kernel
theorem dX8_tryCancel_64 : decode cX8_tryCancel 64 = .ok (.aload_n 0, 1) := by decide +kernel
theorem dX8_tryCancel_65 : decode cX8_tryCancel 65 = .ok (.getfield 41, 3) := by decide +kernel
theorem dX8_tryCancel_68 : decode cX8_tryCancel 68 = .ok (.iload_n 1, 1) := by decide +kernel
theorem dX8_tryCancel_69 : decode cX8_tryCancel 69 = .ok (.invokevirtual 128, 3) := by decide +kernel
theorem dX8_tryCancel_72 : decode cX8_tryCancel 72 = .ok (.aload_n 0, 1) := by decide +kernel
theorem dX8_tryCancel_73 : decode cX8_tryCancel 73 = .ok (.getfield 34, 3) := by decide +kernel
theorem dX8_tryCancel_76 : decode cX8_tryCancel 76 = .ok (.getfield 98, 3) := by decide +kernel
theorem dX8_tryCancel_79 : decode cX8_tryCancel 79 = .ok (.iload_n 2, 1) := by decide +kernel
theorem dX8_tryCancel_80 : decode cX8_tryCancel 80 = .ok (.iaload, 1) := by decide +kernel
theorem dX8_tryCancel_81 : decode cX8_tryCancel 81 = .ok (.ireturn, 1) := by decide +kernel
theorem dX8_tryQueue_0 : decode cX8_tryQueue 0 = .ok (.aload_n 0, 1) := by decide +kernel
theorem dX8_tryQueue_1 : decode cX8_tryQueue 1 = .ok (.getfield 34, 3) := by decide +kernel
theorem dX8_tryQueue_4 : decode cX8_tryQueue 4 = .ok (.iload_n 1, 1) := by decide +kernel
theorem dX8_tryQueue_5 : decode cX8_tryQueue 5 = .ok (.invokevirtual 86, 3) := by decide +kernel
theorem dX8_tryQueue_8 : decode cX8_tryQueue 8 = .ok (.ifCond .eq 14, 3) := by decide +kernel
theorem dX8_tryQueue_11 : decode cX8_tryQueue 11 = .ok (.aload_n 0, 1) := by decide +kernel
theorem dX8_tryQueue_12 : decode cX8_tryQueue 12 = .ok (.getfield 27, 3) := by decide +kernel
theorem dX8_tryQueue_15 : decode cX8_tryQueue 15 = .ok (.iload_n 2, 1) := by decide +kernel
theorem dX8_tryQueue_16 : decode cX8_tryQueue 16 = .ok (.invokevirtual 90, 3) := by decide +kernel
theorem dX8_tryQueue_19 : decode cX8_tryQueue 19 = .ok (.ifCond .ne 5, 3) := by decide +kernel
theorem dX8_tryQueue_22 : decode cX8_tryQueue 22 = .ok (.iconst (-1), 1) := by decide +kernel
theorem dX8_tryQueue_23 : decode cX8_tryQueue 23 = .ok (.ireturn, 1) := by decide +kernel
theorem dX8_tryQueue_24 : decode cX8_tryQueue 24 = .ok (.aload_n 0, 1) := by decide +kernel
theorem dX8_tryQueue_25 : decode cX8_tryQueue 25 = .ok (.getfield 48, 3) := by decide +kernel
theorem dX8_tryQueue_28 : decode cX8_tryQueue 28 = .ok (.iload_n 1, 1) := by decide +kernel
theorem dX8_tryQueue_29 : decode cX8_tryQueue 29 = .ok (.invokevirtual 132, 3) := by decide +kernel
theorem dX8_tryQueue_32 : decode cX8_tryQueue 32 = .ok (.iconst (-1), 1) := by decide +kernel
theorem dX8_tryQueue_33 : decode cX8_tryQueue 33 = .ok (.if_icmp .eq 6, 3) := by decide +kernel
theorem dX8_tryQueue_36 : decode cX8_tryQueue 36 = .ok (.bipush (-3), 2) := by decide +kernel
theorem dX8_tryQueue_38 : decode cX8_tryQueue 38 = .ok (.ireturn, 1) := by decide +kernel
theorem dX8_tryQueue_39 : decode cX8_tryQueue 39 = .ok (.aload_n 0, 1) := by decide +kernel
theorem dX8_tryQueue_40 : decode cX8_tryQueue 40 = .ok (.getfield 48, 3) := by decide +kernel
theorem dX8_tryQueue_43 : decode cX8_tryQueue 43 = .ok (.iload_n 2, 1) := by decide +kernel
theorem dX8_tryQueue_44 : decode cX8_tryQueue 44 = .ok (.invokevirtual 136, 3) := by decide +kernel
theorem dX8_tryQueue_47 : decode cX8_tryQueue 47 = .ok (.ifCond .eq 6, 3) := by decide +kernel
theorem dX8_tryQueue_50 : decode cX8_tryQueue 50 = .ok (.bipush (-4), 2) := by decide +kernel
theorem dX8_tryQueue_52 : decode cX8_tryQueue 52 = .ok (.ireturn, 1) := by decide +kernel
theorem dX8_tryQueue_53 : decode cX8_tryQueue 53 = .ok (.aload_n 0, 1) := by decide +kernel
theorem dX8_tryQueue_54 : decode cX8_tryQueue 54 = .ok (.getfield 48, 3) := by decide +kernel
theorem dX8_tryQueue_57 : decode cX8_tryQueue 57 = .ok (.iload_n 2, 1) := by decide +kernel
theorem dX8_tryQueue_58 : decode cX8_tryQueue 58 = .ok (.iload_n 1, 1) := by decide +kernel
theorem dX8_tryQueue_59 : decode cX8_tryQueue 59 = .ok (.invokevirtual 138, 3) := by decide +kernel
theorem dX8_tryQueue_62 : decode cX8_tryQueue 62 = .ok (.aload_n 0, 1) := by decide +kernel
theorem dX8_tryQueue_63 : decode cX8_tryQueue 63 = .ok (.getfield 48, 3) := by decide +kernel
theorem dX8_tryQueue_66 : decode cX8_tryQueue 66 = .ok (.getfield 140, 3) := by decide +kernel
theorem dX8_tryQueue_69 : decode cX8_tryQueue 69 = .ok (.iload_n 2, 1) := by decide +kernel
theorem dX8_tryQueue_70 : decode cX8_tryQueue 70 = .ok (.iaload, 1) := by decide +kernel
theorem dX8_tryQueue_71 : decode cX8_tryQueue 71 = .ok (.ireturn, 1) := by decide +kernel
theorem dX8_tryLeave_0 : decode cX8_tryLeave 0 = .ok (.aload_n 0, 1) := by decide +kernel
theorem dX8_tryLeave_1 : decode cX8_tryLeave 1 = .ok (.getfield 34, 3) := by decide +kernel
theorem dX8_tryLeave_4 : decode cX8_tryLeave 4 = .ok (.iload_n 1, 1) := by decide +kernel
theorem dX8_tryLeave_5 : decode cX8_tryLeave 5 = .ok (.invokevirtual 86, 3) := by decide +kernel
theorem dX8_tryLeave_8 : decode cX8_tryLeave 8 = .ok (.ifCond .ne 5, 3) := by decide +kernel
theorem dX8_tryLeave_11 : decode cX8_tryLeave 11 = .ok (.iconst (-1), 1) := by decide +kernel
theorem dX8_tryLeave_12 : decode cX8_tryLeave 12 = .ok (.ireturn, 1) := by decide +kernel
theorem dX8_tryLeave_13 : decode cX8_tryLeave 13 = .ok (.aload_n 0, 1) := by decide +kernel
theorem dX8_tryLeave_14 : decode cX8_tryLeave 14 = .ok (.getfield 48, 3) := by decide +kernel
theorem dX8_tryLeave_17 : decode cX8_tryLeave 17 = .ok (.iload_n 1, 1) := by decide +kernel
theorem dX8_tryLeave_18 : decode cX8_tryLeave 18 = .ok (.invokevirtual 132, 3) := by decide +kernel
theorem dX8_tryLeave_21 : decode cX8_tryLeave 21 = .ok (.istore_n 2, 1) := by decide +kernel
theorem dX8_tryLeave_22 : decode cX8_tryLeave 22 = .ok (.iload_n 2, 1) := by decide +kernel
theorem dX8_tryLeave_23 : decode cX8_tryLeave 23 = .ok (.iconst (-1), 1) := by decide +kernel
theorem dX8_tryLeave_24 : decode cX8_tryLeave 24 = .ok (.if_icmp .ne 6, 3) := by decide +kernel
theorem dX8_tryLeave_27 : decode cX8_tryLeave 27 = .ok (.bipush (-5), 2) := by decide +kernel
theorem dX8_tryLeave_29 : decode cX8_tryLeave 29 = .ok (.ireturn, 1) := by decide +kernel
theorem dX8_tryLeave_30 : decode cX8_tryLeave 30 = .ok (.aload_n 0, 1) := by decide +kernel
theorem dX8_tryLeave_31 : decode cX8_tryLeave 31 = .ok (.getfield 48, 3) := by decide +kernel
theorem dX8_tryLeave_34 : decode cX8_tryLeave 34 = .ok (.iload_n 2, 1) := by decide +kernel
theorem dX8_tryLeave_35 : decode cX8_tryLeave 35 = .ok (.iload_n 1, 1) := by decide +kernel
theorem dX8_tryLeave_36 : decode cX8_tryLeave 36 = .ok (.invokevirtual 143, 3) := by decide +kernel
theorem dX8_tryLeave_39 : decode cX8_tryLeave 39 = .ok (.iload_n 2, 1) := by decide +kernel
theorem dX8_tryLeave_40 : decode cX8_tryLeave 40 = .ok (.ireturn, 1) := by decide +kernel
theorem dX8_tryWait_0 : decode cX8_tryWait 0 = .ok (.iload_n 1, 1) := by decide +kernel
theorem dX8_tryWait_1 : decode cX8_tryWait 1 = .ok (.iconst 1, 1) := by decide +kernel
theorem dX8_tryWait_2 : decode cX8_tryWait 2 = .ok (.if_icmp .lt 9, 3) := by decide +kernel
theorem dX8_tryWait_5 : decode cX8_tryWait 5 = .ok (.iload_n 1, 1) := by decide +kernel
theorem dX8_tryWait_6 : decode cX8_tryWait 6 = .ok (.bipush 60, 2) := by decide +kernel
theorem dX8_tryWait_8 : decode cX8_tryWait 8 = .ok (.if_icmp .le 6, 3) := by decide +kernel
theorem dX8_tryWait_11 : decode cX8_tryWait 11 = .ok (.bipush (-2), 2) := by decide +kernel
theorem dX8_tryWait_13 : decode cX8_tryWait 13 = .ok (.ireturn, 1) := by decide +kernel
theorem dX8_tryWait_14 : decode cX8_tryWait 14 = .ok (.iconst 0, 1) := by decide +kernel
theorem dX8_tryWait_15 : decode cX8_tryWait 15 = .ok (.istore_n 2, 1) := by decide +kernel
theorem dX8_tryWait_16 : decode cX8_tryWait 16 = .ok (.iconst 0, 1) := by decide +kernel
theorem dX8_tryWait_17 : decode cX8_tryWait 17 = .ok (.istore_n 3, 1) := by decide +kernel
theorem dX8_tryWait_18 : decode cX8_tryWait 18 = .ok (.iload_n 3, 1) := by decide +kernel
theorem dX8_tryWait_19 : decode cX8_tryWait 19 = .ok (.iload_n 1, 1) := by decide +kernel
theorem dX8_tryWait_20 : decode cX8_tryWait 20 = .ok (.if_icmp .ge 16, 3) := by decide +kernel
theorem dX8_tryWait_23 : decode cX8_tryWait 23 = .ok (.iload_n 2, 1) := by decide +kernel
theorem dX8_tryWait_24 : decode cX8_tryWait 24 = .ok (.aload_n 0, 1) := by decide +kernel
theorem dX8_tryWait_25 : decode cX8_tryWait 25 = .ok (.invokevirtual 145, 3) := by decide +kernel
theorem dX8_tryWait_28 : decode cX8_tryWait 28 = .ok (.iadd, 1) := by decide +kernel
theorem dX8_tryWait_29 : decode cX8_tryWait 29 = .ok (.istore_n 2, 1) := by decide +kernel
theorem dX8_tryWait_30 : decode cX8_tryWait 30 = .ok (.iinc 3 1, 3) := by decide +kernel
theorem dX8_tryWait_33 : decode cX8_tryWait 33 = .ok (.goto (-15), 3) := by decide +kernel
theorem dX8_tryWait_36 : decode cX8_tryWait 36 = .ok (.iload_n 2, 1) := by decide +kernel
theorem dX8_tryWait_37 : decode cX8_tryWait 37 = .ok (.ireturn, 1) := by decide +kernel
theorem dX8_isBookable_0 : decode cX8_isBookable 0 = .ok (.iload_n 1, 1) := by decide +kernel
theorem dX8_isBookable_1 : decode cX8_isBookable 1 = .ok (.aload_n 0, 1) := by decide +kernel
theorem dX8_isBookable_2 : decode cX8_isBookable 2 = .ok (.getfield 9, 3) := by decide +kernel
theorem dX8_isBookable_5 : decode cX8_isBookable 5 = .ok (.if_icmp .lt 18, 3) := by decide +kernel
theorem dX8_isBookable_8 : decode cX8_isBookable 8 = .ok (.iload_n 1, 1) := by decide +kernel
theorem dX8_isBookable_9 : decode cX8_isBookable 9 = .ok (.aload_n 0, 1) := by decide +kernel
theorem dX8_isBookable_10 : decode cX8_isBookable 10 = .ok (.getfield 9, 3) := by decide +kernel
theorem dX8_isBookable_13 : decode cX8_isBookable 13 = .ok (.bipush 120, 2) := by decide +kernel
theorem dX8_isBookable_15 : decode cX8_isBookable 15 = .ok (.iadd, 1) := by decide +kernel
theorem dX8_isBookable_16 : decode cX8_isBookable 16 = .ok (.if_icmp .gt 7, 3) := by decide +kernel
theorem dX8_isBookable_19 : decode cX8_isBookable 19 = .ok (.iconst 1, 1) := by decide +kernel
theorem dX8_isBookable_20 : decode cX8_isBookable 20 = .ok (.goto 4, 3) := by decide +kernel
theorem dX8_isBookable_23 : decode cX8_isBookable 23 = .ok (.iconst 0, 1) := by decide +kernel
theorem dX8_isBookable_24 : decode cX8_isBookable 24 = .ok (.ireturn, 1) := by decide +kernel
theorem dX8_isSlideFree_0 : decode cX8_isSlideFree 0 = .ok (.aload_n 0, 1) := by decide +kernel
theorem dX8_isSlideFree_1 : decode cX8_isSlideFree 1 = .ok (.getfield 41, 3) := by decide +kernel
theorem dX8_isSlideFree_4 : decode cX8_isSlideFree 4 = .ok (.iload_n 1, 1) := by decide +kernel
theorem dX8_isSlideFree_5 : decode cX8_isSlideFree 5 = .ok (.iload_n 2, 1) := by decide +kernel
theorem dX8_isSlideFree_6 : decode cX8_isSlideFree 6 = .ok (.aload_n 0, 1) := by decide +kernel
theorem dX8_isSlideFree_7 : decode cX8_isSlideFree 7 = .ok (.iload_n 2, 1) := by decide +kernel
theorem dX8_isSlideFree_8 : decode cX8_isSlideFree 8 = .ok (.iload_n 1, 1) := by decide +kernel
theorem dX8_isSlideFree_9 : decode cX8_isSlideFree 9 = .ok (.invokevirtual 105, 3) := by decide +kernel
theorem dX8_isSlideFree_12 : decode cX8_isSlideFree 12 = .ok (.invokevirtual 148, 3) := by decide +kernel
theorem dX8_isSlideFree_15 : decode cX8_isSlideFree 15 = .ok (.ireturn, 1) := by decide +kernel
theorem dX8_endFrom_0 : decode cX8_endFrom 0 = .ok (.iload_n 1, 1) := by decide +kernel
theorem dX8_endFrom_1 : decode cX8_endFrom 1 = .ok (.aload_n 0, 1) := by decide +kernel
theorem dX8_endFrom_2 : decode cX8_endFrom 2 = .ok (.getfield 27, 3) := by decide +kernel
theorem dX8_endFrom_5 : decode cX8_endFrom 5 = .ok (.getfield 152, 3) := by decide +kernel
theorem dX8_endFrom_8 : decode cX8_endFrom 8 = .ok (.iload_n 2, 1) := by decide +kernel
theorem dX8_endFrom_9 : decode cX8_endFrom 9 = .ok (.iaload, 1) := by decide +kernel
theorem dX8_endFrom_10 : decode cX8_endFrom 10 = .ok (.iadd, 1) := by decide +kernel
theorem dX8_endFrom_11 : decode cX8_endFrom 11 = .ok (.ireturn, 1) := by decide +kernel
theorem dX8_sellBooking_0 : decode cX8_sellBooking 0 = .ok (.aload_n 0, 1) := by decide +kernel
theorem dX8_sellBooking_1 : decode cX8_sellBooking 1 = .ok (.getfield 34, 3) := by decide +kernel
theorem dX8_sellBooking_4 : decode cX8_sellBooking 4 = .ok (.getfield 98, 3) := by decide +kernel
theorem dX8_sellBooking_7 : decode cX8_sellBooking 7 = .ok (.iload_n 1, 1) := by decide +kernel
theorem dX8_sellBooking_8 : decode cX8_sellBooking 8 = .ok (.dup2, 1) := by decide +kernel
theorem dX8_sellBooking_9 : decode cX8_sellBooking 9 = .ok (.iaload, 1) := by decide +kernel
theorem dX8_sellBooking_10 : decode cX8_sellBooking 10 = .ok (.aload_n 0, 1) := by decide +kernel
theorem dX8_sellBooking_11 : decode cX8_sellBooking 11 = .ok (.getfield 27, 3) := by decide +kernel
theorem dX8_sellBooking_14 : decode cX8_sellBooking 14 = .ok (.getfield 102, 3) := by decide +kernel
theorem dX8_sellBooking_17 : decode cX8_sellBooking 17 = .ok (.iload_n 2, 1) := by decide +kernel
theorem dX8_sellBooking_18 : decode cX8_sellBooking 18 = .ok (.iaload, 1) := by decide +kernel
theorem dX8_sellBooking_19 : decode cX8_sellBooking 19 = .ok (.isub, 1) := by decide +kernel
theorem dX8_sellBooking_20 : decode cX8_sellBooking 20 = .ok (.iastore, 1) := by decide +kernel
theorem dX8_sellBooking_21 : decode cX8_sellBooking 21 = .ok (.aload_n 0, 1) := by decide +kernel
theorem dX8_sellBooking_22 : decode cX8_sellBooking 22 = .ok (.dup, 1) := by decide +kernel
theorem dX8_sellBooking_23 : decode cX8_sellBooking 23 = .ok (.getfield 15, 3) := by decide +kernel
theorem dX8_sellBooking_26 : decode cX8_sellBooking 26 = .ok (.aload_n 0, 1) := by decide +kernel
theorem dX8_sellBooking_27 : decode cX8_sellBooking 27 = .ok (.getfield 27, 3) := by decide +kernel
theorem dX8_sellBooking_30 : decode cX8_sellBooking 30 = .ok (.getfield 102, 3) := by decide +kernel
theorem dX8_sellBooking_33 : decode cX8_sellBooking 33 = .ok (.iload_n 2, 1) := by decide +kernel
theorem dX8_sellBooking_34 : decode cX8_sellBooking 34 = .ok (.iaload, 1) := by decide +kernel
theorem dX8_sellBooking_35 : decode cX8_sellBooking 35 = .ok (.iadd, 1) := by decide +kernel
theorem dX8_sellBooking_36 : decode cX8_sellBooking 36 = .ok (.putfield 15, 3) := by decide +kernel
theorem dX8_sellBooking_39 : decode cX8_sellBooking 39 = .ok (.aload_n 0, 1) := by decide +kernel
theorem dX8_sellBooking_40 : decode cX8_sellBooking 40 = .ok (.getfield 41, 3) := by decide +kernel
theorem dX8_sellBooking_43 : decode cX8_sellBooking 43 = .ok (.iload_n 1, 1) := by decide +kernel
theorem dX8_sellBooking_44 : decode cX8_sellBooking 44 = .ok (.iload_n 2, 1) := by decide +kernel
theorem dX8_sellBooking_45 : decode cX8_sellBooking 45 = .ok (.iload_n 3, 1) := by decide +kernel
theorem dX8_sellBooking_46 : decode cX8_sellBooking 46 = .ok (.aload_n 0, 1) := by decide +kernel
theorem dX8_sellBooking_47 : decode cX8_sellBooking 47 = .ok (.iload_n 3, 1) := by decide +kernel
theorem dX8_sellBooking_48 : decode cX8_sellBooking 48 = .ok (.iload_n 2, 1) := by decide +kernel
theorem dX8_sellBooking_49 : decode cX8_sellBooking 49 = .ok (.invokevirtual 105, 3) := by decide +kernel
theorem dX8_sellBooking_52 : decode cX8_sellBooking 52 = .ok (.invokevirtual 155, 3) := by decide +kernel
theorem dX8_sellBooking_55 : decode cX8_sellBooking 55 = .ok (.ireturn, 1) := by decide +kernel
theorem dX8_payBack_0 : decode cX8_payBack 0 = .ok (.aload_n 0, 1) := by decide +kernel
theorem dX8_payBack_1 : decode cX8_payBack 1 = .ok (.getfield 34, 3) := by decide +kernel
theorem dX8_payBack_4 : decode cX8_payBack 4 = .ok (.getfield 98, 3) := by decide +kernel
theorem dX8_payBack_7 : decode cX8_payBack 7 = .ok (.iload_n 1, 1) := by decide +kernel
theorem dX8_payBack_8 : decode cX8_payBack 8 = .ok (.dup2, 1) := by decide +kernel
theorem dX8_payBack_9 : decode cX8_payBack 9 = .ok (.iaload, 1) := by decide +kernel
theorem dX8_payBack_10 : decode cX8_payBack 10 = .ok (.iload_n 2, 1) := by decide +kernel
theorem dX8_payBack_11 : decode cX8_payBack 11 = .ok (.iadd, 1) := by decide +kernel
theorem dX8_payBack_12 : decode cX8_payBack 12 = .ok (.iastore, 1) := by decide +kernel
theorem dX8_payBack_13 : decode cX8_payBack 13 = .ok (.aload_n 0, 1) := by decide +kernel
theorem dX8_payBack_14 : decode cX8_payBack 14 = .ok (.dup, 1) := by decide +kernel
theorem dX8_payBack_15 : decode cX8_payBack 15 = .ok (.getfield 15, 3) := by decide +kernel
theorem dX8_payBack_18 : decode cX8_payBack 18 = .ok (.iload_n 2, 1) := by decide +kernel
theorem dX8_payBack_19 : decode cX8_payBack 19 = .ok (.isub, 1) := by decide +kernel
theorem dX8_payBack_20 : decode cX8_payBack 20 = .ok (.putfield 15, 3) := by decide +kernel
theorem dX8_payBack_23 : decode cX8_payBack 23 = .ok (.aload_n 0, 1) := by decide +kernel
theorem dX8_payBack_24 : decode cX8_payBack 24 = .ok (.dup, 1) := by decide +kernel
theorem dX8_payBack_25 : decode cX8_payBack 25 = .ok (.getfield 18, 3) := by decide +kernel
theorem dX8_payBack_28 : decode cX8_payBack 28 = .ok (.iload_n 2, 1) := by decide +kernel
theorem dX8_payBack_29 : decode cX8_payBack 29 = .ok (.iadd, 1) := by decide +kernel
theorem dX8_payBack_30 : decode cX8_payBack 30 = .ok (.putfield 18, 3) := by decide +kernel
theorem dX8_payBack_33 : decode cX8_payBack 33 = .ok (.return_, 1) := by decide +kernel
theorem dX8_passOneMinute_0 : decode cX8_passOneMinute 0 = .ok (.iconst 0, 1) := by decide +kernel
theorem dX8_passOneMinute_1 : decode cX8_passOneMinute 1 = .ok (.istore_n 1, 1) := by decide +kernel
theorem dX8_passOneMinute_2 : decode cX8_passOneMinute 2 = .ok (.iload_n 1, 1) := by decide +kernel
theorem dX8_passOneMinute_3 : decode cX8_passOneMinute 3 = .ok (.aload_n 0, 1) := by decide +kernel
theorem dX8_passOneMinute_4 : decode cX8_passOneMinute 4 = .ok (.getfield 27, 3) := by decide +kernel
theorem dX8_passOneMinute_7 : decode cX8_passOneMinute 7 = .ok (.getfield 75, 3) := by decide +kernel
theorem dX8_passOneMinute_10 : decode cX8_passOneMinute 10 = .ok (.if_icmp .ge 14, 3) := by decide +kernel
theorem dX8_passOneMinute_13 : decode cX8_passOneMinute 13 = .ok (.aload_n 0, 1) := by decide +kernel
theorem dX8_passOneMinute_14 : decode cX8_passOneMinute 14 = .ok (.iload_n 1, 1) := by decide +kernel
theorem dX8_passOneMinute_15 : decode cX8_passOneMinute 15 = .ok (.invokevirtual 158, 3) := by decide +kernel
theorem dX8_passOneMinute_18 : decode cX8_passOneMinute 18 = .ok (.iinc 1 1, 3) := by decide +kernel
theorem dX8_passOneMinute_21 : decode cX8_passOneMinute 21 = .ok (.goto (-19), 3) := by decide +kernel
theorem dX8_passOneMinute_24 : decode cX8_passOneMinute 24 = .ok (.aload_n 0, 1) := by decide +kernel
theorem dX8_passOneMinute_25 : decode cX8_passOneMinute 25 = .ok (.getfield 9, 3) := by decide +kernel
theorem dX8_passOneMinute_28 : decode cX8_passOneMinute 28 = .ok (.istore_n 1, 1) := by decide +kernel
theorem dX8_passOneMinute_29 : decode cX8_passOneMinute 29 = .ok (.aload_n 0, 1) := by decide +kernel
theorem dX8_passOneMinute_30 : decode cX8_passOneMinute 30 = .ok (.dup, 1) := by decide +kernel
theorem dX8_passOneMinute_31 : decode cX8_passOneMinute 31 = .ok (.getfield 9, 3) := by decide +kernel
theorem dX8_passOneMinute_34 : decode cX8_passOneMinute 34 = .ok (.iconst 1, 1) := by decide +kernel
theorem dX8_passOneMinute_35 : decode cX8_passOneMinute 35 = .ok (.iadd, 1) := by decide +kernel
theorem dX8_passOneMinute_36 : decode cX8_passOneMinute 36 = .ok (.putfield 9, 3) := by decide +kernel
theorem dX8_passOneMinute_39 : decode cX8_passOneMinute 39 = .ok (.iconst 0, 1) := by decide +kernel
theorem dX8_passOneMinute_40 : decode cX8_passOneMinute 40 = .ok (.istore_n 2, 1) := by decide +kernel
theorem dX8_passOneMinute_41 : decode cX8_passOneMinute 41 = .ok (.iload_n 2, 1) := by decide +kernel
theorem dX8_passOneMinute_42 : decode cX8_passOneMinute 42 = .ok (.aload_n 0, 1) := by decide +kernel
theorem dX8_passOneMinute_43 : decode cX8_passOneMinute 43 = .ok (.getfield 27, 3) := by decide +kernel
theorem dX8_passOneMinute_46 : decode cX8_passOneMinute 46 = .ok (.getfield 75, 3) := by decide +kernel
theorem dX8_passOneMinute_49 : decode cX8_passOneMinute 49 = .ok (.if_icmp .ge 30, 3) := by decide +kernel
theorem dX8_passOneMinute_52 : decode cX8_passOneMinute 52 = .ok (.aload_n 0, 1) := by decide +kernel
theorem dX8_passOneMinute_53 : decode cX8_passOneMinute 53 = .ok (.getfield 41, 3) := by decide +kernel
theorem dX8_passOneMinute_56 : decode cX8_passOneMinute 56 = .ok (.iload_n 2, 1) := by decide +kernel
theorem dX8_passOneMinute_57 : decode cX8_passOneMinute 57 = .ok (.iload_n 1, 1) := by decide +kernel
theorem dX8_passOneMinute_58 : decode cX8_passOneMinute 58 = .ok (.invokevirtual 161, 3) := by decide +kernel
theorem dX8_passOneMinute_61 : decode cX8_passOneMinute 61 = .ok (.iconst (-1), 1) := by decide +kernel
theorem dX8_passOneMinute_62 : decode cX8_passOneMinute 62 = .ok (.if_icmp .ne 11, 3) := by decide +kernel
theorem dX8_passOneMinute_65 : decode cX8_passOneMinute 65 = .ok (.aload_n 0, 1) := by decide +kernel
theorem dX8_passOneMinute_66 : decode cX8_passOneMinute 66 = .ok (.getfield 27, 3) := by decide +kernel
theorem dX8_passOneMinute_69 : decode cX8_passOneMinute 69 = .ok (.iload_n 2, 1) := by decide +kernel
theorem dX8_passOneMinute_70 : decode cX8_passOneMinute 70 = .ok (.invokevirtual 164, 3) := by decide +kernel
theorem dX8_passOneMinute_73 : decode cX8_passOneMinute 73 = .ok (.iinc 2 1, 3) := by decide +kernel
theorem dX8_passOneMinute_76 : decode cX8_passOneMinute 76 = .ok (.goto (-35), 3) := by decide +kernel
theorem dX8_passOneMinute_79 : decode cX8_passOneMinute 79 = .ok (.aload_n 0, 1) := by decide +kernel
theorem dX8_passOneMinute_80 : decode cX8_passOneMinute 80 = .ok (.invokevirtual 167, 3) := by decide +kernel
theorem dX8_passOneMinute_83 : decode cX8_passOneMinute 83 = .ok (.ireturn, 1) := by decide +kernel
theorem dX8_serveQueue_0 : decode cX8_serveQueue 0 = .ok (.aload_n 0, 1) := by decide +kernel
theorem dX8_serveQueue_1 : decode cX8_serveQueue 1 = .ok (.getfield 48, 3) := by decide +kernel
theorem dX8_serveQueue_4 : decode cX8_serveQueue 4 = .ok (.getfield 140, 3) := by decide +kernel
theorem dX8_serveQueue_7 : decode cX8_serveQueue 7 = .ok (.iload_n 1, 1) := by decide +kernel
theorem dX8_serveQueue_8 : decode cX8_serveQueue 8 = .ok (.iaload, 1) := by decide +kernel
theorem dX8_serveQueue_9 : decode cX8_serveQueue 9 = .ok (.ifCond .ne 4, 3) := by decide +kernel
theorem dX8_serveQueue_12 : decode cX8_serveQueue 12 = .ok (.return_, 1) := by decide +kernel
theorem dX8_serveQueue_13 : decode cX8_serveQueue 13 = .ok (.aload_n 0, 1) := by decide +kernel
theorem dX8_serveQueue_14 : decode cX8_serveQueue 14 = .ok (.getfield 48, 3) := by decide +kernel
theorem dX8_serveQueue_17 : decode cX8_serveQueue 17 = .ok (.iload_n 1, 1) := by decide +kernel
theorem dX8_serveQueue_18 : decode cX8_serveQueue 18 = .ok (.iconst 0, 1) := by decide +kernel
theorem dX8_serveQueue_19 : decode cX8_serveQueue 19 = .ok (.invokevirtual 170, 3) := by decide +kernel
theorem dX8_serveQueue_22 : decode cX8_serveQueue 22 = .ok (.istore_n 2, 1) := by decide +kernel
theorem dX8_serveQueue_23 : decode cX8_serveQueue 23 = .ok (.aload_n 0, 1) := by decide +kernel
theorem dX8_serveQueue_24 : decode cX8_serveQueue 24 = .ok (.getfield 34, 3) := by decide +kernel
theorem dX8_serveQueue_27 : decode cX8_serveQueue 27 = .ok (.getfield 98, 3) := by decide +kernel
theorem dX8_serveQueue_30 : decode cX8_serveQueue 30 = .ok (.iload_n 2, 1) := by decide +kernel
theorem dX8_serveQueue_31 : decode cX8_serveQueue 31 = .ok (.iaload, 1) := by decide +kernel
theorem dX8_serveQueue_32 : decode cX8_serveQueue 32 = .ok (.aload_n 0, 1) := by decide +kernel
theorem dX8_serveQueue_33 : decode cX8_serveQueue 33 = .ok (.getfield 27, 3) := by decide +kernel
theorem dX8_serveQueue_36 : decode cX8_serveQueue 36 = .ok (.getfield 102, 3) := by decide +kernel
theorem dX8_serveQueue_39 : decode cX8_serveQueue 39 = .ok (.iload_n 1, 1) := by decide +kernel
theorem dX8_serveQueue_40 : decode cX8_serveQueue 40 = .ok (.iaload, 1) := by decide +kernel
theorem dX8_serveQueue_41 : decode cX8_serveQueue 41 = .ok (.if_icmp .ge 15, 3) := by decide +kernel
theorem dX8_serveQueue_44 : decode cX8_serveQueue 44 = .ok (.aload_n 0, 1) := by decide +kernel
theorem dX8_serveQueue_45 : decode cX8_serveQueue 45 = .ok (.getfield 48, 3) := by decide +kernel
theorem dX8_serveQueue_48 : decode cX8_serveQueue 48 = .ok (.iload_n 1, 1) := by decide +kernel
theorem dX8_serveQueue_49 : decode cX8_serveQueue 49 = .ok (.iload_n 2, 1) := by decide +kernel
theorem dX8_serveQueue_50 : decode cX8_serveQueue 50 = .ok (.invokevirtual 143, 3) := by decide +kernel
theorem dX8_serveQueue_53 : decode cX8_serveQueue 53 = .ok (.goto 58, 3) := by decide +kernel
theorem dX8_serveQueue_56 : decode cX8_serveQueue 56 = .ok (.aload_n 0, 1) := by decide +kernel
theorem dX8_serveQueue_57 : decode cX8_serveQueue 57 = .ok (.getfield 41, 3) := by decide +kernel
theorem dX8_serveQueue_60 : decode cX8_serveQueue 60 = .ok (.invokevirtual 94, 3) := by decide +kernel
theorem dX8_serveQueue_63 : decode cX8_serveQueue 63 = .ok (.ifCond .ne 48, 3) := by decide +kernel
theorem dX8_serveQueue_66 : decode cX8_serveQueue 66 = .ok (.aload_n 0, 1) := by decide +kernel
theorem dX8_serveQueue_67 : decode cX8_serveQueue 67 = .ok (.getfield 41, 3) := by decide +kernel
theorem dX8_serveQueue_70 : decode cX8_serveQueue 70 = .ok (.iload_n 2, 1) := by decide +kernel
theorem dX8_serveQueue_71 : decode cX8_serveQueue 71 = .ok (.iload_n 1, 1) := by decide +kernel
theorem dX8_serveQueue_72 : decode cX8_serveQueue 72 = .ok (.aload_n 0, 1) := by decide +kernel
theorem dX8_serveQueue_73 : decode cX8_serveQueue 73 = .ok (.getfield 9, 3) := by decide +kernel
theorem dX8_serveQueue_76 : decode cX8_serveQueue 76 = .ok (.aload_n 0, 1) := by decide +kernel
theorem dX8_serveQueue_77 : decode cX8_serveQueue 77 = .ok (.aload_n 0, 1) := by decide +kernel
theorem dX8_serveQueue_78 : decode cX8_serveQueue 78 = .ok (.getfield 9, 3) := by decide +kernel
theorem dX8_serveQueue_81 : decode cX8_serveQueue 81 = .ok (.iload_n 1, 1) := by decide +kernel
theorem dX8_serveQueue_82 : decode cX8_serveQueue 82 = .ok (.invokevirtual 105, 3) := by decide +kernel
theorem dX8_serveQueue_85 : decode cX8_serveQueue 85 = .ok (.invokevirtual 108, 3) := by decide +kernel
theorem dX8_serveQueue_88 : decode cX8_serveQueue 88 = .ok (.ifCond .eq 23, 3) := by decide +kernel
theorem dX8_serveQueue_91 : decode cX8_serveQueue 91 = .ok (.aload_n 0, 1) := by decide +kernel
theorem dX8_serveQueue_92 : decode cX8_serveQueue 92 = .ok (.getfield 48, 3) := by decide +kernel
theorem dX8_serveQueue_95 : decode cX8_serveQueue 95 = .ok (.iload_n 1, 1) := by decide +kernel
theorem dX8_serveQueue_96 : decode cX8_serveQueue 96 = .ok (.iload_n 2, 1) := by decide +kernel
theorem dX8_serveQueue_97 : decode cX8_serveQueue 97 = .ok (.invokevirtual 143, 3) := by decide +kernel
theorem dX8_serveQueue_100 : decode cX8_serveQueue 100 = .ok (.aload_n 0, 1) := by decide +kernel
theorem dX8_serveQueue_101 : decode cX8_serveQueue 101 = .ok (.iload_n 2, 1) := by decide +kernel
theorem dX8_serveQueue_102 : decode cX8_serveQueue 102 = .ok (.iload_n 1, 1) := by decide +kernel
theorem dX8_serveQueue_103 : decode cX8_serveQueue 103 = .ok (.aload_n 0, 1) := by decide +kernel
theorem dX8_serveQueue_104 : decode cX8_serveQueue 104 = .ok (.getfield 9, 3) := by decide +kernel
theorem dX8_serveQueue_107 : decode cX8_serveQueue 107 = .ok (.invokevirtual 112, 3) := by decide +kernel
theorem dX8_serveQueue_110 : decode cX8_serveQueue 110 = .ok (.pop, 1) := by decide +kernel
theorem dX8_serveQueue_111 : decode cX8_serveQueue 111 = .ok (.return_, 1) := by decide +kernel
theorem dX8_finishBookings_0 : decode cX8_finishBookings 0 = .ok (.aload_n 0, 1) := by decide +kernel
theorem dX8_finishBookings_1 : decode cX8_finishBookings 1 = .ok (.getfield 41, 3) := by decide +kernel
theorem dX8_finishBookings_4 : decode cX8_finishBookings 4 = .ok (.getfield 173, 3) := by decide +kernel
theorem dX8_finishBookings_7 : decode cX8_finishBookings 7 = .ok (.istore_n 1, 1) := by decide +kernel
theorem dX8_finishBookings_8 : decode cX8_finishBookings 8 = .ok (.iconst 0, 1) := by decide +kernel
theorem dX8_finishBookings_9 : decode cX8_finishBookings 9 = .ok (.istore_n 2, 1) := by decide +kernel
theorem dX8_finishBookings_10 : decode cX8_finishBookings 10 = .ok (.iconst 0, 1) := by decide +kernel
theorem dX8_finishBookings_11 : decode cX8_finishBookings 11 = .ok (.istore_n 3, 1) := by decide +kernel
theorem dX8_finishBookings_12 : decode cX8_finishBookings 12 = .ok (.iload_n 3, 1) := by decide +kernel
theorem dX8_finishBookings_13 : decode cX8_finishBookings 13 = .ok (.iload_n 1, 1) := by decide +kernel
theorem dX8_finishBookings_14 : decode cX8_finishBookings 14 = .ok (.if_icmp .ge 40, 3) := by decide +kernel
theorem dX8_finishBookings_17 : decode cX8_finishBookings 17 = .ok (.iload_n 3, 1) := by decide +kernel
theorem dX8_finishBookings_18 : decode cX8_finishBookings 18 = .ok (.iload_n 2, 1) := by decide +kernel
theorem dX8_finishBookings_19 : decode cX8_finishBookings 19 = .ok (.isub, 1) := by decide +kernel
theorem dX8_finishBookings_20 : decode cX8_finishBookings 20 = .ok (.istore 4, 2) := by decide +kernel
theorem dX8_finishBookings_22 : decode cX8_finishBookings 22 = .ok (.aload_n 0, 1) := by decide +kernel
theorem dX8_finishBookings_23 : decode cX8_finishBookings 23 = .ok (.getfield 41, 3) := by decide +kernel
theorem dX8_finishBookings_26 : decode cX8_finishBookings 26 = .ok (.getfield 174, 3) := by decide +kernel
theorem dX8_finishBookings_29 : decode cX8_finishBookings 29 = .ok (.iload 4, 2) := by decide +kernel
theorem dX8_finishBookings_31 : decode cX8_finishBookings 31 = .ok (.iaload, 1) := by decide +kernel
theorem dX8_finishBookings_32 : decode cX8_finishBookings 32 = .ok (.aload_n 0, 1) := by decide +kernel
theorem dX8_finishBookings_33 : decode cX8_finishBookings 33 = .ok (.getfield 9, 3) := by decide +kernel
theorem dX8_finishBookings_36 : decode cX8_finishBookings 36 = .ok (.if_icmp .gt 12, 3) := by decide +kernel
theorem dX8_finishBookings_39 : decode cX8_finishBookings 39 = .ok (.aload_n 0, 1) := by decide +kernel
theorem dX8_finishBookings_40 : decode cX8_finishBookings 40 = .ok (.iload 4, 2) := by decide +kernel
theorem dX8_finishBookings_42 : decode cX8_finishBookings 42 = .ok (.invokevirtual 177, 3) := by decide +kernel
theorem dX8_finishBookings_45 : decode cX8_finishBookings 45 = .ok (.iinc 2 1, 3) := by decide +kernel
theorem dX8_finishBookings_48 : decode cX8_finishBookings 48 = .ok (.iinc 3 1, 3) := by decide +kernel
theorem dX8_finishBookings_51 : decode cX8_finishBookings 51 = .ok (.goto (-39), 3) := by decide +kernel
theorem dX8_finishBookings_54 : decode cX8_finishBookings 54 = .ok (.iload_n 2, 1) := by decide +kernel
theorem dX8_finishBookings_55 : decode cX8_finishBookings 55 = .ok (.ireturn, 1) := by decide +kernel
theorem dX8_finishBooking_0 : decode cX8_finishBooking 0 = .ok (.aload_n 0, 1) := by decide +kernel
theorem dX8_finishBooking_1 : decode cX8_finishBooking 1 = .ok (.getfield 41, 3) := by decide +kernel
theorem dX8_finishBooking_4 : decode cX8_finishBooking 4 = .ok (.getfield 120, 3) := by decide +kernel
theorem dX8_finishBooking_7 : decode cX8_finishBooking 7 = .ok (.iload_n 1, 1) := by decide +kernel
theorem dX8_finishBooking_8 : decode cX8_finishBooking 8 = .ok (.iaload, 1) := by decide +kernel
theorem dX8_finishBooking_9 : decode cX8_finishBooking 9 = .ok (.istore_n 2, 1) := by decide +kernel
theorem dX8_finishBooking_10 : decode cX8_finishBooking 10 = .ok (.aload_n 0, 1) := by decide +kernel
theorem dX8_finishBooking_11 : decode cX8_finishBooking 11 = .ok (.getfield 41, 3) := by decide +kernel
theorem dX8_finishBooking_14 : decode cX8_finishBooking 14 = .ok (.getfield 122, 3) := by decide +kernel
theorem dX8_finishBooking_17 : decode cX8_finishBooking 17 = .ok (.iload_n 1, 1) := by decide +kernel
theorem dX8_finishBooking_18 : decode cX8_finishBooking 18 = .ok (.iaload, 1) := by decide +kernel
theorem dX8_finishBooking_19 : decode cX8_finishBooking 19 = .ok (.istore_n 3, 1) := by decide +kernel
theorem dX8_finishBooking_20 : decode cX8_finishBooking 20 = .ok (.aload_n 0, 1) := by decide +kernel
theorem dX8_finishBooking_21 : decode cX8_finishBooking 21 = .ok (.getfield 27, 3) := by decide +kernel
theorem dX8_finishBooking_24 : decode cX8_finishBooking 24 = .ok (.getfield 180, 3) := by decide +kernel
theorem dX8_finishBooking_27 : decode cX8_finishBooking 27 = .ok (.iload_n 3, 1) := by decide +kernel
theorem dX8_finishBooking_28 : decode cX8_finishBooking 28 = .ok (.iaload, 1) := by decide +kernel
theorem dX8_finishBooking_29 : decode cX8_finishBooking 29 = .ok (.iconst 5, 1) := by decide +kernel
theorem dX8_finishBooking_30 : decode cX8_finishBooking 30 = .ok (.if_icmp .lt 29, 3) := by decide +kernel
theorem dX8_finishBooking_33 : decode cX8_finishBooking 33 = .ok (.aload_n 0, 1) := by decide +kernel
theorem dX8_finishBooking_34 : decode cX8_finishBooking 34 = .ok (.dup, 1) := by decide +kernel
theorem dX8_finishBooking_35 : decode cX8_finishBooking 35 = .ok (.getfield 21, 3) := by decide +kernel
theorem dX8_finishBooking_38 : decode cX8_finishBooking 38 = .ok (.iconst 1, 1) := by decide +kernel
theorem dX8_finishBooking_39 : decode cX8_finishBooking 39 = .ok (.iadd, 1) := by decide +kernel
theorem dX8_finishBooking_40 : decode cX8_finishBooking 40 = .ok (.putfield 21, 3) := by decide +kernel
theorem dX8_finishBooking_43 : decode cX8_finishBooking 43 = .ok (.aload_n 0, 1) := by decide +kernel
theorem dX8_finishBooking_44 : decode cX8_finishBooking 44 = .ok (.iload_n 2, 1) := by decide +kernel
theorem dX8_finishBooking_45 : decode cX8_finishBooking 45 = .ok (.aload_n 0, 1) := by decide +kernel
theorem dX8_finishBooking_46 : decode cX8_finishBooking 46 = .ok (.getfield 27, 3) := by decide +kernel
theorem dX8_finishBooking_49 : decode cX8_finishBooking 49 = .ok (.getfield 102, 3) := by decide +kernel
theorem dX8_finishBooking_52 : decode cX8_finishBooking 52 = .ok (.iload_n 3, 1) := by decide +kernel
theorem dX8_finishBooking_53 : decode cX8_finishBooking 53 = .ok (.iaload, 1) := by decide +kernel
theorem dX8_finishBooking_54 : decode cX8_finishBooking 54 = .ok (.iconst 2, 1) := by decide +kernel
theorem dX8_finishBooking_55 : decode cX8_finishBooking 55 = .ok (.idiv, 1) := by decide +kernel
theorem dX8_finishBooking_56 : decode cX8_finishBooking 56 = .ok (.invokevirtual 124, 3) := by decide +kernel
theorem dX8_finishBooking_59 : decode cX8_finishBooking 59 = .ok (.aload_n 0, 1) := by decide +kernel
theorem dX8_finishBooking_60 : decode cX8_finishBooking 60 = .ok (.getfield 27, 3) := by decide +kernel
theorem dX8_finishBooking_63 : decode cX8_finishBooking 63 = .ok (.iload_n 3, 1) := by decide +kernel
theorem dX8_finishBooking_64 : decode cX8_finishBooking 64 = .ok (.invokevirtual 183, 3) := by decide +kernel
theorem dX8_finishBooking_67 : decode cX8_finishBooking 67 = .ok (.aload_n 0, 1) := by decide +kernel
theorem dX8_finishBooking_68 : decode cX8_finishBooking 68 = .ok (.getfield 34, 3) := by decide +kernel
theorem dX8_finishBooking_71 : decode cX8_finishBooking 71 = .ok (.getfield 186, 3) := by decide +kernel
theorem dX8_finishBooking_74 : decode cX8_finishBooking 74 = .ok (.iload_n 2, 1) := by decide +kernel
theorem dX8_finishBooking_75 : decode cX8_finishBooking 75 = .ok (.dup2, 1) := by decide +kernel
theorem dX8_finishBooking_76 : decode cX8_finishBooking 76 = .ok (.iaload, 1) := by decide +kernel
theorem dX8_finishBooking_77 : decode cX8_finishBooking 77 = .ok (.iconst 1, 1) := by decide +kernel
theorem dX8_finishBooking_78 : decode cX8_finishBooking 78 = .ok (.iadd, 1) := by decide +kernel
theorem dX8_finishBooking_79 : decode cX8_finishBooking 79 = .ok (.iastore, 1) := by decide +kernel
theorem dX8_finishBooking_80 : decode cX8_finishBooking 80 = .ok (.aload_n 0, 1) := by decide +kernel
theorem dX8_finishBooking_81 : decode cX8_finishBooking 81 = .ok (.getfield 55, 3) := by decide +kernel
theorem dX8_finishBooking_84 : decode cX8_finishBooking 84 = .ok (.iload_n 2, 1) := by decide +kernel
theorem dX8_finishBooking_85 : decode cX8_finishBooking 85 = .ok (.iload_n 3, 1) := by decide +kernel
theorem dX8_finishBooking_86 : decode cX8_finishBooking 86 = .ok (.aload_n 0, 1) := by decide +kernel
theorem dX8_finishBooking_87 : decode cX8_finishBooking 87 = .ok (.getfield 9, 3) := by decide +kernel
theorem dX8_finishBooking_90 : decode cX8_finishBooking 90 = .ok (.invokevirtual 189, 3) := by decide +kernel
theorem dX8_finishBooking_93 : decode cX8_finishBooking 93 = .ok (.aload_n 0, 1) := by decide +kernel
theorem dX8_finishBooking_94 : decode cX8_finishBooking 94 = .ok (.getfield 41, 3) := by decide +kernel
theorem dX8_finishBooking_97 : decode cX8_finishBooking 97 = .ok (.iload_n 1, 1) := by decide +kernel
theorem dX8_finishBooking_98 : decode cX8_finishBooking 98 = .ok (.invokevirtual 128, 3) := by decide +kernel
theorem dX8_finishBooking_101 : decode cX8_finishBooking 101 = .ok (.return_, 1) := by decide +kernel
theorem dX8_freeMinuteByTrying_0 : decode cX8_freeMinuteByTrying 0 = .ok (.iload_n 2, 1) := by decide +kernel
theorem dX8_freeMinuteByTrying_1 : decode cX8_freeMinuteByTrying 1 = .ok (.istore_n 3, 1) := by decide +kernel
theorem dX8_freeMinuteByTrying_2 : decode cX8_freeMinuteByTrying 2 = .ok (.iload_n 3, 1) := by decide +kernel
theorem dX8_freeMinuteByTrying_3 : decode cX8_freeMinuteByTrying 3 = .ok (.aload_n 0, 1) := by decide +kernel
theorem dX8_freeMinuteByTrying_4 : decode cX8_freeMinuteByTrying 4 = .ok (.getfield 9, 3) := by decide +kernel
theorem dX8_freeMinuteByTrying_7 : decode cX8_freeMinuteByTrying 7 = .ok (.bipush 120, 2) := by decide +kernel
theorem dX8_freeMinuteByTrying_9 : decode cX8_freeMinuteByTrying 9 = .ok (.iadd, 1) := by decide +kernel
theorem dX8_freeMinuteByTrying_10 : decode cX8_freeMinuteByTrying 10 = .ok (.if_icmp .gt 20, 3) := by decide +kernel
theorem dX8_freeMinuteByTrying_13 : decode cX8_freeMinuteByTrying 13 = .ok (.aload_n 0, 1) := by decide +kernel
theorem dX8_freeMinuteByTrying_14 : decode cX8_freeMinuteByTrying 14 = .ok (.iload_n 1, 1) := by decide +kernel
theorem dX8_freeMinuteByTrying_15 : decode cX8_freeMinuteByTrying 15 = .ok (.iload_n 3, 1) := by decide +kernel
theorem dX8_freeMinuteByTrying_16 : decode cX8_freeMinuteByTrying 16 = .ok (.invokevirtual 192, 3) := by decide +kernel
theorem dX8_freeMinuteByTrying_19 : decode cX8_freeMinuteByTrying 19 = .ok (.ifCond .eq 5, 3) := by decide +kernel
theorem dX8_freeMinuteByTrying_22 : decode cX8_freeMinuteByTrying 22 = .ok (.iload_n 3, 1) := by decide +kernel
theorem dX8_freeMinuteByTrying_23 : decode cX8_freeMinuteByTrying 23 = .ok (.ireturn, 1) := by decide +kernel
theorem dX8_freeMinuteByTrying_24 : decode cX8_freeMinuteByTrying 24 = .ok (.iinc 3 1, 3) := by decide +kernel
theorem dX8_freeMinuteByTrying_27 : decode cX8_freeMinuteByTrying 27 = .ok (.goto (-25), 3) := by decide +kernel
theorem dX8_freeMinuteByTrying_30 : decode cX8_freeMinuteByTrying 30 = .ok (.iconst (-1), 1) := by decide +kernel
theorem dX8_freeMinuteByTrying_31 : decode cX8_freeMinuteByTrying 31 = .ok (.ireturn, 1) := by decide +kernel
theorem dX8_freeMinuteByGaps_0 : decode cX8_freeMinuteByGaps 0 = .ok (.iload_n 2, 1) := by decide +kernel
theorem dX8_freeMinuteByGaps_1 : decode cX8_freeMinuteByGaps 1 = .ok (.istore_n 3, 1) := by decide +kernel
theorem dX8_freeMinuteByGaps_2 : decode cX8_freeMinuteByGaps 2 = .ok (.iconst (-1), 1) := by decide +kernel
theorem dX8_freeMinuteByGaps_3 : decode cX8_freeMinuteByGaps 3 = .ok (.istore 4, 2) := by decide +kernel
theorem dX8_freeMinuteByGaps_5 : decode cX8_freeMinuteByGaps 5 = .ok (.iconst 0, 1) := by decide +kernel
theorem dX8_freeMinuteByGaps_6 : decode cX8_freeMinuteByGaps 6 = .ok (.istore 5, 2) := by decide +kernel
theorem dX8_freeMinuteByGaps_8 : decode cX8_freeMinuteByGaps 8 = .ok (.iload 5, 2) := by decide +kernel
theorem dX8_freeMinuteByGaps_10 : decode cX8_freeMinuteByGaps 10 = .ok (.aload_n 0, 1) := by decide +kernel
theorem dX8_freeMinuteByGaps_11 : decode cX8_freeMinuteByGaps 11 = .ok (.getfield 41, 3) := by decide +kernel
theorem dX8_freeMinuteByGaps_14 : decode cX8_freeMinuteByGaps 14 = .ok (.getfield 173, 3) := by decide +kernel
theorem dX8_freeMinuteByGaps_17 : decode cX8_freeMinuteByGaps 17 = .ok (.if_icmp .ge 76, 3) := by decide +kernel
theorem dX8_freeMinuteByGaps_20 : decode cX8_freeMinuteByGaps 20 = .ok (.aload_n 0, 1) := by decide +kernel
theorem dX8_freeMinuteByGaps_21 : decode cX8_freeMinuteByGaps 21 = .ok (.getfield 41, 3) := by decide +kernel
theorem dX8_freeMinuteByGaps_24 : decode cX8_freeMinuteByGaps 24 = .ok (.iload_n 1, 1) := by decide +kernel
theorem dX8_freeMinuteByGaps_25 : decode cX8_freeMinuteByGaps 25 = .ok (.iload 4, 2) := by decide +kernel
theorem dX8_freeMinuteByGaps_27 : decode cX8_freeMinuteByGaps 27 = .ok (.invokevirtual 195, 3) := by decide +kernel
theorem dX8_freeMinuteByGaps_30 : decode cX8_freeMinuteByGaps 30 = .ok (.istore 6, 2) := by decide +kernel
theorem dX8_freeMinuteByGaps_32 : decode cX8_freeMinuteByGaps 32 = .ok (.iload 6, 2) := by decide +kernel
theorem dX8_freeMinuteByGaps_34 : decode cX8_freeMinuteByGaps 34 = .ok (.iconst (-1), 1) := by decide +kernel
theorem dX8_freeMinuteByGaps_35 : decode cX8_freeMinuteByGaps 35 = .ok (.if_icmp .eq 58, 3) := by decide +kernel
theorem dX8_freeMinuteByGaps_38 : decode cX8_freeMinuteByGaps 38 = .ok (.aload_n 0, 1) := by decide +kernel
theorem dX8_freeMinuteByGaps_39 : decode cX8_freeMinuteByGaps 39 = .ok (.getfield 41, 3) := by decide +kernel
theorem dX8_freeMinuteByGaps_42 : decode cX8_freeMinuteByGaps 42 = .ok (.getfield 117, 3) := by decide +kernel
theorem dX8_freeMinuteByGaps_45 : decode cX8_freeMinuteByGaps 45 = .ok (.iload 6, 2) := by decide +kernel
theorem dX8_freeMinuteByGaps_47 : decode cX8_freeMinuteByGaps 47 = .ok (.iaload, 1) := by decide +kernel
theorem dX8_freeMinuteByGaps_48 : decode cX8_freeMinuteByGaps 48 = .ok (.aload_n 0, 1) := by decide +kernel
theorem dX8_freeMinuteByGaps_49 : decode cX8_freeMinuteByGaps 49 = .ok (.iload_n 3, 1) := by decide +kernel
theorem dX8_freeMinuteByGaps_50 : decode cX8_freeMinuteByGaps 50 = .ok (.iload_n 1, 1) := by decide +kernel
theorem dX8_freeMinuteByGaps_51 : decode cX8_freeMinuteByGaps 51 = .ok (.invokevirtual 105, 3) := by decide +kernel
theorem dX8_freeMinuteByGaps_54 : decode cX8_freeMinuteByGaps 54 = .ok (.if_icmp .lt 6, 3) := by decide +kernel
theorem dX8_freeMinuteByGaps_57 : decode cX8_freeMinuteByGaps 57 = .ok (.goto 36, 3) := by decide +kernel
theorem dX8_freeMinuteByGaps_60 : decode cX8_freeMinuteByGaps 60 = .ok (.aload_n 0, 1) := by decide +kernel
theorem dX8_freeMinuteByGaps_61 : decode cX8_freeMinuteByGaps 61 = .ok (.getfield 41, 3) := by decide +kernel
theorem dX8_freeMinuteByGaps_64 : decode cX8_freeMinuteByGaps 64 = .ok (.getfield 117, 3) := by decide +kernel
theorem dX8_freeMinuteByGaps_67 : decode cX8_freeMinuteByGaps 67 = .ok (.iload 6, 2) := by decide +kernel
theorem dX8_freeMinuteByGaps_69 : decode cX8_freeMinuteByGaps 69 = .ok (.iaload, 1) := by decide +kernel
theorem dX8_freeMinuteByGaps_70 : decode cX8_freeMinuteByGaps 70 = .ok (.istore 4, 2) := by decide +kernel
theorem dX8_freeMinuteByGaps_72 : decode cX8_freeMinuteByGaps 72 = .ok (.iload_n 3, 1) := by decide +kernel
theorem dX8_freeMinuteByGaps_73 : decode cX8_freeMinuteByGaps 73 = .ok (.aload_n 0, 1) := by decide +kernel
theorem dX8_freeMinuteByGaps_74 : decode cX8_freeMinuteByGaps 74 = .ok (.getfield 41, 3) := by decide +kernel
theorem dX8_freeMinuteByGaps_77 : decode cX8_freeMinuteByGaps 77 = .ok (.getfield 174, 3) := by decide +kernel
theorem dX8_freeMinuteByGaps_80 : decode cX8_freeMinuteByGaps 80 = .ok (.iload 6, 2) := by decide +kernel
theorem dX8_freeMinuteByGaps_82 : decode cX8_freeMinuteByGaps 82 = .ok (.iaload, 1) := by decide +kernel
theorem dX8_freeMinuteByGaps_83 : decode cX8_freeMinuteByGaps 83 = .ok (.invokestatic 198, 3) := by decide +kernel
theorem dX8_freeMinuteByGaps_86 : decode cX8_freeMinuteByGaps 86 = .ok (.istore_n 3, 1) := by decide +kernel
theorem dX8_freeMinuteByGaps_87 : decode cX8_freeMinuteByGaps 87 = .ok (.iinc 5 1, 3) := by decide +kernel
theorem dX8_freeMinuteByGaps_90 : decode cX8_freeMinuteByGaps 90 = .ok (.goto (-82), 3) := by decide +kernel
theorem dX8_freeMinuteByGaps_93 : decode cX8_freeMinuteByGaps 93 = .ok (.iload_n 3, 1) := by decide +kernel
theorem dX8_freeMinuteByGaps_94 : decode cX8_freeMinuteByGaps 94 = .ok (.aload_n 0, 1) := by decide +kernel
theorem dX8_freeMinuteByGaps_95 : decode cX8_freeMinuteByGaps 95 = .ok (.getfield 9, 3) := by decide +kernel
theorem dX8_freeMinuteByGaps_98 : decode cX8_freeMinuteByGaps 98 = .ok (.bipush 120, 2) := by decide +kernel
theorem dX8_freeMinuteByGaps_100 : decode cX8_freeMinuteByGaps 100 = .ok (.iadd, 1) := by decide +kernel
theorem dX8_freeMinuteByGaps_101 : decode cX8_freeMinuteByGaps 101 = .ok (.if_icmp .gt 7, 3) := by decide +kernel
theorem dX8_freeMinuteByGaps_104 : decode cX8_freeMinuteByGaps 104 = .ok (.iload_n 3, 1) := by decide +kernel
theorem dX8_freeMinuteByGaps_105 : decode cX8_freeMinuteByGaps 105 = .ok (.goto 4, 3) := by decide +kernel
theorem dX8_freeMinuteByGaps_108 : decode cX8_freeMinuteByGaps 108 = .ok (.iconst (-1), 1) := by decide +kernel
theorem dX8_freeMinuteByGaps_109 : decode cX8_freeMinuteByGaps 109 = .ok (.ireturn, 1) := by decide +kernel
theorem dX8_busySlides_0 : decode cX8_busySlides 0 = .ok (.iconst 0, 1) := by decide +kernel
theorem dX8_busySlides_1 : decode cX8_busySlides 1 = .ok (.istore_n 1, 1) := by decide +kernel
theorem dX8_busySlides_2 : decode cX8_busySlides 2 = .ok (.iconst 0, 1) := by decide +kernel
theorem dX8_busySlides_3 : decode cX8_busySlides 3 = .ok (.istore_n 2, 1) := by decide +kernel
theorem dX8_busySlides_4 : decode cX8_busySlides 4 = .ok (.iload_n 2, 1) := by decide +kernel
theorem dX8_busySlides_5 : decode cX8_busySlides 5 = .ok (.aload_n 0, 1) := by decide +kernel
theorem dX8_busySlides_6 : decode cX8_busySlides 6 = .ok (.getfield 27, 3) := by decide +kernel
theorem dX8_busySlides_9 : decode cX8_busySlides 9 = .ok (.getfield 75, 3) := by decide +kernel
theorem dX8_busySlides_12 : decode cX8_busySlides 12 = .ok (.if_icmp .ge 28, 3) := by decide +kernel
theorem dX8_busySlides_15 : decode cX8_busySlides 15 = .ok (.aload_n 0, 1) := by decide +kernel
theorem dX8_busySlides_16 : decode cX8_busySlides 16 = .ok (.getfield 41, 3) := by decide +kernel
theorem dX8_busySlides_19 : decode cX8_busySlides 19 = .ok (.iload_n 2, 1) := by decide +kernel
theorem dX8_busySlides_20 : decode cX8_busySlides 20 = .ok (.aload_n 0, 1) := by decide +kernel
theorem dX8_busySlides_21 : decode cX8_busySlides 21 = .ok (.getfield 9, 3) := by decide +kernel
theorem dX8_busySlides_24 : decode cX8_busySlides 24 = .ok (.invokevirtual 161, 3) := by decide +kernel
theorem dX8_busySlides_27 : decode cX8_busySlides 27 = .ok (.iconst (-1), 1) := by decide +kernel
theorem dX8_busySlides_28 : decode cX8_busySlides 28 = .ok (.if_icmp .eq 6, 3) := by decide +kernel
theorem dX8_busySlides_31 : decode cX8_busySlides 31 = .ok (.iinc 1 1, 3) := by decide +kernel
theorem dX8_busySlides_34 : decode cX8_busySlides 34 = .ok (.iinc 2 1, 3) := by decide +kernel
theorem dX8_busySlides_37 : decode cX8_busySlides 37 = .ok (.goto (-33), 3) := by decide +kernel
theorem dX8_busySlides_40 : decode cX8_busySlides 40 = .ok (.iload_n 1, 1) := by decide +kernel
theorem dX8_busySlides_41 : decode cX8_busySlides 41 = .ok (.ireturn, 1) := by decide +kernel
theorem dX9_init_0 : decode cX9_init 0 = .ok (.aload_n 0, 1) := by decide +kernel
theorem dX9_init_1 : decode cX9_init 1 = .ok (.invokespecial 3, 3) := by decide +kernel
theorem dX9_init_4 : decode cX9_init 4 = .ok (.aload_n 0, 1) := by decide +kernel
theorem dX9_init_5 : decode cX9_init 5 = .ok (.iconst 4, 1) := by decide +kernel
theorem dX9_init_6 : decode cX9_init 6 = .ok (.newarray .int, 2) := by decide +kernel
theorem dX9_init_8 : decode cX9_init 8 = .ok (.putfield 9, 3) := by decide +kernel
theorem dX9_init_11 : decode cX9_init 11 = .ok (.aload_n 0, 1) := by decide +kernel
theorem dX9_init_12 : decode cX9_init 12 = .ok (.bipush 20, 2) := by decide +kernel
theorem dX9_init_14 : decode cX9_init 14 = .ok (.newarray .int, 2) := by decide +kernel
theorem dX9_init_16 : decode cX9_init 16 = .ok (.putfield 15, 3) := by decide +kernel
theorem dX9_init_19 : decode cX9_init 19 = .ok (.return_, 1) := by decide +kernel
theorem dX9_copyFrom_0 : decode cX9_copyFrom 0 = .ok (.aload_n 1, 1) := by decide +kernel
theorem dX9_copyFrom_1 : decode cX9_copyFrom 1 = .ok (.getfield 9, 3) := by decide +kernel
theorem dX9_copyFrom_4 : decode cX9_copyFrom 4 = .ok (.iconst 0, 1) := by decide +kernel
theorem dX9_copyFrom_5 : decode cX9_copyFrom 5 = .ok (.aload_n 0, 1) := by decide +kernel
theorem dX9_copyFrom_6 : decode cX9_copyFrom 6 = .ok (.getfield 9, 3) := by decide +kernel
theorem dX9_copyFrom_9 : decode cX9_copyFrom 9 = .ok (.iconst 0, 1) := by decide +kernel
theorem dX9_copyFrom_10 : decode cX9_copyFrom 10 = .ok (.iconst 4, 1) := by decide +kernel
theorem dX9_copyFrom_11 : decode cX9_copyFrom 11 = .ok (.invokestatic 18, 3) := by decide +kernel
theorem dX9_copyFrom_14 : decode cX9_copyFrom 14 = .ok (.aload_n 1, 1) := by decide +kernel
theorem dX9_copyFrom_15 : decode cX9_copyFrom 15 = .ok (.getfield 15, 3) := by decide +kernel
theorem dX9_copyFrom_18 : decode cX9_copyFrom 18 = .ok (.iconst 0, 1) := by decide +kernel
theorem dX9_copyFrom_19 : decode cX9_copyFrom 19 = .ok (.aload_n 0, 1) := by decide +kernel
theorem dX9_copyFrom_20 : decode cX9_copyFrom 20 = .ok (.getfield 15, 3) := by decide +kernel
theorem dX9_copyFrom_23 : decode cX9_copyFrom 23 = .ok (.iconst 0, 1) := by decide +kernel
theorem dX9_copyFrom_24 : decode cX9_copyFrom 24 = .ok (.bipush 20, 2) := by decide +kernel
theorem dX9_copyFrom_26 : decode cX9_copyFrom 26 = .ok (.invokestatic 18, 3) := by decide +kernel
theorem dX9_copyFrom_29 : decode cX9_copyFrom 29 = .ok (.return_, 1) := by decide +kernel
theorem dX9_isFull_0 : decode cX9_isFull 0 = .ok (.aload_n 0, 1) := by decide +kernel
theorem dX9_isFull_1 : decode cX9_isFull 1 = .ok (.getfield 9, 3) := by decide +kernel
theorem dX9_isFull_4 : decode cX9_isFull 4 = .ok (.iload_n 1, 1) := by decide +kernel
theorem dX9_isFull_5 : decode cX9_isFull 5 = .ok (.iaload, 1) := by decide +kernel
theorem dX9_isFull_6 : decode cX9_isFull 6 = .ok (.iconst 5, 1) := by decide +kernel
theorem dX9_isFull_7 : decode cX9_isFull 7 = .ok (.if_icmp .lt 7, 3) := by decide +kernel
theorem dX9_isFull_10 : decode cX9_isFull 10 = .ok (.iconst 1, 1) := by decide +kernel
theorem dX9_isFull_11 : decode cX9_isFull 11 = .ok (.goto 4, 3) := by decide +kernel
theorem dX9_isFull_14 : decode cX9_isFull 14 = .ok (.iconst 0, 1) := by decide +kernel
theorem dX9_isFull_15 : decode cX9_isFull 15 = .ok (.ireturn, 1) := by decide +kernel
theorem dX9_guestAt_0 : decode cX9_guestAt 0 = .ok (.aload_n 0, 1) := by decide +kernel
theorem dX9_guestAt_1 : decode cX9_guestAt 1 = .ok (.getfield 15, 3) := by decide +kernel
theorem dX9_guestAt_4 : decode cX9_guestAt 4 = .ok (.iload_n 1, 1) := by decide +kernel
theorem dX9_guestAt_5 : decode cX9_guestAt 5 = .ok (.iconst 5, 1) := by decide +kernel
theorem dX9_guestAt_6 : decode cX9_guestAt 6 = .ok (.imul, 1) := by decide +kernel
theorem dX9_guestAt_7 : decode cX9_guestAt 7 = .ok (.iload_n 2, 1) := by decide +kernel
theorem dX9_guestAt_8 : decode cX9_guestAt 8 = .ok (.iadd, 1) := by decide +kernel
theorem dX9_guestAt_9 : decode cX9_guestAt 9 = .ok (.iaload, 1) := by decide +kernel
theorem dX9_guestAt_10 : decode cX9_guestAt 10 = .ok (.ireturn, 1) := by decide +kernel
theorem dX9_slideOf_0 : decode cX9_slideOf 0 = .ok (.iconst 0, 1) := by decide +kernel
theorem dX9_slideOf_1 : decode cX9_slideOf 1 = .ok (.istore_n 2, 1) := by decide +kernel
theorem dX9_slideOf_2 : decode cX9_slideOf 2 = .ok (.iload_n 2, 1) := by decide +kernel
theorem dX9_slideOf_3 : decode cX9_slideOf 3 = .ok (.iconst 4, 1) := by decide +kernel
theorem dX9_slideOf_4 : decode cX9_slideOf 4 = .ok (.if_icmp .ge 39, 3) := by decide +kernel
theorem dX9_slideOf_7 : decode cX9_slideOf 7 = .ok (.iconst 0, 1) := by decide +kernel
theorem dX9_slideOf_8 : decode cX9_slideOf 8 = .ok (.istore_n 3, 1) := by decide +kernel
theorem dX9_slideOf_9 : decode cX9_slideOf 9 = .ok (.iload_n 3, 1) := by decide +kernel
theorem dX9_slideOf_10 : decode cX9_slideOf 10 = .ok (.aload_n 0, 1) := by decide +kernel
theorem dX9_slideOf_11 : decode cX9_slideOf 11 = .ok (.getfield 9, 3) := by decide +kernel
theorem dX9_slideOf_14 : decode cX9_slideOf 14 = .ok (.iload_n 2, 1) := by decide +kernel
theorem dX9_slideOf_15 : decode cX9_slideOf 15 = .ok (.iaload, 1) := by decide +kernel
theorem dX9_slideOf_16 : decode cX9_slideOf 16 = .ok (.if_icmp .ge 21, 3) := by decide +kernel
theorem dX9_slideOf_19 : decode cX9_slideOf 19 = .ok (.aload_n 0, 1) := by decide +kernel
theorem dX9_slideOf_20 : decode cX9_slideOf 20 = .ok (.iload_n 2, 1) := by decide +kernel
theorem dX9_slideOf_21 : decode cX9_slideOf 21 = .ok (.iload_n 3, 1) := by decide +kernel
theorem dX9_slideOf_22 : decode cX9_slideOf 22 = .ok (.invokevirtual 24, 3) := by decide +kernel
theorem dX9_slideOf_25 : decode cX9_slideOf 25 = .ok (.iload_n 1, 1) := by decide +kernel
theorem dX9_slideOf_26 : decode cX9_slideOf 26 = .ok (.if_icmp .ne 5, 3) := by decide +kernel
theorem dX9_slideOf_29 : decode cX9_slideOf 29 = .ok (.iload_n 2, 1) := by decide +kernel
theorem dX9_slideOf_30 : decode cX9_slideOf 30 = .ok (.ireturn, 1) := by decide +kernel
theorem dX9_slideOf_31 : decode cX9_slideOf 31 = .ok (.iinc 3 1, 3) := by decide +kernel
theorem dX9_slideOf_34 : decode cX9_slideOf 34 = .ok (.goto (-25), 3) := by decide +kernel
theorem dX9_slideOf_37 : decode cX9_slideOf 37 = .ok (.iinc 2 1, 3) := by decide +kernel
theorem dX9_slideOf_40 : decode cX9_slideOf 40 = .ok (.goto (-38), 3) := by decide +kernel
theorem dX9_slideOf_43 : decode cX9_slideOf 43 = .ok (.iconst (-1), 1) := by decide +kernel
theorem dX9_slideOf_44 : decode cX9_slideOf 44 = .ok (.ireturn, 1) := by decide +kernel
theorem dX9_append_0 : decode cX9_append 0 = .ok (.aload_n 0, 1) := by decide +kernel
theorem dX9_append_1 : decode cX9_append 1 = .ok (.getfield 15, 3) := by decide +kernel
theorem dX9_append_4 : decode cX9_append 4 = .ok (.iload_n 1, 1) := by decide +kernel
theorem dX9_append_5 : decode cX9_append 5 = .ok (.iconst 5, 1) := by decide +kernel
theorem dX9_append_6 : decode cX9_append 6 = .ok (.imul, 1) := by decide +kernel
theorem dX9_append_7 : decode cX9_append 7 = .ok (.aload_n 0, 1) := by decide +kernel
theorem dX9_append_8 : decode cX9_append 8 = .ok (.getfield 9, 3) := by decide +kernel
theorem dX9_append_11 : decode cX9_append 11 = .ok (.iload_n 1, 1) := by decide +kernel
theorem dX9_append_12 : decode cX9_append 12 = .ok (.iaload, 1) := by decide +kernel
theorem dX9_append_13 : decode cX9_append 13 = .ok (.iadd, 1) := by decide +kernel
theorem dX9_append_14 : decode cX9_append 14 = .ok (.iload_n 2, 1) := by decide +kernel
theorem dX9_append_15 : decode cX9_append 15 = .ok (.iastore, 1) := by decide +kernel
theorem dX9_append_16 : decode cX9_append 16 = .ok (.aload_n 0, 1) := by decide +kernel
theorem dX9_append_17 : decode cX9_append 17 = .ok (.getfield 9, 3) := by decide +kernel
theorem dX9_append_20 : decode cX9_append 20 = .ok (.iload_n 1, 1) := by decide +kernel
theorem dX9_append_21 : decode cX9_append 21 = .ok (.dup2, 1) := by decide +kernel
theorem dX9_append_22 : decode cX9_append 22 = .ok (.iaload, 1) := by decide +kernel
theorem dX9_append_23 : decode cX9_append 23 = .ok (.iconst 1, 1) := by decide +kernel
theorem dX9_append_24 : decode cX9_append 24 = .ok (.iadd, 1) := by decide +kernel
theorem dX9_append_25 : decode cX9_append 25 = .ok (.iastore, 1) := by decide +kernel
theorem dX9_append_26 : decode cX9_append 26 = .ok (.return_, 1) := by decide +kernel
theorem dX9_remove_0 : decode cX9_remove 0 = .ok (.iload_n 1, 1) := by decide +kernel
theorem dX9_remove_1 : decode cX9_remove 1 = .ok (.iconst 5, 1) := by decide +kernel
theorem dX9_remove_2 : decode cX9_remove 2 = .ok (.imul, 1) := by decide +kernel
theorem dX9_remove_3 : decode cX9_remove 3 = .ok (.istore_n 3, 1) := by decide +kernel
theorem dX9_remove_4 : decode cX9_remove 4 = .ok (.iconst 0, 1) := by decide +kernel
theorem dX9_remove_5 : decode cX9_remove 5 = .ok (.istore 4, 2) := by decide +kernel
theorem dX9_remove_7 : decode cX9_remove 7 = .ok (.iconst 0, 1) := by decide +kernel
theorem dX9_remove_8 : decode cX9_remove 8 = .ok (.istore 5, 2) := by decide +kernel
theorem dX9_remove_10 : decode cX9_remove 10 = .ok (.iload 5, 2) := by decide +kernel
theorem dX9_remove_12 : decode cX9_remove 12 = .ok (.aload_n 0, 1) := by decide +kernel
theorem dX9_remove_13 : decode cX9_remove 13 = .ok (.getfield 9, 3) := by decide +kernel
theorem dX9_remove_16 : decode cX9_remove 16 = .ok (.iload_n 1, 1) := by decide +kernel
theorem dX9_remove_17 : decode cX9_remove 17 = .ok (.iaload, 1) := by decide +kernel
theorem dX9_remove_18 : decode cX9_remove 18 = .ok (.if_icmp .ge 43, 3) := by decide +kernel
theorem dX9_remove_21 : decode cX9_remove 21 = .ok (.aload_n 0, 1) := by decide +kernel
theorem dX9_remove_22 : decode cX9_remove 22 = .ok (.getfield 15, 3) := by decide +kernel
theorem dX9_remove_25 : decode cX9_remove 25 = .ok (.iload_n 3, 1) := by decide +kernel
theorem dX9_remove_26 : decode cX9_remove 26 = .ok (.iload 5, 2) := by decide +kernel
theorem dX9_remove_28 : decode cX9_remove 28 = .ok (.iadd, 1) := by decide +kernel
theorem dX9_remove_29 : decode cX9_remove 29 = .ok (.iaload, 1) := by decide +kernel
theorem dX9_remove_30 : decode cX9_remove 30 = .ok (.iload_n 2, 1) := by decide +kernel
theorem dX9_remove_31 : decode cX9_remove 31 = .ok (.if_icmp .eq 24, 3) := by decide +kernel
theorem dX9_remove_34 : decode cX9_remove 34 = .ok (.aload_n 0, 1) := by decide +kernel
theorem dX9_remove_35 : decode cX9_remove 35 = .ok (.getfield 15, 3) := by decide +kernel
theorem dX9_remove_38 : decode cX9_remove 38 = .ok (.iload_n 3, 1) := by decide +kernel
theorem dX9_remove_39 : decode cX9_remove 39 = .ok (.iload 4, 2) := by decide +kernel
theorem dX9_remove_41 : decode cX9_remove 41 = .ok (.iadd, 1) := by decide +kernel
theorem dX9_remove_42 : decode cX9_remove 42 = .ok (.aload_n 0, 1) := by decide +kernel
theorem dX9_remove_43 : decode cX9_remove 43 = .ok (.getfield 15, 3) := by decide +kernel
theorem dX9_remove_46 : decode cX9_remove 46 = .ok (.iload_n 3, 1) := by decide +kernel
theorem dX9_remove_47 : decode cX9_remove 47 = .ok (.iload 5, 2) := by decide +kernel
theorem dX9_remove_49 : decode cX9_remove 49 = .ok (.iadd, 1) := by decide +kernel
theorem dX9_remove_50 : decode cX9_remove 50 = .ok (.iaload, 1) := by decide +kernel
theorem dX9_remove_51 : decode cX9_remove 51 = .ok (.iastore, 1) := by decide +kernel
theorem dX9_remove_52 : decode cX9_remove 52 = .ok (.iinc 4 1, 3) := by decide +kernel
theorem dX9_remove_55 : decode cX9_remove 55 = .ok (.iinc 5 1, 3) := by decide +kernel
theorem dX9_remove_58 : decode cX9_remove 58 = .ok (.goto (-48), 3) := by decide +kernel
theorem dX9_remove_61 : decode cX9_remove 61 = .ok (.aload_n 0, 1) := by decide +kernel
theorem dX9_remove_62 : decode cX9_remove 62 = .ok (.getfield 9, 3) := by decide +kernel
theorem dX9_remove_65 : decode cX9_remove 65 = .ok (.iload_n 1, 1) := by decide +kernel
theorem dX9_remove_66 : decode cX9_remove 66 = .ok (.iload 4, 2) := by decide +kernel
theorem dX9_remove_68 : decode cX9_remove 68 = .ok (.iastore, 1) := by decide +kernel
theorem dX9_remove_69 : decode cX9_remove 69 = .ok (.return_, 1) := by decide +kernel
theorem dX10_init_0 : decode cX10_init 0 = .ok (.aload_n 0, 1) := by decide +kernel
theorem dX10_init_1 : decode cX10_init 1 = .ok (.invokespecial 3, 3) := by decide +kernel
theorem dX10_init_4 : decode cX10_init 4 = .ok (.aload_n 0, 1) := by decide +kernel
theorem dX10_init_5 : decode cX10_init 5 = .ok (.iconst 0, 1) := by decide +kernel
theorem dX10_init_6 : decode cX10_init 6 = .ok (.putfield 9, 3) := by decide +kernel
theorem dX10_init_9 : decode cX10_init 9 = .ok (.aload_n 0, 1) := by decide +kernel
theorem dX10_init_10 : decode cX10_init 10 = .ok (.iconst 4, 1) := by decide +kernel
theorem dX10_init_11 : decode cX10_init 11 = .ok (.newarray .int, 2) := by decide +kernel
theorem dX10_init_13 : decode cX10_init 13 = .ok (.putfield 15, 3) := by decide +kernel
theorem dX10_init_16 : decode cX10_init 16 = .ok (.aload_n 0, 1) := by decide +kernel
theorem dX10_init_17 : decode cX10_init 17 = .ok (.iconst 4, 1) := by decide +kernel
theorem dX10_init_18 : decode cX10_init 18 = .ok (.newarray .int, 2) := by decide +kernel
theorem dX10_init_20 : decode cX10_init 20 = .ok (.putfield 19, 3) := by decide +kernel
theorem dX10_init_23 : decode cX10_init 23 = .ok (.aload_n 0, 1) := by decide +kernel
theorem dX10_init_24 : decode cX10_init 24 = .ok (.iconst 4, 1) := by decide +kernel
theorem dX10_init_25 : decode cX10_init 25 = .ok (.newarray .int, 2) := by decide +kernel
theorem dX10_init_27 : decode cX10_init 27 = .ok (.putfield 22, 3) := by decide +kernel
theorem dX10_init_30 : decode cX10_init 30 = .ok (.return_, 1) := by decide +kernel
theorem dX10_copyFrom_0 : decode cX10_copyFrom 0 = .ok (.aload_n 0, 1) := by decide +kernel
theorem dX10_copyFrom_1 : decode cX10_copyFrom 1 = .ok (.aload_n 1, 1) := by decide +kernel
theorem dX10_copyFrom_2 : decode cX10_copyFrom 2 = .ok (.getfield 9, 3) := by decide +kernel
theorem dX10_copyFrom_5 : decode cX10_copyFrom 5 = .ok (.putfield 9, 3) := by decide +kernel
theorem dX10_copyFrom_8 : decode cX10_copyFrom 8 = .ok (.aload_n 1, 1) := by decide +kernel
theorem dX10_copyFrom_9 : decode cX10_copyFrom 9 = .ok (.getfield 15, 3) := by decide +kernel
theorem dX10_copyFrom_12 : decode cX10_copyFrom 12 = .ok (.iconst 0, 1) := by decide +kernel
theorem dX10_copyFrom_13 : decode cX10_copyFrom 13 = .ok (.aload_n 0, 1) := by decide +kernel
theorem dX10_copyFrom_14 : decode cX10_copyFrom 14 = .ok (.getfield 15, 3) := by decide +kernel
theorem dX10_copyFrom_17 : decode cX10_copyFrom 17 = .ok (.iconst 0, 1) := by decide +kernel
theorem dX10_copyFrom_18 : decode cX10_copyFrom 18 = .ok (.iconst 4, 1) := by decide +kernel
theorem dX10_copyFrom_19 : decode cX10_copyFrom 19 = .ok (.invokestatic 25, 3) := by decide +kernel
theorem dX10_copyFrom_22 : decode cX10_copyFrom 22 = .ok (.aload_n 1, 1) := by decide +kernel
theorem dX10_copyFrom_23 : decode cX10_copyFrom 23 = .ok (.getfield 19, 3) := by decide +kernel
theorem dX10_copyFrom_26 : decode cX10_copyFrom 26 = .ok (.iconst 0, 1) := by decide +kernel
theorem dX10_copyFrom_27 : decode cX10_copyFrom 27 = .ok (.aload_n 0, 1) := by decide +kernel
theorem dX10_copyFrom_28 : decode cX10_copyFrom 28 = .ok (.getfield 19, 3) := by decide +kernel
theorem dX10_copyFrom_31 : decode cX10_copyFrom 31 = .ok (.iconst 0, 1) := by decide +kernel
theorem dX10_copyFrom_32 : decode cX10_copyFrom 32 = .ok (.iconst 4, 1) := by decide +kernel
theorem dX10_copyFrom_33 : decode cX10_copyFrom 33 = .ok (.invokestatic 25, 3) := by decide +kernel
theorem dX10_copyFrom_36 : decode cX10_copyFrom 36 = .ok (.aload_n 1, 1) := by decide +kernel
theorem dX10_copyFrom_37 : decode cX10_copyFrom 37 = .ok (.getfield 22, 3) := by decide +kernel
theorem dX10_copyFrom_40 : decode cX10_copyFrom 40 = .ok (.iconst 0, 1) := by decide +kernel
theorem dX10_copyFrom_41 : decode cX10_copyFrom 41 = .ok (.aload_n 0, 1) := by decide +kernel
theorem dX10_copyFrom_42 : decode cX10_copyFrom 42 = .ok (.getfield 22, 3) := by decide +kernel
theorem dX10_copyFrom_45 : decode cX10_copyFrom 45 = .ok (.iconst 0, 1) := by decide +kernel
theorem dX10_copyFrom_46 : decode cX10_copyFrom 46 = .ok (.iconst 4, 1) := by decide +kernel
theorem dX10_copyFrom_47 : decode cX10_copyFrom 47 = .ok (.invokestatic 25, 3) := by decide +kernel
theorem dX10_copyFrom_50 : decode cX10_copyFrom 50 = .ok (.return_, 1) := by decide +kernel
theorem dX10_has_0 : decode cX10_has 0 = .ok (.iload_n 1, 1) := by decide +kernel
theorem dX10_has_1 : decode cX10_has 1 = .ok (.ifCond .lt 15, 3) := by decide +kernel
theorem dX10_has_4 : decode cX10_has 4 = .ok (.iload_n 1, 1) := by decide +kernel
theorem dX10_has_5 : decode cX10_has 5 = .ok (.aload_n 0, 1) := by decide +kernel
theorem dX10_has_6 : decode cX10_has 6 = .ok (.getfield 9, 3) := by decide +kernel
theorem dX10_has_9 : decode cX10_has 9 = .ok (.if_icmp .ge 7, 3) := by decide +kernel
theorem dX10_has_12 : decode cX10_has 12 = .ok (.iconst 1, 1) := by decide +kernel
theorem dX10_has_13 : decode cX10_has 13 = .ok (.goto 4, 3) := by decide +kernel
theorem dX10_has_16 : decode cX10_has 16 = .ok (.iconst 0, 1) := by decide +kernel
theorem dX10_has_17 : decode cX10_has 17 = .ok (.ireturn, 1) := by decide +kernel
theorem dX10_append_0 : decode cX10_append 0 = .ok (.aload_n 0, 1) := by decide +kernel
theorem dX10_append_1 : decode cX10_append 1 = .ok (.getfield 15, 3) := by decide +kernel
theorem dX10_append_4 : decode cX10_append 4 = .ok (.aload_n 0, 1) := by decide +kernel
theorem dX10_append_5 : decode cX10_append 5 = .ok (.getfield 9, 3) := by decide +kernel
theorem dX10_append_8 : decode cX10_append 8 = .ok (.iload_n 1, 1) := by decide +kernel
theorem dX10_append_9 : decode cX10_append 9 = .ok (.iastore, 1) := by decide +kernel
theorem dX10_append_10 : decode cX10_append 10 = .ok (.aload_n 0, 1) := by decide +kernel
theorem dX10_append_11 : decode cX10_append 11 = .ok (.getfield 19, 3) := by decide +kernel
theorem dX10_append_14 : decode cX10_append 14 = .ok (.aload_n 0, 1) := by decide +kernel
theorem dX10_append_15 : decode cX10_append 15 = .ok (.getfield 9, 3) := by decide +kernel
theorem dX10_append_18 : decode cX10_append 18 = .ok (.iload_n 2, 1) := by decide +kernel
theorem dX10_append_19 : decode cX10_append 19 = .ok (.iastore, 1) := by decide +kernel
theorem dX10_append_20 : decode cX10_append 20 = .ok (.aload_n 0, 1) := by decide +kernel
theorem dX10_append_21 : decode cX10_append 21 = .ok (.getfield 22, 3) := by decide +kernel
theorem dX10_append_24 : decode cX10_append 24 = .ok (.aload_n 0, 1) := by decide +kernel
theorem dX10_append_25 : decode cX10_append 25 = .ok (.getfield 9, 3) := by decide +kernel
theorem dX10_append_28 : decode cX10_append 28 = .ok (.iconst 0, 1) := by decide +kernel
theorem dX10_append_29 : decode cX10_append 29 = .ok (.iastore, 1) := by decide +kernel
theorem dX10_append_30 : decode cX10_append 30 = .ok (.aload_n 0, 1) := by decide +kernel
theorem dX10_append_31 : decode cX10_append 31 = .ok (.dup, 1) := by decide +kernel
theorem dX10_append_32 : decode cX10_append 32 = .ok (.getfield 9, 3) := by decide +kernel
theorem dX10_append_35 : decode cX10_append 35 = .ok (.iconst 1, 1) := by decide +kernel
theorem dX10_append_36 : decode cX10_append 36 = .ok (.iadd, 1) := by decide +kernel
theorem dX10_append_37 : decode cX10_append 37 = .ok (.putfield 9, 3) := by decide +kernel
theorem dX10_append_40 : decode cX10_append 40 = .ok (.aload_n 0, 1) := by decide +kernel
theorem dX10_append_41 : decode cX10_append 41 = .ok (.getfield 9, 3) := by decide +kernel
theorem dX10_append_44 : decode cX10_append 44 = .ok (.iconst 1, 1) := by decide +kernel
theorem dX10_append_45 : decode cX10_append 45 = .ok (.isub, 1) := by decide +kernel
theorem dX10_append_46 : decode cX10_append 46 = .ok (.ireturn, 1) := by decide +kernel
theorem dX10_dry_0 : decode cX10_dry 0 = .ok (.aload_n 0, 1) := by decide +kernel
theorem dX10_dry_1 : decode cX10_dry 1 = .ok (.getfield 22, 3) := by decide +kernel
theorem dX10_dry_4 : decode cX10_dry 4 = .ok (.iload_n 1, 1) := by decide +kernel
theorem dX10_dry_5 : decode cX10_dry 5 = .ok (.iaload, 1) := by decide +kernel
theorem dX10_dry_6 : decode cX10_dry 6 = .ok (.ifCond .le 13, 3) := by decide +kernel
theorem dX10_dry_9 : decode cX10_dry 9 = .ok (.aload_n 0, 1) := by decide +kernel
theorem dX10_dry_10 : decode cX10_dry 10 = .ok (.getfield 22, 3) := by decide +kernel
theorem dX10_dry_13 : decode cX10_dry 13 = .ok (.iload_n 1, 1) := by decide +kernel
theorem dX10_dry_14 : decode cX10_dry 14 = .ok (.dup2, 1) := by decide +kernel
theorem dX10_dry_15 : decode cX10_dry 15 = .ok (.iaload, 1) := by decide +kernel
theorem dX10_dry_16 : decode cX10_dry 16 = .ok (.iconst 1, 1) := by decide +kernel
theorem dX10_dry_17 : decode cX10_dry 17 = .ok (.isub, 1) := by decide +kernel
theorem dX10_dry_18 : decode cX10_dry 18 = .ok (.iastore, 1) := by decide +kernel
theorem dX10_dry_19 : decode cX10_dry 19 = .ok (.return_, 1) := by decide +kernel
theorem dX10_wet_0 : decode cX10_wet 0 = .ok (.aload_n 0, 1) := by decide +kernel
theorem dX10_wet_1 : decode cX10_wet 1 = .ok (.getfield 22, 3) := by decide +kernel
theorem dX10_wet_4 : decode cX10_wet 4 = .ok (.iload_n 1, 1) := by decide +kernel
theorem dX10_wet_5 : decode cX10_wet 5 = .ok (.iaload, 1) := by decide +kernel
theorem dX10_wet_6 : decode cX10_wet 6 = .ok (.iconst 2, 1) := by decide +kernel
theorem dX10_wet_7 : decode cX10_wet 7 = .ok (.iadd, 1) := by decide +kernel
theorem dX10_wet_8 : decode cX10_wet 8 = .ok (.istore_n 2, 1) := by decide +kernel
theorem dX10_wet_9 : decode cX10_wet 9 = .ok (.aload_n 0, 1) := by decide +kernel
theorem dX10_wet_10 : decode cX10_wet 10 = .ok (.getfield 22, 3) := by decide +kernel
theorem dX10_wet_13 : decode cX10_wet 13 = .ok (.iload_n 1, 1) := by decide +kernel
theorem dX10_wet_14 : decode cX10_wet 14 = .ok (.iload_n 2, 1) := by decide +kernel
theorem dX10_wet_15 : decode cX10_wet 15 = .ok (.bipush 9, 2) := by decide +kernel
theorem dX10_wet_17 : decode cX10_wet 17 = .ok (.if_icmp .le 8, 3) := by decide +kernel
theorem dX10_wet_20 : decode cX10_wet 20 = .ok (.bipush 9, 2) := by decide +kernel
theorem dX10_wet_22 : decode cX10_wet 22 = .ok (.goto 4, 3) := by decide +kernel
theorem dX10_wet_25 : decode cX10_wet 25 = .ok (.iload_n 2, 1) := by decide +kernel
theorem dX10_wet_26 : decode cX10_wet 26 = .ok (.iastore, 1) := by decide +kernel
theorem dX10_wet_27 : decode cX10_wet 27 = .ok (.return_, 1) := by decide +kernel
theorem dX10_rankByWetness_0 : decode cX10_rankByWetness 0 = .ok (.iconst 0, 1) := by decide +kernel
theorem dX10_rankByWetness_1 : decode cX10_rankByWetness 1 = .ok (.istore_n 2, 1) := by decide +kernel
theorem dX10_rankByWetness_2 : decode cX10_rankByWetness 2 = .ok (.iconst 0, 1) := by decide +kernel
theorem dX10_rankByWetness_3 : decode cX10_rankByWetness 3 = .ok (.istore_n 3, 1) := by decide +kernel
theorem dX10_rankByWetness_4 : decode cX10_rankByWetness 4 = .ok (.iload_n 3, 1) := by decide +kernel
theorem dX10_rankByWetness_5 : decode cX10_rankByWetness 5 = .ok (.aload_n 0, 1) := by decide +kernel
theorem dX10_rankByWetness_6 : decode cX10_rankByWetness 6 = .ok (.getfield 9, 3) := by decide +kernel
theorem dX10_rankByWetness_9 : decode cX10_rankByWetness 9 = .ok (.if_icmp .ge 67, 3) := by decide +kernel
theorem dX10_rankByWetness_12 : decode cX10_rankByWetness 12 = .ok (.iload_n 3, 1) := by decide +kernel
theorem dX10_rankByWetness_13 : decode cX10_rankByWetness 13 = .ok (.iload_n 1, 1) := by decide +kernel
theorem dX10_rankByWetness_14 : decode cX10_rankByWetness 14 = .ok (.if_icmp .ge 26, 3) := by decide +kernel
theorem dX10_rankByWetness_17 : decode cX10_rankByWetness 17 = .ok (.aload_n 0, 1) := by decide +kernel
theorem dX10_rankByWetness_18 : decode cX10_rankByWetness 18 = .ok (.getfield 22, 3) := by decide +kernel
theorem dX10_rankByWetness_21 : decode cX10_rankByWetness 21 = .ok (.iload_n 3, 1) := by decide +kernel
theorem dX10_rankByWetness_22 : decode cX10_rankByWetness 22 = .ok (.iaload, 1) := by decide +kernel
theorem dX10_rankByWetness_23 : decode cX10_rankByWetness 23 = .ok (.aload_n 0, 1) := by decide +kernel
theorem dX10_rankByWetness_24 : decode cX10_rankByWetness 24 = .ok (.getfield 22, 3) := by decide +kernel
theorem dX10_rankByWetness_27 : decode cX10_rankByWetness 27 = .ok (.iload_n 1, 1) := by decide +kernel
theorem dX10_rankByWetness_28 : decode cX10_rankByWetness 28 = .ok (.iaload, 1) := by decide +kernel
theorem dX10_rankByWetness_29 : decode cX10_rankByWetness 29 = .ok (.if_icmp .lt 7, 3) := by decide +kernel
theorem dX10_rankByWetness_32 : decode cX10_rankByWetness 32 = .ok (.iconst 1, 1) := by decide +kernel
theorem dX10_rankByWetness_33 : decode cX10_rankByWetness 33 = .ok (.goto 27, 3) := by decide +kernel
theorem dX10_rankByWetness_36 : decode cX10_rankByWetness 36 = .ok (.iconst 0, 1) := by decide +kernel
theorem dX10_rankByWetness_37 : decode cX10_rankByWetness 37 = .ok (.goto 23, 3) := by decide +kernel
theorem dX10_rankByWetness_40 : decode cX10_rankByWetness 40 = .ok (.aload_n 0, 1) := by decide +kernel
theorem dX10_rankByWetness_41 : decode cX10_rankByWetness 41 = .ok (.getfield 22, 3) := by decide +kernel
theorem dX10_rankByWetness_44 : decode cX10_rankByWetness 44 = .ok (.iload_n 3, 1) := by decide +kernel
theorem dX10_rankByWetness_45 : decode cX10_rankByWetness 45 = .ok (.iaload, 1) := by decide +kernel
theorem dX10_rankByWetness_46 : decode cX10_rankByWetness 46 = .ok (.aload_n 0, 1) := by decide +kernel
theorem dX10_rankByWetness_47 : decode cX10_rankByWetness 47 = .ok (.getfield 22, 3) := by decide +kernel
theorem dX10_rankByWetness_50 : decode cX10_rankByWetness 50 = .ok (.iload_n 1, 1) := by decide +kernel
theorem dX10_rankByWetness_51 : decode cX10_rankByWetness 51 = .ok (.iaload, 1) := by decide +kernel
theorem dX10_rankByWetness_52 : decode cX10_rankByWetness 52 = .ok (.if_icmp .le 7, 3) := by decide +kernel
theorem dX10_rankByWetness_55 : decode cX10_rankByWetness 55 = .ok (.iconst 1, 1) := by decide +kernel
theorem dX10_rankByWetness_56 : decode cX10_rankByWetness 56 = .ok (.goto 4, 3) := by decide +kernel
theorem dX10_rankByWetness_59 : decode cX10_rankByWetness 59 = .ok (.iconst 0, 1) := by decide +kernel
theorem dX10_rankByWetness_60 : decode cX10_rankByWetness 60 = .ok (.istore 4, 2) := by decide +kernel
theorem dX10_rankByWetness_62 : decode cX10_rankByWetness 62 = .ok (.iload 4, 2) := by decide +kernel
theorem dX10_rankByWetness_64 : decode cX10_rankByWetness 64 = .ok (.ifCond .eq 6, 3) := by decide +kernel
theorem dX10_rankByWetness_67 : decode cX10_rankByWetness 67 = .ok (.iinc 2 1, 3) := by decide +kernel
theorem dX10_rankByWetness_70 : decode cX10_rankByWetness 70 = .ok (.iinc 3 1, 3) := by decide +kernel
theorem dX10_rankByWetness_73 : decode cX10_rankByWetness 73 = .ok (.goto (-69), 3) := by decide +kernel
theorem dX10_rankByWetness_76 : decode cX10_rankByWetness 76 = .ok (.iload_n 2, 1) := by decide +kernel
theorem dX10_rankByWetness_77 : decode cX10_rankByWetness 77 = .ok (.ireturn, 1) := by decide +kernel
theorem dX11_init_0 : decode cX11_init 0 = .ok (.aload_n 0, 1) := by decide +kernel
theorem dX11_init_1 : decode cX11_init 1 = .ok (.invokespecial 1, 3) := by decide +kernel
theorem dX11_init_4 : decode cX11_init 4 = .ok (.aload_n 0, 1) := by decide +kernel
theorem dX11_init_5 : decode cX11_init 5 = .ok (.new 7, 3) := by decide +kernel
theorem dX11_init_8 : decode cX11_init 8 = .ok (.dup, 1) := by decide +kernel
theorem dX11_init_9 : decode cX11_init 9 = .ok (.invokespecial 9, 3) := by decide +kernel
theorem dX11_init_12 : decode cX11_init 12 = .ok (.putfield 10, 3) := by decide +kernel
theorem dX11_init_15 : decode cX11_init 15 = .ok (.aload_n 0, 1) := by decide +kernel
theorem dX11_init_16 : decode cX11_init 16 = .ok (.new 7, 3) := by decide +kernel
theorem dX11_init_19 : decode cX11_init 19 = .ok (.dup, 1) := by decide +kernel
theorem dX11_init_20 : decode cX11_init 20 = .ok (.invokespecial 9, 3) := by decide +kernel
theorem dX11_init_23 : decode cX11_init 23 = .ok (.putfield 16, 3) := by decide +kernel
theorem dX11_init_26 : decode cX11_init 26 = .ok (.aload_n 0, 1) := by decide +kernel
theorem dX11_init_27 : decode cX11_init 27 = .ok (.iconst 0, 1) := by decide +kernel
theorem dX11_init_28 : decode cX11_init 28 = .ok (.putfield 19, 3) := by decide +kernel
theorem dX11_init_31 : decode cX11_init 31 = .ok (.aload_n 0, 1) := by decide +kernel
theorem dX11_init_32 : decode cX11_init 32 = .ok (.new 23, 3) := by decide +kernel
theorem dX11_init_35 : decode cX11_init 35 = .ok (.dup, 1) := by decide +kernel
theorem dX11_init_36 : decode cX11_init 36 = .ok (.invokespecial 25, 3) := by decide +kernel
theorem dX11_init_39 : decode cX11_init 39 = .ok (.putfield 26, 3) := by decide +kernel
theorem dX11_init_42 : decode cX11_init 42 = .ok (.aload_n 0, 1) := by decide +kernel
theorem dX11_init_43 : decode cX11_init 43 = .ok (.new 30, 3) := by decide +kernel
theorem dX11_init_46 : decode cX11_init 46 = .ok (.dup, 1) := by decide +kernel
theorem dX11_init_47 : decode cX11_init 47 = .ok (.invokespecial 32, 3) := by decide +kernel
theorem dX11_init_50 : decode cX11_init 50 = .ok (.putfield 33, 3) := by decide +kernel
theorem dX11_init_53 : decode cX11_init 53 = .ok (.aload_n 0, 1) := by decide +kernel
theorem dX11_init_54 : decode cX11_init 54 = .ok (.new 37, 3) := by decide +kernel
theorem dX11_init_57 : decode cX11_init 57 = .ok (.dup, 1) := by decide +kernel
theorem dX11_init_58 : decode cX11_init 58 = .ok (.invokespecial 39, 3) := by decide +kernel
theorem dX11_init_61 : decode cX11_init 61 = .ok (.putfield 40, 3) := by decide +kernel
theorem dX11_init_64 : decode cX11_init 64 = .ok (.aload_n 0, 1) := by decide +kernel
theorem dX11_init_65 : decode cX11_init 65 = .ok (.new 44, 3) := by decide +kernel
theorem dX11_init_68 : decode cX11_init 68 = .ok (.dup, 1) := by decide +kernel
theorem dX11_init_69 : decode cX11_init 69 = .ok (.invokespecial 46, 3) := by decide +kernel
theorem dX11_init_72 : decode cX11_init 72 = .ok (.putfield 47, 3) := by decide +kernel
theorem dX11_init_75 : decode cX11_init 75 = .ok (.aload_n 0, 1) := by decide +kernel
theorem dX11_init_76 : decode cX11_init 76 = .ok (.iconst (-1), 1) := by decide +kernel
theorem dX11_init_77 : decode cX11_init 77 = .ok (.putfield 51, 3) := by decide +kernel
theorem dX11_init_80 : decode cX11_init 80 = .ok (.aload_n 0, 1) := by decide +kernel
theorem dX11_init_81 : decode cX11_init 81 = .ok (.iconst (-1), 1) := by decide +kernel
theorem dX11_init_82 : decode cX11_init 82 = .ok (.putfield 55, 3) := by decide +kernel
theorem dX11_init_85 : decode cX11_init 85 = .ok (.return_, 1) := by decide +kernel
theorem dX11_buildSlide_0 : decode cX11_buildSlide 0 = .ok (.aload_n 0, 1) := by decide +kernel
theorem dX11_buildSlide_1 : decode cX11_buildSlide 1 = .ok (.getfield 26, 3) := by decide +kernel
theorem dX11_buildSlide_4 : decode cX11_buildSlide 4 = .ok (.aload_n 0, 1) := by decide +kernel
theorem dX11_buildSlide_5 : decode cX11_buildSlide 5 = .ok (.getfield 10, 3) := by decide +kernel
theorem dX11_buildSlide_8 : decode cX11_buildSlide 8 = .ok (.invokevirtual 58, 3) := by decide +kernel
theorem dX11_buildSlide_11 : decode cX11_buildSlide 11 = .ok (.aload_n 0, 1) := by decide +kernel
theorem dX11_buildSlide_12 : decode cX11_buildSlide 12 = .ok (.aload_n 0, 1) := by decide +kernel
theorem dX11_buildSlide_13 : decode cX11_buildSlide 13 = .ok (.getfield 10, 3) := by decide +kernel
theorem dX11_buildSlide_16 : decode cX11_buildSlide 16 = .ok (.iload_n 1, 1) := by decide +kernel
theorem dX11_buildSlide_17 : decode cX11_buildSlide 17 = .ok (.iload_n 2, 1) := by decide +kernel
theorem dX11_buildSlide_18 : decode cX11_buildSlide 18 = .ok (.invokevirtual 62, 3) := by decide +kernel
theorem dX11_buildSlide_21 : decode cX11_buildSlide 21 = .ok (.invokevirtual 66, 3) := by decide +kernel
theorem dX11_buildSlide_24 : decode cX11_buildSlide 24 = .ok (.ireturn, 1) := by decide +kernel
theorem dX11_addGuest_0 : decode cX11_addGuest 0 = .ok (.aload_n 0, 1) := by decide +kernel
theorem dX11_addGuest_1 : decode cX11_addGuest 1 = .ok (.getfield 26, 3) := by decide +kernel
theorem dX11_addGuest_4 : decode cX11_addGuest 4 = .ok (.aload_n 0, 1) := by decide +kernel
theorem dX11_addGuest_5 : decode cX11_addGuest 5 = .ok (.getfield 10, 3) := by decide +kernel
theorem dX11_addGuest_8 : decode cX11_addGuest 8 = .ok (.invokevirtual 58, 3) := by decide +kernel
theorem dX11_addGuest_11 : decode cX11_addGuest 11 = .ok (.aload_n 0, 1) := by decide +kernel
theorem dX11_addGuest_12 : decode cX11_addGuest 12 = .ok (.aload_n 0, 1) := by decide +kernel
theorem dX11_addGuest_13 : decode cX11_addGuest 13 = .ok (.getfield 10, 3) := by decide +kernel
theorem dX11_addGuest_16 : decode cX11_addGuest 16 = .ok (.invokevirtual 70, 3) := by decide +kernel
theorem dX11_addGuest_19 : decode cX11_addGuest 19 = .ok (.invokevirtual 66, 3) := by decide +kernel
theorem dX11_addGuest_22 : decode cX11_addGuest 22 = .ok (.ireturn, 1) := by decide +kernel
theorem dX11_book_0 : decode cX11_book 0 = .ok (.aload_n 0, 1) := by decide +kernel
theorem dX11_book_1 : decode cX11_book 1 = .ok (.getfield 26, 3) := by decide +kernel
theorem dX11_book_4 : decode cX11_book 4 = .ok (.aload_n 0, 1) := by decide +kernel
theorem dX11_book_5 : decode cX11_book 5 = .ok (.getfield 10, 3) := by decide +kernel
theorem dX11_book_8 : decode cX11_book 8 = .ok (.invokevirtual 58, 3) := by decide +kernel
theorem dX11_book_11 : decode cX11_book 11 = .ok (.aload_n 0, 1) := by decide +kernel
theorem dX11_book_12 : decode cX11_book 12 = .ok (.aload_n 0, 1) := by decide +kernel
theorem dX11_book_13 : decode cX11_book 13 = .ok (.getfield 10, 3) := by decide +kernel
theorem dX11_book_16 : decode cX11_book 16 = .ok (.iload_n 1, 1) := by decide +kernel
theorem dX11_book_17 : decode cX11_book 17 = .ok (.iload_n 2, 1) := by decide +kernel
theorem dX11_book_18 : decode cX11_book 18 = .ok (.iload_n 3, 1) := by decide +kernel
theorem dX11_book_19 : decode cX11_book 19 = .ok (.invokevirtual 74, 3) := by decide +kernel
theorem dX11_book_22 : decode cX11_book 22 = .ok (.invokevirtual 66, 3) := by decide +kernel
theorem dX11_book_25 : decode cX11_book 25 = .ok (.ireturn, 1) := by decide +kernel
theorem dX11_cancel_0 : decode cX11_cancel 0 = .ok (.aload_n 0, 1) := by decide +kernel
theorem dX11_cancel_1 : decode cX11_cancel 1 = .ok (.getfield 26, 3) := by decide +kernel
theorem dX11_cancel_4 : decode cX11_cancel 4 = .ok (.aload_n 0, 1) := by decide +kernel
theorem dX11_cancel_5 : decode cX11_cancel 5 = .ok (.getfield 10, 3) := by decide +kernel
theorem dX11_cancel_8 : decode cX11_cancel 8 = .ok (.invokevirtual 58, 3) := by decide +kernel
theorem dX11_cancel_11 : decode cX11_cancel 11 = .ok (.aload_n 0, 1) := by decide +kernel
theorem dX11_cancel_12 : decode cX11_cancel 12 = .ok (.aload_n 0, 1) := by decide +kernel
theorem dX11_cancel_13 : decode cX11_cancel 13 = .ok (.getfield 10, 3) := by decide +kernel
theorem dX11_cancel_16 : decode cX11_cancel 16 = .ok (.iload_n 1, 1) := by decide +kernel
theorem dX11_cancel_17 : decode cX11_cancel 17 = .ok (.invokevirtual 78, 3) := by decide +kernel
theorem dX11_cancel_20 : decode cX11_cancel 20 = .ok (.invokevirtual 66, 3) := by decide +kernel
theorem dX11_cancel_23 : decode cX11_cancel 23 = .ok (.ireturn, 1) := by decide +kernel
theorem dX11_joinQueue_0 : decode cX11_joinQueue 0 = .ok (.aload_n 0, 1) := by decide +kernel
theorem dX11_joinQueue_1 : decode cX11_joinQueue 1 = .ok (.getfield 26, 3) := by decide +kernel
theorem dX11_joinQueue_4 : decode cX11_joinQueue 4 = .ok (.aload_n 0, 1) := by decide +kernel
theorem dX11_joinQueue_5 : decode cX11_joinQueue 5 = .ok (.getfield 10, 3) := by decide +kernel
theorem dX11_joinQueue_8 : decode cX11_joinQueue 8 = .ok (.invokevirtual 58, 3) := by decide +kernel
theorem dX11_joinQueue_11 : decode cX11_joinQueue 11 = .ok (.aload_n 0, 1) := by decide +kernel
theorem dX11_joinQueue_12 : decode cX11_joinQueue 12 = .ok (.aload_n 0, 1) := by decide +kernel
theorem dX11_joinQueue_13 : decode cX11_joinQueue 13 = .ok (.getfield 10, 3) := by decide +kernel
theorem dX11_joinQueue_16 : decode cX11_joinQueue 16 = .ok (.iload_n 1, 1) := by decide +kernel
theorem dX11_joinQueue_17 : decode cX11_joinQueue 17 = .ok (.iload_n 2, 1) := by decide +kernel
theorem dX11_joinQueue_18 : decode cX11_joinQueue 18 = .ok (.invokevirtual 81, 3) := by decide +kernel
theorem dX11_joinQueue_21 : decode cX11_joinQueue 21 = .ok (.invokevirtual 66, 3) := by decide +kernel
theorem dX11_joinQueue_24 : decode cX11_joinQueue 24 = .ok (.ireturn, 1) := by decide +kernel
theorem dX11_leaveQueue_0 : decode cX11_leaveQueue 0 = .ok (.aload_n 0, 1) := by decide +kernel
theorem dX11_leaveQueue_1 : decode cX11_leaveQueue 1 = .ok (.getfield 26, 3) := by decide +kernel
theorem dX11_leaveQueue_4 : decode cX11_leaveQueue 4 = .ok (.aload_n 0, 1) := by decide +kernel
theorem dX11_leaveQueue_5 : decode cX11_leaveQueue 5 = .ok (.getfield 10, 3) := by decide +kernel
theorem dX11_leaveQueue_8 : decode cX11_leaveQueue 8 = .ok (.invokevirtual 58, 3) := by decide +kernel
theorem dX11_leaveQueue_11 : decode cX11_leaveQueue 11 = .ok (.aload_n 0, 1) := by decide +kernel
theorem dX11_leaveQueue_12 : decode cX11_leaveQueue 12 = .ok (.aload_n 0, 1) := by decide +kernel
theorem dX11_leaveQueue_13 : decode cX11_leaveQueue 13 = .ok (.getfield 10, 3) := by decide +kernel
theorem dX11_leaveQueue_16 : decode cX11_leaveQueue 16 = .ok (.iload_n 1, 1) := by decide +kernel
theorem dX11_leaveQueue_17 : decode cX11_leaveQueue 17 = .ok (.invokevirtual 84, 3) := by decide +kernel
theorem dX11_leaveQueue_20 : decode cX11_leaveQueue 20 = .ok (.invokevirtual 66, 3) := by decide +kernel
theorem dX11_leaveQueue_23 : decode cX11_leaveQueue 23 = .ok (.ireturn, 1) := by decide +kernel
theorem dX11_passMinutes_0 : decode cX11_passMinutes 0 = .ok (.aload_n 0, 1) := by decide +kernel
theorem dX11_passMinutes_1 : decode cX11_passMinutes 1 = .ok (.getfield 26, 3) := by decide +kernel
theorem dX11_passMinutes_4 : decode cX11_passMinutes 4 = .ok (.aload_n 0, 1) := by decide +kernel
theorem dX11_passMinutes_5 : decode cX11_passMinutes 5 = .ok (.getfield 10, 3) := by decide +kernel
theorem dX11_passMinutes_8 : decode cX11_passMinutes 8 = .ok (.invokevirtual 58, 3) := by decide +kernel
theorem dX11_passMinutes_11 : decode cX11_passMinutes 11 = .ok (.aload_n 0, 1) := by decide +kernel
theorem dX11_passMinutes_12 : decode cX11_passMinutes 12 = .ok (.aload_n 0, 1) := by decide +kernel
theorem dX11_passMinutes_13 : decode cX11_passMinutes 13 = .ok (.getfield 10, 3) := by decide +kernel
theorem dX11_passMinutes_16 : decode cX11_passMinutes 16 = .ok (.iload_n 1, 1) := by decide +kernel
theorem dX11_passMinutes_17 : decode cX11_passMinutes 17 = .ok (.invokevirtual 87, 3) := by decide +kernel
theorem dX11_passMinutes_20 : decode cX11_passMinutes 20 = .ok (.invokevirtual 66, 3) := by decide +kernel
theorem dX11_passMinutes_23 : decode cX11_passMinutes 23 = .ok (.ireturn, 1) := by decide +kernel
theorem dX11_minute_0 : decode cX11_minute 0 = .ok (.aload_n 0, 1) := by decide +kernel
theorem dX11_minute_1 : decode cX11_minute 1 = .ok (.getfield 10, 3) := by decide +kernel
theorem dX11_minute_4 : decode cX11_minute 4 = .ok (.getfield 90, 3) := by decide +kernel
theorem dX11_minute_7 : decode cX11_minute 7 = .ok (.ireturn, 1) := by decide +kernel
theorem dX11_slideCount_0 : decode cX11_slideCount 0 = .ok (.aload_n 0, 1) := by decide +kernel
theorem dX11_slideCount_1 : decode cX11_slideCount 1 = .ok (.getfield 10, 3) := by decide +kernel
theorem dX11_slideCount_4 : decode cX11_slideCount 4 = .ok (.getfield 93, 3) := by decide +kernel
theorem dX11_slideCount_7 : decode cX11_slideCount 7 = .ok (.getfield 97, 3) := by decide +kernel
theorem dX11_slideCount_10 : decode cX11_slideCount 10 = .ok (.ireturn, 1) := by decide +kernel
theorem dX11_duration_0 : decode cX11_duration 0 = .ok (.aload_n 0, 1) := by decide +kernel
theorem dX11_duration_1 : decode cX11_duration 1 = .ok (.iload_n 1, 1) := by decide +kernel
theorem dX11_duration_2 : decode cX11_duration 2 = .ok (.invokevirtual 102, 3) := by decide +kernel
theorem dX11_duration_5 : decode cX11_duration 5 = .ok (.aload_n 0, 1) := by decide +kernel
theorem dX11_duration_6 : decode cX11_duration 6 = .ok (.getfield 10, 3) := by decide +kernel
theorem dX11_duration_9 : decode cX11_duration 9 = .ok (.getfield 93, 3) := by decide +kernel
theorem dX11_duration_12 : decode cX11_duration 12 = .ok (.getfield 106, 3) := by decide +kernel
theorem dX11_duration_15 : decode cX11_duration 15 = .ok (.iload_n 1, 1) := by decide +kernel
theorem dX11_duration_16 : decode cX11_duration 16 = .ok (.iaload, 1) := by decide +kernel
theorem dX11_duration_17 : decode cX11_duration 17 = .ok (.ireturn, 1) := by decide +kernel
theorem dX11_price_0 : decode cX11_price 0 = .ok (.aload_n 0, 1) := by decide +kernel
theorem dX11_price_1 : decode cX11_price 1 = .ok (.iload_n 1, 1) := by decide +kernel
theorem dX11_price_2 : decode cX11_price 2 = .ok (.invokevirtual 102, 3) := by decide +kernel
theorem dX11_price_5 : decode cX11_price 5 = .ok (.aload_n 0, 1) := by decide +kernel
theorem dX11_price_6 : decode cX11_price 6 = .ok (.getfield 10, 3) := by decide +kernel
theorem dX11_price_9 : decode cX11_price 9 = .ok (.getfield 93, 3) := by decide +kernel
theorem dX11_price_12 : decode cX11_price 12 = .ok (.getfield 110, 3) := by decide +kernel
theorem dX11_price_15 : decode cX11_price 15 = .ok (.iload_n 1, 1) := by decide +kernel
theorem dX11_price_16 : decode cX11_price 16 = .ok (.iaload, 1) := by decide +kernel
theorem dX11_price_17 : decode cX11_price 17 = .ok (.ireturn, 1) := by decide +kernel
theorem dX11_wetness_0 : decode cX11_wetness 0 = .ok (.aload_n 0, 1) := by decide +kernel
theorem dX11_wetness_1 : decode cX11_wetness 1 = .ok (.iload_n 1, 1) := by decide +kernel
theorem dX11_wetness_2 : decode cX11_wetness 2 = .ok (.invokevirtual 102, 3) := by decide +kernel
theorem dX11_wetness_5 : decode cX11_wetness 5 = .ok (.aload_n 0, 1) := by decide +kernel
theorem dX11_wetness_6 : decode cX11_wetness 6 = .ok (.getfield 10, 3) := by decide +kernel
theorem dX11_wetness_9 : decode cX11_wetness 9 = .ok (.getfield 93, 3) := by decide +kernel
theorem dX11_wetness_12 : decode cX11_wetness 12 = .ok (.getfield 113, 3) := by decide +kernel
theorem dX11_wetness_15 : decode cX11_wetness 15 = .ok (.iload_n 1, 1) := by decide +kernel
theorem dX11_wetness_16 : decode cX11_wetness 16 = .ok (.iaload, 1) := by decide +kernel
theorem dX11_wetness_17 : decode cX11_wetness 17 = .ok (.ireturn, 1) := by decide +kernel
theorem dX11_rider_0 : decode cX11_rider 0 = .ok (.aload_n 0, 1) := by decide +kernel
theorem dX11_rider_1 : decode cX11_rider 1 = .ok (.iload_n 1, 1) := by decide +kernel
theorem dX11_rider_2 : decode cX11_rider 2 = .ok (.invokevirtual 102, 3) := by decide +kernel
theorem dX11_rider_5 : decode cX11_rider 5 = .ok (.aload_n 0, 1) := by decide +kernel
theorem dX11_rider_6 : decode cX11_rider 6 = .ok (.getfield 10, 3) := by decide +kernel
theorem dX11_rider_9 : decode cX11_rider 9 = .ok (.getfield 116, 3) := by decide +kernel
theorem dX11_rider_12 : decode cX11_rider 12 = .ok (.iload_n 1, 1) := by decide +kernel
theorem dX11_rider_13 : decode cX11_rider 13 = .ok (.aload_n 0, 1) := by decide +kernel
theorem dX11_rider_14 : decode cX11_rider 14 = .ok (.getfield 10, 3) := by decide +kernel
theorem dX11_rider_17 : decode cX11_rider 17 = .ok (.getfield 90, 3) := by decide +kernel
theorem dX11_rider_20 : decode cX11_rider 20 = .ok (.invokevirtual 120, 3) := by decide +kernel
theorem dX11_rider_23 : decode cX11_rider 23 = .ok (.istore_n 2, 1) := by decide +kernel
theorem dX11_rider_24 : decode cX11_rider 24 = .ok (.iload_n 2, 1) := by decide +kernel
theorem dX11_rider_25 : decode cX11_rider 25 = .ok (.iconst (-1), 1) := by decide +kernel
theorem dX11_rider_26 : decode cX11_rider 26 = .ok (.if_icmp .ne 13, 3) := by decide +kernel
theorem dX11_rider_29 : decode cX11_rider 29 = .ok (.new 125, 3) := by decide +kernel
theorem dX11_rider_32 : decode cX11_rider 32 = .ok (.dup, 1) := by decide +kernel
theorem dX11_rider_33 : decode cX11_rider 33 = .ok (.ldc 127, 2) := by decide +kernel
theorem dX11_rider_35 : decode cX11_rider 35 = .ok (.invokespecial 129, 3) := by decide +kernel
theorem dX11_rider_38 : decode cX11_rider 38 = .ok (.athrow, 1) := by decide +kernel
theorem dX11_rider_39 : decode cX11_rider 39 = .ok (.aload_n 0, 1) := by decide +kernel
theorem dX11_rider_40 : decode cX11_rider 40 = .ok (.getfield 10, 3) := by decide +kernel
theorem dX11_rider_43 : decode cX11_rider 43 = .ok (.getfield 116, 3) := by decide +kernel
theorem dX11_rider_46 : decode cX11_rider 46 = .ok (.getfield 132, 3) := by decide +kernel
theorem dX11_rider_49 : decode cX11_rider 49 = .ok (.iload_n 2, 1) := by decide +kernel
theorem dX11_rider_50 : decode cX11_rider 50 = .ok (.iaload, 1) := by decide +kernel
theorem dX11_rider_51 : decode cX11_rider 51 = .ok (.ireturn, 1) := by decide +kernel
theorem dX11_guestCount_0 : decode cX11_guestCount 0 = .ok (.aload_n 0, 1) := by decide +kernel
theorem dX11_guestCount_1 : decode cX11_guestCount 1 = .ok (.getfield 10, 3) := by decide +kernel
theorem dX11_guestCount_4 : decode cX11_guestCount 4 = .ok (.getfield 135, 3) := by decide +kernel
theorem dX11_guestCount_7 : decode cX11_guestCount 7 = .ok (.getfield 138, 3) := by decide +kernel
theorem dX11_guestCount_10 : decode cX11_guestCount 10 = .ok (.ireturn, 1) := by decide +kernel
theorem dX11_coins_0 : decode cX11_coins 0 = .ok (.aload_n 0, 1) := by decide +kernel
theorem dX11_coins_1 : decode cX11_coins 1 = .ok (.iload_n 1, 1) := by decide +kernel
theorem dX11_coins_2 : decode cX11_coins 2 = .ok (.invokevirtual 141, 3) := by decide +kernel
theorem dX11_coins_5 : decode cX11_coins 5 = .ok (.aload_n 0, 1) := by decide +kernel
theorem dX11_coins_6 : decode cX11_coins 6 = .ok (.getfield 10, 3) := by decide +kernel
theorem dX11_coins_9 : decode cX11_coins 9 = .ok (.getfield 135, 3) := by decide +kernel
theorem dX11_coins_12 : decode cX11_coins 12 = .ok (.getfield 144, 3) := by decide +kernel
theorem dX11_coins_15 : decode cX11_coins 15 = .ok (.iload_n 1, 1) := by decide +kernel
theorem dX11_coins_16 : decode cX11_coins 16 = .ok (.iaload, 1) := by decide +kernel
theorem dX11_coins_17 : decode cX11_coins 17 = .ok (.ireturn, 1) := by decide +kernel
theorem dX11_queueOf_0 : decode cX11_queueOf 0 = .ok (.aload_n 0, 1) := by decide +kernel
theorem dX11_queueOf_1 : decode cX11_queueOf 1 = .ok (.iload_n 1, 1) := by decide +kernel
theorem dX11_queueOf_2 : decode cX11_queueOf 2 = .ok (.invokevirtual 141, 3) := by decide +kernel
theorem dX11_queueOf_5 : decode cX11_queueOf 5 = .ok (.aload_n 0, 1) := by decide +kernel
theorem dX11_queueOf_6 : decode cX11_queueOf 6 = .ok (.getfield 10, 3) := by decide +kernel
theorem dX11_queueOf_9 : decode cX11_queueOf 9 = .ok (.getfield 147, 3) := by decide +kernel
theorem dX11_queueOf_12 : decode cX11_queueOf 12 = .ok (.iload_n 1, 1) := by decide +kernel
theorem dX11_queueOf_13 : decode cX11_queueOf 13 = .ok (.invokevirtual 151, 3) := by decide +kernel
theorem dX11_queueOf_16 : decode cX11_queueOf 16 = .ok (.istore_n 2, 1) := by decide +kernel
theorem dX11_queueOf_17 : decode cX11_queueOf 17 = .ok (.iload_n 2, 1) := by decide +kernel
theorem dX11_queueOf_18 : decode cX11_queueOf 18 = .ok (.iconst (-1), 1) := by decide +kernel
theorem dX11_queueOf_19 : decode cX11_queueOf 19 = .ok (.if_icmp .ne 13, 3) := by decide +kernel
theorem dX11_queueOf_22 : decode cX11_queueOf 22 = .ok (.new 125, 3) := by decide +kernel
theorem dX11_queueOf_25 : decode cX11_queueOf 25 = .ok (.dup, 1) := by decide +kernel
theorem dX11_queueOf_26 : decode cX11_queueOf 26 = .ok (.ldc 156, 2) := by decide +kernel
theorem dX11_queueOf_28 : decode cX11_queueOf 28 = .ok (.invokespecial 129, 3) := by decide +kernel
theorem dX11_queueOf_31 : decode cX11_queueOf 31 = .ok (.athrow, 1) := by decide +kernel
theorem dX11_queueOf_32 : decode cX11_queueOf 32 = .ok (.iload_n 2, 1) := by decide +kernel
theorem dX11_queueOf_33 : decode cX11_queueOf 33 = .ok (.ireturn, 1) := by decide +kernel
theorem dX11_queueLength_0 : decode cX11_queueLength 0 = .ok (.aload_n 0, 1) := by decide +kernel
theorem dX11_queueLength_1 : decode cX11_queueLength 1 = .ok (.iload_n 1, 1) := by decide +kernel
theorem dX11_queueLength_2 : decode cX11_queueLength 2 = .ok (.invokevirtual 102, 3) := by decide +kernel
theorem dX11_queueLength_5 : decode cX11_queueLength 5 = .ok (.aload_n 0, 1) := by decide +kernel
theorem dX11_queueLength_6 : decode cX11_queueLength 6 = .ok (.getfield 10, 3) := by decide +kernel
theorem dX11_queueLength_9 : decode cX11_queueLength 9 = .ok (.getfield 147, 3) := by decide +kernel
theorem dX11_queueLength_12 : decode cX11_queueLength 12 = .ok (.getfield 158, 3) := by decide +kernel
theorem dX11_queueLength_15 : decode cX11_queueLength 15 = .ok (.iload_n 1, 1) := by decide +kernel
theorem dX11_queueLength_16 : decode cX11_queueLength 16 = .ok (.iaload, 1) := by decide +kernel
theorem dX11_queueLength_17 : decode cX11_queueLength 17 = .ok (.ireturn, 1) := by decide +kernel
theorem dX11_queuedGuest_0 : decode cX11_queuedGuest 0 = .ok (.aload_n 0, 1) := by decide +kernel
theorem dX11_queuedGuest_1 : decode cX11_queuedGuest 1 = .ok (.iload_n 1, 1) := by decide +kernel
theorem dX11_queuedGuest_2 : decode cX11_queuedGuest 2 = .ok (.invokevirtual 102, 3) := by decide +kernel
theorem dX11_queuedGuest_5 : decode cX11_queuedGuest 5 = .ok (.iload_n 2, 1) := by decide +kernel
theorem dX11_queuedGuest_6 : decode cX11_queuedGuest 6 = .ok (.ifCond .lt 19, 3) := by decide +kernel
theorem dX11_queuedGuest_9 : decode cX11_queuedGuest 9 = .ok (.iload_n 2, 1) := by decide +kernel
theorem dX11_queuedGuest_10 : decode cX11_queuedGuest 10 = .ok (.aload_n 0, 1) := by decide +kernel
theorem dX11_queuedGuest_11 : decode cX11_queuedGuest 11 = .ok (.getfield 10, 3) := by decide +kernel
theorem dX11_queuedGuest_14 : decode cX11_queuedGuest 14 = .ok (.getfield 147, 3) := by decide +kernel
theorem dX11_queuedGuest_17 : decode cX11_queuedGuest 17 = .ok (.getfield 158, 3) := by decide +kernel
theorem dX11_queuedGuest_20 : decode cX11_queuedGuest 20 = .ok (.iload_n 1, 1) := by decide +kernel
theorem dX11_queuedGuest_21 : decode cX11_queuedGuest 21 = .ok (.iaload, 1) := by decide +kernel
theorem dX11_queuedGuest_22 : decode cX11_queuedGuest 22 = .ok (.if_icmp .lt 13, 3) := by decide +kernel
theorem dX11_queuedGuest_25 : decode cX11_queuedGuest 25 = .ok (.new 125, 3) := by decide +kernel
theorem dX11_queuedGuest_28 : decode cX11_queuedGuest 28 = .ok (.dup, 1) := by decide +kernel
theorem dX11_queuedGuest_29 : decode cX11_queuedGuest 29 = .ok (.ldc 161, 2) := by decide +kernel
theorem dX11_queuedGuest_31 : decode cX11_queuedGuest 31 = .ok (.invokespecial 129, 3) := by decide +kernel
theorem dX11_queuedGuest_34 : decode cX11_queuedGuest 34 = .ok (.athrow, 1) := by decide +kernel
theorem dX11_queuedGuest_35 : decode cX11_queuedGuest 35 = .ok (.aload_n 0, 1) := by decide +kernel
theorem dX11_queuedGuest_36 : decode cX11_queuedGuest 36 = .ok (.getfield 10, 3) := by decide +kernel
theorem dX11_queuedGuest_39 : decode cX11_queuedGuest 39 = .ok (.getfield 147, 3) := by decide +kernel
theorem dX11_queuedGuest_42 : decode cX11_queuedGuest 42 = .ok (.iload_n 1, 1) := by decide +kernel
theorem dX11_queuedGuest_43 : decode cX11_queuedGuest 43 = .ok (.iload_n 2, 1) := by decide +kernel
theorem dX11_queuedGuest_44 : decode cX11_queuedGuest 44 = .ok (.invokevirtual 163, 3) := by decide +kernel
theorem dX11_queuedGuest_47 : decode cX11_queuedGuest 47 = .ok (.ireturn, 1) := by decide +kernel
theorem dX11_bookingCount_0 : decode cX11_bookingCount 0 = .ok (.aload_n 0, 1) := by decide +kernel
theorem dX11_bookingCount_1 : decode cX11_bookingCount 1 = .ok (.getfield 10, 3) := by decide +kernel
theorem dX11_bookingCount_4 : decode cX11_bookingCount 4 = .ok (.getfield 116, 3) := by decide +kernel
theorem dX11_bookingCount_7 : decode cX11_bookingCount 7 = .ok (.getfield 166, 3) := by decide +kernel
theorem dX11_bookingCount_10 : decode cX11_bookingCount 10 = .ok (.ireturn, 1) := by decide +kernel
theorem dX11_bookedGuest_0 : decode cX11_bookedGuest 0 = .ok (.aload_n 0, 1) := by decide +kernel
theorem dX11_bookedGuest_1 : decode cX11_bookedGuest 1 = .ok (.iload_n 1, 1) := by decide +kernel
theorem dX11_bookedGuest_2 : decode cX11_bookedGuest 2 = .ok (.invokevirtual 167, 3) := by decide +kernel
theorem dX11_bookedGuest_5 : decode cX11_bookedGuest 5 = .ok (.aload_n 0, 1) := by decide +kernel
theorem dX11_bookedGuest_6 : decode cX11_bookedGuest 6 = .ok (.getfield 10, 3) := by decide +kernel
theorem dX11_bookedGuest_9 : decode cX11_bookedGuest 9 = .ok (.getfield 116, 3) := by decide +kernel
theorem dX11_bookedGuest_12 : decode cX11_bookedGuest 12 = .ok (.getfield 132, 3) := by decide +kernel
theorem dX11_bookedGuest_15 : decode cX11_bookedGuest 15 = .ok (.iload_n 1, 1) := by decide +kernel
theorem dX11_bookedGuest_16 : decode cX11_bookedGuest 16 = .ok (.iaload, 1) := by decide +kernel
theorem dX11_bookedGuest_17 : decode cX11_bookedGuest 17 = .ok (.ireturn, 1) := by decide +kernel
theorem dX11_bookedSlide_0 : decode cX11_bookedSlide 0 = .ok (.aload_n 0, 1) := by decide +kernel
theorem dX11_bookedSlide_1 : decode cX11_bookedSlide 1 = .ok (.iload_n 1, 1) := by decide +kernel
theorem dX11_bookedSlide_2 : decode cX11_bookedSlide 2 = .ok (.invokevirtual 167, 3) := by decide +kernel
theorem dX11_bookedSlide_5 : decode cX11_bookedSlide 5 = .ok (.aload_n 0, 1) := by decide +kernel
theorem dX11_bookedSlide_6 : decode cX11_bookedSlide 6 = .ok (.getfield 10, 3) := by decide +kernel
theorem dX11_bookedSlide_9 : decode cX11_bookedSlide 9 = .ok (.getfield 116, 3) := by decide +kernel
theorem dX11_bookedSlide_12 : decode cX11_bookedSlide 12 = .ok (.getfield 170, 3) := by decide +kernel
theorem dX11_bookedSlide_15 : decode cX11_bookedSlide 15 = .ok (.iload_n 1, 1) := by decide +kernel
theorem dX11_bookedSlide_16 : decode cX11_bookedSlide 16 = .ok (.iaload, 1) := by decide +kernel
theorem dX11_bookedSlide_17 : decode cX11_bookedSlide 17 = .ok (.ireturn, 1) := by decide +kernel
theorem dX11_start_0 : decode cX11_start 0 = .ok (.aload_n 0, 1) := by decide +kernel
theorem dX11_start_1 : decode cX11_start 1 = .ok (.iload_n 1, 1) := by decide +kernel
theorem dX11_start_2 : decode cX11_start 2 = .ok (.invokevirtual 167, 3) := by decide +kernel
theorem dX11_start_5 : decode cX11_start 5 = .ok (.aload_n 0, 1) := by decide +kernel
theorem dX11_start_6 : decode cX11_start 6 = .ok (.getfield 10, 3) := by decide +kernel
theorem dX11_start_9 : decode cX11_start 9 = .ok (.getfield 116, 3) := by decide +kernel
theorem dX11_start_12 : decode cX11_start 12 = .ok (.getfield 172, 3) := by decide +kernel
theorem dX11_start_15 : decode cX11_start 15 = .ok (.iload_n 1, 1) := by decide +kernel
theorem dX11_start_16 : decode cX11_start 16 = .ok (.iaload, 1) := by decide +kernel
theorem dX11_start_17 : decode cX11_start 17 = .ok (.ireturn, 1) := by decide +kernel
theorem dX11_hasStarted_0 : decode cX11_hasStarted 0 = .ok (.aload_n 0, 1) := by decide +kernel
theorem dX11_hasStarted_1 : decode cX11_hasStarted 1 = .ok (.iload_n 1, 1) := by decide +kernel
theorem dX11_hasStarted_2 : decode cX11_hasStarted 2 = .ok (.invokevirtual 167, 3) := by decide +kernel
theorem dX11_hasStarted_5 : decode cX11_hasStarted 5 = .ok (.aload_n 0, 1) := by decide +kernel
theorem dX11_hasStarted_6 : decode cX11_hasStarted 6 = .ok (.getfield 10, 3) := by decide +kernel
theorem dX11_hasStarted_9 : decode cX11_hasStarted 9 = .ok (.getfield 116, 3) := by decide +kernel
theorem dX11_hasStarted_12 : decode cX11_hasStarted 12 = .ok (.getfield 172, 3) := by decide +kernel
theorem dX11_hasStarted_15 : decode cX11_hasStarted 15 = .ok (.iload_n 1, 1) := by decide +kernel
theorem dX11_hasStarted_16 : decode cX11_hasStarted 16 = .ok (.iaload, 1) := by decide +kernel
theorem dX11_hasStarted_17 : decode cX11_hasStarted 17 = .ok (.aload_n 0, 1) := by decide +kernel
theorem dX11_hasStarted_18 : decode cX11_hasStarted 18 = .ok (.getfield 10, 3) := by decide +kernel
theorem dX11_hasStarted_21 : decode cX11_hasStarted 21 = .ok (.getfield 90, 3) := by decide +kernel
theorem dX11_hasStarted_24 : decode cX11_hasStarted 24 = .ok (.if_icmp .gt 7, 3) := by decide +kernel
theorem dX11_hasStarted_27 : decode cX11_hasStarted 27 = .ok (.iconst 1, 1) := by decide +kernel
theorem dX11_hasStarted_28 : decode cX11_hasStarted 28 = .ok (.goto 4, 3) := by decide +kernel
theorem dX11_hasStarted_31 : decode cX11_hasStarted 31 = .ok (.iconst 0, 1) := by decide +kernel
theorem dX11_hasStarted_32 : decode cX11_hasStarted 32 = .ok (.ireturn, 1) := by decide +kernel
theorem dX11_bookingByStart_0 : decode cX11_bookingByStart 0 = .ok (.iconst 0, 1) := by decide +kernel
theorem dX11_bookingByStart_1 : decode cX11_bookingByStart 1 = .ok (.istore_n 2, 1) := by decide +kernel
theorem dX11_bookingByStart_2 : decode cX11_bookingByStart 2 = .ok (.iload_n 2, 1) := by decide +kernel
theorem dX11_bookingByStart_3 : decode cX11_bookingByStart 3 = .ok (.aload_n 0, 1) := by decide +kernel
theorem dX11_bookingByStart_4 : decode cX11_bookingByStart 4 = .ok (.getfield 10, 3) := by decide +kernel
theorem dX11_bookingByStart_7 : decode cX11_bookingByStart 7 = .ok (.getfield 116, 3) := by decide +kernel
theorem dX11_bookingByStart_10 : decode cX11_bookingByStart 10 = .ok (.getfield 166, 3) := by decide +kernel
theorem dX11_bookingByStart_13 : decode cX11_bookingByStart 13 = .ok (.if_icmp .ge 26, 3) := by decide +kernel
theorem dX11_bookingByStart_16 : decode cX11_bookingByStart 16 = .ok (.aload_n 0, 1) := by decide +kernel
theorem dX11_bookingByStart_17 : decode cX11_bookingByStart 17 = .ok (.getfield 10, 3) := by decide +kernel
theorem dX11_bookingByStart_20 : decode cX11_bookingByStart 20 = .ok (.getfield 116, 3) := by decide +kernel
theorem dX11_bookingByStart_23 : decode cX11_bookingByStart 23 = .ok (.iload_n 2, 1) := by decide +kernel
theorem dX11_bookingByStart_24 : decode cX11_bookingByStart 24 = .ok (.invokevirtual 175, 3) := by decide +kernel
theorem dX11_bookingByStart_27 : decode cX11_bookingByStart 27 = .ok (.iload_n 1, 1) := by decide +kernel
theorem dX11_bookingByStart_28 : decode cX11_bookingByStart 28 = .ok (.if_icmp .ne 5, 3) := by decide +kernel
theorem dX11_bookingByStart_31 : decode cX11_bookingByStart 31 = .ok (.iload_n 2, 1) := by decide +kernel
theorem dX11_bookingByStart_32 : decode cX11_bookingByStart 32 = .ok (.ireturn, 1) := by decide +kernel
theorem dX11_bookingByStart_33 : decode cX11_bookingByStart 33 = .ok (.iinc 2 1, 3) := by decide +kernel
theorem dX11_bookingByStart_36 : decode cX11_bookingByStart 36 = .ok (.goto (-34), 3) := by decide +kernel
theorem dX11_bookingByStart_39 : decode cX11_bookingByStart 39 = .ok (.new 125, 3) := by decide +kernel
theorem dX11_bookingByStart_42 : decode cX11_bookingByStart 42 = .ok (.dup, 1) := by decide +kernel
theorem dX11_bookingByStart_43 : decode cX11_bookingByStart 43 = .ok (.ldc 178, 2) := by decide +kernel
theorem dX11_bookingByStart_45 : decode cX11_bookingByStart 45 = .ok (.invokespecial 129, 3) := by decide +kernel
theorem dX11_bookingByStart_48 : decode cX11_bookingByStart 48 = .ok (.athrow, 1) := by decide +kernel
theorem dX11_isFree_0 : decode cX11_isFree 0 = .ok (.aload_n 0, 1) := by decide +kernel
theorem dX11_isFree_1 : decode cX11_isFree 1 = .ok (.iload_n 1, 1) := by decide +kernel
theorem dX11_isFree_2 : decode cX11_isFree 2 = .ok (.invokevirtual 102, 3) := by decide +kernel
theorem dX11_isFree_5 : decode cX11_isFree 5 = .ok (.aload_n 0, 1) := by decide +kernel
theorem dX11_isFree_6 : decode cX11_isFree 6 = .ok (.iload_n 2, 1) := by decide +kernel
theorem dX11_isFree_7 : decode cX11_isFree 7 = .ok (.invokevirtual 180, 3) := by decide +kernel
theorem dX11_isFree_10 : decode cX11_isFree 10 = .ok (.aload_n 0, 1) := by decide +kernel
theorem dX11_isFree_11 : decode cX11_isFree 11 = .ok (.getfield 10, 3) := by decide +kernel
theorem dX11_isFree_14 : decode cX11_isFree 14 = .ok (.iload_n 1, 1) := by decide +kernel
theorem dX11_isFree_15 : decode cX11_isFree 15 = .ok (.iload_n 2, 1) := by decide +kernel
theorem dX11_isFree_16 : decode cX11_isFree 16 = .ok (.invokevirtual 183, 3) := by decide +kernel
theorem dX11_isFree_19 : decode cX11_isFree 19 = .ok (.ireturn, 1) := by decide +kernel
theorem dX11_firstFree_0 : decode cX11_firstFree 0 = .ok (.aload_n 0, 1) := by decide +kernel
theorem dX11_firstFree_1 : decode cX11_firstFree 1 = .ok (.iload_n 1, 1) := by decide +kernel
theorem dX11_firstFree_2 : decode cX11_firstFree 2 = .ok (.invokevirtual 102, 3) := by decide +kernel
theorem dX11_firstFree_5 : decode cX11_firstFree 5 = .ok (.aload_n 0, 1) := by decide +kernel
theorem dX11_firstFree_6 : decode cX11_firstFree 6 = .ok (.iload_n 2, 1) := by decide +kernel
theorem dX11_firstFree_7 : decode cX11_firstFree 7 = .ok (.invokevirtual 180, 3) := by decide +kernel
theorem dX11_firstFree_10 : decode cX11_firstFree 10 = .ok (.aload_n 0, 1) := by decide +kernel
theorem dX11_firstFree_11 : decode cX11_firstFree 11 = .ok (.getfield 10, 3) := by decide +kernel
theorem dX11_firstFree_14 : decode cX11_firstFree 14 = .ok (.iload_n 1, 1) := by decide +kernel
theorem dX11_firstFree_15 : decode cX11_firstFree 15 = .ok (.iload_n 2, 1) := by decide +kernel
theorem dX11_firstFree_16 : decode cX11_firstFree 16 = .ok (.invokevirtual 187, 3) := by decide +kernel
theorem dX11_firstFree_19 : decode cX11_firstFree 19 = .ok (.invokestatic 190, 3) := by decide +kernel
theorem dX11_firstFree_22 : decode cX11_firstFree 22 = .ok (.ireturn, 1) := by decide +kernel
theorem dX11_firstFreeByGaps_0 : decode cX11_firstFreeByGaps 0 = .ok (.aload_n 0, 1) := by decide +kernel
theorem dX11_firstFreeByGaps_1 : decode cX11_firstFreeByGaps 1 = .ok (.iload_n 1, 1) := by decide +kernel
theorem dX11_firstFreeByGaps_2 : decode cX11_firstFreeByGaps 2 = .ok (.invokevirtual 102, 3) := by decide +kernel
theorem dX11_firstFreeByGaps_5 : decode cX11_firstFreeByGaps 5 = .ok (.aload_n 0, 1) := by decide +kernel
theorem dX11_firstFreeByGaps_6 : decode cX11_firstFreeByGaps 6 = .ok (.iload_n 2, 1) := by decide +kernel
theorem dX11_firstFreeByGaps_7 : decode cX11_firstFreeByGaps 7 = .ok (.invokevirtual 180, 3) := by decide +kernel
theorem dX11_firstFreeByGaps_10 : decode cX11_firstFreeByGaps 10 = .ok (.aload_n 0, 1) := by decide +kernel
theorem dX11_firstFreeByGaps_11 : decode cX11_firstFreeByGaps 11 = .ok (.getfield 10, 3) := by decide +kernel
theorem dX11_firstFreeByGaps_14 : decode cX11_firstFreeByGaps 14 = .ok (.iload_n 1, 1) := by decide +kernel
theorem dX11_firstFreeByGaps_15 : decode cX11_firstFreeByGaps 15 = .ok (.iload_n 2, 1) := by decide +kernel
theorem dX11_firstFreeByGaps_16 : decode cX11_firstFreeByGaps 16 = .ok (.invokevirtual 193, 3) := by decide +kernel
theorem dX11_firstFreeByGaps_19 : decode cX11_firstFreeByGaps 19 = .ok (.invokestatic 190, 3) := by decide +kernel
theorem dX11_firstFreeByGaps_22 : decode cX11_firstFreeByGaps 22 = .ok (.ireturn, 1) := by decide +kernel
theorem dX11_mostWatched_0 : decode cX11_mostWatched 0 = .ok (.aload_n 0, 1) := by decide +kernel
theorem dX11_mostWatched_1 : decode cX11_mostWatched 1 = .ok (.getfield 10, 3) := by decide +kernel
theorem dX11_mostWatched_4 : decode cX11_mostWatched 4 = .ok (.getfield 116, 3) := by decide +kernel
theorem dX11_mostWatched_7 : decode cX11_mostWatched 7 = .ok (.invokevirtual 196, 3) := by decide +kernel
theorem dX11_mostWatched_10 : decode cX11_mostWatched 10 = .ok (.ireturn, 1) := by decide +kernel
theorem dX11_mostWatchedByTable_0 : decode cX11_mostWatchedByTable 0 = .ok (.aload_n 0, 1) := by decide +kernel
theorem dX11_mostWatchedByTable_1 : decode cX11_mostWatchedByTable 1 = .ok (.getfield 33, 3) := by decide +kernel
theorem dX11_mostWatchedByTable_4 : decode cX11_mostWatchedByTable 4 = .ok (.aload_n 0, 1) := by decide +kernel
theorem dX11_mostWatchedByTable_5 : decode cX11_mostWatchedByTable 5 = .ok (.getfield 10, 3) := by decide +kernel
theorem dX11_mostWatchedByTable_8 : decode cX11_mostWatchedByTable 8 = .ok (.getfield 116, 3) := by decide +kernel
theorem dX11_mostWatchedByTable_11 : decode cX11_mostWatchedByTable 11 = .ok (.invokevirtual 199, 3) := by decide +kernel
theorem dX11_mostWatchedByTable_14 : decode cX11_mostWatchedByTable 14 = .ok (.ireturn, 1) := by decide +kernel
theorem dX11_mostAtOnce_0 : decode cX11_mostAtOnce 0 = .ok (.aload_n 0, 1) := by decide +kernel
theorem dX11_mostAtOnce_1 : decode cX11_mostAtOnce 1 = .ok (.getfield 10, 3) := by decide +kernel
theorem dX11_mostAtOnce_4 : decode cX11_mostAtOnce 4 = .ok (.getfield 116, 3) := by decide +kernel
theorem dX11_mostAtOnce_7 : decode cX11_mostAtOnce 7 = .ok (.invokevirtual 203, 3) := by decide +kernel
theorem dX11_mostAtOnce_10 : decode cX11_mostAtOnce 10 = .ok (.ireturn, 1) := by decide +kernel
theorem dX11_mostAtOnceBySweep_0 : decode cX11_mostAtOnceBySweep 0 = .ok (.aload_n 0, 1) := by decide +kernel
theorem dX11_mostAtOnceBySweep_1 : decode cX11_mostAtOnceBySweep 1 = .ok (.getfield 10, 3) := by decide +kernel
theorem dX11_mostAtOnceBySweep_4 : decode cX11_mostAtOnceBySweep 4 = .ok (.getfield 116, 3) := by decide +kernel
theorem dX11_mostAtOnceBySweep_7 : decode cX11_mostAtOnceBySweep 7 = .ok (.invokevirtual 206, 3) := by decide +kernel
theorem dX11_mostAtOnceBySweep_10 : decode cX11_mostAtOnceBySweep 10 = .ok (.ireturn, 1) := by decide +kernel
theorem dX11_finishCount_0 : decode cX11_finishCount 0 = .ok (.aload_n 0, 1) := by decide +kernel
theorem dX11_finishCount_1 : decode cX11_finishCount 1 = .ok (.getfield 10, 3) := by decide +kernel
theorem dX11_finishCount_4 : decode cX11_finishCount 4 = .ok (.getfield 209, 3) := by decide +kernel
theorem dX11_finishCount_7 : decode cX11_finishCount 7 = .ok (.getfield 213, 3) := by decide +kernel
theorem dX11_finishCount_10 : decode cX11_finishCount 10 = .ok (.ireturn, 1) := by decide +kernel
theorem dX11_finishedGuest_0 : decode cX11_finishedGuest 0 = .ok (.aload_n 0, 1) := by decide +kernel
theorem dX11_finishedGuest_1 : decode cX11_finishedGuest 1 = .ok (.iload_n 1, 1) := by decide +kernel
theorem dX11_finishedGuest_2 : decode cX11_finishedGuest 2 = .ok (.invokevirtual 216, 3) := by decide +kernel
theorem dX11_finishedGuest_5 : decode cX11_finishedGuest 5 = .ok (.aload_n 0, 1) := by decide +kernel
theorem dX11_finishedGuest_6 : decode cX11_finishedGuest 6 = .ok (.getfield 10, 3) := by decide +kernel
theorem dX11_finishedGuest_9 : decode cX11_finishedGuest 9 = .ok (.getfield 209, 3) := by decide +kernel
theorem dX11_finishedGuest_12 : decode cX11_finishedGuest 12 = .ok (.getfield 219, 3) := by decide +kernel
theorem dX11_finishedGuest_15 : decode cX11_finishedGuest 15 = .ok (.aload_n 0, 1) := by decide +kernel
theorem dX11_finishedGuest_16 : decode cX11_finishedGuest 16 = .ok (.getfield 10, 3) := by decide +kernel
theorem dX11_finishedGuest_19 : decode cX11_finishedGuest 19 = .ok (.getfield 209, 3) := by decide +kernel
theorem dX11_finishedGuest_22 : decode cX11_finishedGuest 22 = .ok (.iload_n 1, 1) := by decide +kernel
theorem dX11_finishedGuest_23 : decode cX11_finishedGuest 23 = .ok (.invokevirtual 220, 3) := by decide +kernel
theorem dX11_finishedGuest_26 : decode cX11_finishedGuest 26 = .ok (.iaload, 1) := by decide +kernel
theorem dX11_finishedGuest_27 : decode cX11_finishedGuest 27 = .ok (.ireturn, 1) := by decide +kernel
theorem dX11_finishedSlide_0 : decode cX11_finishedSlide 0 = .ok (.aload_n 0, 1) := by decide +kernel
theorem dX11_finishedSlide_1 : decode cX11_finishedSlide 1 = .ok (.iload_n 1, 1) := by decide +kernel
theorem dX11_finishedSlide_2 : decode cX11_finishedSlide 2 = .ok (.invokevirtual 216, 3) := by decide +kernel
theorem dX11_finishedSlide_5 : decode cX11_finishedSlide 5 = .ok (.aload_n 0, 1) := by decide +kernel
theorem dX11_finishedSlide_6 : decode cX11_finishedSlide 6 = .ok (.getfield 10, 3) := by decide +kernel
theorem dX11_finishedSlide_9 : decode cX11_finishedSlide 9 = .ok (.getfield 209, 3) := by decide +kernel
theorem dX11_finishedSlide_12 : decode cX11_finishedSlide 12 = .ok (.getfield 223, 3) := by decide +kernel
theorem dX11_finishedSlide_15 : decode cX11_finishedSlide 15 = .ok (.aload_n 0, 1) := by decide +kernel
theorem dX11_finishedSlide_16 : decode cX11_finishedSlide 16 = .ok (.getfield 10, 3) := by decide +kernel
theorem dX11_finishedSlide_19 : decode cX11_finishedSlide 19 = .ok (.getfield 209, 3) := by decide +kernel
theorem dX11_finishedSlide_22 : decode cX11_finishedSlide 22 = .ok (.iload_n 1, 1) := by decide +kernel
theorem dX11_finishedSlide_23 : decode cX11_finishedSlide 23 = .ok (.invokevirtual 220, 3) := by decide +kernel
theorem dX11_finishedSlide_26 : decode cX11_finishedSlide 26 = .ok (.iaload, 1) := by decide +kernel
theorem dX11_finishedSlide_27 : decode cX11_finishedSlide 27 = .ok (.ireturn, 1) := by decide +kernel
theorem dX11_finishMinute_0 : decode cX11_finishMinute 0 = .ok (.aload_n 0, 1) := by decide +kernel
theorem dX11_finishMinute_1 : decode cX11_finishMinute 1 = .ok (.iload_n 1, 1) := by decide +kernel
theorem dX11_finishMinute_2 : decode cX11_finishMinute 2 = .ok (.invokevirtual 216, 3) := by decide +kernel
theorem dX11_finishMinute_5 : decode cX11_finishMinute 5 = .ok (.aload_n 0, 1) := by decide +kernel
theorem dX11_finishMinute_6 : decode cX11_finishMinute 6 = .ok (.getfield 10, 3) := by decide +kernel
theorem dX11_finishMinute_9 : decode cX11_finishMinute 9 = .ok (.getfield 209, 3) := by decide +kernel
theorem dX11_finishMinute_12 : decode cX11_finishMinute 12 = .ok (.getfield 224, 3) := by decide +kernel
theorem dX11_finishMinute_15 : decode cX11_finishMinute 15 = .ok (.aload_n 0, 1) := by decide +kernel
theorem dX11_finishMinute_16 : decode cX11_finishMinute 16 = .ok (.getfield 10, 3) := by decide +kernel
theorem dX11_finishMinute_19 : decode cX11_finishMinute 19 = .ok (.getfield 209, 3) := by decide +kernel
theorem dX11_finishMinute_22 : decode cX11_finishMinute 22 = .ok (.iload_n 1, 1) := by decide +kernel
theorem dX11_finishMinute_23 : decode cX11_finishMinute 23 = .ok (.invokevirtual 220, 3) := by decide +kernel
theorem dX11_finishMinute_26 : decode cX11_finishMinute 26 = .ok (.iaload, 1) := by decide +kernel
theorem dX11_finishMinute_27 : decode cX11_finishMinute 27 = .ok (.ireturn, 1) := by decide +kernel
theorem dX11_photoFinishes_0 : decode cX11_photoFinishes 0 = .ok (.aload_n 0, 1) := by decide +kernel
theorem dX11_photoFinishes_1 : decode cX11_photoFinishes 1 = .ok (.getfield 10, 3) := by decide +kernel
theorem dX11_photoFinishes_4 : decode cX11_photoFinishes 4 = .ok (.getfield 209, 3) := by decide +kernel
theorem dX11_photoFinishes_7 : decode cX11_photoFinishes 7 = .ok (.invokevirtual 227, 3) := by decide +kernel
theorem dX11_photoFinishes_10 : decode cX11_photoFinishes 10 = .ok (.ireturn, 1) := by decide +kernel
theorem dX11_photoFinishesByRuns_0 : decode cX11_photoFinishesByRuns 0 = .ok (.aload_n 0, 1) := by decide +kernel
theorem dX11_photoFinishesByRuns_1 : decode cX11_photoFinishesByRuns 1 = .ok (.getfield 10, 3) := by decide +kernel
theorem dX11_photoFinishesByRuns_4 : decode cX11_photoFinishesByRuns 4 = .ok (.getfield 209, 3) := by decide +kernel
theorem dX11_photoFinishesByRuns_7 : decode cX11_photoFinishesByRuns 7 = .ok (.invokevirtual 230, 3) := by decide +kernel
theorem dX11_photoFinishesByRuns_10 : decode cX11_photoFinishesByRuns 10 = .ok (.ireturn, 1) := by decide +kernel
theorem dX11_splashes_0 : decode cX11_splashes 0 = .ok (.aload_n 0, 1) := by decide +kernel
theorem dX11_splashes_1 : decode cX11_splashes 1 = .ok (.getfield 10, 3) := by decide +kernel
theorem dX11_splashes_4 : decode cX11_splashes 4 = .ok (.getfield 233, 3) := by decide +kernel
theorem dX11_splashes_7 : decode cX11_splashes 7 = .ok (.ireturn, 1) := by decide +kernel
theorem dX11_refundedCoins_0 : decode cX11_refundedCoins 0 = .ok (.aload_n 0, 1) := by decide +kernel
theorem dX11_refundedCoins_1 : decode cX11_refundedCoins 1 = .ok (.getfield 10, 3) := by decide +kernel
theorem dX11_refundedCoins_4 : decode cX11_refundedCoins 4 = .ok (.getfield 236, 3) := by decide +kernel
theorem dX11_refundedCoins_7 : decode cX11_refundedCoins 7 = .ok (.ireturn, 1) := by decide +kernel
theorem dX11_officeCoins_0 : decode cX11_officeCoins 0 = .ok (.aload_n 0, 1) := by decide +kernel
theorem dX11_officeCoins_1 : decode cX11_officeCoins 1 = .ok (.getfield 10, 3) := by decide +kernel
theorem dX11_officeCoins_4 : decode cX11_officeCoins 4 = .ok (.getfield 239, 3) := by decide +kernel
theorem dX11_officeCoins_7 : decode cX11_officeCoins 7 = .ok (.ireturn, 1) := by decide +kernel
theorem dX11_rides_0 : decode cX11_rides 0 = .ok (.aload_n 0, 1) := by decide +kernel
theorem dX11_rides_1 : decode cX11_rides 1 = .ok (.iload_n 1, 1) := by decide +kernel
theorem dX11_rides_2 : decode cX11_rides 2 = .ok (.invokevirtual 141, 3) := by decide +kernel
theorem dX11_rides_5 : decode cX11_rides 5 = .ok (.aload_n 0, 1) := by decide +kernel
theorem dX11_rides_6 : decode cX11_rides 6 = .ok (.getfield 10, 3) := by decide +kernel
theorem dX11_rides_9 : decode cX11_rides 9 = .ok (.getfield 135, 3) := by decide +kernel
theorem dX11_rides_12 : decode cX11_rides 12 = .ok (.getfield 242, 3) := by decide +kernel
theorem dX11_rides_15 : decode cX11_rides 15 = .ok (.iload_n 1, 1) := by decide +kernel
theorem dX11_rides_16 : decode cX11_rides 16 = .ok (.iaload, 1) := by decide +kernel
theorem dX11_rides_17 : decode cX11_rides 17 = .ok (.ireturn, 1) := by decide +kernel
theorem dX11_guestByRides_0 : decode cX11_guestByRides 0 = .ok (.iconst 0, 1) := by decide +kernel
theorem dX11_guestByRides_1 : decode cX11_guestByRides 1 = .ok (.istore_n 2, 1) := by decide +kernel
theorem dX11_guestByRides_2 : decode cX11_guestByRides 2 = .ok (.iload_n 2, 1) := by decide +kernel
theorem dX11_guestByRides_3 : decode cX11_guestByRides 3 = .ok (.aload_n 0, 1) := by decide +kernel
theorem dX11_guestByRides_4 : decode cX11_guestByRides 4 = .ok (.getfield 10, 3) := by decide +kernel
theorem dX11_guestByRides_7 : decode cX11_guestByRides 7 = .ok (.getfield 135, 3) := by decide +kernel
theorem dX11_guestByRides_10 : decode cX11_guestByRides 10 = .ok (.getfield 138, 3) := by decide +kernel
theorem dX11_guestByRides_13 : decode cX11_guestByRides 13 = .ok (.if_icmp .ge 26, 3) := by decide +kernel
theorem dX11_guestByRides_16 : decode cX11_guestByRides 16 = .ok (.aload_n 0, 1) := by decide +kernel
theorem dX11_guestByRides_17 : decode cX11_guestByRides 17 = .ok (.getfield 10, 3) := by decide +kernel
theorem dX11_guestByRides_20 : decode cX11_guestByRides 20 = .ok (.getfield 135, 3) := by decide +kernel
theorem dX11_guestByRides_23 : decode cX11_guestByRides 23 = .ok (.iload_n 2, 1) := by decide +kernel
theorem dX11_guestByRides_24 : decode cX11_guestByRides 24 = .ok (.invokevirtual 245, 3) := by decide +kernel
theorem dX11_guestByRides_27 : decode cX11_guestByRides 27 = .ok (.iload_n 1, 1) := by decide +kernel
theorem dX11_guestByRides_28 : decode cX11_guestByRides 28 = .ok (.if_icmp .ne 5, 3) := by decide +kernel
theorem dX11_guestByRides_31 : decode cX11_guestByRides 31 = .ok (.iload_n 2, 1) := by decide +kernel
theorem dX11_guestByRides_32 : decode cX11_guestByRides 32 = .ok (.ireturn, 1) := by decide +kernel
theorem dX11_guestByRides_33 : decode cX11_guestByRides 33 = .ok (.iinc 2 1, 3) := by decide +kernel
theorem dX11_guestByRides_36 : decode cX11_guestByRides 36 = .ok (.goto (-34), 3) := by decide +kernel
theorem dX11_guestByRides_39 : decode cX11_guestByRides 39 = .ok (.new 125, 3) := by decide +kernel
theorem dX11_guestByRides_42 : decode cX11_guestByRides 42 = .ok (.dup, 1) := by decide +kernel
theorem dX11_guestByRides_43 : decode cX11_guestByRides 43 = .ok (.ldc 178, 2) := by decide +kernel
theorem dX11_guestByRides_45 : decode cX11_guestByRides 45 = .ok (.invokespecial 129, 3) := by decide +kernel
theorem dX11_guestByRides_48 : decode cX11_guestByRides 48 = .ok (.athrow, 1) := by decide +kernel
theorem dX11_slideByWetness_0 : decode cX11_slideByWetness 0 = .ok (.iconst 0, 1) := by decide +kernel
theorem dX11_slideByWetness_1 : decode cX11_slideByWetness 1 = .ok (.istore_n 2, 1) := by decide +kernel
theorem dX11_slideByWetness_2 : decode cX11_slideByWetness 2 = .ok (.iload_n 2, 1) := by decide +kernel
theorem dX11_slideByWetness_3 : decode cX11_slideByWetness 3 = .ok (.aload_n 0, 1) := by decide +kernel
theorem dX11_slideByWetness_4 : decode cX11_slideByWetness 4 = .ok (.getfield 10, 3) := by decide +kernel
theorem dX11_slideByWetness_7 : decode cX11_slideByWetness 7 = .ok (.getfield 93, 3) := by decide +kernel
theorem dX11_slideByWetness_10 : decode cX11_slideByWetness 10 = .ok (.getfield 97, 3) := by decide +kernel
theorem dX11_slideByWetness_13 : decode cX11_slideByWetness 13 = .ok (.if_icmp .ge 26, 3) := by decide +kernel
theorem dX11_slideByWetness_16 : decode cX11_slideByWetness 16 = .ok (.aload_n 0, 1) := by decide +kernel
theorem dX11_slideByWetness_17 : decode cX11_slideByWetness 17 = .ok (.getfield 10, 3) := by decide +kernel
theorem dX11_slideByWetness_20 : decode cX11_slideByWetness 20 = .ok (.getfield 93, 3) := by decide +kernel
theorem dX11_slideByWetness_23 : decode cX11_slideByWetness 23 = .ok (.iload_n 2, 1) := by decide +kernel
theorem dX11_slideByWetness_24 : decode cX11_slideByWetness 24 = .ok (.invokevirtual 248, 3) := by decide +kernel
theorem dX11_slideByWetness_27 : decode cX11_slideByWetness 27 = .ok (.iload_n 1, 1) := by decide +kernel
theorem dX11_slideByWetness_28 : decode cX11_slideByWetness 28 = .ok (.if_icmp .ne 5, 3) := by decide +kernel
theorem dX11_slideByWetness_31 : decode cX11_slideByWetness 31 = .ok (.iload_n 2, 1) := by decide +kernel
theorem dX11_slideByWetness_32 : decode cX11_slideByWetness 32 = .ok (.ireturn, 1) := by decide +kernel
theorem dX11_slideByWetness_33 : decode cX11_slideByWetness 33 = .ok (.iinc 2 1, 3) := by decide +kernel
theorem dX11_slideByWetness_36 : decode cX11_slideByWetness 36 = .ok (.goto (-34), 3) := by decide +kernel
theorem dX11_slideByWetness_39 : decode cX11_slideByWetness 39 = .ok (.new 125, 3) := by decide +kernel
theorem dX11_slideByWetness_42 : decode cX11_slideByWetness 42 = .ok (.dup, 1) := by decide +kernel
theorem dX11_slideByWetness_43 : decode cX11_slideByWetness 43 = .ok (.ldc 178, 2) := by decide +kernel
theorem dX11_slideByWetness_45 : decode cX11_slideByWetness 45 = .ok (.invokespecial 129, 3) := by decide +kernel
theorem dX11_slideByWetness_48 : decode cX11_slideByWetness 48 = .ok (.athrow, 1) := by decide +kernel
theorem dX11_meanCoins_0 : decode cX11_meanCoins 0 = .ok (.aload_n 0, 1) := by decide +kernel
theorem dX11_meanCoins_1 : decode cX11_meanCoins 1 = .ok (.getfield 10, 3) := by decide +kernel
theorem dX11_meanCoins_4 : decode cX11_meanCoins 4 = .ok (.getfield 135, 3) := by decide +kernel
theorem dX11_meanCoins_7 : decode cX11_meanCoins 7 = .ok (.getfield 138, 3) := by decide +kernel
theorem dX11_meanCoins_10 : decode cX11_meanCoins 10 = .ok (.ifCond .ne 13, 3) := by decide +kernel
theorem dX11_meanCoins_13 : decode cX11_meanCoins 13 = .ok (.new 251, 3) := by decide +kernel
theorem dX11_meanCoins_16 : decode cX11_meanCoins 16 = .ok (.dup, 1) := by decide +kernel
theorem dX11_meanCoins_17 : decode cX11_meanCoins 17 = .ok (.ldc 253, 2) := by decide +kernel
theorem dX11_meanCoins_19 : decode cX11_meanCoins 19 = .ok (.invokespecial 255, 3) := by decide +kernel
theorem dX11_meanCoins_22 : decode cX11_meanCoins 22 = .ok (.athrow, 1) := by decide +kernel
theorem dX11_meanCoins_23 : decode cX11_meanCoins 23 = .ok (.aload_n 0, 1) := by decide +kernel
theorem dX11_meanCoins_24 : decode cX11_meanCoins 24 = .ok (.getfield 10, 3) := by decide +kernel
theorem dX11_meanCoins_27 : decode cX11_meanCoins 27 = .ok (.getfield 135, 3) := by decide +kernel
theorem dX11_meanCoins_30 : decode cX11_meanCoins 30 = .ok (.invokevirtual 256, 3) := by decide +kernel
theorem dX11_meanCoins_33 : decode cX11_meanCoins 33 = .ok (.i2d, 1) := by decide +kernel
theorem dX11_meanCoins_34 : decode cX11_meanCoins 34 = .ok (.aload_n 0, 1) := by decide +kernel
theorem dX11_meanCoins_35 : decode cX11_meanCoins 35 = .ok (.getfield 10, 3) := by decide +kernel
theorem dX11_meanCoins_38 : decode cX11_meanCoins 38 = .ok (.getfield 135, 3) := by decide +kernel
theorem dX11_meanCoins_41 : decode cX11_meanCoins 41 = .ok (.getfield 138, 3) := by decide +kernel
theorem dX11_meanCoins_44 : decode cX11_meanCoins 44 = .ok (.i2d, 1) := by decide +kernel
theorem dX11_meanCoins_45 : decode cX11_meanCoins 45 = .ok (.ddiv, 1) := by decide +kernel
theorem dX11_meanCoins_46 : decode cX11_meanCoins 46 = .ok (.dreturn, 1) := by decide +kernel
theorem dX11_busyShare_0 : decode cX11_busyShare 0 = .ok (.aload_n 0, 1) := by decide +kernel
theorem dX11_busyShare_1 : decode cX11_busyShare 1 = .ok (.getfield 10, 3) := by decide +kernel
theorem dX11_busyShare_4 : decode cX11_busyShare 4 = .ok (.getfield 93, 3) := by decide +kernel
theorem dX11_busyShare_7 : decode cX11_busyShare 7 = .ok (.getfield 97, 3) := by decide +kernel
theorem dX11_busyShare_10 : decode cX11_busyShare 10 = .ok (.ifCond .ne 14, 3) := by decide +kernel
theorem dX11_busyShare_13 : decode cX11_busyShare 13 = .ok (.new 251, 3) := by decide +kernel
theorem dX11_busyShare_16 : decode cX11_busyShare 16 = .ok (.dup, 1) := by decide +kernel
theorem dX11_busyShare_17 : decode cX11_busyShare 17 = .ok (.ldc_w 259, 3) := by decide +kernel
theorem dX11_busyShare_20 : decode cX11_busyShare 20 = .ok (.invokespecial 255, 3) := by decide +kernel
theorem dX11_busyShare_23 : decode cX11_busyShare 23 = .ok (.athrow, 1) := by decide +kernel
theorem dX11_busyShare_24 : decode cX11_busyShare 24 = .ok (.aload_n 0, 1) := by decide +kernel
theorem dX11_busyShare_25 : decode cX11_busyShare 25 = .ok (.getfield 10, 3) := by decide +kernel
theorem dX11_busyShare_28 : decode cX11_busyShare 28 = .ok (.invokevirtual 261, 3) := by decide +kernel
theorem dX11_busyShare_31 : decode cX11_busyShare 31 = .ok (.i2f, 1) := by decide +kernel
theorem dX11_busyShare_32 : decode cX11_busyShare 32 = .ok (.aload_n 0, 1) := by decide +kernel
theorem dX11_busyShare_33 : decode cX11_busyShare 33 = .ok (.getfield 10, 3) := by decide +kernel
theorem dX11_busyShare_36 : decode cX11_busyShare 36 = .ok (.getfield 93, 3) := by decide +kernel
theorem dX11_busyShare_39 : decode cX11_busyShare 39 = .ok (.getfield 97, 3) := by decide +kernel
theorem dX11_busyShare_42 : decode cX11_busyShare 42 = .ok (.i2f, 1) := by decide +kernel
theorem dX11_busyShare_43 : decode cX11_busyShare 43 = .ok (.fdiv, 1) := by decide +kernel
theorem dX11_busyShare_44 : decode cX11_busyShare 44 = .ok (.freturn, 1) := by decide +kernel
theorem dX11_isConsistent_0 : decode cX11_isConsistent 0 = .ok (.aload_n 0, 1) := by decide +kernel
theorem dX11_isConsistent_1 : decode cX11_isConsistent 1 = .ok (.getfield 10, 3) := by decide +kernel
theorem dX11_isConsistent_4 : decode cX11_isConsistent 4 = .ok (.getfield 135, 3) := by decide +kernel
theorem dX11_isConsistent_7 : decode cX11_isConsistent 7 = .ok (.invokevirtual 256, 3) := by decide +kernel
theorem dX11_isConsistent_10 : decode cX11_isConsistent 10 = .ok (.aload_n 0, 1) := by decide +kernel
theorem dX11_isConsistent_11 : decode cX11_isConsistent 11 = .ok (.getfield 10, 3) := by decide +kernel
theorem dX11_isConsistent_14 : decode cX11_isConsistent 14 = .ok (.getfield 239, 3) := by decide +kernel
theorem dX11_isConsistent_17 : decode cX11_isConsistent 17 = .ok (.iadd, 1) := by decide +kernel
theorem dX11_isConsistent_18 : decode cX11_isConsistent 18 = .ok (.istore_n 1, 1) := by decide +kernel
theorem dX11_isConsistent_19 : decode cX11_isConsistent 19 = .ok (.iload_n 1, 1) := by decide +kernel
theorem dX11_isConsistent_20 : decode cX11_isConsistent 20 = .ok (.bipush 50, 2) := by decide +kernel
theorem dX11_isConsistent_22 : decode cX11_isConsistent 22 = .ok (.aload_n 0, 1) := by decide +kernel
theorem dX11_isConsistent_23 : decode cX11_isConsistent 23 = .ok (.getfield 10, 3) := by decide +kernel
theorem dX11_isConsistent_26 : decode cX11_isConsistent 26 = .ok (.getfield 135, 3) := by decide +kernel
theorem dX11_isConsistent_29 : decode cX11_isConsistent 29 = .ok (.getfield 138, 3) := by decide +kernel
theorem dX11_isConsistent_32 : decode cX11_isConsistent 32 = .ok (.imul, 1) := by decide +kernel
theorem dX11_isConsistent_33 : decode cX11_isConsistent 33 = .ok (.if_icmp .ne 40, 3) := by decide +kernel
theorem dX11_isConsistent_36 : decode cX11_isConsistent 36 = .ok (.aload_n 0, 1) := by decide +kernel
theorem dX11_isConsistent_37 : decode cX11_isConsistent 37 = .ok (.invokevirtual 264, 3) := by decide +kernel
theorem dX11_isConsistent_40 : decode cX11_isConsistent 40 = .ok (.aload_n 0, 1) := by decide +kernel
theorem dX11_isConsistent_41 : decode cX11_isConsistent 41 = .ok (.invokevirtual 267, 3) := by decide +kernel
theorem dX11_isConsistent_44 : decode cX11_isConsistent 44 = .ok (.if_icmp .ne 29, 3) := by decide +kernel
theorem dX11_isConsistent_47 : decode cX11_isConsistent 47 = .ok (.aload_n 0, 1) := by decide +kernel
theorem dX11_isConsistent_48 : decode cX11_isConsistent 48 = .ok (.invokevirtual 270, 3) := by decide +kernel
theorem dX11_isConsistent_51 : decode cX11_isConsistent 51 = .ok (.aload_n 0, 1) := by decide +kernel
theorem dX11_isConsistent_52 : decode cX11_isConsistent 52 = .ok (.invokevirtual 273, 3) := by decide +kernel
theorem dX11_isConsistent_55 : decode cX11_isConsistent 55 = .ok (.if_icmp .ne 18, 3) := by decide +kernel
theorem dX11_isConsistent_58 : decode cX11_isConsistent 58 = .ok (.aload_n 0, 1) := by decide +kernel
theorem dX11_isConsistent_59 : decode cX11_isConsistent 59 = .ok (.invokevirtual 276, 3) := by decide +kernel
theorem dX11_isConsistent_62 : decode cX11_isConsistent 62 = .ok (.aload_n 0, 1) := by decide +kernel
theorem dX11_isConsistent_63 : decode cX11_isConsistent 63 = .ok (.invokevirtual 279, 3) := by decide +kernel
theorem dX11_isConsistent_66 : decode cX11_isConsistent 66 = .ok (.if_icmp .ne 7, 3) := by decide +kernel
theorem dX11_isConsistent_69 : decode cX11_isConsistent 69 = .ok (.iconst 1, 1) := by decide +kernel
theorem dX11_isConsistent_70 : decode cX11_isConsistent 70 = .ok (.goto 4, 3) := by decide +kernel
theorem dX11_isConsistent_73 : decode cX11_isConsistent 73 = .ok (.iconst 0, 1) := by decide +kernel
theorem dX11_isConsistent_74 : decode cX11_isConsistent 74 = .ok (.ireturn, 1) := by decide +kernel
theorem dX11_feed_0 : decode cX11_feed 0 = .ok (.aload_n 0, 1) := by decide +kernel
theorem dX11_feed_1 : decode cX11_feed 1 = .ok (.getfield 40, 3) := by decide +kernel
theorem dX11_feed_4 : decode cX11_feed 4 = .ok (.getfield 282, 3) := by decide +kernel
theorem dX11_feed_7 : decode cX11_feed 7 = .ok (.bipush 60, 2) := by decide +kernel
theorem dX11_feed_9 : decode cX11_feed 9 = .ok (.if_icmp .lt 14, 3) := by decide +kernel
theorem dX11_feed_12 : decode cX11_feed 12 = .ok (.new 285, 3) := by decide +kernel
theorem dX11_feed_15 : decode cX11_feed 15 = .ok (.dup, 1) := by decide +kernel
theorem dX11_feed_16 : decode cX11_feed 16 = .ok (.ldc_w 287, 3) := by decide +kernel
theorem dX11_feed_19 : decode cX11_feed 19 = .ok (.invokespecial 289, 3) := by decide +kernel
theorem dX11_feed_22 : decode cX11_feed 22 = .ok (.athrow, 1) := by decide +kernel
theorem dX11_feed_23 : decode cX11_feed 23 = .ok (.aload_n 0, 1) := by decide +kernel
theorem dX11_feed_24 : decode cX11_feed 24 = .ok (.getfield 40, 3) := by decide +kernel
theorem dX11_feed_27 : decode cX11_feed 27 = .ok (.iload_n 1, 1) := by decide +kernel
theorem dX11_feed_28 : decode cX11_feed 28 = .ok (.invokevirtual 290, 3) := by decide +kernel
theorem dX11_feed_31 : decode cX11_feed 31 = .ok (.aload_n 0, 1) := by decide +kernel
theorem dX11_feed_32 : decode cX11_feed 32 = .ok (.getfield 40, 3) := by decide +kernel
theorem dX11_feed_35 : decode cX11_feed 35 = .ok (.getfield 282, 3) := by decide +kernel
theorem dX11_feed_38 : decode cX11_feed 38 = .ok (.ireturn, 1) := by decide +kernel
theorem dX11_runCommands_0 : decode cX11_runCommands 0 = .ok (.aload_n 0, 1) := by decide +kernel
theorem dX11_runCommands_1 : decode cX11_runCommands 1 = .ok (.getfield 40, 3) := by decide +kernel
theorem dX11_runCommands_4 : decode cX11_runCommands 4 = .ok (.invokevirtual 294, 3) := by decide +kernel
theorem dX11_runCommands_7 : decode cX11_runCommands 7 = .ok (.istore_n 1, 1) := by decide +kernel
theorem dX11_runCommands_8 : decode cX11_runCommands 8 = .ok (.iload_n 1, 1) := by decide +kernel
theorem dX11_runCommands_9 : decode cX11_runCommands 9 = .ok (.iconst (-1), 1) := by decide +kernel
theorem dX11_runCommands_10 : decode cX11_runCommands 10 = .ok (.if_icmp .ne 32, 3) := by decide +kernel
theorem dX11_runCommands_13 : decode cX11_runCommands 13 = .ok (.aload_n 0, 1) := by decide +kernel
theorem dX11_runCommands_14 : decode cX11_runCommands 14 = .ok (.aload_n 0, 1) := by decide +kernel
theorem dX11_runCommands_15 : decode cX11_runCommands 15 = .ok (.getfield 40, 3) := by decide +kernel
theorem dX11_runCommands_18 : decode cX11_runCommands 18 = .ok (.getfield 297, 3) := by decide +kernel
theorem dX11_runCommands_21 : decode cX11_runCommands 21 = .ok (.putfield 51, 3) := by decide +kernel
theorem dX11_runCommands_24 : decode cX11_runCommands 24 = .ok (.aload_n 0, 1) := by decide +kernel
theorem dX11_runCommands_25 : decode cX11_runCommands 25 = .ok (.getfield 40, 3) := by decide +kernel
theorem dX11_runCommands_28 : decode cX11_runCommands 28 = .ok (.invokevirtual 300, 3) := by decide +kernel
theorem dX11_runCommands_31 : decode cX11_runCommands 31 = .ok (.new 303, 3) := by decide +kernel
theorem dX11_runCommands_34 : decode cX11_runCommands 34 = .ok (.dup, 1) := by decide +kernel
theorem dX11_runCommands_35 : decode cX11_runCommands 35 = .ok (.ldc_w 305, 3) := by decide +kernel
theorem dX11_runCommands_38 : decode cX11_runCommands 38 = .ok (.invokespecial 307, 3) := by decide +kernel
theorem dX11_runCommands_41 : decode cX11_runCommands 41 = .ok (.athrow, 1) := by decide +kernel
theorem dX11_runCommands_42 : decode cX11_runCommands 42 = .ok (.aload_n 0, 1) := by decide +kernel
theorem dX11_runCommands_43 : decode cX11_runCommands 43 = .ok (.getfield 26, 3) := by decide +kernel
theorem dX11_runCommands_46 : decode cX11_runCommands 46 = .ok (.aload_n 0, 1) := by decide +kernel
theorem dX11_runCommands_47 : decode cX11_runCommands 47 = .ok (.getfield 10, 3) := by decide +kernel
theorem dX11_runCommands_50 : decode cX11_runCommands 50 = .ok (.invokevirtual 58, 3) := by decide +kernel
theorem dX11_runCommands_53 : decode cX11_runCommands 53 = .ok (.aload_n 0, 1) := by decide +kernel
theorem dX11_runCommands_54 : decode cX11_runCommands 54 = .ok (.getfield 40, 3) := by decide +kernel
theorem dX11_runCommands_57 : decode cX11_runCommands 57 = .ok (.invokevirtual 308, 3) := by decide +kernel
theorem dX11_runCommands_60 : decode cX11_runCommands 60 = .ok (.iconst 0, 1) := by decide +kernel
theorem dX11_runCommands_61 : decode cX11_runCommands 61 = .ok (.istore_n 2, 1) := by decide +kernel
theorem dX11_runCommands_62 : decode cX11_runCommands 62 = .ok (.iload_n 2, 1) := by decide +kernel
theorem dX11_runCommands_63 : decode cX11_runCommands 63 = .ok (.iload_n 1, 1) := by decide +kernel
theorem dX11_runCommands_64 : decode cX11_runCommands 64 = .ok (.if_icmp .ge 24, 3) := by decide +kernel
theorem dX11_runCommands_67 : decode cX11_runCommands 67 = .ok (.aload_n 0, 1) := by decide +kernel
theorem dX11_runCommands_68 : decode cX11_runCommands 68 = .ok (.aload_n 0, 1) := by decide +kernel
theorem dX11_runCommands_69 : decode cX11_runCommands 69 = .ok (.getfield 40, 3) := by decide +kernel
theorem dX11_runCommands_72 : decode cX11_runCommands 72 = .ok (.iload_n 2, 1) := by decide +kernel
theorem dX11_runCommands_73 : decode cX11_runCommands 73 = .ok (.invokevirtual 311, 3) := by decide +kernel
theorem dX11_runCommands_76 : decode cX11_runCommands 76 = .ok (.invokevirtual 315, 3) := by decide +kernel
theorem dX11_runCommands_79 : decode cX11_runCommands 79 = .ok (.ifCond .lt 9, 3) := by decide +kernel
theorem dX11_runCommands_82 : decode cX11_runCommands 82 = .ok (.iinc 2 1, 3) := by decide +kernel
theorem dX11_runCommands_85 : decode cX11_runCommands 85 = .ok (.goto (-23), 3) := by decide +kernel
theorem dX11_runCommands_88 : decode cX11_runCommands 88 = .ok (.aload_n 0, 1) := by decide +kernel
theorem dX11_runCommands_89 : decode cX11_runCommands 89 = .ok (.getfield 40, 3) := by decide +kernel
theorem dX11_runCommands_92 : decode cX11_runCommands 92 = .ok (.invokevirtual 300, 3) := by decide +kernel
theorem dX11_runCommands_95 : decode cX11_runCommands 95 = .ok (.iload_n 2, 1) := by decide +kernel
theorem dX11_runCommands_96 : decode cX11_runCommands 96 = .ok (.iload_n 1, 1) := by decide +kernel
theorem dX11_runCommands_97 : decode cX11_runCommands 97 = .ok (.if_icmp .ge 30, 3) := by decide +kernel
theorem dX11_runCommands_100 : decode cX11_runCommands 100 = .ok (.aload_n 0, 1) := by decide +kernel
theorem dX11_runCommands_101 : decode cX11_runCommands 101 = .ok (.getfield 26, 3) := by decide +kernel
theorem dX11_runCommands_104 : decode cX11_runCommands 104 = .ok (.aload_n 0, 1) := by decide +kernel
theorem dX11_runCommands_105 : decode cX11_runCommands 105 = .ok (.getfield 10, 3) := by decide +kernel
theorem dX11_runCommands_108 : decode cX11_runCommands 108 = .ok (.invokevirtual 319, 3) := by decide +kernel
theorem dX11_runCommands_111 : decode cX11_runCommands 111 = .ok (.aload_n 0, 1) := by decide +kernel
theorem dX11_runCommands_112 : decode cX11_runCommands 112 = .ok (.iload_n 2, 1) := by decide +kernel
theorem dX11_runCommands_113 : decode cX11_runCommands 113 = .ok (.putfield 55, 3) := by decide +kernel
theorem dX11_runCommands_116 : decode cX11_runCommands 116 = .ok (.new 322, 3) := by decide +kernel
theorem dX11_runCommands_119 : decode cX11_runCommands 119 = .ok (.dup, 1) := by decide +kernel
theorem dX11_runCommands_120 : decode cX11_runCommands 120 = .ok (.ldc_w 324, 3) := by decide +kernel
theorem dX11_runCommands_123 : decode cX11_runCommands 123 = .ok (.invokespecial 326, 3) := by decide +kernel
theorem dX11_runCommands_126 : decode cX11_runCommands 126 = .ok (.athrow, 1) := by decide +kernel
theorem dX11_runCommands_127 : decode cX11_runCommands 127 = .ok (.aload_n 0, 1) := by decide +kernel
theorem dX11_runCommands_128 : decode cX11_runCommands 128 = .ok (.getfield 26, 3) := by decide +kernel
theorem dX11_runCommands_131 : decode cX11_runCommands 131 = .ok (.invokevirtual 327, 3) := by decide +kernel
theorem dX11_runCommands_134 : decode cX11_runCommands 134 = .ok (.iload_n 1, 1) := by decide +kernel
theorem dX11_runCommands_135 : decode cX11_runCommands 135 = .ok (.ireturn, 1) := by decide +kernel
theorem dX11_writeSlide_0 : decode cX11_writeSlide 0 = .ok (.aload_n 0, 1) := by decide +kernel
theorem dX11_writeSlide_1 : decode cX11_writeSlide 1 = .ok (.iload_n 1, 1) := by decide +kernel
theorem dX11_writeSlide_2 : decode cX11_writeSlide 2 = .ok (.invokevirtual 102, 3) := by decide +kernel
theorem dX11_writeSlide_5 : decode cX11_writeSlide 5 = .ok (.aload_n 0, 1) := by decide +kernel
theorem dX11_writeSlide_6 : decode cX11_writeSlide 6 = .ok (.getfield 47, 3) := by decide +kernel
theorem dX11_writeSlide_9 : decode cX11_writeSlide 9 = .ok (.iconst 0, 1) := by decide +kernel
theorem dX11_writeSlide_10 : decode cX11_writeSlide 10 = .ok (.invokevirtual 334, 3) := by decide +kernel
theorem dX11_writeSlide_13 : decode cX11_writeSlide 13 = .ok (.aload_n 0, 1) := by decide +kernel
theorem dX11_writeSlide_14 : decode cX11_writeSlide 14 = .ok (.getfield 47, 3) := by decide +kernel
theorem dX11_writeSlide_17 : decode cX11_writeSlide 17 = .ok (.aload_n 0, 1) := by decide +kernel
theorem dX11_writeSlide_18 : decode cX11_writeSlide 18 = .ok (.getfield 10, 3) := by decide +kernel
theorem dX11_writeSlide_21 : decode cX11_writeSlide 21 = .ok (.getfield 93, 3) := by decide +kernel
theorem dX11_writeSlide_24 : decode cX11_writeSlide 24 = .ok (.getfield 106, 3) := by decide +kernel
theorem dX11_writeSlide_27 : decode cX11_writeSlide 27 = .ok (.iload_n 1, 1) := by decide +kernel
theorem dX11_writeSlide_28 : decode cX11_writeSlide 28 = .ok (.iaload, 1) := by decide +kernel
theorem dX11_writeSlide_29 : decode cX11_writeSlide 29 = .ok (.invokevirtual 337, 3) := by decide +kernel
theorem dX11_writeSlide_32 : decode cX11_writeSlide 32 = .ok (.bipush 109, 2) := by decide +kernel
theorem dX11_writeSlide_34 : decode cX11_writeSlide 34 = .ok (.invokevirtual 340, 3) := by decide +kernel
theorem dX11_writeSlide_37 : decode cX11_writeSlide 37 = .ok (.pop, 1) := by decide +kernel
theorem dX11_writeSlide_38 : decode cX11_writeSlide 38 = .ok (.aload_n 0, 1) := by decide +kernel
theorem dX11_writeSlide_39 : decode cX11_writeSlide 39 = .ok (.getfield 47, 3) := by decide +kernel
theorem dX11_writeSlide_42 : decode cX11_writeSlide 42 = .ok (.aload_n 0, 1) := by decide +kernel
theorem dX11_writeSlide_43 : decode cX11_writeSlide 43 = .ok (.getfield 10, 3) := by decide +kernel
theorem dX11_writeSlide_46 : decode cX11_writeSlide 46 = .ok (.getfield 93, 3) := by decide +kernel
theorem dX11_writeSlide_49 : decode cX11_writeSlide 49 = .ok (.getfield 110, 3) := by decide +kernel
theorem dX11_writeSlide_52 : decode cX11_writeSlide 52 = .ok (.iload_n 1, 1) := by decide +kernel
theorem dX11_writeSlide_53 : decode cX11_writeSlide 53 = .ok (.iaload, 1) := by decide +kernel
theorem dX11_writeSlide_54 : decode cX11_writeSlide 54 = .ok (.invokevirtual 337, 3) := by decide +kernel
theorem dX11_writeSlide_57 : decode cX11_writeSlide 57 = .ok (.bipush 99, 2) := by decide +kernel
theorem dX11_writeSlide_59 : decode cX11_writeSlide 59 = .ok (.invokevirtual 340, 3) := by decide +kernel
theorem dX11_writeSlide_62 : decode cX11_writeSlide 62 = .ok (.pop, 1) := by decide +kernel
theorem dX11_writeSlide_63 : decode cX11_writeSlide 63 = .ok (.aload_n 0, 1) := by decide +kernel
theorem dX11_writeSlide_64 : decode cX11_writeSlide 64 = .ok (.getfield 47, 3) := by decide +kernel
theorem dX11_writeSlide_67 : decode cX11_writeSlide 67 = .ok (.aload_n 0, 1) := by decide +kernel
theorem dX11_writeSlide_68 : decode cX11_writeSlide 68 = .ok (.getfield 10, 3) := by decide +kernel
theorem dX11_writeSlide_71 : decode cX11_writeSlide 71 = .ok (.getfield 93, 3) := by decide +kernel
theorem dX11_writeSlide_74 : decode cX11_writeSlide 74 = .ok (.getfield 113, 3) := by decide +kernel
theorem dX11_writeSlide_77 : decode cX11_writeSlide 77 = .ok (.iload_n 1, 1) := by decide +kernel
theorem dX11_writeSlide_78 : decode cX11_writeSlide 78 = .ok (.iaload, 1) := by decide +kernel
theorem dX11_writeSlide_79 : decode cX11_writeSlide 79 = .ok (.invokevirtual 337, 3) := by decide +kernel
theorem dX11_writeSlide_82 : decode cX11_writeSlide 82 = .ok (.bipush 119, 2) := by decide +kernel
theorem dX11_writeSlide_84 : decode cX11_writeSlide 84 = .ok (.invokevirtual 340, 3) := by decide +kernel
theorem dX11_writeSlide_87 : decode cX11_writeSlide 87 = .ok (.pop, 1) := by decide +kernel
theorem dX11_writeSlide_88 : decode cX11_writeSlide 88 = .ok (.aload_n 0, 1) := by decide +kernel
theorem dX11_writeSlide_89 : decode cX11_writeSlide 89 = .ok (.iload_n 1, 1) := by decide +kernel
theorem dX11_writeSlide_90 : decode cX11_writeSlide 90 = .ok (.invokevirtual 343, 3) := by decide +kernel
theorem dX11_writeSlide_93 : decode cX11_writeSlide 93 = .ok (.aload_n 0, 1) := by decide +kernel
theorem dX11_writeSlide_94 : decode cX11_writeSlide 94 = .ok (.getfield 47, 3) := by decide +kernel
theorem dX11_writeSlide_97 : decode cX11_writeSlide 97 = .ok (.invokevirtual 346, 3) := by decide +kernel
theorem dX11_writeSlide_100 : decode cX11_writeSlide 100 = .ok (.ireturn, 1) := by decide +kernel
theorem dX11_outputChar_0 : decode cX11_outputChar 0 = .ok (.iload_n 1, 1) := by decide +kernel
theorem dX11_outputChar_1 : decode cX11_outputChar 1 = .ok (.ifCond .lt 14, 3) := by decide +kernel
theorem dX11_outputChar_4 : decode cX11_outputChar 4 = .ok (.iload_n 1, 1) := by decide +kernel
theorem dX11_outputChar_5 : decode cX11_outputChar 5 = .ok (.aload_n 0, 1) := by decide +kernel
theorem dX11_outputChar_6 : decode cX11_outputChar 6 = .ok (.getfield 47, 3) := by decide +kernel
theorem dX11_outputChar_9 : decode cX11_outputChar 9 = .ok (.invokevirtual 346, 3) := by decide +kernel
theorem dX11_outputChar_12 : decode cX11_outputChar 12 = .ok (.if_icmp .lt 14, 3) := by decide +kernel
theorem dX11_outputChar_15 : decode cX11_outputChar 15 = .ok (.new 348, 3) := by decide +kernel
theorem dX11_outputChar_18 : decode cX11_outputChar 18 = .ok (.dup, 1) := by decide +kernel
theorem dX11_outputChar_19 : decode cX11_outputChar 19 = .ok (.ldc_w 350, 3) := by decide +kernel
theorem dX11_outputChar_22 : decode cX11_outputChar 22 = .ok (.invokespecial 352, 3) := by decide +kernel
theorem dX11_outputChar_25 : decode cX11_outputChar 25 = .ok (.athrow, 1) := by decide +kernel
theorem dX11_outputChar_26 : decode cX11_outputChar 26 = .ok (.aload_n 0, 1) := by decide +kernel
theorem dX11_outputChar_27 : decode cX11_outputChar 27 = .ok (.getfield 47, 3) := by decide +kernel
theorem dX11_outputChar_30 : decode cX11_outputChar 30 = .ok (.iload_n 1, 1) := by decide +kernel
theorem dX11_outputChar_31 : decode cX11_outputChar 31 = .ok (.invokevirtual 353, 3) := by decide +kernel
theorem dX11_outputChar_34 : decode cX11_outputChar 34 = .ok (.ireturn, 1) := by decide +kernel
theorem dX11_undoCount_0 : decode cX11_undoCount 0 = .ok (.aload_n 0, 1) := by decide +kernel
theorem dX11_undoCount_1 : decode cX11_undoCount 1 = .ok (.getfield 26, 3) := by decide +kernel
theorem dX11_undoCount_4 : decode cX11_undoCount 4 = .ok (.getfield 357, 3) := by decide +kernel
theorem dX11_undoCount_7 : decode cX11_undoCount 7 = .ok (.ireturn, 1) := by decide +kernel
theorem dX11_undo_0 : decode cX11_undo 0 = .ok (.aload_n 0, 1) := by decide +kernel
theorem dX11_undo_1 : decode cX11_undo 1 = .ok (.getfield 26, 3) := by decide +kernel
theorem dX11_undo_4 : decode cX11_undo 4 = .ok (.getfield 357, 3) := by decide +kernel
theorem dX11_undo_7 : decode cX11_undo 7 = .ok (.ifCond .ne 14, 3) := by decide +kernel
theorem dX11_undo_10 : decode cX11_undo 10 = .ok (.new 285, 3) := by decide +kernel
theorem dX11_undo_13 : decode cX11_undo 13 = .ok (.dup, 1) := by decide +kernel
theorem dX11_undo_14 : decode cX11_undo 14 = .ok (.ldc_w 358, 3) := by decide +kernel
theorem dX11_undo_17 : decode cX11_undo 17 = .ok (.invokespecial 289, 3) := by decide +kernel
theorem dX11_undo_20 : decode cX11_undo 20 = .ok (.athrow, 1) := by decide +kernel
theorem dX11_undo_21 : decode cX11_undo 21 = .ok (.aload_n 0, 1) := by decide +kernel
theorem dX11_undo_22 : decode cX11_undo 22 = .ok (.getfield 26, 3) := by decide +kernel
theorem dX11_undo_25 : decode cX11_undo 25 = .ok (.aload_n 0, 1) := by decide +kernel
theorem dX11_undo_26 : decode cX11_undo 26 = .ok (.getfield 10, 3) := by decide +kernel
theorem dX11_undo_29 : decode cX11_undo 29 = .ok (.invokevirtual 360, 3) := by decide +kernel
theorem dX11_undo_32 : decode cX11_undo 32 = .ok (.aload_n 0, 1) := by decide +kernel
theorem dX11_undo_33 : decode cX11_undo 33 = .ok (.getfield 26, 3) := by decide +kernel
theorem dX11_undo_36 : decode cX11_undo 36 = .ok (.getfield 357, 3) := by decide +kernel
theorem dX11_undo_39 : decode cX11_undo 39 = .ok (.ireturn, 1) := by decide +kernel
theorem dX11_recorded_0 : decode cX11_recorded 0 = .ok (.iload_n 1, 1) := by decide +kernel
theorem dX11_recorded_1 : decode cX11_recorded 1 = .ok (.ifCond .ge 7, 3) := by decide +kernel
theorem dX11_recorded_4 : decode cX11_recorded 4 = .ok (.iload_n 1, 1) := by decide +kernel
theorem dX11_recorded_5 : decode cX11_recorded 5 = .ok (.invokestatic 371, 3) := by decide +kernel
theorem dX11_recorded_8 : decode cX11_recorded 8 = .ok (.aload_n 0, 1) := by decide +kernel
theorem dX11_recorded_9 : decode cX11_recorded 9 = .ok (.getfield 26, 3) := by decide +kernel
theorem dX11_recorded_12 : decode cX11_recorded 12 = .ok (.invokevirtual 327, 3) := by decide +kernel
theorem dX11_recorded_15 : decode cX11_recorded 15 = .ok (.iload_n 1, 1) := by decide +kernel
theorem dX11_recorded_16 : decode cX11_recorded 16 = .ok (.ireturn, 1) := by decide +kernel
theorem dX11_refuse_0 : decode cX11_refuse 0 = .ok (.iload_n 0, 1) := by decide +kernel
theorem dX11_refuse_1 : decode cX11_refuse 1 = .ok (.tableswitch 75 (-4) (-1) #[64, 53, 42, 31], 31) := by decide +kernel
theorem dX11_refuse_32 : decode cX11_refuse 32 = .ok (.new 348, 3) := by decide +kernel
theorem dX11_refuse_35 : decode cX11_refuse 35 = .ok (.dup, 1) := by decide +kernel
theorem dX11_refuse_36 : decode cX11_refuse 36 = .ok (.ldc_w 374, 3) := by decide +kernel
theorem dX11_refuse_39 : decode cX11_refuse 39 = .ok (.invokespecial 352, 3) := by decide +kernel
theorem dX11_refuse_42 : decode cX11_refuse 42 = .ok (.athrow, 1) := by decide +kernel
theorem dX11_refuse_43 : decode cX11_refuse 43 = .ok (.new 303, 3) := by decide +kernel
theorem dX11_refuse_46 : decode cX11_refuse 46 = .ok (.dup, 1) := by decide +kernel
theorem dX11_refuse_47 : decode cX11_refuse 47 = .ok (.ldc_w 376, 3) := by decide +kernel
theorem dX11_refuse_50 : decode cX11_refuse 50 = .ok (.invokespecial 307, 3) := by decide +kernel
theorem dX11_refuse_53 : decode cX11_refuse 53 = .ok (.athrow, 1) := by decide +kernel
theorem dX11_refuse_54 : decode cX11_refuse 54 = .ok (.new 285, 3) := by decide +kernel
theorem dX11_refuse_57 : decode cX11_refuse 57 = .ok (.dup, 1) := by decide +kernel
theorem dX11_refuse_58 : decode cX11_refuse 58 = .ok (.ldc_w 378, 3) := by decide +kernel
theorem dX11_refuse_61 : decode cX11_refuse 61 = .ok (.invokespecial 289, 3) := by decide +kernel
theorem dX11_refuse_64 : decode cX11_refuse 64 = .ok (.athrow, 1) := by decide +kernel
theorem dX11_refuse_65 : decode cX11_refuse 65 = .ok (.new 322, 3) := by decide +kernel
theorem dX11_refuse_68 : decode cX11_refuse 68 = .ok (.dup, 1) := by decide +kernel
theorem dX11_refuse_69 : decode cX11_refuse 69 = .ok (.ldc_w 380, 3) := by decide +kernel
theorem dX11_refuse_72 : decode cX11_refuse 72 = .ok (.invokespecial 326, 3) := by decide +kernel
theorem dX11_refuse_75 : decode cX11_refuse 75 = .ok (.athrow, 1) := by decide +kernel
theorem dX11_refuse_76 : decode cX11_refuse 76 = .ok (.new 125, 3) := by decide +kernel
theorem dX11_refuse_79 : decode cX11_refuse 79 = .ok (.dup, 1) := by decide +kernel
theorem dX11_refuse_80 : decode cX11_refuse 80 = .ok (.ldc 156, 2) := by decide +kernel
theorem dX11_refuse_82 : decode cX11_refuse 82 = .ok (.invokespecial 129, 3) := by decide +kernel
theorem dX11_refuse_85 : decode cX11_refuse 85 = .ok (.athrow, 1) := by decide +kernel
theorem dX11_checkSlide_0 : decode cX11_checkSlide 0 = .ok (.aload_n 0, 1) := by decide +kernel
theorem dX11_checkSlide_1 : decode cX11_checkSlide 1 = .ok (.getfield 10, 3) := by decide +kernel
theorem dX11_checkSlide_4 : decode cX11_checkSlide 4 = .ok (.getfield 93, 3) := by decide +kernel
theorem dX11_checkSlide_7 : decode cX11_checkSlide 7 = .ok (.iload_n 1, 1) := by decide +kernel
theorem dX11_checkSlide_8 : decode cX11_checkSlide 8 = .ok (.invokevirtual 382, 3) := by decide +kernel
theorem dX11_checkSlide_11 : decode cX11_checkSlide 11 = .ok (.ifCond .ne 14, 3) := by decide +kernel
theorem dX11_checkSlide_14 : decode cX11_checkSlide 14 = .ok (.new 348, 3) := by decide +kernel
theorem dX11_checkSlide_17 : decode cX11_checkSlide 17 = .ok (.dup, 1) := by decide +kernel
theorem dX11_checkSlide_18 : decode cX11_checkSlide 18 = .ok (.ldc_w 386, 3) := by decide +kernel
theorem dX11_checkSlide_21 : decode cX11_checkSlide 21 = .ok (.invokespecial 352, 3) := by decide +kernel
theorem dX11_checkSlide_24 : decode cX11_checkSlide 24 = .ok (.athrow, 1) := by decide +kernel
theorem dX11_checkSlide_25 : decode cX11_checkSlide 25 = .ok (.return_, 1) := by decide +kernel
theorem dX11_checkGuest_0 : decode cX11_checkGuest 0 = .ok (.aload_n 0, 1) := by decide +kernel
theorem dX11_checkGuest_1 : decode cX11_checkGuest 1 = .ok (.getfield 10, 3) := by decide +kernel
theorem dX11_checkGuest_4 : decode cX11_checkGuest 4 = .ok (.getfield 135, 3) := by decide +kernel
theorem dX11_checkGuest_7 : decode cX11_checkGuest 7 = .ok (.iload_n 1, 1) := by decide +kernel
theorem dX11_checkGuest_8 : decode cX11_checkGuest 8 = .ok (.invokevirtual 388, 3) := by decide +kernel
theorem dX11_checkGuest_11 : decode cX11_checkGuest 11 = .ok (.ifCond .ne 14, 3) := by decide +kernel
theorem dX11_checkGuest_14 : decode cX11_checkGuest 14 = .ok (.new 348, 3) := by decide +kernel
theorem dX11_checkGuest_17 : decode cX11_checkGuest 17 = .ok (.dup, 1) := by decide +kernel
theorem dX11_checkGuest_18 : decode cX11_checkGuest 18 = .ok (.ldc_w 389, 3) := by decide +kernel
theorem dX11_checkGuest_21 : decode cX11_checkGuest 21 = .ok (.invokespecial 352, 3) := by decide +kernel
theorem dX11_checkGuest_24 : decode cX11_checkGuest 24 = .ok (.athrow, 1) := by decide +kernel
theorem dX11_checkGuest_25 : decode cX11_checkGuest 25 = .ok (.return_, 1) := by decide +kernel
theorem dX11_checkBooking_0 : decode cX11_checkBooking 0 = .ok (.aload_n 0, 1) := by decide +kernel
theorem dX11_checkBooking_1 : decode cX11_checkBooking 1 = .ok (.getfield 10, 3) := by decide +kernel
theorem dX11_checkBooking_4 : decode cX11_checkBooking 4 = .ok (.getfield 116, 3) := by decide +kernel
theorem dX11_checkBooking_7 : decode cX11_checkBooking 7 = .ok (.iload_n 1, 1) := by decide +kernel
theorem dX11_checkBooking_8 : decode cX11_checkBooking 8 = .ok (.invokevirtual 391, 3) := by decide +kernel
theorem dX11_checkBooking_11 : decode cX11_checkBooking 11 = .ok (.ifCond .ne 14, 3) := by decide +kernel
theorem dX11_checkBooking_14 : decode cX11_checkBooking 14 = .ok (.new 348, 3) := by decide +kernel
theorem dX11_checkBooking_17 : decode cX11_checkBooking 17 = .ok (.dup, 1) := by decide +kernel
theorem dX11_checkBooking_18 : decode cX11_checkBooking 18 = .ok (.ldc_w 392, 3) := by decide +kernel
theorem dX11_checkBooking_21 : decode cX11_checkBooking 21 = .ok (.invokespecial 352, 3) := by decide +kernel
theorem dX11_checkBooking_24 : decode cX11_checkBooking 24 = .ok (.athrow, 1) := by decide +kernel
theorem dX11_checkBooking_25 : decode cX11_checkBooking 25 = .ok (.return_, 1) := by decide +kernel
theorem dX11_checkBookableMinute_0 : decode cX11_checkBookableMinute 0 = .ok (.aload_n 0, 1) := by decide +kernel
theorem dX11_checkBookableMinute_1 : decode cX11_checkBookableMinute 1 = .ok (.getfield 10, 3) := by decide +kernel
theorem dX11_checkBookableMinute_4 : decode cX11_checkBookableMinute 4 = .ok (.iload_n 1, 1) := by decide +kernel
theorem dX11_checkBookableMinute_5 : decode cX11_checkBookableMinute 5 = .ok (.invokevirtual 394, 3) := by decide +kernel
theorem dX11_checkBookableMinute_8 : decode cX11_checkBookableMinute 8 = .ok (.ifCond .ne 14, 3) := by decide +kernel
theorem dX11_checkBookableMinute_11 : decode cX11_checkBookableMinute 11 = .ok (.new 303, 3) := by decide +kernel
theorem dX11_checkBookableMinute_14 : decode cX11_checkBookableMinute 14 = .ok (.dup, 1) := by decide +kernel
theorem dX11_checkBookableMinute_15 : decode cX11_checkBookableMinute 15 = .ok (.ldc_w 397, 3) := by decide +kernel
theorem dX11_checkBookableMinute_18 : decode cX11_checkBookableMinute 18 = .ok (.invokespecial 307, 3) := by decide +kernel
theorem dX11_checkBookableMinute_21 : decode cX11_checkBookableMinute 21 = .ok (.athrow, 1) := by decide +kernel
theorem dX11_checkBookableMinute_22 : decode cX11_checkBookableMinute 22 = .ok (.return_, 1) := by decide +kernel
theorem dX11_checkFinish_0 : decode cX11_checkFinish 0 = .ok (.iload_n 1, 1) := by decide +kernel
theorem dX11_checkFinish_1 : decode cX11_checkFinish 1 = .ok (.ifCond .lt 17, 3) := by decide +kernel
theorem dX11_checkFinish_4 : decode cX11_checkFinish 4 = .ok (.iload_n 1, 1) := by decide +kernel
theorem dX11_checkFinish_5 : decode cX11_checkFinish 5 = .ok (.aload_n 0, 1) := by decide +kernel
theorem dX11_checkFinish_6 : decode cX11_checkFinish 6 = .ok (.getfield 10, 3) := by decide +kernel
theorem dX11_checkFinish_9 : decode cX11_checkFinish 9 = .ok (.getfield 209, 3) := by decide +kernel
theorem dX11_checkFinish_12 : decode cX11_checkFinish 12 = .ok (.getfield 213, 3) := by decide +kernel
theorem dX11_checkFinish_15 : decode cX11_checkFinish 15 = .ok (.if_icmp .lt 14, 3) := by decide +kernel
theorem dX11_checkFinish_18 : decode cX11_checkFinish 18 = .ok (.new 125, 3) := by decide +kernel
theorem dX11_checkFinish_21 : decode cX11_checkFinish 21 = .ok (.dup, 1) := by decide +kernel
theorem dX11_checkFinish_22 : decode cX11_checkFinish 22 = .ok (.ldc_w 399, 3) := by decide +kernel
theorem dX11_checkFinish_25 : decode cX11_checkFinish 25 = .ok (.invokespecial 129, 3) := by decide +kernel
theorem dX11_checkFinish_28 : decode cX11_checkFinish 28 = .ok (.athrow, 1) := by decide +kernel
theorem dX11_checkFinish_29 : decode cX11_checkFinish 29 = .ok (.return_, 1) := by decide +kernel
theorem dX11_found_0 : decode cX11_found 0 = .ok (.iload_n 0, 1) := by decide +kernel
theorem dX11_found_1 : decode cX11_found 1 = .ok (.iconst (-1), 1) := by decide +kernel
theorem dX11_found_2 : decode cX11_found 2 = .ok (.if_icmp .ne 14, 3) := by decide +kernel
theorem dX11_found_5 : decode cX11_found 5 = .ok (.new 125, 3) := by decide +kernel
theorem dX11_found_8 : decode cX11_found 8 = .ok (.dup, 1) := by decide +kernel
theorem dX11_found_9 : decode cX11_found 9 = .ok (.ldc_w 401, 3) := by decide +kernel
theorem dX11_found_12 : decode cX11_found 12 = .ok (.invokespecial 129, 3) := by decide +kernel
theorem dX11_found_15 : decode cX11_found 15 = .ok (.athrow, 1) := by decide +kernel
theorem dX11_found_16 : decode cX11_found 16 = .ok (.iload_n 0, 1) := by decide +kernel
theorem dX11_found_17 : decode cX11_found 17 = .ok (.ireturn, 1) := by decide +kernel
theorem dX11_perform_0 : decode cX11_perform 0 = .ok (.aload_n 1, 1) := by decide +kernel
theorem dX11_perform_1 : decode cX11_perform 1 = .ok (.ifnonnull 6, 3) := by decide +kernel
theorem dX11_perform_4 : decode cX11_perform 4 = .ok (.bipush (-2), 2) := by decide +kernel
theorem dX11_perform_6 : decode cX11_perform 6 = .ok (.ireturn, 1) := by decide +kernel
theorem dX11_perform_7 : decode cX11_perform 7 = .ok (.aload_n 0, 1) := by decide +kernel
theorem dX11_perform_8 : decode cX11_perform 8 = .ok (.getfield 40, 3) := by decide +kernel
theorem dX11_perform_11 : decode cX11_perform 11 = .ok (.getfield 403, 3) := by decide +kernel
theorem dX11_perform_14 : decode cX11_perform 14 = .ok (.astore_n 2, 1) := by decide +kernel
theorem dX11_perform_15 : decode cX11_perform 15 = .ok (.getstatic 406, 3) := by decide +kernel
theorem dX11_perform_18 : decode cX11_perform 18 = .ok (.aload_n 1, 1) := by decide +kernel
theorem dX11_perform_19 : decode cX11_perform 19 = .ok (.invokevirtual 411, 3) := by decide +kernel
theorem dX11_perform_22 : decode cX11_perform 22 = .ok (.iaload, 1) := by decide +kernel
theorem dX11_perform_23 : decode cX11_perform 23 = .ok (.tableswitch 112 1 6 #[37, 51, 59, 76, 87, 101], 37) := by decide +kernel
theorem dX11_perform_60 : decode cX11_perform 60 = .ok (.aload_n 0, 1) := by decide +kernel
theorem dX11_perform_61 : decode cX11_perform 61 = .ok (.getfield 10, 3) := by decide +kernel
theorem dX11_perform_64 : decode cX11_perform 64 = .ok (.aload_n 2, 1) := by decide +kernel
theorem dX11_perform_65 : decode cX11_perform 65 = .ok (.iconst 0, 1) := by decide +kernel
theorem dX11_perform_66 : decode cX11_perform 66 = .ok (.iaload, 1) := by decide +kernel
theorem dX11_perform_67 : decode cX11_perform 67 = .ok (.aload_n 2, 1) := by decide +kernel
theorem dX11_perform_68 : decode cX11_perform 68 = .ok (.iconst 1, 1) := by decide +kernel
theorem dX11_perform_69 : decode cX11_perform 69 = .ok (.iaload, 1) := by decide +kernel
theorem dX11_perform_70 : decode cX11_perform 70 = .ok (.invokevirtual 62, 3) := by decide +kernel
theorem dX11_perform_73 : decode cX11_perform 73 = .ok (.ireturn, 1) := by decide +kernel
theorem dX11_perform_74 : decode cX11_perform 74 = .ok (.aload_n 0, 1) := by decide +kernel
theorem dX11_perform_75 : decode cX11_perform 75 = .ok (.getfield 10, 3) := by decide +kernel
theorem dX11_perform_78 : decode cX11_perform 78 = .ok (.invokevirtual 70, 3) := by decide +kernel
theorem dX11_perform_81 : decode cX11_perform 81 = .ok (.ireturn, 1) := by decide +kernel
theorem dX11_perform_82 : decode cX11_perform 82 = .ok (.aload_n 0, 1) := by decide +kernel
theorem dX11_perform_83 : decode cX11_perform 83 = .ok (.getfield 10, 3) := by decide +kernel
theorem dX11_perform_86 : decode cX11_perform 86 = .ok (.aload_n 2, 1) := by decide +kernel
theorem dX11_perform_87 : decode cX11_perform 87 = .ok (.iconst 0, 1) := by decide +kernel
theorem dX11_perform_88 : decode cX11_perform 88 = .ok (.iaload, 1) := by decide +kernel
theorem dX11_perform_89 : decode cX11_perform 89 = .ok (.aload_n 2, 1) := by decide +kernel
theorem dX11_perform_90 : decode cX11_perform 90 = .ok (.iconst 1, 1) := by decide +kernel
theorem dX11_perform_91 : decode cX11_perform 91 = .ok (.iaload, 1) := by decide +kernel
theorem dX11_perform_92 : decode cX11_perform 92 = .ok (.aload_n 2, 1) := by decide +kernel
theorem dX11_perform_93 : decode cX11_perform 93 = .ok (.iconst 2, 1) := by decide +kernel
theorem dX11_perform_94 : decode cX11_perform 94 = .ok (.iaload, 1) := by decide +kernel
theorem dX11_perform_95 : decode cX11_perform 95 = .ok (.invokevirtual 74, 3) := by decide +kernel
theorem dX11_perform_98 : decode cX11_perform 98 = .ok (.ireturn, 1) := by decide +kernel
theorem dX11_perform_99 : decode cX11_perform 99 = .ok (.aload_n 0, 1) := by decide +kernel
theorem dX11_perform_100 : decode cX11_perform 100 = .ok (.getfield 10, 3) := by decide +kernel
theorem dX11_perform_103 : decode cX11_perform 103 = .ok (.aload_n 2, 1) := by decide +kernel
theorem dX11_perform_104 : decode cX11_perform 104 = .ok (.iconst 0, 1) := by decide +kernel
theorem dX11_perform_105 : decode cX11_perform 105 = .ok (.iaload, 1) := by decide +kernel
theorem dX11_perform_106 : decode cX11_perform 106 = .ok (.invokevirtual 78, 3) := by decide +kernel
theorem dX11_perform_109 : decode cX11_perform 109 = .ok (.ireturn, 1) := by decide +kernel
theorem dX11_perform_110 : decode cX11_perform 110 = .ok (.aload_n 0, 1) := by decide +kernel
theorem dX11_perform_111 : decode cX11_perform 111 = .ok (.getfield 10, 3) := by decide +kernel
theorem dX11_perform_114 : decode cX11_perform 114 = .ok (.aload_n 2, 1) := by decide +kernel
theorem dX11_perform_115 : decode cX11_perform 115 = .ok (.iconst 0, 1) := by decide +kernel
theorem dX11_perform_116 : decode cX11_perform 116 = .ok (.iaload, 1) := by decide +kernel
theorem dX11_perform_117 : decode cX11_perform 117 = .ok (.aload_n 2, 1) := by decide +kernel
theorem dX11_perform_118 : decode cX11_perform 118 = .ok (.iconst 1, 1) := by decide +kernel
theorem dX11_perform_119 : decode cX11_perform 119 = .ok (.iaload, 1) := by decide +kernel
theorem dX11_perform_120 : decode cX11_perform 120 = .ok (.invokevirtual 81, 3) := by decide +kernel
theorem dX11_perform_123 : decode cX11_perform 123 = .ok (.ireturn, 1) := by decide +kernel
theorem dX11_perform_124 : decode cX11_perform 124 = .ok (.aload_n 0, 1) := by decide +kernel
theorem dX11_perform_125 : decode cX11_perform 125 = .ok (.getfield 10, 3) := by decide +kernel
theorem dX11_perform_128 : decode cX11_perform 128 = .ok (.aload_n 2, 1) := by decide +kernel
theorem dX11_perform_129 : decode cX11_perform 129 = .ok (.iconst 0, 1) := by decide +kernel
theorem dX11_perform_130 : decode cX11_perform 130 = .ok (.iaload, 1) := by decide +kernel
theorem dX11_perform_131 : decode cX11_perform 131 = .ok (.invokevirtual 84, 3) := by decide +kernel
theorem dX11_perform_134 : decode cX11_perform 134 = .ok (.ireturn, 1) := by decide +kernel
theorem dX11_perform_135 : decode cX11_perform 135 = .ok (.aload_n 0, 1) := by decide +kernel
theorem dX11_perform_136 : decode cX11_perform 136 = .ok (.getfield 10, 3) := by decide +kernel
theorem dX11_perform_139 : decode cX11_perform 139 = .ok (.aload_n 2, 1) := by decide +kernel
theorem dX11_perform_140 : decode cX11_perform 140 = .ok (.iconst 0, 1) := by decide +kernel
theorem dX11_perform_141 : decode cX11_perform 141 = .ok (.iaload, 1) := by decide +kernel
theorem dX11_perform_142 : decode cX11_perform 142 = .ok (.invokevirtual 87, 3) := by decide +kernel
theorem dX11_perform_145 : decode cX11_perform 145 = .ok (.ireturn, 1) := by decide +kernel
theorem dX11_writeBookings_0 : decode cX11_writeBookings 0 = .ok (.aload_n 0, 1) := by decide +kernel
theorem dX11_writeBookings_1 : decode cX11_writeBookings 1 = .ok (.getfield 10, 3) := by decide +kernel
theorem dX11_writeBookings_4 : decode cX11_writeBookings 4 = .ok (.getfield 116, 3) := by decide +kernel
theorem dX11_writeBookings_7 : decode cX11_writeBookings 7 = .ok (.astore_n 2, 1) := by decide +kernel
theorem dX11_writeBookings_8 : decode cX11_writeBookings 8 = .ok (.iconst (-1), 1) := by decide +kernel
theorem dX11_writeBookings_9 : decode cX11_writeBookings 9 = .ok (.istore_n 3, 1) := by decide +kernel
theorem dX11_writeBookings_10 : decode cX11_writeBookings 10 = .ok (.iconst 0, 1) := by decide +kernel
theorem dX11_writeBookings_11 : decode cX11_writeBookings 11 = .ok (.istore 4, 2) := by decide +kernel
theorem dX11_writeBookings_13 : decode cX11_writeBookings 13 = .ok (.iload 4, 2) := by decide +kernel
theorem dX11_writeBookings_15 : decode cX11_writeBookings 15 = .ok (.aload_n 2, 1) := by decide +kernel
theorem dX11_writeBookings_16 : decode cX11_writeBookings 16 = .ok (.getfield 166, 3) := by decide +kernel
theorem dX11_writeBookings_19 : decode cX11_writeBookings 19 = .ok (.if_icmp .ge 61, 3) := by decide +kernel
theorem dX11_writeBookings_22 : decode cX11_writeBookings 22 = .ok (.aload_n 2, 1) := by decide +kernel
theorem dX11_writeBookings_23 : decode cX11_writeBookings 23 = .ok (.iload_n 1, 1) := by decide +kernel
theorem dX11_writeBookings_24 : decode cX11_writeBookings 24 = .ok (.iload_n 3, 1) := by decide +kernel
theorem dX11_writeBookings_25 : decode cX11_writeBookings 25 = .ok (.invokevirtual 416, 3) := by decide +kernel
theorem dX11_writeBookings_28 : decode cX11_writeBookings 28 = .ok (.istore 5, 2) := by decide +kernel
theorem dX11_writeBookings_30 : decode cX11_writeBookings 30 = .ok (.iload 5, 2) := by decide +kernel
theorem dX11_writeBookings_32 : decode cX11_writeBookings 32 = .ok (.iconst (-1), 1) := by decide +kernel
theorem dX11_writeBookings_33 : decode cX11_writeBookings 33 = .ok (.if_icmp .ne 4, 3) := by decide +kernel
theorem dX11_writeBookings_36 : decode cX11_writeBookings 36 = .ok (.return_, 1) := by decide +kernel
theorem dX11_writeBookings_37 : decode cX11_writeBookings 37 = .ok (.aload_n 2, 1) := by decide +kernel
theorem dX11_writeBookings_38 : decode cX11_writeBookings 38 = .ok (.getfield 172, 3) := by decide +kernel
theorem dX11_writeBookings_41 : decode cX11_writeBookings 41 = .ok (.iload 5, 2) := by decide +kernel
theorem dX11_writeBookings_43 : decode cX11_writeBookings 43 = .ok (.iaload, 1) := by decide +kernel
theorem dX11_writeBookings_44 : decode cX11_writeBookings 44 = .ok (.istore_n 3, 1) := by decide +kernel
theorem dX11_writeBookings_45 : decode cX11_writeBookings 45 = .ok (.aload_n 0, 1) := by decide +kernel
theorem dX11_writeBookings_46 : decode cX11_writeBookings 46 = .ok (.getfield 47, 3) := by decide +kernel
theorem dX11_writeBookings_49 : decode cX11_writeBookings 49 = .ok (.bipush 32, 2) := by decide +kernel
theorem dX11_writeBookings_51 : decode cX11_writeBookings 51 = .ok (.invokevirtual 340, 3) := by decide +kernel
theorem dX11_writeBookings_54 : decode cX11_writeBookings 54 = .ok (.aload_n 2, 1) := by decide +kernel
theorem dX11_writeBookings_55 : decode cX11_writeBookings 55 = .ok (.getfield 132, 3) := by decide +kernel
theorem dX11_writeBookings_58 : decode cX11_writeBookings 58 = .ok (.iload 5, 2) := by decide +kernel
theorem dX11_writeBookings_60 : decode cX11_writeBookings 60 = .ok (.iaload, 1) := by decide +kernel
theorem dX11_writeBookings_61 : decode cX11_writeBookings 61 = .ok (.invokevirtual 337, 3) := by decide +kernel
theorem dX11_writeBookings_64 : decode cX11_writeBookings 64 = .ok (.bipush 64, 2) := by decide +kernel
theorem dX11_writeBookings_66 : decode cX11_writeBookings 66 = .ok (.invokevirtual 340, 3) := by decide +kernel
theorem dX11_writeBookings_69 : decode cX11_writeBookings 69 = .ok (.iload_n 3, 1) := by decide +kernel
theorem dX11_writeBookings_70 : decode cX11_writeBookings 70 = .ok (.invokevirtual 337, 3) := by decide +kernel
theorem dX11_writeBookings_73 : decode cX11_writeBookings 73 = .ok (.pop, 1) := by decide +kernel
theorem dX11_writeBookings_74 : decode cX11_writeBookings 74 = .ok (.iinc 4 1, 3) := by decide +kernel
theorem dX11_writeBookings_77 : decode cX11_writeBookings 77 = .ok (.goto (-64), 3) := by decide +kernel
theorem dX11_writeBookings_80 : decode cX11_writeBookings 80 = .ok (.return_, 1) := by decide +kernel
