theorem dX0_init_0 : decode cX0_init 0 = .ok (.aload_n 0, 1) := by decide +kernel
theorem dX0_init_1 : decode cX0_init 1 = .ok (.invokespecial 3, 3) := by decide +kernel
theorem dX0_init_4 : decode cX0_init 4 = .ok (.aload_n 0, 1) := by decide +kernel
theorem dX0_init_5 : decode cX0_init 5 = .ok (.bipush 6, 2) := by decide +kernel
theorem dX0_init_7 : decode cX0_init 7 = .ok (.anewarray 9, 3) := by decide +kernel
theorem dX0_init_10 : decode cX0_init 10 = .ok (.putfield 11, 3) := by decide +kernel
theorem dX0_init_13 : decode cX0_init 13 = .ok (.iconst 0, 1) := by decide +kernel
theorem dX0_init_14 : decode cX0_init 14 = .ok (.istore_n 1, 1) := by decide +kernel
theorem dX0_init_15 : decode cX0_init 15 = .ok (.iload_n 1, 1) := by decide +kernel
theorem dX0_init_16 : decode cX0_init 16 = .ok (.bipush 6, 2) := by decide +kernel
theorem dX0_init_18 : decode cX0_init 18 = .ok (.if_icmp .ge 22, 3) := by decide +kernel
theorem dX0_init_21 : decode cX0_init 21 = .ok (.aload_n 0, 1) := by decide +kernel
theorem dX0_init_22 : decode cX0_init 22 = .ok (.getfield 11, 3) := by decide +kernel
theorem dX0_init_25 : decode cX0_init 25 = .ok (.iload_n 1, 1) := by decide +kernel
theorem dX0_init_26 : decode cX0_init 26 = .ok (.new 9, 3) := by decide +kernel
theorem dX0_init_29 : decode cX0_init 29 = .ok (.dup, 1) := by decide +kernel
theorem dX0_init_30 : decode cX0_init 30 = .ok (.invokespecial 17, 3) := by decide +kernel
theorem dX0_init_33 : decode cX0_init 33 = .ok (.aastore, 1) := by decide +kernel
theorem dX0_init_34 : decode cX0_init 34 = .ok (.iinc 1 1, 3) := by decide +kernel
theorem dX0_init_37 : decode cX0_init 37 = .ok (.goto (-22), 3) := by decide +kernel
theorem dX0_init_40 : decode cX0_init 40 = .ok (.return_, 1) := by decide +kernel
theorem dX0_remember_0 : decode cX0_remember 0 = .ok (.aload_n 0, 1) := by decide +kernel
theorem dX0_remember_1 : decode cX0_remember 1 = .ok (.getfield 18, 3) := by decide +kernel
theorem dX0_remember_4 : decode cX0_remember 4 = .ok (.ifCond .eq 4, 3) := by decide +kernel
theorem dX0_remember_7 : decode cX0_remember 7 = .ok (.return_, 1) := by decide +kernel
theorem dX0_remember_8 : decode cX0_remember 8 = .ok (.aload_n 0, 1) := by decide +kernel
theorem dX0_remember_9 : decode cX0_remember 9 = .ok (.getfield 22, 3) := by decide +kernel
theorem dX0_remember_12 : decode cX0_remember 12 = .ok (.bipush 6, 2) := by decide +kernel
theorem dX0_remember_14 : decode cX0_remember 14 = .ok (.if_icmp .lt 7, 3) := by decide +kernel
theorem dX0_remember_17 : decode cX0_remember 17 = .ok (.aload_n 0, 1) := by decide +kernel
theorem dX0_remember_18 : decode cX0_remember 18 = .ok (.invokevirtual 26, 3) := by decide +kernel
theorem dX0_remember_21 : decode cX0_remember 21 = .ok (.aload_n 0, 1) := by decide +kernel
theorem dX0_remember_22 : decode cX0_remember 22 = .ok (.getfield 22, 3) := by decide +kernel
theorem dX0_remember_25 : decode cX0_remember 25 = .ok (.ifCond .lt 47, 3) := by decide +kernel
theorem dX0_remember_28 : decode cX0_remember 28 = .ok (.aload_n 0, 1) := by decide +kernel
theorem dX0_remember_29 : decode cX0_remember 29 = .ok (.getfield 22, 3) := by decide +kernel
theorem dX0_remember_32 : decode cX0_remember 32 = .ok (.bipush 6, 2) := by decide +kernel
theorem dX0_remember_34 : decode cX0_remember 34 = .ok (.if_icmp .ge 38, 3) := by decide +kernel
theorem dX0_remember_37 : decode cX0_remember 37 = .ok (.aload_n 0, 1) := by decide +kernel
theorem dX0_remember_38 : decode cX0_remember 38 = .ok (.getfield 11, 3) := by decide +kernel
theorem dX0_remember_41 : decode cX0_remember 41 = .ok (.aload_n 0, 1) := by decide +kernel
theorem dX0_remember_42 : decode cX0_remember 42 = .ok (.getfield 22, 3) := by decide +kernel
theorem dX0_remember_45 : decode cX0_remember 45 = .ok (.aaload, 1) := by decide +kernel
theorem dX0_remember_46 : decode cX0_remember 46 = .ok (.ifnull 26, 3) := by decide +kernel
theorem dX0_remember_49 : decode cX0_remember 49 = .ok (.aload_n 0, 1) := by decide +kernel
theorem dX0_remember_50 : decode cX0_remember 50 = .ok (.getfield 11, 3) := by decide +kernel
theorem dX0_remember_53 : decode cX0_remember 53 = .ok (.aload_n 0, 1) := by decide +kernel
theorem dX0_remember_54 : decode cX0_remember 54 = .ok (.getfield 22, 3) := by decide +kernel
theorem dX0_remember_57 : decode cX0_remember 57 = .ok (.aaload, 1) := by decide +kernel
theorem dX0_remember_58 : decode cX0_remember 58 = .ok (.aload_n 1, 1) := by decide +kernel
theorem dX0_remember_59 : decode cX0_remember 59 = .ok (.invokevirtual 29, 3) := by decide +kernel
theorem dX0_remember_62 : decode cX0_remember 62 = .ok (.aload_n 0, 1) := by decide +kernel
theorem dX0_remember_63 : decode cX0_remember 63 = .ok (.dup, 1) := by decide +kernel
theorem dX0_remember_64 : decode cX0_remember 64 = .ok (.getfield 22, 3) := by decide +kernel
theorem dX0_remember_67 : decode cX0_remember 67 = .ok (.iconst 1, 1) := by decide +kernel
theorem dX0_remember_68 : decode cX0_remember 68 = .ok (.iadd, 1) := by decide +kernel
theorem dX0_remember_69 : decode cX0_remember 69 = .ok (.putfield 22, 3) := by decide +kernel
theorem dX0_remember_72 : decode cX0_remember 72 = .ok (.return_, 1) := by decide +kernel
theorem dX0_takeBack_0 : decode cX0_takeBack 0 = .ok (.aload_n 0, 1) := by decide +kernel
theorem dX0_takeBack_1 : decode cX0_takeBack 1 = .ok (.getfield 22, 3) := by decide +kernel
theorem dX0_takeBack_4 : decode cX0_takeBack 4 = .ok (.ifCond .le 35, 3) := by decide +kernel
theorem dX0_takeBack_7 : decode cX0_takeBack 7 = .ok (.aload_n 0, 1) := by decide +kernel
theorem dX0_takeBack_8 : decode cX0_takeBack 8 = .ok (.getfield 22, 3) := by decide +kernel
theorem dX0_takeBack_11 : decode cX0_takeBack 11 = .ok (.bipush 6, 2) := by decide +kernel
theorem dX0_takeBack_13 : decode cX0_takeBack 13 = .ok (.if_icmp .gt 26, 3) := by decide +kernel
theorem dX0_takeBack_16 : decode cX0_takeBack 16 = .ok (.aload_n 0, 1) := by decide +kernel
theorem dX0_takeBack_17 : decode cX0_takeBack 17 = .ok (.dup, 1) := by decide +kernel
theorem dX0_takeBack_18 : decode cX0_takeBack 18 = .ok (.getfield 22, 3) := by decide +kernel
theorem dX0_takeBack_21 : decode cX0_takeBack 21 = .ok (.iconst 1, 1) := by decide +kernel
theorem dX0_takeBack_22 : decode cX0_takeBack 22 = .ok (.isub, 1) := by decide +kernel
theorem dX0_takeBack_23 : decode cX0_takeBack 23 = .ok (.putfield 22, 3) := by decide +kernel
theorem dX0_takeBack_26 : decode cX0_takeBack 26 = .ok (.aload_n 1, 1) := by decide +kernel
theorem dX0_takeBack_27 : decode cX0_takeBack 27 = .ok (.aload_n 0, 1) := by decide +kernel
theorem dX0_takeBack_28 : decode cX0_takeBack 28 = .ok (.getfield 11, 3) := by decide +kernel
theorem dX0_takeBack_31 : decode cX0_takeBack 31 = .ok (.aload_n 0, 1) := by decide +kernel
theorem dX0_takeBack_32 : decode cX0_takeBack 32 = .ok (.getfield 22, 3) := by decide +kernel
theorem dX0_takeBack_35 : decode cX0_takeBack 35 = .ok (.aaload, 1) := by decide +kernel
theorem dX0_takeBack_36 : decode cX0_takeBack 36 = .ok (.invokevirtual 29, 3) := by decide +kernel
theorem dX0_takeBack_39 : decode cX0_takeBack 39 = .ok (.return_, 1) := by decide +kernel
theorem dX0_dropOldest_0 : decode cX0_dropOldest 0 = .ok (.aload_n 0, 1) := by decide +kernel
theorem dX0_dropOldest_1 : decode cX0_dropOldest 1 = .ok (.getfield 11, 3) := by decide +kernel
theorem dX0_dropOldest_4 : decode cX0_dropOldest 4 = .ok (.iconst 0, 1) := by decide +kernel
theorem dX0_dropOldest_5 : decode cX0_dropOldest 5 = .ok (.aaload, 1) := by decide +kernel
theorem dX0_dropOldest_6 : decode cX0_dropOldest 6 = .ok (.astore_n 1, 1) := by decide +kernel
theorem dX0_dropOldest_7 : decode cX0_dropOldest 7 = .ok (.iconst 1, 1) := by decide +kernel
theorem dX0_dropOldest_8 : decode cX0_dropOldest 8 = .ok (.istore_n 2, 1) := by decide +kernel
theorem dX0_dropOldest_9 : decode cX0_dropOldest 9 = .ok (.iload_n 2, 1) := by decide +kernel
theorem dX0_dropOldest_10 : decode cX0_dropOldest 10 = .ok (.bipush 6, 2) := by decide +kernel
theorem dX0_dropOldest_12 : decode cX0_dropOldest 12 = .ok (.if_icmp .ge 23, 3) := by decide +kernel
theorem dX0_dropOldest_15 : decode cX0_dropOldest 15 = .ok (.aload_n 0, 1) := by decide +kernel
theorem dX0_dropOldest_16 : decode cX0_dropOldest 16 = .ok (.getfield 11, 3) := by decide +kernel
theorem dX0_dropOldest_19 : decode cX0_dropOldest 19 = .ok (.iload_n 2, 1) := by decide +kernel
theorem dX0_dropOldest_20 : decode cX0_dropOldest 20 = .ok (.iconst 1, 1) := by decide +kernel
theorem dX0_dropOldest_21 : decode cX0_dropOldest 21 = .ok (.isub, 1) := by decide +kernel
theorem dX0_dropOldest_22 : decode cX0_dropOldest 22 = .ok (.aload_n 0, 1) := by decide +kernel
theorem dX0_dropOldest_23 : decode cX0_dropOldest 23 = .ok (.getfield 11, 3) := by decide +kernel
theorem dX0_dropOldest_26 : decode cX0_dropOldest 26 = .ok (.iload_n 2, 1) := by decide +kernel
theorem dX0_dropOldest_27 : decode cX0_dropOldest 27 = .ok (.aaload, 1) := by decide +kernel
theorem dX0_dropOldest_28 : decode cX0_dropOldest 28 = .ok (.aastore, 1) := by decide +kernel
theorem dX0_dropOldest_29 : decode cX0_dropOldest 29 = .ok (.iinc 2 1, 3) := by decide +kernel
theorem dX0_dropOldest_32 : decode cX0_dropOldest 32 = .ok (.goto (-23), 3) := by decide +kernel
theorem dX0_dropOldest_35 : decode cX0_dropOldest 35 = .ok (.aload_n 0, 1) := by decide +kernel
theorem dX0_dropOldest_36 : decode cX0_dropOldest 36 = .ok (.getfield 11, 3) := by decide +kernel
theorem dX0_dropOldest_39 : decode cX0_dropOldest 39 = .ok (.iconst 5, 1) := by decide +kernel
theorem dX0_dropOldest_40 : decode cX0_dropOldest 40 = .ok (.aload_n 1, 1) := by decide +kernel
theorem dX0_dropOldest_41 : decode cX0_dropOldest 41 = .ok (.aastore, 1) := by decide +kernel
theorem dX0_dropOldest_42 : decode cX0_dropOldest 42 = .ok (.aload_n 0, 1) := by decide +kernel
theorem dX0_dropOldest_43 : decode cX0_dropOldest 43 = .ok (.iconst 5, 1) := by decide +kernel
theorem dX0_dropOldest_44 : decode cX0_dropOldest 44 = .ok (.putfield 22, 3) := by decide +kernel
theorem dX0_dropOldest_47 : decode cX0_dropOldest 47 = .ok (.return_, 1) := by decide +kernel
theorem dX1_init_0 : decode cX1_init 0 = .ok (.aload_n 0, 1) := by decide +kernel
theorem dX1_init_1 : decode cX1_init 1 = .ok (.invokespecial 3, 3) := by decide +kernel
theorem dX1_init_4 : decode cX1_init 4 = .ok (.aload_n 0, 1) := by decide +kernel
theorem dX1_init_5 : decode cX1_init 5 = .ok (.bipush 80, 2) := by decide +kernel
theorem dX1_init_7 : decode cX1_init 7 = .ok (.newarray .char, 2) := by decide +kernel
theorem dX1_init_9 : decode cX1_init 9 = .ok (.putfield 9, 3) := by decide +kernel
theorem dX1_init_12 : decode cX1_init 12 = .ok (.return_, 1) := by decide +kernel
theorem dX2_init_0 : decode cX2_init 0 = .ok (.aload_n 0, 1) := by decide +kernel
theorem dX2_init_1 : decode cX2_init 1 = .ok (.invokespecial 3, 3) := by decide +kernel
theorem dX2_init_4 : decode cX2_init 4 = .ok (.aload_n 0, 1) := by decide +kernel
theorem dX2_init_5 : decode cX2_init 5 = .ok (.bipush 12, 2) := by decide +kernel
theorem dX2_init_7 : decode cX2_init 7 = .ok (.newarray .int, 2) := by decide +kernel
theorem dX2_init_9 : decode cX2_init 9 = .ok (.putfield 9, 3) := by decide +kernel
theorem dX2_init_12 : decode cX2_init 12 = .ok (.aload_n 0, 1) := by decide +kernel
theorem dX2_init_13 : decode cX2_init 13 = .ok (.bipush 12, 2) := by decide +kernel
theorem dX2_init_15 : decode cX2_init 15 = .ok (.newarray .int, 2) := by decide +kernel
theorem dX2_init_17 : decode cX2_init 17 = .ok (.putfield 15, 3) := by decide +kernel
theorem dX2_init_20 : decode cX2_init 20 = .ok (.return_, 1) := by decide +kernel
theorem dX2_begin_0 : decode cX2_begin 0 = .ok (.aload_n 0, 1) := by decide +kernel
theorem dX2_begin_1 : decode cX2_begin 1 = .ok (.iload_n 1, 1) := by decide +kernel
theorem dX2_begin_2 : decode cX2_begin 2 = .ok (.putfield 18, 3) := by decide +kernel
theorem dX2_begin_5 : decode cX2_begin 5 = .ok (.aload_n 0, 1) := by decide +kernel
theorem dX2_begin_6 : decode cX2_begin 6 = .ok (.iload_n 2, 1) := by decide +kernel
theorem dX2_begin_7 : decode cX2_begin 7 = .ok (.putfield 22, 3) := by decide +kernel
theorem dX2_begin_10 : decode cX2_begin 10 = .ok (.aload_n 0, 1) := by decide +kernel
theorem dX2_begin_11 : decode cX2_begin 11 = .ok (.iload_n 3, 1) := by decide +kernel
theorem dX2_begin_12 : decode cX2_begin 12 = .ok (.putfield 25, 3) := by decide +kernel
theorem dX2_begin_15 : decode cX2_begin 15 = .ok (.aload_n 0, 1) := by decide +kernel
theorem dX2_begin_16 : decode cX2_begin 16 = .ok (.iload 4, 2) := by decide +kernel
theorem dX2_begin_18 : decode cX2_begin 18 = .ok (.putfield 28, 3) := by decide +kernel
theorem dX2_begin_21 : decode cX2_begin 21 = .ok (.aload_n 0, 1) := by decide +kernel
theorem dX2_begin_22 : decode cX2_begin 22 = .ok (.iload 5, 2) := by decide +kernel
theorem dX2_begin_24 : decode cX2_begin 24 = .ok (.putfield 31, 3) := by decide +kernel
theorem dX2_begin_27 : decode cX2_begin 27 = .ok (.aload_n 0, 1) := by decide +kernel
theorem dX2_begin_28 : decode cX2_begin 28 = .ok (.iload 5, 2) := by decide +kernel
theorem dX2_begin_30 : decode cX2_begin 30 = .ok (.putfield 34, 3) := by decide +kernel
theorem dX2_begin_33 : decode cX2_begin 33 = .ok (.aload_n 0, 1) := by decide +kernel
theorem dX2_begin_34 : decode cX2_begin 34 = .ok (.iconst 0, 1) := by decide +kernel
theorem dX2_begin_35 : decode cX2_begin 35 = .ok (.putfield 37, 3) := by decide +kernel
theorem dX2_begin_38 : decode cX2_begin 38 = .ok (.aload_n 0, 1) := by decide +kernel
theorem dX2_begin_39 : decode cX2_begin 39 = .ok (.iconst 0, 1) := by decide +kernel
theorem dX2_begin_40 : decode cX2_begin 40 = .ok (.putfield 40, 3) := by decide +kernel
theorem dX2_begin_43 : decode cX2_begin 43 = .ok (.aload_n 0, 1) := by decide +kernel
theorem dX2_begin_44 : decode cX2_begin 44 = .ok (.bipush (-6), 2) := by decide +kernel
theorem dX2_begin_46 : decode cX2_begin 46 = .ok (.putfield 43, 3) := by decide +kernel
theorem dX2_begin_49 : decode cX2_begin 49 = .ok (.aload_n 0, 1) := by decide +kernel
theorem dX2_begin_50 : decode cX2_begin 50 = .ok (.iconst 0, 1) := by decide +kernel
theorem dX2_begin_51 : decode cX2_begin 51 = .ok (.putfield 46, 3) := by decide +kernel
theorem dX2_begin_54 : decode cX2_begin 54 = .ok (.aload_n 0, 1) := by decide +kernel
theorem dX2_begin_55 : decode cX2_begin 55 = .ok (.iconst 0, 1) := by decide +kernel
theorem dX2_begin_56 : decode cX2_begin 56 = .ok (.putfield 49, 3) := by decide +kernel
theorem dX2_begin_59 : decode cX2_begin 59 = .ok (.aload_n 0, 1) := by decide +kernel
theorem dX2_begin_60 : decode cX2_begin 60 = .ok (.iconst 0, 1) := by decide +kernel
theorem dX2_begin_61 : decode cX2_begin 61 = .ok (.putfield 52, 3) := by decide +kernel
theorem dX2_begin_64 : decode cX2_begin 64 = .ok (.aload_n 0, 1) := by decide +kernel
theorem dX2_begin_65 : decode cX2_begin 65 = .ok (.getfield 9, 3) := by decide +kernel
theorem dX2_begin_68 : decode cX2_begin 68 = .ok (.iconst 0, 1) := by decide +kernel
theorem dX2_begin_69 : decode cX2_begin 69 = .ok (.invokestatic 55, 3) := by decide +kernel
theorem dX2_begin_72 : decode cX2_begin 72 = .ok (.aload_n 0, 1) := by decide +kernel
theorem dX2_begin_73 : decode cX2_begin 73 = .ok (.getfield 15, 3) := by decide +kernel
theorem dX2_begin_76 : decode cX2_begin 76 = .ok (.iconst 0, 1) := by decide +kernel
theorem dX2_begin_77 : decode cX2_begin 77 = .ok (.invokestatic 55, 3) := by decide +kernel
theorem dX2_begin_80 : decode cX2_begin 80 = .ok (.return_, 1) := by decide +kernel
theorem dX2_copyFrom_0 : decode cX2_copyFrom 0 = .ok (.aload_n 0, 1) := by decide +kernel
theorem dX2_copyFrom_1 : decode cX2_copyFrom 1 = .ok (.aload_n 1, 1) := by decide +kernel
theorem dX2_copyFrom_2 : decode cX2_copyFrom 2 = .ok (.getfield 18, 3) := by decide +kernel
theorem dX2_copyFrom_5 : decode cX2_copyFrom 5 = .ok (.putfield 18, 3) := by decide +kernel
theorem dX2_copyFrom_8 : decode cX2_copyFrom 8 = .ok (.aload_n 0, 1) := by decide +kernel
theorem dX2_copyFrom_9 : decode cX2_copyFrom 9 = .ok (.aload_n 1, 1) := by decide +kernel
theorem dX2_copyFrom_10 : decode cX2_copyFrom 10 = .ok (.getfield 22, 3) := by decide +kernel
theorem dX2_copyFrom_13 : decode cX2_copyFrom 13 = .ok (.putfield 22, 3) := by decide +kernel
theorem dX2_copyFrom_16 : decode cX2_copyFrom 16 = .ok (.aload_n 0, 1) := by decide +kernel
theorem dX2_copyFrom_17 : decode cX2_copyFrom 17 = .ok (.aload_n 1, 1) := by decide +kernel
theorem dX2_copyFrom_18 : decode cX2_copyFrom 18 = .ok (.getfield 25, 3) := by decide +kernel
theorem dX2_copyFrom_21 : decode cX2_copyFrom 21 = .ok (.putfield 25, 3) := by decide +kernel
theorem dX2_copyFrom_24 : decode cX2_copyFrom 24 = .ok (.aload_n 0, 1) := by decide +kernel
theorem dX2_copyFrom_25 : decode cX2_copyFrom 25 = .ok (.aload_n 1, 1) := by decide +kernel
theorem dX2_copyFrom_26 : decode cX2_copyFrom 26 = .ok (.getfield 28, 3) := by decide +kernel
theorem dX2_copyFrom_29 : decode cX2_copyFrom 29 = .ok (.putfield 28, 3) := by decide +kernel
theorem dX2_copyFrom_32 : decode cX2_copyFrom 32 = .ok (.aload_n 0, 1) := by decide +kernel
theorem dX2_copyFrom_33 : decode cX2_copyFrom 33 = .ok (.aload_n 1, 1) := by decide +kernel
theorem dX2_copyFrom_34 : decode cX2_copyFrom 34 = .ok (.getfield 31, 3) := by decide +kernel
theorem dX2_copyFrom_37 : decode cX2_copyFrom 37 = .ok (.putfield 31, 3) := by decide +kernel
theorem dX2_copyFrom_40 : decode cX2_copyFrom 40 = .ok (.aload_n 0, 1) := by decide +kernel
theorem dX2_copyFrom_41 : decode cX2_copyFrom 41 = .ok (.aload_n 1, 1) := by decide +kernel
theorem dX2_copyFrom_42 : decode cX2_copyFrom 42 = .ok (.getfield 34, 3) := by decide +kernel
theorem dX2_copyFrom_45 : decode cX2_copyFrom 45 = .ok (.putfield 34, 3) := by decide +kernel
theorem dX2_copyFrom_48 : decode cX2_copyFrom 48 = .ok (.aload_n 0, 1) := by decide +kernel
theorem dX2_copyFrom_49 : decode cX2_copyFrom 49 = .ok (.aload_n 1, 1) := by decide +kernel
theorem dX2_copyFrom_50 : decode cX2_copyFrom 50 = .ok (.getfield 37, 3) := by decide +kernel
theorem dX2_copyFrom_53 : decode cX2_copyFrom 53 = .ok (.putfield 37, 3) := by decide +kernel
theorem dX2_copyFrom_56 : decode cX2_copyFrom 56 = .ok (.aload_n 0, 1) := by decide +kernel
theorem dX2_copyFrom_57 : decode cX2_copyFrom 57 = .ok (.aload_n 1, 1) := by decide +kernel
theorem dX2_copyFrom_58 : decode cX2_copyFrom 58 = .ok (.getfield 40, 3) := by decide +kernel
theorem dX2_copyFrom_61 : decode cX2_copyFrom 61 = .ok (.putfield 40, 3) := by decide +kernel
theorem dX2_copyFrom_64 : decode cX2_copyFrom 64 = .ok (.aload_n 0, 1) := by decide +kernel
theorem dX2_copyFrom_65 : decode cX2_copyFrom 65 = .ok (.aload_n 1, 1) := by decide +kernel
theorem dX2_copyFrom_66 : decode cX2_copyFrom 66 = .ok (.getfield 43, 3) := by decide +kernel
theorem dX2_copyFrom_69 : decode cX2_copyFrom 69 = .ok (.putfield 43, 3) := by decide +kernel
theorem dX2_copyFrom_72 : decode cX2_copyFrom 72 = .ok (.aload_n 0, 1) := by decide +kernel
theorem dX2_copyFrom_73 : decode cX2_copyFrom 73 = .ok (.aload_n 1, 1) := by decide +kernel
theorem dX2_copyFrom_74 : decode cX2_copyFrom 74 = .ok (.getfield 46, 3) := by decide +kernel
theorem dX2_copyFrom_77 : decode cX2_copyFrom 77 = .ok (.putfield 46, 3) := by decide +kernel
theorem dX2_copyFrom_80 : decode cX2_copyFrom 80 = .ok (.aload_n 0, 1) := by decide +kernel
theorem dX2_copyFrom_81 : decode cX2_copyFrom 81 = .ok (.aload_n 1, 1) := by decide +kernel
theorem dX2_copyFrom_82 : decode cX2_copyFrom 82 = .ok (.getfield 49, 3) := by decide +kernel
theorem dX2_copyFrom_85 : decode cX2_copyFrom 85 = .ok (.putfield 49, 3) := by decide +kernel
theorem dX2_copyFrom_88 : decode cX2_copyFrom 88 = .ok (.aload_n 0, 1) := by decide +kernel
theorem dX2_copyFrom_89 : decode cX2_copyFrom 89 = .ok (.aload_n 1, 1) := by decide +kernel
theorem dX2_copyFrom_90 : decode cX2_copyFrom 90 = .ok (.getfield 52, 3) := by decide +kernel
theorem dX2_copyFrom_93 : decode cX2_copyFrom 93 = .ok (.putfield 52, 3) := by decide +kernel
theorem dX2_copyFrom_96 : decode cX2_copyFrom 96 = .ok (.aload_n 1, 1) := by decide +kernel
theorem dX2_copyFrom_97 : decode cX2_copyFrom 97 = .ok (.getfield 9, 3) := by decide +kernel
theorem dX2_copyFrom_100 : decode cX2_copyFrom 100 = .ok (.iconst 0, 1) := by decide +kernel
theorem dX2_copyFrom_101 : decode cX2_copyFrom 101 = .ok (.aload_n 0, 1) := by decide +kernel
theorem dX2_copyFrom_102 : decode cX2_copyFrom 102 = .ok (.getfield 9, 3) := by decide +kernel
theorem dX2_copyFrom_105 : decode cX2_copyFrom 105 = .ok (.iconst 0, 1) := by decide +kernel
theorem dX2_copyFrom_106 : decode cX2_copyFrom 106 = .ok (.bipush 12, 2) := by decide +kernel
theorem dX2_copyFrom_108 : decode cX2_copyFrom 108 = .ok (.invokestatic 61, 3) := by decide +kernel
theorem dX2_copyFrom_111 : decode cX2_copyFrom 111 = .ok (.aload_n 1, 1) := by decide +kernel
theorem dX2_copyFrom_112 : decode cX2_copyFrom 112 = .ok (.getfield 15, 3) := by decide +kernel
theorem dX2_copyFrom_115 : decode cX2_copyFrom 115 = .ok (.iconst 0, 1) := by decide +kernel
theorem dX2_copyFrom_116 : decode cX2_copyFrom 116 = .ok (.aload_n 0, 1) := by decide +kernel
theorem dX2_copyFrom_117 : decode cX2_copyFrom 117 = .ok (.getfield 15, 3) := by decide +kernel
theorem dX2_copyFrom_120 : decode cX2_copyFrom 120 = .ok (.iconst 0, 1) := by decide +kernel
theorem dX2_copyFrom_121 : decode cX2_copyFrom 121 = .ok (.bipush 12, 2) := by decide +kernel
theorem dX2_copyFrom_123 : decode cX2_copyFrom 123 = .ok (.invokestatic 61, 3) := by decide +kernel
theorem dX2_copyFrom_126 : decode cX2_copyFrom 126 = .ok (.return_, 1) := by decide +kernel
theorem dX2_cover_0 : decode cX2_cover 0 = .ok (.aload_n 0, 1) := by decide +kernel
theorem dX2_cover_1 : decode cX2_cover 1 = .ok (.getfield 40, 3) := by decide +kernel
theorem dX2_cover_4 : decode cX2_cover 4 = .ok (.iload_n 1, 1) := by decide +kernel
theorem dX2_cover_5 : decode cX2_cover 5 = .ok (.imul, 1) := by decide +kernel
theorem dX2_cover_6 : decode cX2_cover 6 = .ok (.bipush 100, 2) := by decide +kernel
theorem dX2_cover_8 : decode cX2_cover 8 = .ok (.idiv, 1) := by decide +kernel
theorem dX2_cover_9 : decode cX2_cover 9 = .ok (.ireturn, 1) := by decide +kernel
theorem dX2_lotsIn_0 : decode cX2_lotsIn 0 = .ok (.iload_n 1, 1) := by decide +kernel
theorem dX2_lotsIn_1 : decode cX2_lotsIn 1 = .ok (.ifCond .lt 18, 3) := by decide +kernel
theorem dX2_lotsIn_4 : decode cX2_lotsIn 4 = .ok (.iload_n 1, 1) := by decide +kernel
theorem dX2_lotsIn_5 : decode cX2_lotsIn 5 = .ok (.bipush 12, 2) := by decide +kernel
theorem dX2_lotsIn_7 : decode cX2_lotsIn 7 = .ok (.if_icmp .ge 12, 3) := by decide +kernel
theorem dX2_lotsIn_10 : decode cX2_lotsIn 10 = .ok (.aload_n 0, 1) := by decide +kernel
theorem dX2_lotsIn_11 : decode cX2_lotsIn 11 = .ok (.getfield 15, 3) := by decide +kernel
theorem dX2_lotsIn_14 : decode cX2_lotsIn 14 = .ok (.iload_n 1, 1) := by decide +kernel
theorem dX2_lotsIn_15 : decode cX2_lotsIn 15 = .ok (.iaload, 1) := by decide +kernel
theorem dX2_lotsIn_16 : decode cX2_lotsIn 16 = .ok (.goto 4, 3) := by decide +kernel
theorem dX2_lotsIn_19 : decode cX2_lotsIn 19 = .ok (.iconst 0, 1) := by decide +kernel
theorem dX2_lotsIn_20 : decode cX2_lotsIn 20 = .ok (.ireturn, 1) := by decide +kernel
theorem dX2_lotsInAll_0 : decode cX2_lotsInAll 0 = .ok (.iconst 0, 1) := by decide +kernel
theorem dX2_lotsInAll_1 : decode cX2_lotsInAll 1 = .ok (.istore_n 1, 1) := by decide +kernel
theorem dX2_lotsInAll_2 : decode cX2_lotsInAll 2 = .ok (.iconst 0, 1) := by decide +kernel
theorem dX2_lotsInAll_3 : decode cX2_lotsInAll 3 = .ok (.istore_n 2, 1) := by decide +kernel
theorem dX2_lotsInAll_4 : decode cX2_lotsInAll 4 = .ok (.iload_n 2, 1) := by decide +kernel
theorem dX2_lotsInAll_5 : decode cX2_lotsInAll 5 = .ok (.bipush 12, 2) := by decide +kernel
theorem dX2_lotsInAll_7 : decode cX2_lotsInAll 7 = .ok (.if_icmp .ge 18, 3) := by decide +kernel
theorem dX2_lotsInAll_10 : decode cX2_lotsInAll 10 = .ok (.iload_n 1, 1) := by decide +kernel
theorem dX2_lotsInAll_11 : decode cX2_lotsInAll 11 = .ok (.aload_n 0, 1) := by decide +kernel
theorem dX2_lotsInAll_12 : decode cX2_lotsInAll 12 = .ok (.getfield 15, 3) := by decide +kernel
theorem dX2_lotsInAll_15 : decode cX2_lotsInAll 15 = .ok (.iload_n 2, 1) := by decide +kernel
theorem dX2_lotsInAll_16 : decode cX2_lotsInAll 16 = .ok (.iaload, 1) := by decide +kernel
theorem dX2_lotsInAll_17 : decode cX2_lotsInAll 17 = .ok (.iadd, 1) := by decide +kernel
theorem dX2_lotsInAll_18 : decode cX2_lotsInAll 18 = .ok (.istore_n 1, 1) := by decide +kernel
theorem dX2_lotsInAll_19 : decode cX2_lotsInAll 19 = .ok (.iinc 2 1, 3) := by decide +kernel
theorem dX2_lotsInAll_22 : decode cX2_lotsInAll 22 = .ok (.goto (-18), 3) := by decide +kernel
theorem dX2_lotsInAll_25 : decode cX2_lotsInAll 25 = .ok (.iload_n 1, 1) := by decide +kernel
theorem dX2_lotsInAll_26 : decode cX2_lotsInAll 26 = .ok (.ireturn, 1) := by decide +kernel
theorem dX2_projectionBehind_0 : decode cX2_projectionBehind 0 = .ok (.aload_n 0, 1) := by decide +kernel
theorem dX2_projectionBehind_1 : decode cX2_projectionBehind 1 = .ok (.getfield 34, 3) := by decide +kernel
theorem dX2_projectionBehind_4 : decode cX2_projectionBehind 4 = .ok (.i2l, 1) := by decide +kernel
theorem dX2_projectionBehind_5 : decode cX2_projectionBehind 5 = .ok (.aload_n 0, 1) := by decide +kernel
theorem dX2_projectionBehind_6 : decode cX2_projectionBehind 6 = .ok (.getfield 37, 3) := by decide +kernel
theorem dX2_projectionBehind_9 : decode cX2_projectionBehind 9 = .ok (.i2l, 1) := by decide +kernel
theorem dX2_projectionBehind_10 : decode cX2_projectionBehind 10 = .ok (.lsub, 1) := by decide +kernel
theorem dX2_projectionBehind_11 : decode cX2_projectionBehind 11 = .ok (.lstore_n 2, 1) := by decide +kernel
theorem dX2_projectionBehind_12 : decode cX2_projectionBehind 12 = .ok (.iconst 0, 1) := by decide +kernel
theorem dX2_projectionBehind_13 : decode cX2_projectionBehind 13 = .ok (.istore 4, 2) := by decide +kernel
theorem dX2_projectionBehind_15 : decode cX2_projectionBehind 15 = .ok (.iload 4, 2) := by decide +kernel
theorem dX2_projectionBehind_17 : decode cX2_projectionBehind 17 = .ok (.iload_n 1, 1) := by decide +kernel
theorem dX2_projectionBehind_18 : decode cX2_projectionBehind 18 = .ok (.if_icmp .gt 42, 3) := by decide +kernel
theorem dX2_projectionBehind_21 : decode cX2_projectionBehind 21 = .ok (.iload 4, 2) := by decide +kernel
theorem dX2_projectionBehind_23 : decode cX2_projectionBehind 23 = .ok (.bipush 12, 2) := by decide +kernel
theorem dX2_projectionBehind_25 : decode cX2_projectionBehind 25 = .ok (.if_icmp .ge 35, 3) := by decide +kernel
theorem dX2_projectionBehind_28 : decode cX2_projectionBehind 28 = .ok (.lload_n 2, 1) := by decide +kernel
theorem dX2_projectionBehind_29 : decode cX2_projectionBehind 29 = .ok (.aload_n 0, 1) := by decide +kernel
theorem dX2_projectionBehind_30 : decode cX2_projectionBehind 30 = .ok (.getfield 15, 3) := by decide +kernel
theorem dX2_projectionBehind_33 : decode cX2_projectionBehind 33 = .ok (.iload 4, 2) := by decide +kernel
theorem dX2_projectionBehind_35 : decode cX2_projectionBehind 35 = .ok (.iaload, 1) := by decide +kernel
theorem dX2_projectionBehind_36 : decode cX2_projectionBehind 36 = .ok (.i2l, 1) := by decide +kernel
theorem dX2_projectionBehind_37 : decode cX2_projectionBehind 37 = .ok (.aload_n 0, 1) := by decide +kernel
theorem dX2_projectionBehind_38 : decode cX2_projectionBehind 38 = .ok (.getfield 22, 3) := by decide +kernel
theorem dX2_projectionBehind_41 : decode cX2_projectionBehind 41 = .ok (.i2l, 1) := by decide +kernel
theorem dX2_projectionBehind_42 : decode cX2_projectionBehind 42 = .ok (.lmul, 1) := by decide +kernel
theorem dX2_projectionBehind_43 : decode cX2_projectionBehind 43 = .ok (.aload_n 0, 1) := by decide +kernel
theorem dX2_projectionBehind_44 : decode cX2_projectionBehind 44 = .ok (.getfield 9, 3) := by decide +kernel
theorem dX2_projectionBehind_47 : decode cX2_projectionBehind 47 = .ok (.iload 4, 2) := by decide +kernel
theorem dX2_projectionBehind_49 : decode cX2_projectionBehind 49 = .ok (.iaload, 1) := by decide +kernel
theorem dX2_projectionBehind_50 : decode cX2_projectionBehind 50 = .ok (.i2l, 1) := by decide +kernel
theorem dX2_projectionBehind_51 : decode cX2_projectionBehind 51 = .ok (.lsub, 1) := by decide +kernel
theorem dX2_projectionBehind_52 : decode cX2_projectionBehind 52 = .ok (.ladd, 1) := by decide +kernel
theorem dX2_projectionBehind_53 : decode cX2_projectionBehind 53 = .ok (.lstore_n 2, 1) := by decide +kernel
theorem dX2_projectionBehind_54 : decode cX2_projectionBehind 54 = .ok (.iinc 4 1, 3) := by decide +kernel
theorem dX2_projectionBehind_57 : decode cX2_projectionBehind 57 = .ok (.goto (-42), 3) := by decide +kernel
theorem dX2_projectionBehind_60 : decode cX2_projectionBehind 60 = .ok (.lload_n 2, 1) := by decide +kernel
theorem dX2_projectionBehind_61 : decode cX2_projectionBehind 61 = .ok (.lreturn, 1) := by decide +kernel
theorem dX2_openPlan_0 : decode cX2_openPlan 0 = .ok (.aload_n 0, 1) := by decide +kernel
theorem dX2_openPlan_1 : decode cX2_openPlan 1 = .ok (.aload_n 0, 1) := by decide +kernel
theorem dX2_openPlan_2 : decode cX2_openPlan 2 = .ok (.iload_n 1, 1) := by decide +kernel
theorem dX2_openPlan_3 : decode cX2_openPlan 3 = .ok (.iconst 1, 1) := by decide +kernel
theorem dX2_openPlan_4 : decode cX2_openPlan 4 = .ok (.isub, 1) := by decide +kernel
theorem dX2_openPlan_5 : decode cX2_openPlan 5 = .ok (.invokevirtual 67, 3) := by decide +kernel
theorem dX2_openPlan_8 : decode cX2_openPlan 8 = .ok (.putfield 71, 3) := by decide +kernel
theorem dX2_openPlan_11 : decode cX2_openPlan 11 = .ok (.iload_n 1, 1) := by decide +kernel
theorem dX2_openPlan_12 : decode cX2_openPlan 12 = .ok (.iconst 0, 1) := by decide +kernel
theorem dX2_openPlan_13 : decode cX2_openPlan 13 = .ok (.invokestatic 75, 3) := by decide +kernel
theorem dX2_openPlan_16 : decode cX2_openPlan 16 = .ok (.istore_n 2, 1) := by decide +kernel
theorem dX2_openPlan_17 : decode cX2_openPlan 17 = .ok (.iload_n 2, 1) := by decide +kernel
theorem dX2_openPlan_18 : decode cX2_openPlan 18 = .ok (.bipush 12, 2) := by decide +kernel
theorem dX2_openPlan_20 : decode cX2_openPlan 20 = .ok (.if_icmp .ge 16, 3) := by decide +kernel
theorem dX2_openPlan_23 : decode cX2_openPlan 23 = .ok (.aload_n 0, 1) := by decide +kernel
theorem dX2_openPlan_24 : decode cX2_openPlan 24 = .ok (.getfield 15, 3) := by decide +kernel
theorem dX2_openPlan_27 : decode cX2_openPlan 27 = .ok (.iload_n 2, 1) := by decide +kernel
theorem dX2_openPlan_28 : decode cX2_openPlan 28 = .ok (.iconst 0, 1) := by decide +kernel
theorem dX2_openPlan_29 : decode cX2_openPlan 29 = .ok (.iastore, 1) := by decide +kernel
theorem dX2_openPlan_30 : decode cX2_openPlan 30 = .ok (.iinc 2 1, 3) := by decide +kernel
theorem dX2_openPlan_33 : decode cX2_openPlan 33 = .ok (.goto (-16), 3) := by decide +kernel
theorem dX2_openPlan_36 : decode cX2_openPlan 36 = .ok (.return_, 1) := by decide +kernel
theorem dX2_enterWeek_0 : decode cX2_enterWeek 0 = .ok (.iload_n 1, 1) := by decide +kernel
theorem dX2_enterWeek_1 : decode cX2_enterWeek 1 = .ok (.ifCond .lt 25, 3) := by decide +kernel
theorem dX2_enterWeek_4 : decode cX2_enterWeek 4 = .ok (.iload_n 1, 1) := by decide +kernel
theorem dX2_enterWeek_5 : decode cX2_enterWeek 5 = .ok (.bipush 12, 2) := by decide +kernel
theorem dX2_enterWeek_7 : decode cX2_enterWeek 7 = .ok (.if_icmp .ge 19, 3) := by decide +kernel
theorem dX2_enterWeek_10 : decode cX2_enterWeek 10 = .ok (.aload_n 0, 1) := by decide +kernel
theorem dX2_enterWeek_11 : decode cX2_enterWeek 11 = .ok (.dup, 1) := by decide +kernel
theorem dX2_enterWeek_12 : decode cX2_enterWeek 12 = .ok (.getfield 71, 3) := by decide +kernel
theorem dX2_enterWeek_15 : decode cX2_enterWeek 15 = .ok (.aload_n 0, 1) := by decide +kernel
theorem dX2_enterWeek_16 : decode cX2_enterWeek 16 = .ok (.getfield 9, 3) := by decide +kernel
theorem dX2_enterWeek_19 : decode cX2_enterWeek 19 = .ok (.iload_n 1, 1) := by decide +kernel
theorem dX2_enterWeek_20 : decode cX2_enterWeek 20 = .ok (.iaload, 1) := by decide +kernel
theorem dX2_enterWeek_21 : decode cX2_enterWeek 21 = .ok (.i2l, 1) := by decide +kernel
theorem dX2_enterWeek_22 : decode cX2_enterWeek 22 = .ok (.lsub, 1) := by decide +kernel
theorem dX2_enterWeek_23 : decode cX2_enterWeek 23 = .ok (.putfield 71, 3) := by decide +kernel
theorem dX2_enterWeek_26 : decode cX2_enterWeek 26 = .ok (.aload_n 0, 1) := by decide +kernel
theorem dX2_enterWeek_27 : decode cX2_enterWeek 27 = .ok (.aload_n 0, 1) := by decide +kernel
theorem dX2_enterWeek_28 : decode cX2_enterWeek 28 = .ok (.iload_n 2, 1) := by decide +kernel
theorem dX2_enterWeek_29 : decode cX2_enterWeek 29 = .ok (.invokevirtual 81, 3) := by decide +kernel
theorem dX2_enterWeek_32 : decode cX2_enterWeek 32 = .ok (.putfield 85, 3) := by decide +kernel
theorem dX2_enterWeek_35 : decode cX2_enterWeek 35 = .ok (.aload_n 0, 1) := by decide +kernel
theorem dX2_enterWeek_36 : decode cX2_enterWeek 36 = .ok (.aload_n 0, 1) := by decide +kernel
theorem dX2_enterWeek_37 : decode cX2_enterWeek 37 = .ok (.getfield 71, 3) := by decide +kernel
theorem dX2_enterWeek_40 : decode cX2_enterWeek 40 = .ok (.aload_n 0, 1) := by decide +kernel
theorem dX2_enterWeek_41 : decode cX2_enterWeek 41 = .ok (.getfield 85, 3) := by decide +kernel
theorem dX2_enterWeek_44 : decode cX2_enterWeek 44 = .ok (.i2l, 1) := by decide +kernel
theorem dX2_enterWeek_45 : decode cX2_enterWeek 45 = .ok (.lcmp, 1) := by decide +kernel
theorem dX2_enterWeek_46 : decode cX2_enterWeek 46 = .ok (.ifCond .ge 7, 3) := by decide +kernel
theorem dX2_enterWeek_49 : decode cX2_enterWeek 49 = .ok (.iconst 1, 1) := by decide +kernel
theorem dX2_enterWeek_50 : decode cX2_enterWeek 50 = .ok (.goto 4, 3) := by decide +kernel
theorem dX2_enterWeek_53 : decode cX2_enterWeek 53 = .ok (.iconst 0, 1) := by decide +kernel
theorem dX2_enterWeek_54 : decode cX2_enterWeek 54 = .ok (.putfield 88, 3) := by decide +kernel
theorem dX2_enterWeek_57 : decode cX2_enterWeek 57 = .ok (.return_, 1) := by decide +kernel
theorem dX2_lotsWanted_0 : decode cX2_lotsWanted 0 = .ok (.aload_n 0, 1) := by decide +kernel
theorem dX2_lotsWanted_1 : decode cX2_lotsWanted 1 = .ok (.getfield 22, 3) := by decide +kernel
theorem dX2_lotsWanted_4 : decode cX2_lotsWanted 4 = .ok (.iconst 1, 1) := by decide +kernel
theorem dX2_lotsWanted_5 : decode cX2_lotsWanted 5 = .ok (.if_icmp .ge 5, 3) := by decide +kernel
theorem dX2_lotsWanted_8 : decode cX2_lotsWanted 8 = .ok (.lconst 0, 1) := by decide +kernel
theorem dX2_lotsWanted_9 : decode cX2_lotsWanted 9 = .ok (.lreturn, 1) := by decide +kernel
theorem dX2_lotsWanted_10 : decode cX2_lotsWanted 10 = .ok (.aload_n 0, 1) := by decide +kernel
theorem dX2_lotsWanted_11 : decode cX2_lotsWanted 11 = .ok (.getfield 85, 3) := by decide +kernel
theorem dX2_lotsWanted_14 : decode cX2_lotsWanted 14 = .ok (.i2l, 1) := by decide +kernel
theorem dX2_lotsWanted_15 : decode cX2_lotsWanted 15 = .ok (.aload_n 0, 1) := by decide +kernel
theorem dX2_lotsWanted_16 : decode cX2_lotsWanted 16 = .ok (.getfield 71, 3) := by decide +kernel
theorem dX2_lotsWanted_19 : decode cX2_lotsWanted 19 = .ok (.lsub, 1) := by decide +kernel
theorem dX2_lotsWanted_20 : decode cX2_lotsWanted 20 = .ok (.lstore_n 3, 1) := by decide +kernel
theorem dX2_lotsWanted_21 : decode cX2_lotsWanted 21 = .ok (.iload_n 1, 1) := by decide +kernel
theorem dX2_lotsWanted_22 : decode cX2_lotsWanted 22 = .ok (.iconst 1, 1) := by decide +kernel
theorem dX2_lotsWanted_23 : decode cX2_lotsWanted 23 = .ok (.iadd, 1) := by decide +kernel
theorem dX2_lotsWanted_24 : decode cX2_lotsWanted 24 = .ok (.istore 5, 2) := by decide +kernel
theorem dX2_lotsWanted_26 : decode cX2_lotsWanted 26 = .ok (.iload 5, 2) := by decide +kernel
theorem dX2_lotsWanted_28 : decode cX2_lotsWanted 28 = .ok (.iload_n 1, 1) := by decide +kernel
theorem dX2_lotsWanted_29 : decode cX2_lotsWanted 29 = .ok (.iload_n 2, 1) := by decide +kernel
theorem dX2_lotsWanted_30 : decode cX2_lotsWanted 30 = .ok (.iadd, 1) := by decide +kernel
theorem dX2_lotsWanted_31 : decode cX2_lotsWanted 31 = .ok (.if_icmp .ge 32, 3) := by decide +kernel
theorem dX2_lotsWanted_34 : decode cX2_lotsWanted 34 = .ok (.iload 5, 2) := by decide +kernel
theorem dX2_lotsWanted_36 : decode cX2_lotsWanted 36 = .ok (.ifCond .lt 27, 3) := by decide +kernel
theorem dX2_lotsWanted_39 : decode cX2_lotsWanted 39 = .ok (.iload 5, 2) := by decide +kernel
theorem dX2_lotsWanted_41 : decode cX2_lotsWanted 41 = .ok (.bipush 12, 2) := by decide +kernel
theorem dX2_lotsWanted_43 : decode cX2_lotsWanted 43 = .ok (.if_icmp .ge 20, 3) := by decide +kernel
theorem dX2_lotsWanted_46 : decode cX2_lotsWanted 46 = .ok (.lload_n 3, 1) := by decide +kernel
theorem dX2_lotsWanted_47 : decode cX2_lotsWanted 47 = .ok (.aload_n 0, 1) := by decide +kernel
theorem dX2_lotsWanted_48 : decode cX2_lotsWanted 48 = .ok (.getfield 9, 3) := by decide +kernel
theorem dX2_lotsWanted_51 : decode cX2_lotsWanted 51 = .ok (.iload 5, 2) := by decide +kernel
theorem dX2_lotsWanted_53 : decode cX2_lotsWanted 53 = .ok (.iaload, 1) := by decide +kernel
theorem dX2_lotsWanted_54 : decode cX2_lotsWanted 54 = .ok (.i2l, 1) := by decide +kernel
theorem dX2_lotsWanted_55 : decode cX2_lotsWanted 55 = .ok (.ladd, 1) := by decide +kernel
theorem dX2_lotsWanted_56 : decode cX2_lotsWanted 56 = .ok (.lstore_n 3, 1) := by decide +kernel
theorem dX2_lotsWanted_57 : decode cX2_lotsWanted 57 = .ok (.iinc 5 1, 3) := by decide +kernel
theorem dX2_lotsWanted_60 : decode cX2_lotsWanted 60 = .ok (.goto (-34), 3) := by decide +kernel
theorem dX2_lotsWanted_63 : decode cX2_lotsWanted 63 = .ok (.lload_n 3, 1) := by decide +kernel
theorem dX2_lotsWanted_64 : decode cX2_lotsWanted 64 = .ok (.aload_n 0, 1) := by decide +kernel
theorem dX2_lotsWanted_65 : decode cX2_lotsWanted 65 = .ok (.getfield 22, 3) := by decide +kernel
theorem dX2_lotsWanted_68 : decode cX2_lotsWanted 68 = .ok (.i2l, 1) := by decide +kernel
theorem dX2_lotsWanted_69 : decode cX2_lotsWanted 69 = .ok (.ladd, 1) := by decide +kernel
theorem dX2_lotsWanted_70 : decode cX2_lotsWanted 70 = .ok (.lconst 1, 1) := by decide +kernel
theorem dX2_lotsWanted_71 : decode cX2_lotsWanted 71 = .ok (.lsub, 1) := by decide +kernel
theorem dX2_lotsWanted_72 : decode cX2_lotsWanted 72 = .ok (.aload_n 0, 1) := by decide +kernel
theorem dX2_lotsWanted_73 : decode cX2_lotsWanted 73 = .ok (.getfield 22, 3) := by decide +kernel
theorem dX2_lotsWanted_76 : decode cX2_lotsWanted 76 = .ok (.i2l, 1) := by decide +kernel
theorem dX2_lotsWanted_77 : decode cX2_lotsWanted 77 = .ok (.ldiv, 1) := by decide +kernel
theorem dX2_lotsWanted_78 : decode cX2_lotsWanted 78 = .ok (.lreturn, 1) := by decide +kernel
theorem dX2_planLots_0 : decode cX2_planLots 0 = .ok (.iload_n 1, 1) := by decide +kernel
theorem dX2_planLots_1 : decode cX2_planLots 1 = .ok (.ifCond .lt 33, 3) := by decide +kernel
theorem dX2_planLots_4 : decode cX2_planLots 4 = .ok (.iload_n 1, 1) := by decide +kernel
theorem dX2_planLots_5 : decode cX2_planLots 5 = .ok (.bipush 12, 2) := by decide +kernel
theorem dX2_planLots_7 : decode cX2_planLots 7 = .ok (.if_icmp .ge 27, 3) := by decide +kernel
theorem dX2_planLots_10 : decode cX2_planLots 10 = .ok (.aload_n 0, 1) := by decide +kernel
theorem dX2_planLots_11 : decode cX2_planLots 11 = .ok (.getfield 15, 3) := by decide +kernel
theorem dX2_planLots_14 : decode cX2_planLots 14 = .ok (.iload_n 1, 1) := by decide +kernel
theorem dX2_planLots_15 : decode cX2_planLots 15 = .ok (.iload_n 2, 1) := by decide +kernel
theorem dX2_planLots_16 : decode cX2_planLots 16 = .ok (.iastore, 1) := by decide +kernel
theorem dX2_planLots_17 : decode cX2_planLots 17 = .ok (.aload_n 0, 1) := by decide +kernel
theorem dX2_planLots_18 : decode cX2_planLots 18 = .ok (.dup, 1) := by decide +kernel
theorem dX2_planLots_19 : decode cX2_planLots 19 = .ok (.getfield 71, 3) := by decide +kernel
theorem dX2_planLots_22 : decode cX2_planLots 22 = .ok (.iload_n 2, 1) := by decide +kernel
theorem dX2_planLots_23 : decode cX2_planLots 23 = .ok (.i2l, 1) := by decide +kernel
theorem dX2_planLots_24 : decode cX2_planLots 24 = .ok (.aload_n 0, 1) := by decide +kernel
theorem dX2_planLots_25 : decode cX2_planLots 25 = .ok (.getfield 22, 3) := by decide +kernel
theorem dX2_planLots_28 : decode cX2_planLots 28 = .ok (.i2l, 1) := by decide +kernel
theorem dX2_planLots_29 : decode cX2_planLots 29 = .ok (.lmul, 1) := by decide +kernel
theorem dX2_planLots_30 : decode cX2_planLots 30 = .ok (.ladd, 1) := by decide +kernel
theorem dX2_planLots_31 : decode cX2_planLots 31 = .ok (.putfield 71, 3) := by decide +kernel
theorem dX2_planLots_34 : decode cX2_planLots 34 = .ok (.return_, 1) := by decide +kernel
theorem dX2_passWeek_0 : decode cX2_passWeek 0 = .ok (.aload_n 0, 1) := by decide +kernel
theorem dX2_passWeek_1 : decode cX2_passWeek 1 = .ok (.getfield 15, 3) := by decide +kernel
theorem dX2_passWeek_4 : decode cX2_passWeek 4 = .ok (.iconst 0, 1) := by decide +kernel
theorem dX2_passWeek_5 : decode cX2_passWeek 5 = .ok (.iaload, 1) := by decide +kernel
theorem dX2_passWeek_6 : decode cX2_passWeek 6 = .ok (.aload_n 0, 1) := by decide +kernel
theorem dX2_passWeek_7 : decode cX2_passWeek 7 = .ok (.getfield 22, 3) := by decide +kernel
theorem dX2_passWeek_10 : decode cX2_passWeek 10 = .ok (.imul, 1) := by decide +kernel
theorem dX2_passWeek_11 : decode cX2_passWeek 11 = .ok (.istore_n 1, 1) := by decide +kernel
theorem dX2_passWeek_12 : decode cX2_passWeek 12 = .ok (.aload_n 0, 1) := by decide +kernel
theorem dX2_passWeek_13 : decode cX2_passWeek 13 = .ok (.dup, 1) := by decide +kernel
theorem dX2_passWeek_14 : decode cX2_passWeek 14 = .ok (.getfield 46, 3) := by decide +kernel
theorem dX2_passWeek_17 : decode cX2_passWeek 17 = .ok (.iload_n 1, 1) := by decide +kernel
theorem dX2_passWeek_18 : decode cX2_passWeek 18 = .ok (.iadd, 1) := by decide +kernel
theorem dX2_passWeek_19 : decode cX2_passWeek 19 = .ok (.putfield 46, 3) := by decide +kernel
theorem dX2_passWeek_22 : decode cX2_passWeek 22 = .ok (.aload_n 0, 1) := by decide +kernel
theorem dX2_passWeek_23 : decode cX2_passWeek 23 = .ok (.dup, 1) := by decide +kernel
theorem dX2_passWeek_24 : decode cX2_passWeek 24 = .ok (.getfield 34, 3) := by decide +kernel
theorem dX2_passWeek_27 : decode cX2_passWeek 27 = .ok (.iload_n 1, 1) := by decide +kernel
theorem dX2_passWeek_28 : decode cX2_passWeek 28 = .ok (.iadd, 1) := by decide +kernel
theorem dX2_passWeek_29 : decode cX2_passWeek 29 = .ok (.putfield 34, 3) := by decide +kernel
theorem dX2_passWeek_32 : decode cX2_passWeek 32 = .ok (.aload_n 0, 1) := by decide +kernel
theorem dX2_passWeek_33 : decode cX2_passWeek 33 = .ok (.getfield 43, 3) := by decide +kernel
theorem dX2_passWeek_36 : decode cX2_passWeek 36 = .ok (.bipush (-6), 2) := by decide +kernel
theorem dX2_passWeek_38 : decode cX2_passWeek 38 = .ok (.if_icmp .ne 12, 3) := by decide +kernel
theorem dX2_passWeek_41 : decode cX2_passWeek 41 = .ok (.aload_n 0, 1) := by decide +kernel
theorem dX2_passWeek_42 : decode cX2_passWeek 42 = .ok (.getfield 9, 3) := by decide +kernel
theorem dX2_passWeek_45 : decode cX2_passWeek 45 = .ok (.iconst 0, 1) := by decide +kernel
theorem dX2_passWeek_46 : decode cX2_passWeek 46 = .ok (.iaload, 1) := by decide +kernel
theorem dX2_passWeek_47 : decode cX2_passWeek 47 = .ok (.goto 7, 3) := by decide +kernel
theorem dX2_passWeek_50 : decode cX2_passWeek 50 = .ok (.aload_n 0, 1) := by decide +kernel
theorem dX2_passWeek_51 : decode cX2_passWeek 51 = .ok (.getfield 43, 3) := by decide +kernel
theorem dX2_passWeek_54 : decode cX2_passWeek 54 = .ok (.istore_n 2, 1) := by decide +kernel
theorem dX2_passWeek_55 : decode cX2_passWeek 55 = .ok (.aload_n 0, 1) := by decide +kernel
theorem dX2_passWeek_56 : decode cX2_passWeek 56 = .ok (.dup, 1) := by decide +kernel
theorem dX2_passWeek_57 : decode cX2_passWeek 57 = .ok (.getfield 52, 3) := by decide +kernel
theorem dX2_passWeek_60 : decode cX2_passWeek 60 = .ok (.iload_n 2, 1) := by decide +kernel
theorem dX2_passWeek_61 : decode cX2_passWeek 61 = .ok (.iadd, 1) := by decide +kernel
theorem dX2_passWeek_62 : decode cX2_passWeek 62 = .ok (.putfield 52, 3) := by decide +kernel
theorem dX2_passWeek_65 : decode cX2_passWeek 65 = .ok (.iload_n 2, 1) := by decide +kernel
theorem dX2_passWeek_66 : decode cX2_passWeek 66 = .ok (.aload_n 0, 1) := by decide +kernel
theorem dX2_passWeek_67 : decode cX2_passWeek 67 = .ok (.getfield 37, 3) := by decide +kernel
theorem dX2_passWeek_70 : decode cX2_passWeek 70 = .ok (.iadd, 1) := by decide +kernel
theorem dX2_passWeek_71 : decode cX2_passWeek 71 = .ok (.istore_n 3, 1) := by decide +kernel
theorem dX2_passWeek_72 : decode cX2_passWeek 72 = .ok (.iload_n 3, 1) := by decide +kernel
theorem dX2_passWeek_73 : decode cX2_passWeek 73 = .ok (.aload_n 0, 1) := by decide +kernel
theorem dX2_passWeek_74 : decode cX2_passWeek 74 = .ok (.getfield 34, 3) := by decide +kernel
theorem dX2_passWeek_77 : decode cX2_passWeek 77 = .ok (.invokestatic 92, 3) := by decide +kernel
theorem dX2_passWeek_80 : decode cX2_passWeek 80 = .ok (.istore 4, 2) := by decide +kernel
theorem dX2_passWeek_82 : decode cX2_passWeek 82 = .ok (.aload_n 0, 1) := by decide +kernel
theorem dX2_passWeek_83 : decode cX2_passWeek 83 = .ok (.dup, 1) := by decide +kernel
theorem dX2_passWeek_84 : decode cX2_passWeek 84 = .ok (.getfield 49, 3) := by decide +kernel
theorem dX2_passWeek_87 : decode cX2_passWeek 87 = .ok (.iload 4, 2) := by decide +kernel
theorem dX2_passWeek_89 : decode cX2_passWeek 89 = .ok (.iadd, 1) := by decide +kernel
theorem dX2_passWeek_90 : decode cX2_passWeek 90 = .ok (.putfield 49, 3) := by decide +kernel
theorem dX2_passWeek_93 : decode cX2_passWeek 93 = .ok (.aload_n 0, 1) := by decide +kernel
theorem dX2_passWeek_94 : decode cX2_passWeek 94 = .ok (.dup, 1) := by decide +kernel
theorem dX2_passWeek_95 : decode cX2_passWeek 95 = .ok (.getfield 34, 3) := by decide +kernel
theorem dX2_passWeek_98 : decode cX2_passWeek 98 = .ok (.iload 4, 2) := by decide +kernel
theorem dX2_passWeek_100 : decode cX2_passWeek 100 = .ok (.isub, 1) := by decide +kernel
theorem dX2_passWeek_101 : decode cX2_passWeek 101 = .ok (.putfield 34, 3) := by decide +kernel
theorem dX2_passWeek_104 : decode cX2_passWeek 104 = .ok (.aload_n 0, 1) := by decide +kernel
theorem dX2_passWeek_105 : decode cX2_passWeek 105 = .ok (.iload_n 3, 1) := by decide +kernel
theorem dX2_passWeek_106 : decode cX2_passWeek 106 = .ok (.iload 4, 2) := by decide +kernel
theorem dX2_passWeek_108 : decode cX2_passWeek 108 = .ok (.isub, 1) := by decide +kernel
theorem dX2_passWeek_109 : decode cX2_passWeek 109 = .ok (.putfield 37, 3) := by decide +kernel
theorem dX2_passWeek_112 : decode cX2_passWeek 112 = .ok (.aload_n 0, 1) := by decide +kernel
theorem dX2_passWeek_113 : decode cX2_passWeek 113 = .ok (.bipush 7, 2) := by decide +kernel
theorem dX2_passWeek_115 : decode cX2_passWeek 115 = .ok (.aload_n 0, 1) := by decide +kernel
theorem dX2_passWeek_116 : decode cX2_passWeek 116 = .ok (.getfield 40, 3) := by decide +kernel
theorem dX2_passWeek_119 : decode cX2_passWeek 119 = .ok (.imul, 1) := by decide +kernel
theorem dX2_passWeek_120 : decode cX2_passWeek 120 = .ok (.iload_n 2, 1) := by decide +kernel
theorem dX2_passWeek_121 : decode cX2_passWeek 121 = .ok (.aload_n 0, 1) := by decide +kernel
theorem dX2_passWeek_122 : decode cX2_passWeek 122 = .ok (.getfield 9, 3) := by decide +kernel
theorem dX2_passWeek_125 : decode cX2_passWeek 125 = .ok (.iconst 0, 1) := by decide +kernel
theorem dX2_passWeek_126 : decode cX2_passWeek 126 = .ok (.iaload, 1) := by decide +kernel
theorem dX2_passWeek_127 : decode cX2_passWeek 127 = .ok (.isub, 1) := by decide +kernel
theorem dX2_passWeek_128 : decode cX2_passWeek 128 = .ok (.invokestatic 95, 3) := by decide +kernel
theorem dX2_passWeek_131 : decode cX2_passWeek 131 = .ok (.iadd, 1) := by decide +kernel
theorem dX2_passWeek_132 : decode cX2_passWeek 132 = .ok (.bipush 7, 2) := by decide +kernel
theorem dX2_passWeek_134 : decode cX2_passWeek 134 = .ok (.iadd, 1) := by decide +kernel
theorem dX2_passWeek_135 : decode cX2_passWeek 135 = .ok (.bipush 8, 2) := by decide +kernel
theorem dX2_passWeek_137 : decode cX2_passWeek 137 = .ok (.idiv, 1) := by decide +kernel
theorem dX2_passWeek_138 : decode cX2_passWeek 138 = .ok (.putfield 40, 3) := by decide +kernel
theorem dX2_passWeek_141 : decode cX2_passWeek 141 = .ok (.aload_n 0, 1) := by decide +kernel
theorem dX2_passWeek_142 : decode cX2_passWeek 142 = .ok (.getfield 9, 3) := by decide +kernel
theorem dX2_passWeek_145 : decode cX2_passWeek 145 = .ok (.iconst 1, 1) := by decide +kernel
theorem dX2_passWeek_146 : decode cX2_passWeek 146 = .ok (.aload_n 0, 1) := by decide +kernel
theorem dX2_passWeek_147 : decode cX2_passWeek 147 = .ok (.getfield 9, 3) := by decide +kernel
theorem dX2_passWeek_150 : decode cX2_passWeek 150 = .ok (.iconst 0, 1) := by decide +kernel
theorem dX2_passWeek_151 : decode cX2_passWeek 151 = .ok (.bipush 11, 2) := by decide +kernel
theorem dX2_passWeek_153 : decode cX2_passWeek 153 = .ok (.invokestatic 61, 3) := by decide +kernel
theorem dX2_passWeek_156 : decode cX2_passWeek 156 = .ok (.aload_n 0, 1) := by decide +kernel
theorem dX2_passWeek_157 : decode cX2_passWeek 157 = .ok (.getfield 15, 3) := by decide +kernel
theorem dX2_passWeek_160 : decode cX2_passWeek 160 = .ok (.iconst 1, 1) := by decide +kernel
theorem dX2_passWeek_161 : decode cX2_passWeek 161 = .ok (.aload_n 0, 1) := by decide +kernel
theorem dX2_passWeek_162 : decode cX2_passWeek 162 = .ok (.getfield 15, 3) := by decide +kernel
theorem dX2_passWeek_165 : decode cX2_passWeek 165 = .ok (.iconst 0, 1) := by decide +kernel
theorem dX2_passWeek_166 : decode cX2_passWeek 166 = .ok (.bipush 11, 2) := by decide +kernel
theorem dX2_passWeek_168 : decode cX2_passWeek 168 = .ok (.invokestatic 61, 3) := by decide +kernel
theorem dX2_passWeek_171 : decode cX2_passWeek 171 = .ok (.aload_n 0, 1) := by decide +kernel
theorem dX2_passWeek_172 : decode cX2_passWeek 172 = .ok (.getfield 15, 3) := by decide +kernel
theorem dX2_passWeek_175 : decode cX2_passWeek 175 = .ok (.bipush 11, 2) := by decide +kernel
theorem dX2_passWeek_177 : decode cX2_passWeek 177 = .ok (.iconst 0, 1) := by decide +kernel
theorem dX2_passWeek_178 : decode cX2_passWeek 178 = .ok (.iastore, 1) := by decide +kernel
theorem dX2_passWeek_179 : decode cX2_passWeek 179 = .ok (.aload_n 0, 1) := by decide +kernel
theorem dX2_passWeek_180 : decode cX2_passWeek 180 = .ok (.bipush (-6), 2) := by decide +kernel
theorem dX2_passWeek_182 : decode cX2_passWeek 182 = .ok (.putfield 43, 3) := by decide +kernel
theorem dX2_passWeek_185 : decode cX2_passWeek 185 = .ok (.return_, 1) := by decide +kernel
theorem dX3_init_0 : decode cX3_init 0 = .ok (.aload_n 0, 1) := by decide +kernel
theorem dX3_init_1 : decode cX3_init 1 = .ok (.invokespecial 3, 3) := by decide +kernel
theorem dX3_init_4 : decode cX3_init 4 = .ok (.aload_n 0, 1) := by decide +kernel
theorem dX3_init_5 : decode cX3_init 5 = .ok (.getstatic 9, 3) := by decide +kernel
theorem dX3_init_8 : decode cX3_init 8 = .ok (.invokevirtual 13, 3) := by decide +kernel
theorem dX3_init_11 : decode cX3_init 11 = .ok (.checkcast 14, 3) := by decide +kernel
theorem dX3_init_14 : decode cX3_init 14 = .ok (.putfield 18, 3) := by decide +kernel
theorem dX3_init_17 : decode cX3_init 17 = .ok (.aload_n 0, 1) := by decide +kernel
theorem dX3_init_18 : decode cX3_init 18 = .ok (.iconst 4, 1) := by decide +kernel
theorem dX3_init_19 : decode cX3_init 19 = .ok (.newarray .int, 2) := by decide +kernel
theorem dX3_init_21 : decode cX3_init 21 = .ok (.putfield 23, 3) := by decide +kernel
theorem dX3_init_24 : decode cX3_init 24 = .ok (.aload_n 0, 1) := by decide +kernel
theorem dX3_init_25 : decode cX3_init 25 = .ok (.bipush 10, 2) := by decide +kernel
theorem dX3_init_27 : decode cX3_init 27 = .ok (.anewarray 26, 3) := by decide +kernel
theorem dX3_init_30 : decode cX3_init 30 = .ok (.putfield 28, 3) := by decide +kernel
theorem dX3_init_33 : decode cX3_init 33 = .ok (.aload_n 0, 1) := by decide +kernel
theorem dX3_init_34 : decode cX3_init 34 = .ok (.getfield 23, 3) := by decide +kernel
theorem dX3_init_37 : decode cX3_init 37 = .ok (.iconst 5, 1) := by decide +kernel
theorem dX3_init_38 : decode cX3_init 38 = .ok (.invokestatic 32, 3) := by decide +kernel
theorem dX3_init_41 : decode cX3_init 41 = .ok (.iconst 0, 1) := by decide +kernel
theorem dX3_init_42 : decode cX3_init 42 = .ok (.istore_n 1, 1) := by decide +kernel
theorem dX3_init_43 : decode cX3_init 43 = .ok (.iload_n 1, 1) := by decide +kernel
theorem dX3_init_44 : decode cX3_init 44 = .ok (.bipush 10, 2) := by decide +kernel
theorem dX3_init_46 : decode cX3_init 46 = .ok (.if_icmp .ge 22, 3) := by decide +kernel
theorem dX3_init_49 : decode cX3_init 49 = .ok (.aload_n 0, 1) := by decide +kernel
theorem dX3_init_50 : decode cX3_init 50 = .ok (.getfield 28, 3) := by decide +kernel
theorem dX3_init_53 : decode cX3_init 53 = .ok (.iload_n 1, 1) := by decide +kernel
theorem dX3_init_54 : decode cX3_init 54 = .ok (.new 26, 3) := by decide +kernel
theorem dX3_init_57 : decode cX3_init 57 = .ok (.dup, 1) := by decide +kernel
theorem dX3_init_58 : decode cX3_init 58 = .ok (.invokespecial 38, 3) := by decide +kernel
theorem dX3_init_61 : decode cX3_init 61 = .ok (.aastore, 1) := by decide +kernel
theorem dX3_init_62 : decode cX3_init 62 = .ok (.iinc 1 1, 3) := by decide +kernel
theorem dX3_init_65 : decode cX3_init 65 = .ok (.goto (-22), 3) := by decide +kernel
theorem dX3_init_68 : decode cX3_init 68 = .ok (.return_, 1) := by decide +kernel
theorem dX3_copyFrom_0 : decode cX3_copyFrom 0 = .ok (.aload_n 1, 1) := by decide +kernel
theorem dX3_copyFrom_1 : decode cX3_copyFrom 1 = .ok (.ifnonnull 4, 3) := by decide +kernel
theorem dX3_copyFrom_4 : decode cX3_copyFrom 4 = .ok (.return_, 1) := by decide +kernel
theorem dX3_copyFrom_5 : decode cX3_copyFrom 5 = .ok (.aload_n 1, 1) := by decide +kernel
theorem dX3_copyFrom_6 : decode cX3_copyFrom 6 = .ok (.getfield 18, 3) := by decide +kernel
theorem dX3_copyFrom_9 : decode cX3_copyFrom 9 = .ok (.iconst 0, 1) := by decide +kernel
theorem dX3_copyFrom_10 : decode cX3_copyFrom 10 = .ok (.aload_n 0, 1) := by decide +kernel
theorem dX3_copyFrom_11 : decode cX3_copyFrom 11 = .ok (.getfield 18, 3) := by decide +kernel
theorem dX3_copyFrom_14 : decode cX3_copyFrom 14 = .ok (.iconst 0, 1) := by decide +kernel
theorem dX3_copyFrom_15 : decode cX3_copyFrom 15 = .ok (.bipush 9, 2) := by decide +kernel
theorem dX3_copyFrom_17 : decode cX3_copyFrom 17 = .ok (.invokestatic 39, 3) := by decide +kernel
theorem dX3_copyFrom_20 : decode cX3_copyFrom 20 = .ok (.aload_n 1, 1) := by decide +kernel
theorem dX3_copyFrom_21 : decode cX3_copyFrom 21 = .ok (.getfield 23, 3) := by decide +kernel
theorem dX3_copyFrom_24 : decode cX3_copyFrom 24 = .ok (.iconst 0, 1) := by decide +kernel
theorem dX3_copyFrom_25 : decode cX3_copyFrom 25 = .ok (.aload_n 0, 1) := by decide +kernel
theorem dX3_copyFrom_26 : decode cX3_copyFrom 26 = .ok (.getfield 23, 3) := by decide +kernel
theorem dX3_copyFrom_29 : decode cX3_copyFrom 29 = .ok (.iconst 0, 1) := by decide +kernel
theorem dX3_copyFrom_30 : decode cX3_copyFrom 30 = .ok (.iconst 4, 1) := by decide +kernel
theorem dX3_copyFrom_31 : decode cX3_copyFrom 31 = .ok (.invokestatic 39, 3) := by decide +kernel
theorem dX3_copyFrom_34 : decode cX3_copyFrom 34 = .ok (.aload_n 0, 1) := by decide +kernel
theorem dX3_copyFrom_35 : decode cX3_copyFrom 35 = .ok (.aload_n 1, 1) := by decide +kernel
theorem dX3_copyFrom_36 : decode cX3_copyFrom 36 = .ok (.getfield 45, 3) := by decide +kernel
theorem dX3_copyFrom_39 : decode cX3_copyFrom 39 = .ok (.putfield 45, 3) := by decide +kernel
theorem dX3_copyFrom_42 : decode cX3_copyFrom 42 = .ok (.iconst 0, 1) := by decide +kernel
theorem dX3_copyFrom_43 : decode cX3_copyFrom 43 = .ok (.istore_n 2, 1) := by decide +kernel
theorem dX3_copyFrom_44 : decode cX3_copyFrom 44 = .ok (.iload_n 2, 1) := by decide +kernel
theorem dX3_copyFrom_45 : decode cX3_copyFrom 45 = .ok (.aload_n 0, 1) := by decide +kernel
theorem dX3_copyFrom_46 : decode cX3_copyFrom 46 = .ok (.getfield 45, 3) := by decide +kernel
theorem dX3_copyFrom_49 : decode cX3_copyFrom 49 = .ok (.if_icmp .ge 37, 3) := by decide +kernel
theorem dX3_copyFrom_52 : decode cX3_copyFrom 52 = .ok (.aload_n 0, 1) := by decide +kernel
theorem dX3_copyFrom_53 : decode cX3_copyFrom 53 = .ok (.iload_n 2, 1) := by decide +kernel
theorem dX3_copyFrom_54 : decode cX3_copyFrom 54 = .ok (.invokevirtual 49, 3) := by decide +kernel
theorem dX3_copyFrom_57 : decode cX3_copyFrom 57 = .ok (.astore_n 3, 1) := by decide +kernel
theorem dX3_copyFrom_58 : decode cX3_copyFrom 58 = .ok (.aload_n 1, 1) := by decide +kernel
theorem dX3_copyFrom_59 : decode cX3_copyFrom 59 = .ok (.iload_n 2, 1) := by decide +kernel
theorem dX3_copyFrom_60 : decode cX3_copyFrom 60 = .ok (.invokevirtual 49, 3) := by decide +kernel
theorem dX3_copyFrom_63 : decode cX3_copyFrom 63 = .ok (.astore 4, 2) := by decide +kernel
theorem dX3_copyFrom_65 : decode cX3_copyFrom 65 = .ok (.aload_n 3, 1) := by decide +kernel
theorem dX3_copyFrom_66 : decode cX3_copyFrom 66 = .ok (.ifnull 14, 3) := by decide +kernel
theorem dX3_copyFrom_69 : decode cX3_copyFrom 69 = .ok (.aload 4, 2) := by decide +kernel
theorem dX3_copyFrom_71 : decode cX3_copyFrom 71 = .ok (.ifnull 9, 3) := by decide +kernel
theorem dX3_copyFrom_74 : decode cX3_copyFrom 74 = .ok (.aload_n 3, 1) := by decide +kernel
theorem dX3_copyFrom_75 : decode cX3_copyFrom 75 = .ok (.aload 4, 2) := by decide +kernel
theorem dX3_copyFrom_77 : decode cX3_copyFrom 77 = .ok (.invokevirtual 53, 3) := by decide +kernel
theorem dX3_copyFrom_80 : decode cX3_copyFrom 80 = .ok (.iinc 2 1, 3) := by decide +kernel
theorem dX3_copyFrom_83 : decode cX3_copyFrom 83 = .ok (.goto (-39), 3) := by decide +kernel
theorem dX3_copyFrom_86 : decode cX3_copyFrom 86 = .ok (.aload_n 0, 1) := by decide +kernel
theorem dX3_copyFrom_87 : decode cX3_copyFrom 87 = .ok (.aload_n 1, 1) := by decide +kernel
theorem dX3_copyFrom_88 : decode cX3_copyFrom 88 = .ok (.getfield 57, 3) := by decide +kernel
theorem dX3_copyFrom_91 : decode cX3_copyFrom 91 = .ok (.putfield 57, 3) := by decide +kernel
theorem dX3_copyFrom_94 : decode cX3_copyFrom 94 = .ok (.aload_n 0, 1) := by decide +kernel
theorem dX3_copyFrom_95 : decode cX3_copyFrom 95 = .ok (.aload_n 1, 1) := by decide +kernel
theorem dX3_copyFrom_96 : decode cX3_copyFrom 96 = .ok (.getfield 60, 3) := by decide +kernel
theorem dX3_copyFrom_99 : decode cX3_copyFrom 99 = .ok (.putfield 60, 3) := by decide +kernel
theorem dX3_copyFrom_102 : decode cX3_copyFrom 102 = .ok (.aload_n 0, 1) := by decide +kernel
theorem dX3_copyFrom_103 : decode cX3_copyFrom 103 = .ok (.aload_n 1, 1) := by decide +kernel
theorem dX3_copyFrom_104 : decode cX3_copyFrom 104 = .ok (.getfield 64, 3) := by decide +kernel
theorem dX3_copyFrom_107 : decode cX3_copyFrom 107 = .ok (.putfield 64, 3) := by decide +kernel
theorem dX3_copyFrom_110 : decode cX3_copyFrom 110 = .ok (.aload_n 0, 1) := by decide +kernel
theorem dX3_copyFrom_111 : decode cX3_copyFrom 111 = .ok (.aload_n 1, 1) := by decide +kernel
theorem dX3_copyFrom_112 : decode cX3_copyFrom 112 = .ok (.getfield 67, 3) := by decide +kernel
theorem dX3_copyFrom_115 : decode cX3_copyFrom 115 = .ok (.putfield 67, 3) := by decide +kernel
theorem dX3_copyFrom_118 : decode cX3_copyFrom 118 = .ok (.return_, 1) := by decide +kernel
theorem dX3_productAt_0 : decode cX3_productAt 0 = .ok (.iload_n 1, 1) := by decide +kernel
theorem dX3_productAt_1 : decode cX3_productAt 1 = .ok (.ifCond .lt 26, 3) := by decide +kernel
theorem dX3_productAt_4 : decode cX3_productAt 4 = .ok (.iload_n 1, 1) := by decide +kernel
theorem dX3_productAt_5 : decode cX3_productAt 5 = .ok (.aload_n 0, 1) := by decide +kernel
theorem dX3_productAt_6 : decode cX3_productAt 6 = .ok (.getfield 45, 3) := by decide +kernel
theorem dX3_productAt_9 : decode cX3_productAt 9 = .ok (.if_icmp .ge 18, 3) := by decide +kernel
theorem dX3_productAt_12 : decode cX3_productAt 12 = .ok (.iload_n 1, 1) := by decide +kernel
theorem dX3_productAt_13 : decode cX3_productAt 13 = .ok (.bipush 10, 2) := by decide +kernel
theorem dX3_productAt_15 : decode cX3_productAt 15 = .ok (.if_icmp .ge 12, 3) := by decide +kernel
theorem dX3_productAt_18 : decode cX3_productAt 18 = .ok (.aload_n 0, 1) := by decide +kernel
theorem dX3_productAt_19 : decode cX3_productAt 19 = .ok (.getfield 28, 3) := by decide +kernel
theorem dX3_productAt_22 : decode cX3_productAt 22 = .ok (.iload_n 1, 1) := by decide +kernel
theorem dX3_productAt_23 : decode cX3_productAt 23 = .ok (.aaload, 1) := by decide +kernel
theorem dX3_productAt_24 : decode cX3_productAt 24 = .ok (.goto 4, 3) := by decide +kernel
theorem dX3_productAt_27 : decode cX3_productAt 27 = .ok (.aconst_null, 1) := by decide +kernel
theorem dX3_productAt_28 : decode cX3_productAt 28 = .ok (.areturn, 1) := by decide +kernel
theorem dX3_spareProduct_0 : decode cX3_spareProduct 0 = .ok (.aload_n 0, 1) := by decide +kernel
theorem dX3_spareProduct_1 : decode cX3_spareProduct 1 = .ok (.getfield 45, 3) := by decide +kernel
theorem dX3_spareProduct_4 : decode cX3_spareProduct 4 = .ok (.ifCond .lt 24, 3) := by decide +kernel
theorem dX3_spareProduct_7 : decode cX3_spareProduct 7 = .ok (.aload_n 0, 1) := by decide +kernel
theorem dX3_spareProduct_8 : decode cX3_spareProduct 8 = .ok (.getfield 45, 3) := by decide +kernel
theorem dX3_spareProduct_11 : decode cX3_spareProduct 11 = .ok (.bipush 10, 2) := by decide +kernel
theorem dX3_spareProduct_13 : decode cX3_spareProduct 13 = .ok (.if_icmp .ge 15, 3) := by decide +kernel
theorem dX3_spareProduct_16 : decode cX3_spareProduct 16 = .ok (.aload_n 0, 1) := by decide +kernel
theorem dX3_spareProduct_17 : decode cX3_spareProduct 17 = .ok (.getfield 28, 3) := by decide +kernel
theorem dX3_spareProduct_20 : decode cX3_spareProduct 20 = .ok (.aload_n 0, 1) := by decide +kernel
theorem dX3_spareProduct_21 : decode cX3_spareProduct 21 = .ok (.getfield 45, 3) := by decide +kernel
theorem dX3_spareProduct_24 : decode cX3_spareProduct 24 = .ok (.aaload, 1) := by decide +kernel
theorem dX3_spareProduct_25 : decode cX3_spareProduct 25 = .ok (.goto 4, 3) := by decide +kernel
theorem dX3_spareProduct_28 : decode cX3_spareProduct 28 = .ok (.aconst_null, 1) := by decide +kernel
theorem dX3_spareProduct_29 : decode cX3_spareProduct 29 = .ok (.areturn, 1) := by decide +kernel
theorem dX3_setting_0 : decode cX3_setting 0 = .ok (.iload_n 1, 1) := by decide +kernel
theorem dX3_setting_1 : decode cX3_setting 1 = .ok (.ifCond .lt 18, 3) := by decide +kernel
theorem dX3_setting_4 : decode cX3_setting 4 = .ok (.iload_n 1, 1) := by decide +kernel
theorem dX3_setting_5 : decode cX3_setting 5 = .ok (.bipush 9, 2) := by decide +kernel
theorem dX3_setting_7 : decode cX3_setting 7 = .ok (.if_icmp .ge 12, 3) := by decide +kernel
theorem dX3_setting_10 : decode cX3_setting 10 = .ok (.aload_n 0, 1) := by decide +kernel
theorem dX3_setting_11 : decode cX3_setting 11 = .ok (.getfield 18, 3) := by decide +kernel
theorem dX3_setting_14 : decode cX3_setting 14 = .ok (.iload_n 1, 1) := by decide +kernel
theorem dX3_setting_15 : decode cX3_setting 15 = .ok (.iaload, 1) := by decide +kernel
theorem dX3_setting_16 : decode cX3_setting 16 = .ok (.goto 4, 3) := by decide +kernel
theorem dX3_setting_19 : decode cX3_setting 19 = .ok (.iconst 0, 1) := by decide +kernel
theorem dX3_setting_20 : decode cX3_setting 20 = .ok (.ireturn, 1) := by decide +kernel
theorem dX3_changeSetting_0 : decode cX3_changeSetting 0 = .ok (.iload_n 1, 1) := by decide +kernel
theorem dX3_changeSetting_1 : decode cX3_changeSetting 1 = .ok (.ifCond .lt 16, 3) := by decide +kernel
theorem dX3_changeSetting_4 : decode cX3_changeSetting 4 = .ok (.iload_n 1, 1) := by decide +kernel
theorem dX3_changeSetting_5 : decode cX3_changeSetting 5 = .ok (.bipush 9, 2) := by decide +kernel
theorem dX3_changeSetting_7 : decode cX3_changeSetting 7 = .ok (.if_icmp .ge 10, 3) := by decide +kernel
theorem dX3_changeSetting_10 : decode cX3_changeSetting 10 = .ok (.aload_n 0, 1) := by decide +kernel
theorem dX3_changeSetting_11 : decode cX3_changeSetting 11 = .ok (.getfield 18, 3) := by decide +kernel
theorem dX3_changeSetting_14 : decode cX3_changeSetting 14 = .ok (.iload_n 1, 1) := by decide +kernel
theorem dX3_changeSetting_15 : decode cX3_changeSetting 15 = .ok (.iload_n 2, 1) := by decide +kernel
theorem dX3_changeSetting_16 : decode cX3_changeSetting 16 = .ok (.iastore, 1) := by decide +kernel
theorem dX3_changeSetting_17 : decode cX3_changeSetting 17 = .ok (.return_, 1) := by decide +kernel
theorem dX3_capacity_0 : decode cX3_capacity 0 = .ok (.aload_n 0, 1) := by decide +kernel
theorem dX3_capacity_1 : decode cX3_capacity 1 = .ok (.iconst 0, 1) := by decide +kernel
theorem dX3_capacity_2 : decode cX3_capacity 2 = .ok (.invokevirtual 70, 3) := by decide +kernel
theorem dX3_capacity_5 : decode cX3_capacity 5 = .ok (.aload_n 0, 1) := by decide +kernel
theorem dX3_capacity_6 : decode cX3_capacity 6 = .ok (.iconst 1, 1) := by decide +kernel
theorem dX3_capacity_7 : decode cX3_capacity 7 = .ok (.invokevirtual 70, 3) := by decide +kernel
theorem dX3_capacity_10 : decode cX3_capacity 10 = .ok (.iadd, 1) := by decide +kernel
theorem dX3_capacity_11 : decode cX3_capacity 11 = .ok (.ireturn, 1) := by decide +kernel
theorem dX3_isFrozen_0 : decode cX3_isFrozen 0 = .ok (.iload_n 1, 1) := by decide +kernel
theorem dX3_isFrozen_1 : decode cX3_isFrozen 1 = .ok (.aload_n 0, 1) := by decide +kernel
theorem dX3_isFrozen_2 : decode cX3_isFrozen 2 = .ok (.iconst 2, 1) := by decide +kernel
theorem dX3_isFrozen_3 : decode cX3_isFrozen 3 = .ok (.invokevirtual 70, 3) := by decide +kernel
theorem dX3_isFrozen_6 : decode cX3_isFrozen 6 = .ok (.if_icmp .ge 7, 3) := by decide +kernel
theorem dX3_isFrozen_9 : decode cX3_isFrozen 9 = .ok (.iconst 1, 1) := by decide +kernel
theorem dX3_isFrozen_10 : decode cX3_isFrozen 10 = .ok (.goto 4, 3) := by decide +kernel
theorem dX3_isFrozen_13 : decode cX3_isFrozen 13 = .ok (.iconst 0, 1) := by decide +kernel
theorem dX3_isFrozen_14 : decode cX3_isFrozen 14 = .ok (.ireturn, 1) := by decide +kernel
theorem dX3_hoursIn_0 : decode cX3_hoursIn 0 = .ok (.aload_n 0, 1) := by decide +kernel
theorem dX3_hoursIn_1 : decode cX3_hoursIn 1 = .ok (.iload_n 1, 1) := by decide +kernel
theorem dX3_hoursIn_2 : decode cX3_hoursIn 2 = .ok (.aconst_null, 1) := by decide +kernel
theorem dX3_hoursIn_3 : decode cX3_hoursIn 3 = .ok (.iconst 0, 1) := by decide +kernel
theorem dX3_hoursIn_4 : decode cX3_hoursIn 4 = .ok (.invokevirtual 74, 3) := by decide +kernel
theorem dX3_hoursIn_7 : decode cX3_hoursIn 7 = .ok (.ireturn, 1) := by decide +kernel
theorem dX3_hoursWith_0 : decode cX3_hoursWith 0 = .ok (.iconst 0, 1) := by decide +kernel
theorem dX3_hoursWith_1 : decode cX3_hoursWith 1 = .ok (.istore 4, 2) := by decide +kernel
theorem dX3_hoursWith_3 : decode cX3_hoursWith 3 = .ok (.iconst 0, 1) := by decide +kernel
theorem dX3_hoursWith_4 : decode cX3_hoursWith 4 = .ok (.istore 5, 2) := by decide +kernel
theorem dX3_hoursWith_6 : decode cX3_hoursWith 6 = .ok (.iconst 0, 1) := by decide +kernel
theorem dX3_hoursWith_7 : decode cX3_hoursWith 7 = .ok (.istore 6, 2) := by decide +kernel
theorem dX3_hoursWith_9 : decode cX3_hoursWith 9 = .ok (.iload 6, 2) := by decide +kernel
theorem dX3_hoursWith_11 : decode cX3_hoursWith 11 = .ok (.aload_n 0, 1) := by decide +kernel
theorem dX3_hoursWith_12 : decode cX3_hoursWith 12 = .ok (.getfield 45, 3) := by decide +kernel
theorem dX3_hoursWith_15 : decode cX3_hoursWith 15 = .ok (.if_icmp .ge 76, 3) := by decide +kernel
theorem dX3_hoursWith_18 : decode cX3_hoursWith 18 = .ok (.aload_n 0, 1) := by decide +kernel
theorem dX3_hoursWith_19 : decode cX3_hoursWith 19 = .ok (.iload 6, 2) := by decide +kernel
theorem dX3_hoursWith_21 : decode cX3_hoursWith 21 = .ok (.invokevirtual 49, 3) := by decide +kernel
theorem dX3_hoursWith_24 : decode cX3_hoursWith 24 = .ok (.astore 7, 2) := by decide +kernel
theorem dX3_hoursWith_26 : decode cX3_hoursWith 26 = .ok (.aload 7, 2) := by decide +kernel
theorem dX3_hoursWith_28 : decode cX3_hoursWith 28 = .ok (.ifnull 57, 3) := by decide +kernel
theorem dX3_hoursWith_31 : decode cX3_hoursWith 31 = .ok (.aload 7, 2) := by decide +kernel
theorem dX3_hoursWith_33 : decode cX3_hoursWith 33 = .ok (.aload_n 2, 1) := by decide +kernel
theorem dX3_hoursWith_34 : decode cX3_hoursWith 34 = .ok (.if_acmp .ne 7, 3) := by decide +kernel
theorem dX3_hoursWith_37 : decode cX3_hoursWith 37 = .ok (.iload_n 3, 1) := by decide +kernel
theorem dX3_hoursWith_38 : decode cX3_hoursWith 38 = .ok (.goto 9, 3) := by decide +kernel
theorem dX3_hoursWith_41 : decode cX3_hoursWith 41 = .ok (.aload 7, 2) := by decide +kernel
theorem dX3_hoursWith_43 : decode cX3_hoursWith 43 = .ok (.iload_n 1, 1) := by decide +kernel
theorem dX3_hoursWith_44 : decode cX3_hoursWith 44 = .ok (.invokevirtual 78, 3) := by decide +kernel
theorem dX3_hoursWith_47 : decode cX3_hoursWith 47 = .ok (.istore 8, 2) := by decide +kernel
theorem dX3_hoursWith_49 : decode cX3_hoursWith 49 = .ok (.iload 8, 2) := by decide +kernel
theorem dX3_hoursWith_51 : decode cX3_hoursWith 51 = .ok (.ifCond .le 34, 3) := by decide +kernel
theorem dX3_hoursWith_54 : decode cX3_hoursWith 54 = .ok (.iload 4, 2) := by decide +kernel
theorem dX3_hoursWith_56 : decode cX3_hoursWith 56 = .ok (.aload 7, 2) := by decide +kernel
theorem dX3_hoursWith_58 : decode cX3_hoursWith 58 = .ok (.getfield 81, 3) := by decide +kernel
theorem dX3_hoursWith_61 : decode cX3_hoursWith 61 = .ok (.iload 8, 2) := by decide +kernel
theorem dX3_hoursWith_63 : decode cX3_hoursWith 63 = .ok (.aload 7, 2) := by decide +kernel
theorem dX3_hoursWith_65 : decode cX3_hoursWith 65 = .ok (.getfield 84, 3) := by decide +kernel
theorem dX3_hoursWith_68 : decode cX3_hoursWith 68 = .ok (.imul, 1) := by decide +kernel
theorem dX3_hoursWith_69 : decode cX3_hoursWith 69 = .ok (.iadd, 1) := by decide +kernel
theorem dX3_hoursWith_70 : decode cX3_hoursWith 70 = .ok (.iadd, 1) := by decide +kernel
theorem dX3_hoursWith_71 : decode cX3_hoursWith 71 = .ok (.istore 4, 2) := by decide +kernel
theorem dX3_hoursWith_73 : decode cX3_hoursWith 73 = .ok (.iload 5, 2) := by decide +kernel
theorem dX3_hoursWith_75 : decode cX3_hoursWith 75 = .ok (.iconst 1, 1) := by decide +kernel
theorem dX3_hoursWith_76 : decode cX3_hoursWith 76 = .ok (.aload 7, 2) := by decide +kernel
theorem dX3_hoursWith_78 : decode cX3_hoursWith 78 = .ok (.getfield 87, 3) := by decide +kernel
theorem dX3_hoursWith_81 : decode cX3_hoursWith 81 = .ok (.ishl, 1) := by decide +kernel
theorem dX3_hoursWith_82 : decode cX3_hoursWith 82 = .ok (.ior, 1) := by decide +kernel
theorem dX3_hoursWith_83 : decode cX3_hoursWith 83 = .ok (.istore 5, 2) := by decide +kernel
theorem dX3_hoursWith_85 : decode cX3_hoursWith 85 = .ok (.iinc 6 1, 3) := by decide +kernel
theorem dX3_hoursWith_88 : decode cX3_hoursWith 88 = .ok (.goto (-79), 3) := by decide +kernel
theorem dX3_hoursWith_91 : decode cX3_hoursWith 91 = .ok (.iconst 0, 1) := by decide +kernel
theorem dX3_hoursWith_92 : decode cX3_hoursWith 92 = .ok (.istore 6, 2) := by decide +kernel
theorem dX3_hoursWith_94 : decode cX3_hoursWith 94 = .ok (.iload 6, 2) := by decide +kernel
theorem dX3_hoursWith_96 : decode cX3_hoursWith 96 = .ok (.iconst 4, 1) := by decide +kernel
theorem dX3_hoursWith_97 : decode cX3_hoursWith 97 = .ok (.if_icmp .ge 31, 3) := by decide +kernel
theorem dX3_hoursWith_100 : decode cX3_hoursWith 100 = .ok (.iload 5, 2) := by decide +kernel
theorem dX3_hoursWith_102 : decode cX3_hoursWith 102 = .ok (.iload 6, 2) := by decide +kernel
theorem dX3_hoursWith_104 : decode cX3_hoursWith 104 = .ok (.ishr, 1) := by decide +kernel
theorem dX3_hoursWith_105 : decode cX3_hoursWith 105 = .ok (.iconst 1, 1) := by decide +kernel
theorem dX3_hoursWith_106 : decode cX3_hoursWith 106 = .ok (.iand, 1) := by decide +kernel
theorem dX3_hoursWith_107 : decode cX3_hoursWith 107 = .ok (.ifCond .eq 15, 3) := by decide +kernel
theorem dX3_hoursWith_110 : decode cX3_hoursWith 110 = .ok (.iload 4, 2) := by decide +kernel
theorem dX3_hoursWith_112 : decode cX3_hoursWith 112 = .ok (.aload_n 0, 1) := by decide +kernel
theorem dX3_hoursWith_113 : decode cX3_hoursWith 113 = .ok (.getfield 23, 3) := by decide +kernel
theorem dX3_hoursWith_116 : decode cX3_hoursWith 116 = .ok (.iload 6, 2) := by decide +kernel
theorem dX3_hoursWith_118 : decode cX3_hoursWith 118 = .ok (.iaload, 1) := by decide +kernel
theorem dX3_hoursWith_119 : decode cX3_hoursWith 119 = .ok (.iadd, 1) := by decide +kernel
theorem dX3_hoursWith_120 : decode cX3_hoursWith 120 = .ok (.istore 4, 2) := by decide +kernel
theorem dX3_hoursWith_122 : decode cX3_hoursWith 122 = .ok (.iinc 6 1, 3) := by decide +kernel
theorem dX3_hoursWith_125 : decode cX3_hoursWith 125 = .ok (.goto (-31), 3) := by decide +kernel
theorem dX3_hoursWith_128 : decode cX3_hoursWith 128 = .ok (.iload 4, 2) := by decide +kernel
theorem dX3_hoursWith_130 : decode cX3_hoursWith 130 = .ok (.ireturn, 1) := by decide +kernel
theorem dX3_familiesIn_0 : decode cX3_familiesIn 0 = .ok (.iconst 0, 1) := by decide +kernel
theorem dX3_familiesIn_1 : decode cX3_familiesIn 1 = .ok (.istore_n 2, 1) := by decide +kernel
theorem dX3_familiesIn_2 : decode cX3_familiesIn 2 = .ok (.iconst 0, 1) := by decide +kernel
theorem dX3_familiesIn_3 : decode cX3_familiesIn 3 = .ok (.istore_n 3, 1) := by decide +kernel
theorem dX3_familiesIn_4 : decode cX3_familiesIn 4 = .ok (.iload_n 3, 1) := by decide +kernel
theorem dX3_familiesIn_5 : decode cX3_familiesIn 5 = .ok (.aload_n 0, 1) := by decide +kernel
theorem dX3_familiesIn_6 : decode cX3_familiesIn 6 = .ok (.getfield 45, 3) := by decide +kernel
theorem dX3_familiesIn_9 : decode cX3_familiesIn 9 = .ok (.if_icmp .ge 40, 3) := by decide +kernel
theorem dX3_familiesIn_12 : decode cX3_familiesIn 12 = .ok (.aload_n 0, 1) := by decide +kernel
theorem dX3_familiesIn_13 : decode cX3_familiesIn 13 = .ok (.iload_n 3, 1) := by decide +kernel
theorem dX3_familiesIn_14 : decode cX3_familiesIn 14 = .ok (.invokevirtual 49, 3) := by decide +kernel
theorem dX3_familiesIn_17 : decode cX3_familiesIn 17 = .ok (.astore 4, 2) := by decide +kernel
theorem dX3_familiesIn_19 : decode cX3_familiesIn 19 = .ok (.aload 4, 2) := by decide +kernel
theorem dX3_familiesIn_21 : decode cX3_familiesIn 21 = .ok (.ifnull 22, 3) := by decide +kernel
theorem dX3_familiesIn_24 : decode cX3_familiesIn 24 = .ok (.aload 4, 2) := by decide +kernel
theorem dX3_familiesIn_26 : decode cX3_familiesIn 26 = .ok (.iload_n 1, 1) := by decide +kernel
theorem dX3_familiesIn_27 : decode cX3_familiesIn 27 = .ok (.invokevirtual 78, 3) := by decide +kernel
theorem dX3_familiesIn_30 : decode cX3_familiesIn 30 = .ok (.ifCond .le 13, 3) := by decide +kernel
theorem dX3_familiesIn_33 : decode cX3_familiesIn 33 = .ok (.iload_n 2, 1) := by decide +kernel
theorem dX3_familiesIn_34 : decode cX3_familiesIn 34 = .ok (.iconst 1, 1) := by decide +kernel
theorem dX3_familiesIn_35 : decode cX3_familiesIn 35 = .ok (.aload 4, 2) := by decide +kernel
theorem dX3_familiesIn_37 : decode cX3_familiesIn 37 = .ok (.getfield 87, 3) := by decide +kernel
theorem dX3_familiesIn_40 : decode cX3_familiesIn 40 = .ok (.ishl, 1) := by decide +kernel
theorem dX3_familiesIn_41 : decode cX3_familiesIn 41 = .ok (.ior, 1) := by decide +kernel
theorem dX3_familiesIn_42 : decode cX3_familiesIn 42 = .ok (.istore_n 2, 1) := by decide +kernel
theorem dX3_familiesIn_43 : decode cX3_familiesIn 43 = .ok (.iinc 3 1, 3) := by decide +kernel
theorem dX3_familiesIn_46 : decode cX3_familiesIn 46 = .ok (.goto (-42), 3) := by decide +kernel
theorem dX3_familiesIn_49 : decode cX3_familiesIn 49 = .ok (.iload_n 2, 1) := by decide +kernel
theorem dX3_familiesIn_50 : decode cX3_familiesIn 50 = .ok (.ireturn, 1) := by decide +kernel
theorem dX3_setupsIn_0 : decode cX3_setupsIn 0 = .ok (.aload_n 0, 1) := by decide +kernel
theorem dX3_setupsIn_1 : decode cX3_setupsIn 1 = .ok (.iload_n 1, 1) := by decide +kernel
theorem dX3_setupsIn_2 : decode cX3_setupsIn 2 = .ok (.invokevirtual 90, 3) := by decide +kernel
theorem dX3_setupsIn_5 : decode cX3_setupsIn 5 = .ok (.invokestatic 93, 3) := by decide +kernel
theorem dX3_setupsIn_8 : decode cX3_setupsIn 8 = .ok (.istore_n 2, 1) := by decide +kernel
theorem dX3_setupsIn_9 : decode cX3_setupsIn 9 = .ok (.iconst 0, 1) := by decide +kernel
theorem dX3_setupsIn_10 : decode cX3_setupsIn 10 = .ok (.istore_n 3, 1) := by decide +kernel
theorem dX3_setupsIn_11 : decode cX3_setupsIn 11 = .ok (.iload_n 3, 1) := by decide +kernel
theorem dX3_setupsIn_12 : decode cX3_setupsIn 12 = .ok (.aload_n 0, 1) := by decide +kernel
theorem dX3_setupsIn_13 : decode cX3_setupsIn 13 = .ok (.getfield 45, 3) := by decide +kernel
theorem dX3_setupsIn_16 : decode cX3_setupsIn 16 = .ok (.if_icmp .ge 33, 3) := by decide +kernel
theorem dX3_setupsIn_19 : decode cX3_setupsIn 19 = .ok (.aload_n 0, 1) := by decide +kernel
theorem dX3_setupsIn_20 : decode cX3_setupsIn 20 = .ok (.iload_n 3, 1) := by decide +kernel
theorem dX3_setupsIn_21 : decode cX3_setupsIn 21 = .ok (.invokevirtual 49, 3) := by decide +kernel
theorem dX3_setupsIn_24 : decode cX3_setupsIn 24 = .ok (.astore 4, 2) := by decide +kernel
theorem dX3_setupsIn_26 : decode cX3_setupsIn 26 = .ok (.aload 4, 2) := by decide +kernel
theorem dX3_setupsIn_28 : decode cX3_setupsIn 28 = .ok (.ifnull 15, 3) := by decide +kernel
theorem dX3_setupsIn_31 : decode cX3_setupsIn 31 = .ok (.aload 4, 2) := by decide +kernel
theorem dX3_setupsIn_33 : decode cX3_setupsIn 33 = .ok (.iload_n 1, 1) := by decide +kernel
theorem dX3_setupsIn_34 : decode cX3_setupsIn 34 = .ok (.invokevirtual 78, 3) := by decide +kernel
theorem dX3_setupsIn_37 : decode cX3_setupsIn 37 = .ok (.ifCond .le 6, 3) := by decide +kernel
theorem dX3_setupsIn_40 : decode cX3_setupsIn 40 = .ok (.iinc 2 1, 3) := by decide +kernel
theorem dX3_setupsIn_43 : decode cX3_setupsIn 43 = .ok (.iinc 3 1, 3) := by decide +kernel
theorem dX3_setupsIn_46 : decode cX3_setupsIn 46 = .ok (.goto (-35), 3) := by decide +kernel
theorem dX3_setupsIn_49 : decode cX3_setupsIn 49 = .ok (.iload_n 2, 1) := by decide +kernel
theorem dX3_setupsIn_50 : decode cX3_setupsIn 50 = .ok (.ireturn, 1) := by decide +kernel
theorem dX3_overtimeIn_0 : decode cX3_overtimeIn 0 = .ok (.iconst 0, 1) := by decide +kernel
theorem dX3_overtimeIn_1 : decode cX3_overtimeIn 1 = .ok (.aload_n 0, 1) := by decide +kernel
theorem dX3_overtimeIn_2 : decode cX3_overtimeIn 2 = .ok (.iload_n 1, 1) := by decide +kernel
theorem dX3_overtimeIn_3 : decode cX3_overtimeIn 3 = .ok (.aconst_null, 1) := by decide +kernel
theorem dX3_overtimeIn_4 : decode cX3_overtimeIn 4 = .ok (.iconst 0, 1) := by decide +kernel
theorem dX3_overtimeIn_5 : decode cX3_overtimeIn 5 = .ok (.invokevirtual 74, 3) := by decide +kernel
theorem dX3_overtimeIn_8 : decode cX3_overtimeIn 8 = .ok (.aload_n 0, 1) := by decide +kernel
theorem dX3_overtimeIn_9 : decode cX3_overtimeIn 9 = .ok (.iconst 0, 1) := by decide +kernel
theorem dX3_overtimeIn_10 : decode cX3_overtimeIn 10 = .ok (.invokevirtual 70, 3) := by decide +kernel
theorem dX3_overtimeIn_13 : decode cX3_overtimeIn 13 = .ok (.isub, 1) := by decide +kernel
theorem dX3_overtimeIn_14 : decode cX3_overtimeIn 14 = .ok (.invokestatic 98, 3) := by decide +kernel
theorem dX3_overtimeIn_17 : decode cX3_overtimeIn 17 = .ok (.ireturn, 1) := by decide +kernel
theorem dX3_allLots_0 : decode cX3_allLots 0 = .ok (.iconst 0, 1) := by decide +kernel
theorem dX3_allLots_1 : decode cX3_allLots 1 = .ok (.istore_n 1, 1) := by decide +kernel
theorem dX3_allLots_2 : decode cX3_allLots 2 = .ok (.iconst 0, 1) := by decide +kernel
theorem dX3_allLots_3 : decode cX3_allLots 3 = .ok (.istore_n 2, 1) := by decide +kernel
theorem dX3_allLots_4 : decode cX3_allLots 4 = .ok (.iload_n 2, 1) := by decide +kernel
theorem dX3_allLots_5 : decode cX3_allLots 5 = .ok (.aload_n 0, 1) := by decide +kernel
theorem dX3_allLots_6 : decode cX3_allLots 6 = .ok (.getfield 45, 3) := by decide +kernel
theorem dX3_allLots_9 : decode cX3_allLots 9 = .ok (.if_icmp .ge 26, 3) := by decide +kernel
theorem dX3_allLots_12 : decode cX3_allLots 12 = .ok (.aload_n 0, 1) := by decide +kernel
theorem dX3_allLots_13 : decode cX3_allLots 13 = .ok (.iload_n 2, 1) := by decide +kernel
theorem dX3_allLots_14 : decode cX3_allLots 14 = .ok (.invokevirtual 49, 3) := by decide +kernel
theorem dX3_allLots_17 : decode cX3_allLots 17 = .ok (.astore_n 3, 1) := by decide +kernel
theorem dX3_allLots_18 : decode cX3_allLots 18 = .ok (.aload_n 3, 1) := by decide +kernel
theorem dX3_allLots_19 : decode cX3_allLots 19 = .ok (.ifnull 10, 3) := by decide +kernel
theorem dX3_allLots_22 : decode cX3_allLots 22 = .ok (.iload_n 1, 1) := by decide +kernel
theorem dX3_allLots_23 : decode cX3_allLots 23 = .ok (.aload_n 3, 1) := by decide +kernel
theorem dX3_allLots_24 : decode cX3_allLots 24 = .ok (.invokevirtual 104, 3) := by decide +kernel
theorem dX3_allLots_27 : decode cX3_allLots 27 = .ok (.iadd, 1) := by decide +kernel
theorem dX3_allLots_28 : decode cX3_allLots 28 = .ok (.istore_n 1, 1) := by decide +kernel
theorem dX3_allLots_29 : decode cX3_allLots 29 = .ok (.iinc 2 1, 3) := by decide +kernel
theorem dX3_allLots_32 : decode cX3_allLots 32 = .ok (.goto (-28), 3) := by decide +kernel
theorem dX3_allLots_35 : decode cX3_allLots 35 = .ok (.iload_n 1, 1) := by decide +kernel
theorem dX3_allLots_36 : decode cX3_allLots 36 = .ok (.ireturn, 1) := by decide +kernel
theorem dX3_allStock_0 : decode cX3_allStock 0 = .ok (.lconst 0, 1) := by decide +kernel
theorem dX3_allStock_1 : decode cX3_allStock 1 = .ok (.lstore_n 1, 1) := by decide +kernel
theorem dX3_allStock_2 : decode cX3_allStock 2 = .ok (.iconst 0, 1) := by decide +kernel
theorem dX3_allStock_3 : decode cX3_allStock 3 = .ok (.istore_n 3, 1) := by decide +kernel
theorem dX3_allStock_4 : decode cX3_allStock 4 = .ok (.iload_n 3, 1) := by decide +kernel
theorem dX3_allStock_5 : decode cX3_allStock 5 = .ok (.aload_n 0, 1) := by decide +kernel
theorem dX3_allStock_6 : decode cX3_allStock 6 = .ok (.getfield 45, 3) := by decide +kernel
theorem dX3_allStock_9 : decode cX3_allStock 9 = .ok (.if_icmp .ge 30, 3) := by decide +kernel
theorem dX3_allStock_12 : decode cX3_allStock 12 = .ok (.aload_n 0, 1) := by decide +kernel
theorem dX3_allStock_13 : decode cX3_allStock 13 = .ok (.iload_n 3, 1) := by decide +kernel
theorem dX3_allStock_14 : decode cX3_allStock 14 = .ok (.invokevirtual 49, 3) := by decide +kernel
theorem dX3_allStock_17 : decode cX3_allStock 17 = .ok (.astore 4, 2) := by decide +kernel
theorem dX3_allStock_19 : decode cX3_allStock 19 = .ok (.aload 4, 2) := by decide +kernel
theorem dX3_allStock_21 : decode cX3_allStock 21 = .ok (.ifnull 12, 3) := by decide +kernel
theorem dX3_allStock_24 : decode cX3_allStock 24 = .ok (.lload_n 1, 1) := by decide +kernel
theorem dX3_allStock_25 : decode cX3_allStock 25 = .ok (.aload 4, 2) := by decide +kernel
theorem dX3_allStock_27 : decode cX3_allStock 27 = .ok (.getfield 108, 3) := by decide +kernel
theorem dX3_allStock_30 : decode cX3_allStock 30 = .ok (.i2l, 1) := by decide +kernel
theorem dX3_allStock_31 : decode cX3_allStock 31 = .ok (.ladd, 1) := by decide +kernel
theorem dX3_allStock_32 : decode cX3_allStock 32 = .ok (.lstore_n 1, 1) := by decide +kernel
theorem dX3_allStock_33 : decode cX3_allStock 33 = .ok (.iinc 3 1, 3) := by decide +kernel
theorem dX3_allStock_36 : decode cX3_allStock 36 = .ok (.goto (-32), 3) := by decide +kernel
theorem dX3_allStock_39 : decode cX3_allStock 39 = .ok (.lload_n 1, 1) := by decide +kernel
theorem dX3_allStock_40 : decode cX3_allStock 40 = .ok (.lreturn, 1) := by decide +kernel
theorem dX3_allBacklog_0 : decode cX3_allBacklog 0 = .ok (.lconst 0, 1) := by decide +kernel
theorem dX3_allBacklog_1 : decode cX3_allBacklog 1 = .ok (.lstore_n 1, 1) := by decide +kernel
theorem dX3_allBacklog_2 : decode cX3_allBacklog 2 = .ok (.iconst 0, 1) := by decide +kernel
theorem dX3_allBacklog_3 : decode cX3_allBacklog 3 = .ok (.istore_n 3, 1) := by decide +kernel
theorem dX3_allBacklog_4 : decode cX3_allBacklog 4 = .ok (.iload_n 3, 1) := by decide +kernel
theorem dX3_allBacklog_5 : decode cX3_allBacklog 5 = .ok (.aload_n 0, 1) := by decide +kernel
theorem dX3_allBacklog_6 : decode cX3_allBacklog 6 = .ok (.getfield 45, 3) := by decide +kernel
theorem dX3_allBacklog_9 : decode cX3_allBacklog 9 = .ok (.if_icmp .ge 30, 3) := by decide +kernel
theorem dX3_allBacklog_12 : decode cX3_allBacklog 12 = .ok (.aload_n 0, 1) := by decide +kernel
theorem dX3_allBacklog_13 : decode cX3_allBacklog 13 = .ok (.iload_n 3, 1) := by decide +kernel
theorem dX3_allBacklog_14 : decode cX3_allBacklog 14 = .ok (.invokevirtual 49, 3) := by decide +kernel
theorem dX3_allBacklog_17 : decode cX3_allBacklog 17 = .ok (.astore 4, 2) := by decide +kernel
theorem dX3_allBacklog_19 : decode cX3_allBacklog 19 = .ok (.aload 4, 2) := by decide +kernel
theorem dX3_allBacklog_21 : decode cX3_allBacklog 21 = .ok (.ifnull 12, 3) := by decide +kernel
theorem dX3_allBacklog_24 : decode cX3_allBacklog 24 = .ok (.lload_n 1, 1) := by decide +kernel
theorem dX3_allBacklog_25 : decode cX3_allBacklog 25 = .ok (.aload 4, 2) := by decide +kernel
theorem dX3_allBacklog_27 : decode cX3_allBacklog 27 = .ok (.getfield 111, 3) := by decide +kernel
theorem dX3_allBacklog_30 : decode cX3_allBacklog 30 = .ok (.i2l, 1) := by decide +kernel
theorem dX3_allBacklog_31 : decode cX3_allBacklog 31 = .ok (.ladd, 1) := by decide +kernel
theorem dX3_allBacklog_32 : decode cX3_allBacklog 32 = .ok (.lstore_n 1, 1) := by decide +kernel
theorem dX3_allBacklog_33 : decode cX3_allBacklog 33 = .ok (.iinc 3 1, 3) := by decide +kernel
theorem dX3_allBacklog_36 : decode cX3_allBacklog 36 = .ok (.goto (-32), 3) := by decide +kernel
theorem dX3_allBacklog_39 : decode cX3_allBacklog 39 = .ok (.lload_n 1, 1) := by decide +kernel
theorem dX3_allBacklog_40 : decode cX3_allBacklog 40 = .ok (.lreturn, 1) := by decide +kernel
theorem dX3_forgetTold_0 : decode cX3_forgetTold 0 = .ok (.iconst 0, 1) := by decide +kernel
theorem dX3_forgetTold_1 : decode cX3_forgetTold 1 = .ok (.istore_n 1, 1) := by decide +kernel
theorem dX3_forgetTold_2 : decode cX3_forgetTold 2 = .ok (.iload_n 1, 1) := by decide +kernel
theorem dX3_forgetTold_3 : decode cX3_forgetTold 3 = .ok (.aload_n 0, 1) := by decide +kernel
theorem dX3_forgetTold_4 : decode cX3_forgetTold 4 = .ok (.getfield 45, 3) := by decide +kernel
theorem dX3_forgetTold_7 : decode cX3_forgetTold 7 = .ok (.if_icmp .ge 25, 3) := by decide +kernel
theorem dX3_forgetTold_10 : decode cX3_forgetTold 10 = .ok (.aload_n 0, 1) := by decide +kernel
theorem dX3_forgetTold_11 : decode cX3_forgetTold 11 = .ok (.iload_n 1, 1) := by decide +kernel
theorem dX3_forgetTold_12 : decode cX3_forgetTold 12 = .ok (.invokevirtual 49, 3) := by decide +kernel
theorem dX3_forgetTold_15 : decode cX3_forgetTold 15 = .ok (.astore_n 2, 1) := by decide +kernel
theorem dX3_forgetTold_16 : decode cX3_forgetTold 16 = .ok (.aload_n 2, 1) := by decide +kernel
theorem dX3_forgetTold_17 : decode cX3_forgetTold 17 = .ok (.ifnull 9, 3) := by decide +kernel
theorem dX3_forgetTold_20 : decode cX3_forgetTold 20 = .ok (.aload_n 2, 1) := by decide +kernel
theorem dX3_forgetTold_21 : decode cX3_forgetTold 21 = .ok (.bipush (-6), 2) := by decide +kernel
theorem dX3_forgetTold_23 : decode cX3_forgetTold 23 = .ok (.putfield 114, 3) := by decide +kernel
theorem dX3_forgetTold_26 : decode cX3_forgetTold 26 = .ok (.iinc 1 1, 3) := by decide +kernel
theorem dX3_forgetTold_29 : decode cX3_forgetTold 29 = .ok (.goto (-27), 3) := by decide +kernel
theorem dX3_forgetTold_32 : decode cX3_forgetTold 32 = .ok (.return_, 1) := by decide +kernel
theorem dX3_planAnew_0 : decode cX3_planAnew 0 = .ok (.aload_n 0, 1) := by decide +kernel
theorem dX3_planAnew_1 : decode cX3_planAnew 1 = .ok (.invokevirtual 117, 3) := by decide +kernel
theorem dX3_planAnew_4 : decode cX3_planAnew 4 = .ok (.aload_n 0, 1) := by decide +kernel
theorem dX3_planAnew_5 : decode cX3_planAnew 5 = .ok (.iconst 2, 1) := by decide +kernel
theorem dX3_planAnew_6 : decode cX3_planAnew 6 = .ok (.invokevirtual 70, 3) := by decide +kernel
theorem dX3_planAnew_9 : decode cX3_planAnew 9 = .ok (.istore_n 1, 1) := by decide +kernel
theorem dX3_planAnew_10 : decode cX3_planAnew 10 = .ok (.iload_n 1, 1) := by decide +kernel
theorem dX3_planAnew_11 : decode cX3_planAnew 11 = .ok (.bipush 12, 2) := by decide +kernel
theorem dX3_planAnew_13 : decode cX3_planAnew 13 = .ok (.if_icmp .ge 14, 3) := by decide +kernel
theorem dX3_planAnew_16 : decode cX3_planAnew 16 = .ok (.aload_n 0, 1) := by decide +kernel
theorem dX3_planAnew_17 : decode cX3_planAnew 17 = .ok (.iload_n 1, 1) := by decide +kernel
theorem dX3_planAnew_18 : decode cX3_planAnew 18 = .ok (.invokevirtual 120, 3) := by decide +kernel
theorem dX3_planAnew_21 : decode cX3_planAnew 21 = .ok (.iinc 1 1, 3) := by decide +kernel
theorem dX3_planAnew_24 : decode cX3_planAnew 24 = .ok (.goto (-14), 3) := by decide +kernel
theorem dX3_planAnew_27 : decode cX3_planAnew 27 = .ok (.return_, 1) := by decide +kernel
theorem dX3_plansWithoutShortage_0 : decode cX3_plansWithoutShortage 0 = .ok (.aload_n 0, 1) := by decide +kernel
theorem dX3_plansWithoutShortage_1 : decode cX3_plansWithoutShortage 1 = .ok (.invokevirtual 117, 3) := by decide +kernel
theorem dX3_plansWithoutShortage_4 : decode cX3_plansWithoutShortage 4 = .ok (.aload_n 0, 1) := by decide +kernel
theorem dX3_plansWithoutShortage_5 : decode cX3_plansWithoutShortage 5 = .ok (.iconst 2, 1) := by decide +kernel
theorem dX3_plansWithoutShortage_6 : decode cX3_plansWithoutShortage 6 = .ok (.invokevirtual 70, 3) := by decide +kernel
theorem dX3_plansWithoutShortage_9 : decode cX3_plansWithoutShortage 9 = .ok (.istore_n 1, 1) := by decide +kernel
theorem dX3_plansWithoutShortage_10 : decode cX3_plansWithoutShortage 10 = .ok (.iload_n 1, 1) := by decide +kernel
theorem dX3_plansWithoutShortage_11 : decode cX3_plansWithoutShortage 11 = .ok (.bipush 12, 2) := by decide +kernel
theorem dX3_plansWithoutShortage_13 : decode cX3_plansWithoutShortage 13 = .ok (.if_icmp .ge 23, 3) := by decide +kernel
theorem dX3_plansWithoutShortage_16 : decode cX3_plansWithoutShortage 16 = .ok (.aload_n 0, 1) := by decide +kernel
theorem dX3_plansWithoutShortage_17 : decode cX3_plansWithoutShortage 17 = .ok (.iload_n 1, 1) := by decide +kernel
theorem dX3_plansWithoutShortage_18 : decode cX3_plansWithoutShortage 18 = .ok (.invokevirtual 120, 3) := by decide +kernel
theorem dX3_plansWithoutShortage_21 : decode cX3_plansWithoutShortage 21 = .ok (.aload_n 0, 1) := by decide +kernel
theorem dX3_plansWithoutShortage_22 : decode cX3_plansWithoutShortage 22 = .ok (.invokevirtual 124, 3) := by decide +kernel
theorem dX3_plansWithoutShortage_25 : decode cX3_plansWithoutShortage 25 = .ok (.ifCond .eq 5, 3) := by decide +kernel
theorem dX3_plansWithoutShortage_28 : decode cX3_plansWithoutShortage 28 = .ok (.iconst 0, 1) := by decide +kernel
theorem dX3_plansWithoutShortage_29 : decode cX3_plansWithoutShortage 29 = .ok (.ireturn, 1) := by decide +kernel
theorem dX3_plansWithoutShortage_30 : decode cX3_plansWithoutShortage 30 = .ok (.iinc 1 1, 3) := by decide +kernel
theorem dX3_plansWithoutShortage_33 : decode cX3_plansWithoutShortage 33 = .ok (.goto (-23), 3) := by decide +kernel
theorem dX3_plansWithoutShortage_36 : decode cX3_plansWithoutShortage 36 = .ok (.iconst 1, 1) := by decide +kernel
theorem dX3_plansWithoutShortage_37 : decode cX3_plansWithoutShortage 37 = .ok (.ireturn, 1) := by decide +kernel
theorem dX3_openPlans_0 : decode cX3_openPlans 0 = .ok (.aload_n 0, 1) := by decide +kernel
theorem dX3_openPlans_1 : decode cX3_openPlans 1 = .ok (.iconst 2, 1) := by decide +kernel
theorem dX3_openPlans_2 : decode cX3_openPlans 2 = .ok (.invokevirtual 70, 3) := by decide +kernel
theorem dX3_openPlans_5 : decode cX3_openPlans 5 = .ok (.istore_n 1, 1) := by decide +kernel
theorem dX3_openPlans_6 : decode cX3_openPlans 6 = .ok (.iconst 0, 1) := by decide +kernel
theorem dX3_openPlans_7 : decode cX3_openPlans 7 = .ok (.istore_n 2, 1) := by decide +kernel
theorem dX3_openPlans_8 : decode cX3_openPlans 8 = .ok (.iload_n 2, 1) := by decide +kernel
theorem dX3_openPlans_9 : decode cX3_openPlans 9 = .ok (.aload_n 0, 1) := by decide +kernel
theorem dX3_openPlans_10 : decode cX3_openPlans 10 = .ok (.getfield 45, 3) := by decide +kernel
theorem dX3_openPlans_13 : decode cX3_openPlans 13 = .ok (.if_icmp .ge 24, 3) := by decide +kernel
theorem dX3_openPlans_16 : decode cX3_openPlans 16 = .ok (.aload_n 0, 1) := by decide +kernel
theorem dX3_openPlans_17 : decode cX3_openPlans 17 = .ok (.iload_n 2, 1) := by decide +kernel
theorem dX3_openPlans_18 : decode cX3_openPlans 18 = .ok (.invokevirtual 49, 3) := by decide +kernel
theorem dX3_openPlans_21 : decode cX3_openPlans 21 = .ok (.astore_n 3, 1) := by decide +kernel
theorem dX3_openPlans_22 : decode cX3_openPlans 22 = .ok (.aload_n 3, 1) := by decide +kernel
theorem dX3_openPlans_23 : decode cX3_openPlans 23 = .ok (.ifnull 8, 3) := by decide +kernel
theorem dX3_openPlans_26 : decode cX3_openPlans 26 = .ok (.aload_n 3, 1) := by decide +kernel
theorem dX3_openPlans_27 : decode cX3_openPlans 27 = .ok (.iload_n 1, 1) := by decide +kernel
theorem dX3_openPlans_28 : decode cX3_openPlans 28 = .ok (.invokevirtual 128, 3) := by decide +kernel
theorem dX3_openPlans_31 : decode cX3_openPlans 31 = .ok (.iinc 2 1, 3) := by decide +kernel
theorem dX3_openPlans_34 : decode cX3_openPlans 34 = .ok (.goto (-26), 3) := by decide +kernel
theorem dX3_openPlans_37 : decode cX3_openPlans 37 = .ok (.return_, 1) := by decide +kernel
theorem dX3_planWeek_0 : decode cX3_planWeek 0 = .ok (.aload_n 0, 1) := by decide +kernel
theorem dX3_planWeek_1 : decode cX3_planWeek 1 = .ok (.iconst 4, 1) := by decide +kernel
theorem dX3_planWeek_2 : decode cX3_planWeek 2 = .ok (.invokevirtual 70, 3) := by decide +kernel
theorem dX3_planWeek_5 : decode cX3_planWeek 5 = .ok (.istore_n 2, 1) := by decide +kernel
theorem dX3_planWeek_6 : decode cX3_planWeek 6 = .ok (.iconst 0, 1) := by decide +kernel
theorem dX3_planWeek_7 : decode cX3_planWeek 7 = .ok (.istore_n 3, 1) := by decide +kernel
theorem dX3_planWeek_8 : decode cX3_planWeek 8 = .ok (.iload_n 3, 1) := by decide +kernel
theorem dX3_planWeek_9 : decode cX3_planWeek 9 = .ok (.aload_n 0, 1) := by decide +kernel
theorem dX3_planWeek_10 : decode cX3_planWeek 10 = .ok (.getfield 45, 3) := by decide +kernel
theorem dX3_planWeek_13 : decode cX3_planWeek 13 = .ok (.if_icmp .ge 28, 3) := by decide +kernel
theorem dX3_planWeek_16 : decode cX3_planWeek 16 = .ok (.aload_n 0, 1) := by decide +kernel
theorem dX3_planWeek_17 : decode cX3_planWeek 17 = .ok (.iload_n 3, 1) := by decide +kernel
theorem dX3_planWeek_18 : decode cX3_planWeek 18 = .ok (.invokevirtual 49, 3) := by decide +kernel
theorem dX3_planWeek_21 : decode cX3_planWeek 21 = .ok (.astore 4, 2) := by decide +kernel
theorem dX3_planWeek_23 : decode cX3_planWeek 23 = .ok (.aload 4, 2) := by decide +kernel
theorem dX3_planWeek_25 : decode cX3_planWeek 25 = .ok (.ifnull 10, 3) := by decide +kernel
theorem dX3_planWeek_28 : decode cX3_planWeek 28 = .ok (.aload 4, 2) := by decide +kernel
theorem dX3_planWeek_30 : decode cX3_planWeek 30 = .ok (.iload_n 1, 1) := by decide +kernel
theorem dX3_planWeek_31 : decode cX3_planWeek 31 = .ok (.iload_n 2, 1) := by decide +kernel
theorem dX3_planWeek_32 : decode cX3_planWeek 32 = .ok (.invokevirtual 131, 3) := by decide +kernel
theorem dX3_planWeek_35 : decode cX3_planWeek 35 = .ok (.iinc 3 1, 3) := by decide +kernel
theorem dX3_planWeek_38 : decode cX3_planWeek 38 = .ok (.goto (-30), 3) := by decide +kernel
theorem dX3_planWeek_41 : decode cX3_planWeek 41 = .ok (.aload_n 0, 1) := by decide +kernel
theorem dX3_planWeek_42 : decode cX3_planWeek 42 = .ok (.aload_n 0, 1) := by decide +kernel
theorem dX3_planWeek_43 : decode cX3_planWeek 43 = .ok (.invokevirtual 135, 3) := by decide +kernel
theorem dX3_planWeek_46 : decode cX3_planWeek 46 = .ok (.putfield 138, 3) := by decide +kernel
theorem dX3_planWeek_49 : decode cX3_planWeek 49 = .ok (.aload_n 0, 1) := by decide +kernel
theorem dX3_planWeek_50 : decode cX3_planWeek 50 = .ok (.iconst 0, 1) := by decide +kernel
theorem dX3_planWeek_51 : decode cX3_planWeek 51 = .ok (.putfield 141, 3) := by decide +kernel
theorem dX3_planWeek_54 : decode cX3_planWeek 54 = .ok (.iconst 0, 1) := by decide +kernel
theorem dX3_planWeek_55 : decode cX3_planWeek 55 = .ok (.istore_n 3, 1) := by decide +kernel
theorem dX3_planWeek_56 : decode cX3_planWeek 56 = .ok (.iload_n 3, 1) := by decide +kernel
theorem dX3_planWeek_57 : decode cX3_planWeek 57 = .ok (.bipush 10, 2) := by decide +kernel
theorem dX3_planWeek_59 : decode cX3_planWeek 59 = .ok (.if_icmp .ge 34, 3) := by decide +kernel
theorem dX3_planWeek_62 : decode cX3_planWeek 62 = .ok (.aload_n 0, 1) := by decide +kernel
theorem dX3_planWeek_63 : decode cX3_planWeek 63 = .ok (.invokevirtual 144, 3) := by decide +kernel
theorem dX3_planWeek_66 : decode cX3_planWeek 66 = .ok (.astore 4, 2) := by decide +kernel
theorem dX3_planWeek_68 : decode cX3_planWeek 68 = .ok (.aload 4, 2) := by decide +kernel
theorem dX3_planWeek_70 : decode cX3_planWeek 70 = .ok (.ifnonnull 4, 3) := by decide +kernel
theorem dX3_planWeek_73 : decode cX3_planWeek 73 = .ok (.return_, 1) := by decide +kernel
theorem dX3_planWeek_74 : decode cX3_planWeek 74 = .ok (.aload 4, 2) := by decide +kernel
theorem dX3_planWeek_76 : decode cX3_planWeek 76 = .ok (.iconst 0, 1) := by decide +kernel
theorem dX3_planWeek_77 : decode cX3_planWeek 77 = .ok (.putfield 148, 3) := by decide +kernel
theorem dX3_planWeek_80 : decode cX3_planWeek 80 = .ok (.aload_n 0, 1) := by decide +kernel
theorem dX3_planWeek_81 : decode cX3_planWeek 81 = .ok (.aload 4, 2) := by decide +kernel
theorem dX3_planWeek_83 : decode cX3_planWeek 83 = .ok (.iload_n 1, 1) := by decide +kernel
theorem dX3_planWeek_84 : decode cX3_planWeek 84 = .ok (.invokevirtual 152, 3) := by decide +kernel
theorem dX3_planWeek_87 : decode cX3_planWeek 87 = .ok (.iinc 3 1, 3) := by decide +kernel
theorem dX3_planWeek_90 : decode cX3_planWeek 90 = .ok (.goto (-34), 3) := by decide +kernel
theorem dX3_planWeek_93 : decode cX3_planWeek 93 = .ok (.return_, 1) := by decide +kernel
theorem dX3_nextWaiting_0 : decode cX3_nextWaiting 0 = .ok (.aconst_null, 1) := by decide +kernel
theorem dX3_nextWaiting_1 : decode cX3_nextWaiting 1 = .ok (.astore_n 1, 1) := by decide +kernel
theorem dX3_nextWaiting_2 : decode cX3_nextWaiting 2 = .ok (.iconst 0, 1) := by decide +kernel
theorem dX3_nextWaiting_3 : decode cX3_nextWaiting 3 = .ok (.istore_n 2, 1) := by decide +kernel
theorem dX3_nextWaiting_4 : decode cX3_nextWaiting 4 = .ok (.iload_n 2, 1) := by decide +kernel
theorem dX3_nextWaiting_5 : decode cX3_nextWaiting 5 = .ok (.aload_n 0, 1) := by decide +kernel
theorem dX3_nextWaiting_6 : decode cX3_nextWaiting 6 = .ok (.getfield 45, 3) := by decide +kernel
theorem dX3_nextWaiting_9 : decode cX3_nextWaiting 9 = .ok (.if_icmp .ge 44, 3) := by decide +kernel
theorem dX3_nextWaiting_12 : decode cX3_nextWaiting 12 = .ok (.aload_n 0, 1) := by decide +kernel
theorem dX3_nextWaiting_13 : decode cX3_nextWaiting 13 = .ok (.iload_n 2, 1) := by decide +kernel
theorem dX3_nextWaiting_14 : decode cX3_nextWaiting 14 = .ok (.invokevirtual 49, 3) := by decide +kernel
theorem dX3_nextWaiting_17 : decode cX3_nextWaiting 17 = .ok (.astore_n 3, 1) := by decide +kernel
theorem dX3_nextWaiting_18 : decode cX3_nextWaiting 18 = .ok (.aload_n 3, 1) := by decide +kernel
theorem dX3_nextWaiting_19 : decode cX3_nextWaiting 19 = .ok (.ifnull 28, 3) := by decide +kernel
theorem dX3_nextWaiting_22 : decode cX3_nextWaiting 22 = .ok (.aload_n 3, 1) := by decide +kernel
theorem dX3_nextWaiting_23 : decode cX3_nextWaiting 23 = .ok (.getfield 148, 3) := by decide +kernel
theorem dX3_nextWaiting_26 : decode cX3_nextWaiting 26 = .ok (.ifCond .eq 21, 3) := by decide +kernel
theorem dX3_nextWaiting_29 : decode cX3_nextWaiting 29 = .ok (.aload_n 1, 1) := by decide +kernel
theorem dX3_nextWaiting_30 : decode cX3_nextWaiting 30 = .ok (.ifnull 15, 3) := by decide +kernel
theorem dX3_nextWaiting_33 : decode cX3_nextWaiting 33 = .ok (.aload_n 3, 1) := by decide +kernel
theorem dX3_nextWaiting_34 : decode cX3_nextWaiting 34 = .ok (.getfield 156, 3) := by decide +kernel
theorem dX3_nextWaiting_37 : decode cX3_nextWaiting 37 = .ok (.aload_n 1, 1) := by decide +kernel
theorem dX3_nextWaiting_38 : decode cX3_nextWaiting 38 = .ok (.getfield 156, 3) := by decide +kernel
theorem dX3_nextWaiting_41 : decode cX3_nextWaiting 41 = .ok (.lcmp, 1) := by decide +kernel
theorem dX3_nextWaiting_42 : decode cX3_nextWaiting 42 = .ok (.ifCond .ge 5, 3) := by decide +kernel
theorem dX3_nextWaiting_45 : decode cX3_nextWaiting 45 = .ok (.aload_n 3, 1) := by decide +kernel
theorem dX3_nextWaiting_46 : decode cX3_nextWaiting 46 = .ok (.astore_n 1, 1) := by decide +kernel
theorem dX3_nextWaiting_47 : decode cX3_nextWaiting 47 = .ok (.iinc 2 1, 3) := by decide +kernel
theorem dX3_nextWaiting_50 : decode cX3_nextWaiting 50 = .ok (.goto (-46), 3) := by decide +kernel
theorem dX3_nextWaiting_53 : decode cX3_nextWaiting 53 = .ok (.aload_n 1, 1) := by decide +kernel
theorem dX3_nextWaiting_54 : decode cX3_nextWaiting 54 = .ok (.areturn, 1) := by decide +kernel
theorem dX3_giveLots_0 : decode cX3_giveLots 0 = .ok (.iconst 1, 1) := by decide +kernel
theorem dX3_giveLots_1 : decode cX3_giveLots 1 = .ok (.aload_n 1, 1) := by decide +kernel
theorem dX3_giveLots_2 : decode cX3_giveLots 2 = .ok (.getfield 87, 3) := by decide +kernel
theorem dX3_giveLots_5 : decode cX3_giveLots 5 = .ok (.ishl, 1) := by decide +kernel
theorem dX3_giveLots_6 : decode cX3_giveLots 6 = .ok (.istore_n 3, 1) := by decide +kernel
theorem dX3_giveLots_7 : decode cX3_giveLots 7 = .ok (.aload_n 0, 1) := by decide +kernel
theorem dX3_giveLots_8 : decode cX3_giveLots 8 = .ok (.getfield 138, 3) := by decide +kernel
theorem dX3_giveLots_11 : decode cX3_giveLots 11 = .ok (.aload_n 1, 1) := by decide +kernel
theorem dX3_giveLots_12 : decode cX3_giveLots 12 = .ok (.getfield 81, 3) := by decide +kernel
theorem dX3_giveLots_15 : decode cX3_giveLots 15 = .ok (.isub, 1) := by decide +kernel
theorem dX3_giveLots_16 : decode cX3_giveLots 16 = .ok (.istore 4, 2) := by decide +kernel
theorem dX3_giveLots_18 : decode cX3_giveLots 18 = .ok (.aload_n 0, 1) := by decide +kernel
theorem dX3_giveLots_19 : decode cX3_giveLots 19 = .ok (.getfield 141, 3) := by decide +kernel
theorem dX3_giveLots_22 : decode cX3_giveLots 22 = .ok (.iload_n 3, 1) := by decide +kernel
theorem dX3_giveLots_23 : decode cX3_giveLots 23 = .ok (.iand, 1) := by decide +kernel
theorem dX3_giveLots_24 : decode cX3_giveLots 24 = .ok (.ifCond .ne 27, 3) := by decide +kernel
theorem dX3_giveLots_27 : decode cX3_giveLots 27 = .ok (.aload_n 1, 1) := by decide +kernel
theorem dX3_giveLots_28 : decode cX3_giveLots 28 = .ok (.getfield 87, 3) := by decide +kernel
theorem dX3_giveLots_31 : decode cX3_giveLots 31 = .ok (.invokestatic 159, 3) := by decide +kernel
theorem dX3_giveLots_34 : decode cX3_giveLots 34 = .ok (.ifCond .eq 17, 3) := by decide +kernel
theorem dX3_giveLots_37 : decode cX3_giveLots 37 = .ok (.iload 4, 2) := by decide +kernel
theorem dX3_giveLots_39 : decode cX3_giveLots 39 = .ok (.aload_n 0, 1) := by decide +kernel
theorem dX3_giveLots_40 : decode cX3_giveLots 40 = .ok (.getfield 23, 3) := by decide +kernel
theorem dX3_giveLots_43 : decode cX3_giveLots 43 = .ok (.aload_n 1, 1) := by decide +kernel
theorem dX3_giveLots_44 : decode cX3_giveLots 44 = .ok (.getfield 87, 3) := by decide +kernel
theorem dX3_giveLots_47 : decode cX3_giveLots 47 = .ok (.iaload, 1) := by decide +kernel
theorem dX3_giveLots_48 : decode cX3_giveLots 48 = .ok (.isub, 1) := by decide +kernel
theorem dX3_giveLots_49 : decode cX3_giveLots 49 = .ok (.istore 4, 2) := by decide +kernel
theorem dX3_giveLots_51 : decode cX3_giveLots 51 = .ok (.aload_n 1, 1) := by decide +kernel
theorem dX3_giveLots_52 : decode cX3_giveLots 52 = .ok (.getfield 84, 3) := by decide +kernel
theorem dX3_giveLots_55 : decode cX3_giveLots 55 = .ok (.iconst 1, 1) := by decide +kernel
theorem dX3_giveLots_56 : decode cX3_giveLots 56 = .ok (.if_icmp .lt 12, 3) := by decide +kernel
theorem dX3_giveLots_59 : decode cX3_giveLots 59 = .ok (.iload 4, 2) := by decide +kernel
theorem dX3_giveLots_61 : decode cX3_giveLots 61 = .ok (.aload_n 1, 1) := by decide +kernel
theorem dX3_giveLots_62 : decode cX3_giveLots 62 = .ok (.getfield 84, 3) := by decide +kernel
theorem dX3_giveLots_65 : decode cX3_giveLots 65 = .ok (.if_icmp .ge 4, 3) := by decide +kernel
theorem dX3_giveLots_68 : decode cX3_giveLots 68 = .ok (.return_, 1) := by decide +kernel
theorem dX3_giveLots_69 : decode cX3_giveLots 69 = .ok (.aload_n 1, 1) := by decide +kernel
theorem dX3_giveLots_70 : decode cX3_giveLots 70 = .ok (.iload_n 2, 1) := by decide +kernel
theorem dX3_giveLots_71 : decode cX3_giveLots 71 = .ok (.aload_n 0, 1) := by decide +kernel
theorem dX3_giveLots_72 : decode cX3_giveLots 72 = .ok (.iconst 3, 1) := by decide +kernel
theorem dX3_giveLots_73 : decode cX3_giveLots 73 = .ok (.invokevirtual 70, 3) := by decide +kernel
theorem dX3_giveLots_76 : decode cX3_giveLots 76 = .ok (.invokevirtual 163, 3) := by decide +kernel
theorem dX3_giveLots_79 : decode cX3_giveLots 79 = .ok (.lstore 5, 2) := by decide +kernel
theorem dX3_giveLots_81 : decode cX3_giveLots 81 = .ok (.lload 5, 2) := by decide +kernel
theorem dX3_giveLots_83 : decode cX3_giveLots 83 = .ok (.iload 4, 2) := by decide +kernel
theorem dX3_giveLots_85 : decode cX3_giveLots 85 = .ok (.aload_n 1, 1) := by decide +kernel
theorem dX3_giveLots_86 : decode cX3_giveLots 86 = .ok (.getfield 84, 3) := by decide +kernel
theorem dX3_giveLots_89 : decode cX3_giveLots 89 = .ok (.idiv, 1) := by decide +kernel
theorem dX3_giveLots_90 : decode cX3_giveLots 90 = .ok (.sipush 1000, 3) := by decide +kernel
theorem dX3_giveLots_93 : decode cX3_giveLots 93 = .ok (.invokestatic 167, 3) := by decide +kernel
theorem dX3_giveLots_96 : decode cX3_giveLots 96 = .ok (.i2l, 1) := by decide +kernel
theorem dX3_giveLots_97 : decode cX3_giveLots 97 = .ok (.invokestatic 170, 3) := by decide +kernel
theorem dX3_giveLots_100 : decode cX3_giveLots 100 = .ok (.l2i, 1) := by decide +kernel
theorem dX3_giveLots_101 : decode cX3_giveLots 101 = .ok (.istore 7, 2) := by decide +kernel
theorem dX3_giveLots_103 : decode cX3_giveLots 103 = .ok (.aload_n 1, 1) := by decide +kernel
theorem dX3_giveLots_104 : decode cX3_giveLots 104 = .ok (.iload_n 2, 1) := by decide +kernel
theorem dX3_giveLots_105 : decode cX3_giveLots 105 = .ok (.iload 7, 2) := by decide +kernel
theorem dX3_giveLots_107 : decode cX3_giveLots 107 = .ok (.invokevirtual 173, 3) := by decide +kernel
theorem dX3_giveLots_110 : decode cX3_giveLots 110 = .ok (.aload_n 0, 1) := by decide +kernel
theorem dX3_giveLots_111 : decode cX3_giveLots 111 = .ok (.iload 4, 2) := by decide +kernel
theorem dX3_giveLots_113 : decode cX3_giveLots 113 = .ok (.iload 7, 2) := by decide +kernel
theorem dX3_giveLots_115 : decode cX3_giveLots 115 = .ok (.aload_n 1, 1) := by decide +kernel
theorem dX3_giveLots_116 : decode cX3_giveLots 116 = .ok (.getfield 84, 3) := by decide +kernel
theorem dX3_giveLots_119 : decode cX3_giveLots 119 = .ok (.imul, 1) := by decide +kernel
theorem dX3_giveLots_120 : decode cX3_giveLots 120 = .ok (.isub, 1) := by decide +kernel
theorem dX3_giveLots_121 : decode cX3_giveLots 121 = .ok (.putfield 138, 3) := by decide +kernel
theorem dX3_giveLots_124 : decode cX3_giveLots 124 = .ok (.aload_n 0, 1) := by decide +kernel
theorem dX3_giveLots_125 : decode cX3_giveLots 125 = .ok (.dup, 1) := by decide +kernel
theorem dX3_giveLots_126 : decode cX3_giveLots 126 = .ok (.getfield 141, 3) := by decide +kernel
theorem dX3_giveLots_129 : decode cX3_giveLots 129 = .ok (.iload_n 3, 1) := by decide +kernel
theorem dX3_giveLots_130 : decode cX3_giveLots 130 = .ok (.ior, 1) := by decide +kernel
theorem dX3_giveLots_131 : decode cX3_giveLots 131 = .ok (.putfield 141, 3) := by decide +kernel
theorem dX3_giveLots_134 : decode cX3_giveLots 134 = .ok (.return_, 1) := by decide +kernel
theorem dX3_isShort_0 : decode cX3_isShort 0 = .ok (.iconst 0, 1) := by decide +kernel
theorem dX3_isShort_1 : decode cX3_isShort 1 = .ok (.istore_n 1, 1) := by decide +kernel
theorem dX3_isShort_2 : decode cX3_isShort 2 = .ok (.iload_n 1, 1) := by decide +kernel
theorem dX3_isShort_3 : decode cX3_isShort 3 = .ok (.aload_n 0, 1) := by decide +kernel
theorem dX3_isShort_4 : decode cX3_isShort 4 = .ok (.getfield 45, 3) := by decide +kernel
theorem dX3_isShort_7 : decode cX3_isShort 7 = .ok (.if_icmp .ge 30, 3) := by decide +kernel
theorem dX3_isShort_10 : decode cX3_isShort 10 = .ok (.aload_n 0, 1) := by decide +kernel
theorem dX3_isShort_11 : decode cX3_isShort 11 = .ok (.iload_n 1, 1) := by decide +kernel
theorem dX3_isShort_12 : decode cX3_isShort 12 = .ok (.invokevirtual 49, 3) := by decide +kernel
theorem dX3_isShort_15 : decode cX3_isShort 15 = .ok (.astore_n 2, 1) := by decide +kernel
theorem dX3_isShort_16 : decode cX3_isShort 16 = .ok (.aload_n 2, 1) := by decide +kernel
theorem dX3_isShort_17 : decode cX3_isShort 17 = .ok (.ifnull 14, 3) := by decide +kernel
theorem dX3_isShort_20 : decode cX3_isShort 20 = .ok (.aload_n 2, 1) := by decide +kernel
theorem dX3_isShort_21 : decode cX3_isShort 21 = .ok (.getfield 156, 3) := by decide +kernel
theorem dX3_isShort_24 : decode cX3_isShort 24 = .ok (.lconst 0, 1) := by decide +kernel
theorem dX3_isShort_25 : decode cX3_isShort 25 = .ok (.lcmp, 1) := by decide +kernel
theorem dX3_isShort_26 : decode cX3_isShort 26 = .ok (.ifCond .ge 5, 3) := by decide +kernel
theorem dX3_isShort_29 : decode cX3_isShort 29 = .ok (.iconst 1, 1) := by decide +kernel
theorem dX3_isShort_30 : decode cX3_isShort 30 = .ok (.ireturn, 1) := by decide +kernel
theorem dX3_isShort_31 : decode cX3_isShort 31 = .ok (.iinc 1 1, 3) := by decide +kernel
theorem dX3_isShort_34 : decode cX3_isShort 34 = .ok (.goto (-32), 3) := by decide +kernel
theorem dX3_isShort_37 : decode cX3_isShort 37 = .ok (.iconst 0, 1) := by decide +kernel
theorem dX3_isShort_38 : decode cX3_isShort 38 = .ok (.ireturn, 1) := by decide +kernel
theorem dX3_passWeek_0 : decode cX3_passWeek 0 = .ok (.aload_n 0, 1) := by decide +kernel
theorem dX3_passWeek_1 : decode cX3_passWeek 1 = .ok (.iconst 0, 1) := by decide +kernel
theorem dX3_passWeek_2 : decode cX3_passWeek 2 = .ok (.invokevirtual 176, 3) := by decide +kernel
theorem dX3_passWeek_5 : decode cX3_passWeek 5 = .ok (.istore_n 1, 1) := by decide +kernel
theorem dX3_passWeek_6 : decode cX3_passWeek 6 = .ok (.aload_n 0, 1) := by decide +kernel
theorem dX3_passWeek_7 : decode cX3_passWeek 7 = .ok (.iconst 0, 1) := by decide +kernel
theorem dX3_passWeek_8 : decode cX3_passWeek 8 = .ok (.invokevirtual 179, 3) := by decide +kernel
theorem dX3_passWeek_11 : decode cX3_passWeek 11 = .ok (.istore_n 2, 1) := by decide +kernel
theorem dX3_passWeek_12 : decode cX3_passWeek 12 = .ok (.iconst 0, 1) := by decide +kernel
theorem dX3_passWeek_13 : decode cX3_passWeek 13 = .ok (.istore_n 3, 1) := by decide +kernel
theorem dX3_passWeek_14 : decode cX3_passWeek 14 = .ok (.iload_n 3, 1) := by decide +kernel
theorem dX3_passWeek_15 : decode cX3_passWeek 15 = .ok (.aload_n 0, 1) := by decide +kernel
theorem dX3_passWeek_16 : decode cX3_passWeek 16 = .ok (.getfield 45, 3) := by decide +kernel
theorem dX3_passWeek_19 : decode cX3_passWeek 19 = .ok (.if_icmp .ge 26, 3) := by decide +kernel
theorem dX3_passWeek_22 : decode cX3_passWeek 22 = .ok (.aload_n 0, 1) := by decide +kernel
theorem dX3_passWeek_23 : decode cX3_passWeek 23 = .ok (.iload_n 3, 1) := by decide +kernel
theorem dX3_passWeek_24 : decode cX3_passWeek 24 = .ok (.invokevirtual 49, 3) := by decide +kernel
theorem dX3_passWeek_27 : decode cX3_passWeek 27 = .ok (.astore 4, 2) := by decide +kernel
theorem dX3_passWeek_29 : decode cX3_passWeek 29 = .ok (.aload 4, 2) := by decide +kernel
theorem dX3_passWeek_31 : decode cX3_passWeek 31 = .ok (.ifnull 8, 3) := by decide +kernel
theorem dX3_passWeek_34 : decode cX3_passWeek 34 = .ok (.aload 4, 2) := by decide +kernel
theorem dX3_passWeek_36 : decode cX3_passWeek 36 = .ok (.invokevirtual 182, 3) := by decide +kernel
theorem dX3_passWeek_39 : decode cX3_passWeek 39 = .ok (.iinc 3 1, 3) := by decide +kernel
theorem dX3_passWeek_42 : decode cX3_passWeek 42 = .ok (.goto (-28), 3) := by decide +kernel
theorem dX3_passWeek_45 : decode cX3_passWeek 45 = .ok (.aload_n 0, 1) := by decide +kernel
theorem dX3_passWeek_46 : decode cX3_passWeek 46 = .ok (.dup, 1) := by decide +kernel
theorem dX3_passWeek_47 : decode cX3_passWeek 47 = .ok (.getfield 60, 3) := by decide +kernel
theorem dX3_passWeek_50 : decode cX3_passWeek 50 = .ok (.iload_n 1, 1) := by decide +kernel
theorem dX3_passWeek_51 : decode cX3_passWeek 51 = .ok (.i2l, 1) := by decide +kernel
theorem dX3_passWeek_52 : decode cX3_passWeek 52 = .ok (.ladd, 1) := by decide +kernel
theorem dX3_passWeek_53 : decode cX3_passWeek 53 = .ok (.putfield 60, 3) := by decide +kernel
theorem dX3_passWeek_56 : decode cX3_passWeek 56 = .ok (.aload_n 0, 1) := by decide +kernel
theorem dX3_passWeek_57 : decode cX3_passWeek 57 = .ok (.dup, 1) := by decide +kernel
theorem dX3_passWeek_58 : decode cX3_passWeek 58 = .ok (.getfield 64, 3) := by decide +kernel
theorem dX3_passWeek_61 : decode cX3_passWeek 61 = .ok (.iload_n 2, 1) := by decide +kernel
theorem dX3_passWeek_62 : decode cX3_passWeek 62 = .ok (.i2l, 1) := by decide +kernel
theorem dX3_passWeek_63 : decode cX3_passWeek 63 = .ok (.ladd, 1) := by decide +kernel
theorem dX3_passWeek_64 : decode cX3_passWeek 64 = .ok (.putfield 64, 3) := by decide +kernel
theorem dX3_passWeek_67 : decode cX3_passWeek 67 = .ok (.aload_n 0, 1) := by decide +kernel
theorem dX3_passWeek_68 : decode cX3_passWeek 68 = .ok (.dup, 1) := by decide +kernel
theorem dX3_passWeek_69 : decode cX3_passWeek 69 = .ok (.getfield 67, 3) := by decide +kernel
theorem dX3_passWeek_72 : decode cX3_passWeek 72 = .ok (.iload_n 1, 1) := by decide +kernel
theorem dX3_passWeek_73 : decode cX3_passWeek 73 = .ok (.i2l, 1) := by decide +kernel
theorem dX3_passWeek_74 : decode cX3_passWeek 74 = .ok (.aload_n 0, 1) := by decide +kernel
theorem dX3_passWeek_75 : decode cX3_passWeek 75 = .ok (.iconst 5, 1) := by decide +kernel
theorem dX3_passWeek_76 : decode cX3_passWeek 76 = .ok (.invokevirtual 70, 3) := by decide +kernel
theorem dX3_passWeek_79 : decode cX3_passWeek 79 = .ok (.i2l, 1) := by decide +kernel
theorem dX3_passWeek_80 : decode cX3_passWeek 80 = .ok (.lmul, 1) := by decide +kernel
theorem dX3_passWeek_81 : decode cX3_passWeek 81 = .ok (.iload_n 2, 1) := by decide +kernel
theorem dX3_passWeek_82 : decode cX3_passWeek 82 = .ok (.i2l, 1) := by decide +kernel
theorem dX3_passWeek_83 : decode cX3_passWeek 83 = .ok (.aload_n 0, 1) := by decide +kernel
theorem dX3_passWeek_84 : decode cX3_passWeek 84 = .ok (.bipush 8, 2) := by decide +kernel
theorem dX3_passWeek_86 : decode cX3_passWeek 86 = .ok (.invokevirtual 70, 3) := by decide +kernel
theorem dX3_passWeek_89 : decode cX3_passWeek 89 = .ok (.i2l, 1) := by decide +kernel
theorem dX3_passWeek_90 : decode cX3_passWeek 90 = .ok (.lmul, 1) := by decide +kernel
theorem dX3_passWeek_91 : decode cX3_passWeek 91 = .ok (.ladd, 1) := by decide +kernel
theorem dX3_passWeek_92 : decode cX3_passWeek 92 = .ok (.aload_n 0, 1) := by decide +kernel
theorem dX3_passWeek_93 : decode cX3_passWeek 93 = .ok (.invokevirtual 185, 3) := by decide +kernel
theorem dX3_passWeek_96 : decode cX3_passWeek 96 = .ok (.aload_n 0, 1) := by decide +kernel
theorem dX3_passWeek_97 : decode cX3_passWeek 97 = .ok (.bipush 6, 2) := by decide +kernel
theorem dX3_passWeek_99 : decode cX3_passWeek 99 = .ok (.invokevirtual 70, 3) := by decide +kernel
theorem dX3_passWeek_102 : decode cX3_passWeek 102 = .ok (.i2l, 1) := by decide +kernel
theorem dX3_passWeek_103 : decode cX3_passWeek 103 = .ok (.lmul, 1) := by decide +kernel
theorem dX3_passWeek_104 : decode cX3_passWeek 104 = .ok (.ladd, 1) := by decide +kernel
theorem dX3_passWeek_105 : decode cX3_passWeek 105 = .ok (.aload_n 0, 1) := by decide +kernel
theorem dX3_passWeek_106 : decode cX3_passWeek 106 = .ok (.invokevirtual 189, 3) := by decide +kernel
theorem dX3_passWeek_109 : decode cX3_passWeek 109 = .ok (.aload_n 0, 1) := by decide +kernel
theorem dX3_passWeek_110 : decode cX3_passWeek 110 = .ok (.bipush 7, 2) := by decide +kernel
theorem dX3_passWeek_112 : decode cX3_passWeek 112 = .ok (.invokevirtual 70, 3) := by decide +kernel
theorem dX3_passWeek_115 : decode cX3_passWeek 115 = .ok (.i2l, 1) := by decide +kernel
theorem dX3_passWeek_116 : decode cX3_passWeek 116 = .ok (.lmul, 1) := by decide +kernel
theorem dX3_passWeek_117 : decode cX3_passWeek 117 = .ok (.ladd, 1) := by decide +kernel
theorem dX3_passWeek_118 : decode cX3_passWeek 118 = .ok (.ladd, 1) := by decide +kernel
theorem dX3_passWeek_119 : decode cX3_passWeek 119 = .ok (.putfield 67, 3) := by decide +kernel
theorem dX3_passWeek_122 : decode cX3_passWeek 122 = .ok (.aload_n 0, 1) := by decide +kernel
theorem dX3_passWeek_123 : decode cX3_passWeek 123 = .ok (.dup, 1) := by decide +kernel
theorem dX3_passWeek_124 : decode cX3_passWeek 124 = .ok (.getfield 57, 3) := by decide +kernel
theorem dX3_passWeek_127 : decode cX3_passWeek 127 = .ok (.iconst 1, 1) := by decide +kernel
theorem dX3_passWeek_128 : decode cX3_passWeek 128 = .ok (.iadd, 1) := by decide +kernel
theorem dX3_passWeek_129 : decode cX3_passWeek 129 = .ok (.putfield 57, 3) := by decide +kernel
theorem dX3_passWeek_132 : decode cX3_passWeek 132 = .ok (.return_, 1) := by decide +kernel
theorem dX4_init_0 : decode cX4_init 0 = .ok (.aload_n 0, 1) := by decide +kernel
theorem dX4_init_1 : decode cX4_init 1 = .ok (.invokespecial 1, 3) := by decide +kernel
theorem dX4_init_4 : decode cX4_init 4 = .ok (.aload_n 0, 1) := by decide +kernel
theorem dX4_init_5 : decode cX4_init 5 = .ok (.new 7, 3) := by decide +kernel
theorem dX4_init_8 : decode cX4_init 8 = .ok (.dup, 1) := by decide +kernel
theorem dX4_init_9 : decode cX4_init 9 = .ok (.invokespecial 9, 3) := by decide +kernel
theorem dX4_init_12 : decode cX4_init 12 = .ok (.putfield 10, 3) := by decide +kernel
theorem dX4_init_15 : decode cX4_init 15 = .ok (.aload_n 0, 1) := by decide +kernel
theorem dX4_init_16 : decode cX4_init 16 = .ok (.new 7, 3) := by decide +kernel
theorem dX4_init_19 : decode cX4_init 19 = .ok (.dup, 1) := by decide +kernel
theorem dX4_init_20 : decode cX4_init 20 = .ok (.invokespecial 9, 3) := by decide +kernel
theorem dX4_init_23 : decode cX4_init 23 = .ok (.putfield 16, 3) := by decide +kernel
theorem dX4_init_26 : decode cX4_init 26 = .ok (.aload_n 0, 1) := by decide +kernel
theorem dX4_init_27 : decode cX4_init 27 = .ok (.new 19, 3) := by decide +kernel
theorem dX4_init_30 : decode cX4_init 30 = .ok (.dup, 1) := by decide +kernel
theorem dX4_init_31 : decode cX4_init 31 = .ok (.invokespecial 21, 3) := by decide +kernel
theorem dX4_init_34 : decode cX4_init 34 = .ok (.putfield 22, 3) := by decide +kernel
theorem dX4_init_37 : decode cX4_init 37 = .ok (.aload_n 0, 1) := by decide +kernel
theorem dX4_init_38 : decode cX4_init 38 = .ok (.new 26, 3) := by decide +kernel
theorem dX4_init_41 : decode cX4_init 41 = .ok (.dup, 1) := by decide +kernel
theorem dX4_init_42 : decode cX4_init 42 = .ok (.invokespecial 28, 3) := by decide +kernel
theorem dX4_init_45 : decode cX4_init 45 = .ok (.putfield 29, 3) := by decide +kernel
theorem dX4_init_48 : decode cX4_init 48 = .ok (.aload_n 0, 1) := by decide +kernel
theorem dX4_init_49 : decode cX4_init 49 = .ok (.iconst 2, 1) := by decide +kernel
theorem dX4_init_50 : decode cX4_init 50 = .ok (.anewarray 7, 3) := by decide +kernel
theorem dX4_init_53 : decode cX4_init 53 = .ok (.putfield 33, 3) := by decide +kernel
theorem dX4_init_56 : decode cX4_init 56 = .ok (.aload_n 0, 1) := by decide +kernel
theorem dX4_init_57 : decode cX4_init 57 = .ok (.iconst 2, 1) := by decide +kernel
theorem dX4_init_58 : decode cX4_init 58 = .ok (.newarray .boolean, 2) := by decide +kernel
theorem dX4_init_60 : decode cX4_init 60 = .ok (.putfield 37, 3) := by decide +kernel
theorem dX4_init_63 : decode cX4_init 63 = .ok (.iconst 0, 1) := by decide +kernel
theorem dX4_init_64 : decode cX4_init 64 = .ok (.istore_n 1, 1) := by decide +kernel
theorem dX4_init_65 : decode cX4_init 65 = .ok (.iload_n 1, 1) := by decide +kernel
theorem dX4_init_66 : decode cX4_init 66 = .ok (.iconst 2, 1) := by decide +kernel
theorem dX4_init_67 : decode cX4_init 67 = .ok (.if_icmp .ge 22, 3) := by decide +kernel
theorem dX4_init_70 : decode cX4_init 70 = .ok (.aload_n 0, 1) := by decide +kernel
theorem dX4_init_71 : decode cX4_init 71 = .ok (.getfield 33, 3) := by decide +kernel
theorem dX4_init_74 : decode cX4_init 74 = .ok (.iload_n 1, 1) := by decide +kernel
theorem dX4_init_75 : decode cX4_init 75 = .ok (.new 7, 3) := by decide +kernel
theorem dX4_init_78 : decode cX4_init 78 = .ok (.dup, 1) := by decide +kernel
theorem dX4_init_79 : decode cX4_init 79 = .ok (.invokespecial 9, 3) := by decide +kernel
theorem dX4_init_82 : decode cX4_init 82 = .ok (.aastore, 1) := by decide +kernel
theorem dX4_init_83 : decode cX4_init 83 = .ok (.iinc 1 1, 3) := by decide +kernel
theorem dX4_init_86 : decode cX4_init 86 = .ok (.goto (-21), 3) := by decide +kernel
theorem dX4_init_89 : decode cX4_init 89 = .ok (.return_, 1) := by decide +kernel
theorem dX4_set_0 : decode cX4_set 0 = .ok (.iload_n 1, 1) := by decide +kernel
theorem dX4_set_1 : decode cX4_set 1 = .ok (.iconst 0, 1) := by decide +kernel
theorem dX4_set_2 : decode cX4_set 2 = .ok (.bipush 8, 2) := by decide +kernel
theorem dX4_set_4 : decode cX4_set 4 = .ok (.invokestatic 41, 3) := by decide +kernel
theorem dX4_set_7 : decode cX4_set 7 = .ok (.ifCond .ne 6, 3) := by decide +kernel
theorem dX4_set_10 : decode cX4_set 10 = .ok (.bipush (-2), 2) := by decide +kernel
theorem dX4_set_12 : decode cX4_set 12 = .ok (.ireturn, 1) := by decide +kernel
theorem dX4_set_13 : decode cX4_set 13 = .ok (.iload_n 2, 1) := by decide +kernel
theorem dX4_set_14 : decode cX4_set 14 = .ok (.getstatic 45, 3) := by decide +kernel
theorem dX4_set_17 : decode cX4_set 17 = .ok (.iload_n 1, 1) := by decide +kernel
theorem dX4_set_18 : decode cX4_set 18 = .ok (.iaload, 1) := by decide +kernel
theorem dX4_set_19 : decode cX4_set 19 = .ok (.getstatic 49, 3) := by decide +kernel
theorem dX4_set_22 : decode cX4_set 22 = .ok (.iload_n 1, 1) := by decide +kernel
theorem dX4_set_23 : decode cX4_set 23 = .ok (.iaload, 1) := by decide +kernel
theorem dX4_set_24 : decode cX4_set 24 = .ok (.invokestatic 41, 3) := by decide +kernel
theorem dX4_set_27 : decode cX4_set 27 = .ok (.ifCond .ne 6, 3) := by decide +kernel
theorem dX4_set_30 : decode cX4_set 30 = .ok (.bipush (-2), 2) := by decide +kernel
theorem dX4_set_32 : decode cX4_set 32 = .ok (.ireturn, 1) := by decide +kernel
theorem dX4_set_33 : decode cX4_set 33 = .ok (.aload_n 0, 1) := by decide +kernel
theorem dX4_set_34 : decode cX4_set 34 = .ok (.getfield 29, 3) := by decide +kernel
theorem dX4_set_37 : decode cX4_set 37 = .ok (.aload_n 0, 1) := by decide +kernel
theorem dX4_set_38 : decode cX4_set 38 = .ok (.getfield 10, 3) := by decide +kernel
theorem dX4_set_41 : decode cX4_set 41 = .ok (.invokevirtual 52, 3) := by decide +kernel
theorem dX4_set_44 : decode cX4_set 44 = .ok (.aload_n 0, 1) := by decide +kernel
theorem dX4_set_45 : decode cX4_set 45 = .ok (.getfield 10, 3) := by decide +kernel
theorem dX4_set_48 : decode cX4_set 48 = .ok (.iload_n 1, 1) := by decide +kernel
theorem dX4_set_49 : decode cX4_set 49 = .ok (.invokevirtual 56, 3) := by decide +kernel
theorem dX4_set_52 : decode cX4_set 52 = .ok (.istore_n 3, 1) := by decide +kernel
theorem dX4_set_53 : decode cX4_set 53 = .ok (.aload_n 0, 1) := by decide +kernel
theorem dX4_set_54 : decode cX4_set 54 = .ok (.getfield 10, 3) := by decide +kernel
theorem dX4_set_57 : decode cX4_set 57 = .ok (.iload_n 1, 1) := by decide +kernel
theorem dX4_set_58 : decode cX4_set 58 = .ok (.iload_n 2, 1) := by decide +kernel
theorem dX4_set_59 : decode cX4_set 59 = .ok (.invokevirtual 60, 3) := by decide +kernel
theorem dX4_set_62 : decode cX4_set 62 = .ok (.iload_n 3, 1) := by decide +kernel
theorem dX4_set_63 : decode cX4_set 63 = .ok (.ireturn, 1) := by decide +kernel
theorem dX4_product_0 : decode cX4_product 0 = .ok (.iload_n 1, 1) := by decide +kernel
theorem dX4_product_1 : decode cX4_product 1 = .ok (.invokestatic 64, 3) := by decide +kernel
theorem dX4_product_4 : decode cX4_product 4 = .ok (.ifCond .eq 46, 3) := by decide +kernel
theorem dX4_product_7 : decode cX4_product 7 = .ok (.iload_n 2, 1) := by decide +kernel
theorem dX4_product_8 : decode cX4_product 8 = .ok (.iconst 1, 1) := by decide +kernel
theorem dX4_product_9 : decode cX4_product 9 = .ok (.bipush 100, 2) := by decide +kernel
theorem dX4_product_11 : decode cX4_product 11 = .ok (.invokestatic 41, 3) := by decide +kernel
theorem dX4_product_14 : decode cX4_product 14 = .ok (.ifCond .eq 36, 3) := by decide +kernel
theorem dX4_product_17 : decode cX4_product 17 = .ok (.iload_n 3, 1) := by decide +kernel
theorem dX4_product_18 : decode cX4_product 18 = .ok (.iconst 1, 1) := by decide +kernel
theorem dX4_product_19 : decode cX4_product 19 = .ok (.bipush 50, 2) := by decide +kernel
theorem dX4_product_21 : decode cX4_product 21 = .ok (.invokestatic 41, 3) := by decide +kernel
theorem dX4_product_24 : decode cX4_product 24 = .ok (.ifCond .eq 26, 3) := by decide +kernel
theorem dX4_product_27 : decode cX4_product 27 = .ok (.iload 4, 2) := by decide +kernel
theorem dX4_product_29 : decode cX4_product 29 = .ok (.iconst 0, 1) := by decide +kernel
theorem dX4_product_30 : decode cX4_product 30 = .ok (.bipush 20, 2) := by decide +kernel
theorem dX4_product_32 : decode cX4_product 32 = .ok (.invokestatic 41, 3) := by decide +kernel
theorem dX4_product_35 : decode cX4_product 35 = .ok (.ifCond .eq 15, 3) := by decide +kernel
theorem dX4_product_38 : decode cX4_product 38 = .ok (.iload 5, 2) := by decide +kernel
theorem dX4_product_40 : decode cX4_product 40 = .ok (.iconst 0, 1) := by decide +kernel
theorem dX4_product_41 : decode cX4_product 41 = .ok (.sipush 10000, 3) := by decide +kernel
theorem dX4_product_44 : decode cX4_product 44 = .ok (.invokestatic 41, 3) := by decide +kernel
theorem dX4_product_47 : decode cX4_product 47 = .ok (.ifCond .ne 6, 3) := by decide +kernel
theorem dX4_product_50 : decode cX4_product 50 = .ok (.bipush (-2), 2) := by decide +kernel
theorem dX4_product_52 : decode cX4_product 52 = .ok (.ireturn, 1) := by decide +kernel
theorem dX4_product_53 : decode cX4_product 53 = .ok (.aload_n 0, 1) := by decide +kernel
theorem dX4_product_54 : decode cX4_product 54 = .ok (.getfield 10, 3) := by decide +kernel
theorem dX4_product_57 : decode cX4_product 57 = .ok (.invokevirtual 68, 3) := by decide +kernel
theorem dX4_product_60 : decode cX4_product 60 = .ok (.astore 6, 2) := by decide +kernel
theorem dX4_product_62 : decode cX4_product 62 = .ok (.aload 6, 2) := by decide +kernel
theorem dX4_product_64 : decode cX4_product 64 = .ok (.ifnonnull 6, 3) := by decide +kernel
theorem dX4_product_67 : decode cX4_product 67 = .ok (.bipush (-4), 2) := by decide +kernel
theorem dX4_product_69 : decode cX4_product 69 = .ok (.ireturn, 1) := by decide +kernel
theorem dX4_product_70 : decode cX4_product 70 = .ok (.aload_n 0, 1) := by decide +kernel
theorem dX4_product_71 : decode cX4_product 71 = .ok (.getfield 29, 3) := by decide +kernel
theorem dX4_product_74 : decode cX4_product 74 = .ok (.aload_n 0, 1) := by decide +kernel
theorem dX4_product_75 : decode cX4_product 75 = .ok (.getfield 10, 3) := by decide +kernel
theorem dX4_product_78 : decode cX4_product 78 = .ok (.invokevirtual 52, 3) := by decide +kernel
theorem dX4_product_81 : decode cX4_product 81 = .ok (.aload 6, 2) := by decide +kernel
theorem dX4_product_83 : decode cX4_product 83 = .ok (.iload_n 1, 1) := by decide +kernel
theorem dX4_product_84 : decode cX4_product 84 = .ok (.iload_n 2, 1) := by decide +kernel
theorem dX4_product_85 : decode cX4_product 85 = .ok (.iload_n 3, 1) := by decide +kernel
theorem dX4_product_86 : decode cX4_product 86 = .ok (.iload 4, 2) := by decide +kernel
theorem dX4_product_88 : decode cX4_product 88 = .ok (.iload 5, 2) := by decide +kernel
theorem dX4_product_90 : decode cX4_product 90 = .ok (.invokevirtual 72, 3) := by decide +kernel
theorem dX4_product_93 : decode cX4_product 93 = .ok (.aload_n 0, 1) := by decide +kernel
theorem dX4_product_94 : decode cX4_product 94 = .ok (.getfield 10, 3) := by decide +kernel
theorem dX4_product_97 : decode cX4_product 97 = .ok (.getfield 78, 3) := by decide +kernel
theorem dX4_product_100 : decode cX4_product 100 = .ok (.istore 7, 2) := by decide +kernel
theorem dX4_product_102 : decode cX4_product 102 = .ok (.aload_n 0, 1) := by decide +kernel
theorem dX4_product_103 : decode cX4_product 103 = .ok (.getfield 10, 3) := by decide +kernel
theorem dX4_product_106 : decode cX4_product 106 = .ok (.iload 7, 2) := by decide +kernel
theorem dX4_product_108 : decode cX4_product 108 = .ok (.iconst 1, 1) := by decide +kernel
theorem dX4_product_109 : decode cX4_product 109 = .ok (.iadd, 1) := by decide +kernel
theorem dX4_product_110 : decode cX4_product 110 = .ok (.putfield 78, 3) := by decide +kernel
theorem dX4_product_113 : decode cX4_product 113 = .ok (.iload 7, 2) := by decide +kernel
theorem dX4_product_115 : decode cX4_product 115 = .ok (.ireturn, 1) := by decide +kernel
theorem dX4_family_0 : decode cX4_family 0 = .ok (.iload_n 1, 1) := by decide +kernel
theorem dX4_family_1 : decode cX4_family 1 = .ok (.invokestatic 64, 3) := by decide +kernel
theorem dX4_family_4 : decode cX4_family 4 = .ok (.ifCond .ne 5, 3) := by decide +kernel
theorem dX4_family_7 : decode cX4_family 7 = .ok (.iconst (-1), 1) := by decide +kernel
theorem dX4_family_8 : decode cX4_family 8 = .ok (.ireturn, 1) := by decide +kernel
theorem dX4_family_9 : decode cX4_family 9 = .ok (.iload_n 2, 1) := by decide +kernel
theorem dX4_family_10 : decode cX4_family 10 = .ok (.iconst 0, 1) := by decide +kernel
theorem dX4_family_11 : decode cX4_family 11 = .ok (.bipush 50, 2) := by decide +kernel
theorem dX4_family_13 : decode cX4_family 13 = .ok (.invokestatic 41, 3) := by decide +kernel
theorem dX4_family_16 : decode cX4_family 16 = .ok (.ifCond .ne 6, 3) := by decide +kernel
theorem dX4_family_19 : decode cX4_family 19 = .ok (.bipush (-2), 2) := by decide +kernel
theorem dX4_family_21 : decode cX4_family 21 = .ok (.ireturn, 1) := by decide +kernel
theorem dX4_family_22 : decode cX4_family 22 = .ok (.aload_n 0, 1) := by decide +kernel
theorem dX4_family_23 : decode cX4_family 23 = .ok (.getfield 29, 3) := by decide +kernel
theorem dX4_family_26 : decode cX4_family 26 = .ok (.aload_n 0, 1) := by decide +kernel
theorem dX4_family_27 : decode cX4_family 27 = .ok (.getfield 10, 3) := by decide +kernel
theorem dX4_family_30 : decode cX4_family 30 = .ok (.invokevirtual 52, 3) := by decide +kernel
theorem dX4_family_33 : decode cX4_family 33 = .ok (.aload_n 0, 1) := by decide +kernel
theorem dX4_family_34 : decode cX4_family 34 = .ok (.getfield 10, 3) := by decide +kernel
theorem dX4_family_37 : decode cX4_family 37 = .ok (.getfield 82, 3) := by decide +kernel
theorem dX4_family_40 : decode cX4_family 40 = .ok (.iload_n 1, 1) := by decide +kernel
theorem dX4_family_41 : decode cX4_family 41 = .ok (.iaload, 1) := by decide +kernel
theorem dX4_family_42 : decode cX4_family 42 = .ok (.istore_n 3, 1) := by decide +kernel
theorem dX4_family_43 : decode cX4_family 43 = .ok (.aload_n 0, 1) := by decide +kernel
theorem dX4_family_44 : decode cX4_family 44 = .ok (.getfield 10, 3) := by decide +kernel
theorem dX4_family_47 : decode cX4_family 47 = .ok (.getfield 82, 3) := by decide +kernel
theorem dX4_family_50 : decode cX4_family 50 = .ok (.iload_n 1, 1) := by decide +kernel
theorem dX4_family_51 : decode cX4_family 51 = .ok (.iload_n 2, 1) := by decide +kernel
theorem dX4_family_52 : decode cX4_family 52 = .ok (.iastore, 1) := by decide +kernel
theorem dX4_family_53 : decode cX4_family 53 = .ok (.iload_n 3, 1) := by decide +kernel
theorem dX4_family_54 : decode cX4_family 54 = .ok (.ireturn, 1) := by decide +kernel
theorem dX4_forecast_0 : decode cX4_forecast 0 = .ok (.aload_n 0, 1) := by decide +kernel
theorem dX4_forecast_1 : decode cX4_forecast 1 = .ok (.getfield 10, 3) := by decide +kernel
theorem dX4_forecast_4 : decode cX4_forecast 4 = .ok (.iload_n 1, 1) := by decide +kernel
theorem dX4_forecast_5 : decode cX4_forecast 5 = .ok (.invokevirtual 85, 3) := by decide +kernel
theorem dX4_forecast_8 : decode cX4_forecast 8 = .ok (.astore 4, 2) := by decide +kernel
theorem dX4_forecast_10 : decode cX4_forecast 10 = .ok (.aload 4, 2) := by decide +kernel
theorem dX4_forecast_12 : decode cX4_forecast 12 = .ok (.ifnull 10, 3) := by decide +kernel
theorem dX4_forecast_15 : decode cX4_forecast 15 = .ok (.iload_n 2, 1) := by decide +kernel
theorem dX4_forecast_16 : decode cX4_forecast 16 = .ok (.invokestatic 89, 3) := by decide +kernel
theorem dX4_forecast_19 : decode cX4_forecast 19 = .ok (.ifCond .ne 5, 3) := by decide +kernel
theorem dX4_forecast_22 : decode cX4_forecast 22 = .ok (.iconst (-1), 1) := by decide +kernel
theorem dX4_forecast_23 : decode cX4_forecast 23 = .ok (.ireturn, 1) := by decide +kernel
theorem dX4_forecast_24 : decode cX4_forecast 24 = .ok (.iload_n 3, 1) := by decide +kernel
theorem dX4_forecast_25 : decode cX4_forecast 25 = .ok (.iconst 0, 1) := by decide +kernel
theorem dX4_forecast_26 : decode cX4_forecast 26 = .ok (.sipush 1000, 3) := by decide +kernel
theorem dX4_forecast_29 : decode cX4_forecast 29 = .ok (.invokestatic 41, 3) := by decide +kernel
theorem dX4_forecast_32 : decode cX4_forecast 32 = .ok (.ifCond .ne 6, 3) := by decide +kernel
theorem dX4_forecast_35 : decode cX4_forecast 35 = .ok (.bipush (-2), 2) := by decide +kernel
theorem dX4_forecast_37 : decode cX4_forecast 37 = .ok (.ireturn, 1) := by decide +kernel
theorem dX4_forecast_38 : decode cX4_forecast 38 = .ok (.aload_n 0, 1) := by decide +kernel
theorem dX4_forecast_39 : decode cX4_forecast 39 = .ok (.getfield 29, 3) := by decide +kernel
theorem dX4_forecast_42 : decode cX4_forecast 42 = .ok (.aload_n 0, 1) := by decide +kernel
theorem dX4_forecast_43 : decode cX4_forecast 43 = .ok (.getfield 10, 3) := by decide +kernel
theorem dX4_forecast_46 : decode cX4_forecast 46 = .ok (.invokevirtual 52, 3) := by decide +kernel
theorem dX4_forecast_49 : decode cX4_forecast 49 = .ok (.aload 4, 2) := by decide +kernel
theorem dX4_forecast_51 : decode cX4_forecast 51 = .ok (.getfield 92, 3) := by decide +kernel
theorem dX4_forecast_54 : decode cX4_forecast 54 = .ok (.iload_n 2, 1) := by decide +kernel
theorem dX4_forecast_55 : decode cX4_forecast 55 = .ok (.iaload, 1) := by decide +kernel
theorem dX4_forecast_56 : decode cX4_forecast 56 = .ok (.istore 5, 2) := by decide +kernel
theorem dX4_forecast_58 : decode cX4_forecast 58 = .ok (.aload 4, 2) := by decide +kernel
theorem dX4_forecast_60 : decode cX4_forecast 60 = .ok (.getfield 92, 3) := by decide +kernel
theorem dX4_forecast_63 : decode cX4_forecast 63 = .ok (.iload_n 2, 1) := by decide +kernel
theorem dX4_forecast_64 : decode cX4_forecast 64 = .ok (.iload_n 3, 1) := by decide +kernel
theorem dX4_forecast_65 : decode cX4_forecast 65 = .ok (.iastore, 1) := by decide +kernel
theorem dX4_forecast_66 : decode cX4_forecast 66 = .ok (.iload 5, 2) := by decide +kernel
theorem dX4_forecast_68 : decode cX4_forecast 68 = .ok (.ireturn, 1) := by decide +kernel
theorem dX4_actual_0 : decode cX4_actual 0 = .ok (.aload_n 0, 1) := by decide +kernel
theorem dX4_actual_1 : decode cX4_actual 1 = .ok (.getfield 10, 3) := by decide +kernel
theorem dX4_actual_4 : decode cX4_actual 4 = .ok (.iload_n 1, 1) := by decide +kernel
theorem dX4_actual_5 : decode cX4_actual 5 = .ok (.invokevirtual 85, 3) := by decide +kernel
theorem dX4_actual_8 : decode cX4_actual 8 = .ok (.astore_n 3, 1) := by decide +kernel
theorem dX4_actual_9 : decode cX4_actual 9 = .ok (.aload_n 3, 1) := by decide +kernel
theorem dX4_actual_10 : decode cX4_actual 10 = .ok (.ifnonnull 5, 3) := by decide +kernel
theorem dX4_actual_13 : decode cX4_actual 13 = .ok (.iconst (-1), 1) := by decide +kernel
theorem dX4_actual_14 : decode cX4_actual 14 = .ok (.ireturn, 1) := by decide +kernel
theorem dX4_actual_15 : decode cX4_actual 15 = .ok (.iload_n 2, 1) := by decide +kernel
theorem dX4_actual_16 : decode cX4_actual 16 = .ok (.bipush (-6), 2) := by decide +kernel
theorem dX4_actual_18 : decode cX4_actual 18 = .ok (.if_icmp .eq 17, 3) := by decide +kernel
theorem dX4_actual_21 : decode cX4_actual 21 = .ok (.iload_n 2, 1) := by decide +kernel
theorem dX4_actual_22 : decode cX4_actual 22 = .ok (.iconst 0, 1) := by decide +kernel
theorem dX4_actual_23 : decode cX4_actual 23 = .ok (.sipush 2000, 3) := by decide +kernel
theorem dX4_actual_26 : decode cX4_actual 26 = .ok (.invokestatic 41, 3) := by decide +kernel
theorem dX4_actual_29 : decode cX4_actual 29 = .ok (.ifCond .ne 6, 3) := by decide +kernel
theorem dX4_actual_32 : decode cX4_actual 32 = .ok (.bipush (-2), 2) := by decide +kernel
theorem dX4_actual_34 : decode cX4_actual 34 = .ok (.ireturn, 1) := by decide +kernel
theorem dX4_actual_35 : decode cX4_actual 35 = .ok (.aload_n 0, 1) := by decide +kernel
theorem dX4_actual_36 : decode cX4_actual 36 = .ok (.getfield 29, 3) := by decide +kernel
theorem dX4_actual_39 : decode cX4_actual 39 = .ok (.aload_n 0, 1) := by decide +kernel
theorem dX4_actual_40 : decode cX4_actual 40 = .ok (.getfield 10, 3) := by decide +kernel
theorem dX4_actual_43 : decode cX4_actual 43 = .ok (.invokevirtual 52, 3) := by decide +kernel
theorem dX4_actual_46 : decode cX4_actual 46 = .ok (.aload_n 3, 1) := by decide +kernel
theorem dX4_actual_47 : decode cX4_actual 47 = .ok (.getfield 95, 3) := by decide +kernel
theorem dX4_actual_50 : decode cX4_actual 50 = .ok (.istore 4, 2) := by decide +kernel
theorem dX4_actual_52 : decode cX4_actual 52 = .ok (.aload_n 3, 1) := by decide +kernel
theorem dX4_actual_53 : decode cX4_actual 53 = .ok (.iload_n 2, 1) := by decide +kernel
theorem dX4_actual_54 : decode cX4_actual 54 = .ok (.putfield 95, 3) := by decide +kernel
theorem dX4_actual_57 : decode cX4_actual 57 = .ok (.iload 4, 2) := by decide +kernel
theorem dX4_actual_59 : decode cX4_actual 59 = .ok (.ireturn, 1) := by decide +kernel
theorem dX4_lots_0 : decode cX4_lots 0 = .ok (.aload_n 0, 1) := by decide +kernel
theorem dX4_lots_1 : decode cX4_lots 1 = .ok (.getfield 10, 3) := by decide +kernel
theorem dX4_lots_4 : decode cX4_lots 4 = .ok (.iload_n 1, 1) := by decide +kernel
theorem dX4_lots_5 : decode cX4_lots 5 = .ok (.invokevirtual 85, 3) := by decide +kernel
theorem dX4_lots_8 : decode cX4_lots 8 = .ok (.astore 4, 2) := by decide +kernel
theorem dX4_lots_10 : decode cX4_lots 10 = .ok (.aload 4, 2) := by decide +kernel
theorem dX4_lots_12 : decode cX4_lots 12 = .ok (.ifnull 10, 3) := by decide +kernel
theorem dX4_lots_15 : decode cX4_lots 15 = .ok (.iload_n 2, 1) := by decide +kernel
theorem dX4_lots_16 : decode cX4_lots 16 = .ok (.invokestatic 89, 3) := by decide +kernel
theorem dX4_lots_19 : decode cX4_lots 19 = .ok (.ifCond .ne 5, 3) := by decide +kernel
theorem dX4_lots_22 : decode cX4_lots 22 = .ok (.iconst (-1), 1) := by decide +kernel
theorem dX4_lots_23 : decode cX4_lots 23 = .ok (.ireturn, 1) := by decide +kernel
theorem dX4_lots_24 : decode cX4_lots 24 = .ok (.iload_n 3, 1) := by decide +kernel
theorem dX4_lots_25 : decode cX4_lots 25 = .ok (.iconst 0, 1) := by decide +kernel
theorem dX4_lots_26 : decode cX4_lots 26 = .ok (.sipush 1000, 3) := by decide +kernel
theorem dX4_lots_29 : decode cX4_lots 29 = .ok (.invokestatic 41, 3) := by decide +kernel
theorem dX4_lots_32 : decode cX4_lots 32 = .ok (.ifCond .ne 6, 3) := by decide +kernel
theorem dX4_lots_35 : decode cX4_lots 35 = .ok (.bipush (-2), 2) := by decide +kernel
theorem dX4_lots_37 : decode cX4_lots 37 = .ok (.ireturn, 1) := by decide +kernel
theorem dX4_lots_38 : decode cX4_lots 38 = .ok (.aload_n 0, 1) := by decide +kernel
theorem dX4_lots_39 : decode cX4_lots 39 = .ok (.getfield 10, 3) := by decide +kernel
theorem dX4_lots_42 : decode cX4_lots 42 = .ok (.iload_n 2, 1) := by decide +kernel
theorem dX4_lots_43 : decode cX4_lots 43 = .ok (.aload 4, 2) := by decide +kernel
theorem dX4_lots_45 : decode cX4_lots 45 = .ok (.iload_n 3, 1) := by decide +kernel
theorem dX4_lots_46 : decode cX4_lots 46 = .ok (.invokevirtual 98, 3) := by decide +kernel
theorem dX4_lots_49 : decode cX4_lots 49 = .ok (.istore 5, 2) := by decide +kernel
theorem dX4_lots_51 : decode cX4_lots 51 = .ok (.aload_n 0, 1) := by decide +kernel
theorem dX4_lots_52 : decode cX4_lots 52 = .ok (.getfield 10, 3) := by decide +kernel
theorem dX4_lots_55 : decode cX4_lots 55 = .ok (.iload_n 2, 1) := by decide +kernel
theorem dX4_lots_56 : decode cX4_lots 56 = .ok (.invokevirtual 102, 3) := by decide +kernel
theorem dX4_lots_59 : decode cX4_lots 59 = .ok (.ifCond .ne 28, 3) := by decide +kernel
theorem dX4_lots_62 : decode cX4_lots 62 = .ok (.iload 5, 2) := by decide +kernel
theorem dX4_lots_64 : decode cX4_lots 64 = .ok (.aload_n 0, 1) := by decide +kernel
theorem dX4_lots_65 : decode cX4_lots 65 = .ok (.getfield 10, 3) := by decide +kernel
theorem dX4_lots_68 : decode cX4_lots 68 = .ok (.invokevirtual 105, 3) := by decide +kernel
theorem dX4_lots_71 : decode cX4_lots 71 = .ok (.if_icmp .le 19, 3) := by decide +kernel
theorem dX4_lots_74 : decode cX4_lots 74 = .ok (.iload 5, 2) := by decide +kernel
theorem dX4_lots_76 : decode cX4_lots 76 = .ok (.aload_n 0, 1) := by decide +kernel
theorem dX4_lots_77 : decode cX4_lots 77 = .ok (.getfield 10, 3) := by decide +kernel
theorem dX4_lots_80 : decode cX4_lots 80 = .ok (.iload_n 2, 1) := by decide +kernel
theorem dX4_lots_81 : decode cX4_lots 81 = .ok (.invokevirtual 109, 3) := by decide +kernel
theorem dX4_lots_84 : decode cX4_lots 84 = .ok (.if_icmp .le 6, 3) := by decide +kernel
theorem dX4_lots_87 : decode cX4_lots 87 = .ok (.bipush (-5), 2) := by decide +kernel
theorem dX4_lots_89 : decode cX4_lots 89 = .ok (.ireturn, 1) := by decide +kernel
theorem dX4_lots_90 : decode cX4_lots 90 = .ok (.aload_n 0, 1) := by decide +kernel
theorem dX4_lots_91 : decode cX4_lots 91 = .ok (.getfield 29, 3) := by decide +kernel
theorem dX4_lots_94 : decode cX4_lots 94 = .ok (.aload_n 0, 1) := by decide +kernel
theorem dX4_lots_95 : decode cX4_lots 95 = .ok (.getfield 10, 3) := by decide +kernel
theorem dX4_lots_98 : decode cX4_lots 98 = .ok (.invokevirtual 52, 3) := by decide +kernel
theorem dX4_lots_101 : decode cX4_lots 101 = .ok (.aload 4, 2) := by decide +kernel
theorem dX4_lots_103 : decode cX4_lots 103 = .ok (.getfield 112, 3) := by decide +kernel
theorem dX4_lots_106 : decode cX4_lots 106 = .ok (.iload_n 2, 1) := by decide +kernel
theorem dX4_lots_107 : decode cX4_lots 107 = .ok (.iaload, 1) := by decide +kernel
theorem dX4_lots_108 : decode cX4_lots 108 = .ok (.istore 6, 2) := by decide +kernel
theorem dX4_lots_110 : decode cX4_lots 110 = .ok (.aload 4, 2) := by decide +kernel
theorem dX4_lots_112 : decode cX4_lots 112 = .ok (.getfield 112, 3) := by decide +kernel
theorem dX4_lots_115 : decode cX4_lots 115 = .ok (.iload_n 2, 1) := by decide +kernel
theorem dX4_lots_116 : decode cX4_lots 116 = .ok (.iload_n 3, 1) := by decide +kernel
theorem dX4_lots_117 : decode cX4_lots 117 = .ok (.iastore, 1) := by decide +kernel
theorem dX4_lots_118 : decode cX4_lots 118 = .ok (.iload 6, 2) := by decide +kernel
theorem dX4_lots_120 : decode cX4_lots 120 = .ok (.ireturn, 1) := by decide +kernel
theorem dX4_plan_0 : decode cX4_plan 0 = .ok (.aload_n 0, 1) := by decide +kernel
theorem dX4_plan_1 : decode cX4_plan 1 = .ok (.getfield 29, 3) := by decide +kernel
theorem dX4_plan_4 : decode cX4_plan 4 = .ok (.aload_n 0, 1) := by decide +kernel
theorem dX4_plan_5 : decode cX4_plan 5 = .ok (.getfield 10, 3) := by decide +kernel
theorem dX4_plan_8 : decode cX4_plan 8 = .ok (.invokevirtual 52, 3) := by decide +kernel
theorem dX4_plan_11 : decode cX4_plan 11 = .ok (.aload_n 0, 1) := by decide +kernel
theorem dX4_plan_12 : decode cX4_plan 12 = .ok (.getfield 10, 3) := by decide +kernel
theorem dX4_plan_15 : decode cX4_plan 15 = .ok (.invokevirtual 115, 3) := by decide +kernel
theorem dX4_plan_18 : decode cX4_plan 18 = .ok (.aload_n 0, 1) := by decide +kernel
theorem dX4_plan_19 : decode cX4_plan 19 = .ok (.getfield 10, 3) := by decide +kernel
theorem dX4_plan_22 : decode cX4_plan 22 = .ok (.invokevirtual 118, 3) := by decide +kernel
theorem dX4_plan_25 : decode cX4_plan 25 = .ok (.ireturn, 1) := by decide +kernel
theorem dX4_weeks_0 : decode cX4_weeks 0 = .ok (.iload_n 1, 1) := by decide +kernel
theorem dX4_weeks_1 : decode cX4_weeks 1 = .ok (.iconst 1, 1) := by decide +kernel
theorem dX4_weeks_2 : decode cX4_weeks 2 = .ok (.bipush 30, 2) := by decide +kernel
theorem dX4_weeks_4 : decode cX4_weeks 4 = .ok (.invokestatic 41, 3) := by decide +kernel
theorem dX4_weeks_7 : decode cX4_weeks 7 = .ok (.ifCond .ne 6, 3) := by decide +kernel
theorem dX4_weeks_10 : decode cX4_weeks 10 = .ok (.bipush (-2), 2) := by decide +kernel
theorem dX4_weeks_12 : decode cX4_weeks 12 = .ok (.ireturn, 1) := by decide +kernel
theorem dX4_weeks_13 : decode cX4_weeks 13 = .ok (.aload_n 0, 1) := by decide +kernel
theorem dX4_weeks_14 : decode cX4_weeks 14 = .ok (.getfield 29, 3) := by decide +kernel
theorem dX4_weeks_17 : decode cX4_weeks 17 = .ok (.aload_n 0, 1) := by decide +kernel
theorem dX4_weeks_18 : decode cX4_weeks 18 = .ok (.getfield 10, 3) := by decide +kernel
theorem dX4_weeks_21 : decode cX4_weeks 21 = .ok (.invokevirtual 52, 3) := by decide +kernel
theorem dX4_weeks_24 : decode cX4_weeks 24 = .ok (.iconst 0, 1) := by decide +kernel
theorem dX4_weeks_25 : decode cX4_weeks 25 = .ok (.istore_n 2, 1) := by decide +kernel
theorem dX4_weeks_26 : decode cX4_weeks 26 = .ok (.iload_n 2, 1) := by decide +kernel
theorem dX4_weeks_27 : decode cX4_weeks 27 = .ok (.iload_n 1, 1) := by decide +kernel
theorem dX4_weeks_28 : decode cX4_weeks 28 = .ok (.if_icmp .ge 23, 3) := by decide +kernel
theorem dX4_weeks_31 : decode cX4_weeks 31 = .ok (.aload_n 0, 1) := by decide +kernel
theorem dX4_weeks_32 : decode cX4_weeks 32 = .ok (.getfield 10, 3) := by decide +kernel
theorem dX4_weeks_35 : decode cX4_weeks 35 = .ok (.invokevirtual 121, 3) := by decide +kernel
theorem dX4_weeks_38 : decode cX4_weeks 38 = .ok (.aload_n 0, 1) := by decide +kernel
theorem dX4_weeks_39 : decode cX4_weeks 39 = .ok (.getfield 10, 3) := by decide +kernel
theorem dX4_weeks_42 : decode cX4_weeks 42 = .ok (.invokevirtual 115, 3) := by decide +kernel
theorem dX4_weeks_45 : decode cX4_weeks 45 = .ok (.iinc 2 1, 3) := by decide +kernel
theorem dX4_weeks_48 : decode cX4_weeks 48 = .ok (.goto (-22), 3) := by decide +kernel
theorem dX4_weeks_51 : decode cX4_weeks 51 = .ok (.aload_n 0, 1) := by decide +kernel
theorem dX4_weeks_52 : decode cX4_weeks 52 = .ok (.getfield 10, 3) := by decide +kernel
theorem dX4_weeks_55 : decode cX4_weeks 55 = .ok (.getfield 124, 3) := by decide +kernel
theorem dX4_weeks_58 : decode cX4_weeks 58 = .ok (.ireturn, 1) := by decide +kernel
theorem dX4_ofProduct_0 : decode cX4_ofProduct 0 = .ok (.aload_n 0, 1) := by decide +kernel
theorem dX4_ofProduct_1 : decode cX4_ofProduct 1 = .ok (.getfield 10, 3) := by decide +kernel
theorem dX4_ofProduct_4 : decode cX4_ofProduct 4 = .ok (.iload_n 1, 1) := by decide +kernel
theorem dX4_ofProduct_5 : decode cX4_ofProduct 5 = .ok (.invokevirtual 85, 3) := by decide +kernel
theorem dX4_ofProduct_8 : decode cX4_ofProduct 8 = .ok (.astore_n 3, 1) := by decide +kernel
theorem dX4_ofProduct_9 : decode cX4_ofProduct 9 = .ok (.aload_n 3, 1) := by decide +kernel
theorem dX4_ofProduct_10 : decode cX4_ofProduct 10 = .ok (.ifnonnull 5, 3) := by decide +kernel
theorem dX4_ofProduct_13 : decode cX4_ofProduct 13 = .ok (.iconst (-1), 1) := by decide +kernel
theorem dX4_ofProduct_14 : decode cX4_ofProduct 14 = .ok (.ireturn, 1) := by decide +kernel
theorem dX4_ofProduct_15 : decode cX4_ofProduct 15 = .ok (.iload_n 2, 1) := by decide +kernel
theorem dX4_ofProduct_16 : decode cX4_ofProduct 16 = .ok (.tableswitch 141 0 12 #[68, 73, 78, 83, 88, 93, 98, 103, 116, 121, 126, 131, 136], 68) := by decide +kernel
theorem dX4_ofProduct_84 : decode cX4_ofProduct 84 = .ok (.aload_n 3, 1) := by decide +kernel
theorem dX4_ofProduct_85 : decode cX4_ofProduct 85 = .ok (.getfield 127, 3) := by decide +kernel
theorem dX4_ofProduct_88 : decode cX4_ofProduct 88 = .ok (.ireturn, 1) := by decide +kernel
theorem dX4_ofProduct_89 : decode cX4_ofProduct 89 = .ok (.aload_n 3, 1) := by decide +kernel
theorem dX4_ofProduct_90 : decode cX4_ofProduct 90 = .ok (.getfield 130, 3) := by decide +kernel
theorem dX4_ofProduct_93 : decode cX4_ofProduct 93 = .ok (.ireturn, 1) := by decide +kernel
theorem dX4_ofProduct_94 : decode cX4_ofProduct 94 = .ok (.aload_n 3, 1) := by decide +kernel
theorem dX4_ofProduct_95 : decode cX4_ofProduct 95 = .ok (.getfield 133, 3) := by decide +kernel
theorem dX4_ofProduct_98 : decode cX4_ofProduct 98 = .ok (.ireturn, 1) := by decide +kernel
theorem dX4_ofProduct_99 : decode cX4_ofProduct 99 = .ok (.aload_n 3, 1) := by decide +kernel
theorem dX4_ofProduct_100 : decode cX4_ofProduct 100 = .ok (.getfield 136, 3) := by decide +kernel
theorem dX4_ofProduct_103 : decode cX4_ofProduct 103 = .ok (.ireturn, 1) := by decide +kernel
theorem dX4_ofProduct_104 : decode cX4_ofProduct 104 = .ok (.aload_n 3, 1) := by decide +kernel
theorem dX4_ofProduct_105 : decode cX4_ofProduct 105 = .ok (.getfield 139, 3) := by decide +kernel
theorem dX4_ofProduct_108 : decode cX4_ofProduct 108 = .ok (.ireturn, 1) := by decide +kernel
theorem dX4_ofProduct_109 : decode cX4_ofProduct 109 = .ok (.aload_n 3, 1) := by decide +kernel
theorem dX4_ofProduct_110 : decode cX4_ofProduct 110 = .ok (.getfield 142, 3) := by decide +kernel
theorem dX4_ofProduct_113 : decode cX4_ofProduct 113 = .ok (.ireturn, 1) := by decide +kernel
theorem dX4_ofProduct_114 : decode cX4_ofProduct 114 = .ok (.aload_n 3, 1) := by decide +kernel
theorem dX4_ofProduct_115 : decode cX4_ofProduct 115 = .ok (.getfield 145, 3) := by decide +kernel
theorem dX4_ofProduct_118 : decode cX4_ofProduct 118 = .ok (.ireturn, 1) := by decide +kernel
theorem dX4_ofProduct_119 : decode cX4_ofProduct 119 = .ok (.aload_n 3, 1) := by decide +kernel
theorem dX4_ofProduct_120 : decode cX4_ofProduct 120 = .ok (.aload_n 0, 1) := by decide +kernel
theorem dX4_ofProduct_121 : decode cX4_ofProduct 121 = .ok (.getfield 10, 3) := by decide +kernel
theorem dX4_ofProduct_124 : decode cX4_ofProduct 124 = .ok (.iconst 4, 1) := by decide +kernel
theorem dX4_ofProduct_125 : decode cX4_ofProduct 125 = .ok (.invokevirtual 56, 3) := by decide +kernel
theorem dX4_ofProduct_128 : decode cX4_ofProduct 128 = .ok (.invokevirtual 148, 3) := by decide +kernel
theorem dX4_ofProduct_131 : decode cX4_ofProduct 131 = .ok (.ireturn, 1) := by decide +kernel
theorem dX4_ofProduct_132 : decode cX4_ofProduct 132 = .ok (.aload_n 3, 1) := by decide +kernel
theorem dX4_ofProduct_133 : decode cX4_ofProduct 133 = .ok (.getfield 95, 3) := by decide +kernel
theorem dX4_ofProduct_136 : decode cX4_ofProduct 136 = .ok (.ireturn, 1) := by decide +kernel
theorem dX4_ofProduct_137 : decode cX4_ofProduct 137 = .ok (.aload_n 3, 1) := by decide +kernel
theorem dX4_ofProduct_138 : decode cX4_ofProduct 138 = .ok (.getfield 151, 3) := by decide +kernel
theorem dX4_ofProduct_141 : decode cX4_ofProduct 141 = .ok (.ireturn, 1) := by decide +kernel
theorem dX4_ofProduct_142 : decode cX4_ofProduct 142 = .ok (.aload_n 3, 1) := by decide +kernel
theorem dX4_ofProduct_143 : decode cX4_ofProduct 143 = .ok (.getfield 154, 3) := by decide +kernel
theorem dX4_ofProduct_146 : decode cX4_ofProduct 146 = .ok (.ireturn, 1) := by decide +kernel
theorem dX4_ofProduct_147 : decode cX4_ofProduct 147 = .ok (.aload_n 3, 1) := by decide +kernel
theorem dX4_ofProduct_148 : decode cX4_ofProduct 148 = .ok (.getfield 157, 3) := by decide +kernel
theorem dX4_ofProduct_151 : decode cX4_ofProduct 151 = .ok (.ireturn, 1) := by decide +kernel
theorem dX4_ofProduct_152 : decode cX4_ofProduct 152 = .ok (.aload_n 3, 1) := by decide +kernel
theorem dX4_ofProduct_153 : decode cX4_ofProduct 153 = .ok (.getfield 160, 3) := by decide +kernel
theorem dX4_ofProduct_156 : decode cX4_ofProduct 156 = .ok (.ireturn, 1) := by decide +kernel
theorem dX4_ofProduct_157 : decode cX4_ofProduct 157 = .ok (.bipush (-2), 2) := by decide +kernel
theorem dX4_ofProduct_159 : decode cX4_ofProduct 159 = .ok (.ireturn, 1) := by decide +kernel
theorem dX4_at_0 : decode cX4_at 0 = .ok (.aload_n 0, 1) := by decide +kernel
theorem dX4_at_1 : decode cX4_at 1 = .ok (.getfield 10, 3) := by decide +kernel
theorem dX4_at_4 : decode cX4_at 4 = .ok (.iload_n 1, 1) := by decide +kernel
theorem dX4_at_5 : decode cX4_at 5 = .ok (.invokevirtual 85, 3) := by decide +kernel
theorem dX4_at_8 : decode cX4_at 8 = .ok (.astore 4, 2) := by decide +kernel
theorem dX4_at_10 : decode cX4_at 10 = .ok (.aload 4, 2) := by decide +kernel
theorem dX4_at_12 : decode cX4_at 12 = .ok (.ifnull 10, 3) := by decide +kernel
theorem dX4_at_15 : decode cX4_at 15 = .ok (.iload_n 2, 1) := by decide +kernel
theorem dX4_at_16 : decode cX4_at 16 = .ok (.invokestatic 89, 3) := by decide +kernel
theorem dX4_at_19 : decode cX4_at 19 = .ok (.ifCond .ne 5, 3) := by decide +kernel
theorem dX4_at_22 : decode cX4_at 22 = .ok (.iconst (-1), 1) := by decide +kernel
theorem dX4_at_23 : decode cX4_at 23 = .ok (.ireturn, 1) := by decide +kernel
theorem dX4_at_24 : decode cX4_at 24 = .ok (.iload_n 3, 1) := by decide +kernel
theorem dX4_at_25 : decode cX4_at 25 = .ok (.ifCond .ne 11, 3) := by decide +kernel
theorem dX4_at_28 : decode cX4_at 28 = .ok (.aload 4, 2) := by decide +kernel
theorem dX4_at_30 : decode cX4_at 30 = .ok (.getfield 92, 3) := by decide +kernel
theorem dX4_at_33 : decode cX4_at 33 = .ok (.iload_n 2, 1) := by decide +kernel
theorem dX4_at_34 : decode cX4_at 34 = .ok (.iaload, 1) := by decide +kernel
theorem dX4_at_35 : decode cX4_at 35 = .ok (.ireturn, 1) := by decide +kernel
theorem dX4_at_36 : decode cX4_at 36 = .ok (.iload_n 3, 1) := by decide +kernel
theorem dX4_at_37 : decode cX4_at 37 = .ok (.iconst 1, 1) := by decide +kernel
theorem dX4_at_38 : decode cX4_at 38 = .ok (.if_icmp .ne 13, 3) := by decide +kernel
theorem dX4_at_41 : decode cX4_at 41 = .ok (.aload 4, 2) := by decide +kernel
theorem dX4_at_43 : decode cX4_at 43 = .ok (.getfield 112, 3) := by decide +kernel
theorem dX4_at_46 : decode cX4_at 46 = .ok (.iload_n 2, 1) := by decide +kernel
theorem dX4_at_47 : decode cX4_at 47 = .ok (.iaload, 1) := by decide +kernel
theorem dX4_at_48 : decode cX4_at 48 = .ok (.goto 5, 3) := by decide +kernel
theorem dX4_at_51 : decode cX4_at 51 = .ok (.bipush (-2), 2) := by decide +kernel
theorem dX4_at_53 : decode cX4_at 53 = .ok (.ireturn, 1) := by decide +kernel
theorem dX4_count_0 : decode cX4_count 0 = .ok (.iload_n 1, 1) := by decide +kernel
theorem dX4_count_1 : decode cX4_count 1 = .ok (.tableswitch 140 0 9 #[55, 64, 73, 81, 89, 97, 106, 114, 122, 131], 55) := by decide +kernel
theorem dX4_count_56 : decode cX4_count 56 = .ok (.aload_n 0, 1) := by decide +kernel
theorem dX4_count_57 : decode cX4_count 57 = .ok (.getfield 10, 3) := by decide +kernel
theorem dX4_count_60 : decode cX4_count 60 = .ok (.getfield 124, 3) := by decide +kernel
theorem dX4_count_63 : decode cX4_count 63 = .ok (.i2l, 1) := by decide +kernel
theorem dX4_count_64 : decode cX4_count 64 = .ok (.lreturn, 1) := by decide +kernel
theorem dX4_count_65 : decode cX4_count 65 = .ok (.aload_n 0, 1) := by decide +kernel
theorem dX4_count_66 : decode cX4_count 66 = .ok (.getfield 10, 3) := by decide +kernel
theorem dX4_count_69 : decode cX4_count 69 = .ok (.getfield 78, 3) := by decide +kernel
theorem dX4_count_72 : decode cX4_count 72 = .ok (.i2l, 1) := by decide +kernel
theorem dX4_count_73 : decode cX4_count 73 = .ok (.lreturn, 1) := by decide +kernel
theorem dX4_count_74 : decode cX4_count 74 = .ok (.aload_n 0, 1) := by decide +kernel
theorem dX4_count_75 : decode cX4_count 75 = .ok (.getfield 10, 3) := by decide +kernel
theorem dX4_count_78 : decode cX4_count 78 = .ok (.getfield 178, 3) := by decide +kernel
theorem dX4_count_81 : decode cX4_count 81 = .ok (.lreturn, 1) := by decide +kernel
theorem dX4_count_82 : decode cX4_count 82 = .ok (.aload_n 0, 1) := by decide +kernel
theorem dX4_count_83 : decode cX4_count 83 = .ok (.getfield 10, 3) := by decide +kernel
theorem dX4_count_86 : decode cX4_count 86 = .ok (.getfield 182, 3) := by decide +kernel
theorem dX4_count_89 : decode cX4_count 89 = .ok (.lreturn, 1) := by decide +kernel
theorem dX4_count_90 : decode cX4_count 90 = .ok (.aload_n 0, 1) := by decide +kernel
theorem dX4_count_91 : decode cX4_count 91 = .ok (.getfield 10, 3) := by decide +kernel
theorem dX4_count_94 : decode cX4_count 94 = .ok (.getfield 185, 3) := by decide +kernel
theorem dX4_count_97 : decode cX4_count 97 = .ok (.lreturn, 1) := by decide +kernel
theorem dX4_count_98 : decode cX4_count 98 = .ok (.aload_n 0, 1) := by decide +kernel
theorem dX4_count_99 : decode cX4_count 99 = .ok (.getfield 10, 3) := by decide +kernel
theorem dX4_count_102 : decode cX4_count 102 = .ok (.invokevirtual 118, 3) := by decide +kernel
theorem dX4_count_105 : decode cX4_count 105 = .ok (.i2l, 1) := by decide +kernel
theorem dX4_count_106 : decode cX4_count 106 = .ok (.lreturn, 1) := by decide +kernel
theorem dX4_count_107 : decode cX4_count 107 = .ok (.aload_n 0, 1) := by decide +kernel
theorem dX4_count_108 : decode cX4_count 108 = .ok (.getfield 10, 3) := by decide +kernel
theorem dX4_count_111 : decode cX4_count 111 = .ok (.invokevirtual 188, 3) := by decide +kernel
theorem dX4_count_114 : decode cX4_count 114 = .ok (.lreturn, 1) := by decide +kernel
theorem dX4_count_115 : decode cX4_count 115 = .ok (.aload_n 0, 1) := by decide +kernel
theorem dX4_count_116 : decode cX4_count 116 = .ok (.getfield 10, 3) := by decide +kernel
theorem dX4_count_119 : decode cX4_count 119 = .ok (.invokevirtual 192, 3) := by decide +kernel
theorem dX4_count_122 : decode cX4_count 122 = .ok (.lreturn, 1) := by decide +kernel
theorem dX4_count_123 : decode cX4_count 123 = .ok (.aload_n 0, 1) := by decide +kernel
theorem dX4_count_124 : decode cX4_count 124 = .ok (.getfield 22, 3) := by decide +kernel
theorem dX4_count_127 : decode cX4_count 127 = .ok (.getfield 195, 3) := by decide +kernel
theorem dX4_count_130 : decode cX4_count 130 = .ok (.i2l, 1) := by decide +kernel
theorem dX4_count_131 : decode cX4_count 131 = .ok (.lreturn, 1) := by decide +kernel
theorem dX4_count_132 : decode cX4_count 132 = .ok (.aload_n 0, 1) := by decide +kernel
theorem dX4_count_133 : decode cX4_count 133 = .ok (.getfield 29, 3) := by decide +kernel
theorem dX4_count_136 : decode cX4_count 136 = .ok (.getfield 198, 3) := by decide +kernel
theorem dX4_count_139 : decode cX4_count 139 = .ok (.i2l, 1) := by decide +kernel
theorem dX4_count_140 : decode cX4_count 140 = .ok (.lreturn, 1) := by decide +kernel
theorem dX4_count_141 : decode cX4_count 141 = .ok (.iload_n 1, 1) := by decide +kernel
theorem dX4_count_142 : decode cX4_count 142 = .ok (.bipush 10, 2) := by decide +kernel
theorem dX4_count_144 : decode cX4_count 144 = .ok (.isub, 1) := by decide +kernel
theorem dX4_count_145 : decode cX4_count 145 = .ok (.istore_n 2, 1) := by decide +kernel
theorem dX4_count_146 : decode cX4_count 146 = .ok (.iload_n 2, 1) := by decide +kernel
theorem dX4_count_147 : decode cX4_count 147 = .ok (.iconst 0, 1) := by decide +kernel
theorem dX4_count_148 : decode cX4_count 148 = .ok (.bipush 8, 2) := by decide +kernel
theorem dX4_count_150 : decode cX4_count 150 = .ok (.invokestatic 41, 3) := by decide +kernel
theorem dX4_count_153 : decode cX4_count 153 = .ok (.ifCond .eq 13, 3) := by decide +kernel
theorem dX4_count_156 : decode cX4_count 156 = .ok (.aload_n 0, 1) := by decide +kernel
theorem dX4_count_157 : decode cX4_count 157 = .ok (.getfield 10, 3) := by decide +kernel
theorem dX4_count_160 : decode cX4_count 160 = .ok (.iload_n 2, 1) := by decide +kernel
theorem dX4_count_161 : decode cX4_count 161 = .ok (.invokevirtual 56, 3) := by decide +kernel
theorem dX4_count_164 : decode cX4_count 164 = .ok (.i2l, 1) := by decide +kernel
theorem dX4_count_165 : decode cX4_count 165 = .ok (.lreturn, 1) := by decide +kernel
theorem dX4_count_166 : decode cX4_count 166 = .ok (.iload_n 2, 1) := by decide +kernel
theorem dX4_count_167 : decode cX4_count 167 = .ok (.bipush 9, 2) := by decide +kernel
theorem dX4_count_169 : decode cX4_count 169 = .ok (.isub, 1) := by decide +kernel
theorem dX4_count_170 : decode cX4_count 170 = .ok (.istore_n 3, 1) := by decide +kernel
theorem dX4_count_171 : decode cX4_count 171 = .ok (.iload_n 3, 1) := by decide +kernel
theorem dX4_count_172 : decode cX4_count 172 = .ok (.invokestatic 64, 3) := by decide +kernel
theorem dX4_count_175 : decode cX4_count 175 = .ok (.ifCond .eq 16, 3) := by decide +kernel
theorem dX4_count_178 : decode cX4_count 178 = .ok (.aload_n 0, 1) := by decide +kernel
theorem dX4_count_179 : decode cX4_count 179 = .ok (.getfield 10, 3) := by decide +kernel
theorem dX4_count_182 : decode cX4_count 182 = .ok (.getfield 82, 3) := by decide +kernel
theorem dX4_count_185 : decode cX4_count 185 = .ok (.iload_n 3, 1) := by decide +kernel
theorem dX4_count_186 : decode cX4_count 186 = .ok (.iaload, 1) := by decide +kernel
theorem dX4_count_187 : decode cX4_count 187 = .ok (.i2l, 1) := by decide +kernel
theorem dX4_count_188 : decode cX4_count 188 = .ok (.goto 6, 3) := by decide +kernel
theorem dX4_count_191 : decode cX4_count 191 = .ok (.ldc2_w 201, 3) := by decide +kernel
theorem dX4_count_194 : decode cX4_count 194 = .ok (.lreturn, 1) := by decide +kernel
theorem dX4_leastHours_0 : decode cX4_leastHours 0 = .ok (.aload_n 0, 1) := by decide +kernel
theorem dX4_leastHours_1 : decode cX4_leastHours 1 = .ok (.getfield 16, 3) := by decide +kernel
theorem dX4_leastHours_4 : decode cX4_leastHours 4 = .ok (.aload_n 0, 1) := by decide +kernel
theorem dX4_leastHours_5 : decode cX4_leastHours 5 = .ok (.getfield 10, 3) := by decide +kernel
theorem dX4_leastHours_8 : decode cX4_leastHours 8 = .ok (.invokevirtual 203, 3) := by decide +kernel
theorem dX4_leastHours_11 : decode cX4_leastHours 11 = .ok (.iconst 0, 1) := by decide +kernel
theorem dX4_leastHours_12 : decode cX4_leastHours 12 = .ok (.istore_n 1, 1) := by decide +kernel
theorem dX4_leastHours_13 : decode cX4_leastHours 13 = .ok (.iload_n 1, 1) := by decide +kernel
theorem dX4_leastHours_14 : decode cX4_leastHours 14 = .ok (.sipush 1000, 3) := by decide +kernel
theorem dX4_leastHours_17 : decode cX4_leastHours 17 = .ok (.if_icmp .gt 30, 3) := by decide +kernel
theorem dX4_leastHours_20 : decode cX4_leastHours 20 = .ok (.aload_n 0, 1) := by decide +kernel
theorem dX4_leastHours_21 : decode cX4_leastHours 21 = .ok (.getfield 16, 3) := by decide +kernel
theorem dX4_leastHours_24 : decode cX4_leastHours 24 = .ok (.iconst 0, 1) := by decide +kernel
theorem dX4_leastHours_25 : decode cX4_leastHours 25 = .ok (.iload_n 1, 1) := by decide +kernel
theorem dX4_leastHours_26 : decode cX4_leastHours 26 = .ok (.invokevirtual 60, 3) := by decide +kernel
theorem dX4_leastHours_29 : decode cX4_leastHours 29 = .ok (.aload_n 0, 1) := by decide +kernel
theorem dX4_leastHours_30 : decode cX4_leastHours 30 = .ok (.getfield 16, 3) := by decide +kernel
theorem dX4_leastHours_33 : decode cX4_leastHours 33 = .ok (.invokevirtual 206, 3) := by decide +kernel
theorem dX4_leastHours_36 : decode cX4_leastHours 36 = .ok (.ifCond .eq 5, 3) := by decide +kernel
theorem dX4_leastHours_39 : decode cX4_leastHours 39 = .ok (.iload_n 1, 1) := by decide +kernel
theorem dX4_leastHours_40 : decode cX4_leastHours 40 = .ok (.ireturn, 1) := by decide +kernel
theorem dX4_leastHours_41 : decode cX4_leastHours 41 = .ok (.iinc 1 10, 3) := by decide +kernel
theorem dX4_leastHours_44 : decode cX4_leastHours 44 = .ok (.goto (-31), 3) := by decide +kernel
theorem dX4_leastHours_47 : decode cX4_leastHours 47 = .ok (.bipush (-6), 2) := by decide +kernel
theorem dX4_leastHours_49 : decode cX4_leastHours 49 = .ok (.ireturn, 1) := by decide +kernel
theorem dX4_costs_0 : decode cX4_costs 0 = .ok (.iload_n 1, 1) := by decide +kernel
theorem dX4_costs_1 : decode cX4_costs 1 = .ok (.iconst 0, 1) := by decide +kernel
theorem dX4_costs_2 : decode cX4_costs 2 = .ok (.bipush 8, 2) := by decide +kernel
theorem dX4_costs_4 : decode cX4_costs 4 = .ok (.invokestatic 41, 3) := by decide +kernel
theorem dX4_costs_7 : decode cX4_costs 7 = .ok (.ifCond .eq 13, 3) := by decide +kernel
theorem dX4_costs_10 : decode cX4_costs 10 = .ok (.iload_n 2, 1) := by decide +kernel
theorem dX4_costs_11 : decode cX4_costs 11 = .ok (.iconst 1, 1) := by decide +kernel
theorem dX4_costs_12 : decode cX4_costs 12 = .ok (.bipush 12, 2) := by decide +kernel
theorem dX4_costs_14 : decode cX4_costs 14 = .ok (.invokestatic 41, 3) := by decide +kernel
theorem dX4_costs_17 : decode cX4_costs 17 = .ok (.ifCond .ne 7, 3) := by decide +kernel
theorem dX4_costs_20 : decode cX4_costs 20 = .ok (.ldc2_w 201, 3) := by decide +kernel
theorem dX4_costs_23 : decode cX4_costs 23 = .ok (.lreturn, 1) := by decide +kernel
theorem dX4_costs_24 : decode cX4_costs 24 = .ok (.aload_n 0, 1) := by decide +kernel
theorem dX4_costs_25 : decode cX4_costs 25 = .ok (.getfield 16, 3) := by decide +kernel
theorem dX4_costs_28 : decode cX4_costs 28 = .ok (.aload_n 0, 1) := by decide +kernel
theorem dX4_costs_29 : decode cX4_costs 29 = .ok (.getfield 10, 3) := by decide +kernel
theorem dX4_costs_32 : decode cX4_costs 32 = .ok (.invokevirtual 203, 3) := by decide +kernel
theorem dX4_costs_35 : decode cX4_costs 35 = .ok (.aload_n 0, 1) := by decide +kernel
theorem dX4_costs_36 : decode cX4_costs 36 = .ok (.getfield 16, 3) := by decide +kernel
theorem dX4_costs_39 : decode cX4_costs 39 = .ok (.iconst 2, 1) := by decide +kernel
theorem dX4_costs_40 : decode cX4_costs 40 = .ok (.iload_n 1, 1) := by decide +kernel
theorem dX4_costs_41 : decode cX4_costs 41 = .ok (.invokevirtual 60, 3) := by decide +kernel
theorem dX4_costs_44 : decode cX4_costs 44 = .ok (.aload_n 0, 1) := by decide +kernel
theorem dX4_costs_45 : decode cX4_costs 45 = .ok (.getfield 16, 3) := by decide +kernel
theorem dX4_costs_48 : decode cX4_costs 48 = .ok (.invokevirtual 210, 3) := by decide +kernel
theorem dX4_costs_51 : decode cX4_costs 51 = .ok (.aload_n 0, 1) := by decide +kernel
theorem dX4_costs_52 : decode cX4_costs 52 = .ok (.getfield 16, 3) := by decide +kernel
theorem dX4_costs_55 : decode cX4_costs 55 = .ok (.invokevirtual 115, 3) := by decide +kernel
theorem dX4_costs_58 : decode cX4_costs 58 = .ok (.iconst 0, 1) := by decide +kernel
theorem dX4_costs_59 : decode cX4_costs 59 = .ok (.istore_n 3, 1) := by decide +kernel
theorem dX4_costs_60 : decode cX4_costs 60 = .ok (.iload_n 3, 1) := by decide +kernel
theorem dX4_costs_61 : decode cX4_costs 61 = .ok (.iload_n 2, 1) := by decide +kernel
theorem dX4_costs_62 : decode cX4_costs 62 = .ok (.if_icmp .ge 23, 3) := by decide +kernel
theorem dX4_costs_65 : decode cX4_costs 65 = .ok (.aload_n 0, 1) := by decide +kernel
theorem dX4_costs_66 : decode cX4_costs 66 = .ok (.getfield 16, 3) := by decide +kernel
theorem dX4_costs_69 : decode cX4_costs 69 = .ok (.invokevirtual 121, 3) := by decide +kernel
theorem dX4_costs_72 : decode cX4_costs 72 = .ok (.aload_n 0, 1) := by decide +kernel
theorem dX4_costs_73 : decode cX4_costs 73 = .ok (.getfield 16, 3) := by decide +kernel
theorem dX4_costs_76 : decode cX4_costs 76 = .ok (.invokevirtual 115, 3) := by decide +kernel
theorem dX4_costs_79 : decode cX4_costs 79 = .ok (.iinc 3 1, 3) := by decide +kernel
theorem dX4_costs_82 : decode cX4_costs 82 = .ok (.goto (-22), 3) := by decide +kernel
theorem dX4_costs_85 : decode cX4_costs 85 = .ok (.aload_n 0, 1) := by decide +kernel
theorem dX4_costs_86 : decode cX4_costs 86 = .ok (.getfield 16, 3) := by decide +kernel
theorem dX4_costs_89 : decode cX4_costs 89 = .ok (.getfield 185, 3) := by decide +kernel
theorem dX4_costs_92 : decode cX4_costs 92 = .ok (.aload_n 0, 1) := by decide +kernel
theorem dX4_costs_93 : decode cX4_costs 93 = .ok (.getfield 10, 3) := by decide +kernel
theorem dX4_costs_96 : decode cX4_costs 96 = .ok (.getfield 185, 3) := by decide +kernel
theorem dX4_costs_99 : decode cX4_costs 99 = .ok (.lsub, 1) := by decide +kernel
theorem dX4_costs_100 : decode cX4_costs 100 = .ok (.lreturn, 1) := by decide +kernel
theorem dX4_roomFor_0 : decode cX4_roomFor 0 = .ok (.aload_n 0, 1) := by decide +kernel
theorem dX4_roomFor_1 : decode cX4_roomFor 1 = .ok (.getfield 10, 3) := by decide +kernel
theorem dX4_roomFor_4 : decode cX4_roomFor 4 = .ok (.iload_n 1, 1) := by decide +kernel
theorem dX4_roomFor_5 : decode cX4_roomFor 5 = .ok (.invokevirtual 85, 3) := by decide +kernel
theorem dX4_roomFor_8 : decode cX4_roomFor 8 = .ok (.astore_n 3, 1) := by decide +kernel
theorem dX4_roomFor_9 : decode cX4_roomFor 9 = .ok (.aload_n 3, 1) := by decide +kernel
theorem dX4_roomFor_10 : decode cX4_roomFor 10 = .ok (.ifnull 10, 3) := by decide +kernel
theorem dX4_roomFor_13 : decode cX4_roomFor 13 = .ok (.iload_n 2, 1) := by decide +kernel
theorem dX4_roomFor_14 : decode cX4_roomFor 14 = .ok (.invokestatic 89, 3) := by decide +kernel
theorem dX4_roomFor_17 : decode cX4_roomFor 17 = .ok (.ifCond .ne 5, 3) := by decide +kernel
theorem dX4_roomFor_20 : decode cX4_roomFor 20 = .ok (.iconst (-1), 1) := by decide +kernel
theorem dX4_roomFor_21 : decode cX4_roomFor 21 = .ok (.ireturn, 1) := by decide +kernel
theorem dX4_roomFor_22 : decode cX4_roomFor 22 = .ok (.aload_n 3, 1) := by decide +kernel
theorem dX4_roomFor_23 : decode cX4_roomFor 23 = .ok (.getfield 112, 3) := by decide +kernel
theorem dX4_roomFor_26 : decode cX4_roomFor 26 = .ok (.iload_n 2, 1) := by decide +kernel
theorem dX4_roomFor_27 : decode cX4_roomFor 27 = .ok (.iaload, 1) := by decide +kernel
theorem dX4_roomFor_28 : decode cX4_roomFor 28 = .ok (.istore 4, 2) := by decide +kernel
theorem dX4_roomFor_30 : decode cX4_roomFor 30 = .ok (.aload_n 0, 1) := by decide +kernel
theorem dX4_roomFor_31 : decode cX4_roomFor 31 = .ok (.getfield 10, 3) := by decide +kernel
theorem dX4_roomFor_34 : decode cX4_roomFor 34 = .ok (.invokevirtual 105, 3) := by decide +kernel
theorem dX4_roomFor_37 : decode cX4_roomFor 37 = .ok (.aload_n 0, 1) := by decide +kernel
theorem dX4_roomFor_38 : decode cX4_roomFor 38 = .ok (.getfield 10, 3) := by decide +kernel
theorem dX4_roomFor_41 : decode cX4_roomFor 41 = .ok (.iload_n 2, 1) := by decide +kernel
theorem dX4_roomFor_42 : decode cX4_roomFor 42 = .ok (.aload_n 3, 1) := by decide +kernel
theorem dX4_roomFor_43 : decode cX4_roomFor 43 = .ok (.iload 4, 2) := by decide +kernel
theorem dX4_roomFor_45 : decode cX4_roomFor 45 = .ok (.iconst 1, 1) := by decide +kernel
theorem dX4_roomFor_46 : decode cX4_roomFor 46 = .ok (.iadd, 1) := by decide +kernel
theorem dX4_roomFor_47 : decode cX4_roomFor 47 = .ok (.invokevirtual 98, 3) := by decide +kernel
theorem dX4_roomFor_50 : decode cX4_roomFor 50 = .ok (.isub, 1) := by decide +kernel
theorem dX4_roomFor_51 : decode cX4_roomFor 51 = .ok (.istore 5, 2) := by decide +kernel
theorem dX4_roomFor_53 : decode cX4_roomFor 53 = .ok (.iload 5, 2) := by decide +kernel
theorem dX4_roomFor_55 : decode cX4_roomFor 55 = .ok (.ifCond .lt 11, 3) := by decide +kernel
theorem dX4_roomFor_58 : decode cX4_roomFor 58 = .ok (.aload_n 3, 1) := by decide +kernel
theorem dX4_roomFor_59 : decode cX4_roomFor 59 = .ok (.getfield 133, 3) := by decide +kernel
theorem dX4_roomFor_62 : decode cX4_roomFor 62 = .ok (.iconst 1, 1) := by decide +kernel
theorem dX4_roomFor_63 : decode cX4_roomFor 63 = .ok (.if_icmp .ge 5, 3) := by decide +kernel
theorem dX4_roomFor_66 : decode cX4_roomFor 66 = .ok (.iconst 0, 1) := by decide +kernel
theorem dX4_roomFor_67 : decode cX4_roomFor 67 = .ok (.ireturn, 1) := by decide +kernel
theorem dX4_roomFor_68 : decode cX4_roomFor 68 = .ok (.iconst 1, 1) := by decide +kernel
theorem dX4_roomFor_69 : decode cX4_roomFor 69 = .ok (.iload 5, 2) := by decide +kernel
theorem dX4_roomFor_71 : decode cX4_roomFor 71 = .ok (.aload_n 3, 1) := by decide +kernel
theorem dX4_roomFor_72 : decode cX4_roomFor 72 = .ok (.getfield 133, 3) := by decide +kernel
theorem dX4_roomFor_75 : decode cX4_roomFor 75 = .ok (.idiv, 1) := by decide +kernel
theorem dX4_roomFor_76 : decode cX4_roomFor 76 = .ok (.iadd, 1) := by decide +kernel
theorem dX4_roomFor_77 : decode cX4_roomFor 77 = .ok (.sipush 1000, 3) := by decide +kernel
theorem dX4_roomFor_80 : decode cX4_roomFor 80 = .ok (.iload 4, 2) := by decide +kernel
theorem dX4_roomFor_82 : decode cX4_roomFor 82 = .ok (.isub, 1) := by decide +kernel
theorem dX4_roomFor_83 : decode cX4_roomFor 83 = .ok (.invokestatic 217, 3) := by decide +kernel
theorem dX4_roomFor_86 : decode cX4_roomFor 86 = .ok (.ireturn, 1) := by decide +kernel
theorem dX4_undo_0 : decode cX4_undo 0 = .ok (.aload_n 0, 1) := by decide +kernel
theorem dX4_undo_1 : decode cX4_undo 1 = .ok (.getfield 29, 3) := by decide +kernel
theorem dX4_undo_4 : decode cX4_undo 4 = .ok (.getfield 198, 3) := by decide +kernel
theorem dX4_undo_7 : decode cX4_undo 7 = .ok (.ifCond .ne 6, 3) := by decide +kernel
theorem dX4_undo_10 : decode cX4_undo 10 = .ok (.bipush (-5), 2) := by decide +kernel
theorem dX4_undo_12 : decode cX4_undo 12 = .ok (.ireturn, 1) := by decide +kernel
theorem dX4_undo_13 : decode cX4_undo 13 = .ok (.aload_n 0, 1) := by decide +kernel
theorem dX4_undo_14 : decode cX4_undo 14 = .ok (.getfield 29, 3) := by decide +kernel
theorem dX4_undo_17 : decode cX4_undo 17 = .ok (.aload_n 0, 1) := by decide +kernel
theorem dX4_undo_18 : decode cX4_undo 18 = .ok (.getfield 10, 3) := by decide +kernel
theorem dX4_undo_21 : decode cX4_undo 21 = .ok (.invokevirtual 260, 3) := by decide +kernel
theorem dX4_undo_24 : decode cX4_undo 24 = .ok (.aload_n 0, 1) := by decide +kernel
theorem dX4_undo_25 : decode cX4_undo 25 = .ok (.getfield 29, 3) := by decide +kernel
theorem dX4_undo_28 : decode cX4_undo 28 = .ok (.getfield 198, 3) := by decide +kernel
theorem dX4_undo_31 : decode cX4_undo 31 = .ok (.ireturn, 1) := by decide +kernel
theorem dX4_save_0 : decode cX4_save 0 = .ok (.iload_n 1, 1) := by decide +kernel
theorem dX4_save_1 : decode cX4_save 1 = .ok (.iconst 0, 1) := by decide +kernel
theorem dX4_save_2 : decode cX4_save 2 = .ok (.iconst 1, 1) := by decide +kernel
theorem dX4_save_3 : decode cX4_save 3 = .ok (.invokestatic 41, 3) := by decide +kernel
theorem dX4_save_6 : decode cX4_save 6 = .ok (.ifCond .ne 6, 3) := by decide +kernel
theorem dX4_save_9 : decode cX4_save 9 = .ok (.bipush (-2), 2) := by decide +kernel
theorem dX4_save_11 : decode cX4_save 11 = .ok (.ireturn, 1) := by decide +kernel
theorem dX4_save_12 : decode cX4_save 12 = .ok (.aload_n 0, 1) := by decide +kernel
theorem dX4_save_13 : decode cX4_save 13 = .ok (.getfield 33, 3) := by decide +kernel
theorem dX4_save_16 : decode cX4_save 16 = .ok (.iload_n 1, 1) := by decide +kernel
theorem dX4_save_17 : decode cX4_save 17 = .ok (.aaload, 1) := by decide +kernel
theorem dX4_save_18 : decode cX4_save 18 = .ok (.astore_n 2, 1) := by decide +kernel
theorem dX4_save_19 : decode cX4_save 19 = .ok (.aload_n 2, 1) := by decide +kernel
theorem dX4_save_20 : decode cX4_save 20 = .ok (.ifnull 18, 3) := by decide +kernel
theorem dX4_save_23 : decode cX4_save 23 = .ok (.aload_n 2, 1) := by decide +kernel
theorem dX4_save_24 : decode cX4_save 24 = .ok (.aload_n 0, 1) := by decide +kernel
theorem dX4_save_25 : decode cX4_save 25 = .ok (.getfield 10, 3) := by decide +kernel
theorem dX4_save_28 : decode cX4_save 28 = .ok (.invokevirtual 203, 3) := by decide +kernel
theorem dX4_save_31 : decode cX4_save 31 = .ok (.aload_n 0, 1) := by decide +kernel
theorem dX4_save_32 : decode cX4_save 32 = .ok (.getfield 37, 3) := by decide +kernel
theorem dX4_save_35 : decode cX4_save 35 = .ok (.iload_n 1, 1) := by decide +kernel
theorem dX4_save_36 : decode cX4_save 36 = .ok (.iconst 1, 1) := by decide +kernel
theorem dX4_save_37 : decode cX4_save 37 = .ok (.bastore, 1) := by decide +kernel
theorem dX4_save_38 : decode cX4_save 38 = .ok (.aload_n 0, 1) := by decide +kernel
theorem dX4_save_39 : decode cX4_save 39 = .ok (.getfield 10, 3) := by decide +kernel
theorem dX4_save_42 : decode cX4_save 42 = .ok (.getfield 124, 3) := by decide +kernel
theorem dX4_save_45 : decode cX4_save 45 = .ok (.ireturn, 1) := by decide +kernel
theorem dX4_restore_0 : decode cX4_restore 0 = .ok (.iload_n 1, 1) := by decide +kernel
theorem dX4_restore_1 : decode cX4_restore 1 = .ok (.iconst 0, 1) := by decide +kernel
theorem dX4_restore_2 : decode cX4_restore 2 = .ok (.iconst 1, 1) := by decide +kernel
theorem dX4_restore_3 : decode cX4_restore 3 = .ok (.invokestatic 41, 3) := by decide +kernel
theorem dX4_restore_6 : decode cX4_restore 6 = .ok (.ifCond .ne 6, 3) := by decide +kernel
theorem dX4_restore_9 : decode cX4_restore 9 = .ok (.bipush (-2), 2) := by decide +kernel
theorem dX4_restore_11 : decode cX4_restore 11 = .ok (.ireturn, 1) := by decide +kernel
theorem dX4_restore_12 : decode cX4_restore 12 = .ok (.aload_n 0, 1) := by decide +kernel
theorem dX4_restore_13 : decode cX4_restore 13 = .ok (.getfield 37, 3) := by decide +kernel
theorem dX4_restore_16 : decode cX4_restore 16 = .ok (.iload_n 1, 1) := by decide +kernel
theorem dX4_restore_17 : decode cX4_restore 17 = .ok (.baload, 1) := by decide +kernel
theorem dX4_restore_18 : decode cX4_restore 18 = .ok (.ifCond .ne 6, 3) := by decide +kernel
theorem dX4_restore_21 : decode cX4_restore 21 = .ok (.bipush (-5), 2) := by decide +kernel
theorem dX4_restore_23 : decode cX4_restore 23 = .ok (.ireturn, 1) := by decide +kernel
theorem dX4_restore_24 : decode cX4_restore 24 = .ok (.aload_n 0, 1) := by decide +kernel
theorem dX4_restore_25 : decode cX4_restore 25 = .ok (.getfield 29, 3) := by decide +kernel
theorem dX4_restore_28 : decode cX4_restore 28 = .ok (.aload_n 0, 1) := by decide +kernel
theorem dX4_restore_29 : decode cX4_restore 29 = .ok (.getfield 10, 3) := by decide +kernel
theorem dX4_restore_32 : decode cX4_restore 32 = .ok (.invokevirtual 52, 3) := by decide +kernel
theorem dX4_restore_35 : decode cX4_restore 35 = .ok (.aload_n 0, 1) := by decide +kernel
theorem dX4_restore_36 : decode cX4_restore 36 = .ok (.getfield 10, 3) := by decide +kernel
theorem dX4_restore_39 : decode cX4_restore 39 = .ok (.aload_n 0, 1) := by decide +kernel
theorem dX4_restore_40 : decode cX4_restore 40 = .ok (.getfield 33, 3) := by decide +kernel
theorem dX4_restore_43 : decode cX4_restore 43 = .ok (.iload_n 1, 1) := by decide +kernel
theorem dX4_restore_44 : decode cX4_restore 44 = .ok (.aaload, 1) := by decide +kernel
theorem dX4_restore_45 : decode cX4_restore 45 = .ok (.invokevirtual 203, 3) := by decide +kernel
theorem dX4_restore_48 : decode cX4_restore 48 = .ok (.aload_n 0, 1) := by decide +kernel
theorem dX4_restore_49 : decode cX4_restore 49 = .ok (.getfield 10, 3) := by decide +kernel
theorem dX4_restore_52 : decode cX4_restore 52 = .ok (.getfield 124, 3) := by decide +kernel
theorem dX4_restore_55 : decode cX4_restore 55 = .ok (.ireturn, 1) := by decide +kernel
theorem dX4_isIn_0 : decode cX4_isIn 0 = .ok (.iload_n 0, 1) := by decide +kernel
theorem dX4_isIn_1 : decode cX4_isIn 1 = .ok (.iload_n 1, 1) := by decide +kernel
theorem dX4_isIn_2 : decode cX4_isIn 2 = .ok (.if_icmp .lt 12, 3) := by decide +kernel
theorem dX4_isIn_5 : decode cX4_isIn 5 = .ok (.iload_n 0, 1) := by decide +kernel
theorem dX4_isIn_6 : decode cX4_isIn 6 = .ok (.iload_n 2, 1) := by decide +kernel
theorem dX4_isIn_7 : decode cX4_isIn 7 = .ok (.if_icmp .gt 7, 3) := by decide +kernel
theorem dX4_isIn_10 : decode cX4_isIn 10 = .ok (.iconst 1, 1) := by decide +kernel
theorem dX4_isIn_11 : decode cX4_isIn 11 = .ok (.goto 4, 3) := by decide +kernel
theorem dX4_isIn_14 : decode cX4_isIn 14 = .ok (.iconst 0, 1) := by decide +kernel
theorem dX4_isIn_15 : decode cX4_isIn 15 = .ok (.ireturn, 1) := by decide +kernel
theorem dX4_isWeek_0 : decode cX4_isWeek 0 = .ok (.iload_n 0, 1) := by decide +kernel
theorem dX4_isWeek_1 : decode cX4_isWeek 1 = .ok (.ifCond .lt 13, 3) := by decide +kernel
theorem dX4_isWeek_4 : decode cX4_isWeek 4 = .ok (.iload_n 0, 1) := by decide +kernel
theorem dX4_isWeek_5 : decode cX4_isWeek 5 = .ok (.bipush 12, 2) := by decide +kernel
theorem dX4_isWeek_7 : decode cX4_isWeek 7 = .ok (.if_icmp .ge 7, 3) := by decide +kernel
theorem dX4_isWeek_10 : decode cX4_isWeek 10 = .ok (.iconst 1, 1) := by decide +kernel
theorem dX4_isWeek_11 : decode cX4_isWeek 11 = .ok (.goto 4, 3) := by decide +kernel
theorem dX4_isWeek_14 : decode cX4_isWeek 14 = .ok (.iconst 0, 1) := by decide +kernel
theorem dX4_isWeek_15 : decode cX4_isWeek 15 = .ok (.ireturn, 1) := by decide +kernel
theorem dX4_isFamily_0 : decode cX4_isFamily 0 = .ok (.iload_n 0, 1) := by decide +kernel
theorem dX4_isFamily_1 : decode cX4_isFamily 1 = .ok (.ifCond .lt 12, 3) := by decide +kernel
theorem dX4_isFamily_4 : decode cX4_isFamily 4 = .ok (.iload_n 0, 1) := by decide +kernel
theorem dX4_isFamily_5 : decode cX4_isFamily 5 = .ok (.iconst 4, 1) := by decide +kernel
theorem dX4_isFamily_6 : decode cX4_isFamily 6 = .ok (.if_icmp .ge 7, 3) := by decide +kernel
theorem dX4_isFamily_9 : decode cX4_isFamily 9 = .ok (.iconst 1, 1) := by decide +kernel
theorem dX4_isFamily_10 : decode cX4_isFamily 10 = .ok (.goto 4, 3) := by decide +kernel
theorem dX4_isFamily_13 : decode cX4_isFamily 13 = .ok (.iconst 0, 1) := by decide +kernel
theorem dX4_isFamily_14 : decode cX4_isFamily 14 = .ok (.ireturn, 1) := by decide +kernel
theorem dJ6_bitCount_0f7a4_0 : decode cJ6_bitCount_0f7a4 0 = .ok (.iload_n 0, 1) := by decide +kernel
theorem dJ6_bitCount_0f7a4_1 : decode cJ6_bitCount_0f7a4 1 = .ok (.iload_n 0, 1) := by decide +kernel
theorem dJ6_bitCount_0f7a4_2 : decode cJ6_bitCount_0f7a4 2 = .ok (.iconst 1, 1) := by decide +kernel
theorem dJ6_bitCount_0f7a4_3 : decode cJ6_bitCount_0f7a4 3 = .ok (.iushr, 1) := by decide +kernel
theorem dJ6_bitCount_0f7a4_4 : decode cJ6_bitCount_0f7a4 4 = .ok (.ldc_w 265, 3) := by decide +kernel
theorem dJ6_bitCount_0f7a4_7 : decode cJ6_bitCount_0f7a4 7 = .ok (.iand, 1) := by decide +kernel
theorem dJ6_bitCount_0f7a4_8 : decode cJ6_bitCount_0f7a4 8 = .ok (.isub, 1) := by decide +kernel
theorem dJ6_bitCount_0f7a4_9 : decode cJ6_bitCount_0f7a4 9 = .ok (.istore_n 0, 1) := by decide +kernel
theorem dJ6_bitCount_0f7a4_10 : decode cJ6_bitCount_0f7a4 10 = .ok (.iload_n 0, 1) := by decide +kernel
theorem dJ6_bitCount_0f7a4_11 : decode cJ6_bitCount_0f7a4 11 = .ok (.ldc_w 266, 3) := by decide +kernel
theorem dJ6_bitCount_0f7a4_14 : decode cJ6_bitCount_0f7a4 14 = .ok (.iand, 1) := by decide +kernel
theorem dJ6_bitCount_0f7a4_15 : decode cJ6_bitCount_0f7a4 15 = .ok (.iload_n 0, 1) := by decide +kernel
theorem dJ6_bitCount_0f7a4_16 : decode cJ6_bitCount_0f7a4 16 = .ok (.iconst 2, 1) := by decide +kernel
theorem dJ6_bitCount_0f7a4_17 : decode cJ6_bitCount_0f7a4 17 = .ok (.iushr, 1) := by decide +kernel
theorem dJ6_bitCount_0f7a4_18 : decode cJ6_bitCount_0f7a4 18 = .ok (.ldc_w 266, 3) := by decide +kernel
theorem dJ6_bitCount_0f7a4_21 : decode cJ6_bitCount_0f7a4 21 = .ok (.iand, 1) := by decide +kernel
theorem dJ6_bitCount_0f7a4_22 : decode cJ6_bitCount_0f7a4 22 = .ok (.iadd, 1) := by decide +kernel
theorem dJ6_bitCount_0f7a4_23 : decode cJ6_bitCount_0f7a4 23 = .ok (.istore_n 0, 1) := by decide +kernel
theorem dJ6_bitCount_0f7a4_24 : decode cJ6_bitCount_0f7a4 24 = .ok (.iload_n 0, 1) := by decide +kernel
theorem dJ6_bitCount_0f7a4_25 : decode cJ6_bitCount_0f7a4 25 = .ok (.iload_n 0, 1) := by decide +kernel
theorem dJ6_bitCount_0f7a4_26 : decode cJ6_bitCount_0f7a4 26 = .ok (.iconst 4, 1) := by decide +kernel
theorem dJ6_bitCount_0f7a4_27 : decode cJ6_bitCount_0f7a4 27 = .ok (.iushr, 1) := by decide +kernel
theorem dJ6_bitCount_0f7a4_28 : decode cJ6_bitCount_0f7a4 28 = .ok (.iadd, 1) := by decide +kernel
theorem dJ6_bitCount_0f7a4_29 : decode cJ6_bitCount_0f7a4 29 = .ok (.ldc_w 267, 3) := by decide +kernel
theorem dJ6_bitCount_0f7a4_32 : decode cJ6_bitCount_0f7a4 32 = .ok (.iand, 1) := by decide +kernel
theorem dJ6_bitCount_0f7a4_33 : decode cJ6_bitCount_0f7a4 33 = .ok (.istore_n 0, 1) := by decide +kernel
theorem dJ6_bitCount_0f7a4_34 : decode cJ6_bitCount_0f7a4 34 = .ok (.iload_n 0, 1) := by decide +kernel
theorem dJ6_bitCount_0f7a4_35 : decode cJ6_bitCount_0f7a4 35 = .ok (.iload_n 0, 1) := by decide +kernel
theorem dJ6_bitCount_0f7a4_36 : decode cJ6_bitCount_0f7a4 36 = .ok (.bipush 8, 2) := by decide +kernel
theorem dJ6_bitCount_0f7a4_38 : decode cJ6_bitCount_0f7a4 38 = .ok (.iushr, 1) := by decide +kernel
theorem dJ6_bitCount_0f7a4_39 : decode cJ6_bitCount_0f7a4 39 = .ok (.iadd, 1) := by decide +kernel
theorem dJ6_bitCount_0f7a4_40 : decode cJ6_bitCount_0f7a4 40 = .ok (.istore_n 0, 1) := by decide +kernel
theorem dJ6_bitCount_0f7a4_41 : decode cJ6_bitCount_0f7a4 41 = .ok (.iload_n 0, 1) := by decide +kernel
theorem dJ6_bitCount_0f7a4_42 : decode cJ6_bitCount_0f7a4 42 = .ok (.iload_n 0, 1) := by decide +kernel
theorem dJ6_bitCount_0f7a4_43 : decode cJ6_bitCount_0f7a4 43 = .ok (.bipush 16, 2) := by decide +kernel
theorem dJ6_bitCount_0f7a4_45 : decode cJ6_bitCount_0f7a4 45 = .ok (.iushr, 1) := by decide +kernel
theorem dJ6_bitCount_0f7a4_46 : decode cJ6_bitCount_0f7a4 46 = .ok (.iadd, 1) := by decide +kernel
theorem dJ6_bitCount_0f7a4_47 : decode cJ6_bitCount_0f7a4 47 = .ok (.istore_n 0, 1) := by decide +kernel
theorem dJ6_bitCount_0f7a4_48 : decode cJ6_bitCount_0f7a4 48 = .ok (.iload_n 0, 1) := by decide +kernel
theorem dJ6_bitCount_0f7a4_49 : decode cJ6_bitCount_0f7a4 49 = .ok (.bipush 63, 2) := by decide +kernel
theorem dJ6_bitCount_0f7a4_51 : decode cJ6_bitCount_0f7a4 51 = .ok (.iand, 1) := by decide +kernel
theorem dJ6_bitCount_0f7a4_52 : decode cJ6_bitCount_0f7a4 52 = .ok (.ireturn, 1) := by decide +kernel
theorem dJ9_abs_0f7a4_0 : decode cJ9_abs_0f7a4 0 = .ok (.iload_n 0, 1) := by decide +kernel
theorem dJ9_abs_0f7a4_1 : decode cJ9_abs_0f7a4 1 = .ok (.ifCond .ge 8, 3) := by decide +kernel
theorem dJ9_abs_0f7a4_4 : decode cJ9_abs_0f7a4 4 = .ok (.iload_n 0, 1) := by decide +kernel
theorem dJ9_abs_0f7a4_5 : decode cJ9_abs_0f7a4 5 = .ok (.ineg, 1) := by decide +kernel
theorem dJ9_abs_0f7a4_6 : decode cJ9_abs_0f7a4 6 = .ok (.goto 4, 3) := by decide +kernel
theorem dJ9_abs_0f7a4_9 : decode cJ9_abs_0f7a4 9 = .ok (.iload_n 0, 1) := by decide +kernel
theorem dJ9_abs_0f7a4_10 : decode cJ9_abs_0f7a4 10 = .ok (.ireturn, 1) := by decide +kernel
theorem dJ9_max_7cf53_0 : decode cJ9_max_7cf53 0 = .ok (.iload_n 0, 1) := by decide +kernel
theorem dJ9_max_7cf53_1 : decode cJ9_max_7cf53 1 = .ok (.iload_n 1, 1) := by decide +kernel
theorem dJ9_max_7cf53_2 : decode cJ9_max_7cf53 2 = .ok (.if_icmp .lt 7, 3) := by decide +kernel
theorem dJ9_max_7cf53_5 : decode cJ9_max_7cf53 5 = .ok (.iload_n 0, 1) := by decide +kernel
theorem dJ9_max_7cf53_6 : decode cJ9_max_7cf53 6 = .ok (.goto 4, 3) := by decide +kernel
theorem dJ9_max_7cf53_9 : decode cJ9_max_7cf53 9 = .ok (.iload_n 1, 1) := by decide +kernel
theorem dJ9_max_7cf53_10 : decode cJ9_max_7cf53 10 = .ok (.ireturn, 1) := by decide +kernel
theorem dJ9_min_7cf53_0 : decode cJ9_min_7cf53 0 = .ok (.iload_n 0, 1) := by decide +kernel
theorem dJ9_min_7cf53_1 : decode cJ9_min_7cf53 1 = .ok (.iload_n 1, 1) := by decide +kernel
theorem dJ9_min_7cf53_2 : decode cJ9_min_7cf53 2 = .ok (.if_icmp .gt 7, 3) := by decide +kernel
theorem dJ9_min_7cf53_5 : decode cJ9_min_7cf53 5 = .ok (.iload_n 0, 1) := by decide +kernel
theorem dJ9_min_7cf53_6 : decode cJ9_min_7cf53 6 = .ok (.goto 4, 3) := by decide +kernel
theorem dJ9_min_7cf53_9 : decode cJ9_min_7cf53 9 = .ok (.iload_n 1, 1) := by decide +kernel
theorem dJ9_min_7cf53_10 : decode cJ9_min_7cf53 10 = .ok (.ireturn, 1) := by decide +kernel
theorem dJ9_min_f86c9_0 : decode cJ9_min_f86c9 0 = .ok (.lload_n 0, 1) := by decide +kernel
theorem dJ9_min_f86c9_1 : decode cJ9_min_f86c9 1 = .ok (.lload_n 2, 1) := by decide +kernel
theorem dJ9_min_f86c9_2 : decode cJ9_min_f86c9 2 = .ok (.lcmp, 1) := by decide +kernel
theorem dJ9_min_f86c9_3 : decode cJ9_min_f86c9 3 = .ok (.ifCond .gt 7, 3) := by decide +kernel
theorem dJ9_min_f86c9_6 : decode cJ9_min_f86c9 6 = .ok (.lload_n 0, 1) := by decide +kernel
theorem dJ9_min_f86c9_7 : decode cJ9_min_f86c9 7 = .ok (.goto 4, 3) := by decide +kernel
theorem dJ9_min_f86c9_10 : decode cJ9_min_f86c9 10 = .ok (.lload_n 2, 1) := by decide +kernel
theorem dJ9_min_f86c9_11 : decode cJ9_min_f86c9 11 = .ok (.lreturn, 1) := by decide +kernel
theorem dJ7_fill_53178_0 : decode cJ7_fill_53178 0 = .ok (.iconst 0, 1) := by decide +kernel
theorem dJ7_fill_53178_1 : decode cJ7_fill_53178 1 = .ok (.istore_n 2, 1) := by decide +kernel
theorem dJ7_fill_53178_2 : decode cJ7_fill_53178 2 = .ok (.aload_n 0, 1) := by decide +kernel
theorem dJ7_fill_53178_3 : decode cJ7_fill_53178 3 = .ok (.arraylength, 1) := by decide +kernel
theorem dJ7_fill_53178_4 : decode cJ7_fill_53178 4 = .ok (.istore_n 3, 1) := by decide +kernel
theorem dJ7_fill_53178_5 : decode cJ7_fill_53178 5 = .ok (.iload_n 2, 1) := by decide +kernel
theorem dJ7_fill_53178_6 : decode cJ7_fill_53178 6 = .ok (.iload_n 3, 1) := by decide +kernel
theorem dJ7_fill_53178_7 : decode cJ7_fill_53178 7 = .ok (.if_icmp .ge 13, 3) := by decide +kernel
theorem dJ7_fill_53178_10 : decode cJ7_fill_53178 10 = .ok (.aload_n 0, 1) := by decide +kernel
theorem dJ7_fill_53178_11 : decode cJ7_fill_53178 11 = .ok (.iload_n 2, 1) := by decide +kernel
theorem dJ7_fill_53178_12 : decode cJ7_fill_53178 12 = .ok (.iload_n 1, 1) := by decide +kernel
theorem dJ7_fill_53178_13 : decode cJ7_fill_53178 13 = .ok (.iastore, 1) := by decide +kernel
theorem dJ7_fill_53178_14 : decode cJ7_fill_53178 14 = .ok (.iinc 2 1, 3) := by decide +kernel
theorem dJ7_fill_53178_17 : decode cJ7_fill_53178 17 = .ok (.goto (-12), 3) := by decide +kernel
theorem dJ7_fill_53178_20 : decode cJ7_fill_53178 20 = .ok (.return_, 1) := by decide +kernel
theorem dL_cell_0 : decode cL_cell 0 = .ok (.iload_n 1, 1) := by decide +kernel
theorem dL_cell_1 : decode cL_cell 1 = .ok (.aload_n 0, 1) := by decide +kernel
theorem dL_cell_2 : decode cL_cell 2 = .ok (.arraylength, 1) := by decide +kernel
theorem dL_cell_3 : decode cL_cell 3 = .ok (.if_icmp .ge 9, 3) := by decide +kernel
theorem dL_cell_6 : decode cL_cell 6 = .ok (.aload_n 0, 1) := by decide +kernel
theorem dL_cell_7 : decode cL_cell 7 = .ok (.iload_n 1, 1) := by decide +kernel
theorem dL_cell_8 : decode cL_cell 8 = .ok (.iaload, 1) := by decide +kernel
theorem dL_cell_9 : decode cL_cell 9 = .ok (.goto 9, 3) := by decide +kernel
theorem dL_cell_12 : decode cL_cell 12 = .ok (.ldc 7, 2) := by decide +kernel
theorem dL_cell_14 : decode cL_cell 14 = .ok (.iload_n 1, 1) := by decide +kernel
theorem dL_cell_15 : decode cL_cell 15 = .ok (.iconst 3, 1) := by decide +kernel
theorem dL_cell_16 : decode cL_cell 16 = .ok (.iadd, 1) := by decide +kernel
theorem dL_cell_17 : decode cL_cell 17 = .ok (.imul, 1) := by decide +kernel
theorem dL_cell_18 : decode cL_cell 18 = .ok (.ireturn, 1) := by decide +kernel
theorem dL_up_0 : decode cL_up 0 = .ok (.iload_n 0, 1) := by decide +kernel
theorem dL_up_1 : decode cL_up 1 = .ok (.ldc 8, 2) := by decide +kernel
theorem dL_up_3 : decode cL_up 3 = .ok (.iand, 1) := by decide +kernel
theorem dL_up_4 : decode cL_up 4 = .ok (.iload_n 1, 1) := by decide +kernel
theorem dL_up_5 : decode cL_up 5 = .ok (.irem, 1) := by decide +kernel
theorem dL_up_6 : decode cL_up 6 = .ok (.ireturn, 1) := by decide +kernel
theorem dL_view_0 : decode cL_view 0 = .ok (.ldc2_w 9, 3) := by decide +kernel
theorem dL_view_3 : decode cL_view 3 = .ok (.lstore_n 1, 1) := by decide +kernel
theorem dL_view_4 : decode cL_view 4 = .ok (.iconst 0, 1) := by decide +kernel
theorem dL_view_5 : decode cL_view 5 = .ok (.istore_n 3, 1) := by decide +kernel
theorem dL_view_6 : decode cL_view 6 = .ok (.iload_n 3, 1) := by decide +kernel
theorem dL_view_7 : decode cL_view 7 = .ok (.bipush 23, 2) := by decide +kernel
theorem dL_view_9 : decode cL_view 9 = .ok (.if_icmp .ge 37, 3) := by decide +kernel
theorem dL_view_12 : decode cL_view 12 = .ok (.iload_n 3, 1) := by decide +kernel
theorem dL_view_13 : decode cL_view 13 = .ok (.bipush 8, 2) := by decide +kernel
theorem dL_view_15 : decode cL_view 15 = .ok (.if_icmp .eq 9, 3) := by decide +kernel
theorem dL_view_18 : decode cL_view 18 = .ok (.iload_n 3, 1) := by decide +kernel
theorem dL_view_19 : decode cL_view 19 = .ok (.bipush 9, 2) := by decide +kernel
theorem dL_view_21 : decode cL_view 21 = .ok (.if_icmp .ne 7, 3) := by decide +kernel
theorem dL_view_24 : decode cL_view 24 = .ok (.lload_n 1, 1) := by decide +kernel
theorem dL_view_25 : decode cL_view 25 = .ok (.goto 14, 3) := by decide +kernel
theorem dL_view_28 : decode cL_view 28 = .ok (.ldc2_w 11, 3) := by decide +kernel
theorem dL_view_31 : decode cL_view 31 = .ok (.lload_n 1, 1) := by decide +kernel
theorem dL_view_32 : decode cL_view 32 = .ok (.lmul, 1) := by decide +kernel
theorem dL_view_33 : decode cL_view 33 = .ok (.aload_n 0, 1) := by decide +kernel
theorem dL_view_34 : decode cL_view 34 = .ok (.iload_n 3, 1) := by decide +kernel
theorem dL_view_35 : decode cL_view 35 = .ok (.invokevirtual 13, 3) := by decide +kernel
theorem dL_view_38 : decode cL_view 38 = .ok (.ladd, 1) := by decide +kernel
theorem dL_view_39 : decode cL_view 39 = .ok (.lstore_n 1, 1) := by decide +kernel
theorem dL_view_40 : decode cL_view 40 = .ok (.iinc 3 1, 3) := by decide +kernel
theorem dL_view_43 : decode cL_view 43 = .ok (.goto (-37), 3) := by decide +kernel
theorem dL_view_46 : decode cL_view 46 = .ok (.iconst 0, 1) := by decide +kernel
theorem dL_view_47 : decode cL_view 47 = .ok (.istore_n 3, 1) := by decide +kernel
theorem dL_view_48 : decode cL_view 48 = .ok (.iload_n 3, 1) := by decide +kernel
theorem dL_view_49 : decode cL_view 49 = .ok (.i2l, 1) := by decide +kernel
theorem dL_view_50 : decode cL_view 50 = .ok (.aload_n 0, 1) := by decide +kernel
theorem dL_view_51 : decode cL_view 51 = .ok (.iconst 1, 1) := by decide +kernel
theorem dL_view_52 : decode cL_view 52 = .ok (.invokevirtual 13, 3) := by decide +kernel
theorem dL_view_55 : decode cL_view 55 = .ok (.lcmp, 1) := by decide +kernel
theorem dL_view_56 : decode cL_view 56 = .ok (.ifCond .ge 86, 3) := by decide +kernel
theorem dL_view_59 : decode cL_view 59 = .ok (.iconst 0, 1) := by decide +kernel
theorem dL_view_60 : decode cL_view 60 = .ok (.istore 4, 2) := by decide +kernel
theorem dL_view_62 : decode cL_view 62 = .ok (.iload 4, 2) := by decide +kernel
theorem dL_view_64 : decode cL_view 64 = .ok (.bipush 13, 2) := by decide +kernel
theorem dL_view_66 : decode cL_view 66 = .ok (.if_icmp .ge 24, 3) := by decide +kernel
theorem dL_view_69 : decode cL_view 69 = .ok (.ldc2_w 11, 3) := by decide +kernel
theorem dL_view_72 : decode cL_view 72 = .ok (.lload_n 1, 1) := by decide +kernel
theorem dL_view_73 : decode cL_view 73 = .ok (.lmul, 1) := by decide +kernel
theorem dL_view_74 : decode cL_view 74 = .ok (.aload_n 0, 1) := by decide +kernel
theorem dL_view_75 : decode cL_view 75 = .ok (.iload_n 3, 1) := by decide +kernel
theorem dL_view_76 : decode cL_view 76 = .ok (.iload 4, 2) := by decide +kernel
theorem dL_view_78 : decode cL_view 78 = .ok (.invokevirtual 19, 3) := by decide +kernel
theorem dL_view_81 : decode cL_view 81 = .ok (.i2l, 1) := by decide +kernel
theorem dL_view_82 : decode cL_view 82 = .ok (.ladd, 1) := by decide +kernel
theorem dL_view_83 : decode cL_view 83 = .ok (.lstore_n 1, 1) := by decide +kernel
theorem dL_view_84 : decode cL_view 84 = .ok (.iinc 4 1, 3) := by decide +kernel
theorem dL_view_87 : decode cL_view 87 = .ok (.goto (-25), 3) := by decide +kernel
theorem dL_view_90 : decode cL_view 90 = .ok (.iconst 0, 1) := by decide +kernel
theorem dL_view_91 : decode cL_view 91 = .ok (.istore 4, 2) := by decide +kernel
theorem dL_view_93 : decode cL_view 93 = .ok (.iload 4, 2) := by decide +kernel
theorem dL_view_95 : decode cL_view 95 = .ok (.bipush 12, 2) := by decide +kernel
theorem dL_view_97 : decode cL_view 97 = .ok (.if_icmp .ge 39, 3) := by decide +kernel
theorem dL_view_100 : decode cL_view 100 = .ok (.ldc2_w 11, 3) := by decide +kernel
theorem dL_view_103 : decode cL_view 103 = .ok (.ldc2_w 11, 3) := by decide +kernel
theorem dL_view_106 : decode cL_view 106 = .ok (.lload_n 1, 1) := by decide +kernel
theorem dL_view_107 : decode cL_view 107 = .ok (.lmul, 1) := by decide +kernel
theorem dL_view_108 : decode cL_view 108 = .ok (.aload_n 0, 1) := by decide +kernel
theorem dL_view_109 : decode cL_view 109 = .ok (.iload_n 3, 1) := by decide +kernel
theorem dL_view_110 : decode cL_view 110 = .ok (.iload 4, 2) := by decide +kernel
theorem dL_view_112 : decode cL_view 112 = .ok (.iconst 0, 1) := by decide +kernel
theorem dL_view_113 : decode cL_view 113 = .ok (.invokevirtual 23, 3) := by decide +kernel
theorem dL_view_116 : decode cL_view 116 = .ok (.i2l, 1) := by decide +kernel
theorem dL_view_117 : decode cL_view 117 = .ok (.ladd, 1) := by decide +kernel
theorem dL_view_118 : decode cL_view 118 = .ok (.lmul, 1) := by decide +kernel
theorem dL_view_119 : decode cL_view 119 = .ok (.aload_n 0, 1) := by decide +kernel
theorem dL_view_120 : decode cL_view 120 = .ok (.iload_n 3, 1) := by decide +kernel
theorem dL_view_121 : decode cL_view 121 = .ok (.iload 4, 2) := by decide +kernel
theorem dL_view_123 : decode cL_view 123 = .ok (.iconst 1, 1) := by decide +kernel
theorem dL_view_124 : decode cL_view 124 = .ok (.invokevirtual 23, 3) := by decide +kernel
theorem dL_view_127 : decode cL_view 127 = .ok (.i2l, 1) := by decide +kernel
theorem dL_view_128 : decode cL_view 128 = .ok (.ladd, 1) := by decide +kernel
theorem dL_view_129 : decode cL_view 129 = .ok (.lstore_n 1, 1) := by decide +kernel
theorem dL_view_130 : decode cL_view 130 = .ok (.iinc 4 1, 3) := by decide +kernel
theorem dL_view_133 : decode cL_view 133 = .ok (.goto (-40), 3) := by decide +kernel
theorem dL_view_136 : decode cL_view 136 = .ok (.iinc 3 1, 3) := by decide +kernel
theorem dL_view_139 : decode cL_view 139 = .ok (.goto (-91), 3) := by decide +kernel
theorem dL_view_142 : decode cL_view 142 = .ok (.lload_n 1, 1) := by decide +kernel
theorem dL_view_143 : decode cL_view 143 = .ok (.lreturn, 1) := by decide +kernel
theorem dL_frozen_0 : decode cL_frozen 0 = .ok (.ldc2_w 9, 3) := by decide +kernel
theorem dL_frozen_3 : decode cL_frozen 3 = .ok (.lstore_n 1, 1) := by decide +kernel
theorem dL_frozen_4 : decode cL_frozen 4 = .ok (.iconst 0, 1) := by decide +kernel
theorem dL_frozen_5 : decode cL_frozen 5 = .ok (.istore_n 3, 1) := by decide +kernel
theorem dL_frozen_6 : decode cL_frozen 6 = .ok (.iload_n 3, 1) := by decide +kernel
theorem dL_frozen_7 : decode cL_frozen 7 = .ok (.i2l, 1) := by decide +kernel
theorem dL_frozen_8 : decode cL_frozen 8 = .ok (.aload_n 0, 1) := by decide +kernel
theorem dL_frozen_9 : decode cL_frozen 9 = .ok (.iconst 1, 1) := by decide +kernel
theorem dL_frozen_10 : decode cL_frozen 10 = .ok (.invokevirtual 13, 3) := by decide +kernel
theorem dL_frozen_13 : decode cL_frozen 13 = .ok (.lcmp, 1) := by decide +kernel
theorem dL_frozen_14 : decode cL_frozen 14 = .ok (.ifCond .ge 47, 3) := by decide +kernel
theorem dL_frozen_17 : decode cL_frozen 17 = .ok (.iconst 0, 1) := by decide +kernel
theorem dL_frozen_18 : decode cL_frozen 18 = .ok (.istore 4, 2) := by decide +kernel
theorem dL_frozen_20 : decode cL_frozen 20 = .ok (.iload 4, 2) := by decide +kernel
theorem dL_frozen_22 : decode cL_frozen 22 = .ok (.i2l, 1) := by decide +kernel
theorem dL_frozen_23 : decode cL_frozen 23 = .ok (.aload_n 0, 1) := by decide +kernel
theorem dL_frozen_24 : decode cL_frozen 24 = .ok (.bipush 12, 2) := by decide +kernel
theorem dL_frozen_26 : decode cL_frozen 26 = .ok (.invokevirtual 13, 3) := by decide +kernel
theorem dL_frozen_29 : decode cL_frozen 29 = .ok (.lcmp, 1) := by decide +kernel
theorem dL_frozen_30 : decode cL_frozen 30 = .ok (.ifCond .ge 25, 3) := by decide +kernel
theorem dL_frozen_33 : decode cL_frozen 33 = .ok (.ldc2_w 11, 3) := by decide +kernel
theorem dL_frozen_36 : decode cL_frozen 36 = .ok (.lload_n 1, 1) := by decide +kernel
theorem dL_frozen_37 : decode cL_frozen 37 = .ok (.lmul, 1) := by decide +kernel
theorem dL_frozen_38 : decode cL_frozen 38 = .ok (.aload_n 0, 1) := by decide +kernel
theorem dL_frozen_39 : decode cL_frozen 39 = .ok (.iload_n 3, 1) := by decide +kernel
theorem dL_frozen_40 : decode cL_frozen 40 = .ok (.iload 4, 2) := by decide +kernel
theorem dL_frozen_42 : decode cL_frozen 42 = .ok (.iconst 1, 1) := by decide +kernel
theorem dL_frozen_43 : decode cL_frozen 43 = .ok (.invokevirtual 23, 3) := by decide +kernel
theorem dL_frozen_46 : decode cL_frozen 46 = .ok (.i2l, 1) := by decide +kernel
theorem dL_frozen_47 : decode cL_frozen 47 = .ok (.ladd, 1) := by decide +kernel
theorem dL_frozen_48 : decode cL_frozen 48 = .ok (.lstore_n 1, 1) := by decide +kernel
theorem dL_frozen_49 : decode cL_frozen 49 = .ok (.iinc 4 1, 3) := by decide +kernel
theorem dL_frozen_52 : decode cL_frozen 52 = .ok (.goto (-32), 3) := by decide +kernel
theorem dL_frozen_55 : decode cL_frozen 55 = .ok (.iinc 3 1, 3) := by decide +kernel
theorem dL_frozen_58 : decode cL_frozen 58 = .ok (.goto (-52), 3) := by decide +kernel
theorem dL_frozen_61 : decode cL_frozen 61 = .ok (.lload_n 1, 1) := by decide +kernel
theorem dL_frozen_62 : decode cL_frozen 62 = .ok (.lreturn, 1) := by decide +kernel
theorem dL_any_0 : decode cL_any 0 = .ok (.iload_n 2, 1) := by decide +kernel
theorem dL_any_1 : decode cL_any 1 = .ok (.bipush 7, 2) := by decide +kernel
theorem dL_any_3 : decode cL_any 3 = .ok (.iand, 1) := by decide +kernel
theorem dL_any_4 : decode cL_any 4 = .ok (.tableswitch 97 0 6 #[44, 51, 61, 68, 76, 83, 91], 44) := by decide +kernel
theorem dL_any_48 : decode cL_any 48 = .ok (.aload_n 0, 1) := by decide +kernel
theorem dL_any_49 : decode cL_any 49 = .ok (.iload_n 1, 1) := by decide +kernel
theorem dL_any_50 : decode cL_any 50 = .ok (.iload_n 2, 1) := by decide +kernel
theorem dL_any_51 : decode cL_any 51 = .ok (.invokevirtual 27, 3) := by decide +kernel
theorem dL_any_54 : decode cL_any 54 = .ok (.ireturn, 1) := by decide +kernel
theorem dL_any_55 : decode cL_any 55 = .ok (.aload_n 0, 1) := by decide +kernel
theorem dL_any_56 : decode cL_any 56 = .ok (.iload_n 1, 1) := by decide +kernel
theorem dL_any_57 : decode cL_any 57 = .ok (.iload_n 2, 1) := by decide +kernel
theorem dL_any_58 : decode cL_any 58 = .ok (.iload_n 1, 1) := by decide +kernel
theorem dL_any_59 : decode cL_any 59 = .ok (.iload_n 2, 1) := by decide +kernel
theorem dL_any_60 : decode cL_any 60 = .ok (.iload_n 1, 1) := by decide +kernel
theorem dL_any_61 : decode cL_any 61 = .ok (.invokevirtual 30, 3) := by decide +kernel
theorem dL_any_64 : decode cL_any 64 = .ok (.ireturn, 1) := by decide +kernel
theorem dL_any_65 : decode cL_any 65 = .ok (.aload_n 0, 1) := by decide +kernel
theorem dL_any_66 : decode cL_any 66 = .ok (.iload_n 1, 1) := by decide +kernel
theorem dL_any_67 : decode cL_any 67 = .ok (.iload_n 2, 1) := by decide +kernel
theorem dL_any_68 : decode cL_any 68 = .ok (.invokevirtual 34, 3) := by decide +kernel
theorem dL_any_71 : decode cL_any 71 = .ok (.ireturn, 1) := by decide +kernel
theorem dL_any_72 : decode cL_any 72 = .ok (.aload_n 0, 1) := by decide +kernel
theorem dL_any_73 : decode cL_any 73 = .ok (.iload_n 1, 1) := by decide +kernel
theorem dL_any_74 : decode cL_any 74 = .ok (.iload_n 2, 1) := by decide +kernel
theorem dL_any_75 : decode cL_any 75 = .ok (.iload_n 1, 1) := by decide +kernel
theorem dL_any_76 : decode cL_any 76 = .ok (.invokevirtual 37, 3) := by decide +kernel
theorem dL_any_79 : decode cL_any 79 = .ok (.ireturn, 1) := by decide +kernel
theorem dL_any_80 : decode cL_any 80 = .ok (.aload_n 0, 1) := by decide +kernel
theorem dL_any_81 : decode cL_any 81 = .ok (.iload_n 1, 1) := by decide +kernel
theorem dL_any_82 : decode cL_any 82 = .ok (.iload_n 2, 1) := by decide +kernel
theorem dL_any_83 : decode cL_any 83 = .ok (.invokevirtual 40, 3) := by decide +kernel
theorem dL_any_86 : decode cL_any 86 = .ok (.ireturn, 1) := by decide +kernel
theorem dL_any_87 : decode cL_any 87 = .ok (.aload_n 0, 1) := by decide +kernel
theorem dL_any_88 : decode cL_any 88 = .ok (.iload_n 1, 1) := by decide +kernel
theorem dL_any_89 : decode cL_any 89 = .ok (.iload_n 2, 1) := by decide +kernel
theorem dL_any_90 : decode cL_any 90 = .ok (.iload_n 1, 1) := by decide +kernel
theorem dL_any_91 : decode cL_any 91 = .ok (.invokevirtual 43, 3) := by decide +kernel
theorem dL_any_94 : decode cL_any 94 = .ok (.ireturn, 1) := by decide +kernel
theorem dL_any_95 : decode cL_any 95 = .ok (.aload_n 0, 1) := by decide +kernel
theorem dL_any_96 : decode cL_any 96 = .ok (.iload_n 1, 1) := by decide +kernel
theorem dL_any_97 : decode cL_any 97 = .ok (.invokevirtual 46, 3) := by decide +kernel
theorem dL_any_100 : decode cL_any 100 = .ok (.ireturn, 1) := by decide +kernel
theorem dL_any_101 : decode cL_any 101 = .ok (.aload_n 0, 1) := by decide +kernel
theorem dL_any_102 : decode cL_any 102 = .ok (.iload_n 1, 1) := by decide +kernel
theorem dL_any_103 : decode cL_any 103 = .ok (.invokevirtual 50, 3) := by decide +kernel
theorem dL_any_106 : decode cL_any 106 = .ok (.ireturn, 1) := by decide +kernel
theorem dL_sets_0 : decode cL_sets 0 = .ok (.iload_n 1, 1) := by decide +kernel
theorem dL_sets_1 : decode cL_sets 1 = .ok (.bipush 9, 2) := by decide +kernel
theorem dL_sets_3 : decode cL_sets 3 = .ok (.invokestatic 53, 3) := by decide +kernel
theorem dL_sets_6 : decode cL_sets 6 = .ok (.istore_n 3, 1) := by decide +kernel
theorem dL_sets_7 : decode cL_sets 7 = .ok (.iload_n 3, 1) := by decide +kernel
theorem dL_sets_8 : decode cL_sets 8 = .ok (.ifCond .eq 8, 3) := by decide +kernel
theorem dL_sets_11 : decode cL_sets 11 = .ok (.iload_n 3, 1) := by decide +kernel
theorem dL_sets_12 : decode cL_sets 12 = .ok (.iconst 5, 1) := by decide +kernel
theorem dL_sets_13 : decode cL_sets 13 = .ok (.if_icmp .ne 9, 3) := by decide +kernel
theorem dL_sets_16 : decode cL_sets 16 = .ok (.sipush 300, 3) := by decide +kernel
theorem dL_sets_19 : decode cL_sets 19 = .ok (.goto 36, 3) := by decide +kernel
theorem dL_sets_22 : decode cL_sets 22 = .ok (.iload_n 3, 1) := by decide +kernel
theorem dL_sets_23 : decode cL_sets 23 = .ok (.iconst 2, 1) := by decide +kernel
theorem dL_sets_24 : decode cL_sets 24 = .ok (.if_icmp .ne 8, 3) := by decide +kernel
theorem dL_sets_27 : decode cL_sets 27 = .ok (.bipush 9, 2) := by decide +kernel
theorem dL_sets_29 : decode cL_sets 29 = .ok (.goto 26, 3) := by decide +kernel
theorem dL_sets_32 : decode cL_sets 32 = .ok (.iload_n 3, 1) := by decide +kernel
theorem dL_sets_33 : decode cL_sets 33 = .ok (.iconst 3, 1) := by decide +kernel
theorem dL_sets_34 : decode cL_sets 34 = .ok (.if_icmp .ne 8, 3) := by decide +kernel
theorem dL_sets_37 : decode cL_sets 37 = .ok (.bipush 7, 2) := by decide +kernel
theorem dL_sets_39 : decode cL_sets 39 = .ok (.goto 16, 3) := by decide +kernel
theorem dL_sets_42 : decode cL_sets 42 = .ok (.iload_n 3, 1) := by decide +kernel
theorem dL_sets_43 : decode cL_sets 43 = .ok (.iconst 4, 1) := by decide +kernel
theorem dL_sets_44 : decode cL_sets 44 = .ok (.if_icmp .ne 9, 3) := by decide +kernel
theorem dL_sets_47 : decode cL_sets 47 = .ok (.sipush 401, 3) := by decide +kernel
theorem dL_sets_50 : decode cL_sets 50 = .ok (.goto 5, 3) := by decide +kernel
theorem dL_sets_53 : decode cL_sets 53 = .ok (.bipush 101, 2) := by decide +kernel
theorem dL_sets_55 : decode cL_sets 55 = .ok (.istore 4, 2) := by decide +kernel
theorem dL_sets_57 : decode cL_sets 57 = .ok (.aload_n 0, 1) := by decide +kernel
theorem dL_sets_58 : decode cL_sets 58 = .ok (.iload_n 3, 1) := by decide +kernel
theorem dL_sets_59 : decode cL_sets 59 = .ok (.iload_n 2, 1) := by decide +kernel
theorem dL_sets_60 : decode cL_sets 60 = .ok (.iload 4, 2) := by decide +kernel
theorem dL_sets_62 : decode cL_sets 62 = .ok (.invokestatic 53, 3) := by decide +kernel
theorem dL_sets_65 : decode cL_sets 65 = .ok (.invokevirtual 27, 3) := by decide +kernel
theorem dL_sets_68 : decode cL_sets 68 = .ok (.ireturn, 1) := by decide +kernel
theorem dL_turn_0 : decode cL_turn 0 = .ok (.iload_n 2, 1) := by decide +kernel
theorem dL_turn_1 : decode cL_turn 1 = .ok (.iconst 5, 1) := by decide +kernel
theorem dL_turn_2 : decode cL_turn 2 = .ok (.invokestatic 53, 3) := by decide +kernel
theorem dL_turn_5 : decode cL_turn 5 = .ok (.istore 4, 2) := by decide +kernel
theorem dL_turn_7 : decode cL_turn 7 = .ok (.iload_n 1, 1) := by decide +kernel
theorem dL_turn_8 : decode cL_turn 8 = .ok (.tableswitch 250 0 13 #[72, 72, 118, 125, 141, 141, 141, 163, 189, 189, 221, 221, 226, 226], 72) := by decide +kernel
theorem dL_turn_80 : decode cL_turn 80 = .ok (.aload_n 0, 1) := by decide +kernel
theorem dL_turn_81 : decode cL_turn 81 = .ok (.iload_n 2, 1) := by decide +kernel
theorem dL_turn_82 : decode cL_turn 82 = .ok (.iconst 4, 1) := by decide +kernel
theorem dL_turn_83 : decode cL_turn 83 = .ok (.invokestatic 53, 3) := by decide +kernel
theorem dL_turn_86 : decode cL_turn 86 = .ok (.iconst 1, 1) := by decide +kernel
theorem dL_turn_87 : decode cL_turn 87 = .ok (.iload_n 2, 1) := by decide +kernel
theorem dL_turn_88 : decode cL_turn 88 = .ok (.iconst 2, 1) := by decide +kernel
theorem dL_turn_89 : decode cL_turn 89 = .ok (.ishr, 1) := by decide +kernel
theorem dL_turn_90 : decode cL_turn 90 = .ok (.bipush 40, 2) := by decide +kernel
theorem dL_turn_92 : decode cL_turn 92 = .ok (.invokestatic 53, 3) := by decide +kernel
theorem dL_turn_95 : decode cL_turn 95 = .ok (.iadd, 1) := by decide +kernel
theorem dL_turn_96 : decode cL_turn 96 = .ok (.iconst 1, 1) := by decide +kernel
theorem dL_turn_97 : decode cL_turn 97 = .ok (.iload_n 3, 1) := by decide +kernel
theorem dL_turn_98 : decode cL_turn 98 = .ok (.bipush 12, 2) := by decide +kernel
theorem dL_turn_100 : decode cL_turn 100 = .ok (.invokestatic 53, 3) := by decide +kernel
theorem dL_turn_103 : decode cL_turn 103 = .ok (.iadd, 1) := by decide +kernel
theorem dL_turn_104 : decode cL_turn 104 = .ok (.iload_n 3, 1) := by decide +kernel
theorem dL_turn_105 : decode cL_turn 105 = .ok (.iconst 4, 1) := by decide +kernel
theorem dL_turn_106 : decode cL_turn 106 = .ok (.ishr, 1) := by decide +kernel
theorem dL_turn_107 : decode cL_turn 107 = .ok (.bipush 21, 2) := by decide +kernel
theorem dL_turn_109 : decode cL_turn 109 = .ok (.invokestatic 53, 3) := by decide +kernel
theorem dL_turn_112 : decode cL_turn 112 = .ok (.iload_n 3, 1) := by decide +kernel
theorem dL_turn_113 : decode cL_turn 113 = .ok (.bipush 8, 2) := by decide +kernel
theorem dL_turn_115 : decode cL_turn 115 = .ok (.ishr, 1) := by decide +kernel
theorem dL_turn_116 : decode cL_turn 116 = .ok (.sipush 300, 3) := by decide +kernel
theorem dL_turn_119 : decode cL_turn 119 = .ok (.invokestatic 53, 3) := by decide +kernel
theorem dL_turn_122 : decode cL_turn 122 = .ok (.invokevirtual 30, 3) := by decide +kernel
theorem dL_turn_125 : decode cL_turn 125 = .ok (.ireturn, 1) := by decide +kernel
theorem dL_turn_126 : decode cL_turn 126 = .ok (.aload_n 0, 1) := by decide +kernel
theorem dL_turn_127 : decode cL_turn 127 = .ok (.iload_n 2, 1) := by decide +kernel
theorem dL_turn_128 : decode cL_turn 128 = .ok (.iload_n 3, 1) := by decide +kernel
theorem dL_turn_129 : decode cL_turn 129 = .ok (.invokestatic 58, 3) := by decide +kernel
theorem dL_turn_132 : decode cL_turn 132 = .ok (.ireturn, 1) := by decide +kernel
theorem dL_turn_133 : decode cL_turn 133 = .ok (.aload_n 0, 1) := by decide +kernel
theorem dL_turn_134 : decode cL_turn 134 = .ok (.iload_n 2, 1) := by decide +kernel
theorem dL_turn_135 : decode cL_turn 135 = .ok (.iconst 4, 1) := by decide +kernel
theorem dL_turn_136 : decode cL_turn 136 = .ok (.invokestatic 53, 3) := by decide +kernel
theorem dL_turn_139 : decode cL_turn 139 = .ok (.iload_n 3, 1) := by decide +kernel
theorem dL_turn_140 : decode cL_turn 140 = .ok (.bipush 51, 2) := by decide +kernel
theorem dL_turn_142 : decode cL_turn 142 = .ok (.invokestatic 53, 3) := by decide +kernel
theorem dL_turn_145 : decode cL_turn 145 = .ok (.invokevirtual 34, 3) := by decide +kernel
theorem dL_turn_148 : decode cL_turn 148 = .ok (.ireturn, 1) := by decide +kernel
theorem dL_turn_149 : decode cL_turn 149 = .ok (.aload_n 0, 1) := by decide +kernel
theorem dL_turn_150 : decode cL_turn 150 = .ok (.iload 4, 2) := by decide +kernel
theorem dL_turn_152 : decode cL_turn 152 = .ok (.iload_n 2, 1) := by decide +kernel
theorem dL_turn_153 : decode cL_turn 153 = .ok (.iconst 4, 1) := by decide +kernel
theorem dL_turn_154 : decode cL_turn 154 = .ok (.ishr, 1) := by decide +kernel
theorem dL_turn_155 : decode cL_turn 155 = .ok (.bipush 12, 2) := by decide +kernel
theorem dL_turn_157 : decode cL_turn 157 = .ok (.invokestatic 53, 3) := by decide +kernel
theorem dL_turn_160 : decode cL_turn 160 = .ok (.iload_n 3, 1) := by decide +kernel
theorem dL_turn_161 : decode cL_turn 161 = .ok (.sipush 200, 3) := by decide +kernel
theorem dL_turn_164 : decode cL_turn 164 = .ok (.invokestatic 53, 3) := by decide +kernel
theorem dL_turn_167 : decode cL_turn 167 = .ok (.invokevirtual 37, 3) := by decide +kernel
theorem dL_turn_170 : decode cL_turn 170 = .ok (.ireturn, 1) := by decide +kernel
theorem dL_turn_171 : decode cL_turn 171 = .ok (.aload_n 0, 1) := by decide +kernel
theorem dL_turn_172 : decode cL_turn 172 = .ok (.iload 4, 2) := by decide +kernel
theorem dL_turn_174 : decode cL_turn 174 = .ok (.iload_n 2, 1) := by decide +kernel
theorem dL_turn_175 : decode cL_turn 175 = .ok (.bipush 64, 2) := by decide +kernel
theorem dL_turn_177 : decode cL_turn 177 = .ok (.iand, 1) := by decide +kernel
theorem dL_turn_178 : decode cL_turn 178 = .ok (.ifCond .ne 13, 3) := by decide +kernel
theorem dL_turn_181 : decode cL_turn 181 = .ok (.iload_n 3, 1) := by decide +kernel
theorem dL_turn_182 : decode cL_turn 182 = .ok (.sipush 400, 3) := by decide +kernel
theorem dL_turn_185 : decode cL_turn 185 = .ok (.invokestatic 53, 3) := by decide +kernel
theorem dL_turn_188 : decode cL_turn 188 = .ok (.goto 5, 3) := by decide +kernel
theorem dL_turn_191 : decode cL_turn 191 = .ok (.bipush (-6), 2) := by decide +kernel
theorem dL_turn_193 : decode cL_turn 193 = .ok (.invokevirtual 40, 3) := by decide +kernel
theorem dL_turn_196 : decode cL_turn 196 = .ok (.ireturn, 1) := by decide +kernel
theorem dL_turn_197 : decode cL_turn 197 = .ok (.aload_n 0, 1) := by decide +kernel
theorem dL_turn_198 : decode cL_turn 198 = .ok (.iload 4, 2) := by decide +kernel
theorem dL_turn_200 : decode cL_turn 200 = .ok (.iload_n 2, 1) := by decide +kernel
theorem dL_turn_201 : decode cL_turn 201 = .ok (.iconst 4, 1) := by decide +kernel
theorem dL_turn_202 : decode cL_turn 202 = .ok (.ishr, 1) := by decide +kernel
theorem dL_turn_203 : decode cL_turn 203 = .ok (.bipush 12, 2) := by decide +kernel
theorem dL_turn_205 : decode cL_turn 205 = .ok (.invokestatic 53, 3) := by decide +kernel
theorem dL_turn_208 : decode cL_turn 208 = .ok (.iload_n 3, 1) := by decide +kernel
theorem dL_turn_209 : decode cL_turn 209 = .ok (.iload_n 2, 1) := by decide +kernel
theorem dL_turn_210 : decode cL_turn 210 = .ok (.bipush 64, 2) := by decide +kernel
theorem dL_turn_212 : decode cL_turn 212 = .ok (.iand, 1) := by decide +kernel
theorem dL_turn_213 : decode cL_turn 213 = .ok (.ifCond .ne 7, 3) := by decide +kernel
theorem dL_turn_216 : decode cL_turn 216 = .ok (.iconst 5, 1) := by decide +kernel
theorem dL_turn_217 : decode cL_turn 217 = .ok (.goto 5, 3) := by decide +kernel
theorem dL_turn_220 : decode cL_turn 220 = .ok (.bipush 60, 2) := by decide +kernel
theorem dL_turn_222 : decode cL_turn 222 = .ok (.invokestatic 53, 3) := by decide +kernel
theorem dL_turn_225 : decode cL_turn 225 = .ok (.invokevirtual 43, 3) := by decide +kernel
theorem dL_turn_228 : decode cL_turn 228 = .ok (.ireturn, 1) := by decide +kernel
theorem dL_turn_229 : decode cL_turn 229 = .ok (.aload_n 0, 1) := by decide +kernel
theorem dL_turn_230 : decode cL_turn 230 = .ok (.invokevirtual 62, 3) := by decide +kernel
theorem dL_turn_233 : decode cL_turn 233 = .ok (.ireturn, 1) := by decide +kernel
theorem dL_turn_234 : decode cL_turn 234 = .ok (.aload_n 0, 1) := by decide +kernel
theorem dL_turn_235 : decode cL_turn 235 = .ok (.iconst 1, 1) := by decide +kernel
theorem dL_turn_236 : decode cL_turn 236 = .ok (.iload_n 3, 1) := by decide +kernel
theorem dL_turn_237 : decode cL_turn 237 = .ok (.iload_n 2, 1) := by decide +kernel
theorem dL_turn_238 : decode cL_turn 238 = .ok (.bipush 7, 2) := by decide +kernel
theorem dL_turn_240 : decode cL_turn 240 = .ok (.iand, 1) := by decide +kernel
theorem dL_turn_241 : decode cL_turn 241 = .ok (.ifCond .ne 8, 3) := by decide +kernel
theorem dL_turn_244 : decode cL_turn 244 = .ok (.bipush 12, 2) := by decide +kernel
theorem dL_turn_246 : decode cL_turn 246 = .ok (.goto 4, 3) := by decide +kernel
theorem dL_turn_249 : decode cL_turn 249 = .ok (.iconst 2, 1) := by decide +kernel
theorem dL_turn_250 : decode cL_turn 250 = .ok (.invokestatic 53, 3) := by decide +kernel
theorem dL_turn_253 : decode cL_turn 253 = .ok (.iadd, 1) := by decide +kernel
theorem dL_turn_254 : decode cL_turn 254 = .ok (.invokevirtual 46, 3) := by decide +kernel
theorem dL_turn_257 : decode cL_turn 257 = .ok (.ireturn, 1) := by decide +kernel
theorem dL_turn_258 : decode cL_turn 258 = .ok (.aload_n 0, 1) := by decide +kernel
theorem dL_turn_259 : decode cL_turn 259 = .ok (.iload_n 2, 1) := by decide +kernel
theorem dL_turn_260 : decode cL_turn 260 = .ok (.iload_n 3, 1) := by decide +kernel
theorem dL_turn_261 : decode cL_turn 261 = .ok (.invokestatic 66, 3) := by decide +kernel
theorem dL_turn_264 : decode cL_turn 264 = .ok (.ireturn, 1) := by decide +kernel
theorem dL_isWeeks_0 : decode cL_isWeeks 0 = .ok (.iload_n 0, 1) := by decide +kernel
theorem dL_isWeeks_1 : decode cL_isWeeks 1 = .ok (.bipush 12, 2) := by decide +kernel
theorem dL_isWeeks_3 : decode cL_isWeeks 3 = .ok (.if_icmp .eq 23, 3) := by decide +kernel
theorem dL_isWeeks_6 : decode cL_isWeeks 6 = .ok (.iload_n 0, 1) := by decide +kernel
theorem dL_isWeeks_7 : decode cL_isWeeks 7 = .ok (.bipush 13, 2) := by decide +kernel
theorem dL_isWeeks_9 : decode cL_isWeeks 9 = .ok (.if_icmp .eq 17, 3) := by decide +kernel
theorem dL_isWeeks_12 : decode cL_isWeeks 12 = .ok (.iload_n 0, 1) := by decide +kernel
theorem dL_isWeeks_13 : decode cL_isWeeks 13 = .ok (.bipush 13, 2) := by decide +kernel
theorem dL_isWeeks_15 : decode cL_isWeeks 15 = .ok (.if_icmp .le 15, 3) := by decide +kernel
theorem dL_isWeeks_18 : decode cL_isWeeks 18 = .ok (.iload_n 1, 1) := by decide +kernel
theorem dL_isWeeks_19 : decode cL_isWeeks 19 = .ok (.bipush 7, 2) := by decide +kernel
theorem dL_isWeeks_21 : decode cL_isWeeks 21 = .ok (.iand, 1) := by decide +kernel
theorem dL_isWeeks_22 : decode cL_isWeeks 22 = .ok (.iconst 5, 1) := by decide +kernel
theorem dL_isWeeks_23 : decode cL_isWeeks 23 = .ok (.if_icmp .le 7, 3) := by decide +kernel
theorem dL_isWeeks_26 : decode cL_isWeeks 26 = .ok (.iconst 1, 1) := by decide +kernel
theorem dL_isWeeks_27 : decode cL_isWeeks 27 = .ok (.goto 4, 3) := by decide +kernel
theorem dL_isWeeks_30 : decode cL_isWeeks 30 = .ok (.iconst 0, 1) := by decide +kernel
theorem dL_isWeeks_31 : decode cL_isWeeks 31 = .ok (.ireturn, 1) := by decide +kernel
theorem dL_areRight_0 : decode cL_areRight 0 = .ok (.iconst 1, 1) := by decide +kernel
theorem dL_areRight_1 : decode cL_areRight 1 = .ok (.istore_n 1, 1) := by decide +kernel
theorem dL_areRight_2 : decode cL_areRight 2 = .ok (.lconst 0, 1) := by decide +kernel
theorem dL_areRight_3 : decode cL_areRight 3 = .ok (.lstore_n 2, 1) := by decide +kernel
theorem dL_areRight_4 : decode cL_areRight 4 = .ok (.lconst 0, 1) := by decide +kernel
theorem dL_areRight_5 : decode cL_areRight 5 = .ok (.lstore 4, 2) := by decide +kernel
theorem dL_areRight_7 : decode cL_areRight 7 = .ok (.iconst 0, 1) := by decide +kernel
theorem dL_areRight_8 : decode cL_areRight 8 = .ok (.istore 6, 2) := by decide +kernel
theorem dL_areRight_10 : decode cL_areRight 10 = .ok (.iload 6, 2) := by decide +kernel
theorem dL_areRight_12 : decode cL_areRight 12 = .ok (.i2l, 1) := by decide +kernel
theorem dL_areRight_13 : decode cL_areRight 13 = .ok (.aload_n 0, 1) := by decide +kernel
theorem dL_areRight_14 : decode cL_areRight 14 = .ok (.iconst 1, 1) := by decide +kernel
theorem dL_areRight_15 : decode cL_areRight 15 = .ok (.invokevirtual 13, 3) := by decide +kernel
theorem dL_areRight_18 : decode cL_areRight 18 = .ok (.lcmp, 1) := by decide +kernel
theorem dL_areRight_19 : decode cL_areRight 19 = .ok (.ifCond .ge 176, 3) := by decide +kernel
theorem dL_areRight_22 : decode cL_areRight 22 = .ok (.iload_n 1, 1) := by decide +kernel
theorem dL_areRight_23 : decode cL_areRight 23 = .ok (.ifCond .eq 172, 3) := by decide +kernel
theorem dL_areRight_26 : decode cL_areRight 26 = .ok (.aload_n 0, 1) := by decide +kernel
theorem dL_areRight_27 : decode cL_areRight 27 = .ok (.iload 6, 2) := by decide +kernel
theorem dL_areRight_29 : decode cL_areRight 29 = .ok (.iconst 4, 1) := by decide +kernel
theorem dL_areRight_30 : decode cL_areRight 30 = .ok (.invokevirtual 19, 3) := by decide +kernel
theorem dL_areRight_33 : decode cL_areRight 33 = .ok (.istore 7, 2) := by decide +kernel
theorem dL_areRight_35 : decode cL_areRight 35 = .ok (.aload_n 0, 1) := by decide +kernel
theorem dL_areRight_36 : decode cL_areRight 36 = .ok (.iload 6, 2) := by decide +kernel
theorem dL_areRight_38 : decode cL_areRight 38 = .ok (.iconst 5, 1) := by decide +kernel
theorem dL_areRight_39 : decode cL_areRight 39 = .ok (.invokevirtual 19, 3) := by decide +kernel
theorem dL_areRight_42 : decode cL_areRight 42 = .ok (.istore 8, 2) := by decide +kernel
theorem dL_areRight_44 : decode cL_areRight 44 = .ok (.iload 7, 2) := by decide +kernel
theorem dL_areRight_46 : decode cL_areRight 46 = .ok (.ifCond .lt 22, 3) := by decide +kernel
theorem dL_areRight_49 : decode cL_areRight 49 = .ok (.iload 8, 2) := by decide +kernel
theorem dL_areRight_51 : decode cL_areRight 51 = .ok (.ifCond .lt 17, 3) := by decide +kernel
theorem dL_areRight_54 : decode cL_areRight 54 = .ok (.iload 7, 2) := by decide +kernel
theorem dL_areRight_56 : decode cL_areRight 56 = .ok (.ifCond .eq 8, 3) := by decide +kernel
theorem dL_areRight_59 : decode cL_areRight 59 = .ok (.iload 8, 2) := by decide +kernel
theorem dL_areRight_61 : decode cL_areRight 61 = .ok (.ifCond .ne 7, 3) := by decide +kernel
theorem dL_areRight_64 : decode cL_areRight 64 = .ok (.iconst 1, 1) := by decide +kernel
theorem dL_areRight_65 : decode cL_areRight 65 = .ok (.goto 4, 3) := by decide +kernel
theorem dL_areRight_68 : decode cL_areRight 68 = .ok (.iconst 0, 1) := by decide +kernel
theorem dL_areRight_69 : decode cL_areRight 69 = .ok (.istore_n 1, 1) := by decide +kernel
theorem dL_areRight_70 : decode cL_areRight 70 = .ok (.iload_n 1, 1) := by decide +kernel
theorem dL_areRight_71 : decode cL_areRight 71 = .ok (.ifCond .eq 60, 3) := by decide +kernel
theorem dL_areRight_74 : decode cL_areRight 74 = .ok (.iload 7, 2) := by decide +kernel
theorem dL_areRight_76 : decode cL_areRight 76 = .ok (.aload_n 0, 1) := by decide +kernel
theorem dL_areRight_77 : decode cL_areRight 77 = .ok (.iload 6, 2) := by decide +kernel
theorem dL_areRight_79 : decode cL_areRight 79 = .ok (.bipush 12, 2) := by decide +kernel
theorem dL_areRight_81 : decode cL_areRight 81 = .ok (.invokevirtual 19, 3) := by decide +kernel
theorem dL_areRight_84 : decode cL_areRight 84 = .ok (.aload_n 0, 1) := by decide +kernel
theorem dL_areRight_85 : decode cL_areRight 85 = .ok (.iload 6, 2) := by decide +kernel
theorem dL_areRight_87 : decode cL_areRight 87 = .ok (.bipush 9, 2) := by decide +kernel
theorem dL_areRight_89 : decode cL_areRight 89 = .ok (.invokevirtual 19, 3) := by decide +kernel
theorem dL_areRight_92 : decode cL_areRight 92 = .ok (.iadd, 1) := by decide +kernel
theorem dL_areRight_93 : decode cL_areRight 93 = .ok (.aload_n 0, 1) := by decide +kernel
theorem dL_areRight_94 : decode cL_areRight 94 = .ok (.iload 6, 2) := by decide +kernel
theorem dL_areRight_96 : decode cL_areRight 96 = .ok (.bipush 10, 2) := by decide +kernel
theorem dL_areRight_98 : decode cL_areRight 98 = .ok (.invokevirtual 19, 3) := by decide +kernel
theorem dL_areRight_101 : decode cL_areRight 101 = .ok (.isub, 1) := by decide +kernel
theorem dL_areRight_102 : decode cL_areRight 102 = .ok (.if_icmp .ne 29, 3) := by decide +kernel
theorem dL_areRight_105 : decode cL_areRight 105 = .ok (.iload 8, 2) := by decide +kernel
theorem dL_areRight_107 : decode cL_areRight 107 = .ok (.aload_n 0, 1) := by decide +kernel
theorem dL_areRight_108 : decode cL_areRight 108 = .ok (.iload 6, 2) := by decide +kernel
theorem dL_areRight_110 : decode cL_areRight 110 = .ok (.bipush 11, 2) := by decide +kernel
theorem dL_areRight_112 : decode cL_areRight 112 = .ok (.invokevirtual 19, 3) := by decide +kernel
theorem dL_areRight_115 : decode cL_areRight 115 = .ok (.aload_n 0, 1) := by decide +kernel
theorem dL_areRight_116 : decode cL_areRight 116 = .ok (.iload 6, 2) := by decide +kernel
theorem dL_areRight_118 : decode cL_areRight 118 = .ok (.bipush 10, 2) := by decide +kernel
theorem dL_areRight_120 : decode cL_areRight 120 = .ok (.invokevirtual 19, 3) := by decide +kernel
theorem dL_areRight_123 : decode cL_areRight 123 = .ok (.isub, 1) := by decide +kernel
theorem dL_areRight_124 : decode cL_areRight 124 = .ok (.if_icmp .ne 7, 3) := by decide +kernel
theorem dL_areRight_127 : decode cL_areRight 127 = .ok (.iconst 1, 1) := by decide +kernel
theorem dL_areRight_128 : decode cL_areRight 128 = .ok (.goto 4, 3) := by decide +kernel
theorem dL_areRight_131 : decode cL_areRight 131 = .ok (.iconst 0, 1) := by decide +kernel
theorem dL_areRight_132 : decode cL_areRight 132 = .ok (.istore_n 1, 1) := by decide +kernel
theorem dL_areRight_133 : decode cL_areRight 133 = .ok (.iload_n 1, 1) := by decide +kernel
theorem dL_areRight_134 : decode cL_areRight 134 = .ok (.ifCond .eq 39, 3) := by decide +kernel
theorem dL_areRight_137 : decode cL_areRight 137 = .ok (.aload_n 0, 1) := by decide +kernel
theorem dL_areRight_138 : decode cL_areRight 138 = .ok (.iload 6, 2) := by decide +kernel
theorem dL_areRight_140 : decode cL_areRight 140 = .ok (.bipush 7, 2) := by decide +kernel
theorem dL_areRight_142 : decode cL_areRight 142 = .ok (.invokevirtual 19, 3) := by decide +kernel
theorem dL_areRight_145 : decode cL_areRight 145 = .ok (.aload_n 0, 1) := by decide +kernel
theorem dL_areRight_146 : decode cL_areRight 146 = .ok (.iload 6, 2) := by decide +kernel
theorem dL_areRight_148 : decode cL_areRight 148 = .ok (.bipush 6, 2) := by decide +kernel
theorem dL_areRight_150 : decode cL_areRight 150 = .ok (.invokevirtual 19, 3) := by decide +kernel
theorem dL_areRight_153 : decode cL_areRight 153 = .ok (.i2l, 1) := by decide +kernel
theorem dL_areRight_154 : decode cL_areRight 154 = .ok (.aload_n 0, 1) := by decide +kernel
theorem dL_areRight_155 : decode cL_areRight 155 = .ok (.bipush 14, 2) := by decide +kernel
theorem dL_areRight_157 : decode cL_areRight 157 = .ok (.invokevirtual 13, 3) := by decide +kernel
theorem dL_areRight_160 : decode cL_areRight 160 = .ok (.lmul, 1) := by decide +kernel
theorem dL_areRight_161 : decode cL_areRight 161 = .ok (.ldc2_w 69, 3) := by decide +kernel
theorem dL_areRight_164 : decode cL_areRight 164 = .ok (.ldiv, 1) := by decide +kernel
theorem dL_areRight_165 : decode cL_areRight 165 = .ok (.l2i, 1) := by decide +kernel
theorem dL_areRight_166 : decode cL_areRight 166 = .ok (.if_icmp .ne 7, 3) := by decide +kernel
theorem dL_areRight_169 : decode cL_areRight 169 = .ok (.iconst 1, 1) := by decide +kernel
theorem dL_areRight_170 : decode cL_areRight 170 = .ok (.goto 4, 3) := by decide +kernel
theorem dL_areRight_173 : decode cL_areRight 173 = .ok (.iconst 0, 1) := by decide +kernel
theorem dL_areRight_174 : decode cL_areRight 174 = .ok (.istore_n 1, 1) := by decide +kernel
theorem dL_areRight_175 : decode cL_areRight 175 = .ok (.lload_n 2, 1) := by decide +kernel
theorem dL_areRight_176 : decode cL_areRight 176 = .ok (.iload 7, 2) := by decide +kernel
theorem dL_areRight_178 : decode cL_areRight 178 = .ok (.i2l, 1) := by decide +kernel
theorem dL_areRight_179 : decode cL_areRight 179 = .ok (.ladd, 1) := by decide +kernel
theorem dL_areRight_180 : decode cL_areRight 180 = .ok (.lstore_n 2, 1) := by decide +kernel
theorem dL_areRight_181 : decode cL_areRight 181 = .ok (.lload 4, 2) := by decide +kernel
theorem dL_areRight_183 : decode cL_areRight 183 = .ok (.iload 8, 2) := by decide +kernel
theorem dL_areRight_185 : decode cL_areRight 185 = .ok (.i2l, 1) := by decide +kernel
theorem dL_areRight_186 : decode cL_areRight 186 = .ok (.ladd, 1) := by decide +kernel
theorem dL_areRight_187 : decode cL_areRight 187 = .ok (.lstore 4, 2) := by decide +kernel
theorem dL_areRight_189 : decode cL_areRight 189 = .ok (.iinc 6 1, 3) := by decide +kernel
theorem dL_areRight_192 : decode cL_areRight 192 = .ok (.goto (-182), 3) := by decide +kernel
theorem dL_areRight_195 : decode cL_areRight 195 = .ok (.iload_n 1, 1) := by decide +kernel
theorem dL_areRight_196 : decode cL_areRight 196 = .ok (.ifCond .eq 30, 3) := by decide +kernel
theorem dL_areRight_199 : decode cL_areRight 199 = .ok (.lload_n 2, 1) := by decide +kernel
theorem dL_areRight_200 : decode cL_areRight 200 = .ok (.aload_n 0, 1) := by decide +kernel
theorem dL_areRight_201 : decode cL_areRight 201 = .ok (.bipush 6, 2) := by decide +kernel
theorem dL_areRight_203 : decode cL_areRight 203 = .ok (.invokevirtual 13, 3) := by decide +kernel
theorem dL_areRight_206 : decode cL_areRight 206 = .ok (.lcmp, 1) := by decide +kernel
theorem dL_areRight_207 : decode cL_areRight 207 = .ok (.ifCond .ne 19, 3) := by decide +kernel
theorem dL_areRight_210 : decode cL_areRight 210 = .ok (.lload 4, 2) := by decide +kernel
theorem dL_areRight_212 : decode cL_areRight 212 = .ok (.aload_n 0, 1) := by decide +kernel
theorem dL_areRight_213 : decode cL_areRight 213 = .ok (.bipush 7, 2) := by decide +kernel
theorem dL_areRight_215 : decode cL_areRight 215 = .ok (.invokevirtual 13, 3) := by decide +kernel
theorem dL_areRight_218 : decode cL_areRight 218 = .ok (.lcmp, 1) := by decide +kernel
theorem dL_areRight_219 : decode cL_areRight 219 = .ok (.ifCond .ne 7, 3) := by decide +kernel
theorem dL_areRight_222 : decode cL_areRight 222 = .ok (.iconst 1, 1) := by decide +kernel
theorem dL_areRight_223 : decode cL_areRight 223 = .ok (.goto 4, 3) := by decide +kernel
theorem dL_areRight_226 : decode cL_areRight 226 = .ok (.iconst 0, 1) := by decide +kernel
theorem dL_areRight_227 : decode cL_areRight 227 = .ok (.ireturn, 1) := by decide +kernel
theorem dL_isUndone_0 : decode cL_isUndone 0 = .ok (.aload_n 0, 1) := by decide +kernel
theorem dL_isUndone_1 : decode cL_isUndone 1 = .ok (.bipush 9, 2) := by decide +kernel
theorem dL_isUndone_3 : decode cL_isUndone 3 = .ok (.invokevirtual 13, 3) := by decide +kernel
theorem dL_isUndone_6 : decode cL_isUndone 6 = .ok (.lstore 7, 2) := by decide +kernel
theorem dL_isUndone_8 : decode cL_isUndone 8 = .ok (.aload_n 0, 1) := by decide +kernel
theorem dL_isUndone_9 : decode cL_isUndone 9 = .ok (.invokevirtual 71, 3) := by decide +kernel
theorem dL_isUndone_12 : decode cL_isUndone 12 = .ok (.i2l, 1) := by decide +kernel
theorem dL_isUndone_13 : decode cL_isUndone 13 = .ok (.lload 7, 2) := by decide +kernel
theorem dL_isUndone_15 : decode cL_isUndone 15 = .ok (.lconst 1, 1) := by decide +kernel
theorem dL_isUndone_16 : decode cL_isUndone 16 = .ok (.lsub, 1) := by decide +kernel
theorem dL_isUndone_17 : decode cL_isUndone 17 = .ok (.lcmp, 1) := by decide +kernel
theorem dL_isUndone_18 : decode cL_isUndone 18 = .ok (.ifCond .ne 55, 3) := by decide +kernel
theorem dL_isUndone_21 : decode cL_isUndone 21 = .ok (.aload_n 0, 1) := by decide +kernel
theorem dL_isUndone_22 : decode cL_isUndone 22 = .ok (.bipush 9, 2) := by decide +kernel
theorem dL_isUndone_24 : decode cL_isUndone 24 = .ok (.invokevirtual 13, 3) := by decide +kernel
theorem dL_isUndone_27 : decode cL_isUndone 27 = .ok (.lload 7, 2) := by decide +kernel
theorem dL_isUndone_29 : decode cL_isUndone 29 = .ok (.lconst 1, 1) := by decide +kernel
theorem dL_isUndone_30 : decode cL_isUndone 30 = .ok (.lsub, 1) := by decide +kernel
theorem dL_isUndone_31 : decode cL_isUndone 31 = .ok (.lcmp, 1) := by decide +kernel
theorem dL_isUndone_32 : decode cL_isUndone 32 = .ok (.ifCond .ne 41, 3) := by decide +kernel
theorem dL_isUndone_35 : decode cL_isUndone 35 = .ok (.aload_n 0, 1) := by decide +kernel
theorem dL_isUndone_36 : decode cL_isUndone 36 = .ok (.invokestatic 74, 3) := by decide +kernel
theorem dL_isUndone_39 : decode cL_isUndone 39 = .ok (.lload 5, 2) := by decide +kernel
theorem dL_isUndone_41 : decode cL_isUndone 41 = .ok (.lcmp, 1) := by decide +kernel
theorem dL_isUndone_42 : decode cL_isUndone 42 = .ok (.ifCond .ne 31, 3) := by decide +kernel
theorem dL_isUndone_45 : decode cL_isUndone 45 = .ok (.aload_n 0, 1) := by decide +kernel
theorem dL_isUndone_46 : decode cL_isUndone 46 = .ok (.iload_n 1, 1) := by decide +kernel
theorem dL_isUndone_47 : decode cL_isUndone 47 = .ok (.iload_n 2, 1) := by decide +kernel
theorem dL_isUndone_48 : decode cL_isUndone 48 = .ok (.iload_n 3, 1) := by decide +kernel
theorem dL_isUndone_49 : decode cL_isUndone 49 = .ok (.invokestatic 78, 3) := by decide +kernel
theorem dL_isUndone_52 : decode cL_isUndone 52 = .ok (.iload 4, 2) := by decide +kernel
theorem dL_isUndone_54 : decode cL_isUndone 54 = .ok (.if_icmp .ne 19, 3) := by decide +kernel
theorem dL_isUndone_57 : decode cL_isUndone 57 = .ok (.aload_n 0, 1) := by decide +kernel
theorem dL_isUndone_58 : decode cL_isUndone 58 = .ok (.bipush 9, 2) := by decide +kernel
theorem dL_isUndone_60 : decode cL_isUndone 60 = .ok (.invokevirtual 13, 3) := by decide +kernel
theorem dL_isUndone_63 : decode cL_isUndone 63 = .ok (.lload 7, 2) := by decide +kernel
theorem dL_isUndone_65 : decode cL_isUndone 65 = .ok (.lcmp, 1) := by decide +kernel
theorem dL_isUndone_66 : decode cL_isUndone 66 = .ok (.ifCond .ne 7, 3) := by decide +kernel
theorem dL_isUndone_69 : decode cL_isUndone 69 = .ok (.iconst 1, 1) := by decide +kernel
theorem dL_isUndone_70 : decode cL_isUndone 70 = .ok (.goto 4, 3) := by decide +kernel
theorem dL_isUndone_73 : decode cL_isUndone 73 = .ok (.iconst 0, 1) := by decide +kernel
theorem dL_isUndone_74 : decode cL_isUndone 74 = .ok (.ireturn, 1) := by decide +kernel
theorem dL_isSaved_0 : decode cL_isSaved 0 = .ok (.aload_n 0, 1) := by decide +kernel
theorem dL_isSaved_1 : decode cL_isSaved 1 = .ok (.invokestatic 74, 3) := by decide +kernel
theorem dL_isSaved_4 : decode cL_isSaved 4 = .ok (.lstore_n 3, 1) := by decide +kernel
theorem dL_isSaved_5 : decode cL_isSaved 5 = .ok (.aload_n 0, 1) := by decide +kernel
theorem dL_isSaved_6 : decode cL_isSaved 6 = .ok (.bipush 9, 2) := by decide +kernel
theorem dL_isSaved_8 : decode cL_isSaved 8 = .ok (.invokevirtual 13, 3) := by decide +kernel
theorem dL_isSaved_11 : decode cL_isSaved 11 = .ok (.lstore 5, 2) := by decide +kernel
theorem dL_isSaved_13 : decode cL_isSaved 13 = .ok (.aload_n 0, 1) := by decide +kernel
theorem dL_isSaved_14 : decode cL_isSaved 14 = .ok (.iload_n 1, 1) := by decide +kernel
theorem dL_isSaved_15 : decode cL_isSaved 15 = .ok (.iconst 1, 1) := by decide +kernel
theorem dL_isSaved_16 : decode cL_isSaved 16 = .ok (.iand, 1) := by decide +kernel
theorem dL_isSaved_17 : decode cL_isSaved 17 = .ok (.invokevirtual 82, 3) := by decide +kernel
theorem dL_isSaved_20 : decode cL_isSaved 20 = .ok (.i2l, 1) := by decide +kernel
theorem dL_isSaved_21 : decode cL_isSaved 21 = .ok (.aload_n 0, 1) := by decide +kernel
theorem dL_isSaved_22 : decode cL_isSaved 22 = .ok (.iconst 0, 1) := by decide +kernel
theorem dL_isSaved_23 : decode cL_isSaved 23 = .ok (.invokevirtual 13, 3) := by decide +kernel
theorem dL_isSaved_26 : decode cL_isSaved 26 = .ok (.lcmp, 1) := by decide +kernel
theorem dL_isSaved_27 : decode cL_isSaved 27 = .ok (.ifCond .ne 15, 3) := by decide +kernel
theorem dL_isSaved_30 : decode cL_isSaved 30 = .ok (.aload_n 0, 1) := by decide +kernel
theorem dL_isSaved_31 : decode cL_isSaved 31 = .ok (.bipush 9, 2) := by decide +kernel
theorem dL_isSaved_33 : decode cL_isSaved 33 = .ok (.invokevirtual 13, 3) := by decide +kernel
theorem dL_isSaved_36 : decode cL_isSaved 36 = .ok (.lload 5, 2) := by decide +kernel
theorem dL_isSaved_38 : decode cL_isSaved 38 = .ok (.lcmp, 1) := by decide +kernel
theorem dL_isSaved_39 : decode cL_isSaved 39 = .ok (.ifCond .eq 5, 3) := by decide +kernel
theorem dL_isSaved_42 : decode cL_isSaved 42 = .ok (.iconst 0, 1) := by decide +kernel
theorem dL_isSaved_43 : decode cL_isSaved 43 = .ok (.ireturn, 1) := by decide +kernel
theorem dL_isSaved_44 : decode cL_isSaved 44 = .ok (.aload_n 0, 1) := by decide +kernel
theorem dL_isSaved_45 : decode cL_isSaved 45 = .ok (.iload_n 2, 1) := by decide +kernel
theorem dL_isSaved_46 : decode cL_isSaved 46 = .ok (.bipush 14, 2) := by decide +kernel
theorem dL_isSaved_48 : decode cL_isSaved 48 = .ok (.invokestatic 53, 3) := by decide +kernel
theorem dL_isSaved_51 : decode cL_isSaved 51 = .ok (.iload_n 2, 1) := by decide +kernel
theorem dL_isSaved_52 : decode cL_isSaved 52 = .ok (.iload_n 1, 1) := by decide +kernel
theorem dL_isSaved_53 : decode cL_isSaved 53 = .ok (.invokestatic 78, 3) := by decide +kernel
theorem dL_isSaved_56 : decode cL_isSaved 56 = .ok (.pop, 1) := by decide +kernel
theorem dL_isSaved_57 : decode cL_isSaved 57 = .ok (.aload_n 0, 1) := by decide +kernel
theorem dL_isSaved_58 : decode cL_isSaved 58 = .ok (.iload_n 1, 1) := by decide +kernel
theorem dL_isSaved_59 : decode cL_isSaved 59 = .ok (.iconst 1, 1) := by decide +kernel
theorem dL_isSaved_60 : decode cL_isSaved 60 = .ok (.iand, 1) := by decide +kernel
theorem dL_isSaved_61 : decode cL_isSaved 61 = .ok (.invokevirtual 50, 3) := by decide +kernel
theorem dL_isSaved_64 : decode cL_isSaved 64 = .ok (.i2l, 1) := by decide +kernel
theorem dL_isSaved_65 : decode cL_isSaved 65 = .ok (.aload_n 0, 1) := by decide +kernel
theorem dL_isSaved_66 : decode cL_isSaved 66 = .ok (.iconst 0, 1) := by decide +kernel
theorem dL_isSaved_67 : decode cL_isSaved 67 = .ok (.invokevirtual 13, 3) := by decide +kernel
theorem dL_isSaved_70 : decode cL_isSaved 70 = .ok (.lcmp, 1) := by decide +kernel
theorem dL_isSaved_71 : decode cL_isSaved 71 = .ok (.ifCond .ne 16, 3) := by decide +kernel
theorem dL_isSaved_74 : decode cL_isSaved 74 = .ok (.aload_n 0, 1) := by decide +kernel
theorem dL_isSaved_75 : decode cL_isSaved 75 = .ok (.invokestatic 74, 3) := by decide +kernel
theorem dL_isSaved_78 : decode cL_isSaved 78 = .ok (.lload_n 3, 1) := by decide +kernel
theorem dL_isSaved_79 : decode cL_isSaved 79 = .ok (.lcmp, 1) := by decide +kernel
theorem dL_isSaved_80 : decode cL_isSaved 80 = .ok (.ifCond .ne 7, 3) := by decide +kernel
theorem dL_isSaved_83 : decode cL_isSaved 83 = .ok (.iconst 1, 1) := by decide +kernel
theorem dL_isSaved_84 : decode cL_isSaved 84 = .ok (.goto 4, 3) := by decide +kernel
theorem dL_isSaved_87 : decode cL_isSaved 87 = .ok (.iconst 0, 1) := by decide +kernel
theorem dL_isSaved_88 : decode cL_isSaved 88 = .ok (.ireturn, 1) := by decide +kernel
theorem dL_asks_0 : decode cL_asks 0 = .ok (.aload_n 0, 1) := by decide +kernel
theorem dL_asks_1 : decode cL_asks 1 = .ok (.invokestatic 74, 3) := by decide +kernel
theorem dL_asks_4 : decode cL_asks 4 = .ok (.lstore_n 3, 1) := by decide +kernel
theorem dL_asks_5 : decode cL_asks 5 = .ok (.aload_n 0, 1) := by decide +kernel
theorem dL_asks_6 : decode cL_asks 6 = .ok (.bipush 9, 2) := by decide +kernel
theorem dL_asks_8 : decode cL_asks 8 = .ok (.invokevirtual 13, 3) := by decide +kernel
theorem dL_asks_11 : decode cL_asks 11 = .ok (.lstore 5, 2) := by decide +kernel
theorem dL_asks_13 : decode cL_asks 13 = .ok (.aload_n 0, 1) := by decide +kernel
theorem dL_asks_14 : decode cL_asks 14 = .ok (.iload_n 1, 1) := by decide +kernel
theorem dL_asks_15 : decode cL_asks 15 = .ok (.bipush 9, 2) := by decide +kernel
theorem dL_asks_17 : decode cL_asks 17 = .ok (.invokestatic 53, 3) := by decide +kernel
theorem dL_asks_20 : decode cL_asks 20 = .ok (.iconst 1, 1) := by decide +kernel
theorem dL_asks_21 : decode cL_asks 21 = .ok (.iload_n 2, 1) := by decide +kernel
theorem dL_asks_22 : decode cL_asks 22 = .ok (.iconst 5, 1) := by decide +kernel
theorem dL_asks_23 : decode cL_asks 23 = .ok (.invokestatic 53, 3) := by decide +kernel
theorem dL_asks_26 : decode cL_asks 26 = .ok (.iadd, 1) := by decide +kernel
theorem dL_asks_27 : decode cL_asks 27 = .ok (.invokevirtual 85, 3) := by decide +kernel
theorem dL_asks_30 : decode cL_asks 30 = .ok (.pop2, 1) := by decide +kernel
theorem dL_asks_31 : decode cL_asks 31 = .ok (.aload_n 0, 1) := by decide +kernel
theorem dL_asks_32 : decode cL_asks 32 = .ok (.invokevirtual 89, 3) := by decide +kernel
theorem dL_asks_35 : decode cL_asks 35 = .ok (.pop, 1) := by decide +kernel
theorem dL_asks_36 : decode cL_asks 36 = .ok (.aload_n 0, 1) := by decide +kernel
theorem dL_asks_37 : decode cL_asks 37 = .ok (.iload_n 1, 1) := by decide +kernel
theorem dL_asks_38 : decode cL_asks 38 = .ok (.iconst 5, 1) := by decide +kernel
theorem dL_asks_39 : decode cL_asks 39 = .ok (.invokestatic 53, 3) := by decide +kernel
theorem dL_asks_42 : decode cL_asks 42 = .ok (.iload_n 2, 1) := by decide +kernel
theorem dL_asks_43 : decode cL_asks 43 = .ok (.bipush 12, 2) := by decide +kernel
theorem dL_asks_45 : decode cL_asks 45 = .ok (.invokestatic 53, 3) := by decide +kernel
theorem dL_asks_48 : decode cL_asks 48 = .ok (.invokevirtual 92, 3) := by decide +kernel
theorem dL_asks_51 : decode cL_asks 51 = .ok (.pop, 1) := by decide +kernel
theorem dL_asks_52 : decode cL_asks 52 = .ok (.aload_n 0, 1) := by decide +kernel
theorem dL_asks_53 : decode cL_asks 53 = .ok (.invokestatic 74, 3) := by decide +kernel
theorem dL_asks_56 : decode cL_asks 56 = .ok (.lload_n 3, 1) := by decide +kernel
theorem dL_asks_57 : decode cL_asks 57 = .ok (.lcmp, 1) := by decide +kernel
theorem dL_asks_58 : decode cL_asks 58 = .ok (.ifCond .ne 19, 3) := by decide +kernel
theorem dL_asks_61 : decode cL_asks 61 = .ok (.aload_n 0, 1) := by decide +kernel
theorem dL_asks_62 : decode cL_asks 62 = .ok (.bipush 9, 2) := by decide +kernel
theorem dL_asks_64 : decode cL_asks 64 = .ok (.invokevirtual 13, 3) := by decide +kernel
theorem dL_asks_67 : decode cL_asks 67 = .ok (.lload 5, 2) := by decide +kernel
theorem dL_asks_69 : decode cL_asks 69 = .ok (.lcmp, 1) := by decide +kernel
theorem dL_asks_70 : decode cL_asks 70 = .ok (.ifCond .ne 7, 3) := by decide +kernel
theorem dL_asks_73 : decode cL_asks 73 = .ok (.iconst 1, 1) := by decide +kernel
theorem dL_asks_74 : decode cL_asks 74 = .ok (.goto 4, 3) := by decide +kernel
theorem dL_asks_77 : decode cL_asks 77 = .ok (.iconst 0, 1) := by decide +kernel
theorem dL_asks_78 : decode cL_asks 78 = .ok (.ireturn, 1) := by decide +kernel
theorem dL_law_0 : decode cL_law 0 = .ok (.new 14, 3) := by decide +kernel
theorem dL_law_3 : decode cL_law 3 = .ok (.dup, 1) := by decide +kernel
theorem dL_law_4 : decode cL_law 4 = .ok (.invokespecial 95, 3) := by decide +kernel
theorem dL_law_7 : decode cL_law 7 = .ok (.astore_n 1, 1) := by decide +kernel
theorem dL_law_8 : decode cL_law 8 = .ok (.aload_n 0, 1) := by decide +kernel
theorem dL_law_9 : decode cL_law 9 = .ok (.arraylength, 1) := by decide +kernel
theorem dL_law_10 : decode cL_law 10 = .ok (.iconst 3, 1) := by decide +kernel
theorem dL_law_11 : decode cL_law 11 = .ok (.idiv, 1) := by decide +kernel
theorem dL_law_12 : decode cL_law 12 = .ok (.bipush 36, 2) := by decide +kernel
theorem dL_law_14 : decode cL_law 14 = .ok (.if_icmp .ge 10, 3) := by decide +kernel
theorem dL_law_17 : decode cL_law 17 = .ok (.aload_n 0, 1) := by decide +kernel
theorem dL_law_18 : decode cL_law 18 = .ok (.arraylength, 1) := by decide +kernel
theorem dL_law_19 : decode cL_law 19 = .ok (.iconst 3, 1) := by decide +kernel
theorem dL_law_20 : decode cL_law 20 = .ok (.idiv, 1) := by decide +kernel
theorem dL_law_21 : decode cL_law 21 = .ok (.goto 5, 3) := by decide +kernel
theorem dL_law_24 : decode cL_law 24 = .ok (.bipush 36, 2) := by decide +kernel
theorem dL_law_26 : decode cL_law 26 = .ok (.istore_n 2, 1) := by decide +kernel
theorem dL_law_27 : decode cL_law 27 = .ok (.iconst 0, 1) := by decide +kernel
theorem dL_law_28 : decode cL_law 28 = .ok (.istore_n 3, 1) := by decide +kernel
theorem dL_law_29 : decode cL_law 29 = .ok (.iload_n 3, 1) := by decide +kernel
theorem dL_law_30 : decode cL_law 30 = .ok (.iload_n 2, 1) := by decide +kernel
theorem dL_law_31 : decode cL_law 31 = .ok (.if_icmp .ge 302, 3) := by decide +kernel
theorem dL_law_34 : decode cL_law 34 = .ok (.aload_n 0, 1) := by decide +kernel
theorem dL_law_35 : decode cL_law 35 = .ok (.iconst 3, 1) := by decide +kernel
theorem dL_law_36 : decode cL_law 36 = .ok (.iload_n 3, 1) := by decide +kernel
theorem dL_law_37 : decode cL_law 37 = .ok (.imul, 1) := by decide +kernel
theorem dL_law_38 : decode cL_law 38 = .ok (.invokestatic 96, 3) := by decide +kernel
theorem dL_law_41 : decode cL_law 41 = .ok (.istore 4, 2) := by decide +kernel
theorem dL_law_43 : decode cL_law 43 = .ok (.aload_n 0, 1) := by decide +kernel
theorem dL_law_44 : decode cL_law 44 = .ok (.iconst 3, 1) := by decide +kernel
theorem dL_law_45 : decode cL_law 45 = .ok (.iload_n 3, 1) := by decide +kernel
theorem dL_law_46 : decode cL_law 46 = .ok (.imul, 1) := by decide +kernel
theorem dL_law_47 : decode cL_law 47 = .ok (.iconst 1, 1) := by decide +kernel
theorem dL_law_48 : decode cL_law 48 = .ok (.iadd, 1) := by decide +kernel
theorem dL_law_49 : decode cL_law 49 = .ok (.invokestatic 96, 3) := by decide +kernel
theorem dL_law_52 : decode cL_law 52 = .ok (.istore 5, 2) := by decide +kernel
theorem dL_law_54 : decode cL_law 54 = .ok (.aload_n 0, 1) := by decide +kernel
theorem dL_law_55 : decode cL_law 55 = .ok (.iconst 3, 1) := by decide +kernel
theorem dL_law_56 : decode cL_law 56 = .ok (.iload_n 3, 1) := by decide +kernel
theorem dL_law_57 : decode cL_law 57 = .ok (.imul, 1) := by decide +kernel
theorem dL_law_58 : decode cL_law 58 = .ok (.iconst 2, 1) := by decide +kernel
theorem dL_law_59 : decode cL_law 59 = .ok (.iadd, 1) := by decide +kernel
theorem dL_law_60 : decode cL_law 60 = .ok (.invokestatic 96, 3) := by decide +kernel
theorem dL_law_63 : decode cL_law 63 = .ok (.istore 6, 2) := by decide +kernel
theorem dL_law_65 : decode cL_law 65 = .ok (.iload_n 3, 1) := by decide +kernel
theorem dL_law_66 : decode cL_law 66 = .ok (.iconst 2, 1) := by decide +kernel
theorem dL_law_67 : decode cL_law 67 = .ok (.if_icmp .ge 7, 3) := by decide +kernel
theorem dL_law_70 : decode cL_law 70 = .ok (.iconst 0, 1) := by decide +kernel
theorem dL_law_71 : decode cL_law 71 = .ok (.goto 8, 3) := by decide +kernel
theorem dL_law_74 : decode cL_law 74 = .ok (.iload 4, 2) := by decide +kernel
theorem dL_law_76 : decode cL_law 76 = .ok (.bipush 15, 2) := by decide +kernel
theorem dL_law_78 : decode cL_law 78 = .ok (.iand, 1) := by decide +kernel
theorem dL_law_79 : decode cL_law 79 = .ok (.istore 7, 2) := by decide +kernel
theorem dL_law_81 : decode cL_law 81 = .ok (.aload_n 1, 1) := by decide +kernel
theorem dL_law_82 : decode cL_law 82 = .ok (.invokestatic 74, 3) := by decide +kernel
theorem dL_law_85 : decode cL_law 85 = .ok (.lstore 8, 2) := by decide +kernel
theorem dL_law_87 : decode cL_law 87 = .ok (.aload_n 1, 1) := by decide +kernel
theorem dL_law_88 : decode cL_law 88 = .ok (.invokestatic 100, 3) := by decide +kernel
theorem dL_law_91 : decode cL_law 91 = .ok (.lstore 10, 2) := by decide +kernel
theorem dL_law_93 : decode cL_law 93 = .ok (.aload_n 1, 1) := by decide +kernel
theorem dL_law_94 : decode cL_law 94 = .ok (.bipush 12, 2) := by decide +kernel
theorem dL_law_96 : decode cL_law 96 = .ok (.invokevirtual 13, 3) := by decide +kernel
theorem dL_law_99 : decode cL_law 99 = .ok (.lstore 12, 2) := by decide +kernel
theorem dL_law_101 : decode cL_law 101 = .ok (.aload_n 1, 1) := by decide +kernel
theorem dL_law_102 : decode cL_law 102 = .ok (.iconst 1, 1) := by decide +kernel
theorem dL_law_103 : decode cL_law 103 = .ok (.invokevirtual 13, 3) := by decide +kernel
theorem dL_law_106 : decode cL_law 106 = .ok (.lstore 14, 2) := by decide +kernel
theorem dL_law_108 : decode cL_law 108 = .ok (.aload_n 1, 1) := by decide +kernel
theorem dL_law_109 : decode cL_law 109 = .ok (.bipush 9, 2) := by decide +kernel
theorem dL_law_111 : decode cL_law 111 = .ok (.invokevirtual 13, 3) := by decide +kernel
theorem dL_law_114 : decode cL_law 114 = .ok (.lstore 16, 2) := by decide +kernel
theorem dL_law_116 : decode cL_law 116 = .ok (.aload_n 1, 1) := by decide +kernel
theorem dL_law_117 : decode cL_law 117 = .ok (.iload 7, 2) := by decide +kernel
theorem dL_law_119 : decode cL_law 119 = .ok (.iload 5, 2) := by decide +kernel
theorem dL_law_121 : decode cL_law 121 = .ok (.iload 6, 2) := by decide +kernel
theorem dL_law_123 : decode cL_law 123 = .ok (.invokestatic 78, 3) := by decide +kernel
theorem dL_law_126 : decode cL_law 126 = .ok (.istore 18, 2) := by decide +kernel
theorem dL_law_128 : decode cL_law 128 = .ok (.iload 18, 2) := by decide +kernel
theorem dL_law_130 : decode cL_law 130 = .ok (.bipush (-6), 2) := by decide +kernel
theorem dL_law_132 : decode cL_law 132 = .ok (.if_icmp .ne 7, 3) := by decide +kernel
theorem dL_law_135 : decode cL_law 135 = .ok (.iconst 1, 1) := by decide +kernel
theorem dL_law_136 : decode cL_law 136 = .ok (.goto 4, 3) := by decide +kernel
theorem dL_law_139 : decode cL_law 139 = .ok (.iconst 0, 1) := by decide +kernel
theorem dL_law_140 : decode cL_law 140 = .ok (.istore 19, 2) := by decide +kernel
theorem dL_law_142 : decode cL_law 142 = .ok (.iload 18, 2) := by decide +kernel
theorem dL_law_144 : decode cL_law 144 = .ok (.ifCond .ge 32, 3) := by decide +kernel
theorem dL_law_147 : decode cL_law 147 = .ok (.iload 19, 2) := by decide +kernel
theorem dL_law_149 : decode cL_law 149 = .ok (.ifCond .ne 27, 3) := by decide +kernel
theorem dL_law_152 : decode cL_law 152 = .ok (.aload_n 1, 1) := by decide +kernel
theorem dL_law_153 : decode cL_law 153 = .ok (.invokestatic 74, 3) := by decide +kernel
theorem dL_law_156 : decode cL_law 156 = .ok (.lload 8, 2) := by decide +kernel
theorem dL_law_158 : decode cL_law 158 = .ok (.lcmp, 1) := by decide +kernel
theorem dL_law_159 : decode cL_law 159 = .ok (.ifCond .ne 15, 3) := by decide +kernel
theorem dL_law_162 : decode cL_law 162 = .ok (.aload_n 1, 1) := by decide +kernel
theorem dL_law_163 : decode cL_law 163 = .ok (.bipush 9, 2) := by decide +kernel
theorem dL_law_165 : decode cL_law 165 = .ok (.invokevirtual 13, 3) := by decide +kernel
theorem dL_law_168 : decode cL_law 168 = .ok (.lload 16, 2) := by decide +kernel
theorem dL_law_170 : decode cL_law 170 = .ok (.lcmp, 1) := by decide +kernel
theorem dL_law_171 : decode cL_law 171 = .ok (.ifCond .eq 61, 3) := by decide +kernel
theorem dL_law_174 : decode cL_law 174 = .ok (.iconst 0, 1) := by decide +kernel
theorem dL_law_175 : decode cL_law 175 = .ok (.ireturn, 1) := by decide +kernel
theorem dL_law_176 : decode cL_law 176 = .ok (.aload_n 1, 1) := by decide +kernel
theorem dL_law_177 : decode cL_law 177 = .ok (.bipush 9, 2) := by decide +kernel
theorem dL_law_179 : decode cL_law 179 = .ok (.invokevirtual 13, 3) := by decide +kernel
theorem dL_law_182 : decode cL_law 182 = .ok (.lload 16, 2) := by decide +kernel
theorem dL_law_184 : decode cL_law 184 = .ok (.ldc2_w 103, 3) := by decide +kernel
theorem dL_law_187 : decode cL_law 187 = .ok (.lcmp, 1) := by decide +kernel
theorem dL_law_188 : decode cL_law 188 = .ok (.ifCond .ge 10, 3) := by decide +kernel
theorem dL_law_191 : decode cL_law 191 = .ok (.lload 16, 2) := by decide +kernel
theorem dL_law_193 : decode cL_law 193 = .ok (.lconst 1, 1) := by decide +kernel
theorem dL_law_194 : decode cL_law 194 = .ok (.ladd, 1) := by decide +kernel
theorem dL_law_195 : decode cL_law 195 = .ok (.goto 6, 3) := by decide +kernel
theorem dL_law_198 : decode cL_law 198 = .ok (.ldc2_w 103, 3) := by decide +kernel
theorem dL_law_201 : decode cL_law 201 = .ok (.lcmp, 1) := by decide +kernel
theorem dL_law_202 : decode cL_law 202 = .ok (.ifCond .ne 28, 3) := by decide +kernel
theorem dL_law_205 : decode cL_law 205 = .ok (.iload 4, 2) := by decide +kernel
theorem dL_law_207 : decode cL_law 207 = .ok (.bipush 16, 2) := by decide +kernel
theorem dL_law_209 : decode cL_law 209 = .ok (.iand, 1) := by decide +kernel
theorem dL_law_210 : decode cL_law 210 = .ok (.ifCond .ne 22, 3) := by decide +kernel
theorem dL_law_213 : decode cL_law 213 = .ok (.aload_n 1, 1) := by decide +kernel
theorem dL_law_214 : decode cL_law 214 = .ok (.iload 7, 2) := by decide +kernel
theorem dL_law_216 : decode cL_law 216 = .ok (.iload 5, 2) := by decide +kernel
theorem dL_law_218 : decode cL_law 218 = .ok (.iload 6, 2) := by decide +kernel
theorem dL_law_220 : decode cL_law 220 = .ok (.iload 18, 2) := by decide +kernel
theorem dL_law_222 : decode cL_law 222 = .ok (.lload 8, 2) := by decide +kernel
theorem dL_law_224 : decode cL_law 224 = .ok (.invokestatic 105, 3) := by decide +kernel
theorem dL_law_227 : decode cL_law 227 = .ok (.ifCond .ne 5, 3) := by decide +kernel
theorem dL_law_230 : decode cL_law 230 = .ok (.iconst 0, 1) := by decide +kernel
theorem dL_law_231 : decode cL_law 231 = .ok (.ireturn, 1) := by decide +kernel
theorem dL_law_232 : decode cL_law 232 = .ok (.iload 7, 2) := by decide +kernel
theorem dL_law_234 : decode cL_law 234 = .ok (.iload 6, 2) := by decide +kernel
theorem dL_law_236 : decode cL_law 236 = .ok (.invokestatic 109, 3) := by decide +kernel
theorem dL_law_239 : decode cL_law 239 = .ok (.ifCond .ne 38, 3) := by decide +kernel
theorem dL_law_242 : decode cL_law 242 = .ok (.lload 12, 2) := by decide +kernel
theorem dL_law_244 : decode cL_law 244 = .ok (.aload_n 1, 1) := by decide +kernel
theorem dL_law_245 : decode cL_law 245 = .ok (.bipush 12, 2) := by decide +kernel
theorem dL_law_247 : decode cL_law 247 = .ok (.invokevirtual 13, 3) := by decide +kernel
theorem dL_law_250 : decode cL_law 250 = .ok (.lcmp, 1) := by decide +kernel
theorem dL_law_251 : decode cL_law 251 = .ok (.ifCond .ne 26, 3) := by decide +kernel
theorem dL_law_254 : decode cL_law 254 = .ok (.lload 14, 2) := by decide +kernel
theorem dL_law_256 : decode cL_law 256 = .ok (.aload_n 1, 1) := by decide +kernel
theorem dL_law_257 : decode cL_law 257 = .ok (.iconst 1, 1) := by decide +kernel
theorem dL_law_258 : decode cL_law 258 = .ok (.invokevirtual 13, 3) := by decide +kernel
theorem dL_law_261 : decode cL_law 261 = .ok (.lcmp, 1) := by decide +kernel
theorem dL_law_262 : decode cL_law 262 = .ok (.ifCond .ne 15, 3) := by decide +kernel
theorem dL_law_265 : decode cL_law 265 = .ok (.aload_n 1, 1) := by decide +kernel
theorem dL_law_266 : decode cL_law 266 = .ok (.invokestatic 100, 3) := by decide +kernel
theorem dL_law_269 : decode cL_law 269 = .ok (.lload 10, 2) := by decide +kernel
theorem dL_law_271 : decode cL_law 271 = .ok (.lcmp, 1) := by decide +kernel
theorem dL_law_272 : decode cL_law 272 = .ok (.ifCond .eq 5, 3) := by decide +kernel
theorem dL_law_275 : decode cL_law 275 = .ok (.iconst 0, 1) := by decide +kernel
theorem dL_law_276 : decode cL_law 276 = .ok (.ireturn, 1) := by decide +kernel
theorem dL_law_277 : decode cL_law 277 = .ok (.iload 4, 2) := by decide +kernel
theorem dL_law_279 : decode cL_law 279 = .ok (.bipush 96, 2) := by decide +kernel
theorem dL_law_281 : decode cL_law 281 = .ok (.iand, 1) := by decide +kernel
theorem dL_law_282 : decode cL_law 282 = .ok (.ifCond .ne 14, 3) := by decide +kernel
theorem dL_law_285 : decode cL_law 285 = .ok (.aload_n 1, 1) := by decide +kernel
theorem dL_law_286 : decode cL_law 286 = .ok (.iload 5, 2) := by decide +kernel
theorem dL_law_288 : decode cL_law 288 = .ok (.iload 6, 2) := by decide +kernel
theorem dL_law_290 : decode cL_law 290 = .ok (.invokestatic 113, 3) := by decide +kernel
theorem dL_law_293 : decode cL_law 293 = .ok (.ifCond .eq 32, 3) := by decide +kernel
theorem dL_law_296 : decode cL_law 296 = .ok (.iload 4, 2) := by decide +kernel
theorem dL_law_298 : decode cL_law 298 = .ok (.sipush 224, 3) := by decide +kernel
theorem dL_law_301 : decode cL_law 301 = .ok (.iand, 1) := by decide +kernel
theorem dL_law_302 : decode cL_law 302 = .ok (.bipush 32, 2) := by decide +kernel
theorem dL_law_304 : decode cL_law 304 = .ok (.if_icmp .ne 14, 3) := by decide +kernel
theorem dL_law_307 : decode cL_law 307 = .ok (.aload_n 1, 1) := by decide +kernel
theorem dL_law_308 : decode cL_law 308 = .ok (.iload 5, 2) := by decide +kernel
theorem dL_law_310 : decode cL_law 310 = .ok (.iload 6, 2) := by decide +kernel
theorem dL_law_312 : decode cL_law 312 = .ok (.invokestatic 117, 3) := by decide +kernel
theorem dL_law_315 : decode cL_law 315 = .ok (.ifCond .eq 10, 3) := by decide +kernel
theorem dL_law_318 : decode cL_law 318 = .ok (.aload_n 1, 1) := by decide +kernel
theorem dL_law_319 : decode cL_law 319 = .ok (.invokestatic 120, 3) := by decide +kernel
theorem dL_law_322 : decode cL_law 322 = .ok (.ifCond .ne 5, 3) := by decide +kernel
theorem dL_law_325 : decode cL_law 325 = .ok (.iconst 0, 1) := by decide +kernel
theorem dL_law_326 : decode cL_law 326 = .ok (.ireturn, 1) := by decide +kernel
theorem dL_law_327 : decode cL_law 327 = .ok (.iinc 3 1, 3) := by decide +kernel
theorem dL_law_330 : decode cL_law 330 = .ok (.goto (-301), 3) := by decide +kernel
theorem dL_law_333 : decode cL_law 333 = .ok (.iconst 1, 1) := by decide +kernel
theorem dL_law_334 : decode cL_law 334 = .ok (.ireturn, 1) := by decide +kernel
