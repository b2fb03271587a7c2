theorem dX0_init_0 : decode cX0_init 0 = .ok (.aload_n 0, 1) := by decide +kernel
theorem dX0_init_1 : decode cX0_init 1 = .ok (.invokespecial 3, 3) := by decide +kernel
theorem dX0_init_4 : decode cX0_init 4 = .ok (.aload_n 0, 1) := by decide +kernel
theorem dX0_init_5 : decode cX0_init 5 = .ok (.bipush 60, 2) := by decide +kernel
theorem dX0_init_7 : decode cX0_init 7 = .ok (.anewarray 9, 3) := by decide +kernel
theorem dX0_init_10 : decode cX0_init 10 = .ok (.putfield 11, 3) := by decide +kernel
theorem dX0_init_13 : decode cX0_init 13 = .ok (.aload_n 0, 1) := by decide +kernel
theorem dX0_init_14 : decode cX0_init 14 = .ok (.bipush 60, 2) := by decide +kernel
theorem dX0_init_16 : decode cX0_init 16 = .ok (.anewarray 17, 3) := by decide +kernel
theorem dX0_init_19 : decode cX0_init 19 = .ok (.putfield 19, 3) := by decide +kernel
theorem dX0_init_22 : decode cX0_init 22 = .ok (.aload_n 0, 1) := by decide +kernel
theorem dX0_init_23 : decode cX0_init 23 = .ok (.bipush 60, 2) := by decide +kernel
theorem dX0_init_25 : decode cX0_init 25 = .ok (.newarray .int, 2) := by decide +kernel
theorem dX0_init_27 : decode cX0_init 27 = .ok (.putfield 23, 3) := by decide +kernel
theorem dX0_init_30 : decode cX0_init 30 = .ok (.iconst 0, 1) := by decide +kernel
theorem dX0_init_31 : decode cX0_init 31 = .ok (.istore_n 1, 1) := by decide +kernel
theorem dX0_init_32 : decode cX0_init 32 = .ok (.iload_n 1, 1) := by decide +kernel
theorem dX0_init_33 : decode cX0_init 33 = .ok (.bipush 60, 2) := by decide +kernel
theorem dX0_init_35 : decode cX0_init 35 = .ok (.if_icmp .ge 35, 3) := by decide +kernel
theorem dX0_init_38 : decode cX0_init 38 = .ok (.aload_n 0, 1) := by decide +kernel
theorem dX0_init_39 : decode cX0_init 39 = .ok (.getfield 11, 3) := by decide +kernel
theorem dX0_init_42 : decode cX0_init 42 = .ok (.iload_n 1, 1) := by decide +kernel
theorem dX0_init_43 : decode cX0_init 43 = .ok (.new 9, 3) := by decide +kernel
theorem dX0_init_46 : decode cX0_init 46 = .ok (.dup, 1) := by decide +kernel
theorem dX0_init_47 : decode cX0_init 47 = .ok (.invokespecial 27, 3) := by decide +kernel
theorem dX0_init_50 : decode cX0_init 50 = .ok (.aastore, 1) := by decide +kernel
theorem dX0_init_51 : decode cX0_init 51 = .ok (.aload_n 0, 1) := by decide +kernel
theorem dX0_init_52 : decode cX0_init 52 = .ok (.getfield 19, 3) := by decide +kernel
theorem dX0_init_55 : decode cX0_init 55 = .ok (.iload_n 1, 1) := by decide +kernel
theorem dX0_init_56 : decode cX0_init 56 = .ok (.new 17, 3) := by decide +kernel
theorem dX0_init_59 : decode cX0_init 59 = .ok (.dup, 1) := by decide +kernel
theorem dX0_init_60 : decode cX0_init 60 = .ok (.invokespecial 28, 3) := by decide +kernel
theorem dX0_init_63 : decode cX0_init 63 = .ok (.aastore, 1) := by decide +kernel
theorem dX0_init_64 : decode cX0_init 64 = .ok (.iinc 1 1, 3) := by decide +kernel
theorem dX0_init_67 : decode cX0_init 67 = .ok (.goto (-35), 3) := by decide +kernel
theorem dX0_init_70 : decode cX0_init 70 = .ok (.return_, 1) := by decide +kernel
theorem dX0_isFull_0 : decode cX0_isFull 0 = .ok (.aload_n 0, 1) := by decide +kernel
theorem dX0_isFull_1 : decode cX0_isFull 1 = .ok (.getfield 29, 3) := by decide +kernel
theorem dX0_isFull_4 : decode cX0_isFull 4 = .ok (.aload_n 0, 1) := by decide +kernel
theorem dX0_isFull_5 : decode cX0_isFull 5 = .ok (.getfield 11, 3) := by decide +kernel
theorem dX0_isFull_8 : decode cX0_isFull 8 = .ok (.arraylength, 1) := by decide +kernel
theorem dX0_isFull_9 : decode cX0_isFull 9 = .ok (.if_icmp .ge 15, 3) := by decide +kernel
theorem dX0_isFull_12 : decode cX0_isFull 12 = .ok (.aload_n 0, 1) := by decide +kernel
theorem dX0_isFull_13 : decode cX0_isFull 13 = .ok (.getfield 33, 3) := by decide +kernel
theorem dX0_isFull_16 : decode cX0_isFull 16 = .ok (.aload_n 0, 1) := by decide +kernel
theorem dX0_isFull_17 : decode cX0_isFull 17 = .ok (.getfield 19, 3) := by decide +kernel
theorem dX0_isFull_20 : decode cX0_isFull 20 = .ok (.arraylength, 1) := by decide +kernel
theorem dX0_isFull_21 : decode cX0_isFull 21 = .ok (.if_icmp .lt 7, 3) := by decide +kernel
theorem dX0_isFull_24 : decode cX0_isFull 24 = .ok (.iconst 1, 1) := by decide +kernel
theorem dX0_isFull_25 : decode cX0_isFull 25 = .ok (.goto 4, 3) := by decide +kernel
theorem dX0_isFull_28 : decode cX0_isFull 28 = .ok (.iconst 0, 1) := by decide +kernel
theorem dX0_isFull_29 : decode cX0_isFull 29 = .ok (.ireturn, 1) := by decide +kernel
theorem dX0_enter_0 : decode cX0_enter 0 = .ok (.aload_n 0, 1) := by decide +kernel
theorem dX0_enter_1 : decode cX0_enter 1 = .ok (.getfield 11, 3) := by decide +kernel
theorem dX0_enter_4 : decode cX0_enter 4 = .ok (.aload_n 0, 1) := by decide +kernel
theorem dX0_enter_5 : decode cX0_enter 5 = .ok (.getfield 29, 3) := by decide +kernel
theorem dX0_enter_8 : decode cX0_enter 8 = .ok (.aaload, 1) := by decide +kernel
theorem dX0_enter_9 : decode cX0_enter 9 = .ok (.astore 6, 2) := by decide +kernel
theorem dX0_enter_11 : decode cX0_enter 11 = .ok (.aload 6, 2) := by decide +kernel
theorem dX0_enter_13 : decode cX0_enter 13 = .ok (.aload_n 1, 1) := by decide +kernel
theorem dX0_enter_14 : decode cX0_enter 14 = .ok (.putfield 36, 3) := by decide +kernel
theorem dX0_enter_17 : decode cX0_enter 17 = .ok (.aload 6, 2) := by decide +kernel
theorem dX0_enter_19 : decode cX0_enter 19 = .ok (.iload_n 2, 1) := by decide +kernel
theorem dX0_enter_20 : decode cX0_enter 20 = .ok (.putfield 40, 3) := by decide +kernel
theorem dX0_enter_23 : decode cX0_enter 23 = .ok (.aload 6, 2) := by decide +kernel
theorem dX0_enter_25 : decode cX0_enter 25 = .ok (.iload_n 3, 1) := by decide +kernel
theorem dX0_enter_26 : decode cX0_enter 26 = .ok (.putfield 43, 3) := by decide +kernel
theorem dX0_enter_29 : decode cX0_enter 29 = .ok (.aload 6, 2) := by decide +kernel
theorem dX0_enter_31 : decode cX0_enter 31 = .ok (.lload 4, 2) := by decide +kernel
theorem dX0_enter_33 : decode cX0_enter 33 = .ok (.putfield 46, 3) := by decide +kernel
theorem dX0_enter_36 : decode cX0_enter 36 = .ok (.aload_n 0, 1) := by decide +kernel
theorem dX0_enter_37 : decode cX0_enter 37 = .ok (.dup, 1) := by decide +kernel
theorem dX0_enter_38 : decode cX0_enter 38 = .ok (.getfield 29, 3) := by decide +kernel
theorem dX0_enter_41 : decode cX0_enter 41 = .ok (.iconst 1, 1) := by decide +kernel
theorem dX0_enter_42 : decode cX0_enter 42 = .ok (.iadd, 1) := by decide +kernel
theorem dX0_enter_43 : decode cX0_enter 43 = .ok (.putfield 29, 3) := by decide +kernel
theorem dX0_enter_46 : decode cX0_enter 46 = .ok (.aload 6, 2) := by decide +kernel
theorem dX0_enter_48 : decode cX0_enter 48 = .ok (.areturn, 1) := by decide +kernel
theorem dX0_enterMortgage_0 : decode cX0_enterMortgage 0 = .ok (.aload_n 0, 1) := by decide +kernel
theorem dX0_enterMortgage_1 : decode cX0_enterMortgage 1 = .ok (.getfield 19, 3) := by decide +kernel
theorem dX0_enterMortgage_4 : decode cX0_enterMortgage 4 = .ok (.aload_n 0, 1) := by decide +kernel
theorem dX0_enterMortgage_5 : decode cX0_enterMortgage 5 = .ok (.getfield 33, 3) := by decide +kernel
theorem dX0_enterMortgage_8 : decode cX0_enterMortgage 8 = .ok (.aaload, 1) := by decide +kernel
theorem dX0_enterMortgage_9 : decode cX0_enterMortgage 9 = .ok (.astore 6, 2) := by decide +kernel
theorem dX0_enterMortgage_11 : decode cX0_enterMortgage 11 = .ok (.aload 6, 2) := by decide +kernel
theorem dX0_enterMortgage_13 : decode cX0_enterMortgage 13 = .ok (.iload_n 1, 1) := by decide +kernel
theorem dX0_enterMortgage_14 : decode cX0_enterMortgage 14 = .ok (.putfield 50, 3) := by decide +kernel
theorem dX0_enterMortgage_17 : decode cX0_enterMortgage 17 = .ok (.aload 6, 2) := by decide +kernel
theorem dX0_enterMortgage_19 : decode cX0_enterMortgage 19 = .ok (.iload_n 2, 1) := by decide +kernel
theorem dX0_enterMortgage_20 : decode cX0_enterMortgage 20 = .ok (.putfield 51, 3) := by decide +kernel
theorem dX0_enterMortgage_23 : decode cX0_enterMortgage 23 = .ok (.aload 6, 2) := by decide +kernel
theorem dX0_enterMortgage_25 : decode cX0_enterMortgage 25 = .ok (.iload_n 3, 1) := by decide +kernel
theorem dX0_enterMortgage_26 : decode cX0_enterMortgage 26 = .ok (.putfield 52, 3) := by decide +kernel
theorem dX0_enterMortgage_29 : decode cX0_enterMortgage 29 = .ok (.aload 6, 2) := by decide +kernel
theorem dX0_enterMortgage_31 : decode cX0_enterMortgage 31 = .ok (.aload_n 0, 1) := by decide +kernel
theorem dX0_enterMortgage_32 : decode cX0_enterMortgage 32 = .ok (.iload_n 1, 1) := by decide +kernel
theorem dX0_enterMortgage_33 : decode cX0_enterMortgage 33 = .ok (.iload_n 2, 1) := by decide +kernel
theorem dX0_enterMortgage_34 : decode cX0_enterMortgage 34 = .ok (.lload 4, 2) := by decide +kernel
theorem dX0_enterMortgage_36 : decode cX0_enterMortgage 36 = .ok (.invokevirtual 55, 3) := by decide +kernel
theorem dX0_enterMortgage_39 : decode cX0_enterMortgage 39 = .ok (.putfield 59, 3) := by decide +kernel
theorem dX0_enterMortgage_42 : decode cX0_enterMortgage 42 = .ok (.aload 6, 2) := by decide +kernel
theorem dX0_enterMortgage_44 : decode cX0_enterMortgage 44 = .ok (.aload_n 0, 1) := by decide +kernel
theorem dX0_enterMortgage_45 : decode cX0_enterMortgage 45 = .ok (.getfield 29, 3) := by decide +kernel
theorem dX0_enterMortgage_48 : decode cX0_enterMortgage 48 = .ok (.putfield 62, 3) := by decide +kernel
theorem dX0_enterMortgage_51 : decode cX0_enterMortgage 51 = .ok (.aload_n 0, 1) := by decide +kernel
theorem dX0_enterMortgage_52 : decode cX0_enterMortgage 52 = .ok (.getstatic 65, 3) := by decide +kernel
theorem dX0_enterMortgage_55 : decode cX0_enterMortgage 55 = .ok (.iload_n 1, 1) := by decide +kernel
theorem dX0_enterMortgage_56 : decode cX0_enterMortgage 56 = .ok (.iload_n 2, 1) := by decide +kernel
theorem dX0_enterMortgage_57 : decode cX0_enterMortgage 57 = .ok (.lload 4, 2) := by decide +kernel
theorem dX0_enterMortgage_59 : decode cX0_enterMortgage 59 = .ok (.invokevirtual 70, 3) := by decide +kernel
theorem dX0_enterMortgage_62 : decode cX0_enterMortgage 62 = .ok (.astore 7, 2) := by decide +kernel
theorem dX0_enterMortgage_64 : decode cX0_enterMortgage 64 = .ok (.aload 7, 2) := by decide +kernel
theorem dX0_enterMortgage_66 : decode cX0_enterMortgage 66 = .ok (.aload_n 0, 1) := by decide +kernel
theorem dX0_enterMortgage_67 : decode cX0_enterMortgage 67 = .ok (.getfield 33, 3) := by decide +kernel
theorem dX0_enterMortgage_70 : decode cX0_enterMortgage 70 = .ok (.putfield 74, 3) := by decide +kernel
theorem dX0_enterMortgage_73 : decode cX0_enterMortgage 73 = .ok (.aload 7, 2) := by decide +kernel
theorem dX0_enterMortgage_75 : decode cX0_enterMortgage 75 = .ok (.aload 6, 2) := by decide +kernel
theorem dX0_enterMortgage_77 : decode cX0_enterMortgage 77 = .ok (.getfield 59, 3) := by decide +kernel
theorem dX0_enterMortgage_80 : decode cX0_enterMortgage 80 = .ok (.putfield 77, 3) := by decide +kernel
theorem dX0_enterMortgage_83 : decode cX0_enterMortgage 83 = .ok (.aload_n 0, 1) := by decide +kernel
theorem dX0_enterMortgage_84 : decode cX0_enterMortgage 84 = .ok (.dup, 1) := by decide +kernel
theorem dX0_enterMortgage_85 : decode cX0_enterMortgage 85 = .ok (.getfield 33, 3) := by decide +kernel
theorem dX0_enterMortgage_88 : decode cX0_enterMortgage 88 = .ok (.iconst 1, 1) := by decide +kernel
theorem dX0_enterMortgage_89 : decode cX0_enterMortgage 89 = .ok (.iadd, 1) := by decide +kernel
theorem dX0_enterMortgage_90 : decode cX0_enterMortgage 90 = .ok (.putfield 33, 3) := by decide +kernel
theorem dX0_enterMortgage_93 : decode cX0_enterMortgage 93 = .ok (.aload_n 0, 1) := by decide +kernel
theorem dX0_enterMortgage_94 : decode cX0_enterMortgage 94 = .ok (.getfield 33, 3) := by decide +kernel
theorem dX0_enterMortgage_97 : decode cX0_enterMortgage 97 = .ok (.iconst 1, 1) := by decide +kernel
theorem dX0_enterMortgage_98 : decode cX0_enterMortgage 98 = .ok (.isub, 1) := by decide +kernel
theorem dX0_enterMortgage_99 : decode cX0_enterMortgage 99 = .ok (.ireturn, 1) := by decide +kernel
theorem dX0_enterDischarge_0 : decode cX0_enterDischarge 0 = .ok (.aload_n 0, 1) := by decide +kernel
theorem dX0_enterDischarge_1 : decode cX0_enterDischarge 1 = .ok (.getfield 19, 3) := by decide +kernel
theorem dX0_enterDischarge_4 : decode cX0_enterDischarge 4 = .ok (.iload_n 1, 1) := by decide +kernel
theorem dX0_enterDischarge_5 : decode cX0_enterDischarge 5 = .ok (.aaload, 1) := by decide +kernel
theorem dX0_enterDischarge_6 : decode cX0_enterDischarge 6 = .ok (.astore 5, 2) := by decide +kernel
theorem dX0_enterDischarge_8 : decode cX0_enterDischarge 8 = .ok (.aload_n 0, 1) := by decide +kernel
theorem dX0_enterDischarge_9 : decode cX0_enterDischarge 9 = .ok (.iload_n 2, 1) := by decide +kernel
theorem dX0_enterDischarge_10 : decode cX0_enterDischarge 10 = .ok (.ifCond .eq 9, 3) := by decide +kernel
theorem dX0_enterDischarge_13 : decode cX0_enterDischarge 13 = .ok (.getstatic 78, 3) := by decide +kernel
theorem dX0_enterDischarge_16 : decode cX0_enterDischarge 16 = .ok (.goto 6, 3) := by decide +kernel
theorem dX0_enterDischarge_19 : decode cX0_enterDischarge 19 = .ok (.getstatic 81, 3) := by decide +kernel
theorem dX0_enterDischarge_22 : decode cX0_enterDischarge 22 = .ok (.aload 5, 2) := by decide +kernel
theorem dX0_enterDischarge_24 : decode cX0_enterDischarge 24 = .ok (.getfield 50, 3) := by decide +kernel
theorem dX0_enterDischarge_27 : decode cX0_enterDischarge 27 = .ok (.aload 5, 2) := by decide +kernel
theorem dX0_enterDischarge_29 : decode cX0_enterDischarge 29 = .ok (.getfield 51, 3) := by decide +kernel
theorem dX0_enterDischarge_32 : decode cX0_enterDischarge 32 = .ok (.lload_n 3, 1) := by decide +kernel
theorem dX0_enterDischarge_33 : decode cX0_enterDischarge 33 = .ok (.invokevirtual 70, 3) := by decide +kernel
theorem dX0_enterDischarge_36 : decode cX0_enterDischarge 36 = .ok (.astore 6, 2) := by decide +kernel
theorem dX0_enterDischarge_38 : decode cX0_enterDischarge 38 = .ok (.aload 6, 2) := by decide +kernel
theorem dX0_enterDischarge_40 : decode cX0_enterDischarge 40 = .ok (.iload_n 1, 1) := by decide +kernel
theorem dX0_enterDischarge_41 : decode cX0_enterDischarge 41 = .ok (.putfield 74, 3) := by decide +kernel
theorem dX0_enterDischarge_44 : decode cX0_enterDischarge 44 = .ok (.aload 6, 2) := by decide +kernel
theorem dX0_enterDischarge_46 : decode cX0_enterDischarge 46 = .ok (.aload 5, 2) := by decide +kernel
theorem dX0_enterDischarge_48 : decode cX0_enterDischarge 48 = .ok (.getfield 59, 3) := by decide +kernel
theorem dX0_enterDischarge_51 : decode cX0_enterDischarge 51 = .ok (.putfield 77, 3) := by decide +kernel
theorem dX0_enterDischarge_54 : decode cX0_enterDischarge 54 = .ok (.return_, 1) := by decide +kernel
theorem dX0_takePlace_0 : decode cX0_takePlace 0 = .ok (.aload_n 0, 1) := by decide +kernel
theorem dX0_takePlace_1 : decode cX0_takePlace 1 = .ok (.iload_n 1, 1) := by decide +kernel
theorem dX0_takePlace_2 : decode cX0_takePlace 2 = .ok (.invokevirtual 84, 3) := by decide +kernel
theorem dX0_takePlace_5 : decode cX0_takePlace 5 = .ok (.istore 5, 2) := by decide +kernel
theorem dX0_takePlace_7 : decode cX0_takePlace 7 = .ok (.iload 5, 2) := by decide +kernel
theorem dX0_takePlace_9 : decode cX0_takePlace 9 = .ok (.aload_n 0, 1) := by decide +kernel
theorem dX0_takePlace_10 : decode cX0_takePlace 10 = .ok (.getfield 29, 3) := by decide +kernel
theorem dX0_takePlace_13 : decode cX0_takePlace 13 = .ok (.if_icmp .ge 39, 3) := by decide +kernel
theorem dX0_takePlace_16 : decode cX0_takePlace 16 = .ok (.aload_n 0, 1) := by decide +kernel
theorem dX0_takePlace_17 : decode cX0_takePlace 17 = .ok (.getfield 11, 3) := by decide +kernel
theorem dX0_takePlace_20 : decode cX0_takePlace 20 = .ok (.iload 5, 2) := by decide +kernel
theorem dX0_takePlace_22 : decode cX0_takePlace 22 = .ok (.aaload, 1) := by decide +kernel
theorem dX0_takePlace_23 : decode cX0_takePlace 23 = .ok (.iload_n 1, 1) := by decide +kernel
theorem dX0_takePlace_24 : decode cX0_takePlace 24 = .ok (.iload_n 2, 1) := by decide +kernel
theorem dX0_takePlace_25 : decode cX0_takePlace 25 = .ok (.lload_n 3, 1) := by decide +kernel
theorem dX0_takePlace_26 : decode cX0_takePlace 26 = .ok (.invokevirtual 88, 3) := by decide +kernel
theorem dX0_takePlace_29 : decode cX0_takePlace 29 = .ok (.ifCond .eq 17, 3) := by decide +kernel
theorem dX0_takePlace_32 : decode cX0_takePlace 32 = .ok (.aload_n 0, 1) := by decide +kernel
theorem dX0_takePlace_33 : decode cX0_takePlace 33 = .ok (.getfield 11, 3) := by decide +kernel
theorem dX0_takePlace_36 : decode cX0_takePlace 36 = .ok (.iload 5, 2) := by decide +kernel
theorem dX0_takePlace_38 : decode cX0_takePlace 38 = .ok (.aaload, 1) := by decide +kernel
theorem dX0_takePlace_39 : decode cX0_takePlace 39 = .ok (.iconst 1, 1) := by decide +kernel
theorem dX0_takePlace_40 : decode cX0_takePlace 40 = .ok (.putfield 92, 3) := by decide +kernel
theorem dX0_takePlace_43 : decode cX0_takePlace 43 = .ok (.iload 5, 2) := by decide +kernel
theorem dX0_takePlace_45 : decode cX0_takePlace 45 = .ok (.ireturn, 1) := by decide +kernel
theorem dX0_takePlace_46 : decode cX0_takePlace 46 = .ok (.iinc 5 1, 3) := by decide +kernel
theorem dX0_takePlace_49 : decode cX0_takePlace 49 = .ok (.goto (-42), 3) := by decide +kernel
theorem dX0_takePlace_52 : decode cX0_takePlace 52 = .ok (.aload_n 0, 1) := by decide +kernel
theorem dX0_takePlace_53 : decode cX0_takePlace 53 = .ok (.getfield 29, 3) := by decide +kernel
theorem dX0_takePlace_56 : decode cX0_takePlace 56 = .ok (.ireturn, 1) := by decide +kernel
theorem dX0_firstOpenRow_0 : decode cX0_firstOpenRow 0 = .ok (.aload_n 0, 1) := by decide +kernel
theorem dX0_firstOpenRow_1 : decode cX0_firstOpenRow 1 = .ok (.getfield 29, 3) := by decide +kernel
theorem dX0_firstOpenRow_4 : decode cX0_firstOpenRow 4 = .ok (.iconst 1, 1) := by decide +kernel
theorem dX0_firstOpenRow_5 : decode cX0_firstOpenRow 5 = .ok (.isub, 1) := by decide +kernel
theorem dX0_firstOpenRow_6 : decode cX0_firstOpenRow 6 = .ok (.istore_n 2, 1) := by decide +kernel
theorem dX0_firstOpenRow_7 : decode cX0_firstOpenRow 7 = .ok (.iload_n 2, 1) := by decide +kernel
theorem dX0_firstOpenRow_8 : decode cX0_firstOpenRow 8 = .ok (.ifCond .lt 41, 3) := by decide +kernel
theorem dX0_firstOpenRow_11 : decode cX0_firstOpenRow 11 = .ok (.aload_n 0, 1) := by decide +kernel
theorem dX0_firstOpenRow_12 : decode cX0_firstOpenRow 12 = .ok (.getfield 11, 3) := by decide +kernel
theorem dX0_firstOpenRow_15 : decode cX0_firstOpenRow 15 = .ok (.iload_n 2, 1) := by decide +kernel
theorem dX0_firstOpenRow_16 : decode cX0_firstOpenRow 16 = .ok (.aaload, 1) := by decide +kernel
theorem dX0_firstOpenRow_17 : decode cX0_firstOpenRow 17 = .ok (.getfield 36, 3) := by decide +kernel
theorem dX0_firstOpenRow_20 : decode cX0_firstOpenRow 20 = .ok (.getstatic 96, 3) := by decide +kernel
theorem dX0_firstOpenRow_23 : decode cX0_firstOpenRow 23 = .ok (.if_acmp .ne 20, 3) := by decide +kernel
theorem dX0_firstOpenRow_26 : decode cX0_firstOpenRow 26 = .ok (.aload_n 0, 1) := by decide +kernel
theorem dX0_firstOpenRow_27 : decode cX0_firstOpenRow 27 = .ok (.getfield 11, 3) := by decide +kernel
theorem dX0_firstOpenRow_30 : decode cX0_firstOpenRow 30 = .ok (.iload_n 2, 1) := by decide +kernel
theorem dX0_firstOpenRow_31 : decode cX0_firstOpenRow 31 = .ok (.aaload, 1) := by decide +kernel
theorem dX0_firstOpenRow_32 : decode cX0_firstOpenRow 32 = .ok (.getfield 40, 3) := by decide +kernel
theorem dX0_firstOpenRow_35 : decode cX0_firstOpenRow 35 = .ok (.iload_n 1, 1) := by decide +kernel
theorem dX0_firstOpenRow_36 : decode cX0_firstOpenRow 36 = .ok (.if_icmp .ne 7, 3) := by decide +kernel
theorem dX0_firstOpenRow_39 : decode cX0_firstOpenRow 39 = .ok (.iload_n 2, 1) := by decide +kernel
theorem dX0_firstOpenRow_40 : decode cX0_firstOpenRow 40 = .ok (.iconst 1, 1) := by decide +kernel
theorem dX0_firstOpenRow_41 : decode cX0_firstOpenRow 41 = .ok (.iadd, 1) := by decide +kernel
theorem dX0_firstOpenRow_42 : decode cX0_firstOpenRow 42 = .ok (.ireturn, 1) := by decide +kernel
theorem dX0_firstOpenRow_43 : decode cX0_firstOpenRow 43 = .ok (.iinc 2 (-1), 3) := by decide +kernel
theorem dX0_firstOpenRow_46 : decode cX0_firstOpenRow 46 = .ok (.goto (-39), 3) := by decide +kernel
theorem dX0_firstOpenRow_49 : decode cX0_firstOpenRow 49 = .ok (.iconst 0, 1) := by decide +kernel
theorem dX0_firstOpenRow_50 : decode cX0_firstOpenRow 50 = .ok (.ireturn, 1) := by decide +kernel
theorem dX0_isOver_0 : decode cX0_isOver 0 = .ok (.aload_n 0, 1) := by decide +kernel
theorem dX0_isOver_1 : decode cX0_isOver 1 = .ok (.getfield 19, 3) := by decide +kernel
theorem dX0_isOver_4 : decode cX0_isOver 4 = .ok (.iload_n 1, 1) := by decide +kernel
theorem dX0_isOver_5 : decode cX0_isOver 5 = .ok (.aaload, 1) := by decide +kernel
theorem dX0_isOver_6 : decode cX0_isOver 6 = .ok (.astore_n 2, 1) := by decide +kernel
theorem dX0_isOver_7 : decode cX0_isOver 7 = .ok (.aload_n 2, 1) := by decide +kernel
theorem dX0_isOver_8 : decode cX0_isOver 8 = .ok (.getfield 62, 3) := by decide +kernel
theorem dX0_isOver_11 : decode cX0_isOver 11 = .ok (.aload_n 0, 1) := by decide +kernel
theorem dX0_isOver_12 : decode cX0_isOver 12 = .ok (.aload_n 2, 1) := by decide +kernel
theorem dX0_isOver_13 : decode cX0_isOver 13 = .ok (.getfield 50, 3) := by decide +kernel
theorem dX0_isOver_16 : decode cX0_isOver 16 = .ok (.invokevirtual 84, 3) := by decide +kernel
theorem dX0_isOver_19 : decode cX0_isOver 19 = .ok (.if_icmp .ge 7, 3) := by decide +kernel
theorem dX0_isOver_22 : decode cX0_isOver 22 = .ok (.iconst 1, 1) := by decide +kernel
theorem dX0_isOver_23 : decode cX0_isOver 23 = .ok (.goto 4, 3) := by decide +kernel
theorem dX0_isOver_26 : decode cX0_isOver 26 = .ok (.iconst 0, 1) := by decide +kernel
theorem dX0_isOver_27 : decode cX0_isOver 27 = .ok (.ireturn, 1) := by decide +kernel
theorem dX0_readUpTo_0 : decode cX0_readUpTo 0 = .ok (.aload_n 0, 1) := by decide +kernel
theorem dX0_readUpTo_1 : decode cX0_readUpTo 1 = .ok (.getfield 23, 3) := by decide +kernel
theorem dX0_readUpTo_4 : decode cX0_readUpTo 4 = .ok (.iconst (-1), 1) := by decide +kernel
theorem dX0_readUpTo_5 : decode cX0_readUpTo 5 = .ok (.invokestatic 99, 3) := by decide +kernel
theorem dX0_readUpTo_8 : decode cX0_readUpTo 8 = .ok (.iconst 0, 1) := by decide +kernel
theorem dX0_readUpTo_9 : decode cX0_readUpTo 9 = .ok (.istore 4, 2) := by decide +kernel
theorem dX0_readUpTo_11 : decode cX0_readUpTo 11 = .ok (.iload 4, 2) := by decide +kernel
theorem dX0_readUpTo_13 : decode cX0_readUpTo 13 = .ok (.aload_n 0, 1) := by decide +kernel
theorem dX0_readUpTo_14 : decode cX0_readUpTo 14 = .ok (.getfield 29, 3) := by decide +kernel
theorem dX0_readUpTo_17 : decode cX0_readUpTo 17 = .ok (.if_icmp .ge 49, 3) := by decide +kernel
theorem dX0_readUpTo_20 : decode cX0_readUpTo 20 = .ok (.aload_n 0, 1) := by decide +kernel
theorem dX0_readUpTo_21 : decode cX0_readUpTo 21 = .ok (.getfield 11, 3) := by decide +kernel
theorem dX0_readUpTo_24 : decode cX0_readUpTo 24 = .ok (.iload 4, 2) := by decide +kernel
theorem dX0_readUpTo_26 : decode cX0_readUpTo 26 = .ok (.aaload, 1) := by decide +kernel
theorem dX0_readUpTo_27 : decode cX0_readUpTo 27 = .ok (.getfield 46, 3) := by decide +kernel
theorem dX0_readUpTo_30 : decode cX0_readUpTo 30 = .ok (.lload_n 2, 1) := by decide +kernel
theorem dX0_readUpTo_31 : decode cX0_readUpTo 31 = .ok (.lcmp, 1) := by decide +kernel
theorem dX0_readUpTo_32 : decode cX0_readUpTo 32 = .ok (.ifCond .gt 34, 3) := by decide +kernel
theorem dX0_readUpTo_35 : decode cX0_readUpTo 35 = .ok (.aload_n 0, 1) := by decide +kernel
theorem dX0_readUpTo_36 : decode cX0_readUpTo 36 = .ok (.getfield 11, 3) := by decide +kernel
theorem dX0_readUpTo_39 : decode cX0_readUpTo 39 = .ok (.iload 4, 2) := by decide +kernel
theorem dX0_readUpTo_41 : decode cX0_readUpTo 41 = .ok (.aaload, 1) := by decide +kernel
theorem dX0_readUpTo_42 : decode cX0_readUpTo 42 = .ok (.getfield 40, 3) := by decide +kernel
theorem dX0_readUpTo_45 : decode cX0_readUpTo 45 = .ok (.iload_n 1, 1) := by decide +kernel
theorem dX0_readUpTo_46 : decode cX0_readUpTo 46 = .ok (.if_icmp .ne 14, 3) := by decide +kernel
theorem dX0_readUpTo_49 : decode cX0_readUpTo 49 = .ok (.aload_n 0, 1) := by decide +kernel
theorem dX0_readUpTo_50 : decode cX0_readUpTo 50 = .ok (.aload_n 0, 1) := by decide +kernel
theorem dX0_readUpTo_51 : decode cX0_readUpTo 51 = .ok (.getfield 11, 3) := by decide +kernel
theorem dX0_readUpTo_54 : decode cX0_readUpTo 54 = .ok (.iload 4, 2) := by decide +kernel
theorem dX0_readUpTo_56 : decode cX0_readUpTo 56 = .ok (.aaload, 1) := by decide +kernel
theorem dX0_readUpTo_57 : decode cX0_readUpTo 57 = .ok (.invokevirtual 105, 3) := by decide +kernel
theorem dX0_readUpTo_60 : decode cX0_readUpTo 60 = .ok (.iinc 4 1, 3) := by decide +kernel
theorem dX0_readUpTo_63 : decode cX0_readUpTo 63 = .ok (.goto (-52), 3) := by decide +kernel
theorem dX0_readUpTo_66 : decode cX0_readUpTo 66 = .ok (.return_, 1) := by decide +kernel
theorem dX0_read_0 : decode cX0_read 0 = .ok (.aload_n 1, 1) := by decide +kernel
theorem dX0_read_1 : decode cX0_read 1 = .ok (.getfield 77, 3) := by decide +kernel
theorem dX0_read_4 : decode cX0_read 4 = .ok (.istore_n 2, 1) := by decide +kernel
theorem dX0_read_5 : decode cX0_read 5 = .ok (.aload_n 1, 1) := by decide +kernel
theorem dX0_read_6 : decode cX0_read 6 = .ok (.getfield 36, 3) := by decide +kernel
theorem dX0_read_9 : decode cX0_read 9 = .ok (.getstatic 96, 3) := by decide +kernel
theorem dX0_read_12 : decode cX0_read 12 = .ok (.if_acmp .ne 14, 3) := by decide +kernel
theorem dX0_read_15 : decode cX0_read 15 = .ok (.aload_n 0, 1) := by decide +kernel
theorem dX0_read_16 : decode cX0_read 16 = .ok (.getfield 23, 3) := by decide +kernel
theorem dX0_read_19 : decode cX0_read 19 = .ok (.iconst (-1), 1) := by decide +kernel
theorem dX0_read_20 : decode cX0_read 20 = .ok (.invokestatic 99, 3) := by decide +kernel
theorem dX0_read_23 : decode cX0_read 23 = .ok (.goto 37, 3) := by decide +kernel
theorem dX0_read_26 : decode cX0_read 26 = .ok (.iload_n 2, 1) := by decide +kernel
theorem dX0_read_27 : decode cX0_read 27 = .ok (.ifCond .lt 33, 3) := by decide +kernel
theorem dX0_read_30 : decode cX0_read 30 = .ok (.iload_n 2, 1) := by decide +kernel
theorem dX0_read_31 : decode cX0_read 31 = .ok (.bipush 60, 2) := by decide +kernel
theorem dX0_read_33 : decode cX0_read 33 = .ok (.if_icmp .ge 27, 3) := by decide +kernel
theorem dX0_read_36 : decode cX0_read 36 = .ok (.aload_n 0, 1) := by decide +kernel
theorem dX0_read_37 : decode cX0_read 37 = .ok (.getfield 23, 3) := by decide +kernel
theorem dX0_read_40 : decode cX0_read 40 = .ok (.iload_n 2, 1) := by decide +kernel
theorem dX0_read_41 : decode cX0_read 41 = .ok (.aload_n 1, 1) := by decide +kernel
theorem dX0_read_42 : decode cX0_read 42 = .ok (.getfield 36, 3) := by decide +kernel
theorem dX0_read_45 : decode cX0_read 45 = .ok (.getstatic 78, 3) := by decide +kernel
theorem dX0_read_48 : decode cX0_read 48 = .ok (.if_acmp .ne 7, 3) := by decide +kernel
theorem dX0_read_51 : decode cX0_read 51 = .ok (.iconst (-1), 1) := by decide +kernel
theorem dX0_read_52 : decode cX0_read 52 = .ok (.goto 7, 3) := by decide +kernel
theorem dX0_read_55 : decode cX0_read 55 = .ok (.aload_n 1, 1) := by decide +kernel
theorem dX0_read_56 : decode cX0_read 56 = .ok (.getfield 74, 3) := by decide +kernel
theorem dX0_read_59 : decode cX0_read 59 = .ok (.iastore, 1) := by decide +kernel
theorem dX0_read_60 : decode cX0_read 60 = .ok (.return_, 1) := by decide +kernel
theorem dX0_rankOf_0 : decode cX0_rankOf 0 = .ok (.aload_n 0, 1) := by decide +kernel
theorem dX0_rankOf_1 : decode cX0_rankOf 1 = .ok (.aload_n 0, 1) := by decide +kernel
theorem dX0_rankOf_2 : decode cX0_rankOf 2 = .ok (.getfield 19, 3) := by decide +kernel
theorem dX0_rankOf_5 : decode cX0_rankOf 5 = .ok (.iload_n 1, 1) := by decide +kernel
theorem dX0_rankOf_6 : decode cX0_rankOf 6 = .ok (.aaload, 1) := by decide +kernel
theorem dX0_rankOf_7 : decode cX0_rankOf 7 = .ok (.getfield 50, 3) := by decide +kernel
theorem dX0_rankOf_10 : decode cX0_rankOf 10 = .ok (.lload_n 2, 1) := by decide +kernel
theorem dX0_rankOf_11 : decode cX0_rankOf 11 = .ok (.invokevirtual 109, 3) := by decide +kernel
theorem dX0_rankOf_14 : decode cX0_rankOf 14 = .ok (.iconst 0, 1) := by decide +kernel
theorem dX0_rankOf_15 : decode cX0_rankOf 15 = .ok (.istore 4, 2) := by decide +kernel
theorem dX0_rankOf_17 : decode cX0_rankOf 17 = .ok (.iconst 0, 1) := by decide +kernel
theorem dX0_rankOf_18 : decode cX0_rankOf 18 = .ok (.istore 5, 2) := by decide +kernel
theorem dX0_rankOf_20 : decode cX0_rankOf 20 = .ok (.iload 5, 2) := by decide +kernel
theorem dX0_rankOf_22 : decode cX0_rankOf 22 = .ok (.aload_n 0, 1) := by decide +kernel
theorem dX0_rankOf_23 : decode cX0_rankOf 23 = .ok (.getfield 29, 3) := by decide +kernel
theorem dX0_rankOf_26 : decode cX0_rankOf 26 = .ok (.if_icmp .ge 37, 3) := by decide +kernel
theorem dX0_rankOf_29 : decode cX0_rankOf 29 = .ok (.aload_n 0, 1) := by decide +kernel
theorem dX0_rankOf_30 : decode cX0_rankOf 30 = .ok (.getfield 23, 3) := by decide +kernel
theorem dX0_rankOf_33 : decode cX0_rankOf 33 = .ok (.iload 5, 2) := by decide +kernel
theorem dX0_rankOf_35 : decode cX0_rankOf 35 = .ok (.iaload, 1) := by decide +kernel
theorem dX0_rankOf_36 : decode cX0_rankOf 36 = .ok (.iload_n 1, 1) := by decide +kernel
theorem dX0_rankOf_37 : decode cX0_rankOf 37 = .ok (.if_icmp .ne 6, 3) := by decide +kernel
theorem dX0_rankOf_40 : decode cX0_rankOf 40 = .ok (.iload 4, 2) := by decide +kernel
theorem dX0_rankOf_42 : decode cX0_rankOf 42 = .ok (.ireturn, 1) := by decide +kernel
theorem dX0_rankOf_43 : decode cX0_rankOf 43 = .ok (.aload_n 0, 1) := by decide +kernel
theorem dX0_rankOf_44 : decode cX0_rankOf 44 = .ok (.getfield 23, 3) := by decide +kernel
theorem dX0_rankOf_47 : decode cX0_rankOf 47 = .ok (.iload 5, 2) := by decide +kernel
theorem dX0_rankOf_49 : decode cX0_rankOf 49 = .ok (.iaload, 1) := by decide +kernel
theorem dX0_rankOf_50 : decode cX0_rankOf 50 = .ok (.iconst (-1), 1) := by decide +kernel
theorem dX0_rankOf_51 : decode cX0_rankOf 51 = .ok (.if_icmp .eq 6, 3) := by decide +kernel
theorem dX0_rankOf_54 : decode cX0_rankOf 54 = .ok (.iinc 4 1, 3) := by decide +kernel
theorem dX0_rankOf_57 : decode cX0_rankOf 57 = .ok (.iinc 5 1, 3) := by decide +kernel
theorem dX0_rankOf_60 : decode cX0_rankOf 60 = .ok (.goto (-40), 3) := by decide +kernel
theorem dX0_rankOf_63 : decode cX0_rankOf 63 = .ok (.iconst (-1), 1) := by decide +kernel
theorem dX0_rankOf_64 : decode cX0_rankOf 64 = .ok (.ireturn, 1) := by decide +kernel
theorem dX0_mortgageOfRank_0 : decode cX0_mortgageOfRank 0 = .ok (.aload_n 0, 1) := by decide +kernel
theorem dX0_mortgageOfRank_1 : decode cX0_mortgageOfRank 1 = .ok (.iload_n 1, 1) := by decide +kernel
theorem dX0_mortgageOfRank_2 : decode cX0_mortgageOfRank 2 = .ok (.lload_n 3, 1) := by decide +kernel
theorem dX0_mortgageOfRank_3 : decode cX0_mortgageOfRank 3 = .ok (.invokevirtual 109, 3) := by decide +kernel
theorem dX0_mortgageOfRank_6 : decode cX0_mortgageOfRank 6 = .ok (.iconst 0, 1) := by decide +kernel
theorem dX0_mortgageOfRank_7 : decode cX0_mortgageOfRank 7 = .ok (.istore 5, 2) := by decide +kernel
theorem dX0_mortgageOfRank_9 : decode cX0_mortgageOfRank 9 = .ok (.iconst 0, 1) := by decide +kernel
theorem dX0_mortgageOfRank_10 : decode cX0_mortgageOfRank 10 = .ok (.istore 6, 2) := by decide +kernel
theorem dX0_mortgageOfRank_12 : decode cX0_mortgageOfRank 12 = .ok (.iload 6, 2) := by decide +kernel
theorem dX0_mortgageOfRank_14 : decode cX0_mortgageOfRank 14 = .ok (.aload_n 0, 1) := by decide +kernel
theorem dX0_mortgageOfRank_15 : decode cX0_mortgageOfRank 15 = .ok (.getfield 29, 3) := by decide +kernel
theorem dX0_mortgageOfRank_18 : decode cX0_mortgageOfRank 18 = .ok (.if_icmp .ge 37, 3) := by decide +kernel
theorem dX0_mortgageOfRank_21 : decode cX0_mortgageOfRank 21 = .ok (.aload_n 0, 1) := by decide +kernel
theorem dX0_mortgageOfRank_22 : decode cX0_mortgageOfRank 22 = .ok (.getfield 23, 3) := by decide +kernel
theorem dX0_mortgageOfRank_25 : decode cX0_mortgageOfRank 25 = .ok (.iload 6, 2) := by decide +kernel
theorem dX0_mortgageOfRank_27 : decode cX0_mortgageOfRank 27 = .ok (.iaload, 1) := by decide +kernel
theorem dX0_mortgageOfRank_28 : decode cX0_mortgageOfRank 28 = .ok (.iconst (-1), 1) := by decide +kernel
theorem dX0_mortgageOfRank_29 : decode cX0_mortgageOfRank 29 = .ok (.if_icmp .eq 20, 3) := by decide +kernel
theorem dX0_mortgageOfRank_32 : decode cX0_mortgageOfRank 32 = .ok (.iload 5, 2) := by decide +kernel
theorem dX0_mortgageOfRank_34 : decode cX0_mortgageOfRank 34 = .ok (.iload_n 2, 1) := by decide +kernel
theorem dX0_mortgageOfRank_35 : decode cX0_mortgageOfRank 35 = .ok (.if_icmp .ne 11, 3) := by decide +kernel
theorem dX0_mortgageOfRank_38 : decode cX0_mortgageOfRank 38 = .ok (.aload_n 0, 1) := by decide +kernel
theorem dX0_mortgageOfRank_39 : decode cX0_mortgageOfRank 39 = .ok (.getfield 23, 3) := by decide +kernel
theorem dX0_mortgageOfRank_42 : decode cX0_mortgageOfRank 42 = .ok (.iload 6, 2) := by decide +kernel
theorem dX0_mortgageOfRank_44 : decode cX0_mortgageOfRank 44 = .ok (.iaload, 1) := by decide +kernel
theorem dX0_mortgageOfRank_45 : decode cX0_mortgageOfRank 45 = .ok (.ireturn, 1) := by decide +kernel
theorem dX0_mortgageOfRank_46 : decode cX0_mortgageOfRank 46 = .ok (.iinc 5 1, 3) := by decide +kernel
theorem dX0_mortgageOfRank_49 : decode cX0_mortgageOfRank 49 = .ok (.iinc 6 1, 3) := by decide +kernel
theorem dX0_mortgageOfRank_52 : decode cX0_mortgageOfRank 52 = .ok (.goto (-40), 3) := by decide +kernel
theorem dX0_mortgageOfRank_55 : decode cX0_mortgageOfRank 55 = .ok (.iconst (-1), 1) := by decide +kernel
theorem dX0_mortgageOfRank_56 : decode cX0_mortgageOfRank 56 = .ok (.ireturn, 1) := by decide +kernel
theorem dX2_init_0 : decode cX2_init 0 = .ok (.aload_n 0, 1) := by decide +kernel
theorem dX2_init_1 : decode cX2_init 1 = .ok (.invokespecial 3, 3) := by decide +kernel
theorem dX2_init_4 : decode cX2_init 4 = .ok (.aload_n 0, 1) := by decide +kernel
theorem dX2_init_5 : decode cX2_init 5 = .ok (.iconst (-1), 1) := by decide +kernel
theorem dX2_init_6 : decode cX2_init 6 = .ok (.putfield 9, 3) := by decide +kernel
theorem dX2_init_9 : decode cX2_init 9 = .ok (.aload_n 0, 1) := by decide +kernel
theorem dX2_init_10 : decode cX2_init 10 = .ok (.iconst (-1), 1) := by decide +kernel
theorem dX2_init_11 : decode cX2_init 11 = .ok (.putfield 15, 3) := by decide +kernel
theorem dX2_init_14 : decode cX2_init 14 = .ok (.aload_n 0, 1) := by decide +kernel
theorem dX2_init_15 : decode cX2_init 15 = .ok (.iconst (-1), 1) := by decide +kernel
theorem dX2_init_16 : decode cX2_init 16 = .ok (.putfield 18, 3) := by decide +kernel
theorem dX2_init_19 : decode cX2_init 19 = .ok (.aload_n 0, 1) := by decide +kernel
theorem dX2_init_20 : decode cX2_init 20 = .ok (.iconst (-1), 1) := by decide +kernel
theorem dX2_init_21 : decode cX2_init 21 = .ok (.putfield 21, 3) := by decide +kernel
theorem dX2_init_24 : decode cX2_init 24 = .ok (.return_, 1) := by decide +kernel
theorem dX3_init_0 : decode cX3_init 0 = .ok (.aload_n 0, 1) := by decide +kernel
theorem dX3_init_1 : decode cX3_init 1 = .ok (.invokespecial 3, 3) := by decide +kernel
theorem dX3_init_4 : decode cX3_init 4 = .ok (.aload_n 0, 1) := by decide +kernel
theorem dX3_init_5 : decode cX3_init 5 = .ok (.getstatic 9, 3) := by decide +kernel
theorem dX3_init_8 : decode cX3_init 8 = .ok (.putfield 15, 3) := by decide +kernel
theorem dX3_init_11 : decode cX3_init 11 = .ok (.aload_n 0, 1) := by decide +kernel
theorem dX3_init_12 : decode cX3_init 12 = .ok (.iconst (-1), 1) := by decide +kernel
theorem dX3_init_13 : decode cX3_init 13 = .ok (.putfield 20, 3) := by decide +kernel
theorem dX3_init_16 : decode cX3_init 16 = .ok (.aload_n 0, 1) := by decide +kernel
theorem dX3_init_17 : decode cX3_init 17 = .ok (.iconst (-1), 1) := by decide +kernel
theorem dX3_init_18 : decode cX3_init 18 = .ok (.putfield 24, 3) := by decide +kernel
theorem dX3_init_21 : decode cX3_init 21 = .ok (.aload_n 0, 1) := by decide +kernel
theorem dX3_init_22 : decode cX3_init 22 = .ok (.iconst (-1), 1) := by decide +kernel
theorem dX3_init_23 : decode cX3_init 23 = .ok (.putfield 27, 3) := by decide +kernel
theorem dX3_init_26 : decode cX3_init 26 = .ok (.aload_n 0, 1) := by decide +kernel
theorem dX3_init_27 : decode cX3_init 27 = .ok (.iconst (-1), 1) := by decide +kernel
theorem dX3_init_28 : decode cX3_init 28 = .ok (.putfield 30, 3) := by decide +kernel
theorem dX3_init_31 : decode cX3_init 31 = .ok (.aload_n 0, 1) := by decide +kernel
theorem dX3_init_32 : decode cX3_init 32 = .ok (.iconst (-1), 1) := by decide +kernel
theorem dX3_init_33 : decode cX3_init 33 = .ok (.putfield 33, 3) := by decide +kernel
theorem dX3_init_36 : decode cX3_init 36 = .ok (.return_, 1) := by decide +kernel
theorem dX3_isLienOn_0 : decode cX3_isLienOn 0 = .ok (.aload_n 0, 1) := by decide +kernel
theorem dX3_isLienOn_1 : decode cX3_isLienOn 1 = .ok (.getfield 15, 3) := by decide +kernel
theorem dX3_isLienOn_4 : decode cX3_isLienOn 4 = .ok (.getstatic 36, 3) := by decide +kernel
theorem dX3_isLienOn_7 : decode cX3_isLienOn 7 = .ok (.if_acmp .ne 28, 3) := by decide +kernel
theorem dX3_isLienOn_10 : decode cX3_isLienOn 10 = .ok (.aload_n 0, 1) := by decide +kernel
theorem dX3_isLienOn_11 : decode cX3_isLienOn 11 = .ok (.getfield 20, 3) := by decide +kernel
theorem dX3_isLienOn_14 : decode cX3_isLienOn 14 = .ok (.iload_n 1, 1) := by decide +kernel
theorem dX3_isLienOn_15 : decode cX3_isLienOn 15 = .ok (.if_icmp .ne 20, 3) := by decide +kernel
theorem dX3_isLienOn_18 : decode cX3_isLienOn 18 = .ok (.lload_n 2, 1) := by decide +kernel
theorem dX3_isLienOn_19 : decode cX3_isLienOn 19 = .ok (.aload_n 0, 1) := by decide +kernel
theorem dX3_isLienOn_20 : decode cX3_isLienOn 20 = .ok (.getfield 39, 3) := by decide +kernel
theorem dX3_isLienOn_23 : decode cX3_isLienOn 23 = .ok (.lsub, 1) := by decide +kernel
theorem dX3_isLienOn_24 : decode cX3_isLienOn 24 = .ok (.ldc2_w 43, 3) := by decide +kernel
theorem dX3_isLienOn_27 : decode cX3_isLienOn 27 = .ok (.lcmp, 1) := by decide +kernel
theorem dX3_isLienOn_28 : decode cX3_isLienOn 28 = .ok (.ifCond .gt 7, 3) := by decide +kernel
theorem dX3_isLienOn_31 : decode cX3_isLienOn 31 = .ok (.iconst 1, 1) := by decide +kernel
theorem dX3_isLienOn_32 : decode cX3_isLienOn 32 = .ok (.goto 4, 3) := by decide +kernel
theorem dX3_isLienOn_35 : decode cX3_isLienOn 35 = .ok (.iconst 0, 1) := by decide +kernel
theorem dX3_isLienOn_36 : decode cX3_isLienOn 36 = .ok (.ireturn, 1) := by decide +kernel
theorem dX3_holdsPlaceFor_0 : decode cX3_holdsPlaceFor 0 = .ok (.aload_n 0, 1) := by decide +kernel
theorem dX3_holdsPlaceFor_1 : decode cX3_holdsPlaceFor 1 = .ok (.getfield 15, 3) := by decide +kernel
theorem dX3_holdsPlaceFor_4 : decode cX3_holdsPlaceFor 4 = .ok (.getstatic 9, 3) := by decide +kernel
theorem dX3_holdsPlaceFor_7 : decode cX3_holdsPlaceFor 7 = .ok (.if_acmp .ne 43, 3) := by decide +kernel
theorem dX3_holdsPlaceFor_10 : decode cX3_holdsPlaceFor 10 = .ok (.aload_n 0, 1) := by decide +kernel
theorem dX3_holdsPlaceFor_11 : decode cX3_holdsPlaceFor 11 = .ok (.getfield 45, 3) := by decide +kernel
theorem dX3_holdsPlaceFor_14 : decode cX3_holdsPlaceFor 14 = .ok (.ifCond .ne 36, 3) := by decide +kernel
theorem dX3_holdsPlaceFor_17 : decode cX3_holdsPlaceFor 17 = .ok (.aload_n 0, 1) := by decide +kernel
theorem dX3_holdsPlaceFor_18 : decode cX3_holdsPlaceFor 18 = .ok (.getfield 20, 3) := by decide +kernel
theorem dX3_holdsPlaceFor_21 : decode cX3_holdsPlaceFor 21 = .ok (.iload_n 1, 1) := by decide +kernel
theorem dX3_holdsPlaceFor_22 : decode cX3_holdsPlaceFor 22 = .ok (.if_icmp .ne 28, 3) := by decide +kernel
theorem dX3_holdsPlaceFor_25 : decode cX3_holdsPlaceFor 25 = .ok (.aload_n 0, 1) := by decide +kernel
theorem dX3_holdsPlaceFor_26 : decode cX3_holdsPlaceFor 26 = .ok (.getfield 24, 3) := by decide +kernel
theorem dX3_holdsPlaceFor_29 : decode cX3_holdsPlaceFor 29 = .ok (.iload_n 2, 1) := by decide +kernel
theorem dX3_holdsPlaceFor_30 : decode cX3_holdsPlaceFor 30 = .ok (.if_icmp .ne 20, 3) := by decide +kernel
theorem dX3_holdsPlaceFor_33 : decode cX3_holdsPlaceFor 33 = .ok (.lload_n 3, 1) := by decide +kernel
theorem dX3_holdsPlaceFor_34 : decode cX3_holdsPlaceFor 34 = .ok (.aload_n 0, 1) := by decide +kernel
theorem dX3_holdsPlaceFor_35 : decode cX3_holdsPlaceFor 35 = .ok (.getfield 39, 3) := by decide +kernel
theorem dX3_holdsPlaceFor_38 : decode cX3_holdsPlaceFor 38 = .ok (.lsub, 1) := by decide +kernel
theorem dX3_holdsPlaceFor_39 : decode cX3_holdsPlaceFor 39 = .ok (.ldc2_w 49, 3) := by decide +kernel
theorem dX3_holdsPlaceFor_42 : decode cX3_holdsPlaceFor 42 = .ok (.lcmp, 1) := by decide +kernel
theorem dX3_holdsPlaceFor_43 : decode cX3_holdsPlaceFor 43 = .ok (.ifCond .gt 7, 3) := by decide +kernel
theorem dX3_holdsPlaceFor_46 : decode cX3_holdsPlaceFor 46 = .ok (.iconst 1, 1) := by decide +kernel
theorem dX3_holdsPlaceFor_47 : decode cX3_holdsPlaceFor 47 = .ok (.goto 4, 3) := by decide +kernel
theorem dX3_holdsPlaceFor_50 : decode cX3_holdsPlaceFor 50 = .ok (.iconst 0, 1) := by decide +kernel
theorem dX3_holdsPlaceFor_51 : decode cX3_holdsPlaceFor 51 = .ok (.ireturn, 1) := by decide +kernel
theorem dX4_init_0 : decode cX4_init 0 = .ok (.aload_n 0, 1) := by decide +kernel
theorem dX4_init_1 : decode cX4_init 1 = .ok (.invokespecial 3, 3) := by decide +kernel
theorem dX4_init_4 : decode cX4_init 4 = .ok (.aload_n 0, 1) := by decide +kernel
theorem dX4_init_5 : decode cX4_init 5 = .ok (.bipush 10, 2) := by decide +kernel
theorem dX4_init_7 : decode cX4_init 7 = .ok (.newarray .int, 2) := by decide +kernel
theorem dX4_init_9 : decode cX4_init 9 = .ok (.putfield 9, 3) := by decide +kernel
theorem dX4_init_12 : decode cX4_init 12 = .ok (.aload_n 0, 1) := by decide +kernel
theorem dX4_init_13 : decode cX4_init 13 = .ok (.iconst (-1), 1) := by decide +kernel
theorem dX4_init_14 : decode cX4_init 14 = .ok (.putfield 15, 3) := by decide +kernel
theorem dX4_init_17 : decode cX4_init 17 = .ok (.aload_n 0, 1) := by decide +kernel
theorem dX4_init_18 : decode cX4_init 18 = .ok (.iconst (-1), 1) := by decide +kernel
theorem dX4_init_19 : decode cX4_init 19 = .ok (.putfield 19, 3) := by decide +kernel
theorem dX4_init_22 : decode cX4_init 22 = .ok (.return_, 1) := by decide +kernel
theorem dX4_partsOfParties_0 : decode cX4_partsOfParties 0 = .ok (.iconst 0, 1) := by decide +kernel
theorem dX4_partsOfParties_1 : decode cX4_partsOfParties 1 = .ok (.istore_n 1, 1) := by decide +kernel
theorem dX4_partsOfParties_2 : decode cX4_partsOfParties 2 = .ok (.iconst 0, 1) := by decide +kernel
theorem dX4_partsOfParties_3 : decode cX4_partsOfParties 3 = .ok (.istore_n 2, 1) := by decide +kernel
theorem dX4_partsOfParties_4 : decode cX4_partsOfParties 4 = .ok (.iload_n 2, 1) := by decide +kernel
theorem dX4_partsOfParties_5 : decode cX4_partsOfParties 5 = .ok (.aload_n 0, 1) := by decide +kernel
theorem dX4_partsOfParties_6 : decode cX4_partsOfParties 6 = .ok (.getfield 9, 3) := by decide +kernel
theorem dX4_partsOfParties_9 : decode cX4_partsOfParties 9 = .ok (.arraylength, 1) := by decide +kernel
theorem dX4_partsOfParties_10 : decode cX4_partsOfParties 10 = .ok (.if_icmp .ge 18, 3) := by decide +kernel
theorem dX4_partsOfParties_13 : decode cX4_partsOfParties 13 = .ok (.iload_n 1, 1) := by decide +kernel
theorem dX4_partsOfParties_14 : decode cX4_partsOfParties 14 = .ok (.aload_n 0, 1) := by decide +kernel
theorem dX4_partsOfParties_15 : decode cX4_partsOfParties 15 = .ok (.getfield 9, 3) := by decide +kernel
theorem dX4_partsOfParties_18 : decode cX4_partsOfParties 18 = .ok (.iload_n 2, 1) := by decide +kernel
theorem dX4_partsOfParties_19 : decode cX4_partsOfParties 19 = .ok (.iaload, 1) := by decide +kernel
theorem dX4_partsOfParties_20 : decode cX4_partsOfParties 20 = .ok (.iadd, 1) := by decide +kernel
theorem dX4_partsOfParties_21 : decode cX4_partsOfParties 21 = .ok (.istore_n 1, 1) := by decide +kernel
theorem dX4_partsOfParties_22 : decode cX4_partsOfParties 22 = .ok (.iinc 2 1, 3) := by decide +kernel
theorem dX4_partsOfParties_25 : decode cX4_partsOfParties 25 = .ok (.goto (-21), 3) := by decide +kernel
theorem dX4_partsOfParties_28 : decode cX4_partsOfParties 28 = .ok (.iload_n 1, 1) := by decide +kernel
theorem dX4_partsOfParties_29 : decode cX4_partsOfParties 29 = .ok (.ireturn, 1) := by decide +kernel
theorem dX5_init_0 : decode cX5_init 0 = .ok (.aload_n 0, 1) := by decide +kernel
theorem dX5_init_1 : decode cX5_init 1 = .ok (.invokespecial 3, 3) := by decide +kernel
theorem dX5_init_4 : decode cX5_init 4 = .ok (.aload_n 0, 1) := by decide +kernel
theorem dX5_init_5 : decode cX5_init 5 = .ok (.bipush 8, 2) := by decide +kernel
theorem dX5_init_7 : decode cX5_init 7 = .ok (.newarray .char, 2) := by decide +kernel
theorem dX5_init_9 : decode cX5_init 9 = .ok (.putfield 9, 3) := by decide +kernel
theorem dX5_init_12 : decode cX5_init 12 = .ok (.aload_n 0, 1) := by decide +kernel
theorem dX5_init_13 : decode cX5_init 13 = .ok (.bipush 10, 2) := by decide +kernel
theorem dX5_init_15 : decode cX5_init 15 = .ok (.newarray .int, 2) := by decide +kernel
theorem dX5_init_17 : decode cX5_init 17 = .ok (.putfield 15, 3) := by decide +kernel
theorem dX5_init_20 : decode cX5_init 20 = .ok (.aload_n 0, 1) := by decide +kernel
theorem dX5_init_21 : decode cX5_init 21 = .ok (.iconst (-1), 1) := by decide +kernel
theorem dX5_init_22 : decode cX5_init 22 = .ok (.putfield 19, 3) := by decide +kernel
theorem dX5_init_25 : decode cX5_init 25 = .ok (.aload_n 0, 1) := by decide +kernel
theorem dX5_init_26 : decode cX5_init 26 = .ok (.ldc2_w 23, 3) := by decide +kernel
theorem dX5_init_29 : decode cX5_init 29 = .ok (.putfield 25, 3) := by decide +kernel
theorem dX5_init_32 : decode cX5_init 32 = .ok (.return_, 1) := by decide +kernel
theorem dX5_takeName_0 : decode cX5_takeName 0 = .ok (.aload_n 0, 1) := by decide +kernel
theorem dX5_takeName_1 : decode cX5_takeName 1 = .ok (.iconst 0, 1) := by decide +kernel
theorem dX5_takeName_2 : decode cX5_takeName 2 = .ok (.putfield 29, 3) := by decide +kernel
theorem dX5_takeName_5 : decode cX5_takeName 5 = .ok (.iconst 0, 1) := by decide +kernel
theorem dX5_takeName_6 : decode cX5_takeName 6 = .ok (.istore_n 3, 1) := by decide +kernel
theorem dX5_takeName_7 : decode cX5_takeName 7 = .ok (.iload_n 3, 1) := by decide +kernel
theorem dX5_takeName_8 : decode cX5_takeName 8 = .ok (.iload_n 2, 1) := by decide +kernel
theorem dX5_takeName_9 : decode cX5_takeName 9 = .ok (.if_icmp .ge 56, 3) := by decide +kernel
theorem dX5_takeName_12 : decode cX5_takeName 12 = .ok (.iload_n 3, 1) := by decide +kernel
theorem dX5_takeName_13 : decode cX5_takeName 13 = .ok (.aload_n 1, 1) := by decide +kernel
theorem dX5_takeName_14 : decode cX5_takeName 14 = .ok (.arraylength, 1) := by decide +kernel
theorem dX5_takeName_15 : decode cX5_takeName 15 = .ok (.if_icmp .ge 50, 3) := by decide +kernel
theorem dX5_takeName_18 : decode cX5_takeName 18 = .ok (.aload_n 0, 1) := by decide +kernel
theorem dX5_takeName_19 : decode cX5_takeName 19 = .ok (.aload_n 1, 1) := by decide +kernel
theorem dX5_takeName_20 : decode cX5_takeName 20 = .ok (.iload_n 3, 1) := by decide +kernel
theorem dX5_takeName_21 : decode cX5_takeName 21 = .ok (.caload, 1) := by decide +kernel
theorem dX5_takeName_22 : decode cX5_takeName 22 = .ok (.invokevirtual 32, 3) := by decide +kernel
theorem dX5_takeName_25 : decode cX5_takeName 25 = .ok (.ifCond .eq 34, 3) := by decide +kernel
theorem dX5_takeName_28 : decode cX5_takeName 28 = .ok (.aload_n 0, 1) := by decide +kernel
theorem dX5_takeName_29 : decode cX5_takeName 29 = .ok (.getfield 29, 3) := by decide +kernel
theorem dX5_takeName_32 : decode cX5_takeName 32 = .ok (.bipush 8, 2) := by decide +kernel
theorem dX5_takeName_34 : decode cX5_takeName 34 = .ok (.if_icmp .ge 25, 3) := by decide +kernel
theorem dX5_takeName_37 : decode cX5_takeName 37 = .ok (.aload_n 0, 1) := by decide +kernel
theorem dX5_takeName_38 : decode cX5_takeName 38 = .ok (.getfield 9, 3) := by decide +kernel
theorem dX5_takeName_41 : decode cX5_takeName 41 = .ok (.aload_n 0, 1) := by decide +kernel
theorem dX5_takeName_42 : decode cX5_takeName 42 = .ok (.getfield 29, 3) := by decide +kernel
theorem dX5_takeName_45 : decode cX5_takeName 45 = .ok (.aload_n 1, 1) := by decide +kernel
theorem dX5_takeName_46 : decode cX5_takeName 46 = .ok (.iload_n 3, 1) := by decide +kernel
theorem dX5_takeName_47 : decode cX5_takeName 47 = .ok (.caload, 1) := by decide +kernel
theorem dX5_takeName_48 : decode cX5_takeName 48 = .ok (.castore, 1) := by decide +kernel
theorem dX5_takeName_49 : decode cX5_takeName 49 = .ok (.aload_n 0, 1) := by decide +kernel
theorem dX5_takeName_50 : decode cX5_takeName 50 = .ok (.dup, 1) := by decide +kernel
theorem dX5_takeName_51 : decode cX5_takeName 51 = .ok (.getfield 29, 3) := by decide +kernel
theorem dX5_takeName_54 : decode cX5_takeName 54 = .ok (.iconst 1, 1) := by decide +kernel
theorem dX5_takeName_55 : decode cX5_takeName 55 = .ok (.iadd, 1) := by decide +kernel
theorem dX5_takeName_56 : decode cX5_takeName 56 = .ok (.putfield 29, 3) := by decide +kernel
theorem dX5_takeName_59 : decode cX5_takeName 59 = .ok (.iinc 3 1, 3) := by decide +kernel
theorem dX5_takeName_62 : decode cX5_takeName 62 = .ok (.goto (-55), 3) := by decide +kernel
theorem dX5_takeName_65 : decode cX5_takeName 65 = .ok (.return_, 1) := by decide +kernel
theorem dX5_isHeard_0 : decode cX5_isHeard 0 = .ok (.iload_n 1, 1) := by decide +kernel
theorem dX5_isHeard_1 : decode cX5_isHeard 1 = .ok (.bipush 97, 2) := by decide +kernel
theorem dX5_isHeard_3 : decode cX5_isHeard 3 = .ok (.if_icmp .eq 27, 3) := by decide +kernel
theorem dX5_isHeard_6 : decode cX5_isHeard 6 = .ok (.iload_n 1, 1) := by decide +kernel
theorem dX5_isHeard_7 : decode cX5_isHeard 7 = .ok (.bipush 101, 2) := by decide +kernel
theorem dX5_isHeard_9 : decode cX5_isHeard 9 = .ok (.if_icmp .eq 21, 3) := by decide +kernel
theorem dX5_isHeard_12 : decode cX5_isHeard 12 = .ok (.iload_n 1, 1) := by decide +kernel
theorem dX5_isHeard_13 : decode cX5_isHeard 13 = .ok (.bipush 105, 2) := by decide +kernel
theorem dX5_isHeard_15 : decode cX5_isHeard 15 = .ok (.if_icmp .eq 15, 3) := by decide +kernel
theorem dX5_isHeard_18 : decode cX5_isHeard 18 = .ok (.iload_n 1, 1) := by decide +kernel
theorem dX5_isHeard_19 : decode cX5_isHeard 19 = .ok (.bipush 111, 2) := by decide +kernel
theorem dX5_isHeard_21 : decode cX5_isHeard 21 = .ok (.if_icmp .eq 9, 3) := by decide +kernel
theorem dX5_isHeard_24 : decode cX5_isHeard 24 = .ok (.iload_n 1, 1) := by decide +kernel
theorem dX5_isHeard_25 : decode cX5_isHeard 25 = .ok (.bipush 117, 2) := by decide +kernel
theorem dX5_isHeard_27 : decode cX5_isHeard 27 = .ok (.if_icmp .ne 5, 3) := by decide +kernel
theorem dX5_isHeard_30 : decode cX5_isHeard 30 = .ok (.iconst 0, 1) := by decide +kernel
theorem dX5_isHeard_31 : decode cX5_isHeard 31 = .ok (.ireturn, 1) := by decide +kernel
theorem dX5_isHeard_32 : decode cX5_isHeard 32 = .ok (.aload_n 0, 1) := by decide +kernel
theorem dX5_isHeard_33 : decode cX5_isHeard 33 = .ok (.getfield 29, 3) := by decide +kernel
theorem dX5_isHeard_36 : decode cX5_isHeard 36 = .ok (.ifCond .eq 18, 3) := by decide +kernel
theorem dX5_isHeard_39 : decode cX5_isHeard 39 = .ok (.aload_n 0, 1) := by decide +kernel
theorem dX5_isHeard_40 : decode cX5_isHeard 40 = .ok (.getfield 9, 3) := by decide +kernel
theorem dX5_isHeard_43 : decode cX5_isHeard 43 = .ok (.aload_n 0, 1) := by decide +kernel
theorem dX5_isHeard_44 : decode cX5_isHeard 44 = .ok (.getfield 29, 3) := by decide +kernel
theorem dX5_isHeard_47 : decode cX5_isHeard 47 = .ok (.iconst 1, 1) := by decide +kernel
theorem dX5_isHeard_48 : decode cX5_isHeard 48 = .ok (.isub, 1) := by decide +kernel
theorem dX5_isHeard_49 : decode cX5_isHeard 49 = .ok (.caload, 1) := by decide +kernel
theorem dX5_isHeard_50 : decode cX5_isHeard 50 = .ok (.iload_n 1, 1) := by decide +kernel
theorem dX5_isHeard_51 : decode cX5_isHeard 51 = .ok (.if_icmp .eq 7, 3) := by decide +kernel
theorem dX5_isHeard_54 : decode cX5_isHeard 54 = .ok (.iconst 1, 1) := by decide +kernel
theorem dX5_isHeard_55 : decode cX5_isHeard 55 = .ok (.goto 4, 3) := by decide +kernel
theorem dX5_isHeard_58 : decode cX5_isHeard 58 = .ok (.iconst 0, 1) := by decide +kernel
theorem dX5_isHeard_59 : decode cX5_isHeard 59 = .ok (.ireturn, 1) := by decide +kernel
theorem dX5_soundsLike_0 : decode cX5_soundsLike 0 = .ok (.aload_n 0, 1) := by decide +kernel
theorem dX5_soundsLike_1 : decode cX5_soundsLike 1 = .ok (.getfield 29, 3) := by decide +kernel
theorem dX5_soundsLike_4 : decode cX5_soundsLike 4 = .ok (.aload_n 1, 1) := by decide +kernel
theorem dX5_soundsLike_5 : decode cX5_soundsLike 5 = .ok (.getfield 29, 3) := by decide +kernel
theorem dX5_soundsLike_8 : decode cX5_soundsLike 8 = .ok (.if_icmp .eq 5, 3) := by decide +kernel
theorem dX5_soundsLike_11 : decode cX5_soundsLike 11 = .ok (.iconst 0, 1) := by decide +kernel
theorem dX5_soundsLike_12 : decode cX5_soundsLike 12 = .ok (.ireturn, 1) := by decide +kernel
theorem dX5_soundsLike_13 : decode cX5_soundsLike 13 = .ok (.iconst 0, 1) := by decide +kernel
theorem dX5_soundsLike_14 : decode cX5_soundsLike 14 = .ok (.istore_n 2, 1) := by decide +kernel
theorem dX5_soundsLike_15 : decode cX5_soundsLike 15 = .ok (.iload_n 2, 1) := by decide +kernel
theorem dX5_soundsLike_16 : decode cX5_soundsLike 16 = .ok (.aload_n 0, 1) := by decide +kernel
theorem dX5_soundsLike_17 : decode cX5_soundsLike 17 = .ok (.getfield 29, 3) := by decide +kernel
theorem dX5_soundsLike_20 : decode cX5_soundsLike 20 = .ok (.if_icmp .ge 26, 3) := by decide +kernel
theorem dX5_soundsLike_23 : decode cX5_soundsLike 23 = .ok (.aload_n 0, 1) := by decide +kernel
theorem dX5_soundsLike_24 : decode cX5_soundsLike 24 = .ok (.getfield 9, 3) := by decide +kernel
theorem dX5_soundsLike_27 : decode cX5_soundsLike 27 = .ok (.iload_n 2, 1) := by decide +kernel
theorem dX5_soundsLike_28 : decode cX5_soundsLike 28 = .ok (.caload, 1) := by decide +kernel
theorem dX5_soundsLike_29 : decode cX5_soundsLike 29 = .ok (.aload_n 1, 1) := by decide +kernel
theorem dX5_soundsLike_30 : decode cX5_soundsLike 30 = .ok (.getfield 9, 3) := by decide +kernel
theorem dX5_soundsLike_33 : decode cX5_soundsLike 33 = .ok (.iload_n 2, 1) := by decide +kernel
theorem dX5_soundsLike_34 : decode cX5_soundsLike 34 = .ok (.caload, 1) := by decide +kernel
theorem dX5_soundsLike_35 : decode cX5_soundsLike 35 = .ok (.if_icmp .eq 5, 3) := by decide +kernel
theorem dX5_soundsLike_38 : decode cX5_soundsLike 38 = .ok (.iconst 0, 1) := by decide +kernel
theorem dX5_soundsLike_39 : decode cX5_soundsLike 39 = .ok (.ireturn, 1) := by decide +kernel
theorem dX5_soundsLike_40 : decode cX5_soundsLike 40 = .ok (.iinc 2 1, 3) := by decide +kernel
theorem dX5_soundsLike_43 : decode cX5_soundsLike 43 = .ok (.goto (-28), 3) := by decide +kernel
theorem dX5_soundsLike_46 : decode cX5_soundsLike 46 = .ok (.iconst 1, 1) := by decide +kernel
theorem dX5_soundsLike_47 : decode cX5_soundsLike 47 = .ok (.ireturn, 1) := by decide +kernel
theorem dX5_handTo_0 : decode cX5_handTo 0 = .ok (.aload_n 0, 1) := by decide +kernel
theorem dX5_handTo_1 : decode cX5_handTo 1 = .ok (.getfield 15, 3) := by decide +kernel
theorem dX5_handTo_4 : decode cX5_handTo 4 = .ok (.iconst 0, 1) := by decide +kernel
theorem dX5_handTo_5 : decode cX5_handTo 5 = .ok (.invokestatic 36, 3) := by decide +kernel
theorem dX5_handTo_8 : decode cX5_handTo 8 = .ok (.iload_n 1, 1) := by decide +kernel
theorem dX5_handTo_9 : decode cX5_handTo 9 = .ok (.ifCond .lt 17, 3) := by decide +kernel
theorem dX5_handTo_12 : decode cX5_handTo 12 = .ok (.iload_n 1, 1) := by decide +kernel
theorem dX5_handTo_13 : decode cX5_handTo 13 = .ok (.bipush 10, 2) := by decide +kernel
theorem dX5_handTo_15 : decode cX5_handTo 15 = .ok (.if_icmp .ge 11, 3) := by decide +kernel
theorem dX5_handTo_18 : decode cX5_handTo 18 = .ok (.aload_n 0, 1) := by decide +kernel
theorem dX5_handTo_19 : decode cX5_handTo 19 = .ok (.getfield 15, 3) := by decide +kernel
theorem dX5_handTo_22 : decode cX5_handTo 22 = .ok (.iload_n 1, 1) := by decide +kernel
theorem dX5_handTo_23 : decode cX5_handTo 23 = .ok (.bipush 64, 2) := by decide +kernel
theorem dX5_handTo_25 : decode cX5_handTo 25 = .ok (.iastore, 1) := by decide +kernel
theorem dX5_handTo_26 : decode cX5_handTo 26 = .ok (.aload_n 0, 1) := by decide +kernel
theorem dX5_handTo_27 : decode cX5_handTo 27 = .ok (.iconst (-1), 1) := by decide +kernel
theorem dX5_handTo_28 : decode cX5_handTo 28 = .ok (.putfield 19, 3) := by decide +kernel
theorem dX5_handTo_31 : decode cX5_handTo 31 = .ok (.aload_n 0, 1) := by decide +kernel
theorem dX5_handTo_32 : decode cX5_handTo 32 = .ok (.ldc2_w 23, 3) := by decide +kernel
theorem dX5_handTo_35 : decode cX5_handTo 35 = .ok (.putfield 25, 3) := by decide +kernel
theorem dX5_handTo_38 : decode cX5_handTo 38 = .ok (.return_, 1) := by decide +kernel
theorem dX5_flagAt_0 : decode cX5_flagAt 0 = .ok (.aload_n 0, 1) := by decide +kernel
theorem dX5_flagAt_1 : decode cX5_flagAt 1 = .ok (.getfield 25, 3) := by decide +kernel
theorem dX5_flagAt_4 : decode cX5_flagAt 4 = .ok (.ldc2_w 23, 3) := by decide +kernel
theorem dX5_flagAt_7 : decode cX5_flagAt 7 = .ok (.lcmp, 1) := by decide +kernel
theorem dX5_flagAt_8 : decode cX5_flagAt 8 = .ok (.ifCond .eq 20, 3) := by decide +kernel
theorem dX5_flagAt_11 : decode cX5_flagAt 11 = .ok (.lload_n 1, 1) := by decide +kernel
theorem dX5_flagAt_12 : decode cX5_flagAt 12 = .ok (.aload_n 0, 1) := by decide +kernel
theorem dX5_flagAt_13 : decode cX5_flagAt 13 = .ok (.getfield 25, 3) := by decide +kernel
theorem dX5_flagAt_16 : decode cX5_flagAt 16 = .ok (.lsub, 1) := by decide +kernel
theorem dX5_flagAt_17 : decode cX5_flagAt 17 = .ok (.ldc2_w 42, 3) := by decide +kernel
theorem dX5_flagAt_20 : decode cX5_flagAt 20 = .ok (.lcmp, 1) := by decide +kernel
theorem dX5_flagAt_21 : decode cX5_flagAt 21 = .ok (.ifCond .lt 7, 3) := by decide +kernel
theorem dX5_flagAt_24 : decode cX5_flagAt 24 = .ok (.iconst 1, 1) := by decide +kernel
theorem dX5_flagAt_25 : decode cX5_flagAt 25 = .ok (.goto 4, 3) := by decide +kernel
theorem dX5_flagAt_28 : decode cX5_flagAt 28 = .ok (.iconst 0, 1) := by decide +kernel
theorem dX5_flagAt_29 : decode cX5_flagAt 29 = .ok (.istore_n 3, 1) := by decide +kernel
theorem dX5_flagAt_30 : decode cX5_flagAt 30 = .ok (.iload_n 3, 1) := by decide +kernel
theorem dX5_flagAt_31 : decode cX5_flagAt 31 = .ok (.ifCond .eq 7, 3) := by decide +kernel
theorem dX5_flagAt_34 : decode cX5_flagAt 34 = .ok (.iconst (-1), 1) := by decide +kernel
theorem dX5_flagAt_35 : decode cX5_flagAt 35 = .ok (.goto 7, 3) := by decide +kernel
theorem dX5_flagAt_38 : decode cX5_flagAt 38 = .ok (.aload_n 0, 1) := by decide +kernel
theorem dX5_flagAt_39 : decode cX5_flagAt 39 = .ok (.getfield 19, 3) := by decide +kernel
theorem dX5_flagAt_42 : decode cX5_flagAt 42 = .ok (.ireturn, 1) := by decide +kernel
theorem dX6_init_0 : decode cX6_init 0 = .ok (.aload_n 0, 1) := by decide +kernel
theorem dX6_init_1 : decode cX6_init 1 = .ok (.invokespecial 3, 3) := by decide +kernel
theorem dX6_init_4 : decode cX6_init 4 = .ok (.aload_n 0, 1) := by decide +kernel
theorem dX6_init_5 : decode cX6_init 5 = .ok (.bipush 10, 2) := by decide +kernel
theorem dX6_init_7 : decode cX6_init 7 = .ok (.anewarray 9, 3) := by decide +kernel
theorem dX6_init_10 : decode cX6_init 10 = .ok (.putfield 11, 3) := by decide +kernel
theorem dX6_init_13 : decode cX6_init 13 = .ok (.aload_n 0, 1) := by decide +kernel
theorem dX6_init_14 : decode cX6_init 14 = .ok (.bipush 6, 2) := by decide +kernel
theorem dX6_init_16 : decode cX6_init 16 = .ok (.anewarray 15, 3) := by decide +kernel
theorem dX6_init_19 : decode cX6_init 19 = .ok (.putfield 17, 3) := by decide +kernel
theorem dX6_init_22 : decode cX6_init 22 = .ok (.aload_n 0, 1) := by decide +kernel
theorem dX6_init_23 : decode cX6_init 23 = .ok (.new 21, 3) := by decide +kernel
theorem dX6_init_26 : decode cX6_init 26 = .ok (.dup, 1) := by decide +kernel
theorem dX6_init_27 : decode cX6_init 27 = .ok (.invokespecial 23, 3) := by decide +kernel
theorem dX6_init_30 : decode cX6_init 30 = .ok (.putfield 24, 3) := by decide +kernel
theorem dX6_init_33 : decode cX6_init 33 = .ok (.aload_n 0, 1) := by decide +kernel
theorem dX6_init_34 : decode cX6_init 34 = .ok (.bipush 8, 2) := by decide +kernel
theorem dX6_init_36 : decode cX6_init 36 = .ok (.newarray .char, 2) := by decide +kernel
theorem dX6_init_38 : decode cX6_init 38 = .ok (.putfield 28, 3) := by decide +kernel
theorem dX6_init_41 : decode cX6_init 41 = .ok (.aload_n 0, 1) := by decide +kernel
theorem dX6_init_42 : decode cX6_init 42 = .ok (.iconst 4, 1) := by decide +kernel
theorem dX6_init_43 : decode cX6_init 43 = .ok (.newarray .int, 2) := by decide +kernel
theorem dX6_init_45 : decode cX6_init 45 = .ok (.putfield 32, 3) := by decide +kernel
theorem dX6_init_48 : decode cX6_init 48 = .ok (.iconst 0, 1) := by decide +kernel
theorem dX6_init_49 : decode cX6_init 49 = .ok (.istore_n 1, 1) := by decide +kernel
theorem dX6_init_50 : decode cX6_init 50 = .ok (.iload_n 1, 1) := by decide +kernel
theorem dX6_init_51 : decode cX6_init 51 = .ok (.bipush 10, 2) := by decide +kernel
theorem dX6_init_53 : decode cX6_init 53 = .ok (.if_icmp .ge 22, 3) := by decide +kernel
theorem dX6_init_56 : decode cX6_init 56 = .ok (.aload_n 0, 1) := by decide +kernel
theorem dX6_init_57 : decode cX6_init 57 = .ok (.getfield 11, 3) := by decide +kernel
theorem dX6_init_60 : decode cX6_init 60 = .ok (.iload_n 1, 1) := by decide +kernel
theorem dX6_init_61 : decode cX6_init 61 = .ok (.new 9, 3) := by decide +kernel
theorem dX6_init_64 : decode cX6_init 64 = .ok (.dup, 1) := by decide +kernel
theorem dX6_init_65 : decode cX6_init 65 = .ok (.invokespecial 36, 3) := by decide +kernel
theorem dX6_init_68 : decode cX6_init 68 = .ok (.aastore, 1) := by decide +kernel
theorem dX6_init_69 : decode cX6_init 69 = .ok (.iinc 1 1, 3) := by decide +kernel
theorem dX6_init_72 : decode cX6_init 72 = .ok (.goto (-22), 3) := by decide +kernel
theorem dX6_init_75 : decode cX6_init 75 = .ok (.iconst 0, 1) := by decide +kernel
theorem dX6_init_76 : decode cX6_init 76 = .ok (.istore_n 1, 1) := by decide +kernel
theorem dX6_init_77 : decode cX6_init 77 = .ok (.iload_n 1, 1) := by decide +kernel
theorem dX6_init_78 : decode cX6_init 78 = .ok (.bipush 6, 2) := by decide +kernel
theorem dX6_init_80 : decode cX6_init 80 = .ok (.if_icmp .ge 22, 3) := by decide +kernel
theorem dX6_init_83 : decode cX6_init 83 = .ok (.aload_n 0, 1) := by decide +kernel
theorem dX6_init_84 : decode cX6_init 84 = .ok (.getfield 17, 3) := by decide +kernel
theorem dX6_init_87 : decode cX6_init 87 = .ok (.iload_n 1, 1) := by decide +kernel
theorem dX6_init_88 : decode cX6_init 88 = .ok (.new 15, 3) := by decide +kernel
theorem dX6_init_91 : decode cX6_init 91 = .ok (.dup, 1) := by decide +kernel
theorem dX6_init_92 : decode cX6_init 92 = .ok (.invokespecial 37, 3) := by decide +kernel
theorem dX6_init_95 : decode cX6_init 95 = .ok (.aastore, 1) := by decide +kernel
theorem dX6_init_96 : decode cX6_init 96 = .ok (.iinc 1 1, 3) := by decide +kernel
theorem dX6_init_99 : decode cX6_init 99 = .ok (.goto (-22), 3) := by decide +kernel
theorem dX6_init_102 : decode cX6_init 102 = .ok (.return_, 1) := by decide +kernel
theorem dX6_letter_0 : decode cX6_letter 0 = .ok (.iload_n 1, 1) := by decide +kernel
theorem dX6_letter_1 : decode cX6_letter 1 = .ok (.bipush 97, 2) := by decide +kernel
theorem dX6_letter_3 : decode cX6_letter 3 = .ok (.if_icmp .lt 9, 3) := by decide +kernel
theorem dX6_letter_6 : decode cX6_letter 6 = .ok (.iload_n 1, 1) := by decide +kernel
theorem dX6_letter_7 : decode cX6_letter 7 = .ok (.bipush 122, 2) := by decide +kernel
theorem dX6_letter_9 : decode cX6_letter 9 = .ok (.if_icmp .le 13, 3) := by decide +kernel
theorem dX6_letter_12 : decode cX6_letter 12 = .ok (.new 38, 3) := by decide +kernel
theorem dX6_letter_15 : decode cX6_letter 15 = .ok (.dup, 1) := by decide +kernel
theorem dX6_letter_16 : decode cX6_letter 16 = .ok (.ldc 40, 2) := by decide +kernel
theorem dX6_letter_18 : decode cX6_letter 18 = .ok (.invokespecial 42, 3) := by decide +kernel
theorem dX6_letter_21 : decode cX6_letter 21 = .ok (.athrow, 1) := by decide +kernel
theorem dX6_letter_22 : decode cX6_letter 22 = .ok (.aload_n 0, 1) := by decide +kernel
theorem dX6_letter_23 : decode cX6_letter 23 = .ok (.getfield 45, 3) := by decide +kernel
theorem dX6_letter_26 : decode cX6_letter 26 = .ok (.bipush 8, 2) := by decide +kernel
theorem dX6_letter_28 : decode cX6_letter 28 = .ok (.if_icmp .lt 13, 3) := by decide +kernel
theorem dX6_letter_31 : decode cX6_letter 31 = .ok (.new 49, 3) := by decide +kernel
theorem dX6_letter_34 : decode cX6_letter 34 = .ok (.dup, 1) := by decide +kernel
theorem dX6_letter_35 : decode cX6_letter 35 = .ok (.ldc 51, 2) := by decide +kernel
theorem dX6_letter_37 : decode cX6_letter 37 = .ok (.invokespecial 53, 3) := by decide +kernel
theorem dX6_letter_40 : decode cX6_letter 40 = .ok (.athrow, 1) := by decide +kernel
theorem dX6_letter_41 : decode cX6_letter 41 = .ok (.aload_n 0, 1) := by decide +kernel
theorem dX6_letter_42 : decode cX6_letter 42 = .ok (.getfield 28, 3) := by decide +kernel
theorem dX6_letter_45 : decode cX6_letter 45 = .ok (.aload_n 0, 1) := by decide +kernel
theorem dX6_letter_46 : decode cX6_letter 46 = .ok (.getfield 45, 3) := by decide +kernel
theorem dX6_letter_49 : decode cX6_letter 49 = .ok (.iload_n 1, 1) := by decide +kernel
theorem dX6_letter_50 : decode cX6_letter 50 = .ok (.castore, 1) := by decide +kernel
theorem dX6_letter_51 : decode cX6_letter 51 = .ok (.aload_n 0, 1) := by decide +kernel
theorem dX6_letter_52 : decode cX6_letter 52 = .ok (.dup, 1) := by decide +kernel
theorem dX6_letter_53 : decode cX6_letter 53 = .ok (.getfield 45, 3) := by decide +kernel
theorem dX6_letter_56 : decode cX6_letter 56 = .ok (.iconst 1, 1) := by decide +kernel
theorem dX6_letter_57 : decode cX6_letter 57 = .ok (.iadd, 1) := by decide +kernel
theorem dX6_letter_58 : decode cX6_letter 58 = .ok (.putfield 45, 3) := by decide +kernel
theorem dX6_letter_61 : decode cX6_letter 61 = .ok (.aload_n 0, 1) := by decide +kernel
theorem dX6_letter_62 : decode cX6_letter 62 = .ok (.getfield 45, 3) := by decide +kernel
theorem dX6_letter_65 : decode cX6_letter 65 = .ok (.ireturn, 1) := by decide +kernel
theorem dX6_person_0 : decode cX6_person 0 = .ok (.aload_n 0, 1) := by decide +kernel
theorem dX6_person_1 : decode cX6_person 1 = .ok (.iload_n 1, 1) := by decide +kernel
theorem dX6_person_2 : decode cX6_person 2 = .ok (.invokevirtual 54, 3) := by decide +kernel
theorem dX6_person_5 : decode cX6_person 5 = .ok (.aload_n 0, 1) := by decide +kernel
theorem dX6_person_6 : decode cX6_person 6 = .ok (.iconst 0, 1) := by decide +kernel
theorem dX6_person_7 : decode cX6_person 7 = .ok (.iload_n 1, 1) := by decide +kernel
theorem dX6_person_8 : decode cX6_person 8 = .ok (.invokevirtual 58, 3) := by decide +kernel
theorem dX6_person_11 : decode cX6_person 11 = .ok (.ireturn, 1) := by decide +kernel
theorem dX6_company_0 : decode cX6_company 0 = .ok (.aload_n 0, 1) := by decide +kernel
theorem dX6_company_1 : decode cX6_company 1 = .ok (.iconst 1, 1) := by decide +kernel
theorem dX6_company_2 : decode cX6_company 2 = .ok (.iconst (-1), 1) := by decide +kernel
theorem dX6_company_3 : decode cX6_company 3 = .ok (.invokevirtual 58, 3) := by decide +kernel
theorem dX6_company_6 : decode cX6_company 6 = .ok (.ireturn, 1) := by decide +kernel
theorem dX6_part_0 : decode cX6_part 0 = .ok (.aload_n 0, 1) := by decide +kernel
theorem dX6_part_1 : decode cX6_part 1 = .ok (.iload_n 1, 1) := by decide +kernel
theorem dX6_part_2 : decode cX6_part 2 = .ok (.invokevirtual 62, 3) := by decide +kernel
theorem dX6_part_5 : decode cX6_part 5 = .ok (.aload_n 0, 1) := by decide +kernel
theorem dX6_part_6 : decode cX6_part 6 = .ok (.iload_n 2, 1) := by decide +kernel
theorem dX6_part_7 : decode cX6_part 7 = .ok (.invokevirtual 62, 3) := by decide +kernel
theorem dX6_part_10 : decode cX6_part 10 = .ok (.aload_n 0, 1) := by decide +kernel
theorem dX6_part_11 : decode cX6_part 11 = .ok (.iload_n 3, 1) := by decide +kernel
theorem dX6_part_12 : decode cX6_part 12 = .ok (.iconst 0, 1) := by decide +kernel
theorem dX6_part_13 : decode cX6_part 13 = .ok (.bipush 64, 2) := by decide +kernel
theorem dX6_part_15 : decode cX6_part 15 = .ok (.invokevirtual 65, 3) := by decide +kernel
theorem dX6_part_18 : decode cX6_part 18 = .ok (.aload_n 0, 1) := by decide +kernel
theorem dX6_part_19 : decode cX6_part 19 = .ok (.getfield 11, 3) := by decide +kernel
theorem dX6_part_22 : decode cX6_part 22 = .ok (.iload_n 1, 1) := by decide +kernel
theorem dX6_part_23 : decode cX6_part 23 = .ok (.aaload, 1) := by decide +kernel
theorem dX6_part_24 : decode cX6_part 24 = .ok (.astore 4, 2) := by decide +kernel
theorem dX6_part_26 : decode cX6_part 26 = .ok (.aload 4, 2) := by decide +kernel
theorem dX6_part_28 : decode cX6_part 28 = .ok (.getfield 69, 3) := by decide +kernel
theorem dX6_part_31 : decode cX6_part 31 = .ok (.iload_n 2, 1) := by decide +kernel
theorem dX6_part_32 : decode cX6_part 32 = .ok (.iaload, 1) := by decide +kernel
theorem dX6_part_33 : decode cX6_part 33 = .ok (.istore 5, 2) := by decide +kernel
theorem dX6_part_35 : decode cX6_part 35 = .ok (.aload 4, 2) := by decide +kernel
theorem dX6_part_37 : decode cX6_part 37 = .ok (.getfield 72, 3) := by decide +kernel
theorem dX6_part_40 : decode cX6_part 40 = .ok (.ifCond .eq 18, 3) := by decide +kernel
theorem dX6_part_43 : decode cX6_part 43 = .ok (.aload 4, 2) := by decide +kernel
theorem dX6_part_45 : decode cX6_part 45 = .ok (.invokevirtual 76, 3) := by decide +kernel
theorem dX6_part_48 : decode cX6_part 48 = .ok (.iload 5, 2) := by decide +kernel
theorem dX6_part_50 : decode cX6_part 50 = .ok (.isub, 1) := by decide +kernel
theorem dX6_part_51 : decode cX6_part 51 = .ok (.iload_n 3, 1) := by decide +kernel
theorem dX6_part_52 : decode cX6_part 52 = .ok (.iadd, 1) := by decide +kernel
theorem dX6_part_53 : decode cX6_part 53 = .ok (.bipush 64, 2) := by decide +kernel
theorem dX6_part_55 : decode cX6_part 55 = .ok (.if_icmp .le 13, 3) := by decide +kernel
theorem dX6_part_58 : decode cX6_part 58 = .ok (.new 49, 3) := by decide +kernel
theorem dX6_part_61 : decode cX6_part 61 = .ok (.dup, 1) := by decide +kernel
theorem dX6_part_62 : decode cX6_part 62 = .ok (.ldc 80, 2) := by decide +kernel
theorem dX6_part_64 : decode cX6_part 64 = .ok (.invokespecial 53, 3) := by decide +kernel
theorem dX6_part_67 : decode cX6_part 67 = .ok (.athrow, 1) := by decide +kernel
theorem dX6_part_68 : decode cX6_part 68 = .ok (.aload 4, 2) := by decide +kernel
theorem dX6_part_70 : decode cX6_part 70 = .ok (.getfield 69, 3) := by decide +kernel
theorem dX6_part_73 : decode cX6_part 73 = .ok (.iload_n 2, 1) := by decide +kernel
theorem dX6_part_74 : decode cX6_part 74 = .ok (.iload_n 3, 1) := by decide +kernel
theorem dX6_part_75 : decode cX6_part 75 = .ok (.iastore, 1) := by decide +kernel
theorem dX6_part_76 : decode cX6_part 76 = .ok (.aload_n 0, 1) := by decide +kernel
theorem dX6_part_77 : decode cX6_part 77 = .ok (.invokevirtual 82, 3) := by decide +kernel
theorem dX6_part_80 : decode cX6_part 80 = .ok (.iconst 0, 1) := by decide +kernel
theorem dX6_part_81 : decode cX6_part 81 = .ok (.istore 6, 2) := by decide +kernel
theorem dX6_part_83 : decode cX6_part 83 = .ok (.iload 6, 2) := by decide +kernel
theorem dX6_part_85 : decode cX6_part 85 = .ok (.aload_n 0, 1) := by decide +kernel
theorem dX6_part_86 : decode cX6_part 86 = .ok (.getfield 85, 3) := by decide +kernel
theorem dX6_part_89 : decode cX6_part 89 = .ok (.if_icmp .ge 20, 3) := by decide +kernel
theorem dX6_part_92 : decode cX6_part 92 = .ok (.aload_n 0, 1) := by decide +kernel
theorem dX6_part_93 : decode cX6_part 93 = .ok (.aload_n 0, 1) := by decide +kernel
theorem dX6_part_94 : decode cX6_part 94 = .ok (.getfield 17, 3) := by decide +kernel
theorem dX6_part_97 : decode cX6_part 97 = .ok (.iload 6, 2) := by decide +kernel
theorem dX6_part_99 : decode cX6_part 99 = .ok (.aaload, 1) := by decide +kernel
theorem dX6_part_100 : decode cX6_part 100 = .ok (.invokevirtual 88, 3) := by decide +kernel
theorem dX6_part_103 : decode cX6_part 103 = .ok (.iinc 6 1, 3) := by decide +kernel
theorem dX6_part_106 : decode cX6_part 106 = .ok (.goto (-23), 3) := by decide +kernel
theorem dX6_part_109 : decode cX6_part 109 = .ok (.iload 5, 2) := by decide +kernel
theorem dX6_part_111 : decode cX6_part 111 = .ok (.ireturn, 1) := by decide +kernel
theorem dX6_land_0 : decode cX6_land 0 = .ok (.aload_n 0, 1) := by decide +kernel
theorem dX6_land_1 : decode cX6_land 1 = .ok (.iload_n 1, 1) := by decide +kernel
theorem dX6_land_2 : decode cX6_land 2 = .ok (.invokevirtual 62, 3) := by decide +kernel
theorem dX6_land_5 : decode cX6_land 5 = .ok (.aload_n 0, 1) := by decide +kernel
theorem dX6_land_6 : decode cX6_land 6 = .ok (.getfield 11, 3) := by decide +kernel
theorem dX6_land_9 : decode cX6_land 9 = .ok (.iload_n 1, 1) := by decide +kernel
theorem dX6_land_10 : decode cX6_land 10 = .ok (.aaload, 1) := by decide +kernel
theorem dX6_land_11 : decode cX6_land 11 = .ok (.getfield 92, 3) := by decide +kernel
theorem dX6_land_14 : decode cX6_land 14 = .ok (.ireturn, 1) := by decide +kernel
theorem dX6_ship_0 : decode cX6_ship 0 = .ok (.aload_n 0, 1) := by decide +kernel
theorem dX6_ship_1 : decode cX6_ship 1 = .ok (.iload_n 1, 1) := by decide +kernel
theorem dX6_ship_2 : decode cX6_ship 2 = .ok (.invokevirtual 62, 3) := by decide +kernel
theorem dX6_ship_5 : decode cX6_ship 5 = .ok (.aload_n 0, 1) := by decide +kernel
theorem dX6_ship_6 : decode cX6_ship 6 = .ok (.getfield 45, 3) := by decide +kernel
theorem dX6_ship_9 : decode cX6_ship 9 = .ok (.ifCond .eq 12, 3) := by decide +kernel
theorem dX6_ship_12 : decode cX6_ship 12 = .ok (.aload_n 0, 1) := by decide +kernel
theorem dX6_ship_13 : decode cX6_ship 13 = .ok (.getfield 85, 3) := by decide +kernel
theorem dX6_ship_16 : decode cX6_ship 16 = .ok (.bipush 6, 2) := by decide +kernel
theorem dX6_ship_18 : decode cX6_ship 18 = .ok (.if_icmp .lt 13, 3) := by decide +kernel
theorem dX6_ship_21 : decode cX6_ship 21 = .ok (.new 49, 3) := by decide +kernel
theorem dX6_ship_24 : decode cX6_ship 24 = .ok (.dup, 1) := by decide +kernel
theorem dX6_ship_25 : decode cX6_ship 25 = .ok (.ldc 95, 2) := by decide +kernel
theorem dX6_ship_27 : decode cX6_ship 27 = .ok (.invokespecial 53, 3) := by decide +kernel
theorem dX6_ship_30 : decode cX6_ship 30 = .ok (.athrow, 1) := by decide +kernel
theorem dX6_ship_31 : decode cX6_ship 31 = .ok (.aload_n 0, 1) := by decide +kernel
theorem dX6_ship_32 : decode cX6_ship 32 = .ok (.getfield 17, 3) := by decide +kernel
theorem dX6_ship_35 : decode cX6_ship 35 = .ok (.aload_n 0, 1) := by decide +kernel
theorem dX6_ship_36 : decode cX6_ship 36 = .ok (.getfield 85, 3) := by decide +kernel
theorem dX6_ship_39 : decode cX6_ship 39 = .ok (.aaload, 1) := by decide +kernel
theorem dX6_ship_40 : decode cX6_ship 40 = .ok (.astore_n 2, 1) := by decide +kernel
theorem dX6_ship_41 : decode cX6_ship 41 = .ok (.aload_n 2, 1) := by decide +kernel
theorem dX6_ship_42 : decode cX6_ship 42 = .ok (.aload_n 0, 1) := by decide +kernel
theorem dX6_ship_43 : decode cX6_ship 43 = .ok (.getfield 28, 3) := by decide +kernel
theorem dX6_ship_46 : decode cX6_ship 46 = .ok (.aload_n 0, 1) := by decide +kernel
theorem dX6_ship_47 : decode cX6_ship 47 = .ok (.getfield 45, 3) := by decide +kernel
theorem dX6_ship_50 : decode cX6_ship 50 = .ok (.invokevirtual 97, 3) := by decide +kernel
theorem dX6_ship_53 : decode cX6_ship 53 = .ok (.aload_n 0, 1) := by decide +kernel
theorem dX6_ship_54 : decode cX6_ship 54 = .ok (.iconst 0, 1) := by decide +kernel
theorem dX6_ship_55 : decode cX6_ship 55 = .ok (.putfield 45, 3) := by decide +kernel
theorem dX6_ship_58 : decode cX6_ship 58 = .ok (.iconst 0, 1) := by decide +kernel
theorem dX6_ship_59 : decode cX6_ship 59 = .ok (.istore_n 3, 1) := by decide +kernel
theorem dX6_ship_60 : decode cX6_ship 60 = .ok (.iload_n 3, 1) := by decide +kernel
theorem dX6_ship_61 : decode cX6_ship 61 = .ok (.aload_n 0, 1) := by decide +kernel
theorem dX6_ship_62 : decode cX6_ship 62 = .ok (.getfield 85, 3) := by decide +kernel
theorem dX6_ship_65 : decode cX6_ship 65 = .ok (.if_icmp .ge 24, 3) := by decide +kernel
theorem dX6_ship_68 : decode cX6_ship 68 = .ok (.aload_n 0, 1) := by decide +kernel
theorem dX6_ship_69 : decode cX6_ship 69 = .ok (.getfield 17, 3) := by decide +kernel
theorem dX6_ship_72 : decode cX6_ship 72 = .ok (.iload_n 3, 1) := by decide +kernel
theorem dX6_ship_73 : decode cX6_ship 73 = .ok (.aaload, 1) := by decide +kernel
theorem dX6_ship_74 : decode cX6_ship 74 = .ok (.aload_n 2, 1) := by decide +kernel
theorem dX6_ship_75 : decode cX6_ship 75 = .ok (.invokevirtual 101, 3) := by decide +kernel
theorem dX6_ship_78 : decode cX6_ship 78 = .ok (.ifCond .eq 5, 3) := by decide +kernel
theorem dX6_ship_81 : decode cX6_ship 81 = .ok (.iconst (-1), 1) := by decide +kernel
theorem dX6_ship_82 : decode cX6_ship 82 = .ok (.ireturn, 1) := by decide +kernel
theorem dX6_ship_83 : decode cX6_ship 83 = .ok (.iinc 3 1, 3) := by decide +kernel
theorem dX6_ship_86 : decode cX6_ship 86 = .ok (.goto (-26), 3) := by decide +kernel
theorem dX6_ship_89 : decode cX6_ship 89 = .ok (.aload_n 2, 1) := by decide +kernel
theorem dX6_ship_90 : decode cX6_ship 90 = .ok (.iload_n 1, 1) := by decide +kernel
theorem dX6_ship_91 : decode cX6_ship 91 = .ok (.invokevirtual 105, 3) := by decide +kernel
theorem dX6_ship_94 : decode cX6_ship 94 = .ok (.aload_n 0, 1) := by decide +kernel
theorem dX6_ship_95 : decode cX6_ship 95 = .ok (.dup, 1) := by decide +kernel
theorem dX6_ship_96 : decode cX6_ship 96 = .ok (.getfield 85, 3) := by decide +kernel
theorem dX6_ship_99 : decode cX6_ship 99 = .ok (.iconst 1, 1) := by decide +kernel
theorem dX6_ship_100 : decode cX6_ship 100 = .ok (.iadd, 1) := by decide +kernel
theorem dX6_ship_101 : decode cX6_ship 101 = .ok (.putfield 85, 3) := by decide +kernel
theorem dX6_ship_104 : decode cX6_ship 104 = .ok (.aload_n 0, 1) := by decide +kernel
theorem dX6_ship_105 : decode cX6_ship 105 = .ok (.getfield 85, 3) := by decide +kernel
theorem dX6_ship_108 : decode cX6_ship 108 = .ok (.iconst 1, 1) := by decide +kernel
theorem dX6_ship_109 : decode cX6_ship 109 = .ok (.isub, 1) := by decide +kernel
theorem dX6_ship_110 : decode cX6_ship 110 = .ok (.ireturn, 1) := by decide +kernel
theorem dX6_sell_0 : decode cX6_sell 0 = .ok (.aload_n 0, 1) := by decide +kernel
theorem dX6_sell_1 : decode cX6_sell 1 = .ok (.iload_n 1, 1) := by decide +kernel
theorem dX6_sell_2 : decode cX6_sell 2 = .ok (.invokevirtual 108, 3) := by decide +kernel
theorem dX6_sell_5 : decode cX6_sell 5 = .ok (.aload_n 0, 1) := by decide +kernel
theorem dX6_sell_6 : decode cX6_sell 6 = .ok (.iload_n 2, 1) := by decide +kernel
theorem dX6_sell_7 : decode cX6_sell 7 = .ok (.invokevirtual 62, 3) := by decide +kernel
theorem dX6_sell_10 : decode cX6_sell 10 = .ok (.aload_n 0, 1) := by decide +kernel
theorem dX6_sell_11 : decode cX6_sell 11 = .ok (.iload_n 3, 1) := by decide +kernel
theorem dX6_sell_12 : decode cX6_sell 12 = .ok (.invokevirtual 62, 3) := by decide +kernel
theorem dX6_sell_15 : decode cX6_sell 15 = .ok (.iload_n 2, 1) := by decide +kernel
theorem dX6_sell_16 : decode cX6_sell 16 = .ok (.iload_n 3, 1) := by decide +kernel
theorem dX6_sell_17 : decode cX6_sell 17 = .ok (.if_icmp .ne 13, 3) := by decide +kernel
theorem dX6_sell_20 : decode cX6_sell 20 = .ok (.new 38, 3) := by decide +kernel
theorem dX6_sell_23 : decode cX6_sell 23 = .ok (.dup, 1) := by decide +kernel
theorem dX6_sell_24 : decode cX6_sell 24 = .ok (.ldc 111, 2) := by decide +kernel
theorem dX6_sell_26 : decode cX6_sell 26 = .ok (.invokespecial 42, 3) := by decide +kernel
theorem dX6_sell_29 : decode cX6_sell 29 = .ok (.athrow, 1) := by decide +kernel
theorem dX6_sell_30 : decode cX6_sell 30 = .ok (.aload_n 0, 1) := by decide +kernel
theorem dX6_sell_31 : decode cX6_sell 31 = .ok (.iload 4, 2) := by decide +kernel
theorem dX6_sell_33 : decode cX6_sell 33 = .ok (.iconst 1, 1) := by decide +kernel
theorem dX6_sell_34 : decode cX6_sell 34 = .ok (.bipush 64, 2) := by decide +kernel
theorem dX6_sell_36 : decode cX6_sell 36 = .ok (.invokevirtual 65, 3) := by decide +kernel
theorem dX6_sell_39 : decode cX6_sell 39 = .ok (.aload_n 0, 1) := by decide +kernel
theorem dX6_sell_40 : decode cX6_sell 40 = .ok (.getfield 17, 3) := by decide +kernel
theorem dX6_sell_43 : decode cX6_sell 43 = .ok (.iload_n 1, 1) := by decide +kernel
theorem dX6_sell_44 : decode cX6_sell 44 = .ok (.aaload, 1) := by decide +kernel
theorem dX6_sell_45 : decode cX6_sell 45 = .ok (.astore 5, 2) := by decide +kernel
theorem dX6_sell_47 : decode cX6_sell 47 = .ok (.aload 5, 2) := by decide +kernel
theorem dX6_sell_49 : decode cX6_sell 49 = .ok (.getfield 113, 3) := by decide +kernel
theorem dX6_sell_52 : decode cX6_sell 52 = .ok (.iload_n 2, 1) := by decide +kernel
theorem dX6_sell_53 : decode cX6_sell 53 = .ok (.iaload, 1) := by decide +kernel
theorem dX6_sell_54 : decode cX6_sell 54 = .ok (.iload 4, 2) := by decide +kernel
theorem dX6_sell_56 : decode cX6_sell 56 = .ok (.if_icmp .ge 13, 3) := by decide +kernel
theorem dX6_sell_59 : decode cX6_sell 59 = .ok (.new 49, 3) := by decide +kernel
theorem dX6_sell_62 : decode cX6_sell 62 = .ok (.dup, 1) := by decide +kernel
theorem dX6_sell_63 : decode cX6_sell 63 = .ok (.ldc 116, 2) := by decide +kernel
theorem dX6_sell_65 : decode cX6_sell 65 = .ok (.invokespecial 53, 3) := by decide +kernel
theorem dX6_sell_68 : decode cX6_sell 68 = .ok (.athrow, 1) := by decide +kernel
theorem dX6_sell_69 : decode cX6_sell 69 = .ok (.aload 5, 2) := by decide +kernel
theorem dX6_sell_71 : decode cX6_sell 71 = .ok (.getfield 113, 3) := by decide +kernel
theorem dX6_sell_74 : decode cX6_sell 74 = .ok (.iload_n 2, 1) := by decide +kernel
theorem dX6_sell_75 : decode cX6_sell 75 = .ok (.dup2, 1) := by decide +kernel
theorem dX6_sell_76 : decode cX6_sell 76 = .ok (.iaload, 1) := by decide +kernel
theorem dX6_sell_77 : decode cX6_sell 77 = .ok (.iload 4, 2) := by decide +kernel
theorem dX6_sell_79 : decode cX6_sell 79 = .ok (.isub, 1) := by decide +kernel
theorem dX6_sell_80 : decode cX6_sell 80 = .ok (.iastore, 1) := by decide +kernel
theorem dX6_sell_81 : decode cX6_sell 81 = .ok (.aload 5, 2) := by decide +kernel
theorem dX6_sell_83 : decode cX6_sell 83 = .ok (.getfield 113, 3) := by decide +kernel
theorem dX6_sell_86 : decode cX6_sell 86 = .ok (.iload_n 3, 1) := by decide +kernel
theorem dX6_sell_87 : decode cX6_sell 87 = .ok (.dup2, 1) := by decide +kernel
theorem dX6_sell_88 : decode cX6_sell 88 = .ok (.iaload, 1) := by decide +kernel
theorem dX6_sell_89 : decode cX6_sell 89 = .ok (.iload 4, 2) := by decide +kernel
theorem dX6_sell_91 : decode cX6_sell 91 = .ok (.iadd, 1) := by decide +kernel
theorem dX6_sell_92 : decode cX6_sell 92 = .ok (.iastore, 1) := by decide +kernel
theorem dX6_sell_93 : decode cX6_sell 93 = .ok (.aload_n 0, 1) := by decide +kernel
theorem dX6_sell_94 : decode cX6_sell 94 = .ok (.aload 5, 2) := by decide +kernel
theorem dX6_sell_96 : decode cX6_sell 96 = .ok (.invokevirtual 88, 3) := by decide +kernel
theorem dX6_sell_99 : decode cX6_sell 99 = .ok (.aload 5, 2) := by decide +kernel
theorem dX6_sell_101 : decode cX6_sell 101 = .ok (.getfield 113, 3) := by decide +kernel
theorem dX6_sell_104 : decode cX6_sell 104 = .ok (.iload_n 3, 1) := by decide +kernel
theorem dX6_sell_105 : decode cX6_sell 105 = .ok (.iaload, 1) := by decide +kernel
theorem dX6_sell_106 : decode cX6_sell 106 = .ok (.ireturn, 1) := by decide +kernel
theorem dX6_fly_0 : decode cX6_fly 0 = .ok (.aload_n 0, 1) := by decide +kernel
theorem dX6_fly_1 : decode cX6_fly 1 = .ok (.iload_n 1, 1) := by decide +kernel
theorem dX6_fly_2 : decode cX6_fly 2 = .ok (.invokevirtual 108, 3) := by decide +kernel
theorem dX6_fly_5 : decode cX6_fly 5 = .ok (.aload_n 0, 1) := by decide +kernel
theorem dX6_fly_6 : decode cX6_fly 6 = .ok (.iload_n 2, 1) := by decide +kernel
theorem dX6_fly_7 : decode cX6_fly 7 = .ok (.invokevirtual 54, 3) := by decide +kernel
theorem dX6_fly_10 : decode cX6_fly 10 = .ok (.aload_n 0, 1) := by decide +kernel
theorem dX6_fly_11 : decode cX6_fly 11 = .ok (.getfield 17, 3) := by decide +kernel
theorem dX6_fly_14 : decode cX6_fly 14 = .ok (.iload_n 1, 1) := by decide +kernel
theorem dX6_fly_15 : decode cX6_fly 15 = .ok (.aaload, 1) := by decide +kernel
theorem dX6_fly_16 : decode cX6_fly 16 = .ok (.astore_n 3, 1) := by decide +kernel
theorem dX6_fly_17 : decode cX6_fly 17 = .ok (.aload_n 0, 1) := by decide +kernel
theorem dX6_fly_18 : decode cX6_fly 18 = .ok (.aload_n 3, 1) := by decide +kernel
theorem dX6_fly_19 : decode cX6_fly 19 = .ok (.getfield 113, 3) := by decide +kernel
theorem dX6_fly_22 : decode cX6_fly 22 = .ok (.invokevirtual 118, 3) := by decide +kernel
theorem dX6_fly_25 : decode cX6_fly 25 = .ok (.iload_n 2, 1) := by decide +kernel
theorem dX6_fly_26 : decode cX6_fly 26 = .ok (.if_icmp .eq 13, 3) := by decide +kernel
theorem dX6_fly_29 : decode cX6_fly 29 = .ok (.new 49, 3) := by decide +kernel
theorem dX6_fly_32 : decode cX6_fly 32 = .ok (.dup, 1) := by decide +kernel
theorem dX6_fly_33 : decode cX6_fly 33 = .ok (.ldc 122, 2) := by decide +kernel
theorem dX6_fly_35 : decode cX6_fly 35 = .ok (.invokespecial 53, 3) := by decide +kernel
theorem dX6_fly_38 : decode cX6_fly 38 = .ok (.athrow, 1) := by decide +kernel
theorem dX6_fly_39 : decode cX6_fly 39 = .ok (.aload_n 3, 1) := by decide +kernel
theorem dX6_fly_40 : decode cX6_fly 40 = .ok (.aload_n 0, 1) := by decide +kernel
theorem dX6_fly_41 : decode cX6_fly 41 = .ok (.getfield 124, 3) := by decide +kernel
theorem dX6_fly_44 : decode cX6_fly 44 = .ok (.invokevirtual 128, 3) := by decide +kernel
theorem dX6_fly_47 : decode cX6_fly 47 = .ok (.istore 4, 2) := by decide +kernel
theorem dX6_fly_49 : decode cX6_fly 49 = .ok (.aload_n 3, 1) := by decide +kernel
theorem dX6_fly_50 : decode cX6_fly 50 = .ok (.iload_n 2, 1) := by decide +kernel
theorem dX6_fly_51 : decode cX6_fly 51 = .ok (.putfield 132, 3) := by decide +kernel
theorem dX6_fly_54 : decode cX6_fly 54 = .ok (.aload_n 3, 1) := by decide +kernel
theorem dX6_fly_55 : decode cX6_fly 55 = .ok (.ldc2_w 135, 3) := by decide +kernel
theorem dX6_fly_58 : decode cX6_fly 58 = .ok (.putfield 137, 3) := by decide +kernel
theorem dX6_fly_61 : decode cX6_fly 61 = .ok (.iload 4, 2) := by decide +kernel
theorem dX6_fly_63 : decode cX6_fly 63 = .ok (.ireturn, 1) := by decide +kernel
theorem dX6_notice_0 : decode cX6_notice 0 = .ok (.aload_n 0, 1) := by decide +kernel
theorem dX6_notice_1 : decode cX6_notice 1 = .ok (.iload_n 1, 1) := by decide +kernel
theorem dX6_notice_2 : decode cX6_notice 2 = .ok (.invokevirtual 108, 3) := by decide +kernel
theorem dX6_notice_5 : decode cX6_notice 5 = .ok (.aload_n 0, 1) := by decide +kernel
theorem dX6_notice_6 : decode cX6_notice 6 = .ok (.iload_n 2, 1) := by decide +kernel
theorem dX6_notice_7 : decode cX6_notice 7 = .ok (.invokevirtual 62, 3) := by decide +kernel
theorem dX6_notice_10 : decode cX6_notice 10 = .ok (.aload_n 0, 1) := by decide +kernel
theorem dX6_notice_11 : decode cX6_notice 11 = .ok (.invokevirtual 140, 3) := by decide +kernel
theorem dX6_notice_14 : decode cX6_notice 14 = .ok (.aload_n 0, 1) := by decide +kernel
theorem dX6_notice_15 : decode cX6_notice 15 = .ok (.getfield 24, 3) := by decide +kernel
theorem dX6_notice_18 : decode cX6_notice 18 = .ok (.getstatic 143, 3) := by decide +kernel
theorem dX6_notice_21 : decode cX6_notice 21 = .ok (.iload_n 1, 1) := by decide +kernel
theorem dX6_notice_22 : decode cX6_notice 22 = .ok (.iload_n 2, 1) := by decide +kernel
theorem dX6_notice_23 : decode cX6_notice 23 = .ok (.aload_n 0, 1) := by decide +kernel
theorem dX6_notice_24 : decode cX6_notice 24 = .ok (.getfield 124, 3) := by decide +kernel
theorem dX6_notice_27 : decode cX6_notice 27 = .ok (.invokevirtual 149, 3) := by decide +kernel
theorem dX6_notice_30 : decode cX6_notice 30 = .ok (.pop, 1) := by decide +kernel
theorem dX6_notice_31 : decode cX6_notice 31 = .ok (.aload_n 0, 1) := by decide +kernel
theorem dX6_notice_32 : decode cX6_notice 32 = .ok (.getfield 24, 3) := by decide +kernel
theorem dX6_notice_35 : decode cX6_notice 35 = .ok (.getfield 153, 3) := by decide +kernel
theorem dX6_notice_38 : decode cX6_notice 38 = .ok (.ireturn, 1) := by decide +kernel
theorem dX6_mortgage_0 : decode cX6_mortgage 0 = .ok (.aload_n 0, 1) := by decide +kernel
theorem dX6_mortgage_1 : decode cX6_mortgage 1 = .ok (.iload_n 1, 1) := by decide +kernel
theorem dX6_mortgage_2 : decode cX6_mortgage 2 = .ok (.invokevirtual 108, 3) := by decide +kernel
theorem dX6_mortgage_5 : decode cX6_mortgage 5 = .ok (.aload_n 0, 1) := by decide +kernel
theorem dX6_mortgage_6 : decode cX6_mortgage 6 = .ok (.iload_n 2, 1) := by decide +kernel
theorem dX6_mortgage_7 : decode cX6_mortgage 7 = .ok (.invokevirtual 62, 3) := by decide +kernel
theorem dX6_mortgage_10 : decode cX6_mortgage 10 = .ok (.aload_n 0, 1) := by decide +kernel
theorem dX6_mortgage_11 : decode cX6_mortgage 11 = .ok (.iload_n 3, 1) := by decide +kernel
theorem dX6_mortgage_12 : decode cX6_mortgage 12 = .ok (.iconst 1, 1) := by decide +kernel
theorem dX6_mortgage_13 : decode cX6_mortgage 13 = .ok (.ldc 156, 2) := by decide +kernel
theorem dX6_mortgage_15 : decode cX6_mortgage 15 = .ok (.invokevirtual 65, 3) := by decide +kernel
theorem dX6_mortgage_18 : decode cX6_mortgage 18 = .ok (.aload_n 0, 1) := by decide +kernel
theorem dX6_mortgage_19 : decode cX6_mortgage 19 = .ok (.invokevirtual 140, 3) := by decide +kernel
theorem dX6_mortgage_22 : decode cX6_mortgage 22 = .ok (.aload_n 0, 1) := by decide +kernel
theorem dX6_mortgage_23 : decode cX6_mortgage 23 = .ok (.getfield 24, 3) := by decide +kernel
theorem dX6_mortgage_26 : decode cX6_mortgage 26 = .ok (.iload_n 1, 1) := by decide +kernel
theorem dX6_mortgage_27 : decode cX6_mortgage 27 = .ok (.iload_n 2, 1) := by decide +kernel
theorem dX6_mortgage_28 : decode cX6_mortgage 28 = .ok (.iload_n 3, 1) := by decide +kernel
theorem dX6_mortgage_29 : decode cX6_mortgage 29 = .ok (.aload_n 0, 1) := by decide +kernel
theorem dX6_mortgage_30 : decode cX6_mortgage 30 = .ok (.getfield 124, 3) := by decide +kernel
theorem dX6_mortgage_33 : decode cX6_mortgage 33 = .ok (.invokevirtual 157, 3) := by decide +kernel
theorem dX6_mortgage_36 : decode cX6_mortgage 36 = .ok (.ireturn, 1) := by decide +kernel
theorem dX6_discharge_0 : decode cX6_discharge 0 = .ok (.aload_n 0, 1) := by decide +kernel
theorem dX6_discharge_1 : decode cX6_discharge 1 = .ok (.iload_n 1, 1) := by decide +kernel
theorem dX6_discharge_2 : decode cX6_discharge 2 = .ok (.invokevirtual 161, 3) := by decide +kernel
theorem dX6_discharge_5 : decode cX6_discharge 5 = .ok (.aload_n 0, 1) := by decide +kernel
theorem dX6_discharge_6 : decode cX6_discharge 6 = .ok (.invokevirtual 140, 3) := by decide +kernel
theorem dX6_discharge_9 : decode cX6_discharge 9 = .ok (.aload_n 0, 1) := by decide +kernel
theorem dX6_discharge_10 : decode cX6_discharge 10 = .ok (.getfield 24, 3) := by decide +kernel
theorem dX6_discharge_13 : decode cX6_discharge 13 = .ok (.iload_n 1, 1) := by decide +kernel
theorem dX6_discharge_14 : decode cX6_discharge 14 = .ok (.aload_n 0, 1) := by decide +kernel
theorem dX6_discharge_15 : decode cX6_discharge 15 = .ok (.getfield 124, 3) := by decide +kernel
theorem dX6_discharge_18 : decode cX6_discharge 18 = .ok (.invokevirtual 164, 3) := by decide +kernel
theorem dX6_discharge_21 : decode cX6_discharge 21 = .ok (.iconst (-1), 1) := by decide +kernel
theorem dX6_discharge_22 : decode cX6_discharge 22 = .ok (.if_icmp .ne 7, 3) := by decide +kernel
theorem dX6_discharge_25 : decode cX6_discharge 25 = .ok (.iconst 1, 1) := by decide +kernel
theorem dX6_discharge_26 : decode cX6_discharge 26 = .ok (.goto 4, 3) := by decide +kernel
theorem dX6_discharge_29 : decode cX6_discharge 29 = .ok (.iconst 0, 1) := by decide +kernel
theorem dX6_discharge_30 : decode cX6_discharge 30 = .ok (.istore_n 3, 1) := by decide +kernel
theorem dX6_discharge_31 : decode cX6_discharge 31 = .ok (.aload_n 0, 1) := by decide +kernel
theorem dX6_discharge_32 : decode cX6_discharge 32 = .ok (.getfield 24, 3) := by decide +kernel
theorem dX6_discharge_35 : decode cX6_discharge 35 = .ok (.iload_n 1, 1) := by decide +kernel
theorem dX6_discharge_36 : decode cX6_discharge 36 = .ok (.invokevirtual 168, 3) := by decide +kernel
theorem dX6_discharge_39 : decode cX6_discharge 39 = .ok (.ifCond .ne 8, 3) := by decide +kernel
theorem dX6_discharge_42 : decode cX6_discharge 42 = .ok (.iload_n 3, 1) := by decide +kernel
theorem dX6_discharge_43 : decode cX6_discharge 43 = .ok (.iload_n 2, 1) := by decide +kernel
theorem dX6_discharge_44 : decode cX6_discharge 44 = .ok (.if_icmp .ne 13, 3) := by decide +kernel
theorem dX6_discharge_47 : decode cX6_discharge 47 = .ok (.new 49, 3) := by decide +kernel
theorem dX6_discharge_50 : decode cX6_discharge 50 = .ok (.dup, 1) := by decide +kernel
theorem dX6_discharge_51 : decode cX6_discharge 51 = .ok (.ldc 172, 2) := by decide +kernel
theorem dX6_discharge_53 : decode cX6_discharge 53 = .ok (.invokespecial 53, 3) := by decide +kernel
theorem dX6_discharge_56 : decode cX6_discharge 56 = .ok (.athrow, 1) := by decide +kernel
theorem dX6_discharge_57 : decode cX6_discharge 57 = .ok (.aload_n 0, 1) := by decide +kernel
theorem dX6_discharge_58 : decode cX6_discharge 58 = .ok (.getfield 24, 3) := by decide +kernel
theorem dX6_discharge_61 : decode cX6_discharge 61 = .ok (.iload_n 1, 1) := by decide +kernel
theorem dX6_discharge_62 : decode cX6_discharge 62 = .ok (.iload_n 2, 1) := by decide +kernel
theorem dX6_discharge_63 : decode cX6_discharge 63 = .ok (.aload_n 0, 1) := by decide +kernel
theorem dX6_discharge_64 : decode cX6_discharge 64 = .ok (.getfield 124, 3) := by decide +kernel
theorem dX6_discharge_67 : decode cX6_discharge 67 = .ok (.invokevirtual 174, 3) := by decide +kernel
theorem dX6_discharge_70 : decode cX6_discharge 70 = .ok (.return_, 1) := by decide +kernel
theorem dX6_lien_0 : decode cX6_lien 0 = .ok (.aload_n 0, 1) := by decide +kernel
theorem dX6_lien_1 : decode cX6_lien 1 = .ok (.iload_n 1, 1) := by decide +kernel
theorem dX6_lien_2 : decode cX6_lien 2 = .ok (.invokevirtual 108, 3) := by decide +kernel
theorem dX6_lien_5 : decode cX6_lien 5 = .ok (.aload_n 0, 1) := by decide +kernel
theorem dX6_lien_6 : decode cX6_lien 6 = .ok (.iload_n 2, 1) := by decide +kernel
theorem dX6_lien_7 : decode cX6_lien 7 = .ok (.invokevirtual 62, 3) := by decide +kernel
theorem dX6_lien_10 : decode cX6_lien 10 = .ok (.aload_n 0, 1) := by decide +kernel
theorem dX6_lien_11 : decode cX6_lien 11 = .ok (.iload_n 3, 1) := by decide +kernel
theorem dX6_lien_12 : decode cX6_lien 12 = .ok (.iconst 0, 1) := by decide +kernel
theorem dX6_lien_13 : decode cX6_lien 13 = .ok (.iconst 3, 1) := by decide +kernel
theorem dX6_lien_14 : decode cX6_lien 14 = .ok (.invokevirtual 65, 3) := by decide +kernel
theorem dX6_lien_17 : decode cX6_lien 17 = .ok (.aload_n 0, 1) := by decide +kernel
theorem dX6_lien_18 : decode cX6_lien 18 = .ok (.iload 4, 2) := by decide +kernel
theorem dX6_lien_20 : decode cX6_lien 20 = .ok (.iconst 1, 1) := by decide +kernel
theorem dX6_lien_21 : decode cX6_lien 21 = .ok (.ldc 156, 2) := by decide +kernel
theorem dX6_lien_23 : decode cX6_lien 23 = .ok (.invokevirtual 65, 3) := by decide +kernel
theorem dX6_lien_26 : decode cX6_lien 26 = .ok (.aload_n 0, 1) := by decide +kernel
theorem dX6_lien_27 : decode cX6_lien 27 = .ok (.invokevirtual 140, 3) := by decide +kernel
theorem dX6_lien_30 : decode cX6_lien 30 = .ok (.aload_n 0, 1) := by decide +kernel
theorem dX6_lien_31 : decode cX6_lien 31 = .ok (.getfield 24, 3) := by decide +kernel
theorem dX6_lien_34 : decode cX6_lien 34 = .ok (.getstatic 178, 3) := by decide +kernel
theorem dX6_lien_37 : decode cX6_lien 37 = .ok (.iload_n 1, 1) := by decide +kernel
theorem dX6_lien_38 : decode cX6_lien 38 = .ok (.iload_n 2, 1) := by decide +kernel
theorem dX6_lien_39 : decode cX6_lien 39 = .ok (.aload_n 0, 1) := by decide +kernel
theorem dX6_lien_40 : decode cX6_lien 40 = .ok (.getfield 124, 3) := by decide +kernel
theorem dX6_lien_43 : decode cX6_lien 43 = .ok (.invokevirtual 149, 3) := by decide +kernel
theorem dX6_lien_46 : decode cX6_lien 46 = .ok (.astore 5, 2) := by decide +kernel
theorem dX6_lien_48 : decode cX6_lien 48 = .ok (.aload 5, 2) := by decide +kernel
theorem dX6_lien_50 : decode cX6_lien 50 = .ok (.iload_n 3, 1) := by decide +kernel
theorem dX6_lien_51 : decode cX6_lien 51 = .ok (.putfield 181, 3) := by decide +kernel
theorem dX6_lien_54 : decode cX6_lien 54 = .ok (.aload 5, 2) := by decide +kernel
theorem dX6_lien_56 : decode cX6_lien 56 = .ok (.iload 4, 2) := by decide +kernel
theorem dX6_lien_58 : decode cX6_lien 58 = .ok (.putfield 186, 3) := by decide +kernel
theorem dX6_lien_61 : decode cX6_lien 61 = .ok (.aload_n 0, 1) := by decide +kernel
theorem dX6_lien_62 : decode cX6_lien 62 = .ok (.getfield 24, 3) := by decide +kernel
theorem dX6_lien_65 : decode cX6_lien 65 = .ok (.getfield 153, 3) := by decide +kernel
theorem dX6_lien_68 : decode cX6_lien 68 = .ok (.ireturn, 1) := by decide +kernel
theorem dX6_court_0 : decode cX6_court 0 = .ok (.aload_n 0, 1) := by decide +kernel
theorem dX6_court_1 : decode cX6_court 1 = .ok (.iload_n 1, 1) := by decide +kernel
theorem dX6_court_2 : decode cX6_court 2 = .ok (.invokevirtual 108, 3) := by decide +kernel
theorem dX6_court_5 : decode cX6_court 5 = .ok (.aload_n 0, 1) := by decide +kernel
theorem dX6_court_6 : decode cX6_court 6 = .ok (.iload_n 2, 1) := by decide +kernel
theorem dX6_court_7 : decode cX6_court 7 = .ok (.invokevirtual 62, 3) := by decide +kernel
theorem dX6_court_10 : decode cX6_court 10 = .ok (.aload_n 0, 1) := by decide +kernel
theorem dX6_court_11 : decode cX6_court 11 = .ok (.iload_n 3, 1) := by decide +kernel
theorem dX6_court_12 : decode cX6_court 12 = .ok (.iconst 1, 1) := by decide +kernel
theorem dX6_court_13 : decode cX6_court 13 = .ok (.ldc 189, 2) := by decide +kernel
theorem dX6_court_15 : decode cX6_court 15 = .ok (.invokevirtual 65, 3) := by decide +kernel
theorem dX6_court_18 : decode cX6_court 18 = .ok (.aload_n 0, 1) := by decide +kernel
theorem dX6_court_19 : decode cX6_court 19 = .ok (.invokevirtual 140, 3) := by decide +kernel
theorem dX6_court_22 : decode cX6_court 22 = .ok (.aload_n 0, 1) := by decide +kernel
theorem dX6_court_23 : decode cX6_court 23 = .ok (.iload_n 1, 1) := by decide +kernel
theorem dX6_court_24 : decode cX6_court 24 = .ok (.iload_n 3, 1) := by decide +kernel
theorem dX6_court_25 : decode cX6_court 25 = .ok (.i2l, 1) := by decide +kernel
theorem dX6_court_26 : decode cX6_court 26 = .ok (.invokevirtual 190, 3) := by decide +kernel
theorem dX6_court_29 : decode cX6_court 29 = .ok (.lstore 4, 2) := by decide +kernel
theorem dX6_court_31 : decode cX6_court 31 = .ok (.aload_n 0, 1) := by decide +kernel
theorem dX6_court_32 : decode cX6_court 32 = .ok (.iload_n 1, 1) := by decide +kernel
theorem dX6_court_33 : decode cX6_court 33 = .ok (.lload 4, 2) := by decide +kernel
theorem dX6_court_35 : decode cX6_court 35 = .ok (.invokevirtual 194, 3) := by decide +kernel
theorem dX6_court_38 : decode cX6_court 38 = .ok (.lstore 4, 2) := by decide +kernel
theorem dX6_court_40 : decode cX6_court 40 = .ok (.aload_n 0, 1) := by decide +kernel
theorem dX6_court_41 : decode cX6_court 41 = .ok (.aload_n 0, 1) := by decide +kernel
theorem dX6_court_42 : decode cX6_court 42 = .ok (.getfield 17, 3) := by decide +kernel
theorem dX6_court_45 : decode cX6_court 45 = .ok (.iload_n 1, 1) := by decide +kernel
theorem dX6_court_46 : decode cX6_court 46 = .ok (.aaload, 1) := by decide +kernel
theorem dX6_court_47 : decode cX6_court 47 = .ok (.lload 4, 2) := by decide +kernel
theorem dX6_court_49 : decode cX6_court 49 = .ok (.invokevirtual 197, 3) := by decide +kernel
theorem dX6_court_52 : decode cX6_court 52 = .ok (.lstore 4, 2) := by decide +kernel
theorem dX6_court_54 : decode cX6_court 54 = .ok (.aload_n 0, 1) := by decide +kernel
theorem dX6_court_55 : decode cX6_court 55 = .ok (.getfield 24, 3) := by decide +kernel
theorem dX6_court_58 : decode cX6_court 58 = .ok (.getstatic 201, 3) := by decide +kernel
theorem dX6_court_61 : decode cX6_court 61 = .ok (.iload_n 1, 1) := by decide +kernel
theorem dX6_court_62 : decode cX6_court 62 = .ok (.iload_n 2, 1) := by decide +kernel
theorem dX6_court_63 : decode cX6_court 63 = .ok (.aload_n 0, 1) := by decide +kernel
theorem dX6_court_64 : decode cX6_court 64 = .ok (.getfield 124, 3) := by decide +kernel
theorem dX6_court_67 : decode cX6_court 67 = .ok (.invokevirtual 149, 3) := by decide +kernel
theorem dX6_court_70 : decode cX6_court 70 = .ok (.pop, 1) := by decide +kernel
theorem dX6_court_71 : decode cX6_court 71 = .ok (.aload_n 0, 1) := by decide +kernel
theorem dX6_court_72 : decode cX6_court 72 = .ok (.getfield 17, 3) := by decide +kernel
theorem dX6_court_75 : decode cX6_court 75 = .ok (.iload_n 1, 1) := by decide +kernel
theorem dX6_court_76 : decode cX6_court 76 = .ok (.aaload, 1) := by decide +kernel
theorem dX6_court_77 : decode cX6_court 77 = .ok (.iload_n 2, 1) := by decide +kernel
theorem dX6_court_78 : decode cX6_court 78 = .ok (.invokevirtual 105, 3) := by decide +kernel
theorem dX6_court_81 : decode cX6_court 81 = .ok (.lload 4, 2) := by decide +kernel
theorem dX6_court_83 : decode cX6_court 83 = .ok (.lreturn, 1) := by decide +kernel
theorem dX6_pass_0 : decode cX6_pass 0 = .ok (.aload_n 0, 1) := by decide +kernel
theorem dX6_pass_1 : decode cX6_pass 1 = .ok (.iload_n 1, 1) := by decide +kernel
theorem dX6_pass_2 : decode cX6_pass 2 = .ok (.iconst 1, 1) := by decide +kernel
theorem dX6_pass_3 : decode cX6_pass 3 = .ok (.ldc 204, 2) := by decide +kernel
theorem dX6_pass_5 : decode cX6_pass 5 = .ok (.invokevirtual 65, 3) := by decide +kernel
theorem dX6_pass_8 : decode cX6_pass 8 = .ok (.aload_n 0, 1) := by decide +kernel
theorem dX6_pass_9 : decode cX6_pass 9 = .ok (.dup, 1) := by decide +kernel
theorem dX6_pass_10 : decode cX6_pass 10 = .ok (.getfield 124, 3) := by decide +kernel
theorem dX6_pass_13 : decode cX6_pass 13 = .ok (.iload_n 1, 1) := by decide +kernel
theorem dX6_pass_14 : decode cX6_pass 14 = .ok (.i2l, 1) := by decide +kernel
theorem dX6_pass_15 : decode cX6_pass 15 = .ok (.ladd, 1) := by decide +kernel
theorem dX6_pass_16 : decode cX6_pass 16 = .ok (.putfield 124, 3) := by decide +kernel
theorem dX6_pass_19 : decode cX6_pass 19 = .ok (.aload_n 0, 1) := by decide +kernel
theorem dX6_pass_20 : decode cX6_pass 20 = .ok (.getfield 124, 3) := by decide +kernel
theorem dX6_pass_23 : decode cX6_pass 23 = .ok (.lreturn, 1) := by decide +kernel
theorem dX6_share_0 : decode cX6_share 0 = .ok (.aload_n 0, 1) := by decide +kernel
theorem dX6_share_1 : decode cX6_share 1 = .ok (.iload_n 1, 1) := by decide +kernel
theorem dX6_share_2 : decode cX6_share 2 = .ok (.invokevirtual 108, 3) := by decide +kernel
theorem dX6_share_5 : decode cX6_share 5 = .ok (.aload_n 0, 1) := by decide +kernel
theorem dX6_share_6 : decode cX6_share 6 = .ok (.iload_n 2, 1) := by decide +kernel
theorem dX6_share_7 : decode cX6_share 7 = .ok (.invokevirtual 62, 3) := by decide +kernel
theorem dX6_share_10 : decode cX6_share 10 = .ok (.aload_n 0, 1) := by decide +kernel
theorem dX6_share_11 : decode cX6_share 11 = .ok (.getfield 17, 3) := by decide +kernel
theorem dX6_share_14 : decode cX6_share 14 = .ok (.iload_n 1, 1) := by decide +kernel
theorem dX6_share_15 : decode cX6_share 15 = .ok (.aaload, 1) := by decide +kernel
theorem dX6_share_16 : decode cX6_share 16 = .ok (.getfield 113, 3) := by decide +kernel
theorem dX6_share_19 : decode cX6_share 19 = .ok (.iload_n 2, 1) := by decide +kernel
theorem dX6_share_20 : decode cX6_share 20 = .ok (.iaload, 1) := by decide +kernel
theorem dX6_share_21 : decode cX6_share 21 = .ok (.ireturn, 1) := by decide +kernel
theorem dX6_flag_0 : decode cX6_flag 0 = .ok (.aload_n 0, 1) := by decide +kernel
theorem dX6_flag_1 : decode cX6_flag 1 = .ok (.iload_n 1, 1) := by decide +kernel
theorem dX6_flag_2 : decode cX6_flag 2 = .ok (.invokevirtual 108, 3) := by decide +kernel
theorem dX6_flag_5 : decode cX6_flag 5 = .ok (.aload_n 0, 1) := by decide +kernel
theorem dX6_flag_6 : decode cX6_flag 6 = .ok (.getfield 17, 3) := by decide +kernel
theorem dX6_flag_9 : decode cX6_flag 9 = .ok (.iload_n 1, 1) := by decide +kernel
theorem dX6_flag_10 : decode cX6_flag 10 = .ok (.aaload, 1) := by decide +kernel
theorem dX6_flag_11 : decode cX6_flag 11 = .ok (.aload_n 0, 1) := by decide +kernel
theorem dX6_flag_12 : decode cX6_flag 12 = .ok (.getfield 124, 3) := by decide +kernel
theorem dX6_flag_15 : decode cX6_flag 15 = .ok (.invokevirtual 128, 3) := by decide +kernel
theorem dX6_flag_18 : decode cX6_flag 18 = .ok (.ireturn, 1) := by decide +kernel
theorem dX6_rank_0 : decode cX6_rank 0 = .ok (.aload_n 0, 1) := by decide +kernel
theorem dX6_rank_1 : decode cX6_rank 1 = .ok (.iload_n 1, 1) := by decide +kernel
theorem dX6_rank_2 : decode cX6_rank 2 = .ok (.invokevirtual 161, 3) := by decide +kernel
theorem dX6_rank_5 : decode cX6_rank 5 = .ok (.aload_n 0, 1) := by decide +kernel
theorem dX6_rank_6 : decode cX6_rank 6 = .ok (.getfield 24, 3) := by decide +kernel
theorem dX6_rank_9 : decode cX6_rank 9 = .ok (.iload_n 1, 1) := by decide +kernel
theorem dX6_rank_10 : decode cX6_rank 10 = .ok (.aload_n 0, 1) := by decide +kernel
theorem dX6_rank_11 : decode cX6_rank 11 = .ok (.getfield 124, 3) := by decide +kernel
theorem dX6_rank_14 : decode cX6_rank 14 = .ok (.invokevirtual 164, 3) := by decide +kernel
theorem dX6_rank_17 : decode cX6_rank 17 = .ok (.ireturn, 1) := by decide +kernel
theorem dX6_search_0 : decode cX6_search 0 = .ok (.aload_n 0, 1) := by decide +kernel
theorem dX6_search_1 : decode cX6_search 1 = .ok (.iload_n 1, 1) := by decide +kernel
theorem dX6_search_2 : decode cX6_search 2 = .ok (.invokevirtual 108, 3) := by decide +kernel
theorem dX6_search_5 : decode cX6_search 5 = .ok (.aload_n 0, 1) := by decide +kernel
theorem dX6_search_6 : decode cX6_search 6 = .ok (.iload 4, 2) := by decide +kernel
theorem dX6_search_8 : decode cX6_search 8 = .ok (.invokevirtual 205, 3) := by decide +kernel
theorem dX6_search_11 : decode cX6_search 11 = .ok (.lload_n 2, 1) := by decide +kernel
theorem dX6_search_12 : decode cX6_search 12 = .ok (.lconst 0, 1) := by decide +kernel
theorem dX6_search_13 : decode cX6_search 13 = .ok (.lcmp, 1) := by decide +kernel
theorem dX6_search_14 : decode cX6_search 14 = .ok (.ifCond .lt 12, 3) := by decide +kernel
theorem dX6_search_17 : decode cX6_search 17 = .ok (.lload_n 2, 1) := by decide +kernel
theorem dX6_search_18 : decode cX6_search 18 = .ok (.aload_n 0, 1) := by decide +kernel
theorem dX6_search_19 : decode cX6_search 19 = .ok (.getfield 124, 3) := by decide +kernel
theorem dX6_search_22 : decode cX6_search 22 = .ok (.lcmp, 1) := by decide +kernel
theorem dX6_search_23 : decode cX6_search 23 = .ok (.ifCond .le 13, 3) := by decide +kernel
theorem dX6_search_26 : decode cX6_search 26 = .ok (.new 38, 3) := by decide +kernel
theorem dX6_search_29 : decode cX6_search 29 = .ok (.dup, 1) := by decide +kernel
theorem dX6_search_30 : decode cX6_search 30 = .ok (.ldc 214, 2) := by decide +kernel
theorem dX6_search_32 : decode cX6_search 32 = .ok (.invokespecial 42, 3) := by decide +kernel
theorem dX6_search_35 : decode cX6_search 35 = .ok (.athrow, 1) := by decide +kernel
theorem dX6_search_36 : decode cX6_search 36 = .ok (.aload_n 0, 1) := by decide +kernel
theorem dX6_search_37 : decode cX6_search 37 = .ok (.getfield 24, 3) := by decide +kernel
theorem dX6_search_40 : decode cX6_search 40 = .ok (.iload_n 1, 1) := by decide +kernel
theorem dX6_search_41 : decode cX6_search 41 = .ok (.iload 4, 2) := by decide +kernel
theorem dX6_search_43 : decode cX6_search 43 = .ok (.lload_n 2, 1) := by decide +kernel
theorem dX6_search_44 : decode cX6_search 44 = .ok (.invokevirtual 216, 3) := by decide +kernel
theorem dX6_search_47 : decode cX6_search 47 = .ok (.ireturn, 1) := by decide +kernel
theorem dX6_got_0 : decode cX6_got 0 = .ok (.aload_n 0, 1) := by decide +kernel
theorem dX6_got_1 : decode cX6_got 1 = .ok (.iload_n 1, 1) := by decide +kernel
theorem dX6_got_2 : decode cX6_got 2 = .ok (.invokevirtual 62, 3) := by decide +kernel
theorem dX6_got_5 : decode cX6_got 5 = .ok (.aload_n 0, 1) := by decide +kernel
theorem dX6_got_6 : decode cX6_got 6 = .ok (.getfield 11, 3) := by decide +kernel
theorem dX6_got_9 : decode cX6_got 9 = .ok (.iload_n 1, 1) := by decide +kernel
theorem dX6_got_10 : decode cX6_got 10 = .ok (.aaload, 1) := by decide +kernel
theorem dX6_got_11 : decode cX6_got 11 = .ok (.getfield 220, 3) := by decide +kernel
theorem dX6_got_14 : decode cX6_got 14 = .ok (.lreturn, 1) := by decide +kernel
theorem dX6_liens_0 : decode cX6_liens 0 = .ok (.aload_n 0, 1) := by decide +kernel
theorem dX6_liens_1 : decode cX6_liens 1 = .ok (.iload_n 1, 1) := by decide +kernel
theorem dX6_liens_2 : decode cX6_liens 2 = .ok (.invokevirtual 108, 3) := by decide +kernel
theorem dX6_liens_5 : decode cX6_liens 5 = .ok (.iconst 0, 1) := by decide +kernel
theorem dX6_liens_6 : decode cX6_liens 6 = .ok (.istore_n 2, 1) := by decide +kernel
theorem dX6_liens_7 : decode cX6_liens 7 = .ok (.aload_n 0, 1) := by decide +kernel
theorem dX6_liens_8 : decode cX6_liens 8 = .ok (.getfield 24, 3) := by decide +kernel
theorem dX6_liens_11 : decode cX6_liens 11 = .ok (.iload_n 1, 1) := by decide +kernel
theorem dX6_liens_12 : decode cX6_liens 12 = .ok (.invokevirtual 223, 3) := by decide +kernel
theorem dX6_liens_15 : decode cX6_liens 15 = .ok (.istore_n 3, 1) := by decide +kernel
theorem dX6_liens_16 : decode cX6_liens 16 = .ok (.iload_n 3, 1) := by decide +kernel
theorem dX6_liens_17 : decode cX6_liens 17 = .ok (.aload_n 0, 1) := by decide +kernel
theorem dX6_liens_18 : decode cX6_liens 18 = .ok (.getfield 24, 3) := by decide +kernel
theorem dX6_liens_21 : decode cX6_liens 21 = .ok (.getfield 153, 3) := by decide +kernel
theorem dX6_liens_24 : decode cX6_liens 24 = .ok (.if_icmp .ge 32, 3) := by decide +kernel
theorem dX6_liens_27 : decode cX6_liens 27 = .ok (.aload_n 0, 1) := by decide +kernel
theorem dX6_liens_28 : decode cX6_liens 28 = .ok (.getfield 24, 3) := by decide +kernel
theorem dX6_liens_31 : decode cX6_liens 31 = .ok (.getfield 227, 3) := by decide +kernel
theorem dX6_liens_34 : decode cX6_liens 34 = .ok (.iload_n 3, 1) := by decide +kernel
theorem dX6_liens_35 : decode cX6_liens 35 = .ok (.aaload, 1) := by decide +kernel
theorem dX6_liens_36 : decode cX6_liens 36 = .ok (.iload_n 1, 1) := by decide +kernel
theorem dX6_liens_37 : decode cX6_liens 37 = .ok (.aload_n 0, 1) := by decide +kernel
theorem dX6_liens_38 : decode cX6_liens 38 = .ok (.getfield 124, 3) := by decide +kernel
theorem dX6_liens_41 : decode cX6_liens 41 = .ok (.invokevirtual 231, 3) := by decide +kernel
theorem dX6_liens_44 : decode cX6_liens 44 = .ok (.ifCond .eq 6, 3) := by decide +kernel
theorem dX6_liens_47 : decode cX6_liens 47 = .ok (.iinc 2 1, 3) := by decide +kernel
theorem dX6_liens_50 : decode cX6_liens 50 = .ok (.iinc 3 1, 3) := by decide +kernel
theorem dX6_liens_53 : decode cX6_liens 53 = .ok (.goto (-37), 3) := by decide +kernel
theorem dX6_liens_56 : decode cX6_liens 56 = .ok (.iload_n 2, 1) := by decide +kernel
theorem dX6_liens_57 : decode cX6_liens 57 = .ok (.ireturn, 1) := by decide +kernel
theorem dX6_needLand_0 : decode cX6_needLand 0 = .ok (.iload_n 1, 1) := by decide +kernel
theorem dX6_needLand_1 : decode cX6_needLand 1 = .ok (.ifCond .lt 8, 3) := by decide +kernel
theorem dX6_needLand_4 : decode cX6_needLand 4 = .ok (.iload_n 1, 1) := by decide +kernel
theorem dX6_needLand_5 : decode cX6_needLand 5 = .ok (.iconst 4, 1) := by decide +kernel
theorem dX6_needLand_6 : decode cX6_needLand 6 = .ok (.if_icmp .lt 13, 3) := by decide +kernel
theorem dX6_needLand_9 : decode cX6_needLand 9 = .ok (.new 235, 3) := by decide +kernel
theorem dX6_needLand_12 : decode cX6_needLand 12 = .ok (.dup, 1) := by decide +kernel
theorem dX6_needLand_13 : decode cX6_needLand 13 = .ok (.ldc 237, 2) := by decide +kernel
theorem dX6_needLand_15 : decode cX6_needLand 15 = .ok (.invokespecial 239, 3) := by decide +kernel
theorem dX6_needLand_18 : decode cX6_needLand 18 = .ok (.athrow, 1) := by decide +kernel
theorem dX6_needLand_19 : decode cX6_needLand 19 = .ok (.return_, 1) := by decide +kernel
theorem dX6_needParty_0 : decode cX6_needParty 0 = .ok (.iload_n 1, 1) := by decide +kernel
theorem dX6_needParty_1 : decode cX6_needParty 1 = .ok (.ifCond .lt 11, 3) := by decide +kernel
theorem dX6_needParty_4 : decode cX6_needParty 4 = .ok (.iload_n 1, 1) := by decide +kernel
theorem dX6_needParty_5 : decode cX6_needParty 5 = .ok (.aload_n 0, 1) := by decide +kernel
theorem dX6_needParty_6 : decode cX6_needParty 6 = .ok (.getfield 240, 3) := by decide +kernel
theorem dX6_needParty_9 : decode cX6_needParty 9 = .ok (.if_icmp .lt 13, 3) := by decide +kernel
theorem dX6_needParty_12 : decode cX6_needParty 12 = .ok (.new 235, 3) := by decide +kernel
theorem dX6_needParty_15 : decode cX6_needParty 15 = .ok (.dup, 1) := by decide +kernel
theorem dX6_needParty_16 : decode cX6_needParty 16 = .ok (.ldc 243, 2) := by decide +kernel
theorem dX6_needParty_18 : decode cX6_needParty 18 = .ok (.invokespecial 239, 3) := by decide +kernel
theorem dX6_needParty_21 : decode cX6_needParty 21 = .ok (.athrow, 1) := by decide +kernel
theorem dX6_needParty_22 : decode cX6_needParty 22 = .ok (.return_, 1) := by decide +kernel
theorem dX6_needShip_0 : decode cX6_needShip 0 = .ok (.iload_n 1, 1) := by decide +kernel
theorem dX6_needShip_1 : decode cX6_needShip 1 = .ok (.ifCond .lt 11, 3) := by decide +kernel
theorem dX6_needShip_4 : decode cX6_needShip 4 = .ok (.iload_n 1, 1) := by decide +kernel
theorem dX6_needShip_5 : decode cX6_needShip 5 = .ok (.aload_n 0, 1) := by decide +kernel
theorem dX6_needShip_6 : decode cX6_needShip 6 = .ok (.getfield 85, 3) := by decide +kernel
theorem dX6_needShip_9 : decode cX6_needShip 9 = .ok (.if_icmp .lt 13, 3) := by decide +kernel
theorem dX6_needShip_12 : decode cX6_needShip 12 = .ok (.new 235, 3) := by decide +kernel
theorem dX6_needShip_15 : decode cX6_needShip 15 = .ok (.dup, 1) := by decide +kernel
theorem dX6_needShip_16 : decode cX6_needShip 16 = .ok (.ldc 245, 2) := by decide +kernel
theorem dX6_needShip_18 : decode cX6_needShip 18 = .ok (.invokespecial 239, 3) := by decide +kernel
theorem dX6_needShip_21 : decode cX6_needShip 21 = .ok (.athrow, 1) := by decide +kernel
theorem dX6_needShip_22 : decode cX6_needShip 22 = .ok (.return_, 1) := by decide +kernel
theorem dX6_needMortgage_0 : decode cX6_needMortgage 0 = .ok (.iload_n 1, 1) := by decide +kernel
theorem dX6_needMortgage_1 : decode cX6_needMortgage 1 = .ok (.ifCond .lt 14, 3) := by decide +kernel
theorem dX6_needMortgage_4 : decode cX6_needMortgage 4 = .ok (.iload_n 1, 1) := by decide +kernel
theorem dX6_needMortgage_5 : decode cX6_needMortgage 5 = .ok (.aload_n 0, 1) := by decide +kernel
theorem dX6_needMortgage_6 : decode cX6_needMortgage 6 = .ok (.getfield 24, 3) := by decide +kernel
theorem dX6_needMortgage_9 : decode cX6_needMortgage 9 = .ok (.getfield 247, 3) := by decide +kernel
theorem dX6_needMortgage_12 : decode cX6_needMortgage 12 = .ok (.if_icmp .lt 13, 3) := by decide +kernel
theorem dX6_needMortgage_15 : decode cX6_needMortgage 15 = .ok (.new 235, 3) := by decide +kernel
theorem dX6_needMortgage_18 : decode cX6_needMortgage 18 = .ok (.dup, 1) := by decide +kernel
theorem dX6_needMortgage_19 : decode cX6_needMortgage 19 = .ok (.ldc 250, 2) := by decide +kernel
theorem dX6_needMortgage_21 : decode cX6_needMortgage 21 = .ok (.invokespecial 239, 3) := by decide +kernel
theorem dX6_needMortgage_24 : decode cX6_needMortgage 24 = .ok (.athrow, 1) := by decide +kernel
theorem dX6_needMortgage_25 : decode cX6_needMortgage 25 = .ok (.return_, 1) := by decide +kernel
theorem dX6_needNotNegative_0 : decode cX6_needNotNegative 0 = .ok (.iload_n 1, 1) := by decide +kernel
theorem dX6_needNotNegative_1 : decode cX6_needNotNegative 1 = .ok (.ifCond .ge 13, 3) := by decide +kernel
theorem dX6_needNotNegative_4 : decode cX6_needNotNegative 4 = .ok (.new 235, 3) := by decide +kernel
theorem dX6_needNotNegative_7 : decode cX6_needNotNegative 7 = .ok (.dup, 1) := by decide +kernel
theorem dX6_needNotNegative_8 : decode cX6_needNotNegative 8 = .ok (.ldc 252, 2) := by decide +kernel
theorem dX6_needNotNegative_10 : decode cX6_needNotNegative 10 = .ok (.invokespecial 239, 3) := by decide +kernel
theorem dX6_needNotNegative_13 : decode cX6_needNotNegative 13 = .ok (.athrow, 1) := by decide +kernel
theorem dX6_needNotNegative_14 : decode cX6_needNotNegative 14 = .ok (.return_, 1) := by decide +kernel
theorem dX6_needWithin_0 : decode cX6_needWithin 0 = .ok (.iload_n 1, 1) := by decide +kernel
theorem dX6_needWithin_1 : decode cX6_needWithin 1 = .ok (.iload_n 2, 1) := by decide +kernel
theorem dX6_needWithin_2 : decode cX6_needWithin 2 = .ok (.if_icmp .lt 8, 3) := by decide +kernel
theorem dX6_needWithin_5 : decode cX6_needWithin 5 = .ok (.iload_n 1, 1) := by decide +kernel
theorem dX6_needWithin_6 : decode cX6_needWithin 6 = .ok (.iload_n 3, 1) := by decide +kernel
theorem dX6_needWithin_7 : decode cX6_needWithin 7 = .ok (.if_icmp .le 13, 3) := by decide +kernel
theorem dX6_needWithin_10 : decode cX6_needWithin 10 = .ok (.new 38, 3) := by decide +kernel
theorem dX6_needWithin_13 : decode cX6_needWithin 13 = .ok (.dup, 1) := by decide +kernel
theorem dX6_needWithin_14 : decode cX6_needWithin 14 = .ok (.ldc 254, 2) := by decide +kernel
theorem dX6_needWithin_16 : decode cX6_needWithin 16 = .ok (.invokespecial 42, 3) := by decide +kernel
theorem dX6_needWithin_19 : decode cX6_needWithin 19 = .ok (.athrow, 1) := by decide +kernel
theorem dX6_needWithin_20 : decode cX6_needWithin 20 = .ok (.return_, 1) := by decide +kernel
theorem dX6_needRoomInBook_0 : decode cX6_needRoomInBook 0 = .ok (.aload_n 0, 1) := by decide +kernel
theorem dX6_needRoomInBook_1 : decode cX6_needRoomInBook 1 = .ok (.getfield 24, 3) := by decide +kernel
theorem dX6_needRoomInBook_4 : decode cX6_needRoomInBook 4 = .ok (.invokevirtual 256, 3) := by decide +kernel
theorem dX6_needRoomInBook_7 : decode cX6_needRoomInBook 7 = .ok (.ifCond .eq 14, 3) := by decide +kernel
theorem dX6_needRoomInBook_10 : decode cX6_needRoomInBook 10 = .ok (.new 49, 3) := by decide +kernel
theorem dX6_needRoomInBook_13 : decode cX6_needRoomInBook 13 = .ok (.dup, 1) := by decide +kernel
theorem dX6_needRoomInBook_14 : decode cX6_needRoomInBook 14 = .ok (.ldc_w 260, 3) := by decide +kernel
theorem dX6_needRoomInBook_17 : decode cX6_needRoomInBook 17 = .ok (.invokespecial 53, 3) := by decide +kernel
theorem dX6_needRoomInBook_20 : decode cX6_needRoomInBook 20 = .ok (.athrow, 1) := by decide +kernel
theorem dX6_needRoomInBook_21 : decode cX6_needRoomInBook 21 = .ok (.return_, 1) := by decide +kernel
theorem dX6_addParty_0 : decode cX6_addParty 0 = .ok (.aload_n 0, 1) := by decide +kernel
theorem dX6_addParty_1 : decode cX6_addParty 1 = .ok (.getfield 240, 3) := by decide +kernel
theorem dX6_addParty_4 : decode cX6_addParty 4 = .ok (.bipush 10, 2) := by decide +kernel
theorem dX6_addParty_6 : decode cX6_addParty 6 = .ok (.if_icmp .lt 14, 3) := by decide +kernel
theorem dX6_addParty_9 : decode cX6_addParty 9 = .ok (.new 49, 3) := by decide +kernel
theorem dX6_addParty_12 : decode cX6_addParty 12 = .ok (.dup, 1) := by decide +kernel
theorem dX6_addParty_13 : decode cX6_addParty 13 = .ok (.ldc_w 262, 3) := by decide +kernel
theorem dX6_addParty_16 : decode cX6_addParty 16 = .ok (.invokespecial 53, 3) := by decide +kernel
theorem dX6_addParty_19 : decode cX6_addParty 19 = .ok (.athrow, 1) := by decide +kernel
theorem dX6_addParty_20 : decode cX6_addParty 20 = .ok (.aload_n 0, 1) := by decide +kernel
theorem dX6_addParty_21 : decode cX6_addParty 21 = .ok (.getfield 11, 3) := by decide +kernel
theorem dX6_addParty_24 : decode cX6_addParty 24 = .ok (.aload_n 0, 1) := by decide +kernel
theorem dX6_addParty_25 : decode cX6_addParty 25 = .ok (.getfield 240, 3) := by decide +kernel
theorem dX6_addParty_28 : decode cX6_addParty 28 = .ok (.aaload, 1) := by decide +kernel
theorem dX6_addParty_29 : decode cX6_addParty 29 = .ok (.astore_n 3, 1) := by decide +kernel
theorem dX6_addParty_30 : decode cX6_addParty 30 = .ok (.aload_n 3, 1) := by decide +kernel
theorem dX6_addParty_31 : decode cX6_addParty 31 = .ok (.iload_n 1, 1) := by decide +kernel
theorem dX6_addParty_32 : decode cX6_addParty 32 = .ok (.putfield 72, 3) := by decide +kernel
theorem dX6_addParty_35 : decode cX6_addParty 35 = .ok (.aload_n 3, 1) := by decide +kernel
theorem dX6_addParty_36 : decode cX6_addParty 36 = .ok (.iload_n 2, 1) := by decide +kernel
theorem dX6_addParty_37 : decode cX6_addParty 37 = .ok (.putfield 92, 3) := by decide +kernel
theorem dX6_addParty_40 : decode cX6_addParty 40 = .ok (.aload_n 0, 1) := by decide +kernel
theorem dX6_addParty_41 : decode cX6_addParty 41 = .ok (.dup, 1) := by decide +kernel
theorem dX6_addParty_42 : decode cX6_addParty 42 = .ok (.getfield 240, 3) := by decide +kernel
theorem dX6_addParty_45 : decode cX6_addParty 45 = .ok (.iconst 1, 1) := by decide +kernel
theorem dX6_addParty_46 : decode cX6_addParty 46 = .ok (.iadd, 1) := by decide +kernel
theorem dX6_addParty_47 : decode cX6_addParty 47 = .ok (.putfield 240, 3) := by decide +kernel
theorem dX6_addParty_50 : decode cX6_addParty 50 = .ok (.aload_n 0, 1) := by decide +kernel
theorem dX6_addParty_51 : decode cX6_addParty 51 = .ok (.getfield 240, 3) := by decide +kernel
theorem dX6_addParty_54 : decode cX6_addParty 54 = .ok (.iconst 1, 1) := by decide +kernel
theorem dX6_addParty_55 : decode cX6_addParty 55 = .ok (.isub, 1) := by decide +kernel
theorem dX6_addParty_56 : decode cX6_addParty 56 = .ok (.ireturn, 1) := by decide +kernel
theorem dX6_findHomes_0 : decode cX6_findHomes 0 = .ok (.iconst 0, 1) := by decide +kernel
theorem dX6_findHomes_1 : decode cX6_findHomes 1 = .ok (.istore_n 1, 1) := by decide +kernel
theorem dX6_findHomes_2 : decode cX6_findHomes 2 = .ok (.iload_n 1, 1) := by decide +kernel
theorem dX6_findHomes_3 : decode cX6_findHomes 3 = .ok (.aload_n 0, 1) := by decide +kernel
theorem dX6_findHomes_4 : decode cX6_findHomes 4 = .ok (.getfield 240, 3) := by decide +kernel
theorem dX6_findHomes_7 : decode cX6_findHomes 7 = .ok (.if_icmp .ge 31, 3) := by decide +kernel
theorem dX6_findHomes_10 : decode cX6_findHomes 10 = .ok (.aload_n 0, 1) := by decide +kernel
theorem dX6_findHomes_11 : decode cX6_findHomes 11 = .ok (.getfield 11, 3) := by decide +kernel
theorem dX6_findHomes_14 : decode cX6_findHomes 14 = .ok (.iload_n 1, 1) := by decide +kernel
theorem dX6_findHomes_15 : decode cX6_findHomes 15 = .ok (.aaload, 1) := by decide +kernel
theorem dX6_findHomes_16 : decode cX6_findHomes 16 = .ok (.getfield 72, 3) := by decide +kernel
theorem dX6_findHomes_19 : decode cX6_findHomes 19 = .ok (.ifCond .eq 13, 3) := by decide +kernel
theorem dX6_findHomes_22 : decode cX6_findHomes 22 = .ok (.aload_n 0, 1) := by decide +kernel
theorem dX6_findHomes_23 : decode cX6_findHomes 23 = .ok (.getfield 11, 3) := by decide +kernel
theorem dX6_findHomes_26 : decode cX6_findHomes 26 = .ok (.iload_n 1, 1) := by decide +kernel
theorem dX6_findHomes_27 : decode cX6_findHomes 27 = .ok (.aaload, 1) := by decide +kernel
theorem dX6_findHomes_28 : decode cX6_findHomes 28 = .ok (.iconst (-1), 1) := by decide +kernel
theorem dX6_findHomes_29 : decode cX6_findHomes 29 = .ok (.putfield 92, 3) := by decide +kernel
theorem dX6_findHomes_32 : decode cX6_findHomes 32 = .ok (.iinc 1 1, 3) := by decide +kernel
theorem dX6_findHomes_35 : decode cX6_findHomes 35 = .ok (.goto (-33), 3) := by decide +kernel
theorem dX6_findHomes_38 : decode cX6_findHomes 38 = .ok (.iconst 0, 1) := by decide +kernel
theorem dX6_findHomes_39 : decode cX6_findHomes 39 = .ok (.istore_n 1, 1) := by decide +kernel
theorem dX6_findHomes_40 : decode cX6_findHomes 40 = .ok (.iload_n 1, 1) := by decide +kernel
theorem dX6_findHomes_41 : decode cX6_findHomes 41 = .ok (.iconst 5, 1) := by decide +kernel
theorem dX6_findHomes_42 : decode cX6_findHomes 42 = .ok (.if_icmp .ge 93, 3) := by decide +kernel
theorem dX6_findHomes_45 : decode cX6_findHomes 45 = .ok (.iconst 0, 1) := by decide +kernel
theorem dX6_findHomes_46 : decode cX6_findHomes 46 = .ok (.istore_n 2, 1) := by decide +kernel
theorem dX6_findHomes_47 : decode cX6_findHomes 47 = .ok (.iload_n 2, 1) := by decide +kernel
theorem dX6_findHomes_48 : decode cX6_findHomes 48 = .ok (.aload_n 0, 1) := by decide +kernel
theorem dX6_findHomes_49 : decode cX6_findHomes 49 = .ok (.getfield 240, 3) := by decide +kernel
theorem dX6_findHomes_52 : decode cX6_findHomes 52 = .ok (.if_icmp .ge 31, 3) := by decide +kernel
theorem dX6_findHomes_55 : decode cX6_findHomes 55 = .ok (.aload_n 0, 1) := by decide +kernel
theorem dX6_findHomes_56 : decode cX6_findHomes 56 = .ok (.getfield 11, 3) := by decide +kernel
theorem dX6_findHomes_59 : decode cX6_findHomes 59 = .ok (.iload_n 2, 1) := by decide +kernel
theorem dX6_findHomes_60 : decode cX6_findHomes 60 = .ok (.aaload, 1) := by decide +kernel
theorem dX6_findHomes_61 : decode cX6_findHomes 61 = .ok (.aload_n 0, 1) := by decide +kernel
theorem dX6_findHomes_62 : decode cX6_findHomes 62 = .ok (.aload_n 0, 1) := by decide +kernel
theorem dX6_findHomes_63 : decode cX6_findHomes 63 = .ok (.getfield 11, 3) := by decide +kernel
theorem dX6_findHomes_66 : decode cX6_findHomes 66 = .ok (.iload_n 2, 1) := by decide +kernel
theorem dX6_findHomes_67 : decode cX6_findHomes 67 = .ok (.aaload, 1) := by decide +kernel
theorem dX6_findHomes_68 : decode cX6_findHomes 68 = .ok (.getfield 69, 3) := by decide +kernel
theorem dX6_findHomes_71 : decode cX6_findHomes 71 = .ok (.invokevirtual 118, 3) := by decide +kernel
theorem dX6_findHomes_74 : decode cX6_findHomes 74 = .ok (.putfield 264, 3) := by decide +kernel
theorem dX6_findHomes_77 : decode cX6_findHomes 77 = .ok (.iinc 2 1, 3) := by decide +kernel
theorem dX6_findHomes_80 : decode cX6_findHomes 80 = .ok (.goto (-33), 3) := by decide +kernel
theorem dX6_findHomes_83 : decode cX6_findHomes 83 = .ok (.iconst 0, 1) := by decide +kernel
theorem dX6_findHomes_84 : decode cX6_findHomes 84 = .ok (.istore_n 2, 1) := by decide +kernel
theorem dX6_findHomes_85 : decode cX6_findHomes 85 = .ok (.iload_n 2, 1) := by decide +kernel
theorem dX6_findHomes_86 : decode cX6_findHomes 86 = .ok (.aload_n 0, 1) := by decide +kernel
theorem dX6_findHomes_87 : decode cX6_findHomes 87 = .ok (.getfield 240, 3) := by decide +kernel
theorem dX6_findHomes_90 : decode cX6_findHomes 90 = .ok (.if_icmp .ge 39, 3) := by decide +kernel
theorem dX6_findHomes_93 : decode cX6_findHomes 93 = .ok (.aload_n 0, 1) := by decide +kernel
theorem dX6_findHomes_94 : decode cX6_findHomes 94 = .ok (.getfield 11, 3) := by decide +kernel
theorem dX6_findHomes_97 : decode cX6_findHomes 97 = .ok (.iload_n 2, 1) := by decide +kernel
theorem dX6_findHomes_98 : decode cX6_findHomes 98 = .ok (.aaload, 1) := by decide +kernel
theorem dX6_findHomes_99 : decode cX6_findHomes 99 = .ok (.getfield 72, 3) := by decide +kernel
theorem dX6_findHomes_102 : decode cX6_findHomes 102 = .ok (.ifCond .eq 21, 3) := by decide +kernel
theorem dX6_findHomes_105 : decode cX6_findHomes 105 = .ok (.aload_n 0, 1) := by decide +kernel
theorem dX6_findHomes_106 : decode cX6_findHomes 106 = .ok (.getfield 11, 3) := by decide +kernel
theorem dX6_findHomes_109 : decode cX6_findHomes 109 = .ok (.iload_n 2, 1) := by decide +kernel
theorem dX6_findHomes_110 : decode cX6_findHomes 110 = .ok (.aaload, 1) := by decide +kernel
theorem dX6_findHomes_111 : decode cX6_findHomes 111 = .ok (.aload_n 0, 1) := by decide +kernel
theorem dX6_findHomes_112 : decode cX6_findHomes 112 = .ok (.getfield 11, 3) := by decide +kernel
theorem dX6_findHomes_115 : decode cX6_findHomes 115 = .ok (.iload_n 2, 1) := by decide +kernel
theorem dX6_findHomes_116 : decode cX6_findHomes 116 = .ok (.aaload, 1) := by decide +kernel
theorem dX6_findHomes_117 : decode cX6_findHomes 117 = .ok (.getfield 264, 3) := by decide +kernel
theorem dX6_findHomes_120 : decode cX6_findHomes 120 = .ok (.putfield 92, 3) := by decide +kernel
theorem dX6_findHomes_123 : decode cX6_findHomes 123 = .ok (.iinc 2 1, 3) := by decide +kernel
theorem dX6_findHomes_126 : decode cX6_findHomes 126 = .ok (.goto (-41), 3) := by decide +kernel
theorem dX6_findHomes_129 : decode cX6_findHomes 129 = .ok (.iinc 1 1, 3) := by decide +kernel
theorem dX6_findHomes_132 : decode cX6_findHomes 132 = .ok (.goto (-92), 3) := by decide +kernel
theorem dX6_findHomes_135 : decode cX6_findHomes 135 = .ok (.return_, 1) := by decide +kernel
theorem dX6_landOfMost_0 : decode cX6_landOfMost 0 = .ok (.aload_n 0, 1) := by decide +kernel
theorem dX6_landOfMost_1 : decode cX6_landOfMost 1 = .ok (.getfield 32, 3) := by decide +kernel
theorem dX6_landOfMost_4 : decode cX6_landOfMost 4 = .ok (.iconst 0, 1) := by decide +kernel
theorem dX6_landOfMost_5 : decode cX6_landOfMost 5 = .ok (.invokestatic 267, 3) := by decide +kernel
theorem dX6_landOfMost_8 : decode cX6_landOfMost 8 = .ok (.iconst 0, 1) := by decide +kernel
theorem dX6_landOfMost_9 : decode cX6_landOfMost 9 = .ok (.istore_n 2, 1) := by decide +kernel
theorem dX6_landOfMost_10 : decode cX6_landOfMost 10 = .ok (.iload_n 2, 1) := by decide +kernel
theorem dX6_landOfMost_11 : decode cX6_landOfMost 11 = .ok (.aload_n 0, 1) := by decide +kernel
theorem dX6_landOfMost_12 : decode cX6_landOfMost 12 = .ok (.getfield 240, 3) := by decide +kernel
theorem dX6_landOfMost_15 : decode cX6_landOfMost 15 = .ok (.if_icmp .ge 46, 3) := by decide +kernel
theorem dX6_landOfMost_18 : decode cX6_landOfMost 18 = .ok (.iload_n 2, 1) := by decide +kernel
theorem dX6_landOfMost_19 : decode cX6_landOfMost 19 = .ok (.aload_n 1, 1) := by decide +kernel
theorem dX6_landOfMost_20 : decode cX6_landOfMost 20 = .ok (.arraylength, 1) := by decide +kernel
theorem dX6_landOfMost_21 : decode cX6_landOfMost 21 = .ok (.if_icmp .ge 40, 3) := by decide +kernel
theorem dX6_landOfMost_24 : decode cX6_landOfMost 24 = .ok (.aload_n 0, 1) := by decide +kernel
theorem dX6_landOfMost_25 : decode cX6_landOfMost 25 = .ok (.getfield 11, 3) := by decide +kernel
theorem dX6_landOfMost_28 : decode cX6_landOfMost 28 = .ok (.iload_n 2, 1) := by decide +kernel
theorem dX6_landOfMost_29 : decode cX6_landOfMost 29 = .ok (.aaload, 1) := by decide +kernel
theorem dX6_landOfMost_30 : decode cX6_landOfMost 30 = .ok (.getfield 92, 3) := by decide +kernel
theorem dX6_landOfMost_33 : decode cX6_landOfMost 33 = .ok (.istore_n 3, 1) := by decide +kernel
theorem dX6_landOfMost_34 : decode cX6_landOfMost 34 = .ok (.iload_n 3, 1) := by decide +kernel
theorem dX6_landOfMost_35 : decode cX6_landOfMost 35 = .ok (.ifCond .lt 20, 3) := by decide +kernel
theorem dX6_landOfMost_38 : decode cX6_landOfMost 38 = .ok (.iload_n 3, 1) := by decide +kernel
theorem dX6_landOfMost_39 : decode cX6_landOfMost 39 = .ok (.iconst 4, 1) := by decide +kernel
theorem dX6_landOfMost_40 : decode cX6_landOfMost 40 = .ok (.if_icmp .ge 15, 3) := by decide +kernel
theorem dX6_landOfMost_43 : decode cX6_landOfMost 43 = .ok (.aload_n 0, 1) := by decide +kernel
theorem dX6_landOfMost_44 : decode cX6_landOfMost 44 = .ok (.getfield 32, 3) := by decide +kernel
theorem dX6_landOfMost_47 : decode cX6_landOfMost 47 = .ok (.iload_n 3, 1) := by decide +kernel
theorem dX6_landOfMost_48 : decode cX6_landOfMost 48 = .ok (.dup2, 1) := by decide +kernel
theorem dX6_landOfMost_49 : decode cX6_landOfMost 49 = .ok (.iaload, 1) := by decide +kernel
theorem dX6_landOfMost_50 : decode cX6_landOfMost 50 = .ok (.aload_n 1, 1) := by decide +kernel
theorem dX6_landOfMost_51 : decode cX6_landOfMost 51 = .ok (.iload_n 2, 1) := by decide +kernel
theorem dX6_landOfMost_52 : decode cX6_landOfMost 52 = .ok (.iaload, 1) := by decide +kernel
theorem dX6_landOfMost_53 : decode cX6_landOfMost 53 = .ok (.iadd, 1) := by decide +kernel
theorem dX6_landOfMost_54 : decode cX6_landOfMost 54 = .ok (.iastore, 1) := by decide +kernel
theorem dX6_landOfMost_55 : decode cX6_landOfMost 55 = .ok (.iinc 2 1, 3) := by decide +kernel
theorem dX6_landOfMost_58 : decode cX6_landOfMost 58 = .ok (.goto (-48), 3) := by decide +kernel
theorem dX6_landOfMost_61 : decode cX6_landOfMost 61 = .ok (.iconst 0, 1) := by decide +kernel
theorem dX6_landOfMost_62 : decode cX6_landOfMost 62 = .ok (.istore_n 2, 1) := by decide +kernel
theorem dX6_landOfMost_63 : decode cX6_landOfMost 63 = .ok (.iload_n 2, 1) := by decide +kernel
theorem dX6_landOfMost_64 : decode cX6_landOfMost 64 = .ok (.iconst 4, 1) := by decide +kernel
theorem dX6_landOfMost_65 : decode cX6_landOfMost 65 = .ok (.if_icmp .ge 22, 3) := by decide +kernel
theorem dX6_landOfMost_68 : decode cX6_landOfMost 68 = .ok (.aload_n 0, 1) := by decide +kernel
theorem dX6_landOfMost_69 : decode cX6_landOfMost 69 = .ok (.getfield 32, 3) := by decide +kernel
theorem dX6_landOfMost_72 : decode cX6_landOfMost 72 = .ok (.iload_n 2, 1) := by decide +kernel
theorem dX6_landOfMost_73 : decode cX6_landOfMost 73 = .ok (.iaload, 1) := by decide +kernel
theorem dX6_landOfMost_74 : decode cX6_landOfMost 74 = .ok (.bipush 32, 2) := by decide +kernel
theorem dX6_landOfMost_76 : decode cX6_landOfMost 76 = .ok (.if_icmp .le 5, 3) := by decide +kernel
theorem dX6_landOfMost_79 : decode cX6_landOfMost 79 = .ok (.iload_n 2, 1) := by decide +kernel
theorem dX6_landOfMost_80 : decode cX6_landOfMost 80 = .ok (.ireturn, 1) := by decide +kernel
theorem dX6_landOfMost_81 : decode cX6_landOfMost 81 = .ok (.iinc 2 1, 3) := by decide +kernel
theorem dX6_landOfMost_84 : decode cX6_landOfMost 84 = .ok (.goto (-21), 3) := by decide +kernel
theorem dX6_landOfMost_87 : decode cX6_landOfMost 87 = .ok (.iconst (-1), 1) := by decide +kernel
theorem dX6_landOfMost_88 : decode cX6_landOfMost 88 = .ok (.ireturn, 1) := by decide +kernel
theorem dX6_checkGrace_0 : decode cX6_checkGrace 0 = .ok (.aload_n 1, 1) := by decide +kernel
theorem dX6_checkGrace_1 : decode cX6_checkGrace 1 = .ok (.getfield 132, 3) := by decide +kernel
theorem dX6_checkGrace_4 : decode cX6_checkGrace 4 = .ok (.iconst (-1), 1) := by decide +kernel
theorem dX6_checkGrace_5 : decode cX6_checkGrace 5 = .ok (.if_icmp .eq 18, 3) := by decide +kernel
theorem dX6_checkGrace_8 : decode cX6_checkGrace 8 = .ok (.aload_n 0, 1) := by decide +kernel
theorem dX6_checkGrace_9 : decode cX6_checkGrace 9 = .ok (.aload_n 1, 1) := by decide +kernel
theorem dX6_checkGrace_10 : decode cX6_checkGrace 10 = .ok (.getfield 113, 3) := by decide +kernel
theorem dX6_checkGrace_13 : decode cX6_checkGrace 13 = .ok (.invokevirtual 118, 3) := by decide +kernel
theorem dX6_checkGrace_16 : decode cX6_checkGrace 16 = .ok (.aload_n 1, 1) := by decide +kernel
theorem dX6_checkGrace_17 : decode cX6_checkGrace 17 = .ok (.getfield 132, 3) := by decide +kernel
theorem dX6_checkGrace_20 : decode cX6_checkGrace 20 = .ok (.if_icmp .ne 13, 3) := by decide +kernel
theorem dX6_checkGrace_23 : decode cX6_checkGrace 23 = .ok (.aload_n 1, 1) := by decide +kernel
theorem dX6_checkGrace_24 : decode cX6_checkGrace 24 = .ok (.ldc2_w 135, 3) := by decide +kernel
theorem dX6_checkGrace_27 : decode cX6_checkGrace 27 = .ok (.putfield 137, 3) := by decide +kernel
theorem dX6_checkGrace_30 : decode cX6_checkGrace 30 = .ok (.goto 22, 3) := by decide +kernel
theorem dX6_checkGrace_33 : decode cX6_checkGrace 33 = .ok (.aload_n 1, 1) := by decide +kernel
theorem dX6_checkGrace_34 : decode cX6_checkGrace 34 = .ok (.getfield 137, 3) := by decide +kernel
theorem dX6_checkGrace_37 : decode cX6_checkGrace 37 = .ok (.ldc2_w 135, 3) := by decide +kernel
theorem dX6_checkGrace_40 : decode cX6_checkGrace 40 = .ok (.lcmp, 1) := by decide +kernel
theorem dX6_checkGrace_41 : decode cX6_checkGrace 41 = .ok (.ifCond .ne 11, 3) := by decide +kernel
theorem dX6_checkGrace_44 : decode cX6_checkGrace 44 = .ok (.aload_n 1, 1) := by decide +kernel
theorem dX6_checkGrace_45 : decode cX6_checkGrace 45 = .ok (.aload_n 0, 1) := by decide +kernel
theorem dX6_checkGrace_46 : decode cX6_checkGrace 46 = .ok (.getfield 124, 3) := by decide +kernel
theorem dX6_checkGrace_49 : decode cX6_checkGrace 49 = .ok (.putfield 137, 3) := by decide +kernel
theorem dX6_checkGrace_52 : decode cX6_checkGrace 52 = .ok (.return_, 1) := by decide +kernel
theorem dX6_payLiens_0 : decode cX6_payLiens 0 = .ok (.lload_n 2, 1) := by decide +kernel
theorem dX6_payLiens_1 : decode cX6_payLiens 1 = .ok (.lstore 4, 2) := by decide +kernel
theorem dX6_payLiens_3 : decode cX6_payLiens 3 = .ok (.aload_n 0, 1) := by decide +kernel
theorem dX6_payLiens_4 : decode cX6_payLiens 4 = .ok (.getfield 24, 3) := by decide +kernel
theorem dX6_payLiens_7 : decode cX6_payLiens 7 = .ok (.iload_n 1, 1) := by decide +kernel
theorem dX6_payLiens_8 : decode cX6_payLiens 8 = .ok (.invokevirtual 223, 3) := by decide +kernel
theorem dX6_payLiens_11 : decode cX6_payLiens 11 = .ok (.istore 6, 2) := by decide +kernel
theorem dX6_payLiens_13 : decode cX6_payLiens 13 = .ok (.iconst 0, 1) := by decide +kernel
theorem dX6_payLiens_14 : decode cX6_payLiens 14 = .ok (.istore 7, 2) := by decide +kernel
theorem dX6_payLiens_16 : decode cX6_payLiens 16 = .ok (.iload 7, 2) := by decide +kernel
theorem dX6_payLiens_18 : decode cX6_payLiens 18 = .ok (.iconst 4, 1) := by decide +kernel
theorem dX6_payLiens_19 : decode cX6_payLiens 19 = .ok (.if_icmp .ge 93, 3) := by decide +kernel
theorem dX6_payLiens_22 : decode cX6_payLiens 22 = .ok (.aload_n 0, 1) := by decide +kernel
theorem dX6_payLiens_23 : decode cX6_payLiens 23 = .ok (.getfield 24, 3) := by decide +kernel
theorem dX6_payLiens_26 : decode cX6_payLiens 26 = .ok (.getfield 153, 3) := by decide +kernel
theorem dX6_payLiens_29 : decode cX6_payLiens 29 = .ok (.iconst 1, 1) := by decide +kernel
theorem dX6_payLiens_30 : decode cX6_payLiens 30 = .ok (.isub, 1) := by decide +kernel
theorem dX6_payLiens_31 : decode cX6_payLiens 31 = .ok (.istore 8, 2) := by decide +kernel
theorem dX6_payLiens_33 : decode cX6_payLiens 33 = .ok (.iload 8, 2) := by decide +kernel
theorem dX6_payLiens_35 : decode cX6_payLiens 35 = .ok (.iload 6, 2) := by decide +kernel
theorem dX6_payLiens_37 : decode cX6_payLiens 37 = .ok (.if_icmp .lt 69, 3) := by decide +kernel
theorem dX6_payLiens_40 : decode cX6_payLiens 40 = .ok (.aload_n 0, 1) := by decide +kernel
theorem dX6_payLiens_41 : decode cX6_payLiens 41 = .ok (.getfield 24, 3) := by decide +kernel
theorem dX6_payLiens_44 : decode cX6_payLiens 44 = .ok (.getfield 227, 3) := by decide +kernel
theorem dX6_payLiens_47 : decode cX6_payLiens 47 = .ok (.iload 8, 2) := by decide +kernel
theorem dX6_payLiens_49 : decode cX6_payLiens 49 = .ok (.aaload, 1) := by decide +kernel
theorem dX6_payLiens_50 : decode cX6_payLiens 50 = .ok (.astore 9, 2) := by decide +kernel
theorem dX6_payLiens_52 : decode cX6_payLiens 52 = .ok (.aload 9, 2) := by decide +kernel
theorem dX6_payLiens_54 : decode cX6_payLiens 54 = .ok (.iload_n 1, 1) := by decide +kernel
theorem dX6_payLiens_55 : decode cX6_payLiens 55 = .ok (.aload_n 0, 1) := by decide +kernel
theorem dX6_payLiens_56 : decode cX6_payLiens 56 = .ok (.getfield 124, 3) := by decide +kernel
theorem dX6_payLiens_59 : decode cX6_payLiens 59 = .ok (.invokevirtual 231, 3) := by decide +kernel
theorem dX6_payLiens_62 : decode cX6_payLiens 62 = .ok (.ifCond .eq 38, 3) := by decide +kernel
theorem dX6_payLiens_65 : decode cX6_payLiens 65 = .ok (.aload 9, 2) := by decide +kernel
theorem dX6_payLiens_67 : decode cX6_payLiens 67 = .ok (.getfield 181, 3) := by decide +kernel
theorem dX6_payLiens_70 : decode cX6_payLiens 70 = .ok (.iload 7, 2) := by decide +kernel
theorem dX6_payLiens_72 : decode cX6_payLiens 72 = .ok (.if_icmp .ne 28, 3) := by decide +kernel
theorem dX6_payLiens_75 : decode cX6_payLiens 75 = .ok (.lload 4, 2) := by decide +kernel
theorem dX6_payLiens_77 : decode cX6_payLiens 77 = .ok (.aload_n 0, 1) := by decide +kernel
theorem dX6_payLiens_78 : decode cX6_payLiens 78 = .ok (.aload 9, 2) := by decide +kernel
theorem dX6_payLiens_80 : decode cX6_payLiens 80 = .ok (.getfield 273, 3) := by decide +kernel
theorem dX6_payLiens_83 : decode cX6_payLiens 83 = .ok (.lload 4, 2) := by decide +kernel
theorem dX6_payLiens_85 : decode cX6_payLiens 85 = .ok (.aload 9, 2) := by decide +kernel
theorem dX6_payLiens_87 : decode cX6_payLiens 87 = .ok (.getfield 186, 3) := by decide +kernel
theorem dX6_payLiens_90 : decode cX6_payLiens 90 = .ok (.i2l, 1) := by decide +kernel
theorem dX6_payLiens_91 : decode cX6_payLiens 91 = .ok (.invokestatic 276, 3) := by decide +kernel
theorem dX6_payLiens_94 : decode cX6_payLiens 94 = .ok (.invokevirtual 282, 3) := by decide +kernel
theorem dX6_payLiens_97 : decode cX6_payLiens 97 = .ok (.lsub, 1) := by decide +kernel
theorem dX6_payLiens_98 : decode cX6_payLiens 98 = .ok (.lstore 4, 2) := by decide +kernel
theorem dX6_payLiens_100 : decode cX6_payLiens 100 = .ok (.iinc 8 (-1), 3) := by decide +kernel
theorem dX6_payLiens_103 : decode cX6_payLiens 103 = .ok (.goto (-70), 3) := by decide +kernel
theorem dX6_payLiens_106 : decode cX6_payLiens 106 = .ok (.iinc 7 1, 3) := by decide +kernel
theorem dX6_payLiens_109 : decode cX6_payLiens 109 = .ok (.goto (-93), 3) := by decide +kernel
theorem dX6_payLiens_112 : decode cX6_payLiens 112 = .ok (.lload 4, 2) := by decide +kernel
theorem dX6_payLiens_114 : decode cX6_payLiens 114 = .ok (.lreturn, 1) := by decide +kernel
theorem dX6_payMortgages_0 : decode cX6_payMortgages 0 = .ok (.lload_n 2, 1) := by decide +kernel
theorem dX6_payMortgages_1 : decode cX6_payMortgages 1 = .ok (.lstore 4, 2) := by decide +kernel
theorem dX6_payMortgages_3 : decode cX6_payMortgages 3 = .ok (.aload_n 0, 1) := by decide +kernel
theorem dX6_payMortgages_4 : decode cX6_payMortgages 4 = .ok (.getfield 24, 3) := by decide +kernel
theorem dX6_payMortgages_7 : decode cX6_payMortgages 7 = .ok (.iload_n 1, 1) := by decide +kernel
theorem dX6_payMortgages_8 : decode cX6_payMortgages 8 = .ok (.aload_n 0, 1) := by decide +kernel
theorem dX6_payMortgages_9 : decode cX6_payMortgages 9 = .ok (.getfield 124, 3) := by decide +kernel
theorem dX6_payMortgages_12 : decode cX6_payMortgages 12 = .ok (.invokevirtual 285, 3) := by decide +kernel
theorem dX6_payMortgages_15 : decode cX6_payMortgages 15 = .ok (.iconst 0, 1) := by decide +kernel
theorem dX6_payMortgages_16 : decode cX6_payMortgages 16 = .ok (.istore 6, 2) := by decide +kernel
theorem dX6_payMortgages_18 : decode cX6_payMortgages 18 = .ok (.iload 6, 2) := by decide +kernel
theorem dX6_payMortgages_20 : decode cX6_payMortgages 20 = .ok (.aload_n 0, 1) := by decide +kernel
theorem dX6_payMortgages_21 : decode cX6_payMortgages 21 = .ok (.getfield 24, 3) := by decide +kernel
theorem dX6_payMortgages_24 : decode cX6_payMortgages 24 = .ok (.getfield 153, 3) := by decide +kernel
theorem dX6_payMortgages_27 : decode cX6_payMortgages 27 = .ok (.if_icmp .ge 75, 3) := by decide +kernel
theorem dX6_payMortgages_30 : decode cX6_payMortgages 30 = .ok (.aload_n 0, 1) := by decide +kernel
theorem dX6_payMortgages_31 : decode cX6_payMortgages 31 = .ok (.getfield 24, 3) := by decide +kernel
theorem dX6_payMortgages_34 : decode cX6_payMortgages 34 = .ok (.getfield 289, 3) := by decide +kernel
theorem dX6_payMortgages_37 : decode cX6_payMortgages 37 = .ok (.iload 6, 2) := by decide +kernel
theorem dX6_payMortgages_39 : decode cX6_payMortgages 39 = .ok (.iaload, 1) := by decide +kernel
theorem dX6_payMortgages_40 : decode cX6_payMortgages 40 = .ok (.istore 7, 2) := by decide +kernel
theorem dX6_payMortgages_42 : decode cX6_payMortgages 42 = .ok (.iload 7, 2) := by decide +kernel
theorem dX6_payMortgages_44 : decode cX6_payMortgages 44 = .ok (.ifCond .lt 52, 3) := by decide +kernel
theorem dX6_payMortgages_47 : decode cX6_payMortgages 47 = .ok (.iload 7, 2) := by decide +kernel
theorem dX6_payMortgages_49 : decode cX6_payMortgages 49 = .ok (.aload_n 0, 1) := by decide +kernel
theorem dX6_payMortgages_50 : decode cX6_payMortgages 50 = .ok (.getfield 24, 3) := by decide +kernel
theorem dX6_payMortgages_53 : decode cX6_payMortgages 53 = .ok (.getfield 247, 3) := by decide +kernel
theorem dX6_payMortgages_56 : decode cX6_payMortgages 56 = .ok (.if_icmp .ge 40, 3) := by decide +kernel
theorem dX6_payMortgages_59 : decode cX6_payMortgages 59 = .ok (.aload_n 0, 1) := by decide +kernel
theorem dX6_payMortgages_60 : decode cX6_payMortgages 60 = .ok (.getfield 24, 3) := by decide +kernel
theorem dX6_payMortgages_63 : decode cX6_payMortgages 63 = .ok (.getfield 292, 3) := by decide +kernel
theorem dX6_payMortgages_66 : decode cX6_payMortgages 66 = .ok (.iload 7, 2) := by decide +kernel
theorem dX6_payMortgages_68 : decode cX6_payMortgages 68 = .ok (.aaload, 1) := by decide +kernel
theorem dX6_payMortgages_69 : decode cX6_payMortgages 69 = .ok (.astore 8, 2) := by decide +kernel
theorem dX6_payMortgages_71 : decode cX6_payMortgages 71 = .ok (.lload 4, 2) := by decide +kernel
theorem dX6_payMortgages_73 : decode cX6_payMortgages 73 = .ok (.aload_n 0, 1) := by decide +kernel
theorem dX6_payMortgages_74 : decode cX6_payMortgages 74 = .ok (.aload 8, 2) := by decide +kernel
theorem dX6_payMortgages_76 : decode cX6_payMortgages 76 = .ok (.getfield 296, 3) := by decide +kernel
theorem dX6_payMortgages_79 : decode cX6_payMortgages 79 = .ok (.lload 4, 2) := by decide +kernel
theorem dX6_payMortgages_81 : decode cX6_payMortgages 81 = .ok (.aload 8, 2) := by decide +kernel
theorem dX6_payMortgages_83 : decode cX6_payMortgages 83 = .ok (.getfield 299, 3) := by decide +kernel
theorem dX6_payMortgages_86 : decode cX6_payMortgages 86 = .ok (.i2l, 1) := by decide +kernel
theorem dX6_payMortgages_87 : decode cX6_payMortgages 87 = .ok (.invokestatic 276, 3) := by decide +kernel
theorem dX6_payMortgages_90 : decode cX6_payMortgages 90 = .ok (.invokevirtual 282, 3) := by decide +kernel
theorem dX6_payMortgages_93 : decode cX6_payMortgages 93 = .ok (.lsub, 1) := by decide +kernel
theorem dX6_payMortgages_94 : decode cX6_payMortgages 94 = .ok (.lstore 4, 2) := by decide +kernel
theorem dX6_payMortgages_96 : decode cX6_payMortgages 96 = .ok (.iinc 6 1, 3) := by decide +kernel
theorem dX6_payMortgages_99 : decode cX6_payMortgages 99 = .ok (.goto (-81), 3) := by decide +kernel
theorem dX6_payMortgages_102 : decode cX6_payMortgages 102 = .ok (.lload 4, 2) := by decide +kernel
theorem dX6_payMortgages_104 : decode cX6_payMortgages 104 = .ok (.lreturn, 1) := by decide +kernel
theorem dX6_payOwners_0 : decode cX6_payOwners 0 = .ok (.lload_n 2, 1) := by decide +kernel
theorem dX6_payOwners_1 : decode cX6_payOwners 1 = .ok (.lstore 4, 2) := by decide +kernel
theorem dX6_payOwners_3 : decode cX6_payOwners 3 = .ok (.iconst 0, 1) := by decide +kernel
theorem dX6_payOwners_4 : decode cX6_payOwners 4 = .ok (.istore 6, 2) := by decide +kernel
theorem dX6_payOwners_6 : decode cX6_payOwners 6 = .ok (.iload 6, 2) := by decide +kernel
theorem dX6_payOwners_8 : decode cX6_payOwners 8 = .ok (.aload_n 0, 1) := by decide +kernel
theorem dX6_payOwners_9 : decode cX6_payOwners 9 = .ok (.getfield 240, 3) := by decide +kernel
theorem dX6_payOwners_12 : decode cX6_payOwners 12 = .ok (.if_icmp .ge 34, 3) := by decide +kernel
theorem dX6_payOwners_15 : decode cX6_payOwners 15 = .ok (.lload 4, 2) := by decide +kernel
theorem dX6_payOwners_17 : decode cX6_payOwners 17 = .ok (.aload_n 0, 1) := by decide +kernel
theorem dX6_payOwners_18 : decode cX6_payOwners 18 = .ok (.iload 6, 2) := by decide +kernel
theorem dX6_payOwners_20 : decode cX6_payOwners 20 = .ok (.lload_n 2, 1) := by decide +kernel
theorem dX6_payOwners_21 : decode cX6_payOwners 21 = .ok (.aload_n 1, 1) := by decide +kernel
theorem dX6_payOwners_22 : decode cX6_payOwners 22 = .ok (.getfield 113, 3) := by decide +kernel
theorem dX6_payOwners_25 : decode cX6_payOwners 25 = .ok (.iload 6, 2) := by decide +kernel
theorem dX6_payOwners_27 : decode cX6_payOwners 27 = .ok (.iaload, 1) := by decide +kernel
theorem dX6_payOwners_28 : decode cX6_payOwners 28 = .ok (.i2l, 1) := by decide +kernel
theorem dX6_payOwners_29 : decode cX6_payOwners 29 = .ok (.lmul, 1) := by decide +kernel
theorem dX6_payOwners_30 : decode cX6_payOwners 30 = .ok (.ldc2_w 300, 3) := by decide +kernel
theorem dX6_payOwners_33 : decode cX6_payOwners 33 = .ok (.ldiv, 1) := by decide +kernel
theorem dX6_payOwners_34 : decode cX6_payOwners 34 = .ok (.invokevirtual 282, 3) := by decide +kernel
theorem dX6_payOwners_37 : decode cX6_payOwners 37 = .ok (.lsub, 1) := by decide +kernel
theorem dX6_payOwners_38 : decode cX6_payOwners 38 = .ok (.lstore 4, 2) := by decide +kernel
theorem dX6_payOwners_40 : decode cX6_payOwners 40 = .ok (.iinc 6 1, 3) := by decide +kernel
theorem dX6_payOwners_43 : decode cX6_payOwners 43 = .ok (.goto (-37), 3) := by decide +kernel
theorem dX6_payOwners_46 : decode cX6_payOwners 46 = .ok (.lload 4, 2) := by decide +kernel
theorem dX6_payOwners_48 : decode cX6_payOwners 48 = .ok (.lreturn, 1) := by decide +kernel
theorem dX6_pay_0 : decode cX6_pay 0 = .ok (.iload_n 1, 1) := by decide +kernel
theorem dX6_pay_1 : decode cX6_pay 1 = .ok (.ifCond .lt 11, 3) := by decide +kernel
theorem dX6_pay_4 : decode cX6_pay 4 = .ok (.iload_n 1, 1) := by decide +kernel
theorem dX6_pay_5 : decode cX6_pay 5 = .ok (.aload_n 0, 1) := by decide +kernel
theorem dX6_pay_6 : decode cX6_pay 6 = .ok (.getfield 240, 3) := by decide +kernel
theorem dX6_pay_9 : decode cX6_pay 9 = .ok (.if_icmp .lt 5, 3) := by decide +kernel
theorem dX6_pay_12 : decode cX6_pay 12 = .ok (.lconst 0, 1) := by decide +kernel
theorem dX6_pay_13 : decode cX6_pay 13 = .ok (.lreturn, 1) := by decide +kernel
theorem dX6_pay_14 : decode cX6_pay 14 = .ok (.aload_n 0, 1) := by decide +kernel
theorem dX6_pay_15 : decode cX6_pay 15 = .ok (.getfield 11, 3) := by decide +kernel
theorem dX6_pay_18 : decode cX6_pay 18 = .ok (.iload_n 1, 1) := by decide +kernel
theorem dX6_pay_19 : decode cX6_pay 19 = .ok (.aaload, 1) := by decide +kernel
theorem dX6_pay_20 : decode cX6_pay 20 = .ok (.dup, 1) := by decide +kernel
theorem dX6_pay_21 : decode cX6_pay 21 = .ok (.getfield 220, 3) := by decide +kernel
theorem dX6_pay_24 : decode cX6_pay 24 = .ok (.lload_n 2, 1) := by decide +kernel
theorem dX6_pay_25 : decode cX6_pay 25 = .ok (.ladd, 1) := by decide +kernel
theorem dX6_pay_26 : decode cX6_pay 26 = .ok (.putfield 220, 3) := by decide +kernel
theorem dX6_pay_29 : decode cX6_pay 29 = .ok (.lload_n 2, 1) := by decide +kernel
theorem dX6_pay_30 : decode cX6_pay 30 = .ok (.lreturn, 1) := by decide +kernel
theorem dJ9_min_f86c9_0 : decode cJ9_min_f86c9 0 = .ok (.lload_n 0, 1) := by decide +kernel
theorem dJ9_min_f86c9_1 : decode cJ9_min_f86c9 1 = .ok (.lload_n 2, 1) := by decide +kernel
theorem dJ9_min_f86c9_2 : decode cJ9_min_f86c9 2 = .ok (.lcmp, 1) := by decide +kernel
theorem dJ9_min_f86c9_3 : decode cJ9_min_f86c9 3 = .ok (.ifCond .gt 7, 3) := by decide +kernel
theorem dJ9_min_f86c9_6 : decode cJ9_min_f86c9 6 = .ok (.lload_n 0, 1) := by decide +kernel
theorem dJ9_min_f86c9_7 : decode cJ9_min_f86c9 7 = .ok (.goto 4, 3) := by decide +kernel
theorem dJ9_min_f86c9_10 : decode cJ9_min_f86c9 10 = .ok (.lload_n 2, 1) := by decide +kernel
theorem dJ9_min_f86c9_11 : decode cJ9_min_f86c9 11 = .ok (.lreturn, 1) := by decide +kernel
theorem dJ7_fill_53178_0 : decode cJ7_fill_53178 0 = .ok (.iconst 0, 1) := by decide +kernel
theorem dJ7_fill_53178_1 : decode cJ7_fill_53178 1 = .ok (.istore_n 2, 1) := by decide +kernel
theorem dJ7_fill_53178_2 : decode cJ7_fill_53178 2 = .ok (.aload_n 0, 1) := by decide +kernel
theorem dJ7_fill_53178_3 : decode cJ7_fill_53178 3 = .ok (.arraylength, 1) := by decide +kernel
theorem dJ7_fill_53178_4 : decode cJ7_fill_53178 4 = .ok (.istore_n 3, 1) := by decide +kernel
theorem dJ7_fill_53178_5 : decode cJ7_fill_53178 5 = .ok (.iload_n 2, 1) := by decide +kernel
theorem dJ7_fill_53178_6 : decode cJ7_fill_53178 6 = .ok (.iload_n 3, 1) := by decide +kernel
theorem dJ7_fill_53178_7 : decode cJ7_fill_53178 7 = .ok (.if_icmp .ge 13, 3) := by decide +kernel
theorem dJ7_fill_53178_10 : decode cJ7_fill_53178 10 = .ok (.aload_n 0, 1) := by decide +kernel
theorem dJ7_fill_53178_11 : decode cJ7_fill_53178 11 = .ok (.iload_n 2, 1) := by decide +kernel
theorem dJ7_fill_53178_12 : decode cJ7_fill_53178 12 = .ok (.iload_n 1, 1) := by decide +kernel
theorem dJ7_fill_53178_13 : decode cJ7_fill_53178 13 = .ok (.iastore, 1) := by decide +kernel
theorem dJ7_fill_53178_14 : decode cJ7_fill_53178 14 = .ok (.iinc 2 1, 3) := by decide +kernel
theorem dJ7_fill_53178_17 : decode cJ7_fill_53178 17 = .ok (.goto (-12), 3) := by decide +kernel
theorem dJ7_fill_53178_20 : decode cJ7_fill_53178 20 = .ok (.return_, 1) := by decide +kernel
