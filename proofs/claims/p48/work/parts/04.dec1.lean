theorem dX0_init_0 : decode cX0_init 0 = .ok (.aload_n 0, 1) := by decide +kernel
theorem dX0_init_1 : decode cX0_init 1 = .ok (.invokespecial 3, 3) := by decide +kernel
theorem dX0_init_4 : decode cX0_init 4 = .ok (.aload_n 0, 1) := by decide +kernel
theorem dX0_init_5 : decode cX0_init 5 = .ok (.bipush 8, 2) := by decide +kernel
theorem dX0_init_7 : decode cX0_init 7 = .ok (.anewarray 9, 3) := by decide +kernel
theorem dX0_init_10 : decode cX0_init 10 = .ok (.putfield 11, 3) := by decide +kernel
theorem dX0_init_13 : decode cX0_init 13 = .ok (.iconst 0, 1) := by decide +kernel
theorem dX0_init_14 : decode cX0_init 14 = .ok (.istore_n 1, 1) := by decide +kernel
theorem dX0_init_15 : decode cX0_init 15 = .ok (.iload_n 1, 1) := by decide +kernel
theorem dX0_init_16 : decode cX0_init 16 = .ok (.bipush 8, 2) := by decide +kernel
theorem dX0_init_18 : decode cX0_init 18 = .ok (.if_icmp .ge 22, 3) := by decide +kernel
theorem dX0_init_21 : decode cX0_init 21 = .ok (.aload_n 0, 1) := by decide +kernel
theorem dX0_init_22 : decode cX0_init 22 = .ok (.getfield 11, 3) := by decide +kernel
theorem dX0_init_25 : decode cX0_init 25 = .ok (.iload_n 1, 1) := by decide +kernel
theorem dX0_init_26 : decode cX0_init 26 = .ok (.new 9, 3) := by decide +kernel
theorem dX0_init_29 : decode cX0_init 29 = .ok (.dup, 1) := by decide +kernel
theorem dX0_init_30 : decode cX0_init 30 = .ok (.invokespecial 17, 3) := by decide +kernel
theorem dX0_init_33 : decode cX0_init 33 = .ok (.aastore, 1) := by decide +kernel
theorem dX0_init_34 : decode cX0_init 34 = .ok (.iinc 1 1, 3) := by decide +kernel
theorem dX0_init_37 : decode cX0_init 37 = .ok (.goto (-22), 3) := by decide +kernel
theorem dX0_init_40 : decode cX0_init 40 = .ok (.return_, 1) := by decide +kernel
theorem dX0_clear_0 : decode cX0_clear 0 = .ok (.aload_n 0, 1) := by decide +kernel
theorem dX0_clear_1 : decode cX0_clear 1 = .ok (.iconst 0, 1) := by decide +kernel
theorem dX0_clear_2 : decode cX0_clear 2 = .ok (.putfield 18, 3) := by decide +kernel
theorem dX0_clear_5 : decode cX0_clear 5 = .ok (.return_, 1) := by decide +kernel
theorem dX0_push_0 : decode cX0_push 0 = .ok (.aload_n 0, 1) := by decide +kernel
theorem dX0_push_1 : decode cX0_push 1 = .ok (.getfield 11, 3) := by decide +kernel
theorem dX0_push_4 : decode cX0_push 4 = .ok (.aload_n 0, 1) := by decide +kernel
theorem dX0_push_5 : decode cX0_push 5 = .ok (.getfield 22, 3) := by decide +kernel
theorem dX0_push_8 : decode cX0_push 8 = .ok (.aaload, 1) := by decide +kernel
theorem dX0_push_9 : decode cX0_push 9 = .ok (.aload_n 1, 1) := by decide +kernel
theorem dX0_push_10 : decode cX0_push 10 = .ok (.invokevirtual 25, 3) := by decide +kernel
theorem dX0_push_13 : decode cX0_push 13 = .ok (.aload_n 0, 1) := by decide +kernel
theorem dX0_push_14 : decode cX0_push 14 = .ok (.aload_n 0, 1) := by decide +kernel
theorem dX0_push_15 : decode cX0_push 15 = .ok (.getfield 22, 3) := by decide +kernel
theorem dX0_push_18 : decode cX0_push 18 = .ok (.iconst 1, 1) := by decide +kernel
theorem dX0_push_19 : decode cX0_push 19 = .ok (.iadd, 1) := by decide +kernel
theorem dX0_push_20 : decode cX0_push 20 = .ok (.bipush 8, 2) := by decide +kernel
theorem dX0_push_22 : decode cX0_push 22 = .ok (.irem, 1) := by decide +kernel
theorem dX0_push_23 : decode cX0_push 23 = .ok (.putfield 22, 3) := by decide +kernel
theorem dX0_push_26 : decode cX0_push 26 = .ok (.aload_n 0, 1) := by decide +kernel
theorem dX0_push_27 : decode cX0_push 27 = .ok (.aload_n 0, 1) := by decide +kernel
theorem dX0_push_28 : decode cX0_push 28 = .ok (.getfield 18, 3) := by decide +kernel
theorem dX0_push_31 : decode cX0_push 31 = .ok (.iconst 1, 1) := by decide +kernel
theorem dX0_push_32 : decode cX0_push 32 = .ok (.iadd, 1) := by decide +kernel
theorem dX0_push_33 : decode cX0_push 33 = .ok (.bipush 8, 2) := by decide +kernel
theorem dX0_push_35 : decode cX0_push 35 = .ok (.invokestatic 29, 3) := by decide +kernel
theorem dX0_push_38 : decode cX0_push 38 = .ok (.putfield 18, 3) := by decide +kernel
theorem dX0_push_41 : decode cX0_push 41 = .ok (.return_, 1) := by decide +kernel
theorem dX0_popInto_0 : decode cX0_popInto 0 = .ok (.aload_n 0, 1) := by decide +kernel
theorem dX0_popInto_1 : decode cX0_popInto 1 = .ok (.aload_n 0, 1) := by decide +kernel
theorem dX0_popInto_2 : decode cX0_popInto 2 = .ok (.getfield 22, 3) := by decide +kernel
theorem dX0_popInto_5 : decode cX0_popInto 5 = .ok (.bipush 8, 2) := by decide +kernel
theorem dX0_popInto_7 : decode cX0_popInto 7 = .ok (.iadd, 1) := by decide +kernel
theorem dX0_popInto_8 : decode cX0_popInto 8 = .ok (.iconst 1, 1) := by decide +kernel
theorem dX0_popInto_9 : decode cX0_popInto 9 = .ok (.isub, 1) := by decide +kernel
theorem dX0_popInto_10 : decode cX0_popInto 10 = .ok (.bipush 8, 2) := by decide +kernel
theorem dX0_popInto_12 : decode cX0_popInto 12 = .ok (.irem, 1) := by decide +kernel
theorem dX0_popInto_13 : decode cX0_popInto 13 = .ok (.putfield 22, 3) := by decide +kernel
theorem dX0_popInto_16 : decode cX0_popInto 16 = .ok (.aload_n 0, 1) := by decide +kernel
theorem dX0_popInto_17 : decode cX0_popInto 17 = .ok (.dup, 1) := by decide +kernel
theorem dX0_popInto_18 : decode cX0_popInto 18 = .ok (.getfield 18, 3) := by decide +kernel
theorem dX0_popInto_21 : decode cX0_popInto 21 = .ok (.iconst 1, 1) := by decide +kernel
theorem dX0_popInto_22 : decode cX0_popInto 22 = .ok (.isub, 1) := by decide +kernel
theorem dX0_popInto_23 : decode cX0_popInto 23 = .ok (.putfield 18, 3) := by decide +kernel
theorem dX0_popInto_26 : decode cX0_popInto 26 = .ok (.aload_n 1, 1) := by decide +kernel
theorem dX0_popInto_27 : decode cX0_popInto 27 = .ok (.aload_n 0, 1) := by decide +kernel
theorem dX0_popInto_28 : decode cX0_popInto 28 = .ok (.getfield 11, 3) := by decide +kernel
theorem dX0_popInto_31 : decode cX0_popInto 31 = .ok (.aload_n 0, 1) := by decide +kernel
theorem dX0_popInto_32 : decode cX0_popInto 32 = .ok (.getfield 22, 3) := by decide +kernel
theorem dX0_popInto_35 : decode cX0_popInto 35 = .ok (.aaload, 1) := by decide +kernel
theorem dX0_popInto_36 : decode cX0_popInto 36 = .ok (.invokevirtual 25, 3) := by decide +kernel
theorem dX0_popInto_39 : decode cX0_popInto 39 = .ok (.return_, 1) := by decide +kernel
theorem dX1_init_0 : decode cX1_init 0 = .ok (.aload_n 0, 1) := by decide +kernel
theorem dX1_init_1 : decode cX1_init 1 = .ok (.invokespecial 3, 3) := by decide +kernel
theorem dX1_init_4 : decode cX1_init 4 = .ok (.aload_n 0, 1) := by decide +kernel
theorem dX1_init_5 : decode cX1_init 5 = .ok (.bipush 16, 2) := by decide +kernel
theorem dX1_init_7 : decode cX1_init 7 = .ok (.newarray .int, 2) := by decide +kernel
theorem dX1_init_9 : decode cX1_init 9 = .ok (.putfield 9, 3) := by decide +kernel
theorem dX1_init_12 : decode cX1_init 12 = .ok (.aload_n 0, 1) := by decide +kernel
theorem dX1_init_13 : decode cX1_init 13 = .ok (.bipush 16, 2) := by decide +kernel
theorem dX1_init_15 : decode cX1_init 15 = .ok (.newarray .int, 2) := by decide +kernel
theorem dX1_init_17 : decode cX1_init 17 = .ok (.putfield 15, 3) := by decide +kernel
theorem dX1_init_20 : decode cX1_init 20 = .ok (.aload_n 0, 1) := by decide +kernel
theorem dX1_init_21 : decode cX1_init 21 = .ok (.bipush 16, 2) := by decide +kernel
theorem dX1_init_23 : decode cX1_init 23 = .ok (.newarray .int, 2) := by decide +kernel
theorem dX1_init_25 : decode cX1_init 25 = .ok (.putfield 18, 3) := by decide +kernel
theorem dX1_init_28 : decode cX1_init 28 = .ok (.aload_n 0, 1) := by decide +kernel
theorem dX1_init_29 : decode cX1_init 29 = .ok (.bipush 16, 2) := by decide +kernel
theorem dX1_init_31 : decode cX1_init 31 = .ok (.newarray .int, 2) := by decide +kernel
theorem dX1_init_33 : decode cX1_init 33 = .ok (.putfield 21, 3) := by decide +kernel
theorem dX1_init_36 : decode cX1_init 36 = .ok (.aload_n 0, 1) := by decide +kernel
theorem dX1_init_37 : decode cX1_init 37 = .ok (.bipush 16, 2) := by decide +kernel
theorem dX1_init_39 : decode cX1_init 39 = .ok (.newarray .int, 2) := by decide +kernel
theorem dX1_init_41 : decode cX1_init 41 = .ok (.putfield 24, 3) := by decide +kernel
theorem dX1_init_44 : decode cX1_init 44 = .ok (.aload_n 0, 1) := by decide +kernel
theorem dX1_init_45 : decode cX1_init 45 = .ok (.bipush 16, 2) := by decide +kernel
theorem dX1_init_47 : decode cX1_init 47 = .ok (.newarray .int, 2) := by decide +kernel
theorem dX1_init_49 : decode cX1_init 49 = .ok (.putfield 27, 3) := by decide +kernel
theorem dX1_init_52 : decode cX1_init 52 = .ok (.aload_n 0, 1) := by decide +kernel
theorem dX1_init_53 : decode cX1_init 53 = .ok (.bipush 16, 2) := by decide +kernel
theorem dX1_init_55 : decode cX1_init 55 = .ok (.newarray .int, 2) := by decide +kernel
theorem dX1_init_57 : decode cX1_init 57 = .ok (.putfield 30, 3) := by decide +kernel
theorem dX1_init_60 : decode cX1_init 60 = .ok (.return_, 1) := by decide +kernel
theorem dX1_copyFrom_0 : decode cX1_copyFrom 0 = .ok (.aload_n 0, 1) := by decide +kernel
theorem dX1_copyFrom_1 : decode cX1_copyFrom 1 = .ok (.aload_n 1, 1) := by decide +kernel
theorem dX1_copyFrom_2 : decode cX1_copyFrom 2 = .ok (.getfield 33, 3) := by decide +kernel
theorem dX1_copyFrom_5 : decode cX1_copyFrom 5 = .ok (.putfield 33, 3) := by decide +kernel
theorem dX1_copyFrom_8 : decode cX1_copyFrom 8 = .ok (.aload_n 1, 1) := by decide +kernel
theorem dX1_copyFrom_9 : decode cX1_copyFrom 9 = .ok (.getfield 9, 3) := by decide +kernel
theorem dX1_copyFrom_12 : decode cX1_copyFrom 12 = .ok (.aload_n 0, 1) := by decide +kernel
theorem dX1_copyFrom_13 : decode cX1_copyFrom 13 = .ok (.getfield 9, 3) := by decide +kernel
theorem dX1_copyFrom_16 : decode cX1_copyFrom 16 = .ok (.invokestatic 37, 3) := by decide +kernel
theorem dX1_copyFrom_19 : decode cX1_copyFrom 19 = .ok (.aload_n 1, 1) := by decide +kernel
theorem dX1_copyFrom_20 : decode cX1_copyFrom 20 = .ok (.getfield 15, 3) := by decide +kernel
theorem dX1_copyFrom_23 : decode cX1_copyFrom 23 = .ok (.aload_n 0, 1) := by decide +kernel
theorem dX1_copyFrom_24 : decode cX1_copyFrom 24 = .ok (.getfield 15, 3) := by decide +kernel
theorem dX1_copyFrom_27 : decode cX1_copyFrom 27 = .ok (.invokestatic 37, 3) := by decide +kernel
theorem dX1_copyFrom_30 : decode cX1_copyFrom 30 = .ok (.aload_n 1, 1) := by decide +kernel
theorem dX1_copyFrom_31 : decode cX1_copyFrom 31 = .ok (.getfield 18, 3) := by decide +kernel
theorem dX1_copyFrom_34 : decode cX1_copyFrom 34 = .ok (.aload_n 0, 1) := by decide +kernel
theorem dX1_copyFrom_35 : decode cX1_copyFrom 35 = .ok (.getfield 18, 3) := by decide +kernel
theorem dX1_copyFrom_38 : decode cX1_copyFrom 38 = .ok (.invokestatic 37, 3) := by decide +kernel
theorem dX1_copyFrom_41 : decode cX1_copyFrom 41 = .ok (.aload_n 1, 1) := by decide +kernel
theorem dX1_copyFrom_42 : decode cX1_copyFrom 42 = .ok (.getfield 21, 3) := by decide +kernel
theorem dX1_copyFrom_45 : decode cX1_copyFrom 45 = .ok (.aload_n 0, 1) := by decide +kernel
theorem dX1_copyFrom_46 : decode cX1_copyFrom 46 = .ok (.getfield 21, 3) := by decide +kernel
theorem dX1_copyFrom_49 : decode cX1_copyFrom 49 = .ok (.invokestatic 37, 3) := by decide +kernel
theorem dX1_copyFrom_52 : decode cX1_copyFrom 52 = .ok (.aload_n 1, 1) := by decide +kernel
theorem dX1_copyFrom_53 : decode cX1_copyFrom 53 = .ok (.getfield 24, 3) := by decide +kernel
theorem dX1_copyFrom_56 : decode cX1_copyFrom 56 = .ok (.aload_n 0, 1) := by decide +kernel
theorem dX1_copyFrom_57 : decode cX1_copyFrom 57 = .ok (.getfield 24, 3) := by decide +kernel
theorem dX1_copyFrom_60 : decode cX1_copyFrom 60 = .ok (.invokestatic 37, 3) := by decide +kernel
theorem dX1_copyFrom_63 : decode cX1_copyFrom 63 = .ok (.aload_n 1, 1) := by decide +kernel
theorem dX1_copyFrom_64 : decode cX1_copyFrom 64 = .ok (.getfield 27, 3) := by decide +kernel
theorem dX1_copyFrom_67 : decode cX1_copyFrom 67 = .ok (.aload_n 0, 1) := by decide +kernel
theorem dX1_copyFrom_68 : decode cX1_copyFrom 68 = .ok (.getfield 27, 3) := by decide +kernel
theorem dX1_copyFrom_71 : decode cX1_copyFrom 71 = .ok (.invokestatic 37, 3) := by decide +kernel
theorem dX1_copyFrom_74 : decode cX1_copyFrom 74 = .ok (.aload_n 1, 1) := by decide +kernel
theorem dX1_copyFrom_75 : decode cX1_copyFrom 75 = .ok (.getfield 30, 3) := by decide +kernel
theorem dX1_copyFrom_78 : decode cX1_copyFrom 78 = .ok (.aload_n 0, 1) := by decide +kernel
theorem dX1_copyFrom_79 : decode cX1_copyFrom 79 = .ok (.getfield 30, 3) := by decide +kernel
theorem dX1_copyFrom_82 : decode cX1_copyFrom 82 = .ok (.invokestatic 37, 3) := by decide +kernel
theorem dX1_copyFrom_85 : decode cX1_copyFrom 85 = .ok (.return_, 1) := by decide +kernel
theorem dX1_add_0 : decode cX1_add 0 = .ok (.aload_n 0, 1) := by decide +kernel
theorem dX1_add_1 : decode cX1_add 1 = .ok (.getfield 9, 3) := by decide +kernel
theorem dX1_add_4 : decode cX1_add 4 = .ok (.aload_n 0, 1) := by decide +kernel
theorem dX1_add_5 : decode cX1_add 5 = .ok (.getfield 33, 3) := by decide +kernel
theorem dX1_add_8 : decode cX1_add 8 = .ok (.iload_n 1, 1) := by decide +kernel
theorem dX1_add_9 : decode cX1_add 9 = .ok (.iastore, 1) := by decide +kernel
theorem dX1_add_10 : decode cX1_add 10 = .ok (.aload_n 0, 1) := by decide +kernel
theorem dX1_add_11 : decode cX1_add 11 = .ok (.getfield 15, 3) := by decide +kernel
theorem dX1_add_14 : decode cX1_add 14 = .ok (.aload_n 0, 1) := by decide +kernel
theorem dX1_add_15 : decode cX1_add 15 = .ok (.getfield 33, 3) := by decide +kernel
theorem dX1_add_18 : decode cX1_add 18 = .ok (.iload_n 2, 1) := by decide +kernel
theorem dX1_add_19 : decode cX1_add 19 = .ok (.iastore, 1) := by decide +kernel
theorem dX1_add_20 : decode cX1_add 20 = .ok (.aload_n 0, 1) := by decide +kernel
theorem dX1_add_21 : decode cX1_add 21 = .ok (.getfield 18, 3) := by decide +kernel
theorem dX1_add_24 : decode cX1_add 24 = .ok (.aload_n 0, 1) := by decide +kernel
theorem dX1_add_25 : decode cX1_add 25 = .ok (.getfield 33, 3) := by decide +kernel
theorem dX1_add_28 : decode cX1_add 28 = .ok (.iconst 0, 1) := by decide +kernel
theorem dX1_add_29 : decode cX1_add 29 = .ok (.iastore, 1) := by decide +kernel
theorem dX1_add_30 : decode cX1_add 30 = .ok (.aload_n 0, 1) := by decide +kernel
theorem dX1_add_31 : decode cX1_add 31 = .ok (.getfield 21, 3) := by decide +kernel
theorem dX1_add_34 : decode cX1_add 34 = .ok (.aload_n 0, 1) := by decide +kernel
theorem dX1_add_35 : decode cX1_add 35 = .ok (.getfield 33, 3) := by decide +kernel
theorem dX1_add_38 : decode cX1_add 38 = .ok (.iconst 0, 1) := by decide +kernel
theorem dX1_add_39 : decode cX1_add 39 = .ok (.iastore, 1) := by decide +kernel
theorem dX1_add_40 : decode cX1_add 40 = .ok (.aload_n 0, 1) := by decide +kernel
theorem dX1_add_41 : decode cX1_add 41 = .ok (.getfield 24, 3) := by decide +kernel
theorem dX1_add_44 : decode cX1_add 44 = .ok (.aload_n 0, 1) := by decide +kernel
theorem dX1_add_45 : decode cX1_add 45 = .ok (.getfield 33, 3) := by decide +kernel
theorem dX1_add_48 : decode cX1_add 48 = .ok (.iconst 0, 1) := by decide +kernel
theorem dX1_add_49 : decode cX1_add 49 = .ok (.iastore, 1) := by decide +kernel
theorem dX1_add_50 : decode cX1_add 50 = .ok (.aload_n 0, 1) := by decide +kernel
theorem dX1_add_51 : decode cX1_add 51 = .ok (.getfield 27, 3) := by decide +kernel
theorem dX1_add_54 : decode cX1_add 54 = .ok (.aload_n 0, 1) := by decide +kernel
theorem dX1_add_55 : decode cX1_add 55 = .ok (.getfield 33, 3) := by decide +kernel
theorem dX1_add_58 : decode cX1_add 58 = .ok (.iconst 0, 1) := by decide +kernel
theorem dX1_add_59 : decode cX1_add 59 = .ok (.iastore, 1) := by decide +kernel
theorem dX1_add_60 : decode cX1_add 60 = .ok (.aload_n 0, 1) := by decide +kernel
theorem dX1_add_61 : decode cX1_add 61 = .ok (.getfield 30, 3) := by decide +kernel
theorem dX1_add_64 : decode cX1_add 64 = .ok (.aload_n 0, 1) := by decide +kernel
theorem dX1_add_65 : decode cX1_add 65 = .ok (.getfield 33, 3) := by decide +kernel
theorem dX1_add_68 : decode cX1_add 68 = .ok (.iload_n 3, 1) := by decide +kernel
theorem dX1_add_69 : decode cX1_add 69 = .ok (.iastore, 1) := by decide +kernel
theorem dX1_add_70 : decode cX1_add 70 = .ok (.aload_n 0, 1) := by decide +kernel
theorem dX1_add_71 : decode cX1_add 71 = .ok (.dup, 1) := by decide +kernel
theorem dX1_add_72 : decode cX1_add 72 = .ok (.getfield 33, 3) := by decide +kernel
theorem dX1_add_75 : decode cX1_add 75 = .ok (.dup_x1, 1) := by decide +kernel
theorem dX1_add_76 : decode cX1_add 76 = .ok (.iconst 1, 1) := by decide +kernel
theorem dX1_add_77 : decode cX1_add 77 = .ok (.iadd, 1) := by decide +kernel
theorem dX1_add_78 : decode cX1_add 78 = .ok (.putfield 33, 3) := by decide +kernel
theorem dX1_add_81 : decode cX1_add 81 = .ok (.ireturn, 1) := by decide +kernel
theorem dX1_isOpen_0 : decode cX1_isOpen 0 = .ok (.aload_n 0, 1) := by decide +kernel
theorem dX1_isOpen_1 : decode cX1_isOpen 1 = .ok (.getfield 27, 3) := by decide +kernel
theorem dX1_isOpen_4 : decode cX1_isOpen 4 = .ok (.iload_n 1, 1) := by decide +kernel
theorem dX1_isOpen_5 : decode cX1_isOpen 5 = .ok (.iaload, 1) := by decide +kernel
theorem dX1_isOpen_6 : decode cX1_isOpen 6 = .ok (.iconst 2, 1) := by decide +kernel
theorem dX1_isOpen_7 : decode cX1_isOpen 7 = .ok (.if_icmp .gt 7, 3) := by decide +kernel
theorem dX1_isOpen_10 : decode cX1_isOpen 10 = .ok (.iconst 1, 1) := by decide +kernel
theorem dX1_isOpen_11 : decode cX1_isOpen 11 = .ok (.goto 4, 3) := by decide +kernel
theorem dX1_isOpen_14 : decode cX1_isOpen 14 = .ok (.iconst 0, 1) := by decide +kernel
theorem dX1_isOpen_15 : decode cX1_isOpen 15 = .ok (.ireturn, 1) := by decide +kernel
theorem dX1_bringForward_0 : decode cX1_bringForward 0 = .ok (.iload_n 2, 1) := by decide +kernel
theorem dX1_bringForward_1 : decode cX1_bringForward 1 = .ok (.aload_n 0, 1) := by decide +kernel
theorem dX1_bringForward_2 : decode cX1_bringForward 2 = .ok (.getfield 30, 3) := by decide +kernel
theorem dX1_bringForward_5 : decode cX1_bringForward 5 = .ok (.iload_n 1, 1) := by decide +kernel
theorem dX1_bringForward_6 : decode cX1_bringForward 6 = .ok (.iaload, 1) := by decide +kernel
theorem dX1_bringForward_7 : decode cX1_bringForward 7 = .ok (.if_icmp .ge 10, 3) := by decide +kernel
theorem dX1_bringForward_10 : decode cX1_bringForward 10 = .ok (.aload_n 0, 1) := by decide +kernel
theorem dX1_bringForward_11 : decode cX1_bringForward 11 = .ok (.getfield 30, 3) := by decide +kernel
theorem dX1_bringForward_14 : decode cX1_bringForward 14 = .ok (.iload_n 1, 1) := by decide +kernel
theorem dX1_bringForward_15 : decode cX1_bringForward 15 = .ok (.iload_n 2, 1) := by decide +kernel
theorem dX1_bringForward_16 : decode cX1_bringForward 16 = .ok (.iastore, 1) := by decide +kernel
theorem dX1_bringForward_17 : decode cX1_bringForward 17 = .ok (.return_, 1) := by decide +kernel
theorem dX2_init_0 : decode cX2_init 0 = .ok (.aload_n 0, 1) := by decide +kernel
theorem dX2_init_1 : decode cX2_init 1 = .ok (.invokespecial 3, 3) := by decide +kernel
theorem dX2_init_4 : decode cX2_init 4 = .ok (.aload_n 0, 1) := by decide +kernel
theorem dX2_init_5 : decode cX2_init 5 = .ok (.bipush 100, 2) := by decide +kernel
theorem dX2_init_7 : decode cX2_init 7 = .ok (.putfield 9, 3) := by decide +kernel
theorem dX2_init_10 : decode cX2_init 10 = .ok (.aload_n 0, 1) := by decide +kernel
theorem dX2_init_11 : decode cX2_init 11 = .ok (.bipush 100, 2) := by decide +kernel
theorem dX2_init_13 : decode cX2_init 13 = .ok (.putfield 15, 3) := by decide +kernel
theorem dX2_init_16 : decode cX2_init 16 = .ok (.aload_n 0, 1) := by decide +kernel
theorem dX2_init_17 : decode cX2_init 17 = .ok (.bipush 8, 2) := by decide +kernel
theorem dX2_init_19 : decode cX2_init 19 = .ok (.newarray .int, 2) := by decide +kernel
theorem dX2_init_21 : decode cX2_init 21 = .ok (.putfield 18, 3) := by decide +kernel
theorem dX2_init_24 : decode cX2_init 24 = .ok (.aload_n 0, 1) := by decide +kernel
theorem dX2_init_25 : decode cX2_init 25 = .ok (.bipush 8, 2) := by decide +kernel
theorem dX2_init_27 : decode cX2_init 27 = .ok (.newarray .int, 2) := by decide +kernel
theorem dX2_init_29 : decode cX2_init 29 = .ok (.putfield 22, 3) := by decide +kernel
theorem dX2_init_32 : decode cX2_init 32 = .ok (.aload_n 0, 1) := by decide +kernel
theorem dX2_init_33 : decode cX2_init 33 = .ok (.bipush 16, 2) := by decide +kernel
theorem dX2_init_35 : decode cX2_init 35 = .ok (.newarray .int, 2) := by decide +kernel
theorem dX2_init_37 : decode cX2_init 37 = .ok (.putfield 25, 3) := by decide +kernel
theorem dX2_init_40 : decode cX2_init 40 = .ok (.aload_n 0, 1) := by decide +kernel
theorem dX2_init_41 : decode cX2_init 41 = .ok (.sipush 192, 3) := by decide +kernel
theorem dX2_init_44 : decode cX2_init 44 = .ok (.newarray .int, 2) := by decide +kernel
theorem dX2_init_46 : decode cX2_init 46 = .ok (.putfield 28, 3) := by decide +kernel
theorem dX2_init_49 : decode cX2_init 49 = .ok (.aload_n 0, 1) := by decide +kernel
theorem dX2_init_50 : decode cX2_init 50 = .ok (.bipush 64, 2) := by decide +kernel
theorem dX2_init_52 : decode cX2_init 52 = .ok (.newarray .int, 2) := by decide +kernel
theorem dX2_init_54 : decode cX2_init 54 = .ok (.putfield 31, 3) := by decide +kernel
theorem dX2_init_57 : decode cX2_init 57 = .ok (.aload_n 0, 1) := by decide +kernel
theorem dX2_init_58 : decode cX2_init 58 = .ok (.bipush 8, 2) := by decide +kernel
theorem dX2_init_60 : decode cX2_init 60 = .ok (.newarray .int, 2) := by decide +kernel
theorem dX2_init_62 : decode cX2_init 62 = .ok (.putfield 34, 3) := by decide +kernel
theorem dX2_init_65 : decode cX2_init 65 = .ok (.aload_n 0, 1) := by decide +kernel
theorem dX2_init_66 : decode cX2_init 66 = .ok (.bipush 8, 2) := by decide +kernel
theorem dX2_init_68 : decode cX2_init 68 = .ok (.newarray .int, 2) := by decide +kernel
theorem dX2_init_70 : decode cX2_init 70 = .ok (.putfield 37, 3) := by decide +kernel
theorem dX2_init_73 : decode cX2_init 73 = .ok (.aload_n 0, 1) := by decide +kernel
theorem dX2_init_74 : decode cX2_init 74 = .ok (.bipush 8, 2) := by decide +kernel
theorem dX2_init_76 : decode cX2_init 76 = .ok (.newarray .int, 2) := by decide +kernel
theorem dX2_init_78 : decode cX2_init 78 = .ok (.putfield 40, 3) := by decide +kernel
theorem dX2_init_81 : decode cX2_init 81 = .ok (.aload_n 0, 1) := by decide +kernel
theorem dX2_init_82 : decode cX2_init 82 = .ok (.bipush 8, 2) := by decide +kernel
theorem dX2_init_84 : decode cX2_init 84 = .ok (.newarray .int, 2) := by decide +kernel
theorem dX2_init_86 : decode cX2_init 86 = .ok (.putfield 43, 3) := by decide +kernel
theorem dX2_init_89 : decode cX2_init 89 = .ok (.aload_n 0, 1) := by decide +kernel
theorem dX2_init_90 : decode cX2_init 90 = .ok (.bipush 8, 2) := by decide +kernel
theorem dX2_init_92 : decode cX2_init 92 = .ok (.newarray .int, 2) := by decide +kernel
theorem dX2_init_94 : decode cX2_init 94 = .ok (.putfield 46, 3) := by decide +kernel
theorem dX2_init_97 : decode cX2_init 97 = .ok (.aload_n 0, 1) := by decide +kernel
theorem dX2_init_98 : decode cX2_init 98 = .ok (.getfield 31, 3) := by decide +kernel
theorem dX2_init_101 : decode cX2_init 101 = .ok (.iconst (-1), 1) := by decide +kernel
theorem dX2_init_102 : decode cX2_init 102 = .ok (.invokestatic 49, 3) := by decide +kernel
theorem dX2_init_105 : decode cX2_init 105 = .ok (.return_, 1) := by decide +kernel
theorem dX2_clear_0 : decode cX2_clear 0 = .ok (.aload_n 0, 1) := by decide +kernel
theorem dX2_clear_1 : decode cX2_clear 1 = .ok (.iconst 0, 1) := by decide +kernel
theorem dX2_clear_2 : decode cX2_clear 2 = .ok (.putfield 55, 3) := by decide +kernel
theorem dX2_clear_5 : decode cX2_clear 5 = .ok (.aload_n 0, 1) := by decide +kernel
theorem dX2_clear_6 : decode cX2_clear 6 = .ok (.iconst 0, 1) := by decide +kernel
theorem dX2_clear_7 : decode cX2_clear 7 = .ok (.putfield 58, 3) := by decide +kernel
theorem dX2_clear_10 : decode cX2_clear 10 = .ok (.aload_n 0, 1) := by decide +kernel
theorem dX2_clear_11 : decode cX2_clear 11 = .ok (.iconst 0, 1) := by decide +kernel
theorem dX2_clear_12 : decode cX2_clear 12 = .ok (.putfield 61, 3) := by decide +kernel
theorem dX2_clear_15 : decode cX2_clear 15 = .ok (.aload_n 0, 1) := by decide +kernel
theorem dX2_clear_16 : decode cX2_clear 16 = .ok (.iconst 0, 1) := by decide +kernel
theorem dX2_clear_17 : decode cX2_clear 17 = .ok (.putfield 64, 3) := by decide +kernel
theorem dX2_clear_20 : decode cX2_clear 20 = .ok (.aload_n 0, 1) := by decide +kernel
theorem dX2_clear_21 : decode cX2_clear 21 = .ok (.iconst 0, 1) := by decide +kernel
theorem dX2_clear_22 : decode cX2_clear 22 = .ok (.putfield 67, 3) := by decide +kernel
theorem dX2_clear_25 : decode cX2_clear 25 = .ok (.aload_n 0, 1) := by decide +kernel
theorem dX2_clear_26 : decode cX2_clear 26 = .ok (.getfield 28, 3) := by decide +kernel
theorem dX2_clear_29 : decode cX2_clear 29 = .ok (.iconst 0, 1) := by decide +kernel
theorem dX2_clear_30 : decode cX2_clear 30 = .ok (.invokestatic 49, 3) := by decide +kernel
theorem dX2_clear_33 : decode cX2_clear 33 = .ok (.aload_n 0, 1) := by decide +kernel
theorem dX2_clear_34 : decode cX2_clear 34 = .ok (.getfield 31, 3) := by decide +kernel
theorem dX2_clear_37 : decode cX2_clear 37 = .ok (.iconst (-1), 1) := by decide +kernel
theorem dX2_clear_38 : decode cX2_clear 38 = .ok (.invokestatic 49, 3) := by decide +kernel
theorem dX2_clear_41 : decode cX2_clear 41 = .ok (.return_, 1) := by decide +kernel
theorem dX2_copyFrom_0 : decode cX2_copyFrom 0 = .ok (.aload_n 0, 1) := by decide +kernel
theorem dX2_copyFrom_1 : decode cX2_copyFrom 1 = .ok (.aload_n 1, 1) := by decide +kernel
theorem dX2_copyFrom_2 : decode cX2_copyFrom 2 = .ok (.getfield 9, 3) := by decide +kernel
theorem dX2_copyFrom_5 : decode cX2_copyFrom 5 = .ok (.putfield 9, 3) := by decide +kernel
theorem dX2_copyFrom_8 : decode cX2_copyFrom 8 = .ok (.aload_n 0, 1) := by decide +kernel
theorem dX2_copyFrom_9 : decode cX2_copyFrom 9 = .ok (.aload_n 1, 1) := by decide +kernel
theorem dX2_copyFrom_10 : decode cX2_copyFrom 10 = .ok (.getfield 15, 3) := by decide +kernel
theorem dX2_copyFrom_13 : decode cX2_copyFrom 13 = .ok (.putfield 15, 3) := by decide +kernel
theorem dX2_copyFrom_16 : decode cX2_copyFrom 16 = .ok (.aload_n 0, 1) := by decide +kernel
theorem dX2_copyFrom_17 : decode cX2_copyFrom 17 = .ok (.aload_n 1, 1) := by decide +kernel
theorem dX2_copyFrom_18 : decode cX2_copyFrom 18 = .ok (.getfield 55, 3) := by decide +kernel
theorem dX2_copyFrom_21 : decode cX2_copyFrom 21 = .ok (.putfield 55, 3) := by decide +kernel
theorem dX2_copyFrom_24 : decode cX2_copyFrom 24 = .ok (.aload_n 0, 1) := by decide +kernel
theorem dX2_copyFrom_25 : decode cX2_copyFrom 25 = .ok (.aload_n 1, 1) := by decide +kernel
theorem dX2_copyFrom_26 : decode cX2_copyFrom 26 = .ok (.getfield 58, 3) := by decide +kernel
theorem dX2_copyFrom_29 : decode cX2_copyFrom 29 = .ok (.putfield 58, 3) := by decide +kernel
theorem dX2_copyFrom_32 : decode cX2_copyFrom 32 = .ok (.aload_n 0, 1) := by decide +kernel
theorem dX2_copyFrom_33 : decode cX2_copyFrom 33 = .ok (.aload_n 1, 1) := by decide +kernel
theorem dX2_copyFrom_34 : decode cX2_copyFrom 34 = .ok (.getfield 61, 3) := by decide +kernel
theorem dX2_copyFrom_37 : decode cX2_copyFrom 37 = .ok (.putfield 61, 3) := by decide +kernel
theorem dX2_copyFrom_40 : decode cX2_copyFrom 40 = .ok (.aload_n 0, 1) := by decide +kernel
theorem dX2_copyFrom_41 : decode cX2_copyFrom 41 = .ok (.aload_n 1, 1) := by decide +kernel
theorem dX2_copyFrom_42 : decode cX2_copyFrom 42 = .ok (.getfield 64, 3) := by decide +kernel
theorem dX2_copyFrom_45 : decode cX2_copyFrom 45 = .ok (.putfield 64, 3) := by decide +kernel
theorem dX2_copyFrom_48 : decode cX2_copyFrom 48 = .ok (.aload_n 0, 1) := by decide +kernel
theorem dX2_copyFrom_49 : decode cX2_copyFrom 49 = .ok (.aload_n 1, 1) := by decide +kernel
theorem dX2_copyFrom_50 : decode cX2_copyFrom 50 = .ok (.getfield 67, 3) := by decide +kernel
theorem dX2_copyFrom_53 : decode cX2_copyFrom 53 = .ok (.putfield 67, 3) := by decide +kernel
theorem dX2_copyFrom_56 : decode cX2_copyFrom 56 = .ok (.aload_n 1, 1) := by decide +kernel
theorem dX2_copyFrom_57 : decode cX2_copyFrom 57 = .ok (.getfield 18, 3) := by decide +kernel
theorem dX2_copyFrom_60 : decode cX2_copyFrom 60 = .ok (.aload_n 0, 1) := by decide +kernel
theorem dX2_copyFrom_61 : decode cX2_copyFrom 61 = .ok (.getfield 18, 3) := by decide +kernel
theorem dX2_copyFrom_64 : decode cX2_copyFrom 64 = .ok (.invokestatic 70, 3) := by decide +kernel
theorem dX2_copyFrom_67 : decode cX2_copyFrom 67 = .ok (.aload_n 1, 1) := by decide +kernel
theorem dX2_copyFrom_68 : decode cX2_copyFrom 68 = .ok (.getfield 22, 3) := by decide +kernel
theorem dX2_copyFrom_71 : decode cX2_copyFrom 71 = .ok (.aload_n 0, 1) := by decide +kernel
theorem dX2_copyFrom_72 : decode cX2_copyFrom 72 = .ok (.getfield 22, 3) := by decide +kernel
theorem dX2_copyFrom_75 : decode cX2_copyFrom 75 = .ok (.invokestatic 70, 3) := by decide +kernel
theorem dX2_copyFrom_78 : decode cX2_copyFrom 78 = .ok (.aload_n 1, 1) := by decide +kernel
theorem dX2_copyFrom_79 : decode cX2_copyFrom 79 = .ok (.getfield 25, 3) := by decide +kernel
theorem dX2_copyFrom_82 : decode cX2_copyFrom 82 = .ok (.aload_n 0, 1) := by decide +kernel
theorem dX2_copyFrom_83 : decode cX2_copyFrom 83 = .ok (.getfield 25, 3) := by decide +kernel
theorem dX2_copyFrom_86 : decode cX2_copyFrom 86 = .ok (.invokestatic 70, 3) := by decide +kernel
theorem dX2_copyFrom_89 : decode cX2_copyFrom 89 = .ok (.aload_n 1, 1) := by decide +kernel
theorem dX2_copyFrom_90 : decode cX2_copyFrom 90 = .ok (.getfield 28, 3) := by decide +kernel
theorem dX2_copyFrom_93 : decode cX2_copyFrom 93 = .ok (.aload_n 0, 1) := by decide +kernel
theorem dX2_copyFrom_94 : decode cX2_copyFrom 94 = .ok (.getfield 28, 3) := by decide +kernel
theorem dX2_copyFrom_97 : decode cX2_copyFrom 97 = .ok (.invokestatic 70, 3) := by decide +kernel
theorem dX2_copyFrom_100 : decode cX2_copyFrom 100 = .ok (.aload_n 1, 1) := by decide +kernel
theorem dX2_copyFrom_101 : decode cX2_copyFrom 101 = .ok (.getfield 31, 3) := by decide +kernel
theorem dX2_copyFrom_104 : decode cX2_copyFrom 104 = .ok (.aload_n 0, 1) := by decide +kernel
theorem dX2_copyFrom_105 : decode cX2_copyFrom 105 = .ok (.getfield 31, 3) := by decide +kernel
theorem dX2_copyFrom_108 : decode cX2_copyFrom 108 = .ok (.invokestatic 70, 3) := by decide +kernel
theorem dX2_copyFrom_111 : decode cX2_copyFrom 111 = .ok (.aload_n 1, 1) := by decide +kernel
theorem dX2_copyFrom_112 : decode cX2_copyFrom 112 = .ok (.getfield 34, 3) := by decide +kernel
theorem dX2_copyFrom_115 : decode cX2_copyFrom 115 = .ok (.aload_n 0, 1) := by decide +kernel
theorem dX2_copyFrom_116 : decode cX2_copyFrom 116 = .ok (.getfield 34, 3) := by decide +kernel
theorem dX2_copyFrom_119 : decode cX2_copyFrom 119 = .ok (.invokestatic 70, 3) := by decide +kernel
theorem dX2_copyFrom_122 : decode cX2_copyFrom 122 = .ok (.aload_n 1, 1) := by decide +kernel
theorem dX2_copyFrom_123 : decode cX2_copyFrom 123 = .ok (.getfield 37, 3) := by decide +kernel
theorem dX2_copyFrom_126 : decode cX2_copyFrom 126 = .ok (.aload_n 0, 1) := by decide +kernel
theorem dX2_copyFrom_127 : decode cX2_copyFrom 127 = .ok (.getfield 37, 3) := by decide +kernel
theorem dX2_copyFrom_130 : decode cX2_copyFrom 130 = .ok (.invokestatic 70, 3) := by decide +kernel
theorem dX2_copyFrom_133 : decode cX2_copyFrom 133 = .ok (.aload_n 1, 1) := by decide +kernel
theorem dX2_copyFrom_134 : decode cX2_copyFrom 134 = .ok (.getfield 40, 3) := by decide +kernel
theorem dX2_copyFrom_137 : decode cX2_copyFrom 137 = .ok (.aload_n 0, 1) := by decide +kernel
theorem dX2_copyFrom_138 : decode cX2_copyFrom 138 = .ok (.getfield 40, 3) := by decide +kernel
theorem dX2_copyFrom_141 : decode cX2_copyFrom 141 = .ok (.invokestatic 70, 3) := by decide +kernel
theorem dX2_copyFrom_144 : decode cX2_copyFrom 144 = .ok (.aload_n 1, 1) := by decide +kernel
theorem dX2_copyFrom_145 : decode cX2_copyFrom 145 = .ok (.getfield 43, 3) := by decide +kernel
theorem dX2_copyFrom_148 : decode cX2_copyFrom 148 = .ok (.aload_n 0, 1) := by decide +kernel
theorem dX2_copyFrom_149 : decode cX2_copyFrom 149 = .ok (.getfield 43, 3) := by decide +kernel
theorem dX2_copyFrom_152 : decode cX2_copyFrom 152 = .ok (.invokestatic 70, 3) := by decide +kernel
theorem dX2_copyFrom_155 : decode cX2_copyFrom 155 = .ok (.aload_n 1, 1) := by decide +kernel
theorem dX2_copyFrom_156 : decode cX2_copyFrom 156 = .ok (.getfield 46, 3) := by decide +kernel
theorem dX2_copyFrom_159 : decode cX2_copyFrom 159 = .ok (.aload_n 0, 1) := by decide +kernel
theorem dX2_copyFrom_160 : decode cX2_copyFrom 160 = .ok (.getfield 46, 3) := by decide +kernel
theorem dX2_copyFrom_163 : decode cX2_copyFrom 163 = .ok (.invokestatic 70, 3) := by decide +kernel
theorem dX2_copyFrom_166 : decode cX2_copyFrom 166 = .ok (.return_, 1) := by decide +kernel
theorem dX2_factor_0 : decode cX2_factor 0 = .ok (.aload_n 0, 1) := by decide +kernel
theorem dX2_factor_1 : decode cX2_factor 1 = .ok (.getfield 22, 3) := by decide +kernel
theorem dX2_factor_4 : decode cX2_factor 4 = .ok (.iload_n 1, 1) := by decide +kernel
theorem dX2_factor_5 : decode cX2_factor 5 = .ok (.iaload, 1) := by decide +kernel
theorem dX2_factor_6 : decode cX2_factor 6 = .ok (.iconst (-1), 1) := by decide +kernel
theorem dX2_factor_7 : decode cX2_factor 7 = .ok (.if_icmp .ne 7, 3) := by decide +kernel
theorem dX2_factor_10 : decode cX2_factor 10 = .ok (.iconst 1, 1) := by decide +kernel
theorem dX2_factor_11 : decode cX2_factor 11 = .ok (.goto 18, 3) := by decide +kernel
theorem dX2_factor_14 : decode cX2_factor 14 = .ok (.aload_n 0, 1) := by decide +kernel
theorem dX2_factor_15 : decode cX2_factor 15 = .ok (.getfield 25, 3) := by decide +kernel
theorem dX2_factor_18 : decode cX2_factor 18 = .ok (.aload_n 0, 1) := by decide +kernel
theorem dX2_factor_19 : decode cX2_factor 19 = .ok (.getfield 22, 3) := by decide +kernel
theorem dX2_factor_22 : decode cX2_factor 22 = .ok (.iload_n 1, 1) := by decide +kernel
theorem dX2_factor_23 : decode cX2_factor 23 = .ok (.iaload, 1) := by decide +kernel
theorem dX2_factor_24 : decode cX2_factor 24 = .ok (.iconst 4, 1) := by decide +kernel
theorem dX2_factor_25 : decode cX2_factor 25 = .ok (.imul, 1) := by decide +kernel
theorem dX2_factor_26 : decode cX2_factor 26 = .ok (.iload_n 2, 1) := by decide +kernel
theorem dX2_factor_27 : decode cX2_factor 27 = .ok (.iadd, 1) := by decide +kernel
theorem dX2_factor_28 : decode cX2_factor 28 = .ok (.iaload, 1) := by decide +kernel
theorem dX2_factor_29 : decode cX2_factor 29 = .ok (.ireturn, 1) := by decide +kernel
theorem dX2_gain_0 : decode cX2_gain 0 = .ok (.aload_n 0, 1) := by decide +kernel
theorem dX2_gain_1 : decode cX2_gain 1 = .ok (.getfield 28, 3) := by decide +kernel
theorem dX2_gain_4 : decode cX2_gain 4 = .ok (.iload_n 1, 1) := by decide +kernel
theorem dX2_gain_5 : decode cX2_gain 5 = .ok (.bipush 24, 2) := by decide +kernel
theorem dX2_gain_7 : decode cX2_gain 7 = .ok (.imul, 1) := by decide +kernel
theorem dX2_gain_8 : decode cX2_gain 8 = .ok (.iload_n 2, 1) := by decide +kernel
theorem dX2_gain_9 : decode cX2_gain 9 = .ok (.iadd, 1) := by decide +kernel
theorem dX2_gain_10 : decode cX2_gain 10 = .ok (.iaload, 1) := by decide +kernel
theorem dX2_gain_11 : decode cX2_gain 11 = .ok (.ireturn, 1) := by decide +kernel
theorem dX2_cableBetween_0 : decode cX2_cableBetween 0 = .ok (.aload_n 0, 1) := by decide +kernel
theorem dX2_cableBetween_1 : decode cX2_cableBetween 1 = .ok (.getfield 31, 3) := by decide +kernel
theorem dX2_cableBetween_4 : decode cX2_cableBetween 4 = .ok (.iload_n 1, 1) := by decide +kernel
theorem dX2_cableBetween_5 : decode cX2_cableBetween 5 = .ok (.bipush 8, 2) := by decide +kernel
theorem dX2_cableBetween_7 : decode cX2_cableBetween 7 = .ok (.imul, 1) := by decide +kernel
theorem dX2_cableBetween_8 : decode cX2_cableBetween 8 = .ok (.iload_n 2, 1) := by decide +kernel
theorem dX2_cableBetween_9 : decode cX2_cableBetween 9 = .ok (.iadd, 1) := by decide +kernel
theorem dX2_cableBetween_10 : decode cX2_cableBetween 10 = .ok (.iaload, 1) := by decide +kernel
theorem dX2_cableBetween_11 : decode cX2_cableBetween 11 = .ok (.ireturn, 1) := by decide +kernel
theorem dX2_cableOf_0 : decode cX2_cableOf 0 = .ok (.aload_n 0, 1) := by decide +kernel
theorem dX2_cableOf_1 : decode cX2_cableOf 1 = .ok (.aload_n 0, 1) := by decide +kernel
theorem dX2_cableOf_2 : decode cX2_cableOf 2 = .ok (.getfield 34, 3) := by decide +kernel
theorem dX2_cableOf_5 : decode cX2_cableOf 5 = .ok (.iload_n 1, 1) := by decide +kernel
theorem dX2_cableOf_6 : decode cX2_cableOf 6 = .ok (.iaload, 1) := by decide +kernel
theorem dX2_cableOf_7 : decode cX2_cableOf 7 = .ok (.aload_n 0, 1) := by decide +kernel
theorem dX2_cableOf_8 : decode cX2_cableOf 8 = .ok (.getfield 37, 3) := by decide +kernel
theorem dX2_cableOf_11 : decode cX2_cableOf 11 = .ok (.iload_n 1, 1) := by decide +kernel
theorem dX2_cableOf_12 : decode cX2_cableOf 12 = .ok (.iaload, 1) := by decide +kernel
theorem dX2_cableOf_13 : decode cX2_cableOf 13 = .ok (.invokevirtual 74, 3) := by decide +kernel
theorem dX2_cableOf_16 : decode cX2_cableOf 16 = .ok (.ireturn, 1) := by decide +kernel
theorem dX2_addPack_0 : decode cX2_addPack 0 = .ok (.aload_n 0, 1) := by decide +kernel
theorem dX2_addPack_1 : decode cX2_addPack 1 = .ok (.getfield 18, 3) := by decide +kernel
theorem dX2_addPack_4 : decode cX2_addPack 4 = .ok (.aload_n 0, 1) := by decide +kernel
theorem dX2_addPack_5 : decode cX2_addPack 5 = .ok (.getfield 55, 3) := by decide +kernel
theorem dX2_addPack_8 : decode cX2_addPack 8 = .ok (.iload_n 1, 1) := by decide +kernel
theorem dX2_addPack_9 : decode cX2_addPack 9 = .ok (.iastore, 1) := by decide +kernel
theorem dX2_addPack_10 : decode cX2_addPack 10 = .ok (.aload_n 0, 1) := by decide +kernel
theorem dX2_addPack_11 : decode cX2_addPack 11 = .ok (.getfield 22, 3) := by decide +kernel
theorem dX2_addPack_14 : decode cX2_addPack 14 = .ok (.aload_n 0, 1) := by decide +kernel
theorem dX2_addPack_15 : decode cX2_addPack 15 = .ok (.getfield 55, 3) := by decide +kernel
theorem dX2_addPack_18 : decode cX2_addPack 18 = .ok (.iload_n 2, 1) := by decide +kernel
theorem dX2_addPack_19 : decode cX2_addPack 19 = .ok (.iastore, 1) := by decide +kernel
theorem dX2_addPack_20 : decode cX2_addPack 20 = .ok (.aload_n 0, 1) := by decide +kernel
theorem dX2_addPack_21 : decode cX2_addPack 21 = .ok (.dup, 1) := by decide +kernel
theorem dX2_addPack_22 : decode cX2_addPack 22 = .ok (.getfield 55, 3) := by decide +kernel
theorem dX2_addPack_25 : decode cX2_addPack 25 = .ok (.iconst 1, 1) := by decide +kernel
theorem dX2_addPack_26 : decode cX2_addPack 26 = .ok (.iadd, 1) := by decide +kernel
theorem dX2_addPack_27 : decode cX2_addPack 27 = .ok (.putfield 55, 3) := by decide +kernel
theorem dX2_addPack_30 : decode cX2_addPack 30 = .ok (.return_, 1) := by decide +kernel
theorem dX2_addCable_0 : decode cX2_addCable 0 = .ok (.aload_n 0, 1) := by decide +kernel
theorem dX2_addCable_1 : decode cX2_addCable 1 = .ok (.getfield 31, 3) := by decide +kernel
theorem dX2_addCable_4 : decode cX2_addCable 4 = .ok (.iload_n 1, 1) := by decide +kernel
theorem dX2_addCable_5 : decode cX2_addCable 5 = .ok (.bipush 8, 2) := by decide +kernel
theorem dX2_addCable_7 : decode cX2_addCable 7 = .ok (.imul, 1) := by decide +kernel
theorem dX2_addCable_8 : decode cX2_addCable 8 = .ok (.iload_n 2, 1) := by decide +kernel
theorem dX2_addCable_9 : decode cX2_addCable 9 = .ok (.iadd, 1) := by decide +kernel
theorem dX2_addCable_10 : decode cX2_addCable 10 = .ok (.aload_n 0, 1) := by decide +kernel
theorem dX2_addCable_11 : decode cX2_addCable 11 = .ok (.getfield 64, 3) := by decide +kernel
theorem dX2_addCable_14 : decode cX2_addCable 14 = .ok (.iastore, 1) := by decide +kernel
theorem dX2_addCable_15 : decode cX2_addCable 15 = .ok (.aload_n 0, 1) := by decide +kernel
theorem dX2_addCable_16 : decode cX2_addCable 16 = .ok (.getfield 31, 3) := by decide +kernel
theorem dX2_addCable_19 : decode cX2_addCable 19 = .ok (.iload_n 2, 1) := by decide +kernel
theorem dX2_addCable_20 : decode cX2_addCable 20 = .ok (.bipush 8, 2) := by decide +kernel
theorem dX2_addCable_22 : decode cX2_addCable 22 = .ok (.imul, 1) := by decide +kernel
theorem dX2_addCable_23 : decode cX2_addCable 23 = .ok (.iload_n 1, 1) := by decide +kernel
theorem dX2_addCable_24 : decode cX2_addCable 24 = .ok (.iadd, 1) := by decide +kernel
theorem dX2_addCable_25 : decode cX2_addCable 25 = .ok (.aload_n 0, 1) := by decide +kernel
theorem dX2_addCable_26 : decode cX2_addCable 26 = .ok (.getfield 64, 3) := by decide +kernel
theorem dX2_addCable_29 : decode cX2_addCable 29 = .ok (.iastore, 1) := by decide +kernel
theorem dX2_addCable_30 : decode cX2_addCable 30 = .ok (.aload_n 0, 1) := by decide +kernel
theorem dX2_addCable_31 : decode cX2_addCable 31 = .ok (.dup, 1) := by decide +kernel
theorem dX2_addCable_32 : decode cX2_addCable 32 = .ok (.getfield 64, 3) := by decide +kernel
theorem dX2_addCable_35 : decode cX2_addCable 35 = .ok (.iconst 1, 1) := by decide +kernel
theorem dX2_addCable_36 : decode cX2_addCable 36 = .ok (.iadd, 1) := by decide +kernel
theorem dX2_addCable_37 : decode cX2_addCable 37 = .ok (.putfield 64, 3) := by decide +kernel
theorem dX2_addCable_40 : decode cX2_addCable 40 = .ok (.return_, 1) := by decide +kernel
theorem dX2_addSun_0 : decode cX2_addSun 0 = .ok (.iload_n 2, 1) := by decide +kernel
theorem dX2_addSun_1 : decode cX2_addSun 1 = .ok (.istore 5, 2) := by decide +kernel
theorem dX2_addSun_3 : decode cX2_addSun 3 = .ok (.iload 5, 2) := by decide +kernel
theorem dX2_addSun_5 : decode cX2_addSun 5 = .ok (.iload_n 3, 1) := by decide +kernel
theorem dX2_addSun_6 : decode cX2_addSun 6 = .ok (.if_icmp .gt 26, 3) := by decide +kernel
theorem dX2_addSun_9 : decode cX2_addSun 9 = .ok (.aload_n 0, 1) := by decide +kernel
theorem dX2_addSun_10 : decode cX2_addSun 10 = .ok (.getfield 28, 3) := by decide +kernel
theorem dX2_addSun_13 : decode cX2_addSun 13 = .ok (.iload_n 1, 1) := by decide +kernel
theorem dX2_addSun_14 : decode cX2_addSun 14 = .ok (.bipush 24, 2) := by decide +kernel
theorem dX2_addSun_16 : decode cX2_addSun 16 = .ok (.imul, 1) := by decide +kernel
theorem dX2_addSun_17 : decode cX2_addSun 17 = .ok (.iload 5, 2) := by decide +kernel
theorem dX2_addSun_19 : decode cX2_addSun 19 = .ok (.iadd, 1) := by decide +kernel
theorem dX2_addSun_20 : decode cX2_addSun 20 = .ok (.dup2, 1) := by decide +kernel
theorem dX2_addSun_21 : decode cX2_addSun 21 = .ok (.iaload, 1) := by decide +kernel
theorem dX2_addSun_22 : decode cX2_addSun 22 = .ok (.iload 4, 2) := by decide +kernel
theorem dX2_addSun_24 : decode cX2_addSun 24 = .ok (.iadd, 1) := by decide +kernel
theorem dX2_addSun_25 : decode cX2_addSun 25 = .ok (.iastore, 1) := by decide +kernel
theorem dX2_addSun_26 : decode cX2_addSun 26 = .ok (.iinc 5 1, 3) := by decide +kernel
theorem dX2_addSun_29 : decode cX2_addSun 29 = .ok (.goto (-26), 3) := by decide +kernel
theorem dX2_addSun_32 : decode cX2_addSun 32 = .ok (.aload_n 0, 1) := by decide +kernel
theorem dX2_addSun_33 : decode cX2_addSun 33 = .ok (.dup, 1) := by decide +kernel
theorem dX2_addSun_34 : decode cX2_addSun 34 = .ok (.getfield 61, 3) := by decide +kernel
theorem dX2_addSun_37 : decode cX2_addSun 37 = .ok (.iconst 1, 1) := by decide +kernel
theorem dX2_addSun_38 : decode cX2_addSun 38 = .ok (.iadd, 1) := by decide +kernel
theorem dX2_addSun_39 : decode cX2_addSun 39 = .ok (.putfield 61, 3) := by decide +kernel
theorem dX2_addSun_42 : decode cX2_addSun 42 = .ok (.return_, 1) := by decide +kernel
theorem dX3_init_0 : decode cX3_init 0 = .ok (.aload_n 0, 1) := by decide +kernel
theorem dX3_init_1 : decode cX3_init 1 = .ok (.invokespecial 3, 3) := by decide +kernel
theorem dX3_init_4 : decode cX3_init 4 = .ok (.aload_n 0, 1) := by decide +kernel
theorem dX3_init_5 : decode cX3_init 5 = .ok (.new 9, 3) := by decide +kernel
theorem dX3_init_8 : decode cX3_init 8 = .ok (.dup, 1) := by decide +kernel
theorem dX3_init_9 : decode cX3_init 9 = .ok (.new 11, 3) := by decide +kernel
theorem dX3_init_12 : decode cX3_init 12 = .ok (.dup, 1) := by decide +kernel
theorem dX3_init_13 : decode cX3_init 13 = .ok (.invokespecial 13, 3) := by decide +kernel
theorem dX3_init_16 : decode cX3_init 16 = .ok (.invokespecial 14, 3) := by decide +kernel
theorem dX3_init_19 : decode cX3_init 19 = .ok (.putfield 17, 3) := by decide +kernel
theorem dX3_init_22 : decode cX3_init 22 = .ok (.aload_n 0, 1) := by decide +kernel
theorem dX3_init_23 : decode cX3_init 23 = .ok (.sipush 500, 3) := by decide +kernel
theorem dX3_init_26 : decode cX3_init 26 = .ok (.newarray .byte, 2) := by decide +kernel
theorem dX3_init_28 : decode cX3_init 28 = .ok (.putfield 23, 3) := by decide +kernel
theorem dX3_init_31 : decode cX3_init 31 = .ok (.return_, 1) := by decide +kernel
theorem dX3_takeIn_0 : decode cX3_takeIn 0 = .ok (.iconst 0, 1) := by decide +kernel
theorem dX3_takeIn_1 : decode cX3_takeIn 1 = .ok (.istore_n 3, 1) := by decide +kernel
theorem dX3_takeIn_2 : decode cX3_takeIn 2 = .ok (.bipush 56, 2) := by decide +kernel
theorem dX3_takeIn_4 : decode cX3_takeIn 4 = .ok (.istore 4, 2) := by decide +kernel
theorem dX3_takeIn_6 : decode cX3_takeIn 6 = .ok (.iload 4, 2) := by decide +kernel
theorem dX3_takeIn_8 : decode cX3_takeIn 8 = .ok (.ifCond .lt 21, 3) := by decide +kernel
theorem dX3_takeIn_11 : decode cX3_takeIn 11 = .ok (.lload_n 1, 1) := by decide +kernel
theorem dX3_takeIn_12 : decode cX3_takeIn 12 = .ok (.iload 4, 2) := by decide +kernel
theorem dX3_takeIn_14 : decode cX3_takeIn 14 = .ok (.lushr, 1) := by decide +kernel
theorem dX3_takeIn_15 : decode cX3_takeIn 15 = .ok (.l2i, 1) := by decide +kernel
theorem dX3_takeIn_16 : decode cX3_takeIn 16 = .ok (.i2b, 1) := by decide +kernel
theorem dX3_takeIn_17 : decode cX3_takeIn 17 = .ok (.ifCond .eq 6, 3) := by decide +kernel
theorem dX3_takeIn_20 : decode cX3_takeIn 20 = .ok (.iinc 3 1, 3) := by decide +kernel
theorem dX3_takeIn_23 : decode cX3_takeIn 23 = .ok (.iinc 4 (-8), 3) := by decide +kernel
theorem dX3_takeIn_26 : decode cX3_takeIn 26 = .ok (.goto (-20), 3) := by decide +kernel
theorem dX3_takeIn_29 : decode cX3_takeIn 29 = .ok (.aload_n 0, 1) := by decide +kernel
theorem dX3_takeIn_30 : decode cX3_takeIn 30 = .ok (.getfield 27, 3) := by decide +kernel
theorem dX3_takeIn_33 : decode cX3_takeIn 33 = .ok (.iload_n 3, 1) := by decide +kernel
theorem dX3_takeIn_34 : decode cX3_takeIn 34 = .ok (.iadd, 1) := by decide +kernel
theorem dX3_takeIn_35 : decode cX3_takeIn 35 = .ok (.sipush 500, 3) := by decide +kernel
theorem dX3_takeIn_38 : decode cX3_takeIn 38 = .ok (.if_icmp .le 6, 3) := by decide +kernel
theorem dX3_takeIn_41 : decode cX3_takeIn 41 = .ok (.bipush (-2), 2) := by decide +kernel
theorem dX3_takeIn_43 : decode cX3_takeIn 43 = .ok (.ireturn, 1) := by decide +kernel
theorem dX3_takeIn_44 : decode cX3_takeIn 44 = .ok (.bipush 56, 2) := by decide +kernel
theorem dX3_takeIn_46 : decode cX3_takeIn 46 = .ok (.istore 4, 2) := by decide +kernel
theorem dX3_takeIn_48 : decode cX3_takeIn 48 = .ok (.iload 4, 2) := by decide +kernel
theorem dX3_takeIn_50 : decode cX3_takeIn 50 = .ok (.ifCond .lt 43, 3) := by decide +kernel
theorem dX3_takeIn_53 : decode cX3_takeIn 53 = .ok (.lload_n 1, 1) := by decide +kernel
theorem dX3_takeIn_54 : decode cX3_takeIn 54 = .ok (.iload 4, 2) := by decide +kernel
theorem dX3_takeIn_56 : decode cX3_takeIn 56 = .ok (.lushr, 1) := by decide +kernel
theorem dX3_takeIn_57 : decode cX3_takeIn 57 = .ok (.l2i, 1) := by decide +kernel
theorem dX3_takeIn_58 : decode cX3_takeIn 58 = .ok (.i2b, 1) := by decide +kernel
theorem dX3_takeIn_59 : decode cX3_takeIn 59 = .ok (.istore 5, 2) := by decide +kernel
theorem dX3_takeIn_61 : decode cX3_takeIn 61 = .ok (.iload 5, 2) := by decide +kernel
theorem dX3_takeIn_63 : decode cX3_takeIn 63 = .ok (.ifCond .eq 24, 3) := by decide +kernel
theorem dX3_takeIn_66 : decode cX3_takeIn 66 = .ok (.aload_n 0, 1) := by decide +kernel
theorem dX3_takeIn_67 : decode cX3_takeIn 67 = .ok (.getfield 23, 3) := by decide +kernel
theorem dX3_takeIn_70 : decode cX3_takeIn 70 = .ok (.aload_n 0, 1) := by decide +kernel
theorem dX3_takeIn_71 : decode cX3_takeIn 71 = .ok (.getfield 27, 3) := by decide +kernel
theorem dX3_takeIn_74 : decode cX3_takeIn 74 = .ok (.iload 5, 2) := by decide +kernel
theorem dX3_takeIn_76 : decode cX3_takeIn 76 = .ok (.bastore, 1) := by decide +kernel
theorem dX3_takeIn_77 : decode cX3_takeIn 77 = .ok (.aload_n 0, 1) := by decide +kernel
theorem dX3_takeIn_78 : decode cX3_takeIn 78 = .ok (.dup, 1) := by decide +kernel
theorem dX3_takeIn_79 : decode cX3_takeIn 79 = .ok (.getfield 27, 3) := by decide +kernel
theorem dX3_takeIn_82 : decode cX3_takeIn 82 = .ok (.iconst 1, 1) := by decide +kernel
theorem dX3_takeIn_83 : decode cX3_takeIn 83 = .ok (.iadd, 1) := by decide +kernel
theorem dX3_takeIn_84 : decode cX3_takeIn 84 = .ok (.putfield 27, 3) := by decide +kernel
theorem dX3_takeIn_87 : decode cX3_takeIn 87 = .ok (.iinc 4 (-8), 3) := by decide +kernel
theorem dX3_takeIn_90 : decode cX3_takeIn 90 = .ok (.goto (-42), 3) := by decide +kernel
theorem dX3_takeIn_93 : decode cX3_takeIn 93 = .ok (.aload_n 0, 1) := by decide +kernel
theorem dX3_takeIn_94 : decode cX3_takeIn 94 = .ok (.getfield 27, 3) := by decide +kernel
theorem dX3_takeIn_97 : decode cX3_takeIn 97 = .ok (.ireturn, 1) := by decide +kernel
theorem dX3_readText_0 : decode cX3_readText 0 = .ok (.aload_n 0, 1) := by decide +kernel
theorem dX3_readText_1 : decode cX3_readText 1 = .ok (.getfield 17, 3) := by decide +kernel
theorem dX3_readText_4 : decode cX3_readText 4 = .ok (.getfield 31, 3) := by decide +kernel
theorem dX3_readText_7 : decode cX3_readText 7 = .ok (.invokevirtual 35, 3) := by decide +kernel
theorem dX3_readText_10 : decode cX3_readText 10 = .ok (.aload_n 0, 1) := by decide +kernel
theorem dX3_readText_11 : decode cX3_readText 11 = .ok (.getfield 17, 3) := by decide +kernel
theorem dX3_readText_14 : decode cX3_readText 14 = .ok (.getfield 38, 3) := by decide +kernel
theorem dX3_readText_17 : decode cX3_readText 17 = .ok (.invokevirtual 42, 3) := by decide +kernel
theorem dX3_readText_20 : decode cX3_readText 20 = .ok (.aload_n 0, 1) := by decide +kernel
theorem dX3_readText_21 : decode cX3_readText 21 = .ok (.iconst 0, 1) := by decide +kernel
theorem dX3_readText_22 : decode cX3_readText 22 = .ok (.putfield 45, 3) := by decide +kernel
theorem dX3_readText_25 : decode cX3_readText 25 = .ok (.aload_n 0, 1) := by decide +kernel
theorem dX3_readText_26 : decode cX3_readText 26 = .ok (.iconst 0, 1) := by decide +kernel
theorem dX3_readText_27 : decode cX3_readText 27 = .ok (.putfield 48, 3) := by decide +kernel
theorem dX3_readText_30 : decode cX3_readText 30 = .ok (.aload_n 0, 1) := by decide +kernel
theorem dX3_readText_31 : decode cX3_readText 31 = .ok (.iconst 0, 1) := by decide +kernel
theorem dX3_readText_32 : decode cX3_readText 32 = .ok (.putfield 51, 3) := by decide +kernel
theorem dX3_readText_35 : decode cX3_readText 35 = .ok (.aload_n 0, 1) := by decide +kernel
theorem dX3_readText_36 : decode cX3_readText 36 = .ok (.iconst 0, 1) := by decide +kernel
theorem dX3_readText_37 : decode cX3_readText 37 = .ok (.putfield 54, 3) := by decide +kernel
theorem dX3_readText_40 : decode cX3_readText 40 = .ok (.aload_n 0, 1) := by decide +kernel
theorem dX3_readText_41 : decode cX3_readText 41 = .ok (.invokevirtual 57, 3) := by decide +kernel
theorem dX3_readText_44 : decode cX3_readText 44 = .ok (.aload_n 0, 1) := by decide +kernel
theorem dX3_readText_45 : decode cX3_readText 45 = .ok (.getfield 27, 3) := by decide +kernel
theorem dX3_readText_48 : decode cX3_readText 48 = .ok (.istore_n 1, 1) := by decide +kernel
theorem dX3_readText_49 : decode cX3_readText 49 = .ok (.iload_n 1, 1) := by decide +kernel
theorem dX3_readText_50 : decode cX3_readText 50 = .ok (.ifCond .le 30, 3) := by decide +kernel
theorem dX3_readText_53 : decode cX3_readText 53 = .ok (.aload_n 0, 1) := by decide +kernel
theorem dX3_readText_54 : decode cX3_readText 54 = .ok (.invokevirtual 60, 3) := by decide +kernel
theorem dX3_readText_57 : decode cX3_readText 57 = .ok (.ifCond .eq 23, 3) := by decide +kernel
theorem dX3_readText_60 : decode cX3_readText 60 = .ok (.aload_n 0, 1) := by decide +kernel
theorem dX3_readText_61 : decode cX3_readText 61 = .ok (.dup, 1) := by decide +kernel
theorem dX3_readText_62 : decode cX3_readText 62 = .ok (.getfield 51, 3) := by decide +kernel
theorem dX3_readText_65 : decode cX3_readText 65 = .ok (.iconst 1, 1) := by decide +kernel
theorem dX3_readText_66 : decode cX3_readText 66 = .ok (.iadd, 1) := by decide +kernel
theorem dX3_readText_67 : decode cX3_readText 67 = .ok (.putfield 51, 3) := by decide +kernel
theorem dX3_readText_70 : decode cX3_readText 70 = .ok (.aload_n 0, 1) := by decide +kernel
theorem dX3_readText_71 : decode cX3_readText 71 = .ok (.invokevirtual 57, 3) := by decide +kernel
theorem dX3_readText_74 : decode cX3_readText 74 = .ok (.iinc 1 (-1), 3) := by decide +kernel
theorem dX3_readText_77 : decode cX3_readText 77 = .ok (.goto (-28), 3) := by decide +kernel
theorem dX3_readText_80 : decode cX3_readText 80 = .ok (.aload_n 0, 1) := by decide +kernel
theorem dX3_readText_81 : decode cX3_readText 81 = .ok (.iconst 0, 1) := by decide +kernel
theorem dX3_readText_82 : decode cX3_readText 82 = .ok (.putfield 27, 3) := by decide +kernel
theorem dX3_readText_85 : decode cX3_readText 85 = .ok (.return_, 1) := by decide +kernel
theorem dX3_fail_0 : decode cX3_fail 0 = .ok (.aload_n 0, 1) := by decide +kernel
theorem dX3_fail_1 : decode cX3_fail 1 = .ok (.getfield 45, 3) := by decide +kernel
theorem dX3_fail_4 : decode cX3_fail 4 = .ok (.ifCond .ne 13, 3) := by decide +kernel
theorem dX3_fail_7 : decode cX3_fail 7 = .ok (.aload_n 0, 1) := by decide +kernel
theorem dX3_fail_8 : decode cX3_fail 8 = .ok (.iload_n 1, 1) := by decide +kernel
theorem dX3_fail_9 : decode cX3_fail 9 = .ok (.putfield 45, 3) := by decide +kernel
theorem dX3_fail_12 : decode cX3_fail 12 = .ok (.aload_n 0, 1) := by decide +kernel
theorem dX3_fail_13 : decode cX3_fail 13 = .ok (.iload_n 2, 1) := by decide +kernel
theorem dX3_fail_14 : decode cX3_fail 14 = .ok (.putfield 48, 3) := by decide +kernel
theorem dX3_fail_17 : decode cX3_fail 17 = .ok (.return_, 1) := by decide +kernel
theorem dX3_skipSpaces_0 : decode cX3_skipSpaces 0 = .ok (.aload_n 0, 1) := by decide +kernel
theorem dX3_skipSpaces_1 : decode cX3_skipSpaces 1 = .ok (.getfield 54, 3) := by decide +kernel
theorem dX3_skipSpaces_4 : decode cX3_skipSpaces 4 = .ok (.aload_n 0, 1) := by decide +kernel
theorem dX3_skipSpaces_5 : decode cX3_skipSpaces 5 = .ok (.getfield 27, 3) := by decide +kernel
theorem dX3_skipSpaces_8 : decode cX3_skipSpaces 8 = .ok (.if_icmp .ge 30, 3) := by decide +kernel
theorem dX3_skipSpaces_11 : decode cX3_skipSpaces 11 = .ok (.aload_n 0, 1) := by decide +kernel
theorem dX3_skipSpaces_12 : decode cX3_skipSpaces 12 = .ok (.getfield 23, 3) := by decide +kernel
theorem dX3_skipSpaces_15 : decode cX3_skipSpaces 15 = .ok (.aload_n 0, 1) := by decide +kernel
theorem dX3_skipSpaces_16 : decode cX3_skipSpaces 16 = .ok (.getfield 54, 3) := by decide +kernel
theorem dX3_skipSpaces_19 : decode cX3_skipSpaces 19 = .ok (.baload, 1) := by decide +kernel
theorem dX3_skipSpaces_20 : decode cX3_skipSpaces 20 = .ok (.bipush 32, 2) := by decide +kernel
theorem dX3_skipSpaces_22 : decode cX3_skipSpaces 22 = .ok (.if_icmp .ne 16, 3) := by decide +kernel
theorem dX3_skipSpaces_25 : decode cX3_skipSpaces 25 = .ok (.aload_n 0, 1) := by decide +kernel
theorem dX3_skipSpaces_26 : decode cX3_skipSpaces 26 = .ok (.dup, 1) := by decide +kernel
theorem dX3_skipSpaces_27 : decode cX3_skipSpaces 27 = .ok (.getfield 54, 3) := by decide +kernel
theorem dX3_skipSpaces_30 : decode cX3_skipSpaces 30 = .ok (.iconst 1, 1) := by decide +kernel
theorem dX3_skipSpaces_31 : decode cX3_skipSpaces 31 = .ok (.iadd, 1) := by decide +kernel
theorem dX3_skipSpaces_32 : decode cX3_skipSpaces 32 = .ok (.putfield 54, 3) := by decide +kernel
theorem dX3_skipSpaces_35 : decode cX3_skipSpaces 35 = .ok (.goto (-35), 3) := by decide +kernel
theorem dX3_skipSpaces_38 : decode cX3_skipSpaces 38 = .ok (.return_, 1) := by decide +kernel
theorem dX3_passSemicolon_0 : decode cX3_passSemicolon 0 = .ok (.aload_n 0, 1) := by decide +kernel
theorem dX3_passSemicolon_1 : decode cX3_passSemicolon 1 = .ok (.getfield 45, 3) := by decide +kernel
theorem dX3_passSemicolon_4 : decode cX3_passSemicolon 4 = .ok (.ifCond .eq 5, 3) := by decide +kernel
theorem dX3_passSemicolon_7 : decode cX3_passSemicolon 7 = .ok (.iconst 0, 1) := by decide +kernel
theorem dX3_passSemicolon_8 : decode cX3_passSemicolon 8 = .ok (.ireturn, 1) := by decide +kernel
theorem dX3_passSemicolon_9 : decode cX3_passSemicolon 9 = .ok (.aload_n 0, 1) := by decide +kernel
theorem dX3_passSemicolon_10 : decode cX3_passSemicolon 10 = .ok (.invokevirtual 64, 3) := by decide +kernel
theorem dX3_passSemicolon_13 : decode cX3_passSemicolon 13 = .ok (.aload_n 0, 1) := by decide +kernel
theorem dX3_passSemicolon_14 : decode cX3_passSemicolon 14 = .ok (.getfield 54, 3) := by decide +kernel
theorem dX3_passSemicolon_17 : decode cX3_passSemicolon 17 = .ok (.aload_n 0, 1) := by decide +kernel
theorem dX3_passSemicolon_18 : decode cX3_passSemicolon 18 = .ok (.getfield 27, 3) := by decide +kernel
theorem dX3_passSemicolon_21 : decode cX3_passSemicolon 21 = .ok (.if_icmp .lt 5, 3) := by decide +kernel
theorem dX3_passSemicolon_24 : decode cX3_passSemicolon 24 = .ok (.iconst 0, 1) := by decide +kernel
theorem dX3_passSemicolon_25 : decode cX3_passSemicolon 25 = .ok (.ireturn, 1) := by decide +kernel
theorem dX3_passSemicolon_26 : decode cX3_passSemicolon 26 = .ok (.aload_n 0, 1) := by decide +kernel
theorem dX3_passSemicolon_27 : decode cX3_passSemicolon 27 = .ok (.getfield 23, 3) := by decide +kernel
theorem dX3_passSemicolon_30 : decode cX3_passSemicolon 30 = .ok (.aload_n 0, 1) := by decide +kernel
theorem dX3_passSemicolon_31 : decode cX3_passSemicolon 31 = .ok (.getfield 54, 3) := by decide +kernel
theorem dX3_passSemicolon_34 : decode cX3_passSemicolon 34 = .ok (.baload, 1) := by decide +kernel
theorem dX3_passSemicolon_35 : decode cX3_passSemicolon 35 = .ok (.bipush 59, 2) := by decide +kernel
theorem dX3_passSemicolon_37 : decode cX3_passSemicolon 37 = .ok (.if_icmp .eq 14, 3) := by decide +kernel
theorem dX3_passSemicolon_40 : decode cX3_passSemicolon 40 = .ok (.aload_n 0, 1) := by decide +kernel
theorem dX3_passSemicolon_41 : decode cX3_passSemicolon 41 = .ok (.iconst 1, 1) := by decide +kernel
theorem dX3_passSemicolon_42 : decode cX3_passSemicolon 42 = .ok (.aload_n 0, 1) := by decide +kernel
theorem dX3_passSemicolon_43 : decode cX3_passSemicolon 43 = .ok (.getfield 54, 3) := by decide +kernel
theorem dX3_passSemicolon_46 : decode cX3_passSemicolon 46 = .ok (.invokevirtual 67, 3) := by decide +kernel
theorem dX3_passSemicolon_49 : decode cX3_passSemicolon 49 = .ok (.iconst 0, 1) := by decide +kernel
theorem dX3_passSemicolon_50 : decode cX3_passSemicolon 50 = .ok (.ireturn, 1) := by decide +kernel
theorem dX3_passSemicolon_51 : decode cX3_passSemicolon 51 = .ok (.aload_n 0, 1) := by decide +kernel
theorem dX3_passSemicolon_52 : decode cX3_passSemicolon 52 = .ok (.dup, 1) := by decide +kernel
theorem dX3_passSemicolon_53 : decode cX3_passSemicolon 53 = .ok (.getfield 54, 3) := by decide +kernel
theorem dX3_passSemicolon_56 : decode cX3_passSemicolon 56 = .ok (.iconst 1, 1) := by decide +kernel
theorem dX3_passSemicolon_57 : decode cX3_passSemicolon 57 = .ok (.iadd, 1) := by decide +kernel
theorem dX3_passSemicolon_58 : decode cX3_passSemicolon 58 = .ok (.putfield 54, 3) := by decide +kernel
theorem dX3_passSemicolon_61 : decode cX3_passSemicolon 61 = .ok (.iconst 1, 1) := by decide +kernel
theorem dX3_passSemicolon_62 : decode cX3_passSemicolon 62 = .ok (.ireturn, 1) := by decide +kernel
theorem dX3_readStatement_0 : decode cX3_readStatement 0 = .ok (.aload_n 0, 1) := by decide +kernel
theorem dX3_readStatement_1 : decode cX3_readStatement 1 = .ok (.invokevirtual 64, 3) := by decide +kernel
theorem dX3_readStatement_4 : decode cX3_readStatement 4 = .ok (.aload_n 0, 1) := by decide +kernel
theorem dX3_readStatement_5 : decode cX3_readStatement 5 = .ok (.getfield 54, 3) := by decide +kernel
theorem dX3_readStatement_8 : decode cX3_readStatement 8 = .ok (.istore_n 1, 1) := by decide +kernel
theorem dX3_readStatement_9 : decode cX3_readStatement 9 = .ok (.aload_n 0, 1) := by decide +kernel
theorem dX3_readStatement_10 : decode cX3_readStatement 10 = .ok (.getfield 54, 3) := by decide +kernel
theorem dX3_readStatement_13 : decode cX3_readStatement 13 = .ok (.aload_n 0, 1) := by decide +kernel
theorem dX3_readStatement_14 : decode cX3_readStatement 14 = .ok (.getfield 27, 3) := by decide +kernel
theorem dX3_readStatement_17 : decode cX3_readStatement 17 = .ok (.if_icmp .ge 44, 3) := by decide +kernel
theorem dX3_readStatement_20 : decode cX3_readStatement 20 = .ok (.aload_n 0, 1) := by decide +kernel
theorem dX3_readStatement_21 : decode cX3_readStatement 21 = .ok (.getfield 23, 3) := by decide +kernel
theorem dX3_readStatement_24 : decode cX3_readStatement 24 = .ok (.aload_n 0, 1) := by decide +kernel
theorem dX3_readStatement_25 : decode cX3_readStatement 25 = .ok (.getfield 54, 3) := by decide +kernel
theorem dX3_readStatement_28 : decode cX3_readStatement 28 = .ok (.baload, 1) := by decide +kernel
theorem dX3_readStatement_29 : decode cX3_readStatement 29 = .ok (.bipush 97, 2) := by decide +kernel
theorem dX3_readStatement_31 : decode cX3_readStatement 31 = .ok (.if_icmp .lt 30, 3) := by decide +kernel
theorem dX3_readStatement_34 : decode cX3_readStatement 34 = .ok (.aload_n 0, 1) := by decide +kernel
theorem dX3_readStatement_35 : decode cX3_readStatement 35 = .ok (.getfield 23, 3) := by decide +kernel
theorem dX3_readStatement_38 : decode cX3_readStatement 38 = .ok (.aload_n 0, 1) := by decide +kernel
theorem dX3_readStatement_39 : decode cX3_readStatement 39 = .ok (.getfield 54, 3) := by decide +kernel
theorem dX3_readStatement_42 : decode cX3_readStatement 42 = .ok (.baload, 1) := by decide +kernel
theorem dX3_readStatement_43 : decode cX3_readStatement 43 = .ok (.bipush 122, 2) := by decide +kernel
theorem dX3_readStatement_45 : decode cX3_readStatement 45 = .ok (.if_icmp .gt 16, 3) := by decide +kernel
theorem dX3_readStatement_48 : decode cX3_readStatement 48 = .ok (.aload_n 0, 1) := by decide +kernel
theorem dX3_readStatement_49 : decode cX3_readStatement 49 = .ok (.dup, 1) := by decide +kernel
theorem dX3_readStatement_50 : decode cX3_readStatement 50 = .ok (.getfield 54, 3) := by decide +kernel
theorem dX3_readStatement_53 : decode cX3_readStatement 53 = .ok (.iconst 1, 1) := by decide +kernel
theorem dX3_readStatement_54 : decode cX3_readStatement 54 = .ok (.iadd, 1) := by decide +kernel
theorem dX3_readStatement_55 : decode cX3_readStatement 55 = .ok (.putfield 54, 3) := by decide +kernel
theorem dX3_readStatement_58 : decode cX3_readStatement 58 = .ok (.goto (-49), 3) := by decide +kernel
theorem dX3_readStatement_61 : decode cX3_readStatement 61 = .ok (.aload_n 0, 1) := by decide +kernel
theorem dX3_readStatement_62 : decode cX3_readStatement 62 = .ok (.iload_n 1, 1) := by decide +kernel
theorem dX3_readStatement_63 : decode cX3_readStatement 63 = .ok (.aload_n 0, 1) := by decide +kernel
theorem dX3_readStatement_64 : decode cX3_readStatement 64 = .ok (.getfield 54, 3) := by decide +kernel
theorem dX3_readStatement_67 : decode cX3_readStatement 67 = .ok (.invokevirtual 71, 3) := by decide +kernel
theorem dX3_readStatement_70 : decode cX3_readStatement 70 = .ok (.istore_n 2, 1) := by decide +kernel
theorem dX3_readStatement_71 : decode cX3_readStatement 71 = .ok (.iload_n 2, 1) := by decide +kernel
theorem dX3_readStatement_72 : decode cX3_readStatement 72 = .ok (.iconst (-1), 1) := by decide +kernel
theorem dX3_readStatement_73 : decode cX3_readStatement 73 = .ok (.if_icmp .eq 27, 3) := by decide +kernel
theorem dX3_readStatement_76 : decode cX3_readStatement 76 = .ok (.iload_n 2, 1) := by decide +kernel
theorem dX3_readStatement_77 : decode cX3_readStatement 77 = .ok (.ifCond .ne 7, 3) := by decide +kernel
theorem dX3_readStatement_80 : decode cX3_readStatement 80 = .ok (.iconst 1, 1) := by decide +kernel
theorem dX3_readStatement_81 : decode cX3_readStatement 81 = .ok (.goto 4, 3) := by decide +kernel
theorem dX3_readStatement_84 : decode cX3_readStatement 84 = .ok (.iconst 0, 1) := by decide +kernel
theorem dX3_readStatement_85 : decode cX3_readStatement 85 = .ok (.aload_n 0, 1) := by decide +kernel
theorem dX3_readStatement_86 : decode cX3_readStatement 86 = .ok (.getfield 51, 3) := by decide +kernel
theorem dX3_readStatement_89 : decode cX3_readStatement 89 = .ok (.ifCond .ne 7, 3) := by decide +kernel
theorem dX3_readStatement_92 : decode cX3_readStatement 92 = .ok (.iconst 1, 1) := by decide +kernel
theorem dX3_readStatement_93 : decode cX3_readStatement 93 = .ok (.goto 4, 3) := by decide +kernel
theorem dX3_readStatement_96 : decode cX3_readStatement 96 = .ok (.iconst 0, 1) := by decide +kernel
theorem dX3_readStatement_97 : decode cX3_readStatement 97 = .ok (.if_icmp .eq 10, 3) := by decide +kernel
theorem dX3_readStatement_100 : decode cX3_readStatement 100 = .ok (.aload_n 0, 1) := by decide +kernel
theorem dX3_readStatement_101 : decode cX3_readStatement 101 = .ok (.iconst 1, 1) := by decide +kernel
theorem dX3_readStatement_102 : decode cX3_readStatement 102 = .ok (.iload_n 1, 1) := by decide +kernel
theorem dX3_readStatement_103 : decode cX3_readStatement 103 = .ok (.invokevirtual 67, 3) := by decide +kernel
theorem dX3_readStatement_106 : decode cX3_readStatement 106 = .ok (.return_, 1) := by decide +kernel
theorem dX3_readStatement_107 : decode cX3_readStatement 107 = .ok (.aload_n 0, 1) := by decide +kernel
theorem dX3_readStatement_108 : decode cX3_readStatement 108 = .ok (.iload_n 2, 1) := by decide +kernel
theorem dX3_readStatement_109 : decode cX3_readStatement 109 = .ok (.invokevirtual 75, 3) := by decide +kernel
theorem dX3_readStatement_112 : decode cX3_readStatement 112 = .ok (.ifCond .eq 10, 3) := by decide +kernel
theorem dX3_readStatement_115 : decode cX3_readStatement 115 = .ok (.aload_n 0, 1) := by decide +kernel
theorem dX3_readStatement_116 : decode cX3_readStatement 116 = .ok (.iconst 4, 1) := by decide +kernel
theorem dX3_readStatement_117 : decode cX3_readStatement 117 = .ok (.iload_n 1, 1) := by decide +kernel
theorem dX3_readStatement_118 : decode cX3_readStatement 118 = .ok (.invokevirtual 67, 3) := by decide +kernel
theorem dX3_readStatement_121 : decode cX3_readStatement 121 = .ok (.return_, 1) := by decide +kernel
theorem dX3_readStatement_122 : decode cX3_readStatement 122 = .ok (.iload_n 2, 1) := by decide +kernel
theorem dX3_readStatement_123 : decode cX3_readStatement 123 = .ok (.tableswitch 79 0 5 #[37, 44, 51, 58, 65, 72], 37) := by decide +kernel
theorem dX3_readStatement_160 : decode cX3_readStatement 160 = .ok (.aload_n 0, 1) := by decide +kernel
theorem dX3_readStatement_161 : decode cX3_readStatement 161 = .ok (.invokevirtual 79, 3) := by decide +kernel
theorem dX3_readStatement_164 : decode cX3_readStatement 164 = .ok (.goto 42, 3) := by decide +kernel
theorem dX3_readStatement_167 : decode cX3_readStatement 167 = .ok (.aload_n 0, 1) := by decide +kernel
theorem dX3_readStatement_168 : decode cX3_readStatement 168 = .ok (.invokevirtual 82, 3) := by decide +kernel
theorem dX3_readStatement_171 : decode cX3_readStatement 171 = .ok (.goto 35, 3) := by decide +kernel
theorem dX3_readStatement_174 : decode cX3_readStatement 174 = .ok (.aload_n 0, 1) := by decide +kernel
theorem dX3_readStatement_175 : decode cX3_readStatement 175 = .ok (.invokevirtual 85, 3) := by decide +kernel
theorem dX3_readStatement_178 : decode cX3_readStatement 178 = .ok (.goto 28, 3) := by decide +kernel
theorem dX3_readStatement_181 : decode cX3_readStatement 181 = .ok (.aload_n 0, 1) := by decide +kernel
theorem dX3_readStatement_182 : decode cX3_readStatement 182 = .ok (.invokevirtual 88, 3) := by decide +kernel
theorem dX3_readStatement_185 : decode cX3_readStatement 185 = .ok (.goto 21, 3) := by decide +kernel
theorem dX3_readStatement_188 : decode cX3_readStatement 188 = .ok (.aload_n 0, 1) := by decide +kernel
theorem dX3_readStatement_189 : decode cX3_readStatement 189 = .ok (.invokevirtual 91, 3) := by decide +kernel
theorem dX3_readStatement_192 : decode cX3_readStatement 192 = .ok (.goto 14, 3) := by decide +kernel
theorem dX3_readStatement_195 : decode cX3_readStatement 195 = .ok (.aload_n 0, 1) := by decide +kernel
theorem dX3_readStatement_196 : decode cX3_readStatement 196 = .ok (.invokevirtual 94, 3) := by decide +kernel
theorem dX3_readStatement_199 : decode cX3_readStatement 199 = .ok (.goto 7, 3) := by decide +kernel
theorem dX3_readStatement_202 : decode cX3_readStatement 202 = .ok (.aload_n 0, 1) := by decide +kernel
theorem dX3_readStatement_203 : decode cX3_readStatement 203 = .ok (.invokevirtual 97, 3) := by decide +kernel
theorem dX3_readStatement_206 : decode cX3_readStatement 206 = .ok (.return_, 1) := by decide +kernel
theorem dX3_kindOfWord_0 : decode cX3_kindOfWord 0 = .ok (.aload_n 0, 1) := by decide +kernel
theorem dX3_kindOfWord_1 : decode cX3_kindOfWord 1 = .ok (.iload_n 1, 1) := by decide +kernel
theorem dX3_kindOfWord_2 : decode cX3_kindOfWord 2 = .ok (.iload_n 2, 1) := by decide +kernel
theorem dX3_kindOfWord_3 : decode cX3_kindOfWord 3 = .ok (.ldc 100, 2) := by decide +kernel
theorem dX3_kindOfWord_5 : decode cX3_kindOfWord 5 = .ok (.invokevirtual 102, 3) := by decide +kernel
theorem dX3_kindOfWord_8 : decode cX3_kindOfWord 8 = .ok (.ifCond .eq 5, 3) := by decide +kernel
theorem dX3_kindOfWord_11 : decode cX3_kindOfWord 11 = .ok (.iconst 0, 1) := by decide +kernel
theorem dX3_kindOfWord_12 : decode cX3_kindOfWord 12 = .ok (.ireturn, 1) := by decide +kernel
theorem dX3_kindOfWord_13 : decode cX3_kindOfWord 13 = .ok (.aload_n 0, 1) := by decide +kernel
theorem dX3_kindOfWord_14 : decode cX3_kindOfWord 14 = .ok (.iload_n 1, 1) := by decide +kernel
theorem dX3_kindOfWord_15 : decode cX3_kindOfWord 15 = .ok (.iload_n 2, 1) := by decide +kernel
theorem dX3_kindOfWord_16 : decode cX3_kindOfWord 16 = .ok (.ldc 106, 2) := by decide +kernel
theorem dX3_kindOfWord_18 : decode cX3_kindOfWord 18 = .ok (.invokevirtual 102, 3) := by decide +kernel
theorem dX3_kindOfWord_21 : decode cX3_kindOfWord 21 = .ok (.ifCond .eq 5, 3) := by decide +kernel
theorem dX3_kindOfWord_24 : decode cX3_kindOfWord 24 = .ok (.iconst 1, 1) := by decide +kernel
theorem dX3_kindOfWord_25 : decode cX3_kindOfWord 25 = .ok (.ireturn, 1) := by decide +kernel
theorem dX3_kindOfWord_26 : decode cX3_kindOfWord 26 = .ok (.aload_n 0, 1) := by decide +kernel
theorem dX3_kindOfWord_27 : decode cX3_kindOfWord 27 = .ok (.iload_n 1, 1) := by decide +kernel
theorem dX3_kindOfWord_28 : decode cX3_kindOfWord 28 = .ok (.iload_n 2, 1) := by decide +kernel
theorem dX3_kindOfWord_29 : decode cX3_kindOfWord 29 = .ok (.ldc 108, 2) := by decide +kernel
theorem dX3_kindOfWord_31 : decode cX3_kindOfWord 31 = .ok (.invokevirtual 102, 3) := by decide +kernel
theorem dX3_kindOfWord_34 : decode cX3_kindOfWord 34 = .ok (.ifCond .eq 5, 3) := by decide +kernel
theorem dX3_kindOfWord_37 : decode cX3_kindOfWord 37 = .ok (.iconst 2, 1) := by decide +kernel
theorem dX3_kindOfWord_38 : decode cX3_kindOfWord 38 = .ok (.ireturn, 1) := by decide +kernel
theorem dX3_kindOfWord_39 : decode cX3_kindOfWord 39 = .ok (.aload_n 0, 1) := by decide +kernel
theorem dX3_kindOfWord_40 : decode cX3_kindOfWord 40 = .ok (.iload_n 1, 1) := by decide +kernel
theorem dX3_kindOfWord_41 : decode cX3_kindOfWord 41 = .ok (.iload_n 2, 1) := by decide +kernel
theorem dX3_kindOfWord_42 : decode cX3_kindOfWord 42 = .ok (.ldc 110, 2) := by decide +kernel
theorem dX3_kindOfWord_44 : decode cX3_kindOfWord 44 = .ok (.invokevirtual 102, 3) := by decide +kernel
theorem dX3_kindOfWord_47 : decode cX3_kindOfWord 47 = .ok (.ifCond .eq 5, 3) := by decide +kernel
theorem dX3_kindOfWord_50 : decode cX3_kindOfWord 50 = .ok (.iconst 3, 1) := by decide +kernel
theorem dX3_kindOfWord_51 : decode cX3_kindOfWord 51 = .ok (.ireturn, 1) := by decide +kernel
theorem dX3_kindOfWord_52 : decode cX3_kindOfWord 52 = .ok (.aload_n 0, 1) := by decide +kernel
theorem dX3_kindOfWord_53 : decode cX3_kindOfWord 53 = .ok (.iload_n 1, 1) := by decide +kernel
theorem dX3_kindOfWord_54 : decode cX3_kindOfWord 54 = .ok (.iload_n 2, 1) := by decide +kernel
theorem dX3_kindOfWord_55 : decode cX3_kindOfWord 55 = .ok (.ldc 112, 2) := by decide +kernel
theorem dX3_kindOfWord_57 : decode cX3_kindOfWord 57 = .ok (.invokevirtual 102, 3) := by decide +kernel
theorem dX3_kindOfWord_60 : decode cX3_kindOfWord 60 = .ok (.ifCond .eq 5, 3) := by decide +kernel
theorem dX3_kindOfWord_63 : decode cX3_kindOfWord 63 = .ok (.iconst 4, 1) := by decide +kernel
theorem dX3_kindOfWord_64 : decode cX3_kindOfWord 64 = .ok (.ireturn, 1) := by decide +kernel
theorem dX3_kindOfWord_65 : decode cX3_kindOfWord 65 = .ok (.aload_n 0, 1) := by decide +kernel
theorem dX3_kindOfWord_66 : decode cX3_kindOfWord 66 = .ok (.iload_n 1, 1) := by decide +kernel
theorem dX3_kindOfWord_67 : decode cX3_kindOfWord 67 = .ok (.iload_n 2, 1) := by decide +kernel
theorem dX3_kindOfWord_68 : decode cX3_kindOfWord 68 = .ok (.ldc 114, 2) := by decide +kernel
theorem dX3_kindOfWord_70 : decode cX3_kindOfWord 70 = .ok (.invokevirtual 102, 3) := by decide +kernel
theorem dX3_kindOfWord_73 : decode cX3_kindOfWord 73 = .ok (.ifCond .eq 5, 3) := by decide +kernel
theorem dX3_kindOfWord_76 : decode cX3_kindOfWord 76 = .ok (.iconst 5, 1) := by decide +kernel
theorem dX3_kindOfWord_77 : decode cX3_kindOfWord 77 = .ok (.ireturn, 1) := by decide +kernel
theorem dX3_kindOfWord_78 : decode cX3_kindOfWord 78 = .ok (.aload_n 0, 1) := by decide +kernel
theorem dX3_kindOfWord_79 : decode cX3_kindOfWord 79 = .ok (.iload_n 1, 1) := by decide +kernel
theorem dX3_kindOfWord_80 : decode cX3_kindOfWord 80 = .ok (.iload_n 2, 1) := by decide +kernel
theorem dX3_kindOfWord_81 : decode cX3_kindOfWord 81 = .ok (.ldc 116, 2) := by decide +kernel
theorem dX3_kindOfWord_83 : decode cX3_kindOfWord 83 = .ok (.invokevirtual 102, 3) := by decide +kernel
theorem dX3_kindOfWord_86 : decode cX3_kindOfWord 86 = .ok (.ifCond .eq 8, 3) := by decide +kernel
theorem dX3_kindOfWord_89 : decode cX3_kindOfWord 89 = .ok (.bipush 6, 2) := by decide +kernel
theorem dX3_kindOfWord_91 : decode cX3_kindOfWord 91 = .ok (.goto 4, 3) := by decide +kernel
theorem dX3_kindOfWord_94 : decode cX3_kindOfWord 94 = .ok (.iconst (-1), 1) := by decide +kernel
theorem dX3_kindOfWord_95 : decode cX3_kindOfWord 95 = .ok (.ireturn, 1) := by decide +kernel
theorem dX3_isWord_0 : decode cX3_isWord 0 = .ok (.iload_n 2, 1) := by decide +kernel
theorem dX3_isWord_1 : decode cX3_isWord 1 = .ok (.iload_n 1, 1) := by decide +kernel
theorem dX3_isWord_2 : decode cX3_isWord 2 = .ok (.isub, 1) := by decide +kernel
theorem dX3_isWord_3 : decode cX3_isWord 3 = .ok (.aload_n 3, 1) := by decide +kernel
theorem dX3_isWord_4 : decode cX3_isWord 4 = .ok (.invokevirtual 118, 3) := by decide +kernel
theorem dX3_isWord_7 : decode cX3_isWord 7 = .ok (.if_icmp .eq 5, 3) := by decide +kernel
theorem dX3_isWord_10 : decode cX3_isWord 10 = .ok (.iconst 0, 1) := by decide +kernel
theorem dX3_isWord_11 : decode cX3_isWord 11 = .ok (.ireturn, 1) := by decide +kernel
theorem dX3_isWord_12 : decode cX3_isWord 12 = .ok (.iconst 0, 1) := by decide +kernel
theorem dX3_isWord_13 : decode cX3_isWord 13 = .ok (.istore 4, 2) := by decide +kernel
theorem dX3_isWord_15 : decode cX3_isWord 15 = .ok (.iload 4, 2) := by decide +kernel
theorem dX3_isWord_17 : decode cX3_isWord 17 = .ok (.aload_n 3, 1) := by decide +kernel
theorem dX3_isWord_18 : decode cX3_isWord 18 = .ok (.invokevirtual 118, 3) := by decide +kernel
theorem dX3_isWord_21 : decode cX3_isWord 21 = .ok (.if_icmp .ge 29, 3) := by decide +kernel
theorem dX3_isWord_24 : decode cX3_isWord 24 = .ok (.aload_n 0, 1) := by decide +kernel
theorem dX3_isWord_25 : decode cX3_isWord 25 = .ok (.getfield 23, 3) := by decide +kernel
theorem dX3_isWord_28 : decode cX3_isWord 28 = .ok (.iload_n 1, 1) := by decide +kernel
theorem dX3_isWord_29 : decode cX3_isWord 29 = .ok (.iload 4, 2) := by decide +kernel
theorem dX3_isWord_31 : decode cX3_isWord 31 = .ok (.iadd, 1) := by decide +kernel
theorem dX3_isWord_32 : decode cX3_isWord 32 = .ok (.baload, 1) := by decide +kernel
theorem dX3_isWord_33 : decode cX3_isWord 33 = .ok (.aload_n 3, 1) := by decide +kernel
theorem dX3_isWord_34 : decode cX3_isWord 34 = .ok (.iload 4, 2) := by decide +kernel
theorem dX3_isWord_36 : decode cX3_isWord 36 = .ok (.invokevirtual 123, 3) := by decide +kernel
theorem dX3_isWord_39 : decode cX3_isWord 39 = .ok (.if_icmp .eq 5, 3) := by decide +kernel
theorem dX3_isWord_42 : decode cX3_isWord 42 = .ok (.iconst 0, 1) := by decide +kernel
theorem dX3_isWord_43 : decode cX3_isWord 43 = .ok (.ireturn, 1) := by decide +kernel
theorem dX3_isWord_44 : decode cX3_isWord 44 = .ok (.iinc 4 1, 3) := by decide +kernel
theorem dX3_isWord_47 : decode cX3_isWord 47 = .ok (.goto (-32), 3) := by decide +kernel
theorem dX3_isWord_50 : decode cX3_isWord 50 = .ok (.iconst 1, 1) := by decide +kernel
theorem dX3_isWord_51 : decode cX3_isWord 51 = .ok (.ireturn, 1) := by decide +kernel
theorem dX3_isFull_0 : decode cX3_isFull 0 = .ok (.iload_n 1, 1) := by decide +kernel
theorem dX3_isFull_1 : decode cX3_isFull 1 = .ok (.tableswitch 167 1 6 #[39, 59, 80, 101, 122, 146], 39) := by decide +kernel
theorem dX3_isFull_40 : decode cX3_isFull 40 = .ok (.aload_n 0, 1) := by decide +kernel
theorem dX3_isFull_41 : decode cX3_isFull 41 = .ok (.getfield 17, 3) := by decide +kernel
theorem dX3_isFull_44 : decode cX3_isFull 44 = .ok (.getfield 31, 3) := by decide +kernel
theorem dX3_isFull_47 : decode cX3_isFull 47 = .ok (.getfield 127, 3) := by decide +kernel
theorem dX3_isFull_50 : decode cX3_isFull 50 = .ok (.iconst 4, 1) := by decide +kernel
theorem dX3_isFull_51 : decode cX3_isFull 51 = .ok (.if_icmp .lt 7, 3) := by decide +kernel
theorem dX3_isFull_54 : decode cX3_isFull 54 = .ok (.iconst 1, 1) := by decide +kernel
theorem dX3_isFull_55 : decode cX3_isFull 55 = .ok (.goto 4, 3) := by decide +kernel
theorem dX3_isFull_58 : decode cX3_isFull 58 = .ok (.iconst 0, 1) := by decide +kernel
theorem dX3_isFull_59 : decode cX3_isFull 59 = .ok (.ireturn, 1) := by decide +kernel
theorem dX3_isFull_60 : decode cX3_isFull 60 = .ok (.aload_n 0, 1) := by decide +kernel
theorem dX3_isFull_61 : decode cX3_isFull 61 = .ok (.getfield 17, 3) := by decide +kernel
theorem dX3_isFull_64 : decode cX3_isFull 64 = .ok (.getfield 31, 3) := by decide +kernel
theorem dX3_isFull_67 : decode cX3_isFull 67 = .ok (.getfield 130, 3) := by decide +kernel
theorem dX3_isFull_70 : decode cX3_isFull 70 = .ok (.bipush 8, 2) := by decide +kernel
theorem dX3_isFull_72 : decode cX3_isFull 72 = .ok (.if_icmp .lt 7, 3) := by decide +kernel
theorem dX3_isFull_75 : decode cX3_isFull 75 = .ok (.iconst 1, 1) := by decide +kernel
theorem dX3_isFull_76 : decode cX3_isFull 76 = .ok (.goto 4, 3) := by decide +kernel
theorem dX3_isFull_79 : decode cX3_isFull 79 = .ok (.iconst 0, 1) := by decide +kernel
theorem dX3_isFull_80 : decode cX3_isFull 80 = .ok (.ireturn, 1) := by decide +kernel
theorem dX3_isFull_81 : decode cX3_isFull 81 = .ok (.aload_n 0, 1) := by decide +kernel
theorem dX3_isFull_82 : decode cX3_isFull 82 = .ok (.getfield 17, 3) := by decide +kernel
theorem dX3_isFull_85 : decode cX3_isFull 85 = .ok (.getfield 31, 3) := by decide +kernel
theorem dX3_isFull_88 : decode cX3_isFull 88 = .ok (.getfield 132, 3) := by decide +kernel
theorem dX3_isFull_91 : decode cX3_isFull 91 = .ok (.bipush 12, 2) := by decide +kernel
theorem dX3_isFull_93 : decode cX3_isFull 93 = .ok (.if_icmp .lt 7, 3) := by decide +kernel
theorem dX3_isFull_96 : decode cX3_isFull 96 = .ok (.iconst 1, 1) := by decide +kernel
theorem dX3_isFull_97 : decode cX3_isFull 97 = .ok (.goto 4, 3) := by decide +kernel
theorem dX3_isFull_100 : decode cX3_isFull 100 = .ok (.iconst 0, 1) := by decide +kernel
theorem dX3_isFull_101 : decode cX3_isFull 101 = .ok (.ireturn, 1) := by decide +kernel
theorem dX3_isFull_102 : decode cX3_isFull 102 = .ok (.aload_n 0, 1) := by decide +kernel
theorem dX3_isFull_103 : decode cX3_isFull 103 = .ok (.getfield 17, 3) := by decide +kernel
theorem dX3_isFull_106 : decode cX3_isFull 106 = .ok (.getfield 31, 3) := by decide +kernel
theorem dX3_isFull_109 : decode cX3_isFull 109 = .ok (.getfield 135, 3) := by decide +kernel
theorem dX3_isFull_112 : decode cX3_isFull 112 = .ok (.bipush 12, 2) := by decide +kernel
theorem dX3_isFull_114 : decode cX3_isFull 114 = .ok (.if_icmp .lt 7, 3) := by decide +kernel
theorem dX3_isFull_117 : decode cX3_isFull 117 = .ok (.iconst 1, 1) := by decide +kernel
theorem dX3_isFull_118 : decode cX3_isFull 118 = .ok (.goto 4, 3) := by decide +kernel
theorem dX3_isFull_121 : decode cX3_isFull 121 = .ok (.iconst 0, 1) := by decide +kernel
theorem dX3_isFull_122 : decode cX3_isFull 122 = .ok (.ireturn, 1) := by decide +kernel
theorem dX3_isFull_123 : decode cX3_isFull 123 = .ok (.aload_n 0, 1) := by decide +kernel
theorem dX3_isFull_124 : decode cX3_isFull 124 = .ok (.getfield 17, 3) := by decide +kernel
theorem dX3_isFull_127 : decode cX3_isFull 127 = .ok (.getfield 38, 3) := by decide +kernel
theorem dX3_isFull_130 : decode cX3_isFull 130 = .ok (.getfield 138, 3) := by decide +kernel
theorem dX3_isFull_133 : decode cX3_isFull 133 = .ok (.getfield 142, 3) := by decide +kernel
theorem dX3_isFull_136 : decode cX3_isFull 136 = .ok (.bipush 16, 2) := by decide +kernel
theorem dX3_isFull_138 : decode cX3_isFull 138 = .ok (.if_icmp .lt 7, 3) := by decide +kernel
theorem dX3_isFull_141 : decode cX3_isFull 141 = .ok (.iconst 1, 1) := by decide +kernel
theorem dX3_isFull_142 : decode cX3_isFull 142 = .ok (.goto 4, 3) := by decide +kernel
theorem dX3_isFull_145 : decode cX3_isFull 145 = .ok (.iconst 0, 1) := by decide +kernel
theorem dX3_isFull_146 : decode cX3_isFull 146 = .ok (.ireturn, 1) := by decide +kernel
theorem dX3_isFull_147 : decode cX3_isFull 147 = .ok (.aload_n 0, 1) := by decide +kernel
theorem dX3_isFull_148 : decode cX3_isFull 148 = .ok (.getfield 17, 3) := by decide +kernel
theorem dX3_isFull_151 : decode cX3_isFull 151 = .ok (.getfield 31, 3) := by decide +kernel
theorem dX3_isFull_154 : decode cX3_isFull 154 = .ok (.getfield 147, 3) := by decide +kernel
theorem dX3_isFull_157 : decode cX3_isFull 157 = .ok (.bipush 8, 2) := by decide +kernel
theorem dX3_isFull_159 : decode cX3_isFull 159 = .ok (.if_icmp .lt 7, 3) := by decide +kernel
theorem dX3_isFull_162 : decode cX3_isFull 162 = .ok (.iconst 1, 1) := by decide +kernel
theorem dX3_isFull_163 : decode cX3_isFull 163 = .ok (.goto 4, 3) := by decide +kernel
theorem dX3_isFull_166 : decode cX3_isFull 166 = .ok (.iconst 0, 1) := by decide +kernel
theorem dX3_isFull_167 : decode cX3_isFull 167 = .ok (.ireturn, 1) := by decide +kernel
theorem dX3_isFull_168 : decode cX3_isFull 168 = .ok (.iconst 0, 1) := by decide +kernel
theorem dX3_isFull_169 : decode cX3_isFull 169 = .ok (.ireturn, 1) := by decide +kernel
theorem dX3_digitIsNext_0 : decode cX3_digitIsNext 0 = .ok (.aload_n 0, 1) := by decide +kernel
theorem dX3_digitIsNext_1 : decode cX3_digitIsNext 1 = .ok (.getfield 54, 3) := by decide +kernel
theorem dX3_digitIsNext_4 : decode cX3_digitIsNext 4 = .ok (.aload_n 0, 1) := by decide +kernel
theorem dX3_digitIsNext_5 : decode cX3_digitIsNext 5 = .ok (.getfield 27, 3) := by decide +kernel
theorem dX3_digitIsNext_8 : decode cX3_digitIsNext 8 = .ok (.if_icmp .ge 35, 3) := by decide +kernel
theorem dX3_digitIsNext_11 : decode cX3_digitIsNext 11 = .ok (.aload_n 0, 1) := by decide +kernel
theorem dX3_digitIsNext_12 : decode cX3_digitIsNext 12 = .ok (.getfield 23, 3) := by decide +kernel
theorem dX3_digitIsNext_15 : decode cX3_digitIsNext 15 = .ok (.aload_n 0, 1) := by decide +kernel
theorem dX3_digitIsNext_16 : decode cX3_digitIsNext 16 = .ok (.getfield 54, 3) := by decide +kernel
theorem dX3_digitIsNext_19 : decode cX3_digitIsNext 19 = .ok (.baload, 1) := by decide +kernel
theorem dX3_digitIsNext_20 : decode cX3_digitIsNext 20 = .ok (.bipush 48, 2) := by decide +kernel
theorem dX3_digitIsNext_22 : decode cX3_digitIsNext 22 = .ok (.if_icmp .lt 21, 3) := by decide +kernel
theorem dX3_digitIsNext_25 : decode cX3_digitIsNext 25 = .ok (.aload_n 0, 1) := by decide +kernel
theorem dX3_digitIsNext_26 : decode cX3_digitIsNext 26 = .ok (.getfield 23, 3) := by decide +kernel
theorem dX3_digitIsNext_29 : decode cX3_digitIsNext 29 = .ok (.aload_n 0, 1) := by decide +kernel
theorem dX3_digitIsNext_30 : decode cX3_digitIsNext 30 = .ok (.getfield 54, 3) := by decide +kernel
theorem dX3_digitIsNext_33 : decode cX3_digitIsNext 33 = .ok (.baload, 1) := by decide +kernel
theorem dX3_digitIsNext_34 : decode cX3_digitIsNext 34 = .ok (.bipush 57, 2) := by decide +kernel
theorem dX3_digitIsNext_36 : decode cX3_digitIsNext 36 = .ok (.if_icmp .gt 7, 3) := by decide +kernel
theorem dX3_digitIsNext_39 : decode cX3_digitIsNext 39 = .ok (.iconst 1, 1) := by decide +kernel
theorem dX3_digitIsNext_40 : decode cX3_digitIsNext 40 = .ok (.goto 4, 3) := by decide +kernel
theorem dX3_digitIsNext_43 : decode cX3_digitIsNext 43 = .ok (.iconst 0, 1) := by decide +kernel
theorem dX3_digitIsNext_44 : decode cX3_digitIsNext 44 = .ok (.ireturn, 1) := by decide +kernel
theorem dX3_nextNumber_0 : decode cX3_nextNumber 0 = .ok (.aload_n 0, 1) := by decide +kernel
theorem dX3_nextNumber_1 : decode cX3_nextNumber 1 = .ok (.getfield 45, 3) := by decide +kernel
theorem dX3_nextNumber_4 : decode cX3_nextNumber 4 = .ok (.ifCond .eq 5, 3) := by decide +kernel
theorem dX3_nextNumber_7 : decode cX3_nextNumber 7 = .ok (.iconst (-1), 1) := by decide +kernel
theorem dX3_nextNumber_8 : decode cX3_nextNumber 8 = .ok (.ireturn, 1) := by decide +kernel
theorem dX3_nextNumber_9 : decode cX3_nextNumber 9 = .ok (.aload_n 0, 1) := by decide +kernel
theorem dX3_nextNumber_10 : decode cX3_nextNumber 10 = .ok (.invokevirtual 64, 3) := by decide +kernel
theorem dX3_nextNumber_13 : decode cX3_nextNumber 13 = .ok (.aload_n 0, 1) := by decide +kernel
theorem dX3_nextNumber_14 : decode cX3_nextNumber 14 = .ok (.aload_n 0, 1) := by decide +kernel
theorem dX3_nextNumber_15 : decode cX3_nextNumber 15 = .ok (.getfield 54, 3) := by decide +kernel
theorem dX3_nextNumber_18 : decode cX3_nextNumber 18 = .ok (.putfield 150, 3) := by decide +kernel
theorem dX3_nextNumber_21 : decode cX3_nextNumber 21 = .ok (.iconst 0, 1) := by decide +kernel
theorem dX3_nextNumber_22 : decode cX3_nextNumber 22 = .ok (.istore_n 3, 1) := by decide +kernel
theorem dX3_nextNumber_23 : decode cX3_nextNumber 23 = .ok (.aload_n 0, 1) := by decide +kernel
theorem dX3_nextNumber_24 : decode cX3_nextNumber 24 = .ok (.invokevirtual 153, 3) := by decide +kernel
theorem dX3_nextNumber_27 : decode cX3_nextNumber 27 = .ok (.ifCond .eq 40, 3) := by decide +kernel
theorem dX3_nextNumber_30 : decode cX3_nextNumber 30 = .ok (.iload_n 3, 1) := by decide +kernel
theorem dX3_nextNumber_31 : decode cX3_nextNumber 31 = .ok (.ldc 156, 2) := by decide +kernel
theorem dX3_nextNumber_33 : decode cX3_nextNumber 33 = .ok (.if_icmp .ge 21, 3) := by decide +kernel
theorem dX3_nextNumber_36 : decode cX3_nextNumber 36 = .ok (.iload_n 3, 1) := by decide +kernel
theorem dX3_nextNumber_37 : decode cX3_nextNumber 37 = .ok (.bipush 10, 2) := by decide +kernel
theorem dX3_nextNumber_39 : decode cX3_nextNumber 39 = .ok (.imul, 1) := by decide +kernel
theorem dX3_nextNumber_40 : decode cX3_nextNumber 40 = .ok (.aload_n 0, 1) := by decide +kernel
theorem dX3_nextNumber_41 : decode cX3_nextNumber 41 = .ok (.getfield 23, 3) := by decide +kernel
theorem dX3_nextNumber_44 : decode cX3_nextNumber 44 = .ok (.aload_n 0, 1) := by decide +kernel
theorem dX3_nextNumber_45 : decode cX3_nextNumber 45 = .ok (.getfield 54, 3) := by decide +kernel
theorem dX3_nextNumber_48 : decode cX3_nextNumber 48 = .ok (.baload, 1) := by decide +kernel
theorem dX3_nextNumber_49 : decode cX3_nextNumber 49 = .ok (.bipush 48, 2) := by decide +kernel
theorem dX3_nextNumber_51 : decode cX3_nextNumber 51 = .ok (.isub, 1) := by decide +kernel
theorem dX3_nextNumber_52 : decode cX3_nextNumber 52 = .ok (.iadd, 1) := by decide +kernel
theorem dX3_nextNumber_53 : decode cX3_nextNumber 53 = .ok (.istore_n 3, 1) := by decide +kernel
theorem dX3_nextNumber_54 : decode cX3_nextNumber 54 = .ok (.aload_n 0, 1) := by decide +kernel
theorem dX3_nextNumber_55 : decode cX3_nextNumber 55 = .ok (.dup, 1) := by decide +kernel
theorem dX3_nextNumber_56 : decode cX3_nextNumber 56 = .ok (.getfield 54, 3) := by decide +kernel
theorem dX3_nextNumber_59 : decode cX3_nextNumber 59 = .ok (.iconst 1, 1) := by decide +kernel
theorem dX3_nextNumber_60 : decode cX3_nextNumber 60 = .ok (.iadd, 1) := by decide +kernel
theorem dX3_nextNumber_61 : decode cX3_nextNumber 61 = .ok (.putfield 54, 3) := by decide +kernel
theorem dX3_nextNumber_64 : decode cX3_nextNumber 64 = .ok (.goto (-41), 3) := by decide +kernel
theorem dX3_nextNumber_67 : decode cX3_nextNumber 67 = .ok (.aload_n 0, 1) := by decide +kernel
theorem dX3_nextNumber_68 : decode cX3_nextNumber 68 = .ok (.getfield 54, 3) := by decide +kernel
theorem dX3_nextNumber_71 : decode cX3_nextNumber 71 = .ok (.aload_n 0, 1) := by decide +kernel
theorem dX3_nextNumber_72 : decode cX3_nextNumber 72 = .ok (.getfield 150, 3) := by decide +kernel
theorem dX3_nextNumber_75 : decode cX3_nextNumber 75 = .ok (.if_icmp .ne 14, 3) := by decide +kernel
theorem dX3_nextNumber_78 : decode cX3_nextNumber 78 = .ok (.aload_n 0, 1) := by decide +kernel
theorem dX3_nextNumber_79 : decode cX3_nextNumber 79 = .ok (.iconst 1, 1) := by decide +kernel
theorem dX3_nextNumber_80 : decode cX3_nextNumber 80 = .ok (.aload_n 0, 1) := by decide +kernel
theorem dX3_nextNumber_81 : decode cX3_nextNumber 81 = .ok (.getfield 54, 3) := by decide +kernel
theorem dX3_nextNumber_84 : decode cX3_nextNumber 84 = .ok (.invokevirtual 67, 3) := by decide +kernel
theorem dX3_nextNumber_87 : decode cX3_nextNumber 87 = .ok (.iconst (-1), 1) := by decide +kernel
theorem dX3_nextNumber_88 : decode cX3_nextNumber 88 = .ok (.ireturn, 1) := by decide +kernel
theorem dX3_nextNumber_89 : decode cX3_nextNumber 89 = .ok (.iload_n 3, 1) := by decide +kernel
theorem dX3_nextNumber_90 : decode cX3_nextNumber 90 = .ok (.iload_n 1, 1) := by decide +kernel
theorem dX3_nextNumber_91 : decode cX3_nextNumber 91 = .ok (.if_icmp .lt 8, 3) := by decide +kernel
theorem dX3_nextNumber_94 : decode cX3_nextNumber 94 = .ok (.iload_n 3, 1) := by decide +kernel
theorem dX3_nextNumber_95 : decode cX3_nextNumber 95 = .ok (.iload_n 2, 1) := by decide +kernel
theorem dX3_nextNumber_96 : decode cX3_nextNumber 96 = .ok (.if_icmp .le 14, 3) := by decide +kernel
theorem dX3_nextNumber_99 : decode cX3_nextNumber 99 = .ok (.aload_n 0, 1) := by decide +kernel
theorem dX3_nextNumber_100 : decode cX3_nextNumber 100 = .ok (.iconst 2, 1) := by decide +kernel
theorem dX3_nextNumber_101 : decode cX3_nextNumber 101 = .ok (.aload_n 0, 1) := by decide +kernel
theorem dX3_nextNumber_102 : decode cX3_nextNumber 102 = .ok (.getfield 150, 3) := by decide +kernel
theorem dX3_nextNumber_105 : decode cX3_nextNumber 105 = .ok (.invokevirtual 67, 3) := by decide +kernel
theorem dX3_nextNumber_108 : decode cX3_nextNumber 108 = .ok (.iconst (-1), 1) := by decide +kernel
theorem dX3_nextNumber_109 : decode cX3_nextNumber 109 = .ok (.ireturn, 1) := by decide +kernel
theorem dX3_nextNumber_110 : decode cX3_nextNumber 110 = .ok (.iload_n 3, 1) := by decide +kernel
theorem dX3_nextNumber_111 : decode cX3_nextNumber 111 = .ok (.ireturn, 1) := by decide +kernel
theorem dX3_nextPack_0 : decode cX3_nextPack 0 = .ok (.aload_n 0, 1) := by decide +kernel
theorem dX3_nextPack_1 : decode cX3_nextPack 1 = .ok (.iconst 0, 1) := by decide +kernel
theorem dX3_nextPack_2 : decode cX3_nextPack 2 = .ok (.aload_n 0, 1) := by decide +kernel
theorem dX3_nextPack_3 : decode cX3_nextPack 3 = .ok (.getfield 17, 3) := by decide +kernel
theorem dX3_nextPack_6 : decode cX3_nextPack 6 = .ok (.getfield 31, 3) := by decide +kernel
theorem dX3_nextPack_9 : decode cX3_nextPack 9 = .ok (.getfield 130, 3) := by decide +kernel
theorem dX3_nextPack_12 : decode cX3_nextPack 12 = .ok (.iconst 1, 1) := by decide +kernel
theorem dX3_nextPack_13 : decode cX3_nextPack 13 = .ok (.isub, 1) := by decide +kernel
theorem dX3_nextPack_14 : decode cX3_nextPack 14 = .ok (.invokevirtual 157, 3) := by decide +kernel
theorem dX3_nextPack_17 : decode cX3_nextPack 17 = .ok (.ireturn, 1) := by decide +kernel
theorem dX3_readPacks_0 : decode cX3_readPacks 0 = .ok (.aload_n 0, 1) := by decide +kernel
theorem dX3_readPacks_1 : decode cX3_readPacks 1 = .ok (.iconst 1, 1) := by decide +kernel
theorem dX3_readPacks_2 : decode cX3_readPacks 2 = .ok (.sipush 10000, 3) := by decide +kernel
theorem dX3_readPacks_5 : decode cX3_readPacks 5 = .ok (.invokevirtual 157, 3) := by decide +kernel
theorem dX3_readPacks_8 : decode cX3_readPacks 8 = .ok (.istore_n 1, 1) := by decide +kernel
theorem dX3_readPacks_9 : decode cX3_readPacks 9 = .ok (.aload_n 0, 1) := by decide +kernel
theorem dX3_readPacks_10 : decode cX3_readPacks 10 = .ok (.iconst 1, 1) := by decide +kernel
theorem dX3_readPacks_11 : decode cX3_readPacks 11 = .ok (.sipush 10000, 3) := by decide +kernel
theorem dX3_readPacks_14 : decode cX3_readPacks 14 = .ok (.invokevirtual 157, 3) := by decide +kernel
theorem dX3_readPacks_17 : decode cX3_readPacks 17 = .ok (.istore_n 2, 1) := by decide +kernel
theorem dX3_readPacks_18 : decode cX3_readPacks 18 = .ok (.aload_n 0, 1) := by decide +kernel
theorem dX3_readPacks_19 : decode cX3_readPacks 19 = .ok (.getfield 45, 3) := by decide +kernel
theorem dX3_readPacks_22 : decode cX3_readPacks 22 = .ok (.ifCond .ne 25, 3) := by decide +kernel
theorem dX3_readPacks_25 : decode cX3_readPacks 25 = .ok (.aload_n 0, 1) := by decide +kernel
theorem dX3_readPacks_26 : decode cX3_readPacks 26 = .ok (.getfield 17, 3) := by decide +kernel
theorem dX3_readPacks_29 : decode cX3_readPacks 29 = .ok (.getfield 31, 3) := by decide +kernel
theorem dX3_readPacks_32 : decode cX3_readPacks 32 = .ok (.iload_n 1, 1) := by decide +kernel
theorem dX3_readPacks_33 : decode cX3_readPacks 33 = .ok (.putfield 160, 3) := by decide +kernel
theorem dX3_readPacks_36 : decode cX3_readPacks 36 = .ok (.aload_n 0, 1) := by decide +kernel
theorem dX3_readPacks_37 : decode cX3_readPacks 37 = .ok (.getfield 17, 3) := by decide +kernel
theorem dX3_readPacks_40 : decode cX3_readPacks 40 = .ok (.getfield 31, 3) := by decide +kernel
theorem dX3_readPacks_43 : decode cX3_readPacks 43 = .ok (.iload_n 2, 1) := by decide +kernel
theorem dX3_readPacks_44 : decode cX3_readPacks 44 = .ok (.putfield 163, 3) := by decide +kernel
theorem dX3_readPacks_47 : decode cX3_readPacks 47 = .ok (.return_, 1) := by decide +kernel
theorem dX3_readCurve_0 : decode cX3_readCurve 0 = .ok (.aload_n 0, 1) := by decide +kernel
theorem dX3_readCurve_1 : decode cX3_readCurve 1 = .ok (.getfield 17, 3) := by decide +kernel
theorem dX3_readCurve_4 : decode cX3_readCurve 4 = .ok (.getfield 31, 3) := by decide +kernel
theorem dX3_readCurve_7 : decode cX3_readCurve 7 = .ok (.getfield 127, 3) := by decide +kernel
theorem dX3_readCurve_10 : decode cX3_readCurve 10 = .ok (.iconst 4, 1) := by decide +kernel
theorem dX3_readCurve_11 : decode cX3_readCurve 11 = .ok (.imul, 1) := by decide +kernel
theorem dX3_readCurve_12 : decode cX3_readCurve 12 = .ok (.istore_n 1, 1) := by decide +kernel
theorem dX3_readCurve_13 : decode cX3_readCurve 13 = .ok (.iconst 0, 1) := by decide +kernel
theorem dX3_readCurve_14 : decode cX3_readCurve 14 = .ok (.istore_n 2, 1) := by decide +kernel
theorem dX3_readCurve_15 : decode cX3_readCurve 15 = .ok (.iload_n 2, 1) := by decide +kernel
theorem dX3_readCurve_16 : decode cX3_readCurve 16 = .ok (.iconst 4, 1) := by decide +kernel
theorem dX3_readCurve_17 : decode cX3_readCurve 17 = .ok (.if_icmp .ge 31, 3) := by decide +kernel
theorem dX3_readCurve_20 : decode cX3_readCurve 20 = .ok (.aload_n 0, 1) := by decide +kernel
theorem dX3_readCurve_21 : decode cX3_readCurve 21 = .ok (.getfield 17, 3) := by decide +kernel
theorem dX3_readCurve_24 : decode cX3_readCurve 24 = .ok (.getfield 31, 3) := by decide +kernel
theorem dX3_readCurve_27 : decode cX3_readCurve 27 = .ok (.getfield 166, 3) := by decide +kernel
theorem dX3_readCurve_30 : decode cX3_readCurve 30 = .ok (.iload_n 1, 1) := by decide +kernel
theorem dX3_readCurve_31 : decode cX3_readCurve 31 = .ok (.iload_n 2, 1) := by decide +kernel
theorem dX3_readCurve_32 : decode cX3_readCurve 32 = .ok (.iadd, 1) := by decide +kernel
theorem dX3_readCurve_33 : decode cX3_readCurve 33 = .ok (.aload_n 0, 1) := by decide +kernel
theorem dX3_readCurve_34 : decode cX3_readCurve 34 = .ok (.iconst 0, 1) := by decide +kernel
theorem dX3_readCurve_35 : decode cX3_readCurve 35 = .ok (.sipush 1000, 3) := by decide +kernel
theorem dX3_readCurve_38 : decode cX3_readCurve 38 = .ok (.invokevirtual 157, 3) := by decide +kernel
theorem dX3_readCurve_41 : decode cX3_readCurve 41 = .ok (.iastore, 1) := by decide +kernel
theorem dX3_readCurve_42 : decode cX3_readCurve 42 = .ok (.iinc 2 1, 3) := by decide +kernel
theorem dX3_readCurve_45 : decode cX3_readCurve 45 = .ok (.goto (-30), 3) := by decide +kernel
theorem dX3_readCurve_48 : decode cX3_readCurve 48 = .ok (.aload_n 0, 1) := by decide +kernel
theorem dX3_readCurve_49 : decode cX3_readCurve 49 = .ok (.getfield 17, 3) := by decide +kernel
theorem dX3_readCurve_52 : decode cX3_readCurve 52 = .ok (.getfield 31, 3) := by decide +kernel
theorem dX3_readCurve_55 : decode cX3_readCurve 55 = .ok (.dup, 1) := by decide +kernel
theorem dX3_readCurve_56 : decode cX3_readCurve 56 = .ok (.getfield 127, 3) := by decide +kernel
theorem dX3_readCurve_59 : decode cX3_readCurve 59 = .ok (.iconst 1, 1) := by decide +kernel
theorem dX3_readCurve_60 : decode cX3_readCurve 60 = .ok (.iadd, 1) := by decide +kernel
theorem dX3_readCurve_61 : decode cX3_readCurve 61 = .ok (.putfield 127, 3) := by decide +kernel
theorem dX3_readCurve_64 : decode cX3_readCurve 64 = .ok (.return_, 1) := by decide +kernel
theorem dX3_readPack_0 : decode cX3_readPack 0 = .ok (.aload_n 0, 1) := by decide +kernel
theorem dX3_readPack_1 : decode cX3_readPack 1 = .ok (.iconst 2, 1) := by decide +kernel
theorem dX3_readPack_2 : decode cX3_readPack 2 = .ok (.ldc 170, 2) := by decide +kernel
theorem dX3_readPack_4 : decode cX3_readPack 4 = .ok (.invokevirtual 157, 3) := by decide +kernel
theorem dX3_readPack_7 : decode cX3_readPack 7 = .ok (.istore_n 1, 1) := by decide +kernel
theorem dX3_readPack_8 : decode cX3_readPack 8 = .ok (.aload_n 0, 1) := by decide +kernel
theorem dX3_readPack_9 : decode cX3_readPack 9 = .ok (.iconst 0, 1) := by decide +kernel
theorem dX3_readPack_10 : decode cX3_readPack 10 = .ok (.iload_n 1, 1) := by decide +kernel
theorem dX3_readPack_11 : decode cX3_readPack 11 = .ok (.invokevirtual 157, 3) := by decide +kernel
theorem dX3_readPack_14 : decode cX3_readPack 14 = .ok (.istore_n 2, 1) := by decide +kernel
theorem dX3_readPack_15 : decode cX3_readPack 15 = .ok (.iconst (-1), 1) := by decide +kernel
theorem dX3_readPack_16 : decode cX3_readPack 16 = .ok (.istore_n 3, 1) := by decide +kernel
theorem dX3_readPack_17 : decode cX3_readPack 17 = .ok (.aload_n 0, 1) := by decide +kernel
theorem dX3_readPack_18 : decode cX3_readPack 18 = .ok (.invokevirtual 64, 3) := by decide +kernel
theorem dX3_readPack_21 : decode cX3_readPack 21 = .ok (.aload_n 0, 1) := by decide +kernel
theorem dX3_readPack_22 : decode cX3_readPack 22 = .ok (.invokevirtual 153, 3) := by decide +kernel
theorem dX3_readPack_25 : decode cX3_readPack 25 = .ok (.ifCond .eq 21, 3) := by decide +kernel
theorem dX3_readPack_28 : decode cX3_readPack 28 = .ok (.aload_n 0, 1) := by decide +kernel
theorem dX3_readPack_29 : decode cX3_readPack 29 = .ok (.iconst 0, 1) := by decide +kernel
theorem dX3_readPack_30 : decode cX3_readPack 30 = .ok (.aload_n 0, 1) := by decide +kernel
theorem dX3_readPack_31 : decode cX3_readPack 31 = .ok (.getfield 17, 3) := by decide +kernel
theorem dX3_readPack_34 : decode cX3_readPack 34 = .ok (.getfield 31, 3) := by decide +kernel
theorem dX3_readPack_37 : decode cX3_readPack 37 = .ok (.getfield 127, 3) := by decide +kernel
theorem dX3_readPack_40 : decode cX3_readPack 40 = .ok (.iconst 1, 1) := by decide +kernel
theorem dX3_readPack_41 : decode cX3_readPack 41 = .ok (.isub, 1) := by decide +kernel
theorem dX3_readPack_42 : decode cX3_readPack 42 = .ok (.invokevirtual 157, 3) := by decide +kernel
theorem dX3_readPack_45 : decode cX3_readPack 45 = .ok (.istore_n 3, 1) := by decide +kernel
theorem dX3_readPack_46 : decode cX3_readPack 46 = .ok (.aload_n 0, 1) := by decide +kernel
theorem dX3_readPack_47 : decode cX3_readPack 47 = .ok (.getfield 45, 3) := by decide +kernel
theorem dX3_readPack_50 : decode cX3_readPack 50 = .ok (.ifCond .ne 36, 3) := by decide +kernel
theorem dX3_readPack_53 : decode cX3_readPack 53 = .ok (.aload_n 0, 1) := by decide +kernel
theorem dX3_readPack_54 : decode cX3_readPack 54 = .ok (.getfield 17, 3) := by decide +kernel
theorem dX3_readPack_57 : decode cX3_readPack 57 = .ok (.getfield 38, 3) := by decide +kernel
theorem dX3_readPack_60 : decode cX3_readPack 60 = .ok (.aload_n 0, 1) := by decide +kernel
theorem dX3_readPack_61 : decode cX3_readPack 61 = .ok (.getfield 17, 3) := by decide +kernel
theorem dX3_readPack_64 : decode cX3_readPack 64 = .ok (.getfield 31, 3) := by decide +kernel
theorem dX3_readPack_67 : decode cX3_readPack 67 = .ok (.getfield 130, 3) := by decide +kernel
theorem dX3_readPack_70 : decode cX3_readPack 70 = .ok (.iload_n 2, 1) := by decide +kernel
theorem dX3_readPack_71 : decode cX3_readPack 71 = .ok (.invokevirtual 171, 3) := by decide +kernel
theorem dX3_readPack_74 : decode cX3_readPack 74 = .ok (.aload_n 0, 1) := by decide +kernel
theorem dX3_readPack_75 : decode cX3_readPack 75 = .ok (.getfield 17, 3) := by decide +kernel
theorem dX3_readPack_78 : decode cX3_readPack 78 = .ok (.getfield 31, 3) := by decide +kernel
theorem dX3_readPack_81 : decode cX3_readPack 81 = .ok (.iload_n 1, 1) := by decide +kernel
theorem dX3_readPack_82 : decode cX3_readPack 82 = .ok (.iload_n 3, 1) := by decide +kernel
theorem dX3_readPack_83 : decode cX3_readPack 83 = .ok (.invokevirtual 174, 3) := by decide +kernel
theorem dX3_readPack_86 : decode cX3_readPack 86 = .ok (.return_, 1) := by decide +kernel
theorem dX3_readCable_0 : decode cX3_readCable 0 = .ok (.aload_n 0, 1) := by decide +kernel
theorem dX3_readCable_1 : decode cX3_readCable 1 = .ok (.invokevirtual 177, 3) := by decide +kernel
theorem dX3_readCable_4 : decode cX3_readCable 4 = .ok (.istore_n 1, 1) := by decide +kernel
theorem dX3_readCable_5 : decode cX3_readCable 5 = .ok (.aload_n 0, 1) := by decide +kernel
theorem dX3_readCable_6 : decode cX3_readCable 6 = .ok (.invokevirtual 177, 3) := by decide +kernel
theorem dX3_readCable_9 : decode cX3_readCable 9 = .ok (.istore_n 2, 1) := by decide +kernel
theorem dX3_readCable_10 : decode cX3_readCable 10 = .ok (.aload_n 0, 1) := by decide +kernel
theorem dX3_readCable_11 : decode cX3_readCable 11 = .ok (.getfield 45, 3) := by decide +kernel
theorem dX3_readCable_14 : decode cX3_readCable 14 = .ok (.ifCond .ne 33, 3) := by decide +kernel
theorem dX3_readCable_17 : decode cX3_readCable 17 = .ok (.iload_n 2, 1) := by decide +kernel
theorem dX3_readCable_18 : decode cX3_readCable 18 = .ok (.iload_n 1, 1) := by decide +kernel
theorem dX3_readCable_19 : decode cX3_readCable 19 = .ok (.if_icmp .eq 19, 3) := by decide +kernel
theorem dX3_readCable_22 : decode cX3_readCable 22 = .ok (.aload_n 0, 1) := by decide +kernel
theorem dX3_readCable_23 : decode cX3_readCable 23 = .ok (.getfield 17, 3) := by decide +kernel
theorem dX3_readCable_26 : decode cX3_readCable 26 = .ok (.getfield 31, 3) := by decide +kernel
theorem dX3_readCable_29 : decode cX3_readCable 29 = .ok (.iload_n 1, 1) := by decide +kernel
theorem dX3_readCable_30 : decode cX3_readCable 30 = .ok (.iload_n 2, 1) := by decide +kernel
theorem dX3_readCable_31 : decode cX3_readCable 31 = .ok (.invokevirtual 180, 3) := by decide +kernel
theorem dX3_readCable_34 : decode cX3_readCable 34 = .ok (.iconst (-1), 1) := by decide +kernel
theorem dX3_readCable_35 : decode cX3_readCable 35 = .ok (.if_icmp .eq 12, 3) := by decide +kernel
theorem dX3_readCable_38 : decode cX3_readCable 38 = .ok (.aload_n 0, 1) := by decide +kernel
theorem dX3_readCable_39 : decode cX3_readCable 39 = .ok (.iconst 3, 1) := by decide +kernel
theorem dX3_readCable_40 : decode cX3_readCable 40 = .ok (.aload_n 0, 1) := by decide +kernel
theorem dX3_readCable_41 : decode cX3_readCable 41 = .ok (.getfield 150, 3) := by decide +kernel
theorem dX3_readCable_44 : decode cX3_readCable 44 = .ok (.invokevirtual 67, 3) := by decide +kernel
theorem dX3_readCable_47 : decode cX3_readCable 47 = .ok (.aload_n 0, 1) := by decide +kernel
theorem dX3_readCable_48 : decode cX3_readCable 48 = .ok (.iconst 0, 1) := by decide +kernel
theorem dX3_readCable_49 : decode cX3_readCable 49 = .ok (.sipush 900, 3) := by decide +kernel
theorem dX3_readCable_52 : decode cX3_readCable 52 = .ok (.invokevirtual 157, 3) := by decide +kernel
theorem dX3_readCable_55 : decode cX3_readCable 55 = .ok (.istore_n 3, 1) := by decide +kernel
theorem dX3_readCable_56 : decode cX3_readCable 56 = .ok (.aload_n 0, 1) := by decide +kernel
theorem dX3_readCable_57 : decode cX3_readCable 57 = .ok (.iconst 1, 1) := by decide +kernel
theorem dX3_readCable_58 : decode cX3_readCable 58 = .ok (.sipush 10000, 3) := by decide +kernel
theorem dX3_readCable_61 : decode cX3_readCable 61 = .ok (.invokevirtual 157, 3) := by decide +kernel
theorem dX3_readCable_64 : decode cX3_readCable 64 = .ok (.istore 4, 2) := by decide +kernel
theorem dX3_readCable_66 : decode cX3_readCable 66 = .ok (.aload_n 0, 1) := by decide +kernel
theorem dX3_readCable_67 : decode cX3_readCable 67 = .ok (.getfield 45, 3) := by decide +kernel
theorem dX3_readCable_70 : decode cX3_readCable 70 = .ok (.ifCond .ne 38, 3) := by decide +kernel
theorem dX3_readCable_73 : decode cX3_readCable 73 = .ok (.aload_n 0, 1) := by decide +kernel
theorem dX3_readCable_74 : decode cX3_readCable 74 = .ok (.getfield 17, 3) := by decide +kernel
theorem dX3_readCable_77 : decode cX3_readCable 77 = .ok (.getfield 38, 3) := by decide +kernel
theorem dX3_readCable_80 : decode cX3_readCable 80 = .ok (.aload_n 0, 1) := by decide +kernel
theorem dX3_readCable_81 : decode cX3_readCable 81 = .ok (.getfield 17, 3) := by decide +kernel
theorem dX3_readCable_84 : decode cX3_readCable 84 = .ok (.getfield 31, 3) := by decide +kernel
theorem dX3_readCable_87 : decode cX3_readCable 87 = .ok (.getfield 132, 3) := by decide +kernel
theorem dX3_readCable_90 : decode cX3_readCable 90 = .ok (.iload_n 3, 1) := by decide +kernel
theorem dX3_readCable_91 : decode cX3_readCable 91 = .ok (.iload 4, 2) := by decide +kernel
theorem dX3_readCable_93 : decode cX3_readCable 93 = .ok (.invokevirtual 183, 3) := by decide +kernel
theorem dX3_readCable_96 : decode cX3_readCable 96 = .ok (.aload_n 0, 1) := by decide +kernel
theorem dX3_readCable_97 : decode cX3_readCable 97 = .ok (.getfield 17, 3) := by decide +kernel
theorem dX3_readCable_100 : decode cX3_readCable 100 = .ok (.getfield 31, 3) := by decide +kernel
theorem dX3_readCable_103 : decode cX3_readCable 103 = .ok (.iload_n 1, 1) := by decide +kernel
theorem dX3_readCable_104 : decode cX3_readCable 104 = .ok (.iload_n 2, 1) := by decide +kernel
theorem dX3_readCable_105 : decode cX3_readCable 105 = .ok (.invokevirtual 187, 3) := by decide +kernel
theorem dX3_readCable_108 : decode cX3_readCable 108 = .ok (.return_, 1) := by decide +kernel
theorem dX3_readSun_0 : decode cX3_readSun 0 = .ok (.aload_n 0, 1) := by decide +kernel
theorem dX3_readSun_1 : decode cX3_readSun 1 = .ok (.invokevirtual 177, 3) := by decide +kernel
theorem dX3_readSun_4 : decode cX3_readSun 4 = .ok (.istore_n 1, 1) := by decide +kernel
theorem dX3_readSun_5 : decode cX3_readSun 5 = .ok (.aload_n 0, 1) := by decide +kernel
theorem dX3_readSun_6 : decode cX3_readSun 6 = .ok (.iconst 0, 1) := by decide +kernel
theorem dX3_readSun_7 : decode cX3_readSun 7 = .ok (.bipush 23, 2) := by decide +kernel
theorem dX3_readSun_9 : decode cX3_readSun 9 = .ok (.invokevirtual 157, 3) := by decide +kernel
theorem dX3_readSun_12 : decode cX3_readSun 12 = .ok (.istore_n 2, 1) := by decide +kernel
theorem dX3_readSun_13 : decode cX3_readSun 13 = .ok (.aload_n 0, 1) := by decide +kernel
theorem dX3_readSun_14 : decode cX3_readSun 14 = .ok (.iload_n 2, 1) := by decide +kernel
theorem dX3_readSun_15 : decode cX3_readSun 15 = .ok (.bipush 23, 2) := by decide +kernel
theorem dX3_readSun_17 : decode cX3_readSun 17 = .ok (.invokevirtual 157, 3) := by decide +kernel
theorem dX3_readSun_20 : decode cX3_readSun 20 = .ok (.istore_n 3, 1) := by decide +kernel
theorem dX3_readSun_21 : decode cX3_readSun 21 = .ok (.aload_n 0, 1) := by decide +kernel
theorem dX3_readSun_22 : decode cX3_readSun 22 = .ok (.iconst 1, 1) := by decide +kernel
theorem dX3_readSun_23 : decode cX3_readSun 23 = .ok (.sipush 10000, 3) := by decide +kernel
theorem dX3_readSun_26 : decode cX3_readSun 26 = .ok (.invokevirtual 157, 3) := by decide +kernel
theorem dX3_readSun_29 : decode cX3_readSun 29 = .ok (.istore 4, 2) := by decide +kernel
theorem dX3_readSun_31 : decode cX3_readSun 31 = .ok (.aload_n 0, 1) := by decide +kernel
theorem dX3_readSun_32 : decode cX3_readSun 32 = .ok (.getfield 45, 3) := by decide +kernel
theorem dX3_readSun_35 : decode cX3_readSun 35 = .ok (.ifCond .ne 18, 3) := by decide +kernel
theorem dX3_readSun_38 : decode cX3_readSun 38 = .ok (.aload_n 0, 1) := by decide +kernel
theorem dX3_readSun_39 : decode cX3_readSun 39 = .ok (.getfield 17, 3) := by decide +kernel
theorem dX3_readSun_42 : decode cX3_readSun 42 = .ok (.getfield 31, 3) := by decide +kernel
theorem dX3_readSun_45 : decode cX3_readSun 45 = .ok (.iload_n 1, 1) := by decide +kernel
theorem dX3_readSun_46 : decode cX3_readSun 46 = .ok (.iload_n 2, 1) := by decide +kernel
theorem dX3_readSun_47 : decode cX3_readSun 47 = .ok (.iload_n 3, 1) := by decide +kernel
theorem dX3_readSun_48 : decode cX3_readSun 48 = .ok (.iload 4, 2) := by decide +kernel
theorem dX3_readSun_50 : decode cX3_readSun 50 = .ok (.invokevirtual 190, 3) := by decide +kernel
theorem dX3_readSun_53 : decode cX3_readSun 53 = .ok (.return_, 1) := by decide +kernel
theorem dX3_readTrip_0 : decode cX3_readTrip 0 = .ok (.aload_n 0, 1) := by decide +kernel
theorem dX3_readTrip_1 : decode cX3_readTrip 1 = .ok (.invokevirtual 177, 3) := by decide +kernel
theorem dX3_readTrip_4 : decode cX3_readTrip 4 = .ok (.istore_n 1, 1) := by decide +kernel
theorem dX3_readTrip_5 : decode cX3_readTrip 5 = .ok (.aload_n 0, 1) := by decide +kernel
theorem dX3_readTrip_6 : decode cX3_readTrip 6 = .ok (.iconst 0, 1) := by decide +kernel
theorem dX3_readTrip_7 : decode cX3_readTrip 7 = .ok (.sipush 9999, 3) := by decide +kernel
theorem dX3_readTrip_10 : decode cX3_readTrip 10 = .ok (.invokevirtual 157, 3) := by decide +kernel
theorem dX3_readTrip_13 : decode cX3_readTrip 13 = .ok (.istore_n 2, 1) := by decide +kernel
theorem dX3_readTrip_14 : decode cX3_readTrip 14 = .ok (.aload_n 0, 1) := by decide +kernel
theorem dX3_readTrip_15 : decode cX3_readTrip 15 = .ok (.iconst 1, 1) := by decide +kernel
theorem dX3_readTrip_16 : decode cX3_readTrip 16 = .ok (.ldc 170, 2) := by decide +kernel
theorem dX3_readTrip_18 : decode cX3_readTrip 18 = .ok (.invokevirtual 157, 3) := by decide +kernel
theorem dX3_readTrip_21 : decode cX3_readTrip 21 = .ok (.istore_n 3, 1) := by decide +kernel
theorem dX3_readTrip_22 : decode cX3_readTrip 22 = .ok (.aload_n 0, 1) := by decide +kernel
theorem dX3_readTrip_23 : decode cX3_readTrip 23 = .ok (.getfield 45, 3) := by decide +kernel
theorem dX3_readTrip_26 : decode cX3_readTrip 26 = .ok (.ifCond .ne 20, 3) := by decide +kernel
theorem dX3_readTrip_29 : decode cX3_readTrip 29 = .ok (.aload_n 0, 1) := by decide +kernel
theorem dX3_readTrip_30 : decode cX3_readTrip 30 = .ok (.getfield 17, 3) := by decide +kernel
theorem dX3_readTrip_33 : decode cX3_readTrip 33 = .ok (.getfield 38, 3) := by decide +kernel
theorem dX3_readTrip_36 : decode cX3_readTrip 36 = .ok (.getfield 138, 3) := by decide +kernel
theorem dX3_readTrip_39 : decode cX3_readTrip 39 = .ok (.iload_n 1, 1) := by decide +kernel
theorem dX3_readTrip_40 : decode cX3_readTrip 40 = .ok (.iload_n 2, 1) := by decide +kernel
theorem dX3_readTrip_41 : decode cX3_readTrip 41 = .ok (.iload_n 3, 1) := by decide +kernel
theorem dX3_readTrip_42 : decode cX3_readTrip 42 = .ok (.invokevirtual 194, 3) := by decide +kernel
theorem dX3_readTrip_45 : decode cX3_readTrip 45 = .ok (.pop, 1) := by decide +kernel
theorem dX3_readTrip_46 : decode cX3_readTrip 46 = .ok (.return_, 1) := by decide +kernel
theorem dX3_readContract_0 : decode cX3_readContract 0 = .ok (.aload_n 0, 1) := by decide +kernel
theorem dX3_readContract_1 : decode cX3_readContract 1 = .ok (.invokevirtual 177, 3) := by decide +kernel
theorem dX3_readContract_4 : decode cX3_readContract 4 = .ok (.istore_n 1, 1) := by decide +kernel
theorem dX3_readContract_5 : decode cX3_readContract 5 = .ok (.aload_n 0, 1) := by decide +kernel
theorem dX3_readContract_6 : decode cX3_readContract 6 = .ok (.invokevirtual 177, 3) := by decide +kernel
theorem dX3_readContract_9 : decode cX3_readContract 9 = .ok (.istore_n 2, 1) := by decide +kernel
theorem dX3_readContract_10 : decode cX3_readContract 10 = .ok (.aload_n 0, 1) := by decide +kernel
theorem dX3_readContract_11 : decode cX3_readContract 11 = .ok (.getfield 45, 3) := by decide +kernel
theorem dX3_readContract_14 : decode cX3_readContract 14 = .ok (.ifCond .ne 33, 3) := by decide +kernel
theorem dX3_readContract_17 : decode cX3_readContract 17 = .ok (.iload_n 2, 1) := by decide +kernel
theorem dX3_readContract_18 : decode cX3_readContract 18 = .ok (.iload_n 1, 1) := by decide +kernel
theorem dX3_readContract_19 : decode cX3_readContract 19 = .ok (.if_icmp .eq 19, 3) := by decide +kernel
theorem dX3_readContract_22 : decode cX3_readContract 22 = .ok (.aload_n 0, 1) := by decide +kernel
theorem dX3_readContract_23 : decode cX3_readContract 23 = .ok (.getfield 17, 3) := by decide +kernel
theorem dX3_readContract_26 : decode cX3_readContract 26 = .ok (.getfield 31, 3) := by decide +kernel
theorem dX3_readContract_29 : decode cX3_readContract 29 = .ok (.iload_n 1, 1) := by decide +kernel
theorem dX3_readContract_30 : decode cX3_readContract 30 = .ok (.iload_n 2, 1) := by decide +kernel
theorem dX3_readContract_31 : decode cX3_readContract 31 = .ok (.invokevirtual 180, 3) := by decide +kernel
theorem dX3_readContract_34 : decode cX3_readContract 34 = .ok (.iconst (-1), 1) := by decide +kernel
theorem dX3_readContract_35 : decode cX3_readContract 35 = .ok (.if_icmp .ne 12, 3) := by decide +kernel
theorem dX3_readContract_38 : decode cX3_readContract 38 = .ok (.aload_n 0, 1) := by decide +kernel
theorem dX3_readContract_39 : decode cX3_readContract 39 = .ok (.iconst 3, 1) := by decide +kernel
theorem dX3_readContract_40 : decode cX3_readContract 40 = .ok (.aload_n 0, 1) := by decide +kernel
theorem dX3_readContract_41 : decode cX3_readContract 41 = .ok (.getfield 150, 3) := by decide +kernel
theorem dX3_readContract_44 : decode cX3_readContract 44 = .ok (.invokevirtual 67, 3) := by decide +kernel
theorem dX3_readContract_47 : decode cX3_readContract 47 = .ok (.aload_n 0, 1) := by decide +kernel
theorem dX3_readContract_48 : decode cX3_readContract 48 = .ok (.iconst 1, 1) := by decide +kernel
theorem dX3_readContract_49 : decode cX3_readContract 49 = .ok (.ldc 170, 2) := by decide +kernel
theorem dX3_readContract_51 : decode cX3_readContract 51 = .ok (.invokevirtual 157, 3) := by decide +kernel
theorem dX3_readContract_54 : decode cX3_readContract 54 = .ok (.istore_n 3, 1) := by decide +kernel
theorem dX3_readContract_55 : decode cX3_readContract 55 = .ok (.aload_n 0, 1) := by decide +kernel
theorem dX3_readContract_56 : decode cX3_readContract 56 = .ok (.iconst 0, 1) := by decide +kernel
theorem dX3_readContract_57 : decode cX3_readContract 57 = .ok (.bipush 99, 2) := by decide +kernel
theorem dX3_readContract_59 : decode cX3_readContract 59 = .ok (.invokevirtual 157, 3) := by decide +kernel
theorem dX3_readContract_62 : decode cX3_readContract 62 = .ok (.istore 4, 2) := by decide +kernel
theorem dX3_readContract_64 : decode cX3_readContract 64 = .ok (.aload_n 0, 1) := by decide +kernel
theorem dX3_readContract_65 : decode cX3_readContract 65 = .ok (.iconst 0, 1) := by decide +kernel
theorem dX3_readContract_66 : decode cX3_readContract 66 = .ok (.bipush 99, 2) := by decide +kernel
theorem dX3_readContract_68 : decode cX3_readContract 68 = .ok (.invokevirtual 157, 3) := by decide +kernel
theorem dX3_readContract_71 : decode cX3_readContract 71 = .ok (.istore 5, 2) := by decide +kernel
theorem dX3_readContract_73 : decode cX3_readContract 73 = .ok (.aload_n 0, 1) := by decide +kernel
theorem dX3_readContract_74 : decode cX3_readContract 74 = .ok (.getfield 45, 3) := by decide +kernel
theorem dX3_readContract_77 : decode cX3_readContract 77 = .ok (.ifCond .ne 117, 3) := by decide +kernel
theorem dX3_readContract_80 : decode cX3_readContract 80 = .ok (.aload_n 0, 1) := by decide +kernel
theorem dX3_readContract_81 : decode cX3_readContract 81 = .ok (.getfield 17, 3) := by decide +kernel
theorem dX3_readContract_84 : decode cX3_readContract 84 = .ok (.getfield 31, 3) := by decide +kernel
theorem dX3_readContract_87 : decode cX3_readContract 87 = .ok (.getfield 147, 3) := by decide +kernel
theorem dX3_readContract_90 : decode cX3_readContract 90 = .ok (.istore 6, 2) := by decide +kernel
theorem dX3_readContract_92 : decode cX3_readContract 92 = .ok (.aload_n 0, 1) := by decide +kernel
theorem dX3_readContract_93 : decode cX3_readContract 93 = .ok (.getfield 17, 3) := by decide +kernel
theorem dX3_readContract_96 : decode cX3_readContract 96 = .ok (.getfield 31, 3) := by decide +kernel
theorem dX3_readContract_99 : decode cX3_readContract 99 = .ok (.getfield 198, 3) := by decide +kernel
theorem dX3_readContract_102 : decode cX3_readContract 102 = .ok (.iload 6, 2) := by decide +kernel
theorem dX3_readContract_104 : decode cX3_readContract 104 = .ok (.iload_n 1, 1) := by decide +kernel
theorem dX3_readContract_105 : decode cX3_readContract 105 = .ok (.iastore, 1) := by decide +kernel
theorem dX3_readContract_106 : decode cX3_readContract 106 = .ok (.aload_n 0, 1) := by decide +kernel
theorem dX3_readContract_107 : decode cX3_readContract 107 = .ok (.getfield 17, 3) := by decide +kernel
theorem dX3_readContract_110 : decode cX3_readContract 110 = .ok (.getfield 31, 3) := by decide +kernel
theorem dX3_readContract_113 : decode cX3_readContract 113 = .ok (.getfield 201, 3) := by decide +kernel
theorem dX3_readContract_116 : decode cX3_readContract 116 = .ok (.iload 6, 2) := by decide +kernel
theorem dX3_readContract_118 : decode cX3_readContract 118 = .ok (.iload_n 2, 1) := by decide +kernel
theorem dX3_readContract_119 : decode cX3_readContract 119 = .ok (.iastore, 1) := by decide +kernel
theorem dX3_readContract_120 : decode cX3_readContract 120 = .ok (.aload_n 0, 1) := by decide +kernel
theorem dX3_readContract_121 : decode cX3_readContract 121 = .ok (.getfield 17, 3) := by decide +kernel
theorem dX3_readContract_124 : decode cX3_readContract 124 = .ok (.getfield 31, 3) := by decide +kernel
theorem dX3_readContract_127 : decode cX3_readContract 127 = .ok (.getfield 204, 3) := by decide +kernel
theorem dX3_readContract_130 : decode cX3_readContract 130 = .ok (.iload 6, 2) := by decide +kernel
theorem dX3_readContract_132 : decode cX3_readContract 132 = .ok (.iload_n 3, 1) := by decide +kernel
theorem dX3_readContract_133 : decode cX3_readContract 133 = .ok (.iastore, 1) := by decide +kernel
theorem dX3_readContract_134 : decode cX3_readContract 134 = .ok (.aload_n 0, 1) := by decide +kernel
theorem dX3_readContract_135 : decode cX3_readContract 135 = .ok (.getfield 17, 3) := by decide +kernel
theorem dX3_readContract_138 : decode cX3_readContract 138 = .ok (.getfield 31, 3) := by decide +kernel
theorem dX3_readContract_141 : decode cX3_readContract 141 = .ok (.getfield 207, 3) := by decide +kernel
theorem dX3_readContract_144 : decode cX3_readContract 144 = .ok (.iload 6, 2) := by decide +kernel
theorem dX3_readContract_146 : decode cX3_readContract 146 = .ok (.iload 4, 2) := by decide +kernel
theorem dX3_readContract_148 : decode cX3_readContract 148 = .ok (.iastore, 1) := by decide +kernel
theorem dX3_readContract_149 : decode cX3_readContract 149 = .ok (.aload_n 0, 1) := by decide +kernel
theorem dX3_readContract_150 : decode cX3_readContract 150 = .ok (.getfield 17, 3) := by decide +kernel
theorem dX3_readContract_153 : decode cX3_readContract 153 = .ok (.getfield 31, 3) := by decide +kernel
theorem dX3_readContract_156 : decode cX3_readContract 156 = .ok (.getfield 210, 3) := by decide +kernel
theorem dX3_readContract_159 : decode cX3_readContract 159 = .ok (.iload 6, 2) := by decide +kernel
theorem dX3_readContract_161 : decode cX3_readContract 161 = .ok (.iload 5, 2) := by decide +kernel
theorem dX3_readContract_163 : decode cX3_readContract 163 = .ok (.iastore, 1) := by decide +kernel
theorem dX3_readContract_164 : decode cX3_readContract 164 = .ok (.aload_n 0, 1) := by decide +kernel
theorem dX3_readContract_165 : decode cX3_readContract 165 = .ok (.getfield 17, 3) := by decide +kernel
theorem dX3_readContract_168 : decode cX3_readContract 168 = .ok (.getfield 38, 3) := by decide +kernel
theorem dX3_readContract_171 : decode cX3_readContract 171 = .ok (.getfield 213, 3) := by decide +kernel
theorem dX3_readContract_174 : decode cX3_readContract 174 = .ok (.iload 6, 2) := by decide +kernel
theorem dX3_readContract_176 : decode cX3_readContract 176 = .ok (.iconst 0, 1) := by decide +kernel
theorem dX3_readContract_177 : decode cX3_readContract 177 = .ok (.iastore, 1) := by decide +kernel
theorem dX3_readContract_178 : decode cX3_readContract 178 = .ok (.aload_n 0, 1) := by decide +kernel
theorem dX3_readContract_179 : decode cX3_readContract 179 = .ok (.getfield 17, 3) := by decide +kernel
theorem dX3_readContract_182 : decode cX3_readContract 182 = .ok (.getfield 31, 3) := by decide +kernel
theorem dX3_readContract_185 : decode cX3_readContract 185 = .ok (.dup, 1) := by decide +kernel
theorem dX3_readContract_186 : decode cX3_readContract 186 = .ok (.getfield 147, 3) := by decide +kernel
theorem dX3_readContract_189 : decode cX3_readContract 189 = .ok (.iconst 1, 1) := by decide +kernel
theorem dX3_readContract_190 : decode cX3_readContract 190 = .ok (.iadd, 1) := by decide +kernel
theorem dX3_readContract_191 : decode cX3_readContract 191 = .ok (.putfield 147, 3) := by decide +kernel
theorem dX3_readContract_194 : decode cX3_readContract 194 = .ok (.return_, 1) := by decide +kernel
theorem dX4_init_0 : decode cX4_init 0 = .ok (.aload_n 0, 1) := by decide +kernel
theorem dX4_init_1 : decode cX4_init 1 = .ok (.invokespecial 3, 3) := by decide +kernel
theorem dX4_init_4 : decode cX4_init 4 = .ok (.aload_n 0, 1) := by decide +kernel
theorem dX4_init_5 : decode cX4_init 5 = .ok (.bipush 8, 2) := by decide +kernel
theorem dX4_init_7 : decode cX4_init 7 = .ok (.newarray .int, 2) := by decide +kernel
theorem dX4_init_9 : decode cX4_init 9 = .ok (.putfield 9, 3) := by decide +kernel
theorem dX4_init_12 : decode cX4_init 12 = .ok (.aload_n 0, 1) := by decide +kernel
theorem dX4_init_13 : decode cX4_init 13 = .ok (.bipush 8, 2) := by decide +kernel
theorem dX4_init_15 : decode cX4_init 15 = .ok (.newarray .int, 2) := by decide +kernel
theorem dX4_init_17 : decode cX4_init 17 = .ok (.putfield 15, 3) := by decide +kernel
theorem dX4_init_20 : decode cX4_init 20 = .ok (.aload_n 0, 1) := by decide +kernel
theorem dX4_init_21 : decode cX4_init 21 = .ok (.bipush 8, 2) := by decide +kernel
theorem dX4_init_23 : decode cX4_init 23 = .ok (.newarray .int, 2) := by decide +kernel
theorem dX4_init_25 : decode cX4_init 25 = .ok (.putfield 18, 3) := by decide +kernel
theorem dX4_init_28 : decode cX4_init 28 = .ok (.aload_n 0, 1) := by decide +kernel
theorem dX4_init_29 : decode cX4_init 29 = .ok (.bipush 12, 2) := by decide +kernel
theorem dX4_init_31 : decode cX4_init 31 = .ok (.newarray .int, 2) := by decide +kernel
theorem dX4_init_33 : decode cX4_init 33 = .ok (.putfield 21, 3) := by decide +kernel
theorem dX4_init_36 : decode cX4_init 36 = .ok (.aload_n 0, 1) := by decide +kernel
theorem dX4_init_37 : decode cX4_init 37 = .ok (.bipush 12, 2) := by decide +kernel
theorem dX4_init_39 : decode cX4_init 39 = .ok (.newarray .int, 2) := by decide +kernel
theorem dX4_init_41 : decode cX4_init 41 = .ok (.putfield 24, 3) := by decide +kernel
theorem dX4_init_44 : decode cX4_init 44 = .ok (.aload_n 0, 1) := by decide +kernel
theorem dX4_init_45 : decode cX4_init 45 = .ok (.bipush 12, 2) := by decide +kernel
theorem dX4_init_47 : decode cX4_init 47 = .ok (.newarray .int, 2) := by decide +kernel
theorem dX4_init_49 : decode cX4_init 49 = .ok (.putfield 27, 3) := by decide +kernel
theorem dX4_init_52 : decode cX4_init 52 = .ok (.aload_n 0, 1) := by decide +kernel
theorem dX4_init_53 : decode cX4_init 53 = .ok (.bipush 12, 2) := by decide +kernel
theorem dX4_init_55 : decode cX4_init 55 = .ok (.newarray .int, 2) := by decide +kernel
theorem dX4_init_57 : decode cX4_init 57 = .ok (.putfield 30, 3) := by decide +kernel
theorem dX4_init_60 : decode cX4_init 60 = .ok (.aload_n 0, 1) := by decide +kernel
theorem dX4_init_61 : decode cX4_init 61 = .ok (.bipush 8, 2) := by decide +kernel
theorem dX4_init_63 : decode cX4_init 63 = .ok (.newarray .int, 2) := by decide +kernel
theorem dX4_init_65 : decode cX4_init 65 = .ok (.putfield 33, 3) := by decide +kernel
theorem dX4_init_68 : decode cX4_init 68 = .ok (.aload_n 0, 1) := by decide +kernel
theorem dX4_init_69 : decode cX4_init 69 = .ok (.new 36, 3) := by decide +kernel
theorem dX4_init_72 : decode cX4_init 72 = .ok (.dup, 1) := by decide +kernel
theorem dX4_init_73 : decode cX4_init 73 = .ok (.invokespecial 38, 3) := by decide +kernel
theorem dX4_init_76 : decode cX4_init 76 = .ok (.putfield 39, 3) := by decide +kernel
theorem dX4_init_79 : decode cX4_init 79 = .ok (.aload_n 0, 1) := by decide +kernel
theorem dX4_init_80 : decode cX4_init 80 = .ok (.new 43, 3) := by decide +kernel
theorem dX4_init_83 : decode cX4_init 83 = .ok (.dup, 1) := by decide +kernel
theorem dX4_init_84 : decode cX4_init 84 = .ok (.invokespecial 45, 3) := by decide +kernel
theorem dX4_init_87 : decode cX4_init 87 = .ok (.putfield 46, 3) := by decide +kernel
theorem dX4_init_90 : decode cX4_init 90 = .ok (.return_, 1) := by decide +kernel
theorem dX4_clear_0 : decode cX4_clear 0 = .ok (.aload_n 0, 1) := by decide +kernel
theorem dX4_clear_1 : decode cX4_clear 1 = .ok (.iconst 0, 1) := by decide +kernel
theorem dX4_clear_2 : decode cX4_clear 2 = .ok (.putfield 50, 3) := by decide +kernel
theorem dX4_clear_5 : decode cX4_clear 5 = .ok (.aload_n 0, 1) := by decide +kernel
theorem dX4_clear_6 : decode cX4_clear 6 = .ok (.lconst 0, 1) := by decide +kernel
theorem dX4_clear_7 : decode cX4_clear 7 = .ok (.putfield 54, 3) := by decide +kernel
theorem dX4_clear_10 : decode cX4_clear 10 = .ok (.aload_n 0, 1) := by decide +kernel
theorem dX4_clear_11 : decode cX4_clear 11 = .ok (.lconst 0, 1) := by decide +kernel
theorem dX4_clear_12 : decode cX4_clear 12 = .ok (.putfield 58, 3) := by decide +kernel
theorem dX4_clear_15 : decode cX4_clear 15 = .ok (.aload_n 0, 1) := by decide +kernel
theorem dX4_clear_16 : decode cX4_clear 16 = .ok (.lconst 0, 1) := by decide +kernel
theorem dX4_clear_17 : decode cX4_clear 17 = .ok (.putfield 61, 3) := by decide +kernel
theorem dX4_clear_20 : decode cX4_clear 20 = .ok (.aload_n 0, 1) := by decide +kernel
theorem dX4_clear_21 : decode cX4_clear 21 = .ok (.getfield 39, 3) := by decide +kernel
theorem dX4_clear_24 : decode cX4_clear 24 = .ok (.iconst 0, 1) := by decide +kernel
theorem dX4_clear_25 : decode cX4_clear 25 = .ok (.putfield 64, 3) := by decide +kernel
theorem dX4_clear_28 : decode cX4_clear 28 = .ok (.aload_n 0, 1) := by decide +kernel
theorem dX4_clear_29 : decode cX4_clear 29 = .ok (.getfield 46, 3) := by decide +kernel
theorem dX4_clear_32 : decode cX4_clear 32 = .ok (.iconst 0, 1) := by decide +kernel
theorem dX4_clear_33 : decode cX4_clear 33 = .ok (.putfield 67, 3) := by decide +kernel
theorem dX4_clear_36 : decode cX4_clear 36 = .ok (.return_, 1) := by decide +kernel
theorem dX4_copyFrom_0 : decode cX4_copyFrom 0 = .ok (.aload_n 0, 1) := by decide +kernel
theorem dX4_copyFrom_1 : decode cX4_copyFrom 1 = .ok (.aload_n 1, 1) := by decide +kernel
theorem dX4_copyFrom_2 : decode cX4_copyFrom 2 = .ok (.getfield 50, 3) := by decide +kernel
theorem dX4_copyFrom_5 : decode cX4_copyFrom 5 = .ok (.putfield 50, 3) := by decide +kernel
theorem dX4_copyFrom_8 : decode cX4_copyFrom 8 = .ok (.aload_n 0, 1) := by decide +kernel
theorem dX4_copyFrom_9 : decode cX4_copyFrom 9 = .ok (.aload_n 1, 1) := by decide +kernel
theorem dX4_copyFrom_10 : decode cX4_copyFrom 10 = .ok (.getfield 54, 3) := by decide +kernel
theorem dX4_copyFrom_13 : decode cX4_copyFrom 13 = .ok (.putfield 54, 3) := by decide +kernel
theorem dX4_copyFrom_16 : decode cX4_copyFrom 16 = .ok (.aload_n 0, 1) := by decide +kernel
theorem dX4_copyFrom_17 : decode cX4_copyFrom 17 = .ok (.aload_n 1, 1) := by decide +kernel
theorem dX4_copyFrom_18 : decode cX4_copyFrom 18 = .ok (.getfield 58, 3) := by decide +kernel
theorem dX4_copyFrom_21 : decode cX4_copyFrom 21 = .ok (.putfield 58, 3) := by decide +kernel
theorem dX4_copyFrom_24 : decode cX4_copyFrom 24 = .ok (.aload_n 0, 1) := by decide +kernel
theorem dX4_copyFrom_25 : decode cX4_copyFrom 25 = .ok (.aload_n 1, 1) := by decide +kernel
theorem dX4_copyFrom_26 : decode cX4_copyFrom 26 = .ok (.getfield 61, 3) := by decide +kernel
theorem dX4_copyFrom_29 : decode cX4_copyFrom 29 = .ok (.putfield 61, 3) := by decide +kernel
theorem dX4_copyFrom_32 : decode cX4_copyFrom 32 = .ok (.aload_n 1, 1) := by decide +kernel
theorem dX4_copyFrom_33 : decode cX4_copyFrom 33 = .ok (.getfield 9, 3) := by decide +kernel
theorem dX4_copyFrom_36 : decode cX4_copyFrom 36 = .ok (.aload_n 0, 1) := by decide +kernel
theorem dX4_copyFrom_37 : decode cX4_copyFrom 37 = .ok (.getfield 9, 3) := by decide +kernel
theorem dX4_copyFrom_40 : decode cX4_copyFrom 40 = .ok (.invokestatic 68, 3) := by decide +kernel
theorem dX4_copyFrom_43 : decode cX4_copyFrom 43 = .ok (.aload_n 1, 1) := by decide +kernel
theorem dX4_copyFrom_44 : decode cX4_copyFrom 44 = .ok (.getfield 15, 3) := by decide +kernel
theorem dX4_copyFrom_47 : decode cX4_copyFrom 47 = .ok (.aload_n 0, 1) := by decide +kernel
theorem dX4_copyFrom_48 : decode cX4_copyFrom 48 = .ok (.getfield 15, 3) := by decide +kernel
theorem dX4_copyFrom_51 : decode cX4_copyFrom 51 = .ok (.invokestatic 68, 3) := by decide +kernel
theorem dX4_copyFrom_54 : decode cX4_copyFrom 54 = .ok (.aload_n 1, 1) := by decide +kernel
theorem dX4_copyFrom_55 : decode cX4_copyFrom 55 = .ok (.getfield 18, 3) := by decide +kernel
theorem dX4_copyFrom_58 : decode cX4_copyFrom 58 = .ok (.aload_n 0, 1) := by decide +kernel
theorem dX4_copyFrom_59 : decode cX4_copyFrom 59 = .ok (.getfield 18, 3) := by decide +kernel
theorem dX4_copyFrom_62 : decode cX4_copyFrom 62 = .ok (.invokestatic 68, 3) := by decide +kernel
theorem dX4_copyFrom_65 : decode cX4_copyFrom 65 = .ok (.aload_n 1, 1) := by decide +kernel
theorem dX4_copyFrom_66 : decode cX4_copyFrom 66 = .ok (.getfield 21, 3) := by decide +kernel
theorem dX4_copyFrom_69 : decode cX4_copyFrom 69 = .ok (.aload_n 0, 1) := by decide +kernel
theorem dX4_copyFrom_70 : decode cX4_copyFrom 70 = .ok (.getfield 21, 3) := by decide +kernel
theorem dX4_copyFrom_73 : decode cX4_copyFrom 73 = .ok (.invokestatic 68, 3) := by decide +kernel
theorem dX4_copyFrom_76 : decode cX4_copyFrom 76 = .ok (.aload_n 1, 1) := by decide +kernel
theorem dX4_copyFrom_77 : decode cX4_copyFrom 77 = .ok (.getfield 24, 3) := by decide +kernel
theorem dX4_copyFrom_80 : decode cX4_copyFrom 80 = .ok (.aload_n 0, 1) := by decide +kernel
theorem dX4_copyFrom_81 : decode cX4_copyFrom 81 = .ok (.getfield 24, 3) := by decide +kernel
theorem dX4_copyFrom_84 : decode cX4_copyFrom 84 = .ok (.invokestatic 68, 3) := by decide +kernel
theorem dX4_copyFrom_87 : decode cX4_copyFrom 87 = .ok (.aload_n 1, 1) := by decide +kernel
theorem dX4_copyFrom_88 : decode cX4_copyFrom 88 = .ok (.getfield 27, 3) := by decide +kernel
theorem dX4_copyFrom_91 : decode cX4_copyFrom 91 = .ok (.aload_n 0, 1) := by decide +kernel
theorem dX4_copyFrom_92 : decode cX4_copyFrom 92 = .ok (.getfield 27, 3) := by decide +kernel
theorem dX4_copyFrom_95 : decode cX4_copyFrom 95 = .ok (.invokestatic 68, 3) := by decide +kernel
theorem dX4_copyFrom_98 : decode cX4_copyFrom 98 = .ok (.aload_n 1, 1) := by decide +kernel
theorem dX4_copyFrom_99 : decode cX4_copyFrom 99 = .ok (.getfield 30, 3) := by decide +kernel
theorem dX4_copyFrom_102 : decode cX4_copyFrom 102 = .ok (.aload_n 0, 1) := by decide +kernel
theorem dX4_copyFrom_103 : decode cX4_copyFrom 103 = .ok (.getfield 30, 3) := by decide +kernel
theorem dX4_copyFrom_106 : decode cX4_copyFrom 106 = .ok (.invokestatic 68, 3) := by decide +kernel
theorem dX4_copyFrom_109 : decode cX4_copyFrom 109 = .ok (.aload_n 1, 1) := by decide +kernel
theorem dX4_copyFrom_110 : decode cX4_copyFrom 110 = .ok (.getfield 33, 3) := by decide +kernel
theorem dX4_copyFrom_113 : decode cX4_copyFrom 113 = .ok (.aload_n 0, 1) := by decide +kernel
theorem dX4_copyFrom_114 : decode cX4_copyFrom 114 = .ok (.getfield 33, 3) := by decide +kernel
theorem dX4_copyFrom_117 : decode cX4_copyFrom 117 = .ok (.invokestatic 68, 3) := by decide +kernel
theorem dX4_copyFrom_120 : decode cX4_copyFrom 120 = .ok (.aload_n 0, 1) := by decide +kernel
theorem dX4_copyFrom_121 : decode cX4_copyFrom 121 = .ok (.getfield 39, 3) := by decide +kernel
theorem dX4_copyFrom_124 : decode cX4_copyFrom 124 = .ok (.aload_n 1, 1) := by decide +kernel
theorem dX4_copyFrom_125 : decode cX4_copyFrom 125 = .ok (.getfield 39, 3) := by decide +kernel
theorem dX4_copyFrom_128 : decode cX4_copyFrom 128 = .ok (.invokevirtual 72, 3) := by decide +kernel
theorem dX4_copyFrom_131 : decode cX4_copyFrom 131 = .ok (.aload_n 0, 1) := by decide +kernel
theorem dX4_copyFrom_132 : decode cX4_copyFrom 132 = .ok (.getfield 46, 3) := by decide +kernel
theorem dX4_copyFrom_135 : decode cX4_copyFrom 135 = .ok (.aload_n 1, 1) := by decide +kernel
theorem dX4_copyFrom_136 : decode cX4_copyFrom 136 = .ok (.getfield 46, 3) := by decide +kernel
theorem dX4_copyFrom_139 : decode cX4_copyFrom 139 = .ok (.invokevirtual 76, 3) := by decide +kernel
theorem dX4_copyFrom_142 : decode cX4_copyFrom 142 = .ok (.return_, 1) := by decide +kernel
theorem dX4_beginPack_0 : decode cX4_beginPack 0 = .ok (.aload_n 0, 1) := by decide +kernel
theorem dX4_beginPack_1 : decode cX4_beginPack 1 = .ok (.getfield 9, 3) := by decide +kernel
theorem dX4_beginPack_4 : decode cX4_beginPack 4 = .ok (.iload_n 1, 1) := by decide +kernel
theorem dX4_beginPack_5 : decode cX4_beginPack 5 = .ok (.iload_n 2, 1) := by decide +kernel
theorem dX4_beginPack_6 : decode cX4_beginPack 6 = .ok (.iastore, 1) := by decide +kernel
theorem dX4_beginPack_7 : decode cX4_beginPack 7 = .ok (.aload_n 0, 1) := by decide +kernel
theorem dX4_beginPack_8 : decode cX4_beginPack 8 = .ok (.getfield 15, 3) := by decide +kernel
theorem dX4_beginPack_11 : decode cX4_beginPack 11 = .ok (.iload_n 1, 1) := by decide +kernel
theorem dX4_beginPack_12 : decode cX4_beginPack 12 = .ok (.iconst 0, 1) := by decide +kernel
theorem dX4_beginPack_13 : decode cX4_beginPack 13 = .ok (.iastore, 1) := by decide +kernel
theorem dX4_beginPack_14 : decode cX4_beginPack 14 = .ok (.aload_n 0, 1) := by decide +kernel
theorem dX4_beginPack_15 : decode cX4_beginPack 15 = .ok (.getfield 18, 3) := by decide +kernel
theorem dX4_beginPack_18 : decode cX4_beginPack 18 = .ok (.iload_n 1, 1) := by decide +kernel
theorem dX4_beginPack_19 : decode cX4_beginPack 19 = .ok (.iconst 0, 1) := by decide +kernel
theorem dX4_beginPack_20 : decode cX4_beginPack 20 = .ok (.iastore, 1) := by decide +kernel
theorem dX4_beginPack_21 : decode cX4_beginPack 21 = .ok (.aload_n 0, 1) := by decide +kernel
theorem dX4_beginPack_22 : decode cX4_beginPack 22 = .ok (.dup, 1) := by decide +kernel
theorem dX4_beginPack_23 : decode cX4_beginPack 23 = .ok (.getfield 54, 3) := by decide +kernel
theorem dX4_beginPack_26 : decode cX4_beginPack 26 = .ok (.iload_n 2, 1) := by decide +kernel
theorem dX4_beginPack_27 : decode cX4_beginPack 27 = .ok (.i2l, 1) := by decide +kernel
theorem dX4_beginPack_28 : decode cX4_beginPack 28 = .ok (.ladd, 1) := by decide +kernel
theorem dX4_beginPack_29 : decode cX4_beginPack 29 = .ok (.putfield 54, 3) := by decide +kernel
theorem dX4_beginPack_32 : decode cX4_beginPack 32 = .ok (.return_, 1) := by decide +kernel
theorem dX4_beginCable_0 : decode cX4_beginCable 0 = .ok (.aload_n 0, 1) := by decide +kernel
theorem dX4_beginCable_1 : decode cX4_beginCable 1 = .ok (.getfield 21, 3) := by decide +kernel
theorem dX4_beginCable_4 : decode cX4_beginCable 4 = .ok (.iload_n 1, 1) := by decide +kernel
theorem dX4_beginCable_5 : decode cX4_beginCable 5 = .ok (.iload_n 2, 1) := by decide +kernel
theorem dX4_beginCable_6 : decode cX4_beginCable 6 = .ok (.iastore, 1) := by decide +kernel
theorem dX4_beginCable_7 : decode cX4_beginCable 7 = .ok (.aload_n 0, 1) := by decide +kernel
theorem dX4_beginCable_8 : decode cX4_beginCable 8 = .ok (.getfield 24, 3) := by decide +kernel
theorem dX4_beginCable_11 : decode cX4_beginCable 11 = .ok (.iload_n 1, 1) := by decide +kernel
theorem dX4_beginCable_12 : decode cX4_beginCable 12 = .ok (.iload_n 3, 1) := by decide +kernel
theorem dX4_beginCable_13 : decode cX4_beginCable 13 = .ok (.iastore, 1) := by decide +kernel
theorem dX4_beginCable_14 : decode cX4_beginCable 14 = .ok (.aload_n 0, 1) := by decide +kernel
theorem dX4_beginCable_15 : decode cX4_beginCable 15 = .ok (.getfield 27, 3) := by decide +kernel
theorem dX4_beginCable_18 : decode cX4_beginCable 18 = .ok (.iload_n 1, 1) := by decide +kernel
theorem dX4_beginCable_19 : decode cX4_beginCable 19 = .ok (.iconst 0, 1) := by decide +kernel
theorem dX4_beginCable_20 : decode cX4_beginCable 20 = .ok (.iastore, 1) := by decide +kernel
theorem dX4_beginCable_21 : decode cX4_beginCable 21 = .ok (.aload_n 0, 1) := by decide +kernel
theorem dX4_beginCable_22 : decode cX4_beginCable 22 = .ok (.getfield 30, 3) := by decide +kernel
theorem dX4_beginCable_25 : decode cX4_beginCable 25 = .ok (.iload_n 1, 1) := by decide +kernel
theorem dX4_beginCable_26 : decode cX4_beginCable 26 = .ok (.iconst 0, 1) := by decide +kernel
theorem dX4_beginCable_27 : decode cX4_beginCable 27 = .ok (.iastore, 1) := by decide +kernel
theorem dX4_beginCable_28 : decode cX4_beginCable 28 = .ok (.return_, 1) := by decide +kernel
theorem dX4_aboveReserve_0 : decode cX4_aboveReserve 0 = .ok (.aload_n 0, 1) := by decide +kernel
theorem dX4_aboveReserve_1 : decode cX4_aboveReserve 1 = .ok (.getfield 9, 3) := by decide +kernel
theorem dX4_aboveReserve_4 : decode cX4_aboveReserve 4 = .ok (.iload_n 1, 1) := by decide +kernel
theorem dX4_aboveReserve_5 : decode cX4_aboveReserve 5 = .ok (.iaload, 1) := by decide +kernel
theorem dX4_aboveReserve_6 : decode cX4_aboveReserve 6 = .ok (.aload_n 0, 1) := by decide +kernel
theorem dX4_aboveReserve_7 : decode cX4_aboveReserve 7 = .ok (.getfield 18, 3) := by decide +kernel
theorem dX4_aboveReserve_10 : decode cX4_aboveReserve 10 = .ok (.iload_n 1, 1) := by decide +kernel
theorem dX4_aboveReserve_11 : decode cX4_aboveReserve 11 = .ok (.iaload, 1) := by decide +kernel
theorem dX4_aboveReserve_12 : decode cX4_aboveReserve 12 = .ok (.isub, 1) := by decide +kernel
theorem dX4_aboveReserve_13 : decode cX4_aboveReserve 13 = .ok (.ireturn, 1) := by decide +kernel
theorem dX4_stillSends_0 : decode cX4_stillSends 0 = .ok (.aload_n 0, 1) := by decide +kernel
theorem dX4_stillSends_1 : decode cX4_stillSends 1 = .ok (.getfield 24, 3) := by decide +kernel
theorem dX4_stillSends_4 : decode cX4_stillSends 4 = .ok (.iload_n 1, 1) := by decide +kernel
theorem dX4_stillSends_5 : decode cX4_stillSends 5 = .ok (.iaload, 1) := by decide +kernel
theorem dX4_stillSends_6 : decode cX4_stillSends 6 = .ok (.aload_n 0, 1) := by decide +kernel
theorem dX4_stillSends_7 : decode cX4_stillSends 7 = .ok (.getfield 27, 3) := by decide +kernel
theorem dX4_stillSends_10 : decode cX4_stillSends 10 = .ok (.iload_n 1, 1) := by decide +kernel
theorem dX4_stillSends_11 : decode cX4_stillSends 11 = .ok (.iaload, 1) := by decide +kernel
theorem dX4_stillSends_12 : decode cX4_stillSends 12 = .ok (.isub, 1) := by decide +kernel
theorem dX4_stillSends_13 : decode cX4_stillSends 13 = .ok (.ireturn, 1) := by decide +kernel
theorem dX4_carry_0 : decode cX4_carry 0 = .ok (.iload_n 2, 1) := by decide +kernel
theorem dX4_carry_1 : decode cX4_carry 1 = .ok (.aload_n 0, 1) := by decide +kernel
theorem dX4_carry_2 : decode cX4_carry 2 = .ok (.getfield 21, 3) := by decide +kernel
theorem dX4_carry_5 : decode cX4_carry 5 = .ok (.iload_n 1, 1) := by decide +kernel
theorem dX4_carry_6 : decode cX4_carry 6 = .ok (.iaload, 1) := by decide +kernel
theorem dX4_carry_7 : decode cX4_carry 7 = .ok (.imul, 1) := by decide +kernel
theorem dX4_carry_8 : decode cX4_carry 8 = .ok (.sipush 1000, 3) := by decide +kernel
theorem dX4_carry_11 : decode cX4_carry 11 = .ok (.idiv, 1) := by decide +kernel
theorem dX4_carry_12 : decode cX4_carry 12 = .ok (.istore_n 3, 1) := by decide +kernel
theorem dX4_carry_13 : decode cX4_carry 13 = .ok (.aload_n 0, 1) := by decide +kernel
theorem dX4_carry_14 : decode cX4_carry 14 = .ok (.getfield 27, 3) := by decide +kernel
theorem dX4_carry_17 : decode cX4_carry 17 = .ok (.iload_n 1, 1) := by decide +kernel
theorem dX4_carry_18 : decode cX4_carry 18 = .ok (.dup2, 1) := by decide +kernel
theorem dX4_carry_19 : decode cX4_carry 19 = .ok (.iaload, 1) := by decide +kernel
theorem dX4_carry_20 : decode cX4_carry 20 = .ok (.iload_n 2, 1) := by decide +kernel
theorem dX4_carry_21 : decode cX4_carry 21 = .ok (.iadd, 1) := by decide +kernel
theorem dX4_carry_22 : decode cX4_carry 22 = .ok (.iastore, 1) := by decide +kernel
theorem dX4_carry_23 : decode cX4_carry 23 = .ok (.aload_n 0, 1) := by decide +kernel
theorem dX4_carry_24 : decode cX4_carry 24 = .ok (.getfield 30, 3) := by decide +kernel
theorem dX4_carry_27 : decode cX4_carry 27 = .ok (.iload_n 1, 1) := by decide +kernel
theorem dX4_carry_28 : decode cX4_carry 28 = .ok (.dup2, 1) := by decide +kernel
theorem dX4_carry_29 : decode cX4_carry 29 = .ok (.iaload, 1) := by decide +kernel
theorem dX4_carry_30 : decode cX4_carry 30 = .ok (.iload_n 3, 1) := by decide +kernel
theorem dX4_carry_31 : decode cX4_carry 31 = .ok (.iadd, 1) := by decide +kernel
theorem dX4_carry_32 : decode cX4_carry 32 = .ok (.iastore, 1) := by decide +kernel
theorem dX4_carry_33 : decode cX4_carry 33 = .ok (.iload_n 2, 1) := by decide +kernel
theorem dX4_carry_34 : decode cX4_carry 34 = .ok (.iload_n 3, 1) := by decide +kernel
theorem dX4_carry_35 : decode cX4_carry 35 = .ok (.isub, 1) := by decide +kernel
theorem dX4_carry_36 : decode cX4_carry 36 = .ok (.ireturn, 1) := by decide +kernel
theorem dX5_init_0 : decode cX5_init 0 = .ok (.aload_n 0, 1) := by decide +kernel
theorem dX5_init_1 : decode cX5_init 1 = .ok (.invokespecial 3, 3) := by decide +kernel
theorem dX5_init_4 : decode cX5_init 4 = .ok (.aload_n 0, 1) := by decide +kernel
theorem dX5_init_5 : decode cX5_init 5 = .ok (.bipush 16, 2) := by decide +kernel
theorem dX5_init_7 : decode cX5_init 7 = .ok (.newarray .int, 2) := by decide +kernel
theorem dX5_init_9 : decode cX5_init 9 = .ok (.putfield 9, 3) := by decide +kernel
theorem dX5_init_12 : decode cX5_init 12 = .ok (.aload_n 0, 1) := by decide +kernel
theorem dX5_init_13 : decode cX5_init 13 = .ok (.bipush 16, 2) := by decide +kernel
theorem dX5_init_15 : decode cX5_init 15 = .ok (.newarray .int, 2) := by decide +kernel
theorem dX5_init_17 : decode cX5_init 17 = .ok (.putfield 15, 3) := by decide +kernel
theorem dX5_init_20 : decode cX5_init 20 = .ok (.aload_n 0, 1) := by decide +kernel
theorem dX5_init_21 : decode cX5_init 21 = .ok (.bipush 16, 2) := by decide +kernel
theorem dX5_init_23 : decode cX5_init 23 = .ok (.newarray .int, 2) := by decide +kernel
theorem dX5_init_25 : decode cX5_init 25 = .ok (.putfield 18, 3) := by decide +kernel
theorem dX5_init_28 : decode cX5_init 28 = .ok (.aload_n 0, 1) := by decide +kernel
theorem dX5_init_29 : decode cX5_init 29 = .ok (.bipush 16, 2) := by decide +kernel
theorem dX5_init_31 : decode cX5_init 31 = .ok (.newarray .int, 2) := by decide +kernel
theorem dX5_init_33 : decode cX5_init 33 = .ok (.putfield 21, 3) := by decide +kernel
theorem dX5_init_36 : decode cX5_init 36 = .ok (.return_, 1) := by decide +kernel
theorem dX5_copyFrom_0 : decode cX5_copyFrom 0 = .ok (.aload_n 0, 1) := by decide +kernel
theorem dX5_copyFrom_1 : decode cX5_copyFrom 1 = .ok (.aload_n 1, 1) := by decide +kernel
theorem dX5_copyFrom_2 : decode cX5_copyFrom 2 = .ok (.getfield 24, 3) := by decide +kernel
theorem dX5_copyFrom_5 : decode cX5_copyFrom 5 = .ok (.putfield 24, 3) := by decide +kernel
theorem dX5_copyFrom_8 : decode cX5_copyFrom 8 = .ok (.aload_n 1, 1) := by decide +kernel
theorem dX5_copyFrom_9 : decode cX5_copyFrom 9 = .ok (.getfield 9, 3) := by decide +kernel
theorem dX5_copyFrom_12 : decode cX5_copyFrom 12 = .ok (.aload_n 0, 1) := by decide +kernel
theorem dX5_copyFrom_13 : decode cX5_copyFrom 13 = .ok (.getfield 9, 3) := by decide +kernel
theorem dX5_copyFrom_16 : decode cX5_copyFrom 16 = .ok (.invokestatic 28, 3) := by decide +kernel
theorem dX5_copyFrom_19 : decode cX5_copyFrom 19 = .ok (.aload_n 1, 1) := by decide +kernel
theorem dX5_copyFrom_20 : decode cX5_copyFrom 20 = .ok (.getfield 15, 3) := by decide +kernel
theorem dX5_copyFrom_23 : decode cX5_copyFrom 23 = .ok (.aload_n 0, 1) := by decide +kernel
theorem dX5_copyFrom_24 : decode cX5_copyFrom 24 = .ok (.getfield 15, 3) := by decide +kernel
theorem dX5_copyFrom_27 : decode cX5_copyFrom 27 = .ok (.invokestatic 28, 3) := by decide +kernel
theorem dX5_copyFrom_30 : decode cX5_copyFrom 30 = .ok (.aload_n 1, 1) := by decide +kernel
theorem dX5_copyFrom_31 : decode cX5_copyFrom 31 = .ok (.getfield 18, 3) := by decide +kernel
theorem dX5_copyFrom_34 : decode cX5_copyFrom 34 = .ok (.aload_n 0, 1) := by decide +kernel
theorem dX5_copyFrom_35 : decode cX5_copyFrom 35 = .ok (.getfield 18, 3) := by decide +kernel
theorem dX5_copyFrom_38 : decode cX5_copyFrom 38 = .ok (.invokestatic 28, 3) := by decide +kernel
theorem dX5_copyFrom_41 : decode cX5_copyFrom 41 = .ok (.aload_n 1, 1) := by decide +kernel
theorem dX5_copyFrom_42 : decode cX5_copyFrom 42 = .ok (.getfield 21, 3) := by decide +kernel
theorem dX5_copyFrom_45 : decode cX5_copyFrom 45 = .ok (.aload_n 0, 1) := by decide +kernel
theorem dX5_copyFrom_46 : decode cX5_copyFrom 46 = .ok (.getfield 21, 3) := by decide +kernel
theorem dX5_copyFrom_49 : decode cX5_copyFrom 49 = .ok (.invokestatic 28, 3) := by decide +kernel
theorem dX5_copyFrom_52 : decode cX5_copyFrom 52 = .ok (.return_, 1) := by decide +kernel
theorem dX5_numberOf_0 : decode cX5_numberOf 0 = .ok (.iconst 0, 1) := by decide +kernel
theorem dX5_numberOf_1 : decode cX5_numberOf 1 = .ok (.istore_n 3, 1) := by decide +kernel
theorem dX5_numberOf_2 : decode cX5_numberOf 2 = .ok (.iconst 0, 1) := by decide +kernel
theorem dX5_numberOf_3 : decode cX5_numberOf 3 = .ok (.istore 4, 2) := by decide +kernel
theorem dX5_numberOf_5 : decode cX5_numberOf 5 = .ok (.iload 4, 2) := by decide +kernel
theorem dX5_numberOf_7 : decode cX5_numberOf 7 = .ok (.aload_n 0, 1) := by decide +kernel
theorem dX5_numberOf_8 : decode cX5_numberOf 8 = .ok (.getfield 24, 3) := by decide +kernel
theorem dX5_numberOf_11 : decode cX5_numberOf 11 = .ok (.if_icmp .ge 34, 3) := by decide +kernel
theorem dX5_numberOf_14 : decode cX5_numberOf 14 = .ok (.aload_n 0, 1) := by decide +kernel
theorem dX5_numberOf_15 : decode cX5_numberOf 15 = .ok (.getfield 9, 3) := by decide +kernel
theorem dX5_numberOf_18 : decode cX5_numberOf 18 = .ok (.iload 4, 2) := by decide +kernel
theorem dX5_numberOf_20 : decode cX5_numberOf 20 = .ok (.iaload, 1) := by decide +kernel
theorem dX5_numberOf_21 : decode cX5_numberOf 21 = .ok (.iload_n 1, 1) := by decide +kernel
theorem dX5_numberOf_22 : decode cX5_numberOf 22 = .ok (.if_icmp .ne 17, 3) := by decide +kernel
theorem dX5_numberOf_25 : decode cX5_numberOf 25 = .ok (.aload_n 0, 1) := by decide +kernel
theorem dX5_numberOf_26 : decode cX5_numberOf 26 = .ok (.getfield 21, 3) := by decide +kernel
theorem dX5_numberOf_29 : decode cX5_numberOf 29 = .ok (.iload 4, 2) := by decide +kernel
theorem dX5_numberOf_31 : decode cX5_numberOf 31 = .ok (.iaload, 1) := by decide +kernel
theorem dX5_numberOf_32 : decode cX5_numberOf 32 = .ok (.iload_n 2, 1) := by decide +kernel
theorem dX5_numberOf_33 : decode cX5_numberOf 33 = .ok (.if_icmp .ne 6, 3) := by decide +kernel
theorem dX5_numberOf_36 : decode cX5_numberOf 36 = .ok (.iinc 3 1, 3) := by decide +kernel
theorem dX5_numberOf_39 : decode cX5_numberOf 39 = .ok (.iinc 4 1, 3) := by decide +kernel
theorem dX5_numberOf_42 : decode cX5_numberOf 42 = .ok (.goto (-37), 3) := by decide +kernel
theorem dX5_numberOf_45 : decode cX5_numberOf 45 = .ok (.iload_n 3, 1) := by decide +kernel
theorem dX5_numberOf_46 : decode cX5_numberOf 46 = .ok (.ireturn, 1) := by decide +kernel
theorem dX5_add_0 : decode cX5_add 0 = .ok (.aload_n 0, 1) := by decide +kernel
theorem dX5_add_1 : decode cX5_add 1 = .ok (.getfield 9, 3) := by decide +kernel
theorem dX5_add_4 : decode cX5_add 4 = .ok (.aload_n 0, 1) := by decide +kernel
theorem dX5_add_5 : decode cX5_add 5 = .ok (.getfield 24, 3) := by decide +kernel
theorem dX5_add_8 : decode cX5_add 8 = .ok (.iload_n 1, 1) := by decide +kernel
theorem dX5_add_9 : decode cX5_add 9 = .ok (.iastore, 1) := by decide +kernel
theorem dX5_add_10 : decode cX5_add 10 = .ok (.aload_n 0, 1) := by decide +kernel
theorem dX5_add_11 : decode cX5_add 11 = .ok (.getfield 15, 3) := by decide +kernel
theorem dX5_add_14 : decode cX5_add 14 = .ok (.aload_n 0, 1) := by decide +kernel
theorem dX5_add_15 : decode cX5_add 15 = .ok (.getfield 24, 3) := by decide +kernel
theorem dX5_add_18 : decode cX5_add 18 = .ok (.iload_n 2, 1) := by decide +kernel
theorem dX5_add_19 : decode cX5_add 19 = .ok (.iastore, 1) := by decide +kernel
theorem dX5_add_20 : decode cX5_add 20 = .ok (.aload_n 0, 1) := by decide +kernel
theorem dX5_add_21 : decode cX5_add 21 = .ok (.getfield 18, 3) := by decide +kernel
theorem dX5_add_24 : decode cX5_add 24 = .ok (.aload_n 0, 1) := by decide +kernel
theorem dX5_add_25 : decode cX5_add 25 = .ok (.getfield 24, 3) := by decide +kernel
theorem dX5_add_28 : decode cX5_add 28 = .ok (.iload_n 3, 1) := by decide +kernel
theorem dX5_add_29 : decode cX5_add 29 = .ok (.iastore, 1) := by decide +kernel
theorem dX5_add_30 : decode cX5_add 30 = .ok (.aload_n 0, 1) := by decide +kernel
theorem dX5_add_31 : decode cX5_add 31 = .ok (.getfield 21, 3) := by decide +kernel
theorem dX5_add_34 : decode cX5_add 34 = .ok (.aload_n 0, 1) := by decide +kernel
theorem dX5_add_35 : decode cX5_add 35 = .ok (.getfield 24, 3) := by decide +kernel
theorem dX5_add_38 : decode cX5_add 38 = .ok (.iconst 0, 1) := by decide +kernel
theorem dX5_add_39 : decode cX5_add 39 = .ok (.iastore, 1) := by decide +kernel
theorem dX5_add_40 : decode cX5_add 40 = .ok (.aload_n 0, 1) := by decide +kernel
theorem dX5_add_41 : decode cX5_add 41 = .ok (.dup, 1) := by decide +kernel
theorem dX5_add_42 : decode cX5_add 42 = .ok (.getfield 24, 3) := by decide +kernel
theorem dX5_add_45 : decode cX5_add 45 = .ok (.dup_x1, 1) := by decide +kernel
theorem dX5_add_46 : decode cX5_add 46 = .ok (.iconst 1, 1) := by decide +kernel
theorem dX5_add_47 : decode cX5_add 47 = .ok (.iadd, 1) := by decide +kernel
theorem dX5_add_48 : decode cX5_add 48 = .ok (.putfield 24, 3) := by decide +kernel
theorem dX5_add_51 : decode cX5_add 51 = .ok (.ireturn, 1) := by decide +kernel
theorem dX5_remove_0 : decode cX5_remove 0 = .ok (.aload_n 0, 1) := by decide +kernel
theorem dX5_remove_1 : decode cX5_remove 1 = .ok (.dup, 1) := by decide +kernel
theorem dX5_remove_2 : decode cX5_remove 2 = .ok (.getfield 24, 3) := by decide +kernel
theorem dX5_remove_5 : decode cX5_remove 5 = .ok (.iconst 1, 1) := by decide +kernel
theorem dX5_remove_6 : decode cX5_remove 6 = .ok (.isub, 1) := by decide +kernel
theorem dX5_remove_7 : decode cX5_remove 7 = .ok (.putfield 24, 3) := by decide +kernel
theorem dX5_remove_10 : decode cX5_remove 10 = .ok (.iload_n 1, 1) := by decide +kernel
theorem dX5_remove_11 : decode cX5_remove 11 = .ok (.istore_n 2, 1) := by decide +kernel
theorem dX5_remove_12 : decode cX5_remove 12 = .ok (.iload_n 2, 1) := by decide +kernel
theorem dX5_remove_13 : decode cX5_remove 13 = .ok (.aload_n 0, 1) := by decide +kernel
theorem dX5_remove_14 : decode cX5_remove 14 = .ok (.getfield 24, 3) := by decide +kernel
theorem dX5_remove_17 : decode cX5_remove 17 = .ok (.if_icmp .ge 65, 3) := by decide +kernel
theorem dX5_remove_20 : decode cX5_remove 20 = .ok (.aload_n 0, 1) := by decide +kernel
theorem dX5_remove_21 : decode cX5_remove 21 = .ok (.getfield 9, 3) := by decide +kernel
theorem dX5_remove_24 : decode cX5_remove 24 = .ok (.iload_n 2, 1) := by decide +kernel
theorem dX5_remove_25 : decode cX5_remove 25 = .ok (.aload_n 0, 1) := by decide +kernel
theorem dX5_remove_26 : decode cX5_remove 26 = .ok (.getfield 9, 3) := by decide +kernel
theorem dX5_remove_29 : decode cX5_remove 29 = .ok (.iload_n 2, 1) := by decide +kernel
theorem dX5_remove_30 : decode cX5_remove 30 = .ok (.iconst 1, 1) := by decide +kernel
theorem dX5_remove_31 : decode cX5_remove 31 = .ok (.iadd, 1) := by decide +kernel
theorem dX5_remove_32 : decode cX5_remove 32 = .ok (.iaload, 1) := by decide +kernel
theorem dX5_remove_33 : decode cX5_remove 33 = .ok (.iastore, 1) := by decide +kernel
theorem dX5_remove_34 : decode cX5_remove 34 = .ok (.aload_n 0, 1) := by decide +kernel
theorem dX5_remove_35 : decode cX5_remove 35 = .ok (.getfield 15, 3) := by decide +kernel
theorem dX5_remove_38 : decode cX5_remove 38 = .ok (.iload_n 2, 1) := by decide +kernel
theorem dX5_remove_39 : decode cX5_remove 39 = .ok (.aload_n 0, 1) := by decide +kernel
theorem dX5_remove_40 : decode cX5_remove 40 = .ok (.getfield 15, 3) := by decide +kernel
theorem dX5_remove_43 : decode cX5_remove 43 = .ok (.iload_n 2, 1) := by decide +kernel
theorem dX5_remove_44 : decode cX5_remove 44 = .ok (.iconst 1, 1) := by decide +kernel
theorem dX5_remove_45 : decode cX5_remove 45 = .ok (.iadd, 1) := by decide +kernel
theorem dX5_remove_46 : decode cX5_remove 46 = .ok (.iaload, 1) := by decide +kernel
theorem dX5_remove_47 : decode cX5_remove 47 = .ok (.iastore, 1) := by decide +kernel
theorem dX5_remove_48 : decode cX5_remove 48 = .ok (.aload_n 0, 1) := by decide +kernel
theorem dX5_remove_49 : decode cX5_remove 49 = .ok (.getfield 18, 3) := by decide +kernel
theorem dX5_remove_52 : decode cX5_remove 52 = .ok (.iload_n 2, 1) := by decide +kernel
theorem dX5_remove_53 : decode cX5_remove 53 = .ok (.aload_n 0, 1) := by decide +kernel
theorem dX5_remove_54 : decode cX5_remove 54 = .ok (.getfield 18, 3) := by decide +kernel
theorem dX5_remove_57 : decode cX5_remove 57 = .ok (.iload_n 2, 1) := by decide +kernel
theorem dX5_remove_58 : decode cX5_remove 58 = .ok (.iconst 1, 1) := by decide +kernel
theorem dX5_remove_59 : decode cX5_remove 59 = .ok (.iadd, 1) := by decide +kernel
theorem dX5_remove_60 : decode cX5_remove 60 = .ok (.iaload, 1) := by decide +kernel
theorem dX5_remove_61 : decode cX5_remove 61 = .ok (.iastore, 1) := by decide +kernel
theorem dX5_remove_62 : decode cX5_remove 62 = .ok (.aload_n 0, 1) := by decide +kernel
theorem dX5_remove_63 : decode cX5_remove 63 = .ok (.getfield 21, 3) := by decide +kernel
theorem dX5_remove_66 : decode cX5_remove 66 = .ok (.iload_n 2, 1) := by decide +kernel
theorem dX5_remove_67 : decode cX5_remove 67 = .ok (.aload_n 0, 1) := by decide +kernel
theorem dX5_remove_68 : decode cX5_remove 68 = .ok (.getfield 21, 3) := by decide +kernel
theorem dX5_remove_71 : decode cX5_remove 71 = .ok (.iload_n 2, 1) := by decide +kernel
theorem dX5_remove_72 : decode cX5_remove 72 = .ok (.iconst 1, 1) := by decide +kernel
theorem dX5_remove_73 : decode cX5_remove 73 = .ok (.iadd, 1) := by decide +kernel
theorem dX5_remove_74 : decode cX5_remove 74 = .ok (.iaload, 1) := by decide +kernel
theorem dX5_remove_75 : decode cX5_remove 75 = .ok (.iastore, 1) := by decide +kernel
theorem dX5_remove_76 : decode cX5_remove 76 = .ok (.iinc 2 1, 3) := by decide +kernel
theorem dX5_remove_79 : decode cX5_remove 79 = .ok (.goto (-67), 3) := by decide +kernel
theorem dX5_remove_82 : decode cX5_remove 82 = .ok (.return_, 1) := by decide +kernel
theorem dX6_init_0 : decode cX6_init 0 = .ok (.aload_n 0, 1) := by decide +kernel
theorem dX6_init_1 : decode cX6_init 1 = .ok (.invokespecial 3, 3) := by decide +kernel
theorem dX6_init_4 : decode cX6_init 4 = .ok (.aload_n 0, 1) := by decide +kernel
theorem dX6_init_5 : decode cX6_init 5 = .ok (.new 9, 3) := by decide +kernel
theorem dX6_init_8 : decode cX6_init 8 = .ok (.dup, 1) := by decide +kernel
theorem dX6_init_9 : decode cX6_init 9 = .ok (.invokespecial 11, 3) := by decide +kernel
theorem dX6_init_12 : decode cX6_init 12 = .ok (.putfield 12, 3) := by decide +kernel
theorem dX6_init_15 : decode cX6_init 15 = .ok (.aload_n 0, 1) := by decide +kernel
theorem dX6_init_16 : decode cX6_init 16 = .ok (.aload_n 1, 1) := by decide +kernel
theorem dX6_init_17 : decode cX6_init 17 = .ok (.putfield 18, 3) := by decide +kernel
theorem dX6_init_20 : decode cX6_init 20 = .ok (.return_, 1) := by decide +kernel
theorem dX6_copyFrom_0 : decode cX6_copyFrom 0 = .ok (.aload_n 0, 1) := by decide +kernel
theorem dX6_copyFrom_1 : decode cX6_copyFrom 1 = .ok (.getfield 18, 3) := by decide +kernel
theorem dX6_copyFrom_4 : decode cX6_copyFrom 4 = .ok (.aload_n 1, 1) := by decide +kernel
theorem dX6_copyFrom_5 : decode cX6_copyFrom 5 = .ok (.getfield 18, 3) := by decide +kernel
theorem dX6_copyFrom_8 : decode cX6_copyFrom 8 = .ok (.invokevirtual 22, 3) := by decide +kernel
theorem dX6_copyFrom_11 : decode cX6_copyFrom 11 = .ok (.aload_n 0, 1) := by decide +kernel
theorem dX6_copyFrom_12 : decode cX6_copyFrom 12 = .ok (.getfield 12, 3) := by decide +kernel
theorem dX6_copyFrom_15 : decode cX6_copyFrom 15 = .ok (.aload_n 1, 1) := by decide +kernel
theorem dX6_copyFrom_16 : decode cX6_copyFrom 16 = .ok (.getfield 12, 3) := by decide +kernel
theorem dX6_copyFrom_19 : decode cX6_copyFrom 19 = .ok (.invokevirtual 28, 3) := by decide +kernel
theorem dX6_copyFrom_22 : decode cX6_copyFrom 22 = .ok (.return_, 1) := by decide +kernel
theorem dX6_roomOf_0 : decode cX6_roomOf 0 = .ok (.aload_n 0, 1) := by decide +kernel
theorem dX6_roomOf_1 : decode cX6_roomOf 1 = .ok (.getfield 18, 3) := by decide +kernel
theorem dX6_roomOf_4 : decode cX6_roomOf 4 = .ok (.getfield 31, 3) := by decide +kernel
theorem dX6_roomOf_7 : decode cX6_roomOf 7 = .ok (.iload_n 1, 1) := by decide +kernel
theorem dX6_roomOf_8 : decode cX6_roomOf 8 = .ok (.iaload, 1) := by decide +kernel
theorem dX6_roomOf_9 : decode cX6_roomOf 9 = .ok (.istore_n 2, 1) := by decide +kernel
theorem dX6_roomOf_10 : decode cX6_roomOf 10 = .ok (.iload_n 2, 1) := by decide +kernel
theorem dX6_roomOf_11 : decode cX6_roomOf 11 = .ok (.iconst 1, 1) := by decide +kernel
theorem dX6_roomOf_12 : decode cX6_roomOf 12 = .ok (.iadd, 1) := by decide +kernel
theorem dX6_roomOf_13 : decode cX6_roomOf 13 = .ok (.iconst 2, 1) := by decide +kernel
theorem dX6_roomOf_14 : decode cX6_roomOf 14 = .ok (.idiv, 1) := by decide +kernel
theorem dX6_roomOf_15 : decode cX6_roomOf 15 = .ok (.istore_n 3, 1) := by decide +kernel
theorem dX6_roomOf_16 : decode cX6_roomOf 16 = .ok (.aload_n 0, 1) := by decide +kernel
theorem dX6_roomOf_17 : decode cX6_roomOf 17 = .ok (.getfield 18, 3) := by decide +kernel
theorem dX6_roomOf_20 : decode cX6_roomOf 20 = .ok (.getfield 35, 3) := by decide +kernel
theorem dX6_roomOf_23 : decode cX6_roomOf 23 = .ok (.iconst 1, 1) := by decide +kernel
theorem dX6_roomOf_24 : decode cX6_roomOf 24 = .ok (.if_icmp .ge 7, 3) := by decide +kernel
theorem dX6_roomOf_27 : decode cX6_roomOf 27 = .ok (.iload_n 3, 1) := by decide +kernel
theorem dX6_roomOf_28 : decode cX6_roomOf 28 = .ok (.goto 22, 3) := by decide +kernel
theorem dX6_roomOf_31 : decode cX6_roomOf 31 = .ok (.iload_n 2, 1) := by decide +kernel
theorem dX6_roomOf_32 : decode cX6_roomOf 32 = .ok (.aload_n 0, 1) := by decide +kernel
theorem dX6_roomOf_33 : decode cX6_roomOf 33 = .ok (.getfield 12, 3) := by decide +kernel
theorem dX6_roomOf_36 : decode cX6_roomOf 36 = .ok (.getfield 39, 3) := by decide +kernel
theorem dX6_roomOf_39 : decode cX6_roomOf 39 = .ok (.iload_n 1, 1) := by decide +kernel
theorem dX6_roomOf_40 : decode cX6_roomOf 40 = .ok (.iaload, 1) := by decide +kernel
theorem dX6_roomOf_41 : decode cX6_roomOf 41 = .ok (.aload_n 0, 1) := by decide +kernel
theorem dX6_roomOf_42 : decode cX6_roomOf 42 = .ok (.getfield 18, 3) := by decide +kernel
theorem dX6_roomOf_45 : decode cX6_roomOf 45 = .ok (.getfield 35, 3) := by decide +kernel
theorem dX6_roomOf_48 : decode cX6_roomOf 48 = .ok (.idiv, 1) := by decide +kernel
theorem dX6_roomOf_49 : decode cX6_roomOf 49 = .ok (.isub, 1) := by decide +kernel
theorem dX6_roomOf_50 : decode cX6_roomOf 50 = .ok (.istore 4, 2) := by decide +kernel
theorem dX6_roomOf_52 : decode cX6_roomOf 52 = .ok (.iload 4, 2) := by decide +kernel
theorem dX6_roomOf_54 : decode cX6_roomOf 54 = .ok (.iload_n 3, 1) := by decide +kernel
theorem dX6_roomOf_55 : decode cX6_roomOf 55 = .ok (.if_icmp .le 8, 3) := by decide +kernel
theorem dX6_roomOf_58 : decode cX6_roomOf 58 = .ok (.iload 4, 2) := by decide +kernel
theorem dX6_roomOf_60 : decode cX6_roomOf 60 = .ok (.goto 4, 3) := by decide +kernel
theorem dX6_roomOf_63 : decode cX6_roomOf 63 = .ok (.iload_n 3, 1) := by decide +kernel
theorem dX6_roomOf_64 : decode cX6_roomOf 64 = .ok (.ireturn, 1) := by decide +kernel
theorem dX6_quarterOf_0 : decode cX6_quarterOf 0 = .ok (.aload_n 0, 1) := by decide +kernel
theorem dX6_quarterOf_1 : decode cX6_quarterOf 1 = .ok (.iload_n 1, 1) := by decide +kernel
theorem dX6_quarterOf_2 : decode cX6_quarterOf 2 = .ok (.invokevirtual 42, 3) := by decide +kernel
theorem dX6_quarterOf_5 : decode cX6_quarterOf 5 = .ok (.istore_n 2, 1) := by decide +kernel
theorem dX6_quarterOf_6 : decode cX6_quarterOf 6 = .ok (.iload_n 2, 1) := by decide +kernel
theorem dX6_quarterOf_7 : decode cX6_quarterOf 7 = .ok (.iconst 1, 1) := by decide +kernel
theorem dX6_quarterOf_8 : decode cX6_quarterOf 8 = .ok (.if_icmp .ge 7, 3) := by decide +kernel
theorem dX6_quarterOf_11 : decode cX6_quarterOf 11 = .ok (.iconst 0, 1) := by decide +kernel
theorem dX6_quarterOf_12 : decode cX6_quarterOf 12 = .ok (.goto 16, 3) := by decide +kernel
theorem dX6_quarterOf_15 : decode cX6_quarterOf 15 = .ok (.iconst 4, 1) := by decide +kernel
theorem dX6_quarterOf_16 : decode cX6_quarterOf 16 = .ok (.aload_n 0, 1) := by decide +kernel
theorem dX6_quarterOf_17 : decode cX6_quarterOf 17 = .ok (.getfield 12, 3) := by decide +kernel
theorem dX6_quarterOf_20 : decode cX6_quarterOf 20 = .ok (.getfield 46, 3) := by decide +kernel
theorem dX6_quarterOf_23 : decode cX6_quarterOf 23 = .ok (.iload_n 1, 1) := by decide +kernel
theorem dX6_quarterOf_24 : decode cX6_quarterOf 24 = .ok (.iaload, 1) := by decide +kernel
theorem dX6_quarterOf_25 : decode cX6_quarterOf 25 = .ok (.imul, 1) := by decide +kernel
theorem dX6_quarterOf_26 : decode cX6_quarterOf 26 = .ok (.iload_n 2, 1) := by decide +kernel
theorem dX6_quarterOf_27 : decode cX6_quarterOf 27 = .ok (.idiv, 1) := by decide +kernel
theorem dX6_quarterOf_28 : decode cX6_quarterOf 28 = .ok (.istore_n 3, 1) := by decide +kernel
theorem dX6_quarterOf_29 : decode cX6_quarterOf 29 = .ok (.iload_n 3, 1) := by decide +kernel
theorem dX6_quarterOf_30 : decode cX6_quarterOf 30 = .ok (.iconst 4, 1) := by decide +kernel
theorem dX6_quarterOf_31 : decode cX6_quarterOf 31 = .ok (.if_icmp .ge 7, 3) := by decide +kernel
theorem dX6_quarterOf_34 : decode cX6_quarterOf 34 = .ok (.iload_n 3, 1) := by decide +kernel
theorem dX6_quarterOf_35 : decode cX6_quarterOf 35 = .ok (.goto 4, 3) := by decide +kernel
theorem dX6_quarterOf_38 : decode cX6_quarterOf 38 = .ok (.iconst 3, 1) := by decide +kernel
theorem dX6_quarterOf_39 : decode cX6_quarterOf 39 = .ok (.ireturn, 1) := by decide +kernel
theorem dX6_loseAboveRoom_0 : decode cX6_loseAboveRoom 0 = .ok (.aload_n 0, 1) := by decide +kernel
theorem dX6_loseAboveRoom_1 : decode cX6_loseAboveRoom 1 = .ok (.getfield 12, 3) := by decide +kernel
theorem dX6_loseAboveRoom_4 : decode cX6_loseAboveRoom 4 = .ok (.getfield 46, 3) := by decide +kernel
theorem dX6_loseAboveRoom_7 : decode cX6_loseAboveRoom 7 = .ok (.iload_n 1, 1) := by decide +kernel
theorem dX6_loseAboveRoom_8 : decode cX6_loseAboveRoom 8 = .ok (.iaload, 1) := by decide +kernel
theorem dX6_loseAboveRoom_9 : decode cX6_loseAboveRoom 9 = .ok (.aload_n 0, 1) := by decide +kernel
theorem dX6_loseAboveRoom_10 : decode cX6_loseAboveRoom 10 = .ok (.iload_n 1, 1) := by decide +kernel
theorem dX6_loseAboveRoom_11 : decode cX6_loseAboveRoom 11 = .ok (.invokevirtual 42, 3) := by decide +kernel
theorem dX6_loseAboveRoom_14 : decode cX6_loseAboveRoom 14 = .ok (.isub, 1) := by decide +kernel
theorem dX6_loseAboveRoom_15 : decode cX6_loseAboveRoom 15 = .ok (.istore_n 2, 1) := by decide +kernel
theorem dX6_loseAboveRoom_16 : decode cX6_loseAboveRoom 16 = .ok (.iload_n 2, 1) := by decide +kernel
theorem dX6_loseAboveRoom_17 : decode cX6_loseAboveRoom 17 = .ok (.ifCond .le 30, 3) := by decide +kernel
theorem dX6_loseAboveRoom_20 : decode cX6_loseAboveRoom 20 = .ok (.aload_n 0, 1) := by decide +kernel
theorem dX6_loseAboveRoom_21 : decode cX6_loseAboveRoom 21 = .ok (.getfield 12, 3) := by decide +kernel
theorem dX6_loseAboveRoom_24 : decode cX6_loseAboveRoom 24 = .ok (.getfield 46, 3) := by decide +kernel
theorem dX6_loseAboveRoom_27 : decode cX6_loseAboveRoom 27 = .ok (.iload_n 1, 1) := by decide +kernel
theorem dX6_loseAboveRoom_28 : decode cX6_loseAboveRoom 28 = .ok (.dup2, 1) := by decide +kernel
theorem dX6_loseAboveRoom_29 : decode cX6_loseAboveRoom 29 = .ok (.iaload, 1) := by decide +kernel
theorem dX6_loseAboveRoom_30 : decode cX6_loseAboveRoom 30 = .ok (.iload_n 2, 1) := by decide +kernel
theorem dX6_loseAboveRoom_31 : decode cX6_loseAboveRoom 31 = .ok (.isub, 1) := by decide +kernel
theorem dX6_loseAboveRoom_32 : decode cX6_loseAboveRoom 32 = .ok (.iastore, 1) := by decide +kernel
theorem dX6_loseAboveRoom_33 : decode cX6_loseAboveRoom 33 = .ok (.aload_n 0, 1) := by decide +kernel
theorem dX6_loseAboveRoom_34 : decode cX6_loseAboveRoom 34 = .ok (.getfield 12, 3) := by decide +kernel
theorem dX6_loseAboveRoom_37 : decode cX6_loseAboveRoom 37 = .ok (.dup, 1) := by decide +kernel
theorem dX6_loseAboveRoom_38 : decode cX6_loseAboveRoom 38 = .ok (.getfield 49, 3) := by decide +kernel
theorem dX6_loseAboveRoom_41 : decode cX6_loseAboveRoom 41 = .ok (.iload_n 2, 1) := by decide +kernel
theorem dX6_loseAboveRoom_42 : decode cX6_loseAboveRoom 42 = .ok (.i2l, 1) := by decide +kernel
theorem dX6_loseAboveRoom_43 : decode cX6_loseAboveRoom 43 = .ok (.ladd, 1) := by decide +kernel
theorem dX6_loseAboveRoom_44 : decode cX6_loseAboveRoom 44 = .ok (.putfield 49, 3) := by decide +kernel
theorem dX6_loseAboveRoom_47 : decode cX6_loseAboveRoom 47 = .ok (.return_, 1) := by decide +kernel
theorem dX6_get_0 : decode cX6_get 0 = .ok (.aload_n 0, 1) := by decide +kernel
theorem dX6_get_1 : decode cX6_get 1 = .ok (.getfield 12, 3) := by decide +kernel
theorem dX6_get_4 : decode cX6_get 4 = .ok (.getfield 46, 3) := by decide +kernel
theorem dX6_get_7 : decode cX6_get 7 = .ok (.iload_n 1, 1) := by decide +kernel
theorem dX6_get_8 : decode cX6_get 8 = .ok (.dup2, 1) := by decide +kernel
theorem dX6_get_9 : decode cX6_get 9 = .ok (.iaload, 1) := by decide +kernel
theorem dX6_get_10 : decode cX6_get 10 = .ok (.iload_n 2, 1) := by decide +kernel
theorem dX6_get_11 : decode cX6_get 11 = .ok (.iadd, 1) := by decide +kernel
theorem dX6_get_12 : decode cX6_get 12 = .ok (.iastore, 1) := by decide +kernel
theorem dX6_get_13 : decode cX6_get 13 = .ok (.aload_n 0, 1) := by decide +kernel
theorem dX6_get_14 : decode cX6_get 14 = .ok (.iload_n 1, 1) := by decide +kernel
theorem dX6_get_15 : decode cX6_get 15 = .ok (.invokevirtual 53, 3) := by decide +kernel
theorem dX6_get_18 : decode cX6_get 18 = .ok (.return_, 1) := by decide +kernel
theorem dX6_give_0 : decode cX6_give 0 = .ok (.iload_n 2, 1) := by decide +kernel
theorem dX6_give_1 : decode cX6_give 1 = .ok (.aload_n 0, 1) := by decide +kernel
theorem dX6_give_2 : decode cX6_give 2 = .ok (.getfield 18, 3) := by decide +kernel
theorem dX6_give_5 : decode cX6_give 5 = .ok (.iload_n 1, 1) := by decide +kernel
theorem dX6_give_6 : decode cX6_give 6 = .ok (.aload_n 0, 1) := by decide +kernel
theorem dX6_give_7 : decode cX6_give 7 = .ok (.iload_n 1, 1) := by decide +kernel
theorem dX6_give_8 : decode cX6_give 8 = .ok (.invokevirtual 57, 3) := by decide +kernel
theorem dX6_give_11 : decode cX6_give 11 = .ok (.invokevirtual 60, 3) := by decide +kernel
theorem dX6_give_14 : decode cX6_give 14 = .ok (.imul, 1) := by decide +kernel
theorem dX6_give_15 : decode cX6_give 15 = .ok (.istore_n 3, 1) := by decide +kernel
theorem dX6_give_16 : decode cX6_give 16 = .ok (.aload_n 0, 1) := by decide +kernel
theorem dX6_give_17 : decode cX6_give 17 = .ok (.getfield 12, 3) := by decide +kernel
theorem dX6_give_20 : decode cX6_give 20 = .ok (.getfield 46, 3) := by decide +kernel
theorem dX6_give_23 : decode cX6_give 23 = .ok (.iload_n 1, 1) := by decide +kernel
theorem dX6_give_24 : decode cX6_give 24 = .ok (.dup2, 1) := by decide +kernel
theorem dX6_give_25 : decode cX6_give 25 = .ok (.iaload, 1) := by decide +kernel
theorem dX6_give_26 : decode cX6_give 26 = .ok (.iload_n 2, 1) := by decide +kernel
theorem dX6_give_27 : decode cX6_give 27 = .ok (.isub, 1) := by decide +kernel
theorem dX6_give_28 : decode cX6_give 28 = .ok (.iastore, 1) := by decide +kernel
theorem dX6_give_29 : decode cX6_give 29 = .ok (.aload_n 0, 1) := by decide +kernel
theorem dX6_give_30 : decode cX6_give 30 = .ok (.getfield 12, 3) := by decide +kernel
theorem dX6_give_33 : decode cX6_give 33 = .ok (.getfield 39, 3) := by decide +kernel
theorem dX6_give_36 : decode cX6_give 36 = .ok (.iload_n 1, 1) := by decide +kernel
theorem dX6_give_37 : decode cX6_give 37 = .ok (.ldc 64, 2) := by decide +kernel
theorem dX6_give_39 : decode cX6_give 39 = .ok (.aload_n 0, 1) := by decide +kernel
theorem dX6_give_40 : decode cX6_give 40 = .ok (.getfield 12, 3) := by decide +kernel
theorem dX6_give_43 : decode cX6_give 43 = .ok (.getfield 39, 3) := by decide +kernel
theorem dX6_give_46 : decode cX6_give 46 = .ok (.iload_n 1, 1) := by decide +kernel
theorem dX6_give_47 : decode cX6_give 47 = .ok (.iaload, 1) := by decide +kernel
theorem dX6_give_48 : decode cX6_give 48 = .ok (.iload_n 3, 1) := by decide +kernel
theorem dX6_give_49 : decode cX6_give 49 = .ok (.iadd, 1) := by decide +kernel
theorem dX6_give_50 : decode cX6_give 50 = .ok (.invokestatic 65, 3) := by decide +kernel
theorem dX6_give_53 : decode cX6_give 53 = .ok (.iastore, 1) := by decide +kernel
theorem dX6_give_54 : decode cX6_give 54 = .ok (.aload_n 0, 1) := by decide +kernel
theorem dX6_give_55 : decode cX6_give 55 = .ok (.iload_n 1, 1) := by decide +kernel
theorem dX6_give_56 : decode cX6_give 56 = .ok (.invokevirtual 53, 3) := by decide +kernel
theorem dX6_give_59 : decode cX6_give 59 = .ok (.iload_n 3, 1) := by decide +kernel
theorem dX6_give_60 : decode cX6_give 60 = .ok (.ireturn, 1) := by decide +kernel
theorem dX6_interestOf_0 : decode cX6_interestOf 0 = .ok (.aload_n 0, 1) := by decide +kernel
theorem dX6_interestOf_1 : decode cX6_interestOf 1 = .ok (.getfield 18, 3) := by decide +kernel
theorem dX6_interestOf_4 : decode cX6_interestOf 4 = .ok (.getfield 70, 3) := by decide +kernel
theorem dX6_interestOf_7 : decode cX6_interestOf 7 = .ok (.istore_n 2, 1) := by decide +kernel
theorem dX6_interestOf_8 : decode cX6_interestOf 8 = .ok (.iload_n 2, 1) := by decide +kernel
theorem dX6_interestOf_9 : decode cX6_interestOf 9 = .ok (.iconst 1, 1) := by decide +kernel
theorem dX6_interestOf_10 : decode cX6_interestOf 10 = .ok (.if_icmp .ge 7, 3) := by decide +kernel
theorem dX6_interestOf_13 : decode cX6_interestOf 13 = .ok (.iconst 0, 1) := by decide +kernel
theorem dX6_interestOf_14 : decode cX6_interestOf 14 = .ok (.goto 10, 3) := by decide +kernel
theorem dX6_interestOf_17 : decode cX6_interestOf 17 = .ok (.iload_n 1, 1) := by decide +kernel
theorem dX6_interestOf_18 : decode cX6_interestOf 18 = .ok (.iload_n 2, 1) := by decide +kernel
theorem dX6_interestOf_19 : decode cX6_interestOf 19 = .ok (.iadd, 1) := by decide +kernel
theorem dX6_interestOf_20 : decode cX6_interestOf 20 = .ok (.iconst 1, 1) := by decide +kernel
theorem dX6_interestOf_21 : decode cX6_interestOf 21 = .ok (.isub, 1) := by decide +kernel
theorem dX6_interestOf_22 : decode cX6_interestOf 22 = .ok (.iload_n 2, 1) := by decide +kernel
theorem dX6_interestOf_23 : decode cX6_interestOf 23 = .ok (.idiv, 1) := by decide +kernel
theorem dX6_interestOf_24 : decode cX6_interestOf 24 = .ok (.ireturn, 1) := by decide +kernel
theorem dX6_owed_0 : decode cX6_owed 0 = .ok (.aload_n 0, 1) := by decide +kernel
theorem dX6_owed_1 : decode cX6_owed 1 = .ok (.getfield 12, 3) := by decide +kernel
theorem dX6_owed_4 : decode cX6_owed 4 = .ok (.getfield 89, 3) := by decide +kernel
theorem dX6_owed_7 : decode cX6_owed 7 = .ok (.astore_n 2, 1) := by decide +kernel
theorem dX6_owed_8 : decode cX6_owed 8 = .ok (.aload_n 2, 1) := by decide +kernel
theorem dX6_owed_9 : decode cX6_owed 9 = .ok (.iload_n 1, 1) := by decide +kernel
theorem dX6_owed_10 : decode cX6_owed 10 = .ok (.invokevirtual 93, 3) := by decide +kernel
theorem dX6_owed_13 : decode cX6_owed 13 = .ok (.ifCond .ne 5, 3) := by decide +kernel
theorem dX6_owed_16 : decode cX6_owed 16 = .ok (.iconst 0, 1) := by decide +kernel
theorem dX6_owed_17 : decode cX6_owed 17 = .ok (.ireturn, 1) := by decide +kernel
theorem dX6_owed_18 : decode cX6_owed 18 = .ok (.aload_n 2, 1) := by decide +kernel
theorem dX6_owed_19 : decode cX6_owed 19 = .ok (.getfield 99, 3) := by decide +kernel
theorem dX6_owed_22 : decode cX6_owed 22 = .ok (.iload_n 1, 1) := by decide +kernel
theorem dX6_owed_23 : decode cX6_owed 23 = .ok (.iaload, 1) := by decide +kernel
theorem dX6_owed_24 : decode cX6_owed 24 = .ok (.aload_n 0, 1) := by decide +kernel
theorem dX6_owed_25 : decode cX6_owed 25 = .ok (.aload_n 2, 1) := by decide +kernel
theorem dX6_owed_26 : decode cX6_owed 26 = .ok (.getfield 102, 3) := by decide +kernel
theorem dX6_owed_29 : decode cX6_owed 29 = .ok (.iload_n 1, 1) := by decide +kernel
theorem dX6_owed_30 : decode cX6_owed 30 = .ok (.iaload, 1) := by decide +kernel
theorem dX6_owed_31 : decode cX6_owed 31 = .ok (.invokevirtual 77, 3) := by decide +kernel
theorem dX6_owed_34 : decode cX6_owed 34 = .ok (.iadd, 1) := by decide +kernel
theorem dX6_owed_35 : decode cX6_owed 35 = .ok (.aload_n 2, 1) := by decide +kernel
theorem dX6_owed_36 : decode cX6_owed 36 = .ok (.getfield 103, 3) := by decide +kernel
theorem dX6_owed_39 : decode cX6_owed 39 = .ok (.iload_n 1, 1) := by decide +kernel
theorem dX6_owed_40 : decode cX6_owed 40 = .ok (.iaload, 1) := by decide +kernel
theorem dX6_owed_41 : decode cX6_owed 41 = .ok (.isub, 1) := by decide +kernel
theorem dX6_owed_42 : decode cX6_owed 42 = .ok (.istore_n 3, 1) := by decide +kernel
theorem dX6_owed_43 : decode cX6_owed 43 = .ok (.iload_n 3, 1) := by decide +kernel
theorem dX6_owed_44 : decode cX6_owed 44 = .ok (.ifCond .le 7, 3) := by decide +kernel
theorem dX6_owed_47 : decode cX6_owed 47 = .ok (.iload_n 3, 1) := by decide +kernel
theorem dX6_owed_48 : decode cX6_owed 48 = .ok (.goto 4, 3) := by decide +kernel
theorem dX6_owed_51 : decode cX6_owed 51 = .ok (.iconst 0, 1) := by decide +kernel
theorem dX6_owed_52 : decode cX6_owed 52 = .ok (.ireturn, 1) := by decide +kernel
theorem dX6_outstanding_0 : decode cX6_outstanding 0 = .ok (.aload_n 0, 1) := by decide +kernel
theorem dX6_outstanding_1 : decode cX6_outstanding 1 = .ok (.getfield 12, 3) := by decide +kernel
theorem dX6_outstanding_4 : decode cX6_outstanding 4 = .ok (.getfield 89, 3) := by decide +kernel
theorem dX6_outstanding_7 : decode cX6_outstanding 7 = .ok (.astore_n 2, 1) := by decide +kernel
theorem dX6_outstanding_8 : decode cX6_outstanding 8 = .ok (.iconst 0, 1) := by decide +kernel
theorem dX6_outstanding_9 : decode cX6_outstanding 9 = .ok (.istore_n 3, 1) := by decide +kernel
theorem dX6_outstanding_10 : decode cX6_outstanding 10 = .ok (.iconst 0, 1) := by decide +kernel
theorem dX6_outstanding_11 : decode cX6_outstanding 11 = .ok (.istore 4, 2) := by decide +kernel
theorem dX6_outstanding_13 : decode cX6_outstanding 13 = .ok (.iload 4, 2) := by decide +kernel
theorem dX6_outstanding_15 : decode cX6_outstanding 15 = .ok (.aload_n 2, 1) := by decide +kernel
theorem dX6_outstanding_16 : decode cX6_outstanding 16 = .ok (.getfield 106, 3) := by decide +kernel
theorem dX6_outstanding_19 : decode cX6_outstanding 19 = .ok (.if_icmp .ge 57, 3) := by decide +kernel
theorem dX6_outstanding_22 : decode cX6_outstanding 22 = .ok (.aload_n 2, 1) := by decide +kernel
theorem dX6_outstanding_23 : decode cX6_outstanding 23 = .ok (.getfield 109, 3) := by decide +kernel
theorem dX6_outstanding_26 : decode cX6_outstanding 26 = .ok (.iload 4, 2) := by decide +kernel
theorem dX6_outstanding_28 : decode cX6_outstanding 28 = .ok (.iaload, 1) := by decide +kernel
theorem dX6_outstanding_29 : decode cX6_outstanding 29 = .ok (.iload_n 1, 1) := by decide +kernel
theorem dX6_outstanding_30 : decode cX6_outstanding 30 = .ok (.if_icmp .ne 40, 3) := by decide +kernel
theorem dX6_outstanding_33 : decode cX6_outstanding 33 = .ok (.iload_n 3, 1) := by decide +kernel
theorem dX6_outstanding_34 : decode cX6_outstanding 34 = .ok (.aload_n 0, 1) := by decide +kernel
theorem dX6_outstanding_35 : decode cX6_outstanding 35 = .ok (.iload 4, 2) := by decide +kernel
theorem dX6_outstanding_37 : decode cX6_outstanding 37 = .ok (.invokevirtual 112, 3) := by decide +kernel
theorem dX6_outstanding_40 : decode cX6_outstanding 40 = .ok (.iadd, 1) := by decide +kernel
theorem dX6_outstanding_41 : decode cX6_outstanding 41 = .ok (.istore_n 3, 1) := by decide +kernel
theorem dX6_outstanding_42 : decode cX6_outstanding 42 = .ok (.aload_n 2, 1) := by decide +kernel
theorem dX6_outstanding_43 : decode cX6_outstanding 43 = .ok (.getfield 115, 3) := by decide +kernel
theorem dX6_outstanding_46 : decode cX6_outstanding 46 = .ok (.iload 4, 2) := by decide +kernel
theorem dX6_outstanding_48 : decode cX6_outstanding 48 = .ok (.iaload, 1) := by decide +kernel
theorem dX6_outstanding_49 : decode cX6_outstanding 49 = .ok (.ifCond .ne 21, 3) := by decide +kernel
theorem dX6_outstanding_52 : decode cX6_outstanding 52 = .ok (.iload_n 3, 1) := by decide +kernel
theorem dX6_outstanding_53 : decode cX6_outstanding 53 = .ok (.aload_n 2, 1) := by decide +kernel
theorem dX6_outstanding_54 : decode cX6_outstanding 54 = .ok (.getfield 117, 3) := by decide +kernel
theorem dX6_outstanding_57 : decode cX6_outstanding 57 = .ok (.iload 4, 2) := by decide +kernel
theorem dX6_outstanding_59 : decode cX6_outstanding 59 = .ok (.iaload, 1) := by decide +kernel
theorem dX6_outstanding_60 : decode cX6_outstanding 60 = .ok (.aload_n 2, 1) := by decide +kernel
theorem dX6_outstanding_61 : decode cX6_outstanding 61 = .ok (.getfield 99, 3) := by decide +kernel
theorem dX6_outstanding_64 : decode cX6_outstanding 64 = .ok (.iload 4, 2) := by decide +kernel
theorem dX6_outstanding_66 : decode cX6_outstanding 66 = .ok (.iaload, 1) := by decide +kernel
theorem dX6_outstanding_67 : decode cX6_outstanding 67 = .ok (.isub, 1) := by decide +kernel
theorem dX6_outstanding_68 : decode cX6_outstanding 68 = .ok (.iadd, 1) := by decide +kernel
theorem dX6_outstanding_69 : decode cX6_outstanding 69 = .ok (.istore_n 3, 1) := by decide +kernel
theorem dX6_outstanding_70 : decode cX6_outstanding 70 = .ok (.iinc 4 1, 3) := by decide +kernel
theorem dX6_outstanding_73 : decode cX6_outstanding 73 = .ok (.goto (-60), 3) := by decide +kernel
theorem dX6_outstanding_76 : decode cX6_outstanding 76 = .ok (.iload_n 3, 1) := by decide +kernel
theorem dX6_outstanding_77 : decode cX6_outstanding 77 = .ok (.ireturn, 1) := by decide +kernel
theorem dX6_openLoans_0 : decode cX6_openLoans 0 = .ok (.iconst 0, 1) := by decide +kernel
theorem dX6_openLoans_1 : decode cX6_openLoans 1 = .ok (.istore_n 1, 1) := by decide +kernel
theorem dX6_openLoans_2 : decode cX6_openLoans 2 = .ok (.iconst 0, 1) := by decide +kernel
theorem dX6_openLoans_3 : decode cX6_openLoans 3 = .ok (.istore_n 2, 1) := by decide +kernel
theorem dX6_openLoans_4 : decode cX6_openLoans 4 = .ok (.iload_n 2, 1) := by decide +kernel
theorem dX6_openLoans_5 : decode cX6_openLoans 5 = .ok (.aload_n 0, 1) := by decide +kernel
theorem dX6_openLoans_6 : decode cX6_openLoans 6 = .ok (.getfield 12, 3) := by decide +kernel
theorem dX6_openLoans_9 : decode cX6_openLoans 9 = .ok (.getfield 89, 3) := by decide +kernel
theorem dX6_openLoans_12 : decode cX6_openLoans 12 = .ok (.getfield 106, 3) := by decide +kernel
theorem dX6_openLoans_15 : decode cX6_openLoans 15 = .ok (.if_icmp .ge 26, 3) := by decide +kernel
theorem dX6_openLoans_18 : decode cX6_openLoans 18 = .ok (.aload_n 0, 1) := by decide +kernel
theorem dX6_openLoans_19 : decode cX6_openLoans 19 = .ok (.getfield 12, 3) := by decide +kernel
theorem dX6_openLoans_22 : decode cX6_openLoans 22 = .ok (.getfield 89, 3) := by decide +kernel
theorem dX6_openLoans_25 : decode cX6_openLoans 25 = .ok (.iload_n 2, 1) := by decide +kernel
theorem dX6_openLoans_26 : decode cX6_openLoans 26 = .ok (.invokevirtual 93, 3) := by decide +kernel
theorem dX6_openLoans_29 : decode cX6_openLoans 29 = .ok (.ifCond .eq 6, 3) := by decide +kernel
theorem dX6_openLoans_32 : decode cX6_openLoans 32 = .ok (.iinc 1 1, 3) := by decide +kernel
theorem dX6_openLoans_35 : decode cX6_openLoans 35 = .ok (.iinc 2 1, 3) := by decide +kernel
theorem dX6_openLoans_38 : decode cX6_openLoans 38 = .ok (.goto (-34), 3) := by decide +kernel
theorem dX6_openLoans_41 : decode cX6_openLoans 41 = .ok (.iload_n 1, 1) := by decide +kernel
theorem dX6_openLoans_42 : decode cX6_openLoans 42 = .ok (.ireturn, 1) := by decide +kernel
theorem dX6_hindranceOf_0 : decode cX6_hindranceOf 0 = .ok (.aload_n 0, 1) := by decide +kernel
theorem dX6_hindranceOf_1 : decode cX6_hindranceOf 1 = .ok (.getfield 12, 3) := by decide +kernel
theorem dX6_hindranceOf_4 : decode cX6_hindranceOf 4 = .ok (.getfield 120, 3) := by decide +kernel
theorem dX6_hindranceOf_7 : decode cX6_hindranceOf 7 = .ok (.iload_n 1, 1) := by decide +kernel
theorem dX6_hindranceOf_8 : decode cX6_hindranceOf 8 = .ok (.iaload, 1) := by decide +kernel
theorem dX6_hindranceOf_9 : decode cX6_hindranceOf 9 = .ok (.ifCond .eq 5, 3) := by decide +kernel
theorem dX6_hindranceOf_12 : decode cX6_hindranceOf 12 = .ok (.iconst 1, 1) := by decide +kernel
theorem dX6_hindranceOf_13 : decode cX6_hindranceOf 13 = .ok (.ireturn, 1) := by decide +kernel
theorem dX6_hindranceOf_14 : decode cX6_hindranceOf 14 = .ok (.aload_n 0, 1) := by decide +kernel
theorem dX6_hindranceOf_15 : decode cX6_hindranceOf 15 = .ok (.iload_n 1, 1) := by decide +kernel
theorem dX6_hindranceOf_16 : decode cX6_hindranceOf 16 = .ok (.invokevirtual 123, 3) := by decide +kernel
theorem dX6_hindranceOf_19 : decode cX6_hindranceOf 19 = .ok (.aload_n 0, 1) := by decide +kernel
theorem dX6_hindranceOf_20 : decode cX6_hindranceOf 20 = .ok (.getfield 18, 3) := by decide +kernel
theorem dX6_hindranceOf_23 : decode cX6_hindranceOf 23 = .ok (.getfield 126, 3) := by decide +kernel
theorem dX6_hindranceOf_26 : decode cX6_hindranceOf 26 = .ok (.iload_n 1, 1) := by decide +kernel
theorem dX6_hindranceOf_27 : decode cX6_hindranceOf 27 = .ok (.iaload, 1) := by decide +kernel
theorem dX6_hindranceOf_28 : decode cX6_hindranceOf 28 = .ok (.iload_n 2, 1) := by decide +kernel
theorem dX6_hindranceOf_29 : decode cX6_hindranceOf 29 = .ok (.isub, 1) := by decide +kernel
theorem dX6_hindranceOf_30 : decode cX6_hindranceOf 30 = .ok (.if_icmp .le 5, 3) := by decide +kernel
theorem dX6_hindranceOf_33 : decode cX6_hindranceOf 33 = .ok (.iconst 2, 1) := by decide +kernel
theorem dX6_hindranceOf_34 : decode cX6_hindranceOf 34 = .ok (.ireturn, 1) := by decide +kernel
theorem dX6_hindranceOf_35 : decode cX6_hindranceOf 35 = .ok (.aload_n 0, 1) := by decide +kernel
theorem dX6_hindranceOf_36 : decode cX6_hindranceOf 36 = .ok (.getfield 12, 3) := by decide +kernel
theorem dX6_hindranceOf_39 : decode cX6_hindranceOf 39 = .ok (.aload_n 0, 1) := by decide +kernel
theorem dX6_hindranceOf_40 : decode cX6_hindranceOf 40 = .ok (.getfield 18, 3) := by decide +kernel
theorem dX6_hindranceOf_43 : decode cX6_hindranceOf 43 = .ok (.getfield 73, 3) := by decide +kernel
theorem dX6_hindranceOf_46 : decode cX6_hindranceOf 46 = .ok (.iload_n 1, 1) := by decide +kernel
theorem dX6_hindranceOf_47 : decode cX6_hindranceOf 47 = .ok (.iaload, 1) := by decide +kernel
theorem dX6_hindranceOf_48 : decode cX6_hindranceOf 48 = .ok (.invokevirtual 129, 3) := by decide +kernel
theorem dX6_hindranceOf_51 : decode cX6_hindranceOf 51 = .ok (.iload_n 2, 1) := by decide +kernel
theorem dX6_hindranceOf_52 : decode cX6_hindranceOf 52 = .ok (.if_icmp .ge 5, 3) := by decide +kernel
theorem dX6_hindranceOf_55 : decode cX6_hindranceOf 55 = .ok (.iconst 3, 1) := by decide +kernel
theorem dX6_hindranceOf_56 : decode cX6_hindranceOf 56 = .ok (.ireturn, 1) := by decide +kernel
theorem dX6_hindranceOf_57 : decode cX6_hindranceOf 57 = .ok (.aload_n 0, 1) := by decide +kernel
theorem dX6_hindranceOf_58 : decode cX6_hindranceOf 58 = .ok (.getfield 12, 3) := by decide +kernel
theorem dX6_hindranceOf_61 : decode cX6_hindranceOf 61 = .ok (.getfield 89, 3) := by decide +kernel
theorem dX6_hindranceOf_64 : decode cX6_hindranceOf 64 = .ok (.getfield 106, 3) := by decide +kernel
theorem dX6_hindranceOf_67 : decode cX6_hindranceOf 67 = .ok (.bipush 16, 2) := by decide +kernel
theorem dX6_hindranceOf_69 : decode cX6_hindranceOf 69 = .ok (.if_icmp .lt 7, 3) := by decide +kernel
theorem dX6_hindranceOf_72 : decode cX6_hindranceOf 72 = .ok (.iconst 4, 1) := by decide +kernel
theorem dX6_hindranceOf_73 : decode cX6_hindranceOf 73 = .ok (.goto 4, 3) := by decide +kernel
theorem dX6_hindranceOf_76 : decode cX6_hindranceOf 76 = .ok (.iconst 0, 1) := by decide +kernel
theorem dX6_hindranceOf_77 : decode cX6_hindranceOf 77 = .ok (.ireturn, 1) := by decide +kernel
theorem dX6_passTicks_0 : decode cX6_passTicks 0 = .ok (.iconst 0, 1) := by decide +kernel
theorem dX6_passTicks_1 : decode cX6_passTicks 1 = .ok (.istore_n 2, 1) := by decide +kernel
theorem dX6_passTicks_2 : decode cX6_passTicks 2 = .ok (.iload_n 2, 1) := by decide +kernel
theorem dX6_passTicks_3 : decode cX6_passTicks 3 = .ok (.iload_n 1, 1) := by decide +kernel
theorem dX6_passTicks_4 : decode cX6_passTicks 4 = .ok (.if_icmp .ge 13, 3) := by decide +kernel
theorem dX6_passTicks_7 : decode cX6_passTicks 7 = .ok (.aload_n 0, 1) := by decide +kernel
theorem dX6_passTicks_8 : decode cX6_passTicks 8 = .ok (.invokevirtual 132, 3) := by decide +kernel
theorem dX6_passTicks_11 : decode cX6_passTicks 11 = .ok (.iinc 2 1, 3) := by decide +kernel
theorem dX6_passTicks_14 : decode cX6_passTicks 14 = .ok (.goto (-12), 3) := by decide +kernel
theorem dX6_passTicks_17 : decode cX6_passTicks 17 = .ok (.return_, 1) := by decide +kernel
theorem dX6_passTicksToEnd_0 : decode cX6_passTicksToEnd 0 = .ok (.iconst 0, 1) := by decide +kernel
theorem dX6_passTicksToEnd_1 : decode cX6_passTicksToEnd 1 = .ok (.istore_n 3, 1) := by decide +kernel
theorem dX6_passTicksToEnd_2 : decode cX6_passTicksToEnd 2 = .ok (.iload_n 3, 1) := by decide +kernel
theorem dX6_passTicksToEnd_3 : decode cX6_passTicksToEnd 3 = .ok (.iload_n 2, 1) := by decide +kernel
theorem dX6_passTicksToEnd_4 : decode cX6_passTicksToEnd 4 = .ok (.if_icmp .ge 27, 3) := by decide +kernel
theorem dX6_passTicksToEnd_7 : decode cX6_passTicksToEnd 7 = .ok (.aload_n 0, 1) := by decide +kernel
theorem dX6_passTicksToEnd_8 : decode cX6_passTicksToEnd 8 = .ok (.getfield 12, 3) := by decide +kernel
theorem dX6_passTicksToEnd_11 : decode cX6_passTicksToEnd 11 = .ok (.getfield 89, 3) := by decide +kernel
theorem dX6_passTicksToEnd_14 : decode cX6_passTicksToEnd 14 = .ok (.iload_n 1, 1) := by decide +kernel
theorem dX6_passTicksToEnd_15 : decode cX6_passTicksToEnd 15 = .ok (.invokevirtual 93, 3) := by decide +kernel
theorem dX6_passTicksToEnd_18 : decode cX6_passTicksToEnd 18 = .ok (.ifCond .eq 13, 3) := by decide +kernel
theorem dX6_passTicksToEnd_21 : decode cX6_passTicksToEnd 21 = .ok (.aload_n 0, 1) := by decide +kernel
theorem dX6_passTicksToEnd_22 : decode cX6_passTicksToEnd 22 = .ok (.invokevirtual 132, 3) := by decide +kernel
theorem dX6_passTicksToEnd_25 : decode cX6_passTicksToEnd 25 = .ok (.iinc 3 1, 3) := by decide +kernel
theorem dX6_passTicksToEnd_28 : decode cX6_passTicksToEnd 28 = .ok (.goto (-26), 3) := by decide +kernel
theorem dX6_passTicksToEnd_31 : decode cX6_passTicksToEnd 31 = .ok (.iload_n 3, 1) := by decide +kernel
theorem dX6_passTicksToEnd_32 : decode cX6_passTicksToEnd 32 = .ok (.ireturn, 1) := by decide +kernel
theorem dX6_passTick_0 : decode cX6_passTick 0 = .ok (.aload_n 0, 1) := by decide +kernel
theorem dX6_passTick_1 : decode cX6_passTick 1 = .ok (.getfield 12, 3) := by decide +kernel
theorem dX6_passTick_4 : decode cX6_passTick 4 = .ok (.getfield 135, 3) := by decide +kernel
theorem dX6_passTick_7 : decode cX6_passTick 7 = .ok (.iconst 0, 1) := by decide +kernel
theorem dX6_passTick_8 : decode cX6_passTick 8 = .ok (.invokestatic 138, 3) := by decide +kernel
theorem dX6_passTick_11 : decode cX6_passTick 11 = .ok (.aload_n 0, 1) := by decide +kernel
theorem dX6_passTick_12 : decode cX6_passTick 12 = .ok (.invokevirtual 144, 3) := by decide +kernel
theorem dX6_passTick_15 : decode cX6_passTick 15 = .ok (.aload_n 0, 1) := by decide +kernel
theorem dX6_passTick_16 : decode cX6_passTick 16 = .ok (.aload_n 0, 1) := by decide +kernel
theorem dX6_passTick_17 : decode cX6_passTick 17 = .ok (.getfield 12, 3) := by decide +kernel
theorem dX6_passTick_20 : decode cX6_passTick 20 = .ok (.getfield 147, 3) := by decide +kernel
theorem dX6_passTick_23 : decode cX6_passTick 23 = .ok (.getfield 151, 3) := by decide +kernel
theorem dX6_passTick_26 : decode cX6_passTick 26 = .ok (.invokevirtual 154, 3) := by decide +kernel
theorem dX6_passTick_29 : decode cX6_passTick 29 = .ok (.iconst 0, 1) := by decide +kernel
theorem dX6_passTick_30 : decode cX6_passTick 30 = .ok (.istore_n 1, 1) := by decide +kernel
theorem dX6_passTick_31 : decode cX6_passTick 31 = .ok (.iload_n 1, 1) := by decide +kernel
theorem dX6_passTick_32 : decode cX6_passTick 32 = .ok (.aload_n 0, 1) := by decide +kernel
theorem dX6_passTick_33 : decode cX6_passTick 33 = .ok (.getfield 12, 3) := by decide +kernel
theorem dX6_passTick_36 : decode cX6_passTick 36 = .ok (.getfield 89, 3) := by decide +kernel
theorem dX6_passTick_39 : decode cX6_passTick 39 = .ok (.getfield 106, 3) := by decide +kernel
theorem dX6_passTick_42 : decode cX6_passTick 42 = .ok (.if_icmp .ge 102, 3) := by decide +kernel
theorem dX6_passTick_45 : decode cX6_passTick 45 = .ok (.aload_n 0, 1) := by decide +kernel
theorem dX6_passTick_46 : decode cX6_passTick 46 = .ok (.getfield 12, 3) := by decide +kernel
theorem dX6_passTick_49 : decode cX6_passTick 49 = .ok (.getfield 89, 3) := by decide +kernel
theorem dX6_passTick_52 : decode cX6_passTick 52 = .ok (.iload_n 1, 1) := by decide +kernel
theorem dX6_passTick_53 : decode cX6_passTick 53 = .ok (.invokevirtual 93, 3) := by decide +kernel
theorem dX6_passTick_56 : decode cX6_passTick 56 = .ok (.ifCond .eq 38, 3) := by decide +kernel
theorem dX6_passTick_59 : decode cX6_passTick 59 = .ok (.aload_n 0, 1) := by decide +kernel
theorem dX6_passTick_60 : decode cX6_passTick 60 = .ok (.getfield 12, 3) := by decide +kernel
theorem dX6_passTick_63 : decode cX6_passTick 63 = .ok (.getfield 157, 3) := by decide +kernel
theorem dX6_passTick_66 : decode cX6_passTick 66 = .ok (.aload_n 0, 1) := by decide +kernel
theorem dX6_passTick_67 : decode cX6_passTick 67 = .ok (.getfield 12, 3) := by decide +kernel
theorem dX6_passTick_70 : decode cX6_passTick 70 = .ok (.getfield 89, 3) := by decide +kernel
theorem dX6_passTick_73 : decode cX6_passTick 73 = .ok (.getfield 160, 3) := by decide +kernel
theorem dX6_passTick_76 : decode cX6_passTick 76 = .ok (.iload_n 1, 1) := by decide +kernel
theorem dX6_passTick_77 : decode cX6_passTick 77 = .ok (.iaload, 1) := by decide +kernel
theorem dX6_passTick_78 : decode cX6_passTick 78 = .ok (.if_icmp .lt 16, 3) := by decide +kernel
theorem dX6_passTick_81 : decode cX6_passTick 81 = .ok (.aload_n 0, 1) := by decide +kernel
theorem dX6_passTick_82 : decode cX6_passTick 82 = .ok (.getfield 12, 3) := by decide +kernel
theorem dX6_passTick_85 : decode cX6_passTick 85 = .ok (.getfield 89, 3) := by decide +kernel
theorem dX6_passTick_88 : decode cX6_passTick 88 = .ok (.getfield 115, 3) := by decide +kernel
theorem dX6_passTick_91 : decode cX6_passTick 91 = .ok (.iload_n 1, 1) := by decide +kernel
theorem dX6_passTick_92 : decode cX6_passTick 92 = .ok (.iconst 2, 1) := by decide +kernel
theorem dX6_passTick_93 : decode cX6_passTick 93 = .ok (.iastore, 1) := by decide +kernel
theorem dX6_passTick_94 : decode cX6_passTick 94 = .ok (.aload_n 0, 1) := by decide +kernel
theorem dX6_passTick_95 : decode cX6_passTick 95 = .ok (.getfield 12, 3) := by decide +kernel
theorem dX6_passTick_98 : decode cX6_passTick 98 = .ok (.getfield 89, 3) := by decide +kernel
theorem dX6_passTick_101 : decode cX6_passTick 101 = .ok (.getfield 115, 3) := by decide +kernel
theorem dX6_passTick_104 : decode cX6_passTick 104 = .ok (.iload_n 1, 1) := by decide +kernel
theorem dX6_passTick_105 : decode cX6_passTick 105 = .ok (.iaload, 1) := by decide +kernel
theorem dX6_passTick_106 : decode cX6_passTick 106 = .ok (.ifCond .ne 11, 3) := by decide +kernel
theorem dX6_passTick_109 : decode cX6_passTick 109 = .ok (.aload_n 0, 1) := by decide +kernel
theorem dX6_passTick_110 : decode cX6_passTick 110 = .ok (.iload_n 1, 1) := by decide +kernel
theorem dX6_passTick_111 : decode cX6_passTick 111 = .ok (.invokevirtual 163, 3) := by decide +kernel
theorem dX6_passTick_114 : decode cX6_passTick 114 = .ok (.goto 24, 3) := by decide +kernel
theorem dX6_passTick_117 : decode cX6_passTick 117 = .ok (.aload_n 0, 1) := by decide +kernel
theorem dX6_passTick_118 : decode cX6_passTick 118 = .ok (.getfield 12, 3) := by decide +kernel
theorem dX6_passTick_121 : decode cX6_passTick 121 = .ok (.getfield 89, 3) := by decide +kernel
theorem dX6_passTick_124 : decode cX6_passTick 124 = .ok (.getfield 115, 3) := by decide +kernel
theorem dX6_passTick_127 : decode cX6_passTick 127 = .ok (.iload_n 1, 1) := by decide +kernel
theorem dX6_passTick_128 : decode cX6_passTick 128 = .ok (.iaload, 1) := by decide +kernel
theorem dX6_passTick_129 : decode cX6_passTick 129 = .ok (.iconst 2, 1) := by decide +kernel
theorem dX6_passTick_130 : decode cX6_passTick 130 = .ok (.if_icmp .ne 8, 3) := by decide +kernel
theorem dX6_passTick_133 : decode cX6_passTick 133 = .ok (.aload_n 0, 1) := by decide +kernel
theorem dX6_passTick_134 : decode cX6_passTick 134 = .ok (.iload_n 1, 1) := by decide +kernel
theorem dX6_passTick_135 : decode cX6_passTick 135 = .ok (.invokevirtual 166, 3) := by decide +kernel
theorem dX6_passTick_138 : decode cX6_passTick 138 = .ok (.iinc 1 1, 3) := by decide +kernel
theorem dX6_passTick_141 : decode cX6_passTick 141 = .ok (.goto (-110), 3) := by decide +kernel
theorem dX6_passTick_144 : decode cX6_passTick 144 = .ok (.aload_n 0, 1) := by decide +kernel
theorem dX6_passTick_145 : decode cX6_passTick 145 = .ok (.getfield 12, 3) := by decide +kernel
theorem dX6_passTick_148 : decode cX6_passTick 148 = .ok (.dup, 1) := by decide +kernel
theorem dX6_passTick_149 : decode cX6_passTick 149 = .ok (.getfield 157, 3) := by decide +kernel
theorem dX6_passTick_152 : decode cX6_passTick 152 = .ok (.iconst 1, 1) := by decide +kernel
theorem dX6_passTick_153 : decode cX6_passTick 153 = .ok (.iadd, 1) := by decide +kernel
theorem dX6_passTick_154 : decode cX6_passTick 154 = .ok (.putfield 157, 3) := by decide +kernel
theorem dX6_passTick_157 : decode cX6_passTick 157 = .ok (.return_, 1) := by decide +kernel
theorem dX6_shine_0 : decode cX6_shine 0 = .ok (.aload_n 0, 1) := by decide +kernel
theorem dX6_shine_1 : decode cX6_shine 1 = .ok (.getfield 12, 3) := by decide +kernel
theorem dX6_shine_4 : decode cX6_shine 4 = .ok (.getfield 157, 3) := by decide +kernel
theorem dX6_shine_7 : decode cX6_shine 7 = .ok (.bipush 24, 2) := by decide +kernel
theorem dX6_shine_9 : decode cX6_shine 9 = .ok (.irem, 1) := by decide +kernel
theorem dX6_shine_10 : decode cX6_shine 10 = .ok (.istore_n 1, 1) := by decide +kernel
theorem dX6_shine_11 : decode cX6_shine 11 = .ok (.iconst 0, 1) := by decide +kernel
theorem dX6_shine_12 : decode cX6_shine 12 = .ok (.istore_n 2, 1) := by decide +kernel
theorem dX6_shine_13 : decode cX6_shine 13 = .ok (.iload_n 2, 1) := by decide +kernel
theorem dX6_shine_14 : decode cX6_shine 14 = .ok (.aload_n 0, 1) := by decide +kernel
theorem dX6_shine_15 : decode cX6_shine 15 = .ok (.getfield 18, 3) := by decide +kernel
theorem dX6_shine_18 : decode cX6_shine 18 = .ok (.getfield 169, 3) := by decide +kernel
theorem dX6_shine_21 : decode cX6_shine 21 = .ok (.if_icmp .ge 43, 3) := by decide +kernel
theorem dX6_shine_24 : decode cX6_shine 24 = .ok (.aload_n 0, 1) := by decide +kernel
theorem dX6_shine_25 : decode cX6_shine 25 = .ok (.getfield 18, 3) := by decide +kernel
theorem dX6_shine_28 : decode cX6_shine 28 = .ok (.iload_n 2, 1) := by decide +kernel
theorem dX6_shine_29 : decode cX6_shine 29 = .ok (.iload_n 1, 1) := by decide +kernel
theorem dX6_shine_30 : decode cX6_shine 30 = .ok (.invokevirtual 172, 3) := by decide +kernel
theorem dX6_shine_33 : decode cX6_shine 33 = .ok (.istore_n 3, 1) := by decide +kernel
theorem dX6_shine_34 : decode cX6_shine 34 = .ok (.iload_n 3, 1) := by decide +kernel
theorem dX6_shine_35 : decode cX6_shine 35 = .ok (.ifCond .le 23, 3) := by decide +kernel
theorem dX6_shine_38 : decode cX6_shine 38 = .ok (.aload_n 0, 1) := by decide +kernel
theorem dX6_shine_39 : decode cX6_shine 39 = .ok (.getfield 12, 3) := by decide +kernel
theorem dX6_shine_42 : decode cX6_shine 42 = .ok (.dup, 1) := by decide +kernel
theorem dX6_shine_43 : decode cX6_shine 43 = .ok (.getfield 175, 3) := by decide +kernel
theorem dX6_shine_46 : decode cX6_shine 46 = .ok (.iload_n 3, 1) := by decide +kernel
theorem dX6_shine_47 : decode cX6_shine 47 = .ok (.i2l, 1) := by decide +kernel
theorem dX6_shine_48 : decode cX6_shine 48 = .ok (.ladd, 1) := by decide +kernel
theorem dX6_shine_49 : decode cX6_shine 49 = .ok (.putfield 175, 3) := by decide +kernel
theorem dX6_shine_52 : decode cX6_shine 52 = .ok (.aload_n 0, 1) := by decide +kernel
theorem dX6_shine_53 : decode cX6_shine 53 = .ok (.iload_n 2, 1) := by decide +kernel
theorem dX6_shine_54 : decode cX6_shine 54 = .ok (.iload_n 3, 1) := by decide +kernel
theorem dX6_shine_55 : decode cX6_shine 55 = .ok (.invokevirtual 178, 3) := by decide +kernel
theorem dX6_shine_58 : decode cX6_shine 58 = .ok (.iinc 2 1, 3) := by decide +kernel
theorem dX6_shine_61 : decode cX6_shine 61 = .ok (.goto (-48), 3) := by decide +kernel
theorem dX6_shine_64 : decode cX6_shine 64 = .ok (.return_, 1) := by decide +kernel
theorem dX6_makeTrips_0 : decode cX6_makeTrips 0 = .ok (.aload_n 0, 1) := by decide +kernel
theorem dX6_makeTrips_1 : decode cX6_makeTrips 1 = .ok (.getfield 12, 3) := by decide +kernel
theorem dX6_makeTrips_4 : decode cX6_makeTrips 4 = .ok (.getfield 147, 3) := by decide +kernel
theorem dX6_makeTrips_7 : decode cX6_makeTrips 7 = .ok (.astore_n 2, 1) := by decide +kernel
theorem dX6_makeTrips_8 : decode cX6_makeTrips 8 = .ok (.iconst 0, 1) := by decide +kernel
theorem dX6_makeTrips_9 : decode cX6_makeTrips 9 = .ok (.istore_n 3, 1) := by decide +kernel
theorem dX6_makeTrips_10 : decode cX6_makeTrips 10 = .ok (.iload_n 3, 1) := by decide +kernel
theorem dX6_makeTrips_11 : decode cX6_makeTrips 11 = .ok (.iload_n 1, 1) := by decide +kernel
theorem dX6_makeTrips_12 : decode cX6_makeTrips 12 = .ok (.if_icmp .ge 109, 3) := by decide +kernel
theorem dX6_makeTrips_15 : decode cX6_makeTrips 15 = .ok (.aload_n 2, 1) := by decide +kernel
theorem dX6_makeTrips_16 : decode cX6_makeTrips 16 = .ok (.getfield 182, 3) := by decide +kernel
theorem dX6_makeTrips_19 : decode cX6_makeTrips 19 = .ok (.iload_n 3, 1) := by decide +kernel
theorem dX6_makeTrips_20 : decode cX6_makeTrips 20 = .ok (.iaload, 1) := by decide +kernel
theorem dX6_makeTrips_21 : decode cX6_makeTrips 21 = .ok (.aload_n 0, 1) := by decide +kernel
theorem dX6_makeTrips_22 : decode cX6_makeTrips 22 = .ok (.getfield 12, 3) := by decide +kernel
theorem dX6_makeTrips_25 : decode cX6_makeTrips 25 = .ok (.getfield 157, 3) := by decide +kernel
theorem dX6_makeTrips_28 : decode cX6_makeTrips 28 = .ok (.if_icmp .ne 87, 3) := by decide +kernel
theorem dX6_makeTrips_31 : decode cX6_makeTrips 31 = .ok (.aload_n 2, 1) := by decide +kernel
theorem dX6_makeTrips_32 : decode cX6_makeTrips 32 = .ok (.getfield 184, 3) := by decide +kernel
theorem dX6_makeTrips_35 : decode cX6_makeTrips 35 = .ok (.iload_n 3, 1) := by decide +kernel
theorem dX6_makeTrips_36 : decode cX6_makeTrips 36 = .ok (.iaload, 1) := by decide +kernel
theorem dX6_makeTrips_37 : decode cX6_makeTrips 37 = .ok (.ifCond .eq 6, 3) := by decide +kernel
theorem dX6_makeTrips_40 : decode cX6_makeTrips 40 = .ok (.goto 75, 3) := by decide +kernel
theorem dX6_makeTrips_43 : decode cX6_makeTrips 43 = .ok (.aload_n 2, 1) := by decide +kernel
theorem dX6_makeTrips_44 : decode cX6_makeTrips 44 = .ok (.getfield 185, 3) := by decide +kernel
theorem dX6_makeTrips_47 : decode cX6_makeTrips 47 = .ok (.iload_n 3, 1) := by decide +kernel
theorem dX6_makeTrips_48 : decode cX6_makeTrips 48 = .ok (.iaload, 1) := by decide +kernel
theorem dX6_makeTrips_49 : decode cX6_makeTrips 49 = .ok (.istore 4, 2) := by decide +kernel
theorem dX6_makeTrips_51 : decode cX6_makeTrips 51 = .ok (.aload_n 0, 1) := by decide +kernel
theorem dX6_makeTrips_52 : decode cX6_makeTrips 52 = .ok (.getfield 12, 3) := by decide +kernel
theorem dX6_makeTrips_55 : decode cX6_makeTrips 55 = .ok (.getfield 46, 3) := by decide +kernel
theorem dX6_makeTrips_58 : decode cX6_makeTrips 58 = .ok (.aload_n 2, 1) := by decide +kernel
theorem dX6_makeTrips_59 : decode cX6_makeTrips 59 = .ok (.getfield 188, 3) := by decide +kernel
theorem dX6_makeTrips_62 : decode cX6_makeTrips 62 = .ok (.iload_n 3, 1) := by decide +kernel
theorem dX6_makeTrips_63 : decode cX6_makeTrips 63 = .ok (.iaload, 1) := by decide +kernel
theorem dX6_makeTrips_64 : decode cX6_makeTrips 64 = .ok (.iaload, 1) := by decide +kernel
theorem dX6_makeTrips_65 : decode cX6_makeTrips 65 = .ok (.iload 4, 2) := by decide +kernel
theorem dX6_makeTrips_67 : decode cX6_makeTrips 67 = .ok (.if_icmp .lt 41, 3) := by decide +kernel
theorem dX6_makeTrips_70 : decode cX6_makeTrips 70 = .ok (.aload_n 2, 1) := by decide +kernel
theorem dX6_makeTrips_71 : decode cX6_makeTrips 71 = .ok (.getfield 184, 3) := by decide +kernel
theorem dX6_makeTrips_74 : decode cX6_makeTrips 74 = .ok (.iload_n 3, 1) := by decide +kernel
theorem dX6_makeTrips_75 : decode cX6_makeTrips 75 = .ok (.iconst 1, 1) := by decide +kernel
theorem dX6_makeTrips_76 : decode cX6_makeTrips 76 = .ok (.iastore, 1) := by decide +kernel
theorem dX6_makeTrips_77 : decode cX6_makeTrips 77 = .ok (.aload_n 0, 1) := by decide +kernel
theorem dX6_makeTrips_78 : decode cX6_makeTrips 78 = .ok (.getfield 12, 3) := by decide +kernel
theorem dX6_makeTrips_81 : decode cX6_makeTrips 81 = .ok (.dup, 1) := by decide +kernel
theorem dX6_makeTrips_82 : decode cX6_makeTrips 82 = .ok (.getfield 191, 3) := by decide +kernel
theorem dX6_makeTrips_85 : decode cX6_makeTrips 85 = .ok (.iload 4, 2) := by decide +kernel
theorem dX6_makeTrips_87 : decode cX6_makeTrips 87 = .ok (.i2l, 1) := by decide +kernel
theorem dX6_makeTrips_88 : decode cX6_makeTrips 88 = .ok (.ladd, 1) := by decide +kernel
theorem dX6_makeTrips_89 : decode cX6_makeTrips 89 = .ok (.putfield 191, 3) := by decide +kernel
theorem dX6_makeTrips_92 : decode cX6_makeTrips 92 = .ok (.aload_n 0, 1) := by decide +kernel
theorem dX6_makeTrips_93 : decode cX6_makeTrips 93 = .ok (.aload_n 2, 1) := by decide +kernel
theorem dX6_makeTrips_94 : decode cX6_makeTrips 94 = .ok (.getfield 188, 3) := by decide +kernel
theorem dX6_makeTrips_97 : decode cX6_makeTrips 97 = .ok (.iload_n 3, 1) := by decide +kernel
theorem dX6_makeTrips_98 : decode cX6_makeTrips 98 = .ok (.iaload, 1) := by decide +kernel
theorem dX6_makeTrips_99 : decode cX6_makeTrips 99 = .ok (.iload 4, 2) := by decide +kernel
theorem dX6_makeTrips_101 : decode cX6_makeTrips 101 = .ok (.invokevirtual 194, 3) := by decide +kernel
theorem dX6_makeTrips_104 : decode cX6_makeTrips 104 = .ok (.pop, 1) := by decide +kernel
theorem dX6_makeTrips_105 : decode cX6_makeTrips 105 = .ok (.goto 10, 3) := by decide +kernel
theorem dX6_makeTrips_108 : decode cX6_makeTrips 108 = .ok (.aload_n 2, 1) := by decide +kernel
theorem dX6_makeTrips_109 : decode cX6_makeTrips 109 = .ok (.getfield 184, 3) := by decide +kernel
theorem dX6_makeTrips_112 : decode cX6_makeTrips 112 = .ok (.iload_n 3, 1) := by decide +kernel
theorem dX6_makeTrips_113 : decode cX6_makeTrips 113 = .ok (.iconst 2, 1) := by decide +kernel
theorem dX6_makeTrips_114 : decode cX6_makeTrips 114 = .ok (.iastore, 1) := by decide +kernel
theorem dX6_makeTrips_115 : decode cX6_makeTrips 115 = .ok (.iinc 3 1, 3) := by decide +kernel
theorem dX6_makeTrips_118 : decode cX6_makeTrips 118 = .ok (.goto (-108), 3) := by decide +kernel
theorem dX6_makeTrips_121 : decode cX6_makeTrips 121 = .ok (.return_, 1) := by decide +kernel
theorem dX6_sendOn_0 : decode cX6_sendOn 0 = .ok (.aload_n 0, 1) := by decide +kernel
theorem dX6_sendOn_1 : decode cX6_sendOn 1 = .ok (.getfield 12, 3) := by decide +kernel
theorem dX6_sendOn_4 : decode cX6_sendOn 4 = .ok (.getfield 89, 3) := by decide +kernel
theorem dX6_sendOn_7 : decode cX6_sendOn 7 = .ok (.astore_n 2, 1) := by decide +kernel
theorem dX6_sendOn_8 : decode cX6_sendOn 8 = .ok (.aload_n 2, 1) := by decide +kernel
theorem dX6_sendOn_9 : decode cX6_sendOn 9 = .ok (.getfield 109, 3) := by decide +kernel
theorem dX6_sendOn_12 : decode cX6_sendOn 12 = .ok (.iload_n 1, 1) := by decide +kernel
theorem dX6_sendOn_13 : decode cX6_sendOn 13 = .ok (.iaload, 1) := by decide +kernel
theorem dX6_sendOn_14 : decode cX6_sendOn 14 = .ok (.istore_n 3, 1) := by decide +kernel
theorem dX6_sendOn_15 : decode cX6_sendOn 15 = .ok (.aload_n 0, 1) := by decide +kernel
theorem dX6_sendOn_16 : decode cX6_sendOn 16 = .ok (.getfield 18, 3) := by decide +kernel
theorem dX6_sendOn_19 : decode cX6_sendOn 19 = .ok (.getfield 73, 3) := by decide +kernel
theorem dX6_sendOn_22 : decode cX6_sendOn 22 = .ok (.iload_n 3, 1) := by decide +kernel
theorem dX6_sendOn_23 : decode cX6_sendOn 23 = .ok (.iaload, 1) := by decide +kernel
theorem dX6_sendOn_24 : decode cX6_sendOn 24 = .ok (.istore 4, 2) := by decide +kernel
theorem dX6_sendOn_26 : decode cX6_sendOn 26 = .ok (.aload_n 0, 1) := by decide +kernel
theorem dX6_sendOn_27 : decode cX6_sendOn 27 = .ok (.getfield 18, 3) := by decide +kernel
theorem dX6_sendOn_30 : decode cX6_sendOn 30 = .ok (.iload_n 3, 1) := by decide +kernel
theorem dX6_sendOn_31 : decode cX6_sendOn 31 = .ok (.invokevirtual 80, 3) := by decide +kernel
theorem dX6_sendOn_34 : decode cX6_sendOn 34 = .ok (.istore 5, 2) := by decide +kernel
theorem dX6_sendOn_36 : decode cX6_sendOn 36 = .ok (.iload 5, 2) := by decide +kernel
theorem dX6_sendOn_38 : decode cX6_sendOn 38 = .ok (.iconst (-1), 1) := by decide +kernel
theorem dX6_sendOn_39 : decode cX6_sendOn 39 = .ok (.if_icmp .ne 4, 3) := by decide +kernel
theorem dX6_sendOn_42 : decode cX6_sendOn 42 = .ok (.return_, 1) := by decide +kernel
theorem dX6_sendOn_43 : decode cX6_sendOn 43 = .ok (.iconst 0, 1) := by decide +kernel
theorem dX6_sendOn_44 : decode cX6_sendOn 44 = .ok (.aload_n 0, 1) := by decide +kernel
theorem dX6_sendOn_45 : decode cX6_sendOn 45 = .ok (.getfield 12, 3) := by decide +kernel
theorem dX6_sendOn_48 : decode cX6_sendOn 48 = .ok (.iload 4, 2) := by decide +kernel
theorem dX6_sendOn_50 : decode cX6_sendOn 50 = .ok (.invokevirtual 129, 3) := by decide +kernel
theorem dX6_sendOn_53 : decode cX6_sendOn 53 = .ok (.invokestatic 197, 3) := by decide +kernel
theorem dX6_sendOn_56 : decode cX6_sendOn 56 = .ok (.aload_n 0, 1) := by decide +kernel
theorem dX6_sendOn_57 : decode cX6_sendOn 57 = .ok (.getfield 12, 3) := by decide +kernel
theorem dX6_sendOn_60 : decode cX6_sendOn 60 = .ok (.iload 5, 2) := by decide +kernel
theorem dX6_sendOn_62 : decode cX6_sendOn 62 = .ok (.invokevirtual 200, 3) := by decide +kernel
theorem dX6_sendOn_65 : decode cX6_sendOn 65 = .ok (.invokestatic 65, 3) := by decide +kernel
theorem dX6_sendOn_68 : decode cX6_sendOn 68 = .ok (.istore 6, 2) := by decide +kernel
theorem dX6_sendOn_70 : decode cX6_sendOn 70 = .ok (.aload_n 2, 1) := by decide +kernel
theorem dX6_sendOn_71 : decode cX6_sendOn 71 = .ok (.getfield 117, 3) := by decide +kernel
theorem dX6_sendOn_74 : decode cX6_sendOn 74 = .ok (.iload_n 1, 1) := by decide +kernel
theorem dX6_sendOn_75 : decode cX6_sendOn 75 = .ok (.iaload, 1) := by decide +kernel
theorem dX6_sendOn_76 : decode cX6_sendOn 76 = .ok (.aload_n 2, 1) := by decide +kernel
theorem dX6_sendOn_77 : decode cX6_sendOn 77 = .ok (.getfield 99, 3) := by decide +kernel
theorem dX6_sendOn_80 : decode cX6_sendOn 80 = .ok (.iload_n 1, 1) := by decide +kernel
theorem dX6_sendOn_81 : decode cX6_sendOn 81 = .ok (.iaload, 1) := by decide +kernel
theorem dX6_sendOn_82 : decode cX6_sendOn 82 = .ok (.isub, 1) := by decide +kernel
theorem dX6_sendOn_83 : decode cX6_sendOn 83 = .ok (.iload 6, 2) := by decide +kernel
theorem dX6_sendOn_85 : decode cX6_sendOn 85 = .ok (.invokestatic 65, 3) := by decide +kernel
theorem dX6_sendOn_88 : decode cX6_sendOn 88 = .ok (.istore 7, 2) := by decide +kernel
theorem dX6_sendOn_90 : decode cX6_sendOn 90 = .ok (.aload_n 0, 1) := by decide +kernel
theorem dX6_sendOn_91 : decode cX6_sendOn 91 = .ok (.iload 4, 2) := by decide +kernel
theorem dX6_sendOn_93 : decode cX6_sendOn 93 = .ok (.iload 7, 2) := by decide +kernel
theorem dX6_sendOn_95 : decode cX6_sendOn 95 = .ok (.invokevirtual 194, 3) := by decide +kernel
theorem dX6_sendOn_98 : decode cX6_sendOn 98 = .ok (.istore 8, 2) := by decide +kernel
theorem dX6_sendOn_100 : decode cX6_sendOn 100 = .ok (.aload_n 2, 1) := by decide +kernel
theorem dX6_sendOn_101 : decode cX6_sendOn 101 = .ok (.getfield 102, 3) := by decide +kernel
theorem dX6_sendOn_104 : decode cX6_sendOn 104 = .ok (.iload_n 1, 1) := by decide +kernel
theorem dX6_sendOn_105 : decode cX6_sendOn 105 = .ok (.ldc 76, 2) := by decide +kernel
theorem dX6_sendOn_107 : decode cX6_sendOn 107 = .ok (.aload_n 2, 1) := by decide +kernel
theorem dX6_sendOn_108 : decode cX6_sendOn 108 = .ok (.getfield 102, 3) := by decide +kernel
theorem dX6_sendOn_111 : decode cX6_sendOn 111 = .ok (.iload_n 1, 1) := by decide +kernel
theorem dX6_sendOn_112 : decode cX6_sendOn 112 = .ok (.iaload, 1) := by decide +kernel
theorem dX6_sendOn_113 : decode cX6_sendOn 113 = .ok (.iload 8, 2) := by decide +kernel
theorem dX6_sendOn_115 : decode cX6_sendOn 115 = .ok (.iadd, 1) := by decide +kernel
theorem dX6_sendOn_116 : decode cX6_sendOn 116 = .ok (.invokestatic 65, 3) := by decide +kernel
theorem dX6_sendOn_119 : decode cX6_sendOn 119 = .ok (.iastore, 1) := by decide +kernel
theorem dX6_sendOn_120 : decode cX6_sendOn 120 = .ok (.aload_n 0, 1) := by decide +kernel
theorem dX6_sendOn_121 : decode cX6_sendOn 121 = .ok (.aload_n 0, 1) := by decide +kernel
theorem dX6_sendOn_122 : decode cX6_sendOn 122 = .ok (.getfield 18, 3) := by decide +kernel
theorem dX6_sendOn_125 : decode cX6_sendOn 125 = .ok (.getfield 203, 3) := by decide +kernel
theorem dX6_sendOn_128 : decode cX6_sendOn 128 = .ok (.iload_n 3, 1) := by decide +kernel
theorem dX6_sendOn_129 : decode cX6_sendOn 129 = .ok (.iaload, 1) := by decide +kernel
theorem dX6_sendOn_130 : decode cX6_sendOn 130 = .ok (.aload_n 0, 1) := by decide +kernel
theorem dX6_sendOn_131 : decode cX6_sendOn 131 = .ok (.getfield 12, 3) := by decide +kernel
theorem dX6_sendOn_134 : decode cX6_sendOn 134 = .ok (.iload 5, 2) := by decide +kernel
theorem dX6_sendOn_136 : decode cX6_sendOn 136 = .ok (.iload 7, 2) := by decide +kernel
theorem dX6_sendOn_138 : decode cX6_sendOn 138 = .ok (.invokevirtual 206, 3) := by decide +kernel
theorem dX6_sendOn_141 : decode cX6_sendOn 141 = .ok (.invokevirtual 178, 3) := by decide +kernel
theorem dX6_sendOn_144 : decode cX6_sendOn 144 = .ok (.aload_n 2, 1) := by decide +kernel
theorem dX6_sendOn_145 : decode cX6_sendOn 145 = .ok (.getfield 99, 3) := by decide +kernel
theorem dX6_sendOn_148 : decode cX6_sendOn 148 = .ok (.iload_n 1, 1) := by decide +kernel
theorem dX6_sendOn_149 : decode cX6_sendOn 149 = .ok (.dup2, 1) := by decide +kernel
theorem dX6_sendOn_150 : decode cX6_sendOn 150 = .ok (.iaload, 1) := by decide +kernel
theorem dX6_sendOn_151 : decode cX6_sendOn 151 = .ok (.iload 7, 2) := by decide +kernel
theorem dX6_sendOn_153 : decode cX6_sendOn 153 = .ok (.iadd, 1) := by decide +kernel
theorem dX6_sendOn_154 : decode cX6_sendOn 154 = .ok (.iastore, 1) := by decide +kernel
theorem dX6_sendOn_155 : decode cX6_sendOn 155 = .ok (.aload_n 2, 1) := by decide +kernel
theorem dX6_sendOn_156 : decode cX6_sendOn 156 = .ok (.getfield 99, 3) := by decide +kernel
theorem dX6_sendOn_159 : decode cX6_sendOn 159 = .ok (.iload_n 1, 1) := by decide +kernel
theorem dX6_sendOn_160 : decode cX6_sendOn 160 = .ok (.iaload, 1) := by decide +kernel
theorem dX6_sendOn_161 : decode cX6_sendOn 161 = .ok (.aload_n 2, 1) := by decide +kernel
theorem dX6_sendOn_162 : decode cX6_sendOn 162 = .ok (.getfield 117, 3) := by decide +kernel
theorem dX6_sendOn_165 : decode cX6_sendOn 165 = .ok (.iload_n 1, 1) := by decide +kernel
theorem dX6_sendOn_166 : decode cX6_sendOn 166 = .ok (.iaload, 1) := by decide +kernel
theorem dX6_sendOn_167 : decode cX6_sendOn 167 = .ok (.if_icmp .lt 10, 3) := by decide +kernel
theorem dX6_sendOn_170 : decode cX6_sendOn 170 = .ok (.aload_n 2, 1) := by decide +kernel
theorem dX6_sendOn_171 : decode cX6_sendOn 171 = .ok (.getfield 115, 3) := by decide +kernel
theorem dX6_sendOn_174 : decode cX6_sendOn 174 = .ok (.iload_n 1, 1) := by decide +kernel
theorem dX6_sendOn_175 : decode cX6_sendOn 175 = .ok (.iconst 1, 1) := by decide +kernel
theorem dX6_sendOn_176 : decode cX6_sendOn 176 = .ok (.iastore, 1) := by decide +kernel
theorem dX6_sendOn_177 : decode cX6_sendOn 177 = .ok (.return_, 1) := by decide +kernel
theorem dX6_sendBack_0 : decode cX6_sendBack 0 = .ok (.aload_n 0, 1) := by decide +kernel
theorem dX6_sendBack_1 : decode cX6_sendBack 1 = .ok (.getfield 12, 3) := by decide +kernel
theorem dX6_sendBack_4 : decode cX6_sendBack 4 = .ok (.getfield 89, 3) := by decide +kernel
theorem dX6_sendBack_7 : decode cX6_sendBack 7 = .ok (.astore_n 2, 1) := by decide +kernel
theorem dX6_sendBack_8 : decode cX6_sendBack 8 = .ok (.aload_n 2, 1) := by decide +kernel
theorem dX6_sendBack_9 : decode cX6_sendBack 9 = .ok (.getfield 109, 3) := by decide +kernel
theorem dX6_sendBack_12 : decode cX6_sendBack 12 = .ok (.iload_n 1, 1) := by decide +kernel
theorem dX6_sendBack_13 : decode cX6_sendBack 13 = .ok (.iaload, 1) := by decide +kernel
theorem dX6_sendBack_14 : decode cX6_sendBack 14 = .ok (.istore_n 3, 1) := by decide +kernel
theorem dX6_sendBack_15 : decode cX6_sendBack 15 = .ok (.aload_n 0, 1) := by decide +kernel
theorem dX6_sendBack_16 : decode cX6_sendBack 16 = .ok (.getfield 18, 3) := by decide +kernel
theorem dX6_sendBack_19 : decode cX6_sendBack 19 = .ok (.getfield 203, 3) := by decide +kernel
theorem dX6_sendBack_22 : decode cX6_sendBack 22 = .ok (.iload_n 3, 1) := by decide +kernel
theorem dX6_sendBack_23 : decode cX6_sendBack 23 = .ok (.iaload, 1) := by decide +kernel
theorem dX6_sendBack_24 : decode cX6_sendBack 24 = .ok (.istore 4, 2) := by decide +kernel
theorem dX6_sendBack_26 : decode cX6_sendBack 26 = .ok (.aload_n 0, 1) := by decide +kernel
theorem dX6_sendBack_27 : decode cX6_sendBack 27 = .ok (.getfield 18, 3) := by decide +kernel
theorem dX6_sendBack_30 : decode cX6_sendBack 30 = .ok (.iload_n 3, 1) := by decide +kernel
theorem dX6_sendBack_31 : decode cX6_sendBack 31 = .ok (.invokevirtual 80, 3) := by decide +kernel
theorem dX6_sendBack_34 : decode cX6_sendBack 34 = .ok (.istore 5, 2) := by decide +kernel
theorem dX6_sendBack_36 : decode cX6_sendBack 36 = .ok (.iload 5, 2) := by decide +kernel
theorem dX6_sendBack_38 : decode cX6_sendBack 38 = .ok (.iconst (-1), 1) := by decide +kernel
theorem dX6_sendBack_39 : decode cX6_sendBack 39 = .ok (.if_icmp .ne 4, 3) := by decide +kernel
theorem dX6_sendBack_42 : decode cX6_sendBack 42 = .ok (.return_, 1) := by decide +kernel
theorem dX6_sendBack_43 : decode cX6_sendBack 43 = .ok (.aload_n 0, 1) := by decide +kernel
theorem dX6_sendBack_44 : decode cX6_sendBack 44 = .ok (.getfield 12, 3) := by decide +kernel
theorem dX6_sendBack_47 : decode cX6_sendBack 47 = .ok (.getfield 46, 3) := by decide +kernel
theorem dX6_sendBack_50 : decode cX6_sendBack 50 = .ok (.iload 4, 2) := by decide +kernel
theorem dX6_sendBack_52 : decode cX6_sendBack 52 = .ok (.iaload, 1) := by decide +kernel
theorem dX6_sendBack_53 : decode cX6_sendBack 53 = .ok (.aload_n 0, 1) := by decide +kernel
theorem dX6_sendBack_54 : decode cX6_sendBack 54 = .ok (.getfield 12, 3) := by decide +kernel
theorem dX6_sendBack_57 : decode cX6_sendBack 57 = .ok (.iload 5, 2) := by decide +kernel
theorem dX6_sendBack_59 : decode cX6_sendBack 59 = .ok (.invokevirtual 200, 3) := by decide +kernel
theorem dX6_sendBack_62 : decode cX6_sendBack 62 = .ok (.invokestatic 65, 3) := by decide +kernel
theorem dX6_sendBack_65 : decode cX6_sendBack 65 = .ok (.istore 6, 2) := by decide +kernel
theorem dX6_sendBack_67 : decode cX6_sendBack 67 = .ok (.aload_n 0, 1) := by decide +kernel
theorem dX6_sendBack_68 : decode cX6_sendBack 68 = .ok (.iload_n 1, 1) := by decide +kernel
theorem dX6_sendBack_69 : decode cX6_sendBack 69 = .ok (.invokevirtual 112, 3) := by decide +kernel
theorem dX6_sendBack_72 : decode cX6_sendBack 72 = .ok (.aload_n 0, 1) := by decide +kernel
theorem dX6_sendBack_73 : decode cX6_sendBack 73 = .ok (.getfield 12, 3) := by decide +kernel
theorem dX6_sendBack_76 : decode cX6_sendBack 76 = .ok (.getfield 83, 3) := by decide +kernel
theorem dX6_sendBack_79 : decode cX6_sendBack 79 = .ok (.iload 5, 2) := by decide +kernel
theorem dX6_sendBack_81 : decode cX6_sendBack 81 = .ok (.iaload, 1) := by decide +kernel
theorem dX6_sendBack_82 : decode cX6_sendBack 82 = .ok (.invokestatic 209, 3) := by decide +kernel
theorem dX6_sendBack_85 : decode cX6_sendBack 85 = .ok (.iload 6, 2) := by decide +kernel
theorem dX6_sendBack_87 : decode cX6_sendBack 87 = .ok (.i2l, 1) := by decide +kernel
theorem dX6_sendBack_88 : decode cX6_sendBack 88 = .ok (.invokestatic 213, 3) := by decide +kernel
theorem dX6_sendBack_91 : decode cX6_sendBack 91 = .ok (.l2i, 1) := by decide +kernel
theorem dX6_sendBack_92 : decode cX6_sendBack 92 = .ok (.istore 7, 2) := by decide +kernel
theorem dX6_sendBack_94 : decode cX6_sendBack 94 = .ok (.aload_n 0, 1) := by decide +kernel
theorem dX6_sendBack_95 : decode cX6_sendBack 95 = .ok (.iload 4, 2) := by decide +kernel
theorem dX6_sendBack_97 : decode cX6_sendBack 97 = .ok (.iload 7, 2) := by decide +kernel
theorem dX6_sendBack_99 : decode cX6_sendBack 99 = .ok (.invokevirtual 194, 3) := by decide +kernel
theorem dX6_sendBack_102 : decode cX6_sendBack 102 = .ok (.pop, 1) := by decide +kernel
theorem dX6_sendBack_103 : decode cX6_sendBack 103 = .ok (.aload_n 0, 1) := by decide +kernel
theorem dX6_sendBack_104 : decode cX6_sendBack 104 = .ok (.getfield 12, 3) := by decide +kernel
theorem dX6_sendBack_107 : decode cX6_sendBack 107 = .ok (.iload 5, 2) := by decide +kernel
theorem dX6_sendBack_109 : decode cX6_sendBack 109 = .ok (.iload 7, 2) := by decide +kernel
theorem dX6_sendBack_111 : decode cX6_sendBack 111 = .ok (.invokevirtual 206, 3) := by decide +kernel
theorem dX6_sendBack_114 : decode cX6_sendBack 114 = .ok (.istore 8, 2) := by decide +kernel
theorem dX6_sendBack_116 : decode cX6_sendBack 116 = .ok (.aload_n 0, 1) := by decide +kernel
theorem dX6_sendBack_117 : decode cX6_sendBack 117 = .ok (.aload_n 0, 1) := by decide +kernel
theorem dX6_sendBack_118 : decode cX6_sendBack 118 = .ok (.getfield 18, 3) := by decide +kernel
theorem dX6_sendBack_121 : decode cX6_sendBack 121 = .ok (.getfield 73, 3) := by decide +kernel
theorem dX6_sendBack_124 : decode cX6_sendBack 124 = .ok (.iload_n 3, 1) := by decide +kernel
theorem dX6_sendBack_125 : decode cX6_sendBack 125 = .ok (.iaload, 1) := by decide +kernel
theorem dX6_sendBack_126 : decode cX6_sendBack 126 = .ok (.iload 8, 2) := by decide +kernel
theorem dX6_sendBack_128 : decode cX6_sendBack 128 = .ok (.invokevirtual 178, 3) := by decide +kernel
theorem dX6_sendBack_131 : decode cX6_sendBack 131 = .ok (.aload_n 2, 1) := by decide +kernel
theorem dX6_sendBack_132 : decode cX6_sendBack 132 = .ok (.getfield 103, 3) := by decide +kernel
theorem dX6_sendBack_135 : decode cX6_sendBack 135 = .ok (.iload_n 1, 1) := by decide +kernel
theorem dX6_sendBack_136 : decode cX6_sendBack 136 = .ok (.dup2, 1) := by decide +kernel
theorem dX6_sendBack_137 : decode cX6_sendBack 137 = .ok (.iaload, 1) := by decide +kernel
theorem dX6_sendBack_138 : decode cX6_sendBack 138 = .ok (.iload 8, 2) := by decide +kernel
theorem dX6_sendBack_140 : decode cX6_sendBack 140 = .ok (.iadd, 1) := by decide +kernel
theorem dX6_sendBack_141 : decode cX6_sendBack 141 = .ok (.iastore, 1) := by decide +kernel
theorem dX6_sendBack_142 : decode cX6_sendBack 142 = .ok (.aload_n 0, 1) := by decide +kernel
theorem dX6_sendBack_143 : decode cX6_sendBack 143 = .ok (.iload_n 1, 1) := by decide +kernel
theorem dX6_sendBack_144 : decode cX6_sendBack 144 = .ok (.invokevirtual 112, 3) := by decide +kernel
theorem dX6_sendBack_147 : decode cX6_sendBack 147 = .ok (.ifCond .ne 13, 3) := by decide +kernel
theorem dX6_sendBack_150 : decode cX6_sendBack 150 = .ok (.aload_n 2, 1) := by decide +kernel
theorem dX6_sendBack_151 : decode cX6_sendBack 151 = .ok (.getfield 115, 3) := by decide +kernel
theorem dX6_sendBack_154 : decode cX6_sendBack 154 = .ok (.iload_n 1, 1) := by decide +kernel
theorem dX6_sendBack_155 : decode cX6_sendBack 155 = .ok (.iconst 3, 1) := by decide +kernel
theorem dX6_sendBack_156 : decode cX6_sendBack 156 = .ok (.iastore, 1) := by decide +kernel
theorem dX6_sendBack_157 : decode cX6_sendBack 157 = .ok (.goto 46, 3) := by decide +kernel
theorem dX6_sendBack_160 : decode cX6_sendBack 160 = .ok (.aload_n 0, 1) := by decide +kernel
theorem dX6_sendBack_161 : decode cX6_sendBack 161 = .ok (.getfield 12, 3) := by decide +kernel
theorem dX6_sendBack_164 : decode cX6_sendBack 164 = .ok (.getfield 157, 3) := by decide +kernel
theorem dX6_sendBack_167 : decode cX6_sendBack 167 = .ok (.aload_n 2, 1) := by decide +kernel
theorem dX6_sendBack_168 : decode cX6_sendBack 168 = .ok (.getfield 160, 3) := by decide +kernel
theorem dX6_sendBack_171 : decode cX6_sendBack 171 = .ok (.iload_n 1, 1) := by decide +kernel
theorem dX6_sendBack_172 : decode cX6_sendBack 172 = .ok (.iaload, 1) := by decide +kernel
theorem dX6_sendBack_173 : decode cX6_sendBack 173 = .ok (.isub, 1) := by decide +kernel
theorem dX6_sendBack_174 : decode cX6_sendBack 174 = .ok (.aload_n 0, 1) := by decide +kernel
theorem dX6_sendBack_175 : decode cX6_sendBack 175 = .ok (.getfield 18, 3) := by decide +kernel
theorem dX6_sendBack_178 : decode cX6_sendBack 178 = .ok (.getfield 216, 3) := by decide +kernel
theorem dX6_sendBack_181 : decode cX6_sendBack 181 = .ok (.iload_n 3, 1) := by decide +kernel
theorem dX6_sendBack_182 : decode cX6_sendBack 182 = .ok (.iaload, 1) := by decide +kernel
theorem dX6_sendBack_183 : decode cX6_sendBack 183 = .ok (.if_icmp .lt 20, 3) := by decide +kernel
theorem dX6_sendBack_186 : decode cX6_sendBack 186 = .ok (.aload_n 2, 1) := by decide +kernel
theorem dX6_sendBack_187 : decode cX6_sendBack 187 = .ok (.getfield 115, 3) := by decide +kernel
theorem dX6_sendBack_190 : decode cX6_sendBack 190 = .ok (.iload_n 1, 1) := by decide +kernel
theorem dX6_sendBack_191 : decode cX6_sendBack 191 = .ok (.iconst 4, 1) := by decide +kernel
theorem dX6_sendBack_192 : decode cX6_sendBack 192 = .ok (.iastore, 1) := by decide +kernel
theorem dX6_sendBack_193 : decode cX6_sendBack 193 = .ok (.aload_n 0, 1) := by decide +kernel
theorem dX6_sendBack_194 : decode cX6_sendBack 194 = .ok (.getfield 12, 3) := by decide +kernel
theorem dX6_sendBack_197 : decode cX6_sendBack 197 = .ok (.getfield 120, 3) := by decide +kernel
theorem dX6_sendBack_200 : decode cX6_sendBack 200 = .ok (.iload_n 3, 1) := by decide +kernel
theorem dX6_sendBack_201 : decode cX6_sendBack 201 = .ok (.iconst 1, 1) := by decide +kernel
theorem dX6_sendBack_202 : decode cX6_sendBack 202 = .ok (.iastore, 1) := by decide +kernel
theorem dX6_sendBack_203 : decode cX6_sendBack 203 = .ok (.return_, 1) := by decide +kernel
theorem dX6_sentToReturn_0 : decode cX6_sentToReturn 0 = .ok (.sipush 1000, 3) := by decide +kernel
theorem dX6_sentToReturn_3 : decode cX6_sentToReturn 3 = .ok (.iload_n 1, 1) := by decide +kernel
theorem dX6_sentToReturn_4 : decode cX6_sentToReturn 4 = .ok (.isub, 1) := by decide +kernel
theorem dX6_sentToReturn_5 : decode cX6_sentToReturn 5 = .ok (.istore_n 2, 1) := by decide +kernel
theorem dX6_sentToReturn_6 : decode cX6_sentToReturn 6 = .ok (.iload_n 2, 1) := by decide +kernel
theorem dX6_sentToReturn_7 : decode cX6_sentToReturn 7 = .ok (.iconst 1, 1) := by decide +kernel
theorem dX6_sentToReturn_8 : decode cX6_sentToReturn 8 = .ok (.if_icmp .ge 7, 3) := by decide +kernel
theorem dX6_sentToReturn_11 : decode cX6_sentToReturn 11 = .ok (.lconst 0, 1) := by decide +kernel
theorem dX6_sentToReturn_12 : decode cX6_sentToReturn 12 = .ok (.goto 17, 3) := by decide +kernel
theorem dX6_sentToReturn_15 : decode cX6_sentToReturn 15 = .ok (.iload_n 0, 1) := by decide +kernel
theorem dX6_sentToReturn_16 : decode cX6_sentToReturn 16 = .ok (.i2l, 1) := by decide +kernel
theorem dX6_sentToReturn_17 : decode cX6_sentToReturn 17 = .ok (.ldc2_w 219, 3) := by decide +kernel
theorem dX6_sentToReturn_20 : decode cX6_sentToReturn 20 = .ok (.lmul, 1) := by decide +kernel
theorem dX6_sentToReturn_21 : decode cX6_sentToReturn 21 = .ok (.iload_n 2, 1) := by decide +kernel
theorem dX6_sentToReturn_22 : decode cX6_sentToReturn 22 = .ok (.i2l, 1) := by decide +kernel
theorem dX6_sentToReturn_23 : decode cX6_sentToReturn 23 = .ok (.ladd, 1) := by decide +kernel
theorem dX6_sentToReturn_24 : decode cX6_sentToReturn 24 = .ok (.lconst 1, 1) := by decide +kernel
theorem dX6_sentToReturn_25 : decode cX6_sentToReturn 25 = .ok (.lsub, 1) := by decide +kernel
theorem dX6_sentToReturn_26 : decode cX6_sentToReturn 26 = .ok (.iload_n 2, 1) := by decide +kernel
theorem dX6_sentToReturn_27 : decode cX6_sentToReturn 27 = .ok (.i2l, 1) := by decide +kernel
theorem dX6_sentToReturn_28 : decode cX6_sentToReturn 28 = .ok (.ldiv, 1) := by decide +kernel
theorem dX6_sentToReturn_29 : decode cX6_sentToReturn 29 = .ok (.lreturn, 1) := by decide +kernel
theorem dX7_init_0 : decode cX7_init 0 = .ok (.aload_n 0, 1) := by decide +kernel
theorem dX7_init_1 : decode cX7_init 1 = .ok (.invokespecial 1, 3) := by decide +kernel
theorem dX7_init_4 : decode cX7_init 4 = .ok (.aload_n 0, 1) := by decide +kernel
theorem dX7_init_5 : decode cX7_init 5 = .ok (.new 7, 3) := by decide +kernel
theorem dX7_init_8 : decode cX7_init 8 = .ok (.dup, 1) := by decide +kernel
theorem dX7_init_9 : decode cX7_init 9 = .ok (.new 9, 3) := by decide +kernel
theorem dX7_init_12 : decode cX7_init 12 = .ok (.dup, 1) := by decide +kernel
theorem dX7_init_13 : decode cX7_init 13 = .ok (.invokespecial 11, 3) := by decide +kernel
theorem dX7_init_16 : decode cX7_init 16 = .ok (.invokespecial 12, 3) := by decide +kernel
theorem dX7_init_19 : decode cX7_init 19 = .ok (.putfield 15, 3) := by decide +kernel
theorem dX7_init_22 : decode cX7_init 22 = .ok (.aload_n 0, 1) := by decide +kernel
theorem dX7_init_23 : decode cX7_init 23 = .ok (.new 7, 3) := by decide +kernel
theorem dX7_init_26 : decode cX7_init 26 = .ok (.dup, 1) := by decide +kernel
theorem dX7_init_27 : decode cX7_init 27 = .ok (.aload_n 0, 1) := by decide +kernel
theorem dX7_init_28 : decode cX7_init 28 = .ok (.getfield 15, 3) := by decide +kernel
theorem dX7_init_31 : decode cX7_init 31 = .ok (.getfield 21, 3) := by decide +kernel
theorem dX7_init_34 : decode cX7_init 34 = .ok (.invokespecial 12, 3) := by decide +kernel
theorem dX7_init_37 : decode cX7_init 37 = .ok (.putfield 25, 3) := by decide +kernel
theorem dX7_init_40 : decode cX7_init 40 = .ok (.aload_n 0, 1) := by decide +kernel
theorem dX7_init_41 : decode cX7_init 41 = .ok (.new 28, 3) := by decide +kernel
theorem dX7_init_44 : decode cX7_init 44 = .ok (.dup, 1) := by decide +kernel
theorem dX7_init_45 : decode cX7_init 45 = .ok (.invokespecial 30, 3) := by decide +kernel
theorem dX7_init_48 : decode cX7_init 48 = .ok (.putfield 31, 3) := by decide +kernel
theorem dX7_init_51 : decode cX7_init 51 = .ok (.aload_n 0, 1) := by decide +kernel
theorem dX7_init_52 : decode cX7_init 52 = .ok (.new 35, 3) := by decide +kernel
theorem dX7_init_55 : decode cX7_init 55 = .ok (.dup, 1) := by decide +kernel
theorem dX7_init_56 : decode cX7_init 56 = .ok (.invokespecial 37, 3) := by decide +kernel
theorem dX7_init_59 : decode cX7_init 59 = .ok (.putfield 38, 3) := by decide +kernel
theorem dX7_init_62 : decode cX7_init 62 = .ok (.aload_n 0, 1) := by decide +kernel
theorem dX7_init_63 : decode cX7_init 63 = .ok (.iconst 2, 1) := by decide +kernel
theorem dX7_init_64 : decode cX7_init 64 = .ok (.anewarray 7, 3) := by decide +kernel
theorem dX7_init_67 : decode cX7_init 67 = .ok (.dup, 1) := by decide +kernel
theorem dX7_init_68 : decode cX7_init 68 = .ok (.iconst 0, 1) := by decide +kernel
theorem dX7_init_69 : decode cX7_init 69 = .ok (.new 7, 3) := by decide +kernel
theorem dX7_init_72 : decode cX7_init 72 = .ok (.dup, 1) := by decide +kernel
theorem dX7_init_73 : decode cX7_init 73 = .ok (.new 9, 3) := by decide +kernel
theorem dX7_init_76 : decode cX7_init 76 = .ok (.dup, 1) := by decide +kernel
theorem dX7_init_77 : decode cX7_init 77 = .ok (.invokespecial 11, 3) := by decide +kernel
theorem dX7_init_80 : decode cX7_init 80 = .ok (.invokespecial 12, 3) := by decide +kernel
theorem dX7_init_83 : decode cX7_init 83 = .ok (.aastore, 1) := by decide +kernel
theorem dX7_init_84 : decode cX7_init 84 = .ok (.dup, 1) := by decide +kernel
theorem dX7_init_85 : decode cX7_init 85 = .ok (.iconst 1, 1) := by decide +kernel
theorem dX7_init_86 : decode cX7_init 86 = .ok (.new 7, 3) := by decide +kernel
theorem dX7_init_89 : decode cX7_init 89 = .ok (.dup, 1) := by decide +kernel
theorem dX7_init_90 : decode cX7_init 90 = .ok (.new 9, 3) := by decide +kernel
theorem dX7_init_93 : decode cX7_init 93 = .ok (.dup, 1) := by decide +kernel
theorem dX7_init_94 : decode cX7_init 94 = .ok (.invokespecial 11, 3) := by decide +kernel
theorem dX7_init_97 : decode cX7_init 97 = .ok (.invokespecial 12, 3) := by decide +kernel
theorem dX7_init_100 : decode cX7_init 100 = .ok (.aastore, 1) := by decide +kernel
theorem dX7_init_101 : decode cX7_init 101 = .ok (.putfield 42, 3) := by decide +kernel
theorem dX7_init_104 : decode cX7_init 104 = .ok (.aload_n 0, 1) := by decide +kernel
theorem dX7_init_105 : decode cX7_init 105 = .ok (.iconst 2, 1) := by decide +kernel
theorem dX7_init_106 : decode cX7_init 106 = .ok (.newarray .boolean, 2) := by decide +kernel
theorem dX7_init_108 : decode cX7_init 108 = .ok (.putfield 46, 3) := by decide +kernel
theorem dX7_init_111 : decode cX7_init 111 = .ok (.return_, 1) := by decide +kernel
theorem dX7_append_0 : decode cX7_append 0 = .ok (.aload_n 0, 1) := by decide +kernel
theorem dX7_append_1 : decode cX7_append 1 = .ok (.getfield 31, 3) := by decide +kernel
theorem dX7_append_4 : decode cX7_append 4 = .ok (.lload_n 1, 1) := by decide +kernel
theorem dX7_append_5 : decode cX7_append 5 = .ok (.invokevirtual 50, 3) := by decide +kernel
theorem dX7_append_8 : decode cX7_append 8 = .ok (.ireturn, 1) := by decide +kernel
theorem dX7_load_0 : decode cX7_load 0 = .ok (.aload_n 0, 1) := by decide +kernel
theorem dX7_load_1 : decode cX7_load 1 = .ok (.getfield 31, 3) := by decide +kernel
theorem dX7_load_4 : decode cX7_load 4 = .ok (.invokevirtual 54, 3) := by decide +kernel
theorem dX7_load_7 : decode cX7_load 7 = .ok (.aload_n 0, 1) := by decide +kernel
theorem dX7_load_8 : decode cX7_load 8 = .ok (.getfield 31, 3) := by decide +kernel
theorem dX7_load_11 : decode cX7_load 11 = .ok (.getfield 57, 3) := by decide +kernel
theorem dX7_load_14 : decode cX7_load 14 = .ok (.ifCond .eq 14, 3) := by decide +kernel
theorem dX7_load_17 : decode cX7_load 17 = .ok (.bipush (-100), 2) := by decide +kernel
theorem dX7_load_19 : decode cX7_load 19 = .ok (.aload_n 0, 1) := by decide +kernel
theorem dX7_load_20 : decode cX7_load 20 = .ok (.getfield 31, 3) := by decide +kernel
theorem dX7_load_23 : decode cX7_load 23 = .ok (.getfield 61, 3) := by decide +kernel
theorem dX7_load_26 : decode cX7_load 26 = .ok (.isub, 1) := by decide +kernel
theorem dX7_load_27 : decode cX7_load 27 = .ok (.ireturn, 1) := by decide +kernel
theorem dX7_load_28 : decode cX7_load 28 = .ok (.aload_n 0, 1) := by decide +kernel
theorem dX7_load_29 : decode cX7_load 29 = .ok (.getfield 15, 3) := by decide +kernel
theorem dX7_load_32 : decode cX7_load 32 = .ok (.aload_n 0, 1) := by decide +kernel
theorem dX7_load_33 : decode cX7_load 33 = .ok (.getfield 31, 3) := by decide +kernel
theorem dX7_load_36 : decode cX7_load 36 = .ok (.getfield 64, 3) := by decide +kernel
theorem dX7_load_39 : decode cX7_load 39 = .ok (.invokevirtual 67, 3) := by decide +kernel
theorem dX7_load_42 : decode cX7_load 42 = .ok (.aload_n 0, 1) := by decide +kernel
theorem dX7_load_43 : decode cX7_load 43 = .ok (.getfield 38, 3) := by decide +kernel
theorem dX7_load_46 : decode cX7_load 46 = .ok (.invokevirtual 71, 3) := by decide +kernel
theorem dX7_load_49 : decode cX7_load 49 = .ok (.aload_n 0, 1) := by decide +kernel
theorem dX7_load_50 : decode cX7_load 50 = .ok (.getfield 15, 3) := by decide +kernel
theorem dX7_load_53 : decode cX7_load 53 = .ok (.getfield 21, 3) := by decide +kernel
theorem dX7_load_56 : decode cX7_load 56 = .ok (.getfield 74, 3) := by decide +kernel
theorem dX7_load_59 : decode cX7_load 59 = .ok (.ireturn, 1) := by decide +kernel
theorem dX7_loadError_0 : decode cX7_loadError 0 = .ok (.aload_n 0, 1) := by decide +kernel
theorem dX7_loadError_1 : decode cX7_loadError 1 = .ok (.getfield 31, 3) := by decide +kernel
theorem dX7_loadError_4 : decode cX7_loadError 4 = .ok (.getfield 57, 3) := by decide +kernel
theorem dX7_loadError_7 : decode cX7_loadError 7 = .ok (.ireturn, 1) := by decide +kernel
theorem dX7_loadStatement_0 : decode cX7_loadStatement 0 = .ok (.aload_n 0, 1) := by decide +kernel
theorem dX7_loadStatement_1 : decode cX7_loadStatement 1 = .ok (.getfield 31, 3) := by decide +kernel
theorem dX7_loadStatement_4 : decode cX7_loadStatement 4 = .ok (.getfield 57, 3) := by decide +kernel
theorem dX7_loadStatement_7 : decode cX7_loadStatement 7 = .ok (.ifCond .ne 7, 3) := by decide +kernel
theorem dX7_loadStatement_10 : decode cX7_loadStatement 10 = .ok (.iconst (-1), 1) := by decide +kernel
theorem dX7_loadStatement_11 : decode cX7_loadStatement 11 = .ok (.goto 10, 3) := by decide +kernel
theorem dX7_loadStatement_14 : decode cX7_loadStatement 14 = .ok (.aload_n 0, 1) := by decide +kernel
theorem dX7_loadStatement_15 : decode cX7_loadStatement 15 = .ok (.getfield 31, 3) := by decide +kernel
theorem dX7_loadStatement_18 : decode cX7_loadStatement 18 = .ok (.getfield 77, 3) := by decide +kernel
theorem dX7_loadStatement_21 : decode cX7_loadStatement 21 = .ok (.ireturn, 1) := by decide +kernel
theorem dX7_count_0 : decode cX7_count 0 = .ok (.iload_n 1, 1) := by decide +kernel
theorem dX7_count_1 : decode cX7_count 1 = .ok (.iconst 0, 1) := by decide +kernel
theorem dX7_count_2 : decode cX7_count 2 = .ok (.bipush 8, 2) := by decide +kernel
theorem dX7_count_4 : decode cX7_count 4 = .ok (.invokestatic 80, 3) := by decide +kernel
theorem dX7_count_7 : decode cX7_count 7 = .ok (.iload_n 1, 1) := by decide +kernel
theorem dX7_count_8 : decode cX7_count 8 = .ok (.tableswitch 139 0 7 #[48, 59, 70, 81, 92, 106, 117, 131], 48) := by decide +kernel
theorem dX7_count_56 : decode cX7_count 56 = .ok (.aload_n 0, 1) := by decide +kernel
theorem dX7_count_57 : decode cX7_count 57 = .ok (.getfield 15, 3) := by decide +kernel
theorem dX7_count_60 : decode cX7_count 60 = .ok (.getfield 21, 3) := by decide +kernel
theorem dX7_count_63 : decode cX7_count 63 = .ok (.getfield 74, 3) := by decide +kernel
theorem dX7_count_66 : decode cX7_count 66 = .ok (.ireturn, 1) := by decide +kernel
theorem dX7_count_67 : decode cX7_count 67 = .ok (.aload_n 0, 1) := by decide +kernel
theorem dX7_count_68 : decode cX7_count 68 = .ok (.getfield 15, 3) := by decide +kernel
theorem dX7_count_71 : decode cX7_count 71 = .ok (.getfield 21, 3) := by decide +kernel
theorem dX7_count_74 : decode cX7_count 74 = .ok (.getfield 84, 3) := by decide +kernel
theorem dX7_count_77 : decode cX7_count 77 = .ok (.ireturn, 1) := by decide +kernel
theorem dX7_count_78 : decode cX7_count 78 = .ok (.aload_n 0, 1) := by decide +kernel
theorem dX7_count_79 : decode cX7_count 79 = .ok (.getfield 15, 3) := by decide +kernel
theorem dX7_count_82 : decode cX7_count 82 = .ok (.getfield 21, 3) := by decide +kernel
theorem dX7_count_85 : decode cX7_count 85 = .ok (.getfield 87, 3) := by decide +kernel
theorem dX7_count_88 : decode cX7_count 88 = .ok (.ireturn, 1) := by decide +kernel
theorem dX7_count_89 : decode cX7_count 89 = .ok (.aload_n 0, 1) := by decide +kernel
theorem dX7_count_90 : decode cX7_count 90 = .ok (.getfield 15, 3) := by decide +kernel
theorem dX7_count_93 : decode cX7_count 93 = .ok (.getfield 21, 3) := by decide +kernel
theorem dX7_count_96 : decode cX7_count 96 = .ok (.getfield 90, 3) := by decide +kernel
theorem dX7_count_99 : decode cX7_count 99 = .ok (.ireturn, 1) := by decide +kernel
theorem dX7_count_100 : decode cX7_count 100 = .ok (.aload_n 0, 1) := by decide +kernel
theorem dX7_count_101 : decode cX7_count 101 = .ok (.getfield 15, 3) := by decide +kernel
theorem dX7_count_104 : decode cX7_count 104 = .ok (.getfield 93, 3) := by decide +kernel
theorem dX7_count_107 : decode cX7_count 107 = .ok (.getfield 97, 3) := by decide +kernel
theorem dX7_count_110 : decode cX7_count 110 = .ok (.getfield 103, 3) := by decide +kernel
theorem dX7_count_113 : decode cX7_count 113 = .ok (.ireturn, 1) := by decide +kernel
theorem dX7_count_114 : decode cX7_count 114 = .ok (.aload_n 0, 1) := by decide +kernel
theorem dX7_count_115 : decode cX7_count 115 = .ok (.getfield 15, 3) := by decide +kernel
theorem dX7_count_118 : decode cX7_count 118 = .ok (.getfield 21, 3) := by decide +kernel
theorem dX7_count_121 : decode cX7_count 121 = .ok (.getfield 108, 3) := by decide +kernel
theorem dX7_count_124 : decode cX7_count 124 = .ok (.ireturn, 1) := by decide +kernel
theorem dX7_count_125 : decode cX7_count 125 = .ok (.aload_n 0, 1) := by decide +kernel
theorem dX7_count_126 : decode cX7_count 126 = .ok (.getfield 15, 3) := by decide +kernel
theorem dX7_count_129 : decode cX7_count 129 = .ok (.getfield 93, 3) := by decide +kernel
theorem dX7_count_132 : decode cX7_count 132 = .ok (.getfield 111, 3) := by decide +kernel
theorem dX7_count_135 : decode cX7_count 135 = .ok (.getfield 115, 3) := by decide +kernel
theorem dX7_count_138 : decode cX7_count 138 = .ok (.ireturn, 1) := by decide +kernel
theorem dX7_count_139 : decode cX7_count 139 = .ok (.aload_n 0, 1) := by decide +kernel
theorem dX7_count_140 : decode cX7_count 140 = .ok (.getfield 15, 3) := by decide +kernel
