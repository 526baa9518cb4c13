noncomputable def sl_X4_init_3 : List UInt8 := 188 :: 10 :: 181 :: 0 :: 50 :: 42 :: 7 :: 188 :: 10 :: 181 :: 0 :: 53 :: 42 :: 3 :: 181 :: 0 :: 56 :: 177 :: []
noncomputable def sl_X4_init_2 : List UInt8 := 42 :: 187 :: 0 :: 36 :: 89 :: 183 :: 0 :: 38 :: 181 :: 0 :: 39 :: 42 :: 16 :: 7 :: 188 :: 10 :: 181 :: 0 :: 43 :: 42 :: 7 :: 188 :: 10 :: 181 :: 0 :: 47 :: 42 :: 7 :: sl_X4_init_3
noncomputable def sl_X4_init_1 : List UInt8 := 89 :: 183 :: 0 :: 9 :: 181 :: 0 :: 19 :: 42 :: 187 :: 0 :: 22 :: 89 :: 183 :: 0 :: 24 :: 181 :: 0 :: 25 :: 42 :: 187 :: 0 :: 29 :: 89 :: 183 :: 0 :: 31 :: 181 :: 0 :: 32 :: sl_X4_init_2
noncomputable def sl_X4_init_0 : List UInt8 := 42 :: 183 :: 0 :: 1 :: 42 :: 187 :: 0 :: 7 :: 89 :: 183 :: 0 :: 9 :: 181 :: 0 :: 10 :: 42 :: 187 :: 0 :: 7 :: 89 :: 183 :: 0 :: 9 :: 181 :: 0 :: 16 :: 42 :: 187 :: 0 :: 7 :: sl_X4_init_1
theorem sr_X4_init_0 : fd_at cX4_init 0 sl_X4_init_0 := fd_base (by decide +kernel)
theorem sr_X4_init_1 : fd_at cX4_init 30 sl_X4_init_1 := fd_n 30 sr_X4_init_0 rfl
theorem sr_X4_init_2 : fd_at cX4_init 59 sl_X4_init_2 := fd_n 29 sr_X4_init_1 rfl
theorem sr_X4_init_3 : fd_at cX4_init 87 sl_X4_init_3 := fd_n 28 sr_X4_init_2 rfl
theorem dX4_init_0 : decode cX4_init 0 = .ok (.aload_n 0, 1) := fo_42 sr_X4_init_0
theorem dX4_init_1 : decode cX4_init 1 = .ok (.invokespecial 1, 3) := fo_183 (fd_n 1 sr_X4_init_0 rfl) rfl
theorem dX4_init_4 : decode cX4_init 4 = .ok (.aload_n 0, 1) := fo_42 (fd_n 4 sr_X4_init_0 rfl)
theorem dX4_init_5 : decode cX4_init 5 = .ok (.new 7, 3) := fo_187 (fd_n 5 sr_X4_init_0 rfl) rfl
theorem dX4_init_8 : decode cX4_init 8 = .ok (.dup, 1) := fo_89 (fd_n 8 sr_X4_init_0 rfl)
theorem dX4_init_9 : decode cX4_init 9 = .ok (.invokespecial 9, 3) := fo_183 (fd_n 9 sr_X4_init_0 rfl) rfl
theorem dX4_init_12 : decode cX4_init 12 = .ok (.putfield 10, 3) := fo_181 (fd_n 12 sr_X4_init_0 rfl) rfl
theorem dX4_init_15 : decode cX4_init 15 = .ok (.aload_n 0, 1) := fo_42 (fd_n 15 sr_X4_init_0 rfl)
theorem dX4_init_16 : decode cX4_init 16 = .ok (.new 7, 3) := fo_187 (fd_n 16 sr_X4_init_0 rfl) rfl
theorem dX4_init_19 : decode cX4_init 19 = .ok (.dup, 1) := fo_89 (fd_n 19 sr_X4_init_0 rfl)
theorem dX4_init_20 : decode cX4_init 20 = .ok (.invokespecial 9, 3) := fo_183 (fd_n 20 sr_X4_init_0 rfl) rfl
theorem dX4_init_23 : decode cX4_init 23 = .ok (.putfield 16, 3) := fo_181 (fd_n 23 sr_X4_init_0 rfl) rfl
theorem dX4_init_26 : decode cX4_init 26 = .ok (.aload_n 0, 1) := fo_42 (fd_n 26 sr_X4_init_0 rfl)
theorem dX4_init_27 : decode cX4_init 27 = .ok (.new 7, 3) := fo_187 (fd_n 27 sr_X4_init_0 rfl) rfl
theorem dX4_init_30 : decode cX4_init 30 = .ok (.dup, 1) := fo_89 sr_X4_init_1
theorem dX4_init_31 : decode cX4_init 31 = .ok (.invokespecial 9, 3) := fo_183 (fd_n 1 sr_X4_init_1 rfl) rfl
theorem dX4_init_34 : decode cX4_init 34 = .ok (.putfield 19, 3) := fo_181 (fd_n 4 sr_X4_init_1 rfl) rfl
theorem dX4_init_37 : decode cX4_init 37 = .ok (.aload_n 0, 1) := fo_42 (fd_n 7 sr_X4_init_1 rfl)
theorem dX4_init_38 : decode cX4_init 38 = .ok (.new 22, 3) := fo_187 (fd_n 8 sr_X4_init_1 rfl) rfl
theorem dX4_init_41 : decode cX4_init 41 = .ok (.dup, 1) := fo_89 (fd_n 11 sr_X4_init_1 rfl)
theorem dX4_init_42 : decode cX4_init 42 = .ok (.invokespecial 24, 3) := fo_183 (fd_n 12 sr_X4_init_1 rfl) rfl
theorem dX4_init_45 : decode cX4_init 45 = .ok (.putfield 25, 3) := fo_181 (fd_n 15 sr_X4_init_1 rfl) rfl
theorem dX4_init_48 : decode cX4_init 48 = .ok (.aload_n 0, 1) := fo_42 (fd_n 18 sr_X4_init_1 rfl)
theorem dX4_init_49 : decode cX4_init 49 = .ok (.new 29, 3) := fo_187 (fd_n 19 sr_X4_init_1 rfl) rfl
theorem dX4_init_52 : decode cX4_init 52 = .ok (.dup, 1) := fo_89 (fd_n 22 sr_X4_init_1 rfl)
theorem dX4_init_53 : decode cX4_init 53 = .ok (.invokespecial 31, 3) := fo_183 (fd_n 23 sr_X4_init_1 rfl) rfl
theorem dX4_init_56 : decode cX4_init 56 = .ok (.putfield 32, 3) := fo_181 (fd_n 26 sr_X4_init_1 rfl) rfl
theorem dX4_init_59 : decode cX4_init 59 = .ok (.aload_n 0, 1) := fo_42 sr_X4_init_2
theorem dX4_init_60 : decode cX4_init 60 = .ok (.new 36, 3) := fo_187 (fd_n 1 sr_X4_init_2 rfl) rfl
theorem dX4_init_63 : decode cX4_init 63 = .ok (.dup, 1) := fo_89 (fd_n 4 sr_X4_init_2 rfl)
theorem dX4_init_64 : decode cX4_init 64 = .ok (.invokespecial 38, 3) := fo_183 (fd_n 5 sr_X4_init_2 rfl) rfl
theorem dX4_init_67 : decode cX4_init 67 = .ok (.putfield 39, 3) := fo_181 (fd_n 8 sr_X4_init_2 rfl) rfl
theorem dX4_init_70 : decode cX4_init 70 = .ok (.aload_n 0, 1) := fo_42 (fd_n 11 sr_X4_init_2 rfl)
theorem dX4_init_71 : decode cX4_init 71 = .ok (.bipush 7, 2) := fo_16 (fd_n 12 sr_X4_init_2 rfl) (by decide +kernel)
theorem dX4_init_75 : decode cX4_init 75 = .ok (.putfield 43, 3) := fo_181 (fd_n 16 sr_X4_init_2 rfl) rfl
theorem dX4_init_78 : decode cX4_init 78 = .ok (.aload_n 0, 1) := fo_42 (fd_n 19 sr_X4_init_2 rfl)
theorem dX4_init_79 : decode cX4_init 79 = .ok (.iconst 4, 1) := fo_7 (fd_n 20 sr_X4_init_2 rfl)
theorem dX4_init_82 : decode cX4_init 82 = .ok (.putfield 47, 3) := fo_181 (fd_n 23 sr_X4_init_2 rfl) rfl
theorem dX4_init_85 : decode cX4_init 85 = .ok (.aload_n 0, 1) := fo_42 (fd_n 26 sr_X4_init_2 rfl)
theorem dX4_init_86 : decode cX4_init 86 = .ok (.iconst 4, 1) := fo_7 (fd_n 27 sr_X4_init_2 rfl)
theorem dX4_init_89 : decode cX4_init 89 = .ok (.putfield 50, 3) := fo_181 (fd_n 2 sr_X4_init_3 rfl) rfl
theorem dX4_init_92 : decode cX4_init 92 = .ok (.aload_n 0, 1) := fo_42 (fd_n 5 sr_X4_init_3 rfl)
theorem dX4_init_93 : decode cX4_init 93 = .ok (.iconst 4, 1) := fo_7 (fd_n 6 sr_X4_init_3 rfl)
theorem dX4_init_96 : decode cX4_init 96 = .ok (.putfield 53, 3) := fo_181 (fd_n 9 sr_X4_init_3 rfl) rfl
theorem dX4_init_99 : decode cX4_init 99 = .ok (.aload_n 0, 1) := fo_42 (fd_n 12 sr_X4_init_3 rfl)
theorem dX4_init_100 : decode cX4_init 100 = .ok (.iconst 0, 1) := fo_3 (fd_n 13 sr_X4_init_3 rfl)
theorem dX4_init_101 : decode cX4_init 101 = .ok (.putfield 56, 3) := fo_181 (fd_n 14 sr_X4_init_3 rfl) rfl
theorem dX4_init_104 : decode cX4_init 104 = .ok (.return_, 1) := fo_177 (fd_n 17 sr_X4_init_3 rfl)
theorem dX4_init_73 : decode cX4_init 73 = .ok (.newarray .int, 2) := by decide +kernel
theorem dX4_init_80 : decode cX4_init 80 = .ok (.newarray .int, 2) := by decide +kernel
theorem dX4_init_87 : decode cX4_init 87 = .ok (.newarray .int, 2) := by decide +kernel
theorem dX4_init_94 : decode cX4_init 94 = .ok (.newarray .int, 2) := by decide +kernel
noncomputable def sl_X4_build_2 : List UInt8 := 172 :: 42 :: 180 :: 0 :: 10 :: 28 :: 27 :: 29 :: 21 :: 4 :: 3 :: 182 :: 0 :: 72 :: 42 :: 180 :: 0 :: 10 :: 182 :: 0 :: 76 :: 172 :: []
noncomputable def sl_X4_build_1 : List UInt8 := 16 :: 10 :: 184 :: 0 :: 60 :: 154 :: 0 :: 9 :: 42 :: 3 :: 182 :: 0 :: 64 :: 172 :: 42 :: 180 :: 0 :: 10 :: 28 :: 182 :: 0 :: 68 :: 153 :: 0 :: 9 :: 42 :: 7 :: 182 :: 0 :: 64 :: sl_X4_build_2
noncomputable def sl_X4_build_0 : List UInt8 := 27 :: 16 :: 7 :: 184 :: 0 :: 60 :: 153 :: 0 :: 30 :: 28 :: 16 :: 25 :: 184 :: 0 :: 60 :: 153 :: 0 :: 21 :: 29 :: 7 :: 184 :: 0 :: 60 :: 153 :: 0 :: 13 :: 21 :: 4 :: sl_X4_build_1
theorem sr_X4_build_0 : fd_at cX4_build 0 sl_X4_build_0 := fd_base (by decide +kernel)
theorem sr_X4_build_1 : fd_at cX4_build 28 sl_X4_build_1 := fd_n 28 sr_X4_build_0 rfl
theorem sr_X4_build_2 : fd_at cX4_build 58 sl_X4_build_2 := fd_n 30 sr_X4_build_1 rfl
theorem dX4_build_0 : decode cX4_build 0 = .ok (.iload_n 1, 1) := fo_27 sr_X4_build_0
theorem dX4_build_1 : decode cX4_build 1 = .ok (.bipush 7, 2) := fo_16 (fd_n 1 sr_X4_build_0 rfl) (by decide +kernel)
theorem dX4_build_3 : decode cX4_build 3 = .ok (.invokestatic 60, 3) := fo_184 (fd_n 3 sr_X4_build_0 rfl) rfl
theorem dX4_build_6 : decode cX4_build 6 = .ok (.ifCond .eq 30, 3) := fo_153 (fd_n 6 sr_X4_build_0 rfl) (by decide +kernel)
theorem dX4_build_9 : decode cX4_build 9 = .ok (.iload_n 2, 1) := fo_28 (fd_n 9 sr_X4_build_0 rfl)
theorem dX4_build_10 : decode cX4_build 10 = .ok (.bipush 25, 2) := fo_16 (fd_n 10 sr_X4_build_0 rfl) (by decide +kernel)
theorem dX4_build_12 : decode cX4_build 12 = .ok (.invokestatic 60, 3) := fo_184 (fd_n 12 sr_X4_build_0 rfl) rfl
theorem dX4_build_15 : decode cX4_build 15 = .ok (.ifCond .eq 21, 3) := fo_153 (fd_n 15 sr_X4_build_0 rfl) (by decide +kernel)
theorem dX4_build_18 : decode cX4_build 18 = .ok (.iload_n 3, 1) := fo_29 (fd_n 18 sr_X4_build_0 rfl)
theorem dX4_build_19 : decode cX4_build 19 = .ok (.iconst 4, 1) := fo_7 (fd_n 19 sr_X4_build_0 rfl)
theorem dX4_build_20 : decode cX4_build 20 = .ok (.invokestatic 60, 3) := fo_184 (fd_n 20 sr_X4_build_0 rfl) rfl
theorem dX4_build_23 : decode cX4_build 23 = .ok (.ifCond .eq 13, 3) := fo_153 (fd_n 23 sr_X4_build_0 rfl) (by decide +kernel)
theorem dX4_build_26 : decode cX4_build 26 = .ok (.iload 4, 2) := fo_21 (fd_n 26 sr_X4_build_0 rfl) rfl
theorem dX4_build_28 : decode cX4_build 28 = .ok (.bipush 10, 2) := fo_16 sr_X4_build_1 (by decide +kernel)
theorem dX4_build_30 : decode cX4_build 30 = .ok (.invokestatic 60, 3) := fo_184 (fd_n 2 sr_X4_build_1 rfl) rfl
theorem dX4_build_33 : decode cX4_build 33 = .ok (.ifCond .ne 9, 3) := fo_154 (fd_n 5 sr_X4_build_1 rfl) (by decide +kernel)
theorem dX4_build_36 : decode cX4_build 36 = .ok (.aload_n 0, 1) := fo_42 (fd_n 8 sr_X4_build_1 rfl)
theorem dX4_build_37 : decode cX4_build 37 = .ok (.iconst 0, 1) := fo_3 (fd_n 9 sr_X4_build_1 rfl)
theorem dX4_build_38 : decode cX4_build 38 = .ok (.invokevirtual 64, 3) := fo_182 (fd_n 10 sr_X4_build_1 rfl) rfl
theorem dX4_build_41 : decode cX4_build 41 = .ok (.ireturn, 1) := fo_172 (fd_n 13 sr_X4_build_1 rfl)
theorem dX4_build_42 : decode cX4_build 42 = .ok (.aload_n 0, 1) := fo_42 (fd_n 14 sr_X4_build_1 rfl)
theorem dX4_build_43 : decode cX4_build 43 = .ok (.getfield 10, 3) := fo_180 (fd_n 15 sr_X4_build_1 rfl) rfl
theorem dX4_build_46 : decode cX4_build 46 = .ok (.iload_n 2, 1) := fo_28 (fd_n 18 sr_X4_build_1 rfl)
theorem dX4_build_47 : decode cX4_build 47 = .ok (.invokevirtual 68, 3) := fo_182 (fd_n 19 sr_X4_build_1 rfl) rfl
theorem dX4_build_50 : decode cX4_build 50 = .ok (.ifCond .eq 9, 3) := fo_153 (fd_n 22 sr_X4_build_1 rfl) (by decide +kernel)
theorem dX4_build_53 : decode cX4_build 53 = .ok (.aload_n 0, 1) := fo_42 (fd_n 25 sr_X4_build_1 rfl)
theorem dX4_build_54 : decode cX4_build 54 = .ok (.iconst 4, 1) := fo_7 (fd_n 26 sr_X4_build_1 rfl)
theorem dX4_build_55 : decode cX4_build 55 = .ok (.invokevirtual 64, 3) := fo_182 (fd_n 27 sr_X4_build_1 rfl) rfl
theorem dX4_build_58 : decode cX4_build 58 = .ok (.ireturn, 1) := fo_172 sr_X4_build_2
theorem dX4_build_59 : decode cX4_build 59 = .ok (.aload_n 0, 1) := fo_42 (fd_n 1 sr_X4_build_2 rfl)
theorem dX4_build_60 : decode cX4_build 60 = .ok (.getfield 10, 3) := fo_180 (fd_n 2 sr_X4_build_2 rfl) rfl
theorem dX4_build_63 : decode cX4_build 63 = .ok (.iload_n 2, 1) := fo_28 (fd_n 5 sr_X4_build_2 rfl)
theorem dX4_build_64 : decode cX4_build 64 = .ok (.iload_n 1, 1) := fo_27 (fd_n 6 sr_X4_build_2 rfl)
theorem dX4_build_65 : decode cX4_build 65 = .ok (.iload_n 3, 1) := fo_29 (fd_n 7 sr_X4_build_2 rfl)
theorem dX4_build_66 : decode cX4_build 66 = .ok (.iload 4, 2) := fo_21 (fd_n 8 sr_X4_build_2 rfl) rfl
theorem dX4_build_68 : decode cX4_build 68 = .ok (.iconst 0, 1) := fo_3 (fd_n 10 sr_X4_build_2 rfl)
theorem dX4_build_69 : decode cX4_build 69 = .ok (.invokevirtual 72, 3) := fo_182 (fd_n 11 sr_X4_build_2 rfl) rfl
theorem dX4_build_72 : decode cX4_build 72 = .ok (.aload_n 0, 1) := fo_42 (fd_n 14 sr_X4_build_2 rfl)
theorem dX4_build_73 : decode cX4_build 73 = .ok (.getfield 10, 3) := fo_180 (fd_n 15 sr_X4_build_2 rfl) rfl
theorem dX4_build_76 : decode cX4_build 76 = .ok (.invokevirtual 76, 3) := fo_182 (fd_n 18 sr_X4_build_2 rfl) rfl
theorem dX4_build_79 : decode cX4_build 79 = .ok (.ireturn, 1) := fo_172 (fd_n 21 sr_X4_build_2 rfl)
noncomputable def sl_X4_clear_1 : List UInt8 := 182 :: 0 :: 64 :: 172 :: 42 :: 180 :: 0 :: 10 :: 27 :: 182 :: 0 :: 80 :: 42 :: 180 :: 0 :: 10 :: 180 :: 0 :: 84 :: 5 :: 50 :: 27 :: 46 :: 172 :: []
noncomputable def sl_X4_clear_0 : List UInt8 := 27 :: 16 :: 25 :: 184 :: 0 :: 60 :: 154 :: 0 :: 9 :: 42 :: 3 :: 182 :: 0 :: 64 :: 172 :: 42 :: 180 :: 0 :: 10 :: 27 :: 182 :: 0 :: 68 :: 154 :: 0 :: 9 :: 42 :: 6 :: sl_X4_clear_1
theorem sr_X4_clear_0 : fd_at cX4_clear 0 sl_X4_clear_0 := fd_base (by decide +kernel)
theorem sr_X4_clear_1 : fd_at cX4_clear 28 sl_X4_clear_1 := fd_n 28 sr_X4_clear_0 rfl
theorem dX4_clear_0 : decode cX4_clear 0 = .ok (.iload_n 1, 1) := fo_27 sr_X4_clear_0
theorem dX4_clear_1 : decode cX4_clear 1 = .ok (.bipush 25, 2) := fo_16 (fd_n 1 sr_X4_clear_0 rfl) (by decide +kernel)
theorem dX4_clear_3 : decode cX4_clear 3 = .ok (.invokestatic 60, 3) := fo_184 (fd_n 3 sr_X4_clear_0 rfl) rfl
theorem dX4_clear_6 : decode cX4_clear 6 = .ok (.ifCond .ne 9, 3) := fo_154 (fd_n 6 sr_X4_clear_0 rfl) (by decide +kernel)
theorem dX4_clear_9 : decode cX4_clear 9 = .ok (.aload_n 0, 1) := fo_42 (fd_n 9 sr_X4_clear_0 rfl)
theorem dX4_clear_10 : decode cX4_clear 10 = .ok (.iconst 0, 1) := fo_3 (fd_n 10 sr_X4_clear_0 rfl)
theorem dX4_clear_11 : decode cX4_clear 11 = .ok (.invokevirtual 64, 3) := fo_182 (fd_n 11 sr_X4_clear_0 rfl) rfl
theorem dX4_clear_14 : decode cX4_clear 14 = .ok (.ireturn, 1) := fo_172 (fd_n 14 sr_X4_clear_0 rfl)
theorem dX4_clear_15 : decode cX4_clear 15 = .ok (.aload_n 0, 1) := fo_42 (fd_n 15 sr_X4_clear_0 rfl)
theorem dX4_clear_16 : decode cX4_clear 16 = .ok (.getfield 10, 3) := fo_180 (fd_n 16 sr_X4_clear_0 rfl) rfl
theorem dX4_clear_19 : decode cX4_clear 19 = .ok (.iload_n 1, 1) := fo_27 (fd_n 19 sr_X4_clear_0 rfl)
theorem dX4_clear_20 : decode cX4_clear 20 = .ok (.invokevirtual 68, 3) := fo_182 (fd_n 20 sr_X4_clear_0 rfl) rfl
theorem dX4_clear_23 : decode cX4_clear 23 = .ok (.ifCond .ne 9, 3) := fo_154 (fd_n 23 sr_X4_clear_0 rfl) (by decide +kernel)
theorem dX4_clear_26 : decode cX4_clear 26 = .ok (.aload_n 0, 1) := fo_42 (fd_n 26 sr_X4_clear_0 rfl)
theorem dX4_clear_27 : decode cX4_clear 27 = .ok (.iconst 3, 1) := fo_6 (fd_n 27 sr_X4_clear_0 rfl)
theorem dX4_clear_28 : decode cX4_clear 28 = .ok (.invokevirtual 64, 3) := fo_182 sr_X4_clear_1 rfl
theorem dX4_clear_31 : decode cX4_clear 31 = .ok (.ireturn, 1) := fo_172 (fd_n 3 sr_X4_clear_1 rfl)
theorem dX4_clear_32 : decode cX4_clear 32 = .ok (.aload_n 0, 1) := fo_42 (fd_n 4 sr_X4_clear_1 rfl)
theorem dX4_clear_33 : decode cX4_clear 33 = .ok (.getfield 10, 3) := fo_180 (fd_n 5 sr_X4_clear_1 rfl) rfl
theorem dX4_clear_36 : decode cX4_clear 36 = .ok (.iload_n 1, 1) := fo_27 (fd_n 8 sr_X4_clear_1 rfl)
theorem dX4_clear_37 : decode cX4_clear 37 = .ok (.invokevirtual 80, 3) := fo_182 (fd_n 9 sr_X4_clear_1 rfl) rfl
theorem dX4_clear_40 : decode cX4_clear 40 = .ok (.aload_n 0, 1) := fo_42 (fd_n 12 sr_X4_clear_1 rfl)
theorem dX4_clear_41 : decode cX4_clear 41 = .ok (.getfield 10, 3) := fo_180 (fd_n 13 sr_X4_clear_1 rfl) rfl
theorem dX4_clear_44 : decode cX4_clear 44 = .ok (.getfield 84, 3) := fo_180 (fd_n 16 sr_X4_clear_1 rfl) rfl
theorem dX4_clear_47 : decode cX4_clear 47 = .ok (.iconst 2, 1) := fo_5 (fd_n 19 sr_X4_clear_1 rfl)
theorem dX4_clear_48 : decode cX4_clear 48 = .ok (.aaload, 1) := fo_50 (fd_n 20 sr_X4_clear_1 rfl)
theorem dX4_clear_49 : decode cX4_clear 49 = .ok (.iload_n 1, 1) := fo_27 (fd_n 21 sr_X4_clear_1 rfl)
theorem dX4_clear_50 : decode cX4_clear 50 = .ok (.iaload, 1) := fo_46 (fd_n 22 sr_X4_clear_1 rfl)
theorem dX4_clear_51 : decode cX4_clear 51 = .ok (.ireturn, 1) := fo_172 (fd_n 23 sr_X4_clear_1 rfl)
noncomputable def sl_X4_of_3 : List UInt8 := 167 :: 0 :: 11 :: 42 :: 180 :: 0 :: 10 :: 27 :: 182 :: 0 :: 94 :: 172 :: []
noncomputable def sl_X4_of_2 : List UInt8 := 46 :: 172 :: 28 :: 7 :: 160 :: 0 :: 12 :: 42 :: 180 :: 0 :: 10 :: 27 :: 182 :: 0 :: 88 :: 172 :: 28 :: 8 :: 160 :: 0 :: 14 :: 42 :: 180 :: 0 :: 10 :: 27 :: 182 :: 0 :: 91 :: sl_X4_of_3
noncomputable def sl_X4_of_1 : List UInt8 := 27 :: 182 :: 0 :: 68 :: 154 :: 0 :: 9 :: 42 :: 6 :: 182 :: 0 :: 64 :: 172 :: 28 :: 7 :: 162 :: 0 :: 15 :: 42 :: 180 :: 0 :: 10 :: 180 :: 0 :: 84 :: 28 :: 50 :: 27 :: sl_X4_of_2
noncomputable def sl_X4_of_0 : List UInt8 := 27 :: 16 :: 25 :: 184 :: 0 :: 60 :: 153 :: 0 :: 12 :: 28 :: 16 :: 7 :: 184 :: 0 :: 60 :: 154 :: 0 :: 9 :: 42 :: 3 :: 182 :: 0 :: 64 :: 172 :: 42 :: 180 :: 0 :: 10 :: sl_X4_of_1
theorem sr_X4_of_0 : fd_at cX4_of 0 sl_X4_of_0 := fd_base (by decide +kernel)
theorem sr_X4_of_1 : fd_at cX4_of 28 sl_X4_of_1 := fd_n 28 sr_X4_of_0 rfl
theorem sr_X4_of_2 : fd_at cX4_of 56 sl_X4_of_2 := fd_n 28 sr_X4_of_1 rfl
theorem sr_X4_of_3 : fd_at cX4_of 85 sl_X4_of_3 := fd_n 29 sr_X4_of_2 rfl
theorem dX4_of_0 : decode cX4_of 0 = .ok (.iload_n 1, 1) := fo_27 sr_X4_of_0
theorem dX4_of_1 : decode cX4_of 1 = .ok (.bipush 25, 2) := fo_16 (fd_n 1 sr_X4_of_0 rfl) (by decide +kernel)
theorem dX4_of_3 : decode cX4_of 3 = .ok (.invokestatic 60, 3) := fo_184 (fd_n 3 sr_X4_of_0 rfl) rfl
theorem dX4_of_6 : decode cX4_of 6 = .ok (.ifCond .eq 12, 3) := fo_153 (fd_n 6 sr_X4_of_0 rfl) (by decide +kernel)
theorem dX4_of_9 : decode cX4_of 9 = .ok (.iload_n 2, 1) := fo_28 (fd_n 9 sr_X4_of_0 rfl)
theorem dX4_of_10 : decode cX4_of 10 = .ok (.bipush 7, 2) := fo_16 (fd_n 10 sr_X4_of_0 rfl) (by decide +kernel)
theorem dX4_of_12 : decode cX4_of 12 = .ok (.invokestatic 60, 3) := fo_184 (fd_n 12 sr_X4_of_0 rfl) rfl
theorem dX4_of_15 : decode cX4_of 15 = .ok (.ifCond .ne 9, 3) := fo_154 (fd_n 15 sr_X4_of_0 rfl) (by decide +kernel)
theorem dX4_of_18 : decode cX4_of 18 = .ok (.aload_n 0, 1) := fo_42 (fd_n 18 sr_X4_of_0 rfl)
theorem dX4_of_19 : decode cX4_of 19 = .ok (.iconst 0, 1) := fo_3 (fd_n 19 sr_X4_of_0 rfl)
theorem dX4_of_20 : decode cX4_of 20 = .ok (.invokevirtual 64, 3) := fo_182 (fd_n 20 sr_X4_of_0 rfl) rfl
theorem dX4_of_23 : decode cX4_of 23 = .ok (.ireturn, 1) := fo_172 (fd_n 23 sr_X4_of_0 rfl)
theorem dX4_of_24 : decode cX4_of 24 = .ok (.aload_n 0, 1) := fo_42 (fd_n 24 sr_X4_of_0 rfl)
theorem dX4_of_25 : decode cX4_of 25 = .ok (.getfield 10, 3) := fo_180 (fd_n 25 sr_X4_of_0 rfl) rfl
theorem dX4_of_28 : decode cX4_of 28 = .ok (.iload_n 1, 1) := fo_27 sr_X4_of_1
theorem dX4_of_29 : decode cX4_of 29 = .ok (.invokevirtual 68, 3) := fo_182 (fd_n 1 sr_X4_of_1 rfl) rfl
theorem dX4_of_32 : decode cX4_of 32 = .ok (.ifCond .ne 9, 3) := fo_154 (fd_n 4 sr_X4_of_1 rfl) (by decide +kernel)
theorem dX4_of_35 : decode cX4_of 35 = .ok (.aload_n 0, 1) := fo_42 (fd_n 7 sr_X4_of_1 rfl)
theorem dX4_of_36 : decode cX4_of 36 = .ok (.iconst 3, 1) := fo_6 (fd_n 8 sr_X4_of_1 rfl)
theorem dX4_of_37 : decode cX4_of 37 = .ok (.invokevirtual 64, 3) := fo_182 (fd_n 9 sr_X4_of_1 rfl) rfl
theorem dX4_of_40 : decode cX4_of 40 = .ok (.ireturn, 1) := fo_172 (fd_n 12 sr_X4_of_1 rfl)
theorem dX4_of_41 : decode cX4_of 41 = .ok (.iload_n 2, 1) := fo_28 (fd_n 13 sr_X4_of_1 rfl)
theorem dX4_of_42 : decode cX4_of 42 = .ok (.iconst 4, 1) := fo_7 (fd_n 14 sr_X4_of_1 rfl)
theorem dX4_of_43 : decode cX4_of 43 = .ok (.if_icmp .ge 15, 3) := fo_162 (fd_n 15 sr_X4_of_1 rfl) (by decide +kernel)
theorem dX4_of_46 : decode cX4_of 46 = .ok (.aload_n 0, 1) := fo_42 (fd_n 18 sr_X4_of_1 rfl)
theorem dX4_of_47 : decode cX4_of 47 = .ok (.getfield 10, 3) := fo_180 (fd_n 19 sr_X4_of_1 rfl) rfl
theorem dX4_of_50 : decode cX4_of 50 = .ok (.getfield 84, 3) := fo_180 (fd_n 22 sr_X4_of_1 rfl) rfl
theorem dX4_of_53 : decode cX4_of 53 = .ok (.iload_n 2, 1) := fo_28 (fd_n 25 sr_X4_of_1 rfl)
theorem dX4_of_54 : decode cX4_of 54 = .ok (.aaload, 1) := fo_50 (fd_n 26 sr_X4_of_1 rfl)
theorem dX4_of_55 : decode cX4_of 55 = .ok (.iload_n 1, 1) := fo_27 (fd_n 27 sr_X4_of_1 rfl)
theorem dX4_of_56 : decode cX4_of 56 = .ok (.iaload, 1) := fo_46 sr_X4_of_2
theorem dX4_of_57 : decode cX4_of 57 = .ok (.ireturn, 1) := fo_172 (fd_n 1 sr_X4_of_2 rfl)
theorem dX4_of_58 : decode cX4_of 58 = .ok (.iload_n 2, 1) := fo_28 (fd_n 2 sr_X4_of_2 rfl)
theorem dX4_of_59 : decode cX4_of 59 = .ok (.iconst 4, 1) := fo_7 (fd_n 3 sr_X4_of_2 rfl)
theorem dX4_of_60 : decode cX4_of 60 = .ok (.if_icmp .ne 12, 3) := fo_160 (fd_n 4 sr_X4_of_2 rfl) (by decide +kernel)
theorem dX4_of_63 : decode cX4_of 63 = .ok (.aload_n 0, 1) := fo_42 (fd_n 7 sr_X4_of_2 rfl)
theorem dX4_of_64 : decode cX4_of 64 = .ok (.getfield 10, 3) := fo_180 (fd_n 8 sr_X4_of_2 rfl) rfl
theorem dX4_of_67 : decode cX4_of 67 = .ok (.iload_n 1, 1) := fo_27 (fd_n 11 sr_X4_of_2 rfl)
theorem dX4_of_68 : decode cX4_of 68 = .ok (.invokevirtual 88, 3) := fo_182 (fd_n 12 sr_X4_of_2 rfl) rfl
theorem dX4_of_71 : decode cX4_of 71 = .ok (.ireturn, 1) := fo_172 (fd_n 15 sr_X4_of_2 rfl)
theorem dX4_of_72 : decode cX4_of 72 = .ok (.iload_n 2, 1) := fo_28 (fd_n 16 sr_X4_of_2 rfl)
theorem dX4_of_73 : decode cX4_of 73 = .ok (.iconst 5, 1) := fo_8 (fd_n 17 sr_X4_of_2 rfl)
theorem dX4_of_74 : decode cX4_of 74 = .ok (.if_icmp .ne 14, 3) := fo_160 (fd_n 18 sr_X4_of_2 rfl) (by decide +kernel)
theorem dX4_of_77 : decode cX4_of 77 = .ok (.aload_n 0, 1) := fo_42 (fd_n 21 sr_X4_of_2 rfl)
theorem dX4_of_78 : decode cX4_of 78 = .ok (.getfield 10, 3) := fo_180 (fd_n 22 sr_X4_of_2 rfl) rfl
theorem dX4_of_81 : decode cX4_of 81 = .ok (.iload_n 1, 1) := fo_27 (fd_n 25 sr_X4_of_2 rfl)
theorem dX4_of_82 : decode cX4_of 82 = .ok (.invokevirtual 91, 3) := fo_182 (fd_n 26 sr_X4_of_2 rfl) rfl
theorem dX4_of_85 : decode cX4_of 85 = .ok (.goto 11, 3) := fo_167 sr_X4_of_3 (by decide +kernel)
theorem dX4_of_88 : decode cX4_of 88 = .ok (.aload_n 0, 1) := fo_42 (fd_n 3 sr_X4_of_3 rfl)
theorem dX4_of_89 : decode cX4_of 89 = .ok (.getfield 10, 3) := fo_180 (fd_n 4 sr_X4_of_3 rfl) rfl
theorem dX4_of_92 : decode cX4_of 92 = .ok (.iload_n 1, 1) := fo_27 (fd_n 7 sr_X4_of_3 rfl)
theorem dX4_of_93 : decode cX4_of 93 = .ok (.invokevirtual 94, 3) := fo_182 (fd_n 8 sr_X4_of_3 rfl) rfl
theorem dX4_of_96 : decode cX4_of 96 = .ok (.ireturn, 1) := fo_172 (fd_n 11 sr_X4_of_3 rfl)
noncomputable def sl_X4_change_2 : List UInt8 := 28 :: 50 :: 27 :: 46 :: 54 :: 4 :: 42 :: 180 :: 0 :: 10 :: 180 :: 0 :: 84 :: 28 :: 50 :: 27 :: 29 :: 79 :: 21 :: 4 :: 172 :: []
noncomputable def sl_X4_change_1 : List UInt8 := 42 :: 3 :: 182 :: 0 :: 64 :: 172 :: 42 :: 180 :: 0 :: 10 :: 27 :: 182 :: 0 :: 68 :: 154 :: 0 :: 9 :: 42 :: 6 :: 182 :: 0 :: 64 :: 172 :: 42 :: 180 :: 0 :: 10 :: 180 :: 0 :: 84 :: sl_X4_change_2
noncomputable def sl_X4_change_0 : List UInt8 := 27 :: 16 :: 25 :: 184 :: 0 :: 60 :: 153 :: 0 :: 22 :: 28 :: 7 :: 184 :: 0 :: 60 :: 153 :: 0 :: 14 :: 29 :: 28 :: 184 :: 0 :: 97 :: 184 :: 0 :: 60 :: 154 :: 0 :: 9 :: sl_X4_change_1
theorem sr_X4_change_0 : fd_at cX4_change 0 sl_X4_change_0 := fd_base (by decide +kernel)
theorem sr_X4_change_1 : fd_at cX4_change 28 sl_X4_change_1 := fd_n 28 sr_X4_change_0 rfl
theorem sr_X4_change_2 : fd_at cX4_change 58 sl_X4_change_2 := fd_n 30 sr_X4_change_1 rfl
theorem dX4_change_0 : decode cX4_change 0 = .ok (.iload_n 1, 1) := fo_27 sr_X4_change_0
theorem dX4_change_1 : decode cX4_change 1 = .ok (.bipush 25, 2) := fo_16 (fd_n 1 sr_X4_change_0 rfl) (by decide +kernel)
theorem dX4_change_3 : decode cX4_change 3 = .ok (.invokestatic 60, 3) := fo_184 (fd_n 3 sr_X4_change_0 rfl) rfl
theorem dX4_change_6 : decode cX4_change 6 = .ok (.ifCond .eq 22, 3) := fo_153 (fd_n 6 sr_X4_change_0 rfl) (by decide +kernel)
theorem dX4_change_9 : decode cX4_change 9 = .ok (.iload_n 2, 1) := fo_28 (fd_n 9 sr_X4_change_0 rfl)
theorem dX4_change_10 : decode cX4_change 10 = .ok (.iconst 4, 1) := fo_7 (fd_n 10 sr_X4_change_0 rfl)
theorem dX4_change_11 : decode cX4_change 11 = .ok (.invokestatic 60, 3) := fo_184 (fd_n 11 sr_X4_change_0 rfl) rfl
theorem dX4_change_14 : decode cX4_change 14 = .ok (.ifCond .eq 14, 3) := fo_153 (fd_n 14 sr_X4_change_0 rfl) (by decide +kernel)
theorem dX4_change_17 : decode cX4_change 17 = .ok (.iload_n 3, 1) := fo_29 (fd_n 17 sr_X4_change_0 rfl)
theorem dX4_change_18 : decode cX4_change 18 = .ok (.iload_n 2, 1) := fo_28 (fd_n 18 sr_X4_change_0 rfl)
theorem dX4_change_19 : decode cX4_change 19 = .ok (.invokestatic 97, 3) := fo_184 (fd_n 19 sr_X4_change_0 rfl) rfl
theorem dX4_change_22 : decode cX4_change 22 = .ok (.invokestatic 60, 3) := fo_184 (fd_n 22 sr_X4_change_0 rfl) rfl
theorem dX4_change_25 : decode cX4_change 25 = .ok (.ifCond .ne 9, 3) := fo_154 (fd_n 25 sr_X4_change_0 rfl) (by decide +kernel)
theorem dX4_change_28 : decode cX4_change 28 = .ok (.aload_n 0, 1) := fo_42 sr_X4_change_1
theorem dX4_change_29 : decode cX4_change 29 = .ok (.iconst 0, 1) := fo_3 (fd_n 1 sr_X4_change_1 rfl)
theorem dX4_change_30 : decode cX4_change 30 = .ok (.invokevirtual 64, 3) := fo_182 (fd_n 2 sr_X4_change_1 rfl) rfl
theorem dX4_change_33 : decode cX4_change 33 = .ok (.ireturn, 1) := fo_172 (fd_n 5 sr_X4_change_1 rfl)
theorem dX4_change_34 : decode cX4_change 34 = .ok (.aload_n 0, 1) := fo_42 (fd_n 6 sr_X4_change_1 rfl)
theorem dX4_change_35 : decode cX4_change 35 = .ok (.getfield 10, 3) := fo_180 (fd_n 7 sr_X4_change_1 rfl) rfl
theorem dX4_change_38 : decode cX4_change 38 = .ok (.iload_n 1, 1) := fo_27 (fd_n 10 sr_X4_change_1 rfl)
theorem dX4_change_39 : decode cX4_change 39 = .ok (.invokevirtual 68, 3) := fo_182 (fd_n 11 sr_X4_change_1 rfl) rfl
theorem dX4_change_42 : decode cX4_change 42 = .ok (.ifCond .ne 9, 3) := fo_154 (fd_n 14 sr_X4_change_1 rfl) (by decide +kernel)
theorem dX4_change_45 : decode cX4_change 45 = .ok (.aload_n 0, 1) := fo_42 (fd_n 17 sr_X4_change_1 rfl)
theorem dX4_change_46 : decode cX4_change 46 = .ok (.iconst 3, 1) := fo_6 (fd_n 18 sr_X4_change_1 rfl)
theorem dX4_change_47 : decode cX4_change 47 = .ok (.invokevirtual 64, 3) := fo_182 (fd_n 19 sr_X4_change_1 rfl) rfl
theorem dX4_change_50 : decode cX4_change 50 = .ok (.ireturn, 1) := fo_172 (fd_n 22 sr_X4_change_1 rfl)
theorem dX4_change_51 : decode cX4_change 51 = .ok (.aload_n 0, 1) := fo_42 (fd_n 23 sr_X4_change_1 rfl)
theorem dX4_change_52 : decode cX4_change 52 = .ok (.getfield 10, 3) := fo_180 (fd_n 24 sr_X4_change_1 rfl) rfl
theorem dX4_change_55 : decode cX4_change 55 = .ok (.getfield 84, 3) := fo_180 (fd_n 27 sr_X4_change_1 rfl) rfl
theorem dX4_change_58 : decode cX4_change 58 = .ok (.iload_n 2, 1) := fo_28 sr_X4_change_2
theorem dX4_change_59 : decode cX4_change 59 = .ok (.aaload, 1) := fo_50 (fd_n 1 sr_X4_change_2 rfl)
theorem dX4_change_60 : decode cX4_change 60 = .ok (.iload_n 1, 1) := fo_27 (fd_n 2 sr_X4_change_2 rfl)
theorem dX4_change_61 : decode cX4_change 61 = .ok (.iaload, 1) := fo_46 (fd_n 3 sr_X4_change_2 rfl)
theorem dX4_change_62 : decode cX4_change 62 = .ok (.istore 4, 2) := fo_54 (fd_n 4 sr_X4_change_2 rfl) rfl
theorem dX4_change_64 : decode cX4_change 64 = .ok (.aload_n 0, 1) := fo_42 (fd_n 6 sr_X4_change_2 rfl)
theorem dX4_change_65 : decode cX4_change 65 = .ok (.getfield 10, 3) := fo_180 (fd_n 7 sr_X4_change_2 rfl) rfl
theorem dX4_change_68 : decode cX4_change 68 = .ok (.getfield 84, 3) := fo_180 (fd_n 10 sr_X4_change_2 rfl) rfl
theorem dX4_change_71 : decode cX4_change 71 = .ok (.iload_n 2, 1) := fo_28 (fd_n 13 sr_X4_change_2 rfl)
theorem dX4_change_72 : decode cX4_change 72 = .ok (.aaload, 1) := fo_50 (fd_n 14 sr_X4_change_2 rfl)
theorem dX4_change_73 : decode cX4_change 73 = .ok (.iload_n 1, 1) := fo_27 (fd_n 15 sr_X4_change_2 rfl)
theorem dX4_change_74 : decode cX4_change 74 = .ok (.iload_n 3, 1) := fo_29 (fd_n 16 sr_X4_change_2 rfl)
theorem dX4_change_75 : decode cX4_change 75 = .ok (.iastore, 1) := fo_79 (fd_n 17 sr_X4_change_2 rfl)
theorem dX4_change_76 : decode cX4_change 76 = .ok (.iload 4, 2) := fo_21 (fd_n 18 sr_X4_change_2 rfl) rfl
theorem dX4_change_78 : decode cX4_change 78 = .ok (.ireturn, 1) := fo_172 (fd_n 20 sr_X4_change_2 rfl)
noncomputable def sl_X4_price_1 : List UInt8 := 27 :: 46 :: 62 :: 42 :: 180 :: 0 :: 10 :: 180 :: 0 :: 100 :: 27 :: 28 :: 79 :: 29 :: 172 :: []
noncomputable def sl_X4_price_0 : List UInt8 := 27 :: 7 :: 184 :: 0 :: 60 :: 153 :: 0 :: 12 :: 28 :: 16 :: 100 :: 184 :: 0 :: 60 :: 154 :: 0 :: 9 :: 42 :: 3 :: 182 :: 0 :: 64 :: 172 :: 42 :: 180 :: 0 :: 10 :: 180 :: 0 :: 100 :: sl_X4_price_1
theorem sr_X4_price_0 : fd_at cX4_price 0 sl_X4_price_0 := fd_base (by decide +kernel)
theorem sr_X4_price_1 : fd_at cX4_price 30 sl_X4_price_1 := fd_n 30 sr_X4_price_0 rfl
theorem dX4_price_0 : decode cX4_price 0 = .ok (.iload_n 1, 1) := fo_27 sr_X4_price_0
theorem dX4_price_1 : decode cX4_price 1 = .ok (.iconst 4, 1) := fo_7 (fd_n 1 sr_X4_price_0 rfl)
theorem dX4_price_2 : decode cX4_price 2 = .ok (.invokestatic 60, 3) := fo_184 (fd_n 2 sr_X4_price_0 rfl) rfl
theorem dX4_price_5 : decode cX4_price 5 = .ok (.ifCond .eq 12, 3) := fo_153 (fd_n 5 sr_X4_price_0 rfl) (by decide +kernel)
theorem dX4_price_8 : decode cX4_price 8 = .ok (.iload_n 2, 1) := fo_28 (fd_n 8 sr_X4_price_0 rfl)
theorem dX4_price_9 : decode cX4_price 9 = .ok (.bipush 100, 2) := fo_16 (fd_n 9 sr_X4_price_0 rfl) (by decide +kernel)
theorem dX4_price_11 : decode cX4_price 11 = .ok (.invokestatic 60, 3) := fo_184 (fd_n 11 sr_X4_price_0 rfl) rfl
theorem dX4_price_14 : decode cX4_price 14 = .ok (.ifCond .ne 9, 3) := fo_154 (fd_n 14 sr_X4_price_0 rfl) (by decide +kernel)
theorem dX4_price_17 : decode cX4_price 17 = .ok (.aload_n 0, 1) := fo_42 (fd_n 17 sr_X4_price_0 rfl)
theorem dX4_price_18 : decode cX4_price 18 = .ok (.iconst 0, 1) := fo_3 (fd_n 18 sr_X4_price_0 rfl)
theorem dX4_price_19 : decode cX4_price 19 = .ok (.invokevirtual 64, 3) := fo_182 (fd_n 19 sr_X4_price_0 rfl) rfl
theorem dX4_price_22 : decode cX4_price 22 = .ok (.ireturn, 1) := fo_172 (fd_n 22 sr_X4_price_0 rfl)
theorem dX4_price_23 : decode cX4_price 23 = .ok (.aload_n 0, 1) := fo_42 (fd_n 23 sr_X4_price_0 rfl)
theorem dX4_price_24 : decode cX4_price 24 = .ok (.getfield 10, 3) := fo_180 (fd_n 24 sr_X4_price_0 rfl) rfl
theorem dX4_price_27 : decode cX4_price 27 = .ok (.getfield 100, 3) := fo_180 (fd_n 27 sr_X4_price_0 rfl) rfl
theorem dX4_price_30 : decode cX4_price 30 = .ok (.iload_n 1, 1) := fo_27 sr_X4_price_1
theorem dX4_price_31 : decode cX4_price 31 = .ok (.iaload, 1) := fo_46 (fd_n 1 sr_X4_price_1 rfl)
theorem dX4_price_32 : decode cX4_price 32 = .ok (.istore_n 3, 1) := fo_62 (fd_n 2 sr_X4_price_1 rfl)
theorem dX4_price_33 : decode cX4_price 33 = .ok (.aload_n 0, 1) := fo_42 (fd_n 3 sr_X4_price_1 rfl)
theorem dX4_price_34 : decode cX4_price 34 = .ok (.getfield 10, 3) := fo_180 (fd_n 4 sr_X4_price_1 rfl) rfl
theorem dX4_price_37 : decode cX4_price 37 = .ok (.getfield 100, 3) := fo_180 (fd_n 7 sr_X4_price_1 rfl) rfl
theorem dX4_price_40 : decode cX4_price 40 = .ok (.iload_n 1, 1) := fo_27 (fd_n 10 sr_X4_price_1 rfl)
theorem dX4_price_41 : decode cX4_price 41 = .ok (.iload_n 2, 1) := fo_28 (fd_n 11 sr_X4_price_1 rfl)
theorem dX4_price_42 : decode cX4_price 42 = .ok (.iastore, 1) := fo_79 (fd_n 12 sr_X4_price_1 rfl)
theorem dX4_price_43 : decode cX4_price 43 = .ok (.iload_n 3, 1) := fo_29 (fd_n 13 sr_X4_price_1 rfl)
theorem dX4_price_44 : decode cX4_price 44 = .ok (.ireturn, 1) := fo_172 (fd_n 14 sr_X4_price_1 rfl)
noncomputable def sl_X4_window_2 : List UInt8 := 172 :: 42 :: 180 :: 0 :: 10 :: 27 :: 28 :: 29 :: 21 :: 4 :: 182 :: 0 :: 107 :: 42 :: 180 :: 0 :: 10 :: 180 :: 0 :: 103 :: 4 :: 100 :: 172 :: []
noncomputable def sl_X4_window_1 : List UInt8 := 7 :: 184 :: 0 :: 60 :: 154 :: 0 :: 9 :: 42 :: 3 :: 182 :: 0 :: 64 :: 172 :: 42 :: 180 :: 0 :: 10 :: 180 :: 0 :: 103 :: 16 :: 10 :: 161 :: 0 :: 9 :: 42 :: 4 :: 182 :: 0 :: 64 :: sl_X4_window_2
noncomputable def sl_X4_window_0 : List UInt8 := 27 :: 16 :: 25 :: 184 :: 0 :: 60 :: 153 :: 0 :: 29 :: 28 :: 16 :: 10 :: 184 :: 0 :: 60 :: 153 :: 0 :: 20 :: 29 :: 7 :: 184 :: 0 :: 60 :: 153 :: 0 :: 12 :: 21 :: 4 :: sl_X4_window_1
theorem sr_X4_window_0 : fd_at cX4_window 0 sl_X4_window_0 := fd_base (by decide +kernel)
theorem sr_X4_window_1 : fd_at cX4_window 28 sl_X4_window_1 := fd_n 28 sr_X4_window_0 rfl
theorem sr_X4_window_2 : fd_at cX4_window 58 sl_X4_window_2 := fd_n 30 sr_X4_window_1 rfl
theorem dX4_window_0 : decode cX4_window 0 = .ok (.iload_n 1, 1) := fo_27 sr_X4_window_0
theorem dX4_window_1 : decode cX4_window 1 = .ok (.bipush 25, 2) := fo_16 (fd_n 1 sr_X4_window_0 rfl) (by decide +kernel)
theorem dX4_window_3 : decode cX4_window 3 = .ok (.invokestatic 60, 3) := fo_184 (fd_n 3 sr_X4_window_0 rfl) rfl
theorem dX4_window_6 : decode cX4_window 6 = .ok (.ifCond .eq 29, 3) := fo_153 (fd_n 6 sr_X4_window_0 rfl) (by decide +kernel)
theorem dX4_window_9 : decode cX4_window 9 = .ok (.iload_n 2, 1) := fo_28 (fd_n 9 sr_X4_window_0 rfl)
theorem dX4_window_10 : decode cX4_window 10 = .ok (.bipush 10, 2) := fo_16 (fd_n 10 sr_X4_window_0 rfl) (by decide +kernel)
theorem dX4_window_12 : decode cX4_window 12 = .ok (.invokestatic 60, 3) := fo_184 (fd_n 12 sr_X4_window_0 rfl) rfl
theorem dX4_window_15 : decode cX4_window 15 = .ok (.ifCond .eq 20, 3) := fo_153 (fd_n 15 sr_X4_window_0 rfl) (by decide +kernel)
theorem dX4_window_18 : decode cX4_window 18 = .ok (.iload_n 3, 1) := fo_29 (fd_n 18 sr_X4_window_0 rfl)
theorem dX4_window_19 : decode cX4_window 19 = .ok (.iconst 4, 1) := fo_7 (fd_n 19 sr_X4_window_0 rfl)
theorem dX4_window_20 : decode cX4_window 20 = .ok (.invokestatic 60, 3) := fo_184 (fd_n 20 sr_X4_window_0 rfl) rfl
theorem dX4_window_23 : decode cX4_window 23 = .ok (.ifCond .eq 12, 3) := fo_153 (fd_n 23 sr_X4_window_0 rfl) (by decide +kernel)
theorem dX4_window_26 : decode cX4_window 26 = .ok (.iload 4, 2) := fo_21 (fd_n 26 sr_X4_window_0 rfl) rfl
theorem dX4_window_28 : decode cX4_window 28 = .ok (.iconst 4, 1) := fo_7 sr_X4_window_1
theorem dX4_window_29 : decode cX4_window 29 = .ok (.invokestatic 60, 3) := fo_184 (fd_n 1 sr_X4_window_1 rfl) rfl
theorem dX4_window_32 : decode cX4_window 32 = .ok (.ifCond .ne 9, 3) := fo_154 (fd_n 4 sr_X4_window_1 rfl) (by decide +kernel)
theorem dX4_window_35 : decode cX4_window 35 = .ok (.aload_n 0, 1) := fo_42 (fd_n 7 sr_X4_window_1 rfl)
theorem dX4_window_36 : decode cX4_window 36 = .ok (.iconst 0, 1) := fo_3 (fd_n 8 sr_X4_window_1 rfl)
theorem dX4_window_37 : decode cX4_window 37 = .ok (.invokevirtual 64, 3) := fo_182 (fd_n 9 sr_X4_window_1 rfl) rfl
theorem dX4_window_40 : decode cX4_window 40 = .ok (.ireturn, 1) := fo_172 (fd_n 12 sr_X4_window_1 rfl)
theorem dX4_window_41 : decode cX4_window 41 = .ok (.aload_n 0, 1) := fo_42 (fd_n 13 sr_X4_window_1 rfl)
theorem dX4_window_42 : decode cX4_window 42 = .ok (.getfield 10, 3) := fo_180 (fd_n 14 sr_X4_window_1 rfl) rfl
theorem dX4_window_45 : decode cX4_window 45 = .ok (.getfield 103, 3) := fo_180 (fd_n 17 sr_X4_window_1 rfl) rfl
theorem dX4_window_48 : decode cX4_window 48 = .ok (.bipush 10, 2) := fo_16 (fd_n 20 sr_X4_window_1 rfl) (by decide +kernel)
theorem dX4_window_50 : decode cX4_window 50 = .ok (.if_icmp .lt 9, 3) := fo_161 (fd_n 22 sr_X4_window_1 rfl) (by decide +kernel)
theorem dX4_window_53 : decode cX4_window 53 = .ok (.aload_n 0, 1) := fo_42 (fd_n 25 sr_X4_window_1 rfl)
theorem dX4_window_54 : decode cX4_window 54 = .ok (.iconst 1, 1) := fo_4 (fd_n 26 sr_X4_window_1 rfl)
theorem dX4_window_55 : decode cX4_window 55 = .ok (.invokevirtual 64, 3) := fo_182 (fd_n 27 sr_X4_window_1 rfl) rfl
theorem dX4_window_58 : decode cX4_window 58 = .ok (.ireturn, 1) := fo_172 sr_X4_window_2
theorem dX4_window_59 : decode cX4_window 59 = .ok (.aload_n 0, 1) := fo_42 (fd_n 1 sr_X4_window_2 rfl)
theorem dX4_window_60 : decode cX4_window 60 = .ok (.getfield 10, 3) := fo_180 (fd_n 2 sr_X4_window_2 rfl) rfl
theorem dX4_window_63 : decode cX4_window 63 = .ok (.iload_n 1, 1) := fo_27 (fd_n 5 sr_X4_window_2 rfl)
theorem dX4_window_64 : decode cX4_window 64 = .ok (.iload_n 2, 1) := fo_28 (fd_n 6 sr_X4_window_2 rfl)
theorem dX4_window_65 : decode cX4_window 65 = .ok (.iload_n 3, 1) := fo_29 (fd_n 7 sr_X4_window_2 rfl)
theorem dX4_window_66 : decode cX4_window 66 = .ok (.iload 4, 2) := fo_21 (fd_n 8 sr_X4_window_2 rfl) rfl
theorem dX4_window_68 : decode cX4_window 68 = .ok (.invokevirtual 107, 3) := fo_182 (fd_n 10 sr_X4_window_2 rfl) rfl
theorem dX4_window_71 : decode cX4_window 71 = .ok (.aload_n 0, 1) := fo_42 (fd_n 13 sr_X4_window_2 rfl)
theorem dX4_window_72 : decode cX4_window 72 = .ok (.getfield 10, 3) := fo_180 (fd_n 14 sr_X4_window_2 rfl) rfl
theorem dX4_window_75 : decode cX4_window 75 = .ok (.getfield 103, 3) := fo_180 (fd_n 17 sr_X4_window_2 rfl) rfl
theorem dX4_window_78 : decode cX4_window 78 = .ok (.iconst 1, 1) := fo_4 (fd_n 20 sr_X4_window_2 rfl)
theorem dX4_window_79 : decode cX4_window 79 = .ok (.isub, 1) := fo_100 (fd_n 21 sr_X4_window_2 rfl)
theorem dX4_window_80 : decode cX4_window 80 = .ok (.ireturn, 1) := fo_172 (fd_n 22 sr_X4_window_2 rfl)
noncomputable def sl_X4_windowOf_1 : List UInt8 := 28 :: 50 :: 27 :: 46 :: 172 :: []
noncomputable def sl_X4_windowOf_0 : List UInt8 := 42 :: 27 :: 182 :: 0 :: 111 :: 153 :: 0 :: 12 :: 28 :: 16 :: 6 :: 184 :: 0 :: 60 :: 154 :: 0 :: 9 :: 42 :: 3 :: 182 :: 0 :: 64 :: 172 :: 42 :: 180 :: 0 :: 10 :: 180 :: 0 :: 114 :: sl_X4_windowOf_1
theorem sr_X4_windowOf_0 : fd_at cX4_windowOf 0 sl_X4_windowOf_0 := fd_base (by decide +kernel)
theorem sr_X4_windowOf_1 : fd_at cX4_windowOf 30 sl_X4_windowOf_1 := fd_n 30 sr_X4_windowOf_0 rfl
theorem dX4_windowOf_0 : decode cX4_windowOf 0 = .ok (.aload_n 0, 1) := fo_42 sr_X4_windowOf_0
theorem dX4_windowOf_1 : decode cX4_windowOf 1 = .ok (.iload_n 1, 1) := fo_27 (fd_n 1 sr_X4_windowOf_0 rfl)
theorem dX4_windowOf_2 : decode cX4_windowOf 2 = .ok (.invokevirtual 111, 3) := fo_182 (fd_n 2 sr_X4_windowOf_0 rfl) rfl
theorem dX4_windowOf_5 : decode cX4_windowOf 5 = .ok (.ifCond .eq 12, 3) := fo_153 (fd_n 5 sr_X4_windowOf_0 rfl) (by decide +kernel)
theorem dX4_windowOf_8 : decode cX4_windowOf 8 = .ok (.iload_n 2, 1) := fo_28 (fd_n 8 sr_X4_windowOf_0 rfl)
theorem dX4_windowOf_9 : decode cX4_windowOf 9 = .ok (.bipush 6, 2) := fo_16 (fd_n 9 sr_X4_windowOf_0 rfl) (by decide +kernel)
theorem dX4_windowOf_11 : decode cX4_windowOf 11 = .ok (.invokestatic 60, 3) := fo_184 (fd_n 11 sr_X4_windowOf_0 rfl) rfl
theorem dX4_windowOf_14 : decode cX4_windowOf 14 = .ok (.ifCond .ne 9, 3) := fo_154 (fd_n 14 sr_X4_windowOf_0 rfl) (by decide +kernel)
theorem dX4_windowOf_17 : decode cX4_windowOf 17 = .ok (.aload_n 0, 1) := fo_42 (fd_n 17 sr_X4_windowOf_0 rfl)
theorem dX4_windowOf_18 : decode cX4_windowOf 18 = .ok (.iconst 0, 1) := fo_3 (fd_n 18 sr_X4_windowOf_0 rfl)
theorem dX4_windowOf_19 : decode cX4_windowOf 19 = .ok (.invokevirtual 64, 3) := fo_182 (fd_n 19 sr_X4_windowOf_0 rfl) rfl
theorem dX4_windowOf_22 : decode cX4_windowOf 22 = .ok (.ireturn, 1) := fo_172 (fd_n 22 sr_X4_windowOf_0 rfl)
theorem dX4_windowOf_23 : decode cX4_windowOf 23 = .ok (.aload_n 0, 1) := fo_42 (fd_n 23 sr_X4_windowOf_0 rfl)
theorem dX4_windowOf_24 : decode cX4_windowOf 24 = .ok (.getfield 10, 3) := fo_180 (fd_n 24 sr_X4_windowOf_0 rfl) rfl
theorem dX4_windowOf_27 : decode cX4_windowOf 27 = .ok (.getfield 114, 3) := fo_180 (fd_n 27 sr_X4_windowOf_0 rfl) rfl
theorem dX4_windowOf_30 : decode cX4_windowOf 30 = .ok (.iload_n 2, 1) := fo_28 sr_X4_windowOf_1
theorem dX4_windowOf_31 : decode cX4_windowOf 31 = .ok (.aaload, 1) := fo_50 (fd_n 1 sr_X4_windowOf_1 rfl)
theorem dX4_windowOf_32 : decode cX4_windowOf 32 = .ok (.iload_n 1, 1) := fo_27 (fd_n 2 sr_X4_windowOf_1 rfl)
theorem dX4_windowOf_33 : decode cX4_windowOf 33 = .ok (.iaload, 1) := fo_46 (fd_n 3 sr_X4_windowOf_1 rfl)
theorem dX4_windowOf_34 : decode cX4_windowOf 34 = .ok (.ireturn, 1) := fo_172 (fd_n 4 sr_X4_windowOf_1 rfl)
noncomputable def sl_X4_turn_2 : List UInt8 := 27 :: 29 :: 79 :: 21 :: 4 :: 172 :: []
noncomputable def sl_X4_turn_1 : List UInt8 := 42 :: 3 :: 182 :: 0 :: 64 :: 172 :: 42 :: 180 :: 0 :: 10 :: 180 :: 0 :: 114 :: 28 :: 50 :: 27 :: 46 :: 54 :: 4 :: 42 :: 180 :: 0 :: 10 :: 180 :: 0 :: 114 :: 28 :: 50 :: sl_X4_turn_2
noncomputable def sl_X4_turn_0 : List UInt8 := 42 :: 27 :: 182 :: 0 :: 111 :: 153 :: 0 :: 24 :: 28 :: 4 :: 161 :: 0 :: 19 :: 28 :: 6 :: 163 :: 0 :: 14 :: 29 :: 28 :: 184 :: 0 :: 117 :: 184 :: 0 :: 60 :: 154 :: 0 :: 9 :: sl_X4_turn_1
theorem sr_X4_turn_0 : fd_at cX4_turn 0 sl_X4_turn_0 := fd_base (by decide +kernel)
theorem sr_X4_turn_1 : fd_at cX4_turn 29 sl_X4_turn_1 := fd_n 29 sr_X4_turn_0 rfl
theorem sr_X4_turn_2 : fd_at cX4_turn 57 sl_X4_turn_2 := fd_n 28 sr_X4_turn_1 rfl
theorem dX4_turn_0 : decode cX4_turn 0 = .ok (.aload_n 0, 1) := fo_42 sr_X4_turn_0
theorem dX4_turn_1 : decode cX4_turn 1 = .ok (.iload_n 1, 1) := fo_27 (fd_n 1 sr_X4_turn_0 rfl)
theorem dX4_turn_2 : decode cX4_turn 2 = .ok (.invokevirtual 111, 3) := fo_182 (fd_n 2 sr_X4_turn_0 rfl) rfl
theorem dX4_turn_5 : decode cX4_turn 5 = .ok (.ifCond .eq 24, 3) := fo_153 (fd_n 5 sr_X4_turn_0 rfl) (by decide +kernel)
theorem dX4_turn_8 : decode cX4_turn 8 = .ok (.iload_n 2, 1) := fo_28 (fd_n 8 sr_X4_turn_0 rfl)
theorem dX4_turn_9 : decode cX4_turn 9 = .ok (.iconst 1, 1) := fo_4 (fd_n 9 sr_X4_turn_0 rfl)
theorem dX4_turn_10 : decode cX4_turn 10 = .ok (.if_icmp .lt 19, 3) := fo_161 (fd_n 10 sr_X4_turn_0 rfl) (by decide +kernel)
theorem dX4_turn_13 : decode cX4_turn 13 = .ok (.iload_n 2, 1) := fo_28 (fd_n 13 sr_X4_turn_0 rfl)
theorem dX4_turn_14 : decode cX4_turn 14 = .ok (.iconst 3, 1) := fo_6 (fd_n 14 sr_X4_turn_0 rfl)
theorem dX4_turn_15 : decode cX4_turn 15 = .ok (.if_icmp .gt 14, 3) := fo_163 (fd_n 15 sr_X4_turn_0 rfl) (by decide +kernel)
theorem dX4_turn_18 : decode cX4_turn 18 = .ok (.iload_n 3, 1) := fo_29 (fd_n 18 sr_X4_turn_0 rfl)
theorem dX4_turn_19 : decode cX4_turn 19 = .ok (.iload_n 2, 1) := fo_28 (fd_n 19 sr_X4_turn_0 rfl)
theorem dX4_turn_20 : decode cX4_turn 20 = .ok (.invokestatic 117, 3) := fo_184 (fd_n 20 sr_X4_turn_0 rfl) rfl
theorem dX4_turn_23 : decode cX4_turn 23 = .ok (.invokestatic 60, 3) := fo_184 (fd_n 23 sr_X4_turn_0 rfl) rfl
theorem dX4_turn_26 : decode cX4_turn 26 = .ok (.ifCond .ne 9, 3) := fo_154 (fd_n 26 sr_X4_turn_0 rfl) (by decide +kernel)
theorem dX4_turn_29 : decode cX4_turn 29 = .ok (.aload_n 0, 1) := fo_42 sr_X4_turn_1
theorem dX4_turn_30 : decode cX4_turn 30 = .ok (.iconst 0, 1) := fo_3 (fd_n 1 sr_X4_turn_1 rfl)
theorem dX4_turn_31 : decode cX4_turn 31 = .ok (.invokevirtual 64, 3) := fo_182 (fd_n 2 sr_X4_turn_1 rfl) rfl
theorem dX4_turn_34 : decode cX4_turn 34 = .ok (.ireturn, 1) := fo_172 (fd_n 5 sr_X4_turn_1 rfl)
theorem dX4_turn_35 : decode cX4_turn 35 = .ok (.aload_n 0, 1) := fo_42 (fd_n 6 sr_X4_turn_1 rfl)
theorem dX4_turn_36 : decode cX4_turn 36 = .ok (.getfield 10, 3) := fo_180 (fd_n 7 sr_X4_turn_1 rfl) rfl
theorem dX4_turn_39 : decode cX4_turn 39 = .ok (.getfield 114, 3) := fo_180 (fd_n 10 sr_X4_turn_1 rfl) rfl
theorem dX4_turn_42 : decode cX4_turn 42 = .ok (.iload_n 2, 1) := fo_28 (fd_n 13 sr_X4_turn_1 rfl)
theorem dX4_turn_43 : decode cX4_turn 43 = .ok (.aaload, 1) := fo_50 (fd_n 14 sr_X4_turn_1 rfl)
theorem dX4_turn_44 : decode cX4_turn 44 = .ok (.iload_n 1, 1) := fo_27 (fd_n 15 sr_X4_turn_1 rfl)
theorem dX4_turn_45 : decode cX4_turn 45 = .ok (.iaload, 1) := fo_46 (fd_n 16 sr_X4_turn_1 rfl)
theorem dX4_turn_46 : decode cX4_turn 46 = .ok (.istore 4, 2) := fo_54 (fd_n 17 sr_X4_turn_1 rfl) rfl
theorem dX4_turn_48 : decode cX4_turn 48 = .ok (.aload_n 0, 1) := fo_42 (fd_n 19 sr_X4_turn_1 rfl)
theorem dX4_turn_49 : decode cX4_turn 49 = .ok (.getfield 10, 3) := fo_180 (fd_n 20 sr_X4_turn_1 rfl) rfl
theorem dX4_turn_52 : decode cX4_turn 52 = .ok (.getfield 114, 3) := fo_180 (fd_n 23 sr_X4_turn_1 rfl) rfl
theorem dX4_turn_55 : decode cX4_turn 55 = .ok (.iload_n 2, 1) := fo_28 (fd_n 26 sr_X4_turn_1 rfl)
theorem dX4_turn_56 : decode cX4_turn 56 = .ok (.aaload, 1) := fo_50 (fd_n 27 sr_X4_turn_1 rfl)
theorem dX4_turn_57 : decode cX4_turn 57 = .ok (.iload_n 1, 1) := fo_27 sr_X4_turn_2
theorem dX4_turn_58 : decode cX4_turn 58 = .ok (.iload_n 3, 1) := fo_29 (fd_n 1 sr_X4_turn_2 rfl)
theorem dX4_turn_59 : decode cX4_turn 59 = .ok (.iastore, 1) := fo_79 (fd_n 2 sr_X4_turn_2 rfl)
theorem dX4_turn_60 : decode cX4_turn 60 = .ok (.iload 4, 2) := fo_21 (fd_n 3 sr_X4_turn_2 rfl) rfl
theorem dX4_turn_62 : decode cX4_turn 62 = .ok (.ireturn, 1) := fo_172 (fd_n 5 sr_X4_turn_2 rfl)
noncomputable def sl_X4_contract_3 : List UInt8 := 3 :: 172 :: []
noncomputable def sl_X4_contract_2 : List UInt8 := 156 :: 0 :: 7 :: 3 :: 167 :: 0 :: 4 :: 29 :: 79 :: 42 :: 180 :: 0 :: 25 :: 42 :: 180 :: 0 :: 10 :: 27 :: 182 :: 0 :: 120 :: 153 :: 0 :: 7 :: 4 :: 167 :: 0 :: 4 :: sl_X4_contract_3
noncomputable def sl_X4_contract_1 : List UInt8 := 3 :: 182 :: 0 :: 64 :: 172 :: 42 :: 180 :: 0 :: 10 :: 180 :: 0 :: 114 :: 7 :: 50 :: 27 :: 28 :: 79 :: 42 :: 180 :: 0 :: 10 :: 180 :: 0 :: 114 :: 8 :: 50 :: 27 :: 28 :: sl_X4_contract_2
noncomputable def sl_X4_contract_0 : List UInt8 := 42 :: 27 :: 182 :: 0 :: 111 :: 153 :: 0 :: 22 :: 28 :: 2 :: 161 :: 0 :: 17 :: 28 :: 7 :: 162 :: 0 :: 12 :: 29 :: 16 :: 37 :: 184 :: 0 :: 60 :: 154 :: 0 :: 9 :: 42 :: sl_X4_contract_1
theorem sr_X4_contract_0 : fd_at cX4_contract 0 sl_X4_contract_0 := fd_base (by decide +kernel)
theorem sr_X4_contract_1 : fd_at cX4_contract 28 sl_X4_contract_1 := fd_n 28 sr_X4_contract_0 rfl
theorem sr_X4_contract_2 : fd_at cX4_contract 56 sl_X4_contract_2 := fd_n 28 sr_X4_contract_1 rfl
theorem sr_X4_contract_3 : fd_at cX4_contract 84 sl_X4_contract_3 := fd_n 28 sr_X4_contract_2 rfl
theorem dX4_contract_0 : decode cX4_contract 0 = .ok (.aload_n 0, 1) := fo_42 sr_X4_contract_0
theorem dX4_contract_1 : decode cX4_contract 1 = .ok (.iload_n 1, 1) := fo_27 (fd_n 1 sr_X4_contract_0 rfl)
theorem dX4_contract_2 : decode cX4_contract 2 = .ok (.invokevirtual 111, 3) := fo_182 (fd_n 2 sr_X4_contract_0 rfl) rfl
theorem dX4_contract_5 : decode cX4_contract 5 = .ok (.ifCond .eq 22, 3) := fo_153 (fd_n 5 sr_X4_contract_0 rfl) (by decide +kernel)
theorem dX4_contract_8 : decode cX4_contract 8 = .ok (.iload_n 2, 1) := fo_28 (fd_n 8 sr_X4_contract_0 rfl)
theorem dX4_contract_9 : decode cX4_contract 9 = .ok (.iconst (-1), 1) := fo_2 (fd_n 9 sr_X4_contract_0 rfl)
theorem dX4_contract_10 : decode cX4_contract 10 = .ok (.if_icmp .lt 17, 3) := fo_161 (fd_n 10 sr_X4_contract_0 rfl) (by decide +kernel)
theorem dX4_contract_13 : decode cX4_contract 13 = .ok (.iload_n 2, 1) := fo_28 (fd_n 13 sr_X4_contract_0 rfl)
theorem dX4_contract_14 : decode cX4_contract 14 = .ok (.iconst 4, 1) := fo_7 (fd_n 14 sr_X4_contract_0 rfl)
theorem dX4_contract_15 : decode cX4_contract 15 = .ok (.if_icmp .ge 12, 3) := fo_162 (fd_n 15 sr_X4_contract_0 rfl) (by decide +kernel)
theorem dX4_contract_18 : decode cX4_contract 18 = .ok (.iload_n 3, 1) := fo_29 (fd_n 18 sr_X4_contract_0 rfl)
theorem dX4_contract_19 : decode cX4_contract 19 = .ok (.bipush 37, 2) := fo_16 (fd_n 19 sr_X4_contract_0 rfl) (by decide +kernel)
theorem dX4_contract_21 : decode cX4_contract 21 = .ok (.invokestatic 60, 3) := fo_184 (fd_n 21 sr_X4_contract_0 rfl) rfl
theorem dX4_contract_24 : decode cX4_contract 24 = .ok (.ifCond .ne 9, 3) := fo_154 (fd_n 24 sr_X4_contract_0 rfl) (by decide +kernel)
theorem dX4_contract_27 : decode cX4_contract 27 = .ok (.aload_n 0, 1) := fo_42 (fd_n 27 sr_X4_contract_0 rfl)
theorem dX4_contract_28 : decode cX4_contract 28 = .ok (.iconst 0, 1) := fo_3 sr_X4_contract_1
theorem dX4_contract_29 : decode cX4_contract 29 = .ok (.invokevirtual 64, 3) := fo_182 (fd_n 1 sr_X4_contract_1 rfl) rfl
theorem dX4_contract_32 : decode cX4_contract 32 = .ok (.ireturn, 1) := fo_172 (fd_n 4 sr_X4_contract_1 rfl)
theorem dX4_contract_33 : decode cX4_contract 33 = .ok (.aload_n 0, 1) := fo_42 (fd_n 5 sr_X4_contract_1 rfl)
theorem dX4_contract_34 : decode cX4_contract 34 = .ok (.getfield 10, 3) := fo_180 (fd_n 6 sr_X4_contract_1 rfl) rfl
theorem dX4_contract_37 : decode cX4_contract 37 = .ok (.getfield 114, 3) := fo_180 (fd_n 9 sr_X4_contract_1 rfl) rfl
theorem dX4_contract_40 : decode cX4_contract 40 = .ok (.iconst 4, 1) := fo_7 (fd_n 12 sr_X4_contract_1 rfl)
theorem dX4_contract_41 : decode cX4_contract 41 = .ok (.aaload, 1) := fo_50 (fd_n 13 sr_X4_contract_1 rfl)
theorem dX4_contract_42 : decode cX4_contract 42 = .ok (.iload_n 1, 1) := fo_27 (fd_n 14 sr_X4_contract_1 rfl)
theorem dX4_contract_43 : decode cX4_contract 43 = .ok (.iload_n 2, 1) := fo_28 (fd_n 15 sr_X4_contract_1 rfl)
theorem dX4_contract_44 : decode cX4_contract 44 = .ok (.iastore, 1) := fo_79 (fd_n 16 sr_X4_contract_1 rfl)
theorem dX4_contract_45 : decode cX4_contract 45 = .ok (.aload_n 0, 1) := fo_42 (fd_n 17 sr_X4_contract_1 rfl)
theorem dX4_contract_46 : decode cX4_contract 46 = .ok (.getfield 10, 3) := fo_180 (fd_n 18 sr_X4_contract_1 rfl) rfl
theorem dX4_contract_49 : decode cX4_contract 49 = .ok (.getfield 114, 3) := fo_180 (fd_n 21 sr_X4_contract_1 rfl) rfl
theorem dX4_contract_52 : decode cX4_contract 52 = .ok (.iconst 5, 1) := fo_8 (fd_n 24 sr_X4_contract_1 rfl)
theorem dX4_contract_53 : decode cX4_contract 53 = .ok (.aaload, 1) := fo_50 (fd_n 25 sr_X4_contract_1 rfl)
theorem dX4_contract_54 : decode cX4_contract 54 = .ok (.iload_n 1, 1) := fo_27 (fd_n 26 sr_X4_contract_1 rfl)
theorem dX4_contract_55 : decode cX4_contract 55 = .ok (.iload_n 2, 1) := fo_28 (fd_n 27 sr_X4_contract_1 rfl)
theorem dX4_contract_56 : decode cX4_contract 56 = .ok (.ifCond .ge 7, 3) := fo_156 sr_X4_contract_2 (by decide +kernel)
theorem dX4_contract_59 : decode cX4_contract 59 = .ok (.iconst 0, 1) := fo_3 (fd_n 3 sr_X4_contract_2 rfl)
theorem dX4_contract_60 : decode cX4_contract 60 = .ok (.goto 4, 3) := fo_167 (fd_n 4 sr_X4_contract_2 rfl) (by decide +kernel)
theorem dX4_contract_63 : decode cX4_contract 63 = .ok (.iload_n 3, 1) := fo_29 (fd_n 7 sr_X4_contract_2 rfl)
theorem dX4_contract_64 : decode cX4_contract 64 = .ok (.iastore, 1) := fo_79 (fd_n 8 sr_X4_contract_2 rfl)
theorem dX4_contract_65 : decode cX4_contract 65 = .ok (.aload_n 0, 1) := fo_42 (fd_n 9 sr_X4_contract_2 rfl)
theorem dX4_contract_66 : decode cX4_contract 66 = .ok (.getfield 25, 3) := fo_180 (fd_n 10 sr_X4_contract_2 rfl) rfl
theorem dX4_contract_69 : decode cX4_contract 69 = .ok (.aload_n 0, 1) := fo_42 (fd_n 13 sr_X4_contract_2 rfl)
theorem dX4_contract_70 : decode cX4_contract 70 = .ok (.getfield 10, 3) := fo_180 (fd_n 14 sr_X4_contract_2 rfl) rfl
theorem dX4_contract_73 : decode cX4_contract 73 = .ok (.iload_n 1, 1) := fo_27 (fd_n 17 sr_X4_contract_2 rfl)
theorem dX4_contract_74 : decode cX4_contract 74 = .ok (.invokevirtual 120, 3) := fo_182 (fd_n 18 sr_X4_contract_2 rfl) rfl
theorem dX4_contract_77 : decode cX4_contract 77 = .ok (.ifCond .eq 7, 3) := fo_153 (fd_n 21 sr_X4_contract_2 rfl) (by decide +kernel)
theorem dX4_contract_80 : decode cX4_contract 80 = .ok (.iconst 1, 1) := fo_4 (fd_n 24 sr_X4_contract_2 rfl)
theorem dX4_contract_81 : decode cX4_contract 81 = .ok (.goto 4, 3) := fo_167 (fd_n 25 sr_X4_contract_2 rfl) (by decide +kernel)
theorem dX4_contract_84 : decode cX4_contract 84 = .ok (.iconst 0, 1) := fo_3 sr_X4_contract_3
theorem dX4_contract_85 : decode cX4_contract 85 = .ok (.ireturn, 1) := fo_172 (fd_n 1 sr_X4_contract_3 rfl)
noncomputable def sl_X4_purse_0 : List UInt8 := 27 :: 7 :: 184 :: 0 :: 60 :: 154 :: 0 :: 9 :: 42 :: 3 :: 182 :: 0 :: 64 :: 172 :: 42 :: 180 :: 0 :: 10 :: 180 :: 0 :: 124 :: 27 :: 46 :: 172 :: []
theorem sr_X4_purse_0 : fd_at cX4_purse 0 sl_X4_purse_0 := fd_base (by decide +kernel)
theorem dX4_purse_0 : decode cX4_purse 0 = .ok (.iload_n 1, 1) := fo_27 sr_X4_purse_0
theorem dX4_purse_1 : decode cX4_purse 1 = .ok (.iconst 4, 1) := fo_7 (fd_n 1 sr_X4_purse_0 rfl)
theorem dX4_purse_2 : decode cX4_purse 2 = .ok (.invokestatic 60, 3) := fo_184 (fd_n 2 sr_X4_purse_0 rfl) rfl
theorem dX4_purse_5 : decode cX4_purse 5 = .ok (.ifCond .ne 9, 3) := fo_154 (fd_n 5 sr_X4_purse_0 rfl) (by decide +kernel)
theorem dX4_purse_8 : decode cX4_purse 8 = .ok (.aload_n 0, 1) := fo_42 (fd_n 8 sr_X4_purse_0 rfl)
theorem dX4_purse_9 : decode cX4_purse 9 = .ok (.iconst 0, 1) := fo_3 (fd_n 9 sr_X4_purse_0 rfl)
theorem dX4_purse_10 : decode cX4_purse 10 = .ok (.invokevirtual 64, 3) := fo_182 (fd_n 10 sr_X4_purse_0 rfl) rfl
theorem dX4_purse_13 : decode cX4_purse 13 = .ok (.ireturn, 1) := fo_172 (fd_n 13 sr_X4_purse_0 rfl)
theorem dX4_purse_14 : decode cX4_purse 14 = .ok (.aload_n 0, 1) := fo_42 (fd_n 14 sr_X4_purse_0 rfl)
theorem dX4_purse_15 : decode cX4_purse 15 = .ok (.getfield 10, 3) := fo_180 (fd_n 15 sr_X4_purse_0 rfl) rfl
theorem dX4_purse_18 : decode cX4_purse 18 = .ok (.getfield 124, 3) := fo_180 (fd_n 18 sr_X4_purse_0 rfl) rfl
theorem dX4_purse_21 : decode cX4_purse 21 = .ok (.iload_n 1, 1) := fo_27 (fd_n 21 sr_X4_purse_0 rfl)
theorem dX4_purse_22 : decode cX4_purse 22 = .ok (.iaload, 1) := fo_46 (fd_n 22 sr_X4_purse_0 rfl)
theorem dX4_purse_23 : decode cX4_purse 23 = .ok (.ireturn, 1) := fo_172 (fd_n 23 sr_X4_purse_0 rfl)
noncomputable def sl_X4_sees_1 : List UInt8 := 42 :: 180 :: 0 :: 10 :: 27 :: 182 :: 0 :: 127 :: 42 :: 180 :: 0 :: 25 :: 28 :: 182 :: 0 :: 131 :: 172 :: []
noncomputable def sl_X4_sees_0 : List UInt8 := 42 :: 27 :: 182 :: 0 :: 111 :: 153 :: 0 :: 13 :: 28 :: 4 :: 161 :: 0 :: 8 :: 28 :: 7 :: 164 :: 0 :: 9 :: 42 :: 3 :: 182 :: 0 :: 64 :: 172 :: 42 :: 180 :: 0 :: 25 :: sl_X4_sees_1
theorem sr_X4_sees_0 : fd_at cX4_sees 0 sl_X4_sees_0 := fd_base (by decide +kernel)
theorem sr_X4_sees_1 : fd_at cX4_sees 28 sl_X4_sees_1 := fd_n 28 sr_X4_sees_0 rfl
theorem dX4_sees_0 : decode cX4_sees 0 = .ok (.aload_n 0, 1) := fo_42 sr_X4_sees_0
theorem dX4_sees_1 : decode cX4_sees 1 = .ok (.iload_n 1, 1) := fo_27 (fd_n 1 sr_X4_sees_0 rfl)
theorem dX4_sees_2 : decode cX4_sees 2 = .ok (.invokevirtual 111, 3) := fo_182 (fd_n 2 sr_X4_sees_0 rfl) rfl
theorem dX4_sees_5 : decode cX4_sees 5 = .ok (.ifCond .eq 13, 3) := fo_153 (fd_n 5 sr_X4_sees_0 rfl) (by decide +kernel)
theorem dX4_sees_8 : decode cX4_sees 8 = .ok (.iload_n 2, 1) := fo_28 (fd_n 8 sr_X4_sees_0 rfl)
theorem dX4_sees_9 : decode cX4_sees 9 = .ok (.iconst 1, 1) := fo_4 (fd_n 9 sr_X4_sees_0 rfl)
theorem dX4_sees_10 : decode cX4_sees 10 = .ok (.if_icmp .lt 8, 3) := fo_161 (fd_n 10 sr_X4_sees_0 rfl) (by decide +kernel)
theorem dX4_sees_13 : decode cX4_sees 13 = .ok (.iload_n 2, 1) := fo_28 (fd_n 13 sr_X4_sees_0 rfl)
theorem dX4_sees_14 : decode cX4_sees 14 = .ok (.iconst 4, 1) := fo_7 (fd_n 14 sr_X4_sees_0 rfl)
theorem dX4_sees_15 : decode cX4_sees 15 = .ok (.if_icmp .le 9, 3) := fo_164 (fd_n 15 sr_X4_sees_0 rfl) (by decide +kernel)
theorem dX4_sees_18 : decode cX4_sees 18 = .ok (.aload_n 0, 1) := fo_42 (fd_n 18 sr_X4_sees_0 rfl)
theorem dX4_sees_19 : decode cX4_sees 19 = .ok (.iconst 0, 1) := fo_3 (fd_n 19 sr_X4_sees_0 rfl)
theorem dX4_sees_20 : decode cX4_sees 20 = .ok (.invokevirtual 64, 3) := fo_182 (fd_n 20 sr_X4_sees_0 rfl) rfl
theorem dX4_sees_23 : decode cX4_sees 23 = .ok (.ireturn, 1) := fo_172 (fd_n 23 sr_X4_sees_0 rfl)
theorem dX4_sees_24 : decode cX4_sees 24 = .ok (.aload_n 0, 1) := fo_42 (fd_n 24 sr_X4_sees_0 rfl)
theorem dX4_sees_25 : decode cX4_sees 25 = .ok (.getfield 25, 3) := fo_180 (fd_n 25 sr_X4_sees_0 rfl) rfl
theorem dX4_sees_28 : decode cX4_sees 28 = .ok (.aload_n 0, 1) := fo_42 sr_X4_sees_1
theorem dX4_sees_29 : decode cX4_sees 29 = .ok (.getfield 10, 3) := fo_180 (fd_n 1 sr_X4_sees_1 rfl) rfl
theorem dX4_sees_32 : decode cX4_sees 32 = .ok (.iload_n 1, 1) := fo_27 (fd_n 4 sr_X4_sees_1 rfl)
theorem dX4_sees_33 : decode cX4_sees 33 = .ok (.invokevirtual 127, 3) := fo_182 (fd_n 5 sr_X4_sees_1 rfl) rfl
theorem dX4_sees_36 : decode cX4_sees 36 = .ok (.aload_n 0, 1) := fo_42 (fd_n 8 sr_X4_sees_1 rfl)
theorem dX4_sees_37 : decode cX4_sees 37 = .ok (.getfield 25, 3) := fo_180 (fd_n 9 sr_X4_sees_1 rfl) rfl
theorem dX4_sees_40 : decode cX4_sees 40 = .ok (.iload_n 2, 1) := fo_28 (fd_n 12 sr_X4_sees_1 rfl)
theorem dX4_sees_41 : decode cX4_sees 41 = .ok (.invokevirtual 131, 3) := fo_182 (fd_n 13 sr_X4_sees_1 rfl) rfl
theorem dX4_sees_44 : decode cX4_sees 44 = .ok (.ireturn, 1) := fo_172 (fd_n 16 sr_X4_sees_1 rfl)
noncomputable def sl_X4_view_0 : List UInt8 := 42 :: 27 :: 182 :: 0 :: 111 :: 154 :: 0 :: 9 :: 42 :: 3 :: 182 :: 0 :: 64 :: 172 :: 42 :: 180 :: 0 :: 25 :: 42 :: 180 :: 0 :: 10 :: 27 :: 182 :: 0 :: 134 :: 172 :: []
theorem sr_X4_view_0 : fd_at cX4_view 0 sl_X4_view_0 := fd_base (by decide +kernel)
theorem dX4_view_0 : decode cX4_view 0 = .ok (.aload_n 0, 1) := fo_42 sr_X4_view_0
theorem dX4_view_1 : decode cX4_view 1 = .ok (.iload_n 1, 1) := fo_27 (fd_n 1 sr_X4_view_0 rfl)
theorem dX4_view_2 : decode cX4_view 2 = .ok (.invokevirtual 111, 3) := fo_182 (fd_n 2 sr_X4_view_0 rfl) rfl
theorem dX4_view_5 : decode cX4_view 5 = .ok (.ifCond .ne 9, 3) := fo_154 (fd_n 5 sr_X4_view_0 rfl) (by decide +kernel)
theorem dX4_view_8 : decode cX4_view 8 = .ok (.aload_n 0, 1) := fo_42 (fd_n 8 sr_X4_view_0 rfl)
theorem dX4_view_9 : decode cX4_view 9 = .ok (.iconst 0, 1) := fo_3 (fd_n 9 sr_X4_view_0 rfl)
theorem dX4_view_10 : decode cX4_view 10 = .ok (.invokevirtual 64, 3) := fo_182 (fd_n 10 sr_X4_view_0 rfl) rfl
theorem dX4_view_13 : decode cX4_view 13 = .ok (.ireturn, 1) := fo_172 (fd_n 13 sr_X4_view_0 rfl)
theorem dX4_view_14 : decode cX4_view 14 = .ok (.aload_n 0, 1) := fo_42 (fd_n 14 sr_X4_view_0 rfl)
theorem dX4_view_15 : decode cX4_view 15 = .ok (.getfield 25, 3) := fo_180 (fd_n 15 sr_X4_view_0 rfl) rfl
theorem dX4_view_18 : decode cX4_view 18 = .ok (.aload_n 0, 1) := fo_42 (fd_n 18 sr_X4_view_0 rfl)
theorem dX4_view_19 : decode cX4_view 19 = .ok (.getfield 10, 3) := fo_180 (fd_n 19 sr_X4_view_0 rfl) rfl
theorem dX4_view_22 : decode cX4_view 22 = .ok (.iload_n 1, 1) := fo_27 (fd_n 22 sr_X4_view_0 rfl)
theorem dX4_view_23 : decode cX4_view 23 = .ok (.invokevirtual 134, 3) := fo_182 (fd_n 23 sr_X4_view_0 rfl) rfl
theorem dX4_view_26 : decode cX4_view 26 = .ok (.ireturn, 1) := fo_172 (fd_n 26 sr_X4_view_0 rfl)
noncomputable def sl_X4_share_1 : List UInt8 := 27 :: 28 :: 182 :: 0 :: 138 :: 172 :: []
noncomputable def sl_X4_share_0 : List UInt8 := 42 :: 27 :: 182 :: 0 :: 111 :: 153 :: 0 :: 11 :: 28 :: 7 :: 184 :: 0 :: 60 :: 154 :: 0 :: 9 :: 42 :: 3 :: 182 :: 0 :: 64 :: 172 :: 42 :: 180 :: 0 :: 25 :: 42 :: 180 :: 0 :: 10 :: sl_X4_share_1
theorem sr_X4_share_0 : fd_at cX4_share 0 sl_X4_share_0 := fd_base (by decide +kernel)
theorem sr_X4_share_1 : fd_at cX4_share 30 sl_X4_share_1 := fd_n 30 sr_X4_share_0 rfl
theorem dX4_share_0 : decode cX4_share 0 = .ok (.aload_n 0, 1) := fo_42 sr_X4_share_0
theorem dX4_share_1 : decode cX4_share 1 = .ok (.iload_n 1, 1) := fo_27 (fd_n 1 sr_X4_share_0 rfl)
theorem dX4_share_2 : decode cX4_share 2 = .ok (.invokevirtual 111, 3) := fo_182 (fd_n 2 sr_X4_share_0 rfl) rfl
theorem dX4_share_5 : decode cX4_share 5 = .ok (.ifCond .eq 11, 3) := fo_153 (fd_n 5 sr_X4_share_0 rfl) (by decide +kernel)
theorem dX4_share_8 : decode cX4_share 8 = .ok (.iload_n 2, 1) := fo_28 (fd_n 8 sr_X4_share_0 rfl)
theorem dX4_share_9 : decode cX4_share 9 = .ok (.iconst 4, 1) := fo_7 (fd_n 9 sr_X4_share_0 rfl)
theorem dX4_share_10 : decode cX4_share 10 = .ok (.invokestatic 60, 3) := fo_184 (fd_n 10 sr_X4_share_0 rfl) rfl
theorem dX4_share_13 : decode cX4_share 13 = .ok (.ifCond .ne 9, 3) := fo_154 (fd_n 13 sr_X4_share_0 rfl) (by decide +kernel)
theorem dX4_share_16 : decode cX4_share 16 = .ok (.aload_n 0, 1) := fo_42 (fd_n 16 sr_X4_share_0 rfl)
theorem dX4_share_17 : decode cX4_share 17 = .ok (.iconst 0, 1) := fo_3 (fd_n 17 sr_X4_share_0 rfl)
theorem dX4_share_18 : decode cX4_share 18 = .ok (.invokevirtual 64, 3) := fo_182 (fd_n 18 sr_X4_share_0 rfl) rfl
theorem dX4_share_21 : decode cX4_share 21 = .ok (.ireturn, 1) := fo_172 (fd_n 21 sr_X4_share_0 rfl)
theorem dX4_share_22 : decode cX4_share 22 = .ok (.aload_n 0, 1) := fo_42 (fd_n 22 sr_X4_share_0 rfl)
theorem dX4_share_23 : decode cX4_share 23 = .ok (.getfield 25, 3) := fo_180 (fd_n 23 sr_X4_share_0 rfl) rfl
theorem dX4_share_26 : decode cX4_share 26 = .ok (.aload_n 0, 1) := fo_42 (fd_n 26 sr_X4_share_0 rfl)
theorem dX4_share_27 : decode cX4_share 27 = .ok (.getfield 10, 3) := fo_180 (fd_n 27 sr_X4_share_0 rfl) rfl
theorem dX4_share_30 : decode cX4_share 30 = .ok (.iload_n 1, 1) := fo_27 sr_X4_share_1
theorem dX4_share_31 : decode cX4_share 31 = .ok (.iload_n 2, 1) := fo_28 (fd_n 1 sr_X4_share_1 rfl)
theorem dX4_share_32 : decode cX4_share 32 = .ok (.invokevirtual 138, 3) := fo_182 (fd_n 2 sr_X4_share_1 rfl) rfl
theorem dX4_share_35 : decode cX4_share 35 = .ok (.ireturn, 1) := fo_172 (fd_n 5 sr_X4_share_1 rfl)
noncomputable def sl_X4_lots_0 : List UInt8 := 42 :: 27 :: 182 :: 0 :: 111 :: 154 :: 0 :: 9 :: 42 :: 3 :: 182 :: 0 :: 64 :: 172 :: 42 :: 180 :: 0 :: 25 :: 42 :: 180 :: 0 :: 10 :: 27 :: 182 :: 0 :: 142 :: 172 :: []
theorem sr_X4_lots_0 : fd_at cX4_lots 0 sl_X4_lots_0 := fd_base (by decide +kernel)
theorem dX4_lots_0 : decode cX4_lots 0 = .ok (.aload_n 0, 1) := fo_42 sr_X4_lots_0
theorem dX4_lots_1 : decode cX4_lots 1 = .ok (.iload_n 1, 1) := fo_27 (fd_n 1 sr_X4_lots_0 rfl)
theorem dX4_lots_2 : decode cX4_lots 2 = .ok (.invokevirtual 111, 3) := fo_182 (fd_n 2 sr_X4_lots_0 rfl) rfl
theorem dX4_lots_5 : decode cX4_lots 5 = .ok (.ifCond .ne 9, 3) := fo_154 (fd_n 5 sr_X4_lots_0 rfl) (by decide +kernel)
theorem dX4_lots_8 : decode cX4_lots 8 = .ok (.aload_n 0, 1) := fo_42 (fd_n 8 sr_X4_lots_0 rfl)
theorem dX4_lots_9 : decode cX4_lots 9 = .ok (.iconst 0, 1) := fo_3 (fd_n 9 sr_X4_lots_0 rfl)
theorem dX4_lots_10 : decode cX4_lots 10 = .ok (.invokevirtual 64, 3) := fo_182 (fd_n 10 sr_X4_lots_0 rfl) rfl
theorem dX4_lots_13 : decode cX4_lots 13 = .ok (.ireturn, 1) := fo_172 (fd_n 13 sr_X4_lots_0 rfl)
theorem dX4_lots_14 : decode cX4_lots 14 = .ok (.aload_n 0, 1) := fo_42 (fd_n 14 sr_X4_lots_0 rfl)
theorem dX4_lots_15 : decode cX4_lots 15 = .ok (.getfield 25, 3) := fo_180 (fd_n 15 sr_X4_lots_0 rfl) rfl
theorem dX4_lots_18 : decode cX4_lots 18 = .ok (.aload_n 0, 1) := fo_42 (fd_n 18 sr_X4_lots_0 rfl)
theorem dX4_lots_19 : decode cX4_lots 19 = .ok (.getfield 10, 3) := fo_180 (fd_n 19 sr_X4_lots_0 rfl) rfl
theorem dX4_lots_22 : decode cX4_lots 22 = .ok (.iload_n 1, 1) := fo_27 (fd_n 22 sr_X4_lots_0 rfl)
theorem dX4_lots_23 : decode cX4_lots 23 = .ok (.invokevirtual 142, 3) := fo_182 (fd_n 23 sr_X4_lots_0 rfl) rfl
theorem dX4_lots_26 : decode cX4_lots 26 = .ok (.ireturn, 1) := fo_172 (fd_n 26 sr_X4_lots_0 rfl)
noncomputable def sl_X4_watched_2 : List UInt8 := 167 :: 255 :: 216 :: 28 :: 172 :: []
noncomputable def sl_X4_watched_1 : List UInt8 := 42 :: 180 :: 0 :: 25 :: 42 :: 180 :: 0 :: 10 :: 29 :: 182 :: 0 :: 142 :: 27 :: 122 :: 4 :: 126 :: 4 :: 160 :: 0 :: 9 :: 28 :: 4 :: 29 :: 120 :: 128 :: 61 :: 132 :: 3 :: 1 :: sl_X4_watched_2
noncomputable def sl_X4_watched_0 : List UInt8 := 27 :: 16 :: 25 :: 184 :: 0 :: 60 :: 154 :: 0 :: 9 :: 42 :: 3 :: 182 :: 0 :: 64 :: 172 :: 3 :: 61 :: 3 :: 62 :: 29 :: 42 :: 180 :: 0 :: 10 :: 180 :: 0 :: 103 :: 162 :: 0 :: 35 :: sl_X4_watched_1
theorem sr_X4_watched_0 : fd_at cX4_watched 0 sl_X4_watched_0 := fd_base (by decide +kernel)
theorem sr_X4_watched_1 : fd_at cX4_watched 30 sl_X4_watched_1 := fd_n 30 sr_X4_watched_0 rfl
theorem sr_X4_watched_2 : fd_at cX4_watched 59 sl_X4_watched_2 := fd_n 29 sr_X4_watched_1 rfl
theorem dX4_watched_0 : decode cX4_watched 0 = .ok (.iload_n 1, 1) := fo_27 sr_X4_watched_0
theorem dX4_watched_1 : decode cX4_watched 1 = .ok (.bipush 25, 2) := fo_16 (fd_n 1 sr_X4_watched_0 rfl) (by decide +kernel)
theorem dX4_watched_3 : decode cX4_watched 3 = .ok (.invokestatic 60, 3) := fo_184 (fd_n 3 sr_X4_watched_0 rfl) rfl
theorem dX4_watched_6 : decode cX4_watched 6 = .ok (.ifCond .ne 9, 3) := fo_154 (fd_n 6 sr_X4_watched_0 rfl) (by decide +kernel)
theorem dX4_watched_9 : decode cX4_watched 9 = .ok (.aload_n 0, 1) := fo_42 (fd_n 9 sr_X4_watched_0 rfl)
theorem dX4_watched_10 : decode cX4_watched 10 = .ok (.iconst 0, 1) := fo_3 (fd_n 10 sr_X4_watched_0 rfl)
theorem dX4_watched_11 : decode cX4_watched 11 = .ok (.invokevirtual 64, 3) := fo_182 (fd_n 11 sr_X4_watched_0 rfl) rfl
theorem dX4_watched_14 : decode cX4_watched 14 = .ok (.ireturn, 1) := fo_172 (fd_n 14 sr_X4_watched_0 rfl)
theorem dX4_watched_15 : decode cX4_watched 15 = .ok (.iconst 0, 1) := fo_3 (fd_n 15 sr_X4_watched_0 rfl)
theorem dX4_watched_16 : decode cX4_watched 16 = .ok (.istore_n 2, 1) := fo_61 (fd_n 16 sr_X4_watched_0 rfl)
theorem dX4_watched_17 : decode cX4_watched 17 = .ok (.iconst 0, 1) := fo_3 (fd_n 17 sr_X4_watched_0 rfl)
theorem dX4_watched_18 : decode cX4_watched 18 = .ok (.istore_n 3, 1) := fo_62 (fd_n 18 sr_X4_watched_0 rfl)
theorem dX4_watched_19 : decode cX4_watched 19 = .ok (.iload_n 3, 1) := fo_29 (fd_n 19 sr_X4_watched_0 rfl)
theorem dX4_watched_20 : decode cX4_watched 20 = .ok (.aload_n 0, 1) := fo_42 (fd_n 20 sr_X4_watched_0 rfl)
theorem dX4_watched_21 : decode cX4_watched 21 = .ok (.getfield 10, 3) := fo_180 (fd_n 21 sr_X4_watched_0 rfl) rfl
theorem dX4_watched_24 : decode cX4_watched 24 = .ok (.getfield 103, 3) := fo_180 (fd_n 24 sr_X4_watched_0 rfl) rfl
theorem dX4_watched_27 : decode cX4_watched 27 = .ok (.if_icmp .ge 35, 3) := fo_162 (fd_n 27 sr_X4_watched_0 rfl) (by decide +kernel)
theorem dX4_watched_30 : decode cX4_watched 30 = .ok (.aload_n 0, 1) := fo_42 sr_X4_watched_1
theorem dX4_watched_31 : decode cX4_watched 31 = .ok (.getfield 25, 3) := fo_180 (fd_n 1 sr_X4_watched_1 rfl) rfl
theorem dX4_watched_34 : decode cX4_watched 34 = .ok (.aload_n 0, 1) := fo_42 (fd_n 4 sr_X4_watched_1 rfl)
theorem dX4_watched_35 : decode cX4_watched 35 = .ok (.getfield 10, 3) := fo_180 (fd_n 5 sr_X4_watched_1 rfl) rfl
theorem dX4_watched_38 : decode cX4_watched 38 = .ok (.iload_n 3, 1) := fo_29 (fd_n 8 sr_X4_watched_1 rfl)
theorem dX4_watched_39 : decode cX4_watched 39 = .ok (.invokevirtual 142, 3) := fo_182 (fd_n 9 sr_X4_watched_1 rfl) rfl
theorem dX4_watched_42 : decode cX4_watched 42 = .ok (.iload_n 1, 1) := fo_27 (fd_n 12 sr_X4_watched_1 rfl)
theorem dX4_watched_43 : decode cX4_watched 43 = .ok (.ishr, 1) := fo_122 (fd_n 13 sr_X4_watched_1 rfl)
theorem dX4_watched_44 : decode cX4_watched 44 = .ok (.iconst 1, 1) := fo_4 (fd_n 14 sr_X4_watched_1 rfl)
theorem dX4_watched_45 : decode cX4_watched 45 = .ok (.iand, 1) := fo_126 (fd_n 15 sr_X4_watched_1 rfl)
theorem dX4_watched_46 : decode cX4_watched 46 = .ok (.iconst 1, 1) := fo_4 (fd_n 16 sr_X4_watched_1 rfl)
theorem dX4_watched_47 : decode cX4_watched 47 = .ok (.if_icmp .ne 9, 3) := fo_160 (fd_n 17 sr_X4_watched_1 rfl) (by decide +kernel)
theorem dX4_watched_50 : decode cX4_watched 50 = .ok (.iload_n 2, 1) := fo_28 (fd_n 20 sr_X4_watched_1 rfl)
theorem dX4_watched_51 : decode cX4_watched 51 = .ok (.iconst 1, 1) := fo_4 (fd_n 21 sr_X4_watched_1 rfl)
theorem dX4_watched_52 : decode cX4_watched 52 = .ok (.iload_n 3, 1) := fo_29 (fd_n 22 sr_X4_watched_1 rfl)
theorem dX4_watched_53 : decode cX4_watched 53 = .ok (.ishl, 1) := fo_120 (fd_n 23 sr_X4_watched_1 rfl)
theorem dX4_watched_54 : decode cX4_watched 54 = .ok (.ior, 1) := fo_128 (fd_n 24 sr_X4_watched_1 rfl)
theorem dX4_watched_55 : decode cX4_watched 55 = .ok (.istore_n 2, 1) := fo_61 (fd_n 25 sr_X4_watched_1 rfl)
theorem dX4_watched_56 : decode cX4_watched 56 = .ok (.iinc 3 1, 3) := fo_132 (fd_n 26 sr_X4_watched_1 rfl) rfl (by decide +kernel)
theorem dX4_watched_59 : decode cX4_watched 59 = .ok (.goto (-40), 3) := fo_167 sr_X4_watched_2 (by decide +kernel)
theorem dX4_watched_62 : decode cX4_watched 62 = .ok (.iload_n 2, 1) := fo_28 (fd_n 3 sr_X4_watched_2 rfl)
theorem dX4_watched_63 : decode cX4_watched 63 = .ok (.ireturn, 1) := fo_172 (fd_n 4 sr_X4_watched_2 rfl)
noncomputable def sl_X4_rent_1 : List UInt8 := 172 :: []
noncomputable def sl_X4_rent_0 : List UInt8 := 42 :: 27 :: 182 :: 0 :: 111 :: 154 :: 0 :: 9 :: 42 :: 3 :: 182 :: 0 :: 64 :: 172 :: 42 :: 180 :: 0 :: 25 :: 42 :: 180 :: 0 :: 10 :: 27 :: 42 :: 180 :: 0 :: 53 :: 182 :: 0 :: 145 :: sl_X4_rent_1
theorem sr_X4_rent_0 : fd_at cX4_rent 0 sl_X4_rent_0 := fd_base (by decide +kernel)
theorem sr_X4_rent_1 : fd_at cX4_rent 30 sl_X4_rent_1 := fd_n 30 sr_X4_rent_0 rfl
theorem dX4_rent_0 : decode cX4_rent 0 = .ok (.aload_n 0, 1) := fo_42 sr_X4_rent_0
theorem dX4_rent_1 : decode cX4_rent 1 = .ok (.iload_n 1, 1) := fo_27 (fd_n 1 sr_X4_rent_0 rfl)
theorem dX4_rent_2 : decode cX4_rent 2 = .ok (.invokevirtual 111, 3) := fo_182 (fd_n 2 sr_X4_rent_0 rfl) rfl
theorem dX4_rent_5 : decode cX4_rent 5 = .ok (.ifCond .ne 9, 3) := fo_154 (fd_n 5 sr_X4_rent_0 rfl) (by decide +kernel)
theorem dX4_rent_8 : decode cX4_rent 8 = .ok (.aload_n 0, 1) := fo_42 (fd_n 8 sr_X4_rent_0 rfl)
theorem dX4_rent_9 : decode cX4_rent 9 = .ok (.iconst 0, 1) := fo_3 (fd_n 9 sr_X4_rent_0 rfl)
theorem dX4_rent_10 : decode cX4_rent 10 = .ok (.invokevirtual 64, 3) := fo_182 (fd_n 10 sr_X4_rent_0 rfl) rfl
theorem dX4_rent_13 : decode cX4_rent 13 = .ok (.ireturn, 1) := fo_172 (fd_n 13 sr_X4_rent_0 rfl)
theorem dX4_rent_14 : decode cX4_rent 14 = .ok (.aload_n 0, 1) := fo_42 (fd_n 14 sr_X4_rent_0 rfl)
theorem dX4_rent_15 : decode cX4_rent 15 = .ok (.getfield 25, 3) := fo_180 (fd_n 15 sr_X4_rent_0 rfl) rfl
theorem dX4_rent_18 : decode cX4_rent 18 = .ok (.aload_n 0, 1) := fo_42 (fd_n 18 sr_X4_rent_0 rfl)
theorem dX4_rent_19 : decode cX4_rent 19 = .ok (.getfield 10, 3) := fo_180 (fd_n 19 sr_X4_rent_0 rfl) rfl
theorem dX4_rent_22 : decode cX4_rent 22 = .ok (.iload_n 1, 1) := fo_27 (fd_n 22 sr_X4_rent_0 rfl)
theorem dX4_rent_23 : decode cX4_rent 23 = .ok (.aload_n 0, 1) := fo_42 (fd_n 23 sr_X4_rent_0 rfl)
theorem dX4_rent_24 : decode cX4_rent 24 = .ok (.getfield 53, 3) := fo_180 (fd_n 24 sr_X4_rent_0 rfl) rfl
theorem dX4_rent_27 : decode cX4_rent 27 = .ok (.invokevirtual 145, 3) := fo_182 (fd_n 27 sr_X4_rent_0 rfl) rfl
theorem dX4_rent_30 : decode cX4_rent 30 = .ok (.ireturn, 1) := fo_172 sr_X4_rent_1
noncomputable def sl_X4_gain_1 : List UInt8 := 87 :: 42 :: 180 :: 0 :: 50 :: 27 :: 46 :: 172 :: []
noncomputable def sl_X4_gain_0 : List UInt8 := 27 :: 7 :: 184 :: 0 :: 60 :: 154 :: 0 :: 9 :: 42 :: 3 :: 182 :: 0 :: 64 :: 172 :: 42 :: 180 :: 0 :: 25 :: 42 :: 180 :: 0 :: 10 :: 42 :: 180 :: 0 :: 50 :: 182 :: 0 :: 149 :: sl_X4_gain_1
theorem sr_X4_gain_0 : fd_at cX4_gain 0 sl_X4_gain_0 := fd_base (by decide +kernel)
theorem sr_X4_gain_1 : fd_at cX4_gain 29 sl_X4_gain_1 := fd_n 29 sr_X4_gain_0 rfl
theorem dX4_gain_0 : decode cX4_gain 0 = .ok (.iload_n 1, 1) := fo_27 sr_X4_gain_0
theorem dX4_gain_1 : decode cX4_gain 1 = .ok (.iconst 4, 1) := fo_7 (fd_n 1 sr_X4_gain_0 rfl)
theorem dX4_gain_2 : decode cX4_gain 2 = .ok (.invokestatic 60, 3) := fo_184 (fd_n 2 sr_X4_gain_0 rfl) rfl
theorem dX4_gain_5 : decode cX4_gain 5 = .ok (.ifCond .ne 9, 3) := fo_154 (fd_n 5 sr_X4_gain_0 rfl) (by decide +kernel)
theorem dX4_gain_8 : decode cX4_gain 8 = .ok (.aload_n 0, 1) := fo_42 (fd_n 8 sr_X4_gain_0 rfl)
theorem dX4_gain_9 : decode cX4_gain 9 = .ok (.iconst 0, 1) := fo_3 (fd_n 9 sr_X4_gain_0 rfl)
theorem dX4_gain_10 : decode cX4_gain 10 = .ok (.invokevirtual 64, 3) := fo_182 (fd_n 10 sr_X4_gain_0 rfl) rfl
theorem dX4_gain_13 : decode cX4_gain 13 = .ok (.ireturn, 1) := fo_172 (fd_n 13 sr_X4_gain_0 rfl)
theorem dX4_gain_14 : decode cX4_gain 14 = .ok (.aload_n 0, 1) := fo_42 (fd_n 14 sr_X4_gain_0 rfl)
theorem dX4_gain_15 : decode cX4_gain 15 = .ok (.getfield 25, 3) := fo_180 (fd_n 15 sr_X4_gain_0 rfl) rfl
theorem dX4_gain_18 : decode cX4_gain 18 = .ok (.aload_n 0, 1) := fo_42 (fd_n 18 sr_X4_gain_0 rfl)
theorem dX4_gain_19 : decode cX4_gain 19 = .ok (.getfield 10, 3) := fo_180 (fd_n 19 sr_X4_gain_0 rfl) rfl
theorem dX4_gain_22 : decode cX4_gain 22 = .ok (.aload_n 0, 1) := fo_42 (fd_n 22 sr_X4_gain_0 rfl)
theorem dX4_gain_23 : decode cX4_gain 23 = .ok (.getfield 50, 3) := fo_180 (fd_n 23 sr_X4_gain_0 rfl) rfl
theorem dX4_gain_26 : decode cX4_gain 26 = .ok (.invokevirtual 149, 3) := fo_182 (fd_n 26 sr_X4_gain_0 rfl) rfl
theorem dX4_gain_29 : decode cX4_gain 29 = .ok (.pop, 1) := fo_87 sr_X4_gain_1
theorem dX4_gain_30 : decode cX4_gain 30 = .ok (.aload_n 0, 1) := fo_42 (fd_n 1 sr_X4_gain_1 rfl)
theorem dX4_gain_31 : decode cX4_gain 31 = .ok (.getfield 50, 3) := fo_180 (fd_n 2 sr_X4_gain_1 rfl) rfl
theorem dX4_gain_34 : decode cX4_gain 34 = .ok (.iload_n 1, 1) := fo_27 (fd_n 5 sr_X4_gain_1 rfl)
theorem dX4_gain_35 : decode cX4_gain 35 = .ok (.iaload, 1) := fo_46 (fd_n 6 sr_X4_gain_1 rfl)
theorem dX4_gain_36 : decode cX4_gain 36 = .ok (.ireturn, 1) := fo_172 (fd_n 7 sr_X4_gain_1 rfl)
noncomputable def sl_X4_broken_0 : List UInt8 := 42 :: 180 :: 0 :: 25 :: 42 :: 180 :: 0 :: 10 :: 182 :: 0 :: 153 :: 172 :: []
theorem sr_X4_broken_0 : fd_at cX4_broken 0 sl_X4_broken_0 := fd_base (by decide +kernel)
theorem dX4_broken_0 : decode cX4_broken 0 = .ok (.aload_n 0, 1) := fo_42 sr_X4_broken_0
theorem dX4_broken_1 : decode cX4_broken 1 = .ok (.getfield 25, 3) := fo_180 (fd_n 1 sr_X4_broken_0 rfl) rfl
theorem dX4_broken_4 : decode cX4_broken 4 = .ok (.aload_n 0, 1) := fo_42 (fd_n 4 sr_X4_broken_0 rfl)
theorem dX4_broken_5 : decode cX4_broken 5 = .ok (.getfield 10, 3) := fo_180 (fd_n 5 sr_X4_broken_0 rfl) rfl
theorem dX4_broken_8 : decode cX4_broken 8 = .ok (.invokevirtual 153, 3) := fo_182 (fd_n 8 sr_X4_broken_0 rfl) rfl
theorem dX4_broken_11 : decode cX4_broken 11 = .ok (.ireturn, 1) := fo_172 (fd_n 11 sr_X4_broken_0 rfl)
noncomputable def sl_X4_months_1 : List UInt8 := 164 :: 0 :: 9 :: 42 :: 7 :: 182 :: 0 :: 64 :: 172 :: 42 :: 42 :: 180 :: 0 :: 10 :: 27 :: 182 :: 0 :: 160 :: 172 :: []
noncomputable def sl_X4_months_0 : List UInt8 := 27 :: 4 :: 161 :: 0 :: 9 :: 27 :: 16 :: 60 :: 164 :: 0 :: 9 :: 42 :: 3 :: 182 :: 0 :: 64 :: 172 :: 42 :: 180 :: 0 :: 10 :: 180 :: 0 :: 157 :: 27 :: 96 :: 17 :: 3 :: 231 :: sl_X4_months_1
theorem sr_X4_months_0 : fd_at cX4_months 0 sl_X4_months_0 := fd_base (by decide +kernel)
theorem sr_X4_months_1 : fd_at cX4_months 29 sl_X4_months_1 := fd_n 29 sr_X4_months_0 rfl
theorem dX4_months_0 : decode cX4_months 0 = .ok (.iload_n 1, 1) := fo_27 sr_X4_months_0
theorem dX4_months_1 : decode cX4_months 1 = .ok (.iconst 1, 1) := fo_4 (fd_n 1 sr_X4_months_0 rfl)
theorem dX4_months_2 : decode cX4_months 2 = .ok (.if_icmp .lt 9, 3) := fo_161 (fd_n 2 sr_X4_months_0 rfl) (by decide +kernel)
theorem dX4_months_5 : decode cX4_months 5 = .ok (.iload_n 1, 1) := fo_27 (fd_n 5 sr_X4_months_0 rfl)
theorem dX4_months_6 : decode cX4_months 6 = .ok (.bipush 60, 2) := fo_16 (fd_n 6 sr_X4_months_0 rfl) (by decide +kernel)
theorem dX4_months_8 : decode cX4_months 8 = .ok (.if_icmp .le 9, 3) := fo_164 (fd_n 8 sr_X4_months_0 rfl) (by decide +kernel)
theorem dX4_months_11 : decode cX4_months 11 = .ok (.aload_n 0, 1) := fo_42 (fd_n 11 sr_X4_months_0 rfl)
theorem dX4_months_12 : decode cX4_months 12 = .ok (.iconst 0, 1) := fo_3 (fd_n 12 sr_X4_months_0 rfl)
theorem dX4_months_13 : decode cX4_months 13 = .ok (.invokevirtual 64, 3) := fo_182 (fd_n 13 sr_X4_months_0 rfl) rfl
theorem dX4_months_16 : decode cX4_months 16 = .ok (.ireturn, 1) := fo_172 (fd_n 16 sr_X4_months_0 rfl)
theorem dX4_months_17 : decode cX4_months 17 = .ok (.aload_n 0, 1) := fo_42 (fd_n 17 sr_X4_months_0 rfl)
theorem dX4_months_18 : decode cX4_months 18 = .ok (.getfield 10, 3) := fo_180 (fd_n 18 sr_X4_months_0 rfl) rfl
theorem dX4_months_21 : decode cX4_months 21 = .ok (.getfield 157, 3) := fo_180 (fd_n 21 sr_X4_months_0 rfl) rfl
theorem dX4_months_24 : decode cX4_months 24 = .ok (.iload_n 1, 1) := fo_27 (fd_n 24 sr_X4_months_0 rfl)
theorem dX4_months_25 : decode cX4_months 25 = .ok (.iadd, 1) := fo_96 (fd_n 25 sr_X4_months_0 rfl)
theorem dX4_months_26 : decode cX4_months 26 = .ok (.sipush 999, 3) := fo_17 (fd_n 26 sr_X4_months_0 rfl) (by decide +kernel)
theorem dX4_months_29 : decode cX4_months 29 = .ok (.if_icmp .le 9, 3) := fo_164 sr_X4_months_1 (by decide +kernel)
theorem dX4_months_32 : decode cX4_months 32 = .ok (.aload_n 0, 1) := fo_42 (fd_n 3 sr_X4_months_1 rfl)
theorem dX4_months_33 : decode cX4_months 33 = .ok (.iconst 4, 1) := fo_7 (fd_n 4 sr_X4_months_1 rfl)
theorem dX4_months_34 : decode cX4_months 34 = .ok (.invokevirtual 64, 3) := fo_182 (fd_n 5 sr_X4_months_1 rfl) rfl
theorem dX4_months_37 : decode cX4_months 37 = .ok (.ireturn, 1) := fo_172 (fd_n 8 sr_X4_months_1 rfl)
theorem dX4_months_38 : decode cX4_months 38 = .ok (.aload_n 0, 1) := fo_42 (fd_n 9 sr_X4_months_1 rfl)
theorem dX4_months_39 : decode cX4_months 39 = .ok (.aload_n 0, 1) := fo_42 (fd_n 10 sr_X4_months_1 rfl)
theorem dX4_months_40 : decode cX4_months 40 = .ok (.getfield 10, 3) := fo_180 (fd_n 11 sr_X4_months_1 rfl) rfl
theorem dX4_months_43 : decode cX4_months 43 = .ok (.iload_n 1, 1) := fo_27 (fd_n 14 sr_X4_months_1 rfl)
theorem dX4_months_44 : decode cX4_months 44 = .ok (.invokevirtual 160, 3) := fo_182 (fd_n 15 sr_X4_months_1 rfl) rfl
theorem dX4_months_47 : decode cX4_months 47 = .ok (.ireturn, 1) := fo_172 (fd_n 18 sr_X4_months_1 rfl)
noncomputable def sl_X4_ahead_4 : List UInt8 := 180 :: 0 :: 124 :: 28 :: 6 :: 100 :: 46 :: 172 :: []
noncomputable def sl_X4_ahead_3 : List UInt8 := 29 :: 172 :: 42 :: 180 :: 0 :: 25 :: 42 :: 180 :: 0 :: 19 :: 182 :: 0 :: 153 :: 172 :: 42 :: 180 :: 0 :: 25 :: 42 :: 180 :: 0 :: 19 :: 182 :: 0 :: 167 :: 172 :: 42 :: 180 :: 0 :: 19 :: sl_X4_ahead_4
noncomputable def sl_X4_ahead_2 : List UInt8 := 42 :: 42 :: 180 :: 0 :: 19 :: 27 :: 182 :: 0 :: 160 :: 62 :: 28 :: 170 :: 0 :: 0 :: 0 :: 51 :: 0 :: 0 :: 0 :: 0 :: 0 :: 0 :: 0 :: 2 :: 0 :: 0 :: 0 :: 25 :: 0 :: 0 :: 0 :: 27 :: 0 :: 0 :: 0 :: 39 :: sl_X4_ahead_3
noncomputable def sl_X4_ahead_1 : List UInt8 := 180 :: 0 :: 157 :: 27 :: 96 :: 17 :: 3 :: 231 :: 164 :: 0 :: 9 :: 42 :: 7 :: 182 :: 0 :: 64 :: 172 :: 42 :: 180 :: 0 :: 19 :: 42 :: 180 :: 0 :: 10 :: 182 :: 0 :: 163 :: sl_X4_ahead_2
noncomputable def sl_X4_ahead_0 : List UInt8 := 27 :: 16 :: 121 :: 184 :: 0 :: 60 :: 153 :: 0 :: 12 :: 28 :: 16 :: 7 :: 184 :: 0 :: 60 :: 154 :: 0 :: 9 :: 42 :: 3 :: 182 :: 0 :: 64 :: 172 :: 42 :: 180 :: 0 :: 10 :: sl_X4_ahead_1
theorem sr_X4_ahead_0 : fd_at cX4_ahead 0 sl_X4_ahead_0 := fd_base (by decide +kernel)
theorem sr_X4_ahead_1 : fd_at cX4_ahead 28 sl_X4_ahead_1 := fd_n 28 sr_X4_ahead_0 rfl
theorem sr_X4_ahead_2 : fd_at cX4_ahead 56 sl_X4_ahead_2 := fd_n 28 sr_X4_ahead_1 rfl
theorem sr_X4_ahead_3 : fd_at cX4_ahead 92 sl_X4_ahead_3 := fd_n 36 sr_X4_ahead_2 rfl
theorem sr_X4_ahead_4 : fd_at cX4_ahead 122 sl_X4_ahead_4 := fd_n 30 sr_X4_ahead_3 rfl
theorem dX4_ahead_0 : decode cX4_ahead 0 = .ok (.iload_n 1, 1) := fo_27 sr_X4_ahead_0
theorem dX4_ahead_1 : decode cX4_ahead 1 = .ok (.bipush 121, 2) := fo_16 (fd_n 1 sr_X4_ahead_0 rfl) (by decide +kernel)
theorem dX4_ahead_3 : decode cX4_ahead 3 = .ok (.invokestatic 60, 3) := fo_184 (fd_n 3 sr_X4_ahead_0 rfl) rfl
theorem dX4_ahead_6 : decode cX4_ahead 6 = .ok (.ifCond .eq 12, 3) := fo_153 (fd_n 6 sr_X4_ahead_0 rfl) (by decide +kernel)
theorem dX4_ahead_9 : decode cX4_ahead 9 = .ok (.iload_n 2, 1) := fo_28 (fd_n 9 sr_X4_ahead_0 rfl)
theorem dX4_ahead_10 : decode cX4_ahead 10 = .ok (.bipush 7, 2) := fo_16 (fd_n 10 sr_X4_ahead_0 rfl) (by decide +kernel)
theorem dX4_ahead_12 : decode cX4_ahead 12 = .ok (.invokestatic 60, 3) := fo_184 (fd_n 12 sr_X4_ahead_0 rfl) rfl
theorem dX4_ahead_15 : decode cX4_ahead 15 = .ok (.ifCond .ne 9, 3) := fo_154 (fd_n 15 sr_X4_ahead_0 rfl) (by decide +kernel)
theorem dX4_ahead_18 : decode cX4_ahead 18 = .ok (.aload_n 0, 1) := fo_42 (fd_n 18 sr_X4_ahead_0 rfl)
theorem dX4_ahead_19 : decode cX4_ahead 19 = .ok (.iconst 0, 1) := fo_3 (fd_n 19 sr_X4_ahead_0 rfl)
theorem dX4_ahead_20 : decode cX4_ahead 20 = .ok (.invokevirtual 64, 3) := fo_182 (fd_n 20 sr_X4_ahead_0 rfl) rfl
theorem dX4_ahead_23 : decode cX4_ahead 23 = .ok (.ireturn, 1) := fo_172 (fd_n 23 sr_X4_ahead_0 rfl)
theorem dX4_ahead_24 : decode cX4_ahead 24 = .ok (.aload_n 0, 1) := fo_42 (fd_n 24 sr_X4_ahead_0 rfl)
theorem dX4_ahead_25 : decode cX4_ahead 25 = .ok (.getfield 10, 3) := fo_180 (fd_n 25 sr_X4_ahead_0 rfl) rfl
theorem dX4_ahead_28 : decode cX4_ahead 28 = .ok (.getfield 157, 3) := fo_180 sr_X4_ahead_1 rfl
theorem dX4_ahead_31 : decode cX4_ahead 31 = .ok (.iload_n 1, 1) := fo_27 (fd_n 3 sr_X4_ahead_1 rfl)
theorem dX4_ahead_32 : decode cX4_ahead 32 = .ok (.iadd, 1) := fo_96 (fd_n 4 sr_X4_ahead_1 rfl)
theorem dX4_ahead_33 : decode cX4_ahead 33 = .ok (.sipush 999, 3) := fo_17 (fd_n 5 sr_X4_ahead_1 rfl) (by decide +kernel)
theorem dX4_ahead_36 : decode cX4_ahead 36 = .ok (.if_icmp .le 9, 3) := fo_164 (fd_n 8 sr_X4_ahead_1 rfl) (by decide +kernel)
theorem dX4_ahead_39 : decode cX4_ahead 39 = .ok (.aload_n 0, 1) := fo_42 (fd_n 11 sr_X4_ahead_1 rfl)
theorem dX4_ahead_40 : decode cX4_ahead 40 = .ok (.iconst 4, 1) := fo_7 (fd_n 12 sr_X4_ahead_1 rfl)
theorem dX4_ahead_41 : decode cX4_ahead 41 = .ok (.invokevirtual 64, 3) := fo_182 (fd_n 13 sr_X4_ahead_1 rfl) rfl
theorem dX4_ahead_44 : decode cX4_ahead 44 = .ok (.ireturn, 1) := fo_172 (fd_n 16 sr_X4_ahead_1 rfl)
theorem dX4_ahead_45 : decode cX4_ahead 45 = .ok (.aload_n 0, 1) := fo_42 (fd_n 17 sr_X4_ahead_1 rfl)
theorem dX4_ahead_46 : decode cX4_ahead 46 = .ok (.getfield 19, 3) := fo_180 (fd_n 18 sr_X4_ahead_1 rfl) rfl
theorem dX4_ahead_49 : decode cX4_ahead 49 = .ok (.aload_n 0, 1) := fo_42 (fd_n 21 sr_X4_ahead_1 rfl)
theorem dX4_ahead_50 : decode cX4_ahead 50 = .ok (.getfield 10, 3) := fo_180 (fd_n 22 sr_X4_ahead_1 rfl) rfl
theorem dX4_ahead_53 : decode cX4_ahead 53 = .ok (.invokevirtual 163, 3) := fo_182 (fd_n 25 sr_X4_ahead_1 rfl) rfl
theorem dX4_ahead_56 : decode cX4_ahead 56 = .ok (.aload_n 0, 1) := fo_42 sr_X4_ahead_2
theorem dX4_ahead_57 : decode cX4_ahead 57 = .ok (.aload_n 0, 1) := fo_42 (fd_n 1 sr_X4_ahead_2 rfl)
theorem dX4_ahead_58 : decode cX4_ahead 58 = .ok (.getfield 19, 3) := fo_180 (fd_n 2 sr_X4_ahead_2 rfl) rfl
theorem dX4_ahead_61 : decode cX4_ahead 61 = .ok (.iload_n 1, 1) := fo_27 (fd_n 5 sr_X4_ahead_2 rfl)
theorem dX4_ahead_62 : decode cX4_ahead 62 = .ok (.invokevirtual 160, 3) := fo_182 (fd_n 6 sr_X4_ahead_2 rfl) rfl
theorem dX4_ahead_65 : decode cX4_ahead 65 = .ok (.istore_n 3, 1) := fo_62 (fd_n 9 sr_X4_ahead_2 rfl)
theorem dX4_ahead_66 : decode cX4_ahead 66 = .ok (.iload_n 2, 1) := fo_28 (fd_n 10 sr_X4_ahead_2 rfl)
theorem dX4_ahead_92 : decode cX4_ahead 92 = .ok (.iload_n 3, 1) := fo_29 sr_X4_ahead_3
theorem dX4_ahead_93 : decode cX4_ahead 93 = .ok (.ireturn, 1) := fo_172 (fd_n 1 sr_X4_ahead_3 rfl)
theorem dX4_ahead_94 : decode cX4_ahead 94 = .ok (.aload_n 0, 1) := fo_42 (fd_n 2 sr_X4_ahead_3 rfl)
theorem dX4_ahead_95 : decode cX4_ahead 95 = .ok (.getfield 25, 3) := fo_180 (fd_n 3 sr_X4_ahead_3 rfl) rfl
theorem dX4_ahead_98 : decode cX4_ahead 98 = .ok (.aload_n 0, 1) := fo_42 (fd_n 6 sr_X4_ahead_3 rfl)
theorem dX4_ahead_99 : decode cX4_ahead 99 = .ok (.getfield 19, 3) := fo_180 (fd_n 7 sr_X4_ahead_3 rfl) rfl
theorem dX4_ahead_102 : decode cX4_ahead 102 = .ok (.invokevirtual 153, 3) := fo_182 (fd_n 10 sr_X4_ahead_3 rfl) rfl
theorem dX4_ahead_105 : decode cX4_ahead 105 = .ok (.ireturn, 1) := fo_172 (fd_n 13 sr_X4_ahead_3 rfl)
theorem dX4_ahead_106 : decode cX4_ahead 106 = .ok (.aload_n 0, 1) := fo_42 (fd_n 14 sr_X4_ahead_3 rfl)
theorem dX4_ahead_107 : decode cX4_ahead 107 = .ok (.getfield 25, 3) := fo_180 (fd_n 15 sr_X4_ahead_3 rfl) rfl
theorem dX4_ahead_110 : decode cX4_ahead 110 = .ok (.aload_n 0, 1) := fo_42 (fd_n 18 sr_X4_ahead_3 rfl)
theorem dX4_ahead_111 : decode cX4_ahead 111 = .ok (.getfield 19, 3) := fo_180 (fd_n 19 sr_X4_ahead_3 rfl) rfl
theorem dX4_ahead_114 : decode cX4_ahead 114 = .ok (.invokevirtual 167, 3) := fo_182 (fd_n 22 sr_X4_ahead_3 rfl) rfl
theorem dX4_ahead_117 : decode cX4_ahead 117 = .ok (.ireturn, 1) := fo_172 (fd_n 25 sr_X4_ahead_3 rfl)
theorem dX4_ahead_118 : decode cX4_ahead 118 = .ok (.aload_n 0, 1) := fo_42 (fd_n 26 sr_X4_ahead_3 rfl)
theorem dX4_ahead_119 : decode cX4_ahead 119 = .ok (.getfield 19, 3) := fo_180 (fd_n 27 sr_X4_ahead_3 rfl) rfl
theorem dX4_ahead_122 : decode cX4_ahead 122 = .ok (.getfield 124, 3) := fo_180 sr_X4_ahead_4 rfl
theorem dX4_ahead_125 : decode cX4_ahead 125 = .ok (.iload_n 2, 1) := fo_28 (fd_n 3 sr_X4_ahead_4 rfl)
theorem dX4_ahead_126 : decode cX4_ahead 126 = .ok (.iconst 3, 1) := fo_6 (fd_n 4 sr_X4_ahead_4 rfl)
theorem dX4_ahead_127 : decode cX4_ahead 127 = .ok (.isub, 1) := fo_100 (fd_n 5 sr_X4_ahead_4 rfl)
theorem dX4_ahead_128 : decode cX4_ahead 128 = .ok (.iaload, 1) := fo_46 (fd_n 6 sr_X4_ahead_4 rfl)
theorem dX4_ahead_129 : decode cX4_ahead 129 = .ok (.ireturn, 1) := fo_172 (fd_n 7 sr_X4_ahead_4 rfl)
theorem dX4_ahead_67 : decode cX4_ahead 67 = .ok (.tableswitch 51 0 2 #[25, 27, 39], 25) := by decide +kernel
noncomputable def sl_X4_breach_2 : List UInt8 := 28 :: 156 :: 0 :: 11 :: 42 :: 6 :: 182 :: 0 :: 64 :: 167 :: 0 :: 4 :: 28 :: 172 :: []
noncomputable def sl_X4_breach_1 : List UInt8 := 42 :: 180 :: 0 :: 10 :: 180 :: 0 :: 157 :: 16 :: 120 :: 96 :: 17 :: 3 :: 231 :: 164 :: 0 :: 9 :: 42 :: 7 :: 182 :: 0 :: 64 :: 172 :: 42 :: 27 :: 182 :: 0 :: 170 :: 61 :: sl_X4_breach_2
noncomputable def sl_X4_breach_0 : List UInt8 := 42 :: 27 :: 182 :: 0 :: 111 :: 154 :: 0 :: 9 :: 42 :: 3 :: 182 :: 0 :: 64 :: 172 :: 42 :: 180 :: 0 :: 10 :: 180 :: 0 :: 114 :: 7 :: 50 :: 27 :: 46 :: 155 :: 0 :: 19 :: sl_X4_breach_1
theorem sr_X4_breach_0 : fd_at cX4_breach 0 sl_X4_breach_0 := fd_base (by decide +kernel)
theorem sr_X4_breach_1 : fd_at cX4_breach 28 sl_X4_breach_1 := fd_n 28 sr_X4_breach_0 rfl
theorem sr_X4_breach_2 : fd_at cX4_breach 56 sl_X4_breach_2 := fd_n 28 sr_X4_breach_1 rfl
theorem dX4_breach_0 : decode cX4_breach 0 = .ok (.aload_n 0, 1) := fo_42 sr_X4_breach_0
theorem dX4_breach_1 : decode cX4_breach 1 = .ok (.iload_n 1, 1) := fo_27 (fd_n 1 sr_X4_breach_0 rfl)
theorem dX4_breach_2 : decode cX4_breach 2 = .ok (.invokevirtual 111, 3) := fo_182 (fd_n 2 sr_X4_breach_0 rfl) rfl
theorem dX4_breach_5 : decode cX4_breach 5 = .ok (.ifCond .ne 9, 3) := fo_154 (fd_n 5 sr_X4_breach_0 rfl) (by decide +kernel)
theorem dX4_breach_8 : decode cX4_breach 8 = .ok (.aload_n 0, 1) := fo_42 (fd_n 8 sr_X4_breach_0 rfl)
theorem dX4_breach_9 : decode cX4_breach 9 = .ok (.iconst 0, 1) := fo_3 (fd_n 9 sr_X4_breach_0 rfl)
theorem dX4_breach_10 : decode cX4_breach 10 = .ok (.invokevirtual 64, 3) := fo_182 (fd_n 10 sr_X4_breach_0 rfl) rfl
theorem dX4_breach_13 : decode cX4_breach 13 = .ok (.ireturn, 1) := fo_172 (fd_n 13 sr_X4_breach_0 rfl)
theorem dX4_breach_14 : decode cX4_breach 14 = .ok (.aload_n 0, 1) := fo_42 (fd_n 14 sr_X4_breach_0 rfl)
theorem dX4_breach_15 : decode cX4_breach 15 = .ok (.getfield 10, 3) := fo_180 (fd_n 15 sr_X4_breach_0 rfl) rfl
theorem dX4_breach_18 : decode cX4_breach 18 = .ok (.getfield 114, 3) := fo_180 (fd_n 18 sr_X4_breach_0 rfl) rfl
theorem dX4_breach_21 : decode cX4_breach 21 = .ok (.iconst 4, 1) := fo_7 (fd_n 21 sr_X4_breach_0 rfl)
theorem dX4_breach_22 : decode cX4_breach 22 = .ok (.aaload, 1) := fo_50 (fd_n 22 sr_X4_breach_0 rfl)
theorem dX4_breach_23 : decode cX4_breach 23 = .ok (.iload_n 1, 1) := fo_27 (fd_n 23 sr_X4_breach_0 rfl)
theorem dX4_breach_24 : decode cX4_breach 24 = .ok (.iaload, 1) := fo_46 (fd_n 24 sr_X4_breach_0 rfl)
theorem dX4_breach_25 : decode cX4_breach 25 = .ok (.ifCond .lt 19, 3) := fo_155 (fd_n 25 sr_X4_breach_0 rfl) (by decide +kernel)
theorem dX4_breach_28 : decode cX4_breach 28 = .ok (.aload_n 0, 1) := fo_42 sr_X4_breach_1
theorem dX4_breach_29 : decode cX4_breach 29 = .ok (.getfield 10, 3) := fo_180 (fd_n 1 sr_X4_breach_1 rfl) rfl
theorem dX4_breach_32 : decode cX4_breach 32 = .ok (.getfield 157, 3) := fo_180 (fd_n 4 sr_X4_breach_1 rfl) rfl
theorem dX4_breach_35 : decode cX4_breach 35 = .ok (.bipush 120, 2) := fo_16 (fd_n 7 sr_X4_breach_1 rfl) (by decide +kernel)
theorem dX4_breach_37 : decode cX4_breach 37 = .ok (.iadd, 1) := fo_96 (fd_n 9 sr_X4_breach_1 rfl)
theorem dX4_breach_38 : decode cX4_breach 38 = .ok (.sipush 999, 3) := fo_17 (fd_n 10 sr_X4_breach_1 rfl) (by decide +kernel)
theorem dX4_breach_41 : decode cX4_breach 41 = .ok (.if_icmp .le 9, 3) := fo_164 (fd_n 13 sr_X4_breach_1 rfl) (by decide +kernel)
theorem dX4_breach_44 : decode cX4_breach 44 = .ok (.aload_n 0, 1) := fo_42 (fd_n 16 sr_X4_breach_1 rfl)
theorem dX4_breach_45 : decode cX4_breach 45 = .ok (.iconst 4, 1) := fo_7 (fd_n 17 sr_X4_breach_1 rfl)
theorem dX4_breach_46 : decode cX4_breach 46 = .ok (.invokevirtual 64, 3) := fo_182 (fd_n 18 sr_X4_breach_1 rfl) rfl
theorem dX4_breach_49 : decode cX4_breach 49 = .ok (.ireturn, 1) := fo_172 (fd_n 21 sr_X4_breach_1 rfl)
theorem dX4_breach_50 : decode cX4_breach 50 = .ok (.aload_n 0, 1) := fo_42 (fd_n 22 sr_X4_breach_1 rfl)
theorem dX4_breach_51 : decode cX4_breach 51 = .ok (.iload_n 1, 1) := fo_27 (fd_n 23 sr_X4_breach_1 rfl)
theorem dX4_breach_52 : decode cX4_breach 52 = .ok (.invokevirtual 170, 3) := fo_182 (fd_n 24 sr_X4_breach_1 rfl) rfl
theorem dX4_breach_55 : decode cX4_breach 55 = .ok (.istore_n 2, 1) := fo_61 (fd_n 27 sr_X4_breach_1 rfl)
theorem dX4_breach_56 : decode cX4_breach 56 = .ok (.iload_n 2, 1) := fo_28 sr_X4_breach_2
theorem dX4_breach_57 : decode cX4_breach 57 = .ok (.ifCond .ge 11, 3) := fo_156 (fd_n 1 sr_X4_breach_2 rfl) (by decide +kernel)
theorem dX4_breach_60 : decode cX4_breach 60 = .ok (.aload_n 0, 1) := fo_42 (fd_n 4 sr_X4_breach_2 rfl)
theorem dX4_breach_61 : decode cX4_breach 61 = .ok (.iconst 3, 1) := fo_6 (fd_n 5 sr_X4_breach_2 rfl)
theorem dX4_breach_62 : decode cX4_breach 62 = .ok (.invokevirtual 64, 3) := fo_182 (fd_n 6 sr_X4_breach_2 rfl) rfl
theorem dX4_breach_65 : decode cX4_breach 65 = .ok (.goto 4, 3) := fo_167 (fd_n 9 sr_X4_breach_2 rfl) (by decide +kernel)
theorem dX4_breach_68 : decode cX4_breach 68 = .ok (.iload_n 2, 1) := fo_28 (fd_n 12 sr_X4_breach_2 rfl)
theorem dX4_breach_69 : decode cX4_breach 69 = .ok (.ireturn, 1) := fo_172 (fd_n 13 sr_X4_breach_2 rfl)
noncomputable def sl_X4_blame_3 : List UInt8 := 182 :: 0 :: 173 :: 154 :: 0 :: 5 :: 28 :: 172 :: 132 :: 2 :: 1 :: 167 :: 255 :: 225 :: 42 :: 6 :: 182 :: 0 :: 64 :: 172 :: []
noncomputable def sl_X4_blame_2 : List UInt8 := 42 :: 6 :: 182 :: 0 :: 64 :: 172 :: 3 :: 61 :: 28 :: 16 :: 25 :: 162 :: 0 :: 31 :: 42 :: 180 :: 0 :: 19 :: 28 :: 182 :: 0 :: 68 :: 153 :: 0 :: 14 :: 42 :: 28 :: 27 :: sl_X4_blame_3
noncomputable def sl_X4_blame_1 : List UInt8 := 42 :: 180 :: 0 :: 10 :: 180 :: 0 :: 157 :: 16 :: 120 :: 96 :: 17 :: 3 :: 231 :: 164 :: 0 :: 9 :: 42 :: 7 :: 182 :: 0 :: 64 :: 172 :: 42 :: 27 :: 182 :: 0 :: 170 :: 156 :: 0 :: 9 :: sl_X4_blame_2
noncomputable def sl_X4_blame_0 : List UInt8 := 42 :: 27 :: 182 :: 0 :: 111 :: 154 :: 0 :: 9 :: 42 :: 3 :: 182 :: 0 :: 64 :: 172 :: 42 :: 180 :: 0 :: 10 :: 180 :: 0 :: 114 :: 7 :: 50 :: 27 :: 46 :: 155 :: 0 :: 19 :: sl_X4_blame_1
theorem sr_X4_blame_0 : fd_at cX4_blame 0 sl_X4_blame_0 := fd_base (by decide +kernel)
theorem sr_X4_blame_1 : fd_at cX4_blame 28 sl_X4_blame_1 := fd_n 28 sr_X4_blame_0 rfl
theorem sr_X4_blame_2 : fd_at cX4_blame 58 sl_X4_blame_2 := fd_n 30 sr_X4_blame_1 rfl
theorem sr_X4_blame_3 : fd_at cX4_blame 86 sl_X4_blame_3 := fd_n 28 sr_X4_blame_2 rfl
theorem dX4_blame_0 : decode cX4_blame 0 = .ok (.aload_n 0, 1) := fo_42 sr_X4_blame_0
theorem dX4_blame_1 : decode cX4_blame 1 = .ok (.iload_n 1, 1) := fo_27 (fd_n 1 sr_X4_blame_0 rfl)
theorem dX4_blame_2 : decode cX4_blame 2 = .ok (.invokevirtual 111, 3) := fo_182 (fd_n 2 sr_X4_blame_0 rfl) rfl
theorem dX4_blame_5 : decode cX4_blame 5 = .ok (.ifCond .ne 9, 3) := fo_154 (fd_n 5 sr_X4_blame_0 rfl) (by decide +kernel)
theorem dX4_blame_8 : decode cX4_blame 8 = .ok (.aload_n 0, 1) := fo_42 (fd_n 8 sr_X4_blame_0 rfl)
theorem dX4_blame_9 : decode cX4_blame 9 = .ok (.iconst 0, 1) := fo_3 (fd_n 9 sr_X4_blame_0 rfl)
theorem dX4_blame_10 : decode cX4_blame 10 = .ok (.invokevirtual 64, 3) := fo_182 (fd_n 10 sr_X4_blame_0 rfl) rfl
theorem dX4_blame_13 : decode cX4_blame 13 = .ok (.ireturn, 1) := fo_172 (fd_n 13 sr_X4_blame_0 rfl)
theorem dX4_blame_14 : decode cX4_blame 14 = .ok (.aload_n 0, 1) := fo_42 (fd_n 14 sr_X4_blame_0 rfl)
theorem dX4_blame_15 : decode cX4_blame 15 = .ok (.getfield 10, 3) := fo_180 (fd_n 15 sr_X4_blame_0 rfl) rfl
theorem dX4_blame_18 : decode cX4_blame 18 = .ok (.getfield 114, 3) := fo_180 (fd_n 18 sr_X4_blame_0 rfl) rfl
theorem dX4_blame_21 : decode cX4_blame 21 = .ok (.iconst 4, 1) := fo_7 (fd_n 21 sr_X4_blame_0 rfl)
theorem dX4_blame_22 : decode cX4_blame 22 = .ok (.aaload, 1) := fo_50 (fd_n 22 sr_X4_blame_0 rfl)
theorem dX4_blame_23 : decode cX4_blame 23 = .ok (.iload_n 1, 1) := fo_27 (fd_n 23 sr_X4_blame_0 rfl)
theorem dX4_blame_24 : decode cX4_blame 24 = .ok (.iaload, 1) := fo_46 (fd_n 24 sr_X4_blame_0 rfl)
theorem dX4_blame_25 : decode cX4_blame 25 = .ok (.ifCond .lt 19, 3) := fo_155 (fd_n 25 sr_X4_blame_0 rfl) (by decide +kernel)
theorem dX4_blame_28 : decode cX4_blame 28 = .ok (.aload_n 0, 1) := fo_42 sr_X4_blame_1
theorem dX4_blame_29 : decode cX4_blame 29 = .ok (.getfield 10, 3) := fo_180 (fd_n 1 sr_X4_blame_1 rfl) rfl
theorem dX4_blame_32 : decode cX4_blame 32 = .ok (.getfield 157, 3) := fo_180 (fd_n 4 sr_X4_blame_1 rfl) rfl
theorem dX4_blame_35 : decode cX4_blame 35 = .ok (.bipush 120, 2) := fo_16 (fd_n 7 sr_X4_blame_1 rfl) (by decide +kernel)
theorem dX4_blame_37 : decode cX4_blame 37 = .ok (.iadd, 1) := fo_96 (fd_n 9 sr_X4_blame_1 rfl)
theorem dX4_blame_38 : decode cX4_blame 38 = .ok (.sipush 999, 3) := fo_17 (fd_n 10 sr_X4_blame_1 rfl) (by decide +kernel)
theorem dX4_blame_41 : decode cX4_blame 41 = .ok (.if_icmp .le 9, 3) := fo_164 (fd_n 13 sr_X4_blame_1 rfl) (by decide +kernel)
theorem dX4_blame_44 : decode cX4_blame 44 = .ok (.aload_n 0, 1) := fo_42 (fd_n 16 sr_X4_blame_1 rfl)
theorem dX4_blame_45 : decode cX4_blame 45 = .ok (.iconst 4, 1) := fo_7 (fd_n 17 sr_X4_blame_1 rfl)
theorem dX4_blame_46 : decode cX4_blame 46 = .ok (.invokevirtual 64, 3) := fo_182 (fd_n 18 sr_X4_blame_1 rfl) rfl
theorem dX4_blame_49 : decode cX4_blame 49 = .ok (.ireturn, 1) := fo_172 (fd_n 21 sr_X4_blame_1 rfl)
theorem dX4_blame_50 : decode cX4_blame 50 = .ok (.aload_n 0, 1) := fo_42 (fd_n 22 sr_X4_blame_1 rfl)
theorem dX4_blame_51 : decode cX4_blame 51 = .ok (.iload_n 1, 1) := fo_27 (fd_n 23 sr_X4_blame_1 rfl)
theorem dX4_blame_52 : decode cX4_blame 52 = .ok (.invokevirtual 170, 3) := fo_182 (fd_n 24 sr_X4_blame_1 rfl) rfl
theorem dX4_blame_55 : decode cX4_blame 55 = .ok (.ifCond .ge 9, 3) := fo_156 (fd_n 27 sr_X4_blame_1 rfl) (by decide +kernel)
theorem dX4_blame_58 : decode cX4_blame 58 = .ok (.aload_n 0, 1) := fo_42 sr_X4_blame_2
theorem dX4_blame_59 : decode cX4_blame 59 = .ok (.iconst 3, 1) := fo_6 (fd_n 1 sr_X4_blame_2 rfl)
theorem dX4_blame_60 : decode cX4_blame 60 = .ok (.invokevirtual 64, 3) := fo_182 (fd_n 2 sr_X4_blame_2 rfl) rfl
theorem dX4_blame_63 : decode cX4_blame 63 = .ok (.ireturn, 1) := fo_172 (fd_n 5 sr_X4_blame_2 rfl)
theorem dX4_blame_64 : decode cX4_blame 64 = .ok (.iconst 0, 1) := fo_3 (fd_n 6 sr_X4_blame_2 rfl)
theorem dX4_blame_65 : decode cX4_blame 65 = .ok (.istore_n 2, 1) := fo_61 (fd_n 7 sr_X4_blame_2 rfl)
theorem dX4_blame_66 : decode cX4_blame 66 = .ok (.iload_n 2, 1) := fo_28 (fd_n 8 sr_X4_blame_2 rfl)
theorem dX4_blame_67 : decode cX4_blame 67 = .ok (.bipush 25, 2) := fo_16 (fd_n 9 sr_X4_blame_2 rfl) (by decide +kernel)
theorem dX4_blame_69 : decode cX4_blame 69 = .ok (.if_icmp .ge 31, 3) := fo_162 (fd_n 11 sr_X4_blame_2 rfl) (by decide +kernel)
theorem dX4_blame_72 : decode cX4_blame 72 = .ok (.aload_n 0, 1) := fo_42 (fd_n 14 sr_X4_blame_2 rfl)
theorem dX4_blame_73 : decode cX4_blame 73 = .ok (.getfield 19, 3) := fo_180 (fd_n 15 sr_X4_blame_2 rfl) rfl
theorem dX4_blame_76 : decode cX4_blame 76 = .ok (.iload_n 2, 1) := fo_28 (fd_n 18 sr_X4_blame_2 rfl)
theorem dX4_blame_77 : decode cX4_blame 77 = .ok (.invokevirtual 68, 3) := fo_182 (fd_n 19 sr_X4_blame_2 rfl) rfl
theorem dX4_blame_80 : decode cX4_blame 80 = .ok (.ifCond .eq 14, 3) := fo_153 (fd_n 22 sr_X4_blame_2 rfl) (by decide +kernel)
theorem dX4_blame_83 : decode cX4_blame 83 = .ok (.aload_n 0, 1) := fo_42 (fd_n 25 sr_X4_blame_2 rfl)
theorem dX4_blame_84 : decode cX4_blame 84 = .ok (.iload_n 2, 1) := fo_28 (fd_n 26 sr_X4_blame_2 rfl)
theorem dX4_blame_85 : decode cX4_blame 85 = .ok (.iload_n 1, 1) := fo_27 (fd_n 27 sr_X4_blame_2 rfl)
theorem dX4_blame_86 : decode cX4_blame 86 = .ok (.invokevirtual 173, 3) := fo_182 sr_X4_blame_3 rfl
theorem dX4_blame_89 : decode cX4_blame 89 = .ok (.ifCond .ne 5, 3) := fo_154 (fd_n 3 sr_X4_blame_3 rfl) (by decide +kernel)
theorem dX4_blame_92 : decode cX4_blame 92 = .ok (.iload_n 2, 1) := fo_28 (fd_n 6 sr_X4_blame_3 rfl)
theorem dX4_blame_93 : decode cX4_blame 93 = .ok (.ireturn, 1) := fo_172 (fd_n 7 sr_X4_blame_3 rfl)
theorem dX4_blame_94 : decode cX4_blame 94 = .ok (.iinc 2 1, 3) := fo_132 (fd_n 8 sr_X4_blame_3 rfl) rfl (by decide +kernel)
theorem dX4_blame_97 : decode cX4_blame 97 = .ok (.goto (-31), 3) := fo_167 (fd_n 11 sr_X4_blame_3 rfl) (by decide +kernel)
theorem dX4_blame_100 : decode cX4_blame 100 = .ok (.aload_n 0, 1) := fo_42 (fd_n 14 sr_X4_blame_3 rfl)
theorem dX4_blame_101 : decode cX4_blame 101 = .ok (.iconst 3, 1) := fo_6 (fd_n 15 sr_X4_blame_3 rfl)
theorem dX4_blame_102 : decode cX4_blame 102 = .ok (.invokevirtual 64, 3) := fo_182 (fd_n 16 sr_X4_blame_3 rfl) rfl
theorem dX4_blame_105 : decode cX4_blame 105 = .ok (.ireturn, 1) := fo_172 (fd_n 19 sr_X4_blame_3 rfl)
noncomputable def sl_X4_paint_1 : List UInt8 := 182 :: 0 :: 64 :: 172 :: 42 :: 27 :: 6 :: 182 :: 0 :: 176 :: 172 :: []
noncomputable def sl_X4_paint_0 : List UInt8 := 27 :: 16 :: 25 :: 184 :: 0 :: 60 :: 154 :: 0 :: 9 :: 42 :: 3 :: 182 :: 0 :: 64 :: 172 :: 42 :: 180 :: 0 :: 10 :: 27 :: 182 :: 0 :: 68 :: 154 :: 0 :: 9 :: 42 :: 6 :: sl_X4_paint_1
theorem sr_X4_paint_0 : fd_at cX4_paint 0 sl_X4_paint_0 := fd_base (by decide +kernel)
theorem sr_X4_paint_1 : fd_at cX4_paint 28 sl_X4_paint_1 := fd_n 28 sr_X4_paint_0 rfl
theorem dX4_paint_0 : decode cX4_paint 0 = .ok (.iload_n 1, 1) := fo_27 sr_X4_paint_0
theorem dX4_paint_1 : decode cX4_paint 1 = .ok (.bipush 25, 2) := fo_16 (fd_n 1 sr_X4_paint_0 rfl) (by decide +kernel)
theorem dX4_paint_3 : decode cX4_paint 3 = .ok (.invokestatic 60, 3) := fo_184 (fd_n 3 sr_X4_paint_0 rfl) rfl
theorem dX4_paint_6 : decode cX4_paint 6 = .ok (.ifCond .ne 9, 3) := fo_154 (fd_n 6 sr_X4_paint_0 rfl) (by decide +kernel)
theorem dX4_paint_9 : decode cX4_paint 9 = .ok (.aload_n 0, 1) := fo_42 (fd_n 9 sr_X4_paint_0 rfl)
theorem dX4_paint_10 : decode cX4_paint 10 = .ok (.iconst 0, 1) := fo_3 (fd_n 10 sr_X4_paint_0 rfl)
theorem dX4_paint_11 : decode cX4_paint 11 = .ok (.invokevirtual 64, 3) := fo_182 (fd_n 11 sr_X4_paint_0 rfl) rfl
theorem dX4_paint_14 : decode cX4_paint 14 = .ok (.ireturn, 1) := fo_172 (fd_n 14 sr_X4_paint_0 rfl)
theorem dX4_paint_15 : decode cX4_paint 15 = .ok (.aload_n 0, 1) := fo_42 (fd_n 15 sr_X4_paint_0 rfl)
theorem dX4_paint_16 : decode cX4_paint 16 = .ok (.getfield 10, 3) := fo_180 (fd_n 16 sr_X4_paint_0 rfl) rfl
theorem dX4_paint_19 : decode cX4_paint 19 = .ok (.iload_n 1, 1) := fo_27 (fd_n 19 sr_X4_paint_0 rfl)
theorem dX4_paint_20 : decode cX4_paint 20 = .ok (.invokevirtual 68, 3) := fo_182 (fd_n 20 sr_X4_paint_0 rfl) rfl
theorem dX4_paint_23 : decode cX4_paint 23 = .ok (.ifCond .ne 9, 3) := fo_154 (fd_n 23 sr_X4_paint_0 rfl) (by decide +kernel)
theorem dX4_paint_26 : decode cX4_paint 26 = .ok (.aload_n 0, 1) := fo_42 (fd_n 26 sr_X4_paint_0 rfl)
theorem dX4_paint_27 : decode cX4_paint 27 = .ok (.iconst 3, 1) := fo_6 (fd_n 27 sr_X4_paint_0 rfl)
theorem dX4_paint_28 : decode cX4_paint 28 = .ok (.invokevirtual 64, 3) := fo_182 sr_X4_paint_1 rfl
theorem dX4_paint_31 : decode cX4_paint 31 = .ok (.ireturn, 1) := fo_172 (fd_n 3 sr_X4_paint_1 rfl)
theorem dX4_paint_32 : decode cX4_paint 32 = .ok (.aload_n 0, 1) := fo_42 (fd_n 4 sr_X4_paint_1 rfl)
theorem dX4_paint_33 : decode cX4_paint 33 = .ok (.iload_n 1, 1) := fo_27 (fd_n 5 sr_X4_paint_1 rfl)
theorem dX4_paint_34 : decode cX4_paint 34 = .ok (.iconst 3, 1) := fo_6 (fd_n 6 sr_X4_paint_1 rfl)
theorem dX4_paint_35 : decode cX4_paint 35 = .ok (.invokevirtual 176, 3) := fo_182 (fd_n 7 sr_X4_paint_1 rfl) rfl
theorem dX4_paint_38 : decode cX4_paint 38 = .ok (.ireturn, 1) := fo_172 (fd_n 10 sr_X4_paint_1 rfl)
noncomputable def sl_X4_height_1 : List UInt8 := 182 :: 0 :: 64 :: 172 :: 42 :: 27 :: 5 :: 182 :: 0 :: 176 :: 172 :: []
noncomputable def sl_X4_height_0 : List UInt8 := 27 :: 16 :: 25 :: 184 :: 0 :: 60 :: 154 :: 0 :: 9 :: 42 :: 3 :: 182 :: 0 :: 64 :: 172 :: 42 :: 180 :: 0 :: 10 :: 27 :: 182 :: 0 :: 68 :: 154 :: 0 :: 9 :: 42 :: 6 :: sl_X4_height_1
theorem sr_X4_height_0 : fd_at cX4_height 0 sl_X4_height_0 := fd_base (by decide +kernel)
theorem sr_X4_height_1 : fd_at cX4_height 28 sl_X4_height_1 := fd_n 28 sr_X4_height_0 rfl
theorem dX4_height_0 : decode cX4_height 0 = .ok (.iload_n 1, 1) := fo_27 sr_X4_height_0
theorem dX4_height_1 : decode cX4_height 1 = .ok (.bipush 25, 2) := fo_16 (fd_n 1 sr_X4_height_0 rfl) (by decide +kernel)
theorem dX4_height_3 : decode cX4_height 3 = .ok (.invokestatic 60, 3) := fo_184 (fd_n 3 sr_X4_height_0 rfl) rfl
theorem dX4_height_6 : decode cX4_height 6 = .ok (.ifCond .ne 9, 3) := fo_154 (fd_n 6 sr_X4_height_0 rfl) (by decide +kernel)
theorem dX4_height_9 : decode cX4_height 9 = .ok (.aload_n 0, 1) := fo_42 (fd_n 9 sr_X4_height_0 rfl)
theorem dX4_height_10 : decode cX4_height 10 = .ok (.iconst 0, 1) := fo_3 (fd_n 10 sr_X4_height_0 rfl)
theorem dX4_height_11 : decode cX4_height 11 = .ok (.invokevirtual 64, 3) := fo_182 (fd_n 11 sr_X4_height_0 rfl) rfl
theorem dX4_height_14 : decode cX4_height 14 = .ok (.ireturn, 1) := fo_172 (fd_n 14 sr_X4_height_0 rfl)
theorem dX4_height_15 : decode cX4_height 15 = .ok (.aload_n 0, 1) := fo_42 (fd_n 15 sr_X4_height_0 rfl)
theorem dX4_height_16 : decode cX4_height 16 = .ok (.getfield 10, 3) := fo_180 (fd_n 16 sr_X4_height_0 rfl) rfl
theorem dX4_height_19 : decode cX4_height 19 = .ok (.iload_n 1, 1) := fo_27 (fd_n 19 sr_X4_height_0 rfl)
theorem dX4_height_20 : decode cX4_height 20 = .ok (.invokevirtual 68, 3) := fo_182 (fd_n 20 sr_X4_height_0 rfl) rfl
theorem dX4_height_23 : decode cX4_height 23 = .ok (.ifCond .ne 9, 3) := fo_154 (fd_n 23 sr_X4_height_0 rfl) (by decide +kernel)
theorem dX4_height_26 : decode cX4_height 26 = .ok (.aload_n 0, 1) := fo_42 (fd_n 26 sr_X4_height_0 rfl)
theorem dX4_height_27 : decode cX4_height 27 = .ok (.iconst 3, 1) := fo_6 (fd_n 27 sr_X4_height_0 rfl)
theorem dX4_height_28 : decode cX4_height 28 = .ok (.invokevirtual 64, 3) := fo_182 sr_X4_height_1 rfl
theorem dX4_height_31 : decode cX4_height 31 = .ok (.ireturn, 1) := fo_172 (fd_n 3 sr_X4_height_1 rfl)
theorem dX4_height_32 : decode cX4_height 32 = .ok (.aload_n 0, 1) := fo_42 (fd_n 4 sr_X4_height_1 rfl)
theorem dX4_height_33 : decode cX4_height 33 = .ok (.iload_n 1, 1) := fo_27 (fd_n 5 sr_X4_height_1 rfl)
theorem dX4_height_34 : decode cX4_height 34 = .ok (.iconst 2, 1) := fo_5 (fd_n 6 sr_X4_height_1 rfl)
theorem dX4_height_35 : decode cX4_height 35 = .ok (.invokevirtual 176, 3) := fo_182 (fd_n 7 sr_X4_height_1 rfl) rfl
theorem dX4_height_38 : decode cX4_height 38 = .ok (.ireturn, 1) := fo_172 (fd_n 10 sr_X4_height_1 rfl)
noncomputable def sl_X4_storey_4 : List UInt8 := 180 :: 0 :: 84 :: 5 :: 50 :: 27 :: 92 :: 46 :: 4 :: 100 :: 79 :: 42 :: 180 :: 0 :: 50 :: 28 :: 46 :: 42 :: 180 :: 0 :: 47 :: 28 :: 46 :: 100 :: 172 :: []
noncomputable def sl_X4_storey_3 : List UInt8 := 5 :: 50 :: 27 :: 92 :: 46 :: 4 :: 96 :: 79 :: 42 :: 180 :: 0 :: 25 :: 42 :: 180 :: 0 :: 10 :: 42 :: 180 :: 0 :: 50 :: 182 :: 0 :: 149 :: 87 :: 42 :: 180 :: 0 :: 10 :: sl_X4_storey_4
noncomputable def sl_X4_storey_2 : List UInt8 := 42 :: 7 :: 182 :: 0 :: 64 :: 172 :: 42 :: 180 :: 0 :: 25 :: 42 :: 180 :: 0 :: 10 :: 42 :: 180 :: 0 :: 47 :: 182 :: 0 :: 149 :: 87 :: 42 :: 180 :: 0 :: 10 :: 180 :: 0 :: 84 :: sl_X4_storey_3
noncomputable def sl_X4_storey_1 : List UInt8 := 182 :: 0 :: 68 :: 154 :: 0 :: 9 :: 42 :: 6 :: 182 :: 0 :: 64 :: 172 :: 42 :: 180 :: 0 :: 10 :: 180 :: 0 :: 84 :: 5 :: 50 :: 27 :: 46 :: 16 :: 9 :: 161 :: 0 :: 9 :: sl_X4_storey_2
noncomputable def sl_X4_storey_0 : List UInt8 := 27 :: 16 :: 25 :: 184 :: 0 :: 60 :: 153 :: 0 :: 11 :: 28 :: 7 :: 184 :: 0 :: 60 :: 154 :: 0 :: 9 :: 42 :: 3 :: 182 :: 0 :: 64 :: 172 :: 42 :: 180 :: 0 :: 10 :: 27 :: sl_X4_storey_1
theorem sr_X4_storey_0 : fd_at cX4_storey 0 sl_X4_storey_0 := fd_base (by decide +kernel)
theorem sr_X4_storey_1 : fd_at cX4_storey 28 sl_X4_storey_1 := fd_n 28 sr_X4_storey_0 rfl
theorem sr_X4_storey_2 : fd_at cX4_storey 56 sl_X4_storey_2 := fd_n 28 sr_X4_storey_1 rfl
theorem sr_X4_storey_3 : fd_at cX4_storey 85 sl_X4_storey_3 := fd_n 29 sr_X4_storey_2 rfl
theorem sr_X4_storey_4 : fd_at cX4_storey 113 sl_X4_storey_4 := fd_n 28 sr_X4_storey_3 rfl
theorem dX4_storey_0 : decode cX4_storey 0 = .ok (.iload_n 1, 1) := fo_27 sr_X4_storey_0
theorem dX4_storey_1 : decode cX4_storey 1 = .ok (.bipush 25, 2) := fo_16 (fd_n 1 sr_X4_storey_0 rfl) (by decide +kernel)
theorem dX4_storey_3 : decode cX4_storey 3 = .ok (.invokestatic 60, 3) := fo_184 (fd_n 3 sr_X4_storey_0 rfl) rfl
theorem dX4_storey_6 : decode cX4_storey 6 = .ok (.ifCond .eq 11, 3) := fo_153 (fd_n 6 sr_X4_storey_0 rfl) (by decide +kernel)
theorem dX4_storey_9 : decode cX4_storey 9 = .ok (.iload_n 2, 1) := fo_28 (fd_n 9 sr_X4_storey_0 rfl)
theorem dX4_storey_10 : decode cX4_storey 10 = .ok (.iconst 4, 1) := fo_7 (fd_n 10 sr_X4_storey_0 rfl)
theorem dX4_storey_11 : decode cX4_storey 11 = .ok (.invokestatic 60, 3) := fo_184 (fd_n 11 sr_X4_storey_0 rfl) rfl
theorem dX4_storey_14 : decode cX4_storey 14 = .ok (.ifCond .ne 9, 3) := fo_154 (fd_n 14 sr_X4_storey_0 rfl) (by decide +kernel)
theorem dX4_storey_17 : decode cX4_storey 17 = .ok (.aload_n 0, 1) := fo_42 (fd_n 17 sr_X4_storey_0 rfl)
theorem dX4_storey_18 : decode cX4_storey 18 = .ok (.iconst 0, 1) := fo_3 (fd_n 18 sr_X4_storey_0 rfl)
theorem dX4_storey_19 : decode cX4_storey 19 = .ok (.invokevirtual 64, 3) := fo_182 (fd_n 19 sr_X4_storey_0 rfl) rfl
theorem dX4_storey_22 : decode cX4_storey 22 = .ok (.ireturn, 1) := fo_172 (fd_n 22 sr_X4_storey_0 rfl)
theorem dX4_storey_23 : decode cX4_storey 23 = .ok (.aload_n 0, 1) := fo_42 (fd_n 23 sr_X4_storey_0 rfl)
theorem dX4_storey_24 : decode cX4_storey 24 = .ok (.getfield 10, 3) := fo_180 (fd_n 24 sr_X4_storey_0 rfl) rfl
theorem dX4_storey_27 : decode cX4_storey 27 = .ok (.iload_n 1, 1) := fo_27 (fd_n 27 sr_X4_storey_0 rfl)
theorem dX4_storey_28 : decode cX4_storey 28 = .ok (.invokevirtual 68, 3) := fo_182 sr_X4_storey_1 rfl
theorem dX4_storey_31 : decode cX4_storey 31 = .ok (.ifCond .ne 9, 3) := fo_154 (fd_n 3 sr_X4_storey_1 rfl) (by decide +kernel)
theorem dX4_storey_34 : decode cX4_storey 34 = .ok (.aload_n 0, 1) := fo_42 (fd_n 6 sr_X4_storey_1 rfl)
theorem dX4_storey_35 : decode cX4_storey 35 = .ok (.iconst 3, 1) := fo_6 (fd_n 7 sr_X4_storey_1 rfl)
theorem dX4_storey_36 : decode cX4_storey 36 = .ok (.invokevirtual 64, 3) := fo_182 (fd_n 8 sr_X4_storey_1 rfl) rfl
theorem dX4_storey_39 : decode cX4_storey 39 = .ok (.ireturn, 1) := fo_172 (fd_n 11 sr_X4_storey_1 rfl)
theorem dX4_storey_40 : decode cX4_storey 40 = .ok (.aload_n 0, 1) := fo_42 (fd_n 12 sr_X4_storey_1 rfl)
theorem dX4_storey_41 : decode cX4_storey 41 = .ok (.getfield 10, 3) := fo_180 (fd_n 13 sr_X4_storey_1 rfl) rfl
theorem dX4_storey_44 : decode cX4_storey 44 = .ok (.getfield 84, 3) := fo_180 (fd_n 16 sr_X4_storey_1 rfl) rfl
theorem dX4_storey_47 : decode cX4_storey 47 = .ok (.iconst 2, 1) := fo_5 (fd_n 19 sr_X4_storey_1 rfl)
theorem dX4_storey_48 : decode cX4_storey 48 = .ok (.aaload, 1) := fo_50 (fd_n 20 sr_X4_storey_1 rfl)
theorem dX4_storey_49 : decode cX4_storey 49 = .ok (.iload_n 1, 1) := fo_27 (fd_n 21 sr_X4_storey_1 rfl)
theorem dX4_storey_50 : decode cX4_storey 50 = .ok (.iaload, 1) := fo_46 (fd_n 22 sr_X4_storey_1 rfl)
theorem dX4_storey_51 : decode cX4_storey 51 = .ok (.bipush 9, 2) := fo_16 (fd_n 23 sr_X4_storey_1 rfl) (by decide +kernel)
theorem dX4_storey_53 : decode cX4_storey 53 = .ok (.if_icmp .lt 9, 3) := fo_161 (fd_n 25 sr_X4_storey_1 rfl) (by decide +kernel)
theorem dX4_storey_56 : decode cX4_storey 56 = .ok (.aload_n 0, 1) := fo_42 sr_X4_storey_2
theorem dX4_storey_57 : decode cX4_storey 57 = .ok (.iconst 4, 1) := fo_7 (fd_n 1 sr_X4_storey_2 rfl)
theorem dX4_storey_58 : decode cX4_storey 58 = .ok (.invokevirtual 64, 3) := fo_182 (fd_n 2 sr_X4_storey_2 rfl) rfl
theorem dX4_storey_61 : decode cX4_storey 61 = .ok (.ireturn, 1) := fo_172 (fd_n 5 sr_X4_storey_2 rfl)
theorem dX4_storey_62 : decode cX4_storey 62 = .ok (.aload_n 0, 1) := fo_42 (fd_n 6 sr_X4_storey_2 rfl)
theorem dX4_storey_63 : decode cX4_storey 63 = .ok (.getfield 25, 3) := fo_180 (fd_n 7 sr_X4_storey_2 rfl) rfl
theorem dX4_storey_66 : decode cX4_storey 66 = .ok (.aload_n 0, 1) := fo_42 (fd_n 10 sr_X4_storey_2 rfl)
theorem dX4_storey_67 : decode cX4_storey 67 = .ok (.getfield 10, 3) := fo_180 (fd_n 11 sr_X4_storey_2 rfl) rfl
theorem dX4_storey_70 : decode cX4_storey 70 = .ok (.aload_n 0, 1) := fo_42 (fd_n 14 sr_X4_storey_2 rfl)
theorem dX4_storey_71 : decode cX4_storey 71 = .ok (.getfield 47, 3) := fo_180 (fd_n 15 sr_X4_storey_2 rfl) rfl
theorem dX4_storey_74 : decode cX4_storey 74 = .ok (.invokevirtual 149, 3) := fo_182 (fd_n 18 sr_X4_storey_2 rfl) rfl
theorem dX4_storey_77 : decode cX4_storey 77 = .ok (.pop, 1) := fo_87 (fd_n 21 sr_X4_storey_2 rfl)
theorem dX4_storey_78 : decode cX4_storey 78 = .ok (.aload_n 0, 1) := fo_42 (fd_n 22 sr_X4_storey_2 rfl)
theorem dX4_storey_79 : decode cX4_storey 79 = .ok (.getfield 10, 3) := fo_180 (fd_n 23 sr_X4_storey_2 rfl) rfl
theorem dX4_storey_82 : decode cX4_storey 82 = .ok (.getfield 84, 3) := fo_180 (fd_n 26 sr_X4_storey_2 rfl) rfl
theorem dX4_storey_85 : decode cX4_storey 85 = .ok (.iconst 2, 1) := fo_5 sr_X4_storey_3
theorem dX4_storey_86 : decode cX4_storey 86 = .ok (.aaload, 1) := fo_50 (fd_n 1 sr_X4_storey_3 rfl)
theorem dX4_storey_87 : decode cX4_storey 87 = .ok (.iload_n 1, 1) := fo_27 (fd_n 2 sr_X4_storey_3 rfl)
theorem dX4_storey_88 : decode cX4_storey 88 = .ok (.dup2, 1) := fo_92 (fd_n 3 sr_X4_storey_3 rfl)
theorem dX4_storey_89 : decode cX4_storey 89 = .ok (.iaload, 1) := fo_46 (fd_n 4 sr_X4_storey_3 rfl)
theorem dX4_storey_90 : decode cX4_storey 90 = .ok (.iconst 1, 1) := fo_4 (fd_n 5 sr_X4_storey_3 rfl)
theorem dX4_storey_91 : decode cX4_storey 91 = .ok (.iadd, 1) := fo_96 (fd_n 6 sr_X4_storey_3 rfl)
theorem dX4_storey_92 : decode cX4_storey 92 = .ok (.iastore, 1) := fo_79 (fd_n 7 sr_X4_storey_3 rfl)
theorem dX4_storey_93 : decode cX4_storey 93 = .ok (.aload_n 0, 1) := fo_42 (fd_n 8 sr_X4_storey_3 rfl)
theorem dX4_storey_94 : decode cX4_storey 94 = .ok (.getfield 25, 3) := fo_180 (fd_n 9 sr_X4_storey_3 rfl) rfl
theorem dX4_storey_97 : decode cX4_storey 97 = .ok (.aload_n 0, 1) := fo_42 (fd_n 12 sr_X4_storey_3 rfl)
theorem dX4_storey_98 : decode cX4_storey 98 = .ok (.getfield 10, 3) := fo_180 (fd_n 13 sr_X4_storey_3 rfl) rfl
theorem dX4_storey_101 : decode cX4_storey 101 = .ok (.aload_n 0, 1) := fo_42 (fd_n 16 sr_X4_storey_3 rfl)
theorem dX4_storey_102 : decode cX4_storey 102 = .ok (.getfield 50, 3) := fo_180 (fd_n 17 sr_X4_storey_3 rfl) rfl
theorem dX4_storey_105 : decode cX4_storey 105 = .ok (.invokevirtual 149, 3) := fo_182 (fd_n 20 sr_X4_storey_3 rfl) rfl
theorem dX4_storey_108 : decode cX4_storey 108 = .ok (.pop, 1) := fo_87 (fd_n 23 sr_X4_storey_3 rfl)
theorem dX4_storey_109 : decode cX4_storey 109 = .ok (.aload_n 0, 1) := fo_42 (fd_n 24 sr_X4_storey_3 rfl)
theorem dX4_storey_110 : decode cX4_storey 110 = .ok (.getfield 10, 3) := fo_180 (fd_n 25 sr_X4_storey_3 rfl) rfl
theorem dX4_storey_113 : decode cX4_storey 113 = .ok (.getfield 84, 3) := fo_180 sr_X4_storey_4 rfl
theorem dX4_storey_116 : decode cX4_storey 116 = .ok (.iconst 2, 1) := fo_5 (fd_n 3 sr_X4_storey_4 rfl)
theorem dX4_storey_117 : decode cX4_storey 117 = .ok (.aaload, 1) := fo_50 (fd_n 4 sr_X4_storey_4 rfl)
theorem dX4_storey_118 : decode cX4_storey 118 = .ok (.iload_n 1, 1) := fo_27 (fd_n 5 sr_X4_storey_4 rfl)
theorem dX4_storey_119 : decode cX4_storey 119 = .ok (.dup2, 1) := fo_92 (fd_n 6 sr_X4_storey_4 rfl)
theorem dX4_storey_120 : decode cX4_storey 120 = .ok (.iaload, 1) := fo_46 (fd_n 7 sr_X4_storey_4 rfl)
theorem dX4_storey_121 : decode cX4_storey 121 = .ok (.iconst 1, 1) := fo_4 (fd_n 8 sr_X4_storey_4 rfl)
theorem dX4_storey_122 : decode cX4_storey 122 = .ok (.isub, 1) := fo_100 (fd_n 9 sr_X4_storey_4 rfl)
theorem dX4_storey_123 : decode cX4_storey 123 = .ok (.iastore, 1) := fo_79 (fd_n 10 sr_X4_storey_4 rfl)
theorem dX4_storey_124 : decode cX4_storey 124 = .ok (.aload_n 0, 1) := fo_42 (fd_n 11 sr_X4_storey_4 rfl)
theorem dX4_storey_125 : decode cX4_storey 125 = .ok (.getfield 50, 3) := fo_180 (fd_n 12 sr_X4_storey_4 rfl) rfl
theorem dX4_storey_128 : decode cX4_storey 128 = .ok (.iload_n 2, 1) := fo_28 (fd_n 15 sr_X4_storey_4 rfl)
theorem dX4_storey_129 : decode cX4_storey 129 = .ok (.iaload, 1) := fo_46 (fd_n 16 sr_X4_storey_4 rfl)
theorem dX4_storey_130 : decode cX4_storey 130 = .ok (.aload_n 0, 1) := fo_42 (fd_n 17 sr_X4_storey_4 rfl)
theorem dX4_storey_131 : decode cX4_storey 131 = .ok (.getfield 47, 3) := fo_180 (fd_n 18 sr_X4_storey_4 rfl) rfl
theorem dX4_storey_134 : decode cX4_storey 134 = .ok (.iload_n 2, 1) := fo_28 (fd_n 21 sr_X4_storey_4 rfl)
theorem dX4_storey_135 : decode cX4_storey 135 = .ok (.iaload, 1) := fo_46 (fd_n 22 sr_X4_storey_4 rfl)
theorem dX4_storey_136 : decode cX4_storey 136 = .ok (.isub, 1) := fo_100 (fd_n 23 sr_X4_storey_4 rfl)
theorem dX4_storey_137 : decode cX4_storey 137 = .ok (.ireturn, 1) := fo_172 (fd_n 24 sr_X4_storey_4 rfl)
noncomputable def sl_X4_allowed_4 : List UInt8 := 180 :: 0 :: 84 :: 5 :: 50 :: 27 :: 28 :: 79 :: 21 :: 4 :: 172 :: []
noncomputable def sl_X4_allowed_3 : List UInt8 := 54 :: 6 :: 21 :: 5 :: 154 :: 0 :: 6 :: 21 :: 6 :: 62 :: 21 :: 6 :: 29 :: 163 :: 0 :: 7 :: 21 :: 5 :: 54 :: 4 :: 132 :: 5 :: 1 :: 167 :: 255 :: 199 :: 42 :: 180 :: 0 :: 10 :: sl_X4_allowed_4
noncomputable def sl_X4_allowed_2 : List UInt8 := 162 :: 0 :: 56 :: 42 :: 180 :: 0 :: 10 :: 180 :: 0 :: 84 :: 5 :: 50 :: 27 :: 21 :: 5 :: 79 :: 42 :: 180 :: 0 :: 25 :: 42 :: 180 :: 0 :: 10 :: 182 :: 0 :: 153 :: 184 :: 0 :: 180 :: sl_X4_allowed_3
noncomputable def sl_X4_allowed_1 : List UInt8 := 182 :: 0 :: 64 :: 172 :: 42 :: 180 :: 0 :: 10 :: 180 :: 0 :: 84 :: 5 :: 50 :: 27 :: 46 :: 61 :: 3 :: 62 :: 3 :: 54 :: 4 :: 3 :: 54 :: 5 :: 21 :: 5 :: 16 :: 10 :: sl_X4_allowed_2
noncomputable def sl_X4_allowed_0 : List UInt8 := 27 :: 16 :: 25 :: 184 :: 0 :: 60 :: 154 :: 0 :: 9 :: 42 :: 3 :: 182 :: 0 :: 64 :: 172 :: 42 :: 180 :: 0 :: 10 :: 27 :: 182 :: 0 :: 68 :: 154 :: 0 :: 9 :: 42 :: 6 :: sl_X4_allowed_1
theorem sr_X4_allowed_0 : fd_at cX4_allowed 0 sl_X4_allowed_0 := fd_base (by decide +kernel)
theorem sr_X4_allowed_1 : fd_at cX4_allowed 28 sl_X4_allowed_1 := fd_n 28 sr_X4_allowed_0 rfl
theorem sr_X4_allowed_2 : fd_at cX4_allowed 56 sl_X4_allowed_2 := fd_n 28 sr_X4_allowed_1 rfl
theorem sr_X4_allowed_3 : fd_at cX4_allowed 86 sl_X4_allowed_3 := fd_n 30 sr_X4_allowed_2 rfl
theorem sr_X4_allowed_4 : fd_at cX4_allowed 116 sl_X4_allowed_4 := fd_n 30 sr_X4_allowed_3 rfl
theorem dX4_allowed_0 : decode cX4_allowed 0 = .ok (.iload_n 1, 1) := fo_27 sr_X4_allowed_0
theorem dX4_allowed_1 : decode cX4_allowed 1 = .ok (.bipush 25, 2) := fo_16 (fd_n 1 sr_X4_allowed_0 rfl) (by decide +kernel)
theorem dX4_allowed_3 : decode cX4_allowed 3 = .ok (.invokestatic 60, 3) := fo_184 (fd_n 3 sr_X4_allowed_0 rfl) rfl
theorem dX4_allowed_6 : decode cX4_allowed 6 = .ok (.ifCond .ne 9, 3) := fo_154 (fd_n 6 sr_X4_allowed_0 rfl) (by decide +kernel)
theorem dX4_allowed_9 : decode cX4_allowed 9 = .ok (.aload_n 0, 1) := fo_42 (fd_n 9 sr_X4_allowed_0 rfl)
theorem dX4_allowed_10 : decode cX4_allowed 10 = .ok (.iconst 0, 1) := fo_3 (fd_n 10 sr_X4_allowed_0 rfl)
theorem dX4_allowed_11 : decode cX4_allowed 11 = .ok (.invokevirtual 64, 3) := fo_182 (fd_n 11 sr_X4_allowed_0 rfl) rfl
theorem dX4_allowed_14 : decode cX4_allowed 14 = .ok (.ireturn, 1) := fo_172 (fd_n 14 sr_X4_allowed_0 rfl)
theorem dX4_allowed_15 : decode cX4_allowed 15 = .ok (.aload_n 0, 1) := fo_42 (fd_n 15 sr_X4_allowed_0 rfl)
theorem dX4_allowed_16 : decode cX4_allowed 16 = .ok (.getfield 10, 3) := fo_180 (fd_n 16 sr_X4_allowed_0 rfl) rfl
theorem dX4_allowed_19 : decode cX4_allowed 19 = .ok (.iload_n 1, 1) := fo_27 (fd_n 19 sr_X4_allowed_0 rfl)
theorem dX4_allowed_20 : decode cX4_allowed 20 = .ok (.invokevirtual 68, 3) := fo_182 (fd_n 20 sr_X4_allowed_0 rfl) rfl
theorem dX4_allowed_23 : decode cX4_allowed 23 = .ok (.ifCond .ne 9, 3) := fo_154 (fd_n 23 sr_X4_allowed_0 rfl) (by decide +kernel)
theorem dX4_allowed_26 : decode cX4_allowed 26 = .ok (.aload_n 0, 1) := fo_42 (fd_n 26 sr_X4_allowed_0 rfl)
theorem dX4_allowed_27 : decode cX4_allowed 27 = .ok (.iconst 3, 1) := fo_6 (fd_n 27 sr_X4_allowed_0 rfl)
theorem dX4_allowed_28 : decode cX4_allowed 28 = .ok (.invokevirtual 64, 3) := fo_182 sr_X4_allowed_1 rfl
theorem dX4_allowed_31 : decode cX4_allowed 31 = .ok (.ireturn, 1) := fo_172 (fd_n 3 sr_X4_allowed_1 rfl)
theorem dX4_allowed_32 : decode cX4_allowed 32 = .ok (.aload_n 0, 1) := fo_42 (fd_n 4 sr_X4_allowed_1 rfl)
theorem dX4_allowed_33 : decode cX4_allowed 33 = .ok (.getfield 10, 3) := fo_180 (fd_n 5 sr_X4_allowed_1 rfl) rfl
theorem dX4_allowed_36 : decode cX4_allowed 36 = .ok (.getfield 84, 3) := fo_180 (fd_n 8 sr_X4_allowed_1 rfl) rfl
theorem dX4_allowed_39 : decode cX4_allowed 39 = .ok (.iconst 2, 1) := fo_5 (fd_n 11 sr_X4_allowed_1 rfl)
theorem dX4_allowed_40 : decode cX4_allowed 40 = .ok (.aaload, 1) := fo_50 (fd_n 12 sr_X4_allowed_1 rfl)
theorem dX4_allowed_41 : decode cX4_allowed 41 = .ok (.iload_n 1, 1) := fo_27 (fd_n 13 sr_X4_allowed_1 rfl)
theorem dX4_allowed_42 : decode cX4_allowed 42 = .ok (.iaload, 1) := fo_46 (fd_n 14 sr_X4_allowed_1 rfl)
theorem dX4_allowed_43 : decode cX4_allowed 43 = .ok (.istore_n 2, 1) := fo_61 (fd_n 15 sr_X4_allowed_1 rfl)
theorem dX4_allowed_44 : decode cX4_allowed 44 = .ok (.iconst 0, 1) := fo_3 (fd_n 16 sr_X4_allowed_1 rfl)
theorem dX4_allowed_45 : decode cX4_allowed 45 = .ok (.istore_n 3, 1) := fo_62 (fd_n 17 sr_X4_allowed_1 rfl)
theorem dX4_allowed_46 : decode cX4_allowed 46 = .ok (.iconst 0, 1) := fo_3 (fd_n 18 sr_X4_allowed_1 rfl)
theorem dX4_allowed_47 : decode cX4_allowed 47 = .ok (.istore 4, 2) := fo_54 (fd_n 19 sr_X4_allowed_1 rfl) rfl
theorem dX4_allowed_49 : decode cX4_allowed 49 = .ok (.iconst 0, 1) := fo_3 (fd_n 21 sr_X4_allowed_1 rfl)
theorem dX4_allowed_50 : decode cX4_allowed 50 = .ok (.istore 5, 2) := fo_54 (fd_n 22 sr_X4_allowed_1 rfl) rfl
theorem dX4_allowed_52 : decode cX4_allowed 52 = .ok (.iload 5, 2) := fo_21 (fd_n 24 sr_X4_allowed_1 rfl) rfl
theorem dX4_allowed_54 : decode cX4_allowed 54 = .ok (.bipush 10, 2) := fo_16 (fd_n 26 sr_X4_allowed_1 rfl) (by decide +kernel)
theorem dX4_allowed_56 : decode cX4_allowed 56 = .ok (.if_icmp .ge 56, 3) := fo_162 sr_X4_allowed_2 (by decide +kernel)
theorem dX4_allowed_59 : decode cX4_allowed 59 = .ok (.aload_n 0, 1) := fo_42 (fd_n 3 sr_X4_allowed_2 rfl)
theorem dX4_allowed_60 : decode cX4_allowed 60 = .ok (.getfield 10, 3) := fo_180 (fd_n 4 sr_X4_allowed_2 rfl) rfl
theorem dX4_allowed_63 : decode cX4_allowed 63 = .ok (.getfield 84, 3) := fo_180 (fd_n 7 sr_X4_allowed_2 rfl) rfl
theorem dX4_allowed_66 : decode cX4_allowed 66 = .ok (.iconst 2, 1) := fo_5 (fd_n 10 sr_X4_allowed_2 rfl)
theorem dX4_allowed_67 : decode cX4_allowed 67 = .ok (.aaload, 1) := fo_50 (fd_n 11 sr_X4_allowed_2 rfl)
theorem dX4_allowed_68 : decode cX4_allowed 68 = .ok (.iload_n 1, 1) := fo_27 (fd_n 12 sr_X4_allowed_2 rfl)
theorem dX4_allowed_69 : decode cX4_allowed 69 = .ok (.iload 5, 2) := fo_21 (fd_n 13 sr_X4_allowed_2 rfl) rfl
theorem dX4_allowed_71 : decode cX4_allowed 71 = .ok (.iastore, 1) := fo_79 (fd_n 15 sr_X4_allowed_2 rfl)
theorem dX4_allowed_72 : decode cX4_allowed 72 = .ok (.aload_n 0, 1) := fo_42 (fd_n 16 sr_X4_allowed_2 rfl)
theorem dX4_allowed_73 : decode cX4_allowed 73 = .ok (.getfield 25, 3) := fo_180 (fd_n 17 sr_X4_allowed_2 rfl) rfl
theorem dX4_allowed_76 : decode cX4_allowed 76 = .ok (.aload_n 0, 1) := fo_42 (fd_n 20 sr_X4_allowed_2 rfl)
theorem dX4_allowed_77 : decode cX4_allowed 77 = .ok (.getfield 10, 3) := fo_180 (fd_n 21 sr_X4_allowed_2 rfl) rfl
theorem dX4_allowed_80 : decode cX4_allowed 80 = .ok (.invokevirtual 153, 3) := fo_182 (fd_n 24 sr_X4_allowed_2 rfl) rfl
theorem dX4_allowed_83 : decode cX4_allowed 83 = .ok (.invokestatic 180, 3) := fo_184 (fd_n 27 sr_X4_allowed_2 rfl) rfl
theorem dX4_allowed_86 : decode cX4_allowed 86 = .ok (.istore 6, 2) := fo_54 sr_X4_allowed_3 rfl
theorem dX4_allowed_88 : decode cX4_allowed 88 = .ok (.iload 5, 2) := fo_21 (fd_n 2 sr_X4_allowed_3 rfl) rfl
theorem dX4_allowed_90 : decode cX4_allowed 90 = .ok (.ifCond .ne 6, 3) := fo_154 (fd_n 4 sr_X4_allowed_3 rfl) (by decide +kernel)
theorem dX4_allowed_93 : decode cX4_allowed 93 = .ok (.iload 6, 2) := fo_21 (fd_n 7 sr_X4_allowed_3 rfl) rfl
theorem dX4_allowed_95 : decode cX4_allowed 95 = .ok (.istore_n 3, 1) := fo_62 (fd_n 9 sr_X4_allowed_3 rfl)
theorem dX4_allowed_96 : decode cX4_allowed 96 = .ok (.iload 6, 2) := fo_21 (fd_n 10 sr_X4_allowed_3 rfl) rfl
theorem dX4_allowed_98 : decode cX4_allowed 98 = .ok (.iload_n 3, 1) := fo_29 (fd_n 12 sr_X4_allowed_3 rfl)
theorem dX4_allowed_99 : decode cX4_allowed 99 = .ok (.if_icmp .gt 7, 3) := fo_163 (fd_n 13 sr_X4_allowed_3 rfl) (by decide +kernel)
theorem dX4_allowed_102 : decode cX4_allowed 102 = .ok (.iload 5, 2) := fo_21 (fd_n 16 sr_X4_allowed_3 rfl) rfl
theorem dX4_allowed_104 : decode cX4_allowed 104 = .ok (.istore 4, 2) := fo_54 (fd_n 18 sr_X4_allowed_3 rfl) rfl
theorem dX4_allowed_106 : decode cX4_allowed 106 = .ok (.iinc 5 1, 3) := fo_132 (fd_n 20 sr_X4_allowed_3 rfl) rfl (by decide +kernel)
theorem dX4_allowed_109 : decode cX4_allowed 109 = .ok (.goto (-57), 3) := fo_167 (fd_n 23 sr_X4_allowed_3 rfl) (by decide +kernel)
theorem dX4_allowed_112 : decode cX4_allowed 112 = .ok (.aload_n 0, 1) := fo_42 (fd_n 26 sr_X4_allowed_3 rfl)
theorem dX4_allowed_113 : decode cX4_allowed 113 = .ok (.getfield 10, 3) := fo_180 (fd_n 27 sr_X4_allowed_3 rfl) rfl
theorem dX4_allowed_116 : decode cX4_allowed 116 = .ok (.getfield 84, 3) := fo_180 sr_X4_allowed_4 rfl
theorem dX4_allowed_119 : decode cX4_allowed 119 = .ok (.iconst 2, 1) := fo_5 (fd_n 3 sr_X4_allowed_4 rfl)
theorem dX4_allowed_120 : decode cX4_allowed 120 = .ok (.aaload, 1) := fo_50 (fd_n 4 sr_X4_allowed_4 rfl)
theorem dX4_allowed_121 : decode cX4_allowed 121 = .ok (.iload_n 1, 1) := fo_27 (fd_n 5 sr_X4_allowed_4 rfl)
theorem dX4_allowed_122 : decode cX4_allowed 122 = .ok (.iload_n 2, 1) := fo_28 (fd_n 6 sr_X4_allowed_4 rfl)
theorem dX4_allowed_123 : decode cX4_allowed 123 = .ok (.iastore, 1) := fo_79 (fd_n 7 sr_X4_allowed_4 rfl)
theorem dX4_allowed_124 : decode cX4_allowed 124 = .ok (.iload 4, 2) := fo_21 (fd_n 8 sr_X4_allowed_4 rfl) rfl
theorem dX4_allowed_126 : decode cX4_allowed 126 = .ok (.ireturn, 1) := fo_172 (fd_n 10 sr_X4_allowed_4 rfl)
noncomputable def sl_X4_opens_4 : List UInt8 := 3 :: 50 :: 27 :: 28 :: 79 :: 132 :: 4 :: 1 :: 167 :: 255 :: 181 :: 29 :: 172 :: []
noncomputable def sl_X4_opens_3 : List UInt8 := 42 :: 180 :: 0 :: 10 :: 21 :: 4 :: 182 :: 0 :: 134 :: 21 :: 5 :: 164 :: 0 :: 10 :: 29 :: 4 :: 21 :: 4 :: 120 :: 128 :: 62 :: 42 :: 180 :: 0 :: 10 :: 180 :: 0 :: 84 :: sl_X4_opens_4
noncomputable def sl_X4_opens_2 : List UInt8 := 162 :: 0 :: 69 :: 42 :: 180 :: 0 :: 25 :: 42 :: 180 :: 0 :: 10 :: 21 :: 4 :: 182 :: 0 :: 134 :: 54 :: 5 :: 42 :: 180 :: 0 :: 10 :: 27 :: 182 :: 0 :: 80 :: 42 :: 180 :: 0 :: 25 :: sl_X4_opens_3
noncomputable def sl_X4_opens_1 : List UInt8 := 182 :: 0 :: 64 :: 172 :: 42 :: 180 :: 0 :: 10 :: 180 :: 0 :: 84 :: 3 :: 50 :: 27 :: 46 :: 61 :: 3 :: 62 :: 3 :: 54 :: 4 :: 21 :: 4 :: 42 :: 180 :: 0 :: 10 :: 180 :: 0 :: 103 :: sl_X4_opens_2
noncomputable def sl_X4_opens_0 : List UInt8 := 27 :: 16 :: 25 :: 184 :: 0 :: 60 :: 154 :: 0 :: 9 :: 42 :: 3 :: 182 :: 0 :: 64 :: 172 :: 42 :: 180 :: 0 :: 10 :: 27 :: 182 :: 0 :: 68 :: 154 :: 0 :: 9 :: 42 :: 6 :: sl_X4_opens_1
theorem sr_X4_opens_0 : fd_at cX4_opens 0 sl_X4_opens_0 := fd_base (by decide +kernel)
theorem sr_X4_opens_1 : fd_at cX4_opens 28 sl_X4_opens_1 := fd_n 28 sr_X4_opens_0 rfl
theorem sr_X4_opens_2 : fd_at cX4_opens 58 sl_X4_opens_2 := fd_n 30 sr_X4_opens_1 rfl
theorem sr_X4_opens_3 : fd_at cX4_opens 88 sl_X4_opens_3 := fd_n 30 sr_X4_opens_2 rfl
theorem sr_X4_opens_4 : fd_at cX4_opens 116 sl_X4_opens_4 := fd_n 28 sr_X4_opens_3 rfl
theorem dX4_opens_0 : decode cX4_opens 0 = .ok (.iload_n 1, 1) := fo_27 sr_X4_opens_0
theorem dX4_opens_1 : decode cX4_opens 1 = .ok (.bipush 25, 2) := fo_16 (fd_n 1 sr_X4_opens_0 rfl) (by decide +kernel)
theorem dX4_opens_3 : decode cX4_opens 3 = .ok (.invokestatic 60, 3) := fo_184 (fd_n 3 sr_X4_opens_0 rfl) rfl
theorem dX4_opens_6 : decode cX4_opens 6 = .ok (.ifCond .ne 9, 3) := fo_154 (fd_n 6 sr_X4_opens_0 rfl) (by decide +kernel)
theorem dX4_opens_9 : decode cX4_opens 9 = .ok (.aload_n 0, 1) := fo_42 (fd_n 9 sr_X4_opens_0 rfl)
theorem dX4_opens_10 : decode cX4_opens 10 = .ok (.iconst 0, 1) := fo_3 (fd_n 10 sr_X4_opens_0 rfl)
theorem dX4_opens_11 : decode cX4_opens 11 = .ok (.invokevirtual 64, 3) := fo_182 (fd_n 11 sr_X4_opens_0 rfl) rfl
theorem dX4_opens_14 : decode cX4_opens 14 = .ok (.ireturn, 1) := fo_172 (fd_n 14 sr_X4_opens_0 rfl)
theorem dX4_opens_15 : decode cX4_opens 15 = .ok (.aload_n 0, 1) := fo_42 (fd_n 15 sr_X4_opens_0 rfl)
theorem dX4_opens_16 : decode cX4_opens 16 = .ok (.getfield 10, 3) := fo_180 (fd_n 16 sr_X4_opens_0 rfl) rfl
theorem dX4_opens_19 : decode cX4_opens 19 = .ok (.iload_n 1, 1) := fo_27 (fd_n 19 sr_X4_opens_0 rfl)
theorem dX4_opens_20 : decode cX4_opens 20 = .ok (.invokevirtual 68, 3) := fo_182 (fd_n 20 sr_X4_opens_0 rfl) rfl
theorem dX4_opens_23 : decode cX4_opens 23 = .ok (.ifCond .ne 9, 3) := fo_154 (fd_n 23 sr_X4_opens_0 rfl) (by decide +kernel)
theorem dX4_opens_26 : decode cX4_opens 26 = .ok (.aload_n 0, 1) := fo_42 (fd_n 26 sr_X4_opens_0 rfl)
theorem dX4_opens_27 : decode cX4_opens 27 = .ok (.iconst 3, 1) := fo_6 (fd_n 27 sr_X4_opens_0 rfl)
theorem dX4_opens_28 : decode cX4_opens 28 = .ok (.invokevirtual 64, 3) := fo_182 sr_X4_opens_1 rfl
theorem dX4_opens_31 : decode cX4_opens 31 = .ok (.ireturn, 1) := fo_172 (fd_n 3 sr_X4_opens_1 rfl)
theorem dX4_opens_32 : decode cX4_opens 32 = .ok (.aload_n 0, 1) := fo_42 (fd_n 4 sr_X4_opens_1 rfl)
theorem dX4_opens_33 : decode cX4_opens 33 = .ok (.getfield 10, 3) := fo_180 (fd_n 5 sr_X4_opens_1 rfl) rfl
theorem dX4_opens_36 : decode cX4_opens 36 = .ok (.getfield 84, 3) := fo_180 (fd_n 8 sr_X4_opens_1 rfl) rfl
theorem dX4_opens_39 : decode cX4_opens 39 = .ok (.iconst 0, 1) := fo_3 (fd_n 11 sr_X4_opens_1 rfl)
theorem dX4_opens_40 : decode cX4_opens 40 = .ok (.aaload, 1) := fo_50 (fd_n 12 sr_X4_opens_1 rfl)
theorem dX4_opens_41 : decode cX4_opens 41 = .ok (.iload_n 1, 1) := fo_27 (fd_n 13 sr_X4_opens_1 rfl)
theorem dX4_opens_42 : decode cX4_opens 42 = .ok (.iaload, 1) := fo_46 (fd_n 14 sr_X4_opens_1 rfl)
theorem dX4_opens_43 : decode cX4_opens 43 = .ok (.istore_n 2, 1) := fo_61 (fd_n 15 sr_X4_opens_1 rfl)
theorem dX4_opens_44 : decode cX4_opens 44 = .ok (.iconst 0, 1) := fo_3 (fd_n 16 sr_X4_opens_1 rfl)
theorem dX4_opens_45 : decode cX4_opens 45 = .ok (.istore_n 3, 1) := fo_62 (fd_n 17 sr_X4_opens_1 rfl)
theorem dX4_opens_46 : decode cX4_opens 46 = .ok (.iconst 0, 1) := fo_3 (fd_n 18 sr_X4_opens_1 rfl)
theorem dX4_opens_47 : decode cX4_opens 47 = .ok (.istore 4, 2) := fo_54 (fd_n 19 sr_X4_opens_1 rfl) rfl
theorem dX4_opens_49 : decode cX4_opens 49 = .ok (.iload 4, 2) := fo_21 (fd_n 21 sr_X4_opens_1 rfl) rfl
theorem dX4_opens_51 : decode cX4_opens 51 = .ok (.aload_n 0, 1) := fo_42 (fd_n 23 sr_X4_opens_1 rfl)
theorem dX4_opens_52 : decode cX4_opens 52 = .ok (.getfield 10, 3) := fo_180 (fd_n 24 sr_X4_opens_1 rfl) rfl
theorem dX4_opens_55 : decode cX4_opens 55 = .ok (.getfield 103, 3) := fo_180 (fd_n 27 sr_X4_opens_1 rfl) rfl
theorem dX4_opens_58 : decode cX4_opens 58 = .ok (.if_icmp .ge 69, 3) := fo_162 sr_X4_opens_2 (by decide +kernel)
theorem dX4_opens_61 : decode cX4_opens 61 = .ok (.aload_n 0, 1) := fo_42 (fd_n 3 sr_X4_opens_2 rfl)
theorem dX4_opens_62 : decode cX4_opens 62 = .ok (.getfield 25, 3) := fo_180 (fd_n 4 sr_X4_opens_2 rfl) rfl
theorem dX4_opens_65 : decode cX4_opens 65 = .ok (.aload_n 0, 1) := fo_42 (fd_n 7 sr_X4_opens_2 rfl)
theorem dX4_opens_66 : decode cX4_opens 66 = .ok (.getfield 10, 3) := fo_180 (fd_n 8 sr_X4_opens_2 rfl) rfl
theorem dX4_opens_69 : decode cX4_opens 69 = .ok (.iload 4, 2) := fo_21 (fd_n 11 sr_X4_opens_2 rfl) rfl
theorem dX4_opens_71 : decode cX4_opens 71 = .ok (.invokevirtual 134, 3) := fo_182 (fd_n 13 sr_X4_opens_2 rfl) rfl
theorem dX4_opens_74 : decode cX4_opens 74 = .ok (.istore 5, 2) := fo_54 (fd_n 16 sr_X4_opens_2 rfl) rfl
theorem dX4_opens_76 : decode cX4_opens 76 = .ok (.aload_n 0, 1) := fo_42 (fd_n 18 sr_X4_opens_2 rfl)
theorem dX4_opens_77 : decode cX4_opens 77 = .ok (.getfield 10, 3) := fo_180 (fd_n 19 sr_X4_opens_2 rfl) rfl
theorem dX4_opens_80 : decode cX4_opens 80 = .ok (.iload_n 1, 1) := fo_27 (fd_n 22 sr_X4_opens_2 rfl)
theorem dX4_opens_81 : decode cX4_opens 81 = .ok (.invokevirtual 80, 3) := fo_182 (fd_n 23 sr_X4_opens_2 rfl) rfl
theorem dX4_opens_84 : decode cX4_opens 84 = .ok (.aload_n 0, 1) := fo_42 (fd_n 26 sr_X4_opens_2 rfl)
theorem dX4_opens_85 : decode cX4_opens 85 = .ok (.getfield 25, 3) := fo_180 (fd_n 27 sr_X4_opens_2 rfl) rfl
theorem dX4_opens_88 : decode cX4_opens 88 = .ok (.aload_n 0, 1) := fo_42 sr_X4_opens_3
theorem dX4_opens_89 : decode cX4_opens 89 = .ok (.getfield 10, 3) := fo_180 (fd_n 1 sr_X4_opens_3 rfl) rfl
theorem dX4_opens_92 : decode cX4_opens 92 = .ok (.iload 4, 2) := fo_21 (fd_n 4 sr_X4_opens_3 rfl) rfl
theorem dX4_opens_94 : decode cX4_opens 94 = .ok (.invokevirtual 134, 3) := fo_182 (fd_n 6 sr_X4_opens_3 rfl) rfl
theorem dX4_opens_97 : decode cX4_opens 97 = .ok (.iload 5, 2) := fo_21 (fd_n 9 sr_X4_opens_3 rfl) rfl
theorem dX4_opens_99 : decode cX4_opens 99 = .ok (.if_icmp .le 10, 3) := fo_164 (fd_n 11 sr_X4_opens_3 rfl) (by decide +kernel)
theorem dX4_opens_102 : decode cX4_opens 102 = .ok (.iload_n 3, 1) := fo_29 (fd_n 14 sr_X4_opens_3 rfl)
theorem dX4_opens_103 : decode cX4_opens 103 = .ok (.iconst 1, 1) := fo_4 (fd_n 15 sr_X4_opens_3 rfl)
theorem dX4_opens_104 : decode cX4_opens 104 = .ok (.iload 4, 2) := fo_21 (fd_n 16 sr_X4_opens_3 rfl) rfl
theorem dX4_opens_106 : decode cX4_opens 106 = .ok (.ishl, 1) := fo_120 (fd_n 18 sr_X4_opens_3 rfl)
theorem dX4_opens_107 : decode cX4_opens 107 = .ok (.ior, 1) := fo_128 (fd_n 19 sr_X4_opens_3 rfl)
theorem dX4_opens_108 : decode cX4_opens 108 = .ok (.istore_n 3, 1) := fo_62 (fd_n 20 sr_X4_opens_3 rfl)
theorem dX4_opens_109 : decode cX4_opens 109 = .ok (.aload_n 0, 1) := fo_42 (fd_n 21 sr_X4_opens_3 rfl)
theorem dX4_opens_110 : decode cX4_opens 110 = .ok (.getfield 10, 3) := fo_180 (fd_n 22 sr_X4_opens_3 rfl) rfl
theorem dX4_opens_113 : decode cX4_opens 113 = .ok (.getfield 84, 3) := fo_180 (fd_n 25 sr_X4_opens_3 rfl) rfl
theorem dX4_opens_116 : decode cX4_opens 116 = .ok (.iconst 0, 1) := fo_3 sr_X4_opens_4
theorem dX4_opens_117 : decode cX4_opens 117 = .ok (.aaload, 1) := fo_50 (fd_n 1 sr_X4_opens_4 rfl)
theorem dX4_opens_118 : decode cX4_opens 118 = .ok (.iload_n 1, 1) := fo_27 (fd_n 2 sr_X4_opens_4 rfl)
theorem dX4_opens_119 : decode cX4_opens 119 = .ok (.iload_n 2, 1) := fo_28 (fd_n 3 sr_X4_opens_4 rfl)
theorem dX4_opens_120 : decode cX4_opens 120 = .ok (.iastore, 1) := fo_79 (fd_n 4 sr_X4_opens_4 rfl)
theorem dX4_opens_121 : decode cX4_opens 121 = .ok (.iinc 4 1, 3) := fo_132 (fd_n 5 sr_X4_opens_4 rfl) rfl (by decide +kernel)
theorem dX4_opens_124 : decode cX4_opens 124 = .ok (.goto (-75), 3) := fo_167 (fd_n 8 sr_X4_opens_4 rfl) (by decide +kernel)
theorem dX4_opens_127 : decode cX4_opens 127 = .ok (.iload_n 3, 1) := fo_29 (fd_n 11 sr_X4_opens_4 rfl)
theorem dX4_opens_128 : decode cX4_opens 128 = .ok (.ireturn, 1) := fo_172 (fd_n 12 sr_X4_opens_4 rfl)
noncomputable def sl_X4_level_3 : List UInt8 := 42 :: 180 :: 0 :: 10 :: 180 :: 0 :: 114 :: 4 :: 50 :: 27 :: 28 :: 79 :: 29 :: 172 :: []
noncomputable def sl_X4_level_2 : List UInt8 := 42 :: 180 :: 0 :: 10 :: 27 :: 182 :: 0 :: 134 :: 54 :: 6 :: 21 :: 6 :: 21 :: 4 :: 164 :: 0 :: 10 :: 21 :: 6 :: 54 :: 4 :: 21 :: 5 :: 62 :: 132 :: 5 :: 1 :: 167 :: 255 :: 205 :: sl_X4_level_3
noncomputable def sl_X4_level_1 : List UInt8 := 2 :: 54 :: 4 :: 3 :: 54 :: 5 :: 21 :: 5 :: 16 :: 10 :: 162 :: 0 :: 50 :: 42 :: 180 :: 0 :: 10 :: 180 :: 0 :: 114 :: 4 :: 50 :: 27 :: 21 :: 5 :: 79 :: 42 :: 180 :: 0 :: 25 :: sl_X4_level_2
noncomputable def sl_X4_level_0 : List UInt8 := 42 :: 27 :: 182 :: 0 :: 111 :: 154 :: 0 :: 9 :: 42 :: 3 :: 182 :: 0 :: 64 :: 172 :: 42 :: 180 :: 0 :: 10 :: 180 :: 0 :: 114 :: 4 :: 50 :: 27 :: 46 :: 61 :: 3 :: 62 :: sl_X4_level_1
theorem sr_X4_level_0 : fd_at cX4_level 0 sl_X4_level_0 := fd_base (by decide +kernel)
theorem sr_X4_level_1 : fd_at cX4_level 28 sl_X4_level_1 := fd_n 28 sr_X4_level_0 rfl
theorem sr_X4_level_2 : fd_at cX4_level 58 sl_X4_level_2 := fd_n 30 sr_X4_level_1 rfl
theorem sr_X4_level_3 : fd_at cX4_level 88 sl_X4_level_3 := fd_n 30 sr_X4_level_2 rfl
theorem dX4_level_0 : decode cX4_level 0 = .ok (.aload_n 0, 1) := fo_42 sr_X4_level_0
theorem dX4_level_1 : decode cX4_level 1 = .ok (.iload_n 1, 1) := fo_27 (fd_n 1 sr_X4_level_0 rfl)
theorem dX4_level_2 : decode cX4_level 2 = .ok (.invokevirtual 111, 3) := fo_182 (fd_n 2 sr_X4_level_0 rfl) rfl
theorem dX4_level_5 : decode cX4_level 5 = .ok (.ifCond .ne 9, 3) := fo_154 (fd_n 5 sr_X4_level_0 rfl) (by decide +kernel)
theorem dX4_level_8 : decode cX4_level 8 = .ok (.aload_n 0, 1) := fo_42 (fd_n 8 sr_X4_level_0 rfl)
theorem dX4_level_9 : decode cX4_level 9 = .ok (.iconst 0, 1) := fo_3 (fd_n 9 sr_X4_level_0 rfl)
theorem dX4_level_10 : decode cX4_level 10 = .ok (.invokevirtual 64, 3) := fo_182 (fd_n 10 sr_X4_level_0 rfl) rfl
theorem dX4_level_13 : decode cX4_level 13 = .ok (.ireturn, 1) := fo_172 (fd_n 13 sr_X4_level_0 rfl)
theorem dX4_level_14 : decode cX4_level 14 = .ok (.aload_n 0, 1) := fo_42 (fd_n 14 sr_X4_level_0 rfl)
theorem dX4_level_15 : decode cX4_level 15 = .ok (.getfield 10, 3) := fo_180 (fd_n 15 sr_X4_level_0 rfl) rfl
theorem dX4_level_18 : decode cX4_level 18 = .ok (.getfield 114, 3) := fo_180 (fd_n 18 sr_X4_level_0 rfl) rfl
theorem dX4_level_21 : decode cX4_level 21 = .ok (.iconst 1, 1) := fo_4 (fd_n 21 sr_X4_level_0 rfl)
theorem dX4_level_22 : decode cX4_level 22 = .ok (.aaload, 1) := fo_50 (fd_n 22 sr_X4_level_0 rfl)
theorem dX4_level_23 : decode cX4_level 23 = .ok (.iload_n 1, 1) := fo_27 (fd_n 23 sr_X4_level_0 rfl)
theorem dX4_level_24 : decode cX4_level 24 = .ok (.iaload, 1) := fo_46 (fd_n 24 sr_X4_level_0 rfl)
theorem dX4_level_25 : decode cX4_level 25 = .ok (.istore_n 2, 1) := fo_61 (fd_n 25 sr_X4_level_0 rfl)
theorem dX4_level_26 : decode cX4_level 26 = .ok (.iconst 0, 1) := fo_3 (fd_n 26 sr_X4_level_0 rfl)
theorem dX4_level_27 : decode cX4_level 27 = .ok (.istore_n 3, 1) := fo_62 (fd_n 27 sr_X4_level_0 rfl)
theorem dX4_level_28 : decode cX4_level 28 = .ok (.iconst (-1), 1) := fo_2 sr_X4_level_1
theorem dX4_level_29 : decode cX4_level 29 = .ok (.istore 4, 2) := fo_54 (fd_n 1 sr_X4_level_1 rfl) rfl
theorem dX4_level_31 : decode cX4_level 31 = .ok (.iconst 0, 1) := fo_3 (fd_n 3 sr_X4_level_1 rfl)
theorem dX4_level_32 : decode cX4_level 32 = .ok (.istore 5, 2) := fo_54 (fd_n 4 sr_X4_level_1 rfl) rfl
theorem dX4_level_34 : decode cX4_level 34 = .ok (.iload 5, 2) := fo_21 (fd_n 6 sr_X4_level_1 rfl) rfl
theorem dX4_level_36 : decode cX4_level 36 = .ok (.bipush 10, 2) := fo_16 (fd_n 8 sr_X4_level_1 rfl) (by decide +kernel)
theorem dX4_level_38 : decode cX4_level 38 = .ok (.if_icmp .ge 50, 3) := fo_162 (fd_n 10 sr_X4_level_1 rfl) (by decide +kernel)
theorem dX4_level_41 : decode cX4_level 41 = .ok (.aload_n 0, 1) := fo_42 (fd_n 13 sr_X4_level_1 rfl)
theorem dX4_level_42 : decode cX4_level 42 = .ok (.getfield 10, 3) := fo_180 (fd_n 14 sr_X4_level_1 rfl) rfl
theorem dX4_level_45 : decode cX4_level 45 = .ok (.getfield 114, 3) := fo_180 (fd_n 17 sr_X4_level_1 rfl) rfl
theorem dX4_level_48 : decode cX4_level 48 = .ok (.iconst 1, 1) := fo_4 (fd_n 20 sr_X4_level_1 rfl)
theorem dX4_level_49 : decode cX4_level 49 = .ok (.aaload, 1) := fo_50 (fd_n 21 sr_X4_level_1 rfl)
theorem dX4_level_50 : decode cX4_level 50 = .ok (.iload_n 1, 1) := fo_27 (fd_n 22 sr_X4_level_1 rfl)
theorem dX4_level_51 : decode cX4_level 51 = .ok (.iload 5, 2) := fo_21 (fd_n 23 sr_X4_level_1 rfl) rfl
theorem dX4_level_53 : decode cX4_level 53 = .ok (.iastore, 1) := fo_79 (fd_n 25 sr_X4_level_1 rfl)
theorem dX4_level_54 : decode cX4_level 54 = .ok (.aload_n 0, 1) := fo_42 (fd_n 26 sr_X4_level_1 rfl)
theorem dX4_level_55 : decode cX4_level 55 = .ok (.getfield 25, 3) := fo_180 (fd_n 27 sr_X4_level_1 rfl) rfl
theorem dX4_level_58 : decode cX4_level 58 = .ok (.aload_n 0, 1) := fo_42 sr_X4_level_2
theorem dX4_level_59 : decode cX4_level 59 = .ok (.getfield 10, 3) := fo_180 (fd_n 1 sr_X4_level_2 rfl) rfl
theorem dX4_level_62 : decode cX4_level 62 = .ok (.iload_n 1, 1) := fo_27 (fd_n 4 sr_X4_level_2 rfl)
theorem dX4_level_63 : decode cX4_level 63 = .ok (.invokevirtual 134, 3) := fo_182 (fd_n 5 sr_X4_level_2 rfl) rfl
theorem dX4_level_66 : decode cX4_level 66 = .ok (.istore 6, 2) := fo_54 (fd_n 8 sr_X4_level_2 rfl) rfl
theorem dX4_level_68 : decode cX4_level 68 = .ok (.iload 6, 2) := fo_21 (fd_n 10 sr_X4_level_2 rfl) rfl
theorem dX4_level_70 : decode cX4_level 70 = .ok (.iload 4, 2) := fo_21 (fd_n 12 sr_X4_level_2 rfl) rfl
theorem dX4_level_72 : decode cX4_level 72 = .ok (.if_icmp .le 10, 3) := fo_164 (fd_n 14 sr_X4_level_2 rfl) (by decide +kernel)
theorem dX4_level_75 : decode cX4_level 75 = .ok (.iload 6, 2) := fo_21 (fd_n 17 sr_X4_level_2 rfl) rfl
theorem dX4_level_77 : decode cX4_level 77 = .ok (.istore 4, 2) := fo_54 (fd_n 19 sr_X4_level_2 rfl) rfl
theorem dX4_level_79 : decode cX4_level 79 = .ok (.iload 5, 2) := fo_21 (fd_n 21 sr_X4_level_2 rfl) rfl
theorem dX4_level_81 : decode cX4_level 81 = .ok (.istore_n 3, 1) := fo_62 (fd_n 23 sr_X4_level_2 rfl)
theorem dX4_level_82 : decode cX4_level 82 = .ok (.iinc 5 1, 3) := fo_132 (fd_n 24 sr_X4_level_2 rfl) rfl (by decide +kernel)
theorem dX4_level_85 : decode cX4_level 85 = .ok (.goto (-51), 3) := fo_167 (fd_n 27 sr_X4_level_2 rfl) (by decide +kernel)
theorem dX4_level_88 : decode cX4_level 88 = .ok (.aload_n 0, 1) := fo_42 sr_X4_level_3
theorem dX4_level_89 : decode cX4_level 89 = .ok (.getfield 10, 3) := fo_180 (fd_n 1 sr_X4_level_3 rfl) rfl
theorem dX4_level_92 : decode cX4_level 92 = .ok (.getfield 114, 3) := fo_180 (fd_n 4 sr_X4_level_3 rfl) rfl
theorem dX4_level_95 : decode cX4_level 95 = .ok (.iconst 1, 1) := fo_4 (fd_n 7 sr_X4_level_3 rfl)
theorem dX4_level_96 : decode cX4_level 96 = .ok (.aaload, 1) := fo_50 (fd_n 8 sr_X4_level_3 rfl)
theorem dX4_level_97 : decode cX4_level 97 = .ok (.iload_n 1, 1) := fo_27 (fd_n 9 sr_X4_level_3 rfl)
theorem dX4_level_98 : decode cX4_level 98 = .ok (.iload_n 2, 1) := fo_28 (fd_n 10 sr_X4_level_3 rfl)
theorem dX4_level_99 : decode cX4_level 99 = .ok (.iastore, 1) := fo_79 (fd_n 11 sr_X4_level_3 rfl)
theorem dX4_level_100 : decode cX4_level 100 = .ok (.iload_n 3, 1) := fo_29 (fd_n 12 sr_X4_level_3 rfl)
theorem dX4_level_101 : decode cX4_level 101 = .ok (.ireturn, 1) := fo_172 (fd_n 13 sr_X4_level_3 rfl)
noncomputable def sl_X4_cheapest_3 : List UInt8 := 54 :: 4 :: 21 :: 5 :: 62 :: 132 :: 5 :: 1 :: 167 :: 255 :: 197 :: 42 :: 180 :: 0 :: 10 :: 180 :: 0 :: 114 :: 5 :: 50 :: 27 :: 28 :: 79 :: 29 :: 172 :: []
noncomputable def sl_X4_cheapest_2 : List UInt8 := 42 :: 180 :: 0 :: 10 :: 27 :: 42 :: 180 :: 0 :: 53 :: 182 :: 0 :: 145 :: 54 :: 6 :: 21 :: 5 :: 153 :: 0 :: 10 :: 21 :: 6 :: 21 :: 4 :: 162 :: 0 :: 10 :: 21 :: 6 :: sl_X4_cheapest_3
noncomputable def sl_X4_cheapest_1 : List UInt8 := 3 :: 54 :: 4 :: 3 :: 54 :: 5 :: 21 :: 5 :: 7 :: 162 :: 0 :: 59 :: 42 :: 180 :: 0 :: 10 :: 180 :: 0 :: 114 :: 5 :: 50 :: 27 :: 21 :: 5 :: 79 :: 42 :: 180 :: 0 :: 25 :: sl_X4_cheapest_2
noncomputable def sl_X4_cheapest_0 : List UInt8 := 42 :: 27 :: 182 :: 0 :: 111 :: 154 :: 0 :: 9 :: 42 :: 3 :: 182 :: 0 :: 64 :: 172 :: 42 :: 180 :: 0 :: 10 :: 180 :: 0 :: 114 :: 5 :: 50 :: 27 :: 46 :: 61 :: 3 :: 62 :: sl_X4_cheapest_1
theorem sr_X4_cheapest_0 : fd_at cX4_cheapest 0 sl_X4_cheapest_0 := fd_base (by decide +kernel)
theorem sr_X4_cheapest_1 : fd_at cX4_cheapest 28 sl_X4_cheapest_1 := fd_n 28 sr_X4_cheapest_0 rfl
theorem sr_X4_cheapest_2 : fd_at cX4_cheapest 57 sl_X4_cheapest_2 := fd_n 29 sr_X4_cheapest_1 rfl
theorem sr_X4_cheapest_3 : fd_at cX4_cheapest 85 sl_X4_cheapest_3 := fd_n 28 sr_X4_cheapest_2 rfl
theorem dX4_cheapest_0 : decode cX4_cheapest 0 = .ok (.aload_n 0, 1) := fo_42 sr_X4_cheapest_0
theorem dX4_cheapest_1 : decode cX4_cheapest 1 = .ok (.iload_n 1, 1) := fo_27 (fd_n 1 sr_X4_cheapest_0 rfl)
theorem dX4_cheapest_2 : decode cX4_cheapest 2 = .ok (.invokevirtual 111, 3) := fo_182 (fd_n 2 sr_X4_cheapest_0 rfl) rfl
theorem dX4_cheapest_5 : decode cX4_cheapest 5 = .ok (.ifCond .ne 9, 3) := fo_154 (fd_n 5 sr_X4_cheapest_0 rfl) (by decide +kernel)
theorem dX4_cheapest_8 : decode cX4_cheapest 8 = .ok (.aload_n 0, 1) := fo_42 (fd_n 8 sr_X4_cheapest_0 rfl)
theorem dX4_cheapest_9 : decode cX4_cheapest 9 = .ok (.iconst 0, 1) := fo_3 (fd_n 9 sr_X4_cheapest_0 rfl)
theorem dX4_cheapest_10 : decode cX4_cheapest 10 = .ok (.invokevirtual 64, 3) := fo_182 (fd_n 10 sr_X4_cheapest_0 rfl) rfl
theorem dX4_cheapest_13 : decode cX4_cheapest 13 = .ok (.ireturn, 1) := fo_172 (fd_n 13 sr_X4_cheapest_0 rfl)
theorem dX4_cheapest_14 : decode cX4_cheapest 14 = .ok (.aload_n 0, 1) := fo_42 (fd_n 14 sr_X4_cheapest_0 rfl)
theorem dX4_cheapest_15 : decode cX4_cheapest 15 = .ok (.getfield 10, 3) := fo_180 (fd_n 15 sr_X4_cheapest_0 rfl) rfl
theorem dX4_cheapest_18 : decode cX4_cheapest 18 = .ok (.getfield 114, 3) := fo_180 (fd_n 18 sr_X4_cheapest_0 rfl) rfl
theorem dX4_cheapest_21 : decode cX4_cheapest 21 = .ok (.iconst 2, 1) := fo_5 (fd_n 21 sr_X4_cheapest_0 rfl)
theorem dX4_cheapest_22 : decode cX4_cheapest 22 = .ok (.aaload, 1) := fo_50 (fd_n 22 sr_X4_cheapest_0 rfl)
theorem dX4_cheapest_23 : decode cX4_cheapest 23 = .ok (.iload_n 1, 1) := fo_27 (fd_n 23 sr_X4_cheapest_0 rfl)
theorem dX4_cheapest_24 : decode cX4_cheapest 24 = .ok (.iaload, 1) := fo_46 (fd_n 24 sr_X4_cheapest_0 rfl)
theorem dX4_cheapest_25 : decode cX4_cheapest 25 = .ok (.istore_n 2, 1) := fo_61 (fd_n 25 sr_X4_cheapest_0 rfl)
theorem dX4_cheapest_26 : decode cX4_cheapest 26 = .ok (.iconst 0, 1) := fo_3 (fd_n 26 sr_X4_cheapest_0 rfl)
theorem dX4_cheapest_27 : decode cX4_cheapest 27 = .ok (.istore_n 3, 1) := fo_62 (fd_n 27 sr_X4_cheapest_0 rfl)
theorem dX4_cheapest_28 : decode cX4_cheapest 28 = .ok (.iconst 0, 1) := fo_3 sr_X4_cheapest_1
theorem dX4_cheapest_29 : decode cX4_cheapest 29 = .ok (.istore 4, 2) := fo_54 (fd_n 1 sr_X4_cheapest_1 rfl) rfl
theorem dX4_cheapest_31 : decode cX4_cheapest 31 = .ok (.iconst 0, 1) := fo_3 (fd_n 3 sr_X4_cheapest_1 rfl)
theorem dX4_cheapest_32 : decode cX4_cheapest 32 = .ok (.istore 5, 2) := fo_54 (fd_n 4 sr_X4_cheapest_1 rfl) rfl
theorem dX4_cheapest_34 : decode cX4_cheapest 34 = .ok (.iload 5, 2) := fo_21 (fd_n 6 sr_X4_cheapest_1 rfl) rfl
theorem dX4_cheapest_36 : decode cX4_cheapest 36 = .ok (.iconst 4, 1) := fo_7 (fd_n 8 sr_X4_cheapest_1 rfl)
theorem dX4_cheapest_37 : decode cX4_cheapest 37 = .ok (.if_icmp .ge 59, 3) := fo_162 (fd_n 9 sr_X4_cheapest_1 rfl) (by decide +kernel)
theorem dX4_cheapest_40 : decode cX4_cheapest 40 = .ok (.aload_n 0, 1) := fo_42 (fd_n 12 sr_X4_cheapest_1 rfl)
theorem dX4_cheapest_41 : decode cX4_cheapest 41 = .ok (.getfield 10, 3) := fo_180 (fd_n 13 sr_X4_cheapest_1 rfl) rfl
theorem dX4_cheapest_44 : decode cX4_cheapest 44 = .ok (.getfield 114, 3) := fo_180 (fd_n 16 sr_X4_cheapest_1 rfl) rfl
theorem dX4_cheapest_47 : decode cX4_cheapest 47 = .ok (.iconst 2, 1) := fo_5 (fd_n 19 sr_X4_cheapest_1 rfl)
theorem dX4_cheapest_48 : decode cX4_cheapest 48 = .ok (.aaload, 1) := fo_50 (fd_n 20 sr_X4_cheapest_1 rfl)
theorem dX4_cheapest_49 : decode cX4_cheapest 49 = .ok (.iload_n 1, 1) := fo_27 (fd_n 21 sr_X4_cheapest_1 rfl)
theorem dX4_cheapest_50 : decode cX4_cheapest 50 = .ok (.iload 5, 2) := fo_21 (fd_n 22 sr_X4_cheapest_1 rfl) rfl
theorem dX4_cheapest_52 : decode cX4_cheapest 52 = .ok (.iastore, 1) := fo_79 (fd_n 24 sr_X4_cheapest_1 rfl)
theorem dX4_cheapest_53 : decode cX4_cheapest 53 = .ok (.aload_n 0, 1) := fo_42 (fd_n 25 sr_X4_cheapest_1 rfl)
theorem dX4_cheapest_54 : decode cX4_cheapest 54 = .ok (.getfield 25, 3) := fo_180 (fd_n 26 sr_X4_cheapest_1 rfl) rfl
theorem dX4_cheapest_57 : decode cX4_cheapest 57 = .ok (.aload_n 0, 1) := fo_42 sr_X4_cheapest_2
theorem dX4_cheapest_58 : decode cX4_cheapest 58 = .ok (.getfield 10, 3) := fo_180 (fd_n 1 sr_X4_cheapest_2 rfl) rfl
theorem dX4_cheapest_61 : decode cX4_cheapest 61 = .ok (.iload_n 1, 1) := fo_27 (fd_n 4 sr_X4_cheapest_2 rfl)
theorem dX4_cheapest_62 : decode cX4_cheapest 62 = .ok (.aload_n 0, 1) := fo_42 (fd_n 5 sr_X4_cheapest_2 rfl)
theorem dX4_cheapest_63 : decode cX4_cheapest 63 = .ok (.getfield 53, 3) := fo_180 (fd_n 6 sr_X4_cheapest_2 rfl) rfl
theorem dX4_cheapest_66 : decode cX4_cheapest 66 = .ok (.invokevirtual 145, 3) := fo_182 (fd_n 9 sr_X4_cheapest_2 rfl) rfl
theorem dX4_cheapest_69 : decode cX4_cheapest 69 = .ok (.istore 6, 2) := fo_54 (fd_n 12 sr_X4_cheapest_2 rfl) rfl
theorem dX4_cheapest_71 : decode cX4_cheapest 71 = .ok (.iload 5, 2) := fo_21 (fd_n 14 sr_X4_cheapest_2 rfl) rfl
theorem dX4_cheapest_73 : decode cX4_cheapest 73 = .ok (.ifCond .eq 10, 3) := fo_153 (fd_n 16 sr_X4_cheapest_2 rfl) (by decide +kernel)
theorem dX4_cheapest_76 : decode cX4_cheapest 76 = .ok (.iload 6, 2) := fo_21 (fd_n 19 sr_X4_cheapest_2 rfl) rfl
theorem dX4_cheapest_78 : decode cX4_cheapest 78 = .ok (.iload 4, 2) := fo_21 (fd_n 21 sr_X4_cheapest_2 rfl) rfl
theorem dX4_cheapest_80 : decode cX4_cheapest 80 = .ok (.if_icmp .ge 10, 3) := fo_162 (fd_n 23 sr_X4_cheapest_2 rfl) (by decide +kernel)
theorem dX4_cheapest_83 : decode cX4_cheapest 83 = .ok (.iload 6, 2) := fo_21 (fd_n 26 sr_X4_cheapest_2 rfl) rfl
theorem dX4_cheapest_85 : decode cX4_cheapest 85 = .ok (.istore 4, 2) := fo_54 sr_X4_cheapest_3 rfl
theorem dX4_cheapest_87 : decode cX4_cheapest 87 = .ok (.iload 5, 2) := fo_21 (fd_n 2 sr_X4_cheapest_3 rfl) rfl
theorem dX4_cheapest_89 : decode cX4_cheapest 89 = .ok (.istore_n 3, 1) := fo_62 (fd_n 4 sr_X4_cheapest_3 rfl)
theorem dX4_cheapest_90 : decode cX4_cheapest 90 = .ok (.iinc 5 1, 3) := fo_132 (fd_n 5 sr_X4_cheapest_3 rfl) rfl (by decide +kernel)
theorem dX4_cheapest_93 : decode cX4_cheapest 93 = .ok (.goto (-59), 3) := fo_167 (fd_n 8 sr_X4_cheapest_3 rfl) (by decide +kernel)
theorem dX4_cheapest_96 : decode cX4_cheapest 96 = .ok (.aload_n 0, 1) := fo_42 (fd_n 11 sr_X4_cheapest_3 rfl)
theorem dX4_cheapest_97 : decode cX4_cheapest 97 = .ok (.getfield 10, 3) := fo_180 (fd_n 12 sr_X4_cheapest_3 rfl) rfl
theorem dX4_cheapest_100 : decode cX4_cheapest 100 = .ok (.getfield 114, 3) := fo_180 (fd_n 15 sr_X4_cheapest_3 rfl) rfl
theorem dX4_cheapest_103 : decode cX4_cheapest 103 = .ok (.iconst 2, 1) := fo_5 (fd_n 18 sr_X4_cheapest_3 rfl)
theorem dX4_cheapest_104 : decode cX4_cheapest 104 = .ok (.aaload, 1) := fo_50 (fd_n 19 sr_X4_cheapest_3 rfl)
theorem dX4_cheapest_105 : decode cX4_cheapest 105 = .ok (.iload_n 1, 1) := fo_27 (fd_n 20 sr_X4_cheapest_3 rfl)
theorem dX4_cheapest_106 : decode cX4_cheapest 106 = .ok (.iload_n 2, 1) := fo_28 (fd_n 21 sr_X4_cheapest_3 rfl)
theorem dX4_cheapest_107 : decode cX4_cheapest 107 = .ok (.iastore, 1) := fo_79 (fd_n 22 sr_X4_cheapest_3 rfl)
theorem dX4_cheapest_108 : decode cX4_cheapest 108 = .ok (.iload_n 3, 1) := fo_29 (fd_n 23 sr_X4_cheapest_3 rfl)
theorem dX4_cheapest_109 : decode cX4_cheapest 109 = .ok (.ireturn, 1) := fo_172 (fd_n 24 sr_X4_cheapest_3 rfl)
noncomputable def sl_X4_site_5 : List UInt8 := 182 :: 0 :: 64 :: 167 :: 0 :: 5 :: 21 :: 4 :: 172 :: []
noncomputable def sl_X4_site_4 : List UInt8 := 164 :: 0 :: 15 :: 42 :: 180 :: 0 :: 50 :: 28 :: 46 :: 54 :: 5 :: 21 :: 6 :: 54 :: 4 :: 132 :: 6 :: 1 :: 167 :: 255 :: 165 :: 21 :: 4 :: 156 :: 0 :: 11 :: 42 :: 6 :: sl_X4_site_5
noncomputable def sl_X4_site_3 : List UInt8 := 180 :: 0 :: 50 :: 182 :: 0 :: 149 :: 87 :: 42 :: 180 :: 0 :: 10 :: 21 :: 6 :: 182 :: 0 :: 80 :: 21 :: 4 :: 155 :: 0 :: 14 :: 42 :: 180 :: 0 :: 50 :: 28 :: 46 :: 21 :: 5 :: sl_X4_site_4
noncomputable def sl_X4_site_2 : List UInt8 := 153 :: 0 :: 6 :: 167 :: 0 :: 69 :: 42 :: 180 :: 0 :: 10 :: 21 :: 6 :: 27 :: 28 :: 29 :: 3 :: 182 :: 0 :: 72 :: 42 :: 180 :: 0 :: 25 :: 42 :: 180 :: 0 :: 10 :: 42 :: sl_X4_site_3
noncomputable def sl_X4_site_1 : List UInt8 := 182 :: 0 :: 64 :: 172 :: 2 :: 54 :: 4 :: 3 :: 54 :: 5 :: 3 :: 54 :: 6 :: 21 :: 6 :: 16 :: 25 :: 162 :: 0 :: 90 :: 42 :: 180 :: 0 :: 10 :: 21 :: 6 :: 182 :: 0 :: 68 :: sl_X4_site_2
noncomputable def sl_X4_site_0 : List UInt8 := 27 :: 16 :: 7 :: 184 :: 0 :: 60 :: 153 :: 0 :: 20 :: 28 :: 7 :: 184 :: 0 :: 60 :: 153 :: 0 :: 12 :: 29 :: 16 :: 10 :: 184 :: 0 :: 60 :: 154 :: 0 :: 9 :: 42 :: 3 :: sl_X4_site_1
theorem sr_X4_site_0 : fd_at cX4_site 0 sl_X4_site_0 := fd_base (by decide +kernel)
theorem sr_X4_site_1 : fd_at cX4_site 28 sl_X4_site_1 := fd_n 28 sr_X4_site_0 rfl
theorem sr_X4_site_2 : fd_at cX4_site 57 sl_X4_site_2 := fd_n 29 sr_X4_site_1 rfl
theorem sr_X4_site_3 : fd_at cX4_site 85 sl_X4_site_3 := fd_n 28 sr_X4_site_2 rfl
theorem sr_X4_site_4 : fd_at cX4_site 114 sl_X4_site_4 := fd_n 29 sr_X4_site_3 rfl
theorem sr_X4_site_5 : fd_at cX4_site 142 sl_X4_site_5 := fd_n 28 sr_X4_site_4 rfl
theorem dX4_site_0 : decode cX4_site 0 = .ok (.iload_n 1, 1) := fo_27 sr_X4_site_0
theorem dX4_site_1 : decode cX4_site 1 = .ok (.bipush 7, 2) := fo_16 (fd_n 1 sr_X4_site_0 rfl) (by decide +kernel)
theorem dX4_site_3 : decode cX4_site 3 = .ok (.invokestatic 60, 3) := fo_184 (fd_n 3 sr_X4_site_0 rfl) rfl
theorem dX4_site_6 : decode cX4_site 6 = .ok (.ifCond .eq 20, 3) := fo_153 (fd_n 6 sr_X4_site_0 rfl) (by decide +kernel)
theorem dX4_site_9 : decode cX4_site 9 = .ok (.iload_n 2, 1) := fo_28 (fd_n 9 sr_X4_site_0 rfl)
theorem dX4_site_10 : decode cX4_site 10 = .ok (.iconst 4, 1) := fo_7 (fd_n 10 sr_X4_site_0 rfl)
theorem dX4_site_11 : decode cX4_site 11 = .ok (.invokestatic 60, 3) := fo_184 (fd_n 11 sr_X4_site_0 rfl) rfl
theorem dX4_site_14 : decode cX4_site 14 = .ok (.ifCond .eq 12, 3) := fo_153 (fd_n 14 sr_X4_site_0 rfl) (by decide +kernel)
theorem dX4_site_17 : decode cX4_site 17 = .ok (.iload_n 3, 1) := fo_29 (fd_n 17 sr_X4_site_0 rfl)
theorem dX4_site_18 : decode cX4_site 18 = .ok (.bipush 10, 2) := fo_16 (fd_n 18 sr_X4_site_0 rfl) (by decide +kernel)
theorem dX4_site_20 : decode cX4_site 20 = .ok (.invokestatic 60, 3) := fo_184 (fd_n 20 sr_X4_site_0 rfl) rfl
theorem dX4_site_23 : decode cX4_site 23 = .ok (.ifCond .ne 9, 3) := fo_154 (fd_n 23 sr_X4_site_0 rfl) (by decide +kernel)
theorem dX4_site_26 : decode cX4_site 26 = .ok (.aload_n 0, 1) := fo_42 (fd_n 26 sr_X4_site_0 rfl)
theorem dX4_site_27 : decode cX4_site 27 = .ok (.iconst 0, 1) := fo_3 (fd_n 27 sr_X4_site_0 rfl)
theorem dX4_site_28 : decode cX4_site 28 = .ok (.invokevirtual 64, 3) := fo_182 sr_X4_site_1 rfl
theorem dX4_site_31 : decode cX4_site 31 = .ok (.ireturn, 1) := fo_172 (fd_n 3 sr_X4_site_1 rfl)
theorem dX4_site_32 : decode cX4_site 32 = .ok (.iconst (-1), 1) := fo_2 (fd_n 4 sr_X4_site_1 rfl)
theorem dX4_site_33 : decode cX4_site 33 = .ok (.istore 4, 2) := fo_54 (fd_n 5 sr_X4_site_1 rfl) rfl
theorem dX4_site_35 : decode cX4_site 35 = .ok (.iconst 0, 1) := fo_3 (fd_n 7 sr_X4_site_1 rfl)
theorem dX4_site_36 : decode cX4_site 36 = .ok (.istore 5, 2) := fo_54 (fd_n 8 sr_X4_site_1 rfl) rfl
theorem dX4_site_38 : decode cX4_site 38 = .ok (.iconst 0, 1) := fo_3 (fd_n 10 sr_X4_site_1 rfl)
theorem dX4_site_39 : decode cX4_site 39 = .ok (.istore 6, 2) := fo_54 (fd_n 11 sr_X4_site_1 rfl) rfl
theorem dX4_site_41 : decode cX4_site 41 = .ok (.iload 6, 2) := fo_21 (fd_n 13 sr_X4_site_1 rfl) rfl
theorem dX4_site_43 : decode cX4_site 43 = .ok (.bipush 25, 2) := fo_16 (fd_n 15 sr_X4_site_1 rfl) (by decide +kernel)
theorem dX4_site_45 : decode cX4_site 45 = .ok (.if_icmp .ge 90, 3) := fo_162 (fd_n 17 sr_X4_site_1 rfl) (by decide +kernel)
theorem dX4_site_48 : decode cX4_site 48 = .ok (.aload_n 0, 1) := fo_42 (fd_n 20 sr_X4_site_1 rfl)
theorem dX4_site_49 : decode cX4_site 49 = .ok (.getfield 10, 3) := fo_180 (fd_n 21 sr_X4_site_1 rfl) rfl
theorem dX4_site_52 : decode cX4_site 52 = .ok (.iload 6, 2) := fo_21 (fd_n 24 sr_X4_site_1 rfl) rfl
theorem dX4_site_54 : decode cX4_site 54 = .ok (.invokevirtual 68, 3) := fo_182 (fd_n 26 sr_X4_site_1 rfl) rfl
theorem dX4_site_57 : decode cX4_site 57 = .ok (.ifCond .eq 6, 3) := fo_153 sr_X4_site_2 (by decide +kernel)
theorem dX4_site_60 : decode cX4_site 60 = .ok (.goto 69, 3) := fo_167 (fd_n 3 sr_X4_site_2 rfl) (by decide +kernel)
theorem dX4_site_63 : decode cX4_site 63 = .ok (.aload_n 0, 1) := fo_42 (fd_n 6 sr_X4_site_2 rfl)
theorem dX4_site_64 : decode cX4_site 64 = .ok (.getfield 10, 3) := fo_180 (fd_n 7 sr_X4_site_2 rfl) rfl
theorem dX4_site_67 : decode cX4_site 67 = .ok (.iload 6, 2) := fo_21 (fd_n 10 sr_X4_site_2 rfl) rfl
theorem dX4_site_69 : decode cX4_site 69 = .ok (.iload_n 1, 1) := fo_27 (fd_n 12 sr_X4_site_2 rfl)
theorem dX4_site_70 : decode cX4_site 70 = .ok (.iload_n 2, 1) := fo_28 (fd_n 13 sr_X4_site_2 rfl)
theorem dX4_site_71 : decode cX4_site 71 = .ok (.iload_n 3, 1) := fo_29 (fd_n 14 sr_X4_site_2 rfl)
theorem dX4_site_72 : decode cX4_site 72 = .ok (.iconst 0, 1) := fo_3 (fd_n 15 sr_X4_site_2 rfl)
theorem dX4_site_73 : decode cX4_site 73 = .ok (.invokevirtual 72, 3) := fo_182 (fd_n 16 sr_X4_site_2 rfl) rfl
theorem dX4_site_76 : decode cX4_site 76 = .ok (.aload_n 0, 1) := fo_42 (fd_n 19 sr_X4_site_2 rfl)
theorem dX4_site_77 : decode cX4_site 77 = .ok (.getfield 25, 3) := fo_180 (fd_n 20 sr_X4_site_2 rfl) rfl
theorem dX4_site_80 : decode cX4_site 80 = .ok (.aload_n 0, 1) := fo_42 (fd_n 23 sr_X4_site_2 rfl)
theorem dX4_site_81 : decode cX4_site 81 = .ok (.getfield 10, 3) := fo_180 (fd_n 24 sr_X4_site_2 rfl) rfl
theorem dX4_site_84 : decode cX4_site 84 = .ok (.aload_n 0, 1) := fo_42 (fd_n 27 sr_X4_site_2 rfl)
theorem dX4_site_85 : decode cX4_site 85 = .ok (.getfield 50, 3) := fo_180 sr_X4_site_3 rfl
theorem dX4_site_88 : decode cX4_site 88 = .ok (.invokevirtual 149, 3) := fo_182 (fd_n 3 sr_X4_site_3 rfl) rfl
theorem dX4_site_91 : decode cX4_site 91 = .ok (.pop, 1) := fo_87 (fd_n 6 sr_X4_site_3 rfl)
theorem dX4_site_92 : decode cX4_site 92 = .ok (.aload_n 0, 1) := fo_42 (fd_n 7 sr_X4_site_3 rfl)
theorem dX4_site_93 : decode cX4_site 93 = .ok (.getfield 10, 3) := fo_180 (fd_n 8 sr_X4_site_3 rfl) rfl
theorem dX4_site_96 : decode cX4_site 96 = .ok (.iload 6, 2) := fo_21 (fd_n 11 sr_X4_site_3 rfl) rfl
theorem dX4_site_98 : decode cX4_site 98 = .ok (.invokevirtual 80, 3) := fo_182 (fd_n 13 sr_X4_site_3 rfl) rfl
theorem dX4_site_101 : decode cX4_site 101 = .ok (.iload 4, 2) := fo_21 (fd_n 16 sr_X4_site_3 rfl) rfl
theorem dX4_site_103 : decode cX4_site 103 = .ok (.ifCond .lt 14, 3) := fo_155 (fd_n 18 sr_X4_site_3 rfl) (by decide +kernel)
theorem dX4_site_106 : decode cX4_site 106 = .ok (.aload_n 0, 1) := fo_42 (fd_n 21 sr_X4_site_3 rfl)
theorem dX4_site_107 : decode cX4_site 107 = .ok (.getfield 50, 3) := fo_180 (fd_n 22 sr_X4_site_3 rfl) rfl
theorem dX4_site_110 : decode cX4_site 110 = .ok (.iload_n 2, 1) := fo_28 (fd_n 25 sr_X4_site_3 rfl)
theorem dX4_site_111 : decode cX4_site 111 = .ok (.iaload, 1) := fo_46 (fd_n 26 sr_X4_site_3 rfl)
theorem dX4_site_112 : decode cX4_site 112 = .ok (.iload 5, 2) := fo_21 (fd_n 27 sr_X4_site_3 rfl) rfl
theorem dX4_site_114 : decode cX4_site 114 = .ok (.if_icmp .le 15, 3) := fo_164 sr_X4_site_4 (by decide +kernel)
theorem dX4_site_117 : decode cX4_site 117 = .ok (.aload_n 0, 1) := fo_42 (fd_n 3 sr_X4_site_4 rfl)
theorem dX4_site_118 : decode cX4_site 118 = .ok (.getfield 50, 3) := fo_180 (fd_n 4 sr_X4_site_4 rfl) rfl
theorem dX4_site_121 : decode cX4_site 121 = .ok (.iload_n 2, 1) := fo_28 (fd_n 7 sr_X4_site_4 rfl)
theorem dX4_site_122 : decode cX4_site 122 = .ok (.iaload, 1) := fo_46 (fd_n 8 sr_X4_site_4 rfl)
theorem dX4_site_123 : decode cX4_site 123 = .ok (.istore 5, 2) := fo_54 (fd_n 9 sr_X4_site_4 rfl) rfl
theorem dX4_site_125 : decode cX4_site 125 = .ok (.iload 6, 2) := fo_21 (fd_n 11 sr_X4_site_4 rfl) rfl
theorem dX4_site_127 : decode cX4_site 127 = .ok (.istore 4, 2) := fo_54 (fd_n 13 sr_X4_site_4 rfl) rfl
theorem dX4_site_129 : decode cX4_site 129 = .ok (.iinc 6 1, 3) := fo_132 (fd_n 15 sr_X4_site_4 rfl) rfl (by decide +kernel)
theorem dX4_site_132 : decode cX4_site 132 = .ok (.goto (-91), 3) := fo_167 (fd_n 18 sr_X4_site_4 rfl) (by decide +kernel)
theorem dX4_site_135 : decode cX4_site 135 = .ok (.iload 4, 2) := fo_21 (fd_n 21 sr_X4_site_4 rfl) rfl
theorem dX4_site_137 : decode cX4_site 137 = .ok (.ifCond .ge 11, 3) := fo_156 (fd_n 23 sr_X4_site_4 rfl) (by decide +kernel)
theorem dX4_site_140 : decode cX4_site 140 = .ok (.aload_n 0, 1) := fo_42 (fd_n 26 sr_X4_site_4 rfl)
theorem dX4_site_141 : decode cX4_site 141 = .ok (.iconst 3, 1) := fo_6 (fd_n 27 sr_X4_site_4 rfl)
theorem dX4_site_142 : decode cX4_site 142 = .ok (.invokevirtual 64, 3) := fo_182 sr_X4_site_5 rfl
theorem dX4_site_145 : decode cX4_site 145 = .ok (.goto 5, 3) := fo_167 (fd_n 3 sr_X4_site_5 rfl) (by decide +kernel)
theorem dX4_site_148 : decode cX4_site 148 = .ok (.iload 4, 2) := fo_21 (fd_n 6 sr_X4_site_5 rfl) rfl
theorem dX4_site_150 : decode cX4_site 150 = .ok (.ireturn, 1) := fo_172 (fd_n 8 sr_X4_site_5 rfl)
noncomputable def sl_X4_worst_4 : List UInt8 := 132 :: 5 :: 1 :: 167 :: 255 :: 192 :: 42 :: 180 :: 0 :: 10 :: 28 :: 181 :: 0 :: 157 :: 29 :: 172 :: []
noncomputable def sl_X4_worst_3 : List UInt8 := 87 :: 21 :: 5 :: 153 :: 0 :: 14 :: 42 :: 180 :: 0 :: 50 :: 27 :: 46 :: 21 :: 4 :: 162 :: 0 :: 14 :: 42 :: 180 :: 0 :: 50 :: 27 :: 46 :: 54 :: 4 :: 21 :: 5 :: 62 :: sl_X4_worst_4
noncomputable def sl_X4_worst_2 : List UInt8 := 162 :: 0 :: 63 :: 42 :: 180 :: 0 :: 10 :: 28 :: 21 :: 5 :: 96 :: 181 :: 0 :: 157 :: 42 :: 180 :: 0 :: 25 :: 42 :: 180 :: 0 :: 10 :: 42 :: 180 :: 0 :: 50 :: 182 :: 0 :: 149 :: sl_X4_worst_3
noncomputable def sl_X4_worst_1 : List UInt8 := 164 :: 0 :: 9 :: 42 :: 7 :: 182 :: 0 :: 64 :: 172 :: 42 :: 180 :: 0 :: 10 :: 180 :: 0 :: 157 :: 61 :: 3 :: 62 :: 3 :: 54 :: 4 :: 3 :: 54 :: 5 :: 21 :: 5 :: 16 :: 12 :: sl_X4_worst_2
noncomputable def sl_X4_worst_0 : List UInt8 := 27 :: 7 :: 184 :: 0 :: 60 :: 154 :: 0 :: 9 :: 42 :: 3 :: 182 :: 0 :: 64 :: 172 :: 42 :: 180 :: 0 :: 10 :: 180 :: 0 :: 157 :: 16 :: 12 :: 96 :: 4 :: 100 :: 17 :: 3 :: 231 :: sl_X4_worst_1
theorem sr_X4_worst_0 : fd_at cX4_worst 0 sl_X4_worst_0 := fd_base (by decide +kernel)
theorem sr_X4_worst_1 : fd_at cX4_worst 29 sl_X4_worst_1 := fd_n 29 sr_X4_worst_0 rfl
theorem sr_X4_worst_2 : fd_at cX4_worst 58 sl_X4_worst_2 := fd_n 29 sr_X4_worst_1 rfl
theorem sr_X4_worst_3 : fd_at cX4_worst 87 sl_X4_worst_3 := fd_n 29 sr_X4_worst_2 rfl
theorem sr_X4_worst_4 : fd_at cX4_worst 115 sl_X4_worst_4 := fd_n 28 sr_X4_worst_3 rfl
theorem dX4_worst_0 : decode cX4_worst 0 = .ok (.iload_n 1, 1) := fo_27 sr_X4_worst_0
theorem dX4_worst_1 : decode cX4_worst 1 = .ok (.iconst 4, 1) := fo_7 (fd_n 1 sr_X4_worst_0 rfl)
theorem dX4_worst_2 : decode cX4_worst 2 = .ok (.invokestatic 60, 3) := fo_184 (fd_n 2 sr_X4_worst_0 rfl) rfl
theorem dX4_worst_5 : decode cX4_worst 5 = .ok (.ifCond .ne 9, 3) := fo_154 (fd_n 5 sr_X4_worst_0 rfl) (by decide +kernel)
theorem dX4_worst_8 : decode cX4_worst 8 = .ok (.aload_n 0, 1) := fo_42 (fd_n 8 sr_X4_worst_0 rfl)
theorem dX4_worst_9 : decode cX4_worst 9 = .ok (.iconst 0, 1) := fo_3 (fd_n 9 sr_X4_worst_0 rfl)
theorem dX4_worst_10 : decode cX4_worst 10 = .ok (.invokevirtual 64, 3) := fo_182 (fd_n 10 sr_X4_worst_0 rfl) rfl
theorem dX4_worst_13 : decode cX4_worst 13 = .ok (.ireturn, 1) := fo_172 (fd_n 13 sr_X4_worst_0 rfl)
theorem dX4_worst_14 : decode cX4_worst 14 = .ok (.aload_n 0, 1) := fo_42 (fd_n 14 sr_X4_worst_0 rfl)
theorem dX4_worst_15 : decode cX4_worst 15 = .ok (.getfield 10, 3) := fo_180 (fd_n 15 sr_X4_worst_0 rfl) rfl
theorem dX4_worst_18 : decode cX4_worst 18 = .ok (.getfield 157, 3) := fo_180 (fd_n 18 sr_X4_worst_0 rfl) rfl
theorem dX4_worst_21 : decode cX4_worst 21 = .ok (.bipush 12, 2) := fo_16 (fd_n 21 sr_X4_worst_0 rfl) (by decide +kernel)
theorem dX4_worst_23 : decode cX4_worst 23 = .ok (.iadd, 1) := fo_96 (fd_n 23 sr_X4_worst_0 rfl)
theorem dX4_worst_24 : decode cX4_worst 24 = .ok (.iconst 1, 1) := fo_4 (fd_n 24 sr_X4_worst_0 rfl)
theorem dX4_worst_25 : decode cX4_worst 25 = .ok (.isub, 1) := fo_100 (fd_n 25 sr_X4_worst_0 rfl)
theorem dX4_worst_26 : decode cX4_worst 26 = .ok (.sipush 999, 3) := fo_17 (fd_n 26 sr_X4_worst_0 rfl) (by decide +kernel)
theorem dX4_worst_29 : decode cX4_worst 29 = .ok (.if_icmp .le 9, 3) := fo_164 sr_X4_worst_1 (by decide +kernel)
theorem dX4_worst_32 : decode cX4_worst 32 = .ok (.aload_n 0, 1) := fo_42 (fd_n 3 sr_X4_worst_1 rfl)
theorem dX4_worst_33 : decode cX4_worst 33 = .ok (.iconst 4, 1) := fo_7 (fd_n 4 sr_X4_worst_1 rfl)
theorem dX4_worst_34 : decode cX4_worst 34 = .ok (.invokevirtual 64, 3) := fo_182 (fd_n 5 sr_X4_worst_1 rfl) rfl
theorem dX4_worst_37 : decode cX4_worst 37 = .ok (.ireturn, 1) := fo_172 (fd_n 8 sr_X4_worst_1 rfl)
theorem dX4_worst_38 : decode cX4_worst 38 = .ok (.aload_n 0, 1) := fo_42 (fd_n 9 sr_X4_worst_1 rfl)
theorem dX4_worst_39 : decode cX4_worst 39 = .ok (.getfield 10, 3) := fo_180 (fd_n 10 sr_X4_worst_1 rfl) rfl
theorem dX4_worst_42 : decode cX4_worst 42 = .ok (.getfield 157, 3) := fo_180 (fd_n 13 sr_X4_worst_1 rfl) rfl
theorem dX4_worst_45 : decode cX4_worst 45 = .ok (.istore_n 2, 1) := fo_61 (fd_n 16 sr_X4_worst_1 rfl)
theorem dX4_worst_46 : decode cX4_worst 46 = .ok (.iconst 0, 1) := fo_3 (fd_n 17 sr_X4_worst_1 rfl)
theorem dX4_worst_47 : decode cX4_worst 47 = .ok (.istore_n 3, 1) := fo_62 (fd_n 18 sr_X4_worst_1 rfl)
theorem dX4_worst_48 : decode cX4_worst 48 = .ok (.iconst 0, 1) := fo_3 (fd_n 19 sr_X4_worst_1 rfl)
theorem dX4_worst_49 : decode cX4_worst 49 = .ok (.istore 4, 2) := fo_54 (fd_n 20 sr_X4_worst_1 rfl) rfl
theorem dX4_worst_51 : decode cX4_worst 51 = .ok (.iconst 0, 1) := fo_3 (fd_n 22 sr_X4_worst_1 rfl)
theorem dX4_worst_52 : decode cX4_worst 52 = .ok (.istore 5, 2) := fo_54 (fd_n 23 sr_X4_worst_1 rfl) rfl
theorem dX4_worst_54 : decode cX4_worst 54 = .ok (.iload 5, 2) := fo_21 (fd_n 25 sr_X4_worst_1 rfl) rfl
theorem dX4_worst_56 : decode cX4_worst 56 = .ok (.bipush 12, 2) := fo_16 (fd_n 27 sr_X4_worst_1 rfl) (by decide +kernel)
theorem dX4_worst_58 : decode cX4_worst 58 = .ok (.if_icmp .ge 63, 3) := fo_162 sr_X4_worst_2 (by decide +kernel)
theorem dX4_worst_61 : decode cX4_worst 61 = .ok (.aload_n 0, 1) := fo_42 (fd_n 3 sr_X4_worst_2 rfl)
theorem dX4_worst_62 : decode cX4_worst 62 = .ok (.getfield 10, 3) := fo_180 (fd_n 4 sr_X4_worst_2 rfl) rfl
theorem dX4_worst_65 : decode cX4_worst 65 = .ok (.iload_n 2, 1) := fo_28 (fd_n 7 sr_X4_worst_2 rfl)
theorem dX4_worst_66 : decode cX4_worst 66 = .ok (.iload 5, 2) := fo_21 (fd_n 8 sr_X4_worst_2 rfl) rfl
theorem dX4_worst_68 : decode cX4_worst 68 = .ok (.iadd, 1) := fo_96 (fd_n 10 sr_X4_worst_2 rfl)
theorem dX4_worst_69 : decode cX4_worst 69 = .ok (.putfield 157, 3) := fo_181 (fd_n 11 sr_X4_worst_2 rfl) rfl
theorem dX4_worst_72 : decode cX4_worst 72 = .ok (.aload_n 0, 1) := fo_42 (fd_n 14 sr_X4_worst_2 rfl)
theorem dX4_worst_73 : decode cX4_worst 73 = .ok (.getfield 25, 3) := fo_180 (fd_n 15 sr_X4_worst_2 rfl) rfl
theorem dX4_worst_76 : decode cX4_worst 76 = .ok (.aload_n 0, 1) := fo_42 (fd_n 18 sr_X4_worst_2 rfl)
theorem dX4_worst_77 : decode cX4_worst 77 = .ok (.getfield 10, 3) := fo_180 (fd_n 19 sr_X4_worst_2 rfl) rfl
theorem dX4_worst_80 : decode cX4_worst 80 = .ok (.aload_n 0, 1) := fo_42 (fd_n 22 sr_X4_worst_2 rfl)
theorem dX4_worst_81 : decode cX4_worst 81 = .ok (.getfield 50, 3) := fo_180 (fd_n 23 sr_X4_worst_2 rfl) rfl
theorem dX4_worst_84 : decode cX4_worst 84 = .ok (.invokevirtual 149, 3) := fo_182 (fd_n 26 sr_X4_worst_2 rfl) rfl
theorem dX4_worst_87 : decode cX4_worst 87 = .ok (.pop, 1) := fo_87 sr_X4_worst_3
theorem dX4_worst_88 : decode cX4_worst 88 = .ok (.iload 5, 2) := fo_21 (fd_n 1 sr_X4_worst_3 rfl) rfl
theorem dX4_worst_90 : decode cX4_worst 90 = .ok (.ifCond .eq 14, 3) := fo_153 (fd_n 3 sr_X4_worst_3 rfl) (by decide +kernel)
theorem dX4_worst_93 : decode cX4_worst 93 = .ok (.aload_n 0, 1) := fo_42 (fd_n 6 sr_X4_worst_3 rfl)
theorem dX4_worst_94 : decode cX4_worst 94 = .ok (.getfield 50, 3) := fo_180 (fd_n 7 sr_X4_worst_3 rfl) rfl
theorem dX4_worst_97 : decode cX4_worst 97 = .ok (.iload_n 1, 1) := fo_27 (fd_n 10 sr_X4_worst_3 rfl)
theorem dX4_worst_98 : decode cX4_worst 98 = .ok (.iaload, 1) := fo_46 (fd_n 11 sr_X4_worst_3 rfl)
theorem dX4_worst_99 : decode cX4_worst 99 = .ok (.iload 4, 2) := fo_21 (fd_n 12 sr_X4_worst_3 rfl) rfl
theorem dX4_worst_101 : decode cX4_worst 101 = .ok (.if_icmp .ge 14, 3) := fo_162 (fd_n 14 sr_X4_worst_3 rfl) (by decide +kernel)
theorem dX4_worst_104 : decode cX4_worst 104 = .ok (.aload_n 0, 1) := fo_42 (fd_n 17 sr_X4_worst_3 rfl)
theorem dX4_worst_105 : decode cX4_worst 105 = .ok (.getfield 50, 3) := fo_180 (fd_n 18 sr_X4_worst_3 rfl) rfl
theorem dX4_worst_108 : decode cX4_worst 108 = .ok (.iload_n 1, 1) := fo_27 (fd_n 21 sr_X4_worst_3 rfl)
theorem dX4_worst_109 : decode cX4_worst 109 = .ok (.iaload, 1) := fo_46 (fd_n 22 sr_X4_worst_3 rfl)
theorem dX4_worst_110 : decode cX4_worst 110 = .ok (.istore 4, 2) := fo_54 (fd_n 23 sr_X4_worst_3 rfl) rfl
theorem dX4_worst_112 : decode cX4_worst 112 = .ok (.iload 5, 2) := fo_21 (fd_n 25 sr_X4_worst_3 rfl) rfl
theorem dX4_worst_114 : decode cX4_worst 114 = .ok (.istore_n 3, 1) := fo_62 (fd_n 27 sr_X4_worst_3 rfl)
theorem dX4_worst_115 : decode cX4_worst 115 = .ok (.iinc 5 1, 3) := fo_132 sr_X4_worst_4 rfl (by decide +kernel)
theorem dX4_worst_118 : decode cX4_worst 118 = .ok (.goto (-64), 3) := fo_167 (fd_n 3 sr_X4_worst_4 rfl) (by decide +kernel)
theorem dX4_worst_121 : decode cX4_worst 121 = .ok (.aload_n 0, 1) := fo_42 (fd_n 6 sr_X4_worst_4 rfl)
theorem dX4_worst_122 : decode cX4_worst 122 = .ok (.getfield 10, 3) := fo_180 (fd_n 7 sr_X4_worst_4 rfl) rfl
theorem dX4_worst_125 : decode cX4_worst 125 = .ok (.iload_n 2, 1) := fo_28 (fd_n 10 sr_X4_worst_4 rfl)
theorem dX4_worst_126 : decode cX4_worst 126 = .ok (.putfield 157, 3) := fo_181 (fd_n 11 sr_X4_worst_4 rfl) rfl
theorem dX4_worst_129 : decode cX4_worst 129 = .ok (.iload_n 3, 1) := fo_29 (fd_n 14 sr_X4_worst_4 rfl)
theorem dX4_worst_130 : decode cX4_worst 130 = .ok (.ireturn, 1) := fo_172 (fd_n 15 sr_X4_worst_4 rfl)
noncomputable def sl_X4_trade_4 : List UInt8 := 167 :: 255 :: 185 :: 42 :: 6 :: 182 :: 0 :: 64 :: 172 :: []
noncomputable def sl_X4_trade_3 : List UInt8 := 153 :: 0 :: 21 :: 42 :: 29 :: 21 :: 4 :: 182 :: 0 :: 188 :: 153 :: 0 :: 11 :: 16 :: 100 :: 29 :: 104 :: 21 :: 4 :: 96 :: 172 :: 132 :: 4 :: 1 :: 167 :: 255 :: 215 :: 132 :: 3 :: 1 :: sl_X4_trade_4
noncomputable def sl_X4_trade_2 : List UInt8 := 27 :: 182 :: 0 :: 185 :: 154 :: 0 :: 6 :: 167 :: 0 :: 50 :: 3 :: 54 :: 4 :: 21 :: 4 :: 16 :: 25 :: 162 :: 0 :: 40 :: 42 :: 180 :: 0 :: 10 :: 21 :: 4 :: 28 :: 182 :: 0 :: 185 :: sl_X4_trade_3
noncomputable def sl_X4_trade_1 : List UInt8 := 180 :: 0 :: 25 :: 42 :: 180 :: 0 :: 10 :: 42 :: 180 :: 0 :: 47 :: 182 :: 0 :: 149 :: 87 :: 3 :: 62 :: 29 :: 16 :: 25 :: 162 :: 0 :: 71 :: 42 :: 180 :: 0 :: 10 :: 29 :: sl_X4_trade_2
noncomputable def sl_X4_trade_0 : List UInt8 := 27 :: 7 :: 184 :: 0 :: 60 :: 153 :: 0 :: 16 :: 28 :: 7 :: 184 :: 0 :: 60 :: 153 :: 0 :: 8 :: 27 :: 28 :: 160 :: 0 :: 9 :: 42 :: 3 :: 182 :: 0 :: 64 :: 172 :: 42 :: sl_X4_trade_1
theorem sr_X4_trade_0 : fd_at cX4_trade 0 sl_X4_trade_0 := fd_base (by decide +kernel)
theorem sr_X4_trade_1 : fd_at cX4_trade 28 sl_X4_trade_1 := fd_n 28 sr_X4_trade_0 rfl
theorem sr_X4_trade_2 : fd_at cX4_trade 56 sl_X4_trade_2 := fd_n 28 sr_X4_trade_1 rfl
theorem sr_X4_trade_3 : fd_at cX4_trade 86 sl_X4_trade_3 := fd_n 30 sr_X4_trade_2 rfl
theorem sr_X4_trade_4 : fd_at cX4_trade 116 sl_X4_trade_4 := fd_n 30 sr_X4_trade_3 rfl
theorem dX4_trade_0 : decode cX4_trade 0 = .ok (.iload_n 1, 1) := fo_27 sr_X4_trade_0
theorem dX4_trade_1 : decode cX4_trade 1 = .ok (.iconst 4, 1) := fo_7 (fd_n 1 sr_X4_trade_0 rfl)
theorem dX4_trade_2 : decode cX4_trade 2 = .ok (.invokestatic 60, 3) := fo_184 (fd_n 2 sr_X4_trade_0 rfl) rfl
theorem dX4_trade_5 : decode cX4_trade 5 = .ok (.ifCond .eq 16, 3) := fo_153 (fd_n 5 sr_X4_trade_0 rfl) (by decide +kernel)
theorem dX4_trade_8 : decode cX4_trade 8 = .ok (.iload_n 2, 1) := fo_28 (fd_n 8 sr_X4_trade_0 rfl)
theorem dX4_trade_9 : decode cX4_trade 9 = .ok (.iconst 4, 1) := fo_7 (fd_n 9 sr_X4_trade_0 rfl)
theorem dX4_trade_10 : decode cX4_trade 10 = .ok (.invokestatic 60, 3) := fo_184 (fd_n 10 sr_X4_trade_0 rfl) rfl
theorem dX4_trade_13 : decode cX4_trade 13 = .ok (.ifCond .eq 8, 3) := fo_153 (fd_n 13 sr_X4_trade_0 rfl) (by decide +kernel)
theorem dX4_trade_16 : decode cX4_trade 16 = .ok (.iload_n 1, 1) := fo_27 (fd_n 16 sr_X4_trade_0 rfl)
theorem dX4_trade_17 : decode cX4_trade 17 = .ok (.iload_n 2, 1) := fo_28 (fd_n 17 sr_X4_trade_0 rfl)
theorem dX4_trade_18 : decode cX4_trade 18 = .ok (.if_icmp .ne 9, 3) := fo_160 (fd_n 18 sr_X4_trade_0 rfl) (by decide +kernel)
theorem dX4_trade_21 : decode cX4_trade 21 = .ok (.aload_n 0, 1) := fo_42 (fd_n 21 sr_X4_trade_0 rfl)
theorem dX4_trade_22 : decode cX4_trade 22 = .ok (.iconst 0, 1) := fo_3 (fd_n 22 sr_X4_trade_0 rfl)
theorem dX4_trade_23 : decode cX4_trade 23 = .ok (.invokevirtual 64, 3) := fo_182 (fd_n 23 sr_X4_trade_0 rfl) rfl
theorem dX4_trade_26 : decode cX4_trade 26 = .ok (.ireturn, 1) := fo_172 (fd_n 26 sr_X4_trade_0 rfl)
theorem dX4_trade_27 : decode cX4_trade 27 = .ok (.aload_n 0, 1) := fo_42 (fd_n 27 sr_X4_trade_0 rfl)
theorem dX4_trade_28 : decode cX4_trade 28 = .ok (.getfield 25, 3) := fo_180 sr_X4_trade_1 rfl
theorem dX4_trade_31 : decode cX4_trade 31 = .ok (.aload_n 0, 1) := fo_42 (fd_n 3 sr_X4_trade_1 rfl)
theorem dX4_trade_32 : decode cX4_trade 32 = .ok (.getfield 10, 3) := fo_180 (fd_n 4 sr_X4_trade_1 rfl) rfl
theorem dX4_trade_35 : decode cX4_trade 35 = .ok (.aload_n 0, 1) := fo_42 (fd_n 7 sr_X4_trade_1 rfl)
theorem dX4_trade_36 : decode cX4_trade 36 = .ok (.getfield 47, 3) := fo_180 (fd_n 8 sr_X4_trade_1 rfl) rfl
theorem dX4_trade_39 : decode cX4_trade 39 = .ok (.invokevirtual 149, 3) := fo_182 (fd_n 11 sr_X4_trade_1 rfl) rfl
theorem dX4_trade_42 : decode cX4_trade 42 = .ok (.pop, 1) := fo_87 (fd_n 14 sr_X4_trade_1 rfl)
theorem dX4_trade_43 : decode cX4_trade 43 = .ok (.iconst 0, 1) := fo_3 (fd_n 15 sr_X4_trade_1 rfl)
theorem dX4_trade_44 : decode cX4_trade 44 = .ok (.istore_n 3, 1) := fo_62 (fd_n 16 sr_X4_trade_1 rfl)
theorem dX4_trade_45 : decode cX4_trade 45 = .ok (.iload_n 3, 1) := fo_29 (fd_n 17 sr_X4_trade_1 rfl)
theorem dX4_trade_46 : decode cX4_trade 46 = .ok (.bipush 25, 2) := fo_16 (fd_n 18 sr_X4_trade_1 rfl) (by decide +kernel)
theorem dX4_trade_48 : decode cX4_trade 48 = .ok (.if_icmp .ge 71, 3) := fo_162 (fd_n 20 sr_X4_trade_1 rfl) (by decide +kernel)
theorem dX4_trade_51 : decode cX4_trade 51 = .ok (.aload_n 0, 1) := fo_42 (fd_n 23 sr_X4_trade_1 rfl)
theorem dX4_trade_52 : decode cX4_trade 52 = .ok (.getfield 10, 3) := fo_180 (fd_n 24 sr_X4_trade_1 rfl) rfl
theorem dX4_trade_55 : decode cX4_trade 55 = .ok (.iload_n 3, 1) := fo_29 (fd_n 27 sr_X4_trade_1 rfl)
theorem dX4_trade_56 : decode cX4_trade 56 = .ok (.iload_n 1, 1) := fo_27 sr_X4_trade_2
theorem dX4_trade_57 : decode cX4_trade 57 = .ok (.invokevirtual 185, 3) := fo_182 (fd_n 1 sr_X4_trade_2 rfl) rfl
theorem dX4_trade_60 : decode cX4_trade 60 = .ok (.ifCond .ne 6, 3) := fo_154 (fd_n 4 sr_X4_trade_2 rfl) (by decide +kernel)
theorem dX4_trade_63 : decode cX4_trade 63 = .ok (.goto 50, 3) := fo_167 (fd_n 7 sr_X4_trade_2 rfl) (by decide +kernel)
theorem dX4_trade_66 : decode cX4_trade 66 = .ok (.iconst 0, 1) := fo_3 (fd_n 10 sr_X4_trade_2 rfl)
theorem dX4_trade_67 : decode cX4_trade 67 = .ok (.istore 4, 2) := fo_54 (fd_n 11 sr_X4_trade_2 rfl) rfl
theorem dX4_trade_69 : decode cX4_trade 69 = .ok (.iload 4, 2) := fo_21 (fd_n 13 sr_X4_trade_2 rfl) rfl
theorem dX4_trade_71 : decode cX4_trade 71 = .ok (.bipush 25, 2) := fo_16 (fd_n 15 sr_X4_trade_2 rfl) (by decide +kernel)
theorem dX4_trade_73 : decode cX4_trade 73 = .ok (.if_icmp .ge 40, 3) := fo_162 (fd_n 17 sr_X4_trade_2 rfl) (by decide +kernel)
theorem dX4_trade_76 : decode cX4_trade 76 = .ok (.aload_n 0, 1) := fo_42 (fd_n 20 sr_X4_trade_2 rfl)
theorem dX4_trade_77 : decode cX4_trade 77 = .ok (.getfield 10, 3) := fo_180 (fd_n 21 sr_X4_trade_2 rfl) rfl
theorem dX4_trade_80 : decode cX4_trade 80 = .ok (.iload 4, 2) := fo_21 (fd_n 24 sr_X4_trade_2 rfl) rfl
theorem dX4_trade_82 : decode cX4_trade 82 = .ok (.iload_n 2, 1) := fo_28 (fd_n 26 sr_X4_trade_2 rfl)
theorem dX4_trade_83 : decode cX4_trade 83 = .ok (.invokevirtual 185, 3) := fo_182 (fd_n 27 sr_X4_trade_2 rfl) rfl
theorem dX4_trade_86 : decode cX4_trade 86 = .ok (.ifCond .eq 21, 3) := fo_153 sr_X4_trade_3 (by decide +kernel)
theorem dX4_trade_89 : decode cX4_trade 89 = .ok (.aload_n 0, 1) := fo_42 (fd_n 3 sr_X4_trade_3 rfl)
theorem dX4_trade_90 : decode cX4_trade 90 = .ok (.iload_n 3, 1) := fo_29 (fd_n 4 sr_X4_trade_3 rfl)
theorem dX4_trade_91 : decode cX4_trade 91 = .ok (.iload 4, 2) := fo_21 (fd_n 5 sr_X4_trade_3 rfl) rfl
theorem dX4_trade_93 : decode cX4_trade 93 = .ok (.invokevirtual 188, 3) := fo_182 (fd_n 7 sr_X4_trade_3 rfl) rfl
theorem dX4_trade_96 : decode cX4_trade 96 = .ok (.ifCond .eq 11, 3) := fo_153 (fd_n 10 sr_X4_trade_3 rfl) (by decide +kernel)
theorem dX4_trade_99 : decode cX4_trade 99 = .ok (.bipush 100, 2) := fo_16 (fd_n 13 sr_X4_trade_3 rfl) (by decide +kernel)
theorem dX4_trade_101 : decode cX4_trade 101 = .ok (.iload_n 3, 1) := fo_29 (fd_n 15 sr_X4_trade_3 rfl)
theorem dX4_trade_102 : decode cX4_trade 102 = .ok (.imul, 1) := fo_104 (fd_n 16 sr_X4_trade_3 rfl)
theorem dX4_trade_103 : decode cX4_trade 103 = .ok (.iload 4, 2) := fo_21 (fd_n 17 sr_X4_trade_3 rfl) rfl
theorem dX4_trade_105 : decode cX4_trade 105 = .ok (.iadd, 1) := fo_96 (fd_n 19 sr_X4_trade_3 rfl)
theorem dX4_trade_106 : decode cX4_trade 106 = .ok (.ireturn, 1) := fo_172 (fd_n 20 sr_X4_trade_3 rfl)
theorem dX4_trade_107 : decode cX4_trade 107 = .ok (.iinc 4 1, 3) := fo_132 (fd_n 21 sr_X4_trade_3 rfl) rfl (by decide +kernel)
theorem dX4_trade_110 : decode cX4_trade 110 = .ok (.goto (-41), 3) := fo_167 (fd_n 24 sr_X4_trade_3 rfl) (by decide +kernel)
theorem dX4_trade_113 : decode cX4_trade 113 = .ok (.iinc 3 1, 3) := fo_132 (fd_n 27 sr_X4_trade_3 rfl) rfl (by decide +kernel)
theorem dX4_trade_116 : decode cX4_trade 116 = .ok (.goto (-71), 3) := fo_167 sr_X4_trade_4 (by decide +kernel)
theorem dX4_trade_119 : decode cX4_trade 119 = .ok (.aload_n 0, 1) := fo_42 (fd_n 3 sr_X4_trade_4 rfl)
theorem dX4_trade_120 : decode cX4_trade 120 = .ok (.iconst 3, 1) := fo_6 (fd_n 4 sr_X4_trade_4 rfl)
theorem dX4_trade_121 : decode cX4_trade 121 = .ok (.invokevirtual 64, 3) := fo_182 (fd_n 5 sr_X4_trade_4 rfl) rfl
theorem dX4_trade_124 : decode cX4_trade 124 = .ok (.ireturn, 1) := fo_172 (fd_n 8 sr_X4_trade_4 rfl)
noncomputable def sl_X4_swap_4 : List UInt8 := 29 :: 42 :: 180 :: 0 :: 50 :: 21 :: 4 :: 46 :: 42 :: 180 :: 0 :: 47 :: 21 :: 4 :: 46 :: 184 :: 0 :: 195 :: 96 :: 62 :: 132 :: 4 :: 1 :: 167 :: 255 :: 227 :: 29 :: 172 :: []
noncomputable def sl_X4_swap_3 : List UInt8 := 42 :: 180 :: 0 :: 50 :: 182 :: 0 :: 149 :: 87 :: 42 :: 180 :: 0 :: 10 :: 27 :: 28 :: 182 :: 0 :: 191 :: 3 :: 62 :: 3 :: 54 :: 4 :: 21 :: 4 :: 7 :: 162 :: 0 :: 29 :: sl_X4_swap_4
noncomputable def sl_X4_swap_2 : List UInt8 := 42 :: 180 :: 0 :: 10 :: 42 :: 180 :: 0 :: 47 :: 182 :: 0 :: 149 :: 87 :: 42 :: 180 :: 0 :: 10 :: 27 :: 28 :: 182 :: 0 :: 191 :: 42 :: 180 :: 0 :: 25 :: 42 :: 180 :: 0 :: 10 :: sl_X4_swap_3
noncomputable def sl_X4_swap_1 : List UInt8 := 27 :: 182 :: 0 :: 68 :: 153 :: 0 :: 14 :: 42 :: 180 :: 0 :: 10 :: 28 :: 182 :: 0 :: 68 :: 154 :: 0 :: 9 :: 42 :: 6 :: 182 :: 0 :: 64 :: 172 :: 42 :: 180 :: 0 :: 25 :: sl_X4_swap_2
noncomputable def sl_X4_swap_0 : List UInt8 := 27 :: 16 :: 25 :: 184 :: 0 :: 60 :: 153 :: 0 :: 12 :: 28 :: 16 :: 25 :: 184 :: 0 :: 60 :: 154 :: 0 :: 9 :: 42 :: 3 :: 182 :: 0 :: 64 :: 172 :: 42 :: 180 :: 0 :: 10 :: sl_X4_swap_1
theorem sr_X4_swap_0 : fd_at cX4_swap 0 sl_X4_swap_0 := fd_base (by decide +kernel)
theorem sr_X4_swap_1 : fd_at cX4_swap 28 sl_X4_swap_1 := fd_n 28 sr_X4_swap_0 rfl
theorem sr_X4_swap_2 : fd_at cX4_swap 56 sl_X4_swap_2 := fd_n 28 sr_X4_swap_1 rfl
theorem sr_X4_swap_3 : fd_at cX4_swap 85 sl_X4_swap_3 := fd_n 29 sr_X4_swap_2 rfl
theorem sr_X4_swap_4 : fd_at cX4_swap 113 sl_X4_swap_4 := fd_n 28 sr_X4_swap_3 rfl
theorem dX4_swap_0 : decode cX4_swap 0 = .ok (.iload_n 1, 1) := fo_27 sr_X4_swap_0
theorem dX4_swap_1 : decode cX4_swap 1 = .ok (.bipush 25, 2) := fo_16 (fd_n 1 sr_X4_swap_0 rfl) (by decide +kernel)
theorem dX4_swap_3 : decode cX4_swap 3 = .ok (.invokestatic 60, 3) := fo_184 (fd_n 3 sr_X4_swap_0 rfl) rfl
theorem dX4_swap_6 : decode cX4_swap 6 = .ok (.ifCond .eq 12, 3) := fo_153 (fd_n 6 sr_X4_swap_0 rfl) (by decide +kernel)
theorem dX4_swap_9 : decode cX4_swap 9 = .ok (.iload_n 2, 1) := fo_28 (fd_n 9 sr_X4_swap_0 rfl)
theorem dX4_swap_10 : decode cX4_swap 10 = .ok (.bipush 25, 2) := fo_16 (fd_n 10 sr_X4_swap_0 rfl) (by decide +kernel)
theorem dX4_swap_12 : decode cX4_swap 12 = .ok (.invokestatic 60, 3) := fo_184 (fd_n 12 sr_X4_swap_0 rfl) rfl
theorem dX4_swap_15 : decode cX4_swap 15 = .ok (.ifCond .ne 9, 3) := fo_154 (fd_n 15 sr_X4_swap_0 rfl) (by decide +kernel)
theorem dX4_swap_18 : decode cX4_swap 18 = .ok (.aload_n 0, 1) := fo_42 (fd_n 18 sr_X4_swap_0 rfl)
theorem dX4_swap_19 : decode cX4_swap 19 = .ok (.iconst 0, 1) := fo_3 (fd_n 19 sr_X4_swap_0 rfl)
theorem dX4_swap_20 : decode cX4_swap 20 = .ok (.invokevirtual 64, 3) := fo_182 (fd_n 20 sr_X4_swap_0 rfl) rfl
theorem dX4_swap_23 : decode cX4_swap 23 = .ok (.ireturn, 1) := fo_172 (fd_n 23 sr_X4_swap_0 rfl)
theorem dX4_swap_24 : decode cX4_swap 24 = .ok (.aload_n 0, 1) := fo_42 (fd_n 24 sr_X4_swap_0 rfl)
theorem dX4_swap_25 : decode cX4_swap 25 = .ok (.getfield 10, 3) := fo_180 (fd_n 25 sr_X4_swap_0 rfl) rfl
theorem dX4_swap_28 : decode cX4_swap 28 = .ok (.iload_n 1, 1) := fo_27 sr_X4_swap_1
theorem dX4_swap_29 : decode cX4_swap 29 = .ok (.invokevirtual 68, 3) := fo_182 (fd_n 1 sr_X4_swap_1 rfl) rfl
theorem dX4_swap_32 : decode cX4_swap 32 = .ok (.ifCond .eq 14, 3) := fo_153 (fd_n 4 sr_X4_swap_1 rfl) (by decide +kernel)
theorem dX4_swap_35 : decode cX4_swap 35 = .ok (.aload_n 0, 1) := fo_42 (fd_n 7 sr_X4_swap_1 rfl)
theorem dX4_swap_36 : decode cX4_swap 36 = .ok (.getfield 10, 3) := fo_180 (fd_n 8 sr_X4_swap_1 rfl) rfl
theorem dX4_swap_39 : decode cX4_swap 39 = .ok (.iload_n 2, 1) := fo_28 (fd_n 11 sr_X4_swap_1 rfl)
theorem dX4_swap_40 : decode cX4_swap 40 = .ok (.invokevirtual 68, 3) := fo_182 (fd_n 12 sr_X4_swap_1 rfl) rfl
theorem dX4_swap_43 : decode cX4_swap 43 = .ok (.ifCond .ne 9, 3) := fo_154 (fd_n 15 sr_X4_swap_1 rfl) (by decide +kernel)
theorem dX4_swap_46 : decode cX4_swap 46 = .ok (.aload_n 0, 1) := fo_42 (fd_n 18 sr_X4_swap_1 rfl)
theorem dX4_swap_47 : decode cX4_swap 47 = .ok (.iconst 3, 1) := fo_6 (fd_n 19 sr_X4_swap_1 rfl)
theorem dX4_swap_48 : decode cX4_swap 48 = .ok (.invokevirtual 64, 3) := fo_182 (fd_n 20 sr_X4_swap_1 rfl) rfl
theorem dX4_swap_51 : decode cX4_swap 51 = .ok (.ireturn, 1) := fo_172 (fd_n 23 sr_X4_swap_1 rfl)
theorem dX4_swap_52 : decode cX4_swap 52 = .ok (.aload_n 0, 1) := fo_42 (fd_n 24 sr_X4_swap_1 rfl)
theorem dX4_swap_53 : decode cX4_swap 53 = .ok (.getfield 25, 3) := fo_180 (fd_n 25 sr_X4_swap_1 rfl) rfl
theorem dX4_swap_56 : decode cX4_swap 56 = .ok (.aload_n 0, 1) := fo_42 sr_X4_swap_2
theorem dX4_swap_57 : decode cX4_swap 57 = .ok (.getfield 10, 3) := fo_180 (fd_n 1 sr_X4_swap_2 rfl) rfl
theorem dX4_swap_60 : decode cX4_swap 60 = .ok (.aload_n 0, 1) := fo_42 (fd_n 4 sr_X4_swap_2 rfl)
theorem dX4_swap_61 : decode cX4_swap 61 = .ok (.getfield 47, 3) := fo_180 (fd_n 5 sr_X4_swap_2 rfl) rfl
theorem dX4_swap_64 : decode cX4_swap 64 = .ok (.invokevirtual 149, 3) := fo_182 (fd_n 8 sr_X4_swap_2 rfl) rfl
theorem dX4_swap_67 : decode cX4_swap 67 = .ok (.pop, 1) := fo_87 (fd_n 11 sr_X4_swap_2 rfl)
theorem dX4_swap_68 : decode cX4_swap 68 = .ok (.aload_n 0, 1) := fo_42 (fd_n 12 sr_X4_swap_2 rfl)
theorem dX4_swap_69 : decode cX4_swap 69 = .ok (.getfield 10, 3) := fo_180 (fd_n 13 sr_X4_swap_2 rfl) rfl
theorem dX4_swap_72 : decode cX4_swap 72 = .ok (.iload_n 1, 1) := fo_27 (fd_n 16 sr_X4_swap_2 rfl)
theorem dX4_swap_73 : decode cX4_swap 73 = .ok (.iload_n 2, 1) := fo_28 (fd_n 17 sr_X4_swap_2 rfl)
theorem dX4_swap_74 : decode cX4_swap 74 = .ok (.invokevirtual 191, 3) := fo_182 (fd_n 18 sr_X4_swap_2 rfl) rfl
theorem dX4_swap_77 : decode cX4_swap 77 = .ok (.aload_n 0, 1) := fo_42 (fd_n 21 sr_X4_swap_2 rfl)
theorem dX4_swap_78 : decode cX4_swap 78 = .ok (.getfield 25, 3) := fo_180 (fd_n 22 sr_X4_swap_2 rfl) rfl
theorem dX4_swap_81 : decode cX4_swap 81 = .ok (.aload_n 0, 1) := fo_42 (fd_n 25 sr_X4_swap_2 rfl)
theorem dX4_swap_82 : decode cX4_swap 82 = .ok (.getfield 10, 3) := fo_180 (fd_n 26 sr_X4_swap_2 rfl) rfl
theorem dX4_swap_85 : decode cX4_swap 85 = .ok (.aload_n 0, 1) := fo_42 sr_X4_swap_3
theorem dX4_swap_86 : decode cX4_swap 86 = .ok (.getfield 50, 3) := fo_180 (fd_n 1 sr_X4_swap_3 rfl) rfl
theorem dX4_swap_89 : decode cX4_swap 89 = .ok (.invokevirtual 149, 3) := fo_182 (fd_n 4 sr_X4_swap_3 rfl) rfl
theorem dX4_swap_92 : decode cX4_swap 92 = .ok (.pop, 1) := fo_87 (fd_n 7 sr_X4_swap_3 rfl)
theorem dX4_swap_93 : decode cX4_swap 93 = .ok (.aload_n 0, 1) := fo_42 (fd_n 8 sr_X4_swap_3 rfl)
theorem dX4_swap_94 : decode cX4_swap 94 = .ok (.getfield 10, 3) := fo_180 (fd_n 9 sr_X4_swap_3 rfl) rfl
theorem dX4_swap_97 : decode cX4_swap 97 = .ok (.iload_n 1, 1) := fo_27 (fd_n 12 sr_X4_swap_3 rfl)
theorem dX4_swap_98 : decode cX4_swap 98 = .ok (.iload_n 2, 1) := fo_28 (fd_n 13 sr_X4_swap_3 rfl)
theorem dX4_swap_99 : decode cX4_swap 99 = .ok (.invokevirtual 191, 3) := fo_182 (fd_n 14 sr_X4_swap_3 rfl) rfl
theorem dX4_swap_102 : decode cX4_swap 102 = .ok (.iconst 0, 1) := fo_3 (fd_n 17 sr_X4_swap_3 rfl)
theorem dX4_swap_103 : decode cX4_swap 103 = .ok (.istore_n 3, 1) := fo_62 (fd_n 18 sr_X4_swap_3 rfl)
theorem dX4_swap_104 : decode cX4_swap 104 = .ok (.iconst 0, 1) := fo_3 (fd_n 19 sr_X4_swap_3 rfl)
theorem dX4_swap_105 : decode cX4_swap 105 = .ok (.istore 4, 2) := fo_54 (fd_n 20 sr_X4_swap_3 rfl) rfl
theorem dX4_swap_107 : decode cX4_swap 107 = .ok (.iload 4, 2) := fo_21 (fd_n 22 sr_X4_swap_3 rfl) rfl
theorem dX4_swap_109 : decode cX4_swap 109 = .ok (.iconst 4, 1) := fo_7 (fd_n 24 sr_X4_swap_3 rfl)
theorem dX4_swap_110 : decode cX4_swap 110 = .ok (.if_icmp .ge 29, 3) := fo_162 (fd_n 25 sr_X4_swap_3 rfl) (by decide +kernel)
theorem dX4_swap_113 : decode cX4_swap 113 = .ok (.iload_n 3, 1) := fo_29 sr_X4_swap_4
theorem dX4_swap_114 : decode cX4_swap 114 = .ok (.aload_n 0, 1) := fo_42 (fd_n 1 sr_X4_swap_4 rfl)
theorem dX4_swap_115 : decode cX4_swap 115 = .ok (.getfield 50, 3) := fo_180 (fd_n 2 sr_X4_swap_4 rfl) rfl
theorem dX4_swap_118 : decode cX4_swap 118 = .ok (.iload 4, 2) := fo_21 (fd_n 5 sr_X4_swap_4 rfl) rfl
theorem dX4_swap_120 : decode cX4_swap 120 = .ok (.iaload, 1) := fo_46 (fd_n 7 sr_X4_swap_4 rfl)
theorem dX4_swap_121 : decode cX4_swap 121 = .ok (.aload_n 0, 1) := fo_42 (fd_n 8 sr_X4_swap_4 rfl)
theorem dX4_swap_122 : decode cX4_swap 122 = .ok (.getfield 47, 3) := fo_180 (fd_n 9 sr_X4_swap_4 rfl) rfl
theorem dX4_swap_125 : decode cX4_swap 125 = .ok (.iload 4, 2) := fo_21 (fd_n 12 sr_X4_swap_4 rfl) rfl
theorem dX4_swap_127 : decode cX4_swap 127 = .ok (.iaload, 1) := fo_46 (fd_n 14 sr_X4_swap_4 rfl)
theorem dX4_swap_128 : decode cX4_swap 128 = .ok (.invokestatic 195, 3) := fo_184 (fd_n 15 sr_X4_swap_4 rfl) rfl
theorem dX4_swap_131 : decode cX4_swap 131 = .ok (.iadd, 1) := fo_96 (fd_n 18 sr_X4_swap_4 rfl)
theorem dX4_swap_132 : decode cX4_swap 132 = .ok (.istore_n 3, 1) := fo_62 (fd_n 19 sr_X4_swap_4 rfl)
theorem dX4_swap_133 : decode cX4_swap 133 = .ok (.iinc 4 1, 3) := fo_132 (fd_n 20 sr_X4_swap_4 rfl) rfl (by decide +kernel)
theorem dX4_swap_136 : decode cX4_swap 136 = .ok (.goto (-29), 3) := fo_167 (fd_n 23 sr_X4_swap_4 rfl) (by decide +kernel)
theorem dX4_swap_139 : decode cX4_swap 139 = .ok (.iload_n 3, 1) := fo_29 (fd_n 26 sr_X4_swap_4 rfl)
theorem dX4_swap_140 : decode cX4_swap 140 = .ok (.ireturn, 1) := fo_172 (fd_n 27 sr_X4_swap_4 rfl)
noncomputable def sl_X4_spill_3 : List UInt8 := 21 :: 5 :: 79 :: 132 :: 3 :: 1 :: 167 :: 255 :: 200 :: 42 :: 180 :: 0 :: 25 :: 42 :: 180 :: 0 :: 10 :: 42 :: 180 :: 0 :: 50 :: 182 :: 0 :: 149 :: 172 :: []
noncomputable def sl_X4_spill_2 : List UInt8 := 54 :: 4 :: 42 :: 180 :: 0 :: 10 :: 182 :: 0 :: 198 :: 7 :: 112 :: 54 :: 5 :: 21 :: 4 :: 155 :: 0 :: 17 :: 42 :: 180 :: 0 :: 10 :: 180 :: 0 :: 84 :: 6 :: 50 :: 21 :: 4 :: sl_X4_spill_3
noncomputable def sl_X4_spill_1 : List UInt8 := 42 :: 7 :: 182 :: 0 :: 64 :: 172 :: 3 :: 62 :: 29 :: 27 :: 162 :: 0 :: 57 :: 42 :: 180 :: 0 :: 10 :: 42 :: 180 :: 0 :: 10 :: 182 :: 0 :: 198 :: 28 :: 112 :: 182 :: 0 :: 201 :: sl_X4_spill_2
noncomputable def sl_X4_spill_0 : List UInt8 := 27 :: 4 :: 161 :: 0 :: 9 :: 27 :: 16 :: 12 :: 164 :: 0 :: 9 :: 42 :: 3 :: 182 :: 0 :: 64 :: 172 :: 42 :: 180 :: 0 :: 10 :: 182 :: 0 :: 76 :: 61 :: 28 :: 154 :: 0 :: 9 :: sl_X4_spill_1
theorem sr_X4_spill_0 : fd_at cX4_spill 0 sl_X4_spill_0 := fd_base (by decide +kernel)
theorem sr_X4_spill_1 : fd_at cX4_spill 29 sl_X4_spill_1 := fd_n 29 sr_X4_spill_0 rfl
theorem sr_X4_spill_2 : fd_at cX4_spill 58 sl_X4_spill_2 := fd_n 29 sr_X4_spill_1 rfl
theorem sr_X4_spill_3 : fd_at cX4_spill 87 sl_X4_spill_3 := fd_n 29 sr_X4_spill_2 rfl
theorem dX4_spill_0 : decode cX4_spill 0 = .ok (.iload_n 1, 1) := fo_27 sr_X4_spill_0
theorem dX4_spill_1 : decode cX4_spill 1 = .ok (.iconst 1, 1) := fo_4 (fd_n 1 sr_X4_spill_0 rfl)
theorem dX4_spill_2 : decode cX4_spill 2 = .ok (.if_icmp .lt 9, 3) := fo_161 (fd_n 2 sr_X4_spill_0 rfl) (by decide +kernel)
theorem dX4_spill_5 : decode cX4_spill 5 = .ok (.iload_n 1, 1) := fo_27 (fd_n 5 sr_X4_spill_0 rfl)
theorem dX4_spill_6 : decode cX4_spill 6 = .ok (.bipush 12, 2) := fo_16 (fd_n 6 sr_X4_spill_0 rfl) (by decide +kernel)
theorem dX4_spill_8 : decode cX4_spill 8 = .ok (.if_icmp .le 9, 3) := fo_164 (fd_n 8 sr_X4_spill_0 rfl) (by decide +kernel)
theorem dX4_spill_11 : decode cX4_spill 11 = .ok (.aload_n 0, 1) := fo_42 (fd_n 11 sr_X4_spill_0 rfl)
theorem dX4_spill_12 : decode cX4_spill 12 = .ok (.iconst 0, 1) := fo_3 (fd_n 12 sr_X4_spill_0 rfl)
theorem dX4_spill_13 : decode cX4_spill 13 = .ok (.invokevirtual 64, 3) := fo_182 (fd_n 13 sr_X4_spill_0 rfl) rfl
theorem dX4_spill_16 : decode cX4_spill 16 = .ok (.ireturn, 1) := fo_172 (fd_n 16 sr_X4_spill_0 rfl)
theorem dX4_spill_17 : decode cX4_spill 17 = .ok (.aload_n 0, 1) := fo_42 (fd_n 17 sr_X4_spill_0 rfl)
theorem dX4_spill_18 : decode cX4_spill 18 = .ok (.getfield 10, 3) := fo_180 (fd_n 18 sr_X4_spill_0 rfl) rfl
theorem dX4_spill_21 : decode cX4_spill 21 = .ok (.invokevirtual 76, 3) := fo_182 (fd_n 21 sr_X4_spill_0 rfl) rfl
theorem dX4_spill_24 : decode cX4_spill 24 = .ok (.istore_n 2, 1) := fo_61 (fd_n 24 sr_X4_spill_0 rfl)
theorem dX4_spill_25 : decode cX4_spill 25 = .ok (.iload_n 2, 1) := fo_28 (fd_n 25 sr_X4_spill_0 rfl)
theorem dX4_spill_26 : decode cX4_spill 26 = .ok (.ifCond .ne 9, 3) := fo_154 (fd_n 26 sr_X4_spill_0 rfl) (by decide +kernel)
theorem dX4_spill_29 : decode cX4_spill 29 = .ok (.aload_n 0, 1) := fo_42 sr_X4_spill_1
theorem dX4_spill_30 : decode cX4_spill 30 = .ok (.iconst 4, 1) := fo_7 (fd_n 1 sr_X4_spill_1 rfl)
theorem dX4_spill_31 : decode cX4_spill 31 = .ok (.invokevirtual 64, 3) := fo_182 (fd_n 2 sr_X4_spill_1 rfl) rfl
theorem dX4_spill_34 : decode cX4_spill 34 = .ok (.ireturn, 1) := fo_172 (fd_n 5 sr_X4_spill_1 rfl)
theorem dX4_spill_35 : decode cX4_spill 35 = .ok (.iconst 0, 1) := fo_3 (fd_n 6 sr_X4_spill_1 rfl)
theorem dX4_spill_36 : decode cX4_spill 36 = .ok (.istore_n 3, 1) := fo_62 (fd_n 7 sr_X4_spill_1 rfl)
theorem dX4_spill_37 : decode cX4_spill 37 = .ok (.iload_n 3, 1) := fo_29 (fd_n 8 sr_X4_spill_1 rfl)
theorem dX4_spill_38 : decode cX4_spill 38 = .ok (.iload_n 1, 1) := fo_27 (fd_n 9 sr_X4_spill_1 rfl)
theorem dX4_spill_39 : decode cX4_spill 39 = .ok (.if_icmp .ge 57, 3) := fo_162 (fd_n 10 sr_X4_spill_1 rfl) (by decide +kernel)
theorem dX4_spill_42 : decode cX4_spill 42 = .ok (.aload_n 0, 1) := fo_42 (fd_n 13 sr_X4_spill_1 rfl)
theorem dX4_spill_43 : decode cX4_spill 43 = .ok (.getfield 10, 3) := fo_180 (fd_n 14 sr_X4_spill_1 rfl) rfl
theorem dX4_spill_46 : decode cX4_spill 46 = .ok (.aload_n 0, 1) := fo_42 (fd_n 17 sr_X4_spill_1 rfl)
theorem dX4_spill_47 : decode cX4_spill 47 = .ok (.getfield 10, 3) := fo_180 (fd_n 18 sr_X4_spill_1 rfl) rfl
theorem dX4_spill_50 : decode cX4_spill 50 = .ok (.invokevirtual 198, 3) := fo_182 (fd_n 21 sr_X4_spill_1 rfl) rfl
theorem dX4_spill_53 : decode cX4_spill 53 = .ok (.iload_n 2, 1) := fo_28 (fd_n 24 sr_X4_spill_1 rfl)
theorem dX4_spill_54 : decode cX4_spill 54 = .ok (.irem, 1) := fo_112 (fd_n 25 sr_X4_spill_1 rfl)
theorem dX4_spill_55 : decode cX4_spill 55 = .ok (.invokevirtual 201, 3) := fo_182 (fd_n 26 sr_X4_spill_1 rfl) rfl
theorem dX4_spill_58 : decode cX4_spill 58 = .ok (.istore 4, 2) := fo_54 sr_X4_spill_2 rfl
theorem dX4_spill_60 : decode cX4_spill 60 = .ok (.aload_n 0, 1) := fo_42 (fd_n 2 sr_X4_spill_2 rfl)
theorem dX4_spill_61 : decode cX4_spill 61 = .ok (.getfield 10, 3) := fo_180 (fd_n 3 sr_X4_spill_2 rfl) rfl
theorem dX4_spill_64 : decode cX4_spill 64 = .ok (.invokevirtual 198, 3) := fo_182 (fd_n 6 sr_X4_spill_2 rfl) rfl
theorem dX4_spill_67 : decode cX4_spill 67 = .ok (.iconst 4, 1) := fo_7 (fd_n 9 sr_X4_spill_2 rfl)
theorem dX4_spill_68 : decode cX4_spill 68 = .ok (.irem, 1) := fo_112 (fd_n 10 sr_X4_spill_2 rfl)
theorem dX4_spill_69 : decode cX4_spill 69 = .ok (.istore 5, 2) := fo_54 (fd_n 11 sr_X4_spill_2 rfl) rfl
theorem dX4_spill_71 : decode cX4_spill 71 = .ok (.iload 4, 2) := fo_21 (fd_n 13 sr_X4_spill_2 rfl) rfl
theorem dX4_spill_73 : decode cX4_spill 73 = .ok (.ifCond .lt 17, 3) := fo_155 (fd_n 15 sr_X4_spill_2 rfl) (by decide +kernel)
theorem dX4_spill_76 : decode cX4_spill 76 = .ok (.aload_n 0, 1) := fo_42 (fd_n 18 sr_X4_spill_2 rfl)
theorem dX4_spill_77 : decode cX4_spill 77 = .ok (.getfield 10, 3) := fo_180 (fd_n 19 sr_X4_spill_2 rfl) rfl
theorem dX4_spill_80 : decode cX4_spill 80 = .ok (.getfield 84, 3) := fo_180 (fd_n 22 sr_X4_spill_2 rfl) rfl
theorem dX4_spill_83 : decode cX4_spill 83 = .ok (.iconst 3, 1) := fo_6 (fd_n 25 sr_X4_spill_2 rfl)
theorem dX4_spill_84 : decode cX4_spill 84 = .ok (.aaload, 1) := fo_50 (fd_n 26 sr_X4_spill_2 rfl)
theorem dX4_spill_85 : decode cX4_spill 85 = .ok (.iload 4, 2) := fo_21 (fd_n 27 sr_X4_spill_2 rfl) rfl
theorem dX4_spill_87 : decode cX4_spill 87 = .ok (.iload 5, 2) := fo_21 sr_X4_spill_3 rfl
theorem dX4_spill_89 : decode cX4_spill 89 = .ok (.iastore, 1) := fo_79 (fd_n 2 sr_X4_spill_3 rfl)
theorem dX4_spill_90 : decode cX4_spill 90 = .ok (.iinc 3 1, 3) := fo_132 (fd_n 3 sr_X4_spill_3 rfl) rfl (by decide +kernel)
theorem dX4_spill_93 : decode cX4_spill 93 = .ok (.goto (-56), 3) := fo_167 (fd_n 6 sr_X4_spill_3 rfl) (by decide +kernel)
theorem dX4_spill_96 : decode cX4_spill 96 = .ok (.aload_n 0, 1) := fo_42 (fd_n 9 sr_X4_spill_3 rfl)
theorem dX4_spill_97 : decode cX4_spill 97 = .ok (.getfield 25, 3) := fo_180 (fd_n 10 sr_X4_spill_3 rfl) rfl
theorem dX4_spill_100 : decode cX4_spill 100 = .ok (.aload_n 0, 1) := fo_42 (fd_n 13 sr_X4_spill_3 rfl)
theorem dX4_spill_101 : decode cX4_spill 101 = .ok (.getfield 10, 3) := fo_180 (fd_n 14 sr_X4_spill_3 rfl) rfl
theorem dX4_spill_104 : decode cX4_spill 104 = .ok (.aload_n 0, 1) := fo_42 (fd_n 17 sr_X4_spill_3 rfl)
theorem dX4_spill_105 : decode cX4_spill 105 = .ok (.getfield 50, 3) := fo_180 (fd_n 18 sr_X4_spill_3 rfl) rfl
theorem dX4_spill_108 : decode cX4_spill 108 = .ok (.invokevirtual 149, 3) := fo_182 (fd_n 21 sr_X4_spill_3 rfl) rfl
theorem dX4_spill_111 : decode cX4_spill 111 = .ok (.ireturn, 1) := fo_172 (fd_n 24 sr_X4_spill_3 rfl)
noncomputable def sl_X4_seed_0 : List UInt8 := 42 :: 180 :: 0 :: 10 :: 180 :: 0 :: 204 :: 61 :: 42 :: 180 :: 0 :: 10 :: 27 :: 181 :: 0 :: 204 :: 28 :: 172 :: []
theorem sr_X4_seed_0 : fd_at cX4_seed 0 sl_X4_seed_0 := fd_base (by decide +kernel)
theorem dX4_seed_0 : decode cX4_seed 0 = .ok (.aload_n 0, 1) := fo_42 sr_X4_seed_0
theorem dX4_seed_1 : decode cX4_seed 1 = .ok (.getfield 10, 3) := fo_180 (fd_n 1 sr_X4_seed_0 rfl) rfl
theorem dX4_seed_4 : decode cX4_seed 4 = .ok (.getfield 204, 3) := fo_180 (fd_n 4 sr_X4_seed_0 rfl) rfl
theorem dX4_seed_7 : decode cX4_seed 7 = .ok (.istore_n 2, 1) := fo_61 (fd_n 7 sr_X4_seed_0 rfl)
theorem dX4_seed_8 : decode cX4_seed 8 = .ok (.aload_n 0, 1) := fo_42 (fd_n 8 sr_X4_seed_0 rfl)
theorem dX4_seed_9 : decode cX4_seed 9 = .ok (.getfield 10, 3) := fo_180 (fd_n 9 sr_X4_seed_0 rfl) rfl
theorem dX4_seed_12 : decode cX4_seed 12 = .ok (.iload_n 1, 1) := fo_27 (fd_n 12 sr_X4_seed_0 rfl)
theorem dX4_seed_13 : decode cX4_seed 13 = .ok (.putfield 204, 3) := fo_181 (fd_n 13 sr_X4_seed_0 rfl) rfl
theorem dX4_seed_16 : decode cX4_seed 16 = .ok (.iload_n 2, 1) := fo_28 (fd_n 16 sr_X4_seed_0 rfl)
theorem dX4_seed_17 : decode cX4_seed 17 = .ok (.ireturn, 1) := fo_172 (fd_n 17 sr_X4_seed_0 rfl)
noncomputable def sl_X4_feed_2 : List UInt8 := 182 :: 0 :: 210 :: 132 :: 3 :: 255 :: 167 :: 255 :: 232 :: 42 :: 180 :: 0 :: 32 :: 180 :: 0 :: 207 :: 172 :: []
noncomputable def sl_X4_feed_1 : List UInt8 := 42 :: 4 :: 182 :: 0 :: 64 :: 172 :: 28 :: 4 :: 100 :: 62 :: 29 :: 155 :: 0 :: 26 :: 42 :: 180 :: 0 :: 32 :: 27 :: 16 :: 8 :: 29 :: 104 :: 124 :: 17 :: 0 :: 255 :: 126 :: sl_X4_feed_2
noncomputable def sl_X4_feed_0 : List UInt8 := 28 :: 4 :: 161 :: 0 :: 8 :: 28 :: 7 :: 164 :: 0 :: 9 :: 42 :: 3 :: 182 :: 0 :: 64 :: 172 :: 42 :: 180 :: 0 :: 32 :: 180 :: 0 :: 207 :: 28 :: 96 :: 16 :: 120 :: 164 :: 0 :: 9 :: sl_X4_feed_1
theorem sr_X4_feed_0 : fd_at cX4_feed 0 sl_X4_feed_0 := fd_base (by decide +kernel)
theorem sr_X4_feed_1 : fd_at cX4_feed 30 sl_X4_feed_1 := fd_n 30 sr_X4_feed_0 rfl
theorem sr_X4_feed_2 : fd_at cX4_feed 58 sl_X4_feed_2 := fd_n 28 sr_X4_feed_1 rfl
theorem dX4_feed_0 : decode cX4_feed 0 = .ok (.iload_n 2, 1) := fo_28 sr_X4_feed_0
theorem dX4_feed_1 : decode cX4_feed 1 = .ok (.iconst 1, 1) := fo_4 (fd_n 1 sr_X4_feed_0 rfl)
theorem dX4_feed_2 : decode cX4_feed 2 = .ok (.if_icmp .lt 8, 3) := fo_161 (fd_n 2 sr_X4_feed_0 rfl) (by decide +kernel)
theorem dX4_feed_5 : decode cX4_feed 5 = .ok (.iload_n 2, 1) := fo_28 (fd_n 5 sr_X4_feed_0 rfl)
theorem dX4_feed_6 : decode cX4_feed 6 = .ok (.iconst 4, 1) := fo_7 (fd_n 6 sr_X4_feed_0 rfl)
theorem dX4_feed_7 : decode cX4_feed 7 = .ok (.if_icmp .le 9, 3) := fo_164 (fd_n 7 sr_X4_feed_0 rfl) (by decide +kernel)
theorem dX4_feed_10 : decode cX4_feed 10 = .ok (.aload_n 0, 1) := fo_42 (fd_n 10 sr_X4_feed_0 rfl)
theorem dX4_feed_11 : decode cX4_feed 11 = .ok (.iconst 0, 1) := fo_3 (fd_n 11 sr_X4_feed_0 rfl)
theorem dX4_feed_12 : decode cX4_feed 12 = .ok (.invokevirtual 64, 3) := fo_182 (fd_n 12 sr_X4_feed_0 rfl) rfl
theorem dX4_feed_15 : decode cX4_feed 15 = .ok (.ireturn, 1) := fo_172 (fd_n 15 sr_X4_feed_0 rfl)
theorem dX4_feed_16 : decode cX4_feed 16 = .ok (.aload_n 0, 1) := fo_42 (fd_n 16 sr_X4_feed_0 rfl)
theorem dX4_feed_17 : decode cX4_feed 17 = .ok (.getfield 32, 3) := fo_180 (fd_n 17 sr_X4_feed_0 rfl) rfl
theorem dX4_feed_20 : decode cX4_feed 20 = .ok (.getfield 207, 3) := fo_180 (fd_n 20 sr_X4_feed_0 rfl) rfl
theorem dX4_feed_23 : decode cX4_feed 23 = .ok (.iload_n 2, 1) := fo_28 (fd_n 23 sr_X4_feed_0 rfl)
theorem dX4_feed_24 : decode cX4_feed 24 = .ok (.iadd, 1) := fo_96 (fd_n 24 sr_X4_feed_0 rfl)
theorem dX4_feed_25 : decode cX4_feed 25 = .ok (.bipush 120, 2) := fo_16 (fd_n 25 sr_X4_feed_0 rfl) (by decide +kernel)
theorem dX4_feed_27 : decode cX4_feed 27 = .ok (.if_icmp .le 9, 3) := fo_164 (fd_n 27 sr_X4_feed_0 rfl) (by decide +kernel)
theorem dX4_feed_30 : decode cX4_feed 30 = .ok (.aload_n 0, 1) := fo_42 sr_X4_feed_1
theorem dX4_feed_31 : decode cX4_feed 31 = .ok (.iconst 1, 1) := fo_4 (fd_n 1 sr_X4_feed_1 rfl)
theorem dX4_feed_32 : decode cX4_feed 32 = .ok (.invokevirtual 64, 3) := fo_182 (fd_n 2 sr_X4_feed_1 rfl) rfl
theorem dX4_feed_35 : decode cX4_feed 35 = .ok (.ireturn, 1) := fo_172 (fd_n 5 sr_X4_feed_1 rfl)
theorem dX4_feed_36 : decode cX4_feed 36 = .ok (.iload_n 2, 1) := fo_28 (fd_n 6 sr_X4_feed_1 rfl)
theorem dX4_feed_37 : decode cX4_feed 37 = .ok (.iconst 1, 1) := fo_4 (fd_n 7 sr_X4_feed_1 rfl)
theorem dX4_feed_38 : decode cX4_feed 38 = .ok (.isub, 1) := fo_100 (fd_n 8 sr_X4_feed_1 rfl)
theorem dX4_feed_39 : decode cX4_feed 39 = .ok (.istore_n 3, 1) := fo_62 (fd_n 9 sr_X4_feed_1 rfl)
theorem dX4_feed_40 : decode cX4_feed 40 = .ok (.iload_n 3, 1) := fo_29 (fd_n 10 sr_X4_feed_1 rfl)
theorem dX4_feed_41 : decode cX4_feed 41 = .ok (.ifCond .lt 26, 3) := fo_155 (fd_n 11 sr_X4_feed_1 rfl) (by decide +kernel)
theorem dX4_feed_44 : decode cX4_feed 44 = .ok (.aload_n 0, 1) := fo_42 (fd_n 14 sr_X4_feed_1 rfl)
theorem dX4_feed_45 : decode cX4_feed 45 = .ok (.getfield 32, 3) := fo_180 (fd_n 15 sr_X4_feed_1 rfl) rfl
theorem dX4_feed_48 : decode cX4_feed 48 = .ok (.iload_n 1, 1) := fo_27 (fd_n 18 sr_X4_feed_1 rfl)
theorem dX4_feed_49 : decode cX4_feed 49 = .ok (.bipush 8, 2) := fo_16 (fd_n 19 sr_X4_feed_1 rfl) (by decide +kernel)
theorem dX4_feed_51 : decode cX4_feed 51 = .ok (.iload_n 3, 1) := fo_29 (fd_n 21 sr_X4_feed_1 rfl)
theorem dX4_feed_52 : decode cX4_feed 52 = .ok (.imul, 1) := fo_104 (fd_n 22 sr_X4_feed_1 rfl)
theorem dX4_feed_53 : decode cX4_feed 53 = .ok (.iushr, 1) := fo_124 (fd_n 23 sr_X4_feed_1 rfl)
theorem dX4_feed_54 : decode cX4_feed 54 = .ok (.sipush 255, 3) := fo_17 (fd_n 24 sr_X4_feed_1 rfl) (by decide +kernel)
theorem dX4_feed_57 : decode cX4_feed 57 = .ok (.iand, 1) := fo_126 (fd_n 27 sr_X4_feed_1 rfl)
theorem dX4_feed_58 : decode cX4_feed 58 = .ok (.invokevirtual 210, 3) := fo_182 sr_X4_feed_2 rfl
theorem dX4_feed_61 : decode cX4_feed 61 = .ok (.iinc 3 (-1), 3) := fo_132 (fd_n 3 sr_X4_feed_2 rfl) rfl (by decide +kernel)
theorem dX4_feed_64 : decode cX4_feed 64 = .ok (.goto (-24), 3) := fo_167 (fd_n 6 sr_X4_feed_2 rfl) (by decide +kernel)
theorem dX4_feed_67 : decode cX4_feed 67 = .ok (.aload_n 0, 1) := fo_42 (fd_n 9 sr_X4_feed_2 rfl)
theorem dX4_feed_68 : decode cX4_feed 68 = .ok (.getfield 32, 3) := fo_180 (fd_n 10 sr_X4_feed_2 rfl) rfl
theorem dX4_feed_71 : decode cX4_feed 71 = .ok (.getfield 207, 3) := fo_180 (fd_n 13 sr_X4_feed_2 rfl) rfl
theorem dX4_feed_74 : decode cX4_feed 74 = .ok (.ireturn, 1) := fo_172 (fd_n 16 sr_X4_feed_2 rfl)
noncomputable def sl_X4_wipe_0 : List UInt8 := 42 :: 180 :: 0 :: 32 :: 180 :: 0 :: 207 :: 60 :: 42 :: 180 :: 0 :: 32 :: 3 :: 181 :: 0 :: 207 :: 27 :: 172 :: []
theorem sr_X4_wipe_0 : fd_at cX4_wipe 0 sl_X4_wipe_0 := fd_base (by decide +kernel)
theorem dX4_wipe_0 : decode cX4_wipe 0 = .ok (.aload_n 0, 1) := fo_42 sr_X4_wipe_0
theorem dX4_wipe_1 : decode cX4_wipe 1 = .ok (.getfield 32, 3) := fo_180 (fd_n 1 sr_X4_wipe_0 rfl) rfl
theorem dX4_wipe_4 : decode cX4_wipe 4 = .ok (.getfield 207, 3) := fo_180 (fd_n 4 sr_X4_wipe_0 rfl) rfl
theorem dX4_wipe_7 : decode cX4_wipe 7 = .ok (.istore_n 1, 1) := fo_60 (fd_n 7 sr_X4_wipe_0 rfl)
theorem dX4_wipe_8 : decode cX4_wipe 8 = .ok (.aload_n 0, 1) := fo_42 (fd_n 8 sr_X4_wipe_0 rfl)
theorem dX4_wipe_9 : decode cX4_wipe 9 = .ok (.getfield 32, 3) := fo_180 (fd_n 9 sr_X4_wipe_0 rfl) rfl
theorem dX4_wipe_12 : decode cX4_wipe 12 = .ok (.iconst 0, 1) := fo_3 (fd_n 12 sr_X4_wipe_0 rfl)
theorem dX4_wipe_13 : decode cX4_wipe 13 = .ok (.putfield 207, 3) := fo_181 (fd_n 13 sr_X4_wipe_0 rfl) rfl
theorem dX4_wipe_16 : decode cX4_wipe 16 = .ok (.iload_n 1, 1) := fo_27 (fd_n 16 sr_X4_wipe_0 rfl)
theorem dX4_wipe_17 : decode cX4_wipe 17 = .ok (.ireturn, 1) := fo_172 (fd_n 17 sr_X4_wipe_0 rfl)
noncomputable def sl_X4_text_2 : List UInt8 := 180 :: 0 :: 19 :: 182 :: 0 :: 163 :: 27 :: 172 :: []
noncomputable def sl_X4_text_1 : List UInt8 := 181 :: 0 :: 207 :: 42 :: 180 :: 0 :: 32 :: 180 :: 0 :: 216 :: 155 :: 0 :: 13 :: 2 :: 42 :: 180 :: 0 :: 32 :: 180 :: 0 :: 216 :: 100 :: 172 :: 42 :: 180 :: 0 :: 10 :: 42 :: sl_X4_text_2
noncomputable def sl_X4_text_0 : List UInt8 := 42 :: 180 :: 0 :: 19 :: 42 :: 180 :: 0 :: 10 :: 182 :: 0 :: 163 :: 42 :: 180 :: 0 :: 32 :: 42 :: 180 :: 0 :: 19 :: 182 :: 0 :: 213 :: 60 :: 42 :: 180 :: 0 :: 32 :: 3 :: sl_X4_text_1
theorem sr_X4_text_0 : fd_at cX4_text 0 sl_X4_text_0 := fd_base (by decide +kernel)
theorem sr_X4_text_1 : fd_at cX4_text 28 sl_X4_text_1 := fd_n 28 sr_X4_text_0 rfl
theorem sr_X4_text_2 : fd_at cX4_text 56 sl_X4_text_2 := fd_n 28 sr_X4_text_1 rfl
theorem dX4_text_0 : decode cX4_text 0 = .ok (.aload_n 0, 1) := fo_42 sr_X4_text_0
theorem dX4_text_1 : decode cX4_text 1 = .ok (.getfield 19, 3) := fo_180 (fd_n 1 sr_X4_text_0 rfl) rfl
theorem dX4_text_4 : decode cX4_text 4 = .ok (.aload_n 0, 1) := fo_42 (fd_n 4 sr_X4_text_0 rfl)
theorem dX4_text_5 : decode cX4_text 5 = .ok (.getfield 10, 3) := fo_180 (fd_n 5 sr_X4_text_0 rfl) rfl
theorem dX4_text_8 : decode cX4_text 8 = .ok (.invokevirtual 163, 3) := fo_182 (fd_n 8 sr_X4_text_0 rfl) rfl
theorem dX4_text_11 : decode cX4_text 11 = .ok (.aload_n 0, 1) := fo_42 (fd_n 11 sr_X4_text_0 rfl)
theorem dX4_text_12 : decode cX4_text 12 = .ok (.getfield 32, 3) := fo_180 (fd_n 12 sr_X4_text_0 rfl) rfl
theorem dX4_text_15 : decode cX4_text 15 = .ok (.aload_n 0, 1) := fo_42 (fd_n 15 sr_X4_text_0 rfl)
theorem dX4_text_16 : decode cX4_text 16 = .ok (.getfield 19, 3) := fo_180 (fd_n 16 sr_X4_text_0 rfl) rfl
theorem dX4_text_19 : decode cX4_text 19 = .ok (.invokevirtual 213, 3) := fo_182 (fd_n 19 sr_X4_text_0 rfl) rfl
theorem dX4_text_22 : decode cX4_text 22 = .ok (.istore_n 1, 1) := fo_60 (fd_n 22 sr_X4_text_0 rfl)
theorem dX4_text_23 : decode cX4_text 23 = .ok (.aload_n 0, 1) := fo_42 (fd_n 23 sr_X4_text_0 rfl)
theorem dX4_text_24 : decode cX4_text 24 = .ok (.getfield 32, 3) := fo_180 (fd_n 24 sr_X4_text_0 rfl) rfl
theorem dX4_text_27 : decode cX4_text 27 = .ok (.iconst 0, 1) := fo_3 (fd_n 27 sr_X4_text_0 rfl)
theorem dX4_text_28 : decode cX4_text 28 = .ok (.putfield 207, 3) := fo_181 sr_X4_text_1 rfl
theorem dX4_text_31 : decode cX4_text 31 = .ok (.aload_n 0, 1) := fo_42 (fd_n 3 sr_X4_text_1 rfl)
theorem dX4_text_32 : decode cX4_text 32 = .ok (.getfield 32, 3) := fo_180 (fd_n 4 sr_X4_text_1 rfl) rfl
theorem dX4_text_35 : decode cX4_text 35 = .ok (.getfield 216, 3) := fo_180 (fd_n 7 sr_X4_text_1 rfl) rfl
theorem dX4_text_38 : decode cX4_text 38 = .ok (.ifCond .lt 13, 3) := fo_155 (fd_n 10 sr_X4_text_1 rfl) (by decide +kernel)
theorem dX4_text_41 : decode cX4_text 41 = .ok (.iconst (-1), 1) := fo_2 (fd_n 13 sr_X4_text_1 rfl)
theorem dX4_text_42 : decode cX4_text 42 = .ok (.aload_n 0, 1) := fo_42 (fd_n 14 sr_X4_text_1 rfl)
theorem dX4_text_43 : decode cX4_text 43 = .ok (.getfield 32, 3) := fo_180 (fd_n 15 sr_X4_text_1 rfl) rfl
theorem dX4_text_46 : decode cX4_text 46 = .ok (.getfield 216, 3) := fo_180 (fd_n 18 sr_X4_text_1 rfl) rfl
theorem dX4_text_49 : decode cX4_text 49 = .ok (.isub, 1) := fo_100 (fd_n 21 sr_X4_text_1 rfl)
theorem dX4_text_50 : decode cX4_text 50 = .ok (.ireturn, 1) := fo_172 (fd_n 22 sr_X4_text_1 rfl)
theorem dX4_text_51 : decode cX4_text 51 = .ok (.aload_n 0, 1) := fo_42 (fd_n 23 sr_X4_text_1 rfl)
theorem dX4_text_52 : decode cX4_text 52 = .ok (.getfield 10, 3) := fo_180 (fd_n 24 sr_X4_text_1 rfl) rfl
theorem dX4_text_55 : decode cX4_text 55 = .ok (.aload_n 0, 1) := fo_42 (fd_n 27 sr_X4_text_1 rfl)
theorem dX4_text_56 : decode cX4_text 56 = .ok (.getfield 19, 3) := fo_180 sr_X4_text_2 rfl
theorem dX4_text_59 : decode cX4_text 59 = .ok (.invokevirtual 163, 3) := fo_182 (fd_n 3 sr_X4_text_2 rfl) rfl
theorem dX4_text_62 : decode cX4_text 62 = .ok (.iload_n 1, 1) := fo_27 (fd_n 6 sr_X4_text_2 rfl)
theorem dX4_text_63 : decode cX4_text 63 = .ok (.ireturn, 1) := fo_172 (fd_n 7 sr_X4_text_2 rfl)
noncomputable def sl_X4_hold_1 : List UInt8 := 180 :: 0 :: 219 :: 27 :: 28 :: 79 :: 4 :: 172 :: []
noncomputable def sl_X4_hold_0 : List UInt8 := 27 :: 16 :: 10 :: 184 :: 0 :: 60 :: 153 :: 0 :: 14 :: 28 :: 2 :: 161 :: 0 :: 9 :: 28 :: 16 :: 25 :: 161 :: 0 :: 9 :: 42 :: 3 :: 182 :: 0 :: 64 :: 172 :: 42 :: 180 :: 0 :: 10 :: sl_X4_hold_1
theorem sr_X4_hold_0 : fd_at cX4_hold 0 sl_X4_hold_0 := fd_base (by decide +kernel)
theorem sr_X4_hold_1 : fd_at cX4_hold 30 sl_X4_hold_1 := fd_n 30 sr_X4_hold_0 rfl
theorem dX4_hold_0 : decode cX4_hold 0 = .ok (.iload_n 1, 1) := fo_27 sr_X4_hold_0
theorem dX4_hold_1 : decode cX4_hold 1 = .ok (.bipush 10, 2) := fo_16 (fd_n 1 sr_X4_hold_0 rfl) (by decide +kernel)
theorem dX4_hold_3 : decode cX4_hold 3 = .ok (.invokestatic 60, 3) := fo_184 (fd_n 3 sr_X4_hold_0 rfl) rfl
theorem dX4_hold_6 : decode cX4_hold 6 = .ok (.ifCond .eq 14, 3) := fo_153 (fd_n 6 sr_X4_hold_0 rfl) (by decide +kernel)
theorem dX4_hold_9 : decode cX4_hold 9 = .ok (.iload_n 2, 1) := fo_28 (fd_n 9 sr_X4_hold_0 rfl)
theorem dX4_hold_10 : decode cX4_hold 10 = .ok (.iconst (-1), 1) := fo_2 (fd_n 10 sr_X4_hold_0 rfl)
theorem dX4_hold_11 : decode cX4_hold 11 = .ok (.if_icmp .lt 9, 3) := fo_161 (fd_n 11 sr_X4_hold_0 rfl) (by decide +kernel)
theorem dX4_hold_14 : decode cX4_hold 14 = .ok (.iload_n 2, 1) := fo_28 (fd_n 14 sr_X4_hold_0 rfl)
theorem dX4_hold_15 : decode cX4_hold 15 = .ok (.bipush 25, 2) := fo_16 (fd_n 15 sr_X4_hold_0 rfl) (by decide +kernel)
theorem dX4_hold_17 : decode cX4_hold 17 = .ok (.if_icmp .lt 9, 3) := fo_161 (fd_n 17 sr_X4_hold_0 rfl) (by decide +kernel)
theorem dX4_hold_20 : decode cX4_hold 20 = .ok (.aload_n 0, 1) := fo_42 (fd_n 20 sr_X4_hold_0 rfl)
theorem dX4_hold_21 : decode cX4_hold 21 = .ok (.iconst 0, 1) := fo_3 (fd_n 21 sr_X4_hold_0 rfl)
theorem dX4_hold_22 : decode cX4_hold 22 = .ok (.invokevirtual 64, 3) := fo_182 (fd_n 22 sr_X4_hold_0 rfl) rfl
theorem dX4_hold_25 : decode cX4_hold 25 = .ok (.ireturn, 1) := fo_172 (fd_n 25 sr_X4_hold_0 rfl)
theorem dX4_hold_26 : decode cX4_hold 26 = .ok (.aload_n 0, 1) := fo_42 (fd_n 26 sr_X4_hold_0 rfl)
theorem dX4_hold_27 : decode cX4_hold 27 = .ok (.getfield 10, 3) := fo_180 (fd_n 27 sr_X4_hold_0 rfl) rfl
theorem dX4_hold_30 : decode cX4_hold 30 = .ok (.getfield 219, 3) := fo_180 sr_X4_hold_1 rfl
theorem dX4_hold_33 : decode cX4_hold 33 = .ok (.iload_n 1, 1) := fo_27 (fd_n 3 sr_X4_hold_1 rfl)
theorem dX4_hold_34 : decode cX4_hold 34 = .ok (.iload_n 2, 1) := fo_28 (fd_n 4 sr_X4_hold_1 rfl)
theorem dX4_hold_35 : decode cX4_hold 35 = .ok (.iastore, 1) := fo_79 (fd_n 5 sr_X4_hold_1 rfl)
theorem dX4_hold_36 : decode cX4_hold 36 = .ok (.iconst 1, 1) := fo_4 (fd_n 6 sr_X4_hold_1 rfl)
theorem dX4_hold_37 : decode cX4_hold 37 = .ok (.ireturn, 1) := fo_172 (fd_n 7 sr_X4_hold_1 rfl)
noncomputable def sl_X4_as_2 : List UInt8 := 180 :: 0 :: 10 :: 180 :: 0 :: 84 :: 3 :: 50 :: 29 :: 46 :: 28 :: 184 :: 0 :: 222 :: 153 :: 0 :: 7 :: 29 :: 167 :: 0 :: 8 :: 42 :: 5 :: 182 :: 0 :: 64 :: 172 :: []
noncomputable def sl_X4_as_1 : List UInt8 := 180 :: 0 :: 219 :: 27 :: 46 :: 62 :: 29 :: 155 :: 0 :: 14 :: 42 :: 180 :: 0 :: 10 :: 29 :: 182 :: 0 :: 68 :: 154 :: 0 :: 9 :: 42 :: 8 :: 182 :: 0 :: 64 :: 172 :: 42 :: sl_X4_as_2
noncomputable def sl_X4_as_0 : List UInt8 := 27 :: 16 :: 10 :: 184 :: 0 :: 60 :: 153 :: 0 :: 12 :: 28 :: 16 :: 7 :: 184 :: 0 :: 60 :: 154 :: 0 :: 9 :: 42 :: 3 :: 182 :: 0 :: 64 :: 172 :: 42 :: 180 :: 0 :: 10 :: sl_X4_as_1
theorem sr_X4_as_0 : fd_at cX4_as 0 sl_X4_as_0 := fd_base (by decide +kernel)
theorem sr_X4_as_1 : fd_at cX4_as 28 sl_X4_as_1 := fd_n 28 sr_X4_as_0 rfl
theorem sr_X4_as_2 : fd_at cX4_as 56 sl_X4_as_2 := fd_n 28 sr_X4_as_1 rfl
theorem dX4_as_0 : decode cX4_as 0 = .ok (.iload_n 1, 1) := fo_27 sr_X4_as_0
theorem dX4_as_1 : decode cX4_as 1 = .ok (.bipush 10, 2) := fo_16 (fd_n 1 sr_X4_as_0 rfl) (by decide +kernel)
theorem dX4_as_3 : decode cX4_as 3 = .ok (.invokestatic 60, 3) := fo_184 (fd_n 3 sr_X4_as_0 rfl) rfl
theorem dX4_as_6 : decode cX4_as 6 = .ok (.ifCond .eq 12, 3) := fo_153 (fd_n 6 sr_X4_as_0 rfl) (by decide +kernel)
theorem dX4_as_9 : decode cX4_as 9 = .ok (.iload_n 2, 1) := fo_28 (fd_n 9 sr_X4_as_0 rfl)
theorem dX4_as_10 : decode cX4_as 10 = .ok (.bipush 7, 2) := fo_16 (fd_n 10 sr_X4_as_0 rfl) (by decide +kernel)
theorem dX4_as_12 : decode cX4_as 12 = .ok (.invokestatic 60, 3) := fo_184 (fd_n 12 sr_X4_as_0 rfl) rfl
theorem dX4_as_15 : decode cX4_as 15 = .ok (.ifCond .ne 9, 3) := fo_154 (fd_n 15 sr_X4_as_0 rfl) (by decide +kernel)
theorem dX4_as_18 : decode cX4_as 18 = .ok (.aload_n 0, 1) := fo_42 (fd_n 18 sr_X4_as_0 rfl)
theorem dX4_as_19 : decode cX4_as 19 = .ok (.iconst 0, 1) := fo_3 (fd_n 19 sr_X4_as_0 rfl)
theorem dX4_as_20 : decode cX4_as 20 = .ok (.invokevirtual 64, 3) := fo_182 (fd_n 20 sr_X4_as_0 rfl) rfl
theorem dX4_as_23 : decode cX4_as 23 = .ok (.ireturn, 1) := fo_172 (fd_n 23 sr_X4_as_0 rfl)
theorem dX4_as_24 : decode cX4_as 24 = .ok (.aload_n 0, 1) := fo_42 (fd_n 24 sr_X4_as_0 rfl)
theorem dX4_as_25 : decode cX4_as 25 = .ok (.getfield 10, 3) := fo_180 (fd_n 25 sr_X4_as_0 rfl) rfl
theorem dX4_as_28 : decode cX4_as 28 = .ok (.getfield 219, 3) := fo_180 sr_X4_as_1 rfl
theorem dX4_as_31 : decode cX4_as 31 = .ok (.iload_n 1, 1) := fo_27 (fd_n 3 sr_X4_as_1 rfl)
theorem dX4_as_32 : decode cX4_as 32 = .ok (.iaload, 1) := fo_46 (fd_n 4 sr_X4_as_1 rfl)
theorem dX4_as_33 : decode cX4_as 33 = .ok (.istore_n 3, 1) := fo_62 (fd_n 5 sr_X4_as_1 rfl)
theorem dX4_as_34 : decode cX4_as 34 = .ok (.iload_n 3, 1) := fo_29 (fd_n 6 sr_X4_as_1 rfl)
theorem dX4_as_35 : decode cX4_as 35 = .ok (.ifCond .lt 14, 3) := fo_155 (fd_n 7 sr_X4_as_1 rfl) (by decide +kernel)
theorem dX4_as_38 : decode cX4_as 38 = .ok (.aload_n 0, 1) := fo_42 (fd_n 10 sr_X4_as_1 rfl)
theorem dX4_as_39 : decode cX4_as 39 = .ok (.getfield 10, 3) := fo_180 (fd_n 11 sr_X4_as_1 rfl) rfl
theorem dX4_as_42 : decode cX4_as 42 = .ok (.iload_n 3, 1) := fo_29 (fd_n 14 sr_X4_as_1 rfl)
theorem dX4_as_43 : decode cX4_as 43 = .ok (.invokevirtual 68, 3) := fo_182 (fd_n 15 sr_X4_as_1 rfl) rfl
theorem dX4_as_46 : decode cX4_as 46 = .ok (.ifCond .ne 9, 3) := fo_154 (fd_n 18 sr_X4_as_1 rfl) (by decide +kernel)
theorem dX4_as_49 : decode cX4_as 49 = .ok (.aload_n 0, 1) := fo_42 (fd_n 21 sr_X4_as_1 rfl)
theorem dX4_as_50 : decode cX4_as 50 = .ok (.iconst 5, 1) := fo_8 (fd_n 22 sr_X4_as_1 rfl)
theorem dX4_as_51 : decode cX4_as 51 = .ok (.invokevirtual 64, 3) := fo_182 (fd_n 23 sr_X4_as_1 rfl) rfl
theorem dX4_as_54 : decode cX4_as 54 = .ok (.ireturn, 1) := fo_172 (fd_n 26 sr_X4_as_1 rfl)
theorem dX4_as_55 : decode cX4_as 55 = .ok (.aload_n 0, 1) := fo_42 (fd_n 27 sr_X4_as_1 rfl)
theorem dX4_as_56 : decode cX4_as 56 = .ok (.getfield 10, 3) := fo_180 sr_X4_as_2 rfl
theorem dX4_as_59 : decode cX4_as 59 = .ok (.getfield 84, 3) := fo_180 (fd_n 3 sr_X4_as_2 rfl) rfl
theorem dX4_as_62 : decode cX4_as 62 = .ok (.iconst 0, 1) := fo_3 (fd_n 6 sr_X4_as_2 rfl)
theorem dX4_as_63 : decode cX4_as 63 = .ok (.aaload, 1) := fo_50 (fd_n 7 sr_X4_as_2 rfl)
theorem dX4_as_64 : decode cX4_as 64 = .ok (.iload_n 3, 1) := fo_29 (fd_n 8 sr_X4_as_2 rfl)
theorem dX4_as_65 : decode cX4_as 65 = .ok (.iaload, 1) := fo_46 (fd_n 9 sr_X4_as_2 rfl)
theorem dX4_as_66 : decode cX4_as 66 = .ok (.iload_n 2, 1) := fo_28 (fd_n 10 sr_X4_as_2 rfl)
theorem dX4_as_67 : decode cX4_as 67 = .ok (.invokestatic 222, 3) := fo_184 (fd_n 11 sr_X4_as_2 rfl) rfl
theorem dX4_as_70 : decode cX4_as 70 = .ok (.ifCond .eq 7, 3) := fo_153 (fd_n 14 sr_X4_as_2 rfl) (by decide +kernel)
theorem dX4_as_73 : decode cX4_as 73 = .ok (.iload_n 3, 1) := fo_29 (fd_n 17 sr_X4_as_2 rfl)
theorem dX4_as_74 : decode cX4_as 74 = .ok (.goto 8, 3) := fo_167 (fd_n 18 sr_X4_as_2 rfl) (by decide +kernel)
theorem dX4_as_77 : decode cX4_as 77 = .ok (.aload_n 0, 1) := fo_42 (fd_n 21 sr_X4_as_2 rfl)
theorem dX4_as_78 : decode cX4_as 78 = .ok (.iconst 2, 1) := fo_5 (fd_n 22 sr_X4_as_2 rfl)
theorem dX4_as_79 : decode cX4_as 79 = .ok (.invokevirtual 64, 3) := fo_182 (fd_n 23 sr_X4_as_2 rfl) rfl
theorem dX4_as_82 : decode cX4_as 82 = .ok (.ireturn, 1) := fo_172 (fd_n 26 sr_X4_as_2 rfl)
noncomputable def sl_X4_sheet_2 : List UInt8 := 172 :: 42 :: 180 :: 0 :: 39 :: 27 :: 28 :: 29 :: 182 :: 0 :: 225 :: 42 :: 180 :: 0 :: 39 :: 180 :: 0 :: 229 :: 27 :: 46 :: 172 :: []
noncomputable def sl_X4_sheet_1 : List UInt8 := 42 :: 3 :: 182 :: 0 :: 64 :: 172 :: 29 :: 156 :: 0 :: 10 :: 42 :: 16 :: 6 :: 182 :: 0 :: 64 :: 172 :: 29 :: 16 :: 40 :: 164 :: 0 :: 9 :: 42 :: 3 :: 182 :: 0 :: 64 :: sl_X4_sheet_2
noncomputable def sl_X4_sheet_0 : List UInt8 := 27 :: 7 :: 184 :: 0 :: 60 :: 153 :: 0 :: 25 :: 28 :: 153 :: 0 :: 27 :: 28 :: 16 :: 8 :: 159 :: 0 :: 21 :: 28 :: 16 :: 16 :: 159 :: 0 :: 15 :: 28 :: 16 :: 32 :: 159 :: 0 :: 9 :: sl_X4_sheet_1
theorem sr_X4_sheet_0 : fd_at cX4_sheet 0 sl_X4_sheet_0 := fd_base (by decide +kernel)
theorem sr_X4_sheet_1 : fd_at cX4_sheet 30 sl_X4_sheet_1 := fd_n 30 sr_X4_sheet_0 rfl
theorem sr_X4_sheet_2 : fd_at cX4_sheet 58 sl_X4_sheet_2 := fd_n 28 sr_X4_sheet_1 rfl
theorem dX4_sheet_0 : decode cX4_sheet 0 = .ok (.iload_n 1, 1) := fo_27 sr_X4_sheet_0
theorem dX4_sheet_1 : decode cX4_sheet 1 = .ok (.iconst 4, 1) := fo_7 (fd_n 1 sr_X4_sheet_0 rfl)
theorem dX4_sheet_2 : decode cX4_sheet 2 = .ok (.invokestatic 60, 3) := fo_184 (fd_n 2 sr_X4_sheet_0 rfl) rfl
theorem dX4_sheet_5 : decode cX4_sheet 5 = .ok (.ifCond .eq 25, 3) := fo_153 (fd_n 5 sr_X4_sheet_0 rfl) (by decide +kernel)
theorem dX4_sheet_8 : decode cX4_sheet 8 = .ok (.iload_n 2, 1) := fo_28 (fd_n 8 sr_X4_sheet_0 rfl)
theorem dX4_sheet_9 : decode cX4_sheet 9 = .ok (.ifCond .eq 27, 3) := fo_153 (fd_n 9 sr_X4_sheet_0 rfl) (by decide +kernel)
theorem dX4_sheet_12 : decode cX4_sheet 12 = .ok (.iload_n 2, 1) := fo_28 (fd_n 12 sr_X4_sheet_0 rfl)
theorem dX4_sheet_13 : decode cX4_sheet 13 = .ok (.bipush 8, 2) := fo_16 (fd_n 13 sr_X4_sheet_0 rfl) (by decide +kernel)
theorem dX4_sheet_15 : decode cX4_sheet 15 = .ok (.if_icmp .eq 21, 3) := fo_159 (fd_n 15 sr_X4_sheet_0 rfl) (by decide +kernel)
theorem dX4_sheet_18 : decode cX4_sheet 18 = .ok (.iload_n 2, 1) := fo_28 (fd_n 18 sr_X4_sheet_0 rfl)
theorem dX4_sheet_19 : decode cX4_sheet 19 = .ok (.bipush 16, 2) := fo_16 (fd_n 19 sr_X4_sheet_0 rfl) (by decide +kernel)
theorem dX4_sheet_21 : decode cX4_sheet 21 = .ok (.if_icmp .eq 15, 3) := fo_159 (fd_n 21 sr_X4_sheet_0 rfl) (by decide +kernel)
theorem dX4_sheet_24 : decode cX4_sheet 24 = .ok (.iload_n 2, 1) := fo_28 (fd_n 24 sr_X4_sheet_0 rfl)
theorem dX4_sheet_25 : decode cX4_sheet 25 = .ok (.bipush 32, 2) := fo_16 (fd_n 25 sr_X4_sheet_0 rfl) (by decide +kernel)
theorem dX4_sheet_27 : decode cX4_sheet 27 = .ok (.if_icmp .eq 9, 3) := fo_159 (fd_n 27 sr_X4_sheet_0 rfl) (by decide +kernel)
theorem dX4_sheet_30 : decode cX4_sheet 30 = .ok (.aload_n 0, 1) := fo_42 sr_X4_sheet_1
theorem dX4_sheet_31 : decode cX4_sheet 31 = .ok (.iconst 0, 1) := fo_3 (fd_n 1 sr_X4_sheet_1 rfl)
theorem dX4_sheet_32 : decode cX4_sheet 32 = .ok (.invokevirtual 64, 3) := fo_182 (fd_n 2 sr_X4_sheet_1 rfl) rfl
theorem dX4_sheet_35 : decode cX4_sheet 35 = .ok (.ireturn, 1) := fo_172 (fd_n 5 sr_X4_sheet_1 rfl)
theorem dX4_sheet_36 : decode cX4_sheet 36 = .ok (.iload_n 3, 1) := fo_29 (fd_n 6 sr_X4_sheet_1 rfl)
theorem dX4_sheet_37 : decode cX4_sheet 37 = .ok (.ifCond .ge 10, 3) := fo_156 (fd_n 7 sr_X4_sheet_1 rfl) (by decide +kernel)
theorem dX4_sheet_40 : decode cX4_sheet 40 = .ok (.aload_n 0, 1) := fo_42 (fd_n 10 sr_X4_sheet_1 rfl)
theorem dX4_sheet_41 : decode cX4_sheet 41 = .ok (.bipush 6, 2) := fo_16 (fd_n 11 sr_X4_sheet_1 rfl) (by decide +kernel)
theorem dX4_sheet_43 : decode cX4_sheet 43 = .ok (.invokevirtual 64, 3) := fo_182 (fd_n 13 sr_X4_sheet_1 rfl) rfl
theorem dX4_sheet_46 : decode cX4_sheet 46 = .ok (.ireturn, 1) := fo_172 (fd_n 16 sr_X4_sheet_1 rfl)
theorem dX4_sheet_47 : decode cX4_sheet 47 = .ok (.iload_n 3, 1) := fo_29 (fd_n 17 sr_X4_sheet_1 rfl)
theorem dX4_sheet_48 : decode cX4_sheet 48 = .ok (.bipush 40, 2) := fo_16 (fd_n 18 sr_X4_sheet_1 rfl) (by decide +kernel)
theorem dX4_sheet_50 : decode cX4_sheet 50 = .ok (.if_icmp .le 9, 3) := fo_164 (fd_n 20 sr_X4_sheet_1 rfl) (by decide +kernel)
theorem dX4_sheet_53 : decode cX4_sheet 53 = .ok (.aload_n 0, 1) := fo_42 (fd_n 23 sr_X4_sheet_1 rfl)
theorem dX4_sheet_54 : decode cX4_sheet 54 = .ok (.iconst 0, 1) := fo_3 (fd_n 24 sr_X4_sheet_1 rfl)
theorem dX4_sheet_55 : decode cX4_sheet 55 = .ok (.invokevirtual 64, 3) := fo_182 (fd_n 25 sr_X4_sheet_1 rfl) rfl
theorem dX4_sheet_58 : decode cX4_sheet 58 = .ok (.ireturn, 1) := fo_172 sr_X4_sheet_2
theorem dX4_sheet_59 : decode cX4_sheet 59 = .ok (.aload_n 0, 1) := fo_42 (fd_n 1 sr_X4_sheet_2 rfl)
theorem dX4_sheet_60 : decode cX4_sheet 60 = .ok (.getfield 39, 3) := fo_180 (fd_n 2 sr_X4_sheet_2 rfl) rfl
theorem dX4_sheet_63 : decode cX4_sheet 63 = .ok (.iload_n 1, 1) := fo_27 (fd_n 5 sr_X4_sheet_2 rfl)
theorem dX4_sheet_64 : decode cX4_sheet 64 = .ok (.iload_n 2, 1) := fo_28 (fd_n 6 sr_X4_sheet_2 rfl)
theorem dX4_sheet_65 : decode cX4_sheet 65 = .ok (.iload_n 3, 1) := fo_29 (fd_n 7 sr_X4_sheet_2 rfl)
theorem dX4_sheet_66 : decode cX4_sheet 66 = .ok (.invokevirtual 225, 3) := fo_182 (fd_n 8 sr_X4_sheet_2 rfl) rfl
theorem dX4_sheet_69 : decode cX4_sheet 69 = .ok (.aload_n 0, 1) := fo_42 (fd_n 11 sr_X4_sheet_2 rfl)
theorem dX4_sheet_70 : decode cX4_sheet 70 = .ok (.getfield 39, 3) := fo_180 (fd_n 12 sr_X4_sheet_2 rfl) rfl
theorem dX4_sheet_73 : decode cX4_sheet 73 = .ok (.getfield 229, 3) := fo_180 (fd_n 15 sr_X4_sheet_2 rfl) rfl
theorem dX4_sheet_76 : decode cX4_sheet 76 = .ok (.iload_n 1, 1) := fo_27 (fd_n 18 sr_X4_sheet_2 rfl)
theorem dX4_sheet_77 : decode cX4_sheet 77 = .ok (.iaload, 1) := fo_46 (fd_n 19 sr_X4_sheet_2 rfl)
theorem dX4_sheet_78 : decode cX4_sheet 78 = .ok (.ireturn, 1) := fo_172 (fd_n 20 sr_X4_sheet_2 rfl)
noncomputable def sl_X4_write_2 : List UInt8 := 28 :: 29 :: 182 :: 0 :: 235 :: 4 :: 172 :: []
noncomputable def sl_X4_write_1 : List UInt8 := 172 :: 28 :: 42 :: 180 :: 0 :: 39 :: 180 :: 0 :: 229 :: 27 :: 46 :: 184 :: 0 :: 60 :: 154 :: 0 :: 9 :: 42 :: 3 :: 182 :: 0 :: 64 :: 172 :: 42 :: 180 :: 0 :: 39 :: 27 :: sl_X4_write_2
noncomputable def sl_X4_write_0 : List UInt8 := 27 :: 7 :: 184 :: 0 :: 60 :: 154 :: 0 :: 9 :: 42 :: 3 :: 182 :: 0 :: 64 :: 172 :: 42 :: 180 :: 0 :: 39 :: 27 :: 182 :: 0 :: 232 :: 153 :: 0 :: 9 :: 42 :: 8 :: 182 :: 0 :: 64 :: sl_X4_write_1
theorem sr_X4_write_0 : fd_at cX4_write 0 sl_X4_write_0 := fd_base (by decide +kernel)
theorem sr_X4_write_1 : fd_at cX4_write 30 sl_X4_write_1 := fd_n 30 sr_X4_write_0 rfl
theorem sr_X4_write_2 : fd_at cX4_write 58 sl_X4_write_2 := fd_n 28 sr_X4_write_1 rfl
theorem dX4_write_0 : decode cX4_write 0 = .ok (.iload_n 1, 1) := fo_27 sr_X4_write_0
theorem dX4_write_1 : decode cX4_write 1 = .ok (.iconst 4, 1) := fo_7 (fd_n 1 sr_X4_write_0 rfl)
theorem dX4_write_2 : decode cX4_write 2 = .ok (.invokestatic 60, 3) := fo_184 (fd_n 2 sr_X4_write_0 rfl) rfl
theorem dX4_write_5 : decode cX4_write 5 = .ok (.ifCond .ne 9, 3) := fo_154 (fd_n 5 sr_X4_write_0 rfl) (by decide +kernel)
theorem dX4_write_8 : decode cX4_write 8 = .ok (.aload_n 0, 1) := fo_42 (fd_n 8 sr_X4_write_0 rfl)
theorem dX4_write_9 : decode cX4_write 9 = .ok (.iconst 0, 1) := fo_3 (fd_n 9 sr_X4_write_0 rfl)
theorem dX4_write_10 : decode cX4_write 10 = .ok (.invokevirtual 64, 3) := fo_182 (fd_n 10 sr_X4_write_0 rfl) rfl
theorem dX4_write_13 : decode cX4_write 13 = .ok (.ireturn, 1) := fo_172 (fd_n 13 sr_X4_write_0 rfl)
theorem dX4_write_14 : decode cX4_write 14 = .ok (.aload_n 0, 1) := fo_42 (fd_n 14 sr_X4_write_0 rfl)
theorem dX4_write_15 : decode cX4_write 15 = .ok (.getfield 39, 3) := fo_180 (fd_n 15 sr_X4_write_0 rfl) rfl
theorem dX4_write_18 : decode cX4_write 18 = .ok (.iload_n 1, 1) := fo_27 (fd_n 18 sr_X4_write_0 rfl)
theorem dX4_write_19 : decode cX4_write 19 = .ok (.invokevirtual 232, 3) := fo_182 (fd_n 19 sr_X4_write_0 rfl) rfl
theorem dX4_write_22 : decode cX4_write 22 = .ok (.ifCond .eq 9, 3) := fo_153 (fd_n 22 sr_X4_write_0 rfl) (by decide +kernel)
theorem dX4_write_25 : decode cX4_write 25 = .ok (.aload_n 0, 1) := fo_42 (fd_n 25 sr_X4_write_0 rfl)
theorem dX4_write_26 : decode cX4_write 26 = .ok (.iconst 5, 1) := fo_8 (fd_n 26 sr_X4_write_0 rfl)
theorem dX4_write_27 : decode cX4_write 27 = .ok (.invokevirtual 64, 3) := fo_182 (fd_n 27 sr_X4_write_0 rfl) rfl
theorem dX4_write_30 : decode cX4_write 30 = .ok (.ireturn, 1) := fo_172 sr_X4_write_1
theorem dX4_write_31 : decode cX4_write 31 = .ok (.iload_n 2, 1) := fo_28 (fd_n 1 sr_X4_write_1 rfl)
theorem dX4_write_32 : decode cX4_write 32 = .ok (.aload_n 0, 1) := fo_42 (fd_n 2 sr_X4_write_1 rfl)
theorem dX4_write_33 : decode cX4_write 33 = .ok (.getfield 39, 3) := fo_180 (fd_n 3 sr_X4_write_1 rfl) rfl
theorem dX4_write_36 : decode cX4_write 36 = .ok (.getfield 229, 3) := fo_180 (fd_n 6 sr_X4_write_1 rfl) rfl
theorem dX4_write_39 : decode cX4_write 39 = .ok (.iload_n 1, 1) := fo_27 (fd_n 9 sr_X4_write_1 rfl)
theorem dX4_write_40 : decode cX4_write 40 = .ok (.iaload, 1) := fo_46 (fd_n 10 sr_X4_write_1 rfl)
theorem dX4_write_41 : decode cX4_write 41 = .ok (.invokestatic 60, 3) := fo_184 (fd_n 11 sr_X4_write_1 rfl) rfl
theorem dX4_write_44 : decode cX4_write 44 = .ok (.ifCond .ne 9, 3) := fo_154 (fd_n 14 sr_X4_write_1 rfl) (by decide +kernel)
theorem dX4_write_47 : decode cX4_write 47 = .ok (.aload_n 0, 1) := fo_42 (fd_n 17 sr_X4_write_1 rfl)
theorem dX4_write_48 : decode cX4_write 48 = .ok (.iconst 0, 1) := fo_3 (fd_n 18 sr_X4_write_1 rfl)
theorem dX4_write_49 : decode cX4_write 49 = .ok (.invokevirtual 64, 3) := fo_182 (fd_n 19 sr_X4_write_1 rfl) rfl
theorem dX4_write_52 : decode cX4_write 52 = .ok (.ireturn, 1) := fo_172 (fd_n 22 sr_X4_write_1 rfl)
theorem dX4_write_53 : decode cX4_write 53 = .ok (.aload_n 0, 1) := fo_42 (fd_n 23 sr_X4_write_1 rfl)
theorem dX4_write_54 : decode cX4_write 54 = .ok (.getfield 39, 3) := fo_180 (fd_n 24 sr_X4_write_1 rfl) rfl
theorem dX4_write_57 : decode cX4_write 57 = .ok (.iload_n 1, 1) := fo_27 (fd_n 27 sr_X4_write_1 rfl)
theorem dX4_write_58 : decode cX4_write 58 = .ok (.iload_n 2, 1) := fo_28 sr_X4_write_2
theorem dX4_write_59 : decode cX4_write 59 = .ok (.iload_n 3, 1) := fo_29 (fd_n 1 sr_X4_write_2 rfl)
theorem dX4_write_60 : decode cX4_write 60 = .ok (.invokevirtual 235, 3) := fo_182 (fd_n 2 sr_X4_write_2 rfl) rfl
theorem dX4_write_63 : decode cX4_write 63 = .ok (.iconst 1, 1) := fo_4 (fd_n 5 sr_X4_write_2 rfl)
theorem dX4_write_64 : decode cX4_write 64 = .ok (.ireturn, 1) := fo_172 (fd_n 6 sr_X4_write_2 rfl)
noncomputable def sl_X4_copy_4 : List UInt8 := 180 :: 0 :: 245 :: 27 :: 50 :: 28 :: 42 :: 180 :: 0 :: 39 :: 180 :: 0 :: 245 :: 29 :: 50 :: 21 :: 4 :: 21 :: 5 :: 184 :: 0 :: 248 :: 21 :: 5 :: 172 :: []
noncomputable def sl_X4_copy_3 : List UInt8 := 153 :: 0 :: 18 :: 42 :: 180 :: 0 :: 39 :: 29 :: 21 :: 4 :: 21 :: 5 :: 182 :: 0 :: 241 :: 154 :: 0 :: 9 :: 42 :: 3 :: 182 :: 0 :: 64 :: 172 :: 42 :: 180 :: 0 :: 39 :: sl_X4_copy_4
noncomputable def sl_X4_copy_2 : List UInt8 := 46 :: 42 :: 180 :: 0 :: 39 :: 180 :: 0 :: 238 :: 29 :: 46 :: 159 :: 0 :: 9 :: 42 :: 5 :: 182 :: 0 :: 64 :: 172 :: 42 :: 180 :: 0 :: 39 :: 27 :: 28 :: 21 :: 5 :: 182 :: 0 :: 241 :: sl_X4_copy_3
noncomputable def sl_X4_copy_1 : List UInt8 := 154 :: 0 :: 14 :: 42 :: 180 :: 0 :: 39 :: 29 :: 182 :: 0 :: 232 :: 153 :: 0 :: 9 :: 42 :: 8 :: 182 :: 0 :: 64 :: 172 :: 42 :: 180 :: 0 :: 39 :: 180 :: 0 :: 238 :: 27 :: sl_X4_copy_2
noncomputable def sl_X4_copy_0 : List UInt8 := 27 :: 7 :: 184 :: 0 :: 60 :: 153 :: 0 :: 11 :: 29 :: 7 :: 184 :: 0 :: 60 :: 154 :: 0 :: 9 :: 42 :: 3 :: 182 :: 0 :: 64 :: 172 :: 42 :: 180 :: 0 :: 39 :: 27 :: 182 :: 0 :: 232 :: sl_X4_copy_1
theorem sr_X4_copy_0 : fd_at cX4_copy 0 sl_X4_copy_0 := fd_base (by decide +kernel)
theorem sr_X4_copy_1 : fd_at cX4_copy 30 sl_X4_copy_1 := fd_n 30 sr_X4_copy_0 rfl
theorem sr_X4_copy_2 : fd_at cX4_copy 58 sl_X4_copy_2 := fd_n 28 sr_X4_copy_1 rfl
theorem sr_X4_copy_3 : fd_at cX4_copy 88 sl_X4_copy_3 := fd_n 30 sr_X4_copy_2 rfl
theorem sr_X4_copy_4 : fd_at cX4_copy 116 sl_X4_copy_4 := fd_n 28 sr_X4_copy_3 rfl
theorem dX4_copy_0 : decode cX4_copy 0 = .ok (.iload_n 1, 1) := fo_27 sr_X4_copy_0
theorem dX4_copy_1 : decode cX4_copy 1 = .ok (.iconst 4, 1) := fo_7 (fd_n 1 sr_X4_copy_0 rfl)
theorem dX4_copy_2 : decode cX4_copy 2 = .ok (.invokestatic 60, 3) := fo_184 (fd_n 2 sr_X4_copy_0 rfl) rfl
theorem dX4_copy_5 : decode cX4_copy 5 = .ok (.ifCond .eq 11, 3) := fo_153 (fd_n 5 sr_X4_copy_0 rfl) (by decide +kernel)
theorem dX4_copy_8 : decode cX4_copy 8 = .ok (.iload_n 3, 1) := fo_29 (fd_n 8 sr_X4_copy_0 rfl)
theorem dX4_copy_9 : decode cX4_copy 9 = .ok (.iconst 4, 1) := fo_7 (fd_n 9 sr_X4_copy_0 rfl)
theorem dX4_copy_10 : decode cX4_copy 10 = .ok (.invokestatic 60, 3) := fo_184 (fd_n 10 sr_X4_copy_0 rfl) rfl
theorem dX4_copy_13 : decode cX4_copy 13 = .ok (.ifCond .ne 9, 3) := fo_154 (fd_n 13 sr_X4_copy_0 rfl) (by decide +kernel)
theorem dX4_copy_16 : decode cX4_copy 16 = .ok (.aload_n 0, 1) := fo_42 (fd_n 16 sr_X4_copy_0 rfl)
theorem dX4_copy_17 : decode cX4_copy 17 = .ok (.iconst 0, 1) := fo_3 (fd_n 17 sr_X4_copy_0 rfl)
theorem dX4_copy_18 : decode cX4_copy 18 = .ok (.invokevirtual 64, 3) := fo_182 (fd_n 18 sr_X4_copy_0 rfl) rfl
theorem dX4_copy_21 : decode cX4_copy 21 = .ok (.ireturn, 1) := fo_172 (fd_n 21 sr_X4_copy_0 rfl)
theorem dX4_copy_22 : decode cX4_copy 22 = .ok (.aload_n 0, 1) := fo_42 (fd_n 22 sr_X4_copy_0 rfl)
theorem dX4_copy_23 : decode cX4_copy 23 = .ok (.getfield 39, 3) := fo_180 (fd_n 23 sr_X4_copy_0 rfl) rfl
theorem dX4_copy_26 : decode cX4_copy 26 = .ok (.iload_n 1, 1) := fo_27 (fd_n 26 sr_X4_copy_0 rfl)
theorem dX4_copy_27 : decode cX4_copy 27 = .ok (.invokevirtual 232, 3) := fo_182 (fd_n 27 sr_X4_copy_0 rfl) rfl
theorem dX4_copy_30 : decode cX4_copy 30 = .ok (.ifCond .ne 14, 3) := fo_154 sr_X4_copy_1 (by decide +kernel)
theorem dX4_copy_33 : decode cX4_copy 33 = .ok (.aload_n 0, 1) := fo_42 (fd_n 3 sr_X4_copy_1 rfl)
theorem dX4_copy_34 : decode cX4_copy 34 = .ok (.getfield 39, 3) := fo_180 (fd_n 4 sr_X4_copy_1 rfl) rfl
theorem dX4_copy_37 : decode cX4_copy 37 = .ok (.iload_n 3, 1) := fo_29 (fd_n 7 sr_X4_copy_1 rfl)
theorem dX4_copy_38 : decode cX4_copy 38 = .ok (.invokevirtual 232, 3) := fo_182 (fd_n 8 sr_X4_copy_1 rfl) rfl
theorem dX4_copy_41 : decode cX4_copy 41 = .ok (.ifCond .eq 9, 3) := fo_153 (fd_n 11 sr_X4_copy_1 rfl) (by decide +kernel)
theorem dX4_copy_44 : decode cX4_copy 44 = .ok (.aload_n 0, 1) := fo_42 (fd_n 14 sr_X4_copy_1 rfl)
theorem dX4_copy_45 : decode cX4_copy 45 = .ok (.iconst 5, 1) := fo_8 (fd_n 15 sr_X4_copy_1 rfl)
theorem dX4_copy_46 : decode cX4_copy 46 = .ok (.invokevirtual 64, 3) := fo_182 (fd_n 16 sr_X4_copy_1 rfl) rfl
theorem dX4_copy_49 : decode cX4_copy 49 = .ok (.ireturn, 1) := fo_172 (fd_n 19 sr_X4_copy_1 rfl)
theorem dX4_copy_50 : decode cX4_copy 50 = .ok (.aload_n 0, 1) := fo_42 (fd_n 20 sr_X4_copy_1 rfl)
theorem dX4_copy_51 : decode cX4_copy 51 = .ok (.getfield 39, 3) := fo_180 (fd_n 21 sr_X4_copy_1 rfl) rfl
theorem dX4_copy_54 : decode cX4_copy 54 = .ok (.getfield 238, 3) := fo_180 (fd_n 24 sr_X4_copy_1 rfl) rfl
theorem dX4_copy_57 : decode cX4_copy 57 = .ok (.iload_n 1, 1) := fo_27 (fd_n 27 sr_X4_copy_1 rfl)
theorem dX4_copy_58 : decode cX4_copy 58 = .ok (.iaload, 1) := fo_46 sr_X4_copy_2
theorem dX4_copy_59 : decode cX4_copy 59 = .ok (.aload_n 0, 1) := fo_42 (fd_n 1 sr_X4_copy_2 rfl)
theorem dX4_copy_60 : decode cX4_copy 60 = .ok (.getfield 39, 3) := fo_180 (fd_n 2 sr_X4_copy_2 rfl) rfl
theorem dX4_copy_63 : decode cX4_copy 63 = .ok (.getfield 238, 3) := fo_180 (fd_n 5 sr_X4_copy_2 rfl) rfl
theorem dX4_copy_66 : decode cX4_copy 66 = .ok (.iload_n 3, 1) := fo_29 (fd_n 8 sr_X4_copy_2 rfl)
theorem dX4_copy_67 : decode cX4_copy 67 = .ok (.iaload, 1) := fo_46 (fd_n 9 sr_X4_copy_2 rfl)
theorem dX4_copy_68 : decode cX4_copy 68 = .ok (.if_icmp .eq 9, 3) := fo_159 (fd_n 10 sr_X4_copy_2 rfl) (by decide +kernel)
theorem dX4_copy_71 : decode cX4_copy 71 = .ok (.aload_n 0, 1) := fo_42 (fd_n 13 sr_X4_copy_2 rfl)
theorem dX4_copy_72 : decode cX4_copy 72 = .ok (.iconst 2, 1) := fo_5 (fd_n 14 sr_X4_copy_2 rfl)
theorem dX4_copy_73 : decode cX4_copy 73 = .ok (.invokevirtual 64, 3) := fo_182 (fd_n 15 sr_X4_copy_2 rfl) rfl
theorem dX4_copy_76 : decode cX4_copy 76 = .ok (.ireturn, 1) := fo_172 (fd_n 18 sr_X4_copy_2 rfl)
theorem dX4_copy_77 : decode cX4_copy 77 = .ok (.aload_n 0, 1) := fo_42 (fd_n 19 sr_X4_copy_2 rfl)
theorem dX4_copy_78 : decode cX4_copy 78 = .ok (.getfield 39, 3) := fo_180 (fd_n 20 sr_X4_copy_2 rfl) rfl
theorem dX4_copy_81 : decode cX4_copy 81 = .ok (.iload_n 1, 1) := fo_27 (fd_n 23 sr_X4_copy_2 rfl)
theorem dX4_copy_82 : decode cX4_copy 82 = .ok (.iload_n 2, 1) := fo_28 (fd_n 24 sr_X4_copy_2 rfl)
theorem dX4_copy_83 : decode cX4_copy 83 = .ok (.iload 5, 2) := fo_21 (fd_n 25 sr_X4_copy_2 rfl) rfl
theorem dX4_copy_85 : decode cX4_copy 85 = .ok (.invokevirtual 241, 3) := fo_182 (fd_n 27 sr_X4_copy_2 rfl) rfl
theorem dX4_copy_88 : decode cX4_copy 88 = .ok (.ifCond .eq 18, 3) := fo_153 sr_X4_copy_3 (by decide +kernel)
theorem dX4_copy_91 : decode cX4_copy 91 = .ok (.aload_n 0, 1) := fo_42 (fd_n 3 sr_X4_copy_3 rfl)
theorem dX4_copy_92 : decode cX4_copy 92 = .ok (.getfield 39, 3) := fo_180 (fd_n 4 sr_X4_copy_3 rfl) rfl
theorem dX4_copy_95 : decode cX4_copy 95 = .ok (.iload_n 3, 1) := fo_29 (fd_n 7 sr_X4_copy_3 rfl)
theorem dX4_copy_96 : decode cX4_copy 96 = .ok (.iload 4, 2) := fo_21 (fd_n 8 sr_X4_copy_3 rfl) rfl
theorem dX4_copy_98 : decode cX4_copy 98 = .ok (.iload 5, 2) := fo_21 (fd_n 10 sr_X4_copy_3 rfl) rfl
theorem dX4_copy_100 : decode cX4_copy 100 = .ok (.invokevirtual 241, 3) := fo_182 (fd_n 12 sr_X4_copy_3 rfl) rfl
theorem dX4_copy_103 : decode cX4_copy 103 = .ok (.ifCond .ne 9, 3) := fo_154 (fd_n 15 sr_X4_copy_3 rfl) (by decide +kernel)
theorem dX4_copy_106 : decode cX4_copy 106 = .ok (.aload_n 0, 1) := fo_42 (fd_n 18 sr_X4_copy_3 rfl)
theorem dX4_copy_107 : decode cX4_copy 107 = .ok (.iconst 0, 1) := fo_3 (fd_n 19 sr_X4_copy_3 rfl)
theorem dX4_copy_108 : decode cX4_copy 108 = .ok (.invokevirtual 64, 3) := fo_182 (fd_n 20 sr_X4_copy_3 rfl) rfl
theorem dX4_copy_111 : decode cX4_copy 111 = .ok (.ireturn, 1) := fo_172 (fd_n 23 sr_X4_copy_3 rfl)
theorem dX4_copy_112 : decode cX4_copy 112 = .ok (.aload_n 0, 1) := fo_42 (fd_n 24 sr_X4_copy_3 rfl)
theorem dX4_copy_113 : decode cX4_copy 113 = .ok (.getfield 39, 3) := fo_180 (fd_n 25 sr_X4_copy_3 rfl) rfl
theorem dX4_copy_116 : decode cX4_copy 116 = .ok (.getfield 245, 3) := fo_180 sr_X4_copy_4 rfl
theorem dX4_copy_119 : decode cX4_copy 119 = .ok (.iload_n 1, 1) := fo_27 (fd_n 3 sr_X4_copy_4 rfl)
theorem dX4_copy_120 : decode cX4_copy 120 = .ok (.aaload, 1) := fo_50 (fd_n 4 sr_X4_copy_4 rfl)
theorem dX4_copy_121 : decode cX4_copy 121 = .ok (.iload_n 2, 1) := fo_28 (fd_n 5 sr_X4_copy_4 rfl)
theorem dX4_copy_122 : decode cX4_copy 122 = .ok (.aload_n 0, 1) := fo_42 (fd_n 6 sr_X4_copy_4 rfl)
theorem dX4_copy_123 : decode cX4_copy 123 = .ok (.getfield 39, 3) := fo_180 (fd_n 7 sr_X4_copy_4 rfl) rfl
theorem dX4_copy_126 : decode cX4_copy 126 = .ok (.getfield 245, 3) := fo_180 (fd_n 10 sr_X4_copy_4 rfl) rfl
theorem dX4_copy_129 : decode cX4_copy 129 = .ok (.iload_n 3, 1) := fo_29 (fd_n 13 sr_X4_copy_4 rfl)
theorem dX4_copy_130 : decode cX4_copy 130 = .ok (.aaload, 1) := fo_50 (fd_n 14 sr_X4_copy_4 rfl)
theorem dX4_copy_131 : decode cX4_copy 131 = .ok (.iload 4, 2) := fo_21 (fd_n 15 sr_X4_copy_4 rfl) rfl
theorem dX4_copy_133 : decode cX4_copy 133 = .ok (.iload 5, 2) := fo_21 (fd_n 17 sr_X4_copy_4 rfl) rfl
theorem dX4_copy_135 : decode cX4_copy 135 = .ok (.invokestatic 248, 3) := fo_184 (fd_n 19 sr_X4_copy_4 rfl) rfl
theorem dX4_copy_138 : decode cX4_copy 138 = .ok (.iload 5, 2) := fo_21 (fd_n 22 sr_X4_copy_4 rfl) rfl
theorem dX4_copy_140 : decode cX4_copy 140 = .ok (.ireturn, 1) := fo_172 (fd_n 24 sr_X4_copy_4 rfl)
noncomputable def sl_X4_load_4 : List UInt8 := 180 :: 0 :: 10 :: 180 :: 0 :: 84 :: 5 :: 50 :: 28 :: 21 :: 4 :: 96 :: 21 :: 5 :: 79 :: 132 :: 3 :: 1 :: 132 :: 4 :: 1 :: 167 :: 255 :: 170 :: 29 :: 172 :: []
noncomputable def sl_X4_load_3 : List UInt8 := 21 :: 5 :: 16 :: 10 :: 184 :: 0 :: 60 :: 154 :: 0 :: 6 :: 167 :: 0 :: 42 :: 42 :: 180 :: 0 :: 10 :: 28 :: 21 :: 4 :: 96 :: 182 :: 0 :: 68 :: 153 :: 0 :: 22 :: 42 :: sl_X4_load_4
noncomputable def sl_X4_load_2 : List UInt8 := 27 :: 46 :: 162 :: 0 :: 78 :: 28 :: 21 :: 4 :: 96 :: 16 :: 25 :: 162 :: 0 :: 69 :: 42 :: 180 :: 0 :: 39 :: 180 :: 0 :: 245 :: 27 :: 50 :: 21 :: 4 :: 46 :: 54 :: 5 :: sl_X4_load_3
noncomputable def sl_X4_load_1 : List UInt8 := 172 :: 28 :: 16 :: 25 :: 184 :: 0 :: 60 :: 154 :: 0 :: 9 :: 42 :: 3 :: 182 :: 0 :: 64 :: 172 :: 3 :: 62 :: 3 :: 54 :: 4 :: 21 :: 4 :: 42 :: 180 :: 0 :: 39 :: 180 :: 0 :: 229 :: sl_X4_load_2
noncomputable def sl_X4_load_0 : List UInt8 := 27 :: 7 :: 184 :: 0 :: 60 :: 154 :: 0 :: 9 :: 42 :: 3 :: 182 :: 0 :: 64 :: 172 :: 42 :: 180 :: 0 :: 39 :: 27 :: 182 :: 0 :: 232 :: 153 :: 0 :: 9 :: 42 :: 8 :: 182 :: 0 :: 64 :: sl_X4_load_1
theorem sr_X4_load_0 : fd_at cX4_load 0 sl_X4_load_0 := fd_base (by decide +kernel)
theorem sr_X4_load_1 : fd_at cX4_load 30 sl_X4_load_1 := fd_n 30 sr_X4_load_0 rfl
theorem sr_X4_load_2 : fd_at cX4_load 60 sl_X4_load_2 := fd_n 30 sr_X4_load_1 rfl
theorem sr_X4_load_3 : fd_at cX4_load 88 sl_X4_load_3 := fd_n 28 sr_X4_load_2 rfl
theorem sr_X4_load_4 : fd_at cX4_load 116 sl_X4_load_4 := fd_n 28 sr_X4_load_3 rfl
theorem dX4_load_0 : decode cX4_load 0 = .ok (.iload_n 1, 1) := fo_27 sr_X4_load_0
theorem dX4_load_1 : decode cX4_load 1 = .ok (.iconst 4, 1) := fo_7 (fd_n 1 sr_X4_load_0 rfl)
theorem dX4_load_2 : decode cX4_load 2 = .ok (.invokestatic 60, 3) := fo_184 (fd_n 2 sr_X4_load_0 rfl) rfl
theorem dX4_load_5 : decode cX4_load 5 = .ok (.ifCond .ne 9, 3) := fo_154 (fd_n 5 sr_X4_load_0 rfl) (by decide +kernel)
theorem dX4_load_8 : decode cX4_load 8 = .ok (.aload_n 0, 1) := fo_42 (fd_n 8 sr_X4_load_0 rfl)
theorem dX4_load_9 : decode cX4_load 9 = .ok (.iconst 0, 1) := fo_3 (fd_n 9 sr_X4_load_0 rfl)
theorem dX4_load_10 : decode cX4_load 10 = .ok (.invokevirtual 64, 3) := fo_182 (fd_n 10 sr_X4_load_0 rfl) rfl
theorem dX4_load_13 : decode cX4_load 13 = .ok (.ireturn, 1) := fo_172 (fd_n 13 sr_X4_load_0 rfl)
theorem dX4_load_14 : decode cX4_load 14 = .ok (.aload_n 0, 1) := fo_42 (fd_n 14 sr_X4_load_0 rfl)
theorem dX4_load_15 : decode cX4_load 15 = .ok (.getfield 39, 3) := fo_180 (fd_n 15 sr_X4_load_0 rfl) rfl
theorem dX4_load_18 : decode cX4_load 18 = .ok (.iload_n 1, 1) := fo_27 (fd_n 18 sr_X4_load_0 rfl)
theorem dX4_load_19 : decode cX4_load 19 = .ok (.invokevirtual 232, 3) := fo_182 (fd_n 19 sr_X4_load_0 rfl) rfl
theorem dX4_load_22 : decode cX4_load 22 = .ok (.ifCond .eq 9, 3) := fo_153 (fd_n 22 sr_X4_load_0 rfl) (by decide +kernel)
theorem dX4_load_25 : decode cX4_load 25 = .ok (.aload_n 0, 1) := fo_42 (fd_n 25 sr_X4_load_0 rfl)
theorem dX4_load_26 : decode cX4_load 26 = .ok (.iconst 5, 1) := fo_8 (fd_n 26 sr_X4_load_0 rfl)
theorem dX4_load_27 : decode cX4_load 27 = .ok (.invokevirtual 64, 3) := fo_182 (fd_n 27 sr_X4_load_0 rfl) rfl
theorem dX4_load_30 : decode cX4_load 30 = .ok (.ireturn, 1) := fo_172 sr_X4_load_1
theorem dX4_load_31 : decode cX4_load 31 = .ok (.iload_n 2, 1) := fo_28 (fd_n 1 sr_X4_load_1 rfl)
theorem dX4_load_32 : decode cX4_load 32 = .ok (.bipush 25, 2) := fo_16 (fd_n 2 sr_X4_load_1 rfl) (by decide +kernel)
theorem dX4_load_34 : decode cX4_load 34 = .ok (.invokestatic 60, 3) := fo_184 (fd_n 4 sr_X4_load_1 rfl) rfl
theorem dX4_load_37 : decode cX4_load 37 = .ok (.ifCond .ne 9, 3) := fo_154 (fd_n 7 sr_X4_load_1 rfl) (by decide +kernel)
theorem dX4_load_40 : decode cX4_load 40 = .ok (.aload_n 0, 1) := fo_42 (fd_n 10 sr_X4_load_1 rfl)
theorem dX4_load_41 : decode cX4_load 41 = .ok (.iconst 0, 1) := fo_3 (fd_n 11 sr_X4_load_1 rfl)
theorem dX4_load_42 : decode cX4_load 42 = .ok (.invokevirtual 64, 3) := fo_182 (fd_n 12 sr_X4_load_1 rfl) rfl
theorem dX4_load_45 : decode cX4_load 45 = .ok (.ireturn, 1) := fo_172 (fd_n 15 sr_X4_load_1 rfl)
theorem dX4_load_46 : decode cX4_load 46 = .ok (.iconst 0, 1) := fo_3 (fd_n 16 sr_X4_load_1 rfl)
theorem dX4_load_47 : decode cX4_load 47 = .ok (.istore_n 3, 1) := fo_62 (fd_n 17 sr_X4_load_1 rfl)
theorem dX4_load_48 : decode cX4_load 48 = .ok (.iconst 0, 1) := fo_3 (fd_n 18 sr_X4_load_1 rfl)
theorem dX4_load_49 : decode cX4_load 49 = .ok (.istore 4, 2) := fo_54 (fd_n 19 sr_X4_load_1 rfl) rfl
theorem dX4_load_51 : decode cX4_load 51 = .ok (.iload 4, 2) := fo_21 (fd_n 21 sr_X4_load_1 rfl) rfl
theorem dX4_load_53 : decode cX4_load 53 = .ok (.aload_n 0, 1) := fo_42 (fd_n 23 sr_X4_load_1 rfl)
theorem dX4_load_54 : decode cX4_load 54 = .ok (.getfield 39, 3) := fo_180 (fd_n 24 sr_X4_load_1 rfl) rfl
theorem dX4_load_57 : decode cX4_load 57 = .ok (.getfield 229, 3) := fo_180 (fd_n 27 sr_X4_load_1 rfl) rfl
theorem dX4_load_60 : decode cX4_load 60 = .ok (.iload_n 1, 1) := fo_27 sr_X4_load_2
theorem dX4_load_61 : decode cX4_load 61 = .ok (.iaload, 1) := fo_46 (fd_n 1 sr_X4_load_2 rfl)
theorem dX4_load_62 : decode cX4_load 62 = .ok (.if_icmp .ge 78, 3) := fo_162 (fd_n 2 sr_X4_load_2 rfl) (by decide +kernel)
theorem dX4_load_65 : decode cX4_load 65 = .ok (.iload_n 2, 1) := fo_28 (fd_n 5 sr_X4_load_2 rfl)
theorem dX4_load_66 : decode cX4_load 66 = .ok (.iload 4, 2) := fo_21 (fd_n 6 sr_X4_load_2 rfl) rfl
theorem dX4_load_68 : decode cX4_load 68 = .ok (.iadd, 1) := fo_96 (fd_n 8 sr_X4_load_2 rfl)
theorem dX4_load_69 : decode cX4_load 69 = .ok (.bipush 25, 2) := fo_16 (fd_n 9 sr_X4_load_2 rfl) (by decide +kernel)
theorem dX4_load_71 : decode cX4_load 71 = .ok (.if_icmp .ge 69, 3) := fo_162 (fd_n 11 sr_X4_load_2 rfl) (by decide +kernel)
theorem dX4_load_74 : decode cX4_load 74 = .ok (.aload_n 0, 1) := fo_42 (fd_n 14 sr_X4_load_2 rfl)
theorem dX4_load_75 : decode cX4_load 75 = .ok (.getfield 39, 3) := fo_180 (fd_n 15 sr_X4_load_2 rfl) rfl
theorem dX4_load_78 : decode cX4_load 78 = .ok (.getfield 245, 3) := fo_180 (fd_n 18 sr_X4_load_2 rfl) rfl
theorem dX4_load_81 : decode cX4_load 81 = .ok (.iload_n 1, 1) := fo_27 (fd_n 21 sr_X4_load_2 rfl)
theorem dX4_load_82 : decode cX4_load 82 = .ok (.aaload, 1) := fo_50 (fd_n 22 sr_X4_load_2 rfl)
theorem dX4_load_83 : decode cX4_load 83 = .ok (.iload 4, 2) := fo_21 (fd_n 23 sr_X4_load_2 rfl) rfl
theorem dX4_load_85 : decode cX4_load 85 = .ok (.iaload, 1) := fo_46 (fd_n 25 sr_X4_load_2 rfl)
theorem dX4_load_86 : decode cX4_load 86 = .ok (.istore 5, 2) := fo_54 (fd_n 26 sr_X4_load_2 rfl) rfl
theorem dX4_load_88 : decode cX4_load 88 = .ok (.iload 5, 2) := fo_21 sr_X4_load_3 rfl
theorem dX4_load_90 : decode cX4_load 90 = .ok (.bipush 10, 2) := fo_16 (fd_n 2 sr_X4_load_3 rfl) (by decide +kernel)
theorem dX4_load_92 : decode cX4_load 92 = .ok (.invokestatic 60, 3) := fo_184 (fd_n 4 sr_X4_load_3 rfl) rfl
theorem dX4_load_95 : decode cX4_load 95 = .ok (.ifCond .ne 6, 3) := fo_154 (fd_n 7 sr_X4_load_3 rfl) (by decide +kernel)
theorem dX4_load_98 : decode cX4_load 98 = .ok (.goto 42, 3) := fo_167 (fd_n 10 sr_X4_load_3 rfl) (by decide +kernel)
theorem dX4_load_101 : decode cX4_load 101 = .ok (.aload_n 0, 1) := fo_42 (fd_n 13 sr_X4_load_3 rfl)
theorem dX4_load_102 : decode cX4_load 102 = .ok (.getfield 10, 3) := fo_180 (fd_n 14 sr_X4_load_3 rfl) rfl
theorem dX4_load_105 : decode cX4_load 105 = .ok (.iload_n 2, 1) := fo_28 (fd_n 17 sr_X4_load_3 rfl)
theorem dX4_load_106 : decode cX4_load 106 = .ok (.iload 4, 2) := fo_21 (fd_n 18 sr_X4_load_3 rfl) rfl
theorem dX4_load_108 : decode cX4_load 108 = .ok (.iadd, 1) := fo_96 (fd_n 20 sr_X4_load_3 rfl)
theorem dX4_load_109 : decode cX4_load 109 = .ok (.invokevirtual 68, 3) := fo_182 (fd_n 21 sr_X4_load_3 rfl) rfl
theorem dX4_load_112 : decode cX4_load 112 = .ok (.ifCond .eq 22, 3) := fo_153 (fd_n 24 sr_X4_load_3 rfl) (by decide +kernel)
theorem dX4_load_115 : decode cX4_load 115 = .ok (.aload_n 0, 1) := fo_42 (fd_n 27 sr_X4_load_3 rfl)
theorem dX4_load_116 : decode cX4_load 116 = .ok (.getfield 10, 3) := fo_180 sr_X4_load_4 rfl
theorem dX4_load_119 : decode cX4_load 119 = .ok (.getfield 84, 3) := fo_180 (fd_n 3 sr_X4_load_4 rfl) rfl
theorem dX4_load_122 : decode cX4_load 122 = .ok (.iconst 2, 1) := fo_5 (fd_n 6 sr_X4_load_4 rfl)
theorem dX4_load_123 : decode cX4_load 123 = .ok (.aaload, 1) := fo_50 (fd_n 7 sr_X4_load_4 rfl)
theorem dX4_load_124 : decode cX4_load 124 = .ok (.iload_n 2, 1) := fo_28 (fd_n 8 sr_X4_load_4 rfl)
theorem dX4_load_125 : decode cX4_load 125 = .ok (.iload 4, 2) := fo_21 (fd_n 9 sr_X4_load_4 rfl) rfl
theorem dX4_load_127 : decode cX4_load 127 = .ok (.iadd, 1) := fo_96 (fd_n 11 sr_X4_load_4 rfl)
theorem dX4_load_128 : decode cX4_load 128 = .ok (.iload 5, 2) := fo_21 (fd_n 12 sr_X4_load_4 rfl) rfl
theorem dX4_load_130 : decode cX4_load 130 = .ok (.iastore, 1) := fo_79 (fd_n 14 sr_X4_load_4 rfl)
theorem dX4_load_131 : decode cX4_load 131 = .ok (.iinc 3 1, 3) := fo_132 (fd_n 15 sr_X4_load_4 rfl) rfl (by decide +kernel)
theorem dX4_load_134 : decode cX4_load 134 = .ok (.iinc 4 1, 3) := fo_132 (fd_n 18 sr_X4_load_4 rfl) rfl (by decide +kernel)
theorem dX4_load_137 : decode cX4_load 137 = .ok (.goto (-86), 3) := fo_167 (fd_n 21 sr_X4_load_4 rfl) (by decide +kernel)
theorem dX4_load_140 : decode cX4_load 140 = .ok (.iload_n 3, 1) := fo_29 (fd_n 24 sr_X4_load_4 rfl)
theorem dX4_load_141 : decode cX4_load 141 = .ok (.ireturn, 1) := fo_172 (fd_n 25 sr_X4_load_4 rfl)
noncomputable def sl_X4_judge_4 : List UInt8 := 180 :: 0 :: 229 :: 27 :: 46 :: 7 :: 160 :: 0 :: 7 :: 3 :: 167 :: 0 :: 6 :: 4 :: 29 :: 96 :: 172 :: []
noncomputable def sl_X4_judge_3 : List UInt8 := 29 :: 46 :: 42 :: 180 :: 0 :: 25 :: 29 :: 4 :: 96 :: 182 :: 0 :: 131 :: 160 :: 0 :: 9 :: 132 :: 3 :: 1 :: 167 :: 255 :: 211 :: 29 :: 7 :: 160 :: 0 :: 20 :: 42 :: 180 :: 0 :: 39 :: sl_X4_judge_4
noncomputable def sl_X4_judge_2 : List UInt8 := 62 :: 29 :: 42 :: 180 :: 0 :: 39 :: 180 :: 0 :: 229 :: 27 :: 46 :: 162 :: 0 :: 38 :: 29 :: 7 :: 162 :: 0 :: 33 :: 42 :: 180 :: 0 :: 39 :: 180 :: 0 :: 245 :: 27 :: 50 :: sl_X4_judge_3
noncomputable def sl_X4_judge_1 : List UInt8 := 172 :: 42 :: 28 :: 182 :: 0 :: 111 :: 154 :: 0 :: 9 :: 42 :: 3 :: 182 :: 0 :: 64 :: 172 :: 42 :: 180 :: 0 :: 25 :: 42 :: 180 :: 0 :: 10 :: 28 :: 182 :: 0 :: 127 :: 3 :: sl_X4_judge_2
noncomputable def sl_X4_judge_0 : List UInt8 := 27 :: 7 :: 184 :: 0 :: 60 :: 154 :: 0 :: 9 :: 42 :: 3 :: 182 :: 0 :: 64 :: 172 :: 42 :: 180 :: 0 :: 39 :: 27 :: 182 :: 0 :: 232 :: 153 :: 0 :: 9 :: 42 :: 8 :: 182 :: 0 :: 64 :: sl_X4_judge_1
theorem sr_X4_judge_0 : fd_at cX4_judge 0 sl_X4_judge_0 := fd_base (by decide +kernel)
theorem sr_X4_judge_1 : fd_at cX4_judge 30 sl_X4_judge_1 := fd_n 30 sr_X4_judge_0 rfl
theorem sr_X4_judge_2 : fd_at cX4_judge 58 sl_X4_judge_2 := fd_n 28 sr_X4_judge_1 rfl
theorem sr_X4_judge_3 : fd_at cX4_judge 86 sl_X4_judge_3 := fd_n 28 sr_X4_judge_2 rfl
theorem sr_X4_judge_4 : fd_at cX4_judge 116 sl_X4_judge_4 := fd_n 30 sr_X4_judge_3 rfl
theorem dX4_judge_0 : decode cX4_judge 0 = .ok (.iload_n 1, 1) := fo_27 sr_X4_judge_0
theorem dX4_judge_1 : decode cX4_judge 1 = .ok (.iconst 4, 1) := fo_7 (fd_n 1 sr_X4_judge_0 rfl)
theorem dX4_judge_2 : decode cX4_judge 2 = .ok (.invokestatic 60, 3) := fo_184 (fd_n 2 sr_X4_judge_0 rfl) rfl
theorem dX4_judge_5 : decode cX4_judge 5 = .ok (.ifCond .ne 9, 3) := fo_154 (fd_n 5 sr_X4_judge_0 rfl) (by decide +kernel)
theorem dX4_judge_8 : decode cX4_judge 8 = .ok (.aload_n 0, 1) := fo_42 (fd_n 8 sr_X4_judge_0 rfl)
theorem dX4_judge_9 : decode cX4_judge 9 = .ok (.iconst 0, 1) := fo_3 (fd_n 9 sr_X4_judge_0 rfl)
theorem dX4_judge_10 : decode cX4_judge 10 = .ok (.invokevirtual 64, 3) := fo_182 (fd_n 10 sr_X4_judge_0 rfl) rfl
theorem dX4_judge_13 : decode cX4_judge 13 = .ok (.ireturn, 1) := fo_172 (fd_n 13 sr_X4_judge_0 rfl)
theorem dX4_judge_14 : decode cX4_judge 14 = .ok (.aload_n 0, 1) := fo_42 (fd_n 14 sr_X4_judge_0 rfl)
theorem dX4_judge_15 : decode cX4_judge 15 = .ok (.getfield 39, 3) := fo_180 (fd_n 15 sr_X4_judge_0 rfl) rfl
theorem dX4_judge_18 : decode cX4_judge 18 = .ok (.iload_n 1, 1) := fo_27 (fd_n 18 sr_X4_judge_0 rfl)
theorem dX4_judge_19 : decode cX4_judge 19 = .ok (.invokevirtual 232, 3) := fo_182 (fd_n 19 sr_X4_judge_0 rfl) rfl
theorem dX4_judge_22 : decode cX4_judge 22 = .ok (.ifCond .eq 9, 3) := fo_153 (fd_n 22 sr_X4_judge_0 rfl) (by decide +kernel)
theorem dX4_judge_25 : decode cX4_judge 25 = .ok (.aload_n 0, 1) := fo_42 (fd_n 25 sr_X4_judge_0 rfl)
theorem dX4_judge_26 : decode cX4_judge 26 = .ok (.iconst 5, 1) := fo_8 (fd_n 26 sr_X4_judge_0 rfl)
theorem dX4_judge_27 : decode cX4_judge 27 = .ok (.invokevirtual 64, 3) := fo_182 (fd_n 27 sr_X4_judge_0 rfl) rfl
theorem dX4_judge_30 : decode cX4_judge 30 = .ok (.ireturn, 1) := fo_172 sr_X4_judge_1
theorem dX4_judge_31 : decode cX4_judge 31 = .ok (.aload_n 0, 1) := fo_42 (fd_n 1 sr_X4_judge_1 rfl)
theorem dX4_judge_32 : decode cX4_judge 32 = .ok (.iload_n 2, 1) := fo_28 (fd_n 2 sr_X4_judge_1 rfl)
theorem dX4_judge_33 : decode cX4_judge 33 = .ok (.invokevirtual 111, 3) := fo_182 (fd_n 3 sr_X4_judge_1 rfl) rfl
theorem dX4_judge_36 : decode cX4_judge 36 = .ok (.ifCond .ne 9, 3) := fo_154 (fd_n 6 sr_X4_judge_1 rfl) (by decide +kernel)
theorem dX4_judge_39 : decode cX4_judge 39 = .ok (.aload_n 0, 1) := fo_42 (fd_n 9 sr_X4_judge_1 rfl)
theorem dX4_judge_40 : decode cX4_judge 40 = .ok (.iconst 0, 1) := fo_3 (fd_n 10 sr_X4_judge_1 rfl)
theorem dX4_judge_41 : decode cX4_judge 41 = .ok (.invokevirtual 64, 3) := fo_182 (fd_n 11 sr_X4_judge_1 rfl) rfl
theorem dX4_judge_44 : decode cX4_judge 44 = .ok (.ireturn, 1) := fo_172 (fd_n 14 sr_X4_judge_1 rfl)
theorem dX4_judge_45 : decode cX4_judge 45 = .ok (.aload_n 0, 1) := fo_42 (fd_n 15 sr_X4_judge_1 rfl)
theorem dX4_judge_46 : decode cX4_judge 46 = .ok (.getfield 25, 3) := fo_180 (fd_n 16 sr_X4_judge_1 rfl) rfl
theorem dX4_judge_49 : decode cX4_judge 49 = .ok (.aload_n 0, 1) := fo_42 (fd_n 19 sr_X4_judge_1 rfl)
theorem dX4_judge_50 : decode cX4_judge 50 = .ok (.getfield 10, 3) := fo_180 (fd_n 20 sr_X4_judge_1 rfl) rfl
theorem dX4_judge_53 : decode cX4_judge 53 = .ok (.iload_n 2, 1) := fo_28 (fd_n 23 sr_X4_judge_1 rfl)
theorem dX4_judge_54 : decode cX4_judge 54 = .ok (.invokevirtual 127, 3) := fo_182 (fd_n 24 sr_X4_judge_1 rfl) rfl
theorem dX4_judge_57 : decode cX4_judge 57 = .ok (.iconst 0, 1) := fo_3 (fd_n 27 sr_X4_judge_1 rfl)
theorem dX4_judge_58 : decode cX4_judge 58 = .ok (.istore_n 3, 1) := fo_62 sr_X4_judge_2
theorem dX4_judge_59 : decode cX4_judge 59 = .ok (.iload_n 3, 1) := fo_29 (fd_n 1 sr_X4_judge_2 rfl)
theorem dX4_judge_60 : decode cX4_judge 60 = .ok (.aload_n 0, 1) := fo_42 (fd_n 2 sr_X4_judge_2 rfl)
theorem dX4_judge_61 : decode cX4_judge 61 = .ok (.getfield 39, 3) := fo_180 (fd_n 3 sr_X4_judge_2 rfl) rfl
theorem dX4_judge_64 : decode cX4_judge 64 = .ok (.getfield 229, 3) := fo_180 (fd_n 6 sr_X4_judge_2 rfl) rfl
theorem dX4_judge_67 : decode cX4_judge 67 = .ok (.iload_n 1, 1) := fo_27 (fd_n 9 sr_X4_judge_2 rfl)
theorem dX4_judge_68 : decode cX4_judge 68 = .ok (.iaload, 1) := fo_46 (fd_n 10 sr_X4_judge_2 rfl)
theorem dX4_judge_69 : decode cX4_judge 69 = .ok (.if_icmp .ge 38, 3) := fo_162 (fd_n 11 sr_X4_judge_2 rfl) (by decide +kernel)
theorem dX4_judge_72 : decode cX4_judge 72 = .ok (.iload_n 3, 1) := fo_29 (fd_n 14 sr_X4_judge_2 rfl)
theorem dX4_judge_73 : decode cX4_judge 73 = .ok (.iconst 4, 1) := fo_7 (fd_n 15 sr_X4_judge_2 rfl)
theorem dX4_judge_74 : decode cX4_judge 74 = .ok (.if_icmp .ge 33, 3) := fo_162 (fd_n 16 sr_X4_judge_2 rfl) (by decide +kernel)
theorem dX4_judge_77 : decode cX4_judge 77 = .ok (.aload_n 0, 1) := fo_42 (fd_n 19 sr_X4_judge_2 rfl)
theorem dX4_judge_78 : decode cX4_judge 78 = .ok (.getfield 39, 3) := fo_180 (fd_n 20 sr_X4_judge_2 rfl) rfl
theorem dX4_judge_81 : decode cX4_judge 81 = .ok (.getfield 245, 3) := fo_180 (fd_n 23 sr_X4_judge_2 rfl) rfl
theorem dX4_judge_84 : decode cX4_judge 84 = .ok (.iload_n 1, 1) := fo_27 (fd_n 26 sr_X4_judge_2 rfl)
theorem dX4_judge_85 : decode cX4_judge 85 = .ok (.aaload, 1) := fo_50 (fd_n 27 sr_X4_judge_2 rfl)
theorem dX4_judge_86 : decode cX4_judge 86 = .ok (.iload_n 3, 1) := fo_29 sr_X4_judge_3
theorem dX4_judge_87 : decode cX4_judge 87 = .ok (.iaload, 1) := fo_46 (fd_n 1 sr_X4_judge_3 rfl)
theorem dX4_judge_88 : decode cX4_judge 88 = .ok (.aload_n 0, 1) := fo_42 (fd_n 2 sr_X4_judge_3 rfl)
theorem dX4_judge_89 : decode cX4_judge 89 = .ok (.getfield 25, 3) := fo_180 (fd_n 3 sr_X4_judge_3 rfl) rfl
theorem dX4_judge_92 : decode cX4_judge 92 = .ok (.iload_n 3, 1) := fo_29 (fd_n 6 sr_X4_judge_3 rfl)
theorem dX4_judge_93 : decode cX4_judge 93 = .ok (.iconst 1, 1) := fo_4 (fd_n 7 sr_X4_judge_3 rfl)
theorem dX4_judge_94 : decode cX4_judge 94 = .ok (.iadd, 1) := fo_96 (fd_n 8 sr_X4_judge_3 rfl)
theorem dX4_judge_95 : decode cX4_judge 95 = .ok (.invokevirtual 131, 3) := fo_182 (fd_n 9 sr_X4_judge_3 rfl) rfl
theorem dX4_judge_98 : decode cX4_judge 98 = .ok (.if_icmp .ne 9, 3) := fo_160 (fd_n 12 sr_X4_judge_3 rfl) (by decide +kernel)
theorem dX4_judge_101 : decode cX4_judge 101 = .ok (.iinc 3 1, 3) := fo_132 (fd_n 15 sr_X4_judge_3 rfl) rfl (by decide +kernel)
theorem dX4_judge_104 : decode cX4_judge 104 = .ok (.goto (-45), 3) := fo_167 (fd_n 18 sr_X4_judge_3 rfl) (by decide +kernel)
theorem dX4_judge_107 : decode cX4_judge 107 = .ok (.iload_n 3, 1) := fo_29 (fd_n 21 sr_X4_judge_3 rfl)
theorem dX4_judge_108 : decode cX4_judge 108 = .ok (.iconst 4, 1) := fo_7 (fd_n 22 sr_X4_judge_3 rfl)
theorem dX4_judge_109 : decode cX4_judge 109 = .ok (.if_icmp .ne 20, 3) := fo_160 (fd_n 23 sr_X4_judge_3 rfl) (by decide +kernel)
theorem dX4_judge_112 : decode cX4_judge 112 = .ok (.aload_n 0, 1) := fo_42 (fd_n 26 sr_X4_judge_3 rfl)
theorem dX4_judge_113 : decode cX4_judge 113 = .ok (.getfield 39, 3) := fo_180 (fd_n 27 sr_X4_judge_3 rfl) rfl
theorem dX4_judge_116 : decode cX4_judge 116 = .ok (.getfield 229, 3) := fo_180 sr_X4_judge_4 rfl
theorem dX4_judge_119 : decode cX4_judge 119 = .ok (.iload_n 1, 1) := fo_27 (fd_n 3 sr_X4_judge_4 rfl)
theorem dX4_judge_120 : decode cX4_judge 120 = .ok (.iaload, 1) := fo_46 (fd_n 4 sr_X4_judge_4 rfl)
theorem dX4_judge_121 : decode cX4_judge 121 = .ok (.iconst 4, 1) := fo_7 (fd_n 5 sr_X4_judge_4 rfl)
theorem dX4_judge_122 : decode cX4_judge 122 = .ok (.if_icmp .ne 7, 3) := fo_160 (fd_n 6 sr_X4_judge_4 rfl) (by decide +kernel)
theorem dX4_judge_125 : decode cX4_judge 125 = .ok (.iconst 0, 1) := fo_3 (fd_n 9 sr_X4_judge_4 rfl)
theorem dX4_judge_126 : decode cX4_judge 126 = .ok (.goto 6, 3) := fo_167 (fd_n 10 sr_X4_judge_4 rfl) (by decide +kernel)
theorem dX4_judge_129 : decode cX4_judge 129 = .ok (.iconst 1, 1) := fo_4 (fd_n 13 sr_X4_judge_4 rfl)
theorem dX4_judge_130 : decode cX4_judge 130 = .ok (.iload_n 3, 1) := fo_29 (fd_n 14 sr_X4_judge_4 rfl)
theorem dX4_judge_131 : decode cX4_judge 131 = .ok (.iadd, 1) := fo_96 (fd_n 15 sr_X4_judge_4 rfl)
theorem dX4_judge_132 : decode cX4_judge 132 = .ok (.ireturn, 1) := fo_172 (fd_n 16 sr_X4_judge_4 rfl)
noncomputable def sl_X4_image_0 : List UInt8 := 42 :: 180 :: 0 :: 16 :: 42 :: 180 :: 0 :: 10 :: 182 :: 0 :: 163 :: 42 :: 4 :: 181 :: 0 :: 56 :: 4 :: 172 :: []
theorem sr_X4_image_0 : fd_at cX4_image 0 sl_X4_image_0 := fd_base (by decide +kernel)
theorem dX4_image_0 : decode cX4_image 0 = .ok (.aload_n 0, 1) := fo_42 sr_X4_image_0
theorem dX4_image_1 : decode cX4_image 1 = .ok (.getfield 16, 3) := fo_180 (fd_n 1 sr_X4_image_0 rfl) rfl
theorem dX4_image_4 : decode cX4_image 4 = .ok (.aload_n 0, 1) := fo_42 (fd_n 4 sr_X4_image_0 rfl)
theorem dX4_image_5 : decode cX4_image 5 = .ok (.getfield 10, 3) := fo_180 (fd_n 5 sr_X4_image_0 rfl) rfl
theorem dX4_image_8 : decode cX4_image 8 = .ok (.invokevirtual 163, 3) := fo_182 (fd_n 8 sr_X4_image_0 rfl) rfl
theorem dX4_image_11 : decode cX4_image 11 = .ok (.aload_n 0, 1) := fo_42 (fd_n 11 sr_X4_image_0 rfl)
theorem dX4_image_12 : decode cX4_image 12 = .ok (.iconst 1, 1) := fo_4 (fd_n 12 sr_X4_image_0 rfl)
theorem dX4_image_13 : decode cX4_image 13 = .ok (.putfield 56, 3) := fo_181 (fd_n 13 sr_X4_image_0 rfl) rfl
theorem dX4_image_16 : decode cX4_image 16 = .ok (.iconst 1, 1) := fo_4 (fd_n 16 sr_X4_image_0 rfl)
theorem dX4_image_17 : decode cX4_image 17 = .ok (.ireturn, 1) := fo_172 (fd_n 17 sr_X4_image_0 rfl)
noncomputable def sl_X4_undo_1 : List UInt8 := 180 :: 0 :: 157 :: 172 :: []
noncomputable def sl_X4_undo_0 : List UInt8 := 42 :: 180 :: 0 :: 56 :: 154 :: 0 :: 9 :: 42 :: 6 :: 182 :: 0 :: 64 :: 172 :: 42 :: 180 :: 0 :: 10 :: 42 :: 180 :: 0 :: 16 :: 182 :: 0 :: 163 :: 42 :: 180 :: 0 :: 10 :: sl_X4_undo_1
theorem sr_X4_undo_0 : fd_at cX4_undo 0 sl_X4_undo_0 := fd_base (by decide +kernel)
theorem sr_X4_undo_1 : fd_at cX4_undo 28 sl_X4_undo_1 := fd_n 28 sr_X4_undo_0 rfl
theorem dX4_undo_0 : decode cX4_undo 0 = .ok (.aload_n 0, 1) := fo_42 sr_X4_undo_0
theorem dX4_undo_1 : decode cX4_undo 1 = .ok (.getfield 56, 3) := fo_180 (fd_n 1 sr_X4_undo_0 rfl) rfl
theorem dX4_undo_4 : decode cX4_undo 4 = .ok (.ifCond .ne 9, 3) := fo_154 (fd_n 4 sr_X4_undo_0 rfl) (by decide +kernel)
theorem dX4_undo_7 : decode cX4_undo 7 = .ok (.aload_n 0, 1) := fo_42 (fd_n 7 sr_X4_undo_0 rfl)
theorem dX4_undo_8 : decode cX4_undo 8 = .ok (.iconst 3, 1) := fo_6 (fd_n 8 sr_X4_undo_0 rfl)
theorem dX4_undo_9 : decode cX4_undo 9 = .ok (.invokevirtual 64, 3) := fo_182 (fd_n 9 sr_X4_undo_0 rfl) rfl
theorem dX4_undo_12 : decode cX4_undo 12 = .ok (.ireturn, 1) := fo_172 (fd_n 12 sr_X4_undo_0 rfl)
theorem dX4_undo_13 : decode cX4_undo 13 = .ok (.aload_n 0, 1) := fo_42 (fd_n 13 sr_X4_undo_0 rfl)
theorem dX4_undo_14 : decode cX4_undo 14 = .ok (.getfield 10, 3) := fo_180 (fd_n 14 sr_X4_undo_0 rfl) rfl
theorem dX4_undo_17 : decode cX4_undo 17 = .ok (.aload_n 0, 1) := fo_42 (fd_n 17 sr_X4_undo_0 rfl)
theorem dX4_undo_18 : decode cX4_undo 18 = .ok (.getfield 16, 3) := fo_180 (fd_n 18 sr_X4_undo_0 rfl) rfl
theorem dX4_undo_21 : decode cX4_undo 21 = .ok (.invokevirtual 163, 3) := fo_182 (fd_n 21 sr_X4_undo_0 rfl) rfl
theorem dX4_undo_24 : decode cX4_undo 24 = .ok (.aload_n 0, 1) := fo_42 (fd_n 24 sr_X4_undo_0 rfl)
theorem dX4_undo_25 : decode cX4_undo 25 = .ok (.getfield 10, 3) := fo_180 (fd_n 25 sr_X4_undo_0 rfl) rfl
theorem dX4_undo_28 : decode cX4_undo 28 = .ok (.getfield 157, 3) := fo_180 sr_X4_undo_1 rfl
theorem dX4_undo_31 : decode cX4_undo 31 = .ok (.ireturn, 1) := fo_172 (fd_n 3 sr_X4_undo_1 rfl)
noncomputable def sl_X4_tear_0 : List UInt8 := 42 :: 180 :: 0 :: 56 :: 153 :: 0 :: 7 :: 4 :: 167 :: 0 :: 4 :: 3 :: 60 :: 42 :: 3 :: 181 :: 0 :: 56 :: 27 :: 172 :: []
theorem sr_X4_tear_0 : fd_at cX4_tear 0 sl_X4_tear_0 := fd_base (by decide +kernel)
theorem dX4_tear_0 : decode cX4_tear 0 = .ok (.aload_n 0, 1) := fo_42 sr_X4_tear_0
theorem dX4_tear_1 : decode cX4_tear 1 = .ok (.getfield 56, 3) := fo_180 (fd_n 1 sr_X4_tear_0 rfl) rfl
theorem dX4_tear_4 : decode cX4_tear 4 = .ok (.ifCond .eq 7, 3) := fo_153 (fd_n 4 sr_X4_tear_0 rfl) (by decide +kernel)
theorem dX4_tear_7 : decode cX4_tear 7 = .ok (.iconst 1, 1) := fo_4 (fd_n 7 sr_X4_tear_0 rfl)
theorem dX4_tear_8 : decode cX4_tear 8 = .ok (.goto 4, 3) := fo_167 (fd_n 8 sr_X4_tear_0 rfl) (by decide +kernel)
theorem dX4_tear_11 : decode cX4_tear 11 = .ok (.iconst 0, 1) := fo_3 (fd_n 11 sr_X4_tear_0 rfl)
theorem dX4_tear_12 : decode cX4_tear 12 = .ok (.istore_n 1, 1) := fo_60 (fd_n 12 sr_X4_tear_0 rfl)
theorem dX4_tear_13 : decode cX4_tear 13 = .ok (.aload_n 0, 1) := fo_42 (fd_n 13 sr_X4_tear_0 rfl)
theorem dX4_tear_14 : decode cX4_tear 14 = .ok (.iconst 0, 1) := fo_3 (fd_n 14 sr_X4_tear_0 rfl)
theorem dX4_tear_15 : decode cX4_tear 15 = .ok (.putfield 56, 3) := fo_181 (fd_n 15 sr_X4_tear_0 rfl) rfl
theorem dX4_tear_18 : decode cX4_tear 18 = .ok (.iload_n 1, 1) := fo_27 (fd_n 18 sr_X4_tear_0 rfl)
theorem dX4_tear_19 : decode cX4_tear 19 = .ok (.ireturn, 1) := fo_172 (fd_n 19 sr_X4_tear_0 rfl)
noncomputable def sl_X4_count_3 : List UInt8 := 42 :: 180 :: 0 :: 10 :: 182 :: 1 :: 4 :: 172 :: 42 :: 3 :: 182 :: 0 :: 64 :: 172 :: []
noncomputable def sl_X4_count_2 : List UInt8 := 182 :: 0 :: 254 :: 172 :: 42 :: 180 :: 0 :: 10 :: 182 :: 1 :: 1 :: 172 :: 42 :: 180 :: 0 :: 32 :: 180 :: 0 :: 207 :: 172 :: 42 :: 180 :: 0 :: 10 :: 180 :: 0 :: 204 :: 172 :: sl_X4_count_3
noncomputable def sl_X4_count_1 : List UInt8 := 42 :: 180 :: 0 :: 10 :: 180 :: 0 :: 157 :: 172 :: 42 :: 180 :: 0 :: 10 :: 182 :: 0 :: 76 :: 172 :: 42 :: 180 :: 0 :: 10 :: 180 :: 0 :: 103 :: 172 :: 42 :: 180 :: 0 :: 10 :: sl_X4_count_2
noncomputable def sl_X4_count_0 : List UInt8 := 27 :: 170 :: 0 :: 0 :: 0 :: 0 :: 0 :: 111 :: 0 :: 0 :: 0 :: 0 :: 0 :: 0 :: 0 :: 7 :: 0 :: 0 :: 0 :: 47 :: 0 :: 0 :: 0 :: 55 :: 0 :: 0 :: 0 :: 63 :: 0 :: 0 :: 0 :: 71 :: 0 :: 0 :: 0 :: 79 :: 0 :: 0 :: 0 :: 87 :: 0 :: 0 :: 0 :: 95 :: 0 :: 0 :: 0 :: 103 :: sl_X4_count_1
theorem sr_X4_count_0 : fd_at cX4_count 0 sl_X4_count_0 := fd_base (by decide +kernel)
theorem sr_X4_count_1 : fd_at cX4_count 48 sl_X4_count_1 := fd_n 48 sr_X4_count_0 rfl
theorem sr_X4_count_2 : fd_at cX4_count 76 sl_X4_count_2 := fd_n 28 sr_X4_count_1 rfl
theorem sr_X4_count_3 : fd_at cX4_count 104 sl_X4_count_3 := fd_n 28 sr_X4_count_2 rfl
theorem dX4_count_0 : decode cX4_count 0 = .ok (.iload_n 1, 1) := fo_27 sr_X4_count_0
theorem dX4_count_48 : decode cX4_count 48 = .ok (.aload_n 0, 1) := fo_42 sr_X4_count_1
theorem dX4_count_49 : decode cX4_count 49 = .ok (.getfield 10, 3) := fo_180 (fd_n 1 sr_X4_count_1 rfl) rfl
theorem dX4_count_52 : decode cX4_count 52 = .ok (.getfield 157, 3) := fo_180 (fd_n 4 sr_X4_count_1 rfl) rfl
theorem dX4_count_55 : decode cX4_count 55 = .ok (.ireturn, 1) := fo_172 (fd_n 7 sr_X4_count_1 rfl)
theorem dX4_count_56 : decode cX4_count 56 = .ok (.aload_n 0, 1) := fo_42 (fd_n 8 sr_X4_count_1 rfl)
theorem dX4_count_57 : decode cX4_count 57 = .ok (.getfield 10, 3) := fo_180 (fd_n 9 sr_X4_count_1 rfl) rfl
theorem dX4_count_60 : decode cX4_count 60 = .ok (.invokevirtual 76, 3) := fo_182 (fd_n 12 sr_X4_count_1 rfl) rfl
theorem dX4_count_63 : decode cX4_count 63 = .ok (.ireturn, 1) := fo_172 (fd_n 15 sr_X4_count_1 rfl)
theorem dX4_count_64 : decode cX4_count 64 = .ok (.aload_n 0, 1) := fo_42 (fd_n 16 sr_X4_count_1 rfl)
theorem dX4_count_65 : decode cX4_count 65 = .ok (.getfield 10, 3) := fo_180 (fd_n 17 sr_X4_count_1 rfl) rfl
theorem dX4_count_68 : decode cX4_count 68 = .ok (.getfield 103, 3) := fo_180 (fd_n 20 sr_X4_count_1 rfl) rfl
theorem dX4_count_71 : decode cX4_count 71 = .ok (.ireturn, 1) := fo_172 (fd_n 23 sr_X4_count_1 rfl)
theorem dX4_count_72 : decode cX4_count 72 = .ok (.aload_n 0, 1) := fo_42 (fd_n 24 sr_X4_count_1 rfl)
theorem dX4_count_73 : decode cX4_count 73 = .ok (.getfield 10, 3) := fo_180 (fd_n 25 sr_X4_count_1 rfl) rfl
theorem dX4_count_76 : decode cX4_count 76 = .ok (.invokevirtual 254, 3) := fo_182 sr_X4_count_2 rfl
theorem dX4_count_79 : decode cX4_count 79 = .ok (.ireturn, 1) := fo_172 (fd_n 3 sr_X4_count_2 rfl)
theorem dX4_count_80 : decode cX4_count 80 = .ok (.aload_n 0, 1) := fo_42 (fd_n 4 sr_X4_count_2 rfl)
theorem dX4_count_81 : decode cX4_count 81 = .ok (.getfield 10, 3) := fo_180 (fd_n 5 sr_X4_count_2 rfl) rfl
theorem dX4_count_84 : decode cX4_count 84 = .ok (.invokevirtual 257, 3) := fo_182 (fd_n 8 sr_X4_count_2 rfl) rfl
theorem dX4_count_87 : decode cX4_count 87 = .ok (.ireturn, 1) := fo_172 (fd_n 11 sr_X4_count_2 rfl)
theorem dX4_count_88 : decode cX4_count 88 = .ok (.aload_n 0, 1) := fo_42 (fd_n 12 sr_X4_count_2 rfl)
theorem dX4_count_89 : decode cX4_count 89 = .ok (.getfield 32, 3) := fo_180 (fd_n 13 sr_X4_count_2 rfl) rfl
theorem dX4_count_92 : decode cX4_count 92 = .ok (.getfield 207, 3) := fo_180 (fd_n 16 sr_X4_count_2 rfl) rfl
theorem dX4_count_95 : decode cX4_count 95 = .ok (.ireturn, 1) := fo_172 (fd_n 19 sr_X4_count_2 rfl)
theorem dX4_count_96 : decode cX4_count 96 = .ok (.aload_n 0, 1) := fo_42 (fd_n 20 sr_X4_count_2 rfl)
theorem dX4_count_97 : decode cX4_count 97 = .ok (.getfield 10, 3) := fo_180 (fd_n 21 sr_X4_count_2 rfl) rfl
theorem dX4_count_100 : decode cX4_count 100 = .ok (.getfield 204, 3) := fo_180 (fd_n 24 sr_X4_count_2 rfl) rfl
theorem dX4_count_103 : decode cX4_count 103 = .ok (.ireturn, 1) := fo_172 (fd_n 27 sr_X4_count_2 rfl)
theorem dX4_count_104 : decode cX4_count 104 = .ok (.aload_n 0, 1) := fo_42 sr_X4_count_3
theorem dX4_count_105 : decode cX4_count 105 = .ok (.getfield 10, 3) := fo_180 (fd_n 1 sr_X4_count_3 rfl) rfl
theorem dX4_count_108 : decode cX4_count 108 = .ok (.invokevirtual 260, 3) := fo_182 (fd_n 4 sr_X4_count_3 rfl) rfl
theorem dX4_count_111 : decode cX4_count 111 = .ok (.ireturn, 1) := fo_172 (fd_n 7 sr_X4_count_3 rfl)
theorem dX4_count_112 : decode cX4_count 112 = .ok (.aload_n 0, 1) := fo_42 (fd_n 8 sr_X4_count_3 rfl)
theorem dX4_count_113 : decode cX4_count 113 = .ok (.iconst 0, 1) := fo_3 (fd_n 9 sr_X4_count_3 rfl)
theorem dX4_count_114 : decode cX4_count 114 = .ok (.invokevirtual 64, 3) := fo_182 (fd_n 10 sr_X4_count_3 rfl) rfl
theorem dX4_count_117 : decode cX4_count 117 = .ok (.ireturn, 1) := fo_172 (fd_n 13 sr_X4_count_3 rfl)
theorem dX4_count_1 : decode cX4_count 1 = .ok (.tableswitch 111 0 7 #[47, 55, 63, 71, 79, 87, 95, 103], 47) := by decide +kernel
noncomputable def sl_X4_status_1 : List UInt8 := 28 :: 172 :: 27 :: 16 :: 7 :: 184 :: 0 :: 60 :: 153 :: 0 :: 12 :: 42 :: 180 :: 0 :: 43 :: 27 :: 46 :: 167 :: 0 :: 8 :: 42 :: 3 :: 182 :: 0 :: 64 :: 172 :: []
noncomputable def sl_X4_status_0 : List UInt8 := 27 :: 2 :: 160 :: 0 :: 30 :: 3 :: 61 :: 3 :: 62 :: 29 :: 16 :: 7 :: 162 :: 0 :: 18 :: 28 :: 42 :: 180 :: 0 :: 43 :: 29 :: 46 :: 96 :: 61 :: 132 :: 3 :: 1 :: 167 :: 255 :: 238 :: sl_X4_status_1
theorem sr_X4_status_0 : fd_at cX4_status 0 sl_X4_status_0 := fd_base (by decide +kernel)
theorem sr_X4_status_1 : fd_at cX4_status 30 sl_X4_status_1 := fd_n 30 sr_X4_status_0 rfl
theorem dX4_status_0 : decode cX4_status 0 = .ok (.iload_n 1, 1) := fo_27 sr_X4_status_0
theorem dX4_status_1 : decode cX4_status 1 = .ok (.iconst (-1), 1) := fo_2 (fd_n 1 sr_X4_status_0 rfl)
theorem dX4_status_2 : decode cX4_status 2 = .ok (.if_icmp .ne 30, 3) := fo_160 (fd_n 2 sr_X4_status_0 rfl) (by decide +kernel)
theorem dX4_status_5 : decode cX4_status 5 = .ok (.iconst 0, 1) := fo_3 (fd_n 5 sr_X4_status_0 rfl)
theorem dX4_status_6 : decode cX4_status 6 = .ok (.istore_n 2, 1) := fo_61 (fd_n 6 sr_X4_status_0 rfl)
theorem dX4_status_7 : decode cX4_status 7 = .ok (.iconst 0, 1) := fo_3 (fd_n 7 sr_X4_status_0 rfl)
theorem dX4_status_8 : decode cX4_status 8 = .ok (.istore_n 3, 1) := fo_62 (fd_n 8 sr_X4_status_0 rfl)
theorem dX4_status_9 : decode cX4_status 9 = .ok (.iload_n 3, 1) := fo_29 (fd_n 9 sr_X4_status_0 rfl)
theorem dX4_status_10 : decode cX4_status 10 = .ok (.bipush 7, 2) := fo_16 (fd_n 10 sr_X4_status_0 rfl) (by decide +kernel)
theorem dX4_status_12 : decode cX4_status 12 = .ok (.if_icmp .ge 18, 3) := fo_162 (fd_n 12 sr_X4_status_0 rfl) (by decide +kernel)
theorem dX4_status_15 : decode cX4_status 15 = .ok (.iload_n 2, 1) := fo_28 (fd_n 15 sr_X4_status_0 rfl)
theorem dX4_status_16 : decode cX4_status 16 = .ok (.aload_n 0, 1) := fo_42 (fd_n 16 sr_X4_status_0 rfl)
theorem dX4_status_17 : decode cX4_status 17 = .ok (.getfield 43, 3) := fo_180 (fd_n 17 sr_X4_status_0 rfl) rfl
theorem dX4_status_20 : decode cX4_status 20 = .ok (.iload_n 3, 1) := fo_29 (fd_n 20 sr_X4_status_0 rfl)
theorem dX4_status_21 : decode cX4_status 21 = .ok (.iaload, 1) := fo_46 (fd_n 21 sr_X4_status_0 rfl)
theorem dX4_status_22 : decode cX4_status 22 = .ok (.iadd, 1) := fo_96 (fd_n 22 sr_X4_status_0 rfl)
theorem dX4_status_23 : decode cX4_status 23 = .ok (.istore_n 2, 1) := fo_61 (fd_n 23 sr_X4_status_0 rfl)
theorem dX4_status_24 : decode cX4_status 24 = .ok (.iinc 3 1, 3) := fo_132 (fd_n 24 sr_X4_status_0 rfl) rfl (by decide +kernel)
theorem dX4_status_27 : decode cX4_status 27 = .ok (.goto (-18), 3) := fo_167 (fd_n 27 sr_X4_status_0 rfl) (by decide +kernel)
theorem dX4_status_30 : decode cX4_status 30 = .ok (.iload_n 2, 1) := fo_28 sr_X4_status_1
theorem dX4_status_31 : decode cX4_status 31 = .ok (.ireturn, 1) := fo_172 (fd_n 1 sr_X4_status_1 rfl)
theorem dX4_status_32 : decode cX4_status 32 = .ok (.iload_n 1, 1) := fo_27 (fd_n 2 sr_X4_status_1 rfl)
theorem dX4_status_33 : decode cX4_status 33 = .ok (.bipush 7, 2) := fo_16 (fd_n 3 sr_X4_status_1 rfl) (by decide +kernel)
theorem dX4_status_35 : decode cX4_status 35 = .ok (.invokestatic 60, 3) := fo_184 (fd_n 5 sr_X4_status_1 rfl) rfl
theorem dX4_status_38 : decode cX4_status 38 = .ok (.ifCond .eq 12, 3) := fo_153 (fd_n 8 sr_X4_status_1 rfl) (by decide +kernel)
theorem dX4_status_41 : decode cX4_status 41 = .ok (.aload_n 0, 1) := fo_42 (fd_n 11 sr_X4_status_1 rfl)
theorem dX4_status_42 : decode cX4_status 42 = .ok (.getfield 43, 3) := fo_180 (fd_n 12 sr_X4_status_1 rfl) rfl
theorem dX4_status_45 : decode cX4_status 45 = .ok (.iload_n 1, 1) := fo_27 (fd_n 15 sr_X4_status_1 rfl)
theorem dX4_status_46 : decode cX4_status 46 = .ok (.iaload, 1) := fo_46 (fd_n 16 sr_X4_status_1 rfl)
theorem dX4_status_47 : decode cX4_status 47 = .ok (.goto 8, 3) := fo_167 (fd_n 17 sr_X4_status_1 rfl) (by decide +kernel)
theorem dX4_status_50 : decode cX4_status 50 = .ok (.aload_n 0, 1) := fo_42 (fd_n 20 sr_X4_status_1 rfl)
theorem dX4_status_51 : decode cX4_status 51 = .ok (.iconst 0, 1) := fo_3 (fd_n 21 sr_X4_status_1 rfl)
theorem dX4_status_52 : decode cX4_status 52 = .ok (.invokevirtual 64, 3) := fo_182 (fd_n 22 sr_X4_status_1 rfl) rfl
theorem dX4_status_55 : decode cX4_status 55 = .ok (.ireturn, 1) := fo_172 (fd_n 25 sr_X4_status_1 rfl)
noncomputable def sl_X4_finding_0 : List UInt8 := 42 :: 180 :: 0 :: 43 :: 27 :: 92 :: 46 :: 4 :: 96 :: 79 :: 19 :: 1 :: 7 :: 27 :: 100 :: 172 :: []
theorem sr_X4_finding_0 : fd_at cX4_finding 0 sl_X4_finding_0 := fd_base (by decide +kernel)
theorem dX4_finding_0 : decode cX4_finding 0 = .ok (.aload_n 0, 1) := fo_42 sr_X4_finding_0
theorem dX4_finding_1 : decode cX4_finding 1 = .ok (.getfield 43, 3) := fo_180 (fd_n 1 sr_X4_finding_0 rfl) rfl
theorem dX4_finding_4 : decode cX4_finding 4 = .ok (.iload_n 1, 1) := fo_27 (fd_n 4 sr_X4_finding_0 rfl)
theorem dX4_finding_5 : decode cX4_finding 5 = .ok (.dup2, 1) := fo_92 (fd_n 5 sr_X4_finding_0 rfl)
theorem dX4_finding_6 : decode cX4_finding 6 = .ok (.iaload, 1) := fo_46 (fd_n 6 sr_X4_finding_0 rfl)
theorem dX4_finding_7 : decode cX4_finding 7 = .ok (.iconst 1, 1) := fo_4 (fd_n 7 sr_X4_finding_0 rfl)
theorem dX4_finding_8 : decode cX4_finding 8 = .ok (.iadd, 1) := fo_96 (fd_n 8 sr_X4_finding_0 rfl)
theorem dX4_finding_9 : decode cX4_finding 9 = .ok (.iastore, 1) := fo_79 (fd_n 9 sr_X4_finding_0 rfl)
theorem dX4_finding_10 : decode cX4_finding 10 = .ok (.ldc_w 263, 3) := fo_19 (fd_n 10 sr_X4_finding_0 rfl) rfl
theorem dX4_finding_13 : decode cX4_finding 13 = .ok (.iload_n 1, 1) := fo_27 (fd_n 13 sr_X4_finding_0 rfl)
theorem dX4_finding_14 : decode cX4_finding 14 = .ok (.isub, 1) := fo_100 (fd_n 14 sr_X4_finding_0 rfl)
theorem dX4_finding_15 : decode cX4_finding 15 = .ok (.ireturn, 1) := fo_172 (fd_n 15 sr_X4_finding_0 rfl)
noncomputable def sl_X4_within_0 : List UInt8 := 26 :: 155 :: 0 :: 12 :: 26 :: 27 :: 162 :: 0 :: 7 :: 4 :: 167 :: 0 :: 4 :: 3 :: 172 :: []
theorem sr_X4_within_0 : fd_at cX4_within 0 sl_X4_within_0 := fd_base (by decide +kernel)
theorem dX4_within_0 : decode cX4_within 0 = .ok (.iload_n 0, 1) := fo_26 sr_X4_within_0
theorem dX4_within_1 : decode cX4_within 1 = .ok (.ifCond .lt 12, 3) := fo_155 (fd_n 1 sr_X4_within_0 rfl) (by decide +kernel)
theorem dX4_within_4 : decode cX4_within 4 = .ok (.iload_n 0, 1) := fo_26 (fd_n 4 sr_X4_within_0 rfl)
theorem dX4_within_5 : decode cX4_within 5 = .ok (.iload_n 1, 1) := fo_27 (fd_n 5 sr_X4_within_0 rfl)
theorem dX4_within_6 : decode cX4_within 6 = .ok (.if_icmp .ge 7, 3) := fo_162 (fd_n 6 sr_X4_within_0 rfl) (by decide +kernel)
theorem dX4_within_9 : decode cX4_within 9 = .ok (.iconst 1, 1) := fo_4 (fd_n 9 sr_X4_within_0 rfl)
theorem dX4_within_10 : decode cX4_within 10 = .ok (.goto 4, 3) := fo_167 (fd_n 10 sr_X4_within_0 rfl) (by decide +kernel)
theorem dX4_within_13 : decode cX4_within 13 = .ok (.iconst 0, 1) := fo_3 (fd_n 13 sr_X4_within_0 rfl)
theorem dX4_within_14 : decode cX4_within 14 = .ok (.ireturn, 1) := fo_172 (fd_n 14 sr_X4_within_0 rfl)
noncomputable def sl_X4_isWindow_0 : List UInt8 := 27 :: 42 :: 180 :: 0 :: 10 :: 180 :: 0 :: 103 :: 184 :: 0 :: 60 :: 172 :: []
theorem sr_X4_isWindow_0 : fd_at cX4_isWindow 0 sl_X4_isWindow_0 := fd_base (by decide +kernel)
theorem dX4_isWindow_0 : decode cX4_isWindow 0 = .ok (.iload_n 1, 1) := fo_27 sr_X4_isWindow_0
theorem dX4_isWindow_1 : decode cX4_isWindow 1 = .ok (.aload_n 0, 1) := fo_42 (fd_n 1 sr_X4_isWindow_0 rfl)
theorem dX4_isWindow_2 : decode cX4_isWindow 2 = .ok (.getfield 10, 3) := fo_180 (fd_n 2 sr_X4_isWindow_0 rfl) rfl
theorem dX4_isWindow_5 : decode cX4_isWindow 5 = .ok (.getfield 103, 3) := fo_180 (fd_n 5 sr_X4_isWindow_0 rfl) rfl
theorem dX4_isWindow_8 : decode cX4_isWindow 8 = .ok (.invokestatic 60, 3) := fo_184 (fd_n 8 sr_X4_isWindow_0 rfl) rfl
theorem dX4_isWindow_11 : decode cX4_isWindow 11 = .ok (.ireturn, 1) := fo_172 (fd_n 11 sr_X4_isWindow_0 rfl)
noncomputable def sl_X4_thingLimit_1 : List UInt8 := 16 :: 7 :: 172 :: 7 :: 172 :: 16 :: 10 :: 172 :: 7 :: 172 :: []
noncomputable def sl_X4_thingLimit_0 : List UInt8 := 26 :: 170 :: 0 :: 0 :: 0 :: 0 :: 0 :: 35 :: 0 :: 0 :: 0 :: 0 :: 0 :: 0 :: 0 :: 2 :: 0 :: 0 :: 0 :: 27 :: 0 :: 0 :: 0 :: 30 :: 0 :: 0 :: 0 :: 32 :: sl_X4_thingLimit_1
theorem sr_X4_thingLimit_0 : fd_at cX4_thingLimit 0 sl_X4_thingLimit_0 := fd_base (by decide +kernel)
theorem sr_X4_thingLimit_1 : fd_at cX4_thingLimit 28 sl_X4_thingLimit_1 := fd_n 28 sr_X4_thingLimit_0 rfl
theorem dX4_thingLimit_0 : decode cX4_thingLimit 0 = .ok (.iload_n 0, 1) := fo_26 sr_X4_thingLimit_0
theorem dX4_thingLimit_28 : decode cX4_thingLimit 28 = .ok (.bipush 7, 2) := fo_16 sr_X4_thingLimit_1 (by decide +kernel)
theorem dX4_thingLimit_30 : decode cX4_thingLimit 30 = .ok (.ireturn, 1) := fo_172 (fd_n 2 sr_X4_thingLimit_1 rfl)
theorem dX4_thingLimit_31 : decode cX4_thingLimit 31 = .ok (.iconst 4, 1) := fo_7 (fd_n 3 sr_X4_thingLimit_1 rfl)
theorem dX4_thingLimit_32 : decode cX4_thingLimit 32 = .ok (.ireturn, 1) := fo_172 (fd_n 4 sr_X4_thingLimit_1 rfl)
theorem dX4_thingLimit_33 : decode cX4_thingLimit 33 = .ok (.bipush 10, 2) := fo_16 (fd_n 5 sr_X4_thingLimit_1 rfl) (by decide +kernel)
theorem dX4_thingLimit_35 : decode cX4_thingLimit 35 = .ok (.ireturn, 1) := fo_172 (fd_n 7 sr_X4_thingLimit_1 rfl)
theorem dX4_thingLimit_36 : decode cX4_thingLimit 36 = .ok (.iconst 4, 1) := fo_7 (fd_n 8 sr_X4_thingLimit_1 rfl)
theorem dX4_thingLimit_37 : decode cX4_thingLimit 37 = .ok (.ireturn, 1) := fo_172 (fd_n 9 sr_X4_thingLimit_1 rfl)
theorem dX4_thingLimit_1 : decode cX4_thingLimit 1 = .ok (.tableswitch 35 0 2 #[27, 30, 32], 27) := by decide +kernel
noncomputable def sl_X4_windowLimit_1 : List UInt8 := 16 :: 10 :: 172 :: 7 :: 172 :: 7 :: 172 :: []
noncomputable def sl_X4_windowLimit_0 : List UInt8 := 26 :: 171 :: 0 :: 0 :: 0 :: 0 :: 0 :: 32 :: 0 :: 0 :: 0 :: 2 :: 0 :: 0 :: 0 :: 1 :: 0 :: 0 :: 0 :: 27 :: 0 :: 0 :: 0 :: 2 :: 0 :: 0 :: 0 :: 30 :: sl_X4_windowLimit_1
theorem sr_X4_windowLimit_0 : fd_at cX4_windowLimit 0 sl_X4_windowLimit_0 := fd_base (by decide +kernel)
theorem sr_X4_windowLimit_1 : fd_at cX4_windowLimit 28 sl_X4_windowLimit_1 := fd_n 28 sr_X4_windowLimit_0 rfl
theorem dX4_windowLimit_0 : decode cX4_windowLimit 0 = .ok (.iload_n 0, 1) := fo_26 sr_X4_windowLimit_0
theorem dX4_windowLimit_28 : decode cX4_windowLimit 28 = .ok (.bipush 10, 2) := fo_16 sr_X4_windowLimit_1 (by decide +kernel)
theorem dX4_windowLimit_30 : decode cX4_windowLimit 30 = .ok (.ireturn, 1) := fo_172 (fd_n 2 sr_X4_windowLimit_1 rfl)
theorem dX4_windowLimit_31 : decode cX4_windowLimit 31 = .ok (.iconst 4, 1) := fo_7 (fd_n 3 sr_X4_windowLimit_1 rfl)
theorem dX4_windowLimit_32 : decode cX4_windowLimit 32 = .ok (.ireturn, 1) := fo_172 (fd_n 4 sr_X4_windowLimit_1 rfl)
theorem dX4_windowLimit_33 : decode cX4_windowLimit 33 = .ok (.iconst 4, 1) := fo_7 (fd_n 5 sr_X4_windowLimit_1 rfl)
theorem dX4_windowLimit_34 : decode cX4_windowLimit 34 = .ok (.ireturn, 1) := fo_172 (fd_n 6 sr_X4_windowLimit_1 rfl)
theorem dX4_windowLimit_1 : decode cX4_windowLimit 1 = .ok (.lookupswitch 32 #[(1, 27), (2, 30)], 27) := by decide +kernel
noncomputable def sl_X4_isOfKind_0 : List UInt8 := 27 :: 153 :: 0 :: 16 :: 26 :: 27 :: 159 :: 0 :: 11 :: 26 :: 184 :: 1 :: 8 :: 27 :: 160 :: 0 :: 7 :: 4 :: 167 :: 0 :: 4 :: 3 :: 172 :: []
theorem sr_X4_isOfKind_0 : fd_at cX4_isOfKind 0 sl_X4_isOfKind_0 := fd_base (by decide +kernel)
theorem dX4_isOfKind_0 : decode cX4_isOfKind 0 = .ok (.iload_n 1, 1) := fo_27 sr_X4_isOfKind_0
theorem dX4_isOfKind_1 : decode cX4_isOfKind 1 = .ok (.ifCond .eq 16, 3) := fo_153 (fd_n 1 sr_X4_isOfKind_0 rfl) (by decide +kernel)
theorem dX4_isOfKind_4 : decode cX4_isOfKind 4 = .ok (.iload_n 0, 1) := fo_26 (fd_n 4 sr_X4_isOfKind_0 rfl)
theorem dX4_isOfKind_5 : decode cX4_isOfKind 5 = .ok (.iload_n 1, 1) := fo_27 (fd_n 5 sr_X4_isOfKind_0 rfl)
theorem dX4_isOfKind_6 : decode cX4_isOfKind 6 = .ok (.if_icmp .eq 11, 3) := fo_159 (fd_n 6 sr_X4_isOfKind_0 rfl) (by decide +kernel)
theorem dX4_isOfKind_9 : decode cX4_isOfKind 9 = .ok (.iload_n 0, 1) := fo_26 (fd_n 9 sr_X4_isOfKind_0 rfl)
theorem dX4_isOfKind_10 : decode cX4_isOfKind 10 = .ok (.invokestatic 264, 3) := fo_184 (fd_n 10 sr_X4_isOfKind_0 rfl) rfl
theorem dX4_isOfKind_13 : decode cX4_isOfKind 13 = .ok (.iload_n 1, 1) := fo_27 (fd_n 13 sr_X4_isOfKind_0 rfl)
theorem dX4_isOfKind_14 : decode cX4_isOfKind 14 = .ok (.if_icmp .ne 7, 3) := fo_160 (fd_n 14 sr_X4_isOfKind_0 rfl) (by decide +kernel)
theorem dX4_isOfKind_17 : decode cX4_isOfKind 17 = .ok (.iconst 1, 1) := fo_4 (fd_n 17 sr_X4_isOfKind_0 rfl)
theorem dX4_isOfKind_18 : decode cX4_isOfKind 18 = .ok (.goto 4, 3) := fo_167 (fd_n 18 sr_X4_isOfKind_0 rfl) (by decide +kernel)
theorem dX4_isOfKind_21 : decode cX4_isOfKind 21 = .ok (.iconst 0, 1) := fo_3 (fd_n 21 sr_X4_isOfKind_0 rfl)
theorem dX4_isOfKind_22 : decode cX4_isOfKind 22 = .ok (.ireturn, 1) := fo_172 (fd_n 22 sr_X4_isOfKind_0 rfl)
noncomputable def sl_X4_kindAbove_1 : List UInt8 := 4 :: 172 :: 5 :: 172 :: 8 :: 172 :: 3 :: 172 :: []
noncomputable def sl_X4_kindAbove_0 : List UInt8 := 26 :: 170 :: 0 :: 0 :: 0 :: 0 :: 0 :: 37 :: 0 :: 0 :: 0 :: 3 :: 0 :: 0 :: 0 :: 6 :: 0 :: 0 :: 0 :: 31 :: 0 :: 0 :: 0 :: 33 :: 0 :: 0 :: 0 :: 37 :: 0 :: 0 :: 0 :: 35 :: sl_X4_kindAbove_1
theorem sr_X4_kindAbove_0 : fd_at cX4_kindAbove 0 sl_X4_kindAbove_0 := fd_base (by decide +kernel)
theorem sr_X4_kindAbove_1 : fd_at cX4_kindAbove 32 sl_X4_kindAbove_1 := fd_n 32 sr_X4_kindAbove_0 rfl
theorem dX4_kindAbove_0 : decode cX4_kindAbove 0 = .ok (.iload_n 0, 1) := fo_26 sr_X4_kindAbove_0
theorem dX4_kindAbove_32 : decode cX4_kindAbove 32 = .ok (.iconst 1, 1) := fo_4 sr_X4_kindAbove_1
theorem dX4_kindAbove_33 : decode cX4_kindAbove 33 = .ok (.ireturn, 1) := fo_172 (fd_n 1 sr_X4_kindAbove_1 rfl)
theorem dX4_kindAbove_34 : decode cX4_kindAbove 34 = .ok (.iconst 2, 1) := fo_5 (fd_n 2 sr_X4_kindAbove_1 rfl)
theorem dX4_kindAbove_35 : decode cX4_kindAbove 35 = .ok (.ireturn, 1) := fo_172 (fd_n 3 sr_X4_kindAbove_1 rfl)
theorem dX4_kindAbove_36 : decode cX4_kindAbove 36 = .ok (.iconst 5, 1) := fo_8 (fd_n 4 sr_X4_kindAbove_1 rfl)
theorem dX4_kindAbove_37 : decode cX4_kindAbove 37 = .ok (.ireturn, 1) := fo_172 (fd_n 5 sr_X4_kindAbove_1 rfl)
theorem dX4_kindAbove_38 : decode cX4_kindAbove 38 = .ok (.iconst 0, 1) := fo_3 (fd_n 6 sr_X4_kindAbove_1 rfl)
theorem dX4_kindAbove_39 : decode cX4_kindAbove 39 = .ok (.ireturn, 1) := fo_172 (fd_n 7 sr_X4_kindAbove_1 rfl)
theorem dX4_kindAbove_1 : decode cX4_kindAbove 1 = .ok (.tableswitch 37 3 6 #[31, 33, 37, 35], 31) := by decide +kernel
noncomputable def sl_X4_passMonths_1 : List UInt8 := 167 :: 255 :: 232 :: 29 :: 172 :: []
noncomputable def sl_X4_passMonths_0 : List UInt8 := 3 :: 62 :: 3 :: 54 :: 4 :: 21 :: 4 :: 28 :: 162 :: 0 :: 24 :: 29 :: 42 :: 180 :: 0 :: 25 :: 43 :: 182 :: 1 :: 11 :: 96 :: 62 :: 43 :: 182 :: 1 :: 14 :: 132 :: 4 :: 1 :: sl_X4_passMonths_1
theorem sr_X4_passMonths_0 : fd_at cX4_passMonths 0 sl_X4_passMonths_0 := fd_base (by decide +kernel)
theorem sr_X4_passMonths_1 : fd_at cX4_passMonths 29 sl_X4_passMonths_1 := fd_n 29 sr_X4_passMonths_0 rfl
theorem dX4_passMonths_0 : decode cX4_passMonths 0 = .ok (.iconst 0, 1) := fo_3 sr_X4_passMonths_0
theorem dX4_passMonths_1 : decode cX4_passMonths 1 = .ok (.istore_n 3, 1) := fo_62 (fd_n 1 sr_X4_passMonths_0 rfl)
theorem dX4_passMonths_2 : decode cX4_passMonths 2 = .ok (.iconst 0, 1) := fo_3 (fd_n 2 sr_X4_passMonths_0 rfl)
theorem dX4_passMonths_3 : decode cX4_passMonths 3 = .ok (.istore 4, 2) := fo_54 (fd_n 3 sr_X4_passMonths_0 rfl) rfl
theorem dX4_passMonths_5 : decode cX4_passMonths 5 = .ok (.iload 4, 2) := fo_21 (fd_n 5 sr_X4_passMonths_0 rfl) rfl
theorem dX4_passMonths_7 : decode cX4_passMonths 7 = .ok (.iload_n 2, 1) := fo_28 (fd_n 7 sr_X4_passMonths_0 rfl)
theorem dX4_passMonths_8 : decode cX4_passMonths 8 = .ok (.if_icmp .ge 24, 3) := fo_162 (fd_n 8 sr_X4_passMonths_0 rfl) (by decide +kernel)
theorem dX4_passMonths_11 : decode cX4_passMonths 11 = .ok (.iload_n 3, 1) := fo_29 (fd_n 11 sr_X4_passMonths_0 rfl)
theorem dX4_passMonths_12 : decode cX4_passMonths 12 = .ok (.aload_n 0, 1) := fo_42 (fd_n 12 sr_X4_passMonths_0 rfl)
theorem dX4_passMonths_13 : decode cX4_passMonths 13 = .ok (.getfield 25, 3) := fo_180 (fd_n 13 sr_X4_passMonths_0 rfl) rfl
theorem dX4_passMonths_16 : decode cX4_passMonths 16 = .ok (.aload_n 1, 1) := fo_43 (fd_n 16 sr_X4_passMonths_0 rfl)
theorem dX4_passMonths_17 : decode cX4_passMonths 17 = .ok (.invokevirtual 267, 3) := fo_182 (fd_n 17 sr_X4_passMonths_0 rfl) rfl
theorem dX4_passMonths_20 : decode cX4_passMonths 20 = .ok (.iadd, 1) := fo_96 (fd_n 20 sr_X4_passMonths_0 rfl)
theorem dX4_passMonths_21 : decode cX4_passMonths 21 = .ok (.istore_n 3, 1) := fo_62 (fd_n 21 sr_X4_passMonths_0 rfl)
theorem dX4_passMonths_22 : decode cX4_passMonths 22 = .ok (.aload_n 1, 1) := fo_43 (fd_n 22 sr_X4_passMonths_0 rfl)
theorem dX4_passMonths_23 : decode cX4_passMonths 23 = .ok (.invokevirtual 270, 3) := fo_182 (fd_n 23 sr_X4_passMonths_0 rfl) rfl
theorem dX4_passMonths_26 : decode cX4_passMonths 26 = .ok (.iinc 4 1, 3) := fo_132 (fd_n 26 sr_X4_passMonths_0 rfl) rfl (by decide +kernel)
theorem dX4_passMonths_29 : decode cX4_passMonths 29 = .ok (.goto (-24), 3) := fo_167 sr_X4_passMonths_1 (by decide +kernel)
theorem dX4_passMonths_32 : decode cX4_passMonths 32 = .ok (.iload_n 3, 1) := fo_29 (fd_n 3 sr_X4_passMonths_1 rfl)
theorem dX4_passMonths_33 : decode cX4_passMonths 33 = .ok (.ireturn, 1) := fo_172 (fd_n 4 sr_X4_passMonths_1 rfl)
noncomputable def sl_X4_tryUntilBroken_1 : List UInt8 := 182 :: 0 :: 120 :: 153 :: 0 :: 5 :: 28 :: 172 :: 42 :: 180 :: 0 :: 19 :: 182 :: 1 :: 14 :: 132 :: 2 :: 1 :: 167 :: 255 :: 223 :: 2 :: 172 :: []
noncomputable def sl_X4_tryUntilBroken_0 : List UInt8 := 42 :: 180 :: 0 :: 19 :: 42 :: 180 :: 0 :: 10 :: 182 :: 0 :: 163 :: 3 :: 61 :: 28 :: 16 :: 120 :: 163 :: 0 :: 33 :: 42 :: 180 :: 0 :: 25 :: 42 :: 180 :: 0 :: 19 :: 27 :: sl_X4_tryUntilBroken_1
theorem sr_X4_tryUntilBroken_0 : fd_at cX4_tryUntilBroken 0 sl_X4_tryUntilBroken_0 := fd_base (by decide +kernel)
theorem sr_X4_tryUntilBroken_1 : fd_at cX4_tryUntilBroken 28 sl_X4_tryUntilBroken_1 := fd_n 28 sr_X4_tryUntilBroken_0 rfl
theorem dX4_tryUntilBroken_0 : decode cX4_tryUntilBroken 0 = .ok (.aload_n 0, 1) := fo_42 sr_X4_tryUntilBroken_0
theorem dX4_tryUntilBroken_1 : decode cX4_tryUntilBroken 1 = .ok (.getfield 19, 3) := fo_180 (fd_n 1 sr_X4_tryUntilBroken_0 rfl) rfl
theorem dX4_tryUntilBroken_4 : decode cX4_tryUntilBroken 4 = .ok (.aload_n 0, 1) := fo_42 (fd_n 4 sr_X4_tryUntilBroken_0 rfl)
theorem dX4_tryUntilBroken_5 : decode cX4_tryUntilBroken 5 = .ok (.getfield 10, 3) := fo_180 (fd_n 5 sr_X4_tryUntilBroken_0 rfl) rfl
theorem dX4_tryUntilBroken_8 : decode cX4_tryUntilBroken 8 = .ok (.invokevirtual 163, 3) := fo_182 (fd_n 8 sr_X4_tryUntilBroken_0 rfl) rfl
theorem dX4_tryUntilBroken_11 : decode cX4_tryUntilBroken 11 = .ok (.iconst 0, 1) := fo_3 (fd_n 11 sr_X4_tryUntilBroken_0 rfl)
theorem dX4_tryUntilBroken_12 : decode cX4_tryUntilBroken 12 = .ok (.istore_n 2, 1) := fo_61 (fd_n 12 sr_X4_tryUntilBroken_0 rfl)
theorem dX4_tryUntilBroken_13 : decode cX4_tryUntilBroken 13 = .ok (.iload_n 2, 1) := fo_28 (fd_n 13 sr_X4_tryUntilBroken_0 rfl)
theorem dX4_tryUntilBroken_14 : decode cX4_tryUntilBroken 14 = .ok (.bipush 120, 2) := fo_16 (fd_n 14 sr_X4_tryUntilBroken_0 rfl) (by decide +kernel)
theorem dX4_tryUntilBroken_16 : decode cX4_tryUntilBroken 16 = .ok (.if_icmp .gt 33, 3) := fo_163 (fd_n 16 sr_X4_tryUntilBroken_0 rfl) (by decide +kernel)
theorem dX4_tryUntilBroken_19 : decode cX4_tryUntilBroken 19 = .ok (.aload_n 0, 1) := fo_42 (fd_n 19 sr_X4_tryUntilBroken_0 rfl)
theorem dX4_tryUntilBroken_20 : decode cX4_tryUntilBroken 20 = .ok (.getfield 25, 3) := fo_180 (fd_n 20 sr_X4_tryUntilBroken_0 rfl) rfl
theorem dX4_tryUntilBroken_23 : decode cX4_tryUntilBroken 23 = .ok (.aload_n 0, 1) := fo_42 (fd_n 23 sr_X4_tryUntilBroken_0 rfl)
theorem dX4_tryUntilBroken_24 : decode cX4_tryUntilBroken 24 = .ok (.getfield 19, 3) := fo_180 (fd_n 24 sr_X4_tryUntilBroken_0 rfl) rfl
theorem dX4_tryUntilBroken_27 : decode cX4_tryUntilBroken 27 = .ok (.iload_n 1, 1) := fo_27 (fd_n 27 sr_X4_tryUntilBroken_0 rfl)
theorem dX4_tryUntilBroken_28 : decode cX4_tryUntilBroken 28 = .ok (.invokevirtual 120, 3) := fo_182 sr_X4_tryUntilBroken_1 rfl
theorem dX4_tryUntilBroken_31 : decode cX4_tryUntilBroken 31 = .ok (.ifCond .eq 5, 3) := fo_153 (fd_n 3 sr_X4_tryUntilBroken_1 rfl) (by decide +kernel)
theorem dX4_tryUntilBroken_34 : decode cX4_tryUntilBroken 34 = .ok (.iload_n 2, 1) := fo_28 (fd_n 6 sr_X4_tryUntilBroken_1 rfl)
theorem dX4_tryUntilBroken_35 : decode cX4_tryUntilBroken 35 = .ok (.ireturn, 1) := fo_172 (fd_n 7 sr_X4_tryUntilBroken_1 rfl)
theorem dX4_tryUntilBroken_36 : decode cX4_tryUntilBroken 36 = .ok (.aload_n 0, 1) := fo_42 (fd_n 8 sr_X4_tryUntilBroken_1 rfl)
theorem dX4_tryUntilBroken_37 : decode cX4_tryUntilBroken 37 = .ok (.getfield 19, 3) := fo_180 (fd_n 9 sr_X4_tryUntilBroken_1 rfl) rfl
theorem dX4_tryUntilBroken_40 : decode cX4_tryUntilBroken 40 = .ok (.invokevirtual 270, 3) := fo_182 (fd_n 12 sr_X4_tryUntilBroken_1 rfl) rfl
theorem dX4_tryUntilBroken_43 : decode cX4_tryUntilBroken 43 = .ok (.iinc 2 1, 3) := fo_132 (fd_n 15 sr_X4_tryUntilBroken_1 rfl) rfl (by decide +kernel)
theorem dX4_tryUntilBroken_46 : decode cX4_tryUntilBroken 46 = .ok (.goto (-33), 3) := fo_167 (fd_n 18 sr_X4_tryUntilBroken_1 rfl) (by decide +kernel)
theorem dX4_tryUntilBroken_49 : decode cX4_tryUntilBroken 49 = .ok (.iconst (-1), 1) := fo_2 (fd_n 21 sr_X4_tryUntilBroken_1 rfl)
theorem dX4_tryUntilBroken_50 : decode cX4_tryUntilBroken 50 = .ok (.ireturn, 1) := fo_172 (fd_n 22 sr_X4_tryUntilBroken_1 rfl)
noncomputable def sl_X4_isBrokenWithout_1 : List UInt8 := 28 :: 182 :: 0 :: 120 :: 54 :: 4 :: 42 :: 180 :: 0 :: 19 :: 180 :: 0 :: 84 :: 3 :: 50 :: 27 :: 29 :: 79 :: 21 :: 4 :: 172 :: []
noncomputable def sl_X4_isBrokenWithout_0 : List UInt8 := 42 :: 180 :: 0 :: 19 :: 180 :: 0 :: 84 :: 3 :: 50 :: 27 :: 46 :: 62 :: 42 :: 180 :: 0 :: 19 :: 27 :: 182 :: 0 :: 80 :: 42 :: 180 :: 0 :: 25 :: 42 :: 180 :: 0 :: 19 :: sl_X4_isBrokenWithout_1
theorem sr_X4_isBrokenWithout_0 : fd_at cX4_isBrokenWithout 0 sl_X4_isBrokenWithout_0 := fd_base (by decide +kernel)
theorem sr_X4_isBrokenWithout_1 : fd_at cX4_isBrokenWithout 28 sl_X4_isBrokenWithout_1 := fd_n 28 sr_X4_isBrokenWithout_0 rfl
theorem dX4_isBrokenWithout_0 : decode cX4_isBrokenWithout 0 = .ok (.aload_n 0, 1) := fo_42 sr_X4_isBrokenWithout_0
theorem dX4_isBrokenWithout_1 : decode cX4_isBrokenWithout 1 = .ok (.getfield 19, 3) := fo_180 (fd_n 1 sr_X4_isBrokenWithout_0 rfl) rfl
theorem dX4_isBrokenWithout_4 : decode cX4_isBrokenWithout 4 = .ok (.getfield 84, 3) := fo_180 (fd_n 4 sr_X4_isBrokenWithout_0 rfl) rfl
theorem dX4_isBrokenWithout_7 : decode cX4_isBrokenWithout 7 = .ok (.iconst 0, 1) := fo_3 (fd_n 7 sr_X4_isBrokenWithout_0 rfl)
theorem dX4_isBrokenWithout_8 : decode cX4_isBrokenWithout 8 = .ok (.aaload, 1) := fo_50 (fd_n 8 sr_X4_isBrokenWithout_0 rfl)
theorem dX4_isBrokenWithout_9 : decode cX4_isBrokenWithout 9 = .ok (.iload_n 1, 1) := fo_27 (fd_n 9 sr_X4_isBrokenWithout_0 rfl)
theorem dX4_isBrokenWithout_10 : decode cX4_isBrokenWithout 10 = .ok (.iaload, 1) := fo_46 (fd_n 10 sr_X4_isBrokenWithout_0 rfl)
theorem dX4_isBrokenWithout_11 : decode cX4_isBrokenWithout 11 = .ok (.istore_n 3, 1) := fo_62 (fd_n 11 sr_X4_isBrokenWithout_0 rfl)
theorem dX4_isBrokenWithout_12 : decode cX4_isBrokenWithout 12 = .ok (.aload_n 0, 1) := fo_42 (fd_n 12 sr_X4_isBrokenWithout_0 rfl)
theorem dX4_isBrokenWithout_13 : decode cX4_isBrokenWithout 13 = .ok (.getfield 19, 3) := fo_180 (fd_n 13 sr_X4_isBrokenWithout_0 rfl) rfl
theorem dX4_isBrokenWithout_16 : decode cX4_isBrokenWithout 16 = .ok (.iload_n 1, 1) := fo_27 (fd_n 16 sr_X4_isBrokenWithout_0 rfl)
theorem dX4_isBrokenWithout_17 : decode cX4_isBrokenWithout 17 = .ok (.invokevirtual 80, 3) := fo_182 (fd_n 17 sr_X4_isBrokenWithout_0 rfl) rfl
theorem dX4_isBrokenWithout_20 : decode cX4_isBrokenWithout 20 = .ok (.aload_n 0, 1) := fo_42 (fd_n 20 sr_X4_isBrokenWithout_0 rfl)
theorem dX4_isBrokenWithout_21 : decode cX4_isBrokenWithout 21 = .ok (.getfield 25, 3) := fo_180 (fd_n 21 sr_X4_isBrokenWithout_0 rfl) rfl
theorem dX4_isBrokenWithout_24 : decode cX4_isBrokenWithout 24 = .ok (.aload_n 0, 1) := fo_42 (fd_n 24 sr_X4_isBrokenWithout_0 rfl)
theorem dX4_isBrokenWithout_25 : decode cX4_isBrokenWithout 25 = .ok (.getfield 19, 3) := fo_180 (fd_n 25 sr_X4_isBrokenWithout_0 rfl) rfl
theorem dX4_isBrokenWithout_28 : decode cX4_isBrokenWithout 28 = .ok (.iload_n 2, 1) := fo_28 sr_X4_isBrokenWithout_1
theorem dX4_isBrokenWithout_29 : decode cX4_isBrokenWithout 29 = .ok (.invokevirtual 120, 3) := fo_182 (fd_n 1 sr_X4_isBrokenWithout_1 rfl) rfl
theorem dX4_isBrokenWithout_32 : decode cX4_isBrokenWithout 32 = .ok (.istore 4, 2) := fo_54 (fd_n 4 sr_X4_isBrokenWithout_1 rfl) rfl
theorem dX4_isBrokenWithout_34 : decode cX4_isBrokenWithout 34 = .ok (.aload_n 0, 1) := fo_42 (fd_n 6 sr_X4_isBrokenWithout_1 rfl)
theorem dX4_isBrokenWithout_35 : decode cX4_isBrokenWithout 35 = .ok (.getfield 19, 3) := fo_180 (fd_n 7 sr_X4_isBrokenWithout_1 rfl) rfl
theorem dX4_isBrokenWithout_38 : decode cX4_isBrokenWithout 38 = .ok (.getfield 84, 3) := fo_180 (fd_n 10 sr_X4_isBrokenWithout_1 rfl) rfl
theorem dX4_isBrokenWithout_41 : decode cX4_isBrokenWithout 41 = .ok (.iconst 0, 1) := fo_3 (fd_n 13 sr_X4_isBrokenWithout_1 rfl)
theorem dX4_isBrokenWithout_42 : decode cX4_isBrokenWithout 42 = .ok (.aaload, 1) := fo_50 (fd_n 14 sr_X4_isBrokenWithout_1 rfl)
theorem dX4_isBrokenWithout_43 : decode cX4_isBrokenWithout 43 = .ok (.iload_n 1, 1) := fo_27 (fd_n 15 sr_X4_isBrokenWithout_1 rfl)
theorem dX4_isBrokenWithout_44 : decode cX4_isBrokenWithout 44 = .ok (.iload_n 3, 1) := fo_29 (fd_n 16 sr_X4_isBrokenWithout_1 rfl)
theorem dX4_isBrokenWithout_45 : decode cX4_isBrokenWithout 45 = .ok (.iastore, 1) := fo_79 (fd_n 17 sr_X4_isBrokenWithout_1 rfl)
theorem dX4_isBrokenWithout_46 : decode cX4_isBrokenWithout 46 = .ok (.iload 4, 2) := fo_21 (fd_n 18 sr_X4_isBrokenWithout_1 rfl) rfl
theorem dX4_isBrokenWithout_48 : decode cX4_isBrokenWithout 48 = .ok (.ireturn, 1) := fo_172 (fd_n 20 sr_X4_isBrokenWithout_1 rfl)
noncomputable def sl_X4_bestFor_4 : List UInt8 := 180 :: 0 :: 84 :: 28 :: 50 :: 27 :: 21 :: 4 :: 79 :: 21 :: 6 :: 172 :: []
noncomputable def sl_X4_bestFor_3 : List UInt8 := 29 :: 46 :: 21 :: 7 :: 164 :: 0 :: 15 :: 42 :: 180 :: 0 :: 50 :: 29 :: 46 :: 54 :: 7 :: 21 :: 8 :: 54 :: 6 :: 132 :: 8 :: 1 :: 167 :: 255 :: 189 :: 42 :: 180 :: 0 :: 10 :: sl_X4_bestFor_4
noncomputable def sl_X4_bestFor_2 : List UInt8 := 21 :: 8 :: 79 :: 42 :: 180 :: 0 :: 25 :: 42 :: 180 :: 0 :: 10 :: 42 :: 180 :: 0 :: 50 :: 182 :: 0 :: 149 :: 87 :: 21 :: 8 :: 153 :: 0 :: 14 :: 42 :: 180 :: 0 :: 50 :: sl_X4_bestFor_3
noncomputable def sl_X4_bestFor_1 : List UInt8 := 54 :: 5 :: 3 :: 54 :: 6 :: 3 :: 54 :: 7 :: 3 :: 54 :: 8 :: 21 :: 8 :: 21 :: 5 :: 162 :: 0 :: 66 :: 42 :: 180 :: 0 :: 10 :: 180 :: 0 :: 84 :: 28 :: 50 :: 27 :: sl_X4_bestFor_2
noncomputable def sl_X4_bestFor_0 : List UInt8 := 42 :: 180 :: 0 :: 10 :: 180 :: 0 :: 84 :: 4 :: 50 :: 27 :: 46 :: 62 :: 42 :: 180 :: 0 :: 10 :: 180 :: 0 :: 84 :: 28 :: 50 :: 27 :: 46 :: 54 :: 4 :: 28 :: 184 :: 0 :: 97 :: sl_X4_bestFor_1
theorem sr_X4_bestFor_0 : fd_at cX4_bestFor 0 sl_X4_bestFor_0 := fd_base (by decide +kernel)
theorem sr_X4_bestFor_1 : fd_at cX4_bestFor 29 sl_X4_bestFor_1 := fd_n 29 sr_X4_bestFor_0 rfl
theorem sr_X4_bestFor_2 : fd_at cX4_bestFor 57 sl_X4_bestFor_2 := fd_n 28 sr_X4_bestFor_1 rfl
theorem sr_X4_bestFor_3 : fd_at cX4_bestFor 85 sl_X4_bestFor_3 := fd_n 28 sr_X4_bestFor_2 rfl
theorem sr_X4_bestFor_4 : fd_at cX4_bestFor 114 sl_X4_bestFor_4 := fd_n 29 sr_X4_bestFor_3 rfl
theorem dX4_bestFor_0 : decode cX4_bestFor 0 = .ok (.aload_n 0, 1) := fo_42 sr_X4_bestFor_0
theorem dX4_bestFor_1 : decode cX4_bestFor 1 = .ok (.getfield 10, 3) := fo_180 (fd_n 1 sr_X4_bestFor_0 rfl) rfl
theorem dX4_bestFor_4 : decode cX4_bestFor 4 = .ok (.getfield 84, 3) := fo_180 (fd_n 4 sr_X4_bestFor_0 rfl) rfl
theorem dX4_bestFor_7 : decode cX4_bestFor 7 = .ok (.iconst 1, 1) := fo_4 (fd_n 7 sr_X4_bestFor_0 rfl)
theorem dX4_bestFor_8 : decode cX4_bestFor 8 = .ok (.aaload, 1) := fo_50 (fd_n 8 sr_X4_bestFor_0 rfl)
theorem dX4_bestFor_9 : decode cX4_bestFor 9 = .ok (.iload_n 1, 1) := fo_27 (fd_n 9 sr_X4_bestFor_0 rfl)
theorem dX4_bestFor_10 : decode cX4_bestFor 10 = .ok (.iaload, 1) := fo_46 (fd_n 10 sr_X4_bestFor_0 rfl)
theorem dX4_bestFor_11 : decode cX4_bestFor 11 = .ok (.istore_n 3, 1) := fo_62 (fd_n 11 sr_X4_bestFor_0 rfl)
theorem dX4_bestFor_12 : decode cX4_bestFor 12 = .ok (.aload_n 0, 1) := fo_42 (fd_n 12 sr_X4_bestFor_0 rfl)
theorem dX4_bestFor_13 : decode cX4_bestFor 13 = .ok (.getfield 10, 3) := fo_180 (fd_n 13 sr_X4_bestFor_0 rfl) rfl
theorem dX4_bestFor_16 : decode cX4_bestFor 16 = .ok (.getfield 84, 3) := fo_180 (fd_n 16 sr_X4_bestFor_0 rfl) rfl
theorem dX4_bestFor_19 : decode cX4_bestFor 19 = .ok (.iload_n 2, 1) := fo_28 (fd_n 19 sr_X4_bestFor_0 rfl)
theorem dX4_bestFor_20 : decode cX4_bestFor 20 = .ok (.aaload, 1) := fo_50 (fd_n 20 sr_X4_bestFor_0 rfl)
theorem dX4_bestFor_21 : decode cX4_bestFor 21 = .ok (.iload_n 1, 1) := fo_27 (fd_n 21 sr_X4_bestFor_0 rfl)
theorem dX4_bestFor_22 : decode cX4_bestFor 22 = .ok (.iaload, 1) := fo_46 (fd_n 22 sr_X4_bestFor_0 rfl)
theorem dX4_bestFor_23 : decode cX4_bestFor 23 = .ok (.istore 4, 2) := fo_54 (fd_n 23 sr_X4_bestFor_0 rfl) rfl
theorem dX4_bestFor_25 : decode cX4_bestFor 25 = .ok (.iload_n 2, 1) := fo_28 (fd_n 25 sr_X4_bestFor_0 rfl)
theorem dX4_bestFor_26 : decode cX4_bestFor 26 = .ok (.invokestatic 97, 3) := fo_184 (fd_n 26 sr_X4_bestFor_0 rfl) rfl
theorem dX4_bestFor_29 : decode cX4_bestFor 29 = .ok (.istore 5, 2) := fo_54 sr_X4_bestFor_1 rfl
theorem dX4_bestFor_31 : decode cX4_bestFor 31 = .ok (.iconst 0, 1) := fo_3 (fd_n 2 sr_X4_bestFor_1 rfl)
theorem dX4_bestFor_32 : decode cX4_bestFor 32 = .ok (.istore 6, 2) := fo_54 (fd_n 3 sr_X4_bestFor_1 rfl) rfl
theorem dX4_bestFor_34 : decode cX4_bestFor 34 = .ok (.iconst 0, 1) := fo_3 (fd_n 5 sr_X4_bestFor_1 rfl)
theorem dX4_bestFor_35 : decode cX4_bestFor 35 = .ok (.istore 7, 2) := fo_54 (fd_n 6 sr_X4_bestFor_1 rfl) rfl
theorem dX4_bestFor_37 : decode cX4_bestFor 37 = .ok (.iconst 0, 1) := fo_3 (fd_n 8 sr_X4_bestFor_1 rfl)
theorem dX4_bestFor_38 : decode cX4_bestFor 38 = .ok (.istore 8, 2) := fo_54 (fd_n 9 sr_X4_bestFor_1 rfl) rfl
theorem dX4_bestFor_40 : decode cX4_bestFor 40 = .ok (.iload 8, 2) := fo_21 (fd_n 11 sr_X4_bestFor_1 rfl) rfl
theorem dX4_bestFor_42 : decode cX4_bestFor 42 = .ok (.iload 5, 2) := fo_21 (fd_n 13 sr_X4_bestFor_1 rfl) rfl
theorem dX4_bestFor_44 : decode cX4_bestFor 44 = .ok (.if_icmp .ge 66, 3) := fo_162 (fd_n 15 sr_X4_bestFor_1 rfl) (by decide +kernel)
theorem dX4_bestFor_47 : decode cX4_bestFor 47 = .ok (.aload_n 0, 1) := fo_42 (fd_n 18 sr_X4_bestFor_1 rfl)
theorem dX4_bestFor_48 : decode cX4_bestFor 48 = .ok (.getfield 10, 3) := fo_180 (fd_n 19 sr_X4_bestFor_1 rfl) rfl
theorem dX4_bestFor_51 : decode cX4_bestFor 51 = .ok (.getfield 84, 3) := fo_180 (fd_n 22 sr_X4_bestFor_1 rfl) rfl
theorem dX4_bestFor_54 : decode cX4_bestFor 54 = .ok (.iload_n 2, 1) := fo_28 (fd_n 25 sr_X4_bestFor_1 rfl)
theorem dX4_bestFor_55 : decode cX4_bestFor 55 = .ok (.aaload, 1) := fo_50 (fd_n 26 sr_X4_bestFor_1 rfl)
theorem dX4_bestFor_56 : decode cX4_bestFor 56 = .ok (.iload_n 1, 1) := fo_27 (fd_n 27 sr_X4_bestFor_1 rfl)
theorem dX4_bestFor_57 : decode cX4_bestFor 57 = .ok (.iload 8, 2) := fo_21 sr_X4_bestFor_2 rfl
theorem dX4_bestFor_59 : decode cX4_bestFor 59 = .ok (.iastore, 1) := fo_79 (fd_n 2 sr_X4_bestFor_2 rfl)
theorem dX4_bestFor_60 : decode cX4_bestFor 60 = .ok (.aload_n 0, 1) := fo_42 (fd_n 3 sr_X4_bestFor_2 rfl)
theorem dX4_bestFor_61 : decode cX4_bestFor 61 = .ok (.getfield 25, 3) := fo_180 (fd_n 4 sr_X4_bestFor_2 rfl) rfl
theorem dX4_bestFor_64 : decode cX4_bestFor 64 = .ok (.aload_n 0, 1) := fo_42 (fd_n 7 sr_X4_bestFor_2 rfl)
theorem dX4_bestFor_65 : decode cX4_bestFor 65 = .ok (.getfield 10, 3) := fo_180 (fd_n 8 sr_X4_bestFor_2 rfl) rfl
theorem dX4_bestFor_68 : decode cX4_bestFor 68 = .ok (.aload_n 0, 1) := fo_42 (fd_n 11 sr_X4_bestFor_2 rfl)
theorem dX4_bestFor_69 : decode cX4_bestFor 69 = .ok (.getfield 50, 3) := fo_180 (fd_n 12 sr_X4_bestFor_2 rfl) rfl
theorem dX4_bestFor_72 : decode cX4_bestFor 72 = .ok (.invokevirtual 149, 3) := fo_182 (fd_n 15 sr_X4_bestFor_2 rfl) rfl
theorem dX4_bestFor_75 : decode cX4_bestFor 75 = .ok (.pop, 1) := fo_87 (fd_n 18 sr_X4_bestFor_2 rfl)
theorem dX4_bestFor_76 : decode cX4_bestFor 76 = .ok (.iload 8, 2) := fo_21 (fd_n 19 sr_X4_bestFor_2 rfl) rfl
theorem dX4_bestFor_78 : decode cX4_bestFor 78 = .ok (.ifCond .eq 14, 3) := fo_153 (fd_n 21 sr_X4_bestFor_2 rfl) (by decide +kernel)
theorem dX4_bestFor_81 : decode cX4_bestFor 81 = .ok (.aload_n 0, 1) := fo_42 (fd_n 24 sr_X4_bestFor_2 rfl)
theorem dX4_bestFor_82 : decode cX4_bestFor 82 = .ok (.getfield 50, 3) := fo_180 (fd_n 25 sr_X4_bestFor_2 rfl) rfl
theorem dX4_bestFor_85 : decode cX4_bestFor 85 = .ok (.iload_n 3, 1) := fo_29 sr_X4_bestFor_3
theorem dX4_bestFor_86 : decode cX4_bestFor 86 = .ok (.iaload, 1) := fo_46 (fd_n 1 sr_X4_bestFor_3 rfl)
theorem dX4_bestFor_87 : decode cX4_bestFor 87 = .ok (.iload 7, 2) := fo_21 (fd_n 2 sr_X4_bestFor_3 rfl) rfl
theorem dX4_bestFor_89 : decode cX4_bestFor 89 = .ok (.if_icmp .le 15, 3) := fo_164 (fd_n 4 sr_X4_bestFor_3 rfl) (by decide +kernel)
theorem dX4_bestFor_92 : decode cX4_bestFor 92 = .ok (.aload_n 0, 1) := fo_42 (fd_n 7 sr_X4_bestFor_3 rfl)
theorem dX4_bestFor_93 : decode cX4_bestFor 93 = .ok (.getfield 50, 3) := fo_180 (fd_n 8 sr_X4_bestFor_3 rfl) rfl
theorem dX4_bestFor_96 : decode cX4_bestFor 96 = .ok (.iload_n 3, 1) := fo_29 (fd_n 11 sr_X4_bestFor_3 rfl)
theorem dX4_bestFor_97 : decode cX4_bestFor 97 = .ok (.iaload, 1) := fo_46 (fd_n 12 sr_X4_bestFor_3 rfl)
theorem dX4_bestFor_98 : decode cX4_bestFor 98 = .ok (.istore 7, 2) := fo_54 (fd_n 13 sr_X4_bestFor_3 rfl) rfl
theorem dX4_bestFor_100 : decode cX4_bestFor 100 = .ok (.iload 8, 2) := fo_21 (fd_n 15 sr_X4_bestFor_3 rfl) rfl
theorem dX4_bestFor_102 : decode cX4_bestFor 102 = .ok (.istore 6, 2) := fo_54 (fd_n 17 sr_X4_bestFor_3 rfl) rfl
theorem dX4_bestFor_104 : decode cX4_bestFor 104 = .ok (.iinc 8 1, 3) := fo_132 (fd_n 19 sr_X4_bestFor_3 rfl) rfl (by decide +kernel)
theorem dX4_bestFor_107 : decode cX4_bestFor 107 = .ok (.goto (-67), 3) := fo_167 (fd_n 22 sr_X4_bestFor_3 rfl) (by decide +kernel)
theorem dX4_bestFor_110 : decode cX4_bestFor 110 = .ok (.aload_n 0, 1) := fo_42 (fd_n 25 sr_X4_bestFor_3 rfl)
theorem dX4_bestFor_111 : decode cX4_bestFor 111 = .ok (.getfield 10, 3) := fo_180 (fd_n 26 sr_X4_bestFor_3 rfl) rfl
theorem dX4_bestFor_114 : decode cX4_bestFor 114 = .ok (.getfield 84, 3) := fo_180 sr_X4_bestFor_4 rfl
theorem dX4_bestFor_117 : decode cX4_bestFor 117 = .ok (.iload_n 2, 1) := fo_28 (fd_n 3 sr_X4_bestFor_4 rfl)
theorem dX4_bestFor_118 : decode cX4_bestFor 118 = .ok (.aaload, 1) := fo_50 (fd_n 4 sr_X4_bestFor_4 rfl)
theorem dX4_bestFor_119 : decode cX4_bestFor 119 = .ok (.iload_n 1, 1) := fo_27 (fd_n 5 sr_X4_bestFor_4 rfl)
theorem dX4_bestFor_120 : decode cX4_bestFor 120 = .ok (.iload 4, 2) := fo_21 (fd_n 6 sr_X4_bestFor_4 rfl) rfl
theorem dX4_bestFor_122 : decode cX4_bestFor 122 = .ok (.iastore, 1) := fo_79 (fd_n 8 sr_X4_bestFor_4 rfl)
theorem dX4_bestFor_123 : decode cX4_bestFor 123 = .ok (.iload 6, 2) := fo_21 (fd_n 9 sr_X4_bestFor_4 rfl) rfl
theorem dX4_bestFor_125 : decode cX4_bestFor 125 = .ok (.ireturn, 1) := fo_172 (fd_n 11 sr_X4_bestFor_4 rfl)
noncomputable def sl_X4_bothGainIfLower_4 : List UInt8 := 46 :: 42 :: 180 :: 0 :: 47 :: 21 :: 6 :: 46 :: 164 :: 0 :: 7 :: 4 :: 167 :: 0 :: 4 :: 3 :: 172 :: []
noncomputable def sl_X4_bothGainIfLower_3 : List UInt8 := 4 :: 50 :: 28 :: 46 :: 54 :: 6 :: 42 :: 180 :: 0 :: 50 :: 21 :: 5 :: 46 :: 42 :: 180 :: 0 :: 47 :: 21 :: 5 :: 46 :: 164 :: 0 :: 24 :: 42 :: 180 :: 0 :: 50 :: 21 :: 6 :: sl_X4_bothGainIfLower_4
noncomputable def sl_X4_bothGainIfLower_2 : List UInt8 := 5 :: 50 :: 28 :: 92 :: 46 :: 21 :: 4 :: 96 :: 79 :: 42 :: 180 :: 0 :: 10 :: 180 :: 0 :: 84 :: 4 :: 50 :: 27 :: 46 :: 54 :: 5 :: 42 :: 180 :: 0 :: 10 :: 180 :: 0 :: 84 :: sl_X4_bothGainIfLower_3
noncomputable def sl_X4_bothGainIfLower_1 : List UInt8 := 180 :: 0 :: 50 :: 182 :: 0 :: 149 :: 87 :: 42 :: 180 :: 0 :: 10 :: 180 :: 0 :: 84 :: 5 :: 50 :: 27 :: 92 :: 46 :: 29 :: 96 :: 79 :: 42 :: 180 :: 0 :: 10 :: 180 :: 0 :: 84 :: sl_X4_bothGainIfLower_2
noncomputable def sl_X4_bothGainIfLower_0 : List UInt8 := 42 :: 180 :: 0 :: 10 :: 27 :: 182 :: 1 :: 17 :: 62 :: 42 :: 180 :: 0 :: 10 :: 28 :: 182 :: 1 :: 17 :: 54 :: 4 :: 42 :: 180 :: 0 :: 25 :: 42 :: 180 :: 0 :: 10 :: 42 :: sl_X4_bothGainIfLower_1
theorem sr_X4_bothGainIfLower_0 : fd_at cX4_bothGainIfLower 0 sl_X4_bothGainIfLower_0 := fd_base (by decide +kernel)
theorem sr_X4_bothGainIfLower_1 : fd_at cX4_bothGainIfLower 28 sl_X4_bothGainIfLower_1 := fd_n 28 sr_X4_bothGainIfLower_0 rfl
theorem sr_X4_bothGainIfLower_2 : fd_at cX4_bothGainIfLower 57 sl_X4_bothGainIfLower_2 := fd_n 29 sr_X4_bothGainIfLower_1 rfl
theorem sr_X4_bothGainIfLower_3 : fd_at cX4_bothGainIfLower 86 sl_X4_bothGainIfLower_3 := fd_n 29 sr_X4_bothGainIfLower_2 rfl
theorem sr_X4_bothGainIfLower_4 : fd_at cX4_bothGainIfLower 115 sl_X4_bothGainIfLower_4 := fd_n 29 sr_X4_bothGainIfLower_3 rfl
theorem dX4_bothGainIfLower_0 : decode cX4_bothGainIfLower 0 = .ok (.aload_n 0, 1) := fo_42 sr_X4_bothGainIfLower_0
theorem dX4_bothGainIfLower_1 : decode cX4_bothGainIfLower 1 = .ok (.getfield 10, 3) := fo_180 (fd_n 1 sr_X4_bothGainIfLower_0 rfl) rfl
theorem dX4_bothGainIfLower_4 : decode cX4_bothGainIfLower 4 = .ok (.iload_n 1, 1) := fo_27 (fd_n 4 sr_X4_bothGainIfLower_0 rfl)
theorem dX4_bothGainIfLower_5 : decode cX4_bothGainIfLower 5 = .ok (.invokevirtual 273, 3) := fo_182 (fd_n 5 sr_X4_bothGainIfLower_0 rfl) rfl
theorem dX4_bothGainIfLower_8 : decode cX4_bothGainIfLower 8 = .ok (.istore_n 3, 1) := fo_62 (fd_n 8 sr_X4_bothGainIfLower_0 rfl)
theorem dX4_bothGainIfLower_9 : decode cX4_bothGainIfLower 9 = .ok (.aload_n 0, 1) := fo_42 (fd_n 9 sr_X4_bothGainIfLower_0 rfl)
theorem dX4_bothGainIfLower_10 : decode cX4_bothGainIfLower 10 = .ok (.getfield 10, 3) := fo_180 (fd_n 10 sr_X4_bothGainIfLower_0 rfl) rfl
theorem dX4_bothGainIfLower_13 : decode cX4_bothGainIfLower 13 = .ok (.iload_n 2, 1) := fo_28 (fd_n 13 sr_X4_bothGainIfLower_0 rfl)
theorem dX4_bothGainIfLower_14 : decode cX4_bothGainIfLower 14 = .ok (.invokevirtual 273, 3) := fo_182 (fd_n 14 sr_X4_bothGainIfLower_0 rfl) rfl
theorem dX4_bothGainIfLower_17 : decode cX4_bothGainIfLower 17 = .ok (.istore 4, 2) := fo_54 (fd_n 17 sr_X4_bothGainIfLower_0 rfl) rfl
theorem dX4_bothGainIfLower_19 : decode cX4_bothGainIfLower 19 = .ok (.aload_n 0, 1) := fo_42 (fd_n 19 sr_X4_bothGainIfLower_0 rfl)
theorem dX4_bothGainIfLower_20 : decode cX4_bothGainIfLower 20 = .ok (.getfield 25, 3) := fo_180 (fd_n 20 sr_X4_bothGainIfLower_0 rfl) rfl
theorem dX4_bothGainIfLower_23 : decode cX4_bothGainIfLower 23 = .ok (.aload_n 0, 1) := fo_42 (fd_n 23 sr_X4_bothGainIfLower_0 rfl)
theorem dX4_bothGainIfLower_24 : decode cX4_bothGainIfLower 24 = .ok (.getfield 10, 3) := fo_180 (fd_n 24 sr_X4_bothGainIfLower_0 rfl) rfl
theorem dX4_bothGainIfLower_27 : decode cX4_bothGainIfLower 27 = .ok (.aload_n 0, 1) := fo_42 (fd_n 27 sr_X4_bothGainIfLower_0 rfl)
theorem dX4_bothGainIfLower_28 : decode cX4_bothGainIfLower 28 = .ok (.getfield 50, 3) := fo_180 sr_X4_bothGainIfLower_1 rfl
theorem dX4_bothGainIfLower_31 : decode cX4_bothGainIfLower 31 = .ok (.invokevirtual 149, 3) := fo_182 (fd_n 3 sr_X4_bothGainIfLower_1 rfl) rfl
theorem dX4_bothGainIfLower_34 : decode cX4_bothGainIfLower 34 = .ok (.pop, 1) := fo_87 (fd_n 6 sr_X4_bothGainIfLower_1 rfl)
theorem dX4_bothGainIfLower_35 : decode cX4_bothGainIfLower 35 = .ok (.aload_n 0, 1) := fo_42 (fd_n 7 sr_X4_bothGainIfLower_1 rfl)
theorem dX4_bothGainIfLower_36 : decode cX4_bothGainIfLower 36 = .ok (.getfield 10, 3) := fo_180 (fd_n 8 sr_X4_bothGainIfLower_1 rfl) rfl
theorem dX4_bothGainIfLower_39 : decode cX4_bothGainIfLower 39 = .ok (.getfield 84, 3) := fo_180 (fd_n 11 sr_X4_bothGainIfLower_1 rfl) rfl
theorem dX4_bothGainIfLower_42 : decode cX4_bothGainIfLower 42 = .ok (.iconst 2, 1) := fo_5 (fd_n 14 sr_X4_bothGainIfLower_1 rfl)
theorem dX4_bothGainIfLower_43 : decode cX4_bothGainIfLower 43 = .ok (.aaload, 1) := fo_50 (fd_n 15 sr_X4_bothGainIfLower_1 rfl)
theorem dX4_bothGainIfLower_44 : decode cX4_bothGainIfLower 44 = .ok (.iload_n 1, 1) := fo_27 (fd_n 16 sr_X4_bothGainIfLower_1 rfl)
theorem dX4_bothGainIfLower_45 : decode cX4_bothGainIfLower 45 = .ok (.dup2, 1) := fo_92 (fd_n 17 sr_X4_bothGainIfLower_1 rfl)
theorem dX4_bothGainIfLower_46 : decode cX4_bothGainIfLower 46 = .ok (.iaload, 1) := fo_46 (fd_n 18 sr_X4_bothGainIfLower_1 rfl)
theorem dX4_bothGainIfLower_47 : decode cX4_bothGainIfLower 47 = .ok (.iload_n 3, 1) := fo_29 (fd_n 19 sr_X4_bothGainIfLower_1 rfl)
theorem dX4_bothGainIfLower_48 : decode cX4_bothGainIfLower 48 = .ok (.iadd, 1) := fo_96 (fd_n 20 sr_X4_bothGainIfLower_1 rfl)
theorem dX4_bothGainIfLower_49 : decode cX4_bothGainIfLower 49 = .ok (.iastore, 1) := fo_79 (fd_n 21 sr_X4_bothGainIfLower_1 rfl)
theorem dX4_bothGainIfLower_50 : decode cX4_bothGainIfLower 50 = .ok (.aload_n 0, 1) := fo_42 (fd_n 22 sr_X4_bothGainIfLower_1 rfl)
theorem dX4_bothGainIfLower_51 : decode cX4_bothGainIfLower 51 = .ok (.getfield 10, 3) := fo_180 (fd_n 23 sr_X4_bothGainIfLower_1 rfl) rfl
theorem dX4_bothGainIfLower_54 : decode cX4_bothGainIfLower 54 = .ok (.getfield 84, 3) := fo_180 (fd_n 26 sr_X4_bothGainIfLower_1 rfl) rfl
theorem dX4_bothGainIfLower_57 : decode cX4_bothGainIfLower 57 = .ok (.iconst 2, 1) := fo_5 sr_X4_bothGainIfLower_2
theorem dX4_bothGainIfLower_58 : decode cX4_bothGainIfLower 58 = .ok (.aaload, 1) := fo_50 (fd_n 1 sr_X4_bothGainIfLower_2 rfl)
theorem dX4_bothGainIfLower_59 : decode cX4_bothGainIfLower 59 = .ok (.iload_n 2, 1) := fo_28 (fd_n 2 sr_X4_bothGainIfLower_2 rfl)
theorem dX4_bothGainIfLower_60 : decode cX4_bothGainIfLower 60 = .ok (.dup2, 1) := fo_92 (fd_n 3 sr_X4_bothGainIfLower_2 rfl)
theorem dX4_bothGainIfLower_61 : decode cX4_bothGainIfLower 61 = .ok (.iaload, 1) := fo_46 (fd_n 4 sr_X4_bothGainIfLower_2 rfl)
theorem dX4_bothGainIfLower_62 : decode cX4_bothGainIfLower 62 = .ok (.iload 4, 2) := fo_21 (fd_n 5 sr_X4_bothGainIfLower_2 rfl) rfl
theorem dX4_bothGainIfLower_64 : decode cX4_bothGainIfLower 64 = .ok (.iadd, 1) := fo_96 (fd_n 7 sr_X4_bothGainIfLower_2 rfl)
theorem dX4_bothGainIfLower_65 : decode cX4_bothGainIfLower 65 = .ok (.iastore, 1) := fo_79 (fd_n 8 sr_X4_bothGainIfLower_2 rfl)
theorem dX4_bothGainIfLower_66 : decode cX4_bothGainIfLower 66 = .ok (.aload_n 0, 1) := fo_42 (fd_n 9 sr_X4_bothGainIfLower_2 rfl)
theorem dX4_bothGainIfLower_67 : decode cX4_bothGainIfLower 67 = .ok (.getfield 10, 3) := fo_180 (fd_n 10 sr_X4_bothGainIfLower_2 rfl) rfl
theorem dX4_bothGainIfLower_70 : decode cX4_bothGainIfLower 70 = .ok (.getfield 84, 3) := fo_180 (fd_n 13 sr_X4_bothGainIfLower_2 rfl) rfl
theorem dX4_bothGainIfLower_73 : decode cX4_bothGainIfLower 73 = .ok (.iconst 1, 1) := fo_4 (fd_n 16 sr_X4_bothGainIfLower_2 rfl)
theorem dX4_bothGainIfLower_74 : decode cX4_bothGainIfLower 74 = .ok (.aaload, 1) := fo_50 (fd_n 17 sr_X4_bothGainIfLower_2 rfl)
theorem dX4_bothGainIfLower_75 : decode cX4_bothGainIfLower 75 = .ok (.iload_n 1, 1) := fo_27 (fd_n 18 sr_X4_bothGainIfLower_2 rfl)
theorem dX4_bothGainIfLower_76 : decode cX4_bothGainIfLower 76 = .ok (.iaload, 1) := fo_46 (fd_n 19 sr_X4_bothGainIfLower_2 rfl)
theorem dX4_bothGainIfLower_77 : decode cX4_bothGainIfLower 77 = .ok (.istore 5, 2) := fo_54 (fd_n 20 sr_X4_bothGainIfLower_2 rfl) rfl
theorem dX4_bothGainIfLower_79 : decode cX4_bothGainIfLower 79 = .ok (.aload_n 0, 1) := fo_42 (fd_n 22 sr_X4_bothGainIfLower_2 rfl)
theorem dX4_bothGainIfLower_80 : decode cX4_bothGainIfLower 80 = .ok (.getfield 10, 3) := fo_180 (fd_n 23 sr_X4_bothGainIfLower_2 rfl) rfl
theorem dX4_bothGainIfLower_83 : decode cX4_bothGainIfLower 83 = .ok (.getfield 84, 3) := fo_180 (fd_n 26 sr_X4_bothGainIfLower_2 rfl) rfl
theorem dX4_bothGainIfLower_86 : decode cX4_bothGainIfLower 86 = .ok (.iconst 1, 1) := fo_4 sr_X4_bothGainIfLower_3
theorem dX4_bothGainIfLower_87 : decode cX4_bothGainIfLower 87 = .ok (.aaload, 1) := fo_50 (fd_n 1 sr_X4_bothGainIfLower_3 rfl)
theorem dX4_bothGainIfLower_88 : decode cX4_bothGainIfLower 88 = .ok (.iload_n 2, 1) := fo_28 (fd_n 2 sr_X4_bothGainIfLower_3 rfl)
theorem dX4_bothGainIfLower_89 : decode cX4_bothGainIfLower 89 = .ok (.iaload, 1) := fo_46 (fd_n 3 sr_X4_bothGainIfLower_3 rfl)
theorem dX4_bothGainIfLower_90 : decode cX4_bothGainIfLower 90 = .ok (.istore 6, 2) := fo_54 (fd_n 4 sr_X4_bothGainIfLower_3 rfl) rfl
theorem dX4_bothGainIfLower_92 : decode cX4_bothGainIfLower 92 = .ok (.aload_n 0, 1) := fo_42 (fd_n 6 sr_X4_bothGainIfLower_3 rfl)
theorem dX4_bothGainIfLower_93 : decode cX4_bothGainIfLower 93 = .ok (.getfield 50, 3) := fo_180 (fd_n 7 sr_X4_bothGainIfLower_3 rfl) rfl
theorem dX4_bothGainIfLower_96 : decode cX4_bothGainIfLower 96 = .ok (.iload 5, 2) := fo_21 (fd_n 10 sr_X4_bothGainIfLower_3 rfl) rfl
theorem dX4_bothGainIfLower_98 : decode cX4_bothGainIfLower 98 = .ok (.iaload, 1) := fo_46 (fd_n 12 sr_X4_bothGainIfLower_3 rfl)
theorem dX4_bothGainIfLower_99 : decode cX4_bothGainIfLower 99 = .ok (.aload_n 0, 1) := fo_42 (fd_n 13 sr_X4_bothGainIfLower_3 rfl)
theorem dX4_bothGainIfLower_100 : decode cX4_bothGainIfLower 100 = .ok (.getfield 47, 3) := fo_180 (fd_n 14 sr_X4_bothGainIfLower_3 rfl) rfl
theorem dX4_bothGainIfLower_103 : decode cX4_bothGainIfLower 103 = .ok (.iload 5, 2) := fo_21 (fd_n 17 sr_X4_bothGainIfLower_3 rfl) rfl
theorem dX4_bothGainIfLower_105 : decode cX4_bothGainIfLower 105 = .ok (.iaload, 1) := fo_46 (fd_n 19 sr_X4_bothGainIfLower_3 rfl)
theorem dX4_bothGainIfLower_106 : decode cX4_bothGainIfLower 106 = .ok (.if_icmp .le 24, 3) := fo_164 (fd_n 20 sr_X4_bothGainIfLower_3 rfl) (by decide +kernel)
theorem dX4_bothGainIfLower_109 : decode cX4_bothGainIfLower 109 = .ok (.aload_n 0, 1) := fo_42 (fd_n 23 sr_X4_bothGainIfLower_3 rfl)
theorem dX4_bothGainIfLower_110 : decode cX4_bothGainIfLower 110 = .ok (.getfield 50, 3) := fo_180 (fd_n 24 sr_X4_bothGainIfLower_3 rfl) rfl
theorem dX4_bothGainIfLower_113 : decode cX4_bothGainIfLower 113 = .ok (.iload 6, 2) := fo_21 (fd_n 27 sr_X4_bothGainIfLower_3 rfl) rfl
theorem dX4_bothGainIfLower_115 : decode cX4_bothGainIfLower 115 = .ok (.iaload, 1) := fo_46 sr_X4_bothGainIfLower_4
theorem dX4_bothGainIfLower_116 : decode cX4_bothGainIfLower 116 = .ok (.aload_n 0, 1) := fo_42 (fd_n 1 sr_X4_bothGainIfLower_4 rfl)
theorem dX4_bothGainIfLower_117 : decode cX4_bothGainIfLower 117 = .ok (.getfield 47, 3) := fo_180 (fd_n 2 sr_X4_bothGainIfLower_4 rfl) rfl
theorem dX4_bothGainIfLower_120 : decode cX4_bothGainIfLower 120 = .ok (.iload 6, 2) := fo_21 (fd_n 5 sr_X4_bothGainIfLower_4 rfl) rfl
theorem dX4_bothGainIfLower_122 : decode cX4_bothGainIfLower 122 = .ok (.iaload, 1) := fo_46 (fd_n 7 sr_X4_bothGainIfLower_4 rfl)
theorem dX4_bothGainIfLower_123 : decode cX4_bothGainIfLower 123 = .ok (.if_icmp .le 7, 3) := fo_164 (fd_n 8 sr_X4_bothGainIfLower_4 rfl) (by decide +kernel)
theorem dX4_bothGainIfLower_126 : decode cX4_bothGainIfLower 126 = .ok (.iconst 1, 1) := fo_4 (fd_n 11 sr_X4_bothGainIfLower_4 rfl)
theorem dX4_bothGainIfLower_127 : decode cX4_bothGainIfLower 127 = .ok (.goto 4, 3) := fo_167 (fd_n 12 sr_X4_bothGainIfLower_4 rfl) (by decide +kernel)
theorem dX4_bothGainIfLower_130 : decode cX4_bothGainIfLower 130 = .ok (.iconst 0, 1) := fo_3 (fd_n 15 sr_X4_bothGainIfLower_4 rfl)
theorem dX4_bothGainIfLower_131 : decode cX4_bothGainIfLower 131 = .ok (.ireturn, 1) := fo_172 (fd_n 16 sr_X4_bothGainIfLower_4 rfl)
