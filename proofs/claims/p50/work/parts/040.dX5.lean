noncomputable def sl_X5_init_6 : List UInt8 := 27 :: 96 :: 2 :: 79 :: 132 :: 1 :: 1 :: 167 :: 255 :: 236 :: 177 :: []
noncomputable def sl_X5_init_5 : List UInt8 := 27 :: 3 :: 184 :: 0 :: 46 :: 2 :: 79 :: 132 :: 1 :: 1 :: 167 :: 255 :: 236 :: 3 :: 60 :: 27 :: 16 :: 10 :: 162 :: 0 :: 20 :: 42 :: 180 :: 0 :: 7 :: 17 :: 0 :: 171 :: sl_X5_init_6
noncomputable def sl_X5_init_4 : List UInt8 := 180 :: 0 :: 7 :: 6 :: 27 :: 96 :: 27 :: 4 :: 96 :: 79 :: 132 :: 1 :: 1 :: 167 :: 255 :: 237 :: 3 :: 60 :: 27 :: 16 :: 25 :: 162 :: 0 :: 20 :: 42 :: 180 :: 0 :: 7 :: sl_X5_init_5
noncomputable def sl_X5_init_3 : List UInt8 := 188 :: 10 :: 181 :: 0 :: 40 :: 42 :: 16 :: 40 :: 188 :: 10 :: 181 :: 0 :: 43 :: 42 :: 180 :: 0 :: 7 :: 5 :: 4 :: 79 :: 3 :: 60 :: 27 :: 7 :: 162 :: 0 :: 20 :: 42 :: sl_X5_init_4
noncomputable def sl_X5_init_2 : List UInt8 := 181 :: 0 :: 28 :: 42 :: 16 :: 120 :: 188 :: 10 :: 181 :: 0 :: 31 :: 42 :: 7 :: 188 :: 10 :: 181 :: 0 :: 34 :: 42 :: 7 :: 188 :: 10 :: 181 :: 0 :: 37 :: 42 :: 17 :: 0 :: 160 :: sl_X5_init_3
noncomputable def sl_X5_init_1 : List UInt8 := 181 :: 0 :: 16 :: 42 :: 16 :: 7 :: 188 :: 10 :: 181 :: 0 :: 19 :: 42 :: 7 :: 188 :: 10 :: 181 :: 0 :: 22 :: 42 :: 7 :: 188 :: 10 :: 181 :: 0 :: 25 :: 42 :: 7 :: 188 :: 10 :: sl_X5_init_2
noncomputable def sl_X5_init_0 : List UInt8 := 42 :: 183 :: 0 :: 1 :: 42 :: 17 :: 0 :: 181 :: 188 :: 10 :: 181 :: 0 :: 7 :: 42 :: 17 :: 0 :: 181 :: 188 :: 10 :: 181 :: 0 :: 13 :: 42 :: 17 :: 0 :: 181 :: 188 :: 10 :: sl_X5_init_1
theorem sr_X5_init_0 : fd_at cX5_init 0 sl_X5_init_0 := fd_base (by decide +kernel)
theorem sr_X5_init_1 : fd_at cX5_init 28 sl_X5_init_1 := fd_n 28 sr_X5_init_0 rfl
theorem sr_X5_init_2 : fd_at cX5_init 57 sl_X5_init_2 := fd_n 29 sr_X5_init_1 rfl
theorem sr_X5_init_3 : fd_at cX5_init 86 sl_X5_init_3 := fd_n 29 sr_X5_init_2 rfl
theorem sr_X5_init_4 : fd_at cX5_init 114 sl_X5_init_4 := fd_n 28 sr_X5_init_3 rfl
theorem sr_X5_init_5 : fd_at cX5_init 142 sl_X5_init_5 := fd_n 28 sr_X5_init_4 rfl
theorem sr_X5_init_6 : fd_at cX5_init 170 sl_X5_init_6 := fd_n 28 sr_X5_init_5 rfl
theorem dX5_init_0 : decode cX5_init 0 = .ok (.aload_n 0, 1) := fo_42 sr_X5_init_0
theorem dX5_init_1 : decode cX5_init 1 = .ok (.invokespecial 1, 3) := fo_183 (fd_n 1 sr_X5_init_0 rfl) rfl
theorem dX5_init_4 : decode cX5_init 4 = .ok (.aload_n 0, 1) := fo_42 (fd_n 4 sr_X5_init_0 rfl)
theorem dX5_init_5 : decode cX5_init 5 = .ok (.sipush 181, 3) := fo_17 (fd_n 5 sr_X5_init_0 rfl) (by decide +kernel)
theorem dX5_init_10 : decode cX5_init 10 = .ok (.putfield 7, 3) := fo_181 (fd_n 10 sr_X5_init_0 rfl) rfl
theorem dX5_init_13 : decode cX5_init 13 = .ok (.aload_n 0, 1) := fo_42 (fd_n 13 sr_X5_init_0 rfl)
theorem dX5_init_14 : decode cX5_init 14 = .ok (.sipush 181, 3) := fo_17 (fd_n 14 sr_X5_init_0 rfl) (by decide +kernel)
theorem dX5_init_19 : decode cX5_init 19 = .ok (.putfield 13, 3) := fo_181 (fd_n 19 sr_X5_init_0 rfl) rfl
theorem dX5_init_22 : decode cX5_init 22 = .ok (.aload_n 0, 1) := fo_42 (fd_n 22 sr_X5_init_0 rfl)
theorem dX5_init_23 : decode cX5_init 23 = .ok (.sipush 181, 3) := fo_17 (fd_n 23 sr_X5_init_0 rfl) (by decide +kernel)
theorem dX5_init_28 : decode cX5_init 28 = .ok (.putfield 16, 3) := fo_181 sr_X5_init_1 rfl
theorem dX5_init_31 : decode cX5_init 31 = .ok (.aload_n 0, 1) := fo_42 (fd_n 3 sr_X5_init_1 rfl)
theorem dX5_init_32 : decode cX5_init 32 = .ok (.bipush 7, 2) := fo_16 (fd_n 4 sr_X5_init_1 rfl) (by decide +kernel)
theorem dX5_init_36 : decode cX5_init 36 = .ok (.putfield 19, 3) := fo_181 (fd_n 8 sr_X5_init_1 rfl) rfl
theorem dX5_init_39 : decode cX5_init 39 = .ok (.aload_n 0, 1) := fo_42 (fd_n 11 sr_X5_init_1 rfl)
theorem dX5_init_40 : decode cX5_init 40 = .ok (.iconst 4, 1) := fo_7 (fd_n 12 sr_X5_init_1 rfl)
theorem dX5_init_43 : decode cX5_init 43 = .ok (.putfield 22, 3) := fo_181 (fd_n 15 sr_X5_init_1 rfl) rfl
theorem dX5_init_46 : decode cX5_init 46 = .ok (.aload_n 0, 1) := fo_42 (fd_n 18 sr_X5_init_1 rfl)
theorem dX5_init_47 : decode cX5_init 47 = .ok (.iconst 4, 1) := fo_7 (fd_n 19 sr_X5_init_1 rfl)
theorem dX5_init_50 : decode cX5_init 50 = .ok (.putfield 25, 3) := fo_181 (fd_n 22 sr_X5_init_1 rfl) rfl
theorem dX5_init_53 : decode cX5_init 53 = .ok (.aload_n 0, 1) := fo_42 (fd_n 25 sr_X5_init_1 rfl)
theorem dX5_init_54 : decode cX5_init 54 = .ok (.iconst 4, 1) := fo_7 (fd_n 26 sr_X5_init_1 rfl)
theorem dX5_init_57 : decode cX5_init 57 = .ok (.putfield 28, 3) := fo_181 sr_X5_init_2 rfl
theorem dX5_init_60 : decode cX5_init 60 = .ok (.aload_n 0, 1) := fo_42 (fd_n 3 sr_X5_init_2 rfl)
theorem dX5_init_61 : decode cX5_init 61 = .ok (.bipush 120, 2) := fo_16 (fd_n 4 sr_X5_init_2 rfl) (by decide +kernel)
theorem dX5_init_65 : decode cX5_init 65 = .ok (.putfield 31, 3) := fo_181 (fd_n 8 sr_X5_init_2 rfl) rfl
theorem dX5_init_68 : decode cX5_init 68 = .ok (.aload_n 0, 1) := fo_42 (fd_n 11 sr_X5_init_2 rfl)
theorem dX5_init_69 : decode cX5_init 69 = .ok (.iconst 4, 1) := fo_7 (fd_n 12 sr_X5_init_2 rfl)
theorem dX5_init_72 : decode cX5_init 72 = .ok (.putfield 34, 3) := fo_181 (fd_n 15 sr_X5_init_2 rfl) rfl
theorem dX5_init_75 : decode cX5_init 75 = .ok (.aload_n 0, 1) := fo_42 (fd_n 18 sr_X5_init_2 rfl)
theorem dX5_init_76 : decode cX5_init 76 = .ok (.iconst 4, 1) := fo_7 (fd_n 19 sr_X5_init_2 rfl)
theorem dX5_init_79 : decode cX5_init 79 = .ok (.putfield 37, 3) := fo_181 (fd_n 22 sr_X5_init_2 rfl) rfl
theorem dX5_init_82 : decode cX5_init 82 = .ok (.aload_n 0, 1) := fo_42 (fd_n 25 sr_X5_init_2 rfl)
theorem dX5_init_83 : decode cX5_init 83 = .ok (.sipush 160, 3) := fo_17 (fd_n 26 sr_X5_init_2 rfl) (by decide +kernel)
theorem dX5_init_88 : decode cX5_init 88 = .ok (.putfield 40, 3) := fo_181 (fd_n 2 sr_X5_init_3 rfl) rfl
theorem dX5_init_91 : decode cX5_init 91 = .ok (.aload_n 0, 1) := fo_42 (fd_n 5 sr_X5_init_3 rfl)
theorem dX5_init_92 : decode cX5_init 92 = .ok (.bipush 40, 2) := fo_16 (fd_n 6 sr_X5_init_3 rfl) (by decide +kernel)
theorem dX5_init_96 : decode cX5_init 96 = .ok (.putfield 43, 3) := fo_181 (fd_n 10 sr_X5_init_3 rfl) rfl
theorem dX5_init_99 : decode cX5_init 99 = .ok (.aload_n 0, 1) := fo_42 (fd_n 13 sr_X5_init_3 rfl)
theorem dX5_init_100 : decode cX5_init 100 = .ok (.getfield 7, 3) := fo_180 (fd_n 14 sr_X5_init_3 rfl) rfl
theorem dX5_init_103 : decode cX5_init 103 = .ok (.iconst 2, 1) := fo_5 (fd_n 17 sr_X5_init_3 rfl)
theorem dX5_init_104 : decode cX5_init 104 = .ok (.iconst 1, 1) := fo_4 (fd_n 18 sr_X5_init_3 rfl)
theorem dX5_init_105 : decode cX5_init 105 = .ok (.iastore, 1) := fo_79 (fd_n 19 sr_X5_init_3 rfl)
theorem dX5_init_106 : decode cX5_init 106 = .ok (.iconst 0, 1) := fo_3 (fd_n 20 sr_X5_init_3 rfl)
theorem dX5_init_107 : decode cX5_init 107 = .ok (.istore_n 1, 1) := fo_60 (fd_n 21 sr_X5_init_3 rfl)
theorem dX5_init_108 : decode cX5_init 108 = .ok (.iload_n 1, 1) := fo_27 (fd_n 22 sr_X5_init_3 rfl)
theorem dX5_init_109 : decode cX5_init 109 = .ok (.iconst 4, 1) := fo_7 (fd_n 23 sr_X5_init_3 rfl)
theorem dX5_init_110 : decode cX5_init 110 = .ok (.if_icmp .ge 20, 3) := fo_162 (fd_n 24 sr_X5_init_3 rfl) (by decide +kernel)
theorem dX5_init_113 : decode cX5_init 113 = .ok (.aload_n 0, 1) := fo_42 (fd_n 27 sr_X5_init_3 rfl)
theorem dX5_init_114 : decode cX5_init 114 = .ok (.getfield 7, 3) := fo_180 sr_X5_init_4 rfl
theorem dX5_init_117 : decode cX5_init 117 = .ok (.iconst 3, 1) := fo_6 (fd_n 3 sr_X5_init_4 rfl)
theorem dX5_init_118 : decode cX5_init 118 = .ok (.iload_n 1, 1) := fo_27 (fd_n 4 sr_X5_init_4 rfl)
theorem dX5_init_119 : decode cX5_init 119 = .ok (.iadd, 1) := fo_96 (fd_n 5 sr_X5_init_4 rfl)
theorem dX5_init_120 : decode cX5_init 120 = .ok (.iload_n 1, 1) := fo_27 (fd_n 6 sr_X5_init_4 rfl)
theorem dX5_init_121 : decode cX5_init 121 = .ok (.iconst 1, 1) := fo_4 (fd_n 7 sr_X5_init_4 rfl)
theorem dX5_init_122 : decode cX5_init 122 = .ok (.iadd, 1) := fo_96 (fd_n 8 sr_X5_init_4 rfl)
theorem dX5_init_123 : decode cX5_init 123 = .ok (.iastore, 1) := fo_79 (fd_n 9 sr_X5_init_4 rfl)
theorem dX5_init_124 : decode cX5_init 124 = .ok (.iinc 1 1, 3) := fo_132 (fd_n 10 sr_X5_init_4 rfl) rfl (by decide +kernel)
theorem dX5_init_127 : decode cX5_init 127 = .ok (.goto (-19), 3) := fo_167 (fd_n 13 sr_X5_init_4 rfl) (by decide +kernel)
theorem dX5_init_130 : decode cX5_init 130 = .ok (.iconst 0, 1) := fo_3 (fd_n 16 sr_X5_init_4 rfl)
theorem dX5_init_131 : decode cX5_init 131 = .ok (.istore_n 1, 1) := fo_60 (fd_n 17 sr_X5_init_4 rfl)
theorem dX5_init_132 : decode cX5_init 132 = .ok (.iload_n 1, 1) := fo_27 (fd_n 18 sr_X5_init_4 rfl)
theorem dX5_init_133 : decode cX5_init 133 = .ok (.bipush 25, 2) := fo_16 (fd_n 19 sr_X5_init_4 rfl) (by decide +kernel)
theorem dX5_init_135 : decode cX5_init 135 = .ok (.if_icmp .ge 20, 3) := fo_162 (fd_n 21 sr_X5_init_4 rfl) (by decide +kernel)
theorem dX5_init_138 : decode cX5_init 138 = .ok (.aload_n 0, 1) := fo_42 (fd_n 24 sr_X5_init_4 rfl)
theorem dX5_init_139 : decode cX5_init 139 = .ok (.getfield 7, 3) := fo_180 (fd_n 25 sr_X5_init_4 rfl) rfl
theorem dX5_init_142 : decode cX5_init 142 = .ok (.iload_n 1, 1) := fo_27 sr_X5_init_5
theorem dX5_init_143 : decode cX5_init 143 = .ok (.iconst 0, 1) := fo_3 (fd_n 1 sr_X5_init_5 rfl)
theorem dX5_init_144 : decode cX5_init 144 = .ok (.invokestatic 46, 3) := fo_184 (fd_n 2 sr_X5_init_5 rfl) rfl
theorem dX5_init_147 : decode cX5_init 147 = .ok (.iconst (-1), 1) := fo_2 (fd_n 5 sr_X5_init_5 rfl)
theorem dX5_init_148 : decode cX5_init 148 = .ok (.iastore, 1) := fo_79 (fd_n 6 sr_X5_init_5 rfl)
theorem dX5_init_149 : decode cX5_init 149 = .ok (.iinc 1 1, 3) := fo_132 (fd_n 7 sr_X5_init_5 rfl) rfl (by decide +kernel)
theorem dX5_init_152 : decode cX5_init 152 = .ok (.goto (-20), 3) := fo_167 (fd_n 10 sr_X5_init_5 rfl) (by decide +kernel)
theorem dX5_init_155 : decode cX5_init 155 = .ok (.iconst 0, 1) := fo_3 (fd_n 13 sr_X5_init_5 rfl)
theorem dX5_init_156 : decode cX5_init 156 = .ok (.istore_n 1, 1) := fo_60 (fd_n 14 sr_X5_init_5 rfl)
theorem dX5_init_157 : decode cX5_init 157 = .ok (.iload_n 1, 1) := fo_27 (fd_n 15 sr_X5_init_5 rfl)
theorem dX5_init_158 : decode cX5_init 158 = .ok (.bipush 10, 2) := fo_16 (fd_n 16 sr_X5_init_5 rfl) (by decide +kernel)
theorem dX5_init_160 : decode cX5_init 160 = .ok (.if_icmp .ge 20, 3) := fo_162 (fd_n 18 sr_X5_init_5 rfl) (by decide +kernel)
theorem dX5_init_163 : decode cX5_init 163 = .ok (.aload_n 0, 1) := fo_42 (fd_n 21 sr_X5_init_5 rfl)
theorem dX5_init_164 : decode cX5_init 164 = .ok (.getfield 7, 3) := fo_180 (fd_n 22 sr_X5_init_5 rfl) rfl
theorem dX5_init_167 : decode cX5_init 167 = .ok (.sipush 171, 3) := fo_17 (fd_n 25 sr_X5_init_5 rfl) (by decide +kernel)
theorem dX5_init_170 : decode cX5_init 170 = .ok (.iload_n 1, 1) := fo_27 sr_X5_init_6
theorem dX5_init_171 : decode cX5_init 171 = .ok (.iadd, 1) := fo_96 (fd_n 1 sr_X5_init_6 rfl)
theorem dX5_init_172 : decode cX5_init 172 = .ok (.iconst (-1), 1) := fo_2 (fd_n 2 sr_X5_init_6 rfl)
theorem dX5_init_173 : decode cX5_init 173 = .ok (.iastore, 1) := fo_79 (fd_n 3 sr_X5_init_6 rfl)
theorem dX5_init_174 : decode cX5_init 174 = .ok (.iinc 1 1, 3) := fo_132 (fd_n 4 sr_X5_init_6 rfl) rfl (by decide +kernel)
theorem dX5_init_177 : decode cX5_init 177 = .ok (.goto (-20), 3) := fo_167 (fd_n 7 sr_X5_init_6 rfl) (by decide +kernel)
theorem dX5_init_180 : decode cX5_init 180 = .ok (.return_, 1) := fo_177 (fd_n 10 sr_X5_init_6 rfl)
theorem dX5_init_8 : decode cX5_init 8 = .ok (.newarray .int, 2) := by decide +kernel
theorem dX5_init_17 : decode cX5_init 17 = .ok (.newarray .int, 2) := by decide +kernel
theorem dX5_init_26 : decode cX5_init 26 = .ok (.newarray .int, 2) := by decide +kernel
theorem dX5_init_34 : decode cX5_init 34 = .ok (.newarray .int, 2) := by decide +kernel
theorem dX5_init_41 : decode cX5_init 41 = .ok (.newarray .int, 2) := by decide +kernel
theorem dX5_init_48 : decode cX5_init 48 = .ok (.newarray .int, 2) := by decide +kernel
theorem dX5_init_55 : decode cX5_init 55 = .ok (.newarray .int, 2) := by decide +kernel
theorem dX5_init_63 : decode cX5_init 63 = .ok (.newarray .int, 2) := by decide +kernel
theorem dX5_init_70 : decode cX5_init 70 = .ok (.newarray .int, 2) := by decide +kernel
theorem dX5_init_77 : decode cX5_init 77 = .ok (.newarray .int, 2) := by decide +kernel
theorem dX5_init_86 : decode cX5_init 86 = .ok (.newarray .int, 2) := by decide +kernel
theorem dX5_init_94 : decode cX5_init 94 = .ok (.newarray .int, 2) := by decide +kernel
noncomputable def sl_X5_in_0 : List UInt8 := 30 :: 32 :: 148 :: 155 :: 0 :: 14 :: 30 :: 22 :: 4 :: 148 :: 157 :: 0 :: 7 :: 4 :: 167 :: 0 :: 4 :: 3 :: 172 :: []
theorem sr_X5_in_0 : fd_at cX5_in 0 sl_X5_in_0 := fd_base (by decide +kernel)
theorem dX5_in_0 : decode cX5_in 0 = .ok (.lload_n 0, 1) := fo_30 sr_X5_in_0
theorem dX5_in_1 : decode cX5_in 1 = .ok (.lload_n 2, 1) := fo_32 (fd_n 1 sr_X5_in_0 rfl)
theorem dX5_in_2 : decode cX5_in 2 = .ok (.lcmp, 1) := fo_148 (fd_n 2 sr_X5_in_0 rfl)
theorem dX5_in_3 : decode cX5_in 3 = .ok (.ifCond .lt 14, 3) := fo_155 (fd_n 3 sr_X5_in_0 rfl) (by decide +kernel)
theorem dX5_in_6 : decode cX5_in 6 = .ok (.lload_n 0, 1) := fo_30 (fd_n 6 sr_X5_in_0 rfl)
theorem dX5_in_7 : decode cX5_in 7 = .ok (.lload 4, 2) := fo_22 (fd_n 7 sr_X5_in_0 rfl) rfl
theorem dX5_in_9 : decode cX5_in 9 = .ok (.lcmp, 1) := fo_148 (fd_n 9 sr_X5_in_0 rfl)
theorem dX5_in_10 : decode cX5_in 10 = .ok (.ifCond .gt 7, 3) := fo_157 (fd_n 10 sr_X5_in_0 rfl) (by decide +kernel)
theorem dX5_in_13 : decode cX5_in 13 = .ok (.iconst 1, 1) := fo_4 (fd_n 13 sr_X5_in_0 rfl)
theorem dX5_in_14 : decode cX5_in 14 = .ok (.goto 4, 3) := fo_167 (fd_n 14 sr_X5_in_0 rfl) (by decide +kernel)
theorem dX5_in_17 : decode cX5_in 17 = .ok (.iconst 0, 1) := fo_3 (fd_n 17 sr_X5_in_0 rfl)
theorem dX5_in_18 : decode cX5_in 18 = .ok (.ireturn, 1) := fo_172 (fd_n 18 sr_X5_in_0 rfl)
noncomputable def sl_X5_finds_0 : List UInt8 := 42 :: 180 :: 0 :: 19 :: 18 :: 50 :: 27 :: 100 :: 92 :: 46 :: 4 :: 96 :: 79 :: 27 :: 172 :: []
theorem sr_X5_finds_0 : fd_at cX5_finds 0 sl_X5_finds_0 := fd_base (by decide +kernel)
theorem dX5_finds_0 : decode cX5_finds 0 = .ok (.aload_n 0, 1) := fo_42 sr_X5_finds_0
theorem dX5_finds_1 : decode cX5_finds 1 = .ok (.getfield 19, 3) := fo_180 (fd_n 1 sr_X5_finds_0 rfl) rfl
theorem dX5_finds_4 : decode cX5_finds 4 = .ok (.ldc 50, 2) := fo_18 (fd_n 4 sr_X5_finds_0 rfl) rfl
theorem dX5_finds_6 : decode cX5_finds 6 = .ok (.iload_n 1, 1) := fo_27 (fd_n 6 sr_X5_finds_0 rfl)
theorem dX5_finds_7 : decode cX5_finds 7 = .ok (.isub, 1) := fo_100 (fd_n 7 sr_X5_finds_0 rfl)
theorem dX5_finds_8 : decode cX5_finds 8 = .ok (.dup2, 1) := fo_92 (fd_n 8 sr_X5_finds_0 rfl)
theorem dX5_finds_9 : decode cX5_finds 9 = .ok (.iaload, 1) := fo_46 (fd_n 9 sr_X5_finds_0 rfl)
theorem dX5_finds_10 : decode cX5_finds 10 = .ok (.iconst 1, 1) := fo_4 (fd_n 10 sr_X5_finds_0 rfl)
theorem dX5_finds_11 : decode cX5_finds 11 = .ok (.iadd, 1) := fo_96 (fd_n 11 sr_X5_finds_0 rfl)
theorem dX5_finds_12 : decode cX5_finds 12 = .ok (.iastore, 1) := fo_79 (fd_n 12 sr_X5_finds_0 rfl)
theorem dX5_finds_13 : decode cX5_finds 13 = .ok (.iload_n 1, 1) := fo_27 (fd_n 13 sr_X5_finds_0 rfl)
theorem dX5_finds_14 : decode cX5_finds 14 = .ok (.ireturn, 1) := fo_172 (fd_n 14 sr_X5_finds_0 rfl)
noncomputable def sl_X5_isLot_0 : List UInt8 := 26 :: 133 :: 9 :: 20 :: 0 :: 51 :: 184 :: 0 :: 53 :: 172 :: []
theorem sr_X5_isLot_0 : fd_at cX5_isLot 0 sl_X5_isLot_0 := fd_base (by decide +kernel)
theorem dX5_isLot_0 : decode cX5_isLot 0 = .ok (.iload_n 0, 1) := fo_26 sr_X5_isLot_0
theorem dX5_isLot_1 : decode cX5_isLot 1 = .ok (.i2l, 1) := fo_133 (fd_n 1 sr_X5_isLot_0 rfl)
theorem dX5_isLot_2 : decode cX5_isLot 2 = .ok (.lconst 0, 1) := fo_9 (fd_n 2 sr_X5_isLot_0 rfl)
theorem dX5_isLot_3 : decode cX5_isLot 3 = .ok (.ldc2_w 51, 3) := fo_20 (fd_n 3 sr_X5_isLot_0 rfl) rfl
theorem dX5_isLot_6 : decode cX5_isLot 6 = .ok (.invokestatic 53, 3) := fo_184 (fd_n 6 sr_X5_isLot_0 rfl) rfl
theorem dX5_isLot_9 : decode cX5_isLot 9 = .ok (.ireturn, 1) := fo_172 (fd_n 9 sr_X5_isLot_0 rfl)
noncomputable def sl_X5_isOwner_0 : List UInt8 := 26 :: 133 :: 9 :: 20 :: 0 :: 57 :: 184 :: 0 :: 53 :: 172 :: []
theorem sr_X5_isOwner_0 : fd_at cX5_isOwner 0 sl_X5_isOwner_0 := fd_base (by decide +kernel)
theorem dX5_isOwner_0 : decode cX5_isOwner 0 = .ok (.iload_n 0, 1) := fo_26 sr_X5_isOwner_0
theorem dX5_isOwner_1 : decode cX5_isOwner 1 = .ok (.i2l, 1) := fo_133 (fd_n 1 sr_X5_isOwner_0 rfl)
theorem dX5_isOwner_2 : decode cX5_isOwner 2 = .ok (.lconst 0, 1) := fo_9 (fd_n 2 sr_X5_isOwner_0 rfl)
theorem dX5_isOwner_3 : decode cX5_isOwner 3 = .ok (.ldc2_w 57, 3) := fo_20 (fd_n 3 sr_X5_isOwner_0 rfl) rfl
theorem dX5_isOwner_6 : decode cX5_isOwner 6 = .ok (.invokestatic 53, 3) := fo_184 (fd_n 6 sr_X5_isOwner_0 rfl) rfl
theorem dX5_isOwner_9 : decode cX5_isOwner 9 = .ok (.ireturn, 1) := fo_172 (fd_n 9 sr_X5_isOwner_0 rfl)
noncomputable def sl_X5_isHeight_0 : List UInt8 := 26 :: 133 :: 9 :: 20 :: 0 :: 59 :: 184 :: 0 :: 53 :: 172 :: []
theorem sr_X5_isHeight_0 : fd_at cX5_isHeight 0 sl_X5_isHeight_0 := fd_base (by decide +kernel)
theorem dX5_isHeight_0 : decode cX5_isHeight 0 = .ok (.iload_n 0, 1) := fo_26 sr_X5_isHeight_0
theorem dX5_isHeight_1 : decode cX5_isHeight 1 = .ok (.i2l, 1) := fo_133 (fd_n 1 sr_X5_isHeight_0 rfl)
theorem dX5_isHeight_2 : decode cX5_isHeight 2 = .ok (.lconst 0, 1) := fo_9 (fd_n 2 sr_X5_isHeight_0 rfl)
theorem dX5_isHeight_3 : decode cX5_isHeight 3 = .ok (.ldc2_w 59, 3) := fo_20 (fd_n 3 sr_X5_isHeight_0 rfl) rfl
theorem dX5_isHeight_6 : decode cX5_isHeight 6 = .ok (.invokestatic 53, 3) := fo_184 (fd_n 6 sr_X5_isHeight_0 rfl) rfl
theorem dX5_isHeight_9 : decode cX5_isHeight 9 = .ok (.ireturn, 1) := fo_172 (fd_n 9 sr_X5_isHeight_0 rfl)
noncomputable def sl_X5_isWindow_0 : List UInt8 := 27 :: 133 :: 9 :: 42 :: 180 :: 0 :: 7 :: 4 :: 46 :: 4 :: 100 :: 133 :: 184 :: 0 :: 53 :: 172 :: []
theorem sr_X5_isWindow_0 : fd_at cX5_isWindow 0 sl_X5_isWindow_0 := fd_base (by decide +kernel)
theorem dX5_isWindow_0 : decode cX5_isWindow 0 = .ok (.iload_n 1, 1) := fo_27 sr_X5_isWindow_0
theorem dX5_isWindow_1 : decode cX5_isWindow 1 = .ok (.i2l, 1) := fo_133 (fd_n 1 sr_X5_isWindow_0 rfl)
theorem dX5_isWindow_2 : decode cX5_isWindow 2 = .ok (.lconst 0, 1) := fo_9 (fd_n 2 sr_X5_isWindow_0 rfl)
theorem dX5_isWindow_3 : decode cX5_isWindow 3 = .ok (.aload_n 0, 1) := fo_42 (fd_n 3 sr_X5_isWindow_0 rfl)
theorem dX5_isWindow_4 : decode cX5_isWindow 4 = .ok (.getfield 7, 3) := fo_180 (fd_n 4 sr_X5_isWindow_0 rfl) rfl
theorem dX5_isWindow_7 : decode cX5_isWindow 7 = .ok (.iconst 1, 1) := fo_4 (fd_n 7 sr_X5_isWindow_0 rfl)
theorem dX5_isWindow_8 : decode cX5_isWindow 8 = .ok (.iaload, 1) := fo_46 (fd_n 8 sr_X5_isWindow_0 rfl)
theorem dX5_isWindow_9 : decode cX5_isWindow 9 = .ok (.iconst 1, 1) := fo_4 (fd_n 9 sr_X5_isWindow_0 rfl)
theorem dX5_isWindow_10 : decode cX5_isWindow 10 = .ok (.isub, 1) := fo_100 (fd_n 10 sr_X5_isWindow_0 rfl)
theorem dX5_isWindow_11 : decode cX5_isWindow 11 = .ok (.i2l, 1) := fo_133 (fd_n 11 sr_X5_isWindow_0 rfl)
theorem dX5_isWindow_12 : decode cX5_isWindow 12 = .ok (.invokestatic 53, 3) := fo_184 (fd_n 12 sr_X5_isWindow_0 rfl) rfl
theorem dX5_isWindow_15 : decode cX5_isWindow 15 = .ok (.ireturn, 1) := fo_172 (fd_n 15 sr_X5_isWindow_0 rfl)
noncomputable def sl_X5_ones_0 : List UInt8 := 3 :: 60 :: 26 :: 61 :: 28 :: 153 :: 0 :: 15 :: 132 :: 1 :: 1 :: 28 :: 28 :: 4 :: 100 :: 126 :: 61 :: 167 :: 255 :: 243 :: 27 :: 172 :: []
theorem sr_X5_ones_0 : fd_at cX5_ones 0 sl_X5_ones_0 := fd_base (by decide +kernel)
theorem dX5_ones_0 : decode cX5_ones 0 = .ok (.iconst 0, 1) := fo_3 sr_X5_ones_0
theorem dX5_ones_1 : decode cX5_ones 1 = .ok (.istore_n 1, 1) := fo_60 (fd_n 1 sr_X5_ones_0 rfl)
theorem dX5_ones_2 : decode cX5_ones 2 = .ok (.iload_n 0, 1) := fo_26 (fd_n 2 sr_X5_ones_0 rfl)
theorem dX5_ones_3 : decode cX5_ones 3 = .ok (.istore_n 2, 1) := fo_61 (fd_n 3 sr_X5_ones_0 rfl)
theorem dX5_ones_4 : decode cX5_ones 4 = .ok (.iload_n 2, 1) := fo_28 (fd_n 4 sr_X5_ones_0 rfl)
theorem dX5_ones_5 : decode cX5_ones 5 = .ok (.ifCond .eq 15, 3) := fo_153 (fd_n 5 sr_X5_ones_0 rfl) (by decide +kernel)
theorem dX5_ones_8 : decode cX5_ones 8 = .ok (.iinc 1 1, 3) := fo_132 (fd_n 8 sr_X5_ones_0 rfl) rfl (by decide +kernel)
theorem dX5_ones_11 : decode cX5_ones 11 = .ok (.iload_n 2, 1) := fo_28 (fd_n 11 sr_X5_ones_0 rfl)
theorem dX5_ones_12 : decode cX5_ones 12 = .ok (.iload_n 2, 1) := fo_28 (fd_n 12 sr_X5_ones_0 rfl)
theorem dX5_ones_13 : decode cX5_ones 13 = .ok (.iconst 1, 1) := fo_4 (fd_n 13 sr_X5_ones_0 rfl)
theorem dX5_ones_14 : decode cX5_ones 14 = .ok (.isub, 1) := fo_100 (fd_n 14 sr_X5_ones_0 rfl)
theorem dX5_ones_15 : decode cX5_ones 15 = .ok (.iand, 1) := fo_126 (fd_n 15 sr_X5_ones_0 rfl)
theorem dX5_ones_16 : decode cX5_ones 16 = .ok (.istore_n 2, 1) := fo_61 (fd_n 16 sr_X5_ones_0 rfl)
theorem dX5_ones_17 : decode cX5_ones 17 = .ok (.goto (-13), 3) := fo_167 (fd_n 17 sr_X5_ones_0 rfl) (by decide +kernel)
theorem dX5_ones_20 : decode cX5_ones 20 = .ok (.iload_n 1, 1) := fo_27 (fd_n 20 sr_X5_ones_0 rfl)
theorem dX5_ones_21 : decode cX5_ones 21 = .ok (.ireturn, 1) := fo_172 (fd_n 21 sr_X5_ones_0 rfl)
noncomputable def sl_X5_draw_1 : List UInt8 := 172 :: []
noncomputable def sl_X5_draw_0 : List UInt8 := 42 :: 180 :: 0 :: 7 :: 5 :: 42 :: 180 :: 0 :: 7 :: 5 :: 46 :: 18 :: 61 :: 104 :: 17 :: 48 :: 57 :: 96 :: 79 :: 42 :: 180 :: 0 :: 7 :: 5 :: 46 :: 16 :: 8 :: 124 :: sl_X5_draw_1
theorem sr_X5_draw_0 : fd_at cX5_draw 0 sl_X5_draw_0 := fd_base (by decide +kernel)
theorem sr_X5_draw_1 : fd_at cX5_draw 28 sl_X5_draw_1 := fd_n 28 sr_X5_draw_0 rfl
theorem dX5_draw_0 : decode cX5_draw 0 = .ok (.aload_n 0, 1) := fo_42 sr_X5_draw_0
theorem dX5_draw_1 : decode cX5_draw 1 = .ok (.getfield 7, 3) := fo_180 (fd_n 1 sr_X5_draw_0 rfl) rfl
theorem dX5_draw_4 : decode cX5_draw 4 = .ok (.iconst 2, 1) := fo_5 (fd_n 4 sr_X5_draw_0 rfl)
theorem dX5_draw_5 : decode cX5_draw 5 = .ok (.aload_n 0, 1) := fo_42 (fd_n 5 sr_X5_draw_0 rfl)
theorem dX5_draw_6 : decode cX5_draw 6 = .ok (.getfield 7, 3) := fo_180 (fd_n 6 sr_X5_draw_0 rfl) rfl
theorem dX5_draw_9 : decode cX5_draw 9 = .ok (.iconst 2, 1) := fo_5 (fd_n 9 sr_X5_draw_0 rfl)
theorem dX5_draw_10 : decode cX5_draw 10 = .ok (.iaload, 1) := fo_46 (fd_n 10 sr_X5_draw_0 rfl)
theorem dX5_draw_11 : decode cX5_draw 11 = .ok (.ldc 61, 2) := fo_18 (fd_n 11 sr_X5_draw_0 rfl) rfl
theorem dX5_draw_13 : decode cX5_draw 13 = .ok (.imul, 1) := fo_104 (fd_n 13 sr_X5_draw_0 rfl)
theorem dX5_draw_14 : decode cX5_draw 14 = .ok (.sipush 12345, 3) := fo_17 (fd_n 14 sr_X5_draw_0 rfl) (by decide +kernel)
theorem dX5_draw_17 : decode cX5_draw 17 = .ok (.iadd, 1) := fo_96 (fd_n 17 sr_X5_draw_0 rfl)
theorem dX5_draw_18 : decode cX5_draw 18 = .ok (.iastore, 1) := fo_79 (fd_n 18 sr_X5_draw_0 rfl)
theorem dX5_draw_19 : decode cX5_draw 19 = .ok (.aload_n 0, 1) := fo_42 (fd_n 19 sr_X5_draw_0 rfl)
theorem dX5_draw_20 : decode cX5_draw 20 = .ok (.getfield 7, 3) := fo_180 (fd_n 20 sr_X5_draw_0 rfl) rfl
theorem dX5_draw_23 : decode cX5_draw 23 = .ok (.iconst 2, 1) := fo_5 (fd_n 23 sr_X5_draw_0 rfl)
theorem dX5_draw_24 : decode cX5_draw 24 = .ok (.iaload, 1) := fo_46 (fd_n 24 sr_X5_draw_0 rfl)
theorem dX5_draw_25 : decode cX5_draw 25 = .ok (.bipush 8, 2) := fo_16 (fd_n 25 sr_X5_draw_0 rfl) (by decide +kernel)
theorem dX5_draw_27 : decode cX5_draw 27 = .ok (.iushr, 1) := fo_124 (fd_n 27 sr_X5_draw_0 rfl)
theorem dX5_draw_28 : decode cX5_draw 28 = .ok (.ireturn, 1) := fo_172 sr_X5_draw_1
noncomputable def sl_X5_puts_0 : List UInt8 := 3 :: 60 :: 27 :: 17 :: 0 :: 181 :: 162 :: 0 :: 21 :: 42 :: 180 :: 0 :: 16 :: 27 :: 42 :: 180 :: 0 :: 7 :: 27 :: 46 :: 79 :: 132 :: 1 :: 1 :: 167 :: 255 :: 234 :: 177 :: []
theorem sr_X5_puts_0 : fd_at cX5_puts 0 sl_X5_puts_0 := fd_base (by decide +kernel)
theorem dX5_puts_0 : decode cX5_puts 0 = .ok (.iconst 0, 1) := fo_3 sr_X5_puts_0
theorem dX5_puts_1 : decode cX5_puts 1 = .ok (.istore_n 1, 1) := fo_60 (fd_n 1 sr_X5_puts_0 rfl)
theorem dX5_puts_2 : decode cX5_puts 2 = .ok (.iload_n 1, 1) := fo_27 (fd_n 2 sr_X5_puts_0 rfl)
theorem dX5_puts_3 : decode cX5_puts 3 = .ok (.sipush 181, 3) := fo_17 (fd_n 3 sr_X5_puts_0 rfl) (by decide +kernel)
theorem dX5_puts_6 : decode cX5_puts 6 = .ok (.if_icmp .ge 21, 3) := fo_162 (fd_n 6 sr_X5_puts_0 rfl) (by decide +kernel)
theorem dX5_puts_9 : decode cX5_puts 9 = .ok (.aload_n 0, 1) := fo_42 (fd_n 9 sr_X5_puts_0 rfl)
theorem dX5_puts_10 : decode cX5_puts 10 = .ok (.getfield 16, 3) := fo_180 (fd_n 10 sr_X5_puts_0 rfl) rfl
theorem dX5_puts_13 : decode cX5_puts 13 = .ok (.iload_n 1, 1) := fo_27 (fd_n 13 sr_X5_puts_0 rfl)
theorem dX5_puts_14 : decode cX5_puts 14 = .ok (.aload_n 0, 1) := fo_42 (fd_n 14 sr_X5_puts_0 rfl)
theorem dX5_puts_15 : decode cX5_puts 15 = .ok (.getfield 7, 3) := fo_180 (fd_n 15 sr_X5_puts_0 rfl) rfl
theorem dX5_puts_18 : decode cX5_puts 18 = .ok (.iload_n 1, 1) := fo_27 (fd_n 18 sr_X5_puts_0 rfl)
theorem dX5_puts_19 : decode cX5_puts 19 = .ok (.iaload, 1) := fo_46 (fd_n 19 sr_X5_puts_0 rfl)
theorem dX5_puts_20 : decode cX5_puts 20 = .ok (.iastore, 1) := fo_79 (fd_n 20 sr_X5_puts_0 rfl)
theorem dX5_puts_21 : decode cX5_puts 21 = .ok (.iinc 1 1, 3) := fo_132 (fd_n 21 sr_X5_puts_0 rfl) rfl (by decide +kernel)
theorem dX5_puts_24 : decode cX5_puts 24 = .ok (.goto (-22), 3) := fo_167 (fd_n 24 sr_X5_puts_0 rfl) (by decide +kernel)
theorem dX5_puts_27 : decode cX5_puts 27 = .ok (.return_, 1) := fo_177 (fd_n 27 sr_X5_puts_0 rfl)
noncomputable def sl_X5_putsBack_0 : List UInt8 := 3 :: 60 :: 27 :: 17 :: 0 :: 181 :: 162 :: 0 :: 21 :: 42 :: 180 :: 0 :: 7 :: 27 :: 42 :: 180 :: 0 :: 16 :: 27 :: 46 :: 79 :: 132 :: 1 :: 1 :: 167 :: 255 :: 234 :: 177 :: []
theorem sr_X5_putsBack_0 : fd_at cX5_putsBack 0 sl_X5_putsBack_0 := fd_base (by decide +kernel)
theorem dX5_putsBack_0 : decode cX5_putsBack 0 = .ok (.iconst 0, 1) := fo_3 sr_X5_putsBack_0
theorem dX5_putsBack_1 : decode cX5_putsBack 1 = .ok (.istore_n 1, 1) := fo_60 (fd_n 1 sr_X5_putsBack_0 rfl)
theorem dX5_putsBack_2 : decode cX5_putsBack 2 = .ok (.iload_n 1, 1) := fo_27 (fd_n 2 sr_X5_putsBack_0 rfl)
theorem dX5_putsBack_3 : decode cX5_putsBack 3 = .ok (.sipush 181, 3) := fo_17 (fd_n 3 sr_X5_putsBack_0 rfl) (by decide +kernel)
theorem dX5_putsBack_6 : decode cX5_putsBack 6 = .ok (.if_icmp .ge 21, 3) := fo_162 (fd_n 6 sr_X5_putsBack_0 rfl) (by decide +kernel)
theorem dX5_putsBack_9 : decode cX5_putsBack 9 = .ok (.aload_n 0, 1) := fo_42 (fd_n 9 sr_X5_putsBack_0 rfl)
theorem dX5_putsBack_10 : decode cX5_putsBack 10 = .ok (.getfield 7, 3) := fo_180 (fd_n 10 sr_X5_putsBack_0 rfl) rfl
theorem dX5_putsBack_13 : decode cX5_putsBack 13 = .ok (.iload_n 1, 1) := fo_27 (fd_n 13 sr_X5_putsBack_0 rfl)
theorem dX5_putsBack_14 : decode cX5_putsBack 14 = .ok (.aload_n 0, 1) := fo_42 (fd_n 14 sr_X5_putsBack_0 rfl)
theorem dX5_putsBack_15 : decode cX5_putsBack 15 = .ok (.getfield 16, 3) := fo_180 (fd_n 15 sr_X5_putsBack_0 rfl) rfl
theorem dX5_putsBack_18 : decode cX5_putsBack 18 = .ok (.iload_n 1, 1) := fo_27 (fd_n 18 sr_X5_putsBack_0 rfl)
theorem dX5_putsBack_19 : decode cX5_putsBack 19 = .ok (.iaload, 1) := fo_46 (fd_n 19 sr_X5_putsBack_0 rfl)
theorem dX5_putsBack_20 : decode cX5_putsBack 20 = .ok (.iastore, 1) := fo_79 (fd_n 20 sr_X5_putsBack_0 rfl)
theorem dX5_putsBack_21 : decode cX5_putsBack 21 = .ok (.iinc 1 1, 3) := fo_132 (fd_n 21 sr_X5_putsBack_0 rfl) rfl (by decide +kernel)
theorem dX5_putsBack_24 : decode cX5_putsBack 24 = .ok (.goto (-22), 3) := fo_167 (fd_n 24 sr_X5_putsBack_0 rfl) (by decide +kernel)
theorem dX5_putsBack_27 : decode cX5_putsBack 27 = .ok (.return_, 1) := fo_177 (fd_n 27 sr_X5_putsBack_0 rfl)
noncomputable def sl_X5_at_0 : List UInt8 := 16 :: 11 :: 7 :: 26 :: 104 :: 96 :: 27 :: 96 :: 172 :: []
theorem sr_X5_at_0 : fd_at cX5_at 0 sl_X5_at_0 := fd_base (by decide +kernel)
theorem dX5_at_0 : decode cX5_at 0 = .ok (.bipush 11, 2) := fo_16 sr_X5_at_0 (by decide +kernel)
theorem dX5_at_2 : decode cX5_at 2 = .ok (.iconst 4, 1) := fo_7 (fd_n 2 sr_X5_at_0 rfl)
theorem dX5_at_3 : decode cX5_at 3 = .ok (.iload_n 0, 1) := fo_26 (fd_n 3 sr_X5_at_0 rfl)
theorem dX5_at_4 : decode cX5_at 4 = .ok (.imul, 1) := fo_104 (fd_n 4 sr_X5_at_0 rfl)
theorem dX5_at_5 : decode cX5_at 5 = .ok (.iadd, 1) := fo_96 (fd_n 5 sr_X5_at_0 rfl)
theorem dX5_at_6 : decode cX5_at 6 = .ok (.iload_n 1, 1) := fo_27 (fd_n 6 sr_X5_at_0 rfl)
theorem dX5_at_7 : decode cX5_at 7 = .ok (.iadd, 1) := fo_96 (fd_n 7 sr_X5_at_0 rfl)
theorem dX5_at_8 : decode cX5_at 8 = .ok (.ireturn, 1) := fo_172 (fd_n 8 sr_X5_at_0 rfl)
noncomputable def sl_X5_its_0 : List UInt8 := 42 :: 180 :: 0 :: 7 :: 27 :: 28 :: 184 :: 0 :: 46 :: 46 :: 172 :: []
theorem sr_X5_its_0 : fd_at cX5_its 0 sl_X5_its_0 := fd_base (by decide +kernel)
theorem dX5_its_0 : decode cX5_its 0 = .ok (.aload_n 0, 1) := fo_42 sr_X5_its_0
theorem dX5_its_1 : decode cX5_its 1 = .ok (.getfield 7, 3) := fo_180 (fd_n 1 sr_X5_its_0 rfl) rfl
theorem dX5_its_4 : decode cX5_its 4 = .ok (.iload_n 1, 1) := fo_27 (fd_n 4 sr_X5_its_0 rfl)
theorem dX5_its_5 : decode cX5_its 5 = .ok (.iload_n 2, 1) := fo_28 (fd_n 5 sr_X5_its_0 rfl)
theorem dX5_its_6 : decode cX5_its 6 = .ok (.invokestatic 46, 3) := fo_184 (fd_n 6 sr_X5_its_0 rfl) rfl
theorem dX5_its_9 : decode cX5_its 9 = .ok (.iaload, 1) := fo_46 (fd_n 9 sr_X5_its_0 rfl)
theorem dX5_its_10 : decode cX5_its 10 = .ok (.ireturn, 1) := fo_172 (fd_n 10 sr_X5_its_0 rfl)
noncomputable def sl_X5_isThing_0 : List UInt8 := 42 :: 27 :: 3 :: 182 :: 0 :: 62 :: 155 :: 0 :: 7 :: 4 :: 167 :: 0 :: 4 :: 3 :: 172 :: []
theorem sr_X5_isThing_0 : fd_at cX5_isThing 0 sl_X5_isThing_0 := fd_base (by decide +kernel)
theorem dX5_isThing_0 : decode cX5_isThing 0 = .ok (.aload_n 0, 1) := fo_42 sr_X5_isThing_0
theorem dX5_isThing_1 : decode cX5_isThing 1 = .ok (.iload_n 1, 1) := fo_27 (fd_n 1 sr_X5_isThing_0 rfl)
theorem dX5_isThing_2 : decode cX5_isThing 2 = .ok (.iconst 0, 1) := fo_3 (fd_n 2 sr_X5_isThing_0 rfl)
theorem dX5_isThing_3 : decode cX5_isThing 3 = .ok (.invokevirtual 62, 3) := fo_182 (fd_n 3 sr_X5_isThing_0 rfl) rfl
theorem dX5_isThing_6 : decode cX5_isThing 6 = .ok (.ifCond .lt 7, 3) := fo_155 (fd_n 6 sr_X5_isThing_0 rfl) (by decide +kernel)
theorem dX5_isThing_9 : decode cX5_isThing 9 = .ok (.iconst 1, 1) := fo_4 (fd_n 9 sr_X5_isThing_0 rfl)
theorem dX5_isThing_10 : decode cX5_isThing 10 = .ok (.goto 4, 3) := fo_167 (fd_n 10 sr_X5_isThing_0 rfl) (by decide +kernel)
theorem dX5_isThing_13 : decode cX5_isThing 13 = .ok (.iconst 0, 1) := fo_3 (fd_n 13 sr_X5_isThing_0 rfl)
theorem dX5_isThing_14 : decode cX5_isThing 14 = .ok (.ireturn, 1) := fo_172 (fd_n 14 sr_X5_isThing_0 rfl)
noncomputable def sl_X5_things_1 : List UInt8 := 167 :: 255 :: 231 :: 27 :: 172 :: []
noncomputable def sl_X5_things_0 : List UInt8 := 3 :: 60 :: 3 :: 61 :: 28 :: 16 :: 25 :: 162 :: 0 :: 25 :: 27 :: 42 :: 28 :: 182 :: 0 :: 65 :: 153 :: 0 :: 7 :: 4 :: 167 :: 0 :: 4 :: 3 :: 96 :: 60 :: 132 :: 2 :: 1 :: sl_X5_things_1
theorem sr_X5_things_0 : fd_at cX5_things 0 sl_X5_things_0 := fd_base (by decide +kernel)
theorem sr_X5_things_1 : fd_at cX5_things 29 sl_X5_things_1 := fd_n 29 sr_X5_things_0 rfl
theorem dX5_things_0 : decode cX5_things 0 = .ok (.iconst 0, 1) := fo_3 sr_X5_things_0
theorem dX5_things_1 : decode cX5_things 1 = .ok (.istore_n 1, 1) := fo_60 (fd_n 1 sr_X5_things_0 rfl)
theorem dX5_things_2 : decode cX5_things 2 = .ok (.iconst 0, 1) := fo_3 (fd_n 2 sr_X5_things_0 rfl)
theorem dX5_things_3 : decode cX5_things 3 = .ok (.istore_n 2, 1) := fo_61 (fd_n 3 sr_X5_things_0 rfl)
theorem dX5_things_4 : decode cX5_things 4 = .ok (.iload_n 2, 1) := fo_28 (fd_n 4 sr_X5_things_0 rfl)
theorem dX5_things_5 : decode cX5_things 5 = .ok (.bipush 25, 2) := fo_16 (fd_n 5 sr_X5_things_0 rfl) (by decide +kernel)
theorem dX5_things_7 : decode cX5_things 7 = .ok (.if_icmp .ge 25, 3) := fo_162 (fd_n 7 sr_X5_things_0 rfl) (by decide +kernel)
theorem dX5_things_10 : decode cX5_things 10 = .ok (.iload_n 1, 1) := fo_27 (fd_n 10 sr_X5_things_0 rfl)
theorem dX5_things_11 : decode cX5_things 11 = .ok (.aload_n 0, 1) := fo_42 (fd_n 11 sr_X5_things_0 rfl)
theorem dX5_things_12 : decode cX5_things 12 = .ok (.iload_n 2, 1) := fo_28 (fd_n 12 sr_X5_things_0 rfl)
theorem dX5_things_13 : decode cX5_things 13 = .ok (.invokevirtual 65, 3) := fo_182 (fd_n 13 sr_X5_things_0 rfl) rfl
theorem dX5_things_16 : decode cX5_things 16 = .ok (.ifCond .eq 7, 3) := fo_153 (fd_n 16 sr_X5_things_0 rfl) (by decide +kernel)
theorem dX5_things_19 : decode cX5_things 19 = .ok (.iconst 1, 1) := fo_4 (fd_n 19 sr_X5_things_0 rfl)
theorem dX5_things_20 : decode cX5_things 20 = .ok (.goto 4, 3) := fo_167 (fd_n 20 sr_X5_things_0 rfl) (by decide +kernel)
theorem dX5_things_23 : decode cX5_things 23 = .ok (.iconst 0, 1) := fo_3 (fd_n 23 sr_X5_things_0 rfl)
theorem dX5_things_24 : decode cX5_things 24 = .ok (.iadd, 1) := fo_96 (fd_n 24 sr_X5_things_0 rfl)
theorem dX5_things_25 : decode cX5_things 25 = .ok (.istore_n 1, 1) := fo_60 (fd_n 25 sr_X5_things_0 rfl)
theorem dX5_things_26 : decode cX5_things 26 = .ok (.iinc 2 1, 3) := fo_132 (fd_n 26 sr_X5_things_0 rfl) rfl (by decide +kernel)
theorem dX5_things_29 : decode cX5_things 29 = .ok (.goto (-25), 3) := fo_167 sr_X5_things_1 (by decide +kernel)
theorem dX5_things_32 : decode cX5_things 32 = .ok (.iload_n 1, 1) := fo_27 (fd_n 3 sr_X5_things_1 rfl)
theorem dX5_things_33 : decode cX5_things 33 = .ok (.ireturn, 1) := fo_172 (fd_n 4 sr_X5_things_1 rfl)
noncomputable def sl_X5_builds_1 : List UInt8 := 184 :: 0 :: 46 :: 21 :: 4 :: 79 :: 42 :: 180 :: 0 :: 7 :: 27 :: 6 :: 184 :: 0 :: 46 :: 21 :: 5 :: 79 :: 177 :: []
noncomputable def sl_X5_builds_0 : List UInt8 := 42 :: 180 :: 0 :: 7 :: 27 :: 3 :: 184 :: 0 :: 46 :: 28 :: 79 :: 42 :: 180 :: 0 :: 7 :: 27 :: 4 :: 184 :: 0 :: 46 :: 29 :: 79 :: 42 :: 180 :: 0 :: 7 :: 27 :: 5 :: sl_X5_builds_1
theorem sr_X5_builds_0 : fd_at cX5_builds 0 sl_X5_builds_0 := fd_base (by decide +kernel)
theorem sr_X5_builds_1 : fd_at cX5_builds 28 sl_X5_builds_1 := fd_n 28 sr_X5_builds_0 rfl
theorem dX5_builds_0 : decode cX5_builds 0 = .ok (.aload_n 0, 1) := fo_42 sr_X5_builds_0
theorem dX5_builds_1 : decode cX5_builds 1 = .ok (.getfield 7, 3) := fo_180 (fd_n 1 sr_X5_builds_0 rfl) rfl
theorem dX5_builds_4 : decode cX5_builds 4 = .ok (.iload_n 1, 1) := fo_27 (fd_n 4 sr_X5_builds_0 rfl)
theorem dX5_builds_5 : decode cX5_builds 5 = .ok (.iconst 0, 1) := fo_3 (fd_n 5 sr_X5_builds_0 rfl)
theorem dX5_builds_6 : decode cX5_builds 6 = .ok (.invokestatic 46, 3) := fo_184 (fd_n 6 sr_X5_builds_0 rfl) rfl
theorem dX5_builds_9 : decode cX5_builds 9 = .ok (.iload_n 2, 1) := fo_28 (fd_n 9 sr_X5_builds_0 rfl)
theorem dX5_builds_10 : decode cX5_builds 10 = .ok (.iastore, 1) := fo_79 (fd_n 10 sr_X5_builds_0 rfl)
theorem dX5_builds_11 : decode cX5_builds 11 = .ok (.aload_n 0, 1) := fo_42 (fd_n 11 sr_X5_builds_0 rfl)
theorem dX5_builds_12 : decode cX5_builds 12 = .ok (.getfield 7, 3) := fo_180 (fd_n 12 sr_X5_builds_0 rfl) rfl
theorem dX5_builds_15 : decode cX5_builds 15 = .ok (.iload_n 1, 1) := fo_27 (fd_n 15 sr_X5_builds_0 rfl)
theorem dX5_builds_16 : decode cX5_builds 16 = .ok (.iconst 1, 1) := fo_4 (fd_n 16 sr_X5_builds_0 rfl)
theorem dX5_builds_17 : decode cX5_builds 17 = .ok (.invokestatic 46, 3) := fo_184 (fd_n 17 sr_X5_builds_0 rfl) rfl
theorem dX5_builds_20 : decode cX5_builds 20 = .ok (.iload_n 3, 1) := fo_29 (fd_n 20 sr_X5_builds_0 rfl)
theorem dX5_builds_21 : decode cX5_builds 21 = .ok (.iastore, 1) := fo_79 (fd_n 21 sr_X5_builds_0 rfl)
theorem dX5_builds_22 : decode cX5_builds 22 = .ok (.aload_n 0, 1) := fo_42 (fd_n 22 sr_X5_builds_0 rfl)
theorem dX5_builds_23 : decode cX5_builds 23 = .ok (.getfield 7, 3) := fo_180 (fd_n 23 sr_X5_builds_0 rfl) rfl
theorem dX5_builds_26 : decode cX5_builds 26 = .ok (.iload_n 1, 1) := fo_27 (fd_n 26 sr_X5_builds_0 rfl)
theorem dX5_builds_27 : decode cX5_builds 27 = .ok (.iconst 2, 1) := fo_5 (fd_n 27 sr_X5_builds_0 rfl)
theorem dX5_builds_28 : decode cX5_builds 28 = .ok (.invokestatic 46, 3) := fo_184 sr_X5_builds_1 rfl
theorem dX5_builds_31 : decode cX5_builds 31 = .ok (.iload 4, 2) := fo_21 (fd_n 3 sr_X5_builds_1 rfl) rfl
theorem dX5_builds_33 : decode cX5_builds 33 = .ok (.iastore, 1) := fo_79 (fd_n 5 sr_X5_builds_1 rfl)
theorem dX5_builds_34 : decode cX5_builds 34 = .ok (.aload_n 0, 1) := fo_42 (fd_n 6 sr_X5_builds_1 rfl)
theorem dX5_builds_35 : decode cX5_builds 35 = .ok (.getfield 7, 3) := fo_180 (fd_n 7 sr_X5_builds_1 rfl) rfl
theorem dX5_builds_38 : decode cX5_builds 38 = .ok (.iload_n 1, 1) := fo_27 (fd_n 10 sr_X5_builds_1 rfl)
theorem dX5_builds_39 : decode cX5_builds 39 = .ok (.iconst 3, 1) := fo_6 (fd_n 11 sr_X5_builds_1 rfl)
theorem dX5_builds_40 : decode cX5_builds 40 = .ok (.invokestatic 46, 3) := fo_184 (fd_n 12 sr_X5_builds_1 rfl) rfl
theorem dX5_builds_43 : decode cX5_builds 43 = .ok (.iload 5, 2) := fo_21 (fd_n 15 sr_X5_builds_1 rfl) rfl
theorem dX5_builds_45 : decode cX5_builds 45 = .ok (.iastore, 1) := fo_79 (fd_n 17 sr_X5_builds_1 rfl)
theorem dX5_builds_46 : decode cX5_builds 46 = .ok (.return_, 1) := fo_177 (fd_n 18 sr_X5_builds_1 rfl)
noncomputable def sl_X5_build_2 : List UInt8 := 42 :: 28 :: 27 :: 29 :: 21 :: 4 :: 3 :: 182 :: 0 :: 85 :: 42 :: 182 :: 0 :: 89 :: 172 :: []
noncomputable def sl_X5_build_1 : List UInt8 := 184 :: 0 :: 77 :: 154 :: 0 :: 10 :: 42 :: 18 :: 50 :: 182 :: 0 :: 80 :: 172 :: 42 :: 28 :: 182 :: 0 :: 65 :: 153 :: 0 :: 10 :: 42 :: 18 :: 84 :: 182 :: 0 :: 80 :: 172 :: sl_X5_build_2
noncomputable def sl_X5_build_0 : List UInt8 := 27 :: 133 :: 9 :: 20 :: 0 :: 69 :: 184 :: 0 :: 53 :: 153 :: 0 :: 25 :: 28 :: 184 :: 0 :: 71 :: 153 :: 0 :: 18 :: 29 :: 184 :: 0 :: 74 :: 153 :: 0 :: 11 :: 21 :: 4 :: sl_X5_build_1
theorem sr_X5_build_0 : fd_at cX5_build 0 sl_X5_build_0 := fd_base (by decide +kernel)
theorem sr_X5_build_1 : fd_at cX5_build 28 sl_X5_build_1 := fd_n 28 sr_X5_build_0 rfl
theorem sr_X5_build_2 : fd_at cX5_build 56 sl_X5_build_2 := fd_n 28 sr_X5_build_1 rfl
theorem dX5_build_0 : decode cX5_build 0 = .ok (.iload_n 1, 1) := fo_27 sr_X5_build_0
theorem dX5_build_1 : decode cX5_build 1 = .ok (.i2l, 1) := fo_133 (fd_n 1 sr_X5_build_0 rfl)
theorem dX5_build_2 : decode cX5_build 2 = .ok (.lconst 0, 1) := fo_9 (fd_n 2 sr_X5_build_0 rfl)
theorem dX5_build_3 : decode cX5_build 3 = .ok (.ldc2_w 69, 3) := fo_20 (fd_n 3 sr_X5_build_0 rfl) rfl
theorem dX5_build_6 : decode cX5_build 6 = .ok (.invokestatic 53, 3) := fo_184 (fd_n 6 sr_X5_build_0 rfl) rfl
theorem dX5_build_9 : decode cX5_build 9 = .ok (.ifCond .eq 25, 3) := fo_153 (fd_n 9 sr_X5_build_0 rfl) (by decide +kernel)
theorem dX5_build_12 : decode cX5_build 12 = .ok (.iload_n 2, 1) := fo_28 (fd_n 12 sr_X5_build_0 rfl)
theorem dX5_build_13 : decode cX5_build 13 = .ok (.invokestatic 71, 3) := fo_184 (fd_n 13 sr_X5_build_0 rfl) rfl
theorem dX5_build_16 : decode cX5_build 16 = .ok (.ifCond .eq 18, 3) := fo_153 (fd_n 16 sr_X5_build_0 rfl) (by decide +kernel)
theorem dX5_build_19 : decode cX5_build 19 = .ok (.iload_n 3, 1) := fo_29 (fd_n 19 sr_X5_build_0 rfl)
theorem dX5_build_20 : decode cX5_build 20 = .ok (.invokestatic 74, 3) := fo_184 (fd_n 20 sr_X5_build_0 rfl) rfl
theorem dX5_build_23 : decode cX5_build 23 = .ok (.ifCond .eq 11, 3) := fo_153 (fd_n 23 sr_X5_build_0 rfl) (by decide +kernel)
theorem dX5_build_26 : decode cX5_build 26 = .ok (.iload 4, 2) := fo_21 (fd_n 26 sr_X5_build_0 rfl) rfl
theorem dX5_build_28 : decode cX5_build 28 = .ok (.invokestatic 77, 3) := fo_184 sr_X5_build_1 rfl
theorem dX5_build_31 : decode cX5_build 31 = .ok (.ifCond .ne 10, 3) := fo_154 (fd_n 3 sr_X5_build_1 rfl) (by decide +kernel)
theorem dX5_build_34 : decode cX5_build 34 = .ok (.aload_n 0, 1) := fo_42 (fd_n 6 sr_X5_build_1 rfl)
theorem dX5_build_35 : decode cX5_build 35 = .ok (.ldc 50, 2) := fo_18 (fd_n 7 sr_X5_build_1 rfl) rfl
theorem dX5_build_37 : decode cX5_build 37 = .ok (.invokevirtual 80, 3) := fo_182 (fd_n 9 sr_X5_build_1 rfl) rfl
theorem dX5_build_40 : decode cX5_build 40 = .ok (.ireturn, 1) := fo_172 (fd_n 12 sr_X5_build_1 rfl)
theorem dX5_build_41 : decode cX5_build 41 = .ok (.aload_n 0, 1) := fo_42 (fd_n 13 sr_X5_build_1 rfl)
theorem dX5_build_42 : decode cX5_build 42 = .ok (.iload_n 2, 1) := fo_28 (fd_n 14 sr_X5_build_1 rfl)
theorem dX5_build_43 : decode cX5_build 43 = .ok (.invokevirtual 65, 3) := fo_182 (fd_n 15 sr_X5_build_1 rfl) rfl
theorem dX5_build_46 : decode cX5_build 46 = .ok (.ifCond .eq 10, 3) := fo_153 (fd_n 18 sr_X5_build_1 rfl) (by decide +kernel)
theorem dX5_build_49 : decode cX5_build 49 = .ok (.aload_n 0, 1) := fo_42 (fd_n 21 sr_X5_build_1 rfl)
theorem dX5_build_50 : decode cX5_build 50 = .ok (.ldc 84, 2) := fo_18 (fd_n 22 sr_X5_build_1 rfl) rfl
theorem dX5_build_52 : decode cX5_build 52 = .ok (.invokevirtual 80, 3) := fo_182 (fd_n 24 sr_X5_build_1 rfl) rfl
theorem dX5_build_55 : decode cX5_build 55 = .ok (.ireturn, 1) := fo_172 (fd_n 27 sr_X5_build_1 rfl)
theorem dX5_build_56 : decode cX5_build 56 = .ok (.aload_n 0, 1) := fo_42 sr_X5_build_2
theorem dX5_build_57 : decode cX5_build 57 = .ok (.iload_n 2, 1) := fo_28 (fd_n 1 sr_X5_build_2 rfl)
theorem dX5_build_58 : decode cX5_build 58 = .ok (.iload_n 1, 1) := fo_27 (fd_n 2 sr_X5_build_2 rfl)
theorem dX5_build_59 : decode cX5_build 59 = .ok (.iload_n 3, 1) := fo_29 (fd_n 3 sr_X5_build_2 rfl)
theorem dX5_build_60 : decode cX5_build 60 = .ok (.iload 4, 2) := fo_21 (fd_n 4 sr_X5_build_2 rfl) rfl
theorem dX5_build_62 : decode cX5_build 62 = .ok (.iconst 0, 1) := fo_3 (fd_n 6 sr_X5_build_2 rfl)
theorem dX5_build_63 : decode cX5_build 63 = .ok (.invokevirtual 85, 3) := fo_182 (fd_n 7 sr_X5_build_2 rfl) rfl
theorem dX5_build_66 : decode cX5_build 66 = .ok (.aload_n 0, 1) := fo_42 (fd_n 10 sr_X5_build_2 rfl)
theorem dX5_build_67 : decode cX5_build 67 = .ok (.invokevirtual 89, 3) := fo_182 (fd_n 11 sr_X5_build_2 rfl) rfl
theorem dX5_build_70 : decode cX5_build 70 = .ok (.ireturn, 1) := fo_172 (fd_n 14 sr_X5_build_2 rfl)
noncomputable def sl_X5_lotWrong_0 : List UInt8 := 27 :: 184 :: 0 :: 71 :: 154 :: 0 :: 8 :: 18 :: 50 :: 167 :: 0 :: 17 :: 42 :: 27 :: 182 :: 0 :: 65 :: 153 :: 0 :: 7 :: 3 :: 167 :: 0 :: 5 :: 18 :: 93 :: 172 :: []
theorem sr_X5_lotWrong_0 : fd_at cX5_lotWrong 0 sl_X5_lotWrong_0 := fd_base (by decide +kernel)
theorem dX5_lotWrong_0 : decode cX5_lotWrong 0 = .ok (.iload_n 1, 1) := fo_27 sr_X5_lotWrong_0
theorem dX5_lotWrong_1 : decode cX5_lotWrong 1 = .ok (.invokestatic 71, 3) := fo_184 (fd_n 1 sr_X5_lotWrong_0 rfl) rfl
theorem dX5_lotWrong_4 : decode cX5_lotWrong 4 = .ok (.ifCond .ne 8, 3) := fo_154 (fd_n 4 sr_X5_lotWrong_0 rfl) (by decide +kernel)
theorem dX5_lotWrong_7 : decode cX5_lotWrong 7 = .ok (.ldc 50, 2) := fo_18 (fd_n 7 sr_X5_lotWrong_0 rfl) rfl
theorem dX5_lotWrong_9 : decode cX5_lotWrong 9 = .ok (.goto 17, 3) := fo_167 (fd_n 9 sr_X5_lotWrong_0 rfl) (by decide +kernel)
theorem dX5_lotWrong_12 : decode cX5_lotWrong 12 = .ok (.aload_n 0, 1) := fo_42 (fd_n 12 sr_X5_lotWrong_0 rfl)
theorem dX5_lotWrong_13 : decode cX5_lotWrong 13 = .ok (.iload_n 1, 1) := fo_27 (fd_n 13 sr_X5_lotWrong_0 rfl)
theorem dX5_lotWrong_14 : decode cX5_lotWrong 14 = .ok (.invokevirtual 65, 3) := fo_182 (fd_n 14 sr_X5_lotWrong_0 rfl) rfl
theorem dX5_lotWrong_17 : decode cX5_lotWrong 17 = .ok (.ifCond .eq 7, 3) := fo_153 (fd_n 17 sr_X5_lotWrong_0 rfl) (by decide +kernel)
theorem dX5_lotWrong_20 : decode cX5_lotWrong 20 = .ok (.iconst 0, 1) := fo_3 (fd_n 20 sr_X5_lotWrong_0 rfl)
theorem dX5_lotWrong_21 : decode cX5_lotWrong 21 = .ok (.goto 5, 3) := fo_167 (fd_n 21 sr_X5_lotWrong_0 rfl) (by decide +kernel)
theorem dX5_lotWrong_24 : decode cX5_lotWrong 24 = .ok (.ldc 93, 2) := fo_18 (fd_n 24 sr_X5_lotWrong_0 rfl) rfl
theorem dX5_lotWrong_26 : decode cX5_lotWrong 26 = .ok (.ireturn, 1) := fo_172 (fd_n 26 sr_X5_lotWrong_0 rfl)
noncomputable def sl_X5_clear_1 : List UInt8 := 27 :: 5 :: 182 :: 0 :: 62 :: 172 :: []
noncomputable def sl_X5_clear_0 : List UInt8 := 42 :: 27 :: 182 :: 0 :: 94 :: 61 :: 28 :: 153 :: 0 :: 9 :: 42 :: 28 :: 182 :: 0 :: 80 :: 172 :: 42 :: 180 :: 0 :: 7 :: 27 :: 3 :: 184 :: 0 :: 46 :: 2 :: 79 :: 42 :: sl_X5_clear_1
theorem sr_X5_clear_0 : fd_at cX5_clear 0 sl_X5_clear_0 := fd_base (by decide +kernel)
theorem sr_X5_clear_1 : fd_at cX5_clear 28 sl_X5_clear_1 := fd_n 28 sr_X5_clear_0 rfl
theorem dX5_clear_0 : decode cX5_clear 0 = .ok (.aload_n 0, 1) := fo_42 sr_X5_clear_0
theorem dX5_clear_1 : decode cX5_clear 1 = .ok (.iload_n 1, 1) := fo_27 (fd_n 1 sr_X5_clear_0 rfl)
theorem dX5_clear_2 : decode cX5_clear 2 = .ok (.invokevirtual 94, 3) := fo_182 (fd_n 2 sr_X5_clear_0 rfl) rfl
theorem dX5_clear_5 : decode cX5_clear 5 = .ok (.istore_n 2, 1) := fo_61 (fd_n 5 sr_X5_clear_0 rfl)
theorem dX5_clear_6 : decode cX5_clear 6 = .ok (.iload_n 2, 1) := fo_28 (fd_n 6 sr_X5_clear_0 rfl)
theorem dX5_clear_7 : decode cX5_clear 7 = .ok (.ifCond .eq 9, 3) := fo_153 (fd_n 7 sr_X5_clear_0 rfl) (by decide +kernel)
theorem dX5_clear_10 : decode cX5_clear 10 = .ok (.aload_n 0, 1) := fo_42 (fd_n 10 sr_X5_clear_0 rfl)
theorem dX5_clear_11 : decode cX5_clear 11 = .ok (.iload_n 2, 1) := fo_28 (fd_n 11 sr_X5_clear_0 rfl)
theorem dX5_clear_12 : decode cX5_clear 12 = .ok (.invokevirtual 80, 3) := fo_182 (fd_n 12 sr_X5_clear_0 rfl) rfl
theorem dX5_clear_15 : decode cX5_clear 15 = .ok (.ireturn, 1) := fo_172 (fd_n 15 sr_X5_clear_0 rfl)
theorem dX5_clear_16 : decode cX5_clear 16 = .ok (.aload_n 0, 1) := fo_42 (fd_n 16 sr_X5_clear_0 rfl)
theorem dX5_clear_17 : decode cX5_clear 17 = .ok (.getfield 7, 3) := fo_180 (fd_n 17 sr_X5_clear_0 rfl) rfl
theorem dX5_clear_20 : decode cX5_clear 20 = .ok (.iload_n 1, 1) := fo_27 (fd_n 20 sr_X5_clear_0 rfl)
theorem dX5_clear_21 : decode cX5_clear 21 = .ok (.iconst 0, 1) := fo_3 (fd_n 21 sr_X5_clear_0 rfl)
theorem dX5_clear_22 : decode cX5_clear 22 = .ok (.invokestatic 46, 3) := fo_184 (fd_n 22 sr_X5_clear_0 rfl) rfl
theorem dX5_clear_25 : decode cX5_clear 25 = .ok (.iconst (-1), 1) := fo_2 (fd_n 25 sr_X5_clear_0 rfl)
theorem dX5_clear_26 : decode cX5_clear 26 = .ok (.iastore, 1) := fo_79 (fd_n 26 sr_X5_clear_0 rfl)
theorem dX5_clear_27 : decode cX5_clear 27 = .ok (.aload_n 0, 1) := fo_42 (fd_n 27 sr_X5_clear_0 rfl)
theorem dX5_clear_28 : decode cX5_clear 28 = .ok (.iload_n 1, 1) := fo_27 sr_X5_clear_1
theorem dX5_clear_29 : decode cX5_clear 29 = .ok (.iconst 2, 1) := fo_5 (fd_n 1 sr_X5_clear_1 rfl)
theorem dX5_clear_30 : decode cX5_clear 30 = .ok (.invokevirtual 62, 3) := fo_182 (fd_n 2 sr_X5_clear_1 rfl) rfl
theorem dX5_clear_33 : decode cX5_clear 33 = .ok (.ireturn, 1) := fo_172 (fd_n 5 sr_X5_clear_1 rfl)
noncomputable def sl_X5_isSummer_0 : List UInt8 := 42 :: 180 :: 0 :: 7 :: 3 :: 46 :: 16 :: 12 :: 112 :: 133 :: 20 :: 0 :: 57 :: 20 :: 0 :: 97 :: 184 :: 0 :: 53 :: 172 :: []
theorem sr_X5_isSummer_0 : fd_at cX5_isSummer 0 sl_X5_isSummer_0 := fd_base (by decide +kernel)
theorem dX5_isSummer_0 : decode cX5_isSummer 0 = .ok (.aload_n 0, 1) := fo_42 sr_X5_isSummer_0
theorem dX5_isSummer_1 : decode cX5_isSummer 1 = .ok (.getfield 7, 3) := fo_180 (fd_n 1 sr_X5_isSummer_0 rfl) rfl
theorem dX5_isSummer_4 : decode cX5_isSummer 4 = .ok (.iconst 0, 1) := fo_3 (fd_n 4 sr_X5_isSummer_0 rfl)
theorem dX5_isSummer_5 : decode cX5_isSummer 5 = .ok (.iaload, 1) := fo_46 (fd_n 5 sr_X5_isSummer_0 rfl)
theorem dX5_isSummer_6 : decode cX5_isSummer 6 = .ok (.bipush 12, 2) := fo_16 (fd_n 6 sr_X5_isSummer_0 rfl) (by decide +kernel)
theorem dX5_isSummer_8 : decode cX5_isSummer 8 = .ok (.irem, 1) := fo_112 (fd_n 8 sr_X5_isSummer_0 rfl)
theorem dX5_isSummer_9 : decode cX5_isSummer 9 = .ok (.i2l, 1) := fo_133 (fd_n 9 sr_X5_isSummer_0 rfl)
theorem dX5_isSummer_10 : decode cX5_isSummer 10 = .ok (.ldc2_w 57, 3) := fo_20 (fd_n 10 sr_X5_isSummer_0 rfl) rfl
theorem dX5_isSummer_13 : decode cX5_isSummer 13 = .ok (.ldc2_w 97, 3) := fo_20 (fd_n 13 sr_X5_isSummer_0 rfl) rfl
theorem dX5_isSummer_16 : decode cX5_isSummer 16 = .ok (.invokestatic 53, 3) := fo_184 (fd_n 16 sr_X5_isSummer_0 rfl) rfl
theorem dX5_isSummer_19 : decode cX5_isSummer 19 = .ok (.ireturn, 1) := fo_172 (fd_n 19 sr_X5_isSummer_0 rfl)
noncomputable def sl_X5_stands_3 : List UInt8 := 172 :: []
noncomputable def sl_X5_stands_2 : List UInt8 := 3 :: 167 :: 0 :: 4 :: 28 :: 62 :: 167 :: 0 :: 10 :: 28 :: 6 :: 96 :: 62 :: 167 :: 0 :: 3 :: 29 :: 16 :: 9 :: 162 :: 0 :: 7 :: 29 :: 167 :: 0 :: 5 :: 16 :: 9 :: sl_X5_stands_3
noncomputable def sl_X5_stands_1 : List UInt8 := 28 :: 42 :: 182 :: 0 :: 99 :: 153 :: 0 :: 7 :: 5 :: 167 :: 0 :: 4 :: 3 :: 96 :: 62 :: 167 :: 0 :: 31 :: 42 :: 180 :: 0 :: 7 :: 3 :: 46 :: 5 :: 112 :: 4 :: 160 :: 0 :: 7 :: sl_X5_stands_2
noncomputable def sl_X5_stands_0 : List UInt8 := 42 :: 27 :: 5 :: 182 :: 0 :: 62 :: 61 :: 28 :: 62 :: 42 :: 27 :: 3 :: 182 :: 0 :: 62 :: 170 :: 0 :: 0 :: 0 :: 83 :: 0 :: 0 :: 0 :: 1 :: 0 :: 0 :: 0 :: 6 :: 0 :: 0 :: 0 :: 37 :: 0 :: 0 :: 0 :: 83 :: 0 :: 0 :: 0 :: 37 :: 0 :: 0 :: 0 :: 55 :: 0 :: 0 :: 0 :: 83 :: 0 :: 0 :: 0 :: 76 :: sl_X5_stands_1
theorem sr_X5_stands_0 : fd_at cX5_stands 0 sl_X5_stands_0 := fd_base (by decide +kernel)
theorem sr_X5_stands_1 : fd_at cX5_stands 52 sl_X5_stands_1 := fd_n 52 sr_X5_stands_0 rfl
theorem sr_X5_stands_2 : fd_at cX5_stands 82 sl_X5_stands_2 := fd_n 30 sr_X5_stands_1 rfl
theorem sr_X5_stands_3 : fd_at cX5_stands 110 sl_X5_stands_3 := fd_n 28 sr_X5_stands_2 rfl
theorem dX5_stands_0 : decode cX5_stands 0 = .ok (.aload_n 0, 1) := fo_42 sr_X5_stands_0
theorem dX5_stands_1 : decode cX5_stands 1 = .ok (.iload_n 1, 1) := fo_27 (fd_n 1 sr_X5_stands_0 rfl)
theorem dX5_stands_2 : decode cX5_stands 2 = .ok (.iconst 2, 1) := fo_5 (fd_n 2 sr_X5_stands_0 rfl)
theorem dX5_stands_3 : decode cX5_stands 3 = .ok (.invokevirtual 62, 3) := fo_182 (fd_n 3 sr_X5_stands_0 rfl) rfl
theorem dX5_stands_6 : decode cX5_stands 6 = .ok (.istore_n 2, 1) := fo_61 (fd_n 6 sr_X5_stands_0 rfl)
theorem dX5_stands_7 : decode cX5_stands 7 = .ok (.iload_n 2, 1) := fo_28 (fd_n 7 sr_X5_stands_0 rfl)
theorem dX5_stands_8 : decode cX5_stands 8 = .ok (.istore_n 3, 1) := fo_62 (fd_n 8 sr_X5_stands_0 rfl)
theorem dX5_stands_9 : decode cX5_stands 9 = .ok (.aload_n 0, 1) := fo_42 (fd_n 9 sr_X5_stands_0 rfl)
theorem dX5_stands_10 : decode cX5_stands 10 = .ok (.iload_n 1, 1) := fo_27 (fd_n 10 sr_X5_stands_0 rfl)
theorem dX5_stands_11 : decode cX5_stands 11 = .ok (.iconst 0, 1) := fo_3 (fd_n 11 sr_X5_stands_0 rfl)
theorem dX5_stands_12 : decode cX5_stands 12 = .ok (.invokevirtual 62, 3) := fo_182 (fd_n 12 sr_X5_stands_0 rfl) rfl
theorem dX5_stands_52 : decode cX5_stands 52 = .ok (.iload_n 2, 1) := fo_28 sr_X5_stands_1
theorem dX5_stands_53 : decode cX5_stands 53 = .ok (.aload_n 0, 1) := fo_42 (fd_n 1 sr_X5_stands_1 rfl)
theorem dX5_stands_54 : decode cX5_stands 54 = .ok (.invokevirtual 99, 3) := fo_182 (fd_n 2 sr_X5_stands_1 rfl) rfl
theorem dX5_stands_57 : decode cX5_stands 57 = .ok (.ifCond .eq 7, 3) := fo_153 (fd_n 5 sr_X5_stands_1 rfl) (by decide +kernel)
theorem dX5_stands_60 : decode cX5_stands 60 = .ok (.iconst 2, 1) := fo_5 (fd_n 8 sr_X5_stands_1 rfl)
theorem dX5_stands_61 : decode cX5_stands 61 = .ok (.goto 4, 3) := fo_167 (fd_n 9 sr_X5_stands_1 rfl) (by decide +kernel)
theorem dX5_stands_64 : decode cX5_stands 64 = .ok (.iconst 0, 1) := fo_3 (fd_n 12 sr_X5_stands_1 rfl)
theorem dX5_stands_65 : decode cX5_stands 65 = .ok (.iadd, 1) := fo_96 (fd_n 13 sr_X5_stands_1 rfl)
theorem dX5_stands_66 : decode cX5_stands 66 = .ok (.istore_n 3, 1) := fo_62 (fd_n 14 sr_X5_stands_1 rfl)
theorem dX5_stands_67 : decode cX5_stands 67 = .ok (.goto 31, 3) := fo_167 (fd_n 15 sr_X5_stands_1 rfl) (by decide +kernel)
theorem dX5_stands_70 : decode cX5_stands 70 = .ok (.aload_n 0, 1) := fo_42 (fd_n 18 sr_X5_stands_1 rfl)
theorem dX5_stands_71 : decode cX5_stands 71 = .ok (.getfield 7, 3) := fo_180 (fd_n 19 sr_X5_stands_1 rfl) rfl
theorem dX5_stands_74 : decode cX5_stands 74 = .ok (.iconst 0, 1) := fo_3 (fd_n 22 sr_X5_stands_1 rfl)
theorem dX5_stands_75 : decode cX5_stands 75 = .ok (.iaload, 1) := fo_46 (fd_n 23 sr_X5_stands_1 rfl)
theorem dX5_stands_76 : decode cX5_stands 76 = .ok (.iconst 2, 1) := fo_5 (fd_n 24 sr_X5_stands_1 rfl)
theorem dX5_stands_77 : decode cX5_stands 77 = .ok (.irem, 1) := fo_112 (fd_n 25 sr_X5_stands_1 rfl)
theorem dX5_stands_78 : decode cX5_stands 78 = .ok (.iconst 1, 1) := fo_4 (fd_n 26 sr_X5_stands_1 rfl)
theorem dX5_stands_79 : decode cX5_stands 79 = .ok (.if_icmp .ne 7, 3) := fo_160 (fd_n 27 sr_X5_stands_1 rfl) (by decide +kernel)
theorem dX5_stands_82 : decode cX5_stands 82 = .ok (.iconst 0, 1) := fo_3 sr_X5_stands_2
theorem dX5_stands_83 : decode cX5_stands 83 = .ok (.goto 4, 3) := fo_167 (fd_n 1 sr_X5_stands_2 rfl) (by decide +kernel)
theorem dX5_stands_86 : decode cX5_stands 86 = .ok (.iload_n 2, 1) := fo_28 (fd_n 4 sr_X5_stands_2 rfl)
theorem dX5_stands_87 : decode cX5_stands 87 = .ok (.istore_n 3, 1) := fo_62 (fd_n 5 sr_X5_stands_2 rfl)
theorem dX5_stands_88 : decode cX5_stands 88 = .ok (.goto 10, 3) := fo_167 (fd_n 6 sr_X5_stands_2 rfl) (by decide +kernel)
theorem dX5_stands_91 : decode cX5_stands 91 = .ok (.iload_n 2, 1) := fo_28 (fd_n 9 sr_X5_stands_2 rfl)
theorem dX5_stands_92 : decode cX5_stands 92 = .ok (.iconst 3, 1) := fo_6 (fd_n 10 sr_X5_stands_2 rfl)
theorem dX5_stands_93 : decode cX5_stands 93 = .ok (.iadd, 1) := fo_96 (fd_n 11 sr_X5_stands_2 rfl)
theorem dX5_stands_94 : decode cX5_stands 94 = .ok (.istore_n 3, 1) := fo_62 (fd_n 12 sr_X5_stands_2 rfl)
theorem dX5_stands_95 : decode cX5_stands 95 = .ok (.goto 3, 3) := fo_167 (fd_n 13 sr_X5_stands_2 rfl) (by decide +kernel)
theorem dX5_stands_98 : decode cX5_stands 98 = .ok (.iload_n 3, 1) := fo_29 (fd_n 16 sr_X5_stands_2 rfl)
theorem dX5_stands_99 : decode cX5_stands 99 = .ok (.bipush 9, 2) := fo_16 (fd_n 17 sr_X5_stands_2 rfl) (by decide +kernel)
theorem dX5_stands_101 : decode cX5_stands 101 = .ok (.if_icmp .ge 7, 3) := fo_162 (fd_n 19 sr_X5_stands_2 rfl) (by decide +kernel)
theorem dX5_stands_104 : decode cX5_stands 104 = .ok (.iload_n 3, 1) := fo_29 (fd_n 22 sr_X5_stands_2 rfl)
theorem dX5_stands_105 : decode cX5_stands 105 = .ok (.goto 5, 3) := fo_167 (fd_n 23 sr_X5_stands_2 rfl) (by decide +kernel)
theorem dX5_stands_108 : decode cX5_stands 108 = .ok (.bipush 9, 2) := fo_16 (fd_n 26 sr_X5_stands_2 rfl) (by decide +kernel)
theorem dX5_stands_110 : decode cX5_stands 110 = .ok (.ireturn, 1) := fo_172 sr_X5_stands_3
theorem dX5_stands_15 : decode cX5_stands 15 = .ok (.tableswitch 83 1 6 #[37, 83, 37, 55, 83, 76], 37) := by decide +kernel
noncomputable def sl_X5_grows_1 : List UInt8 := 159 :: 0 :: 13 :: 28 :: 6 :: 160 :: 0 :: 12 :: 29 :: 4 :: 160 :: 0 :: 7 :: 4 :: 167 :: 0 :: 4 :: 3 :: 172 :: []
noncomputable def sl_X5_grows_0 : List UInt8 := 42 :: 27 :: 3 :: 182 :: 0 :: 62 :: 61 :: 42 :: 180 :: 0 :: 7 :: 3 :: 46 :: 7 :: 112 :: 62 :: 28 :: 4 :: 159 :: 0 :: 8 :: 28 :: 6 :: 160 :: 0 :: 8 :: 29 :: 6 :: sl_X5_grows_1
theorem sr_X5_grows_0 : fd_at cX5_grows 0 sl_X5_grows_0 := fd_base (by decide +kernel)
theorem sr_X5_grows_1 : fd_at cX5_grows 28 sl_X5_grows_1 := fd_n 28 sr_X5_grows_0 rfl
theorem dX5_grows_0 : decode cX5_grows 0 = .ok (.aload_n 0, 1) := fo_42 sr_X5_grows_0
theorem dX5_grows_1 : decode cX5_grows 1 = .ok (.iload_n 1, 1) := fo_27 (fd_n 1 sr_X5_grows_0 rfl)
theorem dX5_grows_2 : decode cX5_grows 2 = .ok (.iconst 0, 1) := fo_3 (fd_n 2 sr_X5_grows_0 rfl)
theorem dX5_grows_3 : decode cX5_grows 3 = .ok (.invokevirtual 62, 3) := fo_182 (fd_n 3 sr_X5_grows_0 rfl) rfl
theorem dX5_grows_6 : decode cX5_grows 6 = .ok (.istore_n 2, 1) := fo_61 (fd_n 6 sr_X5_grows_0 rfl)
theorem dX5_grows_7 : decode cX5_grows 7 = .ok (.aload_n 0, 1) := fo_42 (fd_n 7 sr_X5_grows_0 rfl)
theorem dX5_grows_8 : decode cX5_grows 8 = .ok (.getfield 7, 3) := fo_180 (fd_n 8 sr_X5_grows_0 rfl) rfl
theorem dX5_grows_11 : decode cX5_grows 11 = .ok (.iconst 0, 1) := fo_3 (fd_n 11 sr_X5_grows_0 rfl)
theorem dX5_grows_12 : decode cX5_grows 12 = .ok (.iaload, 1) := fo_46 (fd_n 12 sr_X5_grows_0 rfl)
theorem dX5_grows_13 : decode cX5_grows 13 = .ok (.iconst 4, 1) := fo_7 (fd_n 13 sr_X5_grows_0 rfl)
theorem dX5_grows_14 : decode cX5_grows 14 = .ok (.irem, 1) := fo_112 (fd_n 14 sr_X5_grows_0 rfl)
theorem dX5_grows_15 : decode cX5_grows 15 = .ok (.istore_n 3, 1) := fo_62 (fd_n 15 sr_X5_grows_0 rfl)
theorem dX5_grows_16 : decode cX5_grows 16 = .ok (.iload_n 2, 1) := fo_28 (fd_n 16 sr_X5_grows_0 rfl)
theorem dX5_grows_17 : decode cX5_grows 17 = .ok (.iconst 1, 1) := fo_4 (fd_n 17 sr_X5_grows_0 rfl)
theorem dX5_grows_18 : decode cX5_grows 18 = .ok (.if_icmp .eq 8, 3) := fo_159 (fd_n 18 sr_X5_grows_0 rfl) (by decide +kernel)
theorem dX5_grows_21 : decode cX5_grows 21 = .ok (.iload_n 2, 1) := fo_28 (fd_n 21 sr_X5_grows_0 rfl)
theorem dX5_grows_22 : decode cX5_grows 22 = .ok (.iconst 3, 1) := fo_6 (fd_n 22 sr_X5_grows_0 rfl)
theorem dX5_grows_23 : decode cX5_grows 23 = .ok (.if_icmp .ne 8, 3) := fo_160 (fd_n 23 sr_X5_grows_0 rfl) (by decide +kernel)
theorem dX5_grows_26 : decode cX5_grows 26 = .ok (.iload_n 3, 1) := fo_29 (fd_n 26 sr_X5_grows_0 rfl)
theorem dX5_grows_27 : decode cX5_grows 27 = .ok (.iconst 3, 1) := fo_6 (fd_n 27 sr_X5_grows_0 rfl)
theorem dX5_grows_28 : decode cX5_grows 28 = .ok (.if_icmp .eq 13, 3) := fo_159 sr_X5_grows_1 (by decide +kernel)
theorem dX5_grows_31 : decode cX5_grows 31 = .ok (.iload_n 2, 1) := fo_28 (fd_n 3 sr_X5_grows_1 rfl)
theorem dX5_grows_32 : decode cX5_grows 32 = .ok (.iconst 3, 1) := fo_6 (fd_n 4 sr_X5_grows_1 rfl)
theorem dX5_grows_33 : decode cX5_grows 33 = .ok (.if_icmp .ne 12, 3) := fo_160 (fd_n 5 sr_X5_grows_1 rfl) (by decide +kernel)
theorem dX5_grows_36 : decode cX5_grows 36 = .ok (.iload_n 3, 1) := fo_29 (fd_n 8 sr_X5_grows_1 rfl)
theorem dX5_grows_37 : decode cX5_grows 37 = .ok (.iconst 1, 1) := fo_4 (fd_n 9 sr_X5_grows_1 rfl)
theorem dX5_grows_38 : decode cX5_grows 38 = .ok (.if_icmp .ne 7, 3) := fo_160 (fd_n 10 sr_X5_grows_1 rfl) (by decide +kernel)
theorem dX5_grows_41 : decode cX5_grows 41 = .ok (.iconst 1, 1) := fo_4 (fd_n 13 sr_X5_grows_1 rfl)
theorem dX5_grows_42 : decode cX5_grows 42 = .ok (.goto 4, 3) := fo_167 (fd_n 14 sr_X5_grows_1 rfl) (by decide +kernel)
theorem dX5_grows_45 : decode cX5_grows 45 = .ok (.iconst 0, 1) := fo_3 (fd_n 17 sr_X5_grows_1 rfl)
theorem dX5_grows_46 : decode cX5_grows 46 = .ok (.ireturn, 1) := fo_172 (fd_n 18 sr_X5_grows_1 rfl)
noncomputable def sl_X5_priceOf_2 : List UInt8 := 28 :: 172 :: 5 :: 28 :: 104 :: 172 :: 28 :: 172 :: []
noncomputable def sl_X5_priceOf_1 : List UInt8 := 28 :: 42 :: 182 :: 0 :: 99 :: 153 :: 0 :: 7 :: 4 :: 167 :: 0 :: 4 :: 3 :: 96 :: 172 :: 42 :: 27 :: 6 :: 182 :: 0 :: 62 :: 154 :: 0 :: 7 :: 3 :: 167 :: 0 :: 4 :: sl_X5_priceOf_2
noncomputable def sl_X5_priceOf_0 : List UInt8 := 42 :: 180 :: 0 :: 7 :: 6 :: 42 :: 27 :: 6 :: 182 :: 0 :: 62 :: 96 :: 46 :: 61 :: 42 :: 27 :: 3 :: 182 :: 0 :: 62 :: 170 :: 0 :: 0 :: 0 :: 0 :: 0 :: 0 :: 74 :: 0 :: 0 :: 0 :: 1 :: 0 :: 0 :: 0 :: 6 :: 0 :: 0 :: 0 :: 40 :: 0 :: 0 :: 0 :: 55 :: 0 :: 0 :: 0 :: 40 :: 0 :: 0 :: 0 :: 55 :: 0 :: 0 :: 0 :: 70 :: 0 :: 0 :: 0 :: 70 :: sl_X5_priceOf_1
theorem sr_X5_priceOf_0 : fd_at cX5_priceOf 0 sl_X5_priceOf_0 := fd_base (by decide +kernel)
theorem sr_X5_priceOf_1 : fd_at cX5_priceOf 60 sl_X5_priceOf_1 := fd_n 60 sr_X5_priceOf_0 rfl
theorem sr_X5_priceOf_2 : fd_at cX5_priceOf 88 sl_X5_priceOf_2 := fd_n 28 sr_X5_priceOf_1 rfl
theorem dX5_priceOf_0 : decode cX5_priceOf 0 = .ok (.aload_n 0, 1) := fo_42 sr_X5_priceOf_0
theorem dX5_priceOf_1 : decode cX5_priceOf 1 = .ok (.getfield 7, 3) := fo_180 (fd_n 1 sr_X5_priceOf_0 rfl) rfl
theorem dX5_priceOf_4 : decode cX5_priceOf 4 = .ok (.iconst 3, 1) := fo_6 (fd_n 4 sr_X5_priceOf_0 rfl)
theorem dX5_priceOf_5 : decode cX5_priceOf 5 = .ok (.aload_n 0, 1) := fo_42 (fd_n 5 sr_X5_priceOf_0 rfl)
theorem dX5_priceOf_6 : decode cX5_priceOf 6 = .ok (.iload_n 1, 1) := fo_27 (fd_n 6 sr_X5_priceOf_0 rfl)
theorem dX5_priceOf_7 : decode cX5_priceOf 7 = .ok (.iconst 3, 1) := fo_6 (fd_n 7 sr_X5_priceOf_0 rfl)
theorem dX5_priceOf_8 : decode cX5_priceOf 8 = .ok (.invokevirtual 62, 3) := fo_182 (fd_n 8 sr_X5_priceOf_0 rfl) rfl
theorem dX5_priceOf_11 : decode cX5_priceOf 11 = .ok (.iadd, 1) := fo_96 (fd_n 11 sr_X5_priceOf_0 rfl)
theorem dX5_priceOf_12 : decode cX5_priceOf 12 = .ok (.iaload, 1) := fo_46 (fd_n 12 sr_X5_priceOf_0 rfl)
theorem dX5_priceOf_13 : decode cX5_priceOf 13 = .ok (.istore_n 2, 1) := fo_61 (fd_n 13 sr_X5_priceOf_0 rfl)
theorem dX5_priceOf_14 : decode cX5_priceOf 14 = .ok (.aload_n 0, 1) := fo_42 (fd_n 14 sr_X5_priceOf_0 rfl)
theorem dX5_priceOf_15 : decode cX5_priceOf 15 = .ok (.iload_n 1, 1) := fo_27 (fd_n 15 sr_X5_priceOf_0 rfl)
theorem dX5_priceOf_16 : decode cX5_priceOf 16 = .ok (.iconst 0, 1) := fo_3 (fd_n 16 sr_X5_priceOf_0 rfl)
theorem dX5_priceOf_17 : decode cX5_priceOf 17 = .ok (.invokevirtual 62, 3) := fo_182 (fd_n 17 sr_X5_priceOf_0 rfl) rfl
theorem dX5_priceOf_60 : decode cX5_priceOf 60 = .ok (.iload_n 2, 1) := fo_28 sr_X5_priceOf_1
theorem dX5_priceOf_61 : decode cX5_priceOf 61 = .ok (.aload_n 0, 1) := fo_42 (fd_n 1 sr_X5_priceOf_1 rfl)
theorem dX5_priceOf_62 : decode cX5_priceOf 62 = .ok (.invokevirtual 99, 3) := fo_182 (fd_n 2 sr_X5_priceOf_1 rfl) rfl
theorem dX5_priceOf_65 : decode cX5_priceOf 65 = .ok (.ifCond .eq 7, 3) := fo_153 (fd_n 5 sr_X5_priceOf_1 rfl) (by decide +kernel)
theorem dX5_priceOf_68 : decode cX5_priceOf 68 = .ok (.iconst 1, 1) := fo_4 (fd_n 8 sr_X5_priceOf_1 rfl)
theorem dX5_priceOf_69 : decode cX5_priceOf 69 = .ok (.goto 4, 3) := fo_167 (fd_n 9 sr_X5_priceOf_1 rfl) (by decide +kernel)
theorem dX5_priceOf_72 : decode cX5_priceOf 72 = .ok (.iconst 0, 1) := fo_3 (fd_n 12 sr_X5_priceOf_1 rfl)
theorem dX5_priceOf_73 : decode cX5_priceOf 73 = .ok (.iadd, 1) := fo_96 (fd_n 13 sr_X5_priceOf_1 rfl)
theorem dX5_priceOf_74 : decode cX5_priceOf 74 = .ok (.ireturn, 1) := fo_172 (fd_n 14 sr_X5_priceOf_1 rfl)
theorem dX5_priceOf_75 : decode cX5_priceOf 75 = .ok (.aload_n 0, 1) := fo_42 (fd_n 15 sr_X5_priceOf_1 rfl)
theorem dX5_priceOf_76 : decode cX5_priceOf 76 = .ok (.iload_n 1, 1) := fo_27 (fd_n 16 sr_X5_priceOf_1 rfl)
theorem dX5_priceOf_77 : decode cX5_priceOf 77 = .ok (.iconst 3, 1) := fo_6 (fd_n 17 sr_X5_priceOf_1 rfl)
theorem dX5_priceOf_78 : decode cX5_priceOf 78 = .ok (.invokevirtual 62, 3) := fo_182 (fd_n 18 sr_X5_priceOf_1 rfl) rfl
theorem dX5_priceOf_81 : decode cX5_priceOf 81 = .ok (.ifCond .ne 7, 3) := fo_154 (fd_n 21 sr_X5_priceOf_1 rfl) (by decide +kernel)
theorem dX5_priceOf_84 : decode cX5_priceOf 84 = .ok (.iconst 0, 1) := fo_3 (fd_n 24 sr_X5_priceOf_1 rfl)
theorem dX5_priceOf_85 : decode cX5_priceOf 85 = .ok (.goto 4, 3) := fo_167 (fd_n 25 sr_X5_priceOf_1 rfl) (by decide +kernel)
theorem dX5_priceOf_88 : decode cX5_priceOf 88 = .ok (.iload_n 2, 1) := fo_28 sr_X5_priceOf_2
theorem dX5_priceOf_89 : decode cX5_priceOf 89 = .ok (.ireturn, 1) := fo_172 (fd_n 1 sr_X5_priceOf_2 rfl)
theorem dX5_priceOf_90 : decode cX5_priceOf 90 = .ok (.iconst 2, 1) := fo_5 (fd_n 2 sr_X5_priceOf_2 rfl)
theorem dX5_priceOf_91 : decode cX5_priceOf 91 = .ok (.iload_n 2, 1) := fo_28 (fd_n 3 sr_X5_priceOf_2 rfl)
theorem dX5_priceOf_92 : decode cX5_priceOf 92 = .ok (.imul, 1) := fo_104 (fd_n 4 sr_X5_priceOf_2 rfl)
theorem dX5_priceOf_93 : decode cX5_priceOf 93 = .ok (.ireturn, 1) := fo_172 (fd_n 5 sr_X5_priceOf_2 rfl)
theorem dX5_priceOf_94 : decode cX5_priceOf 94 = .ok (.iload_n 2, 1) := fo_28 (fd_n 6 sr_X5_priceOf_2 rfl)
theorem dX5_priceOf_95 : decode cX5_priceOf 95 = .ok (.ireturn, 1) := fo_172 (fd_n 7 sr_X5_priceOf_2 rfl)
theorem dX5_priceOf_20 : decode cX5_priceOf 20 = .ok (.tableswitch 74 1 6 #[40, 55, 40, 55, 70, 70], 40) := by decide +kernel
noncomputable def sl_X5_of_2 : List UInt8 := 167 :: 0 :: 21 :: 28 :: 8 :: 160 :: 0 :: 11 :: 42 :: 27 :: 182 :: 0 :: 106 :: 167 :: 0 :: 8 :: 42 :: 27 :: 182 :: 0 :: 109 :: 172 :: []
noncomputable def sl_X5_of_1 : List UInt8 := 29 :: 182 :: 0 :: 80 :: 172 :: 28 :: 7 :: 162 :: 0 :: 12 :: 42 :: 27 :: 28 :: 182 :: 0 :: 62 :: 167 :: 0 :: 34 :: 28 :: 7 :: 160 :: 0 :: 11 :: 42 :: 27 :: 182 :: 0 :: 103 :: sl_X5_of_2
noncomputable def sl_X5_of_0 : List UInt8 := 28 :: 133 :: 9 :: 20 :: 0 :: 69 :: 184 :: 0 :: 53 :: 154 :: 0 :: 8 :: 18 :: 50 :: 167 :: 0 :: 8 :: 42 :: 27 :: 182 :: 0 :: 94 :: 62 :: 29 :: 153 :: 0 :: 9 :: 42 :: sl_X5_of_1
theorem sr_X5_of_0 : fd_at cX5_of 0 sl_X5_of_0 := fd_base (by decide +kernel)
theorem sr_X5_of_1 : fd_at cX5_of 28 sl_X5_of_1 := fd_n 28 sr_X5_of_0 rfl
theorem sr_X5_of_2 : fd_at cX5_of 57 sl_X5_of_2 := fd_n 29 sr_X5_of_1 rfl
theorem dX5_of_0 : decode cX5_of 0 = .ok (.iload_n 2, 1) := fo_28 sr_X5_of_0
theorem dX5_of_1 : decode cX5_of 1 = .ok (.i2l, 1) := fo_133 (fd_n 1 sr_X5_of_0 rfl)
theorem dX5_of_2 : decode cX5_of 2 = .ok (.lconst 0, 1) := fo_9 (fd_n 2 sr_X5_of_0 rfl)
theorem dX5_of_3 : decode cX5_of 3 = .ok (.ldc2_w 69, 3) := fo_20 (fd_n 3 sr_X5_of_0 rfl) rfl
theorem dX5_of_6 : decode cX5_of 6 = .ok (.invokestatic 53, 3) := fo_184 (fd_n 6 sr_X5_of_0 rfl) rfl
theorem dX5_of_9 : decode cX5_of 9 = .ok (.ifCond .ne 8, 3) := fo_154 (fd_n 9 sr_X5_of_0 rfl) (by decide +kernel)
theorem dX5_of_12 : decode cX5_of 12 = .ok (.ldc 50, 2) := fo_18 (fd_n 12 sr_X5_of_0 rfl) rfl
theorem dX5_of_14 : decode cX5_of 14 = .ok (.goto 8, 3) := fo_167 (fd_n 14 sr_X5_of_0 rfl) (by decide +kernel)
theorem dX5_of_17 : decode cX5_of 17 = .ok (.aload_n 0, 1) := fo_42 (fd_n 17 sr_X5_of_0 rfl)
theorem dX5_of_18 : decode cX5_of 18 = .ok (.iload_n 1, 1) := fo_27 (fd_n 18 sr_X5_of_0 rfl)
theorem dX5_of_19 : decode cX5_of 19 = .ok (.invokevirtual 94, 3) := fo_182 (fd_n 19 sr_X5_of_0 rfl) rfl
theorem dX5_of_22 : decode cX5_of 22 = .ok (.istore_n 3, 1) := fo_62 (fd_n 22 sr_X5_of_0 rfl)
theorem dX5_of_23 : decode cX5_of 23 = .ok (.iload_n 3, 1) := fo_29 (fd_n 23 sr_X5_of_0 rfl)
theorem dX5_of_24 : decode cX5_of 24 = .ok (.ifCond .eq 9, 3) := fo_153 (fd_n 24 sr_X5_of_0 rfl) (by decide +kernel)
theorem dX5_of_27 : decode cX5_of 27 = .ok (.aload_n 0, 1) := fo_42 (fd_n 27 sr_X5_of_0 rfl)
theorem dX5_of_28 : decode cX5_of 28 = .ok (.iload_n 3, 1) := fo_29 sr_X5_of_1
theorem dX5_of_29 : decode cX5_of 29 = .ok (.invokevirtual 80, 3) := fo_182 (fd_n 1 sr_X5_of_1 rfl) rfl
theorem dX5_of_32 : decode cX5_of 32 = .ok (.ireturn, 1) := fo_172 (fd_n 4 sr_X5_of_1 rfl)
theorem dX5_of_33 : decode cX5_of 33 = .ok (.iload_n 2, 1) := fo_28 (fd_n 5 sr_X5_of_1 rfl)
theorem dX5_of_34 : decode cX5_of 34 = .ok (.iconst 4, 1) := fo_7 (fd_n 6 sr_X5_of_1 rfl)
theorem dX5_of_35 : decode cX5_of 35 = .ok (.if_icmp .ge 12, 3) := fo_162 (fd_n 7 sr_X5_of_1 rfl) (by decide +kernel)
theorem dX5_of_38 : decode cX5_of 38 = .ok (.aload_n 0, 1) := fo_42 (fd_n 10 sr_X5_of_1 rfl)
theorem dX5_of_39 : decode cX5_of 39 = .ok (.iload_n 1, 1) := fo_27 (fd_n 11 sr_X5_of_1 rfl)
theorem dX5_of_40 : decode cX5_of 40 = .ok (.iload_n 2, 1) := fo_28 (fd_n 12 sr_X5_of_1 rfl)
theorem dX5_of_41 : decode cX5_of 41 = .ok (.invokevirtual 62, 3) := fo_182 (fd_n 13 sr_X5_of_1 rfl) rfl
theorem dX5_of_44 : decode cX5_of 44 = .ok (.goto 34, 3) := fo_167 (fd_n 16 sr_X5_of_1 rfl) (by decide +kernel)
theorem dX5_of_47 : decode cX5_of 47 = .ok (.iload_n 2, 1) := fo_28 (fd_n 19 sr_X5_of_1 rfl)
theorem dX5_of_48 : decode cX5_of 48 = .ok (.iconst 4, 1) := fo_7 (fd_n 20 sr_X5_of_1 rfl)
theorem dX5_of_49 : decode cX5_of 49 = .ok (.if_icmp .ne 11, 3) := fo_160 (fd_n 21 sr_X5_of_1 rfl) (by decide +kernel)
theorem dX5_of_52 : decode cX5_of 52 = .ok (.aload_n 0, 1) := fo_42 (fd_n 24 sr_X5_of_1 rfl)
theorem dX5_of_53 : decode cX5_of 53 = .ok (.iload_n 1, 1) := fo_27 (fd_n 25 sr_X5_of_1 rfl)
theorem dX5_of_54 : decode cX5_of 54 = .ok (.invokevirtual 103, 3) := fo_182 (fd_n 26 sr_X5_of_1 rfl) rfl
theorem dX5_of_57 : decode cX5_of 57 = .ok (.goto 21, 3) := fo_167 sr_X5_of_2 (by decide +kernel)
theorem dX5_of_60 : decode cX5_of 60 = .ok (.iload_n 2, 1) := fo_28 (fd_n 3 sr_X5_of_2 rfl)
theorem dX5_of_61 : decode cX5_of 61 = .ok (.iconst 5, 1) := fo_8 (fd_n 4 sr_X5_of_2 rfl)
theorem dX5_of_62 : decode cX5_of 62 = .ok (.if_icmp .ne 11, 3) := fo_160 (fd_n 5 sr_X5_of_2 rfl) (by decide +kernel)
theorem dX5_of_65 : decode cX5_of 65 = .ok (.aload_n 0, 1) := fo_42 (fd_n 8 sr_X5_of_2 rfl)
theorem dX5_of_66 : decode cX5_of 66 = .ok (.iload_n 1, 1) := fo_27 (fd_n 9 sr_X5_of_2 rfl)
theorem dX5_of_67 : decode cX5_of 67 = .ok (.invokevirtual 106, 3) := fo_182 (fd_n 10 sr_X5_of_2 rfl) rfl
theorem dX5_of_70 : decode cX5_of 70 = .ok (.goto 8, 3) := fo_167 (fd_n 13 sr_X5_of_2 rfl) (by decide +kernel)
theorem dX5_of_73 : decode cX5_of 73 = .ok (.aload_n 0, 1) := fo_42 (fd_n 16 sr_X5_of_2 rfl)
theorem dX5_of_74 : decode cX5_of 74 = .ok (.iload_n 1, 1) := fo_27 (fd_n 17 sr_X5_of_2 rfl)
theorem dX5_of_75 : decode cX5_of 75 = .ok (.invokevirtual 109, 3) := fo_182 (fd_n 18 sr_X5_of_2 rfl) rfl
theorem dX5_of_78 : decode cX5_of 78 = .ok (.ireturn, 1) := fo_172 (fd_n 21 sr_X5_of_2 rfl)
noncomputable def sl_X5_change_3 : List UInt8 := 79 :: 21 :: 5 :: 172 :: []
noncomputable def sl_X5_change_2 : List UInt8 := 153 :: 0 :: 10 :: 42 :: 21 :: 4 :: 182 :: 0 :: 80 :: 172 :: 42 :: 27 :: 28 :: 182 :: 0 :: 62 :: 54 :: 5 :: 42 :: 180 :: 0 :: 7 :: 27 :: 28 :: 184 :: 0 :: 46 :: 29 :: sl_X5_change_3
noncomputable def sl_X5_change_1 : List UInt8 := 20 :: 0 :: 59 :: 167 :: 0 :: 6 :: 20 :: 0 :: 57 :: 184 :: 0 :: 53 :: 154 :: 0 :: 8 :: 18 :: 50 :: 167 :: 0 :: 8 :: 42 :: 27 :: 182 :: 0 :: 94 :: 54 :: 4 :: 21 :: 4 :: sl_X5_change_2
noncomputable def sl_X5_change_0 : List UInt8 := 28 :: 133 :: 9 :: 20 :: 0 :: 57 :: 184 :: 0 :: 53 :: 153 :: 0 :: 36 :: 29 :: 133 :: 9 :: 28 :: 154 :: 0 :: 9 :: 20 :: 0 :: 69 :: 167 :: 0 :: 17 :: 28 :: 5 :: 160 :: 0 :: 9 :: sl_X5_change_1
theorem sr_X5_change_0 : fd_at cX5_change 0 sl_X5_change_0 := fd_base (by decide +kernel)
theorem sr_X5_change_1 : fd_at cX5_change 30 sl_X5_change_1 := fd_n 30 sr_X5_change_0 rfl
theorem sr_X5_change_2 : fd_at cX5_change 59 sl_X5_change_2 := fd_n 29 sr_X5_change_1 rfl
theorem sr_X5_change_3 : fd_at cX5_change 87 sl_X5_change_3 := fd_n 28 sr_X5_change_2 rfl
theorem dX5_change_0 : decode cX5_change 0 = .ok (.iload_n 2, 1) := fo_28 sr_X5_change_0
theorem dX5_change_1 : decode cX5_change 1 = .ok (.i2l, 1) := fo_133 (fd_n 1 sr_X5_change_0 rfl)
theorem dX5_change_2 : decode cX5_change 2 = .ok (.lconst 0, 1) := fo_9 (fd_n 2 sr_X5_change_0 rfl)
theorem dX5_change_3 : decode cX5_change 3 = .ok (.ldc2_w 57, 3) := fo_20 (fd_n 3 sr_X5_change_0 rfl) rfl
theorem dX5_change_6 : decode cX5_change 6 = .ok (.invokestatic 53, 3) := fo_184 (fd_n 6 sr_X5_change_0 rfl) rfl
theorem dX5_change_9 : decode cX5_change 9 = .ok (.ifCond .eq 36, 3) := fo_153 (fd_n 9 sr_X5_change_0 rfl) (by decide +kernel)
theorem dX5_change_12 : decode cX5_change 12 = .ok (.iload_n 3, 1) := fo_29 (fd_n 12 sr_X5_change_0 rfl)
theorem dX5_change_13 : decode cX5_change 13 = .ok (.i2l, 1) := fo_133 (fd_n 13 sr_X5_change_0 rfl)
theorem dX5_change_14 : decode cX5_change 14 = .ok (.lconst 0, 1) := fo_9 (fd_n 14 sr_X5_change_0 rfl)
theorem dX5_change_15 : decode cX5_change 15 = .ok (.iload_n 2, 1) := fo_28 (fd_n 15 sr_X5_change_0 rfl)
theorem dX5_change_16 : decode cX5_change 16 = .ok (.ifCond .ne 9, 3) := fo_154 (fd_n 16 sr_X5_change_0 rfl) (by decide +kernel)
theorem dX5_change_19 : decode cX5_change 19 = .ok (.ldc2_w 69, 3) := fo_20 (fd_n 19 sr_X5_change_0 rfl) rfl
theorem dX5_change_22 : decode cX5_change 22 = .ok (.goto 17, 3) := fo_167 (fd_n 22 sr_X5_change_0 rfl) (by decide +kernel)
theorem dX5_change_25 : decode cX5_change 25 = .ok (.iload_n 2, 1) := fo_28 (fd_n 25 sr_X5_change_0 rfl)
theorem dX5_change_26 : decode cX5_change 26 = .ok (.iconst 2, 1) := fo_5 (fd_n 26 sr_X5_change_0 rfl)
theorem dX5_change_27 : decode cX5_change 27 = .ok (.if_icmp .ne 9, 3) := fo_160 (fd_n 27 sr_X5_change_0 rfl) (by decide +kernel)
theorem dX5_change_30 : decode cX5_change 30 = .ok (.ldc2_w 59, 3) := fo_20 sr_X5_change_1 rfl
theorem dX5_change_33 : decode cX5_change 33 = .ok (.goto 6, 3) := fo_167 (fd_n 3 sr_X5_change_1 rfl) (by decide +kernel)
theorem dX5_change_36 : decode cX5_change 36 = .ok (.ldc2_w 57, 3) := fo_20 (fd_n 6 sr_X5_change_1 rfl) rfl
theorem dX5_change_39 : decode cX5_change 39 = .ok (.invokestatic 53, 3) := fo_184 (fd_n 9 sr_X5_change_1 rfl) rfl
theorem dX5_change_42 : decode cX5_change 42 = .ok (.ifCond .ne 8, 3) := fo_154 (fd_n 12 sr_X5_change_1 rfl) (by decide +kernel)
theorem dX5_change_45 : decode cX5_change 45 = .ok (.ldc 50, 2) := fo_18 (fd_n 15 sr_X5_change_1 rfl) rfl
theorem dX5_change_47 : decode cX5_change 47 = .ok (.goto 8, 3) := fo_167 (fd_n 17 sr_X5_change_1 rfl) (by decide +kernel)
theorem dX5_change_50 : decode cX5_change 50 = .ok (.aload_n 0, 1) := fo_42 (fd_n 20 sr_X5_change_1 rfl)
theorem dX5_change_51 : decode cX5_change 51 = .ok (.iload_n 1, 1) := fo_27 (fd_n 21 sr_X5_change_1 rfl)
theorem dX5_change_52 : decode cX5_change 52 = .ok (.invokevirtual 94, 3) := fo_182 (fd_n 22 sr_X5_change_1 rfl) rfl
theorem dX5_change_55 : decode cX5_change 55 = .ok (.istore 4, 2) := fo_54 (fd_n 25 sr_X5_change_1 rfl) rfl
theorem dX5_change_57 : decode cX5_change 57 = .ok (.iload 4, 2) := fo_21 (fd_n 27 sr_X5_change_1 rfl) rfl
theorem dX5_change_59 : decode cX5_change 59 = .ok (.ifCond .eq 10, 3) := fo_153 sr_X5_change_2 (by decide +kernel)
theorem dX5_change_62 : decode cX5_change 62 = .ok (.aload_n 0, 1) := fo_42 (fd_n 3 sr_X5_change_2 rfl)
theorem dX5_change_63 : decode cX5_change 63 = .ok (.iload 4, 2) := fo_21 (fd_n 4 sr_X5_change_2 rfl) rfl
theorem dX5_change_65 : decode cX5_change 65 = .ok (.invokevirtual 80, 3) := fo_182 (fd_n 6 sr_X5_change_2 rfl) rfl
theorem dX5_change_68 : decode cX5_change 68 = .ok (.ireturn, 1) := fo_172 (fd_n 9 sr_X5_change_2 rfl)
theorem dX5_change_69 : decode cX5_change 69 = .ok (.aload_n 0, 1) := fo_42 (fd_n 10 sr_X5_change_2 rfl)
theorem dX5_change_70 : decode cX5_change 70 = .ok (.iload_n 1, 1) := fo_27 (fd_n 11 sr_X5_change_2 rfl)
theorem dX5_change_71 : decode cX5_change 71 = .ok (.iload_n 2, 1) := fo_28 (fd_n 12 sr_X5_change_2 rfl)
theorem dX5_change_72 : decode cX5_change 72 = .ok (.invokevirtual 62, 3) := fo_182 (fd_n 13 sr_X5_change_2 rfl) rfl
theorem dX5_change_75 : decode cX5_change 75 = .ok (.istore 5, 2) := fo_54 (fd_n 16 sr_X5_change_2 rfl) rfl
theorem dX5_change_77 : decode cX5_change 77 = .ok (.aload_n 0, 1) := fo_42 (fd_n 18 sr_X5_change_2 rfl)
theorem dX5_change_78 : decode cX5_change 78 = .ok (.getfield 7, 3) := fo_180 (fd_n 19 sr_X5_change_2 rfl) rfl
theorem dX5_change_81 : decode cX5_change 81 = .ok (.iload_n 1, 1) := fo_27 (fd_n 22 sr_X5_change_2 rfl)
theorem dX5_change_82 : decode cX5_change 82 = .ok (.iload_n 2, 1) := fo_28 (fd_n 23 sr_X5_change_2 rfl)
theorem dX5_change_83 : decode cX5_change 83 = .ok (.invokestatic 46, 3) := fo_184 (fd_n 24 sr_X5_change_2 rfl) rfl
theorem dX5_change_86 : decode cX5_change 86 = .ok (.iload_n 3, 1) := fo_29 (fd_n 27 sr_X5_change_2 rfl)
theorem dX5_change_87 : decode cX5_change 87 = .ok (.iastore, 1) := fo_79 sr_X5_change_3
theorem dX5_change_88 : decode cX5_change 88 = .ok (.iload 5, 2) := fo_21 (fd_n 1 sr_X5_change_3 rfl) rfl
theorem dX5_change_90 : decode cX5_change 90 = .ok (.ireturn, 1) := fo_172 (fd_n 3 sr_X5_change_3 rfl)
noncomputable def sl_X5_price_1 : List UInt8 := 172 :: 42 :: 180 :: 0 :: 7 :: 6 :: 27 :: 96 :: 46 :: 62 :: 42 :: 180 :: 0 :: 7 :: 6 :: 27 :: 96 :: 28 :: 79 :: 29 :: 172 :: []
noncomputable def sl_X5_price_0 : List UInt8 := 27 :: 133 :: 9 :: 20 :: 0 :: 57 :: 184 :: 0 :: 53 :: 153 :: 0 :: 15 :: 28 :: 133 :: 9 :: 20 :: 0 :: 112 :: 184 :: 0 :: 53 :: 154 :: 0 :: 10 :: 42 :: 18 :: 50 :: 182 :: 0 :: 80 :: sl_X5_price_1
theorem sr_X5_price_0 : fd_at cX5_price 0 sl_X5_price_0 := fd_base (by decide +kernel)
theorem sr_X5_price_1 : fd_at cX5_price 30 sl_X5_price_1 := fd_n 30 sr_X5_price_0 rfl
theorem dX5_price_0 : decode cX5_price 0 = .ok (.iload_n 1, 1) := fo_27 sr_X5_price_0
theorem dX5_price_1 : decode cX5_price 1 = .ok (.i2l, 1) := fo_133 (fd_n 1 sr_X5_price_0 rfl)
theorem dX5_price_2 : decode cX5_price 2 = .ok (.lconst 0, 1) := fo_9 (fd_n 2 sr_X5_price_0 rfl)
theorem dX5_price_3 : decode cX5_price 3 = .ok (.ldc2_w 57, 3) := fo_20 (fd_n 3 sr_X5_price_0 rfl) rfl
theorem dX5_price_6 : decode cX5_price 6 = .ok (.invokestatic 53, 3) := fo_184 (fd_n 6 sr_X5_price_0 rfl) rfl
theorem dX5_price_9 : decode cX5_price 9 = .ok (.ifCond .eq 15, 3) := fo_153 (fd_n 9 sr_X5_price_0 rfl) (by decide +kernel)
theorem dX5_price_12 : decode cX5_price 12 = .ok (.iload_n 2, 1) := fo_28 (fd_n 12 sr_X5_price_0 rfl)
theorem dX5_price_13 : decode cX5_price 13 = .ok (.i2l, 1) := fo_133 (fd_n 13 sr_X5_price_0 rfl)
theorem dX5_price_14 : decode cX5_price 14 = .ok (.lconst 0, 1) := fo_9 (fd_n 14 sr_X5_price_0 rfl)
theorem dX5_price_15 : decode cX5_price 15 = .ok (.ldc2_w 112, 3) := fo_20 (fd_n 15 sr_X5_price_0 rfl) rfl
theorem dX5_price_18 : decode cX5_price 18 = .ok (.invokestatic 53, 3) := fo_184 (fd_n 18 sr_X5_price_0 rfl) rfl
theorem dX5_price_21 : decode cX5_price 21 = .ok (.ifCond .ne 10, 3) := fo_154 (fd_n 21 sr_X5_price_0 rfl) (by decide +kernel)
theorem dX5_price_24 : decode cX5_price 24 = .ok (.aload_n 0, 1) := fo_42 (fd_n 24 sr_X5_price_0 rfl)
theorem dX5_price_25 : decode cX5_price 25 = .ok (.ldc 50, 2) := fo_18 (fd_n 25 sr_X5_price_0 rfl) rfl
theorem dX5_price_27 : decode cX5_price 27 = .ok (.invokevirtual 80, 3) := fo_182 (fd_n 27 sr_X5_price_0 rfl) rfl
theorem dX5_price_30 : decode cX5_price 30 = .ok (.ireturn, 1) := fo_172 sr_X5_price_1
theorem dX5_price_31 : decode cX5_price 31 = .ok (.aload_n 0, 1) := fo_42 (fd_n 1 sr_X5_price_1 rfl)
theorem dX5_price_32 : decode cX5_price 32 = .ok (.getfield 7, 3) := fo_180 (fd_n 2 sr_X5_price_1 rfl) rfl
theorem dX5_price_35 : decode cX5_price 35 = .ok (.iconst 3, 1) := fo_6 (fd_n 5 sr_X5_price_1 rfl)
theorem dX5_price_36 : decode cX5_price 36 = .ok (.iload_n 1, 1) := fo_27 (fd_n 6 sr_X5_price_1 rfl)
theorem dX5_price_37 : decode cX5_price 37 = .ok (.iadd, 1) := fo_96 (fd_n 7 sr_X5_price_1 rfl)
theorem dX5_price_38 : decode cX5_price 38 = .ok (.iaload, 1) := fo_46 (fd_n 8 sr_X5_price_1 rfl)
theorem dX5_price_39 : decode cX5_price 39 = .ok (.istore_n 3, 1) := fo_62 (fd_n 9 sr_X5_price_1 rfl)
theorem dX5_price_40 : decode cX5_price 40 = .ok (.aload_n 0, 1) := fo_42 (fd_n 10 sr_X5_price_1 rfl)
theorem dX5_price_41 : decode cX5_price 41 = .ok (.getfield 7, 3) := fo_180 (fd_n 11 sr_X5_price_1 rfl) rfl
theorem dX5_price_44 : decode cX5_price 44 = .ok (.iconst 3, 1) := fo_6 (fd_n 14 sr_X5_price_1 rfl)
theorem dX5_price_45 : decode cX5_price 45 = .ok (.iload_n 1, 1) := fo_27 (fd_n 15 sr_X5_price_1 rfl)
theorem dX5_price_46 : decode cX5_price 46 = .ok (.iadd, 1) := fo_96 (fd_n 16 sr_X5_price_1 rfl)
theorem dX5_price_47 : decode cX5_price 47 = .ok (.iload_n 2, 1) := fo_28 (fd_n 17 sr_X5_price_1 rfl)
theorem dX5_price_48 : decode cX5_price 48 = .ok (.iastore, 1) := fo_79 (fd_n 18 sr_X5_price_1 rfl)
theorem dX5_price_49 : decode cX5_price 49 = .ok (.iload_n 3, 1) := fo_29 (fd_n 19 sr_X5_price_1 rfl)
theorem dX5_price_50 : decode cX5_price 50 = .ok (.ireturn, 1) := fo_172 (fd_n 20 sr_X5_price_1 rfl)
noncomputable def sl_X5_where_0 : List UInt8 := 16 :: 111 :: 16 :: 6 :: 26 :: 104 :: 96 :: 27 :: 96 :: 172 :: []
theorem sr_X5_where_0 : fd_at cX5_where 0 sl_X5_where_0 := fd_base (by decide +kernel)
theorem dX5_where_0 : decode cX5_where 0 = .ok (.bipush 111, 2) := fo_16 sr_X5_where_0 (by decide +kernel)
theorem dX5_where_2 : decode cX5_where 2 = .ok (.bipush 6, 2) := fo_16 (fd_n 2 sr_X5_where_0 rfl) (by decide +kernel)
theorem dX5_where_4 : decode cX5_where 4 = .ok (.iload_n 0, 1) := fo_26 (fd_n 4 sr_X5_where_0 rfl)
theorem dX5_where_5 : decode cX5_where 5 = .ok (.imul, 1) := fo_104 (fd_n 5 sr_X5_where_0 rfl)
theorem dX5_where_6 : decode cX5_where 6 = .ok (.iadd, 1) := fo_96 (fd_n 6 sr_X5_where_0 rfl)
theorem dX5_where_7 : decode cX5_where 7 = .ok (.iload_n 1, 1) := fo_27 (fd_n 7 sr_X5_where_0 rfl)
theorem dX5_where_8 : decode cX5_where 8 = .ok (.iadd, 1) := fo_96 (fd_n 8 sr_X5_where_0 rfl)
theorem dX5_where_9 : decode cX5_where 9 = .ok (.ireturn, 1) := fo_172 (fd_n 9 sr_X5_where_0 rfl)
noncomputable def sl_X5_told_0 : List UInt8 := 42 :: 180 :: 0 :: 7 :: 27 :: 28 :: 184 :: 0 :: 114 :: 46 :: 172 :: []
theorem sr_X5_told_0 : fd_at cX5_told 0 sl_X5_told_0 := fd_base (by decide +kernel)
theorem dX5_told_0 : decode cX5_told 0 = .ok (.aload_n 0, 1) := fo_42 sr_X5_told_0
theorem dX5_told_1 : decode cX5_told 1 = .ok (.getfield 7, 3) := fo_180 (fd_n 1 sr_X5_told_0 rfl) rfl
theorem dX5_told_4 : decode cX5_told 4 = .ok (.iload_n 1, 1) := fo_27 (fd_n 4 sr_X5_told_0 rfl)
theorem dX5_told_5 : decode cX5_told 5 = .ok (.iload_n 2, 1) := fo_28 (fd_n 5 sr_X5_told_0 rfl)
theorem dX5_told_6 : decode cX5_told 6 = .ok (.invokestatic 114, 3) := fo_184 (fd_n 6 sr_X5_told_0 rfl) rfl
theorem dX5_told_9 : decode cX5_told 9 = .ok (.iaload, 1) := fo_46 (fd_n 9 sr_X5_told_0 rfl)
theorem dX5_told_10 : decode cX5_told 10 = .ok (.ireturn, 1) := fo_172 (fd_n 10 sr_X5_told_0 rfl)
noncomputable def sl_X5_newWindow_3 : List UInt8 := 92 :: 46 :: 4 :: 96 :: 79 :: 21 :: 5 :: 172 :: []
noncomputable def sl_X5_newWindow_2 : List UInt8 := 180 :: 0 :: 7 :: 21 :: 5 :: 7 :: 184 :: 0 :: 114 :: 2 :: 79 :: 42 :: 180 :: 0 :: 7 :: 21 :: 5 :: 8 :: 184 :: 0 :: 114 :: 3 :: 79 :: 42 :: 180 :: 0 :: 7 :: 4 :: sl_X5_newWindow_3
noncomputable def sl_X5_newWindow_1 : List UInt8 := 28 :: 79 :: 42 :: 180 :: 0 :: 7 :: 21 :: 5 :: 5 :: 184 :: 0 :: 114 :: 29 :: 79 :: 42 :: 180 :: 0 :: 7 :: 21 :: 5 :: 6 :: 184 :: 0 :: 114 :: 21 :: 4 :: 79 :: 42 :: sl_X5_newWindow_2
noncomputable def sl_X5_newWindow_0 : List UInt8 := 42 :: 180 :: 0 :: 7 :: 4 :: 46 :: 54 :: 5 :: 42 :: 180 :: 0 :: 7 :: 21 :: 5 :: 3 :: 184 :: 0 :: 114 :: 27 :: 79 :: 42 :: 180 :: 0 :: 7 :: 21 :: 5 :: 4 :: 184 :: 0 :: 114 :: sl_X5_newWindow_1
theorem sr_X5_newWindow_0 : fd_at cX5_newWindow 0 sl_X5_newWindow_0 := fd_base (by decide +kernel)
theorem sr_X5_newWindow_1 : fd_at cX5_newWindow 30 sl_X5_newWindow_1 := fd_n 30 sr_X5_newWindow_0 rfl
theorem sr_X5_newWindow_2 : fd_at cX5_newWindow 58 sl_X5_newWindow_2 := fd_n 28 sr_X5_newWindow_1 rfl
theorem sr_X5_newWindow_3 : fd_at cX5_newWindow 86 sl_X5_newWindow_3 := fd_n 28 sr_X5_newWindow_2 rfl
theorem dX5_newWindow_0 : decode cX5_newWindow 0 = .ok (.aload_n 0, 1) := fo_42 sr_X5_newWindow_0
theorem dX5_newWindow_1 : decode cX5_newWindow 1 = .ok (.getfield 7, 3) := fo_180 (fd_n 1 sr_X5_newWindow_0 rfl) rfl
theorem dX5_newWindow_4 : decode cX5_newWindow 4 = .ok (.iconst 1, 1) := fo_4 (fd_n 4 sr_X5_newWindow_0 rfl)
theorem dX5_newWindow_5 : decode cX5_newWindow 5 = .ok (.iaload, 1) := fo_46 (fd_n 5 sr_X5_newWindow_0 rfl)
theorem dX5_newWindow_6 : decode cX5_newWindow 6 = .ok (.istore 5, 2) := fo_54 (fd_n 6 sr_X5_newWindow_0 rfl) rfl
theorem dX5_newWindow_8 : decode cX5_newWindow 8 = .ok (.aload_n 0, 1) := fo_42 (fd_n 8 sr_X5_newWindow_0 rfl)
theorem dX5_newWindow_9 : decode cX5_newWindow 9 = .ok (.getfield 7, 3) := fo_180 (fd_n 9 sr_X5_newWindow_0 rfl) rfl
theorem dX5_newWindow_12 : decode cX5_newWindow 12 = .ok (.iload 5, 2) := fo_21 (fd_n 12 sr_X5_newWindow_0 rfl) rfl
theorem dX5_newWindow_14 : decode cX5_newWindow 14 = .ok (.iconst 0, 1) := fo_3 (fd_n 14 sr_X5_newWindow_0 rfl)
theorem dX5_newWindow_15 : decode cX5_newWindow 15 = .ok (.invokestatic 114, 3) := fo_184 (fd_n 15 sr_X5_newWindow_0 rfl) rfl
theorem dX5_newWindow_18 : decode cX5_newWindow 18 = .ok (.iload_n 1, 1) := fo_27 (fd_n 18 sr_X5_newWindow_0 rfl)
theorem dX5_newWindow_19 : decode cX5_newWindow 19 = .ok (.iastore, 1) := fo_79 (fd_n 19 sr_X5_newWindow_0 rfl)
theorem dX5_newWindow_20 : decode cX5_newWindow 20 = .ok (.aload_n 0, 1) := fo_42 (fd_n 20 sr_X5_newWindow_0 rfl)
theorem dX5_newWindow_21 : decode cX5_newWindow 21 = .ok (.getfield 7, 3) := fo_180 (fd_n 21 sr_X5_newWindow_0 rfl) rfl
theorem dX5_newWindow_24 : decode cX5_newWindow 24 = .ok (.iload 5, 2) := fo_21 (fd_n 24 sr_X5_newWindow_0 rfl) rfl
theorem dX5_newWindow_26 : decode cX5_newWindow 26 = .ok (.iconst 1, 1) := fo_4 (fd_n 26 sr_X5_newWindow_0 rfl)
theorem dX5_newWindow_27 : decode cX5_newWindow 27 = .ok (.invokestatic 114, 3) := fo_184 (fd_n 27 sr_X5_newWindow_0 rfl) rfl
theorem dX5_newWindow_30 : decode cX5_newWindow 30 = .ok (.iload_n 2, 1) := fo_28 sr_X5_newWindow_1
theorem dX5_newWindow_31 : decode cX5_newWindow 31 = .ok (.iastore, 1) := fo_79 (fd_n 1 sr_X5_newWindow_1 rfl)
theorem dX5_newWindow_32 : decode cX5_newWindow 32 = .ok (.aload_n 0, 1) := fo_42 (fd_n 2 sr_X5_newWindow_1 rfl)
theorem dX5_newWindow_33 : decode cX5_newWindow 33 = .ok (.getfield 7, 3) := fo_180 (fd_n 3 sr_X5_newWindow_1 rfl) rfl
theorem dX5_newWindow_36 : decode cX5_newWindow 36 = .ok (.iload 5, 2) := fo_21 (fd_n 6 sr_X5_newWindow_1 rfl) rfl
theorem dX5_newWindow_38 : decode cX5_newWindow 38 = .ok (.iconst 2, 1) := fo_5 (fd_n 8 sr_X5_newWindow_1 rfl)
theorem dX5_newWindow_39 : decode cX5_newWindow 39 = .ok (.invokestatic 114, 3) := fo_184 (fd_n 9 sr_X5_newWindow_1 rfl) rfl
theorem dX5_newWindow_42 : decode cX5_newWindow 42 = .ok (.iload_n 3, 1) := fo_29 (fd_n 12 sr_X5_newWindow_1 rfl)
theorem dX5_newWindow_43 : decode cX5_newWindow 43 = .ok (.iastore, 1) := fo_79 (fd_n 13 sr_X5_newWindow_1 rfl)
theorem dX5_newWindow_44 : decode cX5_newWindow 44 = .ok (.aload_n 0, 1) := fo_42 (fd_n 14 sr_X5_newWindow_1 rfl)
theorem dX5_newWindow_45 : decode cX5_newWindow 45 = .ok (.getfield 7, 3) := fo_180 (fd_n 15 sr_X5_newWindow_1 rfl) rfl
theorem dX5_newWindow_48 : decode cX5_newWindow 48 = .ok (.iload 5, 2) := fo_21 (fd_n 18 sr_X5_newWindow_1 rfl) rfl
theorem dX5_newWindow_50 : decode cX5_newWindow 50 = .ok (.iconst 3, 1) := fo_6 (fd_n 20 sr_X5_newWindow_1 rfl)
theorem dX5_newWindow_51 : decode cX5_newWindow 51 = .ok (.invokestatic 114, 3) := fo_184 (fd_n 21 sr_X5_newWindow_1 rfl) rfl
theorem dX5_newWindow_54 : decode cX5_newWindow 54 = .ok (.iload 4, 2) := fo_21 (fd_n 24 sr_X5_newWindow_1 rfl) rfl
theorem dX5_newWindow_56 : decode cX5_newWindow 56 = .ok (.iastore, 1) := fo_79 (fd_n 26 sr_X5_newWindow_1 rfl)
theorem dX5_newWindow_57 : decode cX5_newWindow 57 = .ok (.aload_n 0, 1) := fo_42 (fd_n 27 sr_X5_newWindow_1 rfl)
theorem dX5_newWindow_58 : decode cX5_newWindow 58 = .ok (.getfield 7, 3) := fo_180 sr_X5_newWindow_2 rfl
theorem dX5_newWindow_61 : decode cX5_newWindow 61 = .ok (.iload 5, 2) := fo_21 (fd_n 3 sr_X5_newWindow_2 rfl) rfl
theorem dX5_newWindow_63 : decode cX5_newWindow 63 = .ok (.iconst 4, 1) := fo_7 (fd_n 5 sr_X5_newWindow_2 rfl)
theorem dX5_newWindow_64 : decode cX5_newWindow 64 = .ok (.invokestatic 114, 3) := fo_184 (fd_n 6 sr_X5_newWindow_2 rfl) rfl
theorem dX5_newWindow_67 : decode cX5_newWindow 67 = .ok (.iconst (-1), 1) := fo_2 (fd_n 9 sr_X5_newWindow_2 rfl)
theorem dX5_newWindow_68 : decode cX5_newWindow 68 = .ok (.iastore, 1) := fo_79 (fd_n 10 sr_X5_newWindow_2 rfl)
theorem dX5_newWindow_69 : decode cX5_newWindow 69 = .ok (.aload_n 0, 1) := fo_42 (fd_n 11 sr_X5_newWindow_2 rfl)
theorem dX5_newWindow_70 : decode cX5_newWindow 70 = .ok (.getfield 7, 3) := fo_180 (fd_n 12 sr_X5_newWindow_2 rfl) rfl
theorem dX5_newWindow_73 : decode cX5_newWindow 73 = .ok (.iload 5, 2) := fo_21 (fd_n 15 sr_X5_newWindow_2 rfl) rfl
theorem dX5_newWindow_75 : decode cX5_newWindow 75 = .ok (.iconst 5, 1) := fo_8 (fd_n 17 sr_X5_newWindow_2 rfl)
theorem dX5_newWindow_76 : decode cX5_newWindow 76 = .ok (.invokestatic 114, 3) := fo_184 (fd_n 18 sr_X5_newWindow_2 rfl) rfl
theorem dX5_newWindow_79 : decode cX5_newWindow 79 = .ok (.iconst 0, 1) := fo_3 (fd_n 21 sr_X5_newWindow_2 rfl)
theorem dX5_newWindow_80 : decode cX5_newWindow 80 = .ok (.iastore, 1) := fo_79 (fd_n 22 sr_X5_newWindow_2 rfl)
theorem dX5_newWindow_81 : decode cX5_newWindow 81 = .ok (.aload_n 0, 1) := fo_42 (fd_n 23 sr_X5_newWindow_2 rfl)
theorem dX5_newWindow_82 : decode cX5_newWindow 82 = .ok (.getfield 7, 3) := fo_180 (fd_n 24 sr_X5_newWindow_2 rfl) rfl
theorem dX5_newWindow_85 : decode cX5_newWindow 85 = .ok (.iconst 1, 1) := fo_4 (fd_n 27 sr_X5_newWindow_2 rfl)
theorem dX5_newWindow_86 : decode cX5_newWindow 86 = .ok (.dup2, 1) := fo_92 sr_X5_newWindow_3
theorem dX5_newWindow_87 : decode cX5_newWindow 87 = .ok (.iaload, 1) := fo_46 (fd_n 1 sr_X5_newWindow_3 rfl)
theorem dX5_newWindow_88 : decode cX5_newWindow 88 = .ok (.iconst 1, 1) := fo_4 (fd_n 2 sr_X5_newWindow_3 rfl)
theorem dX5_newWindow_89 : decode cX5_newWindow 89 = .ok (.iadd, 1) := fo_96 (fd_n 3 sr_X5_newWindow_3 rfl)
theorem dX5_newWindow_90 : decode cX5_newWindow 90 = .ok (.iastore, 1) := fo_79 (fd_n 4 sr_X5_newWindow_3 rfl)
theorem dX5_newWindow_91 : decode cX5_newWindow 91 = .ok (.iload 5, 2) := fo_21 (fd_n 5 sr_X5_newWindow_3 rfl) rfl
theorem dX5_newWindow_93 : decode cX5_newWindow 93 = .ok (.ireturn, 1) := fo_172 (fd_n 7 sr_X5_newWindow_3 rfl)
noncomputable def sl_X5_window_2 : List UInt8 := 167 :: 0 :: 12 :: 42 :: 27 :: 28 :: 29 :: 21 :: 4 :: 182 :: 0 :: 118 :: 172 :: []
noncomputable def sl_X5_window_1 : List UInt8 := 184 :: 0 :: 74 :: 154 :: 0 :: 10 :: 42 :: 18 :: 50 :: 182 :: 0 :: 80 :: 172 :: 42 :: 180 :: 0 :: 7 :: 4 :: 46 :: 16 :: 10 :: 160 :: 0 :: 12 :: 42 :: 18 :: 117 :: 182 :: 0 :: 80 :: sl_X5_window_2
noncomputable def sl_X5_window_0 : List UInt8 := 27 :: 184 :: 0 :: 71 :: 153 :: 0 :: 30 :: 28 :: 184 :: 0 :: 77 :: 153 :: 0 :: 23 :: 29 :: 133 :: 9 :: 20 :: 0 :: 57 :: 184 :: 0 :: 53 :: 153 :: 0 :: 11 :: 21 :: 4 :: sl_X5_window_1
theorem sr_X5_window_0 : fd_at cX5_window 0 sl_X5_window_0 := fd_base (by decide +kernel)
theorem sr_X5_window_1 : fd_at cX5_window 28 sl_X5_window_1 := fd_n 28 sr_X5_window_0 rfl
theorem sr_X5_window_2 : fd_at cX5_window 58 sl_X5_window_2 := fd_n 30 sr_X5_window_1 rfl
theorem dX5_window_0 : decode cX5_window 0 = .ok (.iload_n 1, 1) := fo_27 sr_X5_window_0
theorem dX5_window_1 : decode cX5_window 1 = .ok (.invokestatic 71, 3) := fo_184 (fd_n 1 sr_X5_window_0 rfl) rfl
theorem dX5_window_4 : decode cX5_window 4 = .ok (.ifCond .eq 30, 3) := fo_153 (fd_n 4 sr_X5_window_0 rfl) (by decide +kernel)
theorem dX5_window_7 : decode cX5_window 7 = .ok (.iload_n 2, 1) := fo_28 (fd_n 7 sr_X5_window_0 rfl)
theorem dX5_window_8 : decode cX5_window 8 = .ok (.invokestatic 77, 3) := fo_184 (fd_n 8 sr_X5_window_0 rfl) rfl
theorem dX5_window_11 : decode cX5_window 11 = .ok (.ifCond .eq 23, 3) := fo_153 (fd_n 11 sr_X5_window_0 rfl) (by decide +kernel)
theorem dX5_window_14 : decode cX5_window 14 = .ok (.iload_n 3, 1) := fo_29 (fd_n 14 sr_X5_window_0 rfl)
theorem dX5_window_15 : decode cX5_window 15 = .ok (.i2l, 1) := fo_133 (fd_n 15 sr_X5_window_0 rfl)
theorem dX5_window_16 : decode cX5_window 16 = .ok (.lconst 0, 1) := fo_9 (fd_n 16 sr_X5_window_0 rfl)
theorem dX5_window_17 : decode cX5_window 17 = .ok (.ldc2_w 57, 3) := fo_20 (fd_n 17 sr_X5_window_0 rfl) rfl
theorem dX5_window_20 : decode cX5_window 20 = .ok (.invokestatic 53, 3) := fo_184 (fd_n 20 sr_X5_window_0 rfl) rfl
theorem dX5_window_23 : decode cX5_window 23 = .ok (.ifCond .eq 11, 3) := fo_153 (fd_n 23 sr_X5_window_0 rfl) (by decide +kernel)
theorem dX5_window_26 : decode cX5_window 26 = .ok (.iload 4, 2) := fo_21 (fd_n 26 sr_X5_window_0 rfl) rfl
theorem dX5_window_28 : decode cX5_window 28 = .ok (.invokestatic 74, 3) := fo_184 sr_X5_window_1 rfl
theorem dX5_window_31 : decode cX5_window 31 = .ok (.ifCond .ne 10, 3) := fo_154 (fd_n 3 sr_X5_window_1 rfl) (by decide +kernel)
theorem dX5_window_34 : decode cX5_window 34 = .ok (.aload_n 0, 1) := fo_42 (fd_n 6 sr_X5_window_1 rfl)
theorem dX5_window_35 : decode cX5_window 35 = .ok (.ldc 50, 2) := fo_18 (fd_n 7 sr_X5_window_1 rfl) rfl
theorem dX5_window_37 : decode cX5_window 37 = .ok (.invokevirtual 80, 3) := fo_182 (fd_n 9 sr_X5_window_1 rfl) rfl
theorem dX5_window_40 : decode cX5_window 40 = .ok (.ireturn, 1) := fo_172 (fd_n 12 sr_X5_window_1 rfl)
theorem dX5_window_41 : decode cX5_window 41 = .ok (.aload_n 0, 1) := fo_42 (fd_n 13 sr_X5_window_1 rfl)
theorem dX5_window_42 : decode cX5_window 42 = .ok (.getfield 7, 3) := fo_180 (fd_n 14 sr_X5_window_1 rfl) rfl
theorem dX5_window_45 : decode cX5_window 45 = .ok (.iconst 1, 1) := fo_4 (fd_n 17 sr_X5_window_1 rfl)
theorem dX5_window_46 : decode cX5_window 46 = .ok (.iaload, 1) := fo_46 (fd_n 18 sr_X5_window_1 rfl)
theorem dX5_window_47 : decode cX5_window 47 = .ok (.bipush 10, 2) := fo_16 (fd_n 19 sr_X5_window_1 rfl) (by decide +kernel)
theorem dX5_window_49 : decode cX5_window 49 = .ok (.if_icmp .ne 12, 3) := fo_160 (fd_n 21 sr_X5_window_1 rfl) (by decide +kernel)
theorem dX5_window_52 : decode cX5_window 52 = .ok (.aload_n 0, 1) := fo_42 (fd_n 24 sr_X5_window_1 rfl)
theorem dX5_window_53 : decode cX5_window 53 = .ok (.ldc 117, 2) := fo_18 (fd_n 25 sr_X5_window_1 rfl) rfl
theorem dX5_window_55 : decode cX5_window 55 = .ok (.invokevirtual 80, 3) := fo_182 (fd_n 27 sr_X5_window_1 rfl) rfl
theorem dX5_window_58 : decode cX5_window 58 = .ok (.goto 12, 3) := fo_167 sr_X5_window_2 (by decide +kernel)
theorem dX5_window_61 : decode cX5_window 61 = .ok (.aload_n 0, 1) := fo_42 (fd_n 3 sr_X5_window_2 rfl)
theorem dX5_window_62 : decode cX5_window 62 = .ok (.iload_n 1, 1) := fo_27 (fd_n 4 sr_X5_window_2 rfl)
theorem dX5_window_63 : decode cX5_window 63 = .ok (.iload_n 2, 1) := fo_28 (fd_n 5 sr_X5_window_2 rfl)
theorem dX5_window_64 : decode cX5_window 64 = .ok (.iload_n 3, 1) := fo_29 (fd_n 6 sr_X5_window_2 rfl)
theorem dX5_window_65 : decode cX5_window 65 = .ok (.iload 4, 2) := fo_21 (fd_n 7 sr_X5_window_2 rfl) rfl
theorem dX5_window_67 : decode cX5_window 67 = .ok (.invokevirtual 118, 3) := fo_182 (fd_n 9 sr_X5_window_2 rfl) rfl
theorem dX5_window_70 : decode cX5_window 70 = .ok (.ireturn, 1) := fo_172 (fd_n 12 sr_X5_window_2 rfl)
noncomputable def sl_X5_windowOf_1 : List UInt8 := 42 :: 18 :: 50 :: 182 :: 0 :: 80 :: 172 :: []
noncomputable def sl_X5_windowOf_0 : List UInt8 := 42 :: 27 :: 182 :: 0 :: 122 :: 153 :: 0 :: 24 :: 28 :: 133 :: 9 :: 20 :: 0 :: 125 :: 184 :: 0 :: 53 :: 153 :: 0 :: 12 :: 42 :: 27 :: 28 :: 182 :: 0 :: 127 :: 167 :: 0 :: 9 :: sl_X5_windowOf_1
theorem sr_X5_windowOf_0 : fd_at cX5_windowOf 0 sl_X5_windowOf_0 := fd_base (by decide +kernel)
theorem sr_X5_windowOf_1 : fd_at cX5_windowOf 29 sl_X5_windowOf_1 := fd_n 29 sr_X5_windowOf_0 rfl
theorem dX5_windowOf_0 : decode cX5_windowOf 0 = .ok (.aload_n 0, 1) := fo_42 sr_X5_windowOf_0
theorem dX5_windowOf_1 : decode cX5_windowOf 1 = .ok (.iload_n 1, 1) := fo_27 (fd_n 1 sr_X5_windowOf_0 rfl)
theorem dX5_windowOf_2 : decode cX5_windowOf 2 = .ok (.invokevirtual 122, 3) := fo_182 (fd_n 2 sr_X5_windowOf_0 rfl) rfl
theorem dX5_windowOf_5 : decode cX5_windowOf 5 = .ok (.ifCond .eq 24, 3) := fo_153 (fd_n 5 sr_X5_windowOf_0 rfl) (by decide +kernel)
theorem dX5_windowOf_8 : decode cX5_windowOf 8 = .ok (.iload_n 2, 1) := fo_28 (fd_n 8 sr_X5_windowOf_0 rfl)
theorem dX5_windowOf_9 : decode cX5_windowOf 9 = .ok (.i2l, 1) := fo_133 (fd_n 9 sr_X5_windowOf_0 rfl)
theorem dX5_windowOf_10 : decode cX5_windowOf 10 = .ok (.lconst 0, 1) := fo_9 (fd_n 10 sr_X5_windowOf_0 rfl)
theorem dX5_windowOf_11 : decode cX5_windowOf 11 = .ok (.ldc2_w 125, 3) := fo_20 (fd_n 11 sr_X5_windowOf_0 rfl) rfl
theorem dX5_windowOf_14 : decode cX5_windowOf 14 = .ok (.invokestatic 53, 3) := fo_184 (fd_n 14 sr_X5_windowOf_0 rfl) rfl
theorem dX5_windowOf_17 : decode cX5_windowOf 17 = .ok (.ifCond .eq 12, 3) := fo_153 (fd_n 17 sr_X5_windowOf_0 rfl) (by decide +kernel)
theorem dX5_windowOf_20 : decode cX5_windowOf 20 = .ok (.aload_n 0, 1) := fo_42 (fd_n 20 sr_X5_windowOf_0 rfl)
theorem dX5_windowOf_21 : decode cX5_windowOf 21 = .ok (.iload_n 1, 1) := fo_27 (fd_n 21 sr_X5_windowOf_0 rfl)
theorem dX5_windowOf_22 : decode cX5_windowOf 22 = .ok (.iload_n 2, 1) := fo_28 (fd_n 22 sr_X5_windowOf_0 rfl)
theorem dX5_windowOf_23 : decode cX5_windowOf 23 = .ok (.invokevirtual 127, 3) := fo_182 (fd_n 23 sr_X5_windowOf_0 rfl) rfl
theorem dX5_windowOf_26 : decode cX5_windowOf 26 = .ok (.goto 9, 3) := fo_167 (fd_n 26 sr_X5_windowOf_0 rfl) (by decide +kernel)
theorem dX5_windowOf_29 : decode cX5_windowOf 29 = .ok (.aload_n 0, 1) := fo_42 sr_X5_windowOf_1
theorem dX5_windowOf_30 : decode cX5_windowOf 30 = .ok (.ldc 50, 2) := fo_18 (fd_n 1 sr_X5_windowOf_1 rfl) rfl
theorem dX5_windowOf_32 : decode cX5_windowOf 32 = .ok (.invokevirtual 80, 3) := fo_182 (fd_n 3 sr_X5_windowOf_1 rfl) rfl
theorem dX5_windowOf_35 : decode cX5_windowOf 35 = .ok (.ireturn, 1) := fo_172 (fd_n 6 sr_X5_windowOf_1 rfl)
noncomputable def sl_X5_turn_2 : List UInt8 := 54 :: 4 :: 42 :: 180 :: 0 :: 7 :: 27 :: 28 :: 184 :: 0 :: 114 :: 29 :: 79 :: 21 :: 4 :: 172 :: []
noncomputable def sl_X5_turn_1 : List UInt8 := 20 :: 0 :: 59 :: 167 :: 0 :: 6 :: 20 :: 0 :: 57 :: 184 :: 0 :: 53 :: 154 :: 0 :: 10 :: 42 :: 18 :: 50 :: 182 :: 0 :: 80 :: 172 :: 42 :: 27 :: 28 :: 182 :: 0 :: 127 :: sl_X5_turn_2
noncomputable def sl_X5_turn_0 : List UInt8 := 42 :: 27 :: 182 :: 0 :: 122 :: 153 :: 0 :: 38 :: 28 :: 133 :: 10 :: 20 :: 0 :: 57 :: 184 :: 0 :: 53 :: 153 :: 0 :: 26 :: 29 :: 133 :: 9 :: 28 :: 4 :: 160 :: 0 :: 9 :: sl_X5_turn_1
theorem sr_X5_turn_0 : fd_at cX5_turn 0 sl_X5_turn_0 := fd_base (by decide +kernel)
theorem sr_X5_turn_1 : fd_at cX5_turn 28 sl_X5_turn_1 := fd_n 28 sr_X5_turn_0 rfl
theorem sr_X5_turn_2 : fd_at cX5_turn 56 sl_X5_turn_2 := fd_n 28 sr_X5_turn_1 rfl
theorem dX5_turn_0 : decode cX5_turn 0 = .ok (.aload_n 0, 1) := fo_42 sr_X5_turn_0
theorem dX5_turn_1 : decode cX5_turn 1 = .ok (.iload_n 1, 1) := fo_27 (fd_n 1 sr_X5_turn_0 rfl)
theorem dX5_turn_2 : decode cX5_turn 2 = .ok (.invokevirtual 122, 3) := fo_182 (fd_n 2 sr_X5_turn_0 rfl) rfl
theorem dX5_turn_5 : decode cX5_turn 5 = .ok (.ifCond .eq 38, 3) := fo_153 (fd_n 5 sr_X5_turn_0 rfl) (by decide +kernel)
theorem dX5_turn_8 : decode cX5_turn 8 = .ok (.iload_n 2, 1) := fo_28 (fd_n 8 sr_X5_turn_0 rfl)
theorem dX5_turn_9 : decode cX5_turn 9 = .ok (.i2l, 1) := fo_133 (fd_n 9 sr_X5_turn_0 rfl)
theorem dX5_turn_10 : decode cX5_turn 10 = .ok (.lconst 1, 1) := fo_10 (fd_n 10 sr_X5_turn_0 rfl)
theorem dX5_turn_11 : decode cX5_turn 11 = .ok (.ldc2_w 57, 3) := fo_20 (fd_n 11 sr_X5_turn_0 rfl) rfl
theorem dX5_turn_14 : decode cX5_turn 14 = .ok (.invokestatic 53, 3) := fo_184 (fd_n 14 sr_X5_turn_0 rfl) rfl
theorem dX5_turn_17 : decode cX5_turn 17 = .ok (.ifCond .eq 26, 3) := fo_153 (fd_n 17 sr_X5_turn_0 rfl) (by decide +kernel)
theorem dX5_turn_20 : decode cX5_turn 20 = .ok (.iload_n 3, 1) := fo_29 (fd_n 20 sr_X5_turn_0 rfl)
theorem dX5_turn_21 : decode cX5_turn 21 = .ok (.i2l, 1) := fo_133 (fd_n 21 sr_X5_turn_0 rfl)
theorem dX5_turn_22 : decode cX5_turn 22 = .ok (.lconst 0, 1) := fo_9 (fd_n 22 sr_X5_turn_0 rfl)
theorem dX5_turn_23 : decode cX5_turn 23 = .ok (.iload_n 2, 1) := fo_28 (fd_n 23 sr_X5_turn_0 rfl)
theorem dX5_turn_24 : decode cX5_turn 24 = .ok (.iconst 1, 1) := fo_4 (fd_n 24 sr_X5_turn_0 rfl)
theorem dX5_turn_25 : decode cX5_turn 25 = .ok (.if_icmp .ne 9, 3) := fo_160 (fd_n 25 sr_X5_turn_0 rfl) (by decide +kernel)
theorem dX5_turn_28 : decode cX5_turn 28 = .ok (.ldc2_w 59, 3) := fo_20 sr_X5_turn_1 rfl
theorem dX5_turn_31 : decode cX5_turn 31 = .ok (.goto 6, 3) := fo_167 (fd_n 3 sr_X5_turn_1 rfl) (by decide +kernel)
theorem dX5_turn_34 : decode cX5_turn 34 = .ok (.ldc2_w 57, 3) := fo_20 (fd_n 6 sr_X5_turn_1 rfl) rfl
theorem dX5_turn_37 : decode cX5_turn 37 = .ok (.invokestatic 53, 3) := fo_184 (fd_n 9 sr_X5_turn_1 rfl) rfl
theorem dX5_turn_40 : decode cX5_turn 40 = .ok (.ifCond .ne 10, 3) := fo_154 (fd_n 12 sr_X5_turn_1 rfl) (by decide +kernel)
theorem dX5_turn_43 : decode cX5_turn 43 = .ok (.aload_n 0, 1) := fo_42 (fd_n 15 sr_X5_turn_1 rfl)
theorem dX5_turn_44 : decode cX5_turn 44 = .ok (.ldc 50, 2) := fo_18 (fd_n 16 sr_X5_turn_1 rfl) rfl
theorem dX5_turn_46 : decode cX5_turn 46 = .ok (.invokevirtual 80, 3) := fo_182 (fd_n 18 sr_X5_turn_1 rfl) rfl
theorem dX5_turn_49 : decode cX5_turn 49 = .ok (.ireturn, 1) := fo_172 (fd_n 21 sr_X5_turn_1 rfl)
theorem dX5_turn_50 : decode cX5_turn 50 = .ok (.aload_n 0, 1) := fo_42 (fd_n 22 sr_X5_turn_1 rfl)
theorem dX5_turn_51 : decode cX5_turn 51 = .ok (.iload_n 1, 1) := fo_27 (fd_n 23 sr_X5_turn_1 rfl)
theorem dX5_turn_52 : decode cX5_turn 52 = .ok (.iload_n 2, 1) := fo_28 (fd_n 24 sr_X5_turn_1 rfl)
theorem dX5_turn_53 : decode cX5_turn 53 = .ok (.invokevirtual 127, 3) := fo_182 (fd_n 25 sr_X5_turn_1 rfl) rfl
theorem dX5_turn_56 : decode cX5_turn 56 = .ok (.istore 4, 2) := fo_54 sr_X5_turn_2 rfl
theorem dX5_turn_58 : decode cX5_turn 58 = .ok (.aload_n 0, 1) := fo_42 (fd_n 2 sr_X5_turn_2 rfl)
theorem dX5_turn_59 : decode cX5_turn 59 = .ok (.getfield 7, 3) := fo_180 (fd_n 3 sr_X5_turn_2 rfl) rfl
theorem dX5_turn_62 : decode cX5_turn 62 = .ok (.iload_n 1, 1) := fo_27 (fd_n 6 sr_X5_turn_2 rfl)
theorem dX5_turn_63 : decode cX5_turn 63 = .ok (.iload_n 2, 1) := fo_28 (fd_n 7 sr_X5_turn_2 rfl)
theorem dX5_turn_64 : decode cX5_turn 64 = .ok (.invokestatic 114, 3) := fo_184 (fd_n 8 sr_X5_turn_2 rfl) rfl
theorem dX5_turn_67 : decode cX5_turn 67 = .ok (.iload_n 3, 1) := fo_29 (fd_n 11 sr_X5_turn_2 rfl)
theorem dX5_turn_68 : decode cX5_turn 68 = .ok (.iastore, 1) := fo_79 (fd_n 12 sr_X5_turn_2 rfl)
theorem dX5_turn_69 : decode cX5_turn 69 = .ok (.iload 4, 2) := fo_21 (fd_n 13 sr_X5_turn_2 rfl) rfl
theorem dX5_turn_71 : decode cX5_turn 71 = .ok (.ireturn, 1) := fo_172 (fd_n 15 sr_X5_turn_2 rfl)
noncomputable def sl_X5_contract_3 : List UInt8 := 172 :: []
noncomputable def sl_X5_contract_2 : List UInt8 := 27 :: 8 :: 184 :: 0 :: 114 :: 28 :: 156 :: 0 :: 7 :: 3 :: 167 :: 0 :: 4 :: 29 :: 79 :: 42 :: 27 :: 182 :: 0 :: 134 :: 153 :: 0 :: 7 :: 4 :: 167 :: 0 :: 4 :: 3 :: sl_X5_contract_3
noncomputable def sl_X5_contract_1 : List UInt8 := 184 :: 0 :: 53 :: 154 :: 0 :: 10 :: 42 :: 18 :: 50 :: 182 :: 0 :: 80 :: 172 :: 42 :: 180 :: 0 :: 7 :: 27 :: 7 :: 184 :: 0 :: 114 :: 28 :: 79 :: 42 :: 180 :: 0 :: 7 :: sl_X5_contract_2
noncomputable def sl_X5_contract_0 : List UInt8 := 42 :: 27 :: 182 :: 0 :: 122 :: 153 :: 0 :: 29 :: 28 :: 133 :: 20 :: 0 :: 130 :: 20 :: 0 :: 57 :: 184 :: 0 :: 53 :: 153 :: 0 :: 15 :: 29 :: 133 :: 9 :: 20 :: 0 :: 132 :: sl_X5_contract_1
theorem sr_X5_contract_0 : fd_at cX5_contract 0 sl_X5_contract_0 := fd_base (by decide +kernel)
theorem sr_X5_contract_1 : fd_at cX5_contract 28 sl_X5_contract_1 := fd_n 28 sr_X5_contract_0 rfl
theorem sr_X5_contract_2 : fd_at cX5_contract 56 sl_X5_contract_2 := fd_n 28 sr_X5_contract_1 rfl
theorem sr_X5_contract_3 : fd_at cX5_contract 84 sl_X5_contract_3 := fd_n 28 sr_X5_contract_2 rfl
theorem dX5_contract_0 : decode cX5_contract 0 = .ok (.aload_n 0, 1) := fo_42 sr_X5_contract_0
theorem dX5_contract_1 : decode cX5_contract 1 = .ok (.iload_n 1, 1) := fo_27 (fd_n 1 sr_X5_contract_0 rfl)
theorem dX5_contract_2 : decode cX5_contract 2 = .ok (.invokevirtual 122, 3) := fo_182 (fd_n 2 sr_X5_contract_0 rfl) rfl
theorem dX5_contract_5 : decode cX5_contract 5 = .ok (.ifCond .eq 29, 3) := fo_153 (fd_n 5 sr_X5_contract_0 rfl) (by decide +kernel)
theorem dX5_contract_8 : decode cX5_contract 8 = .ok (.iload_n 2, 1) := fo_28 (fd_n 8 sr_X5_contract_0 rfl)
theorem dX5_contract_9 : decode cX5_contract 9 = .ok (.i2l, 1) := fo_133 (fd_n 9 sr_X5_contract_0 rfl)
theorem dX5_contract_10 : decode cX5_contract 10 = .ok (.ldc2_w 130, 3) := fo_20 (fd_n 10 sr_X5_contract_0 rfl) rfl
theorem dX5_contract_13 : decode cX5_contract 13 = .ok (.ldc2_w 57, 3) := fo_20 (fd_n 13 sr_X5_contract_0 rfl) rfl
theorem dX5_contract_16 : decode cX5_contract 16 = .ok (.invokestatic 53, 3) := fo_184 (fd_n 16 sr_X5_contract_0 rfl) rfl
theorem dX5_contract_19 : decode cX5_contract 19 = .ok (.ifCond .eq 15, 3) := fo_153 (fd_n 19 sr_X5_contract_0 rfl) (by decide +kernel)
theorem dX5_contract_22 : decode cX5_contract 22 = .ok (.iload_n 3, 1) := fo_29 (fd_n 22 sr_X5_contract_0 rfl)
theorem dX5_contract_23 : decode cX5_contract 23 = .ok (.i2l, 1) := fo_133 (fd_n 23 sr_X5_contract_0 rfl)
theorem dX5_contract_24 : decode cX5_contract 24 = .ok (.lconst 0, 1) := fo_9 (fd_n 24 sr_X5_contract_0 rfl)
theorem dX5_contract_25 : decode cX5_contract 25 = .ok (.ldc2_w 132, 3) := fo_20 (fd_n 25 sr_X5_contract_0 rfl) rfl
theorem dX5_contract_28 : decode cX5_contract 28 = .ok (.invokestatic 53, 3) := fo_184 sr_X5_contract_1 rfl
theorem dX5_contract_31 : decode cX5_contract 31 = .ok (.ifCond .ne 10, 3) := fo_154 (fd_n 3 sr_X5_contract_1 rfl) (by decide +kernel)
theorem dX5_contract_34 : decode cX5_contract 34 = .ok (.aload_n 0, 1) := fo_42 (fd_n 6 sr_X5_contract_1 rfl)
theorem dX5_contract_35 : decode cX5_contract 35 = .ok (.ldc 50, 2) := fo_18 (fd_n 7 sr_X5_contract_1 rfl) rfl
theorem dX5_contract_37 : decode cX5_contract 37 = .ok (.invokevirtual 80, 3) := fo_182 (fd_n 9 sr_X5_contract_1 rfl) rfl
theorem dX5_contract_40 : decode cX5_contract 40 = .ok (.ireturn, 1) := fo_172 (fd_n 12 sr_X5_contract_1 rfl)
theorem dX5_contract_41 : decode cX5_contract 41 = .ok (.aload_n 0, 1) := fo_42 (fd_n 13 sr_X5_contract_1 rfl)
theorem dX5_contract_42 : decode cX5_contract 42 = .ok (.getfield 7, 3) := fo_180 (fd_n 14 sr_X5_contract_1 rfl) rfl
theorem dX5_contract_45 : decode cX5_contract 45 = .ok (.iload_n 1, 1) := fo_27 (fd_n 17 sr_X5_contract_1 rfl)
theorem dX5_contract_46 : decode cX5_contract 46 = .ok (.iconst 4, 1) := fo_7 (fd_n 18 sr_X5_contract_1 rfl)
theorem dX5_contract_47 : decode cX5_contract 47 = .ok (.invokestatic 114, 3) := fo_184 (fd_n 19 sr_X5_contract_1 rfl) rfl
theorem dX5_contract_50 : decode cX5_contract 50 = .ok (.iload_n 2, 1) := fo_28 (fd_n 22 sr_X5_contract_1 rfl)
theorem dX5_contract_51 : decode cX5_contract 51 = .ok (.iastore, 1) := fo_79 (fd_n 23 sr_X5_contract_1 rfl)
theorem dX5_contract_52 : decode cX5_contract 52 = .ok (.aload_n 0, 1) := fo_42 (fd_n 24 sr_X5_contract_1 rfl)
theorem dX5_contract_53 : decode cX5_contract 53 = .ok (.getfield 7, 3) := fo_180 (fd_n 25 sr_X5_contract_1 rfl) rfl
theorem dX5_contract_56 : decode cX5_contract 56 = .ok (.iload_n 1, 1) := fo_27 sr_X5_contract_2
theorem dX5_contract_57 : decode cX5_contract 57 = .ok (.iconst 5, 1) := fo_8 (fd_n 1 sr_X5_contract_2 rfl)
theorem dX5_contract_58 : decode cX5_contract 58 = .ok (.invokestatic 114, 3) := fo_184 (fd_n 2 sr_X5_contract_2 rfl) rfl
theorem dX5_contract_61 : decode cX5_contract 61 = .ok (.iload_n 2, 1) := fo_28 (fd_n 5 sr_X5_contract_2 rfl)
theorem dX5_contract_62 : decode cX5_contract 62 = .ok (.ifCond .ge 7, 3) := fo_156 (fd_n 6 sr_X5_contract_2 rfl) (by decide +kernel)
theorem dX5_contract_65 : decode cX5_contract 65 = .ok (.iconst 0, 1) := fo_3 (fd_n 9 sr_X5_contract_2 rfl)
theorem dX5_contract_66 : decode cX5_contract 66 = .ok (.goto 4, 3) := fo_167 (fd_n 10 sr_X5_contract_2 rfl) (by decide +kernel)
theorem dX5_contract_69 : decode cX5_contract 69 = .ok (.iload_n 3, 1) := fo_29 (fd_n 13 sr_X5_contract_2 rfl)
theorem dX5_contract_70 : decode cX5_contract 70 = .ok (.iastore, 1) := fo_79 (fd_n 14 sr_X5_contract_2 rfl)
theorem dX5_contract_71 : decode cX5_contract 71 = .ok (.aload_n 0, 1) := fo_42 (fd_n 15 sr_X5_contract_2 rfl)
theorem dX5_contract_72 : decode cX5_contract 72 = .ok (.iload_n 1, 1) := fo_27 (fd_n 16 sr_X5_contract_2 rfl)
theorem dX5_contract_73 : decode cX5_contract 73 = .ok (.invokevirtual 134, 3) := fo_182 (fd_n 17 sr_X5_contract_2 rfl) rfl
theorem dX5_contract_76 : decode cX5_contract 76 = .ok (.ifCond .eq 7, 3) := fo_153 (fd_n 20 sr_X5_contract_2 rfl) (by decide +kernel)
theorem dX5_contract_79 : decode cX5_contract 79 = .ok (.iconst 1, 1) := fo_4 (fd_n 23 sr_X5_contract_2 rfl)
theorem dX5_contract_80 : decode cX5_contract 80 = .ok (.goto 4, 3) := fo_167 (fd_n 24 sr_X5_contract_2 rfl) (by decide +kernel)
theorem dX5_contract_83 : decode cX5_contract 83 = .ok (.iconst 0, 1) := fo_3 (fd_n 27 sr_X5_contract_2 rfl)
theorem dX5_contract_84 : decode cX5_contract 84 = .ok (.ireturn, 1) := fo_172 sr_X5_contract_3
noncomputable def sl_X5_purse_0 : List UInt8 := 27 :: 184 :: 0 :: 74 :: 153 :: 0 :: 15 :: 42 :: 180 :: 0 :: 7 :: 16 :: 7 :: 27 :: 96 :: 46 :: 167 :: 0 :: 9 :: 42 :: 18 :: 50 :: 182 :: 0 :: 80 :: 172 :: []
theorem sr_X5_purse_0 : fd_at cX5_purse 0 sl_X5_purse_0 := fd_base (by decide +kernel)
theorem dX5_purse_0 : decode cX5_purse 0 = .ok (.iload_n 1, 1) := fo_27 sr_X5_purse_0
theorem dX5_purse_1 : decode cX5_purse 1 = .ok (.invokestatic 74, 3) := fo_184 (fd_n 1 sr_X5_purse_0 rfl) rfl
theorem dX5_purse_4 : decode cX5_purse 4 = .ok (.ifCond .eq 15, 3) := fo_153 (fd_n 4 sr_X5_purse_0 rfl) (by decide +kernel)
theorem dX5_purse_7 : decode cX5_purse 7 = .ok (.aload_n 0, 1) := fo_42 (fd_n 7 sr_X5_purse_0 rfl)
theorem dX5_purse_8 : decode cX5_purse 8 = .ok (.getfield 7, 3) := fo_180 (fd_n 8 sr_X5_purse_0 rfl) rfl
theorem dX5_purse_11 : decode cX5_purse 11 = .ok (.bipush 7, 2) := fo_16 (fd_n 11 sr_X5_purse_0 rfl) (by decide +kernel)
theorem dX5_purse_13 : decode cX5_purse 13 = .ok (.iload_n 1, 1) := fo_27 (fd_n 13 sr_X5_purse_0 rfl)
theorem dX5_purse_14 : decode cX5_purse 14 = .ok (.iadd, 1) := fo_96 (fd_n 14 sr_X5_purse_0 rfl)
theorem dX5_purse_15 : decode cX5_purse 15 = .ok (.iaload, 1) := fo_46 (fd_n 15 sr_X5_purse_0 rfl)
theorem dX5_purse_16 : decode cX5_purse 16 = .ok (.goto 9, 3) := fo_167 (fd_n 16 sr_X5_purse_0 rfl) (by decide +kernel)
theorem dX5_purse_19 : decode cX5_purse 19 = .ok (.aload_n 0, 1) := fo_42 (fd_n 19 sr_X5_purse_0 rfl)
theorem dX5_purse_20 : decode cX5_purse 20 = .ok (.ldc 50, 2) := fo_18 (fd_n 20 sr_X5_purse_0 rfl) rfl
theorem dX5_purse_22 : decode cX5_purse 22 = .ok (.invokevirtual 80, 3) := fo_182 (fd_n 22 sr_X5_purse_0 rfl) rfl
theorem dX5_purse_25 : decode cX5_purse 25 = .ok (.ireturn, 1) := fo_172 (fd_n 25 sr_X5_purse_0 rfl)
noncomputable def sl_X5_lotAt_3 : List UInt8 := 2 :: 172 :: []
noncomputable def sl_X5_lotAt_2 : List UInt8 := 184 :: 0 :: 53 :: 153 :: 0 :: 25 :: 21 :: 4 :: 133 :: 9 :: 20 :: 0 :: 137 :: 184 :: 0 :: 53 :: 153 :: 0 :: 12 :: 8 :: 29 :: 104 :: 21 :: 4 :: 96 :: 167 :: 0 :: 4 :: sl_X5_lotAt_3
noncomputable def sl_X5_lotAt_1 : List UInt8 := 27 :: 4 :: 160 :: 0 :: 7 :: 28 :: 167 :: 0 :: 15 :: 27 :: 6 :: 160 :: 0 :: 9 :: 3 :: 28 :: 100 :: 167 :: 0 :: 4 :: 3 :: 96 :: 54 :: 4 :: 29 :: 133 :: 9 :: 20 :: 0 :: 137 :: sl_X5_lotAt_2
noncomputable def sl_X5_lotAt_0 : List UInt8 := 26 :: 8 :: 108 :: 27 :: 154 :: 0 :: 9 :: 3 :: 28 :: 100 :: 167 :: 0 :: 13 :: 27 :: 5 :: 160 :: 0 :: 7 :: 28 :: 167 :: 0 :: 4 :: 3 :: 96 :: 62 :: 26 :: 8 :: 112 :: sl_X5_lotAt_1
theorem sr_X5_lotAt_0 : fd_at cX5_lotAt 0 sl_X5_lotAt_0 := fd_base (by decide +kernel)
theorem sr_X5_lotAt_1 : fd_at cX5_lotAt 28 sl_X5_lotAt_1 := fd_n 28 sr_X5_lotAt_0 rfl
theorem sr_X5_lotAt_2 : fd_at cX5_lotAt 58 sl_X5_lotAt_2 := fd_n 30 sr_X5_lotAt_1 rfl
theorem sr_X5_lotAt_3 : fd_at cX5_lotAt 86 sl_X5_lotAt_3 := fd_n 28 sr_X5_lotAt_2 rfl
theorem dX5_lotAt_0 : decode cX5_lotAt 0 = .ok (.iload_n 0, 1) := fo_26 sr_X5_lotAt_0
theorem dX5_lotAt_1 : decode cX5_lotAt 1 = .ok (.iconst 5, 1) := fo_8 (fd_n 1 sr_X5_lotAt_0 rfl)
theorem dX5_lotAt_2 : decode cX5_lotAt 2 = .ok (.idiv, 1) := fo_108 (fd_n 2 sr_X5_lotAt_0 rfl)
theorem dX5_lotAt_3 : decode cX5_lotAt 3 = .ok (.iload_n 1, 1) := fo_27 (fd_n 3 sr_X5_lotAt_0 rfl)
theorem dX5_lotAt_4 : decode cX5_lotAt 4 = .ok (.ifCond .ne 9, 3) := fo_154 (fd_n 4 sr_X5_lotAt_0 rfl) (by decide +kernel)
theorem dX5_lotAt_7 : decode cX5_lotAt 7 = .ok (.iconst 0, 1) := fo_3 (fd_n 7 sr_X5_lotAt_0 rfl)
theorem dX5_lotAt_8 : decode cX5_lotAt 8 = .ok (.iload_n 2, 1) := fo_28 (fd_n 8 sr_X5_lotAt_0 rfl)
theorem dX5_lotAt_9 : decode cX5_lotAt 9 = .ok (.isub, 1) := fo_100 (fd_n 9 sr_X5_lotAt_0 rfl)
theorem dX5_lotAt_10 : decode cX5_lotAt 10 = .ok (.goto 13, 3) := fo_167 (fd_n 10 sr_X5_lotAt_0 rfl) (by decide +kernel)
theorem dX5_lotAt_13 : decode cX5_lotAt 13 = .ok (.iload_n 1, 1) := fo_27 (fd_n 13 sr_X5_lotAt_0 rfl)
theorem dX5_lotAt_14 : decode cX5_lotAt 14 = .ok (.iconst 2, 1) := fo_5 (fd_n 14 sr_X5_lotAt_0 rfl)
theorem dX5_lotAt_15 : decode cX5_lotAt 15 = .ok (.if_icmp .ne 7, 3) := fo_160 (fd_n 15 sr_X5_lotAt_0 rfl) (by decide +kernel)
theorem dX5_lotAt_18 : decode cX5_lotAt 18 = .ok (.iload_n 2, 1) := fo_28 (fd_n 18 sr_X5_lotAt_0 rfl)
theorem dX5_lotAt_19 : decode cX5_lotAt 19 = .ok (.goto 4, 3) := fo_167 (fd_n 19 sr_X5_lotAt_0 rfl) (by decide +kernel)
theorem dX5_lotAt_22 : decode cX5_lotAt 22 = .ok (.iconst 0, 1) := fo_3 (fd_n 22 sr_X5_lotAt_0 rfl)
theorem dX5_lotAt_23 : decode cX5_lotAt 23 = .ok (.iadd, 1) := fo_96 (fd_n 23 sr_X5_lotAt_0 rfl)
theorem dX5_lotAt_24 : decode cX5_lotAt 24 = .ok (.istore_n 3, 1) := fo_62 (fd_n 24 sr_X5_lotAt_0 rfl)
theorem dX5_lotAt_25 : decode cX5_lotAt 25 = .ok (.iload_n 0, 1) := fo_26 (fd_n 25 sr_X5_lotAt_0 rfl)
theorem dX5_lotAt_26 : decode cX5_lotAt 26 = .ok (.iconst 5, 1) := fo_8 (fd_n 26 sr_X5_lotAt_0 rfl)
theorem dX5_lotAt_27 : decode cX5_lotAt 27 = .ok (.irem, 1) := fo_112 (fd_n 27 sr_X5_lotAt_0 rfl)
theorem dX5_lotAt_28 : decode cX5_lotAt 28 = .ok (.iload_n 1, 1) := fo_27 sr_X5_lotAt_1
theorem dX5_lotAt_29 : decode cX5_lotAt 29 = .ok (.iconst 1, 1) := fo_4 (fd_n 1 sr_X5_lotAt_1 rfl)
theorem dX5_lotAt_30 : decode cX5_lotAt 30 = .ok (.if_icmp .ne 7, 3) := fo_160 (fd_n 2 sr_X5_lotAt_1 rfl) (by decide +kernel)
theorem dX5_lotAt_33 : decode cX5_lotAt 33 = .ok (.iload_n 2, 1) := fo_28 (fd_n 5 sr_X5_lotAt_1 rfl)
theorem dX5_lotAt_34 : decode cX5_lotAt 34 = .ok (.goto 15, 3) := fo_167 (fd_n 6 sr_X5_lotAt_1 rfl) (by decide +kernel)
theorem dX5_lotAt_37 : decode cX5_lotAt 37 = .ok (.iload_n 1, 1) := fo_27 (fd_n 9 sr_X5_lotAt_1 rfl)
theorem dX5_lotAt_38 : decode cX5_lotAt 38 = .ok (.iconst 3, 1) := fo_6 (fd_n 10 sr_X5_lotAt_1 rfl)
theorem dX5_lotAt_39 : decode cX5_lotAt 39 = .ok (.if_icmp .ne 9, 3) := fo_160 (fd_n 11 sr_X5_lotAt_1 rfl) (by decide +kernel)
theorem dX5_lotAt_42 : decode cX5_lotAt 42 = .ok (.iconst 0, 1) := fo_3 (fd_n 14 sr_X5_lotAt_1 rfl)
theorem dX5_lotAt_43 : decode cX5_lotAt 43 = .ok (.iload_n 2, 1) := fo_28 (fd_n 15 sr_X5_lotAt_1 rfl)
theorem dX5_lotAt_44 : decode cX5_lotAt 44 = .ok (.isub, 1) := fo_100 (fd_n 16 sr_X5_lotAt_1 rfl)
theorem dX5_lotAt_45 : decode cX5_lotAt 45 = .ok (.goto 4, 3) := fo_167 (fd_n 17 sr_X5_lotAt_1 rfl) (by decide +kernel)
theorem dX5_lotAt_48 : decode cX5_lotAt 48 = .ok (.iconst 0, 1) := fo_3 (fd_n 20 sr_X5_lotAt_1 rfl)
theorem dX5_lotAt_49 : decode cX5_lotAt 49 = .ok (.iadd, 1) := fo_96 (fd_n 21 sr_X5_lotAt_1 rfl)
theorem dX5_lotAt_50 : decode cX5_lotAt 50 = .ok (.istore 4, 2) := fo_54 (fd_n 22 sr_X5_lotAt_1 rfl) rfl
theorem dX5_lotAt_52 : decode cX5_lotAt 52 = .ok (.iload_n 3, 1) := fo_29 (fd_n 24 sr_X5_lotAt_1 rfl)
theorem dX5_lotAt_53 : decode cX5_lotAt 53 = .ok (.i2l, 1) := fo_133 (fd_n 25 sr_X5_lotAt_1 rfl)
theorem dX5_lotAt_54 : decode cX5_lotAt 54 = .ok (.lconst 0, 1) := fo_9 (fd_n 26 sr_X5_lotAt_1 rfl)
theorem dX5_lotAt_55 : decode cX5_lotAt 55 = .ok (.ldc2_w 137, 3) := fo_20 (fd_n 27 sr_X5_lotAt_1 rfl) rfl
theorem dX5_lotAt_58 : decode cX5_lotAt 58 = .ok (.invokestatic 53, 3) := fo_184 sr_X5_lotAt_2 rfl
theorem dX5_lotAt_61 : decode cX5_lotAt 61 = .ok (.ifCond .eq 25, 3) := fo_153 (fd_n 3 sr_X5_lotAt_2 rfl) (by decide +kernel)
theorem dX5_lotAt_64 : decode cX5_lotAt 64 = .ok (.iload 4, 2) := fo_21 (fd_n 6 sr_X5_lotAt_2 rfl) rfl
theorem dX5_lotAt_66 : decode cX5_lotAt 66 = .ok (.i2l, 1) := fo_133 (fd_n 8 sr_X5_lotAt_2 rfl)
theorem dX5_lotAt_67 : decode cX5_lotAt 67 = .ok (.lconst 0, 1) := fo_9 (fd_n 9 sr_X5_lotAt_2 rfl)
theorem dX5_lotAt_68 : decode cX5_lotAt 68 = .ok (.ldc2_w 137, 3) := fo_20 (fd_n 10 sr_X5_lotAt_2 rfl) rfl
theorem dX5_lotAt_71 : decode cX5_lotAt 71 = .ok (.invokestatic 53, 3) := fo_184 (fd_n 13 sr_X5_lotAt_2 rfl) rfl
theorem dX5_lotAt_74 : decode cX5_lotAt 74 = .ok (.ifCond .eq 12, 3) := fo_153 (fd_n 16 sr_X5_lotAt_2 rfl) (by decide +kernel)
theorem dX5_lotAt_77 : decode cX5_lotAt 77 = .ok (.iconst 5, 1) := fo_8 (fd_n 19 sr_X5_lotAt_2 rfl)
theorem dX5_lotAt_78 : decode cX5_lotAt 78 = .ok (.iload_n 3, 1) := fo_29 (fd_n 20 sr_X5_lotAt_2 rfl)
theorem dX5_lotAt_79 : decode cX5_lotAt 79 = .ok (.imul, 1) := fo_104 (fd_n 21 sr_X5_lotAt_2 rfl)
theorem dX5_lotAt_80 : decode cX5_lotAt 80 = .ok (.iload 4, 2) := fo_21 (fd_n 22 sr_X5_lotAt_2 rfl) rfl
theorem dX5_lotAt_82 : decode cX5_lotAt 82 = .ok (.iadd, 1) := fo_96 (fd_n 24 sr_X5_lotAt_2 rfl)
theorem dX5_lotAt_83 : decode cX5_lotAt 83 = .ok (.goto 4, 3) := fo_167 (fd_n 25 sr_X5_lotAt_2 rfl) (by decide +kernel)
theorem dX5_lotAt_86 : decode cX5_lotAt 86 = .ok (.iconst (-1), 1) := fo_2 sr_X5_lotAt_3
theorem dX5_lotAt_87 : decode cX5_lotAt 87 = .ok (.ireturn, 1) := fo_172 (fd_n 1 sr_X5_lotAt_3 rfl)
noncomputable def sl_X5_seen_6 : List UInt8 := 167 :: 255 :: 140 :: 21 :: 6 :: 172 :: []
noncomputable def sl_X5_seen_5 : List UInt8 := 54 :: 8 :: 132 :: 9 :: 1 :: 167 :: 255 :: 177 :: 21 :: 6 :: 21 :: 8 :: 153 :: 0 :: 10 :: 4 :: 21 :: 7 :: 120 :: 167 :: 0 :: 4 :: 3 :: 128 :: 54 :: 6 :: 132 :: 7 :: 1 :: sl_X5_seen_6
noncomputable def sl_X5_seen_4 : List UInt8 := 100 :: 21 :: 9 :: 104 :: 5 :: 42 :: 21 :: 10 :: 182 :: 0 :: 103 :: 104 :: 5 :: 29 :: 104 :: 100 :: 4 :: 100 :: 28 :: 104 :: 164 :: 0 :: 7 :: 4 :: 167 :: 0 :: 4 :: 3 :: sl_X5_seen_5
noncomputable def sl_X5_seen_3 : List UInt8 := 21 :: 9 :: 184 :: 0 :: 139 :: 54 :: 10 :: 21 :: 8 :: 153 :: 0 :: 46 :: 42 :: 21 :: 10 :: 182 :: 0 :: 65 :: 153 :: 0 :: 33 :: 5 :: 21 :: 7 :: 104 :: 5 :: 29 :: 104 :: sl_X5_seen_4
noncomputable def sl_X5_seen_2 : List UInt8 := 21 :: 5 :: 162 :: 0 :: 115 :: 4 :: 54 :: 8 :: 4 :: 54 :: 9 :: 21 :: 9 :: 28 :: 162 :: 0 :: 79 :: 42 :: 27 :: 3 :: 182 :: 0 :: 127 :: 42 :: 27 :: 5 :: 182 :: 0 :: 127 :: sl_X5_seen_3
noncomputable def sl_X5_seen_1 : List UInt8 := 42 :: 21 :: 4 :: 182 :: 0 :: 65 :: 153 :: 0 :: 12 :: 42 :: 21 :: 4 :: 182 :: 0 :: 103 :: 167 :: 0 :: 4 :: 3 :: 54 :: 5 :: 3 :: 54 :: 6 :: 3 :: 54 :: 7 :: 21 :: 7 :: sl_X5_seen_2
noncomputable def sl_X5_seen_0 : List UInt8 := 42 :: 27 :: 4 :: 182 :: 0 :: 127 :: 62 :: 42 :: 27 :: 3 :: 182 :: 0 :: 127 :: 42 :: 27 :: 5 :: 182 :: 0 :: 127 :: 28 :: 184 :: 0 :: 139 :: 54 :: 4 :: 21 :: 4 :: 155 :: 0 :: 21 :: sl_X5_seen_1
theorem sr_X5_seen_0 : fd_at cX5_seen 0 sl_X5_seen_0 := fd_base (by decide +kernel)
theorem sr_X5_seen_1 : fd_at cX5_seen 30 sl_X5_seen_1 := fd_n 30 sr_X5_seen_0 rfl
theorem sr_X5_seen_2 : fd_at cX5_seen 59 sl_X5_seen_2 := fd_n 29 sr_X5_seen_1 rfl
theorem sr_X5_seen_3 : fd_at cX5_seen 88 sl_X5_seen_3 := fd_n 29 sr_X5_seen_2 rfl
theorem sr_X5_seen_4 : fd_at cX5_seen 116 sl_X5_seen_4 := fd_n 28 sr_X5_seen_3 rfl
theorem sr_X5_seen_5 : fd_at cX5_seen 144 sl_X5_seen_5 := fd_n 28 sr_X5_seen_4 rfl
theorem sr_X5_seen_6 : fd_at cX5_seen 173 sl_X5_seen_6 := fd_n 29 sr_X5_seen_5 rfl
theorem dX5_seen_0 : decode cX5_seen 0 = .ok (.aload_n 0, 1) := fo_42 sr_X5_seen_0
theorem dX5_seen_1 : decode cX5_seen 1 = .ok (.iload_n 1, 1) := fo_27 (fd_n 1 sr_X5_seen_0 rfl)
theorem dX5_seen_2 : decode cX5_seen 2 = .ok (.iconst 1, 1) := fo_4 (fd_n 2 sr_X5_seen_0 rfl)
theorem dX5_seen_3 : decode cX5_seen 3 = .ok (.invokevirtual 127, 3) := fo_182 (fd_n 3 sr_X5_seen_0 rfl) rfl
theorem dX5_seen_6 : decode cX5_seen 6 = .ok (.istore_n 3, 1) := fo_62 (fd_n 6 sr_X5_seen_0 rfl)
theorem dX5_seen_7 : decode cX5_seen 7 = .ok (.aload_n 0, 1) := fo_42 (fd_n 7 sr_X5_seen_0 rfl)
theorem dX5_seen_8 : decode cX5_seen 8 = .ok (.iload_n 1, 1) := fo_27 (fd_n 8 sr_X5_seen_0 rfl)
theorem dX5_seen_9 : decode cX5_seen 9 = .ok (.iconst 0, 1) := fo_3 (fd_n 9 sr_X5_seen_0 rfl)
theorem dX5_seen_10 : decode cX5_seen 10 = .ok (.invokevirtual 127, 3) := fo_182 (fd_n 10 sr_X5_seen_0 rfl) rfl
theorem dX5_seen_13 : decode cX5_seen 13 = .ok (.aload_n 0, 1) := fo_42 (fd_n 13 sr_X5_seen_0 rfl)
theorem dX5_seen_14 : decode cX5_seen 14 = .ok (.iload_n 1, 1) := fo_27 (fd_n 14 sr_X5_seen_0 rfl)
theorem dX5_seen_15 : decode cX5_seen 15 = .ok (.iconst 2, 1) := fo_5 (fd_n 15 sr_X5_seen_0 rfl)
theorem dX5_seen_16 : decode cX5_seen 16 = .ok (.invokevirtual 127, 3) := fo_182 (fd_n 16 sr_X5_seen_0 rfl) rfl
theorem dX5_seen_19 : decode cX5_seen 19 = .ok (.iload_n 2, 1) := fo_28 (fd_n 19 sr_X5_seen_0 rfl)
theorem dX5_seen_20 : decode cX5_seen 20 = .ok (.invokestatic 139, 3) := fo_184 (fd_n 20 sr_X5_seen_0 rfl) rfl
theorem dX5_seen_23 : decode cX5_seen 23 = .ok (.istore 4, 2) := fo_54 (fd_n 23 sr_X5_seen_0 rfl) rfl
theorem dX5_seen_25 : decode cX5_seen 25 = .ok (.iload 4, 2) := fo_21 (fd_n 25 sr_X5_seen_0 rfl) rfl
theorem dX5_seen_27 : decode cX5_seen 27 = .ok (.ifCond .lt 21, 3) := fo_155 (fd_n 27 sr_X5_seen_0 rfl) (by decide +kernel)
theorem dX5_seen_30 : decode cX5_seen 30 = .ok (.aload_n 0, 1) := fo_42 sr_X5_seen_1
theorem dX5_seen_31 : decode cX5_seen 31 = .ok (.iload 4, 2) := fo_21 (fd_n 1 sr_X5_seen_1 rfl) rfl
theorem dX5_seen_33 : decode cX5_seen 33 = .ok (.invokevirtual 65, 3) := fo_182 (fd_n 3 sr_X5_seen_1 rfl) rfl
theorem dX5_seen_36 : decode cX5_seen 36 = .ok (.ifCond .eq 12, 3) := fo_153 (fd_n 6 sr_X5_seen_1 rfl) (by decide +kernel)
theorem dX5_seen_39 : decode cX5_seen 39 = .ok (.aload_n 0, 1) := fo_42 (fd_n 9 sr_X5_seen_1 rfl)
theorem dX5_seen_40 : decode cX5_seen 40 = .ok (.iload 4, 2) := fo_21 (fd_n 10 sr_X5_seen_1 rfl) rfl
theorem dX5_seen_42 : decode cX5_seen 42 = .ok (.invokevirtual 103, 3) := fo_182 (fd_n 12 sr_X5_seen_1 rfl) rfl
theorem dX5_seen_45 : decode cX5_seen 45 = .ok (.goto 4, 3) := fo_167 (fd_n 15 sr_X5_seen_1 rfl) (by decide +kernel)
theorem dX5_seen_48 : decode cX5_seen 48 = .ok (.iconst 0, 1) := fo_3 (fd_n 18 sr_X5_seen_1 rfl)
theorem dX5_seen_49 : decode cX5_seen 49 = .ok (.istore 5, 2) := fo_54 (fd_n 19 sr_X5_seen_1 rfl) rfl
theorem dX5_seen_51 : decode cX5_seen 51 = .ok (.iconst 0, 1) := fo_3 (fd_n 21 sr_X5_seen_1 rfl)
theorem dX5_seen_52 : decode cX5_seen 52 = .ok (.istore 6, 2) := fo_54 (fd_n 22 sr_X5_seen_1 rfl) rfl
theorem dX5_seen_54 : decode cX5_seen 54 = .ok (.iconst 0, 1) := fo_3 (fd_n 24 sr_X5_seen_1 rfl)
theorem dX5_seen_55 : decode cX5_seen 55 = .ok (.istore 7, 2) := fo_54 (fd_n 25 sr_X5_seen_1 rfl) rfl
theorem dX5_seen_57 : decode cX5_seen 57 = .ok (.iload 7, 2) := fo_21 (fd_n 27 sr_X5_seen_1 rfl) rfl
theorem dX5_seen_59 : decode cX5_seen 59 = .ok (.iload 5, 2) := fo_21 sr_X5_seen_2 rfl
theorem dX5_seen_61 : decode cX5_seen 61 = .ok (.if_icmp .ge 115, 3) := fo_162 (fd_n 2 sr_X5_seen_2 rfl) (by decide +kernel)
theorem dX5_seen_64 : decode cX5_seen 64 = .ok (.iconst 1, 1) := fo_4 (fd_n 5 sr_X5_seen_2 rfl)
theorem dX5_seen_65 : decode cX5_seen 65 = .ok (.istore 8, 2) := fo_54 (fd_n 6 sr_X5_seen_2 rfl) rfl
theorem dX5_seen_67 : decode cX5_seen 67 = .ok (.iconst 1, 1) := fo_4 (fd_n 8 sr_X5_seen_2 rfl)
theorem dX5_seen_68 : decode cX5_seen 68 = .ok (.istore 9, 2) := fo_54 (fd_n 9 sr_X5_seen_2 rfl) rfl
theorem dX5_seen_70 : decode cX5_seen 70 = .ok (.iload 9, 2) := fo_21 (fd_n 11 sr_X5_seen_2 rfl) rfl
theorem dX5_seen_72 : decode cX5_seen 72 = .ok (.iload_n 2, 1) := fo_28 (fd_n 13 sr_X5_seen_2 rfl)
theorem dX5_seen_73 : decode cX5_seen 73 = .ok (.if_icmp .ge 79, 3) := fo_162 (fd_n 14 sr_X5_seen_2 rfl) (by decide +kernel)
theorem dX5_seen_76 : decode cX5_seen 76 = .ok (.aload_n 0, 1) := fo_42 (fd_n 17 sr_X5_seen_2 rfl)
theorem dX5_seen_77 : decode cX5_seen 77 = .ok (.iload_n 1, 1) := fo_27 (fd_n 18 sr_X5_seen_2 rfl)
theorem dX5_seen_78 : decode cX5_seen 78 = .ok (.iconst 0, 1) := fo_3 (fd_n 19 sr_X5_seen_2 rfl)
theorem dX5_seen_79 : decode cX5_seen 79 = .ok (.invokevirtual 127, 3) := fo_182 (fd_n 20 sr_X5_seen_2 rfl) rfl
theorem dX5_seen_82 : decode cX5_seen 82 = .ok (.aload_n 0, 1) := fo_42 (fd_n 23 sr_X5_seen_2 rfl)
theorem dX5_seen_83 : decode cX5_seen 83 = .ok (.iload_n 1, 1) := fo_27 (fd_n 24 sr_X5_seen_2 rfl)
theorem dX5_seen_84 : decode cX5_seen 84 = .ok (.iconst 2, 1) := fo_5 (fd_n 25 sr_X5_seen_2 rfl)
theorem dX5_seen_85 : decode cX5_seen 85 = .ok (.invokevirtual 127, 3) := fo_182 (fd_n 26 sr_X5_seen_2 rfl) rfl
theorem dX5_seen_88 : decode cX5_seen 88 = .ok (.iload 9, 2) := fo_21 sr_X5_seen_3 rfl
theorem dX5_seen_90 : decode cX5_seen 90 = .ok (.invokestatic 139, 3) := fo_184 (fd_n 2 sr_X5_seen_3 rfl) rfl
theorem dX5_seen_93 : decode cX5_seen 93 = .ok (.istore 10, 2) := fo_54 (fd_n 5 sr_X5_seen_3 rfl) rfl
theorem dX5_seen_95 : decode cX5_seen 95 = .ok (.iload 8, 2) := fo_21 (fd_n 7 sr_X5_seen_3 rfl) rfl
theorem dX5_seen_97 : decode cX5_seen 97 = .ok (.ifCond .eq 46, 3) := fo_153 (fd_n 9 sr_X5_seen_3 rfl) (by decide +kernel)
theorem dX5_seen_100 : decode cX5_seen 100 = .ok (.aload_n 0, 1) := fo_42 (fd_n 12 sr_X5_seen_3 rfl)
theorem dX5_seen_101 : decode cX5_seen 101 = .ok (.iload 10, 2) := fo_21 (fd_n 13 sr_X5_seen_3 rfl) rfl
theorem dX5_seen_103 : decode cX5_seen 103 = .ok (.invokevirtual 65, 3) := fo_182 (fd_n 15 sr_X5_seen_3 rfl) rfl
theorem dX5_seen_106 : decode cX5_seen 106 = .ok (.ifCond .eq 33, 3) := fo_153 (fd_n 18 sr_X5_seen_3 rfl) (by decide +kernel)
theorem dX5_seen_109 : decode cX5_seen 109 = .ok (.iconst 2, 1) := fo_5 (fd_n 21 sr_X5_seen_3 rfl)
theorem dX5_seen_110 : decode cX5_seen 110 = .ok (.iload 7, 2) := fo_21 (fd_n 22 sr_X5_seen_3 rfl) rfl
theorem dX5_seen_112 : decode cX5_seen 112 = .ok (.imul, 1) := fo_104 (fd_n 24 sr_X5_seen_3 rfl)
theorem dX5_seen_113 : decode cX5_seen 113 = .ok (.iconst 2, 1) := fo_5 (fd_n 25 sr_X5_seen_3 rfl)
theorem dX5_seen_114 : decode cX5_seen 114 = .ok (.iload_n 3, 1) := fo_29 (fd_n 26 sr_X5_seen_3 rfl)
theorem dX5_seen_115 : decode cX5_seen 115 = .ok (.imul, 1) := fo_104 (fd_n 27 sr_X5_seen_3 rfl)
theorem dX5_seen_116 : decode cX5_seen 116 = .ok (.isub, 1) := fo_100 sr_X5_seen_4
theorem dX5_seen_117 : decode cX5_seen 117 = .ok (.iload 9, 2) := fo_21 (fd_n 1 sr_X5_seen_4 rfl) rfl
theorem dX5_seen_119 : decode cX5_seen 119 = .ok (.imul, 1) := fo_104 (fd_n 3 sr_X5_seen_4 rfl)
theorem dX5_seen_120 : decode cX5_seen 120 = .ok (.iconst 2, 1) := fo_5 (fd_n 4 sr_X5_seen_4 rfl)
theorem dX5_seen_121 : decode cX5_seen 121 = .ok (.aload_n 0, 1) := fo_42 (fd_n 5 sr_X5_seen_4 rfl)
theorem dX5_seen_122 : decode cX5_seen 122 = .ok (.iload 10, 2) := fo_21 (fd_n 6 sr_X5_seen_4 rfl) rfl
theorem dX5_seen_124 : decode cX5_seen 124 = .ok (.invokevirtual 103, 3) := fo_182 (fd_n 8 sr_X5_seen_4 rfl) rfl
theorem dX5_seen_127 : decode cX5_seen 127 = .ok (.imul, 1) := fo_104 (fd_n 11 sr_X5_seen_4 rfl)
theorem dX5_seen_128 : decode cX5_seen 128 = .ok (.iconst 2, 1) := fo_5 (fd_n 12 sr_X5_seen_4 rfl)
theorem dX5_seen_129 : decode cX5_seen 129 = .ok (.iload_n 3, 1) := fo_29 (fd_n 13 sr_X5_seen_4 rfl)
theorem dX5_seen_130 : decode cX5_seen 130 = .ok (.imul, 1) := fo_104 (fd_n 14 sr_X5_seen_4 rfl)
theorem dX5_seen_131 : decode cX5_seen 131 = .ok (.isub, 1) := fo_100 (fd_n 15 sr_X5_seen_4 rfl)
theorem dX5_seen_132 : decode cX5_seen 132 = .ok (.iconst 1, 1) := fo_4 (fd_n 16 sr_X5_seen_4 rfl)
theorem dX5_seen_133 : decode cX5_seen 133 = .ok (.isub, 1) := fo_100 (fd_n 17 sr_X5_seen_4 rfl)
theorem dX5_seen_134 : decode cX5_seen 134 = .ok (.iload_n 2, 1) := fo_28 (fd_n 18 sr_X5_seen_4 rfl)
theorem dX5_seen_135 : decode cX5_seen 135 = .ok (.imul, 1) := fo_104 (fd_n 19 sr_X5_seen_4 rfl)
theorem dX5_seen_136 : decode cX5_seen 136 = .ok (.if_icmp .le 7, 3) := fo_164 (fd_n 20 sr_X5_seen_4 rfl) (by decide +kernel)
theorem dX5_seen_139 : decode cX5_seen 139 = .ok (.iconst 1, 1) := fo_4 (fd_n 23 sr_X5_seen_4 rfl)
theorem dX5_seen_140 : decode cX5_seen 140 = .ok (.goto 4, 3) := fo_167 (fd_n 24 sr_X5_seen_4 rfl) (by decide +kernel)
theorem dX5_seen_143 : decode cX5_seen 143 = .ok (.iconst 0, 1) := fo_3 (fd_n 27 sr_X5_seen_4 rfl)
theorem dX5_seen_144 : decode cX5_seen 144 = .ok (.istore 8, 2) := fo_54 sr_X5_seen_5 rfl
theorem dX5_seen_146 : decode cX5_seen 146 = .ok (.iinc 9 1, 3) := fo_132 (fd_n 2 sr_X5_seen_5 rfl) rfl (by decide +kernel)
theorem dX5_seen_149 : decode cX5_seen 149 = .ok (.goto (-79), 3) := fo_167 (fd_n 5 sr_X5_seen_5 rfl) (by decide +kernel)
theorem dX5_seen_152 : decode cX5_seen 152 = .ok (.iload 6, 2) := fo_21 (fd_n 8 sr_X5_seen_5 rfl) rfl
theorem dX5_seen_154 : decode cX5_seen 154 = .ok (.iload 8, 2) := fo_21 (fd_n 10 sr_X5_seen_5 rfl) rfl
theorem dX5_seen_156 : decode cX5_seen 156 = .ok (.ifCond .eq 10, 3) := fo_153 (fd_n 12 sr_X5_seen_5 rfl) (by decide +kernel)
theorem dX5_seen_159 : decode cX5_seen 159 = .ok (.iconst 1, 1) := fo_4 (fd_n 15 sr_X5_seen_5 rfl)
theorem dX5_seen_160 : decode cX5_seen 160 = .ok (.iload 7, 2) := fo_21 (fd_n 16 sr_X5_seen_5 rfl) rfl
theorem dX5_seen_162 : decode cX5_seen 162 = .ok (.ishl, 1) := fo_120 (fd_n 18 sr_X5_seen_5 rfl)
theorem dX5_seen_163 : decode cX5_seen 163 = .ok (.goto 4, 3) := fo_167 (fd_n 19 sr_X5_seen_5 rfl) (by decide +kernel)
theorem dX5_seen_166 : decode cX5_seen 166 = .ok (.iconst 0, 1) := fo_3 (fd_n 22 sr_X5_seen_5 rfl)
theorem dX5_seen_167 : decode cX5_seen 167 = .ok (.ior, 1) := fo_128 (fd_n 23 sr_X5_seen_5 rfl)
theorem dX5_seen_168 : decode cX5_seen 168 = .ok (.istore 6, 2) := fo_54 (fd_n 24 sr_X5_seen_5 rfl) rfl
theorem dX5_seen_170 : decode cX5_seen 170 = .ok (.iinc 7 1, 3) := fo_132 (fd_n 26 sr_X5_seen_5 rfl) rfl (by decide +kernel)
theorem dX5_seen_173 : decode cX5_seen 173 = .ok (.goto (-116), 3) := fo_167 sr_X5_seen_6 (by decide +kernel)
theorem dX5_seen_176 : decode cX5_seen 176 = .ok (.iload 6, 2) := fo_21 (fd_n 3 sr_X5_seen_6 rfl) rfl
theorem dX5_seen_178 : decode cX5_seen 178 = .ok (.ireturn, 1) := fo_172 (fd_n 5 sr_X5_seen_6 rfl)
noncomputable def sl_X5_sees_1 : List UInt8 := 42 :: 18 :: 50 :: 182 :: 0 :: 80 :: 172 :: []
noncomputable def sl_X5_sees_0 : List UInt8 := 42 :: 27 :: 182 :: 0 :: 122 :: 153 :: 0 :: 24 :: 28 :: 133 :: 10 :: 20 :: 0 :: 137 :: 184 :: 0 :: 53 :: 153 :: 0 :: 12 :: 42 :: 27 :: 28 :: 182 :: 0 :: 143 :: 167 :: 0 :: 9 :: sl_X5_sees_1
theorem sr_X5_sees_0 : fd_at cX5_sees 0 sl_X5_sees_0 := fd_base (by decide +kernel)
theorem sr_X5_sees_1 : fd_at cX5_sees 29 sl_X5_sees_1 := fd_n 29 sr_X5_sees_0 rfl
theorem dX5_sees_0 : decode cX5_sees 0 = .ok (.aload_n 0, 1) := fo_42 sr_X5_sees_0
theorem dX5_sees_1 : decode cX5_sees 1 = .ok (.iload_n 1, 1) := fo_27 (fd_n 1 sr_X5_sees_0 rfl)
theorem dX5_sees_2 : decode cX5_sees 2 = .ok (.invokevirtual 122, 3) := fo_182 (fd_n 2 sr_X5_sees_0 rfl) rfl
theorem dX5_sees_5 : decode cX5_sees 5 = .ok (.ifCond .eq 24, 3) := fo_153 (fd_n 5 sr_X5_sees_0 rfl) (by decide +kernel)
theorem dX5_sees_8 : decode cX5_sees 8 = .ok (.iload_n 2, 1) := fo_28 (fd_n 8 sr_X5_sees_0 rfl)
theorem dX5_sees_9 : decode cX5_sees 9 = .ok (.i2l, 1) := fo_133 (fd_n 9 sr_X5_sees_0 rfl)
theorem dX5_sees_10 : decode cX5_sees 10 = .ok (.lconst 1, 1) := fo_10 (fd_n 10 sr_X5_sees_0 rfl)
theorem dX5_sees_11 : decode cX5_sees 11 = .ok (.ldc2_w 137, 3) := fo_20 (fd_n 11 sr_X5_sees_0 rfl) rfl
theorem dX5_sees_14 : decode cX5_sees 14 = .ok (.invokestatic 53, 3) := fo_184 (fd_n 14 sr_X5_sees_0 rfl) rfl
theorem dX5_sees_17 : decode cX5_sees 17 = .ok (.ifCond .eq 12, 3) := fo_153 (fd_n 17 sr_X5_sees_0 rfl) (by decide +kernel)
theorem dX5_sees_20 : decode cX5_sees 20 = .ok (.aload_n 0, 1) := fo_42 (fd_n 20 sr_X5_sees_0 rfl)
theorem dX5_sees_21 : decode cX5_sees 21 = .ok (.iload_n 1, 1) := fo_27 (fd_n 21 sr_X5_sees_0 rfl)
theorem dX5_sees_22 : decode cX5_sees 22 = .ok (.iload_n 2, 1) := fo_28 (fd_n 22 sr_X5_sees_0 rfl)
theorem dX5_sees_23 : decode cX5_sees 23 = .ok (.invokevirtual 143, 3) := fo_182 (fd_n 23 sr_X5_sees_0 rfl) rfl
theorem dX5_sees_26 : decode cX5_sees 26 = .ok (.goto 9, 3) := fo_167 (fd_n 26 sr_X5_sees_0 rfl) (by decide +kernel)
theorem dX5_sees_29 : decode cX5_sees 29 = .ok (.aload_n 0, 1) := fo_42 sr_X5_sees_1
theorem dX5_sees_30 : decode cX5_sees 30 = .ok (.ldc 50, 2) := fo_18 (fd_n 1 sr_X5_sees_1 rfl) rfl
theorem dX5_sees_32 : decode cX5_sees 32 = .ok (.invokevirtual 80, 3) := fo_182 (fd_n 3 sr_X5_sees_1 rfl) rfl
theorem dX5_sees_35 : decode cX5_sees 35 = .ok (.ireturn, 1) := fo_172 (fd_n 6 sr_X5_sees_1 rfl)
noncomputable def sl_X5_looks_6 : List UInt8 := 28 :: 92 :: 46 :: 21 :: 7 :: 100 :: 79 :: 132 :: 3 :: 1 :: 167 :: 255 :: 118 :: 177 :: []
noncomputable def sl_X5_looks_5 : List UInt8 := 54 :: 7 :: 42 :: 89 :: 180 :: 0 :: 150 :: 21 :: 7 :: 96 :: 181 :: 0 :: 150 :: 42 :: 180 :: 0 :: 25 :: 21 :: 6 :: 92 :: 46 :: 21 :: 7 :: 96 :: 79 :: 42 :: 180 :: 0 :: 25 :: sl_X5_looks_6
noncomputable def sl_X5_looks_4 : List UInt8 := 42 :: 89 :: 180 :: 0 :: 153 :: 4 :: 21 :: 5 :: 120 :: 128 :: 181 :: 0 :: 153 :: 21 :: 6 :: 28 :: 159 :: 0 :: 48 :: 21 :: 4 :: 42 :: 21 :: 5 :: 182 :: 0 :: 106 :: 104 :: sl_X5_looks_5
noncomputable def sl_X5_looks_3 : List UInt8 := 4 :: 182 :: 0 :: 62 :: 54 :: 6 :: 42 :: 180 :: 0 :: 22 :: 21 :: 6 :: 92 :: 46 :: 21 :: 4 :: 96 :: 79 :: 42 :: 89 :: 180 :: 0 :: 146 :: 21 :: 4 :: 96 :: 181 :: 0 :: 146 :: sl_X5_looks_4
noncomputable def sl_X5_looks_2 : List UInt8 := 54 :: 4 :: 21 :: 4 :: 158 :: 0 :: 117 :: 42 :: 27 :: 3 :: 182 :: 0 :: 127 :: 42 :: 27 :: 5 :: 182 :: 0 :: 127 :: 29 :: 184 :: 0 :: 139 :: 54 :: 5 :: 42 :: 21 :: 5 :: sl_X5_looks_3
noncomputable def sl_X5_looks_1 : List UInt8 := 42 :: 3 :: 181 :: 0 :: 153 :: 42 :: 27 :: 6 :: 182 :: 0 :: 127 :: 61 :: 4 :: 62 :: 29 :: 8 :: 162 :: 0 :: 139 :: 42 :: 27 :: 29 :: 182 :: 0 :: 143 :: 184 :: 0 :: 156 :: sl_X5_looks_2
noncomputable def sl_X5_looks_0 : List UInt8 := 3 :: 61 :: 28 :: 7 :: 162 :: 0 :: 16 :: 42 :: 180 :: 0 :: 22 :: 28 :: 3 :: 79 :: 132 :: 2 :: 1 :: 167 :: 255 :: 241 :: 42 :: 3 :: 181 :: 0 :: 146 :: 42 :: 3 :: 181 :: 0 :: 150 :: sl_X5_looks_1
theorem sr_X5_looks_0 : fd_at cX5_looks 0 sl_X5_looks_0 := fd_base (by decide +kernel)
theorem sr_X5_looks_1 : fd_at cX5_looks 30 sl_X5_looks_1 := fd_n 30 sr_X5_looks_0 rfl
theorem sr_X5_looks_2 : fd_at cX5_looks 58 sl_X5_looks_2 := fd_n 28 sr_X5_looks_1 rfl
theorem sr_X5_looks_3 : fd_at cX5_looks 86 sl_X5_looks_3 := fd_n 28 sr_X5_looks_2 rfl
theorem sr_X5_looks_4 : fd_at cX5_looks 115 sl_X5_looks_4 := fd_n 29 sr_X5_looks_3 rfl
theorem sr_X5_looks_5 : fd_at cX5_looks 143 sl_X5_looks_5 := fd_n 28 sr_X5_looks_4 rfl
theorem sr_X5_looks_6 : fd_at cX5_looks 172 sl_X5_looks_6 := fd_n 29 sr_X5_looks_5 rfl
theorem dX5_looks_0 : decode cX5_looks 0 = .ok (.iconst 0, 1) := fo_3 sr_X5_looks_0
theorem dX5_looks_1 : decode cX5_looks 1 = .ok (.istore_n 2, 1) := fo_61 (fd_n 1 sr_X5_looks_0 rfl)
theorem dX5_looks_2 : decode cX5_looks 2 = .ok (.iload_n 2, 1) := fo_28 (fd_n 2 sr_X5_looks_0 rfl)
theorem dX5_looks_3 : decode cX5_looks 3 = .ok (.iconst 4, 1) := fo_7 (fd_n 3 sr_X5_looks_0 rfl)
theorem dX5_looks_4 : decode cX5_looks 4 = .ok (.if_icmp .ge 16, 3) := fo_162 (fd_n 4 sr_X5_looks_0 rfl) (by decide +kernel)
theorem dX5_looks_7 : decode cX5_looks 7 = .ok (.aload_n 0, 1) := fo_42 (fd_n 7 sr_X5_looks_0 rfl)
theorem dX5_looks_8 : decode cX5_looks 8 = .ok (.getfield 22, 3) := fo_180 (fd_n 8 sr_X5_looks_0 rfl) rfl
theorem dX5_looks_11 : decode cX5_looks 11 = .ok (.iload_n 2, 1) := fo_28 (fd_n 11 sr_X5_looks_0 rfl)
theorem dX5_looks_12 : decode cX5_looks 12 = .ok (.iconst 0, 1) := fo_3 (fd_n 12 sr_X5_looks_0 rfl)
theorem dX5_looks_13 : decode cX5_looks 13 = .ok (.iastore, 1) := fo_79 (fd_n 13 sr_X5_looks_0 rfl)
theorem dX5_looks_14 : decode cX5_looks 14 = .ok (.iinc 2 1, 3) := fo_132 (fd_n 14 sr_X5_looks_0 rfl) rfl (by decide +kernel)
theorem dX5_looks_17 : decode cX5_looks 17 = .ok (.goto (-15), 3) := fo_167 (fd_n 17 sr_X5_looks_0 rfl) (by decide +kernel)
theorem dX5_looks_20 : decode cX5_looks 20 = .ok (.aload_n 0, 1) := fo_42 (fd_n 20 sr_X5_looks_0 rfl)
theorem dX5_looks_21 : decode cX5_looks 21 = .ok (.iconst 0, 1) := fo_3 (fd_n 21 sr_X5_looks_0 rfl)
theorem dX5_looks_22 : decode cX5_looks 22 = .ok (.putfield 146, 3) := fo_181 (fd_n 22 sr_X5_looks_0 rfl) rfl
theorem dX5_looks_25 : decode cX5_looks 25 = .ok (.aload_n 0, 1) := fo_42 (fd_n 25 sr_X5_looks_0 rfl)
theorem dX5_looks_26 : decode cX5_looks 26 = .ok (.iconst 0, 1) := fo_3 (fd_n 26 sr_X5_looks_0 rfl)
theorem dX5_looks_27 : decode cX5_looks 27 = .ok (.putfield 150, 3) := fo_181 (fd_n 27 sr_X5_looks_0 rfl) rfl
theorem dX5_looks_30 : decode cX5_looks 30 = .ok (.aload_n 0, 1) := fo_42 sr_X5_looks_1
theorem dX5_looks_31 : decode cX5_looks 31 = .ok (.iconst 0, 1) := fo_3 (fd_n 1 sr_X5_looks_1 rfl)
theorem dX5_looks_32 : decode cX5_looks 32 = .ok (.putfield 153, 3) := fo_181 (fd_n 2 sr_X5_looks_1 rfl) rfl
theorem dX5_looks_35 : decode cX5_looks 35 = .ok (.aload_n 0, 1) := fo_42 (fd_n 5 sr_X5_looks_1 rfl)
theorem dX5_looks_36 : decode cX5_looks 36 = .ok (.iload_n 1, 1) := fo_27 (fd_n 6 sr_X5_looks_1 rfl)
theorem dX5_looks_37 : decode cX5_looks 37 = .ok (.iconst 3, 1) := fo_6 (fd_n 7 sr_X5_looks_1 rfl)
theorem dX5_looks_38 : decode cX5_looks 38 = .ok (.invokevirtual 127, 3) := fo_182 (fd_n 8 sr_X5_looks_1 rfl) rfl
theorem dX5_looks_41 : decode cX5_looks 41 = .ok (.istore_n 2, 1) := fo_61 (fd_n 11 sr_X5_looks_1 rfl)
theorem dX5_looks_42 : decode cX5_looks 42 = .ok (.iconst 1, 1) := fo_4 (fd_n 12 sr_X5_looks_1 rfl)
theorem dX5_looks_43 : decode cX5_looks 43 = .ok (.istore_n 3, 1) := fo_62 (fd_n 13 sr_X5_looks_1 rfl)
theorem dX5_looks_44 : decode cX5_looks 44 = .ok (.iload_n 3, 1) := fo_29 (fd_n 14 sr_X5_looks_1 rfl)
theorem dX5_looks_45 : decode cX5_looks 45 = .ok (.iconst 5, 1) := fo_8 (fd_n 15 sr_X5_looks_1 rfl)
theorem dX5_looks_46 : decode cX5_looks 46 = .ok (.if_icmp .ge 139, 3) := fo_162 (fd_n 16 sr_X5_looks_1 rfl) (by decide +kernel)
theorem dX5_looks_49 : decode cX5_looks 49 = .ok (.aload_n 0, 1) := fo_42 (fd_n 19 sr_X5_looks_1 rfl)
theorem dX5_looks_50 : decode cX5_looks 50 = .ok (.iload_n 1, 1) := fo_27 (fd_n 20 sr_X5_looks_1 rfl)
theorem dX5_looks_51 : decode cX5_looks 51 = .ok (.iload_n 3, 1) := fo_29 (fd_n 21 sr_X5_looks_1 rfl)
theorem dX5_looks_52 : decode cX5_looks 52 = .ok (.invokevirtual 143, 3) := fo_182 (fd_n 22 sr_X5_looks_1 rfl) rfl
theorem dX5_looks_55 : decode cX5_looks 55 = .ok (.invokestatic 156, 3) := fo_184 (fd_n 25 sr_X5_looks_1 rfl) rfl
theorem dX5_looks_58 : decode cX5_looks 58 = .ok (.istore 4, 2) := fo_54 sr_X5_looks_2 rfl
theorem dX5_looks_60 : decode cX5_looks 60 = .ok (.iload 4, 2) := fo_21 (fd_n 2 sr_X5_looks_2 rfl) rfl
theorem dX5_looks_62 : decode cX5_looks 62 = .ok (.ifCond .le 117, 3) := fo_158 (fd_n 4 sr_X5_looks_2 rfl) (by decide +kernel)
theorem dX5_looks_65 : decode cX5_looks 65 = .ok (.aload_n 0, 1) := fo_42 (fd_n 7 sr_X5_looks_2 rfl)
theorem dX5_looks_66 : decode cX5_looks 66 = .ok (.iload_n 1, 1) := fo_27 (fd_n 8 sr_X5_looks_2 rfl)
theorem dX5_looks_67 : decode cX5_looks 67 = .ok (.iconst 0, 1) := fo_3 (fd_n 9 sr_X5_looks_2 rfl)
theorem dX5_looks_68 : decode cX5_looks 68 = .ok (.invokevirtual 127, 3) := fo_182 (fd_n 10 sr_X5_looks_2 rfl) rfl
theorem dX5_looks_71 : decode cX5_looks 71 = .ok (.aload_n 0, 1) := fo_42 (fd_n 13 sr_X5_looks_2 rfl)
theorem dX5_looks_72 : decode cX5_looks 72 = .ok (.iload_n 1, 1) := fo_27 (fd_n 14 sr_X5_looks_2 rfl)
theorem dX5_looks_73 : decode cX5_looks 73 = .ok (.iconst 2, 1) := fo_5 (fd_n 15 sr_X5_looks_2 rfl)
theorem dX5_looks_74 : decode cX5_looks 74 = .ok (.invokevirtual 127, 3) := fo_182 (fd_n 16 sr_X5_looks_2 rfl) rfl
theorem dX5_looks_77 : decode cX5_looks 77 = .ok (.iload_n 3, 1) := fo_29 (fd_n 19 sr_X5_looks_2 rfl)
theorem dX5_looks_78 : decode cX5_looks 78 = .ok (.invokestatic 139, 3) := fo_184 (fd_n 20 sr_X5_looks_2 rfl) rfl
theorem dX5_looks_81 : decode cX5_looks 81 = .ok (.istore 5, 2) := fo_54 (fd_n 23 sr_X5_looks_2 rfl) rfl
theorem dX5_looks_83 : decode cX5_looks 83 = .ok (.aload_n 0, 1) := fo_42 (fd_n 25 sr_X5_looks_2 rfl)
theorem dX5_looks_84 : decode cX5_looks 84 = .ok (.iload 5, 2) := fo_21 (fd_n 26 sr_X5_looks_2 rfl) rfl
theorem dX5_looks_86 : decode cX5_looks 86 = .ok (.iconst 1, 1) := fo_4 sr_X5_looks_3
theorem dX5_looks_87 : decode cX5_looks 87 = .ok (.invokevirtual 62, 3) := fo_182 (fd_n 1 sr_X5_looks_3 rfl) rfl
theorem dX5_looks_90 : decode cX5_looks 90 = .ok (.istore 6, 2) := fo_54 (fd_n 4 sr_X5_looks_3 rfl) rfl
theorem dX5_looks_92 : decode cX5_looks 92 = .ok (.aload_n 0, 1) := fo_42 (fd_n 6 sr_X5_looks_3 rfl)
theorem dX5_looks_93 : decode cX5_looks 93 = .ok (.getfield 22, 3) := fo_180 (fd_n 7 sr_X5_looks_3 rfl) rfl
theorem dX5_looks_96 : decode cX5_looks 96 = .ok (.iload 6, 2) := fo_21 (fd_n 10 sr_X5_looks_3 rfl) rfl
theorem dX5_looks_98 : decode cX5_looks 98 = .ok (.dup2, 1) := fo_92 (fd_n 12 sr_X5_looks_3 rfl)
theorem dX5_looks_99 : decode cX5_looks 99 = .ok (.iaload, 1) := fo_46 (fd_n 13 sr_X5_looks_3 rfl)
theorem dX5_looks_100 : decode cX5_looks 100 = .ok (.iload 4, 2) := fo_21 (fd_n 14 sr_X5_looks_3 rfl) rfl
theorem dX5_looks_102 : decode cX5_looks 102 = .ok (.iadd, 1) := fo_96 (fd_n 16 sr_X5_looks_3 rfl)
theorem dX5_looks_103 : decode cX5_looks 103 = .ok (.iastore, 1) := fo_79 (fd_n 17 sr_X5_looks_3 rfl)
theorem dX5_looks_104 : decode cX5_looks 104 = .ok (.aload_n 0, 1) := fo_42 (fd_n 18 sr_X5_looks_3 rfl)
theorem dX5_looks_105 : decode cX5_looks 105 = .ok (.dup, 1) := fo_89 (fd_n 19 sr_X5_looks_3 rfl)
theorem dX5_looks_106 : decode cX5_looks 106 = .ok (.getfield 146, 3) := fo_180 (fd_n 20 sr_X5_looks_3 rfl) rfl
theorem dX5_looks_109 : decode cX5_looks 109 = .ok (.iload 4, 2) := fo_21 (fd_n 23 sr_X5_looks_3 rfl) rfl
theorem dX5_looks_111 : decode cX5_looks 111 = .ok (.iadd, 1) := fo_96 (fd_n 25 sr_X5_looks_3 rfl)
theorem dX5_looks_112 : decode cX5_looks 112 = .ok (.putfield 146, 3) := fo_181 (fd_n 26 sr_X5_looks_3 rfl) rfl
theorem dX5_looks_115 : decode cX5_looks 115 = .ok (.aload_n 0, 1) := fo_42 sr_X5_looks_4
theorem dX5_looks_116 : decode cX5_looks 116 = .ok (.dup, 1) := fo_89 (fd_n 1 sr_X5_looks_4 rfl)
theorem dX5_looks_117 : decode cX5_looks 117 = .ok (.getfield 153, 3) := fo_180 (fd_n 2 sr_X5_looks_4 rfl) rfl
theorem dX5_looks_120 : decode cX5_looks 120 = .ok (.iconst 1, 1) := fo_4 (fd_n 5 sr_X5_looks_4 rfl)
theorem dX5_looks_121 : decode cX5_looks 121 = .ok (.iload 5, 2) := fo_21 (fd_n 6 sr_X5_looks_4 rfl) rfl
theorem dX5_looks_123 : decode cX5_looks 123 = .ok (.ishl, 1) := fo_120 (fd_n 8 sr_X5_looks_4 rfl)
theorem dX5_looks_124 : decode cX5_looks 124 = .ok (.ior, 1) := fo_128 (fd_n 9 sr_X5_looks_4 rfl)
theorem dX5_looks_125 : decode cX5_looks 125 = .ok (.putfield 153, 3) := fo_181 (fd_n 10 sr_X5_looks_4 rfl) rfl
theorem dX5_looks_128 : decode cX5_looks 128 = .ok (.iload 6, 2) := fo_21 (fd_n 13 sr_X5_looks_4 rfl) rfl
theorem dX5_looks_130 : decode cX5_looks 130 = .ok (.iload_n 2, 1) := fo_28 (fd_n 15 sr_X5_looks_4 rfl)
theorem dX5_looks_131 : decode cX5_looks 131 = .ok (.if_icmp .eq 48, 3) := fo_159 (fd_n 16 sr_X5_looks_4 rfl) (by decide +kernel)
theorem dX5_looks_134 : decode cX5_looks 134 = .ok (.iload 4, 2) := fo_21 (fd_n 19 sr_X5_looks_4 rfl) rfl
theorem dX5_looks_136 : decode cX5_looks 136 = .ok (.aload_n 0, 1) := fo_42 (fd_n 21 sr_X5_looks_4 rfl)
theorem dX5_looks_137 : decode cX5_looks 137 = .ok (.iload 5, 2) := fo_21 (fd_n 22 sr_X5_looks_4 rfl) rfl
theorem dX5_looks_139 : decode cX5_looks 139 = .ok (.invokevirtual 106, 3) := fo_182 (fd_n 24 sr_X5_looks_4 rfl) rfl
theorem dX5_looks_142 : decode cX5_looks 142 = .ok (.imul, 1) := fo_104 (fd_n 27 sr_X5_looks_4 rfl)
theorem dX5_looks_143 : decode cX5_looks 143 = .ok (.istore 7, 2) := fo_54 sr_X5_looks_5 rfl
theorem dX5_looks_145 : decode cX5_looks 145 = .ok (.aload_n 0, 1) := fo_42 (fd_n 2 sr_X5_looks_5 rfl)
theorem dX5_looks_146 : decode cX5_looks 146 = .ok (.dup, 1) := fo_89 (fd_n 3 sr_X5_looks_5 rfl)
theorem dX5_looks_147 : decode cX5_looks 147 = .ok (.getfield 150, 3) := fo_180 (fd_n 4 sr_X5_looks_5 rfl) rfl
theorem dX5_looks_150 : decode cX5_looks 150 = .ok (.iload 7, 2) := fo_21 (fd_n 7 sr_X5_looks_5 rfl) rfl
theorem dX5_looks_152 : decode cX5_looks 152 = .ok (.iadd, 1) := fo_96 (fd_n 9 sr_X5_looks_5 rfl)
theorem dX5_looks_153 : decode cX5_looks 153 = .ok (.putfield 150, 3) := fo_181 (fd_n 10 sr_X5_looks_5 rfl) rfl
theorem dX5_looks_156 : decode cX5_looks 156 = .ok (.aload_n 0, 1) := fo_42 (fd_n 13 sr_X5_looks_5 rfl)
theorem dX5_looks_157 : decode cX5_looks 157 = .ok (.getfield 25, 3) := fo_180 (fd_n 14 sr_X5_looks_5 rfl) rfl
theorem dX5_looks_160 : decode cX5_looks 160 = .ok (.iload 6, 2) := fo_21 (fd_n 17 sr_X5_looks_5 rfl) rfl
theorem dX5_looks_162 : decode cX5_looks 162 = .ok (.dup2, 1) := fo_92 (fd_n 19 sr_X5_looks_5 rfl)
theorem dX5_looks_163 : decode cX5_looks 163 = .ok (.iaload, 1) := fo_46 (fd_n 20 sr_X5_looks_5 rfl)
theorem dX5_looks_164 : decode cX5_looks 164 = .ok (.iload 7, 2) := fo_21 (fd_n 21 sr_X5_looks_5 rfl) rfl
theorem dX5_looks_166 : decode cX5_looks 166 = .ok (.iadd, 1) := fo_96 (fd_n 23 sr_X5_looks_5 rfl)
theorem dX5_looks_167 : decode cX5_looks 167 = .ok (.iastore, 1) := fo_79 (fd_n 24 sr_X5_looks_5 rfl)
theorem dX5_looks_168 : decode cX5_looks 168 = .ok (.aload_n 0, 1) := fo_42 (fd_n 25 sr_X5_looks_5 rfl)
theorem dX5_looks_169 : decode cX5_looks 169 = .ok (.getfield 25, 3) := fo_180 (fd_n 26 sr_X5_looks_5 rfl) rfl
theorem dX5_looks_172 : decode cX5_looks 172 = .ok (.iload_n 2, 1) := fo_28 sr_X5_looks_6
theorem dX5_looks_173 : decode cX5_looks 173 = .ok (.dup2, 1) := fo_92 (fd_n 1 sr_X5_looks_6 rfl)
theorem dX5_looks_174 : decode cX5_looks 174 = .ok (.iaload, 1) := fo_46 (fd_n 2 sr_X5_looks_6 rfl)
theorem dX5_looks_175 : decode cX5_looks 175 = .ok (.iload 7, 2) := fo_21 (fd_n 3 sr_X5_looks_6 rfl) rfl
theorem dX5_looks_177 : decode cX5_looks 177 = .ok (.isub, 1) := fo_100 (fd_n 5 sr_X5_looks_6 rfl)
theorem dX5_looks_178 : decode cX5_looks 178 = .ok (.iastore, 1) := fo_79 (fd_n 6 sr_X5_looks_6 rfl)
theorem dX5_looks_179 : decode cX5_looks 179 = .ok (.iinc 3 1, 3) := fo_132 (fd_n 7 sr_X5_looks_6 rfl) rfl (by decide +kernel)
theorem dX5_looks_182 : decode cX5_looks 182 = .ok (.goto (-138), 3) := fo_167 (fd_n 10 sr_X5_looks_6 rfl) (by decide +kernel)
theorem dX5_looks_185 : decode cX5_looks 185 = .ok (.return_, 1) := fo_177 (fd_n 13 sr_X5_looks_6 rfl)
noncomputable def sl_X5_view_0 : List UInt8 := 42 :: 27 :: 182 :: 0 :: 122 :: 154 :: 0 :: 10 :: 42 :: 18 :: 50 :: 182 :: 0 :: 80 :: 172 :: 42 :: 27 :: 182 :: 0 :: 159 :: 42 :: 180 :: 0 :: 146 :: 172 :: []
theorem sr_X5_view_0 : fd_at cX5_view 0 sl_X5_view_0 := fd_base (by decide +kernel)
theorem dX5_view_0 : decode cX5_view 0 = .ok (.aload_n 0, 1) := fo_42 sr_X5_view_0
theorem dX5_view_1 : decode cX5_view 1 = .ok (.iload_n 1, 1) := fo_27 (fd_n 1 sr_X5_view_0 rfl)
theorem dX5_view_2 : decode cX5_view 2 = .ok (.invokevirtual 122, 3) := fo_182 (fd_n 2 sr_X5_view_0 rfl) rfl
theorem dX5_view_5 : decode cX5_view 5 = .ok (.ifCond .ne 10, 3) := fo_154 (fd_n 5 sr_X5_view_0 rfl) (by decide +kernel)
theorem dX5_view_8 : decode cX5_view 8 = .ok (.aload_n 0, 1) := fo_42 (fd_n 8 sr_X5_view_0 rfl)
theorem dX5_view_9 : decode cX5_view 9 = .ok (.ldc 50, 2) := fo_18 (fd_n 9 sr_X5_view_0 rfl) rfl
theorem dX5_view_11 : decode cX5_view 11 = .ok (.invokevirtual 80, 3) := fo_182 (fd_n 11 sr_X5_view_0 rfl) rfl
theorem dX5_view_14 : decode cX5_view 14 = .ok (.ireturn, 1) := fo_172 (fd_n 14 sr_X5_view_0 rfl)
theorem dX5_view_15 : decode cX5_view 15 = .ok (.aload_n 0, 1) := fo_42 (fd_n 15 sr_X5_view_0 rfl)
theorem dX5_view_16 : decode cX5_view 16 = .ok (.iload_n 1, 1) := fo_27 (fd_n 16 sr_X5_view_0 rfl)
theorem dX5_view_17 : decode cX5_view 17 = .ok (.invokevirtual 159, 3) := fo_182 (fd_n 17 sr_X5_view_0 rfl) rfl
theorem dX5_view_20 : decode cX5_view 20 = .ok (.aload_n 0, 1) := fo_42 (fd_n 20 sr_X5_view_0 rfl)
theorem dX5_view_21 : decode cX5_view 21 = .ok (.getfield 146, 3) := fo_180 (fd_n 21 sr_X5_view_0 rfl) rfl
theorem dX5_view_24 : decode cX5_view 24 = .ok (.ireturn, 1) := fo_172 (fd_n 24 sr_X5_view_0 rfl)
noncomputable def sl_X5_share_1 : List UInt8 := 180 :: 0 :: 22 :: 28 :: 46 :: 172 :: []
noncomputable def sl_X5_share_0 : List UInt8 := 42 :: 27 :: 182 :: 0 :: 122 :: 153 :: 0 :: 10 :: 28 :: 184 :: 0 :: 74 :: 154 :: 0 :: 10 :: 42 :: 18 :: 50 :: 182 :: 0 :: 80 :: 172 :: 42 :: 27 :: 182 :: 0 :: 159 :: 42 :: sl_X5_share_1
theorem sr_X5_share_0 : fd_at cX5_share 0 sl_X5_share_0 := fd_base (by decide +kernel)
theorem sr_X5_share_1 : fd_at cX5_share 28 sl_X5_share_1 := fd_n 28 sr_X5_share_0 rfl
theorem dX5_share_0 : decode cX5_share 0 = .ok (.aload_n 0, 1) := fo_42 sr_X5_share_0
theorem dX5_share_1 : decode cX5_share 1 = .ok (.iload_n 1, 1) := fo_27 (fd_n 1 sr_X5_share_0 rfl)
theorem dX5_share_2 : decode cX5_share 2 = .ok (.invokevirtual 122, 3) := fo_182 (fd_n 2 sr_X5_share_0 rfl) rfl
theorem dX5_share_5 : decode cX5_share 5 = .ok (.ifCond .eq 10, 3) := fo_153 (fd_n 5 sr_X5_share_0 rfl) (by decide +kernel)
theorem dX5_share_8 : decode cX5_share 8 = .ok (.iload_n 2, 1) := fo_28 (fd_n 8 sr_X5_share_0 rfl)
theorem dX5_share_9 : decode cX5_share 9 = .ok (.invokestatic 74, 3) := fo_184 (fd_n 9 sr_X5_share_0 rfl) rfl
theorem dX5_share_12 : decode cX5_share 12 = .ok (.ifCond .ne 10, 3) := fo_154 (fd_n 12 sr_X5_share_0 rfl) (by decide +kernel)
theorem dX5_share_15 : decode cX5_share 15 = .ok (.aload_n 0, 1) := fo_42 (fd_n 15 sr_X5_share_0 rfl)
theorem dX5_share_16 : decode cX5_share 16 = .ok (.ldc 50, 2) := fo_18 (fd_n 16 sr_X5_share_0 rfl) rfl
theorem dX5_share_18 : decode cX5_share 18 = .ok (.invokevirtual 80, 3) := fo_182 (fd_n 18 sr_X5_share_0 rfl) rfl
theorem dX5_share_21 : decode cX5_share 21 = .ok (.ireturn, 1) := fo_172 (fd_n 21 sr_X5_share_0 rfl)
theorem dX5_share_22 : decode cX5_share 22 = .ok (.aload_n 0, 1) := fo_42 (fd_n 22 sr_X5_share_0 rfl)
theorem dX5_share_23 : decode cX5_share 23 = .ok (.iload_n 1, 1) := fo_27 (fd_n 23 sr_X5_share_0 rfl)
theorem dX5_share_24 : decode cX5_share 24 = .ok (.invokevirtual 159, 3) := fo_182 (fd_n 24 sr_X5_share_0 rfl) rfl
theorem dX5_share_27 : decode cX5_share 27 = .ok (.aload_n 0, 1) := fo_42 (fd_n 27 sr_X5_share_0 rfl)
theorem dX5_share_28 : decode cX5_share 28 = .ok (.getfield 22, 3) := fo_180 sr_X5_share_1 rfl
theorem dX5_share_31 : decode cX5_share 31 = .ok (.iload_n 2, 1) := fo_28 (fd_n 3 sr_X5_share_1 rfl)
theorem dX5_share_32 : decode cX5_share 32 = .ok (.iaload, 1) := fo_46 (fd_n 4 sr_X5_share_1 rfl)
theorem dX5_share_33 : decode cX5_share 33 = .ok (.ireturn, 1) := fo_172 (fd_n 5 sr_X5_share_1 rfl)
noncomputable def sl_X5_lots_0 : List UInt8 := 42 :: 27 :: 182 :: 0 :: 122 :: 154 :: 0 :: 10 :: 42 :: 18 :: 50 :: 182 :: 0 :: 80 :: 172 :: 42 :: 27 :: 182 :: 0 :: 159 :: 42 :: 180 :: 0 :: 153 :: 172 :: []
theorem sr_X5_lots_0 : fd_at cX5_lots 0 sl_X5_lots_0 := fd_base (by decide +kernel)
theorem dX5_lots_0 : decode cX5_lots 0 = .ok (.aload_n 0, 1) := fo_42 sr_X5_lots_0
theorem dX5_lots_1 : decode cX5_lots 1 = .ok (.iload_n 1, 1) := fo_27 (fd_n 1 sr_X5_lots_0 rfl)
theorem dX5_lots_2 : decode cX5_lots 2 = .ok (.invokevirtual 122, 3) := fo_182 (fd_n 2 sr_X5_lots_0 rfl) rfl
theorem dX5_lots_5 : decode cX5_lots 5 = .ok (.ifCond .ne 10, 3) := fo_154 (fd_n 5 sr_X5_lots_0 rfl) (by decide +kernel)
theorem dX5_lots_8 : decode cX5_lots 8 = .ok (.aload_n 0, 1) := fo_42 (fd_n 8 sr_X5_lots_0 rfl)
theorem dX5_lots_9 : decode cX5_lots 9 = .ok (.ldc 50, 2) := fo_18 (fd_n 9 sr_X5_lots_0 rfl) rfl
theorem dX5_lots_11 : decode cX5_lots 11 = .ok (.invokevirtual 80, 3) := fo_182 (fd_n 11 sr_X5_lots_0 rfl) rfl
theorem dX5_lots_14 : decode cX5_lots 14 = .ok (.ireturn, 1) := fo_172 (fd_n 14 sr_X5_lots_0 rfl)
theorem dX5_lots_15 : decode cX5_lots 15 = .ok (.aload_n 0, 1) := fo_42 (fd_n 15 sr_X5_lots_0 rfl)
theorem dX5_lots_16 : decode cX5_lots 16 = .ok (.iload_n 1, 1) := fo_27 (fd_n 16 sr_X5_lots_0 rfl)
theorem dX5_lots_17 : decode cX5_lots 17 = .ok (.invokevirtual 159, 3) := fo_182 (fd_n 17 sr_X5_lots_0 rfl) rfl
theorem dX5_lots_20 : decode cX5_lots 20 = .ok (.aload_n 0, 1) := fo_42 (fd_n 20 sr_X5_lots_0 rfl)
theorem dX5_lots_21 : decode cX5_lots 21 = .ok (.getfield 153, 3) := fo_180 (fd_n 21 sr_X5_lots_0 rfl) rfl
theorem dX5_lots_24 : decode cX5_lots 24 = .ok (.ireturn, 1) := fo_172 (fd_n 24 sr_X5_lots_0 rfl)
noncomputable def sl_X5_watched_1 : List UInt8 := 42 :: 29 :: 182 :: 0 :: 159 :: 28 :: 42 :: 180 :: 0 :: 153 :: 27 :: 122 :: 4 :: 126 :: 29 :: 120 :: 128 :: 61 :: 132 :: 3 :: 1 :: 167 :: 255 :: 225 :: 28 :: 172 :: []
noncomputable def sl_X5_watched_0 : List UInt8 := 27 :: 184 :: 0 :: 71 :: 154 :: 0 :: 10 :: 42 :: 18 :: 50 :: 182 :: 0 :: 80 :: 172 :: 3 :: 61 :: 3 :: 62 :: 29 :: 42 :: 180 :: 0 :: 7 :: 4 :: 46 :: 162 :: 0 :: 27 :: sl_X5_watched_1
theorem sr_X5_watched_0 : fd_at cX5_watched 0 sl_X5_watched_0 := fd_base (by decide +kernel)
theorem sr_X5_watched_1 : fd_at cX5_watched 28 sl_X5_watched_1 := fd_n 28 sr_X5_watched_0 rfl
theorem dX5_watched_0 : decode cX5_watched 0 = .ok (.iload_n 1, 1) := fo_27 sr_X5_watched_0
theorem dX5_watched_1 : decode cX5_watched 1 = .ok (.invokestatic 71, 3) := fo_184 (fd_n 1 sr_X5_watched_0 rfl) rfl
theorem dX5_watched_4 : decode cX5_watched 4 = .ok (.ifCond .ne 10, 3) := fo_154 (fd_n 4 sr_X5_watched_0 rfl) (by decide +kernel)
theorem dX5_watched_7 : decode cX5_watched 7 = .ok (.aload_n 0, 1) := fo_42 (fd_n 7 sr_X5_watched_0 rfl)
theorem dX5_watched_8 : decode cX5_watched 8 = .ok (.ldc 50, 2) := fo_18 (fd_n 8 sr_X5_watched_0 rfl) rfl
theorem dX5_watched_10 : decode cX5_watched 10 = .ok (.invokevirtual 80, 3) := fo_182 (fd_n 10 sr_X5_watched_0 rfl) rfl
theorem dX5_watched_13 : decode cX5_watched 13 = .ok (.ireturn, 1) := fo_172 (fd_n 13 sr_X5_watched_0 rfl)
theorem dX5_watched_14 : decode cX5_watched 14 = .ok (.iconst 0, 1) := fo_3 (fd_n 14 sr_X5_watched_0 rfl)
theorem dX5_watched_15 : decode cX5_watched 15 = .ok (.istore_n 2, 1) := fo_61 (fd_n 15 sr_X5_watched_0 rfl)
theorem dX5_watched_16 : decode cX5_watched 16 = .ok (.iconst 0, 1) := fo_3 (fd_n 16 sr_X5_watched_0 rfl)
theorem dX5_watched_17 : decode cX5_watched 17 = .ok (.istore_n 3, 1) := fo_62 (fd_n 17 sr_X5_watched_0 rfl)
theorem dX5_watched_18 : decode cX5_watched 18 = .ok (.iload_n 3, 1) := fo_29 (fd_n 18 sr_X5_watched_0 rfl)
theorem dX5_watched_19 : decode cX5_watched 19 = .ok (.aload_n 0, 1) := fo_42 (fd_n 19 sr_X5_watched_0 rfl)
theorem dX5_watched_20 : decode cX5_watched 20 = .ok (.getfield 7, 3) := fo_180 (fd_n 20 sr_X5_watched_0 rfl) rfl
theorem dX5_watched_23 : decode cX5_watched 23 = .ok (.iconst 1, 1) := fo_4 (fd_n 23 sr_X5_watched_0 rfl)
theorem dX5_watched_24 : decode cX5_watched 24 = .ok (.iaload, 1) := fo_46 (fd_n 24 sr_X5_watched_0 rfl)
theorem dX5_watched_25 : decode cX5_watched 25 = .ok (.if_icmp .ge 27, 3) := fo_162 (fd_n 25 sr_X5_watched_0 rfl) (by decide +kernel)
theorem dX5_watched_28 : decode cX5_watched 28 = .ok (.aload_n 0, 1) := fo_42 sr_X5_watched_1
theorem dX5_watched_29 : decode cX5_watched 29 = .ok (.iload_n 3, 1) := fo_29 (fd_n 1 sr_X5_watched_1 rfl)
theorem dX5_watched_30 : decode cX5_watched 30 = .ok (.invokevirtual 159, 3) := fo_182 (fd_n 2 sr_X5_watched_1 rfl) rfl
theorem dX5_watched_33 : decode cX5_watched 33 = .ok (.iload_n 2, 1) := fo_28 (fd_n 5 sr_X5_watched_1 rfl)
theorem dX5_watched_34 : decode cX5_watched 34 = .ok (.aload_n 0, 1) := fo_42 (fd_n 6 sr_X5_watched_1 rfl)
theorem dX5_watched_35 : decode cX5_watched 35 = .ok (.getfield 153, 3) := fo_180 (fd_n 7 sr_X5_watched_1 rfl) rfl
theorem dX5_watched_38 : decode cX5_watched 38 = .ok (.iload_n 1, 1) := fo_27 (fd_n 10 sr_X5_watched_1 rfl)
theorem dX5_watched_39 : decode cX5_watched 39 = .ok (.ishr, 1) := fo_122 (fd_n 11 sr_X5_watched_1 rfl)
theorem dX5_watched_40 : decode cX5_watched 40 = .ok (.iconst 1, 1) := fo_4 (fd_n 12 sr_X5_watched_1 rfl)
theorem dX5_watched_41 : decode cX5_watched 41 = .ok (.iand, 1) := fo_126 (fd_n 13 sr_X5_watched_1 rfl)
theorem dX5_watched_42 : decode cX5_watched 42 = .ok (.iload_n 3, 1) := fo_29 (fd_n 14 sr_X5_watched_1 rfl)
theorem dX5_watched_43 : decode cX5_watched 43 = .ok (.ishl, 1) := fo_120 (fd_n 15 sr_X5_watched_1 rfl)
theorem dX5_watched_44 : decode cX5_watched 44 = .ok (.ior, 1) := fo_128 (fd_n 16 sr_X5_watched_1 rfl)
theorem dX5_watched_45 : decode cX5_watched 45 = .ok (.istore_n 2, 1) := fo_61 (fd_n 17 sr_X5_watched_1 rfl)
theorem dX5_watched_46 : decode cX5_watched 46 = .ok (.iinc 3 1, 3) := fo_132 (fd_n 18 sr_X5_watched_1 rfl) rfl (by decide +kernel)
theorem dX5_watched_49 : decode cX5_watched 49 = .ok (.goto (-31), 3) := fo_167 (fd_n 21 sr_X5_watched_1 rfl) (by decide +kernel)
theorem dX5_watched_52 : decode cX5_watched 52 = .ok (.iload_n 2, 1) := fo_28 (fd_n 24 sr_X5_watched_1 rfl)
theorem dX5_watched_53 : decode cX5_watched 53 = .ok (.ireturn, 1) := fo_172 (fd_n 25 sr_X5_watched_1 rfl)
noncomputable def sl_X5_rent_0 : List UInt8 := 42 :: 27 :: 182 :: 0 :: 122 :: 154 :: 0 :: 10 :: 42 :: 18 :: 50 :: 182 :: 0 :: 80 :: 172 :: 42 :: 27 :: 182 :: 0 :: 159 :: 42 :: 180 :: 0 :: 150 :: 172 :: []
theorem sr_X5_rent_0 : fd_at cX5_rent 0 sl_X5_rent_0 := fd_base (by decide +kernel)
theorem dX5_rent_0 : decode cX5_rent 0 = .ok (.aload_n 0, 1) := fo_42 sr_X5_rent_0
theorem dX5_rent_1 : decode cX5_rent 1 = .ok (.iload_n 1, 1) := fo_27 (fd_n 1 sr_X5_rent_0 rfl)
theorem dX5_rent_2 : decode cX5_rent 2 = .ok (.invokevirtual 122, 3) := fo_182 (fd_n 2 sr_X5_rent_0 rfl) rfl
theorem dX5_rent_5 : decode cX5_rent 5 = .ok (.ifCond .ne 10, 3) := fo_154 (fd_n 5 sr_X5_rent_0 rfl) (by decide +kernel)
theorem dX5_rent_8 : decode cX5_rent 8 = .ok (.aload_n 0, 1) := fo_42 (fd_n 8 sr_X5_rent_0 rfl)
theorem dX5_rent_9 : decode cX5_rent 9 = .ok (.ldc 50, 2) := fo_18 (fd_n 9 sr_X5_rent_0 rfl) rfl
theorem dX5_rent_11 : decode cX5_rent 11 = .ok (.invokevirtual 80, 3) := fo_182 (fd_n 11 sr_X5_rent_0 rfl) rfl
theorem dX5_rent_14 : decode cX5_rent 14 = .ok (.ireturn, 1) := fo_172 (fd_n 14 sr_X5_rent_0 rfl)
theorem dX5_rent_15 : decode cX5_rent 15 = .ok (.aload_n 0, 1) := fo_42 (fd_n 15 sr_X5_rent_0 rfl)
theorem dX5_rent_16 : decode cX5_rent 16 = .ok (.iload_n 1, 1) := fo_27 (fd_n 16 sr_X5_rent_0 rfl)
theorem dX5_rent_17 : decode cX5_rent 17 = .ok (.invokevirtual 159, 3) := fo_182 (fd_n 17 sr_X5_rent_0 rfl) rfl
theorem dX5_rent_20 : decode cX5_rent 20 = .ok (.aload_n 0, 1) := fo_42 (fd_n 20 sr_X5_rent_0 rfl)
theorem dX5_rent_21 : decode cX5_rent 21 = .ok (.getfield 150, 3) := fo_180 (fd_n 21 sr_X5_rent_0 rfl) rfl
theorem dX5_rent_24 : decode cX5_rent 24 = .ok (.ireturn, 1) := fo_172 (fd_n 24 sr_X5_rent_0 rfl)
noncomputable def sl_X5_findGains_1 : List UInt8 := 4 :: 46 :: 162 :: 0 :: 21 :: 42 :: 28 :: 182 :: 0 :: 159 :: 27 :: 42 :: 180 :: 0 :: 150 :: 96 :: 60 :: 132 :: 2 :: 1 :: 167 :: 255 :: 231 :: 27 :: 172 :: []
noncomputable def sl_X5_findGains_0 : List UInt8 := 3 :: 60 :: 27 :: 7 :: 162 :: 0 :: 16 :: 42 :: 180 :: 0 :: 25 :: 27 :: 3 :: 79 :: 132 :: 1 :: 1 :: 167 :: 255 :: 241 :: 3 :: 60 :: 3 :: 61 :: 28 :: 42 :: 180 :: 0 :: 7 :: sl_X5_findGains_1
theorem sr_X5_findGains_0 : fd_at cX5_findGains 0 sl_X5_findGains_0 := fd_base (by decide +kernel)
theorem sr_X5_findGains_1 : fd_at cX5_findGains 29 sl_X5_findGains_1 := fd_n 29 sr_X5_findGains_0 rfl
theorem dX5_findGains_0 : decode cX5_findGains 0 = .ok (.iconst 0, 1) := fo_3 sr_X5_findGains_0
theorem dX5_findGains_1 : decode cX5_findGains 1 = .ok (.istore_n 1, 1) := fo_60 (fd_n 1 sr_X5_findGains_0 rfl)
theorem dX5_findGains_2 : decode cX5_findGains 2 = .ok (.iload_n 1, 1) := fo_27 (fd_n 2 sr_X5_findGains_0 rfl)
theorem dX5_findGains_3 : decode cX5_findGains 3 = .ok (.iconst 4, 1) := fo_7 (fd_n 3 sr_X5_findGains_0 rfl)
theorem dX5_findGains_4 : decode cX5_findGains 4 = .ok (.if_icmp .ge 16, 3) := fo_162 (fd_n 4 sr_X5_findGains_0 rfl) (by decide +kernel)
theorem dX5_findGains_7 : decode cX5_findGains 7 = .ok (.aload_n 0, 1) := fo_42 (fd_n 7 sr_X5_findGains_0 rfl)
theorem dX5_findGains_8 : decode cX5_findGains 8 = .ok (.getfield 25, 3) := fo_180 (fd_n 8 sr_X5_findGains_0 rfl) rfl
theorem dX5_findGains_11 : decode cX5_findGains 11 = .ok (.iload_n 1, 1) := fo_27 (fd_n 11 sr_X5_findGains_0 rfl)
theorem dX5_findGains_12 : decode cX5_findGains 12 = .ok (.iconst 0, 1) := fo_3 (fd_n 12 sr_X5_findGains_0 rfl)
theorem dX5_findGains_13 : decode cX5_findGains 13 = .ok (.iastore, 1) := fo_79 (fd_n 13 sr_X5_findGains_0 rfl)
theorem dX5_findGains_14 : decode cX5_findGains 14 = .ok (.iinc 1 1, 3) := fo_132 (fd_n 14 sr_X5_findGains_0 rfl) rfl (by decide +kernel)
theorem dX5_findGains_17 : decode cX5_findGains 17 = .ok (.goto (-15), 3) := fo_167 (fd_n 17 sr_X5_findGains_0 rfl) (by decide +kernel)
theorem dX5_findGains_20 : decode cX5_findGains 20 = .ok (.iconst 0, 1) := fo_3 (fd_n 20 sr_X5_findGains_0 rfl)
theorem dX5_findGains_21 : decode cX5_findGains 21 = .ok (.istore_n 1, 1) := fo_60 (fd_n 21 sr_X5_findGains_0 rfl)
theorem dX5_findGains_22 : decode cX5_findGains 22 = .ok (.iconst 0, 1) := fo_3 (fd_n 22 sr_X5_findGains_0 rfl)
theorem dX5_findGains_23 : decode cX5_findGains 23 = .ok (.istore_n 2, 1) := fo_61 (fd_n 23 sr_X5_findGains_0 rfl)
theorem dX5_findGains_24 : decode cX5_findGains 24 = .ok (.iload_n 2, 1) := fo_28 (fd_n 24 sr_X5_findGains_0 rfl)
theorem dX5_findGains_25 : decode cX5_findGains 25 = .ok (.aload_n 0, 1) := fo_42 (fd_n 25 sr_X5_findGains_0 rfl)
theorem dX5_findGains_26 : decode cX5_findGains 26 = .ok (.getfield 7, 3) := fo_180 (fd_n 26 sr_X5_findGains_0 rfl) rfl
theorem dX5_findGains_29 : decode cX5_findGains 29 = .ok (.iconst 1, 1) := fo_4 sr_X5_findGains_1
theorem dX5_findGains_30 : decode cX5_findGains 30 = .ok (.iaload, 1) := fo_46 (fd_n 1 sr_X5_findGains_1 rfl)
theorem dX5_findGains_31 : decode cX5_findGains 31 = .ok (.if_icmp .ge 21, 3) := fo_162 (fd_n 2 sr_X5_findGains_1 rfl) (by decide +kernel)
theorem dX5_findGains_34 : decode cX5_findGains 34 = .ok (.aload_n 0, 1) := fo_42 (fd_n 5 sr_X5_findGains_1 rfl)
theorem dX5_findGains_35 : decode cX5_findGains 35 = .ok (.iload_n 2, 1) := fo_28 (fd_n 6 sr_X5_findGains_1 rfl)
theorem dX5_findGains_36 : decode cX5_findGains 36 = .ok (.invokevirtual 159, 3) := fo_182 (fd_n 7 sr_X5_findGains_1 rfl) rfl
theorem dX5_findGains_39 : decode cX5_findGains 39 = .ok (.iload_n 1, 1) := fo_27 (fd_n 10 sr_X5_findGains_1 rfl)
theorem dX5_findGains_40 : decode cX5_findGains 40 = .ok (.aload_n 0, 1) := fo_42 (fd_n 11 sr_X5_findGains_1 rfl)
theorem dX5_findGains_41 : decode cX5_findGains 41 = .ok (.getfield 150, 3) := fo_180 (fd_n 12 sr_X5_findGains_1 rfl) rfl
theorem dX5_findGains_44 : decode cX5_findGains 44 = .ok (.iadd, 1) := fo_96 (fd_n 15 sr_X5_findGains_1 rfl)
theorem dX5_findGains_45 : decode cX5_findGains 45 = .ok (.istore_n 1, 1) := fo_60 (fd_n 16 sr_X5_findGains_1 rfl)
theorem dX5_findGains_46 : decode cX5_findGains 46 = .ok (.iinc 2 1, 3) := fo_132 (fd_n 17 sr_X5_findGains_1 rfl) rfl (by decide +kernel)
theorem dX5_findGains_49 : decode cX5_findGains 49 = .ok (.goto (-25), 3) := fo_167 (fd_n 20 sr_X5_findGains_1 rfl) (by decide +kernel)
theorem dX5_findGains_52 : decode cX5_findGains 52 = .ok (.iload_n 1, 1) := fo_27 (fd_n 23 sr_X5_findGains_1 rfl)
theorem dX5_findGains_53 : decode cX5_findGains 53 = .ok (.ireturn, 1) := fo_172 (fd_n 24 sr_X5_findGains_1 rfl)
noncomputable def sl_X5_gainOf_0 : List UInt8 := 42 :: 182 :: 0 :: 163 :: 61 :: 42 :: 180 :: 0 :: 25 :: 27 :: 46 :: 172 :: []
theorem sr_X5_gainOf_0 : fd_at cX5_gainOf 0 sl_X5_gainOf_0 := fd_base (by decide +kernel)
theorem dX5_gainOf_0 : decode cX5_gainOf 0 = .ok (.aload_n 0, 1) := fo_42 sr_X5_gainOf_0
theorem dX5_gainOf_1 : decode cX5_gainOf 1 = .ok (.invokevirtual 163, 3) := fo_182 (fd_n 1 sr_X5_gainOf_0 rfl) rfl
theorem dX5_gainOf_4 : decode cX5_gainOf 4 = .ok (.istore_n 2, 1) := fo_61 (fd_n 4 sr_X5_gainOf_0 rfl)
theorem dX5_gainOf_5 : decode cX5_gainOf 5 = .ok (.aload_n 0, 1) := fo_42 (fd_n 5 sr_X5_gainOf_0 rfl)
theorem dX5_gainOf_6 : decode cX5_gainOf 6 = .ok (.getfield 25, 3) := fo_180 (fd_n 6 sr_X5_gainOf_0 rfl) rfl
theorem dX5_gainOf_9 : decode cX5_gainOf 9 = .ok (.iload_n 1, 1) := fo_27 (fd_n 9 sr_X5_gainOf_0 rfl)
theorem dX5_gainOf_10 : decode cX5_gainOf 10 = .ok (.iaload, 1) := fo_46 (fd_n 10 sr_X5_gainOf_0 rfl)
theorem dX5_gainOf_11 : decode cX5_gainOf 11 = .ok (.ireturn, 1) := fo_172 (fd_n 11 sr_X5_gainOf_0 rfl)
noncomputable def sl_X5_gain_0 : List UInt8 := 27 :: 184 :: 0 :: 74 :: 153 :: 0 :: 11 :: 42 :: 27 :: 182 :: 0 :: 166 :: 167 :: 0 :: 9 :: 42 :: 18 :: 50 :: 182 :: 0 :: 80 :: 172 :: []
theorem sr_X5_gain_0 : fd_at cX5_gain 0 sl_X5_gain_0 := fd_base (by decide +kernel)
theorem dX5_gain_0 : decode cX5_gain 0 = .ok (.iload_n 1, 1) := fo_27 sr_X5_gain_0
theorem dX5_gain_1 : decode cX5_gain 1 = .ok (.invokestatic 74, 3) := fo_184 (fd_n 1 sr_X5_gain_0 rfl) rfl
theorem dX5_gain_4 : decode cX5_gain 4 = .ok (.ifCond .eq 11, 3) := fo_153 (fd_n 4 sr_X5_gain_0 rfl) (by decide +kernel)
theorem dX5_gain_7 : decode cX5_gain 7 = .ok (.aload_n 0, 1) := fo_42 (fd_n 7 sr_X5_gain_0 rfl)
theorem dX5_gain_8 : decode cX5_gain 8 = .ok (.iload_n 1, 1) := fo_27 (fd_n 8 sr_X5_gain_0 rfl)
theorem dX5_gain_9 : decode cX5_gain 9 = .ok (.invokevirtual 166, 3) := fo_182 (fd_n 9 sr_X5_gain_0 rfl) rfl
theorem dX5_gain_12 : decode cX5_gain 12 = .ok (.goto 9, 3) := fo_167 (fd_n 12 sr_X5_gain_0 rfl) (by decide +kernel)
theorem dX5_gain_15 : decode cX5_gain 15 = .ok (.aload_n 0, 1) := fo_42 (fd_n 15 sr_X5_gain_0 rfl)
theorem dX5_gain_16 : decode cX5_gain 16 = .ok (.ldc 50, 2) := fo_18 (fd_n 16 sr_X5_gain_0 rfl) rfl
theorem dX5_gain_18 : decode cX5_gain 18 = .ok (.invokevirtual 80, 3) := fo_182 (fd_n 18 sr_X5_gain_0 rfl) rfl
theorem dX5_gain_21 : decode cX5_gain 21 = .ok (.ireturn, 1) := fo_172 (fd_n 21 sr_X5_gain_0 rfl)
noncomputable def sl_X5_isBroken_1 : List UInt8 := 162 :: 0 :: 7 :: 4 :: 167 :: 0 :: 4 :: 3 :: 172 :: []
noncomputable def sl_X5_isBroken_0 : List UInt8 := 42 :: 27 :: 182 :: 0 :: 159 :: 42 :: 27 :: 7 :: 182 :: 0 :: 127 :: 61 :: 28 :: 155 :: 0 :: 22 :: 42 :: 180 :: 0 :: 22 :: 28 :: 46 :: 42 :: 27 :: 8 :: 182 :: 0 :: 127 :: sl_X5_isBroken_1
theorem sr_X5_isBroken_0 : fd_at cX5_isBroken 0 sl_X5_isBroken_0 := fd_base (by decide +kernel)
theorem sr_X5_isBroken_1 : fd_at cX5_isBroken 28 sl_X5_isBroken_1 := fd_n 28 sr_X5_isBroken_0 rfl
theorem dX5_isBroken_0 : decode cX5_isBroken 0 = .ok (.aload_n 0, 1) := fo_42 sr_X5_isBroken_0
theorem dX5_isBroken_1 : decode cX5_isBroken 1 = .ok (.iload_n 1, 1) := fo_27 (fd_n 1 sr_X5_isBroken_0 rfl)
theorem dX5_isBroken_2 : decode cX5_isBroken 2 = .ok (.invokevirtual 159, 3) := fo_182 (fd_n 2 sr_X5_isBroken_0 rfl) rfl
theorem dX5_isBroken_5 : decode cX5_isBroken 5 = .ok (.aload_n 0, 1) := fo_42 (fd_n 5 sr_X5_isBroken_0 rfl)
theorem dX5_isBroken_6 : decode cX5_isBroken 6 = .ok (.iload_n 1, 1) := fo_27 (fd_n 6 sr_X5_isBroken_0 rfl)
theorem dX5_isBroken_7 : decode cX5_isBroken 7 = .ok (.iconst 4, 1) := fo_7 (fd_n 7 sr_X5_isBroken_0 rfl)
theorem dX5_isBroken_8 : decode cX5_isBroken 8 = .ok (.invokevirtual 127, 3) := fo_182 (fd_n 8 sr_X5_isBroken_0 rfl) rfl
theorem dX5_isBroken_11 : decode cX5_isBroken 11 = .ok (.istore_n 2, 1) := fo_61 (fd_n 11 sr_X5_isBroken_0 rfl)
theorem dX5_isBroken_12 : decode cX5_isBroken 12 = .ok (.iload_n 2, 1) := fo_28 (fd_n 12 sr_X5_isBroken_0 rfl)
theorem dX5_isBroken_13 : decode cX5_isBroken 13 = .ok (.ifCond .lt 22, 3) := fo_155 (fd_n 13 sr_X5_isBroken_0 rfl) (by decide +kernel)
theorem dX5_isBroken_16 : decode cX5_isBroken 16 = .ok (.aload_n 0, 1) := fo_42 (fd_n 16 sr_X5_isBroken_0 rfl)
theorem dX5_isBroken_17 : decode cX5_isBroken 17 = .ok (.getfield 22, 3) := fo_180 (fd_n 17 sr_X5_isBroken_0 rfl) rfl
theorem dX5_isBroken_20 : decode cX5_isBroken 20 = .ok (.iload_n 2, 1) := fo_28 (fd_n 20 sr_X5_isBroken_0 rfl)
theorem dX5_isBroken_21 : decode cX5_isBroken 21 = .ok (.iaload, 1) := fo_46 (fd_n 21 sr_X5_isBroken_0 rfl)
theorem dX5_isBroken_22 : decode cX5_isBroken 22 = .ok (.aload_n 0, 1) := fo_42 (fd_n 22 sr_X5_isBroken_0 rfl)
theorem dX5_isBroken_23 : decode cX5_isBroken 23 = .ok (.iload_n 1, 1) := fo_27 (fd_n 23 sr_X5_isBroken_0 rfl)
theorem dX5_isBroken_24 : decode cX5_isBroken 24 = .ok (.iconst 5, 1) := fo_8 (fd_n 24 sr_X5_isBroken_0 rfl)
theorem dX5_isBroken_25 : decode cX5_isBroken 25 = .ok (.invokevirtual 127, 3) := fo_182 (fd_n 25 sr_X5_isBroken_0 rfl) rfl
theorem dX5_isBroken_28 : decode cX5_isBroken 28 = .ok (.if_icmp .ge 7, 3) := fo_162 sr_X5_isBroken_1 (by decide +kernel)
theorem dX5_isBroken_31 : decode cX5_isBroken 31 = .ok (.iconst 1, 1) := fo_4 (fd_n 3 sr_X5_isBroken_1 rfl)
theorem dX5_isBroken_32 : decode cX5_isBroken 32 = .ok (.goto 4, 3) := fo_167 (fd_n 4 sr_X5_isBroken_1 rfl) (by decide +kernel)
theorem dX5_isBroken_35 : decode cX5_isBroken 35 = .ok (.iconst 0, 1) := fo_3 (fd_n 7 sr_X5_isBroken_1 rfl)
theorem dX5_isBroken_36 : decode cX5_isBroken 36 = .ok (.ireturn, 1) := fo_172 (fd_n 8 sr_X5_isBroken_1 rfl)
noncomputable def sl_X5_brokenSet_1 : List UInt8 := 3 :: 128 :: 60 :: 132 :: 2 :: 1 :: 167 :: 255 :: 225 :: 27 :: 172 :: []
noncomputable def sl_X5_brokenSet_0 : List UInt8 := 3 :: 60 :: 3 :: 61 :: 28 :: 42 :: 180 :: 0 :: 7 :: 4 :: 46 :: 162 :: 0 :: 27 :: 27 :: 42 :: 28 :: 182 :: 0 :: 134 :: 153 :: 0 :: 9 :: 4 :: 28 :: 120 :: 167 :: 0 :: 4 :: sl_X5_brokenSet_1
theorem sr_X5_brokenSet_0 : fd_at cX5_brokenSet 0 sl_X5_brokenSet_0 := fd_base (by decide +kernel)
theorem sr_X5_brokenSet_1 : fd_at cX5_brokenSet 29 sl_X5_brokenSet_1 := fd_n 29 sr_X5_brokenSet_0 rfl
theorem dX5_brokenSet_0 : decode cX5_brokenSet 0 = .ok (.iconst 0, 1) := fo_3 sr_X5_brokenSet_0
theorem dX5_brokenSet_1 : decode cX5_brokenSet 1 = .ok (.istore_n 1, 1) := fo_60 (fd_n 1 sr_X5_brokenSet_0 rfl)
theorem dX5_brokenSet_2 : decode cX5_brokenSet 2 = .ok (.iconst 0, 1) := fo_3 (fd_n 2 sr_X5_brokenSet_0 rfl)
theorem dX5_brokenSet_3 : decode cX5_brokenSet 3 = .ok (.istore_n 2, 1) := fo_61 (fd_n 3 sr_X5_brokenSet_0 rfl)
theorem dX5_brokenSet_4 : decode cX5_brokenSet 4 = .ok (.iload_n 2, 1) := fo_28 (fd_n 4 sr_X5_brokenSet_0 rfl)
theorem dX5_brokenSet_5 : decode cX5_brokenSet 5 = .ok (.aload_n 0, 1) := fo_42 (fd_n 5 sr_X5_brokenSet_0 rfl)
theorem dX5_brokenSet_6 : decode cX5_brokenSet 6 = .ok (.getfield 7, 3) := fo_180 (fd_n 6 sr_X5_brokenSet_0 rfl) rfl
theorem dX5_brokenSet_9 : decode cX5_brokenSet 9 = .ok (.iconst 1, 1) := fo_4 (fd_n 9 sr_X5_brokenSet_0 rfl)
theorem dX5_brokenSet_10 : decode cX5_brokenSet 10 = .ok (.iaload, 1) := fo_46 (fd_n 10 sr_X5_brokenSet_0 rfl)
theorem dX5_brokenSet_11 : decode cX5_brokenSet 11 = .ok (.if_icmp .ge 27, 3) := fo_162 (fd_n 11 sr_X5_brokenSet_0 rfl) (by decide +kernel)
theorem dX5_brokenSet_14 : decode cX5_brokenSet 14 = .ok (.iload_n 1, 1) := fo_27 (fd_n 14 sr_X5_brokenSet_0 rfl)
theorem dX5_brokenSet_15 : decode cX5_brokenSet 15 = .ok (.aload_n 0, 1) := fo_42 (fd_n 15 sr_X5_brokenSet_0 rfl)
theorem dX5_brokenSet_16 : decode cX5_brokenSet 16 = .ok (.iload_n 2, 1) := fo_28 (fd_n 16 sr_X5_brokenSet_0 rfl)
theorem dX5_brokenSet_17 : decode cX5_brokenSet 17 = .ok (.invokevirtual 134, 3) := fo_182 (fd_n 17 sr_X5_brokenSet_0 rfl) rfl
theorem dX5_brokenSet_20 : decode cX5_brokenSet 20 = .ok (.ifCond .eq 9, 3) := fo_153 (fd_n 20 sr_X5_brokenSet_0 rfl) (by decide +kernel)
theorem dX5_brokenSet_23 : decode cX5_brokenSet 23 = .ok (.iconst 1, 1) := fo_4 (fd_n 23 sr_X5_brokenSet_0 rfl)
theorem dX5_brokenSet_24 : decode cX5_brokenSet 24 = .ok (.iload_n 2, 1) := fo_28 (fd_n 24 sr_X5_brokenSet_0 rfl)
theorem dX5_brokenSet_25 : decode cX5_brokenSet 25 = .ok (.ishl, 1) := fo_120 (fd_n 25 sr_X5_brokenSet_0 rfl)
theorem dX5_brokenSet_26 : decode cX5_brokenSet 26 = .ok (.goto 4, 3) := fo_167 (fd_n 26 sr_X5_brokenSet_0 rfl) (by decide +kernel)
theorem dX5_brokenSet_29 : decode cX5_brokenSet 29 = .ok (.iconst 0, 1) := fo_3 sr_X5_brokenSet_1
theorem dX5_brokenSet_30 : decode cX5_brokenSet 30 = .ok (.ior, 1) := fo_128 (fd_n 1 sr_X5_brokenSet_1 rfl)
theorem dX5_brokenSet_31 : decode cX5_brokenSet 31 = .ok (.istore_n 1, 1) := fo_60 (fd_n 2 sr_X5_brokenSet_1 rfl)
theorem dX5_brokenSet_32 : decode cX5_brokenSet 32 = .ok (.iinc 2 1, 3) := fo_132 (fd_n 3 sr_X5_brokenSet_1 rfl) rfl (by decide +kernel)
theorem dX5_brokenSet_35 : decode cX5_brokenSet 35 = .ok (.goto (-31), 3) := fo_167 (fd_n 6 sr_X5_brokenSet_1 rfl) (by decide +kernel)
theorem dX5_brokenSet_38 : decode cX5_brokenSet 38 = .ok (.iload_n 1, 1) := fo_27 (fd_n 9 sr_X5_brokenSet_1 rfl)
theorem dX5_brokenSet_39 : decode cX5_brokenSet 39 = .ok (.ireturn, 1) := fo_172 (fd_n 10 sr_X5_brokenSet_1 rfl)
noncomputable def sl_X5_broken_0 : List UInt8 := 42 :: 182 :: 0 :: 169 :: 172 :: []
theorem sr_X5_broken_0 : fd_at cX5_broken 0 sl_X5_broken_0 := fd_base (by decide +kernel)
theorem dX5_broken_0 : decode cX5_broken 0 = .ok (.aload_n 0, 1) := fo_42 sr_X5_broken_0
theorem dX5_broken_1 : decode cX5_broken 1 = .ok (.invokevirtual 169, 3) := fo_182 (fd_n 1 sr_X5_broken_0 rfl) rfl
theorem dX5_broken_4 : decode cX5_broken 4 = .ok (.ireturn, 1) := fo_172 (fd_n 4 sr_X5_broken_0 rfl)
noncomputable def sl_X5_month_3 : List UInt8 := 16 :: 9 :: 79 :: 132 :: 2 :: 1 :: 167 :: 255 :: 200 :: 42 :: 180 :: 0 :: 7 :: 3 :: 92 :: 46 :: 4 :: 96 :: 79 :: 27 :: 172 :: []
noncomputable def sl_X5_month_2 : List UInt8 := 42 :: 28 :: 182 :: 0 :: 109 :: 167 :: 0 :: 4 :: 3 :: 96 :: 62 :: 42 :: 180 :: 0 :: 7 :: 28 :: 5 :: 184 :: 0 :: 46 :: 29 :: 16 :: 9 :: 162 :: 0 :: 7 :: 29 :: 167 :: 0 :: 5 :: sl_X5_month_3
noncomputable def sl_X5_month_1 : List UInt8 := 96 :: 79 :: 132 :: 2 :: 1 :: 167 :: 255 :: 230 :: 3 :: 61 :: 28 :: 16 :: 25 :: 162 :: 0 :: 56 :: 42 :: 28 :: 5 :: 182 :: 0 :: 62 :: 42 :: 28 :: 182 :: 0 :: 65 :: 153 :: 0 :: 11 :: sl_X5_month_2
noncomputable def sl_X5_month_0 : List UInt8 := 42 :: 182 :: 0 :: 163 :: 60 :: 3 :: 61 :: 28 :: 7 :: 162 :: 0 :: 27 :: 42 :: 180 :: 0 :: 7 :: 16 :: 7 :: 28 :: 96 :: 92 :: 46 :: 42 :: 180 :: 0 :: 25 :: 28 :: 46 :: sl_X5_month_1
theorem sr_X5_month_0 : fd_at cX5_month 0 sl_X5_month_0 := fd_base (by decide +kernel)
theorem sr_X5_month_1 : fd_at cX5_month 28 sl_X5_month_1 := fd_n 28 sr_X5_month_0 rfl
theorem sr_X5_month_2 : fd_at cX5_month 58 sl_X5_month_2 := fd_n 30 sr_X5_month_1 rfl
theorem sr_X5_month_3 : fd_at cX5_month 88 sl_X5_month_3 := fd_n 30 sr_X5_month_2 rfl
theorem dX5_month_0 : decode cX5_month 0 = .ok (.aload_n 0, 1) := fo_42 sr_X5_month_0
theorem dX5_month_1 : decode cX5_month 1 = .ok (.invokevirtual 163, 3) := fo_182 (fd_n 1 sr_X5_month_0 rfl) rfl
theorem dX5_month_4 : decode cX5_month 4 = .ok (.istore_n 1, 1) := fo_60 (fd_n 4 sr_X5_month_0 rfl)
theorem dX5_month_5 : decode cX5_month 5 = .ok (.iconst 0, 1) := fo_3 (fd_n 5 sr_X5_month_0 rfl)
theorem dX5_month_6 : decode cX5_month 6 = .ok (.istore_n 2, 1) := fo_61 (fd_n 6 sr_X5_month_0 rfl)
theorem dX5_month_7 : decode cX5_month 7 = .ok (.iload_n 2, 1) := fo_28 (fd_n 7 sr_X5_month_0 rfl)
theorem dX5_month_8 : decode cX5_month 8 = .ok (.iconst 4, 1) := fo_7 (fd_n 8 sr_X5_month_0 rfl)
theorem dX5_month_9 : decode cX5_month 9 = .ok (.if_icmp .ge 27, 3) := fo_162 (fd_n 9 sr_X5_month_0 rfl) (by decide +kernel)
theorem dX5_month_12 : decode cX5_month 12 = .ok (.aload_n 0, 1) := fo_42 (fd_n 12 sr_X5_month_0 rfl)
theorem dX5_month_13 : decode cX5_month 13 = .ok (.getfield 7, 3) := fo_180 (fd_n 13 sr_X5_month_0 rfl) rfl
theorem dX5_month_16 : decode cX5_month 16 = .ok (.bipush 7, 2) := fo_16 (fd_n 16 sr_X5_month_0 rfl) (by decide +kernel)
theorem dX5_month_18 : decode cX5_month 18 = .ok (.iload_n 2, 1) := fo_28 (fd_n 18 sr_X5_month_0 rfl)
theorem dX5_month_19 : decode cX5_month 19 = .ok (.iadd, 1) := fo_96 (fd_n 19 sr_X5_month_0 rfl)
theorem dX5_month_20 : decode cX5_month 20 = .ok (.dup2, 1) := fo_92 (fd_n 20 sr_X5_month_0 rfl)
theorem dX5_month_21 : decode cX5_month 21 = .ok (.iaload, 1) := fo_46 (fd_n 21 sr_X5_month_0 rfl)
theorem dX5_month_22 : decode cX5_month 22 = .ok (.aload_n 0, 1) := fo_42 (fd_n 22 sr_X5_month_0 rfl)
theorem dX5_month_23 : decode cX5_month 23 = .ok (.getfield 25, 3) := fo_180 (fd_n 23 sr_X5_month_0 rfl) rfl
theorem dX5_month_26 : decode cX5_month 26 = .ok (.iload_n 2, 1) := fo_28 (fd_n 26 sr_X5_month_0 rfl)
theorem dX5_month_27 : decode cX5_month 27 = .ok (.iaload, 1) := fo_46 (fd_n 27 sr_X5_month_0 rfl)
theorem dX5_month_28 : decode cX5_month 28 = .ok (.iadd, 1) := fo_96 sr_X5_month_1
theorem dX5_month_29 : decode cX5_month 29 = .ok (.iastore, 1) := fo_79 (fd_n 1 sr_X5_month_1 rfl)
theorem dX5_month_30 : decode cX5_month 30 = .ok (.iinc 2 1, 3) := fo_132 (fd_n 2 sr_X5_month_1 rfl) rfl (by decide +kernel)
theorem dX5_month_33 : decode cX5_month 33 = .ok (.goto (-26), 3) := fo_167 (fd_n 5 sr_X5_month_1 rfl) (by decide +kernel)
theorem dX5_month_36 : decode cX5_month 36 = .ok (.iconst 0, 1) := fo_3 (fd_n 8 sr_X5_month_1 rfl)
theorem dX5_month_37 : decode cX5_month 37 = .ok (.istore_n 2, 1) := fo_61 (fd_n 9 sr_X5_month_1 rfl)
theorem dX5_month_38 : decode cX5_month 38 = .ok (.iload_n 2, 1) := fo_28 (fd_n 10 sr_X5_month_1 rfl)
theorem dX5_month_39 : decode cX5_month 39 = .ok (.bipush 25, 2) := fo_16 (fd_n 11 sr_X5_month_1 rfl) (by decide +kernel)
theorem dX5_month_41 : decode cX5_month 41 = .ok (.if_icmp .ge 56, 3) := fo_162 (fd_n 13 sr_X5_month_1 rfl) (by decide +kernel)
theorem dX5_month_44 : decode cX5_month 44 = .ok (.aload_n 0, 1) := fo_42 (fd_n 16 sr_X5_month_1 rfl)
theorem dX5_month_45 : decode cX5_month 45 = .ok (.iload_n 2, 1) := fo_28 (fd_n 17 sr_X5_month_1 rfl)
theorem dX5_month_46 : decode cX5_month 46 = .ok (.iconst 2, 1) := fo_5 (fd_n 18 sr_X5_month_1 rfl)
theorem dX5_month_47 : decode cX5_month 47 = .ok (.invokevirtual 62, 3) := fo_182 (fd_n 19 sr_X5_month_1 rfl) rfl
theorem dX5_month_50 : decode cX5_month 50 = .ok (.aload_n 0, 1) := fo_42 (fd_n 22 sr_X5_month_1 rfl)
theorem dX5_month_51 : decode cX5_month 51 = .ok (.iload_n 2, 1) := fo_28 (fd_n 23 sr_X5_month_1 rfl)
theorem dX5_month_52 : decode cX5_month 52 = .ok (.invokevirtual 65, 3) := fo_182 (fd_n 24 sr_X5_month_1 rfl) rfl
theorem dX5_month_55 : decode cX5_month 55 = .ok (.ifCond .eq 11, 3) := fo_153 (fd_n 27 sr_X5_month_1 rfl) (by decide +kernel)
theorem dX5_month_58 : decode cX5_month 58 = .ok (.aload_n 0, 1) := fo_42 sr_X5_month_2
theorem dX5_month_59 : decode cX5_month 59 = .ok (.iload_n 2, 1) := fo_28 (fd_n 1 sr_X5_month_2 rfl)
theorem dX5_month_60 : decode cX5_month 60 = .ok (.invokevirtual 109, 3) := fo_182 (fd_n 2 sr_X5_month_2 rfl) rfl
theorem dX5_month_63 : decode cX5_month 63 = .ok (.goto 4, 3) := fo_167 (fd_n 5 sr_X5_month_2 rfl) (by decide +kernel)
theorem dX5_month_66 : decode cX5_month 66 = .ok (.iconst 0, 1) := fo_3 (fd_n 8 sr_X5_month_2 rfl)
theorem dX5_month_67 : decode cX5_month 67 = .ok (.iadd, 1) := fo_96 (fd_n 9 sr_X5_month_2 rfl)
theorem dX5_month_68 : decode cX5_month 68 = .ok (.istore_n 3, 1) := fo_62 (fd_n 10 sr_X5_month_2 rfl)
theorem dX5_month_69 : decode cX5_month 69 = .ok (.aload_n 0, 1) := fo_42 (fd_n 11 sr_X5_month_2 rfl)
theorem dX5_month_70 : decode cX5_month 70 = .ok (.getfield 7, 3) := fo_180 (fd_n 12 sr_X5_month_2 rfl) rfl
theorem dX5_month_73 : decode cX5_month 73 = .ok (.iload_n 2, 1) := fo_28 (fd_n 15 sr_X5_month_2 rfl)
theorem dX5_month_74 : decode cX5_month 74 = .ok (.iconst 2, 1) := fo_5 (fd_n 16 sr_X5_month_2 rfl)
theorem dX5_month_75 : decode cX5_month 75 = .ok (.invokestatic 46, 3) := fo_184 (fd_n 17 sr_X5_month_2 rfl) rfl
theorem dX5_month_78 : decode cX5_month 78 = .ok (.iload_n 3, 1) := fo_29 (fd_n 20 sr_X5_month_2 rfl)
theorem dX5_month_79 : decode cX5_month 79 = .ok (.bipush 9, 2) := fo_16 (fd_n 21 sr_X5_month_2 rfl) (by decide +kernel)
theorem dX5_month_81 : decode cX5_month 81 = .ok (.if_icmp .ge 7, 3) := fo_162 (fd_n 23 sr_X5_month_2 rfl) (by decide +kernel)
theorem dX5_month_84 : decode cX5_month 84 = .ok (.iload_n 3, 1) := fo_29 (fd_n 26 sr_X5_month_2 rfl)
theorem dX5_month_85 : decode cX5_month 85 = .ok (.goto 5, 3) := fo_167 (fd_n 27 sr_X5_month_2 rfl) (by decide +kernel)
theorem dX5_month_88 : decode cX5_month 88 = .ok (.bipush 9, 2) := fo_16 sr_X5_month_3 (by decide +kernel)
theorem dX5_month_90 : decode cX5_month 90 = .ok (.iastore, 1) := fo_79 (fd_n 2 sr_X5_month_3 rfl)
theorem dX5_month_91 : decode cX5_month 91 = .ok (.iinc 2 1, 3) := fo_132 (fd_n 3 sr_X5_month_3 rfl) rfl (by decide +kernel)
theorem dX5_month_94 : decode cX5_month 94 = .ok (.goto (-56), 3) := fo_167 (fd_n 6 sr_X5_month_3 rfl) (by decide +kernel)
theorem dX5_month_97 : decode cX5_month 97 = .ok (.aload_n 0, 1) := fo_42 (fd_n 9 sr_X5_month_3 rfl)
theorem dX5_month_98 : decode cX5_month 98 = .ok (.getfield 7, 3) := fo_180 (fd_n 10 sr_X5_month_3 rfl) rfl
theorem dX5_month_101 : decode cX5_month 101 = .ok (.iconst 0, 1) := fo_3 (fd_n 13 sr_X5_month_3 rfl)
theorem dX5_month_102 : decode cX5_month 102 = .ok (.dup2, 1) := fo_92 (fd_n 14 sr_X5_month_3 rfl)
theorem dX5_month_103 : decode cX5_month 103 = .ok (.iaload, 1) := fo_46 (fd_n 15 sr_X5_month_3 rfl)
theorem dX5_month_104 : decode cX5_month 104 = .ok (.iconst 1, 1) := fo_4 (fd_n 16 sr_X5_month_3 rfl)
theorem dX5_month_105 : decode cX5_month 105 = .ok (.iadd, 1) := fo_96 (fd_n 17 sr_X5_month_3 rfl)
theorem dX5_month_106 : decode cX5_month 106 = .ok (.iastore, 1) := fo_79 (fd_n 18 sr_X5_month_3 rfl)
theorem dX5_month_107 : decode cX5_month 107 = .ok (.iload_n 1, 1) := fo_27 (fd_n 19 sr_X5_month_3 rfl)
theorem dX5_month_108 : decode cX5_month 108 = .ok (.ireturn, 1) := fo_172 (fd_n 20 sr_X5_month_3 rfl)
noncomputable def sl_X5_monthsGo_0 : List UInt8 := 3 :: 61 :: 3 :: 62 :: 29 :: 27 :: 162 :: 0 :: 16 :: 28 :: 42 :: 182 :: 0 :: 172 :: 96 :: 61 :: 132 :: 3 :: 1 :: 167 :: 255 :: 241 :: 28 :: 172 :: []
theorem sr_X5_monthsGo_0 : fd_at cX5_monthsGo 0 sl_X5_monthsGo_0 := fd_base (by decide +kernel)
theorem dX5_monthsGo_0 : decode cX5_monthsGo 0 = .ok (.iconst 0, 1) := fo_3 sr_X5_monthsGo_0
theorem dX5_monthsGo_1 : decode cX5_monthsGo 1 = .ok (.istore_n 2, 1) := fo_61 (fd_n 1 sr_X5_monthsGo_0 rfl)
theorem dX5_monthsGo_2 : decode cX5_monthsGo 2 = .ok (.iconst 0, 1) := fo_3 (fd_n 2 sr_X5_monthsGo_0 rfl)
theorem dX5_monthsGo_3 : decode cX5_monthsGo 3 = .ok (.istore_n 3, 1) := fo_62 (fd_n 3 sr_X5_monthsGo_0 rfl)
theorem dX5_monthsGo_4 : decode cX5_monthsGo 4 = .ok (.iload_n 3, 1) := fo_29 (fd_n 4 sr_X5_monthsGo_0 rfl)
theorem dX5_monthsGo_5 : decode cX5_monthsGo 5 = .ok (.iload_n 1, 1) := fo_27 (fd_n 5 sr_X5_monthsGo_0 rfl)
theorem dX5_monthsGo_6 : decode cX5_monthsGo 6 = .ok (.if_icmp .ge 16, 3) := fo_162 (fd_n 6 sr_X5_monthsGo_0 rfl) (by decide +kernel)
theorem dX5_monthsGo_9 : decode cX5_monthsGo 9 = .ok (.iload_n 2, 1) := fo_28 (fd_n 9 sr_X5_monthsGo_0 rfl)
theorem dX5_monthsGo_10 : decode cX5_monthsGo 10 = .ok (.aload_n 0, 1) := fo_42 (fd_n 10 sr_X5_monthsGo_0 rfl)
theorem dX5_monthsGo_11 : decode cX5_monthsGo 11 = .ok (.invokevirtual 172, 3) := fo_182 (fd_n 11 sr_X5_monthsGo_0 rfl) rfl
theorem dX5_monthsGo_14 : decode cX5_monthsGo 14 = .ok (.iadd, 1) := fo_96 (fd_n 14 sr_X5_monthsGo_0 rfl)
theorem dX5_monthsGo_15 : decode cX5_monthsGo 15 = .ok (.istore_n 2, 1) := fo_61 (fd_n 15 sr_X5_monthsGo_0 rfl)
theorem dX5_monthsGo_16 : decode cX5_monthsGo 16 = .ok (.iinc 3 1, 3) := fo_132 (fd_n 16 sr_X5_monthsGo_0 rfl) rfl (by decide +kernel)
theorem dX5_monthsGo_19 : decode cX5_monthsGo 19 = .ok (.goto (-15), 3) := fo_167 (fd_n 19 sr_X5_monthsGo_0 rfl) (by decide +kernel)
theorem dX5_monthsGo_22 : decode cX5_monthsGo 22 = .ok (.iload_n 2, 1) := fo_28 (fd_n 22 sr_X5_monthsGo_0 rfl)
theorem dX5_monthsGo_23 : decode cX5_monthsGo 23 = .ok (.ireturn, 1) := fo_172 (fd_n 23 sr_X5_monthsGo_0 rfl)
noncomputable def sl_X5_isTooLate_0 : List UInt8 := 42 :: 180 :: 0 :: 7 :: 3 :: 46 :: 27 :: 96 :: 17 :: 3 :: 231 :: 164 :: 0 :: 7 :: 4 :: 167 :: 0 :: 4 :: 3 :: 172 :: []
theorem sr_X5_isTooLate_0 : fd_at cX5_isTooLate 0 sl_X5_isTooLate_0 := fd_base (by decide +kernel)
theorem dX5_isTooLate_0 : decode cX5_isTooLate 0 = .ok (.aload_n 0, 1) := fo_42 sr_X5_isTooLate_0
theorem dX5_isTooLate_1 : decode cX5_isTooLate 1 = .ok (.getfield 7, 3) := fo_180 (fd_n 1 sr_X5_isTooLate_0 rfl) rfl
theorem dX5_isTooLate_4 : decode cX5_isTooLate 4 = .ok (.iconst 0, 1) := fo_3 (fd_n 4 sr_X5_isTooLate_0 rfl)
theorem dX5_isTooLate_5 : decode cX5_isTooLate 5 = .ok (.iaload, 1) := fo_46 (fd_n 5 sr_X5_isTooLate_0 rfl)
theorem dX5_isTooLate_6 : decode cX5_isTooLate 6 = .ok (.iload_n 1, 1) := fo_27 (fd_n 6 sr_X5_isTooLate_0 rfl)
theorem dX5_isTooLate_7 : decode cX5_isTooLate 7 = .ok (.iadd, 1) := fo_96 (fd_n 7 sr_X5_isTooLate_0 rfl)
theorem dX5_isTooLate_8 : decode cX5_isTooLate 8 = .ok (.sipush 999, 3) := fo_17 (fd_n 8 sr_X5_isTooLate_0 rfl) (by decide +kernel)
theorem dX5_isTooLate_11 : decode cX5_isTooLate 11 = .ok (.if_icmp .le 7, 3) := fo_164 (fd_n 11 sr_X5_isTooLate_0 rfl) (by decide +kernel)
theorem dX5_isTooLate_14 : decode cX5_isTooLate 14 = .ok (.iconst 1, 1) := fo_4 (fd_n 14 sr_X5_isTooLate_0 rfl)
theorem dX5_isTooLate_15 : decode cX5_isTooLate 15 = .ok (.goto 4, 3) := fo_167 (fd_n 15 sr_X5_isTooLate_0 rfl) (by decide +kernel)
theorem dX5_isTooLate_18 : decode cX5_isTooLate 18 = .ok (.iconst 0, 1) := fo_3 (fd_n 18 sr_X5_isTooLate_0 rfl)
theorem dX5_isTooLate_19 : decode cX5_isTooLate 19 = .ok (.ireturn, 1) := fo_172 (fd_n 19 sr_X5_isTooLate_0 rfl)
noncomputable def sl_X5_months_1 : List UInt8 := 18 :: 84 :: 182 :: 0 :: 80 :: 167 :: 0 :: 8 :: 42 :: 27 :: 182 :: 0 :: 180 :: 172 :: []
noncomputable def sl_X5_months_0 : List UInt8 := 27 :: 133 :: 10 :: 20 :: 0 :: 175 :: 184 :: 0 :: 53 :: 154 :: 0 :: 10 :: 42 :: 18 :: 50 :: 182 :: 0 :: 80 :: 172 :: 42 :: 27 :: 182 :: 0 :: 177 :: 153 :: 0 :: 12 :: 42 :: sl_X5_months_1
theorem sr_X5_months_0 : fd_at cX5_months 0 sl_X5_months_0 := fd_base (by decide +kernel)
theorem sr_X5_months_1 : fd_at cX5_months 28 sl_X5_months_1 := fd_n 28 sr_X5_months_0 rfl
theorem dX5_months_0 : decode cX5_months 0 = .ok (.iload_n 1, 1) := fo_27 sr_X5_months_0
theorem dX5_months_1 : decode cX5_months 1 = .ok (.i2l, 1) := fo_133 (fd_n 1 sr_X5_months_0 rfl)
theorem dX5_months_2 : decode cX5_months 2 = .ok (.lconst 1, 1) := fo_10 (fd_n 2 sr_X5_months_0 rfl)
theorem dX5_months_3 : decode cX5_months 3 = .ok (.ldc2_w 175, 3) := fo_20 (fd_n 3 sr_X5_months_0 rfl) rfl
theorem dX5_months_6 : decode cX5_months 6 = .ok (.invokestatic 53, 3) := fo_184 (fd_n 6 sr_X5_months_0 rfl) rfl
theorem dX5_months_9 : decode cX5_months 9 = .ok (.ifCond .ne 10, 3) := fo_154 (fd_n 9 sr_X5_months_0 rfl) (by decide +kernel)
theorem dX5_months_12 : decode cX5_months 12 = .ok (.aload_n 0, 1) := fo_42 (fd_n 12 sr_X5_months_0 rfl)
theorem dX5_months_13 : decode cX5_months 13 = .ok (.ldc 50, 2) := fo_18 (fd_n 13 sr_X5_months_0 rfl) rfl
theorem dX5_months_15 : decode cX5_months 15 = .ok (.invokevirtual 80, 3) := fo_182 (fd_n 15 sr_X5_months_0 rfl) rfl
theorem dX5_months_18 : decode cX5_months 18 = .ok (.ireturn, 1) := fo_172 (fd_n 18 sr_X5_months_0 rfl)
theorem dX5_months_19 : decode cX5_months 19 = .ok (.aload_n 0, 1) := fo_42 (fd_n 19 sr_X5_months_0 rfl)
theorem dX5_months_20 : decode cX5_months 20 = .ok (.iload_n 1, 1) := fo_27 (fd_n 20 sr_X5_months_0 rfl)
theorem dX5_months_21 : decode cX5_months 21 = .ok (.invokevirtual 177, 3) := fo_182 (fd_n 21 sr_X5_months_0 rfl) rfl
theorem dX5_months_24 : decode cX5_months 24 = .ok (.ifCond .eq 12, 3) := fo_153 (fd_n 24 sr_X5_months_0 rfl) (by decide +kernel)
theorem dX5_months_27 : decode cX5_months 27 = .ok (.aload_n 0, 1) := fo_42 (fd_n 27 sr_X5_months_0 rfl)
theorem dX5_months_28 : decode cX5_months 28 = .ok (.ldc 84, 2) := fo_18 sr_X5_months_1 rfl
theorem dX5_months_30 : decode cX5_months 30 = .ok (.invokevirtual 80, 3) := fo_182 (fd_n 2 sr_X5_months_1 rfl) rfl
theorem dX5_months_33 : decode cX5_months 33 = .ok (.goto 8, 3) := fo_167 (fd_n 5 sr_X5_months_1 rfl) (by decide +kernel)
theorem dX5_months_36 : decode cX5_months 36 = .ok (.aload_n 0, 1) := fo_42 (fd_n 8 sr_X5_months_1 rfl)
theorem dX5_months_37 : decode cX5_months 37 = .ok (.iload_n 1, 1) := fo_27 (fd_n 9 sr_X5_months_1 rfl)
theorem dX5_months_38 : decode cX5_months 38 = .ok (.invokevirtual 180, 3) := fo_182 (fd_n 10 sr_X5_months_1 rfl) rfl
theorem dX5_months_41 : decode cX5_months 41 = .ok (.ireturn, 1) := fo_172 (fd_n 13 sr_X5_months_1 rfl)
noncomputable def sl_X5_allViews_1 : List UInt8 := 167 :: 255 :: 231 :: 27 :: 172 :: []
noncomputable def sl_X5_allViews_0 : List UInt8 := 3 :: 60 :: 3 :: 61 :: 28 :: 42 :: 180 :: 0 :: 7 :: 4 :: 46 :: 162 :: 0 :: 21 :: 42 :: 28 :: 182 :: 0 :: 159 :: 27 :: 42 :: 180 :: 0 :: 146 :: 96 :: 60 :: 132 :: 2 :: 1 :: sl_X5_allViews_1
theorem sr_X5_allViews_0 : fd_at cX5_allViews 0 sl_X5_allViews_0 := fd_base (by decide +kernel)
theorem sr_X5_allViews_1 : fd_at cX5_allViews 29 sl_X5_allViews_1 := fd_n 29 sr_X5_allViews_0 rfl
theorem dX5_allViews_0 : decode cX5_allViews 0 = .ok (.iconst 0, 1) := fo_3 sr_X5_allViews_0
theorem dX5_allViews_1 : decode cX5_allViews 1 = .ok (.istore_n 1, 1) := fo_60 (fd_n 1 sr_X5_allViews_0 rfl)
theorem dX5_allViews_2 : decode cX5_allViews 2 = .ok (.iconst 0, 1) := fo_3 (fd_n 2 sr_X5_allViews_0 rfl)
theorem dX5_allViews_3 : decode cX5_allViews 3 = .ok (.istore_n 2, 1) := fo_61 (fd_n 3 sr_X5_allViews_0 rfl)
theorem dX5_allViews_4 : decode cX5_allViews 4 = .ok (.iload_n 2, 1) := fo_28 (fd_n 4 sr_X5_allViews_0 rfl)
theorem dX5_allViews_5 : decode cX5_allViews 5 = .ok (.aload_n 0, 1) := fo_42 (fd_n 5 sr_X5_allViews_0 rfl)
theorem dX5_allViews_6 : decode cX5_allViews 6 = .ok (.getfield 7, 3) := fo_180 (fd_n 6 sr_X5_allViews_0 rfl) rfl
theorem dX5_allViews_9 : decode cX5_allViews 9 = .ok (.iconst 1, 1) := fo_4 (fd_n 9 sr_X5_allViews_0 rfl)
theorem dX5_allViews_10 : decode cX5_allViews 10 = .ok (.iaload, 1) := fo_46 (fd_n 10 sr_X5_allViews_0 rfl)
theorem dX5_allViews_11 : decode cX5_allViews 11 = .ok (.if_icmp .ge 21, 3) := fo_162 (fd_n 11 sr_X5_allViews_0 rfl) (by decide +kernel)
theorem dX5_allViews_14 : decode cX5_allViews 14 = .ok (.aload_n 0, 1) := fo_42 (fd_n 14 sr_X5_allViews_0 rfl)
theorem dX5_allViews_15 : decode cX5_allViews 15 = .ok (.iload_n 2, 1) := fo_28 (fd_n 15 sr_X5_allViews_0 rfl)
theorem dX5_allViews_16 : decode cX5_allViews 16 = .ok (.invokevirtual 159, 3) := fo_182 (fd_n 16 sr_X5_allViews_0 rfl) rfl
theorem dX5_allViews_19 : decode cX5_allViews 19 = .ok (.iload_n 1, 1) := fo_27 (fd_n 19 sr_X5_allViews_0 rfl)
theorem dX5_allViews_20 : decode cX5_allViews 20 = .ok (.aload_n 0, 1) := fo_42 (fd_n 20 sr_X5_allViews_0 rfl)
theorem dX5_allViews_21 : decode cX5_allViews 21 = .ok (.getfield 146, 3) := fo_180 (fd_n 21 sr_X5_allViews_0 rfl) rfl
theorem dX5_allViews_24 : decode cX5_allViews 24 = .ok (.iadd, 1) := fo_96 (fd_n 24 sr_X5_allViews_0 rfl)
theorem dX5_allViews_25 : decode cX5_allViews 25 = .ok (.istore_n 1, 1) := fo_60 (fd_n 25 sr_X5_allViews_0 rfl)
theorem dX5_allViews_26 : decode cX5_allViews 26 = .ok (.iinc 2 1, 3) := fo_132 (fd_n 26 sr_X5_allViews_0 rfl) rfl (by decide +kernel)
theorem dX5_allViews_29 : decode cX5_allViews 29 = .ok (.goto (-25), 3) := fo_167 sr_X5_allViews_1 (by decide +kernel)
theorem dX5_allViews_32 : decode cX5_allViews 32 = .ok (.iload_n 1, 1) := fo_27 (fd_n 3 sr_X5_allViews_1 rfl)
theorem dX5_allViews_33 : decode cX5_allViews 33 = .ok (.ireturn, 1) := fo_172 (fd_n 4 sr_X5_allViews_1 rfl)
noncomputable def sl_X5_ahead_3 : List UInt8 := 42 :: 180 :: 0 :: 7 :: 16 :: 7 :: 28 :: 96 :: 6 :: 100 :: 46 :: 54 :: 4 :: 42 :: 182 :: 0 :: 191 :: 21 :: 4 :: 172 :: []
noncomputable def sl_X5_ahead_2 : List UInt8 := 29 :: 167 :: 0 :: 38 :: 28 :: 4 :: 160 :: 0 :: 10 :: 42 :: 182 :: 0 :: 169 :: 167 :: 0 :: 26 :: 28 :: 5 :: 160 :: 0 :: 10 :: 42 :: 182 :: 0 :: 188 :: 167 :: 0 :: 14 :: sl_X5_ahead_3
noncomputable def sl_X5_ahead_1 : List UInt8 := 172 :: 42 :: 27 :: 182 :: 0 :: 177 :: 153 :: 0 :: 10 :: 42 :: 18 :: 84 :: 182 :: 0 :: 80 :: 172 :: 42 :: 182 :: 0 :: 185 :: 42 :: 27 :: 182 :: 0 :: 180 :: 62 :: 28 :: 154 :: 0 :: 7 :: sl_X5_ahead_2
noncomputable def sl_X5_ahead_0 : List UInt8 := 27 :: 133 :: 9 :: 20 :: 0 :: 183 :: 184 :: 0 :: 53 :: 153 :: 0 :: 15 :: 28 :: 133 :: 9 :: 20 :: 0 :: 69 :: 184 :: 0 :: 53 :: 154 :: 0 :: 10 :: 42 :: 18 :: 50 :: 182 :: 0 :: 80 :: sl_X5_ahead_1
theorem sr_X5_ahead_0 : fd_at cX5_ahead 0 sl_X5_ahead_0 := fd_base (by decide +kernel)
theorem sr_X5_ahead_1 : fd_at cX5_ahead 30 sl_X5_ahead_1 := fd_n 30 sr_X5_ahead_0 rfl
theorem sr_X5_ahead_2 : fd_at cX5_ahead 60 sl_X5_ahead_2 := fd_n 30 sr_X5_ahead_1 rfl
theorem sr_X5_ahead_3 : fd_at cX5_ahead 88 sl_X5_ahead_3 := fd_n 28 sr_X5_ahead_2 rfl
theorem dX5_ahead_0 : decode cX5_ahead 0 = .ok (.iload_n 1, 1) := fo_27 sr_X5_ahead_0
theorem dX5_ahead_1 : decode cX5_ahead 1 = .ok (.i2l, 1) := fo_133 (fd_n 1 sr_X5_ahead_0 rfl)
theorem dX5_ahead_2 : decode cX5_ahead 2 = .ok (.lconst 0, 1) := fo_9 (fd_n 2 sr_X5_ahead_0 rfl)
theorem dX5_ahead_3 : decode cX5_ahead 3 = .ok (.ldc2_w 183, 3) := fo_20 (fd_n 3 sr_X5_ahead_0 rfl) rfl
theorem dX5_ahead_6 : decode cX5_ahead 6 = .ok (.invokestatic 53, 3) := fo_184 (fd_n 6 sr_X5_ahead_0 rfl) rfl
theorem dX5_ahead_9 : decode cX5_ahead 9 = .ok (.ifCond .eq 15, 3) := fo_153 (fd_n 9 sr_X5_ahead_0 rfl) (by decide +kernel)
theorem dX5_ahead_12 : decode cX5_ahead 12 = .ok (.iload_n 2, 1) := fo_28 (fd_n 12 sr_X5_ahead_0 rfl)
theorem dX5_ahead_13 : decode cX5_ahead 13 = .ok (.i2l, 1) := fo_133 (fd_n 13 sr_X5_ahead_0 rfl)
theorem dX5_ahead_14 : decode cX5_ahead 14 = .ok (.lconst 0, 1) := fo_9 (fd_n 14 sr_X5_ahead_0 rfl)
theorem dX5_ahead_15 : decode cX5_ahead 15 = .ok (.ldc2_w 69, 3) := fo_20 (fd_n 15 sr_X5_ahead_0 rfl) rfl
theorem dX5_ahead_18 : decode cX5_ahead 18 = .ok (.invokestatic 53, 3) := fo_184 (fd_n 18 sr_X5_ahead_0 rfl) rfl
theorem dX5_ahead_21 : decode cX5_ahead 21 = .ok (.ifCond .ne 10, 3) := fo_154 (fd_n 21 sr_X5_ahead_0 rfl) (by decide +kernel)
theorem dX5_ahead_24 : decode cX5_ahead 24 = .ok (.aload_n 0, 1) := fo_42 (fd_n 24 sr_X5_ahead_0 rfl)
theorem dX5_ahead_25 : decode cX5_ahead 25 = .ok (.ldc 50, 2) := fo_18 (fd_n 25 sr_X5_ahead_0 rfl) rfl
theorem dX5_ahead_27 : decode cX5_ahead 27 = .ok (.invokevirtual 80, 3) := fo_182 (fd_n 27 sr_X5_ahead_0 rfl) rfl
theorem dX5_ahead_30 : decode cX5_ahead 30 = .ok (.ireturn, 1) := fo_172 sr_X5_ahead_1
theorem dX5_ahead_31 : decode cX5_ahead 31 = .ok (.aload_n 0, 1) := fo_42 (fd_n 1 sr_X5_ahead_1 rfl)
theorem dX5_ahead_32 : decode cX5_ahead 32 = .ok (.iload_n 1, 1) := fo_27 (fd_n 2 sr_X5_ahead_1 rfl)
theorem dX5_ahead_33 : decode cX5_ahead 33 = .ok (.invokevirtual 177, 3) := fo_182 (fd_n 3 sr_X5_ahead_1 rfl) rfl
theorem dX5_ahead_36 : decode cX5_ahead 36 = .ok (.ifCond .eq 10, 3) := fo_153 (fd_n 6 sr_X5_ahead_1 rfl) (by decide +kernel)
theorem dX5_ahead_39 : decode cX5_ahead 39 = .ok (.aload_n 0, 1) := fo_42 (fd_n 9 sr_X5_ahead_1 rfl)
theorem dX5_ahead_40 : decode cX5_ahead 40 = .ok (.ldc 84, 2) := fo_18 (fd_n 10 sr_X5_ahead_1 rfl) rfl
theorem dX5_ahead_42 : decode cX5_ahead 42 = .ok (.invokevirtual 80, 3) := fo_182 (fd_n 12 sr_X5_ahead_1 rfl) rfl
theorem dX5_ahead_45 : decode cX5_ahead 45 = .ok (.ireturn, 1) := fo_172 (fd_n 15 sr_X5_ahead_1 rfl)
theorem dX5_ahead_46 : decode cX5_ahead 46 = .ok (.aload_n 0, 1) := fo_42 (fd_n 16 sr_X5_ahead_1 rfl)
theorem dX5_ahead_47 : decode cX5_ahead 47 = .ok (.invokevirtual 185, 3) := fo_182 (fd_n 17 sr_X5_ahead_1 rfl) rfl
theorem dX5_ahead_50 : decode cX5_ahead 50 = .ok (.aload_n 0, 1) := fo_42 (fd_n 20 sr_X5_ahead_1 rfl)
theorem dX5_ahead_51 : decode cX5_ahead 51 = .ok (.iload_n 1, 1) := fo_27 (fd_n 21 sr_X5_ahead_1 rfl)
theorem dX5_ahead_52 : decode cX5_ahead 52 = .ok (.invokevirtual 180, 3) := fo_182 (fd_n 22 sr_X5_ahead_1 rfl) rfl
theorem dX5_ahead_55 : decode cX5_ahead 55 = .ok (.istore_n 3, 1) := fo_62 (fd_n 25 sr_X5_ahead_1 rfl)
theorem dX5_ahead_56 : decode cX5_ahead 56 = .ok (.iload_n 2, 1) := fo_28 (fd_n 26 sr_X5_ahead_1 rfl)
theorem dX5_ahead_57 : decode cX5_ahead 57 = .ok (.ifCond .ne 7, 3) := fo_154 (fd_n 27 sr_X5_ahead_1 rfl) (by decide +kernel)
theorem dX5_ahead_60 : decode cX5_ahead 60 = .ok (.iload_n 3, 1) := fo_29 sr_X5_ahead_2
theorem dX5_ahead_61 : decode cX5_ahead 61 = .ok (.goto 38, 3) := fo_167 (fd_n 1 sr_X5_ahead_2 rfl) (by decide +kernel)
theorem dX5_ahead_64 : decode cX5_ahead 64 = .ok (.iload_n 2, 1) := fo_28 (fd_n 4 sr_X5_ahead_2 rfl)
theorem dX5_ahead_65 : decode cX5_ahead 65 = .ok (.iconst 1, 1) := fo_4 (fd_n 5 sr_X5_ahead_2 rfl)
theorem dX5_ahead_66 : decode cX5_ahead 66 = .ok (.if_icmp .ne 10, 3) := fo_160 (fd_n 6 sr_X5_ahead_2 rfl) (by decide +kernel)
theorem dX5_ahead_69 : decode cX5_ahead 69 = .ok (.aload_n 0, 1) := fo_42 (fd_n 9 sr_X5_ahead_2 rfl)
theorem dX5_ahead_70 : decode cX5_ahead 70 = .ok (.invokevirtual 169, 3) := fo_182 (fd_n 10 sr_X5_ahead_2 rfl) rfl
theorem dX5_ahead_73 : decode cX5_ahead 73 = .ok (.goto 26, 3) := fo_167 (fd_n 13 sr_X5_ahead_2 rfl) (by decide +kernel)
theorem dX5_ahead_76 : decode cX5_ahead 76 = .ok (.iload_n 2, 1) := fo_28 (fd_n 16 sr_X5_ahead_2 rfl)
theorem dX5_ahead_77 : decode cX5_ahead 77 = .ok (.iconst 2, 1) := fo_5 (fd_n 17 sr_X5_ahead_2 rfl)
theorem dX5_ahead_78 : decode cX5_ahead 78 = .ok (.if_icmp .ne 10, 3) := fo_160 (fd_n 18 sr_X5_ahead_2 rfl) (by decide +kernel)
theorem dX5_ahead_81 : decode cX5_ahead 81 = .ok (.aload_n 0, 1) := fo_42 (fd_n 21 sr_X5_ahead_2 rfl)
theorem dX5_ahead_82 : decode cX5_ahead 82 = .ok (.invokevirtual 188, 3) := fo_182 (fd_n 22 sr_X5_ahead_2 rfl) rfl
theorem dX5_ahead_85 : decode cX5_ahead 85 = .ok (.goto 14, 3) := fo_167 (fd_n 25 sr_X5_ahead_2 rfl) (by decide +kernel)
theorem dX5_ahead_88 : decode cX5_ahead 88 = .ok (.aload_n 0, 1) := fo_42 sr_X5_ahead_3
theorem dX5_ahead_89 : decode cX5_ahead 89 = .ok (.getfield 7, 3) := fo_180 (fd_n 1 sr_X5_ahead_3 rfl) rfl
theorem dX5_ahead_92 : decode cX5_ahead 92 = .ok (.bipush 7, 2) := fo_16 (fd_n 4 sr_X5_ahead_3 rfl) (by decide +kernel)
theorem dX5_ahead_94 : decode cX5_ahead 94 = .ok (.iload_n 2, 1) := fo_28 (fd_n 6 sr_X5_ahead_3 rfl)
theorem dX5_ahead_95 : decode cX5_ahead 95 = .ok (.iadd, 1) := fo_96 (fd_n 7 sr_X5_ahead_3 rfl)
theorem dX5_ahead_96 : decode cX5_ahead 96 = .ok (.iconst 3, 1) := fo_6 (fd_n 8 sr_X5_ahead_3 rfl)
theorem dX5_ahead_97 : decode cX5_ahead 97 = .ok (.isub, 1) := fo_100 (fd_n 9 sr_X5_ahead_3 rfl)
theorem dX5_ahead_98 : decode cX5_ahead 98 = .ok (.iaload, 1) := fo_46 (fd_n 10 sr_X5_ahead_3 rfl)
theorem dX5_ahead_99 : decode cX5_ahead 99 = .ok (.istore 4, 2) := fo_54 (fd_n 11 sr_X5_ahead_3 rfl) rfl
theorem dX5_ahead_101 : decode cX5_ahead 101 = .ok (.aload_n 0, 1) := fo_42 (fd_n 13 sr_X5_ahead_3 rfl)
theorem dX5_ahead_102 : decode cX5_ahead 102 = .ok (.invokevirtual 191, 3) := fo_182 (fd_n 14 sr_X5_ahead_3 rfl) rfl
theorem dX5_ahead_105 : decode cX5_ahead 105 = .ok (.iload 4, 2) := fo_21 (fd_n 17 sr_X5_ahead_3 rfl) rfl
theorem dX5_ahead_107 : decode cX5_ahead 107 = .ok (.ireturn, 1) := fo_172 (fd_n 19 sr_X5_ahead_3 rfl)
noncomputable def sl_X5_breaks_1 : List UInt8 := 167 :: 255 :: 234 :: 42 :: 182 :: 0 :: 191 :: 28 :: 172 :: []
noncomputable def sl_X5_breaks_0 : List UInt8 := 42 :: 182 :: 0 :: 185 :: 3 :: 61 :: 28 :: 16 :: 121 :: 162 :: 0 :: 22 :: 42 :: 27 :: 182 :: 0 :: 134 :: 154 :: 0 :: 14 :: 42 :: 182 :: 0 :: 172 :: 62 :: 132 :: 2 :: 1 :: sl_X5_breaks_1
theorem sr_X5_breaks_0 : fd_at cX5_breaks 0 sl_X5_breaks_0 := fd_base (by decide +kernel)
theorem sr_X5_breaks_1 : fd_at cX5_breaks 28 sl_X5_breaks_1 := fd_n 28 sr_X5_breaks_0 rfl
theorem dX5_breaks_0 : decode cX5_breaks 0 = .ok (.aload_n 0, 1) := fo_42 sr_X5_breaks_0
theorem dX5_breaks_1 : decode cX5_breaks 1 = .ok (.invokevirtual 185, 3) := fo_182 (fd_n 1 sr_X5_breaks_0 rfl) rfl
theorem dX5_breaks_4 : decode cX5_breaks 4 = .ok (.iconst 0, 1) := fo_3 (fd_n 4 sr_X5_breaks_0 rfl)
theorem dX5_breaks_5 : decode cX5_breaks 5 = .ok (.istore_n 2, 1) := fo_61 (fd_n 5 sr_X5_breaks_0 rfl)
theorem dX5_breaks_6 : decode cX5_breaks 6 = .ok (.iload_n 2, 1) := fo_28 (fd_n 6 sr_X5_breaks_0 rfl)
theorem dX5_breaks_7 : decode cX5_breaks 7 = .ok (.bipush 121, 2) := fo_16 (fd_n 7 sr_X5_breaks_0 rfl) (by decide +kernel)
theorem dX5_breaks_9 : decode cX5_breaks 9 = .ok (.if_icmp .ge 22, 3) := fo_162 (fd_n 9 sr_X5_breaks_0 rfl) (by decide +kernel)
theorem dX5_breaks_12 : decode cX5_breaks 12 = .ok (.aload_n 0, 1) := fo_42 (fd_n 12 sr_X5_breaks_0 rfl)
theorem dX5_breaks_13 : decode cX5_breaks 13 = .ok (.iload_n 1, 1) := fo_27 (fd_n 13 sr_X5_breaks_0 rfl)
theorem dX5_breaks_14 : decode cX5_breaks 14 = .ok (.invokevirtual 134, 3) := fo_182 (fd_n 14 sr_X5_breaks_0 rfl) rfl
theorem dX5_breaks_17 : decode cX5_breaks 17 = .ok (.ifCond .ne 14, 3) := fo_154 (fd_n 17 sr_X5_breaks_0 rfl) (by decide +kernel)
theorem dX5_breaks_20 : decode cX5_breaks 20 = .ok (.aload_n 0, 1) := fo_42 (fd_n 20 sr_X5_breaks_0 rfl)
theorem dX5_breaks_21 : decode cX5_breaks 21 = .ok (.invokevirtual 172, 3) := fo_182 (fd_n 21 sr_X5_breaks_0 rfl) rfl
theorem dX5_breaks_24 : decode cX5_breaks 24 = .ok (.istore_n 3, 1) := fo_62 (fd_n 24 sr_X5_breaks_0 rfl)
theorem dX5_breaks_25 : decode cX5_breaks 25 = .ok (.iinc 2 1, 3) := fo_132 (fd_n 25 sr_X5_breaks_0 rfl) rfl (by decide +kernel)
theorem dX5_breaks_28 : decode cX5_breaks 28 = .ok (.goto (-22), 3) := fo_167 sr_X5_breaks_1 (by decide +kernel)
theorem dX5_breaks_31 : decode cX5_breaks 31 = .ok (.aload_n 0, 1) := fo_42 (fd_n 3 sr_X5_breaks_1 rfl)
theorem dX5_breaks_32 : decode cX5_breaks 32 = .ok (.invokevirtual 191, 3) := fo_182 (fd_n 4 sr_X5_breaks_1 rfl) rfl
theorem dX5_breaks_35 : decode cX5_breaks 35 = .ok (.iload_n 2, 1) := fo_28 (fd_n 7 sr_X5_breaks_1 rfl)
theorem dX5_breaks_36 : decode cX5_breaks 36 = .ok (.ireturn, 1) := fo_172 (fd_n 8 sr_X5_breaks_1 rfl)
noncomputable def sl_X5_isLate_0 : List UInt8 := 42 :: 27 :: 7 :: 182 :: 0 :: 127 :: 155 :: 0 :: 12 :: 42 :: 16 :: 120 :: 182 :: 0 :: 177 :: 153 :: 0 :: 7 :: 4 :: 167 :: 0 :: 4 :: 3 :: 172 :: []
theorem sr_X5_isLate_0 : fd_at cX5_isLate 0 sl_X5_isLate_0 := fd_base (by decide +kernel)
theorem dX5_isLate_0 : decode cX5_isLate 0 = .ok (.aload_n 0, 1) := fo_42 sr_X5_isLate_0
theorem dX5_isLate_1 : decode cX5_isLate 1 = .ok (.iload_n 1, 1) := fo_27 (fd_n 1 sr_X5_isLate_0 rfl)
theorem dX5_isLate_2 : decode cX5_isLate 2 = .ok (.iconst 4, 1) := fo_7 (fd_n 2 sr_X5_isLate_0 rfl)
theorem dX5_isLate_3 : decode cX5_isLate 3 = .ok (.invokevirtual 127, 3) := fo_182 (fd_n 3 sr_X5_isLate_0 rfl) rfl
theorem dX5_isLate_6 : decode cX5_isLate 6 = .ok (.ifCond .lt 12, 3) := fo_155 (fd_n 6 sr_X5_isLate_0 rfl) (by decide +kernel)
theorem dX5_isLate_9 : decode cX5_isLate 9 = .ok (.aload_n 0, 1) := fo_42 (fd_n 9 sr_X5_isLate_0 rfl)
theorem dX5_isLate_10 : decode cX5_isLate 10 = .ok (.bipush 120, 2) := fo_16 (fd_n 10 sr_X5_isLate_0 rfl) (by decide +kernel)
theorem dX5_isLate_12 : decode cX5_isLate 12 = .ok (.invokevirtual 177, 3) := fo_182 (fd_n 12 sr_X5_isLate_0 rfl) rfl
theorem dX5_isLate_15 : decode cX5_isLate 15 = .ok (.ifCond .eq 7, 3) := fo_153 (fd_n 15 sr_X5_isLate_0 rfl) (by decide +kernel)
theorem dX5_isLate_18 : decode cX5_isLate 18 = .ok (.iconst 1, 1) := fo_4 (fd_n 18 sr_X5_isLate_0 rfl)
theorem dX5_isLate_19 : decode cX5_isLate 19 = .ok (.goto 4, 3) := fo_167 (fd_n 19 sr_X5_isLate_0 rfl) (by decide +kernel)
theorem dX5_isLate_22 : decode cX5_isLate 22 = .ok (.iconst 0, 1) := fo_3 (fd_n 22 sr_X5_isLate_0 rfl)
theorem dX5_isLate_23 : decode cX5_isLate 23 = .ok (.ireturn, 1) := fo_172 (fd_n 23 sr_X5_isLate_0 rfl)
noncomputable def sl_X5_breach_1 : List UInt8 := 172 :: 42 :: 27 :: 182 :: 0 :: 197 :: 61 :: 28 :: 16 :: 120 :: 164 :: 0 :: 12 :: 42 :: 18 :: 93 :: 182 :: 0 :: 80 :: 167 :: 0 :: 4 :: 28 :: 172 :: []
noncomputable def sl_X5_breach_0 : List UInt8 := 42 :: 27 :: 182 :: 0 :: 122 :: 154 :: 0 :: 10 :: 42 :: 18 :: 50 :: 182 :: 0 :: 80 :: 172 :: 42 :: 27 :: 182 :: 0 :: 194 :: 153 :: 0 :: 10 :: 42 :: 18 :: 84 :: 182 :: 0 :: 80 :: sl_X5_breach_1
theorem sr_X5_breach_0 : fd_at cX5_breach 0 sl_X5_breach_0 := fd_base (by decide +kernel)
theorem sr_X5_breach_1 : fd_at cX5_breach 29 sl_X5_breach_1 := fd_n 29 sr_X5_breach_0 rfl
theorem dX5_breach_0 : decode cX5_breach 0 = .ok (.aload_n 0, 1) := fo_42 sr_X5_breach_0
theorem dX5_breach_1 : decode cX5_breach 1 = .ok (.iload_n 1, 1) := fo_27 (fd_n 1 sr_X5_breach_0 rfl)
theorem dX5_breach_2 : decode cX5_breach 2 = .ok (.invokevirtual 122, 3) := fo_182 (fd_n 2 sr_X5_breach_0 rfl) rfl
theorem dX5_breach_5 : decode cX5_breach 5 = .ok (.ifCond .ne 10, 3) := fo_154 (fd_n 5 sr_X5_breach_0 rfl) (by decide +kernel)
theorem dX5_breach_8 : decode cX5_breach 8 = .ok (.aload_n 0, 1) := fo_42 (fd_n 8 sr_X5_breach_0 rfl)
theorem dX5_breach_9 : decode cX5_breach 9 = .ok (.ldc 50, 2) := fo_18 (fd_n 9 sr_X5_breach_0 rfl) rfl
theorem dX5_breach_11 : decode cX5_breach 11 = .ok (.invokevirtual 80, 3) := fo_182 (fd_n 11 sr_X5_breach_0 rfl) rfl
theorem dX5_breach_14 : decode cX5_breach 14 = .ok (.ireturn, 1) := fo_172 (fd_n 14 sr_X5_breach_0 rfl)
theorem dX5_breach_15 : decode cX5_breach 15 = .ok (.aload_n 0, 1) := fo_42 (fd_n 15 sr_X5_breach_0 rfl)
theorem dX5_breach_16 : decode cX5_breach 16 = .ok (.iload_n 1, 1) := fo_27 (fd_n 16 sr_X5_breach_0 rfl)
theorem dX5_breach_17 : decode cX5_breach 17 = .ok (.invokevirtual 194, 3) := fo_182 (fd_n 17 sr_X5_breach_0 rfl) rfl
theorem dX5_breach_20 : decode cX5_breach 20 = .ok (.ifCond .eq 10, 3) := fo_153 (fd_n 20 sr_X5_breach_0 rfl) (by decide +kernel)
theorem dX5_breach_23 : decode cX5_breach 23 = .ok (.aload_n 0, 1) := fo_42 (fd_n 23 sr_X5_breach_0 rfl)
theorem dX5_breach_24 : decode cX5_breach 24 = .ok (.ldc 84, 2) := fo_18 (fd_n 24 sr_X5_breach_0 rfl) rfl
theorem dX5_breach_26 : decode cX5_breach 26 = .ok (.invokevirtual 80, 3) := fo_182 (fd_n 26 sr_X5_breach_0 rfl) rfl
theorem dX5_breach_29 : decode cX5_breach 29 = .ok (.ireturn, 1) := fo_172 sr_X5_breach_1
theorem dX5_breach_30 : decode cX5_breach 30 = .ok (.aload_n 0, 1) := fo_42 (fd_n 1 sr_X5_breach_1 rfl)
theorem dX5_breach_31 : decode cX5_breach 31 = .ok (.iload_n 1, 1) := fo_27 (fd_n 2 sr_X5_breach_1 rfl)
theorem dX5_breach_32 : decode cX5_breach 32 = .ok (.invokevirtual 197, 3) := fo_182 (fd_n 3 sr_X5_breach_1 rfl) rfl
theorem dX5_breach_35 : decode cX5_breach 35 = .ok (.istore_n 2, 1) := fo_61 (fd_n 6 sr_X5_breach_1 rfl)
theorem dX5_breach_36 : decode cX5_breach 36 = .ok (.iload_n 2, 1) := fo_28 (fd_n 7 sr_X5_breach_1 rfl)
theorem dX5_breach_37 : decode cX5_breach 37 = .ok (.bipush 120, 2) := fo_16 (fd_n 8 sr_X5_breach_1 rfl) (by decide +kernel)
theorem dX5_breach_39 : decode cX5_breach 39 = .ok (.if_icmp .le 12, 3) := fo_164 (fd_n 10 sr_X5_breach_1 rfl) (by decide +kernel)
theorem dX5_breach_42 : decode cX5_breach 42 = .ok (.aload_n 0, 1) := fo_42 (fd_n 13 sr_X5_breach_1 rfl)
theorem dX5_breach_43 : decode cX5_breach 43 = .ok (.ldc 93, 2) := fo_18 (fd_n 14 sr_X5_breach_1 rfl) rfl
theorem dX5_breach_45 : decode cX5_breach 45 = .ok (.invokevirtual 80, 3) := fo_182 (fd_n 16 sr_X5_breach_1 rfl) rfl
theorem dX5_breach_48 : decode cX5_breach 48 = .ok (.goto 4, 3) := fo_167 (fd_n 19 sr_X5_breach_1 rfl) (by decide +kernel)
theorem dX5_breach_51 : decode cX5_breach 51 = .ok (.iload_n 2, 1) := fo_28 (fd_n 22 sr_X5_breach_1 rfl)
theorem dX5_breach_52 : decode cX5_breach 52 = .ok (.ireturn, 1) := fo_172 (fd_n 23 sr_X5_breach_1 rfl)
noncomputable def sl_X5_blame_4 : List UInt8 := 132 :: 4 :: 1 :: 167 :: 255 :: 195 :: 29 :: 156 :: 0 :: 12 :: 42 :: 18 :: 93 :: 182 :: 0 :: 80 :: 167 :: 0 :: 4 :: 29 :: 172 :: []
noncomputable def sl_X5_blame_3 : List UInt8 := 2 :: 79 :: 42 :: 28 :: 182 :: 0 :: 180 :: 54 :: 5 :: 42 :: 27 :: 182 :: 0 :: 134 :: 153 :: 0 :: 7 :: 2 :: 167 :: 0 :: 5 :: 21 :: 4 :: 62 :: 42 :: 182 :: 0 :: 191 :: sl_X5_blame_4
noncomputable def sl_X5_blame_2 : List UInt8 := 21 :: 4 :: 16 :: 25 :: 162 :: 0 :: 60 :: 29 :: 156 :: 0 :: 56 :: 42 :: 21 :: 4 :: 182 :: 0 :: 65 :: 153 :: 0 :: 41 :: 42 :: 180 :: 0 :: 7 :: 21 :: 4 :: 3 :: 184 :: 0 :: 46 :: sl_X5_blame_3
noncomputable def sl_X5_blame_1 : List UInt8 := 172 :: 42 :: 27 :: 182 :: 0 :: 197 :: 61 :: 28 :: 16 :: 120 :: 164 :: 0 :: 10 :: 42 :: 18 :: 93 :: 182 :: 0 :: 80 :: 172 :: 42 :: 182 :: 0 :: 185 :: 2 :: 62 :: 3 :: 54 :: 4 :: sl_X5_blame_2
noncomputable def sl_X5_blame_0 : List UInt8 := 42 :: 27 :: 182 :: 0 :: 122 :: 154 :: 0 :: 10 :: 42 :: 18 :: 50 :: 182 :: 0 :: 80 :: 172 :: 42 :: 27 :: 182 :: 0 :: 194 :: 153 :: 0 :: 10 :: 42 :: 18 :: 84 :: 182 :: 0 :: 80 :: sl_X5_blame_1
theorem sr_X5_blame_0 : fd_at cX5_blame 0 sl_X5_blame_0 := fd_base (by decide +kernel)
theorem sr_X5_blame_1 : fd_at cX5_blame 29 sl_X5_blame_1 := fd_n 29 sr_X5_blame_0 rfl
theorem sr_X5_blame_2 : fd_at cX5_blame 58 sl_X5_blame_2 := fd_n 29 sr_X5_blame_1 rfl
theorem sr_X5_blame_3 : fd_at cX5_blame 88 sl_X5_blame_3 := fd_n 30 sr_X5_blame_2 rfl
theorem sr_X5_blame_4 : fd_at cX5_blame 116 sl_X5_blame_4 := fd_n 28 sr_X5_blame_3 rfl
theorem dX5_blame_0 : decode cX5_blame 0 = .ok (.aload_n 0, 1) := fo_42 sr_X5_blame_0
theorem dX5_blame_1 : decode cX5_blame 1 = .ok (.iload_n 1, 1) := fo_27 (fd_n 1 sr_X5_blame_0 rfl)
theorem dX5_blame_2 : decode cX5_blame 2 = .ok (.invokevirtual 122, 3) := fo_182 (fd_n 2 sr_X5_blame_0 rfl) rfl
theorem dX5_blame_5 : decode cX5_blame 5 = .ok (.ifCond .ne 10, 3) := fo_154 (fd_n 5 sr_X5_blame_0 rfl) (by decide +kernel)
theorem dX5_blame_8 : decode cX5_blame 8 = .ok (.aload_n 0, 1) := fo_42 (fd_n 8 sr_X5_blame_0 rfl)
theorem dX5_blame_9 : decode cX5_blame 9 = .ok (.ldc 50, 2) := fo_18 (fd_n 9 sr_X5_blame_0 rfl) rfl
theorem dX5_blame_11 : decode cX5_blame 11 = .ok (.invokevirtual 80, 3) := fo_182 (fd_n 11 sr_X5_blame_0 rfl) rfl
theorem dX5_blame_14 : decode cX5_blame 14 = .ok (.ireturn, 1) := fo_172 (fd_n 14 sr_X5_blame_0 rfl)
theorem dX5_blame_15 : decode cX5_blame 15 = .ok (.aload_n 0, 1) := fo_42 (fd_n 15 sr_X5_blame_0 rfl)
theorem dX5_blame_16 : decode cX5_blame 16 = .ok (.iload_n 1, 1) := fo_27 (fd_n 16 sr_X5_blame_0 rfl)
theorem dX5_blame_17 : decode cX5_blame 17 = .ok (.invokevirtual 194, 3) := fo_182 (fd_n 17 sr_X5_blame_0 rfl) rfl
theorem dX5_blame_20 : decode cX5_blame 20 = .ok (.ifCond .eq 10, 3) := fo_153 (fd_n 20 sr_X5_blame_0 rfl) (by decide +kernel)
theorem dX5_blame_23 : decode cX5_blame 23 = .ok (.aload_n 0, 1) := fo_42 (fd_n 23 sr_X5_blame_0 rfl)
theorem dX5_blame_24 : decode cX5_blame 24 = .ok (.ldc 84, 2) := fo_18 (fd_n 24 sr_X5_blame_0 rfl) rfl
theorem dX5_blame_26 : decode cX5_blame 26 = .ok (.invokevirtual 80, 3) := fo_182 (fd_n 26 sr_X5_blame_0 rfl) rfl
theorem dX5_blame_29 : decode cX5_blame 29 = .ok (.ireturn, 1) := fo_172 sr_X5_blame_1
theorem dX5_blame_30 : decode cX5_blame 30 = .ok (.aload_n 0, 1) := fo_42 (fd_n 1 sr_X5_blame_1 rfl)
theorem dX5_blame_31 : decode cX5_blame 31 = .ok (.iload_n 1, 1) := fo_27 (fd_n 2 sr_X5_blame_1 rfl)
theorem dX5_blame_32 : decode cX5_blame 32 = .ok (.invokevirtual 197, 3) := fo_182 (fd_n 3 sr_X5_blame_1 rfl) rfl
theorem dX5_blame_35 : decode cX5_blame 35 = .ok (.istore_n 2, 1) := fo_61 (fd_n 6 sr_X5_blame_1 rfl)
theorem dX5_blame_36 : decode cX5_blame 36 = .ok (.iload_n 2, 1) := fo_28 (fd_n 7 sr_X5_blame_1 rfl)
theorem dX5_blame_37 : decode cX5_blame 37 = .ok (.bipush 120, 2) := fo_16 (fd_n 8 sr_X5_blame_1 rfl) (by decide +kernel)
theorem dX5_blame_39 : decode cX5_blame 39 = .ok (.if_icmp .le 10, 3) := fo_164 (fd_n 10 sr_X5_blame_1 rfl) (by decide +kernel)
theorem dX5_blame_42 : decode cX5_blame 42 = .ok (.aload_n 0, 1) := fo_42 (fd_n 13 sr_X5_blame_1 rfl)
theorem dX5_blame_43 : decode cX5_blame 43 = .ok (.ldc 93, 2) := fo_18 (fd_n 14 sr_X5_blame_1 rfl) rfl
theorem dX5_blame_45 : decode cX5_blame 45 = .ok (.invokevirtual 80, 3) := fo_182 (fd_n 16 sr_X5_blame_1 rfl) rfl
theorem dX5_blame_48 : decode cX5_blame 48 = .ok (.ireturn, 1) := fo_172 (fd_n 19 sr_X5_blame_1 rfl)
theorem dX5_blame_49 : decode cX5_blame 49 = .ok (.aload_n 0, 1) := fo_42 (fd_n 20 sr_X5_blame_1 rfl)
theorem dX5_blame_50 : decode cX5_blame 50 = .ok (.invokevirtual 185, 3) := fo_182 (fd_n 21 sr_X5_blame_1 rfl) rfl
theorem dX5_blame_53 : decode cX5_blame 53 = .ok (.iconst (-1), 1) := fo_2 (fd_n 24 sr_X5_blame_1 rfl)
theorem dX5_blame_54 : decode cX5_blame 54 = .ok (.istore_n 3, 1) := fo_62 (fd_n 25 sr_X5_blame_1 rfl)
theorem dX5_blame_55 : decode cX5_blame 55 = .ok (.iconst 0, 1) := fo_3 (fd_n 26 sr_X5_blame_1 rfl)
theorem dX5_blame_56 : decode cX5_blame 56 = .ok (.istore 4, 2) := fo_54 (fd_n 27 sr_X5_blame_1 rfl) rfl
theorem dX5_blame_58 : decode cX5_blame 58 = .ok (.iload 4, 2) := fo_21 sr_X5_blame_2 rfl
theorem dX5_blame_60 : decode cX5_blame 60 = .ok (.bipush 25, 2) := fo_16 (fd_n 2 sr_X5_blame_2 rfl) (by decide +kernel)
theorem dX5_blame_62 : decode cX5_blame 62 = .ok (.if_icmp .ge 60, 3) := fo_162 (fd_n 4 sr_X5_blame_2 rfl) (by decide +kernel)
theorem dX5_blame_65 : decode cX5_blame 65 = .ok (.iload_n 3, 1) := fo_29 (fd_n 7 sr_X5_blame_2 rfl)
theorem dX5_blame_66 : decode cX5_blame 66 = .ok (.ifCond .ge 56, 3) := fo_156 (fd_n 8 sr_X5_blame_2 rfl) (by decide +kernel)
theorem dX5_blame_69 : decode cX5_blame 69 = .ok (.aload_n 0, 1) := fo_42 (fd_n 11 sr_X5_blame_2 rfl)
theorem dX5_blame_70 : decode cX5_blame 70 = .ok (.iload 4, 2) := fo_21 (fd_n 12 sr_X5_blame_2 rfl) rfl
theorem dX5_blame_72 : decode cX5_blame 72 = .ok (.invokevirtual 65, 3) := fo_182 (fd_n 14 sr_X5_blame_2 rfl) rfl
theorem dX5_blame_75 : decode cX5_blame 75 = .ok (.ifCond .eq 41, 3) := fo_153 (fd_n 17 sr_X5_blame_2 rfl) (by decide +kernel)
theorem dX5_blame_78 : decode cX5_blame 78 = .ok (.aload_n 0, 1) := fo_42 (fd_n 20 sr_X5_blame_2 rfl)
theorem dX5_blame_79 : decode cX5_blame 79 = .ok (.getfield 7, 3) := fo_180 (fd_n 21 sr_X5_blame_2 rfl) rfl
theorem dX5_blame_82 : decode cX5_blame 82 = .ok (.iload 4, 2) := fo_21 (fd_n 24 sr_X5_blame_2 rfl) rfl
theorem dX5_blame_84 : decode cX5_blame 84 = .ok (.iconst 0, 1) := fo_3 (fd_n 26 sr_X5_blame_2 rfl)
theorem dX5_blame_85 : decode cX5_blame 85 = .ok (.invokestatic 46, 3) := fo_184 (fd_n 27 sr_X5_blame_2 rfl) rfl
theorem dX5_blame_88 : decode cX5_blame 88 = .ok (.iconst (-1), 1) := fo_2 sr_X5_blame_3
theorem dX5_blame_89 : decode cX5_blame 89 = .ok (.iastore, 1) := fo_79 (fd_n 1 sr_X5_blame_3 rfl)
theorem dX5_blame_90 : decode cX5_blame 90 = .ok (.aload_n 0, 1) := fo_42 (fd_n 2 sr_X5_blame_3 rfl)
theorem dX5_blame_91 : decode cX5_blame 91 = .ok (.iload_n 2, 1) := fo_28 (fd_n 3 sr_X5_blame_3 rfl)
theorem dX5_blame_92 : decode cX5_blame 92 = .ok (.invokevirtual 180, 3) := fo_182 (fd_n 4 sr_X5_blame_3 rfl) rfl
theorem dX5_blame_95 : decode cX5_blame 95 = .ok (.istore 5, 2) := fo_54 (fd_n 7 sr_X5_blame_3 rfl) rfl
theorem dX5_blame_97 : decode cX5_blame 97 = .ok (.aload_n 0, 1) := fo_42 (fd_n 9 sr_X5_blame_3 rfl)
theorem dX5_blame_98 : decode cX5_blame 98 = .ok (.iload_n 1, 1) := fo_27 (fd_n 10 sr_X5_blame_3 rfl)
theorem dX5_blame_99 : decode cX5_blame 99 = .ok (.invokevirtual 134, 3) := fo_182 (fd_n 11 sr_X5_blame_3 rfl) rfl
theorem dX5_blame_102 : decode cX5_blame 102 = .ok (.ifCond .eq 7, 3) := fo_153 (fd_n 14 sr_X5_blame_3 rfl) (by decide +kernel)
theorem dX5_blame_105 : decode cX5_blame 105 = .ok (.iconst (-1), 1) := fo_2 (fd_n 17 sr_X5_blame_3 rfl)
theorem dX5_blame_106 : decode cX5_blame 106 = .ok (.goto 5, 3) := fo_167 (fd_n 18 sr_X5_blame_3 rfl) (by decide +kernel)
theorem dX5_blame_109 : decode cX5_blame 109 = .ok (.iload 4, 2) := fo_21 (fd_n 21 sr_X5_blame_3 rfl) rfl
theorem dX5_blame_111 : decode cX5_blame 111 = .ok (.istore_n 3, 1) := fo_62 (fd_n 23 sr_X5_blame_3 rfl)
theorem dX5_blame_112 : decode cX5_blame 112 = .ok (.aload_n 0, 1) := fo_42 (fd_n 24 sr_X5_blame_3 rfl)
theorem dX5_blame_113 : decode cX5_blame 113 = .ok (.invokevirtual 191, 3) := fo_182 (fd_n 25 sr_X5_blame_3 rfl) rfl
theorem dX5_blame_116 : decode cX5_blame 116 = .ok (.iinc 4 1, 3) := fo_132 sr_X5_blame_4 rfl (by decide +kernel)
theorem dX5_blame_119 : decode cX5_blame 119 = .ok (.goto (-61), 3) := fo_167 (fd_n 3 sr_X5_blame_4 rfl) (by decide +kernel)
theorem dX5_blame_122 : decode cX5_blame 122 = .ok (.iload_n 3, 1) := fo_29 (fd_n 6 sr_X5_blame_4 rfl)
theorem dX5_blame_123 : decode cX5_blame 123 = .ok (.ifCond .ge 12, 3) := fo_156 (fd_n 7 sr_X5_blame_4 rfl) (by decide +kernel)
theorem dX5_blame_126 : decode cX5_blame 126 = .ok (.aload_n 0, 1) := fo_42 (fd_n 10 sr_X5_blame_4 rfl)
theorem dX5_blame_127 : decode cX5_blame 127 = .ok (.ldc 93, 2) := fo_18 (fd_n 11 sr_X5_blame_4 rfl) rfl
theorem dX5_blame_129 : decode cX5_blame 129 = .ok (.invokevirtual 80, 3) := fo_182 (fd_n 13 sr_X5_blame_4 rfl) rfl
theorem dX5_blame_132 : decode cX5_blame 132 = .ok (.goto 4, 3) := fo_167 (fd_n 16 sr_X5_blame_4 rfl) (by decide +kernel)
theorem dX5_blame_135 : decode cX5_blame 135 = .ok (.iload_n 3, 1) := fo_29 (fd_n 19 sr_X5_blame_4 rfl)
theorem dX5_blame_136 : decode cX5_blame 136 = .ok (.ireturn, 1) := fo_172 (fd_n 20 sr_X5_blame_4 rfl)
noncomputable def sl_X5_bestPart_3 : List UInt8 := 79 :: 21 :: 5 :: 172 :: []
noncomputable def sl_X5_bestPart_2 : List UInt8 := 164 :: 0 :: 11 :: 21 :: 7 :: 54 :: 5 :: 21 :: 8 :: 54 :: 6 :: 132 :: 7 :: 1 :: 167 :: 255 :: 203 :: 42 :: 180 :: 0 :: 7 :: 27 :: 28 :: 184 :: 0 :: 46 :: 21 :: 4 :: sl_X5_bestPart_3
noncomputable def sl_X5_bestPart_1 : List UInt8 := 28 :: 184 :: 0 :: 46 :: 21 :: 7 :: 79 :: 42 :: 42 :: 27 :: 4 :: 182 :: 0 :: 62 :: 182 :: 0 :: 166 :: 54 :: 8 :: 21 :: 5 :: 155 :: 0 :: 10 :: 21 :: 8 :: 21 :: 6 :: sl_X5_bestPart_2
noncomputable def sl_X5_bestPart_0 : List UInt8 := 42 :: 27 :: 28 :: 182 :: 0 :: 62 :: 54 :: 4 :: 2 :: 54 :: 5 :: 3 :: 54 :: 6 :: 3 :: 54 :: 7 :: 21 :: 7 :: 29 :: 163 :: 0 :: 53 :: 42 :: 180 :: 0 :: 7 :: 27 :: sl_X5_bestPart_1
theorem sr_X5_bestPart_0 : fd_at cX5_bestPart 0 sl_X5_bestPart_0 := fd_base (by decide +kernel)
theorem sr_X5_bestPart_1 : fd_at cX5_bestPart 28 sl_X5_bestPart_1 := fd_n 28 sr_X5_bestPart_0 rfl
theorem sr_X5_bestPart_2 : fd_at cX5_bestPart 56 sl_X5_bestPart_2 := fd_n 28 sr_X5_bestPart_1 rfl
theorem sr_X5_bestPart_3 : fd_at cX5_bestPart 84 sl_X5_bestPart_3 := fd_n 28 sr_X5_bestPart_2 rfl
theorem dX5_bestPart_0 : decode cX5_bestPart 0 = .ok (.aload_n 0, 1) := fo_42 sr_X5_bestPart_0
theorem dX5_bestPart_1 : decode cX5_bestPart 1 = .ok (.iload_n 1, 1) := fo_27 (fd_n 1 sr_X5_bestPart_0 rfl)
theorem dX5_bestPart_2 : decode cX5_bestPart 2 = .ok (.iload_n 2, 1) := fo_28 (fd_n 2 sr_X5_bestPart_0 rfl)
theorem dX5_bestPart_3 : decode cX5_bestPart 3 = .ok (.invokevirtual 62, 3) := fo_182 (fd_n 3 sr_X5_bestPart_0 rfl) rfl
theorem dX5_bestPart_6 : decode cX5_bestPart 6 = .ok (.istore 4, 2) := fo_54 (fd_n 6 sr_X5_bestPart_0 rfl) rfl
theorem dX5_bestPart_8 : decode cX5_bestPart 8 = .ok (.iconst (-1), 1) := fo_2 (fd_n 8 sr_X5_bestPart_0 rfl)
theorem dX5_bestPart_9 : decode cX5_bestPart 9 = .ok (.istore 5, 2) := fo_54 (fd_n 9 sr_X5_bestPart_0 rfl) rfl
theorem dX5_bestPart_11 : decode cX5_bestPart 11 = .ok (.iconst 0, 1) := fo_3 (fd_n 11 sr_X5_bestPart_0 rfl)
theorem dX5_bestPart_12 : decode cX5_bestPart 12 = .ok (.istore 6, 2) := fo_54 (fd_n 12 sr_X5_bestPart_0 rfl) rfl
theorem dX5_bestPart_14 : decode cX5_bestPart 14 = .ok (.iconst 0, 1) := fo_3 (fd_n 14 sr_X5_bestPart_0 rfl)
theorem dX5_bestPart_15 : decode cX5_bestPart 15 = .ok (.istore 7, 2) := fo_54 (fd_n 15 sr_X5_bestPart_0 rfl) rfl
theorem dX5_bestPart_17 : decode cX5_bestPart 17 = .ok (.iload 7, 2) := fo_21 (fd_n 17 sr_X5_bestPart_0 rfl) rfl
theorem dX5_bestPart_19 : decode cX5_bestPart 19 = .ok (.iload_n 3, 1) := fo_29 (fd_n 19 sr_X5_bestPart_0 rfl)
theorem dX5_bestPart_20 : decode cX5_bestPart 20 = .ok (.if_icmp .gt 53, 3) := fo_163 (fd_n 20 sr_X5_bestPart_0 rfl) (by decide +kernel)
theorem dX5_bestPart_23 : decode cX5_bestPart 23 = .ok (.aload_n 0, 1) := fo_42 (fd_n 23 sr_X5_bestPart_0 rfl)
theorem dX5_bestPart_24 : decode cX5_bestPart 24 = .ok (.getfield 7, 3) := fo_180 (fd_n 24 sr_X5_bestPart_0 rfl) rfl
theorem dX5_bestPart_27 : decode cX5_bestPart 27 = .ok (.iload_n 1, 1) := fo_27 (fd_n 27 sr_X5_bestPart_0 rfl)
theorem dX5_bestPart_28 : decode cX5_bestPart 28 = .ok (.iload_n 2, 1) := fo_28 sr_X5_bestPart_1
theorem dX5_bestPart_29 : decode cX5_bestPart 29 = .ok (.invokestatic 46, 3) := fo_184 (fd_n 1 sr_X5_bestPart_1 rfl) rfl
theorem dX5_bestPart_32 : decode cX5_bestPart 32 = .ok (.iload 7, 2) := fo_21 (fd_n 4 sr_X5_bestPart_1 rfl) rfl
theorem dX5_bestPart_34 : decode cX5_bestPart 34 = .ok (.iastore, 1) := fo_79 (fd_n 6 sr_X5_bestPart_1 rfl)
theorem dX5_bestPart_35 : decode cX5_bestPart 35 = .ok (.aload_n 0, 1) := fo_42 (fd_n 7 sr_X5_bestPart_1 rfl)
theorem dX5_bestPart_36 : decode cX5_bestPart 36 = .ok (.aload_n 0, 1) := fo_42 (fd_n 8 sr_X5_bestPart_1 rfl)
theorem dX5_bestPart_37 : decode cX5_bestPart 37 = .ok (.iload_n 1, 1) := fo_27 (fd_n 9 sr_X5_bestPart_1 rfl)
theorem dX5_bestPart_38 : decode cX5_bestPart 38 = .ok (.iconst 1, 1) := fo_4 (fd_n 10 sr_X5_bestPart_1 rfl)
theorem dX5_bestPart_39 : decode cX5_bestPart 39 = .ok (.invokevirtual 62, 3) := fo_182 (fd_n 11 sr_X5_bestPart_1 rfl) rfl
theorem dX5_bestPart_42 : decode cX5_bestPart 42 = .ok (.invokevirtual 166, 3) := fo_182 (fd_n 14 sr_X5_bestPart_1 rfl) rfl
theorem dX5_bestPart_45 : decode cX5_bestPart 45 = .ok (.istore 8, 2) := fo_54 (fd_n 17 sr_X5_bestPart_1 rfl) rfl
theorem dX5_bestPart_47 : decode cX5_bestPart 47 = .ok (.iload 5, 2) := fo_21 (fd_n 19 sr_X5_bestPart_1 rfl) rfl
theorem dX5_bestPart_49 : decode cX5_bestPart 49 = .ok (.ifCond .lt 10, 3) := fo_155 (fd_n 21 sr_X5_bestPart_1 rfl) (by decide +kernel)
theorem dX5_bestPart_52 : decode cX5_bestPart 52 = .ok (.iload 8, 2) := fo_21 (fd_n 24 sr_X5_bestPart_1 rfl) rfl
theorem dX5_bestPart_54 : decode cX5_bestPart 54 = .ok (.iload 6, 2) := fo_21 (fd_n 26 sr_X5_bestPart_1 rfl) rfl
theorem dX5_bestPart_56 : decode cX5_bestPart 56 = .ok (.if_icmp .le 11, 3) := fo_164 sr_X5_bestPart_2 (by decide +kernel)
theorem dX5_bestPart_59 : decode cX5_bestPart 59 = .ok (.iload 7, 2) := fo_21 (fd_n 3 sr_X5_bestPart_2 rfl) rfl
theorem dX5_bestPart_61 : decode cX5_bestPart 61 = .ok (.istore 5, 2) := fo_54 (fd_n 5 sr_X5_bestPart_2 rfl) rfl
theorem dX5_bestPart_63 : decode cX5_bestPart 63 = .ok (.iload 8, 2) := fo_21 (fd_n 7 sr_X5_bestPart_2 rfl) rfl
theorem dX5_bestPart_65 : decode cX5_bestPart 65 = .ok (.istore 6, 2) := fo_54 (fd_n 9 sr_X5_bestPart_2 rfl) rfl
theorem dX5_bestPart_67 : decode cX5_bestPart 67 = .ok (.iinc 7 1, 3) := fo_132 (fd_n 11 sr_X5_bestPart_2 rfl) rfl (by decide +kernel)
theorem dX5_bestPart_70 : decode cX5_bestPart 70 = .ok (.goto (-53), 3) := fo_167 (fd_n 14 sr_X5_bestPart_2 rfl) (by decide +kernel)
theorem dX5_bestPart_73 : decode cX5_bestPart 73 = .ok (.aload_n 0, 1) := fo_42 (fd_n 17 sr_X5_bestPart_2 rfl)
theorem dX5_bestPart_74 : decode cX5_bestPart 74 = .ok (.getfield 7, 3) := fo_180 (fd_n 18 sr_X5_bestPart_2 rfl) rfl
theorem dX5_bestPart_77 : decode cX5_bestPart 77 = .ok (.iload_n 1, 1) := fo_27 (fd_n 21 sr_X5_bestPart_2 rfl)
theorem dX5_bestPart_78 : decode cX5_bestPart 78 = .ok (.iload_n 2, 1) := fo_28 (fd_n 22 sr_X5_bestPart_2 rfl)
theorem dX5_bestPart_79 : decode cX5_bestPart 79 = .ok (.invokestatic 46, 3) := fo_184 (fd_n 23 sr_X5_bestPart_2 rfl) rfl
theorem dX5_bestPart_82 : decode cX5_bestPart 82 = .ok (.iload 4, 2) := fo_21 (fd_n 26 sr_X5_bestPart_2 rfl) rfl
theorem dX5_bestPart_84 : decode cX5_bestPart 84 = .ok (.iastore, 1) := fo_79 sr_X5_bestPart_3
theorem dX5_bestPart_85 : decode cX5_bestPart 85 = .ok (.iload 5, 2) := fo_21 (fd_n 1 sr_X5_bestPart_3 rfl) rfl
theorem dX5_bestPart_87 : decode cX5_bestPart 87 = .ok (.ireturn, 1) := fo_172 (fd_n 3 sr_X5_bestPart_3 rfl)
noncomputable def sl_X5_paint_0 : List UInt8 := 42 :: 27 :: 182 :: 0 :: 94 :: 61 :: 28 :: 153 :: 0 :: 11 :: 42 :: 28 :: 182 :: 0 :: 80 :: 167 :: 0 :: 10 :: 42 :: 27 :: 6 :: 6 :: 182 :: 0 :: 200 :: 172 :: []
theorem sr_X5_paint_0 : fd_at cX5_paint 0 sl_X5_paint_0 := fd_base (by decide +kernel)
theorem dX5_paint_0 : decode cX5_paint 0 = .ok (.aload_n 0, 1) := fo_42 sr_X5_paint_0
theorem dX5_paint_1 : decode cX5_paint 1 = .ok (.iload_n 1, 1) := fo_27 (fd_n 1 sr_X5_paint_0 rfl)
theorem dX5_paint_2 : decode cX5_paint 2 = .ok (.invokevirtual 94, 3) := fo_182 (fd_n 2 sr_X5_paint_0 rfl) rfl
theorem dX5_paint_5 : decode cX5_paint 5 = .ok (.istore_n 2, 1) := fo_61 (fd_n 5 sr_X5_paint_0 rfl)
theorem dX5_paint_6 : decode cX5_paint 6 = .ok (.iload_n 2, 1) := fo_28 (fd_n 6 sr_X5_paint_0 rfl)
theorem dX5_paint_7 : decode cX5_paint 7 = .ok (.ifCond .eq 11, 3) := fo_153 (fd_n 7 sr_X5_paint_0 rfl) (by decide +kernel)
theorem dX5_paint_10 : decode cX5_paint 10 = .ok (.aload_n 0, 1) := fo_42 (fd_n 10 sr_X5_paint_0 rfl)
theorem dX5_paint_11 : decode cX5_paint 11 = .ok (.iload_n 2, 1) := fo_28 (fd_n 11 sr_X5_paint_0 rfl)
theorem dX5_paint_12 : decode cX5_paint 12 = .ok (.invokevirtual 80, 3) := fo_182 (fd_n 12 sr_X5_paint_0 rfl) rfl
theorem dX5_paint_15 : decode cX5_paint 15 = .ok (.goto 10, 3) := fo_167 (fd_n 15 sr_X5_paint_0 rfl) (by decide +kernel)
theorem dX5_paint_18 : decode cX5_paint 18 = .ok (.aload_n 0, 1) := fo_42 (fd_n 18 sr_X5_paint_0 rfl)
theorem dX5_paint_19 : decode cX5_paint 19 = .ok (.iload_n 1, 1) := fo_27 (fd_n 19 sr_X5_paint_0 rfl)
theorem dX5_paint_20 : decode cX5_paint 20 = .ok (.iconst 3, 1) := fo_6 (fd_n 20 sr_X5_paint_0 rfl)
theorem dX5_paint_21 : decode cX5_paint 21 = .ok (.iconst 3, 1) := fo_6 (fd_n 21 sr_X5_paint_0 rfl)
theorem dX5_paint_22 : decode cX5_paint 22 = .ok (.invokevirtual 200, 3) := fo_182 (fd_n 22 sr_X5_paint_0 rfl) rfl
theorem dX5_paint_25 : decode cX5_paint 25 = .ok (.ireturn, 1) := fo_172 (fd_n 25 sr_X5_paint_0 rfl)
noncomputable def sl_X5_height_0 : List UInt8 := 42 :: 27 :: 182 :: 0 :: 94 :: 61 :: 28 :: 153 :: 0 :: 11 :: 42 :: 28 :: 182 :: 0 :: 80 :: 167 :: 0 :: 11 :: 42 :: 27 :: 5 :: 16 :: 9 :: 182 :: 0 :: 200 :: 172 :: []
theorem sr_X5_height_0 : fd_at cX5_height 0 sl_X5_height_0 := fd_base (by decide +kernel)
theorem dX5_height_0 : decode cX5_height 0 = .ok (.aload_n 0, 1) := fo_42 sr_X5_height_0
theorem dX5_height_1 : decode cX5_height 1 = .ok (.iload_n 1, 1) := fo_27 (fd_n 1 sr_X5_height_0 rfl)
theorem dX5_height_2 : decode cX5_height 2 = .ok (.invokevirtual 94, 3) := fo_182 (fd_n 2 sr_X5_height_0 rfl) rfl
theorem dX5_height_5 : decode cX5_height 5 = .ok (.istore_n 2, 1) := fo_61 (fd_n 5 sr_X5_height_0 rfl)
theorem dX5_height_6 : decode cX5_height 6 = .ok (.iload_n 2, 1) := fo_28 (fd_n 6 sr_X5_height_0 rfl)
theorem dX5_height_7 : decode cX5_height 7 = .ok (.ifCond .eq 11, 3) := fo_153 (fd_n 7 sr_X5_height_0 rfl) (by decide +kernel)
theorem dX5_height_10 : decode cX5_height 10 = .ok (.aload_n 0, 1) := fo_42 (fd_n 10 sr_X5_height_0 rfl)
theorem dX5_height_11 : decode cX5_height 11 = .ok (.iload_n 2, 1) := fo_28 (fd_n 11 sr_X5_height_0 rfl)
theorem dX5_height_12 : decode cX5_height 12 = .ok (.invokevirtual 80, 3) := fo_182 (fd_n 12 sr_X5_height_0 rfl) rfl
theorem dX5_height_15 : decode cX5_height 15 = .ok (.goto 11, 3) := fo_167 (fd_n 15 sr_X5_height_0 rfl) (by decide +kernel)
theorem dX5_height_18 : decode cX5_height 18 = .ok (.aload_n 0, 1) := fo_42 (fd_n 18 sr_X5_height_0 rfl)
theorem dX5_height_19 : decode cX5_height 19 = .ok (.iload_n 1, 1) := fo_27 (fd_n 19 sr_X5_height_0 rfl)
theorem dX5_height_20 : decode cX5_height 20 = .ok (.iconst 2, 1) := fo_5 (fd_n 20 sr_X5_height_0 rfl)
theorem dX5_height_21 : decode cX5_height 21 = .ok (.bipush 9, 2) := fo_16 (fd_n 21 sr_X5_height_0 rfl) (by decide +kernel)
theorem dX5_height_23 : decode cX5_height 23 = .ok (.invokevirtual 200, 3) := fo_182 (fd_n 23 sr_X5_height_0 rfl) rfl
theorem dX5_height_26 : decode cX5_height 26 = .ok (.ireturn, 1) := fo_172 (fd_n 26 sr_X5_height_0 rfl)
noncomputable def sl_X5_storey_3 : List UInt8 := 4 :: 100 :: 79 :: 21 :: 5 :: 21 :: 4 :: 100 :: 172 :: []
noncomputable def sl_X5_storey_2 : List UInt8 := 27 :: 5 :: 184 :: 0 :: 46 :: 92 :: 46 :: 4 :: 96 :: 79 :: 42 :: 28 :: 182 :: 0 :: 166 :: 54 :: 5 :: 42 :: 180 :: 0 :: 7 :: 27 :: 5 :: 184 :: 0 :: 46 :: 92 :: 46 :: sl_X5_storey_3
noncomputable def sl_X5_storey_1 : List UInt8 := 42 :: 27 :: 5 :: 182 :: 0 :: 62 :: 16 :: 9 :: 160 :: 0 :: 10 :: 42 :: 18 :: 84 :: 182 :: 0 :: 80 :: 172 :: 42 :: 28 :: 182 :: 0 :: 166 :: 54 :: 4 :: 42 :: 180 :: 0 :: 7 :: sl_X5_storey_2
noncomputable def sl_X5_storey_0 : List UInt8 := 28 :: 184 :: 0 :: 74 :: 154 :: 0 :: 8 :: 18 :: 50 :: 167 :: 0 :: 8 :: 42 :: 27 :: 182 :: 0 :: 94 :: 62 :: 29 :: 153 :: 0 :: 9 :: 42 :: 29 :: 182 :: 0 :: 80 :: 172 :: sl_X5_storey_1
theorem sr_X5_storey_0 : fd_at cX5_storey 0 sl_X5_storey_0 := fd_base (by decide +kernel)
theorem sr_X5_storey_1 : fd_at cX5_storey 28 sl_X5_storey_1 := fd_n 28 sr_X5_storey_0 rfl
theorem sr_X5_storey_2 : fd_at cX5_storey 57 sl_X5_storey_2 := fd_n 29 sr_X5_storey_1 rfl
theorem sr_X5_storey_3 : fd_at cX5_storey 85 sl_X5_storey_3 := fd_n 28 sr_X5_storey_2 rfl
theorem dX5_storey_0 : decode cX5_storey 0 = .ok (.iload_n 2, 1) := fo_28 sr_X5_storey_0
theorem dX5_storey_1 : decode cX5_storey 1 = .ok (.invokestatic 74, 3) := fo_184 (fd_n 1 sr_X5_storey_0 rfl) rfl
theorem dX5_storey_4 : decode cX5_storey 4 = .ok (.ifCond .ne 8, 3) := fo_154 (fd_n 4 sr_X5_storey_0 rfl) (by decide +kernel)
theorem dX5_storey_7 : decode cX5_storey 7 = .ok (.ldc 50, 2) := fo_18 (fd_n 7 sr_X5_storey_0 rfl) rfl
theorem dX5_storey_9 : decode cX5_storey 9 = .ok (.goto 8, 3) := fo_167 (fd_n 9 sr_X5_storey_0 rfl) (by decide +kernel)
theorem dX5_storey_12 : decode cX5_storey 12 = .ok (.aload_n 0, 1) := fo_42 (fd_n 12 sr_X5_storey_0 rfl)
theorem dX5_storey_13 : decode cX5_storey 13 = .ok (.iload_n 1, 1) := fo_27 (fd_n 13 sr_X5_storey_0 rfl)
theorem dX5_storey_14 : decode cX5_storey 14 = .ok (.invokevirtual 94, 3) := fo_182 (fd_n 14 sr_X5_storey_0 rfl) rfl
theorem dX5_storey_17 : decode cX5_storey 17 = .ok (.istore_n 3, 1) := fo_62 (fd_n 17 sr_X5_storey_0 rfl)
theorem dX5_storey_18 : decode cX5_storey 18 = .ok (.iload_n 3, 1) := fo_29 (fd_n 18 sr_X5_storey_0 rfl)
theorem dX5_storey_19 : decode cX5_storey 19 = .ok (.ifCond .eq 9, 3) := fo_153 (fd_n 19 sr_X5_storey_0 rfl) (by decide +kernel)
theorem dX5_storey_22 : decode cX5_storey 22 = .ok (.aload_n 0, 1) := fo_42 (fd_n 22 sr_X5_storey_0 rfl)
theorem dX5_storey_23 : decode cX5_storey 23 = .ok (.iload_n 3, 1) := fo_29 (fd_n 23 sr_X5_storey_0 rfl)
theorem dX5_storey_24 : decode cX5_storey 24 = .ok (.invokevirtual 80, 3) := fo_182 (fd_n 24 sr_X5_storey_0 rfl) rfl
theorem dX5_storey_27 : decode cX5_storey 27 = .ok (.ireturn, 1) := fo_172 (fd_n 27 sr_X5_storey_0 rfl)
theorem dX5_storey_28 : decode cX5_storey 28 = .ok (.aload_n 0, 1) := fo_42 sr_X5_storey_1
theorem dX5_storey_29 : decode cX5_storey 29 = .ok (.iload_n 1, 1) := fo_27 (fd_n 1 sr_X5_storey_1 rfl)
theorem dX5_storey_30 : decode cX5_storey 30 = .ok (.iconst 2, 1) := fo_5 (fd_n 2 sr_X5_storey_1 rfl)
theorem dX5_storey_31 : decode cX5_storey 31 = .ok (.invokevirtual 62, 3) := fo_182 (fd_n 3 sr_X5_storey_1 rfl) rfl
theorem dX5_storey_34 : decode cX5_storey 34 = .ok (.bipush 9, 2) := fo_16 (fd_n 6 sr_X5_storey_1 rfl) (by decide +kernel)
theorem dX5_storey_36 : decode cX5_storey 36 = .ok (.if_icmp .ne 10, 3) := fo_160 (fd_n 8 sr_X5_storey_1 rfl) (by decide +kernel)
theorem dX5_storey_39 : decode cX5_storey 39 = .ok (.aload_n 0, 1) := fo_42 (fd_n 11 sr_X5_storey_1 rfl)
theorem dX5_storey_40 : decode cX5_storey 40 = .ok (.ldc 84, 2) := fo_18 (fd_n 12 sr_X5_storey_1 rfl) rfl
theorem dX5_storey_42 : decode cX5_storey 42 = .ok (.invokevirtual 80, 3) := fo_182 (fd_n 14 sr_X5_storey_1 rfl) rfl
theorem dX5_storey_45 : decode cX5_storey 45 = .ok (.ireturn, 1) := fo_172 (fd_n 17 sr_X5_storey_1 rfl)
theorem dX5_storey_46 : decode cX5_storey 46 = .ok (.aload_n 0, 1) := fo_42 (fd_n 18 sr_X5_storey_1 rfl)
theorem dX5_storey_47 : decode cX5_storey 47 = .ok (.iload_n 2, 1) := fo_28 (fd_n 19 sr_X5_storey_1 rfl)
theorem dX5_storey_48 : decode cX5_storey 48 = .ok (.invokevirtual 166, 3) := fo_182 (fd_n 20 sr_X5_storey_1 rfl) rfl
theorem dX5_storey_51 : decode cX5_storey 51 = .ok (.istore 4, 2) := fo_54 (fd_n 23 sr_X5_storey_1 rfl) rfl
theorem dX5_storey_53 : decode cX5_storey 53 = .ok (.aload_n 0, 1) := fo_42 (fd_n 25 sr_X5_storey_1 rfl)
theorem dX5_storey_54 : decode cX5_storey 54 = .ok (.getfield 7, 3) := fo_180 (fd_n 26 sr_X5_storey_1 rfl) rfl
theorem dX5_storey_57 : decode cX5_storey 57 = .ok (.iload_n 1, 1) := fo_27 sr_X5_storey_2
theorem dX5_storey_58 : decode cX5_storey 58 = .ok (.iconst 2, 1) := fo_5 (fd_n 1 sr_X5_storey_2 rfl)
theorem dX5_storey_59 : decode cX5_storey 59 = .ok (.invokestatic 46, 3) := fo_184 (fd_n 2 sr_X5_storey_2 rfl) rfl
theorem dX5_storey_62 : decode cX5_storey 62 = .ok (.dup2, 1) := fo_92 (fd_n 5 sr_X5_storey_2 rfl)
theorem dX5_storey_63 : decode cX5_storey 63 = .ok (.iaload, 1) := fo_46 (fd_n 6 sr_X5_storey_2 rfl)
theorem dX5_storey_64 : decode cX5_storey 64 = .ok (.iconst 1, 1) := fo_4 (fd_n 7 sr_X5_storey_2 rfl)
theorem dX5_storey_65 : decode cX5_storey 65 = .ok (.iadd, 1) := fo_96 (fd_n 8 sr_X5_storey_2 rfl)
theorem dX5_storey_66 : decode cX5_storey 66 = .ok (.iastore, 1) := fo_79 (fd_n 9 sr_X5_storey_2 rfl)
theorem dX5_storey_67 : decode cX5_storey 67 = .ok (.aload_n 0, 1) := fo_42 (fd_n 10 sr_X5_storey_2 rfl)
theorem dX5_storey_68 : decode cX5_storey 68 = .ok (.iload_n 2, 1) := fo_28 (fd_n 11 sr_X5_storey_2 rfl)
theorem dX5_storey_69 : decode cX5_storey 69 = .ok (.invokevirtual 166, 3) := fo_182 (fd_n 12 sr_X5_storey_2 rfl) rfl
theorem dX5_storey_72 : decode cX5_storey 72 = .ok (.istore 5, 2) := fo_54 (fd_n 15 sr_X5_storey_2 rfl) rfl
theorem dX5_storey_74 : decode cX5_storey 74 = .ok (.aload_n 0, 1) := fo_42 (fd_n 17 sr_X5_storey_2 rfl)
theorem dX5_storey_75 : decode cX5_storey 75 = .ok (.getfield 7, 3) := fo_180 (fd_n 18 sr_X5_storey_2 rfl) rfl
theorem dX5_storey_78 : decode cX5_storey 78 = .ok (.iload_n 1, 1) := fo_27 (fd_n 21 sr_X5_storey_2 rfl)
theorem dX5_storey_79 : decode cX5_storey 79 = .ok (.iconst 2, 1) := fo_5 (fd_n 22 sr_X5_storey_2 rfl)
theorem dX5_storey_80 : decode cX5_storey 80 = .ok (.invokestatic 46, 3) := fo_184 (fd_n 23 sr_X5_storey_2 rfl) rfl
theorem dX5_storey_83 : decode cX5_storey 83 = .ok (.dup2, 1) := fo_92 (fd_n 26 sr_X5_storey_2 rfl)
theorem dX5_storey_84 : decode cX5_storey 84 = .ok (.iaload, 1) := fo_46 (fd_n 27 sr_X5_storey_2 rfl)
theorem dX5_storey_85 : decode cX5_storey 85 = .ok (.iconst 1, 1) := fo_4 sr_X5_storey_3
theorem dX5_storey_86 : decode cX5_storey 86 = .ok (.isub, 1) := fo_100 (fd_n 1 sr_X5_storey_3 rfl)
theorem dX5_storey_87 : decode cX5_storey 87 = .ok (.iastore, 1) := fo_79 (fd_n 2 sr_X5_storey_3 rfl)
theorem dX5_storey_88 : decode cX5_storey 88 = .ok (.iload 5, 2) := fo_21 (fd_n 3 sr_X5_storey_3 rfl) rfl
theorem dX5_storey_90 : decode cX5_storey 90 = .ok (.iload 4, 2) := fo_21 (fd_n 5 sr_X5_storey_3 rfl) rfl
theorem dX5_storey_92 : decode cX5_storey 92 = .ok (.isub, 1) := fo_100 (fd_n 7 sr_X5_storey_3 rfl)
theorem dX5_storey_93 : decode cX5_storey 93 = .ok (.ireturn, 1) := fo_172 (fd_n 8 sr_X5_storey_3 rfl)
noncomputable def sl_X5_allowed_3 : List UInt8 := 21 :: 5 :: 54 :: 5 :: 132 :: 6 :: 1 :: 167 :: 255 :: 213 :: 42 :: 180 :: 0 :: 7 :: 27 :: 5 :: 184 :: 0 :: 46 :: 29 :: 79 :: 21 :: 5 :: 172 :: []
noncomputable def sl_X5_allowed_2 : List UInt8 := 42 :: 180 :: 0 :: 7 :: 27 :: 5 :: 184 :: 0 :: 46 :: 21 :: 6 :: 79 :: 42 :: 182 :: 0 :: 169 :: 184 :: 0 :: 156 :: 21 :: 4 :: 163 :: 0 :: 8 :: 21 :: 6 :: 167 :: 0 :: 5 :: sl_X5_allowed_3
noncomputable def sl_X5_allowed_1 : List UInt8 := 5 :: 184 :: 0 :: 46 :: 3 :: 79 :: 42 :: 182 :: 0 :: 169 :: 184 :: 0 :: 156 :: 54 :: 4 :: 3 :: 54 :: 5 :: 4 :: 54 :: 6 :: 21 :: 6 :: 16 :: 10 :: 162 :: 0 :: 42 :: sl_X5_allowed_2
noncomputable def sl_X5_allowed_0 : List UInt8 := 42 :: 27 :: 182 :: 0 :: 94 :: 61 :: 28 :: 153 :: 0 :: 9 :: 42 :: 28 :: 182 :: 0 :: 80 :: 172 :: 42 :: 27 :: 5 :: 182 :: 0 :: 62 :: 62 :: 42 :: 180 :: 0 :: 7 :: 27 :: sl_X5_allowed_1
theorem sr_X5_allowed_0 : fd_at cX5_allowed 0 sl_X5_allowed_0 := fd_base (by decide +kernel)
theorem sr_X5_allowed_1 : fd_at cX5_allowed 28 sl_X5_allowed_1 := fd_n 28 sr_X5_allowed_0 rfl
theorem sr_X5_allowed_2 : fd_at cX5_allowed 56 sl_X5_allowed_2 := fd_n 28 sr_X5_allowed_1 rfl
theorem sr_X5_allowed_3 : fd_at cX5_allowed 85 sl_X5_allowed_3 := fd_n 29 sr_X5_allowed_2 rfl
theorem dX5_allowed_0 : decode cX5_allowed 0 = .ok (.aload_n 0, 1) := fo_42 sr_X5_allowed_0
theorem dX5_allowed_1 : decode cX5_allowed 1 = .ok (.iload_n 1, 1) := fo_27 (fd_n 1 sr_X5_allowed_0 rfl)
theorem dX5_allowed_2 : decode cX5_allowed 2 = .ok (.invokevirtual 94, 3) := fo_182 (fd_n 2 sr_X5_allowed_0 rfl) rfl
theorem dX5_allowed_5 : decode cX5_allowed 5 = .ok (.istore_n 2, 1) := fo_61 (fd_n 5 sr_X5_allowed_0 rfl)
theorem dX5_allowed_6 : decode cX5_allowed 6 = .ok (.iload_n 2, 1) := fo_28 (fd_n 6 sr_X5_allowed_0 rfl)
theorem dX5_allowed_7 : decode cX5_allowed 7 = .ok (.ifCond .eq 9, 3) := fo_153 (fd_n 7 sr_X5_allowed_0 rfl) (by decide +kernel)
theorem dX5_allowed_10 : decode cX5_allowed 10 = .ok (.aload_n 0, 1) := fo_42 (fd_n 10 sr_X5_allowed_0 rfl)
theorem dX5_allowed_11 : decode cX5_allowed 11 = .ok (.iload_n 2, 1) := fo_28 (fd_n 11 sr_X5_allowed_0 rfl)
theorem dX5_allowed_12 : decode cX5_allowed 12 = .ok (.invokevirtual 80, 3) := fo_182 (fd_n 12 sr_X5_allowed_0 rfl) rfl
theorem dX5_allowed_15 : decode cX5_allowed 15 = .ok (.ireturn, 1) := fo_172 (fd_n 15 sr_X5_allowed_0 rfl)
theorem dX5_allowed_16 : decode cX5_allowed 16 = .ok (.aload_n 0, 1) := fo_42 (fd_n 16 sr_X5_allowed_0 rfl)
theorem dX5_allowed_17 : decode cX5_allowed 17 = .ok (.iload_n 1, 1) := fo_27 (fd_n 17 sr_X5_allowed_0 rfl)
theorem dX5_allowed_18 : decode cX5_allowed 18 = .ok (.iconst 2, 1) := fo_5 (fd_n 18 sr_X5_allowed_0 rfl)
theorem dX5_allowed_19 : decode cX5_allowed 19 = .ok (.invokevirtual 62, 3) := fo_182 (fd_n 19 sr_X5_allowed_0 rfl) rfl
theorem dX5_allowed_22 : decode cX5_allowed 22 = .ok (.istore_n 3, 1) := fo_62 (fd_n 22 sr_X5_allowed_0 rfl)
theorem dX5_allowed_23 : decode cX5_allowed 23 = .ok (.aload_n 0, 1) := fo_42 (fd_n 23 sr_X5_allowed_0 rfl)
theorem dX5_allowed_24 : decode cX5_allowed 24 = .ok (.getfield 7, 3) := fo_180 (fd_n 24 sr_X5_allowed_0 rfl) rfl
theorem dX5_allowed_27 : decode cX5_allowed 27 = .ok (.iload_n 1, 1) := fo_27 (fd_n 27 sr_X5_allowed_0 rfl)
theorem dX5_allowed_28 : decode cX5_allowed 28 = .ok (.iconst 2, 1) := fo_5 sr_X5_allowed_1
theorem dX5_allowed_29 : decode cX5_allowed 29 = .ok (.invokestatic 46, 3) := fo_184 (fd_n 1 sr_X5_allowed_1 rfl) rfl
theorem dX5_allowed_32 : decode cX5_allowed 32 = .ok (.iconst 0, 1) := fo_3 (fd_n 4 sr_X5_allowed_1 rfl)
theorem dX5_allowed_33 : decode cX5_allowed 33 = .ok (.iastore, 1) := fo_79 (fd_n 5 sr_X5_allowed_1 rfl)
theorem dX5_allowed_34 : decode cX5_allowed 34 = .ok (.aload_n 0, 1) := fo_42 (fd_n 6 sr_X5_allowed_1 rfl)
theorem dX5_allowed_35 : decode cX5_allowed 35 = .ok (.invokevirtual 169, 3) := fo_182 (fd_n 7 sr_X5_allowed_1 rfl) rfl
theorem dX5_allowed_38 : decode cX5_allowed 38 = .ok (.invokestatic 156, 3) := fo_184 (fd_n 10 sr_X5_allowed_1 rfl) rfl
theorem dX5_allowed_41 : decode cX5_allowed 41 = .ok (.istore 4, 2) := fo_54 (fd_n 13 sr_X5_allowed_1 rfl) rfl
theorem dX5_allowed_43 : decode cX5_allowed 43 = .ok (.iconst 0, 1) := fo_3 (fd_n 15 sr_X5_allowed_1 rfl)
theorem dX5_allowed_44 : decode cX5_allowed 44 = .ok (.istore 5, 2) := fo_54 (fd_n 16 sr_X5_allowed_1 rfl) rfl
theorem dX5_allowed_46 : decode cX5_allowed 46 = .ok (.iconst 1, 1) := fo_4 (fd_n 18 sr_X5_allowed_1 rfl)
theorem dX5_allowed_47 : decode cX5_allowed 47 = .ok (.istore 6, 2) := fo_54 (fd_n 19 sr_X5_allowed_1 rfl) rfl
theorem dX5_allowed_49 : decode cX5_allowed 49 = .ok (.iload 6, 2) := fo_21 (fd_n 21 sr_X5_allowed_1 rfl) rfl
theorem dX5_allowed_51 : decode cX5_allowed 51 = .ok (.bipush 10, 2) := fo_16 (fd_n 23 sr_X5_allowed_1 rfl) (by decide +kernel)
theorem dX5_allowed_53 : decode cX5_allowed 53 = .ok (.if_icmp .ge 42, 3) := fo_162 (fd_n 25 sr_X5_allowed_1 rfl) (by decide +kernel)
theorem dX5_allowed_56 : decode cX5_allowed 56 = .ok (.aload_n 0, 1) := fo_42 sr_X5_allowed_2
theorem dX5_allowed_57 : decode cX5_allowed 57 = .ok (.getfield 7, 3) := fo_180 (fd_n 1 sr_X5_allowed_2 rfl) rfl
theorem dX5_allowed_60 : decode cX5_allowed 60 = .ok (.iload_n 1, 1) := fo_27 (fd_n 4 sr_X5_allowed_2 rfl)
theorem dX5_allowed_61 : decode cX5_allowed 61 = .ok (.iconst 2, 1) := fo_5 (fd_n 5 sr_X5_allowed_2 rfl)
theorem dX5_allowed_62 : decode cX5_allowed 62 = .ok (.invokestatic 46, 3) := fo_184 (fd_n 6 sr_X5_allowed_2 rfl) rfl
theorem dX5_allowed_65 : decode cX5_allowed 65 = .ok (.iload 6, 2) := fo_21 (fd_n 9 sr_X5_allowed_2 rfl) rfl
theorem dX5_allowed_67 : decode cX5_allowed 67 = .ok (.iastore, 1) := fo_79 (fd_n 11 sr_X5_allowed_2 rfl)
theorem dX5_allowed_68 : decode cX5_allowed 68 = .ok (.aload_n 0, 1) := fo_42 (fd_n 12 sr_X5_allowed_2 rfl)
theorem dX5_allowed_69 : decode cX5_allowed 69 = .ok (.invokevirtual 169, 3) := fo_182 (fd_n 13 sr_X5_allowed_2 rfl) rfl
theorem dX5_allowed_72 : decode cX5_allowed 72 = .ok (.invokestatic 156, 3) := fo_184 (fd_n 16 sr_X5_allowed_2 rfl) rfl
theorem dX5_allowed_75 : decode cX5_allowed 75 = .ok (.iload 4, 2) := fo_21 (fd_n 19 sr_X5_allowed_2 rfl) rfl
theorem dX5_allowed_77 : decode cX5_allowed 77 = .ok (.if_icmp .gt 8, 3) := fo_163 (fd_n 21 sr_X5_allowed_2 rfl) (by decide +kernel)
theorem dX5_allowed_80 : decode cX5_allowed 80 = .ok (.iload 6, 2) := fo_21 (fd_n 24 sr_X5_allowed_2 rfl) rfl
theorem dX5_allowed_82 : decode cX5_allowed 82 = .ok (.goto 5, 3) := fo_167 (fd_n 26 sr_X5_allowed_2 rfl) (by decide +kernel)
theorem dX5_allowed_85 : decode cX5_allowed 85 = .ok (.iload 5, 2) := fo_21 sr_X5_allowed_3 rfl
theorem dX5_allowed_87 : decode cX5_allowed 87 = .ok (.istore 5, 2) := fo_54 (fd_n 2 sr_X5_allowed_3 rfl) rfl
theorem dX5_allowed_89 : decode cX5_allowed 89 = .ok (.iinc 6 1, 3) := fo_132 (fd_n 4 sr_X5_allowed_3 rfl) rfl (by decide +kernel)
theorem dX5_allowed_92 : decode cX5_allowed 92 = .ok (.goto (-43), 3) := fo_167 (fd_n 7 sr_X5_allowed_3 rfl) (by decide +kernel)
theorem dX5_allowed_95 : decode cX5_allowed 95 = .ok (.aload_n 0, 1) := fo_42 (fd_n 10 sr_X5_allowed_3 rfl)
theorem dX5_allowed_96 : decode cX5_allowed 96 = .ok (.getfield 7, 3) := fo_180 (fd_n 11 sr_X5_allowed_3 rfl) rfl
theorem dX5_allowed_99 : decode cX5_allowed 99 = .ok (.iload_n 1, 1) := fo_27 (fd_n 14 sr_X5_allowed_3 rfl)
theorem dX5_allowed_100 : decode cX5_allowed 100 = .ok (.iconst 2, 1) := fo_5 (fd_n 15 sr_X5_allowed_3 rfl)
theorem dX5_allowed_101 : decode cX5_allowed 101 = .ok (.invokestatic 46, 3) := fo_184 (fd_n 16 sr_X5_allowed_3 rfl) rfl
theorem dX5_allowed_104 : decode cX5_allowed 104 = .ok (.iload_n 3, 1) := fo_29 (fd_n 19 sr_X5_allowed_3 rfl)
theorem dX5_allowed_105 : decode cX5_allowed 105 = .ok (.iastore, 1) := fo_79 (fd_n 20 sr_X5_allowed_3 rfl)
theorem dX5_allowed_106 : decode cX5_allowed 106 = .ok (.iload 5, 2) := fo_21 (fd_n 21 sr_X5_allowed_3 rfl) rfl
theorem dX5_allowed_108 : decode cX5_allowed 108 = .ok (.ireturn, 1) := fo_172 (fd_n 23 sr_X5_allowed_3 rfl)
noncomputable def sl_X5_viewOf_0 : List UInt8 := 42 :: 27 :: 182 :: 0 :: 159 :: 42 :: 180 :: 0 :: 146 :: 172 :: []
theorem sr_X5_viewOf_0 : fd_at cX5_viewOf 0 sl_X5_viewOf_0 := fd_base (by decide +kernel)
theorem dX5_viewOf_0 : decode cX5_viewOf 0 = .ok (.aload_n 0, 1) := fo_42 sr_X5_viewOf_0
theorem dX5_viewOf_1 : decode cX5_viewOf 1 = .ok (.iload_n 1, 1) := fo_27 (fd_n 1 sr_X5_viewOf_0 rfl)
theorem dX5_viewOf_2 : decode cX5_viewOf 2 = .ok (.invokevirtual 159, 3) := fo_182 (fd_n 2 sr_X5_viewOf_0 rfl) rfl
theorem dX5_viewOf_5 : decode cX5_viewOf 5 = .ok (.aload_n 0, 1) := fo_42 (fd_n 5 sr_X5_viewOf_0 rfl)
theorem dX5_viewOf_6 : decode cX5_viewOf 6 = .ok (.getfield 146, 3) := fo_180 (fd_n 6 sr_X5_viewOf_0 rfl) rfl
theorem dX5_viewOf_9 : decode cX5_viewOf 9 = .ok (.ireturn, 1) := fo_172 (fd_n 9 sr_X5_viewOf_0 rfl)
noncomputable def sl_X5_opens_3 : List UInt8 := 27 :: 3 :: 184 :: 0 :: 46 :: 29 :: 79 :: 132 :: 5 :: 1 :: 167 :: 255 :: 188 :: 21 :: 4 :: 172 :: []
noncomputable def sl_X5_opens_2 : List UInt8 := 2 :: 79 :: 21 :: 4 :: 42 :: 21 :: 5 :: 182 :: 0 :: 203 :: 21 :: 6 :: 164 :: 0 :: 10 :: 4 :: 21 :: 5 :: 120 :: 167 :: 0 :: 4 :: 3 :: 128 :: 54 :: 4 :: 42 :: 180 :: 0 :: 7 :: sl_X5_opens_3
noncomputable def sl_X5_opens_1 : List UInt8 := 21 :: 5 :: 42 :: 180 :: 0 :: 7 :: 4 :: 46 :: 162 :: 0 :: 63 :: 42 :: 21 :: 5 :: 182 :: 0 :: 203 :: 54 :: 6 :: 42 :: 180 :: 0 :: 7 :: 27 :: 3 :: 184 :: 0 :: 46 :: sl_X5_opens_2
noncomputable def sl_X5_opens_0 : List UInt8 := 42 :: 27 :: 182 :: 0 :: 94 :: 61 :: 28 :: 153 :: 0 :: 9 :: 42 :: 28 :: 182 :: 0 :: 80 :: 172 :: 42 :: 27 :: 3 :: 182 :: 0 :: 62 :: 62 :: 3 :: 54 :: 4 :: 3 :: 54 :: 5 :: sl_X5_opens_1
theorem sr_X5_opens_0 : fd_at cX5_opens 0 sl_X5_opens_0 := fd_base (by decide +kernel)
theorem sr_X5_opens_1 : fd_at cX5_opens 29 sl_X5_opens_1 := fd_n 29 sr_X5_opens_0 rfl
theorem sr_X5_opens_2 : fd_at cX5_opens 57 sl_X5_opens_2 := fd_n 28 sr_X5_opens_1 rfl
theorem sr_X5_opens_3 : fd_at cX5_opens 87 sl_X5_opens_3 := fd_n 30 sr_X5_opens_2 rfl
theorem dX5_opens_0 : decode cX5_opens 0 = .ok (.aload_n 0, 1) := fo_42 sr_X5_opens_0
theorem dX5_opens_1 : decode cX5_opens 1 = .ok (.iload_n 1, 1) := fo_27 (fd_n 1 sr_X5_opens_0 rfl)
theorem dX5_opens_2 : decode cX5_opens 2 = .ok (.invokevirtual 94, 3) := fo_182 (fd_n 2 sr_X5_opens_0 rfl) rfl
theorem dX5_opens_5 : decode cX5_opens 5 = .ok (.istore_n 2, 1) := fo_61 (fd_n 5 sr_X5_opens_0 rfl)
theorem dX5_opens_6 : decode cX5_opens 6 = .ok (.iload_n 2, 1) := fo_28 (fd_n 6 sr_X5_opens_0 rfl)
theorem dX5_opens_7 : decode cX5_opens 7 = .ok (.ifCond .eq 9, 3) := fo_153 (fd_n 7 sr_X5_opens_0 rfl) (by decide +kernel)
theorem dX5_opens_10 : decode cX5_opens 10 = .ok (.aload_n 0, 1) := fo_42 (fd_n 10 sr_X5_opens_0 rfl)
theorem dX5_opens_11 : decode cX5_opens 11 = .ok (.iload_n 2, 1) := fo_28 (fd_n 11 sr_X5_opens_0 rfl)
theorem dX5_opens_12 : decode cX5_opens 12 = .ok (.invokevirtual 80, 3) := fo_182 (fd_n 12 sr_X5_opens_0 rfl) rfl
theorem dX5_opens_15 : decode cX5_opens 15 = .ok (.ireturn, 1) := fo_172 (fd_n 15 sr_X5_opens_0 rfl)
theorem dX5_opens_16 : decode cX5_opens 16 = .ok (.aload_n 0, 1) := fo_42 (fd_n 16 sr_X5_opens_0 rfl)
theorem dX5_opens_17 : decode cX5_opens 17 = .ok (.iload_n 1, 1) := fo_27 (fd_n 17 sr_X5_opens_0 rfl)
theorem dX5_opens_18 : decode cX5_opens 18 = .ok (.iconst 0, 1) := fo_3 (fd_n 18 sr_X5_opens_0 rfl)
theorem dX5_opens_19 : decode cX5_opens 19 = .ok (.invokevirtual 62, 3) := fo_182 (fd_n 19 sr_X5_opens_0 rfl) rfl
theorem dX5_opens_22 : decode cX5_opens 22 = .ok (.istore_n 3, 1) := fo_62 (fd_n 22 sr_X5_opens_0 rfl)
theorem dX5_opens_23 : decode cX5_opens 23 = .ok (.iconst 0, 1) := fo_3 (fd_n 23 sr_X5_opens_0 rfl)
theorem dX5_opens_24 : decode cX5_opens 24 = .ok (.istore 4, 2) := fo_54 (fd_n 24 sr_X5_opens_0 rfl) rfl
theorem dX5_opens_26 : decode cX5_opens 26 = .ok (.iconst 0, 1) := fo_3 (fd_n 26 sr_X5_opens_0 rfl)
theorem dX5_opens_27 : decode cX5_opens 27 = .ok (.istore 5, 2) := fo_54 (fd_n 27 sr_X5_opens_0 rfl) rfl
theorem dX5_opens_29 : decode cX5_opens 29 = .ok (.iload 5, 2) := fo_21 sr_X5_opens_1 rfl
theorem dX5_opens_31 : decode cX5_opens 31 = .ok (.aload_n 0, 1) := fo_42 (fd_n 2 sr_X5_opens_1 rfl)
theorem dX5_opens_32 : decode cX5_opens 32 = .ok (.getfield 7, 3) := fo_180 (fd_n 3 sr_X5_opens_1 rfl) rfl
theorem dX5_opens_35 : decode cX5_opens 35 = .ok (.iconst 1, 1) := fo_4 (fd_n 6 sr_X5_opens_1 rfl)
theorem dX5_opens_36 : decode cX5_opens 36 = .ok (.iaload, 1) := fo_46 (fd_n 7 sr_X5_opens_1 rfl)
theorem dX5_opens_37 : decode cX5_opens 37 = .ok (.if_icmp .ge 63, 3) := fo_162 (fd_n 8 sr_X5_opens_1 rfl) (by decide +kernel)
theorem dX5_opens_40 : decode cX5_opens 40 = .ok (.aload_n 0, 1) := fo_42 (fd_n 11 sr_X5_opens_1 rfl)
theorem dX5_opens_41 : decode cX5_opens 41 = .ok (.iload 5, 2) := fo_21 (fd_n 12 sr_X5_opens_1 rfl) rfl
theorem dX5_opens_43 : decode cX5_opens 43 = .ok (.invokevirtual 203, 3) := fo_182 (fd_n 14 sr_X5_opens_1 rfl) rfl
theorem dX5_opens_46 : decode cX5_opens 46 = .ok (.istore 6, 2) := fo_54 (fd_n 17 sr_X5_opens_1 rfl) rfl
theorem dX5_opens_48 : decode cX5_opens 48 = .ok (.aload_n 0, 1) := fo_42 (fd_n 19 sr_X5_opens_1 rfl)
theorem dX5_opens_49 : decode cX5_opens 49 = .ok (.getfield 7, 3) := fo_180 (fd_n 20 sr_X5_opens_1 rfl) rfl
theorem dX5_opens_52 : decode cX5_opens 52 = .ok (.iload_n 1, 1) := fo_27 (fd_n 23 sr_X5_opens_1 rfl)
theorem dX5_opens_53 : decode cX5_opens 53 = .ok (.iconst 0, 1) := fo_3 (fd_n 24 sr_X5_opens_1 rfl)
theorem dX5_opens_54 : decode cX5_opens 54 = .ok (.invokestatic 46, 3) := fo_184 (fd_n 25 sr_X5_opens_1 rfl) rfl
theorem dX5_opens_57 : decode cX5_opens 57 = .ok (.iconst (-1), 1) := fo_2 sr_X5_opens_2
theorem dX5_opens_58 : decode cX5_opens 58 = .ok (.iastore, 1) := fo_79 (fd_n 1 sr_X5_opens_2 rfl)
theorem dX5_opens_59 : decode cX5_opens 59 = .ok (.iload 4, 2) := fo_21 (fd_n 2 sr_X5_opens_2 rfl) rfl
theorem dX5_opens_61 : decode cX5_opens 61 = .ok (.aload_n 0, 1) := fo_42 (fd_n 4 sr_X5_opens_2 rfl)
theorem dX5_opens_62 : decode cX5_opens 62 = .ok (.iload 5, 2) := fo_21 (fd_n 5 sr_X5_opens_2 rfl) rfl
theorem dX5_opens_64 : decode cX5_opens 64 = .ok (.invokevirtual 203, 3) := fo_182 (fd_n 7 sr_X5_opens_2 rfl) rfl
theorem dX5_opens_67 : decode cX5_opens 67 = .ok (.iload 6, 2) := fo_21 (fd_n 10 sr_X5_opens_2 rfl) rfl
theorem dX5_opens_69 : decode cX5_opens 69 = .ok (.if_icmp .le 10, 3) := fo_164 (fd_n 12 sr_X5_opens_2 rfl) (by decide +kernel)
theorem dX5_opens_72 : decode cX5_opens 72 = .ok (.iconst 1, 1) := fo_4 (fd_n 15 sr_X5_opens_2 rfl)
theorem dX5_opens_73 : decode cX5_opens 73 = .ok (.iload 5, 2) := fo_21 (fd_n 16 sr_X5_opens_2 rfl) rfl
theorem dX5_opens_75 : decode cX5_opens 75 = .ok (.ishl, 1) := fo_120 (fd_n 18 sr_X5_opens_2 rfl)
theorem dX5_opens_76 : decode cX5_opens 76 = .ok (.goto 4, 3) := fo_167 (fd_n 19 sr_X5_opens_2 rfl) (by decide +kernel)
theorem dX5_opens_79 : decode cX5_opens 79 = .ok (.iconst 0, 1) := fo_3 (fd_n 22 sr_X5_opens_2 rfl)
theorem dX5_opens_80 : decode cX5_opens 80 = .ok (.ior, 1) := fo_128 (fd_n 23 sr_X5_opens_2 rfl)
theorem dX5_opens_81 : decode cX5_opens 81 = .ok (.istore 4, 2) := fo_54 (fd_n 24 sr_X5_opens_2 rfl) rfl
theorem dX5_opens_83 : decode cX5_opens 83 = .ok (.aload_n 0, 1) := fo_42 (fd_n 26 sr_X5_opens_2 rfl)
theorem dX5_opens_84 : decode cX5_opens 84 = .ok (.getfield 7, 3) := fo_180 (fd_n 27 sr_X5_opens_2 rfl) rfl
theorem dX5_opens_87 : decode cX5_opens 87 = .ok (.iload_n 1, 1) := fo_27 sr_X5_opens_3
theorem dX5_opens_88 : decode cX5_opens 88 = .ok (.iconst 0, 1) := fo_3 (fd_n 1 sr_X5_opens_3 rfl)
theorem dX5_opens_89 : decode cX5_opens 89 = .ok (.invokestatic 46, 3) := fo_184 (fd_n 2 sr_X5_opens_3 rfl) rfl
theorem dX5_opens_92 : decode cX5_opens 92 = .ok (.iload_n 3, 1) := fo_29 (fd_n 5 sr_X5_opens_3 rfl)
theorem dX5_opens_93 : decode cX5_opens 93 = .ok (.iastore, 1) := fo_79 (fd_n 6 sr_X5_opens_3 rfl)
theorem dX5_opens_94 : decode cX5_opens 94 = .ok (.iinc 5 1, 3) := fo_132 (fd_n 7 sr_X5_opens_3 rfl) rfl (by decide +kernel)
theorem dX5_opens_97 : decode cX5_opens 97 = .ok (.goto (-68), 3) := fo_167 (fd_n 10 sr_X5_opens_3 rfl) (by decide +kernel)
theorem dX5_opens_100 : decode cX5_opens 100 = .ok (.iload 4, 2) := fo_21 (fd_n 13 sr_X5_opens_3 rfl) rfl
theorem dX5_opens_102 : decode cX5_opens 102 = .ok (.ireturn, 1) := fo_172 (fd_n 15 sr_X5_opens_3 rfl)
noncomputable def sl_X5_level_3 : List UInt8 := 54 :: 4 :: 132 :: 5 :: 1 :: 167 :: 255 :: 197 :: 42 :: 180 :: 0 :: 7 :: 27 :: 4 :: 184 :: 0 :: 114 :: 28 :: 79 :: 29 :: 172 :: []
noncomputable def sl_X5_level_2 : List UInt8 := 21 :: 6 :: 21 :: 4 :: 164 :: 0 :: 8 :: 21 :: 5 :: 167 :: 0 :: 4 :: 29 :: 62 :: 21 :: 6 :: 21 :: 4 :: 164 :: 0 :: 8 :: 21 :: 6 :: 167 :: 0 :: 5 :: 21 :: 4 :: sl_X5_level_3
noncomputable def sl_X5_level_1 : List UInt8 := 54 :: 5 :: 21 :: 5 :: 16 :: 10 :: 162 :: 0 :: 58 :: 42 :: 180 :: 0 :: 7 :: 27 :: 4 :: 184 :: 0 :: 114 :: 21 :: 5 :: 79 :: 42 :: 27 :: 182 :: 0 :: 203 :: 54 :: 6 :: sl_X5_level_2
noncomputable def sl_X5_level_0 : List UInt8 := 42 :: 27 :: 182 :: 0 :: 122 :: 154 :: 0 :: 10 :: 42 :: 18 :: 50 :: 182 :: 0 :: 80 :: 172 :: 42 :: 27 :: 4 :: 182 :: 0 :: 127 :: 61 :: 3 :: 62 :: 2 :: 54 :: 4 :: 3 :: sl_X5_level_1
theorem sr_X5_level_0 : fd_at cX5_level 0 sl_X5_level_0 := fd_base (by decide +kernel)
theorem sr_X5_level_1 : fd_at cX5_level 28 sl_X5_level_1 := fd_n 28 sr_X5_level_0 rfl
theorem sr_X5_level_2 : fd_at cX5_level 56 sl_X5_level_2 := fd_n 28 sr_X5_level_1 rfl
theorem sr_X5_level_3 : fd_at cX5_level 84 sl_X5_level_3 := fd_n 28 sr_X5_level_2 rfl
theorem dX5_level_0 : decode cX5_level 0 = .ok (.aload_n 0, 1) := fo_42 sr_X5_level_0
theorem dX5_level_1 : decode cX5_level 1 = .ok (.iload_n 1, 1) := fo_27 (fd_n 1 sr_X5_level_0 rfl)
theorem dX5_level_2 : decode cX5_level 2 = .ok (.invokevirtual 122, 3) := fo_182 (fd_n 2 sr_X5_level_0 rfl) rfl
theorem dX5_level_5 : decode cX5_level 5 = .ok (.ifCond .ne 10, 3) := fo_154 (fd_n 5 sr_X5_level_0 rfl) (by decide +kernel)
theorem dX5_level_8 : decode cX5_level 8 = .ok (.aload_n 0, 1) := fo_42 (fd_n 8 sr_X5_level_0 rfl)
theorem dX5_level_9 : decode cX5_level 9 = .ok (.ldc 50, 2) := fo_18 (fd_n 9 sr_X5_level_0 rfl) rfl
theorem dX5_level_11 : decode cX5_level 11 = .ok (.invokevirtual 80, 3) := fo_182 (fd_n 11 sr_X5_level_0 rfl) rfl
theorem dX5_level_14 : decode cX5_level 14 = .ok (.ireturn, 1) := fo_172 (fd_n 14 sr_X5_level_0 rfl)
theorem dX5_level_15 : decode cX5_level 15 = .ok (.aload_n 0, 1) := fo_42 (fd_n 15 sr_X5_level_0 rfl)
theorem dX5_level_16 : decode cX5_level 16 = .ok (.iload_n 1, 1) := fo_27 (fd_n 16 sr_X5_level_0 rfl)
theorem dX5_level_17 : decode cX5_level 17 = .ok (.iconst 1, 1) := fo_4 (fd_n 17 sr_X5_level_0 rfl)
theorem dX5_level_18 : decode cX5_level 18 = .ok (.invokevirtual 127, 3) := fo_182 (fd_n 18 sr_X5_level_0 rfl) rfl
theorem dX5_level_21 : decode cX5_level 21 = .ok (.istore_n 2, 1) := fo_61 (fd_n 21 sr_X5_level_0 rfl)
theorem dX5_level_22 : decode cX5_level 22 = .ok (.iconst 0, 1) := fo_3 (fd_n 22 sr_X5_level_0 rfl)
theorem dX5_level_23 : decode cX5_level 23 = .ok (.istore_n 3, 1) := fo_62 (fd_n 23 sr_X5_level_0 rfl)
theorem dX5_level_24 : decode cX5_level 24 = .ok (.iconst (-1), 1) := fo_2 (fd_n 24 sr_X5_level_0 rfl)
theorem dX5_level_25 : decode cX5_level 25 = .ok (.istore 4, 2) := fo_54 (fd_n 25 sr_X5_level_0 rfl) rfl
theorem dX5_level_27 : decode cX5_level 27 = .ok (.iconst 0, 1) := fo_3 (fd_n 27 sr_X5_level_0 rfl)
theorem dX5_level_28 : decode cX5_level 28 = .ok (.istore 5, 2) := fo_54 sr_X5_level_1 rfl
theorem dX5_level_30 : decode cX5_level 30 = .ok (.iload 5, 2) := fo_21 (fd_n 2 sr_X5_level_1 rfl) rfl
theorem dX5_level_32 : decode cX5_level 32 = .ok (.bipush 10, 2) := fo_16 (fd_n 4 sr_X5_level_1 rfl) (by decide +kernel)
theorem dX5_level_34 : decode cX5_level 34 = .ok (.if_icmp .ge 58, 3) := fo_162 (fd_n 6 sr_X5_level_1 rfl) (by decide +kernel)
theorem dX5_level_37 : decode cX5_level 37 = .ok (.aload_n 0, 1) := fo_42 (fd_n 9 sr_X5_level_1 rfl)
theorem dX5_level_38 : decode cX5_level 38 = .ok (.getfield 7, 3) := fo_180 (fd_n 10 sr_X5_level_1 rfl) rfl
theorem dX5_level_41 : decode cX5_level 41 = .ok (.iload_n 1, 1) := fo_27 (fd_n 13 sr_X5_level_1 rfl)
theorem dX5_level_42 : decode cX5_level 42 = .ok (.iconst 1, 1) := fo_4 (fd_n 14 sr_X5_level_1 rfl)
theorem dX5_level_43 : decode cX5_level 43 = .ok (.invokestatic 114, 3) := fo_184 (fd_n 15 sr_X5_level_1 rfl) rfl
theorem dX5_level_46 : decode cX5_level 46 = .ok (.iload 5, 2) := fo_21 (fd_n 18 sr_X5_level_1 rfl) rfl
theorem dX5_level_48 : decode cX5_level 48 = .ok (.iastore, 1) := fo_79 (fd_n 20 sr_X5_level_1 rfl)
theorem dX5_level_49 : decode cX5_level 49 = .ok (.aload_n 0, 1) := fo_42 (fd_n 21 sr_X5_level_1 rfl)
theorem dX5_level_50 : decode cX5_level 50 = .ok (.iload_n 1, 1) := fo_27 (fd_n 22 sr_X5_level_1 rfl)
theorem dX5_level_51 : decode cX5_level 51 = .ok (.invokevirtual 203, 3) := fo_182 (fd_n 23 sr_X5_level_1 rfl) rfl
theorem dX5_level_54 : decode cX5_level 54 = .ok (.istore 6, 2) := fo_54 (fd_n 26 sr_X5_level_1 rfl) rfl
theorem dX5_level_56 : decode cX5_level 56 = .ok (.iload 6, 2) := fo_21 sr_X5_level_2 rfl
theorem dX5_level_58 : decode cX5_level 58 = .ok (.iload 4, 2) := fo_21 (fd_n 2 sr_X5_level_2 rfl) rfl
theorem dX5_level_60 : decode cX5_level 60 = .ok (.if_icmp .le 8, 3) := fo_164 (fd_n 4 sr_X5_level_2 rfl) (by decide +kernel)
theorem dX5_level_63 : decode cX5_level 63 = .ok (.iload 5, 2) := fo_21 (fd_n 7 sr_X5_level_2 rfl) rfl
theorem dX5_level_65 : decode cX5_level 65 = .ok (.goto 4, 3) := fo_167 (fd_n 9 sr_X5_level_2 rfl) (by decide +kernel)
theorem dX5_level_68 : decode cX5_level 68 = .ok (.iload_n 3, 1) := fo_29 (fd_n 12 sr_X5_level_2 rfl)
theorem dX5_level_69 : decode cX5_level 69 = .ok (.istore_n 3, 1) := fo_62 (fd_n 13 sr_X5_level_2 rfl)
theorem dX5_level_70 : decode cX5_level 70 = .ok (.iload 6, 2) := fo_21 (fd_n 14 sr_X5_level_2 rfl) rfl
theorem dX5_level_72 : decode cX5_level 72 = .ok (.iload 4, 2) := fo_21 (fd_n 16 sr_X5_level_2 rfl) rfl
theorem dX5_level_74 : decode cX5_level 74 = .ok (.if_icmp .le 8, 3) := fo_164 (fd_n 18 sr_X5_level_2 rfl) (by decide +kernel)
theorem dX5_level_77 : decode cX5_level 77 = .ok (.iload 6, 2) := fo_21 (fd_n 21 sr_X5_level_2 rfl) rfl
theorem dX5_level_79 : decode cX5_level 79 = .ok (.goto 5, 3) := fo_167 (fd_n 23 sr_X5_level_2 rfl) (by decide +kernel)
theorem dX5_level_82 : decode cX5_level 82 = .ok (.iload 4, 2) := fo_21 (fd_n 26 sr_X5_level_2 rfl) rfl
theorem dX5_level_84 : decode cX5_level 84 = .ok (.istore 4, 2) := fo_54 sr_X5_level_3 rfl
theorem dX5_level_86 : decode cX5_level 86 = .ok (.iinc 5 1, 3) := fo_132 (fd_n 2 sr_X5_level_3 rfl) rfl (by decide +kernel)
theorem dX5_level_89 : decode cX5_level 89 = .ok (.goto (-59), 3) := fo_167 (fd_n 5 sr_X5_level_3 rfl) (by decide +kernel)
theorem dX5_level_92 : decode cX5_level 92 = .ok (.aload_n 0, 1) := fo_42 (fd_n 8 sr_X5_level_3 rfl)
theorem dX5_level_93 : decode cX5_level 93 = .ok (.getfield 7, 3) := fo_180 (fd_n 9 sr_X5_level_3 rfl) rfl
theorem dX5_level_96 : decode cX5_level 96 = .ok (.iload_n 1, 1) := fo_27 (fd_n 12 sr_X5_level_3 rfl)
theorem dX5_level_97 : decode cX5_level 97 = .ok (.iconst 1, 1) := fo_4 (fd_n 13 sr_X5_level_3 rfl)
theorem dX5_level_98 : decode cX5_level 98 = .ok (.invokestatic 114, 3) := fo_184 (fd_n 14 sr_X5_level_3 rfl) rfl
theorem dX5_level_101 : decode cX5_level 101 = .ok (.iload_n 2, 1) := fo_28 (fd_n 17 sr_X5_level_3 rfl)
theorem dX5_level_102 : decode cX5_level 102 = .ok (.iastore, 1) := fo_79 (fd_n 18 sr_X5_level_3 rfl)
theorem dX5_level_103 : decode cX5_level 103 = .ok (.iload_n 3, 1) := fo_29 (fd_n 19 sr_X5_level_3 rfl)
theorem dX5_level_104 : decode cX5_level 104 = .ok (.ireturn, 1) := fo_172 (fd_n 20 sr_X5_level_3 rfl)
noncomputable def sl_X5_cheapest_3 : List UInt8 := 27 :: 5 :: 184 :: 0 :: 114 :: 28 :: 79 :: 29 :: 172 :: []
noncomputable def sl_X5_cheapest_2 : List UInt8 := 42 :: 180 :: 0 :: 150 :: 21 :: 4 :: 162 :: 0 :: 12 :: 21 :: 5 :: 62 :: 42 :: 180 :: 0 :: 150 :: 54 :: 4 :: 132 :: 5 :: 1 :: 167 :: 255 :: 208 :: 42 :: 180 :: 0 :: 7 :: sl_X5_cheapest_3
noncomputable def sl_X5_cheapest_1 : List UInt8 := 54 :: 5 :: 21 :: 5 :: 7 :: 162 :: 0 :: 48 :: 42 :: 180 :: 0 :: 7 :: 27 :: 5 :: 184 :: 0 :: 114 :: 21 :: 5 :: 79 :: 42 :: 27 :: 182 :: 0 :: 159 :: 29 :: 155 :: 0 :: 12 :: sl_X5_cheapest_2
noncomputable def sl_X5_cheapest_0 : List UInt8 := 42 :: 27 :: 182 :: 0 :: 122 :: 154 :: 0 :: 10 :: 42 :: 18 :: 50 :: 182 :: 0 :: 80 :: 172 :: 42 :: 27 :: 5 :: 182 :: 0 :: 127 :: 61 :: 2 :: 62 :: 3 :: 54 :: 4 :: 3 :: sl_X5_cheapest_1
theorem sr_X5_cheapest_0 : fd_at cX5_cheapest 0 sl_X5_cheapest_0 := fd_base (by decide +kernel)
theorem sr_X5_cheapest_1 : fd_at cX5_cheapest 28 sl_X5_cheapest_1 := fd_n 28 sr_X5_cheapest_0 rfl
theorem sr_X5_cheapest_2 : fd_at cX5_cheapest 57 sl_X5_cheapest_2 := fd_n 29 sr_X5_cheapest_1 rfl
theorem sr_X5_cheapest_3 : fd_at cX5_cheapest 85 sl_X5_cheapest_3 := fd_n 28 sr_X5_cheapest_2 rfl
theorem dX5_cheapest_0 : decode cX5_cheapest 0 = .ok (.aload_n 0, 1) := fo_42 sr_X5_cheapest_0
theorem dX5_cheapest_1 : decode cX5_cheapest 1 = .ok (.iload_n 1, 1) := fo_27 (fd_n 1 sr_X5_cheapest_0 rfl)
theorem dX5_cheapest_2 : decode cX5_cheapest 2 = .ok (.invokevirtual 122, 3) := fo_182 (fd_n 2 sr_X5_cheapest_0 rfl) rfl
theorem dX5_cheapest_5 : decode cX5_cheapest 5 = .ok (.ifCond .ne 10, 3) := fo_154 (fd_n 5 sr_X5_cheapest_0 rfl) (by decide +kernel)
theorem dX5_cheapest_8 : decode cX5_cheapest 8 = .ok (.aload_n 0, 1) := fo_42 (fd_n 8 sr_X5_cheapest_0 rfl)
theorem dX5_cheapest_9 : decode cX5_cheapest 9 = .ok (.ldc 50, 2) := fo_18 (fd_n 9 sr_X5_cheapest_0 rfl) rfl
theorem dX5_cheapest_11 : decode cX5_cheapest 11 = .ok (.invokevirtual 80, 3) := fo_182 (fd_n 11 sr_X5_cheapest_0 rfl) rfl
theorem dX5_cheapest_14 : decode cX5_cheapest 14 = .ok (.ireturn, 1) := fo_172 (fd_n 14 sr_X5_cheapest_0 rfl)
theorem dX5_cheapest_15 : decode cX5_cheapest 15 = .ok (.aload_n 0, 1) := fo_42 (fd_n 15 sr_X5_cheapest_0 rfl)
theorem dX5_cheapest_16 : decode cX5_cheapest 16 = .ok (.iload_n 1, 1) := fo_27 (fd_n 16 sr_X5_cheapest_0 rfl)
theorem dX5_cheapest_17 : decode cX5_cheapest 17 = .ok (.iconst 2, 1) := fo_5 (fd_n 17 sr_X5_cheapest_0 rfl)
theorem dX5_cheapest_18 : decode cX5_cheapest 18 = .ok (.invokevirtual 127, 3) := fo_182 (fd_n 18 sr_X5_cheapest_0 rfl) rfl
theorem dX5_cheapest_21 : decode cX5_cheapest 21 = .ok (.istore_n 2, 1) := fo_61 (fd_n 21 sr_X5_cheapest_0 rfl)
theorem dX5_cheapest_22 : decode cX5_cheapest 22 = .ok (.iconst (-1), 1) := fo_2 (fd_n 22 sr_X5_cheapest_0 rfl)
theorem dX5_cheapest_23 : decode cX5_cheapest 23 = .ok (.istore_n 3, 1) := fo_62 (fd_n 23 sr_X5_cheapest_0 rfl)
theorem dX5_cheapest_24 : decode cX5_cheapest 24 = .ok (.iconst 0, 1) := fo_3 (fd_n 24 sr_X5_cheapest_0 rfl)
theorem dX5_cheapest_25 : decode cX5_cheapest 25 = .ok (.istore 4, 2) := fo_54 (fd_n 25 sr_X5_cheapest_0 rfl) rfl
theorem dX5_cheapest_27 : decode cX5_cheapest 27 = .ok (.iconst 0, 1) := fo_3 (fd_n 27 sr_X5_cheapest_0 rfl)
theorem dX5_cheapest_28 : decode cX5_cheapest 28 = .ok (.istore 5, 2) := fo_54 sr_X5_cheapest_1 rfl
theorem dX5_cheapest_30 : decode cX5_cheapest 30 = .ok (.iload 5, 2) := fo_21 (fd_n 2 sr_X5_cheapest_1 rfl) rfl
theorem dX5_cheapest_32 : decode cX5_cheapest 32 = .ok (.iconst 4, 1) := fo_7 (fd_n 4 sr_X5_cheapest_1 rfl)
theorem dX5_cheapest_33 : decode cX5_cheapest 33 = .ok (.if_icmp .ge 48, 3) := fo_162 (fd_n 5 sr_X5_cheapest_1 rfl) (by decide +kernel)
theorem dX5_cheapest_36 : decode cX5_cheapest 36 = .ok (.aload_n 0, 1) := fo_42 (fd_n 8 sr_X5_cheapest_1 rfl)
theorem dX5_cheapest_37 : decode cX5_cheapest 37 = .ok (.getfield 7, 3) := fo_180 (fd_n 9 sr_X5_cheapest_1 rfl) rfl
theorem dX5_cheapest_40 : decode cX5_cheapest 40 = .ok (.iload_n 1, 1) := fo_27 (fd_n 12 sr_X5_cheapest_1 rfl)
theorem dX5_cheapest_41 : decode cX5_cheapest 41 = .ok (.iconst 2, 1) := fo_5 (fd_n 13 sr_X5_cheapest_1 rfl)
theorem dX5_cheapest_42 : decode cX5_cheapest 42 = .ok (.invokestatic 114, 3) := fo_184 (fd_n 14 sr_X5_cheapest_1 rfl) rfl
theorem dX5_cheapest_45 : decode cX5_cheapest 45 = .ok (.iload 5, 2) := fo_21 (fd_n 17 sr_X5_cheapest_1 rfl) rfl
theorem dX5_cheapest_47 : decode cX5_cheapest 47 = .ok (.iastore, 1) := fo_79 (fd_n 19 sr_X5_cheapest_1 rfl)
theorem dX5_cheapest_48 : decode cX5_cheapest 48 = .ok (.aload_n 0, 1) := fo_42 (fd_n 20 sr_X5_cheapest_1 rfl)
theorem dX5_cheapest_49 : decode cX5_cheapest 49 = .ok (.iload_n 1, 1) := fo_27 (fd_n 21 sr_X5_cheapest_1 rfl)
theorem dX5_cheapest_50 : decode cX5_cheapest 50 = .ok (.invokevirtual 159, 3) := fo_182 (fd_n 22 sr_X5_cheapest_1 rfl) rfl
theorem dX5_cheapest_53 : decode cX5_cheapest 53 = .ok (.iload_n 3, 1) := fo_29 (fd_n 25 sr_X5_cheapest_1 rfl)
theorem dX5_cheapest_54 : decode cX5_cheapest 54 = .ok (.ifCond .lt 12, 3) := fo_155 (fd_n 26 sr_X5_cheapest_1 rfl) (by decide +kernel)
theorem dX5_cheapest_57 : decode cX5_cheapest 57 = .ok (.aload_n 0, 1) := fo_42 sr_X5_cheapest_2
theorem dX5_cheapest_58 : decode cX5_cheapest 58 = .ok (.getfield 150, 3) := fo_180 (fd_n 1 sr_X5_cheapest_2 rfl) rfl
theorem dX5_cheapest_61 : decode cX5_cheapest 61 = .ok (.iload 4, 2) := fo_21 (fd_n 4 sr_X5_cheapest_2 rfl) rfl
theorem dX5_cheapest_63 : decode cX5_cheapest 63 = .ok (.if_icmp .ge 12, 3) := fo_162 (fd_n 6 sr_X5_cheapest_2 rfl) (by decide +kernel)
theorem dX5_cheapest_66 : decode cX5_cheapest 66 = .ok (.iload 5, 2) := fo_21 (fd_n 9 sr_X5_cheapest_2 rfl) rfl
theorem dX5_cheapest_68 : decode cX5_cheapest 68 = .ok (.istore_n 3, 1) := fo_62 (fd_n 11 sr_X5_cheapest_2 rfl)
theorem dX5_cheapest_69 : decode cX5_cheapest 69 = .ok (.aload_n 0, 1) := fo_42 (fd_n 12 sr_X5_cheapest_2 rfl)
theorem dX5_cheapest_70 : decode cX5_cheapest 70 = .ok (.getfield 150, 3) := fo_180 (fd_n 13 sr_X5_cheapest_2 rfl) rfl
theorem dX5_cheapest_73 : decode cX5_cheapest 73 = .ok (.istore 4, 2) := fo_54 (fd_n 16 sr_X5_cheapest_2 rfl) rfl
theorem dX5_cheapest_75 : decode cX5_cheapest 75 = .ok (.iinc 5 1, 3) := fo_132 (fd_n 18 sr_X5_cheapest_2 rfl) rfl (by decide +kernel)
theorem dX5_cheapest_78 : decode cX5_cheapest 78 = .ok (.goto (-48), 3) := fo_167 (fd_n 21 sr_X5_cheapest_2 rfl) (by decide +kernel)
theorem dX5_cheapest_81 : decode cX5_cheapest 81 = .ok (.aload_n 0, 1) := fo_42 (fd_n 24 sr_X5_cheapest_2 rfl)
theorem dX5_cheapest_82 : decode cX5_cheapest 82 = .ok (.getfield 7, 3) := fo_180 (fd_n 25 sr_X5_cheapest_2 rfl) rfl
theorem dX5_cheapest_85 : decode cX5_cheapest 85 = .ok (.iload_n 1, 1) := fo_27 sr_X5_cheapest_3
theorem dX5_cheapest_86 : decode cX5_cheapest 86 = .ok (.iconst 2, 1) := fo_5 (fd_n 1 sr_X5_cheapest_3 rfl)
theorem dX5_cheapest_87 : decode cX5_cheapest 87 = .ok (.invokestatic 114, 3) := fo_184 (fd_n 2 sr_X5_cheapest_3 rfl) rfl
theorem dX5_cheapest_90 : decode cX5_cheapest 90 = .ok (.iload_n 2, 1) := fo_28 (fd_n 5 sr_X5_cheapest_3 rfl)
theorem dX5_cheapest_91 : decode cX5_cheapest 91 = .ok (.iastore, 1) := fo_79 (fd_n 6 sr_X5_cheapest_3 rfl)
theorem dX5_cheapest_92 : decode cX5_cheapest 92 = .ok (.iload_n 3, 1) := fo_29 (fd_n 7 sr_X5_cheapest_3 rfl)
theorem dX5_cheapest_93 : decode cX5_cheapest 93 = .ok (.ireturn, 1) := fo_172 (fd_n 8 sr_X5_cheapest_3 rfl)
noncomputable def sl_X5_site_4 : List UInt8 := 182 :: 0 :: 80 :: 167 :: 0 :: 5 :: 21 :: 4 :: 172 :: []
noncomputable def sl_X5_site_3 : List UInt8 := 21 :: 7 :: 21 :: 5 :: 164 :: 0 :: 11 :: 21 :: 6 :: 54 :: 4 :: 21 :: 7 :: 54 :: 5 :: 132 :: 6 :: 1 :: 167 :: 255 :: 196 :: 21 :: 4 :: 156 :: 0 :: 12 :: 42 :: 18 :: 93 :: sl_X5_site_4
noncomputable def sl_X5_site_2 : List UInt8 := 154 :: 0 :: 44 :: 42 :: 21 :: 6 :: 27 :: 28 :: 29 :: 3 :: 182 :: 0 :: 85 :: 42 :: 28 :: 182 :: 0 :: 166 :: 54 :: 7 :: 42 :: 182 :: 0 :: 191 :: 21 :: 4 :: 155 :: 0 :: 10 :: sl_X5_site_3
noncomputable def sl_X5_site_1 : List UInt8 := 182 :: 0 :: 80 :: 172 :: 2 :: 54 :: 4 :: 3 :: 54 :: 5 :: 42 :: 182 :: 0 :: 185 :: 3 :: 54 :: 6 :: 21 :: 6 :: 16 :: 25 :: 162 :: 0 :: 59 :: 42 :: 21 :: 6 :: 182 :: 0 :: 65 :: sl_X5_site_2
noncomputable def sl_X5_site_0 : List UInt8 := 27 :: 133 :: 9 :: 20 :: 0 :: 69 :: 184 :: 0 :: 53 :: 153 :: 0 :: 17 :: 28 :: 184 :: 0 :: 74 :: 153 :: 0 :: 10 :: 29 :: 184 :: 0 :: 77 :: 154 :: 0 :: 10 :: 42 :: 18 :: 50 :: sl_X5_site_1
theorem sr_X5_site_0 : fd_at cX5_site 0 sl_X5_site_0 := fd_base (by decide +kernel)
theorem sr_X5_site_1 : fd_at cX5_site 29 sl_X5_site_1 := fd_n 29 sr_X5_site_0 rfl
theorem sr_X5_site_2 : fd_at cX5_site 59 sl_X5_site_2 := fd_n 30 sr_X5_site_1 rfl
theorem sr_X5_site_3 : fd_at cX5_site 88 sl_X5_site_3 := fd_n 29 sr_X5_site_2 rfl
theorem sr_X5_site_4 : fd_at cX5_site 117 sl_X5_site_4 := fd_n 29 sr_X5_site_3 rfl
theorem dX5_site_0 : decode cX5_site 0 = .ok (.iload_n 1, 1) := fo_27 sr_X5_site_0
theorem dX5_site_1 : decode cX5_site 1 = .ok (.i2l, 1) := fo_133 (fd_n 1 sr_X5_site_0 rfl)
theorem dX5_site_2 : decode cX5_site 2 = .ok (.lconst 0, 1) := fo_9 (fd_n 2 sr_X5_site_0 rfl)
theorem dX5_site_3 : decode cX5_site 3 = .ok (.ldc2_w 69, 3) := fo_20 (fd_n 3 sr_X5_site_0 rfl) rfl
theorem dX5_site_6 : decode cX5_site 6 = .ok (.invokestatic 53, 3) := fo_184 (fd_n 6 sr_X5_site_0 rfl) rfl
theorem dX5_site_9 : decode cX5_site 9 = .ok (.ifCond .eq 17, 3) := fo_153 (fd_n 9 sr_X5_site_0 rfl) (by decide +kernel)
theorem dX5_site_12 : decode cX5_site 12 = .ok (.iload_n 2, 1) := fo_28 (fd_n 12 sr_X5_site_0 rfl)
theorem dX5_site_13 : decode cX5_site 13 = .ok (.invokestatic 74, 3) := fo_184 (fd_n 13 sr_X5_site_0 rfl) rfl
theorem dX5_site_16 : decode cX5_site 16 = .ok (.ifCond .eq 10, 3) := fo_153 (fd_n 16 sr_X5_site_0 rfl) (by decide +kernel)
theorem dX5_site_19 : decode cX5_site 19 = .ok (.iload_n 3, 1) := fo_29 (fd_n 19 sr_X5_site_0 rfl)
theorem dX5_site_20 : decode cX5_site 20 = .ok (.invokestatic 77, 3) := fo_184 (fd_n 20 sr_X5_site_0 rfl) rfl
theorem dX5_site_23 : decode cX5_site 23 = .ok (.ifCond .ne 10, 3) := fo_154 (fd_n 23 sr_X5_site_0 rfl) (by decide +kernel)
theorem dX5_site_26 : decode cX5_site 26 = .ok (.aload_n 0, 1) := fo_42 (fd_n 26 sr_X5_site_0 rfl)
theorem dX5_site_27 : decode cX5_site 27 = .ok (.ldc 50, 2) := fo_18 (fd_n 27 sr_X5_site_0 rfl) rfl
theorem dX5_site_29 : decode cX5_site 29 = .ok (.invokevirtual 80, 3) := fo_182 sr_X5_site_1 rfl
theorem dX5_site_32 : decode cX5_site 32 = .ok (.ireturn, 1) := fo_172 (fd_n 3 sr_X5_site_1 rfl)
theorem dX5_site_33 : decode cX5_site 33 = .ok (.iconst (-1), 1) := fo_2 (fd_n 4 sr_X5_site_1 rfl)
theorem dX5_site_34 : decode cX5_site 34 = .ok (.istore 4, 2) := fo_54 (fd_n 5 sr_X5_site_1 rfl) rfl
theorem dX5_site_36 : decode cX5_site 36 = .ok (.iconst 0, 1) := fo_3 (fd_n 7 sr_X5_site_1 rfl)
theorem dX5_site_37 : decode cX5_site 37 = .ok (.istore 5, 2) := fo_54 (fd_n 8 sr_X5_site_1 rfl) rfl
theorem dX5_site_39 : decode cX5_site 39 = .ok (.aload_n 0, 1) := fo_42 (fd_n 10 sr_X5_site_1 rfl)
theorem dX5_site_40 : decode cX5_site 40 = .ok (.invokevirtual 185, 3) := fo_182 (fd_n 11 sr_X5_site_1 rfl) rfl
theorem dX5_site_43 : decode cX5_site 43 = .ok (.iconst 0, 1) := fo_3 (fd_n 14 sr_X5_site_1 rfl)
theorem dX5_site_44 : decode cX5_site 44 = .ok (.istore 6, 2) := fo_54 (fd_n 15 sr_X5_site_1 rfl) rfl
theorem dX5_site_46 : decode cX5_site 46 = .ok (.iload 6, 2) := fo_21 (fd_n 17 sr_X5_site_1 rfl) rfl
theorem dX5_site_48 : decode cX5_site 48 = .ok (.bipush 25, 2) := fo_16 (fd_n 19 sr_X5_site_1 rfl) (by decide +kernel)
theorem dX5_site_50 : decode cX5_site 50 = .ok (.if_icmp .ge 59, 3) := fo_162 (fd_n 21 sr_X5_site_1 rfl) (by decide +kernel)
theorem dX5_site_53 : decode cX5_site 53 = .ok (.aload_n 0, 1) := fo_42 (fd_n 24 sr_X5_site_1 rfl)
theorem dX5_site_54 : decode cX5_site 54 = .ok (.iload 6, 2) := fo_21 (fd_n 25 sr_X5_site_1 rfl) rfl
theorem dX5_site_56 : decode cX5_site 56 = .ok (.invokevirtual 65, 3) := fo_182 (fd_n 27 sr_X5_site_1 rfl) rfl
theorem dX5_site_59 : decode cX5_site 59 = .ok (.ifCond .ne 44, 3) := fo_154 sr_X5_site_2 (by decide +kernel)
theorem dX5_site_62 : decode cX5_site 62 = .ok (.aload_n 0, 1) := fo_42 (fd_n 3 sr_X5_site_2 rfl)
theorem dX5_site_63 : decode cX5_site 63 = .ok (.iload 6, 2) := fo_21 (fd_n 4 sr_X5_site_2 rfl) rfl
theorem dX5_site_65 : decode cX5_site 65 = .ok (.iload_n 1, 1) := fo_27 (fd_n 6 sr_X5_site_2 rfl)
theorem dX5_site_66 : decode cX5_site 66 = .ok (.iload_n 2, 1) := fo_28 (fd_n 7 sr_X5_site_2 rfl)
theorem dX5_site_67 : decode cX5_site 67 = .ok (.iload_n 3, 1) := fo_29 (fd_n 8 sr_X5_site_2 rfl)
theorem dX5_site_68 : decode cX5_site 68 = .ok (.iconst 0, 1) := fo_3 (fd_n 9 sr_X5_site_2 rfl)
theorem dX5_site_69 : decode cX5_site 69 = .ok (.invokevirtual 85, 3) := fo_182 (fd_n 10 sr_X5_site_2 rfl) rfl
theorem dX5_site_72 : decode cX5_site 72 = .ok (.aload_n 0, 1) := fo_42 (fd_n 13 sr_X5_site_2 rfl)
theorem dX5_site_73 : decode cX5_site 73 = .ok (.iload_n 2, 1) := fo_28 (fd_n 14 sr_X5_site_2 rfl)
theorem dX5_site_74 : decode cX5_site 74 = .ok (.invokevirtual 166, 3) := fo_182 (fd_n 15 sr_X5_site_2 rfl) rfl
theorem dX5_site_77 : decode cX5_site 77 = .ok (.istore 7, 2) := fo_54 (fd_n 18 sr_X5_site_2 rfl) rfl
theorem dX5_site_79 : decode cX5_site 79 = .ok (.aload_n 0, 1) := fo_42 (fd_n 20 sr_X5_site_2 rfl)
theorem dX5_site_80 : decode cX5_site 80 = .ok (.invokevirtual 191, 3) := fo_182 (fd_n 21 sr_X5_site_2 rfl) rfl
theorem dX5_site_83 : decode cX5_site 83 = .ok (.iload 4, 2) := fo_21 (fd_n 24 sr_X5_site_2 rfl) rfl
theorem dX5_site_85 : decode cX5_site 85 = .ok (.ifCond .lt 10, 3) := fo_155 (fd_n 26 sr_X5_site_2 rfl) (by decide +kernel)
theorem dX5_site_88 : decode cX5_site 88 = .ok (.iload 7, 2) := fo_21 sr_X5_site_3 rfl
theorem dX5_site_90 : decode cX5_site 90 = .ok (.iload 5, 2) := fo_21 (fd_n 2 sr_X5_site_3 rfl) rfl
theorem dX5_site_92 : decode cX5_site 92 = .ok (.if_icmp .le 11, 3) := fo_164 (fd_n 4 sr_X5_site_3 rfl) (by decide +kernel)
theorem dX5_site_95 : decode cX5_site 95 = .ok (.iload 6, 2) := fo_21 (fd_n 7 sr_X5_site_3 rfl) rfl
theorem dX5_site_97 : decode cX5_site 97 = .ok (.istore 4, 2) := fo_54 (fd_n 9 sr_X5_site_3 rfl) rfl
theorem dX5_site_99 : decode cX5_site 99 = .ok (.iload 7, 2) := fo_21 (fd_n 11 sr_X5_site_3 rfl) rfl
theorem dX5_site_101 : decode cX5_site 101 = .ok (.istore 5, 2) := fo_54 (fd_n 13 sr_X5_site_3 rfl) rfl
theorem dX5_site_103 : decode cX5_site 103 = .ok (.iinc 6 1, 3) := fo_132 (fd_n 15 sr_X5_site_3 rfl) rfl (by decide +kernel)
theorem dX5_site_106 : decode cX5_site 106 = .ok (.goto (-60), 3) := fo_167 (fd_n 18 sr_X5_site_3 rfl) (by decide +kernel)
theorem dX5_site_109 : decode cX5_site 109 = .ok (.iload 4, 2) := fo_21 (fd_n 21 sr_X5_site_3 rfl) rfl
theorem dX5_site_111 : decode cX5_site 111 = .ok (.ifCond .ge 12, 3) := fo_156 (fd_n 23 sr_X5_site_3 rfl) (by decide +kernel)
theorem dX5_site_114 : decode cX5_site 114 = .ok (.aload_n 0, 1) := fo_42 (fd_n 26 sr_X5_site_3 rfl)
theorem dX5_site_115 : decode cX5_site 115 = .ok (.ldc 93, 2) := fo_18 (fd_n 27 sr_X5_site_3 rfl) rfl
theorem dX5_site_117 : decode cX5_site 117 = .ok (.invokevirtual 80, 3) := fo_182 sr_X5_site_4 rfl
theorem dX5_site_120 : decode cX5_site 120 = .ok (.goto 5, 3) := fo_167 (fd_n 3 sr_X5_site_4 rfl) (by decide +kernel)
theorem dX5_site_123 : decode cX5_site 123 = .ok (.iload 4, 2) := fo_21 (fd_n 6 sr_X5_site_4 rfl) rfl
theorem dX5_site_125 : decode cX5_site 125 = .ok (.ireturn, 1) := fo_172 (fd_n 8 sr_X5_site_4 rfl)
noncomputable def sl_X5_worst_4 : List UInt8 := 3 :: 28 :: 79 :: 29 :: 172 :: []
noncomputable def sl_X5_worst_3 : List UInt8 := 29 :: 62 :: 21 :: 6 :: 21 :: 4 :: 162 :: 0 :: 8 :: 21 :: 6 :: 167 :: 0 :: 5 :: 21 :: 4 :: 54 :: 4 :: 132 :: 5 :: 1 :: 167 :: 255 :: 199 :: 42 :: 180 :: 0 :: 7 :: sl_X5_worst_4
noncomputable def sl_X5_worst_2 : List UInt8 := 180 :: 0 :: 7 :: 3 :: 28 :: 21 :: 5 :: 96 :: 79 :: 42 :: 27 :: 182 :: 0 :: 166 :: 54 :: 6 :: 21 :: 6 :: 21 :: 4 :: 162 :: 0 :: 8 :: 21 :: 5 :: 167 :: 0 :: 4 :: sl_X5_worst_3
noncomputable def sl_X5_worst_1 : List UInt8 := 172 :: 42 :: 180 :: 0 :: 7 :: 3 :: 46 :: 61 :: 3 :: 62 :: 42 :: 27 :: 182 :: 0 :: 166 :: 54 :: 4 :: 4 :: 54 :: 5 :: 21 :: 5 :: 16 :: 12 :: 162 :: 0 :: 56 :: 42 :: sl_X5_worst_2
noncomputable def sl_X5_worst_0 : List UInt8 := 27 :: 184 :: 0 :: 74 :: 154 :: 0 :: 10 :: 42 :: 18 :: 50 :: 182 :: 0 :: 80 :: 172 :: 42 :: 16 :: 11 :: 182 :: 0 :: 177 :: 153 :: 0 :: 10 :: 42 :: 18 :: 84 :: 182 :: 0 :: 80 :: sl_X5_worst_1
theorem sr_X5_worst_0 : fd_at cX5_worst 0 sl_X5_worst_0 := fd_base (by decide +kernel)
theorem sr_X5_worst_1 : fd_at cX5_worst 29 sl_X5_worst_1 := fd_n 29 sr_X5_worst_0 rfl
theorem sr_X5_worst_2 : fd_at cX5_worst 57 sl_X5_worst_2 := fd_n 28 sr_X5_worst_1 rfl
theorem sr_X5_worst_3 : fd_at cX5_worst 85 sl_X5_worst_3 := fd_n 28 sr_X5_worst_2 rfl
theorem sr_X5_worst_4 : fd_at cX5_worst 113 sl_X5_worst_4 := fd_n 28 sr_X5_worst_3 rfl
theorem dX5_worst_0 : decode cX5_worst 0 = .ok (.iload_n 1, 1) := fo_27 sr_X5_worst_0
theorem dX5_worst_1 : decode cX5_worst 1 = .ok (.invokestatic 74, 3) := fo_184 (fd_n 1 sr_X5_worst_0 rfl) rfl
theorem dX5_worst_4 : decode cX5_worst 4 = .ok (.ifCond .ne 10, 3) := fo_154 (fd_n 4 sr_X5_worst_0 rfl) (by decide +kernel)
theorem dX5_worst_7 : decode cX5_worst 7 = .ok (.aload_n 0, 1) := fo_42 (fd_n 7 sr_X5_worst_0 rfl)
theorem dX5_worst_8 : decode cX5_worst 8 = .ok (.ldc 50, 2) := fo_18 (fd_n 8 sr_X5_worst_0 rfl) rfl
theorem dX5_worst_10 : decode cX5_worst 10 = .ok (.invokevirtual 80, 3) := fo_182 (fd_n 10 sr_X5_worst_0 rfl) rfl
theorem dX5_worst_13 : decode cX5_worst 13 = .ok (.ireturn, 1) := fo_172 (fd_n 13 sr_X5_worst_0 rfl)
theorem dX5_worst_14 : decode cX5_worst 14 = .ok (.aload_n 0, 1) := fo_42 (fd_n 14 sr_X5_worst_0 rfl)
theorem dX5_worst_15 : decode cX5_worst 15 = .ok (.bipush 11, 2) := fo_16 (fd_n 15 sr_X5_worst_0 rfl) (by decide +kernel)
theorem dX5_worst_17 : decode cX5_worst 17 = .ok (.invokevirtual 177, 3) := fo_182 (fd_n 17 sr_X5_worst_0 rfl) rfl
theorem dX5_worst_20 : decode cX5_worst 20 = .ok (.ifCond .eq 10, 3) := fo_153 (fd_n 20 sr_X5_worst_0 rfl) (by decide +kernel)
theorem dX5_worst_23 : decode cX5_worst 23 = .ok (.aload_n 0, 1) := fo_42 (fd_n 23 sr_X5_worst_0 rfl)
theorem dX5_worst_24 : decode cX5_worst 24 = .ok (.ldc 84, 2) := fo_18 (fd_n 24 sr_X5_worst_0 rfl) rfl
theorem dX5_worst_26 : decode cX5_worst 26 = .ok (.invokevirtual 80, 3) := fo_182 (fd_n 26 sr_X5_worst_0 rfl) rfl
theorem dX5_worst_29 : decode cX5_worst 29 = .ok (.ireturn, 1) := fo_172 sr_X5_worst_1
theorem dX5_worst_30 : decode cX5_worst 30 = .ok (.aload_n 0, 1) := fo_42 (fd_n 1 sr_X5_worst_1 rfl)
theorem dX5_worst_31 : decode cX5_worst 31 = .ok (.getfield 7, 3) := fo_180 (fd_n 2 sr_X5_worst_1 rfl) rfl
theorem dX5_worst_34 : decode cX5_worst 34 = .ok (.iconst 0, 1) := fo_3 (fd_n 5 sr_X5_worst_1 rfl)
theorem dX5_worst_35 : decode cX5_worst 35 = .ok (.iaload, 1) := fo_46 (fd_n 6 sr_X5_worst_1 rfl)
theorem dX5_worst_36 : decode cX5_worst 36 = .ok (.istore_n 2, 1) := fo_61 (fd_n 7 sr_X5_worst_1 rfl)
theorem dX5_worst_37 : decode cX5_worst 37 = .ok (.iconst 0, 1) := fo_3 (fd_n 8 sr_X5_worst_1 rfl)
theorem dX5_worst_38 : decode cX5_worst 38 = .ok (.istore_n 3, 1) := fo_62 (fd_n 9 sr_X5_worst_1 rfl)
theorem dX5_worst_39 : decode cX5_worst 39 = .ok (.aload_n 0, 1) := fo_42 (fd_n 10 sr_X5_worst_1 rfl)
theorem dX5_worst_40 : decode cX5_worst 40 = .ok (.iload_n 1, 1) := fo_27 (fd_n 11 sr_X5_worst_1 rfl)
theorem dX5_worst_41 : decode cX5_worst 41 = .ok (.invokevirtual 166, 3) := fo_182 (fd_n 12 sr_X5_worst_1 rfl) rfl
theorem dX5_worst_44 : decode cX5_worst 44 = .ok (.istore 4, 2) := fo_54 (fd_n 15 sr_X5_worst_1 rfl) rfl
theorem dX5_worst_46 : decode cX5_worst 46 = .ok (.iconst 1, 1) := fo_4 (fd_n 17 sr_X5_worst_1 rfl)
theorem dX5_worst_47 : decode cX5_worst 47 = .ok (.istore 5, 2) := fo_54 (fd_n 18 sr_X5_worst_1 rfl) rfl
theorem dX5_worst_49 : decode cX5_worst 49 = .ok (.iload 5, 2) := fo_21 (fd_n 20 sr_X5_worst_1 rfl) rfl
theorem dX5_worst_51 : decode cX5_worst 51 = .ok (.bipush 12, 2) := fo_16 (fd_n 22 sr_X5_worst_1 rfl) (by decide +kernel)
theorem dX5_worst_53 : decode cX5_worst 53 = .ok (.if_icmp .ge 56, 3) := fo_162 (fd_n 24 sr_X5_worst_1 rfl) (by decide +kernel)
theorem dX5_worst_56 : decode cX5_worst 56 = .ok (.aload_n 0, 1) := fo_42 (fd_n 27 sr_X5_worst_1 rfl)
theorem dX5_worst_57 : decode cX5_worst 57 = .ok (.getfield 7, 3) := fo_180 sr_X5_worst_2 rfl
theorem dX5_worst_60 : decode cX5_worst 60 = .ok (.iconst 0, 1) := fo_3 (fd_n 3 sr_X5_worst_2 rfl)
theorem dX5_worst_61 : decode cX5_worst 61 = .ok (.iload_n 2, 1) := fo_28 (fd_n 4 sr_X5_worst_2 rfl)
theorem dX5_worst_62 : decode cX5_worst 62 = .ok (.iload 5, 2) := fo_21 (fd_n 5 sr_X5_worst_2 rfl) rfl
theorem dX5_worst_64 : decode cX5_worst 64 = .ok (.iadd, 1) := fo_96 (fd_n 7 sr_X5_worst_2 rfl)
theorem dX5_worst_65 : decode cX5_worst 65 = .ok (.iastore, 1) := fo_79 (fd_n 8 sr_X5_worst_2 rfl)
theorem dX5_worst_66 : decode cX5_worst 66 = .ok (.aload_n 0, 1) := fo_42 (fd_n 9 sr_X5_worst_2 rfl)
theorem dX5_worst_67 : decode cX5_worst 67 = .ok (.iload_n 1, 1) := fo_27 (fd_n 10 sr_X5_worst_2 rfl)
theorem dX5_worst_68 : decode cX5_worst 68 = .ok (.invokevirtual 166, 3) := fo_182 (fd_n 11 sr_X5_worst_2 rfl) rfl
theorem dX5_worst_71 : decode cX5_worst 71 = .ok (.istore 6, 2) := fo_54 (fd_n 14 sr_X5_worst_2 rfl) rfl
theorem dX5_worst_73 : decode cX5_worst 73 = .ok (.iload 6, 2) := fo_21 (fd_n 16 sr_X5_worst_2 rfl) rfl
theorem dX5_worst_75 : decode cX5_worst 75 = .ok (.iload 4, 2) := fo_21 (fd_n 18 sr_X5_worst_2 rfl) rfl
theorem dX5_worst_77 : decode cX5_worst 77 = .ok (.if_icmp .ge 8, 3) := fo_162 (fd_n 20 sr_X5_worst_2 rfl) (by decide +kernel)
theorem dX5_worst_80 : decode cX5_worst 80 = .ok (.iload 5, 2) := fo_21 (fd_n 23 sr_X5_worst_2 rfl) rfl
theorem dX5_worst_82 : decode cX5_worst 82 = .ok (.goto 4, 3) := fo_167 (fd_n 25 sr_X5_worst_2 rfl) (by decide +kernel)
theorem dX5_worst_85 : decode cX5_worst 85 = .ok (.iload_n 3, 1) := fo_29 sr_X5_worst_3
theorem dX5_worst_86 : decode cX5_worst 86 = .ok (.istore_n 3, 1) := fo_62 (fd_n 1 sr_X5_worst_3 rfl)
theorem dX5_worst_87 : decode cX5_worst 87 = .ok (.iload 6, 2) := fo_21 (fd_n 2 sr_X5_worst_3 rfl) rfl
theorem dX5_worst_89 : decode cX5_worst 89 = .ok (.iload 4, 2) := fo_21 (fd_n 4 sr_X5_worst_3 rfl) rfl
theorem dX5_worst_91 : decode cX5_worst 91 = .ok (.if_icmp .ge 8, 3) := fo_162 (fd_n 6 sr_X5_worst_3 rfl) (by decide +kernel)
theorem dX5_worst_94 : decode cX5_worst 94 = .ok (.iload 6, 2) := fo_21 (fd_n 9 sr_X5_worst_3 rfl) rfl
theorem dX5_worst_96 : decode cX5_worst 96 = .ok (.goto 5, 3) := fo_167 (fd_n 11 sr_X5_worst_3 rfl) (by decide +kernel)
theorem dX5_worst_99 : decode cX5_worst 99 = .ok (.iload 4, 2) := fo_21 (fd_n 14 sr_X5_worst_3 rfl) rfl
theorem dX5_worst_101 : decode cX5_worst 101 = .ok (.istore 4, 2) := fo_54 (fd_n 16 sr_X5_worst_3 rfl) rfl
theorem dX5_worst_103 : decode cX5_worst 103 = .ok (.iinc 5 1, 3) := fo_132 (fd_n 18 sr_X5_worst_3 rfl) rfl (by decide +kernel)
theorem dX5_worst_106 : decode cX5_worst 106 = .ok (.goto (-57), 3) := fo_167 (fd_n 21 sr_X5_worst_3 rfl) (by decide +kernel)
theorem dX5_worst_109 : decode cX5_worst 109 = .ok (.aload_n 0, 1) := fo_42 (fd_n 24 sr_X5_worst_3 rfl)
theorem dX5_worst_110 : decode cX5_worst 110 = .ok (.getfield 7, 3) := fo_180 (fd_n 25 sr_X5_worst_3 rfl) rfl
theorem dX5_worst_113 : decode cX5_worst 113 = .ok (.iconst 0, 1) := fo_3 sr_X5_worst_4
theorem dX5_worst_114 : decode cX5_worst 114 = .ok (.iload_n 2, 1) := fo_28 (fd_n 1 sr_X5_worst_4 rfl)
theorem dX5_worst_115 : decode cX5_worst 115 = .ok (.iastore, 1) := fo_79 (fd_n 2 sr_X5_worst_4 rfl)
theorem dX5_worst_116 : decode cX5_worst 116 = .ok (.iload_n 3, 1) := fo_29 (fd_n 3 sr_X5_worst_4 rfl)
theorem dX5_worst_117 : decode cX5_worst 117 = .ok (.ireturn, 1) := fo_172 (fd_n 4 sr_X5_worst_4 rfl)
noncomputable def sl_X5_isLowered_1 : List UInt8 := 167 :: 0 :: 4 :: 3 :: 172 :: []
noncomputable def sl_X5_isLowered_0 : List UInt8 := 42 :: 27 :: 182 :: 0 :: 65 :: 153 :: 0 :: 26 :: 42 :: 27 :: 4 :: 182 :: 0 :: 62 :: 28 :: 160 :: 0 :: 16 :: 42 :: 27 :: 5 :: 182 :: 0 :: 62 :: 158 :: 0 :: 7 :: 4 :: sl_X5_isLowered_1
theorem sr_X5_isLowered_0 : fd_at cX5_isLowered 0 sl_X5_isLowered_0 := fd_base (by decide +kernel)
theorem sr_X5_isLowered_1 : fd_at cX5_isLowered 28 sl_X5_isLowered_1 := fd_n 28 sr_X5_isLowered_0 rfl
theorem dX5_isLowered_0 : decode cX5_isLowered 0 = .ok (.aload_n 0, 1) := fo_42 sr_X5_isLowered_0
theorem dX5_isLowered_1 : decode cX5_isLowered 1 = .ok (.iload_n 1, 1) := fo_27 (fd_n 1 sr_X5_isLowered_0 rfl)
theorem dX5_isLowered_2 : decode cX5_isLowered 2 = .ok (.invokevirtual 65, 3) := fo_182 (fd_n 2 sr_X5_isLowered_0 rfl) rfl
theorem dX5_isLowered_5 : decode cX5_isLowered 5 = .ok (.ifCond .eq 26, 3) := fo_153 (fd_n 5 sr_X5_isLowered_0 rfl) (by decide +kernel)
theorem dX5_isLowered_8 : decode cX5_isLowered 8 = .ok (.aload_n 0, 1) := fo_42 (fd_n 8 sr_X5_isLowered_0 rfl)
theorem dX5_isLowered_9 : decode cX5_isLowered 9 = .ok (.iload_n 1, 1) := fo_27 (fd_n 9 sr_X5_isLowered_0 rfl)
theorem dX5_isLowered_10 : decode cX5_isLowered 10 = .ok (.iconst 1, 1) := fo_4 (fd_n 10 sr_X5_isLowered_0 rfl)
theorem dX5_isLowered_11 : decode cX5_isLowered 11 = .ok (.invokevirtual 62, 3) := fo_182 (fd_n 11 sr_X5_isLowered_0 rfl) rfl
theorem dX5_isLowered_14 : decode cX5_isLowered 14 = .ok (.iload_n 2, 1) := fo_28 (fd_n 14 sr_X5_isLowered_0 rfl)
theorem dX5_isLowered_15 : decode cX5_isLowered 15 = .ok (.if_icmp .ne 16, 3) := fo_160 (fd_n 15 sr_X5_isLowered_0 rfl) (by decide +kernel)
theorem dX5_isLowered_18 : decode cX5_isLowered 18 = .ok (.aload_n 0, 1) := fo_42 (fd_n 18 sr_X5_isLowered_0 rfl)
theorem dX5_isLowered_19 : decode cX5_isLowered 19 = .ok (.iload_n 1, 1) := fo_27 (fd_n 19 sr_X5_isLowered_0 rfl)
theorem dX5_isLowered_20 : decode cX5_isLowered 20 = .ok (.iconst 2, 1) := fo_5 (fd_n 20 sr_X5_isLowered_0 rfl)
theorem dX5_isLowered_21 : decode cX5_isLowered 21 = .ok (.invokevirtual 62, 3) := fo_182 (fd_n 21 sr_X5_isLowered_0 rfl) rfl
theorem dX5_isLowered_24 : decode cX5_isLowered 24 = .ok (.ifCond .le 7, 3) := fo_158 (fd_n 24 sr_X5_isLowered_0 rfl) (by decide +kernel)
theorem dX5_isLowered_27 : decode cX5_isLowered 27 = .ok (.iconst 1, 1) := fo_4 (fd_n 27 sr_X5_isLowered_0 rfl)
theorem dX5_isLowered_28 : decode cX5_isLowered 28 = .ok (.goto 4, 3) := fo_167 sr_X5_isLowered_1 (by decide +kernel)
theorem dX5_isLowered_31 : decode cX5_isLowered 31 = .ok (.iconst 0, 1) := fo_3 (fd_n 3 sr_X5_isLowered_1 rfl)
theorem dX5_isLowered_32 : decode cX5_isLowered 32 = .ok (.ireturn, 1) := fo_172 (fd_n 4 sr_X5_isLowered_1 rfl)
noncomputable def sl_X5_trade_7 : List UInt8 := 21 :: 5 :: 156 :: 0 :: 12 :: 42 :: 18 :: 93 :: 182 :: 0 :: 80 :: 167 :: 0 :: 5 :: 21 :: 5 :: 172 :: []
noncomputable def sl_X5_trade_6 : List UInt8 := 79 :: 42 :: 180 :: 0 :: 7 :: 21 :: 7 :: 5 :: 184 :: 0 :: 46 :: 92 :: 46 :: 4 :: 96 :: 79 :: 132 :: 7 :: 1 :: 167 :: 255 :: 127 :: 132 :: 6 :: 1 :: 167 :: 255 :: 106 :: sl_X5_trade_7
noncomputable def sl_X5_trade_5 : List UInt8 := 16 :: 100 :: 21 :: 6 :: 104 :: 21 :: 7 :: 96 :: 167 :: 0 :: 4 :: 2 :: 54 :: 5 :: 42 :: 180 :: 0 :: 7 :: 21 :: 6 :: 5 :: 184 :: 0 :: 46 :: 92 :: 46 :: 4 :: 96 :: sl_X5_trade_6
noncomputable def sl_X5_trade_4 : List UInt8 := 5 :: 184 :: 0 :: 46 :: 92 :: 46 :: 4 :: 100 :: 79 :: 42 :: 27 :: 182 :: 0 :: 166 :: 29 :: 164 :: 0 :: 25 :: 42 :: 180 :: 0 :: 25 :: 28 :: 46 :: 21 :: 4 :: 164 :: 0 :: 14 :: sl_X5_trade_5
noncomputable def sl_X5_trade_3 : List UInt8 := 28 :: 182 :: 0 :: 206 :: 153 :: 0 :: 97 :: 42 :: 180 :: 0 :: 7 :: 21 :: 6 :: 5 :: 184 :: 0 :: 46 :: 92 :: 46 :: 4 :: 100 :: 79 :: 42 :: 180 :: 0 :: 7 :: 21 :: 7 :: sl_X5_trade_4
noncomputable def sl_X5_trade_2 : List UInt8 := 3 :: 54 :: 7 :: 21 :: 7 :: 16 :: 25 :: 162 :: 0 :: 128 :: 21 :: 5 :: 156 :: 0 :: 123 :: 42 :: 21 :: 6 :: 27 :: 182 :: 0 :: 206 :: 153 :: 0 :: 107 :: 42 :: 21 :: 7 :: sl_X5_trade_3
noncomputable def sl_X5_trade_1 : List UInt8 := 182 :: 0 :: 166 :: 62 :: 42 :: 180 :: 0 :: 25 :: 28 :: 46 :: 54 :: 4 :: 2 :: 54 :: 5 :: 3 :: 54 :: 6 :: 21 :: 6 :: 16 :: 25 :: 162 :: 0 :: 149 :: 21 :: 5 :: 156 :: 0 :: 144 :: sl_X5_trade_2
noncomputable def sl_X5_trade_0 : List UInt8 := 27 :: 184 :: 0 :: 74 :: 153 :: 0 :: 15 :: 28 :: 184 :: 0 :: 74 :: 153 :: 0 :: 8 :: 27 :: 28 :: 160 :: 0 :: 10 :: 42 :: 18 :: 50 :: 182 :: 0 :: 80 :: 172 :: 42 :: 27 :: sl_X5_trade_1
set_option maxRecDepth 100000 in
theorem sr_X5_trade_0 : fd_at cX5_trade 0 sl_X5_trade_0 := fd_base (by decide +kernel)
theorem sr_X5_trade_1 : fd_at cX5_trade 28 sl_X5_trade_1 := fd_n 28 sr_X5_trade_0 rfl
theorem sr_X5_trade_2 : fd_at cX5_trade 58 sl_X5_trade_2 := fd_n 30 sr_X5_trade_1 rfl
theorem sr_X5_trade_3 : fd_at cX5_trade 86 sl_X5_trade_3 := fd_n 28 sr_X5_trade_2 rfl
theorem sr_X5_trade_4 : fd_at cX5_trade 114 sl_X5_trade_4 := fd_n 28 sr_X5_trade_3 rfl
theorem sr_X5_trade_5 : fd_at cX5_trade 143 sl_X5_trade_5 := fd_n 29 sr_X5_trade_4 rfl
theorem sr_X5_trade_6 : fd_at cX5_trade 171 sl_X5_trade_6 := fd_n 28 sr_X5_trade_5 rfl
theorem sr_X5_trade_7 : fd_at cX5_trade 199 sl_X5_trade_7 := fd_n 28 sr_X5_trade_6 rfl
theorem dX5_trade_0 : decode cX5_trade 0 = .ok (.iload_n 1, 1) := fo_27 sr_X5_trade_0
theorem dX5_trade_1 : decode cX5_trade 1 = .ok (.invokestatic 74, 3) := fo_184 (fd_n 1 sr_X5_trade_0 rfl) rfl
theorem dX5_trade_4 : decode cX5_trade 4 = .ok (.ifCond .eq 15, 3) := fo_153 (fd_n 4 sr_X5_trade_0 rfl) (by decide +kernel)
theorem dX5_trade_7 : decode cX5_trade 7 = .ok (.iload_n 2, 1) := fo_28 (fd_n 7 sr_X5_trade_0 rfl)
theorem dX5_trade_8 : decode cX5_trade 8 = .ok (.invokestatic 74, 3) := fo_184 (fd_n 8 sr_X5_trade_0 rfl) rfl
theorem dX5_trade_11 : decode cX5_trade 11 = .ok (.ifCond .eq 8, 3) := fo_153 (fd_n 11 sr_X5_trade_0 rfl) (by decide +kernel)
theorem dX5_trade_14 : decode cX5_trade 14 = .ok (.iload_n 1, 1) := fo_27 (fd_n 14 sr_X5_trade_0 rfl)
theorem dX5_trade_15 : decode cX5_trade 15 = .ok (.iload_n 2, 1) := fo_28 (fd_n 15 sr_X5_trade_0 rfl)
theorem dX5_trade_16 : decode cX5_trade 16 = .ok (.if_icmp .ne 10, 3) := fo_160 (fd_n 16 sr_X5_trade_0 rfl) (by decide +kernel)
theorem dX5_trade_19 : decode cX5_trade 19 = .ok (.aload_n 0, 1) := fo_42 (fd_n 19 sr_X5_trade_0 rfl)
theorem dX5_trade_20 : decode cX5_trade 20 = .ok (.ldc 50, 2) := fo_18 (fd_n 20 sr_X5_trade_0 rfl) rfl
theorem dX5_trade_22 : decode cX5_trade 22 = .ok (.invokevirtual 80, 3) := fo_182 (fd_n 22 sr_X5_trade_0 rfl) rfl
theorem dX5_trade_25 : decode cX5_trade 25 = .ok (.ireturn, 1) := fo_172 (fd_n 25 sr_X5_trade_0 rfl)
theorem dX5_trade_26 : decode cX5_trade 26 = .ok (.aload_n 0, 1) := fo_42 (fd_n 26 sr_X5_trade_0 rfl)
theorem dX5_trade_27 : decode cX5_trade 27 = .ok (.iload_n 1, 1) := fo_27 (fd_n 27 sr_X5_trade_0 rfl)
theorem dX5_trade_28 : decode cX5_trade 28 = .ok (.invokevirtual 166, 3) := fo_182 sr_X5_trade_1 rfl
theorem dX5_trade_31 : decode cX5_trade 31 = .ok (.istore_n 3, 1) := fo_62 (fd_n 3 sr_X5_trade_1 rfl)
theorem dX5_trade_32 : decode cX5_trade 32 = .ok (.aload_n 0, 1) := fo_42 (fd_n 4 sr_X5_trade_1 rfl)
theorem dX5_trade_33 : decode cX5_trade 33 = .ok (.getfield 25, 3) := fo_180 (fd_n 5 sr_X5_trade_1 rfl) rfl
theorem dX5_trade_36 : decode cX5_trade 36 = .ok (.iload_n 2, 1) := fo_28 (fd_n 8 sr_X5_trade_1 rfl)
theorem dX5_trade_37 : decode cX5_trade 37 = .ok (.iaload, 1) := fo_46 (fd_n 9 sr_X5_trade_1 rfl)
theorem dX5_trade_38 : decode cX5_trade 38 = .ok (.istore 4, 2) := fo_54 (fd_n 10 sr_X5_trade_1 rfl) rfl
theorem dX5_trade_40 : decode cX5_trade 40 = .ok (.iconst (-1), 1) := fo_2 (fd_n 12 sr_X5_trade_1 rfl)
theorem dX5_trade_41 : decode cX5_trade 41 = .ok (.istore 5, 2) := fo_54 (fd_n 13 sr_X5_trade_1 rfl) rfl
theorem dX5_trade_43 : decode cX5_trade 43 = .ok (.iconst 0, 1) := fo_3 (fd_n 15 sr_X5_trade_1 rfl)
theorem dX5_trade_44 : decode cX5_trade 44 = .ok (.istore 6, 2) := fo_54 (fd_n 16 sr_X5_trade_1 rfl) rfl
theorem dX5_trade_46 : decode cX5_trade 46 = .ok (.iload 6, 2) := fo_21 (fd_n 18 sr_X5_trade_1 rfl) rfl
theorem dX5_trade_48 : decode cX5_trade 48 = .ok (.bipush 25, 2) := fo_16 (fd_n 20 sr_X5_trade_1 rfl) (by decide +kernel)
theorem dX5_trade_50 : decode cX5_trade 50 = .ok (.if_icmp .ge 149, 3) := fo_162 (fd_n 22 sr_X5_trade_1 rfl) (by decide +kernel)
theorem dX5_trade_53 : decode cX5_trade 53 = .ok (.iload 5, 2) := fo_21 (fd_n 25 sr_X5_trade_1 rfl) rfl
theorem dX5_trade_55 : decode cX5_trade 55 = .ok (.ifCond .ge 144, 3) := fo_156 (fd_n 27 sr_X5_trade_1 rfl) (by decide +kernel)
theorem dX5_trade_58 : decode cX5_trade 58 = .ok (.iconst 0, 1) := fo_3 sr_X5_trade_2
theorem dX5_trade_59 : decode cX5_trade 59 = .ok (.istore 7, 2) := fo_54 (fd_n 1 sr_X5_trade_2 rfl) rfl
theorem dX5_trade_61 : decode cX5_trade 61 = .ok (.iload 7, 2) := fo_21 (fd_n 3 sr_X5_trade_2 rfl) rfl
theorem dX5_trade_63 : decode cX5_trade 63 = .ok (.bipush 25, 2) := fo_16 (fd_n 5 sr_X5_trade_2 rfl) (by decide +kernel)
theorem dX5_trade_65 : decode cX5_trade 65 = .ok (.if_icmp .ge 128, 3) := fo_162 (fd_n 7 sr_X5_trade_2 rfl) (by decide +kernel)
theorem dX5_trade_68 : decode cX5_trade 68 = .ok (.iload 5, 2) := fo_21 (fd_n 10 sr_X5_trade_2 rfl) rfl
theorem dX5_trade_70 : decode cX5_trade 70 = .ok (.ifCond .ge 123, 3) := fo_156 (fd_n 12 sr_X5_trade_2 rfl) (by decide +kernel)
theorem dX5_trade_73 : decode cX5_trade 73 = .ok (.aload_n 0, 1) := fo_42 (fd_n 15 sr_X5_trade_2 rfl)
theorem dX5_trade_74 : decode cX5_trade 74 = .ok (.iload 6, 2) := fo_21 (fd_n 16 sr_X5_trade_2 rfl) rfl
theorem dX5_trade_76 : decode cX5_trade 76 = .ok (.iload_n 1, 1) := fo_27 (fd_n 18 sr_X5_trade_2 rfl)
theorem dX5_trade_77 : decode cX5_trade 77 = .ok (.invokevirtual 206, 3) := fo_182 (fd_n 19 sr_X5_trade_2 rfl) rfl
theorem dX5_trade_80 : decode cX5_trade 80 = .ok (.ifCond .eq 107, 3) := fo_153 (fd_n 22 sr_X5_trade_2 rfl) (by decide +kernel)
theorem dX5_trade_83 : decode cX5_trade 83 = .ok (.aload_n 0, 1) := fo_42 (fd_n 25 sr_X5_trade_2 rfl)
theorem dX5_trade_84 : decode cX5_trade 84 = .ok (.iload 7, 2) := fo_21 (fd_n 26 sr_X5_trade_2 rfl) rfl
theorem dX5_trade_86 : decode cX5_trade 86 = .ok (.iload_n 2, 1) := fo_28 sr_X5_trade_3
theorem dX5_trade_87 : decode cX5_trade 87 = .ok (.invokevirtual 206, 3) := fo_182 (fd_n 1 sr_X5_trade_3 rfl) rfl
theorem dX5_trade_90 : decode cX5_trade 90 = .ok (.ifCond .eq 97, 3) := fo_153 (fd_n 4 sr_X5_trade_3 rfl) (by decide +kernel)
theorem dX5_trade_93 : decode cX5_trade 93 = .ok (.aload_n 0, 1) := fo_42 (fd_n 7 sr_X5_trade_3 rfl)
theorem dX5_trade_94 : decode cX5_trade 94 = .ok (.getfield 7, 3) := fo_180 (fd_n 8 sr_X5_trade_3 rfl) rfl
theorem dX5_trade_97 : decode cX5_trade 97 = .ok (.iload 6, 2) := fo_21 (fd_n 11 sr_X5_trade_3 rfl) rfl
theorem dX5_trade_99 : decode cX5_trade 99 = .ok (.iconst 2, 1) := fo_5 (fd_n 13 sr_X5_trade_3 rfl)
theorem dX5_trade_100 : decode cX5_trade 100 = .ok (.invokestatic 46, 3) := fo_184 (fd_n 14 sr_X5_trade_3 rfl) rfl
theorem dX5_trade_103 : decode cX5_trade 103 = .ok (.dup2, 1) := fo_92 (fd_n 17 sr_X5_trade_3 rfl)
theorem dX5_trade_104 : decode cX5_trade 104 = .ok (.iaload, 1) := fo_46 (fd_n 18 sr_X5_trade_3 rfl)
theorem dX5_trade_105 : decode cX5_trade 105 = .ok (.iconst 1, 1) := fo_4 (fd_n 19 sr_X5_trade_3 rfl)
theorem dX5_trade_106 : decode cX5_trade 106 = .ok (.isub, 1) := fo_100 (fd_n 20 sr_X5_trade_3 rfl)
theorem dX5_trade_107 : decode cX5_trade 107 = .ok (.iastore, 1) := fo_79 (fd_n 21 sr_X5_trade_3 rfl)
theorem dX5_trade_108 : decode cX5_trade 108 = .ok (.aload_n 0, 1) := fo_42 (fd_n 22 sr_X5_trade_3 rfl)
theorem dX5_trade_109 : decode cX5_trade 109 = .ok (.getfield 7, 3) := fo_180 (fd_n 23 sr_X5_trade_3 rfl) rfl
theorem dX5_trade_112 : decode cX5_trade 112 = .ok (.iload 7, 2) := fo_21 (fd_n 26 sr_X5_trade_3 rfl) rfl
theorem dX5_trade_114 : decode cX5_trade 114 = .ok (.iconst 2, 1) := fo_5 sr_X5_trade_4
theorem dX5_trade_115 : decode cX5_trade 115 = .ok (.invokestatic 46, 3) := fo_184 (fd_n 1 sr_X5_trade_4 rfl) rfl
theorem dX5_trade_118 : decode cX5_trade 118 = .ok (.dup2, 1) := fo_92 (fd_n 4 sr_X5_trade_4 rfl)
theorem dX5_trade_119 : decode cX5_trade 119 = .ok (.iaload, 1) := fo_46 (fd_n 5 sr_X5_trade_4 rfl)
theorem dX5_trade_120 : decode cX5_trade 120 = .ok (.iconst 1, 1) := fo_4 (fd_n 6 sr_X5_trade_4 rfl)
theorem dX5_trade_121 : decode cX5_trade 121 = .ok (.isub, 1) := fo_100 (fd_n 7 sr_X5_trade_4 rfl)
theorem dX5_trade_122 : decode cX5_trade 122 = .ok (.iastore, 1) := fo_79 (fd_n 8 sr_X5_trade_4 rfl)
theorem dX5_trade_123 : decode cX5_trade 123 = .ok (.aload_n 0, 1) := fo_42 (fd_n 9 sr_X5_trade_4 rfl)
theorem dX5_trade_124 : decode cX5_trade 124 = .ok (.iload_n 1, 1) := fo_27 (fd_n 10 sr_X5_trade_4 rfl)
theorem dX5_trade_125 : decode cX5_trade 125 = .ok (.invokevirtual 166, 3) := fo_182 (fd_n 11 sr_X5_trade_4 rfl) rfl
theorem dX5_trade_128 : decode cX5_trade 128 = .ok (.iload_n 3, 1) := fo_29 (fd_n 14 sr_X5_trade_4 rfl)
theorem dX5_trade_129 : decode cX5_trade 129 = .ok (.if_icmp .le 25, 3) := fo_164 (fd_n 15 sr_X5_trade_4 rfl) (by decide +kernel)
theorem dX5_trade_132 : decode cX5_trade 132 = .ok (.aload_n 0, 1) := fo_42 (fd_n 18 sr_X5_trade_4 rfl)
theorem dX5_trade_133 : decode cX5_trade 133 = .ok (.getfield 25, 3) := fo_180 (fd_n 19 sr_X5_trade_4 rfl) rfl
theorem dX5_trade_136 : decode cX5_trade 136 = .ok (.iload_n 2, 1) := fo_28 (fd_n 22 sr_X5_trade_4 rfl)
theorem dX5_trade_137 : decode cX5_trade 137 = .ok (.iaload, 1) := fo_46 (fd_n 23 sr_X5_trade_4 rfl)
theorem dX5_trade_138 : decode cX5_trade 138 = .ok (.iload 4, 2) := fo_21 (fd_n 24 sr_X5_trade_4 rfl) rfl
theorem dX5_trade_140 : decode cX5_trade 140 = .ok (.if_icmp .le 14, 3) := fo_164 (fd_n 26 sr_X5_trade_4 rfl) (by decide +kernel)
theorem dX5_trade_143 : decode cX5_trade 143 = .ok (.bipush 100, 2) := fo_16 sr_X5_trade_5 (by decide +kernel)
theorem dX5_trade_145 : decode cX5_trade 145 = .ok (.iload 6, 2) := fo_21 (fd_n 2 sr_X5_trade_5 rfl) rfl
theorem dX5_trade_147 : decode cX5_trade 147 = .ok (.imul, 1) := fo_104 (fd_n 4 sr_X5_trade_5 rfl)
theorem dX5_trade_148 : decode cX5_trade 148 = .ok (.iload 7, 2) := fo_21 (fd_n 5 sr_X5_trade_5 rfl) rfl
theorem dX5_trade_150 : decode cX5_trade 150 = .ok (.iadd, 1) := fo_96 (fd_n 7 sr_X5_trade_5 rfl)
theorem dX5_trade_151 : decode cX5_trade 151 = .ok (.goto 4, 3) := fo_167 (fd_n 8 sr_X5_trade_5 rfl) (by decide +kernel)
theorem dX5_trade_154 : decode cX5_trade 154 = .ok (.iconst (-1), 1) := fo_2 (fd_n 11 sr_X5_trade_5 rfl)
theorem dX5_trade_155 : decode cX5_trade 155 = .ok (.istore 5, 2) := fo_54 (fd_n 12 sr_X5_trade_5 rfl) rfl
theorem dX5_trade_157 : decode cX5_trade 157 = .ok (.aload_n 0, 1) := fo_42 (fd_n 14 sr_X5_trade_5 rfl)
theorem dX5_trade_158 : decode cX5_trade 158 = .ok (.getfield 7, 3) := fo_180 (fd_n 15 sr_X5_trade_5 rfl) rfl
theorem dX5_trade_161 : decode cX5_trade 161 = .ok (.iload 6, 2) := fo_21 (fd_n 18 sr_X5_trade_5 rfl) rfl
theorem dX5_trade_163 : decode cX5_trade 163 = .ok (.iconst 2, 1) := fo_5 (fd_n 20 sr_X5_trade_5 rfl)
theorem dX5_trade_164 : decode cX5_trade 164 = .ok (.invokestatic 46, 3) := fo_184 (fd_n 21 sr_X5_trade_5 rfl) rfl
theorem dX5_trade_167 : decode cX5_trade 167 = .ok (.dup2, 1) := fo_92 (fd_n 24 sr_X5_trade_5 rfl)
theorem dX5_trade_168 : decode cX5_trade 168 = .ok (.iaload, 1) := fo_46 (fd_n 25 sr_X5_trade_5 rfl)
theorem dX5_trade_169 : decode cX5_trade 169 = .ok (.iconst 1, 1) := fo_4 (fd_n 26 sr_X5_trade_5 rfl)
theorem dX5_trade_170 : decode cX5_trade 170 = .ok (.iadd, 1) := fo_96 (fd_n 27 sr_X5_trade_5 rfl)
theorem dX5_trade_171 : decode cX5_trade 171 = .ok (.iastore, 1) := fo_79 sr_X5_trade_6
theorem dX5_trade_172 : decode cX5_trade 172 = .ok (.aload_n 0, 1) := fo_42 (fd_n 1 sr_X5_trade_6 rfl)
theorem dX5_trade_173 : decode cX5_trade 173 = .ok (.getfield 7, 3) := fo_180 (fd_n 2 sr_X5_trade_6 rfl) rfl
theorem dX5_trade_176 : decode cX5_trade 176 = .ok (.iload 7, 2) := fo_21 (fd_n 5 sr_X5_trade_6 rfl) rfl
theorem dX5_trade_178 : decode cX5_trade 178 = .ok (.iconst 2, 1) := fo_5 (fd_n 7 sr_X5_trade_6 rfl)
theorem dX5_trade_179 : decode cX5_trade 179 = .ok (.invokestatic 46, 3) := fo_184 (fd_n 8 sr_X5_trade_6 rfl) rfl
theorem dX5_trade_182 : decode cX5_trade 182 = .ok (.dup2, 1) := fo_92 (fd_n 11 sr_X5_trade_6 rfl)
theorem dX5_trade_183 : decode cX5_trade 183 = .ok (.iaload, 1) := fo_46 (fd_n 12 sr_X5_trade_6 rfl)
theorem dX5_trade_184 : decode cX5_trade 184 = .ok (.iconst 1, 1) := fo_4 (fd_n 13 sr_X5_trade_6 rfl)
theorem dX5_trade_185 : decode cX5_trade 185 = .ok (.iadd, 1) := fo_96 (fd_n 14 sr_X5_trade_6 rfl)
theorem dX5_trade_186 : decode cX5_trade 186 = .ok (.iastore, 1) := fo_79 (fd_n 15 sr_X5_trade_6 rfl)
theorem dX5_trade_187 : decode cX5_trade 187 = .ok (.iinc 7 1, 3) := fo_132 (fd_n 16 sr_X5_trade_6 rfl) rfl (by decide +kernel)
theorem dX5_trade_190 : decode cX5_trade 190 = .ok (.goto (-129), 3) := fo_167 (fd_n 19 sr_X5_trade_6 rfl) (by decide +kernel)
theorem dX5_trade_193 : decode cX5_trade 193 = .ok (.iinc 6 1, 3) := fo_132 (fd_n 22 sr_X5_trade_6 rfl) rfl (by decide +kernel)
theorem dX5_trade_196 : decode cX5_trade 196 = .ok (.goto (-150), 3) := fo_167 (fd_n 25 sr_X5_trade_6 rfl) (by decide +kernel)
theorem dX5_trade_199 : decode cX5_trade 199 = .ok (.iload 5, 2) := fo_21 sr_X5_trade_7 rfl
theorem dX5_trade_201 : decode cX5_trade 201 = .ok (.ifCond .ge 12, 3) := fo_156 (fd_n 2 sr_X5_trade_7 rfl) (by decide +kernel)
theorem dX5_trade_204 : decode cX5_trade 204 = .ok (.aload_n 0, 1) := fo_42 (fd_n 5 sr_X5_trade_7 rfl)
theorem dX5_trade_205 : decode cX5_trade 205 = .ok (.ldc 93, 2) := fo_18 (fd_n 6 sr_X5_trade_7 rfl) rfl
theorem dX5_trade_207 : decode cX5_trade 207 = .ok (.invokevirtual 80, 3) := fo_182 (fd_n 8 sr_X5_trade_7 rfl) rfl
theorem dX5_trade_210 : decode cX5_trade 210 = .ok (.goto 5, 3) := fo_167 (fd_n 11 sr_X5_trade_7 rfl) (by decide +kernel)
theorem dX5_trade_213 : decode cX5_trade 213 = .ok (.iload 5, 2) := fo_21 (fd_n 14 sr_X5_trade_7 rfl) rfl
theorem dX5_trade_215 : decode cX5_trade 215 = .ok (.ireturn, 1) := fo_172 (fd_n 16 sr_X5_trade_7 rfl)
noncomputable def sl_X5_swap_7 : List UInt8 := 46 :: 42 :: 180 :: 0 :: 28 :: 21 :: 6 :: 46 :: 162 :: 0 :: 7 :: 2 :: 167 :: 0 :: 4 :: 3 :: 96 :: 54 :: 5 :: 132 :: 6 :: 1 :: 167 :: 255 :: 199 :: 21 :: 5 :: 172 :: []
noncomputable def sl_X5_swap_6 : List UInt8 := 21 :: 5 :: 42 :: 180 :: 0 :: 25 :: 21 :: 6 :: 46 :: 42 :: 180 :: 0 :: 28 :: 21 :: 6 :: 46 :: 164 :: 0 :: 7 :: 4 :: 167 :: 0 :: 25 :: 42 :: 180 :: 0 :: 25 :: 21 :: 6 :: sl_X5_swap_7
noncomputable def sl_X5_swap_5 : List UInt8 := 46 :: 79 :: 132 :: 5 :: 1 :: 167 :: 255 :: 203 :: 42 :: 182 :: 0 :: 163 :: 54 :: 4 :: 42 :: 182 :: 0 :: 191 :: 3 :: 54 :: 5 :: 3 :: 54 :: 6 :: 21 :: 6 :: 7 :: 162 :: 0 :: 57 :: sl_X5_swap_6
noncomputable def sl_X5_swap_4 : List UInt8 := 28 :: 21 :: 5 :: 184 :: 0 :: 46 :: 46 :: 79 :: 42 :: 180 :: 0 :: 7 :: 28 :: 21 :: 5 :: 184 :: 0 :: 46 :: 42 :: 180 :: 0 :: 16 :: 27 :: 21 :: 5 :: 184 :: 0 :: 46 :: sl_X5_swap_5
noncomputable def sl_X5_swap_3 : List UInt8 := 167 :: 255 :: 233 :: 42 :: 182 :: 0 :: 185 :: 3 :: 54 :: 5 :: 21 :: 5 :: 7 :: 162 :: 0 :: 53 :: 42 :: 180 :: 0 :: 7 :: 27 :: 21 :: 5 :: 184 :: 0 :: 46 :: 42 :: 180 :: 0 :: 16 :: sl_X5_swap_4
noncomputable def sl_X5_swap_2 : List UInt8 := 54 :: 4 :: 3 :: 54 :: 5 :: 21 :: 5 :: 7 :: 162 :: 0 :: 23 :: 42 :: 180 :: 0 :: 28 :: 21 :: 5 :: 42 :: 180 :: 0 :: 25 :: 21 :: 5 :: 46 :: 79 :: 132 :: 5 :: 1 :: sl_X5_swap_3
noncomputable def sl_X5_swap_1 : List UInt8 := 28 :: 182 :: 0 :: 65 :: 154 :: 0 :: 8 :: 18 :: 93 :: 167 :: 0 :: 4 :: 3 :: 62 :: 29 :: 153 :: 0 :: 9 :: 42 :: 29 :: 182 :: 0 :: 80 :: 172 :: 42 :: 182 :: 0 :: 163 :: sl_X5_swap_2
noncomputable def sl_X5_swap_0 : List UInt8 := 27 :: 184 :: 0 :: 71 :: 153 :: 0 :: 10 :: 28 :: 184 :: 0 :: 71 :: 154 :: 0 :: 8 :: 18 :: 50 :: 167 :: 0 :: 25 :: 42 :: 27 :: 182 :: 0 :: 65 :: 153 :: 0 :: 11 :: 42 :: sl_X5_swap_1
set_option maxRecDepth 100000 in
theorem sr_X5_swap_0 : fd_at cX5_swap 0 sl_X5_swap_0 := fd_base (by decide +kernel)
theorem sr_X5_swap_1 : fd_at cX5_swap 28 sl_X5_swap_1 := fd_n 28 sr_X5_swap_0 rfl
theorem sr_X5_swap_2 : fd_at cX5_swap 56 sl_X5_swap_2 := fd_n 28 sr_X5_swap_1 rfl
theorem sr_X5_swap_3 : fd_at cX5_swap 84 sl_X5_swap_3 := fd_n 28 sr_X5_swap_2 rfl
theorem sr_X5_swap_4 : fd_at cX5_swap 114 sl_X5_swap_4 := fd_n 30 sr_X5_swap_3 rfl
theorem sr_X5_swap_5 : fd_at cX5_swap 142 sl_X5_swap_5 := fd_n 28 sr_X5_swap_4 rfl
theorem sr_X5_swap_6 : fd_at cX5_swap 172 sl_X5_swap_6 := fd_n 30 sr_X5_swap_5 rfl
theorem sr_X5_swap_7 : fd_at cX5_swap 201 sl_X5_swap_7 := fd_n 29 sr_X5_swap_6 rfl
theorem dX5_swap_0 : decode cX5_swap 0 = .ok (.iload_n 1, 1) := fo_27 sr_X5_swap_0
theorem dX5_swap_1 : decode cX5_swap 1 = .ok (.invokestatic 71, 3) := fo_184 (fd_n 1 sr_X5_swap_0 rfl) rfl
theorem dX5_swap_4 : decode cX5_swap 4 = .ok (.ifCond .eq 10, 3) := fo_153 (fd_n 4 sr_X5_swap_0 rfl) (by decide +kernel)
theorem dX5_swap_7 : decode cX5_swap 7 = .ok (.iload_n 2, 1) := fo_28 (fd_n 7 sr_X5_swap_0 rfl)
theorem dX5_swap_8 : decode cX5_swap 8 = .ok (.invokestatic 71, 3) := fo_184 (fd_n 8 sr_X5_swap_0 rfl) rfl
theorem dX5_swap_11 : decode cX5_swap 11 = .ok (.ifCond .ne 8, 3) := fo_154 (fd_n 11 sr_X5_swap_0 rfl) (by decide +kernel)
theorem dX5_swap_14 : decode cX5_swap 14 = .ok (.ldc 50, 2) := fo_18 (fd_n 14 sr_X5_swap_0 rfl) rfl
theorem dX5_swap_16 : decode cX5_swap 16 = .ok (.goto 25, 3) := fo_167 (fd_n 16 sr_X5_swap_0 rfl) (by decide +kernel)
theorem dX5_swap_19 : decode cX5_swap 19 = .ok (.aload_n 0, 1) := fo_42 (fd_n 19 sr_X5_swap_0 rfl)
theorem dX5_swap_20 : decode cX5_swap 20 = .ok (.iload_n 1, 1) := fo_27 (fd_n 20 sr_X5_swap_0 rfl)
theorem dX5_swap_21 : decode cX5_swap 21 = .ok (.invokevirtual 65, 3) := fo_182 (fd_n 21 sr_X5_swap_0 rfl) rfl
theorem dX5_swap_24 : decode cX5_swap 24 = .ok (.ifCond .eq 11, 3) := fo_153 (fd_n 24 sr_X5_swap_0 rfl) (by decide +kernel)
theorem dX5_swap_27 : decode cX5_swap 27 = .ok (.aload_n 0, 1) := fo_42 (fd_n 27 sr_X5_swap_0 rfl)
theorem dX5_swap_28 : decode cX5_swap 28 = .ok (.iload_n 2, 1) := fo_28 sr_X5_swap_1
theorem dX5_swap_29 : decode cX5_swap 29 = .ok (.invokevirtual 65, 3) := fo_182 (fd_n 1 sr_X5_swap_1 rfl) rfl
theorem dX5_swap_32 : decode cX5_swap 32 = .ok (.ifCond .ne 8, 3) := fo_154 (fd_n 4 sr_X5_swap_1 rfl) (by decide +kernel)
theorem dX5_swap_35 : decode cX5_swap 35 = .ok (.ldc 93, 2) := fo_18 (fd_n 7 sr_X5_swap_1 rfl) rfl
theorem dX5_swap_37 : decode cX5_swap 37 = .ok (.goto 4, 3) := fo_167 (fd_n 9 sr_X5_swap_1 rfl) (by decide +kernel)
theorem dX5_swap_40 : decode cX5_swap 40 = .ok (.iconst 0, 1) := fo_3 (fd_n 12 sr_X5_swap_1 rfl)
theorem dX5_swap_41 : decode cX5_swap 41 = .ok (.istore_n 3, 1) := fo_62 (fd_n 13 sr_X5_swap_1 rfl)
theorem dX5_swap_42 : decode cX5_swap 42 = .ok (.iload_n 3, 1) := fo_29 (fd_n 14 sr_X5_swap_1 rfl)
theorem dX5_swap_43 : decode cX5_swap 43 = .ok (.ifCond .eq 9, 3) := fo_153 (fd_n 15 sr_X5_swap_1 rfl) (by decide +kernel)
theorem dX5_swap_46 : decode cX5_swap 46 = .ok (.aload_n 0, 1) := fo_42 (fd_n 18 sr_X5_swap_1 rfl)
theorem dX5_swap_47 : decode cX5_swap 47 = .ok (.iload_n 3, 1) := fo_29 (fd_n 19 sr_X5_swap_1 rfl)
theorem dX5_swap_48 : decode cX5_swap 48 = .ok (.invokevirtual 80, 3) := fo_182 (fd_n 20 sr_X5_swap_1 rfl) rfl
theorem dX5_swap_51 : decode cX5_swap 51 = .ok (.ireturn, 1) := fo_172 (fd_n 23 sr_X5_swap_1 rfl)
theorem dX5_swap_52 : decode cX5_swap 52 = .ok (.aload_n 0, 1) := fo_42 (fd_n 24 sr_X5_swap_1 rfl)
theorem dX5_swap_53 : decode cX5_swap 53 = .ok (.invokevirtual 163, 3) := fo_182 (fd_n 25 sr_X5_swap_1 rfl) rfl
theorem dX5_swap_56 : decode cX5_swap 56 = .ok (.istore 4, 2) := fo_54 sr_X5_swap_2 rfl
theorem dX5_swap_58 : decode cX5_swap 58 = .ok (.iconst 0, 1) := fo_3 (fd_n 2 sr_X5_swap_2 rfl)
theorem dX5_swap_59 : decode cX5_swap 59 = .ok (.istore 5, 2) := fo_54 (fd_n 3 sr_X5_swap_2 rfl) rfl
theorem dX5_swap_61 : decode cX5_swap 61 = .ok (.iload 5, 2) := fo_21 (fd_n 5 sr_X5_swap_2 rfl) rfl
theorem dX5_swap_63 : decode cX5_swap 63 = .ok (.iconst 4, 1) := fo_7 (fd_n 7 sr_X5_swap_2 rfl)
theorem dX5_swap_64 : decode cX5_swap 64 = .ok (.if_icmp .ge 23, 3) := fo_162 (fd_n 8 sr_X5_swap_2 rfl) (by decide +kernel)
theorem dX5_swap_67 : decode cX5_swap 67 = .ok (.aload_n 0, 1) := fo_42 (fd_n 11 sr_X5_swap_2 rfl)
theorem dX5_swap_68 : decode cX5_swap 68 = .ok (.getfield 28, 3) := fo_180 (fd_n 12 sr_X5_swap_2 rfl) rfl
theorem dX5_swap_71 : decode cX5_swap 71 = .ok (.iload 5, 2) := fo_21 (fd_n 15 sr_X5_swap_2 rfl) rfl
theorem dX5_swap_73 : decode cX5_swap 73 = .ok (.aload_n 0, 1) := fo_42 (fd_n 17 sr_X5_swap_2 rfl)
theorem dX5_swap_74 : decode cX5_swap 74 = .ok (.getfield 25, 3) := fo_180 (fd_n 18 sr_X5_swap_2 rfl) rfl
theorem dX5_swap_77 : decode cX5_swap 77 = .ok (.iload 5, 2) := fo_21 (fd_n 21 sr_X5_swap_2 rfl) rfl
theorem dX5_swap_79 : decode cX5_swap 79 = .ok (.iaload, 1) := fo_46 (fd_n 23 sr_X5_swap_2 rfl)
theorem dX5_swap_80 : decode cX5_swap 80 = .ok (.iastore, 1) := fo_79 (fd_n 24 sr_X5_swap_2 rfl)
theorem dX5_swap_81 : decode cX5_swap 81 = .ok (.iinc 5 1, 3) := fo_132 (fd_n 25 sr_X5_swap_2 rfl) rfl (by decide +kernel)
theorem dX5_swap_84 : decode cX5_swap 84 = .ok (.goto (-23), 3) := fo_167 sr_X5_swap_3 (by decide +kernel)
theorem dX5_swap_87 : decode cX5_swap 87 = .ok (.aload_n 0, 1) := fo_42 (fd_n 3 sr_X5_swap_3 rfl)
theorem dX5_swap_88 : decode cX5_swap 88 = .ok (.invokevirtual 185, 3) := fo_182 (fd_n 4 sr_X5_swap_3 rfl) rfl
theorem dX5_swap_91 : decode cX5_swap 91 = .ok (.iconst 0, 1) := fo_3 (fd_n 7 sr_X5_swap_3 rfl)
theorem dX5_swap_92 : decode cX5_swap 92 = .ok (.istore 5, 2) := fo_54 (fd_n 8 sr_X5_swap_3 rfl) rfl
theorem dX5_swap_94 : decode cX5_swap 94 = .ok (.iload 5, 2) := fo_21 (fd_n 10 sr_X5_swap_3 rfl) rfl
theorem dX5_swap_96 : decode cX5_swap 96 = .ok (.iconst 4, 1) := fo_7 (fd_n 12 sr_X5_swap_3 rfl)
theorem dX5_swap_97 : decode cX5_swap 97 = .ok (.if_icmp .ge 53, 3) := fo_162 (fd_n 13 sr_X5_swap_3 rfl) (by decide +kernel)
theorem dX5_swap_100 : decode cX5_swap 100 = .ok (.aload_n 0, 1) := fo_42 (fd_n 16 sr_X5_swap_3 rfl)
theorem dX5_swap_101 : decode cX5_swap 101 = .ok (.getfield 7, 3) := fo_180 (fd_n 17 sr_X5_swap_3 rfl) rfl
theorem dX5_swap_104 : decode cX5_swap 104 = .ok (.iload_n 1, 1) := fo_27 (fd_n 20 sr_X5_swap_3 rfl)
theorem dX5_swap_105 : decode cX5_swap 105 = .ok (.iload 5, 2) := fo_21 (fd_n 21 sr_X5_swap_3 rfl) rfl
theorem dX5_swap_107 : decode cX5_swap 107 = .ok (.invokestatic 46, 3) := fo_184 (fd_n 23 sr_X5_swap_3 rfl) rfl
theorem dX5_swap_110 : decode cX5_swap 110 = .ok (.aload_n 0, 1) := fo_42 (fd_n 26 sr_X5_swap_3 rfl)
theorem dX5_swap_111 : decode cX5_swap 111 = .ok (.getfield 16, 3) := fo_180 (fd_n 27 sr_X5_swap_3 rfl) rfl
theorem dX5_swap_114 : decode cX5_swap 114 = .ok (.iload_n 2, 1) := fo_28 sr_X5_swap_4
theorem dX5_swap_115 : decode cX5_swap 115 = .ok (.iload 5, 2) := fo_21 (fd_n 1 sr_X5_swap_4 rfl) rfl
theorem dX5_swap_117 : decode cX5_swap 117 = .ok (.invokestatic 46, 3) := fo_184 (fd_n 3 sr_X5_swap_4 rfl) rfl
theorem dX5_swap_120 : decode cX5_swap 120 = .ok (.iaload, 1) := fo_46 (fd_n 6 sr_X5_swap_4 rfl)
theorem dX5_swap_121 : decode cX5_swap 121 = .ok (.iastore, 1) := fo_79 (fd_n 7 sr_X5_swap_4 rfl)
theorem dX5_swap_122 : decode cX5_swap 122 = .ok (.aload_n 0, 1) := fo_42 (fd_n 8 sr_X5_swap_4 rfl)
theorem dX5_swap_123 : decode cX5_swap 123 = .ok (.getfield 7, 3) := fo_180 (fd_n 9 sr_X5_swap_4 rfl) rfl
theorem dX5_swap_126 : decode cX5_swap 126 = .ok (.iload_n 2, 1) := fo_28 (fd_n 12 sr_X5_swap_4 rfl)
theorem dX5_swap_127 : decode cX5_swap 127 = .ok (.iload 5, 2) := fo_21 (fd_n 13 sr_X5_swap_4 rfl) rfl
theorem dX5_swap_129 : decode cX5_swap 129 = .ok (.invokestatic 46, 3) := fo_184 (fd_n 15 sr_X5_swap_4 rfl) rfl
theorem dX5_swap_132 : decode cX5_swap 132 = .ok (.aload_n 0, 1) := fo_42 (fd_n 18 sr_X5_swap_4 rfl)
theorem dX5_swap_133 : decode cX5_swap 133 = .ok (.getfield 16, 3) := fo_180 (fd_n 19 sr_X5_swap_4 rfl) rfl
theorem dX5_swap_136 : decode cX5_swap 136 = .ok (.iload_n 1, 1) := fo_27 (fd_n 22 sr_X5_swap_4 rfl)
theorem dX5_swap_137 : decode cX5_swap 137 = .ok (.iload 5, 2) := fo_21 (fd_n 23 sr_X5_swap_4 rfl) rfl
theorem dX5_swap_139 : decode cX5_swap 139 = .ok (.invokestatic 46, 3) := fo_184 (fd_n 25 sr_X5_swap_4 rfl) rfl
theorem dX5_swap_142 : decode cX5_swap 142 = .ok (.iaload, 1) := fo_46 sr_X5_swap_5
theorem dX5_swap_143 : decode cX5_swap 143 = .ok (.iastore, 1) := fo_79 (fd_n 1 sr_X5_swap_5 rfl)
theorem dX5_swap_144 : decode cX5_swap 144 = .ok (.iinc 5 1, 3) := fo_132 (fd_n 2 sr_X5_swap_5 rfl) rfl (by decide +kernel)
theorem dX5_swap_147 : decode cX5_swap 147 = .ok (.goto (-53), 3) := fo_167 (fd_n 5 sr_X5_swap_5 rfl) (by decide +kernel)
theorem dX5_swap_150 : decode cX5_swap 150 = .ok (.aload_n 0, 1) := fo_42 (fd_n 8 sr_X5_swap_5 rfl)
theorem dX5_swap_151 : decode cX5_swap 151 = .ok (.invokevirtual 163, 3) := fo_182 (fd_n 9 sr_X5_swap_5 rfl) rfl
theorem dX5_swap_154 : decode cX5_swap 154 = .ok (.istore 4, 2) := fo_54 (fd_n 12 sr_X5_swap_5 rfl) rfl
theorem dX5_swap_156 : decode cX5_swap 156 = .ok (.aload_n 0, 1) := fo_42 (fd_n 14 sr_X5_swap_5 rfl)
theorem dX5_swap_157 : decode cX5_swap 157 = .ok (.invokevirtual 191, 3) := fo_182 (fd_n 15 sr_X5_swap_5 rfl) rfl
theorem dX5_swap_160 : decode cX5_swap 160 = .ok (.iconst 0, 1) := fo_3 (fd_n 18 sr_X5_swap_5 rfl)
theorem dX5_swap_161 : decode cX5_swap 161 = .ok (.istore 5, 2) := fo_54 (fd_n 19 sr_X5_swap_5 rfl) rfl
theorem dX5_swap_163 : decode cX5_swap 163 = .ok (.iconst 0, 1) := fo_3 (fd_n 21 sr_X5_swap_5 rfl)
theorem dX5_swap_164 : decode cX5_swap 164 = .ok (.istore 6, 2) := fo_54 (fd_n 22 sr_X5_swap_5 rfl) rfl
theorem dX5_swap_166 : decode cX5_swap 166 = .ok (.iload 6, 2) := fo_21 (fd_n 24 sr_X5_swap_5 rfl) rfl
theorem dX5_swap_168 : decode cX5_swap 168 = .ok (.iconst 4, 1) := fo_7 (fd_n 26 sr_X5_swap_5 rfl)
theorem dX5_swap_169 : decode cX5_swap 169 = .ok (.if_icmp .ge 57, 3) := fo_162 (fd_n 27 sr_X5_swap_5 rfl) (by decide +kernel)
theorem dX5_swap_172 : decode cX5_swap 172 = .ok (.iload 5, 2) := fo_21 sr_X5_swap_6 rfl
theorem dX5_swap_174 : decode cX5_swap 174 = .ok (.aload_n 0, 1) := fo_42 (fd_n 2 sr_X5_swap_6 rfl)
theorem dX5_swap_175 : decode cX5_swap 175 = .ok (.getfield 25, 3) := fo_180 (fd_n 3 sr_X5_swap_6 rfl) rfl
theorem dX5_swap_178 : decode cX5_swap 178 = .ok (.iload 6, 2) := fo_21 (fd_n 6 sr_X5_swap_6 rfl) rfl
theorem dX5_swap_180 : decode cX5_swap 180 = .ok (.iaload, 1) := fo_46 (fd_n 8 sr_X5_swap_6 rfl)
theorem dX5_swap_181 : decode cX5_swap 181 = .ok (.aload_n 0, 1) := fo_42 (fd_n 9 sr_X5_swap_6 rfl)
theorem dX5_swap_182 : decode cX5_swap 182 = .ok (.getfield 28, 3) := fo_180 (fd_n 10 sr_X5_swap_6 rfl) rfl
theorem dX5_swap_185 : decode cX5_swap 185 = .ok (.iload 6, 2) := fo_21 (fd_n 13 sr_X5_swap_6 rfl) rfl
theorem dX5_swap_187 : decode cX5_swap 187 = .ok (.iaload, 1) := fo_46 (fd_n 15 sr_X5_swap_6 rfl)
theorem dX5_swap_188 : decode cX5_swap 188 = .ok (.if_icmp .le 7, 3) := fo_164 (fd_n 16 sr_X5_swap_6 rfl) (by decide +kernel)
theorem dX5_swap_191 : decode cX5_swap 191 = .ok (.iconst 1, 1) := fo_4 (fd_n 19 sr_X5_swap_6 rfl)
theorem dX5_swap_192 : decode cX5_swap 192 = .ok (.goto 25, 3) := fo_167 (fd_n 20 sr_X5_swap_6 rfl) (by decide +kernel)
theorem dX5_swap_195 : decode cX5_swap 195 = .ok (.aload_n 0, 1) := fo_42 (fd_n 23 sr_X5_swap_6 rfl)
theorem dX5_swap_196 : decode cX5_swap 196 = .ok (.getfield 25, 3) := fo_180 (fd_n 24 sr_X5_swap_6 rfl) rfl
theorem dX5_swap_199 : decode cX5_swap 199 = .ok (.iload 6, 2) := fo_21 (fd_n 27 sr_X5_swap_6 rfl) rfl
theorem dX5_swap_201 : decode cX5_swap 201 = .ok (.iaload, 1) := fo_46 sr_X5_swap_7
theorem dX5_swap_202 : decode cX5_swap 202 = .ok (.aload_n 0, 1) := fo_42 (fd_n 1 sr_X5_swap_7 rfl)
theorem dX5_swap_203 : decode cX5_swap 203 = .ok (.getfield 28, 3) := fo_180 (fd_n 2 sr_X5_swap_7 rfl) rfl
theorem dX5_swap_206 : decode cX5_swap 206 = .ok (.iload 6, 2) := fo_21 (fd_n 5 sr_X5_swap_7 rfl) rfl
theorem dX5_swap_208 : decode cX5_swap 208 = .ok (.iaload, 1) := fo_46 (fd_n 7 sr_X5_swap_7 rfl)
theorem dX5_swap_209 : decode cX5_swap 209 = .ok (.if_icmp .ge 7, 3) := fo_162 (fd_n 8 sr_X5_swap_7 rfl) (by decide +kernel)
theorem dX5_swap_212 : decode cX5_swap 212 = .ok (.iconst (-1), 1) := fo_2 (fd_n 11 sr_X5_swap_7 rfl)
theorem dX5_swap_213 : decode cX5_swap 213 = .ok (.goto 4, 3) := fo_167 (fd_n 12 sr_X5_swap_7 rfl) (by decide +kernel)
theorem dX5_swap_216 : decode cX5_swap 216 = .ok (.iconst 0, 1) := fo_3 (fd_n 15 sr_X5_swap_7 rfl)
theorem dX5_swap_217 : decode cX5_swap 217 = .ok (.iadd, 1) := fo_96 (fd_n 16 sr_X5_swap_7 rfl)
theorem dX5_swap_218 : decode cX5_swap 218 = .ok (.istore 5, 2) := fo_54 (fd_n 17 sr_X5_swap_7 rfl) rfl
theorem dX5_swap_220 : decode cX5_swap 220 = .ok (.iinc 6 1, 3) := fo_132 (fd_n 19 sr_X5_swap_7 rfl) rfl (by decide +kernel)
theorem dX5_swap_223 : decode cX5_swap 223 = .ok (.goto (-57), 3) := fo_167 (fd_n 22 sr_X5_swap_7 rfl) (by decide +kernel)
theorem dX5_swap_226 : decode cX5_swap 226 = .ok (.iload 5, 2) := fo_21 (fd_n 25 sr_X5_swap_7 rfl) rfl
theorem dX5_swap_228 : decode cX5_swap 228 = .ok (.ireturn, 1) := fo_172 (fd_n 27 sr_X5_swap_7 rfl)
noncomputable def sl_X5_spill_4 : List UInt8 := 167 :: 255 :: 181 :: 42 :: 182 :: 0 :: 163 :: 172 :: []
noncomputable def sl_X5_spill_3 : List UInt8 := 54 :: 4 :: 132 :: 5 :: 1 :: 167 :: 255 :: 220 :: 42 :: 180 :: 0 :: 7 :: 21 :: 5 :: 6 :: 184 :: 0 :: 46 :: 42 :: 182 :: 0 :: 212 :: 7 :: 112 :: 79 :: 132 :: 3 :: 1 :: sl_X5_spill_4
noncomputable def sl_X5_spill_2 : List UInt8 := 182 :: 0 :: 65 :: 153 :: 0 :: 8 :: 21 :: 4 :: 158 :: 0 :: 28 :: 21 :: 4 :: 42 :: 21 :: 5 :: 182 :: 0 :: 65 :: 153 :: 0 :: 7 :: 4 :: 167 :: 0 :: 4 :: 3 :: 100 :: sl_X5_spill_3
noncomputable def sl_X5_spill_1 : List UInt8 := 42 :: 18 :: 84 :: 182 :: 0 :: 80 :: 172 :: 3 :: 62 :: 29 :: 27 :: 162 :: 0 :: 76 :: 42 :: 182 :: 0 :: 212 :: 28 :: 112 :: 54 :: 4 :: 3 :: 54 :: 5 :: 42 :: 21 :: 5 :: sl_X5_spill_2
noncomputable def sl_X5_spill_0 : List UInt8 := 27 :: 133 :: 10 :: 20 :: 0 :: 210 :: 184 :: 0 :: 53 :: 154 :: 0 :: 10 :: 42 :: 18 :: 50 :: 182 :: 0 :: 80 :: 172 :: 42 :: 182 :: 0 :: 89 :: 61 :: 28 :: 154 :: 0 :: 10 :: sl_X5_spill_1
theorem sr_X5_spill_0 : fd_at cX5_spill 0 sl_X5_spill_0 := fd_base (by decide +kernel)
theorem sr_X5_spill_1 : fd_at cX5_spill 28 sl_X5_spill_1 := fd_n 28 sr_X5_spill_0 rfl
theorem sr_X5_spill_2 : fd_at cX5_spill 56 sl_X5_spill_2 := fd_n 28 sr_X5_spill_1 rfl
theorem sr_X5_spill_3 : fd_at cX5_spill 84 sl_X5_spill_3 := fd_n 28 sr_X5_spill_2 rfl
theorem sr_X5_spill_4 : fd_at cX5_spill 112 sl_X5_spill_4 := fd_n 28 sr_X5_spill_3 rfl
theorem dX5_spill_0 : decode cX5_spill 0 = .ok (.iload_n 1, 1) := fo_27 sr_X5_spill_0
theorem dX5_spill_1 : decode cX5_spill 1 = .ok (.i2l, 1) := fo_133 (fd_n 1 sr_X5_spill_0 rfl)
theorem dX5_spill_2 : decode cX5_spill 2 = .ok (.lconst 1, 1) := fo_10 (fd_n 2 sr_X5_spill_0 rfl)
theorem dX5_spill_3 : decode cX5_spill 3 = .ok (.ldc2_w 210, 3) := fo_20 (fd_n 3 sr_X5_spill_0 rfl) rfl
theorem dX5_spill_6 : decode cX5_spill 6 = .ok (.invokestatic 53, 3) := fo_184 (fd_n 6 sr_X5_spill_0 rfl) rfl
theorem dX5_spill_9 : decode cX5_spill 9 = .ok (.ifCond .ne 10, 3) := fo_154 (fd_n 9 sr_X5_spill_0 rfl) (by decide +kernel)
theorem dX5_spill_12 : decode cX5_spill 12 = .ok (.aload_n 0, 1) := fo_42 (fd_n 12 sr_X5_spill_0 rfl)
theorem dX5_spill_13 : decode cX5_spill 13 = .ok (.ldc 50, 2) := fo_18 (fd_n 13 sr_X5_spill_0 rfl) rfl
theorem dX5_spill_15 : decode cX5_spill 15 = .ok (.invokevirtual 80, 3) := fo_182 (fd_n 15 sr_X5_spill_0 rfl) rfl
theorem dX5_spill_18 : decode cX5_spill 18 = .ok (.ireturn, 1) := fo_172 (fd_n 18 sr_X5_spill_0 rfl)
theorem dX5_spill_19 : decode cX5_spill 19 = .ok (.aload_n 0, 1) := fo_42 (fd_n 19 sr_X5_spill_0 rfl)
theorem dX5_spill_20 : decode cX5_spill 20 = .ok (.invokevirtual 89, 3) := fo_182 (fd_n 20 sr_X5_spill_0 rfl) rfl
theorem dX5_spill_23 : decode cX5_spill 23 = .ok (.istore_n 2, 1) := fo_61 (fd_n 23 sr_X5_spill_0 rfl)
theorem dX5_spill_24 : decode cX5_spill 24 = .ok (.iload_n 2, 1) := fo_28 (fd_n 24 sr_X5_spill_0 rfl)
theorem dX5_spill_25 : decode cX5_spill 25 = .ok (.ifCond .ne 10, 3) := fo_154 (fd_n 25 sr_X5_spill_0 rfl) (by decide +kernel)
theorem dX5_spill_28 : decode cX5_spill 28 = .ok (.aload_n 0, 1) := fo_42 sr_X5_spill_1
theorem dX5_spill_29 : decode cX5_spill 29 = .ok (.ldc 84, 2) := fo_18 (fd_n 1 sr_X5_spill_1 rfl) rfl
theorem dX5_spill_31 : decode cX5_spill 31 = .ok (.invokevirtual 80, 3) := fo_182 (fd_n 3 sr_X5_spill_1 rfl) rfl
theorem dX5_spill_34 : decode cX5_spill 34 = .ok (.ireturn, 1) := fo_172 (fd_n 6 sr_X5_spill_1 rfl)
theorem dX5_spill_35 : decode cX5_spill 35 = .ok (.iconst 0, 1) := fo_3 (fd_n 7 sr_X5_spill_1 rfl)
theorem dX5_spill_36 : decode cX5_spill 36 = .ok (.istore_n 3, 1) := fo_62 (fd_n 8 sr_X5_spill_1 rfl)
theorem dX5_spill_37 : decode cX5_spill 37 = .ok (.iload_n 3, 1) := fo_29 (fd_n 9 sr_X5_spill_1 rfl)
theorem dX5_spill_38 : decode cX5_spill 38 = .ok (.iload_n 1, 1) := fo_27 (fd_n 10 sr_X5_spill_1 rfl)
theorem dX5_spill_39 : decode cX5_spill 39 = .ok (.if_icmp .ge 76, 3) := fo_162 (fd_n 11 sr_X5_spill_1 rfl) (by decide +kernel)
theorem dX5_spill_42 : decode cX5_spill 42 = .ok (.aload_n 0, 1) := fo_42 (fd_n 14 sr_X5_spill_1 rfl)
theorem dX5_spill_43 : decode cX5_spill 43 = .ok (.invokevirtual 212, 3) := fo_182 (fd_n 15 sr_X5_spill_1 rfl) rfl
theorem dX5_spill_46 : decode cX5_spill 46 = .ok (.iload_n 2, 1) := fo_28 (fd_n 18 sr_X5_spill_1 rfl)
theorem dX5_spill_47 : decode cX5_spill 47 = .ok (.irem, 1) := fo_112 (fd_n 19 sr_X5_spill_1 rfl)
theorem dX5_spill_48 : decode cX5_spill 48 = .ok (.istore 4, 2) := fo_54 (fd_n 20 sr_X5_spill_1 rfl) rfl
theorem dX5_spill_50 : decode cX5_spill 50 = .ok (.iconst 0, 1) := fo_3 (fd_n 22 sr_X5_spill_1 rfl)
theorem dX5_spill_51 : decode cX5_spill 51 = .ok (.istore 5, 2) := fo_54 (fd_n 23 sr_X5_spill_1 rfl) rfl
theorem dX5_spill_53 : decode cX5_spill 53 = .ok (.aload_n 0, 1) := fo_42 (fd_n 25 sr_X5_spill_1 rfl)
theorem dX5_spill_54 : decode cX5_spill 54 = .ok (.iload 5, 2) := fo_21 (fd_n 26 sr_X5_spill_1 rfl) rfl
theorem dX5_spill_56 : decode cX5_spill 56 = .ok (.invokevirtual 65, 3) := fo_182 sr_X5_spill_2 rfl
theorem dX5_spill_59 : decode cX5_spill 59 = .ok (.ifCond .eq 8, 3) := fo_153 (fd_n 3 sr_X5_spill_2 rfl) (by decide +kernel)
theorem dX5_spill_62 : decode cX5_spill 62 = .ok (.iload 4, 2) := fo_21 (fd_n 6 sr_X5_spill_2 rfl) rfl
theorem dX5_spill_64 : decode cX5_spill 64 = .ok (.ifCond .le 28, 3) := fo_158 (fd_n 8 sr_X5_spill_2 rfl) (by decide +kernel)
theorem dX5_spill_67 : decode cX5_spill 67 = .ok (.iload 4, 2) := fo_21 (fd_n 11 sr_X5_spill_2 rfl) rfl
theorem dX5_spill_69 : decode cX5_spill 69 = .ok (.aload_n 0, 1) := fo_42 (fd_n 13 sr_X5_spill_2 rfl)
theorem dX5_spill_70 : decode cX5_spill 70 = .ok (.iload 5, 2) := fo_21 (fd_n 14 sr_X5_spill_2 rfl) rfl
theorem dX5_spill_72 : decode cX5_spill 72 = .ok (.invokevirtual 65, 3) := fo_182 (fd_n 16 sr_X5_spill_2 rfl) rfl
theorem dX5_spill_75 : decode cX5_spill 75 = .ok (.ifCond .eq 7, 3) := fo_153 (fd_n 19 sr_X5_spill_2 rfl) (by decide +kernel)
theorem dX5_spill_78 : decode cX5_spill 78 = .ok (.iconst 1, 1) := fo_4 (fd_n 22 sr_X5_spill_2 rfl)
theorem dX5_spill_79 : decode cX5_spill 79 = .ok (.goto 4, 3) := fo_167 (fd_n 23 sr_X5_spill_2 rfl) (by decide +kernel)
theorem dX5_spill_82 : decode cX5_spill 82 = .ok (.iconst 0, 1) := fo_3 (fd_n 26 sr_X5_spill_2 rfl)
theorem dX5_spill_83 : decode cX5_spill 83 = .ok (.isub, 1) := fo_100 (fd_n 27 sr_X5_spill_2 rfl)
theorem dX5_spill_84 : decode cX5_spill 84 = .ok (.istore 4, 2) := fo_54 sr_X5_spill_3 rfl
theorem dX5_spill_86 : decode cX5_spill 86 = .ok (.iinc 5 1, 3) := fo_132 (fd_n 2 sr_X5_spill_3 rfl) rfl (by decide +kernel)
theorem dX5_spill_89 : decode cX5_spill 89 = .ok (.goto (-36), 3) := fo_167 (fd_n 5 sr_X5_spill_3 rfl) (by decide +kernel)
theorem dX5_spill_92 : decode cX5_spill 92 = .ok (.aload_n 0, 1) := fo_42 (fd_n 8 sr_X5_spill_3 rfl)
theorem dX5_spill_93 : decode cX5_spill 93 = .ok (.getfield 7, 3) := fo_180 (fd_n 9 sr_X5_spill_3 rfl) rfl
theorem dX5_spill_96 : decode cX5_spill 96 = .ok (.iload 5, 2) := fo_21 (fd_n 12 sr_X5_spill_3 rfl) rfl
theorem dX5_spill_98 : decode cX5_spill 98 = .ok (.iconst 3, 1) := fo_6 (fd_n 14 sr_X5_spill_3 rfl)
theorem dX5_spill_99 : decode cX5_spill 99 = .ok (.invokestatic 46, 3) := fo_184 (fd_n 15 sr_X5_spill_3 rfl) rfl
theorem dX5_spill_102 : decode cX5_spill 102 = .ok (.aload_n 0, 1) := fo_42 (fd_n 18 sr_X5_spill_3 rfl)
theorem dX5_spill_103 : decode cX5_spill 103 = .ok (.invokevirtual 212, 3) := fo_182 (fd_n 19 sr_X5_spill_3 rfl) rfl
theorem dX5_spill_106 : decode cX5_spill 106 = .ok (.iconst 4, 1) := fo_7 (fd_n 22 sr_X5_spill_3 rfl)
theorem dX5_spill_107 : decode cX5_spill 107 = .ok (.irem, 1) := fo_112 (fd_n 23 sr_X5_spill_3 rfl)
theorem dX5_spill_108 : decode cX5_spill 108 = .ok (.iastore, 1) := fo_79 (fd_n 24 sr_X5_spill_3 rfl)
theorem dX5_spill_109 : decode cX5_spill 109 = .ok (.iinc 3 1, 3) := fo_132 (fd_n 25 sr_X5_spill_3 rfl) rfl (by decide +kernel)
theorem dX5_spill_112 : decode cX5_spill 112 = .ok (.goto (-75), 3) := fo_167 sr_X5_spill_4 (by decide +kernel)
theorem dX5_spill_115 : decode cX5_spill 115 = .ok (.aload_n 0, 1) := fo_42 (fd_n 3 sr_X5_spill_4 rfl)
theorem dX5_spill_116 : decode cX5_spill 116 = .ok (.invokevirtual 163, 3) := fo_182 (fd_n 4 sr_X5_spill_4 rfl) rfl
theorem dX5_spill_119 : decode cX5_spill 119 = .ok (.ireturn, 1) := fo_172 (fd_n 7 sr_X5_spill_4 rfl)
noncomputable def sl_X5_seed_0 : List UInt8 := 42 :: 180 :: 0 :: 7 :: 5 :: 46 :: 61 :: 42 :: 180 :: 0 :: 7 :: 5 :: 27 :: 79 :: 28 :: 172 :: []
theorem sr_X5_seed_0 : fd_at cX5_seed 0 sl_X5_seed_0 := fd_base (by decide +kernel)
theorem dX5_seed_0 : decode cX5_seed 0 = .ok (.aload_n 0, 1) := fo_42 sr_X5_seed_0
theorem dX5_seed_1 : decode cX5_seed 1 = .ok (.getfield 7, 3) := fo_180 (fd_n 1 sr_X5_seed_0 rfl) rfl
theorem dX5_seed_4 : decode cX5_seed 4 = .ok (.iconst 2, 1) := fo_5 (fd_n 4 sr_X5_seed_0 rfl)
theorem dX5_seed_5 : decode cX5_seed 5 = .ok (.iaload, 1) := fo_46 (fd_n 5 sr_X5_seed_0 rfl)
theorem dX5_seed_6 : decode cX5_seed 6 = .ok (.istore_n 2, 1) := fo_61 (fd_n 6 sr_X5_seed_0 rfl)
theorem dX5_seed_7 : decode cX5_seed 7 = .ok (.aload_n 0, 1) := fo_42 (fd_n 7 sr_X5_seed_0 rfl)
theorem dX5_seed_8 : decode cX5_seed 8 = .ok (.getfield 7, 3) := fo_180 (fd_n 8 sr_X5_seed_0 rfl) rfl
theorem dX5_seed_11 : decode cX5_seed 11 = .ok (.iconst 2, 1) := fo_5 (fd_n 11 sr_X5_seed_0 rfl)
theorem dX5_seed_12 : decode cX5_seed 12 = .ok (.iload_n 1, 1) := fo_27 (fd_n 12 sr_X5_seed_0 rfl)
theorem dX5_seed_13 : decode cX5_seed 13 = .ok (.iastore, 1) := fo_79 (fd_n 13 sr_X5_seed_0 rfl)
theorem dX5_seed_14 : decode cX5_seed 14 = .ok (.iload_n 2, 1) := fo_28 (fd_n 14 sr_X5_seed_0 rfl)
theorem dX5_seed_15 : decode cX5_seed 15 = .ok (.ireturn, 1) := fo_172 (fd_n 15 sr_X5_seed_0 rfl)
noncomputable def sl_X5_feed_2 : List UInt8 := 122 :: 17 :: 0 :: 255 :: 126 :: 79 :: 42 :: 89 :: 180 :: 0 :: 215 :: 4 :: 96 :: 181 :: 0 :: 215 :: 132 :: 3 :: 255 :: 167 :: 255 :: 220 :: 42 :: 180 :: 0 :: 215 :: 172 :: []
noncomputable def sl_X5_feed_1 : List UInt8 := 42 :: 18 :: 117 :: 182 :: 0 :: 80 :: 172 :: 28 :: 4 :: 100 :: 62 :: 29 :: 155 :: 0 :: 38 :: 42 :: 180 :: 0 :: 31 :: 42 :: 180 :: 0 :: 215 :: 27 :: 16 :: 8 :: 29 :: 104 :: sl_X5_feed_2
noncomputable def sl_X5_feed_0 : List UInt8 := 28 :: 133 :: 10 :: 20 :: 0 :: 137 :: 184 :: 0 :: 53 :: 154 :: 0 :: 10 :: 42 :: 18 :: 50 :: 182 :: 0 :: 80 :: 172 :: 42 :: 180 :: 0 :: 215 :: 28 :: 96 :: 16 :: 120 :: 164 :: 0 :: 10 :: sl_X5_feed_1
theorem sr_X5_feed_0 : fd_at cX5_feed 0 sl_X5_feed_0 := fd_base (by decide +kernel)
theorem sr_X5_feed_1 : fd_at cX5_feed 30 sl_X5_feed_1 := fd_n 30 sr_X5_feed_0 rfl
theorem sr_X5_feed_2 : fd_at cX5_feed 58 sl_X5_feed_2 := fd_n 28 sr_X5_feed_1 rfl
theorem dX5_feed_0 : decode cX5_feed 0 = .ok (.iload_n 2, 1) := fo_28 sr_X5_feed_0
theorem dX5_feed_1 : decode cX5_feed 1 = .ok (.i2l, 1) := fo_133 (fd_n 1 sr_X5_feed_0 rfl)
theorem dX5_feed_2 : decode cX5_feed 2 = .ok (.lconst 1, 1) := fo_10 (fd_n 2 sr_X5_feed_0 rfl)
theorem dX5_feed_3 : decode cX5_feed 3 = .ok (.ldc2_w 137, 3) := fo_20 (fd_n 3 sr_X5_feed_0 rfl) rfl
theorem dX5_feed_6 : decode cX5_feed 6 = .ok (.invokestatic 53, 3) := fo_184 (fd_n 6 sr_X5_feed_0 rfl) rfl
theorem dX5_feed_9 : decode cX5_feed 9 = .ok (.ifCond .ne 10, 3) := fo_154 (fd_n 9 sr_X5_feed_0 rfl) (by decide +kernel)
theorem dX5_feed_12 : decode cX5_feed 12 = .ok (.aload_n 0, 1) := fo_42 (fd_n 12 sr_X5_feed_0 rfl)
theorem dX5_feed_13 : decode cX5_feed 13 = .ok (.ldc 50, 2) := fo_18 (fd_n 13 sr_X5_feed_0 rfl) rfl
theorem dX5_feed_15 : decode cX5_feed 15 = .ok (.invokevirtual 80, 3) := fo_182 (fd_n 15 sr_X5_feed_0 rfl) rfl
theorem dX5_feed_18 : decode cX5_feed 18 = .ok (.ireturn, 1) := fo_172 (fd_n 18 sr_X5_feed_0 rfl)
theorem dX5_feed_19 : decode cX5_feed 19 = .ok (.aload_n 0, 1) := fo_42 (fd_n 19 sr_X5_feed_0 rfl)
theorem dX5_feed_20 : decode cX5_feed 20 = .ok (.getfield 215, 3) := fo_180 (fd_n 20 sr_X5_feed_0 rfl) rfl
theorem dX5_feed_23 : decode cX5_feed 23 = .ok (.iload_n 2, 1) := fo_28 (fd_n 23 sr_X5_feed_0 rfl)
theorem dX5_feed_24 : decode cX5_feed 24 = .ok (.iadd, 1) := fo_96 (fd_n 24 sr_X5_feed_0 rfl)
theorem dX5_feed_25 : decode cX5_feed 25 = .ok (.bipush 120, 2) := fo_16 (fd_n 25 sr_X5_feed_0 rfl) (by decide +kernel)
theorem dX5_feed_27 : decode cX5_feed 27 = .ok (.if_icmp .le 10, 3) := fo_164 (fd_n 27 sr_X5_feed_0 rfl) (by decide +kernel)
theorem dX5_feed_30 : decode cX5_feed 30 = .ok (.aload_n 0, 1) := fo_42 sr_X5_feed_1
theorem dX5_feed_31 : decode cX5_feed 31 = .ok (.ldc 117, 2) := fo_18 (fd_n 1 sr_X5_feed_1 rfl) rfl
theorem dX5_feed_33 : decode cX5_feed 33 = .ok (.invokevirtual 80, 3) := fo_182 (fd_n 3 sr_X5_feed_1 rfl) rfl
theorem dX5_feed_36 : decode cX5_feed 36 = .ok (.ireturn, 1) := fo_172 (fd_n 6 sr_X5_feed_1 rfl)
theorem dX5_feed_37 : decode cX5_feed 37 = .ok (.iload_n 2, 1) := fo_28 (fd_n 7 sr_X5_feed_1 rfl)
theorem dX5_feed_38 : decode cX5_feed 38 = .ok (.iconst 1, 1) := fo_4 (fd_n 8 sr_X5_feed_1 rfl)
theorem dX5_feed_39 : decode cX5_feed 39 = .ok (.isub, 1) := fo_100 (fd_n 9 sr_X5_feed_1 rfl)
theorem dX5_feed_40 : decode cX5_feed 40 = .ok (.istore_n 3, 1) := fo_62 (fd_n 10 sr_X5_feed_1 rfl)
theorem dX5_feed_41 : decode cX5_feed 41 = .ok (.iload_n 3, 1) := fo_29 (fd_n 11 sr_X5_feed_1 rfl)
theorem dX5_feed_42 : decode cX5_feed 42 = .ok (.ifCond .lt 38, 3) := fo_155 (fd_n 12 sr_X5_feed_1 rfl) (by decide +kernel)
theorem dX5_feed_45 : decode cX5_feed 45 = .ok (.aload_n 0, 1) := fo_42 (fd_n 15 sr_X5_feed_1 rfl)
theorem dX5_feed_46 : decode cX5_feed 46 = .ok (.getfield 31, 3) := fo_180 (fd_n 16 sr_X5_feed_1 rfl) rfl
theorem dX5_feed_49 : decode cX5_feed 49 = .ok (.aload_n 0, 1) := fo_42 (fd_n 19 sr_X5_feed_1 rfl)
theorem dX5_feed_50 : decode cX5_feed 50 = .ok (.getfield 215, 3) := fo_180 (fd_n 20 sr_X5_feed_1 rfl) rfl
theorem dX5_feed_53 : decode cX5_feed 53 = .ok (.iload_n 1, 1) := fo_27 (fd_n 23 sr_X5_feed_1 rfl)
theorem dX5_feed_54 : decode cX5_feed 54 = .ok (.bipush 8, 2) := fo_16 (fd_n 24 sr_X5_feed_1 rfl) (by decide +kernel)
theorem dX5_feed_56 : decode cX5_feed 56 = .ok (.iload_n 3, 1) := fo_29 (fd_n 26 sr_X5_feed_1 rfl)
theorem dX5_feed_57 : decode cX5_feed 57 = .ok (.imul, 1) := fo_104 (fd_n 27 sr_X5_feed_1 rfl)
theorem dX5_feed_58 : decode cX5_feed 58 = .ok (.ishr, 1) := fo_122 sr_X5_feed_2
theorem dX5_feed_59 : decode cX5_feed 59 = .ok (.sipush 255, 3) := fo_17 (fd_n 1 sr_X5_feed_2 rfl) (by decide +kernel)
theorem dX5_feed_62 : decode cX5_feed 62 = .ok (.iand, 1) := fo_126 (fd_n 4 sr_X5_feed_2 rfl)
theorem dX5_feed_63 : decode cX5_feed 63 = .ok (.iastore, 1) := fo_79 (fd_n 5 sr_X5_feed_2 rfl)
theorem dX5_feed_64 : decode cX5_feed 64 = .ok (.aload_n 0, 1) := fo_42 (fd_n 6 sr_X5_feed_2 rfl)
theorem dX5_feed_65 : decode cX5_feed 65 = .ok (.dup, 1) := fo_89 (fd_n 7 sr_X5_feed_2 rfl)
theorem dX5_feed_66 : decode cX5_feed 66 = .ok (.getfield 215, 3) := fo_180 (fd_n 8 sr_X5_feed_2 rfl) rfl
theorem dX5_feed_69 : decode cX5_feed 69 = .ok (.iconst 1, 1) := fo_4 (fd_n 11 sr_X5_feed_2 rfl)
theorem dX5_feed_70 : decode cX5_feed 70 = .ok (.iadd, 1) := fo_96 (fd_n 12 sr_X5_feed_2 rfl)
theorem dX5_feed_71 : decode cX5_feed 71 = .ok (.putfield 215, 3) := fo_181 (fd_n 13 sr_X5_feed_2 rfl) rfl
theorem dX5_feed_74 : decode cX5_feed 74 = .ok (.iinc 3 (-1), 3) := fo_132 (fd_n 16 sr_X5_feed_2 rfl) rfl (by decide +kernel)
theorem dX5_feed_77 : decode cX5_feed 77 = .ok (.goto (-36), 3) := fo_167 (fd_n 19 sr_X5_feed_2 rfl) (by decide +kernel)
theorem dX5_feed_80 : decode cX5_feed 80 = .ok (.aload_n 0, 1) := fo_42 (fd_n 22 sr_X5_feed_2 rfl)
theorem dX5_feed_81 : decode cX5_feed 81 = .ok (.getfield 215, 3) := fo_180 (fd_n 23 sr_X5_feed_2 rfl) rfl
theorem dX5_feed_84 : decode cX5_feed 84 = .ok (.ireturn, 1) := fo_172 (fd_n 26 sr_X5_feed_2 rfl)
noncomputable def sl_X5_wipe_0 : List UInt8 := 42 :: 180 :: 0 :: 215 :: 60 :: 42 :: 3 :: 181 :: 0 :: 215 :: 27 :: 172 :: []
theorem sr_X5_wipe_0 : fd_at cX5_wipe 0 sl_X5_wipe_0 := fd_base (by decide +kernel)
theorem dX5_wipe_0 : decode cX5_wipe 0 = .ok (.aload_n 0, 1) := fo_42 sr_X5_wipe_0
theorem dX5_wipe_1 : decode cX5_wipe 1 = .ok (.getfield 215, 3) := fo_180 (fd_n 1 sr_X5_wipe_0 rfl) rfl
theorem dX5_wipe_4 : decode cX5_wipe 4 = .ok (.istore_n 1, 1) := fo_60 (fd_n 4 sr_X5_wipe_0 rfl)
theorem dX5_wipe_5 : decode cX5_wipe 5 = .ok (.aload_n 0, 1) := fo_42 (fd_n 5 sr_X5_wipe_0 rfl)
theorem dX5_wipe_6 : decode cX5_wipe 6 = .ok (.iconst 0, 1) := fo_3 (fd_n 6 sr_X5_wipe_0 rfl)
theorem dX5_wipe_7 : decode cX5_wipe 7 = .ok (.putfield 215, 3) := fo_181 (fd_n 7 sr_X5_wipe_0 rfl) rfl
theorem dX5_wipe_10 : decode cX5_wipe 10 = .ok (.iload_n 1, 1) := fo_27 (fd_n 10 sr_X5_wipe_0 rfl)
theorem dX5_wipe_11 : decode cX5_wipe 11 = .ok (.ireturn, 1) := fo_172 (fd_n 11 sr_X5_wipe_0 rfl)
noncomputable def sl_X5_byteAt_0 : List UInt8 := 27 :: 42 :: 180 :: 0 :: 215 :: 162 :: 0 :: 12 :: 42 :: 180 :: 0 :: 31 :: 27 :: 46 :: 167 :: 0 :: 4 :: 2 :: 172 :: []
theorem sr_X5_byteAt_0 : fd_at cX5_byteAt 0 sl_X5_byteAt_0 := fd_base (by decide +kernel)
theorem dX5_byteAt_0 : decode cX5_byteAt 0 = .ok (.iload_n 1, 1) := fo_27 sr_X5_byteAt_0
theorem dX5_byteAt_1 : decode cX5_byteAt 1 = .ok (.aload_n 0, 1) := fo_42 (fd_n 1 sr_X5_byteAt_0 rfl)
theorem dX5_byteAt_2 : decode cX5_byteAt 2 = .ok (.getfield 215, 3) := fo_180 (fd_n 2 sr_X5_byteAt_0 rfl) rfl
theorem dX5_byteAt_5 : decode cX5_byteAt 5 = .ok (.if_icmp .ge 12, 3) := fo_162 (fd_n 5 sr_X5_byteAt_0 rfl) (by decide +kernel)
theorem dX5_byteAt_8 : decode cX5_byteAt 8 = .ok (.aload_n 0, 1) := fo_42 (fd_n 8 sr_X5_byteAt_0 rfl)
theorem dX5_byteAt_9 : decode cX5_byteAt 9 = .ok (.getfield 31, 3) := fo_180 (fd_n 9 sr_X5_byteAt_0 rfl) rfl
theorem dX5_byteAt_12 : decode cX5_byteAt 12 = .ok (.iload_n 1, 1) := fo_27 (fd_n 12 sr_X5_byteAt_0 rfl)
theorem dX5_byteAt_13 : decode cX5_byteAt 13 = .ok (.iaload, 1) := fo_46 (fd_n 13 sr_X5_byteAt_0 rfl)
theorem dX5_byteAt_14 : decode cX5_byteAt 14 = .ok (.goto 4, 3) := fo_167 (fd_n 14 sr_X5_byteAt_0 rfl) (by decide +kernel)
theorem dX5_byteAt_17 : decode cX5_byteAt 17 = .ok (.iconst (-1), 1) := fo_2 (fd_n 17 sr_X5_byteAt_0 rfl)
theorem dX5_byteAt_18 : decode cX5_byteAt 18 = .ok (.ireturn, 1) := fo_172 (fd_n 18 sr_X5_byteAt_0 rfl)
noncomputable def sl_X5_isLetter_0 : List UInt8 := 26 :: 133 :: 20 :: 0 :: 218 :: 20 :: 0 :: 220 :: 184 :: 0 :: 53 :: 172 :: []
theorem sr_X5_isLetter_0 : fd_at cX5_isLetter 0 sl_X5_isLetter_0 := fd_base (by decide +kernel)
theorem dX5_isLetter_0 : decode cX5_isLetter 0 = .ok (.iload_n 0, 1) := fo_26 sr_X5_isLetter_0
theorem dX5_isLetter_1 : decode cX5_isLetter 1 = .ok (.i2l, 1) := fo_133 (fd_n 1 sr_X5_isLetter_0 rfl)
theorem dX5_isLetter_2 : decode cX5_isLetter 2 = .ok (.ldc2_w 218, 3) := fo_20 (fd_n 2 sr_X5_isLetter_0 rfl) rfl
theorem dX5_isLetter_5 : decode cX5_isLetter 5 = .ok (.ldc2_w 220, 3) := fo_20 (fd_n 5 sr_X5_isLetter_0 rfl) rfl
theorem dX5_isLetter_8 : decode cX5_isLetter 8 = .ok (.invokestatic 53, 3) := fo_184 (fd_n 8 sr_X5_isLetter_0 rfl) rfl
theorem dX5_isLetter_11 : decode cX5_isLetter 11 = .ok (.ireturn, 1) := fo_172 (fd_n 11 sr_X5_isLetter_0 rfl)
noncomputable def sl_X5_isDigit_0 : List UInt8 := 26 :: 133 :: 20 :: 0 :: 222 :: 20 :: 0 :: 224 :: 184 :: 0 :: 53 :: 172 :: []
theorem sr_X5_isDigit_0 : fd_at cX5_isDigit 0 sl_X5_isDigit_0 := fd_base (by decide +kernel)
theorem dX5_isDigit_0 : decode cX5_isDigit 0 = .ok (.iload_n 0, 1) := fo_26 sr_X5_isDigit_0
theorem dX5_isDigit_1 : decode cX5_isDigit 1 = .ok (.i2l, 1) := fo_133 (fd_n 1 sr_X5_isDigit_0 rfl)
theorem dX5_isDigit_2 : decode cX5_isDigit 2 = .ok (.ldc2_w 222, 3) := fo_20 (fd_n 2 sr_X5_isDigit_0 rfl) rfl
theorem dX5_isDigit_5 : decode cX5_isDigit 5 = .ok (.ldc2_w 224, 3) := fo_20 (fd_n 5 sr_X5_isDigit_0 rfl) rfl
theorem dX5_isDigit_8 : decode cX5_isDigit 8 = .ok (.invokestatic 53, 3) := fo_184 (fd_n 8 sr_X5_isDigit_0 rfl) rfl
theorem dX5_isDigit_11 : decode cX5_isDigit 11 = .ok (.ireturn, 1) := fo_172 (fd_n 11 sr_X5_isDigit_0 rfl)
noncomputable def sl_X5_token_4 : List UInt8 := 184 :: 0 :: 238 :: 153 :: 0 :: 16 :: 42 :: 89 :: 180 :: 0 :: 226 :: 4 :: 96 :: 181 :: 0 :: 226 :: 167 :: 255 :: 210 :: 177 :: []
noncomputable def sl_X5_token_3 : List UInt8 := 27 :: 153 :: 0 :: 17 :: 42 :: 42 :: 180 :: 0 :: 226 :: 182 :: 0 :: 232 :: 184 :: 0 :: 235 :: 154 :: 0 :: 21 :: 28 :: 153 :: 0 :: 30 :: 42 :: 42 :: 180 :: 0 :: 226 :: 182 :: 0 :: 232 :: sl_X5_token_4
noncomputable def sl_X5_token_2 : List UInt8 := 61 :: 42 :: 42 :: 180 :: 0 :: 229 :: 42 :: 180 :: 0 :: 215 :: 162 :: 0 :: 12 :: 42 :: 180 :: 0 :: 229 :: 4 :: 96 :: 167 :: 0 :: 7 :: 42 :: 180 :: 0 :: 229 :: 181 :: 0 :: 226 :: sl_X5_token_3
noncomputable def sl_X5_token_1 : List UInt8 := 181 :: 0 :: 229 :: 167 :: 255 :: 233 :: 42 :: 42 :: 180 :: 0 :: 229 :: 182 :: 0 :: 232 :: 184 :: 0 :: 235 :: 60 :: 42 :: 42 :: 180 :: 0 :: 229 :: 182 :: 0 :: 232 :: 184 :: 0 :: 238 :: sl_X5_token_2
noncomputable def sl_X5_token_0 : List UInt8 := 42 :: 42 :: 180 :: 0 :: 226 :: 181 :: 0 :: 229 :: 42 :: 42 :: 180 :: 0 :: 229 :: 182 :: 0 :: 232 :: 16 :: 32 :: 160 :: 0 :: 16 :: 42 :: 89 :: 180 :: 0 :: 229 :: 4 :: 96 :: sl_X5_token_1
theorem sr_X5_token_0 : fd_at cX5_token 0 sl_X5_token_0 := fd_base (by decide +kernel)
theorem sr_X5_token_1 : fd_at cX5_token 28 sl_X5_token_1 := fd_n 28 sr_X5_token_0 rfl
theorem sr_X5_token_2 : fd_at cX5_token 57 sl_X5_token_2 := fd_n 29 sr_X5_token_1 rfl
theorem sr_X5_token_3 : fd_at cX5_token 86 sl_X5_token_3 := fd_n 29 sr_X5_token_2 rfl
theorem sr_X5_token_4 : fd_at cX5_token 116 sl_X5_token_4 := fd_n 30 sr_X5_token_3 rfl
theorem dX5_token_0 : decode cX5_token 0 = .ok (.aload_n 0, 1) := fo_42 sr_X5_token_0
theorem dX5_token_1 : decode cX5_token 1 = .ok (.aload_n 0, 1) := fo_42 (fd_n 1 sr_X5_token_0 rfl)
theorem dX5_token_2 : decode cX5_token 2 = .ok (.getfield 226, 3) := fo_180 (fd_n 2 sr_X5_token_0 rfl) rfl
theorem dX5_token_5 : decode cX5_token 5 = .ok (.putfield 229, 3) := fo_181 (fd_n 5 sr_X5_token_0 rfl) rfl
theorem dX5_token_8 : decode cX5_token 8 = .ok (.aload_n 0, 1) := fo_42 (fd_n 8 sr_X5_token_0 rfl)
theorem dX5_token_9 : decode cX5_token 9 = .ok (.aload_n 0, 1) := fo_42 (fd_n 9 sr_X5_token_0 rfl)
theorem dX5_token_10 : decode cX5_token 10 = .ok (.getfield 229, 3) := fo_180 (fd_n 10 sr_X5_token_0 rfl) rfl
theorem dX5_token_13 : decode cX5_token 13 = .ok (.invokevirtual 232, 3) := fo_182 (fd_n 13 sr_X5_token_0 rfl) rfl
theorem dX5_token_16 : decode cX5_token 16 = .ok (.bipush 32, 2) := fo_16 (fd_n 16 sr_X5_token_0 rfl) (by decide +kernel)
theorem dX5_token_18 : decode cX5_token 18 = .ok (.if_icmp .ne 16, 3) := fo_160 (fd_n 18 sr_X5_token_0 rfl) (by decide +kernel)
theorem dX5_token_21 : decode cX5_token 21 = .ok (.aload_n 0, 1) := fo_42 (fd_n 21 sr_X5_token_0 rfl)
theorem dX5_token_22 : decode cX5_token 22 = .ok (.dup, 1) := fo_89 (fd_n 22 sr_X5_token_0 rfl)
theorem dX5_token_23 : decode cX5_token 23 = .ok (.getfield 229, 3) := fo_180 (fd_n 23 sr_X5_token_0 rfl) rfl
theorem dX5_token_26 : decode cX5_token 26 = .ok (.iconst 1, 1) := fo_4 (fd_n 26 sr_X5_token_0 rfl)
theorem dX5_token_27 : decode cX5_token 27 = .ok (.iadd, 1) := fo_96 (fd_n 27 sr_X5_token_0 rfl)
theorem dX5_token_28 : decode cX5_token 28 = .ok (.putfield 229, 3) := fo_181 sr_X5_token_1 rfl
theorem dX5_token_31 : decode cX5_token 31 = .ok (.goto (-23), 3) := fo_167 (fd_n 3 sr_X5_token_1 rfl) (by decide +kernel)
theorem dX5_token_34 : decode cX5_token 34 = .ok (.aload_n 0, 1) := fo_42 (fd_n 6 sr_X5_token_1 rfl)
theorem dX5_token_35 : decode cX5_token 35 = .ok (.aload_n 0, 1) := fo_42 (fd_n 7 sr_X5_token_1 rfl)
theorem dX5_token_36 : decode cX5_token 36 = .ok (.getfield 229, 3) := fo_180 (fd_n 8 sr_X5_token_1 rfl) rfl
theorem dX5_token_39 : decode cX5_token 39 = .ok (.invokevirtual 232, 3) := fo_182 (fd_n 11 sr_X5_token_1 rfl) rfl
theorem dX5_token_42 : decode cX5_token 42 = .ok (.invokestatic 235, 3) := fo_184 (fd_n 14 sr_X5_token_1 rfl) rfl
theorem dX5_token_45 : decode cX5_token 45 = .ok (.istore_n 1, 1) := fo_60 (fd_n 17 sr_X5_token_1 rfl)
theorem dX5_token_46 : decode cX5_token 46 = .ok (.aload_n 0, 1) := fo_42 (fd_n 18 sr_X5_token_1 rfl)
theorem dX5_token_47 : decode cX5_token 47 = .ok (.aload_n 0, 1) := fo_42 (fd_n 19 sr_X5_token_1 rfl)
theorem dX5_token_48 : decode cX5_token 48 = .ok (.getfield 229, 3) := fo_180 (fd_n 20 sr_X5_token_1 rfl) rfl
theorem dX5_token_51 : decode cX5_token 51 = .ok (.invokevirtual 232, 3) := fo_182 (fd_n 23 sr_X5_token_1 rfl) rfl
theorem dX5_token_54 : decode cX5_token 54 = .ok (.invokestatic 238, 3) := fo_184 (fd_n 26 sr_X5_token_1 rfl) rfl
theorem dX5_token_57 : decode cX5_token 57 = .ok (.istore_n 2, 1) := fo_61 sr_X5_token_2
theorem dX5_token_58 : decode cX5_token 58 = .ok (.aload_n 0, 1) := fo_42 (fd_n 1 sr_X5_token_2 rfl)
theorem dX5_token_59 : decode cX5_token 59 = .ok (.aload_n 0, 1) := fo_42 (fd_n 2 sr_X5_token_2 rfl)
theorem dX5_token_60 : decode cX5_token 60 = .ok (.getfield 229, 3) := fo_180 (fd_n 3 sr_X5_token_2 rfl) rfl
theorem dX5_token_63 : decode cX5_token 63 = .ok (.aload_n 0, 1) := fo_42 (fd_n 6 sr_X5_token_2 rfl)
theorem dX5_token_64 : decode cX5_token 64 = .ok (.getfield 215, 3) := fo_180 (fd_n 7 sr_X5_token_2 rfl) rfl
theorem dX5_token_67 : decode cX5_token 67 = .ok (.if_icmp .ge 12, 3) := fo_162 (fd_n 10 sr_X5_token_2 rfl) (by decide +kernel)
theorem dX5_token_70 : decode cX5_token 70 = .ok (.aload_n 0, 1) := fo_42 (fd_n 13 sr_X5_token_2 rfl)
theorem dX5_token_71 : decode cX5_token 71 = .ok (.getfield 229, 3) := fo_180 (fd_n 14 sr_X5_token_2 rfl) rfl
theorem dX5_token_74 : decode cX5_token 74 = .ok (.iconst 1, 1) := fo_4 (fd_n 17 sr_X5_token_2 rfl)
theorem dX5_token_75 : decode cX5_token 75 = .ok (.iadd, 1) := fo_96 (fd_n 18 sr_X5_token_2 rfl)
theorem dX5_token_76 : decode cX5_token 76 = .ok (.goto 7, 3) := fo_167 (fd_n 19 sr_X5_token_2 rfl) (by decide +kernel)
theorem dX5_token_79 : decode cX5_token 79 = .ok (.aload_n 0, 1) := fo_42 (fd_n 22 sr_X5_token_2 rfl)
theorem dX5_token_80 : decode cX5_token 80 = .ok (.getfield 229, 3) := fo_180 (fd_n 23 sr_X5_token_2 rfl) rfl
theorem dX5_token_83 : decode cX5_token 83 = .ok (.putfield 226, 3) := fo_181 (fd_n 26 sr_X5_token_2 rfl) rfl
theorem dX5_token_86 : decode cX5_token 86 = .ok (.iload_n 1, 1) := fo_27 sr_X5_token_3
theorem dX5_token_87 : decode cX5_token 87 = .ok (.ifCond .eq 17, 3) := fo_153 (fd_n 1 sr_X5_token_3 rfl) (by decide +kernel)
theorem dX5_token_90 : decode cX5_token 90 = .ok (.aload_n 0, 1) := fo_42 (fd_n 4 sr_X5_token_3 rfl)
theorem dX5_token_91 : decode cX5_token 91 = .ok (.aload_n 0, 1) := fo_42 (fd_n 5 sr_X5_token_3 rfl)
theorem dX5_token_92 : decode cX5_token 92 = .ok (.getfield 226, 3) := fo_180 (fd_n 6 sr_X5_token_3 rfl) rfl
theorem dX5_token_95 : decode cX5_token 95 = .ok (.invokevirtual 232, 3) := fo_182 (fd_n 9 sr_X5_token_3 rfl) rfl
theorem dX5_token_98 : decode cX5_token 98 = .ok (.invokestatic 235, 3) := fo_184 (fd_n 12 sr_X5_token_3 rfl) rfl
theorem dX5_token_101 : decode cX5_token 101 = .ok (.ifCond .ne 21, 3) := fo_154 (fd_n 15 sr_X5_token_3 rfl) (by decide +kernel)
theorem dX5_token_104 : decode cX5_token 104 = .ok (.iload_n 2, 1) := fo_28 (fd_n 18 sr_X5_token_3 rfl)
theorem dX5_token_105 : decode cX5_token 105 = .ok (.ifCond .eq 30, 3) := fo_153 (fd_n 19 sr_X5_token_3 rfl) (by decide +kernel)
theorem dX5_token_108 : decode cX5_token 108 = .ok (.aload_n 0, 1) := fo_42 (fd_n 22 sr_X5_token_3 rfl)
theorem dX5_token_109 : decode cX5_token 109 = .ok (.aload_n 0, 1) := fo_42 (fd_n 23 sr_X5_token_3 rfl)
theorem dX5_token_110 : decode cX5_token 110 = .ok (.getfield 226, 3) := fo_180 (fd_n 24 sr_X5_token_3 rfl) rfl
theorem dX5_token_113 : decode cX5_token 113 = .ok (.invokevirtual 232, 3) := fo_182 (fd_n 27 sr_X5_token_3 rfl) rfl
theorem dX5_token_116 : decode cX5_token 116 = .ok (.invokestatic 238, 3) := fo_184 sr_X5_token_4 rfl
theorem dX5_token_119 : decode cX5_token 119 = .ok (.ifCond .eq 16, 3) := fo_153 (fd_n 3 sr_X5_token_4 rfl) (by decide +kernel)
theorem dX5_token_122 : decode cX5_token 122 = .ok (.aload_n 0, 1) := fo_42 (fd_n 6 sr_X5_token_4 rfl)
theorem dX5_token_123 : decode cX5_token 123 = .ok (.dup, 1) := fo_89 (fd_n 7 sr_X5_token_4 rfl)
theorem dX5_token_124 : decode cX5_token 124 = .ok (.getfield 226, 3) := fo_180 (fd_n 8 sr_X5_token_4 rfl) rfl
theorem dX5_token_127 : decode cX5_token 127 = .ok (.iconst 1, 1) := fo_4 (fd_n 11 sr_X5_token_4 rfl)
theorem dX5_token_128 : decode cX5_token 128 = .ok (.iadd, 1) := fo_96 (fd_n 12 sr_X5_token_4 rfl)
theorem dX5_token_129 : decode cX5_token 129 = .ok (.putfield 226, 3) := fo_181 (fd_n 13 sr_X5_token_4 rfl) rfl
theorem dX5_token_132 : decode cX5_token 132 = .ok (.goto (-46), 3) := fo_167 (fd_n 16 sr_X5_token_4 rfl) (by decide +kernel)
theorem dX5_token_135 : decode cX5_token 135 = .ok (.return_, 1) := fo_177 (fd_n 19 sr_X5_token_4 rfl)
noncomputable def sl_X5_needs_1 : List UInt8 := 182 :: 0 :: 245 :: 177 :: []
noncomputable def sl_X5_needs_0 : List UInt8 := 42 :: 42 :: 180 :: 0 :: 241 :: 154 :: 0 :: 7 :: 27 :: 154 :: 0 :: 7 :: 4 :: 167 :: 0 :: 4 :: 3 :: 181 :: 0 :: 241 :: 42 :: 180 :: 0 :: 241 :: 154 :: 0 :: 7 :: 42 :: sl_X5_needs_1
theorem sr_X5_needs_0 : fd_at cX5_needs 0 sl_X5_needs_0 := fd_base (by decide +kernel)
theorem sr_X5_needs_1 : fd_at cX5_needs 28 sl_X5_needs_1 := fd_n 28 sr_X5_needs_0 rfl
theorem dX5_needs_0 : decode cX5_needs 0 = .ok (.aload_n 0, 1) := fo_42 sr_X5_needs_0
theorem dX5_needs_1 : decode cX5_needs 1 = .ok (.aload_n 0, 1) := fo_42 (fd_n 1 sr_X5_needs_0 rfl)
theorem dX5_needs_2 : decode cX5_needs 2 = .ok (.getfield 241, 3) := fo_180 (fd_n 2 sr_X5_needs_0 rfl) rfl
theorem dX5_needs_5 : decode cX5_needs 5 = .ok (.ifCond .ne 7, 3) := fo_154 (fd_n 5 sr_X5_needs_0 rfl) (by decide +kernel)
theorem dX5_needs_8 : decode cX5_needs 8 = .ok (.iload_n 1, 1) := fo_27 (fd_n 8 sr_X5_needs_0 rfl)
theorem dX5_needs_9 : decode cX5_needs 9 = .ok (.ifCond .ne 7, 3) := fo_154 (fd_n 9 sr_X5_needs_0 rfl) (by decide +kernel)
theorem dX5_needs_12 : decode cX5_needs 12 = .ok (.iconst 1, 1) := fo_4 (fd_n 12 sr_X5_needs_0 rfl)
theorem dX5_needs_13 : decode cX5_needs 13 = .ok (.goto 4, 3) := fo_167 (fd_n 13 sr_X5_needs_0 rfl) (by decide +kernel)
theorem dX5_needs_16 : decode cX5_needs 16 = .ok (.iconst 0, 1) := fo_3 (fd_n 16 sr_X5_needs_0 rfl)
theorem dX5_needs_17 : decode cX5_needs 17 = .ok (.putfield 241, 3) := fo_181 (fd_n 17 sr_X5_needs_0 rfl) rfl
theorem dX5_needs_20 : decode cX5_needs 20 = .ok (.aload_n 0, 1) := fo_42 (fd_n 20 sr_X5_needs_0 rfl)
theorem dX5_needs_21 : decode cX5_needs 21 = .ok (.getfield 241, 3) := fo_180 (fd_n 21 sr_X5_needs_0 rfl) rfl
theorem dX5_needs_24 : decode cX5_needs 24 = .ok (.ifCond .ne 7, 3) := fo_154 (fd_n 24 sr_X5_needs_0 rfl) (by decide +kernel)
theorem dX5_needs_27 : decode cX5_needs 27 = .ok (.aload_n 0, 1) := fo_42 (fd_n 27 sr_X5_needs_0 rfl)
theorem dX5_needs_28 : decode cX5_needs 28 = .ok (.invokevirtual 245, 3) := fo_182 sr_X5_needs_1 rfl
theorem dX5_needs_31 : decode cX5_needs 31 = .ok (.return_, 1) := fo_177 (fd_n 3 sr_X5_needs_1 rfl)
noncomputable def sl_X5_word_2 : List UInt8 := 42 :: 180 :: 0 :: 229 :: 182 :: 0 :: 232 :: 184 :: 0 :: 235 :: 154 :: 0 :: 7 :: 9 :: 167 :: 0 :: 4 :: 31 :: 173 :: []
noncomputable def sl_X5_word_1 : List UInt8 := 31 :: 105 :: 42 :: 180 :: 0 :: 31 :: 29 :: 46 :: 16 :: 96 :: 100 :: 133 :: 97 :: 64 :: 132 :: 3 :: 1 :: 167 :: 255 :: 216 :: 42 :: 180 :: 0 :: 241 :: 154 :: 0 :: 17 :: 42 :: sl_X5_word_2
noncomputable def sl_X5_word_0 : List UInt8 := 9 :: 64 :: 42 :: 180 :: 0 :: 229 :: 62 :: 29 :: 42 :: 180 :: 0 :: 226 :: 162 :: 0 :: 38 :: 31 :: 20 :: 0 :: 248 :: 148 :: 158 :: 0 :: 7 :: 31 :: 167 :: 0 :: 19 :: 20 :: 0 :: 250 :: sl_X5_word_1
theorem sr_X5_word_0 : fd_at cX5_word 0 sl_X5_word_0 := fd_base (by decide +kernel)
theorem sr_X5_word_1 : fd_at cX5_word 30 sl_X5_word_1 := fd_n 30 sr_X5_word_0 rfl
theorem sr_X5_word_2 : fd_at cX5_word 58 sl_X5_word_2 := fd_n 28 sr_X5_word_1 rfl
theorem dX5_word_0 : decode cX5_word 0 = .ok (.lconst 0, 1) := fo_9 sr_X5_word_0
theorem dX5_word_1 : decode cX5_word 1 = .ok (.lstore_n 1, 1) := fo_64 (fd_n 1 sr_X5_word_0 rfl)
theorem dX5_word_2 : decode cX5_word 2 = .ok (.aload_n 0, 1) := fo_42 (fd_n 2 sr_X5_word_0 rfl)
theorem dX5_word_3 : decode cX5_word 3 = .ok (.getfield 229, 3) := fo_180 (fd_n 3 sr_X5_word_0 rfl) rfl
theorem dX5_word_6 : decode cX5_word 6 = .ok (.istore_n 3, 1) := fo_62 (fd_n 6 sr_X5_word_0 rfl)
theorem dX5_word_7 : decode cX5_word 7 = .ok (.iload_n 3, 1) := fo_29 (fd_n 7 sr_X5_word_0 rfl)
theorem dX5_word_8 : decode cX5_word 8 = .ok (.aload_n 0, 1) := fo_42 (fd_n 8 sr_X5_word_0 rfl)
theorem dX5_word_9 : decode cX5_word 9 = .ok (.getfield 226, 3) := fo_180 (fd_n 9 sr_X5_word_0 rfl) rfl
theorem dX5_word_12 : decode cX5_word 12 = .ok (.if_icmp .ge 38, 3) := fo_162 (fd_n 12 sr_X5_word_0 rfl) (by decide +kernel)
theorem dX5_word_15 : decode cX5_word 15 = .ok (.lload_n 1, 1) := fo_31 (fd_n 15 sr_X5_word_0 rfl)
theorem dX5_word_16 : decode cX5_word 16 = .ok (.ldc2_w 248, 3) := fo_20 (fd_n 16 sr_X5_word_0 rfl) rfl
theorem dX5_word_19 : decode cX5_word 19 = .ok (.lcmp, 1) := fo_148 (fd_n 19 sr_X5_word_0 rfl)
theorem dX5_word_20 : decode cX5_word 20 = .ok (.ifCond .le 7, 3) := fo_158 (fd_n 20 sr_X5_word_0 rfl) (by decide +kernel)
theorem dX5_word_23 : decode cX5_word 23 = .ok (.lload_n 1, 1) := fo_31 (fd_n 23 sr_X5_word_0 rfl)
theorem dX5_word_24 : decode cX5_word 24 = .ok (.goto 19, 3) := fo_167 (fd_n 24 sr_X5_word_0 rfl) (by decide +kernel)
theorem dX5_word_27 : decode cX5_word 27 = .ok (.ldc2_w 250, 3) := fo_20 (fd_n 27 sr_X5_word_0 rfl) rfl
theorem dX5_word_30 : decode cX5_word 30 = .ok (.lload_n 1, 1) := fo_31 sr_X5_word_1
theorem dX5_word_31 : decode cX5_word 31 = .ok (.lmul, 1) := fo_105 (fd_n 1 sr_X5_word_1 rfl)
theorem dX5_word_32 : decode cX5_word 32 = .ok (.aload_n 0, 1) := fo_42 (fd_n 2 sr_X5_word_1 rfl)
theorem dX5_word_33 : decode cX5_word 33 = .ok (.getfield 31, 3) := fo_180 (fd_n 3 sr_X5_word_1 rfl) rfl
theorem dX5_word_36 : decode cX5_word 36 = .ok (.iload_n 3, 1) := fo_29 (fd_n 6 sr_X5_word_1 rfl)
theorem dX5_word_37 : decode cX5_word 37 = .ok (.iaload, 1) := fo_46 (fd_n 7 sr_X5_word_1 rfl)
theorem dX5_word_38 : decode cX5_word 38 = .ok (.bipush 96, 2) := fo_16 (fd_n 8 sr_X5_word_1 rfl) (by decide +kernel)
theorem dX5_word_40 : decode cX5_word 40 = .ok (.isub, 1) := fo_100 (fd_n 10 sr_X5_word_1 rfl)
theorem dX5_word_41 : decode cX5_word 41 = .ok (.i2l, 1) := fo_133 (fd_n 11 sr_X5_word_1 rfl)
theorem dX5_word_42 : decode cX5_word 42 = .ok (.ladd, 1) := fo_97 (fd_n 12 sr_X5_word_1 rfl)
theorem dX5_word_43 : decode cX5_word 43 = .ok (.lstore_n 1, 1) := fo_64 (fd_n 13 sr_X5_word_1 rfl)
theorem dX5_word_44 : decode cX5_word 44 = .ok (.iinc 3 1, 3) := fo_132 (fd_n 14 sr_X5_word_1 rfl) rfl (by decide +kernel)
theorem dX5_word_47 : decode cX5_word 47 = .ok (.goto (-40), 3) := fo_167 (fd_n 17 sr_X5_word_1 rfl) (by decide +kernel)
theorem dX5_word_50 : decode cX5_word 50 = .ok (.aload_n 0, 1) := fo_42 (fd_n 20 sr_X5_word_1 rfl)
theorem dX5_word_51 : decode cX5_word 51 = .ok (.getfield 241, 3) := fo_180 (fd_n 21 sr_X5_word_1 rfl) rfl
theorem dX5_word_54 : decode cX5_word 54 = .ok (.ifCond .ne 17, 3) := fo_154 (fd_n 24 sr_X5_word_1 rfl) (by decide +kernel)
theorem dX5_word_57 : decode cX5_word 57 = .ok (.aload_n 0, 1) := fo_42 (fd_n 27 sr_X5_word_1 rfl)
theorem dX5_word_58 : decode cX5_word 58 = .ok (.aload_n 0, 1) := fo_42 sr_X5_word_2
theorem dX5_word_59 : decode cX5_word 59 = .ok (.getfield 229, 3) := fo_180 (fd_n 1 sr_X5_word_2 rfl) rfl
theorem dX5_word_62 : decode cX5_word 62 = .ok (.invokevirtual 232, 3) := fo_182 (fd_n 4 sr_X5_word_2 rfl) rfl
theorem dX5_word_65 : decode cX5_word 65 = .ok (.invokestatic 235, 3) := fo_184 (fd_n 7 sr_X5_word_2 rfl) rfl
theorem dX5_word_68 : decode cX5_word 68 = .ok (.ifCond .ne 7, 3) := fo_154 (fd_n 10 sr_X5_word_2 rfl) (by decide +kernel)
theorem dX5_word_71 : decode cX5_word 71 = .ok (.lconst 0, 1) := fo_9 (fd_n 13 sr_X5_word_2 rfl)
theorem dX5_word_72 : decode cX5_word 72 = .ok (.goto 4, 3) := fo_167 (fd_n 14 sr_X5_word_2 rfl) (by decide +kernel)
theorem dX5_word_75 : decode cX5_word 75 = .ok (.lload_n 1, 1) := fo_31 (fd_n 17 sr_X5_word_2 rfl)
theorem dX5_word_76 : decode cX5_word 76 = .ok (.lreturn, 1) := fo_173 (fd_n 18 sr_X5_word_2 rfl)
noncomputable def sl_X5_number_3 : List UInt8 := 42 :: 29 :: 153 :: 0 :: 20 :: 21 :: 4 :: 133 :: 27 :: 133 :: 28 :: 133 :: 184 :: 0 :: 53 :: 153 :: 0 :: 7 :: 4 :: 167 :: 0 :: 4 :: 3 :: 182 :: 0 :: 255 :: 177 :: []
noncomputable def sl_X5_number_2 : List UInt8 := 21 :: 4 :: 104 :: 42 :: 180 :: 0 :: 31 :: 21 :: 5 :: 46 :: 96 :: 16 :: 48 :: 100 :: 54 :: 4 :: 132 :: 5 :: 1 :: 167 :: 255 :: 209 :: 42 :: 21 :: 4 :: 181 :: 0 :: 252 :: sl_X5_number_3
noncomputable def sl_X5_number_1 : List UInt8 := 21 :: 5 :: 42 :: 180 :: 0 :: 226 :: 162 :: 0 :: 44 :: 29 :: 153 :: 0 :: 40 :: 21 :: 4 :: 17 :: 3 :: 231 :: 164 :: 0 :: 8 :: 21 :: 4 :: 167 :: 0 :: 19 :: 16 :: 10 :: sl_X5_number_2
noncomputable def sl_X5_number_0 : List UInt8 := 42 :: 180 :: 0 :: 241 :: 153 :: 0 :: 4 :: 177 :: 42 :: 42 :: 180 :: 0 :: 229 :: 182 :: 0 :: 232 :: 184 :: 0 :: 238 :: 62 :: 3 :: 54 :: 4 :: 42 :: 180 :: 0 :: 229 :: 54 :: 5 :: sl_X5_number_1
theorem sr_X5_number_0 : fd_at cX5_number 0 sl_X5_number_0 := fd_base (by decide +kernel)
theorem sr_X5_number_1 : fd_at cX5_number 29 sl_X5_number_1 := fd_n 29 sr_X5_number_0 rfl
theorem sr_X5_number_2 : fd_at cX5_number 57 sl_X5_number_2 := fd_n 28 sr_X5_number_1 rfl
theorem sr_X5_number_3 : fd_at cX5_number 85 sl_X5_number_3 := fd_n 28 sr_X5_number_2 rfl
theorem dX5_number_0 : decode cX5_number 0 = .ok (.aload_n 0, 1) := fo_42 sr_X5_number_0
theorem dX5_number_1 : decode cX5_number 1 = .ok (.getfield 241, 3) := fo_180 (fd_n 1 sr_X5_number_0 rfl) rfl
theorem dX5_number_4 : decode cX5_number 4 = .ok (.ifCond .eq 4, 3) := fo_153 (fd_n 4 sr_X5_number_0 rfl) (by decide +kernel)
theorem dX5_number_7 : decode cX5_number 7 = .ok (.return_, 1) := fo_177 (fd_n 7 sr_X5_number_0 rfl)
theorem dX5_number_8 : decode cX5_number 8 = .ok (.aload_n 0, 1) := fo_42 (fd_n 8 sr_X5_number_0 rfl)
theorem dX5_number_9 : decode cX5_number 9 = .ok (.aload_n 0, 1) := fo_42 (fd_n 9 sr_X5_number_0 rfl)
theorem dX5_number_10 : decode cX5_number 10 = .ok (.getfield 229, 3) := fo_180 (fd_n 10 sr_X5_number_0 rfl) rfl
theorem dX5_number_13 : decode cX5_number 13 = .ok (.invokevirtual 232, 3) := fo_182 (fd_n 13 sr_X5_number_0 rfl) rfl
theorem dX5_number_16 : decode cX5_number 16 = .ok (.invokestatic 238, 3) := fo_184 (fd_n 16 sr_X5_number_0 rfl) rfl
theorem dX5_number_19 : decode cX5_number 19 = .ok (.istore_n 3, 1) := fo_62 (fd_n 19 sr_X5_number_0 rfl)
theorem dX5_number_20 : decode cX5_number 20 = .ok (.iconst 0, 1) := fo_3 (fd_n 20 sr_X5_number_0 rfl)
theorem dX5_number_21 : decode cX5_number 21 = .ok (.istore 4, 2) := fo_54 (fd_n 21 sr_X5_number_0 rfl) rfl
theorem dX5_number_23 : decode cX5_number 23 = .ok (.aload_n 0, 1) := fo_42 (fd_n 23 sr_X5_number_0 rfl)
theorem dX5_number_24 : decode cX5_number 24 = .ok (.getfield 229, 3) := fo_180 (fd_n 24 sr_X5_number_0 rfl) rfl
theorem dX5_number_27 : decode cX5_number 27 = .ok (.istore 5, 2) := fo_54 (fd_n 27 sr_X5_number_0 rfl) rfl
theorem dX5_number_29 : decode cX5_number 29 = .ok (.iload 5, 2) := fo_21 sr_X5_number_1 rfl
theorem dX5_number_31 : decode cX5_number 31 = .ok (.aload_n 0, 1) := fo_42 (fd_n 2 sr_X5_number_1 rfl)
theorem dX5_number_32 : decode cX5_number 32 = .ok (.getfield 226, 3) := fo_180 (fd_n 3 sr_X5_number_1 rfl) rfl
theorem dX5_number_35 : decode cX5_number 35 = .ok (.if_icmp .ge 44, 3) := fo_162 (fd_n 6 sr_X5_number_1 rfl) (by decide +kernel)
theorem dX5_number_38 : decode cX5_number 38 = .ok (.iload_n 3, 1) := fo_29 (fd_n 9 sr_X5_number_1 rfl)
theorem dX5_number_39 : decode cX5_number 39 = .ok (.ifCond .eq 40, 3) := fo_153 (fd_n 10 sr_X5_number_1 rfl) (by decide +kernel)
theorem dX5_number_42 : decode cX5_number 42 = .ok (.iload 4, 2) := fo_21 (fd_n 13 sr_X5_number_1 rfl) rfl
theorem dX5_number_44 : decode cX5_number 44 = .ok (.sipush 999, 3) := fo_17 (fd_n 15 sr_X5_number_1 rfl) (by decide +kernel)
theorem dX5_number_47 : decode cX5_number 47 = .ok (.if_icmp .le 8, 3) := fo_164 (fd_n 18 sr_X5_number_1 rfl) (by decide +kernel)
theorem dX5_number_50 : decode cX5_number 50 = .ok (.iload 4, 2) := fo_21 (fd_n 21 sr_X5_number_1 rfl) rfl
theorem dX5_number_52 : decode cX5_number 52 = .ok (.goto 19, 3) := fo_167 (fd_n 23 sr_X5_number_1 rfl) (by decide +kernel)
theorem dX5_number_55 : decode cX5_number 55 = .ok (.bipush 10, 2) := fo_16 (fd_n 26 sr_X5_number_1 rfl) (by decide +kernel)
theorem dX5_number_57 : decode cX5_number 57 = .ok (.iload 4, 2) := fo_21 sr_X5_number_2 rfl
theorem dX5_number_59 : decode cX5_number 59 = .ok (.imul, 1) := fo_104 (fd_n 2 sr_X5_number_2 rfl)
theorem dX5_number_60 : decode cX5_number 60 = .ok (.aload_n 0, 1) := fo_42 (fd_n 3 sr_X5_number_2 rfl)
theorem dX5_number_61 : decode cX5_number 61 = .ok (.getfield 31, 3) := fo_180 (fd_n 4 sr_X5_number_2 rfl) rfl
theorem dX5_number_64 : decode cX5_number 64 = .ok (.iload 5, 2) := fo_21 (fd_n 7 sr_X5_number_2 rfl) rfl
theorem dX5_number_66 : decode cX5_number 66 = .ok (.iaload, 1) := fo_46 (fd_n 9 sr_X5_number_2 rfl)
theorem dX5_number_67 : decode cX5_number 67 = .ok (.iadd, 1) := fo_96 (fd_n 10 sr_X5_number_2 rfl)
theorem dX5_number_68 : decode cX5_number 68 = .ok (.bipush 48, 2) := fo_16 (fd_n 11 sr_X5_number_2 rfl) (by decide +kernel)
theorem dX5_number_70 : decode cX5_number 70 = .ok (.isub, 1) := fo_100 (fd_n 13 sr_X5_number_2 rfl)
theorem dX5_number_71 : decode cX5_number 71 = .ok (.istore 4, 2) := fo_54 (fd_n 14 sr_X5_number_2 rfl) rfl
theorem dX5_number_73 : decode cX5_number 73 = .ok (.iinc 5 1, 3) := fo_132 (fd_n 16 sr_X5_number_2 rfl) rfl (by decide +kernel)
theorem dX5_number_76 : decode cX5_number 76 = .ok (.goto (-47), 3) := fo_167 (fd_n 19 sr_X5_number_2 rfl) (by decide +kernel)
theorem dX5_number_79 : decode cX5_number 79 = .ok (.aload_n 0, 1) := fo_42 (fd_n 22 sr_X5_number_2 rfl)
theorem dX5_number_80 : decode cX5_number 80 = .ok (.iload 4, 2) := fo_21 (fd_n 23 sr_X5_number_2 rfl) rfl
theorem dX5_number_82 : decode cX5_number 82 = .ok (.putfield 252, 3) := fo_181 (fd_n 25 sr_X5_number_2 rfl) rfl
theorem dX5_number_85 : decode cX5_number 85 = .ok (.aload_n 0, 1) := fo_42 sr_X5_number_3
theorem dX5_number_86 : decode cX5_number 86 = .ok (.iload_n 3, 1) := fo_29 (fd_n 1 sr_X5_number_3 rfl)
theorem dX5_number_87 : decode cX5_number 87 = .ok (.ifCond .eq 20, 3) := fo_153 (fd_n 2 sr_X5_number_3 rfl) (by decide +kernel)
theorem dX5_number_90 : decode cX5_number 90 = .ok (.iload 4, 2) := fo_21 (fd_n 5 sr_X5_number_3 rfl) rfl
theorem dX5_number_92 : decode cX5_number 92 = .ok (.i2l, 1) := fo_133 (fd_n 7 sr_X5_number_3 rfl)
theorem dX5_number_93 : decode cX5_number 93 = .ok (.iload_n 1, 1) := fo_27 (fd_n 8 sr_X5_number_3 rfl)
theorem dX5_number_94 : decode cX5_number 94 = .ok (.i2l, 1) := fo_133 (fd_n 9 sr_X5_number_3 rfl)
theorem dX5_number_95 : decode cX5_number 95 = .ok (.iload_n 2, 1) := fo_28 (fd_n 10 sr_X5_number_3 rfl)
theorem dX5_number_96 : decode cX5_number 96 = .ok (.i2l, 1) := fo_133 (fd_n 11 sr_X5_number_3 rfl)
theorem dX5_number_97 : decode cX5_number 97 = .ok (.invokestatic 53, 3) := fo_184 (fd_n 12 sr_X5_number_3 rfl) rfl
theorem dX5_number_100 : decode cX5_number 100 = .ok (.ifCond .eq 7, 3) := fo_153 (fd_n 15 sr_X5_number_3 rfl) (by decide +kernel)
theorem dX5_number_103 : decode cX5_number 103 = .ok (.iconst 1, 1) := fo_4 (fd_n 18 sr_X5_number_3 rfl)
theorem dX5_number_104 : decode cX5_number 104 = .ok (.goto 4, 3) := fo_167 (fd_n 19 sr_X5_number_3 rfl) (by decide +kernel)
theorem dX5_number_107 : decode cX5_number 107 = .ok (.iconst 0, 1) := fo_3 (fd_n 22 sr_X5_number_3 rfl)
theorem dX5_number_108 : decode cX5_number 108 = .ok (.invokevirtual 255, 3) := fo_182 (fd_n 23 sr_X5_number_3 rfl) rfl
theorem dX5_number_111 : decode cX5_number 111 = .ok (.return_, 1) := fo_177 (fd_n 26 sr_X5_number_3 rfl)
noncomputable def sl_X5_kindHere_3 : List UInt8 := 16 :: 6 :: 167 :: 0 :: 4 :: 2 :: 172 :: []
noncomputable def sl_X5_kindHere_2 : List UInt8 := 148 :: 154 :: 0 :: 7 :: 7 :: 167 :: 0 :: 29 :: 31 :: 20 :: 1 :: 17 :: 148 :: 154 :: 0 :: 7 :: 8 :: 167 :: 0 :: 17 :: 31 :: 20 :: 1 :: 19 :: 148 :: 154 :: 0 :: 8 :: sl_X5_kindHere_3
noncomputable def sl_X5_kindHere_1 : List UInt8 := 31 :: 20 :: 1 :: 11 :: 148 :: 154 :: 0 :: 7 :: 5 :: 167 :: 0 :: 53 :: 31 :: 20 :: 1 :: 13 :: 148 :: 154 :: 0 :: 7 :: 6 :: 167 :: 0 :: 41 :: 31 :: 20 :: 1 :: 15 :: sl_X5_kindHere_2
noncomputable def sl_X5_kindHere_0 : List UInt8 := 42 :: 182 :: 1 :: 3 :: 64 :: 31 :: 20 :: 1 :: 7 :: 148 :: 154 :: 0 :: 7 :: 3 :: 167 :: 0 :: 77 :: 31 :: 20 :: 1 :: 9 :: 148 :: 154 :: 0 :: 7 :: 4 :: 167 :: 0 :: 65 :: sl_X5_kindHere_1
theorem sr_X5_kindHere_0 : fd_at cX5_kindHere 0 sl_X5_kindHere_0 := fd_base (by decide +kernel)
theorem sr_X5_kindHere_1 : fd_at cX5_kindHere 29 sl_X5_kindHere_1 := fd_n 29 sr_X5_kindHere_0 rfl
theorem sr_X5_kindHere_2 : fd_at cX5_kindHere 57 sl_X5_kindHere_2 := fd_n 28 sr_X5_kindHere_1 rfl
theorem sr_X5_kindHere_3 : fd_at cX5_kindHere 85 sl_X5_kindHere_3 := fd_n 28 sr_X5_kindHere_2 rfl
theorem dX5_kindHere_0 : decode cX5_kindHere 0 = .ok (.aload_n 0, 1) := fo_42 sr_X5_kindHere_0
theorem dX5_kindHere_1 : decode cX5_kindHere 1 = .ok (.invokevirtual 259, 3) := fo_182 (fd_n 1 sr_X5_kindHere_0 rfl) rfl
theorem dX5_kindHere_4 : decode cX5_kindHere 4 = .ok (.lstore_n 1, 1) := fo_64 (fd_n 4 sr_X5_kindHere_0 rfl)
theorem dX5_kindHere_5 : decode cX5_kindHere 5 = .ok (.lload_n 1, 1) := fo_31 (fd_n 5 sr_X5_kindHere_0 rfl)
theorem dX5_kindHere_6 : decode cX5_kindHere 6 = .ok (.ldc2_w 263, 3) := fo_20 (fd_n 6 sr_X5_kindHere_0 rfl) rfl
theorem dX5_kindHere_9 : decode cX5_kindHere 9 = .ok (.lcmp, 1) := fo_148 (fd_n 9 sr_X5_kindHere_0 rfl)
theorem dX5_kindHere_10 : decode cX5_kindHere 10 = .ok (.ifCond .ne 7, 3) := fo_154 (fd_n 10 sr_X5_kindHere_0 rfl) (by decide +kernel)
theorem dX5_kindHere_13 : decode cX5_kindHere 13 = .ok (.iconst 0, 1) := fo_3 (fd_n 13 sr_X5_kindHere_0 rfl)
theorem dX5_kindHere_14 : decode cX5_kindHere 14 = .ok (.goto 77, 3) := fo_167 (fd_n 14 sr_X5_kindHere_0 rfl) (by decide +kernel)
theorem dX5_kindHere_17 : decode cX5_kindHere 17 = .ok (.lload_n 1, 1) := fo_31 (fd_n 17 sr_X5_kindHere_0 rfl)
theorem dX5_kindHere_18 : decode cX5_kindHere 18 = .ok (.ldc2_w 265, 3) := fo_20 (fd_n 18 sr_X5_kindHere_0 rfl) rfl
theorem dX5_kindHere_21 : decode cX5_kindHere 21 = .ok (.lcmp, 1) := fo_148 (fd_n 21 sr_X5_kindHere_0 rfl)
theorem dX5_kindHere_22 : decode cX5_kindHere 22 = .ok (.ifCond .ne 7, 3) := fo_154 (fd_n 22 sr_X5_kindHere_0 rfl) (by decide +kernel)
theorem dX5_kindHere_25 : decode cX5_kindHere 25 = .ok (.iconst 1, 1) := fo_4 (fd_n 25 sr_X5_kindHere_0 rfl)
theorem dX5_kindHere_26 : decode cX5_kindHere 26 = .ok (.goto 65, 3) := fo_167 (fd_n 26 sr_X5_kindHere_0 rfl) (by decide +kernel)
theorem dX5_kindHere_29 : decode cX5_kindHere 29 = .ok (.lload_n 1, 1) := fo_31 sr_X5_kindHere_1
theorem dX5_kindHere_30 : decode cX5_kindHere 30 = .ok (.ldc2_w 267, 3) := fo_20 (fd_n 1 sr_X5_kindHere_1 rfl) rfl
theorem dX5_kindHere_33 : decode cX5_kindHere 33 = .ok (.lcmp, 1) := fo_148 (fd_n 4 sr_X5_kindHere_1 rfl)
theorem dX5_kindHere_34 : decode cX5_kindHere 34 = .ok (.ifCond .ne 7, 3) := fo_154 (fd_n 5 sr_X5_kindHere_1 rfl) (by decide +kernel)
theorem dX5_kindHere_37 : decode cX5_kindHere 37 = .ok (.iconst 2, 1) := fo_5 (fd_n 8 sr_X5_kindHere_1 rfl)
theorem dX5_kindHere_38 : decode cX5_kindHere 38 = .ok (.goto 53, 3) := fo_167 (fd_n 9 sr_X5_kindHere_1 rfl) (by decide +kernel)
theorem dX5_kindHere_41 : decode cX5_kindHere 41 = .ok (.lload_n 1, 1) := fo_31 (fd_n 12 sr_X5_kindHere_1 rfl)
theorem dX5_kindHere_42 : decode cX5_kindHere 42 = .ok (.ldc2_w 269, 3) := fo_20 (fd_n 13 sr_X5_kindHere_1 rfl) rfl
theorem dX5_kindHere_45 : decode cX5_kindHere 45 = .ok (.lcmp, 1) := fo_148 (fd_n 16 sr_X5_kindHere_1 rfl)
theorem dX5_kindHere_46 : decode cX5_kindHere 46 = .ok (.ifCond .ne 7, 3) := fo_154 (fd_n 17 sr_X5_kindHere_1 rfl) (by decide +kernel)
theorem dX5_kindHere_49 : decode cX5_kindHere 49 = .ok (.iconst 3, 1) := fo_6 (fd_n 20 sr_X5_kindHere_1 rfl)
theorem dX5_kindHere_50 : decode cX5_kindHere 50 = .ok (.goto 41, 3) := fo_167 (fd_n 21 sr_X5_kindHere_1 rfl) (by decide +kernel)
theorem dX5_kindHere_53 : decode cX5_kindHere 53 = .ok (.lload_n 1, 1) := fo_31 (fd_n 24 sr_X5_kindHere_1 rfl)
theorem dX5_kindHere_54 : decode cX5_kindHere 54 = .ok (.ldc2_w 271, 3) := fo_20 (fd_n 25 sr_X5_kindHere_1 rfl) rfl
theorem dX5_kindHere_57 : decode cX5_kindHere 57 = .ok (.lcmp, 1) := fo_148 sr_X5_kindHere_2
theorem dX5_kindHere_58 : decode cX5_kindHere 58 = .ok (.ifCond .ne 7, 3) := fo_154 (fd_n 1 sr_X5_kindHere_2 rfl) (by decide +kernel)
theorem dX5_kindHere_61 : decode cX5_kindHere 61 = .ok (.iconst 4, 1) := fo_7 (fd_n 4 sr_X5_kindHere_2 rfl)
theorem dX5_kindHere_62 : decode cX5_kindHere 62 = .ok (.goto 29, 3) := fo_167 (fd_n 5 sr_X5_kindHere_2 rfl) (by decide +kernel)
theorem dX5_kindHere_65 : decode cX5_kindHere 65 = .ok (.lload_n 1, 1) := fo_31 (fd_n 8 sr_X5_kindHere_2 rfl)
theorem dX5_kindHere_66 : decode cX5_kindHere 66 = .ok (.ldc2_w 273, 3) := fo_20 (fd_n 9 sr_X5_kindHere_2 rfl) rfl
theorem dX5_kindHere_69 : decode cX5_kindHere 69 = .ok (.lcmp, 1) := fo_148 (fd_n 12 sr_X5_kindHere_2 rfl)
theorem dX5_kindHere_70 : decode cX5_kindHere 70 = .ok (.ifCond .ne 7, 3) := fo_154 (fd_n 13 sr_X5_kindHere_2 rfl) (by decide +kernel)
theorem dX5_kindHere_73 : decode cX5_kindHere 73 = .ok (.iconst 5, 1) := fo_8 (fd_n 16 sr_X5_kindHere_2 rfl)
theorem dX5_kindHere_74 : decode cX5_kindHere 74 = .ok (.goto 17, 3) := fo_167 (fd_n 17 sr_X5_kindHere_2 rfl) (by decide +kernel)
theorem dX5_kindHere_77 : decode cX5_kindHere 77 = .ok (.lload_n 1, 1) := fo_31 (fd_n 20 sr_X5_kindHere_2 rfl)
theorem dX5_kindHere_78 : decode cX5_kindHere 78 = .ok (.ldc2_w 275, 3) := fo_20 (fd_n 21 sr_X5_kindHere_2 rfl) rfl
theorem dX5_kindHere_81 : decode cX5_kindHere 81 = .ok (.lcmp, 1) := fo_148 (fd_n 24 sr_X5_kindHere_2 rfl)
theorem dX5_kindHere_82 : decode cX5_kindHere 82 = .ok (.ifCond .ne 8, 3) := fo_154 (fd_n 25 sr_X5_kindHere_2 rfl) (by decide +kernel)
theorem dX5_kindHere_85 : decode cX5_kindHere 85 = .ok (.bipush 6, 2) := fo_16 sr_X5_kindHere_3 (by decide +kernel)
theorem dX5_kindHere_87 : decode cX5_kindHere 87 = .ok (.goto 4, 3) := fo_167 (fd_n 2 sr_X5_kindHere_3 rfl) (by decide +kernel)
theorem dX5_kindHere_90 : decode cX5_kindHere 90 = .ok (.iconst (-1), 1) := fo_2 (fd_n 5 sr_X5_kindHere_3 rfl)
theorem dX5_kindHere_91 : decode cX5_kindHere 91 = .ok (.ireturn, 1) := fo_172 (fd_n 6 sr_X5_kindHere_3 rfl)
noncomputable def sl_X5_lotTold_3 : List UInt8 := 42 :: 28 :: 182 :: 0 :: 65 :: 27 :: 159 :: 0 :: 7 :: 4 :: 167 :: 0 :: 4 :: 3 :: 182 :: 0 :: 255 :: 177 :: []
noncomputable def sl_X5_lotTold_2 : List UInt8 := 167 :: 255 :: 205 :: 42 :: 28 :: 181 :: 0 :: 252 :: 42 :: 42 :: 42 :: 180 :: 0 :: 229 :: 182 :: 0 :: 232 :: 184 :: 0 :: 238 :: 153 :: 0 :: 23 :: 28 :: 184 :: 0 :: 71 :: 153 :: 0 :: 16 :: sl_X5_lotTold_3
noncomputable def sl_X5_lotTold_1 : List UInt8 := 28 :: 17 :: 3 :: 231 :: 164 :: 0 :: 7 :: 28 :: 167 :: 0 :: 17 :: 16 :: 10 :: 28 :: 104 :: 42 :: 180 :: 0 :: 31 :: 29 :: 46 :: 96 :: 16 :: 48 :: 100 :: 61 :: 132 :: 3 :: 1 :: sl_X5_lotTold_2
noncomputable def sl_X5_lotTold_0 : List UInt8 := 3 :: 61 :: 42 :: 180 :: 0 :: 229 :: 62 :: 29 :: 42 :: 180 :: 0 :: 226 :: 162 :: 0 :: 49 :: 42 :: 42 :: 180 :: 0 :: 229 :: 182 :: 0 :: 232 :: 184 :: 0 :: 238 :: 153 :: 0 :: 35 :: sl_X5_lotTold_1
theorem sr_X5_lotTold_0 : fd_at cX5_lotTold 0 sl_X5_lotTold_0 := fd_base (by decide +kernel)
theorem sr_X5_lotTold_1 : fd_at cX5_lotTold 29 sl_X5_lotTold_1 := fd_n 29 sr_X5_lotTold_0 rfl
theorem sr_X5_lotTold_2 : fd_at cX5_lotTold 58 sl_X5_lotTold_2 := fd_n 29 sr_X5_lotTold_1 rfl
theorem sr_X5_lotTold_3 : fd_at cX5_lotTold 88 sl_X5_lotTold_3 := fd_n 30 sr_X5_lotTold_2 rfl
theorem dX5_lotTold_0 : decode cX5_lotTold 0 = .ok (.iconst 0, 1) := fo_3 sr_X5_lotTold_0
theorem dX5_lotTold_1 : decode cX5_lotTold 1 = .ok (.istore_n 2, 1) := fo_61 (fd_n 1 sr_X5_lotTold_0 rfl)
theorem dX5_lotTold_2 : decode cX5_lotTold 2 = .ok (.aload_n 0, 1) := fo_42 (fd_n 2 sr_X5_lotTold_0 rfl)
theorem dX5_lotTold_3 : decode cX5_lotTold 3 = .ok (.getfield 229, 3) := fo_180 (fd_n 3 sr_X5_lotTold_0 rfl) rfl
theorem dX5_lotTold_6 : decode cX5_lotTold 6 = .ok (.istore_n 3, 1) := fo_62 (fd_n 6 sr_X5_lotTold_0 rfl)
theorem dX5_lotTold_7 : decode cX5_lotTold 7 = .ok (.iload_n 3, 1) := fo_29 (fd_n 7 sr_X5_lotTold_0 rfl)
theorem dX5_lotTold_8 : decode cX5_lotTold 8 = .ok (.aload_n 0, 1) := fo_42 (fd_n 8 sr_X5_lotTold_0 rfl)
theorem dX5_lotTold_9 : decode cX5_lotTold 9 = .ok (.getfield 226, 3) := fo_180 (fd_n 9 sr_X5_lotTold_0 rfl) rfl
theorem dX5_lotTold_12 : decode cX5_lotTold 12 = .ok (.if_icmp .ge 49, 3) := fo_162 (fd_n 12 sr_X5_lotTold_0 rfl) (by decide +kernel)
theorem dX5_lotTold_15 : decode cX5_lotTold 15 = .ok (.aload_n 0, 1) := fo_42 (fd_n 15 sr_X5_lotTold_0 rfl)
theorem dX5_lotTold_16 : decode cX5_lotTold 16 = .ok (.aload_n 0, 1) := fo_42 (fd_n 16 sr_X5_lotTold_0 rfl)
theorem dX5_lotTold_17 : decode cX5_lotTold 17 = .ok (.getfield 229, 3) := fo_180 (fd_n 17 sr_X5_lotTold_0 rfl) rfl
theorem dX5_lotTold_20 : decode cX5_lotTold 20 = .ok (.invokevirtual 232, 3) := fo_182 (fd_n 20 sr_X5_lotTold_0 rfl) rfl
theorem dX5_lotTold_23 : decode cX5_lotTold 23 = .ok (.invokestatic 238, 3) := fo_184 (fd_n 23 sr_X5_lotTold_0 rfl) rfl
theorem dX5_lotTold_26 : decode cX5_lotTold 26 = .ok (.ifCond .eq 35, 3) := fo_153 (fd_n 26 sr_X5_lotTold_0 rfl) (by decide +kernel)
theorem dX5_lotTold_29 : decode cX5_lotTold 29 = .ok (.iload_n 2, 1) := fo_28 sr_X5_lotTold_1
theorem dX5_lotTold_30 : decode cX5_lotTold 30 = .ok (.sipush 999, 3) := fo_17 (fd_n 1 sr_X5_lotTold_1 rfl) (by decide +kernel)
theorem dX5_lotTold_33 : decode cX5_lotTold 33 = .ok (.if_icmp .le 7, 3) := fo_164 (fd_n 4 sr_X5_lotTold_1 rfl) (by decide +kernel)
theorem dX5_lotTold_36 : decode cX5_lotTold 36 = .ok (.iload_n 2, 1) := fo_28 (fd_n 7 sr_X5_lotTold_1 rfl)
theorem dX5_lotTold_37 : decode cX5_lotTold 37 = .ok (.goto 17, 3) := fo_167 (fd_n 8 sr_X5_lotTold_1 rfl) (by decide +kernel)
theorem dX5_lotTold_40 : decode cX5_lotTold 40 = .ok (.bipush 10, 2) := fo_16 (fd_n 11 sr_X5_lotTold_1 rfl) (by decide +kernel)
theorem dX5_lotTold_42 : decode cX5_lotTold 42 = .ok (.iload_n 2, 1) := fo_28 (fd_n 13 sr_X5_lotTold_1 rfl)
theorem dX5_lotTold_43 : decode cX5_lotTold 43 = .ok (.imul, 1) := fo_104 (fd_n 14 sr_X5_lotTold_1 rfl)
theorem dX5_lotTold_44 : decode cX5_lotTold 44 = .ok (.aload_n 0, 1) := fo_42 (fd_n 15 sr_X5_lotTold_1 rfl)
theorem dX5_lotTold_45 : decode cX5_lotTold 45 = .ok (.getfield 31, 3) := fo_180 (fd_n 16 sr_X5_lotTold_1 rfl) rfl
theorem dX5_lotTold_48 : decode cX5_lotTold 48 = .ok (.iload_n 3, 1) := fo_29 (fd_n 19 sr_X5_lotTold_1 rfl)
theorem dX5_lotTold_49 : decode cX5_lotTold 49 = .ok (.iaload, 1) := fo_46 (fd_n 20 sr_X5_lotTold_1 rfl)
theorem dX5_lotTold_50 : decode cX5_lotTold 50 = .ok (.iadd, 1) := fo_96 (fd_n 21 sr_X5_lotTold_1 rfl)
theorem dX5_lotTold_51 : decode cX5_lotTold 51 = .ok (.bipush 48, 2) := fo_16 (fd_n 22 sr_X5_lotTold_1 rfl) (by decide +kernel)
theorem dX5_lotTold_53 : decode cX5_lotTold 53 = .ok (.isub, 1) := fo_100 (fd_n 24 sr_X5_lotTold_1 rfl)
theorem dX5_lotTold_54 : decode cX5_lotTold 54 = .ok (.istore_n 2, 1) := fo_61 (fd_n 25 sr_X5_lotTold_1 rfl)
theorem dX5_lotTold_55 : decode cX5_lotTold 55 = .ok (.iinc 3 1, 3) := fo_132 (fd_n 26 sr_X5_lotTold_1 rfl) rfl (by decide +kernel)
theorem dX5_lotTold_58 : decode cX5_lotTold 58 = .ok (.goto (-51), 3) := fo_167 sr_X5_lotTold_2 (by decide +kernel)
theorem dX5_lotTold_61 : decode cX5_lotTold 61 = .ok (.aload_n 0, 1) := fo_42 (fd_n 3 sr_X5_lotTold_2 rfl)
theorem dX5_lotTold_62 : decode cX5_lotTold 62 = .ok (.iload_n 2, 1) := fo_28 (fd_n 4 sr_X5_lotTold_2 rfl)
theorem dX5_lotTold_63 : decode cX5_lotTold 63 = .ok (.putfield 252, 3) := fo_181 (fd_n 5 sr_X5_lotTold_2 rfl) rfl
theorem dX5_lotTold_66 : decode cX5_lotTold 66 = .ok (.aload_n 0, 1) := fo_42 (fd_n 8 sr_X5_lotTold_2 rfl)
theorem dX5_lotTold_67 : decode cX5_lotTold 67 = .ok (.aload_n 0, 1) := fo_42 (fd_n 9 sr_X5_lotTold_2 rfl)
theorem dX5_lotTold_68 : decode cX5_lotTold 68 = .ok (.aload_n 0, 1) := fo_42 (fd_n 10 sr_X5_lotTold_2 rfl)
theorem dX5_lotTold_69 : decode cX5_lotTold 69 = .ok (.getfield 229, 3) := fo_180 (fd_n 11 sr_X5_lotTold_2 rfl) rfl
theorem dX5_lotTold_72 : decode cX5_lotTold 72 = .ok (.invokevirtual 232, 3) := fo_182 (fd_n 14 sr_X5_lotTold_2 rfl) rfl
theorem dX5_lotTold_75 : decode cX5_lotTold 75 = .ok (.invokestatic 238, 3) := fo_184 (fd_n 17 sr_X5_lotTold_2 rfl) rfl
theorem dX5_lotTold_78 : decode cX5_lotTold 78 = .ok (.ifCond .eq 23, 3) := fo_153 (fd_n 20 sr_X5_lotTold_2 rfl) (by decide +kernel)
theorem dX5_lotTold_81 : decode cX5_lotTold 81 = .ok (.iload_n 2, 1) := fo_28 (fd_n 23 sr_X5_lotTold_2 rfl)
theorem dX5_lotTold_82 : decode cX5_lotTold 82 = .ok (.invokestatic 71, 3) := fo_184 (fd_n 24 sr_X5_lotTold_2 rfl) rfl
theorem dX5_lotTold_85 : decode cX5_lotTold 85 = .ok (.ifCond .eq 16, 3) := fo_153 (fd_n 27 sr_X5_lotTold_2 rfl) (by decide +kernel)
theorem dX5_lotTold_88 : decode cX5_lotTold 88 = .ok (.aload_n 0, 1) := fo_42 sr_X5_lotTold_3
theorem dX5_lotTold_89 : decode cX5_lotTold 89 = .ok (.iload_n 2, 1) := fo_28 (fd_n 1 sr_X5_lotTold_3 rfl)
theorem dX5_lotTold_90 : decode cX5_lotTold 90 = .ok (.invokevirtual 65, 3) := fo_182 (fd_n 2 sr_X5_lotTold_3 rfl) rfl
theorem dX5_lotTold_93 : decode cX5_lotTold 93 = .ok (.iload_n 1, 1) := fo_27 (fd_n 5 sr_X5_lotTold_3 rfl)
theorem dX5_lotTold_94 : decode cX5_lotTold 94 = .ok (.if_icmp .eq 7, 3) := fo_159 (fd_n 6 sr_X5_lotTold_3 rfl) (by decide +kernel)
theorem dX5_lotTold_97 : decode cX5_lotTold 97 = .ok (.iconst 1, 1) := fo_4 (fd_n 9 sr_X5_lotTold_3 rfl)
theorem dX5_lotTold_98 : decode cX5_lotTold 98 = .ok (.goto 4, 3) := fo_167 (fd_n 10 sr_X5_lotTold_3 rfl) (by decide +kernel)
theorem dX5_lotTold_101 : decode cX5_lotTold 101 = .ok (.iconst 0, 1) := fo_3 (fd_n 13 sr_X5_lotTold_3 rfl)
theorem dX5_lotTold_102 : decode cX5_lotTold 102 = .ok (.invokevirtual 255, 3) := fo_182 (fd_n 14 sr_X5_lotTold_3 rfl) rfl
theorem dX5_lotTold_105 : decode cX5_lotTold 105 = .ok (.return_, 1) := fo_177 (fd_n 17 sr_X5_lotTold_3 rfl)
noncomputable def sl_X5_numberBehind_1 : List UInt8 := 172 :: []
noncomputable def sl_X5_numberBehind_0 : List UInt8 := 42 :: 42 :: 182 :: 1 :: 3 :: 31 :: 148 :: 154 :: 0 :: 7 :: 4 :: 167 :: 0 :: 4 :: 3 :: 182 :: 0 :: 255 :: 42 :: 3 :: 29 :: 182 :: 1 :: 21 :: 42 :: 180 :: 0 :: 252 :: sl_X5_numberBehind_1
theorem sr_X5_numberBehind_0 : fd_at cX5_numberBehind 0 sl_X5_numberBehind_0 := fd_base (by decide +kernel)
theorem sr_X5_numberBehind_1 : fd_at cX5_numberBehind 28 sl_X5_numberBehind_1 := fd_n 28 sr_X5_numberBehind_0 rfl
theorem dX5_numberBehind_0 : decode cX5_numberBehind 0 = .ok (.aload_n 0, 1) := fo_42 sr_X5_numberBehind_0
theorem dX5_numberBehind_1 : decode cX5_numberBehind 1 = .ok (.aload_n 0, 1) := fo_42 (fd_n 1 sr_X5_numberBehind_0 rfl)
theorem dX5_numberBehind_2 : decode cX5_numberBehind 2 = .ok (.invokevirtual 259, 3) := fo_182 (fd_n 2 sr_X5_numberBehind_0 rfl) rfl
theorem dX5_numberBehind_5 : decode cX5_numberBehind 5 = .ok (.lload_n 1, 1) := fo_31 (fd_n 5 sr_X5_numberBehind_0 rfl)
theorem dX5_numberBehind_6 : decode cX5_numberBehind 6 = .ok (.lcmp, 1) := fo_148 (fd_n 6 sr_X5_numberBehind_0 rfl)
theorem dX5_numberBehind_7 : decode cX5_numberBehind 7 = .ok (.ifCond .ne 7, 3) := fo_154 (fd_n 7 sr_X5_numberBehind_0 rfl) (by decide +kernel)
theorem dX5_numberBehind_10 : decode cX5_numberBehind 10 = .ok (.iconst 1, 1) := fo_4 (fd_n 10 sr_X5_numberBehind_0 rfl)
theorem dX5_numberBehind_11 : decode cX5_numberBehind 11 = .ok (.goto 4, 3) := fo_167 (fd_n 11 sr_X5_numberBehind_0 rfl) (by decide +kernel)
theorem dX5_numberBehind_14 : decode cX5_numberBehind 14 = .ok (.iconst 0, 1) := fo_3 (fd_n 14 sr_X5_numberBehind_0 rfl)
theorem dX5_numberBehind_15 : decode cX5_numberBehind 15 = .ok (.invokevirtual 255, 3) := fo_182 (fd_n 15 sr_X5_numberBehind_0 rfl) rfl
theorem dX5_numberBehind_18 : decode cX5_numberBehind 18 = .ok (.aload_n 0, 1) := fo_42 (fd_n 18 sr_X5_numberBehind_0 rfl)
theorem dX5_numberBehind_19 : decode cX5_numberBehind 19 = .ok (.iconst 0, 1) := fo_3 (fd_n 19 sr_X5_numberBehind_0 rfl)
theorem dX5_numberBehind_20 : decode cX5_numberBehind 20 = .ok (.iload_n 3, 1) := fo_29 (fd_n 20 sr_X5_numberBehind_0 rfl)
theorem dX5_numberBehind_21 : decode cX5_numberBehind 21 = .ok (.invokevirtual 277, 3) := fo_182 (fd_n 21 sr_X5_numberBehind_0 rfl) rfl
theorem dX5_numberBehind_24 : decode cX5_numberBehind 24 = .ok (.aload_n 0, 1) := fo_42 (fd_n 24 sr_X5_numberBehind_0 rfl)
theorem dX5_numberBehind_25 : decode cX5_numberBehind 25 = .ok (.getfield 252, 3) := fo_180 (fd_n 25 sr_X5_numberBehind_0 rfl) rfl
theorem dX5_numberBehind_28 : decode cX5_numberBehind 28 = .ok (.ireturn, 1) := fo_172 sr_X5_numberBehind_1
noncomputable def sl_X5_thingItem_3 : List UInt8 := 54 :: 5 :: 42 :: 180 :: 0 :: 241 :: 154 :: 0 :: 14 :: 42 :: 28 :: 27 :: 29 :: 21 :: 4 :: 21 :: 5 :: 182 :: 0 :: 85 :: 177 :: []
noncomputable def sl_X5_thingItem_2 : List UInt8 := 182 :: 1 :: 31 :: 54 :: 4 :: 42 :: 182 :: 1 :: 3 :: 20 :: 1 :: 37 :: 148 :: 154 :: 0 :: 14 :: 42 :: 20 :: 1 :: 37 :: 6 :: 182 :: 1 :: 31 :: 167 :: 0 :: 4 :: 3 :: sl_X5_thingItem_3
noncomputable def sl_X5_thingItem_1 : List UInt8 := 154 :: 0 :: 8 :: 42 :: 4 :: 182 :: 1 :: 26 :: 42 :: 180 :: 0 :: 252 :: 61 :: 42 :: 20 :: 1 :: 29 :: 6 :: 182 :: 1 :: 31 :: 62 :: 42 :: 20 :: 1 :: 35 :: 16 :: 9 :: sl_X5_thingItem_2
noncomputable def sl_X5_thingItem_0 : List UInt8 := 42 :: 4 :: 182 :: 0 :: 255 :: 42 :: 42 :: 182 :: 1 :: 3 :: 20 :: 1 :: 24 :: 148 :: 154 :: 0 :: 7 :: 4 :: 167 :: 0 :: 4 :: 3 :: 182 :: 0 :: 255 :: 42 :: 180 :: 0 :: 241 :: sl_X5_thingItem_1
theorem sr_X5_thingItem_0 : fd_at cX5_thingItem 0 sl_X5_thingItem_0 := fd_base (by decide +kernel)
theorem sr_X5_thingItem_1 : fd_at cX5_thingItem 29 sl_X5_thingItem_1 := fd_n 29 sr_X5_thingItem_0 rfl
theorem sr_X5_thingItem_2 : fd_at cX5_thingItem 57 sl_X5_thingItem_2 := fd_n 28 sr_X5_thingItem_1 rfl
theorem sr_X5_thingItem_3 : fd_at cX5_thingItem 85 sl_X5_thingItem_3 := fd_n 28 sr_X5_thingItem_2 rfl
theorem dX5_thingItem_0 : decode cX5_thingItem 0 = .ok (.aload_n 0, 1) := fo_42 sr_X5_thingItem_0
theorem dX5_thingItem_1 : decode cX5_thingItem 1 = .ok (.iconst 1, 1) := fo_4 (fd_n 1 sr_X5_thingItem_0 rfl)
theorem dX5_thingItem_2 : decode cX5_thingItem 2 = .ok (.invokevirtual 255, 3) := fo_182 (fd_n 2 sr_X5_thingItem_0 rfl) rfl
theorem dX5_thingItem_5 : decode cX5_thingItem 5 = .ok (.aload_n 0, 1) := fo_42 (fd_n 5 sr_X5_thingItem_0 rfl)
theorem dX5_thingItem_6 : decode cX5_thingItem 6 = .ok (.aload_n 0, 1) := fo_42 (fd_n 6 sr_X5_thingItem_0 rfl)
theorem dX5_thingItem_7 : decode cX5_thingItem 7 = .ok (.invokevirtual 259, 3) := fo_182 (fd_n 7 sr_X5_thingItem_0 rfl) rfl
theorem dX5_thingItem_10 : decode cX5_thingItem 10 = .ok (.ldc2_w 280, 3) := fo_20 (fd_n 10 sr_X5_thingItem_0 rfl) rfl
theorem dX5_thingItem_13 : decode cX5_thingItem 13 = .ok (.lcmp, 1) := fo_148 (fd_n 13 sr_X5_thingItem_0 rfl)
theorem dX5_thingItem_14 : decode cX5_thingItem 14 = .ok (.ifCond .ne 7, 3) := fo_154 (fd_n 14 sr_X5_thingItem_0 rfl) (by decide +kernel)
theorem dX5_thingItem_17 : decode cX5_thingItem 17 = .ok (.iconst 1, 1) := fo_4 (fd_n 17 sr_X5_thingItem_0 rfl)
theorem dX5_thingItem_18 : decode cX5_thingItem 18 = .ok (.goto 4, 3) := fo_167 (fd_n 18 sr_X5_thingItem_0 rfl) (by decide +kernel)
theorem dX5_thingItem_21 : decode cX5_thingItem 21 = .ok (.iconst 0, 1) := fo_3 (fd_n 21 sr_X5_thingItem_0 rfl)
theorem dX5_thingItem_22 : decode cX5_thingItem 22 = .ok (.invokevirtual 255, 3) := fo_182 (fd_n 22 sr_X5_thingItem_0 rfl) rfl
theorem dX5_thingItem_25 : decode cX5_thingItem 25 = .ok (.aload_n 0, 1) := fo_42 (fd_n 25 sr_X5_thingItem_0 rfl)
theorem dX5_thingItem_26 : decode cX5_thingItem 26 = .ok (.getfield 241, 3) := fo_180 (fd_n 26 sr_X5_thingItem_0 rfl) rfl
theorem dX5_thingItem_29 : decode cX5_thingItem 29 = .ok (.ifCond .ne 8, 3) := fo_154 sr_X5_thingItem_1 (by decide +kernel)
theorem dX5_thingItem_32 : decode cX5_thingItem 32 = .ok (.aload_n 0, 1) := fo_42 (fd_n 3 sr_X5_thingItem_1 rfl)
theorem dX5_thingItem_33 : decode cX5_thingItem 33 = .ok (.iconst 1, 1) := fo_4 (fd_n 4 sr_X5_thingItem_1 rfl)
theorem dX5_thingItem_34 : decode cX5_thingItem 34 = .ok (.invokevirtual 282, 3) := fo_182 (fd_n 5 sr_X5_thingItem_1 rfl) rfl
theorem dX5_thingItem_37 : decode cX5_thingItem 37 = .ok (.aload_n 0, 1) := fo_42 (fd_n 8 sr_X5_thingItem_1 rfl)
theorem dX5_thingItem_38 : decode cX5_thingItem 38 = .ok (.getfield 252, 3) := fo_180 (fd_n 9 sr_X5_thingItem_1 rfl) rfl
theorem dX5_thingItem_41 : decode cX5_thingItem 41 = .ok (.istore_n 2, 1) := fo_61 (fd_n 12 sr_X5_thingItem_1 rfl)
theorem dX5_thingItem_42 : decode cX5_thingItem 42 = .ok (.aload_n 0, 1) := fo_42 (fd_n 13 sr_X5_thingItem_1 rfl)
theorem dX5_thingItem_43 : decode cX5_thingItem 43 = .ok (.ldc2_w 285, 3) := fo_20 (fd_n 14 sr_X5_thingItem_1 rfl) rfl
theorem dX5_thingItem_46 : decode cX5_thingItem 46 = .ok (.iconst 3, 1) := fo_6 (fd_n 17 sr_X5_thingItem_1 rfl)
theorem dX5_thingItem_47 : decode cX5_thingItem 47 = .ok (.invokevirtual 287, 3) := fo_182 (fd_n 18 sr_X5_thingItem_1 rfl) rfl
theorem dX5_thingItem_50 : decode cX5_thingItem 50 = .ok (.istore_n 3, 1) := fo_62 (fd_n 21 sr_X5_thingItem_1 rfl)
theorem dX5_thingItem_51 : decode cX5_thingItem 51 = .ok (.aload_n 0, 1) := fo_42 (fd_n 22 sr_X5_thingItem_1 rfl)
theorem dX5_thingItem_52 : decode cX5_thingItem 52 = .ok (.ldc2_w 291, 3) := fo_20 (fd_n 23 sr_X5_thingItem_1 rfl) rfl
theorem dX5_thingItem_55 : decode cX5_thingItem 55 = .ok (.bipush 9, 2) := fo_16 (fd_n 26 sr_X5_thingItem_1 rfl) (by decide +kernel)
theorem dX5_thingItem_57 : decode cX5_thingItem 57 = .ok (.invokevirtual 287, 3) := fo_182 sr_X5_thingItem_2 rfl
theorem dX5_thingItem_60 : decode cX5_thingItem 60 = .ok (.istore 4, 2) := fo_54 (fd_n 3 sr_X5_thingItem_2 rfl) rfl
theorem dX5_thingItem_62 : decode cX5_thingItem 62 = .ok (.aload_n 0, 1) := fo_42 (fd_n 5 sr_X5_thingItem_2 rfl)
theorem dX5_thingItem_63 : decode cX5_thingItem 63 = .ok (.invokevirtual 259, 3) := fo_182 (fd_n 6 sr_X5_thingItem_2 rfl) rfl
theorem dX5_thingItem_66 : decode cX5_thingItem 66 = .ok (.ldc2_w 293, 3) := fo_20 (fd_n 9 sr_X5_thingItem_2 rfl) rfl
theorem dX5_thingItem_69 : decode cX5_thingItem 69 = .ok (.lcmp, 1) := fo_148 (fd_n 12 sr_X5_thingItem_2 rfl)
theorem dX5_thingItem_70 : decode cX5_thingItem 70 = .ok (.ifCond .ne 14, 3) := fo_154 (fd_n 13 sr_X5_thingItem_2 rfl) (by decide +kernel)
theorem dX5_thingItem_73 : decode cX5_thingItem 73 = .ok (.aload_n 0, 1) := fo_42 (fd_n 16 sr_X5_thingItem_2 rfl)
theorem dX5_thingItem_74 : decode cX5_thingItem 74 = .ok (.ldc2_w 293, 3) := fo_20 (fd_n 17 sr_X5_thingItem_2 rfl) rfl
theorem dX5_thingItem_77 : decode cX5_thingItem 77 = .ok (.iconst 3, 1) := fo_6 (fd_n 20 sr_X5_thingItem_2 rfl)
theorem dX5_thingItem_78 : decode cX5_thingItem 78 = .ok (.invokevirtual 287, 3) := fo_182 (fd_n 21 sr_X5_thingItem_2 rfl) rfl
theorem dX5_thingItem_81 : decode cX5_thingItem 81 = .ok (.goto 4, 3) := fo_167 (fd_n 24 sr_X5_thingItem_2 rfl) (by decide +kernel)
theorem dX5_thingItem_84 : decode cX5_thingItem 84 = .ok (.iconst 0, 1) := fo_3 (fd_n 27 sr_X5_thingItem_2 rfl)
theorem dX5_thingItem_85 : decode cX5_thingItem 85 = .ok (.istore 5, 2) := fo_54 sr_X5_thingItem_3 rfl
theorem dX5_thingItem_87 : decode cX5_thingItem 87 = .ok (.aload_n 0, 1) := fo_42 (fd_n 2 sr_X5_thingItem_3 rfl)
theorem dX5_thingItem_88 : decode cX5_thingItem 88 = .ok (.getfield 241, 3) := fo_180 (fd_n 3 sr_X5_thingItem_3 rfl) rfl
theorem dX5_thingItem_91 : decode cX5_thingItem 91 = .ok (.ifCond .ne 14, 3) := fo_154 (fd_n 6 sr_X5_thingItem_3 rfl) (by decide +kernel)
theorem dX5_thingItem_94 : decode cX5_thingItem 94 = .ok (.aload_n 0, 1) := fo_42 (fd_n 9 sr_X5_thingItem_3 rfl)
theorem dX5_thingItem_95 : decode cX5_thingItem 95 = .ok (.iload_n 2, 1) := fo_28 (fd_n 10 sr_X5_thingItem_3 rfl)
theorem dX5_thingItem_96 : decode cX5_thingItem 96 = .ok (.iload_n 1, 1) := fo_27 (fd_n 11 sr_X5_thingItem_3 rfl)
theorem dX5_thingItem_97 : decode cX5_thingItem 97 = .ok (.iload_n 3, 1) := fo_29 (fd_n 12 sr_X5_thingItem_3 rfl)
theorem dX5_thingItem_98 : decode cX5_thingItem 98 = .ok (.iload 4, 2) := fo_21 (fd_n 13 sr_X5_thingItem_3 rfl) rfl
theorem dX5_thingItem_100 : decode cX5_thingItem 100 = .ok (.iload 5, 2) := fo_21 (fd_n 15 sr_X5_thingItem_3 rfl) rfl
theorem dX5_thingItem_102 : decode cX5_thingItem 102 = .ok (.invokevirtual 85, 3) := fo_182 (fd_n 17 sr_X5_thingItem_3 rfl) rfl
theorem dX5_thingItem_105 : decode cX5_thingItem 105 = .ok (.return_, 1) := fo_177 (fd_n 20 sr_X5_thingItem_3 rfl)
noncomputable def sl_X5_windowItem_2 : List UInt8 := 54 :: 4 :: 42 :: 180 :: 0 :: 241 :: 154 :: 0 :: 14 :: 42 :: 27 :: 28 :: 29 :: 21 :: 4 :: 182 :: 0 :: 118 :: 54 :: 5 :: 177 :: []
noncomputable def sl_X5_windowItem_1 : List UInt8 := 60 :: 42 :: 20 :: 1 :: 39 :: 16 :: 9 :: 182 :: 1 :: 31 :: 61 :: 42 :: 20 :: 1 :: 41 :: 6 :: 182 :: 1 :: 31 :: 62 :: 42 :: 20 :: 1 :: 43 :: 6 :: 182 :: 1 :: 31 :: sl_X5_windowItem_2
noncomputable def sl_X5_windowItem_0 : List UInt8 := 42 :: 42 :: 180 :: 0 :: 7 :: 4 :: 46 :: 16 :: 10 :: 162 :: 0 :: 7 :: 4 :: 167 :: 0 :: 4 :: 3 :: 182 :: 0 :: 255 :: 42 :: 20 :: 1 :: 24 :: 16 :: 24 :: 182 :: 1 :: 31 :: sl_X5_windowItem_1
theorem sr_X5_windowItem_0 : fd_at cX5_windowItem 0 sl_X5_windowItem_0 := fd_base (by decide +kernel)
theorem sr_X5_windowItem_1 : fd_at cX5_windowItem 29 sl_X5_windowItem_1 := fd_n 29 sr_X5_windowItem_0 rfl
theorem sr_X5_windowItem_2 : fd_at cX5_windowItem 57 sl_X5_windowItem_2 := fd_n 28 sr_X5_windowItem_1 rfl
theorem dX5_windowItem_0 : decode cX5_windowItem 0 = .ok (.aload_n 0, 1) := fo_42 sr_X5_windowItem_0
theorem dX5_windowItem_1 : decode cX5_windowItem 1 = .ok (.aload_n 0, 1) := fo_42 (fd_n 1 sr_X5_windowItem_0 rfl)
theorem dX5_windowItem_2 : decode cX5_windowItem 2 = .ok (.getfield 7, 3) := fo_180 (fd_n 2 sr_X5_windowItem_0 rfl) rfl
theorem dX5_windowItem_5 : decode cX5_windowItem 5 = .ok (.iconst 1, 1) := fo_4 (fd_n 5 sr_X5_windowItem_0 rfl)
theorem dX5_windowItem_6 : decode cX5_windowItem 6 = .ok (.iaload, 1) := fo_46 (fd_n 6 sr_X5_windowItem_0 rfl)
theorem dX5_windowItem_7 : decode cX5_windowItem 7 = .ok (.bipush 10, 2) := fo_16 (fd_n 7 sr_X5_windowItem_0 rfl) (by decide +kernel)
theorem dX5_windowItem_9 : decode cX5_windowItem 9 = .ok (.if_icmp .ge 7, 3) := fo_162 (fd_n 9 sr_X5_windowItem_0 rfl) (by decide +kernel)
theorem dX5_windowItem_12 : decode cX5_windowItem 12 = .ok (.iconst 1, 1) := fo_4 (fd_n 12 sr_X5_windowItem_0 rfl)
theorem dX5_windowItem_13 : decode cX5_windowItem 13 = .ok (.goto 4, 3) := fo_167 (fd_n 13 sr_X5_windowItem_0 rfl) (by decide +kernel)
theorem dX5_windowItem_16 : decode cX5_windowItem 16 = .ok (.iconst 0, 1) := fo_3 (fd_n 16 sr_X5_windowItem_0 rfl)
theorem dX5_windowItem_17 : decode cX5_windowItem 17 = .ok (.invokevirtual 255, 3) := fo_182 (fd_n 17 sr_X5_windowItem_0 rfl) rfl
theorem dX5_windowItem_20 : decode cX5_windowItem 20 = .ok (.aload_n 0, 1) := fo_42 (fd_n 20 sr_X5_windowItem_0 rfl)
theorem dX5_windowItem_21 : decode cX5_windowItem 21 = .ok (.ldc2_w 280, 3) := fo_20 (fd_n 21 sr_X5_windowItem_0 rfl) rfl
theorem dX5_windowItem_24 : decode cX5_windowItem 24 = .ok (.bipush 24, 2) := fo_16 (fd_n 24 sr_X5_windowItem_0 rfl) (by decide +kernel)
theorem dX5_windowItem_26 : decode cX5_windowItem 26 = .ok (.invokevirtual 287, 3) := fo_182 (fd_n 26 sr_X5_windowItem_0 rfl) rfl
theorem dX5_windowItem_29 : decode cX5_windowItem 29 = .ok (.istore_n 1, 1) := fo_60 sr_X5_windowItem_1
theorem dX5_windowItem_30 : decode cX5_windowItem 30 = .ok (.aload_n 0, 1) := fo_42 (fd_n 1 sr_X5_windowItem_1 rfl)
theorem dX5_windowItem_31 : decode cX5_windowItem 31 = .ok (.ldc2_w 295, 3) := fo_20 (fd_n 2 sr_X5_windowItem_1 rfl) rfl
theorem dX5_windowItem_34 : decode cX5_windowItem 34 = .ok (.bipush 9, 2) := fo_16 (fd_n 5 sr_X5_windowItem_1 rfl) (by decide +kernel)
theorem dX5_windowItem_36 : decode cX5_windowItem 36 = .ok (.invokevirtual 287, 3) := fo_182 (fd_n 7 sr_X5_windowItem_1 rfl) rfl
theorem dX5_windowItem_39 : decode cX5_windowItem 39 = .ok (.istore_n 2, 1) := fo_61 (fd_n 10 sr_X5_windowItem_1 rfl)
theorem dX5_windowItem_40 : decode cX5_windowItem 40 = .ok (.aload_n 0, 1) := fo_42 (fd_n 11 sr_X5_windowItem_1 rfl)
theorem dX5_windowItem_41 : decode cX5_windowItem 41 = .ok (.ldc2_w 297, 3) := fo_20 (fd_n 12 sr_X5_windowItem_1 rfl) rfl
theorem dX5_windowItem_44 : decode cX5_windowItem 44 = .ok (.iconst 3, 1) := fo_6 (fd_n 15 sr_X5_windowItem_1 rfl)
theorem dX5_windowItem_45 : decode cX5_windowItem 45 = .ok (.invokevirtual 287, 3) := fo_182 (fd_n 16 sr_X5_windowItem_1 rfl) rfl
theorem dX5_windowItem_48 : decode cX5_windowItem 48 = .ok (.istore_n 3, 1) := fo_62 (fd_n 19 sr_X5_windowItem_1 rfl)
theorem dX5_windowItem_49 : decode cX5_windowItem 49 = .ok (.aload_n 0, 1) := fo_42 (fd_n 20 sr_X5_windowItem_1 rfl)
theorem dX5_windowItem_50 : decode cX5_windowItem 50 = .ok (.ldc2_w 299, 3) := fo_20 (fd_n 21 sr_X5_windowItem_1 rfl) rfl
theorem dX5_windowItem_53 : decode cX5_windowItem 53 = .ok (.iconst 3, 1) := fo_6 (fd_n 24 sr_X5_windowItem_1 rfl)
theorem dX5_windowItem_54 : decode cX5_windowItem 54 = .ok (.invokevirtual 287, 3) := fo_182 (fd_n 25 sr_X5_windowItem_1 rfl) rfl
theorem dX5_windowItem_57 : decode cX5_windowItem 57 = .ok (.istore 4, 2) := fo_54 sr_X5_windowItem_2 rfl
theorem dX5_windowItem_59 : decode cX5_windowItem 59 = .ok (.aload_n 0, 1) := fo_42 (fd_n 2 sr_X5_windowItem_2 rfl)
theorem dX5_windowItem_60 : decode cX5_windowItem 60 = .ok (.getfield 241, 3) := fo_180 (fd_n 3 sr_X5_windowItem_2 rfl) rfl
theorem dX5_windowItem_63 : decode cX5_windowItem 63 = .ok (.ifCond .ne 14, 3) := fo_154 (fd_n 6 sr_X5_windowItem_2 rfl) (by decide +kernel)
theorem dX5_windowItem_66 : decode cX5_windowItem 66 = .ok (.aload_n 0, 1) := fo_42 (fd_n 9 sr_X5_windowItem_2 rfl)
theorem dX5_windowItem_67 : decode cX5_windowItem 67 = .ok (.iload_n 1, 1) := fo_27 (fd_n 10 sr_X5_windowItem_2 rfl)
theorem dX5_windowItem_68 : decode cX5_windowItem 68 = .ok (.iload_n 2, 1) := fo_28 (fd_n 11 sr_X5_windowItem_2 rfl)
theorem dX5_windowItem_69 : decode cX5_windowItem 69 = .ok (.iload_n 3, 1) := fo_29 (fd_n 12 sr_X5_windowItem_2 rfl)
theorem dX5_windowItem_70 : decode cX5_windowItem 70 = .ok (.iload 4, 2) := fo_21 (fd_n 13 sr_X5_windowItem_2 rfl) rfl
theorem dX5_windowItem_72 : decode cX5_windowItem 72 = .ok (.invokevirtual 118, 3) := fo_182 (fd_n 15 sr_X5_windowItem_2 rfl) rfl
theorem dX5_windowItem_75 : decode cX5_windowItem 75 = .ok (.istore 5, 2) := fo_54 (fd_n 18 sr_X5_windowItem_2 rfl) rfl
theorem dX5_windowItem_77 : decode cX5_windowItem 77 = .ok (.return_, 1) := fo_177 (fd_n 20 sr_X5_windowItem_2 rfl)
noncomputable def sl_X5_priceItem_1 : List UInt8 := 42 :: 180 :: 0 :: 7 :: 6 :: 27 :: 96 :: 42 :: 180 :: 0 :: 252 :: 79 :: 177 :: []
noncomputable def sl_X5_priceItem_0 : List UInt8 := 42 :: 4 :: 182 :: 0 :: 255 :: 42 :: 3 :: 6 :: 182 :: 1 :: 21 :: 42 :: 180 :: 0 :: 252 :: 60 :: 42 :: 3 :: 16 :: 99 :: 182 :: 1 :: 21 :: 42 :: 180 :: 0 :: 241 :: 154 :: 0 :: 15 :: sl_X5_priceItem_1
theorem sr_X5_priceItem_0 : fd_at cX5_priceItem 0 sl_X5_priceItem_0 := fd_base (by decide +kernel)
theorem sr_X5_priceItem_1 : fd_at cX5_priceItem 30 sl_X5_priceItem_1 := fd_n 30 sr_X5_priceItem_0 rfl
theorem dX5_priceItem_0 : decode cX5_priceItem 0 = .ok (.aload_n 0, 1) := fo_42 sr_X5_priceItem_0
theorem dX5_priceItem_1 : decode cX5_priceItem 1 = .ok (.iconst 1, 1) := fo_4 (fd_n 1 sr_X5_priceItem_0 rfl)
theorem dX5_priceItem_2 : decode cX5_priceItem 2 = .ok (.invokevirtual 255, 3) := fo_182 (fd_n 2 sr_X5_priceItem_0 rfl) rfl
theorem dX5_priceItem_5 : decode cX5_priceItem 5 = .ok (.aload_n 0, 1) := fo_42 (fd_n 5 sr_X5_priceItem_0 rfl)
theorem dX5_priceItem_6 : decode cX5_priceItem 6 = .ok (.iconst 0, 1) := fo_3 (fd_n 6 sr_X5_priceItem_0 rfl)
theorem dX5_priceItem_7 : decode cX5_priceItem 7 = .ok (.iconst 3, 1) := fo_6 (fd_n 7 sr_X5_priceItem_0 rfl)
theorem dX5_priceItem_8 : decode cX5_priceItem 8 = .ok (.invokevirtual 277, 3) := fo_182 (fd_n 8 sr_X5_priceItem_0 rfl) rfl
theorem dX5_priceItem_11 : decode cX5_priceItem 11 = .ok (.aload_n 0, 1) := fo_42 (fd_n 11 sr_X5_priceItem_0 rfl)
theorem dX5_priceItem_12 : decode cX5_priceItem 12 = .ok (.getfield 252, 3) := fo_180 (fd_n 12 sr_X5_priceItem_0 rfl) rfl
theorem dX5_priceItem_15 : decode cX5_priceItem 15 = .ok (.istore_n 1, 1) := fo_60 (fd_n 15 sr_X5_priceItem_0 rfl)
theorem dX5_priceItem_16 : decode cX5_priceItem 16 = .ok (.aload_n 0, 1) := fo_42 (fd_n 16 sr_X5_priceItem_0 rfl)
theorem dX5_priceItem_17 : decode cX5_priceItem 17 = .ok (.iconst 0, 1) := fo_3 (fd_n 17 sr_X5_priceItem_0 rfl)
theorem dX5_priceItem_18 : decode cX5_priceItem 18 = .ok (.bipush 99, 2) := fo_16 (fd_n 18 sr_X5_priceItem_0 rfl) (by decide +kernel)
theorem dX5_priceItem_20 : decode cX5_priceItem 20 = .ok (.invokevirtual 277, 3) := fo_182 (fd_n 20 sr_X5_priceItem_0 rfl) rfl
theorem dX5_priceItem_23 : decode cX5_priceItem 23 = .ok (.aload_n 0, 1) := fo_42 (fd_n 23 sr_X5_priceItem_0 rfl)
theorem dX5_priceItem_24 : decode cX5_priceItem 24 = .ok (.getfield 241, 3) := fo_180 (fd_n 24 sr_X5_priceItem_0 rfl) rfl
theorem dX5_priceItem_27 : decode cX5_priceItem 27 = .ok (.ifCond .ne 15, 3) := fo_154 (fd_n 27 sr_X5_priceItem_0 rfl) (by decide +kernel)
theorem dX5_priceItem_30 : decode cX5_priceItem 30 = .ok (.aload_n 0, 1) := fo_42 sr_X5_priceItem_1
theorem dX5_priceItem_31 : decode cX5_priceItem 31 = .ok (.getfield 7, 3) := fo_180 (fd_n 1 sr_X5_priceItem_1 rfl) rfl
theorem dX5_priceItem_34 : decode cX5_priceItem 34 = .ok (.iconst 3, 1) := fo_6 (fd_n 4 sr_X5_priceItem_1 rfl)
theorem dX5_priceItem_35 : decode cX5_priceItem 35 = .ok (.iload_n 1, 1) := fo_27 (fd_n 5 sr_X5_priceItem_1 rfl)
theorem dX5_priceItem_36 : decode cX5_priceItem 36 = .ok (.iadd, 1) := fo_96 (fd_n 6 sr_X5_priceItem_1 rfl)
theorem dX5_priceItem_37 : decode cX5_priceItem 37 = .ok (.aload_n 0, 1) := fo_42 (fd_n 7 sr_X5_priceItem_1 rfl)
theorem dX5_priceItem_38 : decode cX5_priceItem 38 = .ok (.getfield 252, 3) := fo_180 (fd_n 8 sr_X5_priceItem_1 rfl) rfl
theorem dX5_priceItem_41 : decode cX5_priceItem 41 = .ok (.iastore, 1) := fo_79 (fd_n 11 sr_X5_priceItem_1 rfl)
theorem dX5_priceItem_42 : decode cX5_priceItem 42 = .ok (.return_, 1) := fo_177 (fd_n 12 sr_X5_priceItem_1 rfl)
noncomputable def sl_X5_item_3 : List UInt8 := 180 :: 0 :: 241 :: 154 :: 0 :: 17 :: 42 :: 180 :: 0 :: 7 :: 42 :: 180 :: 0 :: 252 :: 3 :: 184 :: 0 :: 46 :: 2 :: 79 :: 177 :: []
noncomputable def sl_X5_item_2 : List UInt8 := 20 :: 1 :: 61 :: 148 :: 154 :: 0 :: 7 :: 4 :: 167 :: 0 :: 4 :: 3 :: 182 :: 0 :: 255 :: 42 :: 180 :: 0 :: 241 :: 154 :: 0 :: 8 :: 42 :: 3 :: 182 :: 1 :: 26 :: 42 :: sl_X5_item_3
noncomputable def sl_X5_item_1 : List UInt8 := 42 :: 182 :: 1 :: 53 :: 167 :: 0 :: 74 :: 42 :: 182 :: 1 :: 3 :: 20 :: 1 :: 56 :: 148 :: 154 :: 0 :: 10 :: 42 :: 182 :: 1 :: 58 :: 167 :: 0 :: 56 :: 42 :: 42 :: 182 :: 1 :: 3 :: sl_X5_item_2
noncomputable def sl_X5_item_0 : List UInt8 := 42 :: 182 :: 1 :: 45 :: 60 :: 27 :: 155 :: 0 :: 11 :: 42 :: 27 :: 182 :: 1 :: 48 :: 167 :: 0 :: 92 :: 42 :: 182 :: 1 :: 3 :: 20 :: 1 :: 51 :: 148 :: 154 :: 0 :: 10 :: sl_X5_item_1
theorem sr_X5_item_0 : fd_at cX5_item 0 sl_X5_item_0 := fd_base (by decide +kernel)
theorem sr_X5_item_1 : fd_at cX5_item 28 sl_X5_item_1 := fd_n 28 sr_X5_item_0 rfl
theorem sr_X5_item_2 : fd_at cX5_item 58 sl_X5_item_2 := fd_n 30 sr_X5_item_1 rfl
theorem sr_X5_item_3 : fd_at cX5_item 86 sl_X5_item_3 := fd_n 28 sr_X5_item_2 rfl
theorem dX5_item_0 : decode cX5_item 0 = .ok (.aload_n 0, 1) := fo_42 sr_X5_item_0
theorem dX5_item_1 : decode cX5_item 1 = .ok (.invokevirtual 301, 3) := fo_182 (fd_n 1 sr_X5_item_0 rfl) rfl
theorem dX5_item_4 : decode cX5_item 4 = .ok (.istore_n 1, 1) := fo_60 (fd_n 4 sr_X5_item_0 rfl)
theorem dX5_item_5 : decode cX5_item 5 = .ok (.iload_n 1, 1) := fo_27 (fd_n 5 sr_X5_item_0 rfl)
theorem dX5_item_6 : decode cX5_item 6 = .ok (.ifCond .lt 11, 3) := fo_155 (fd_n 6 sr_X5_item_0 rfl) (by decide +kernel)
theorem dX5_item_9 : decode cX5_item 9 = .ok (.aload_n 0, 1) := fo_42 (fd_n 9 sr_X5_item_0 rfl)
theorem dX5_item_10 : decode cX5_item 10 = .ok (.iload_n 1, 1) := fo_27 (fd_n 10 sr_X5_item_0 rfl)
theorem dX5_item_11 : decode cX5_item 11 = .ok (.invokevirtual 304, 3) := fo_182 (fd_n 11 sr_X5_item_0 rfl) rfl
theorem dX5_item_14 : decode cX5_item 14 = .ok (.goto 92, 3) := fo_167 (fd_n 14 sr_X5_item_0 rfl) (by decide +kernel)
theorem dX5_item_17 : decode cX5_item 17 = .ok (.aload_n 0, 1) := fo_42 (fd_n 17 sr_X5_item_0 rfl)
theorem dX5_item_18 : decode cX5_item 18 = .ok (.invokevirtual 259, 3) := fo_182 (fd_n 18 sr_X5_item_0 rfl) rfl
theorem dX5_item_21 : decode cX5_item 21 = .ok (.ldc2_w 307, 3) := fo_20 (fd_n 21 sr_X5_item_0 rfl) rfl
theorem dX5_item_24 : decode cX5_item 24 = .ok (.lcmp, 1) := fo_148 (fd_n 24 sr_X5_item_0 rfl)
theorem dX5_item_25 : decode cX5_item 25 = .ok (.ifCond .ne 10, 3) := fo_154 (fd_n 25 sr_X5_item_0 rfl) (by decide +kernel)
theorem dX5_item_28 : decode cX5_item 28 = .ok (.aload_n 0, 1) := fo_42 sr_X5_item_1
theorem dX5_item_29 : decode cX5_item 29 = .ok (.invokevirtual 309, 3) := fo_182 (fd_n 1 sr_X5_item_1 rfl) rfl
theorem dX5_item_32 : decode cX5_item 32 = .ok (.goto 74, 3) := fo_167 (fd_n 4 sr_X5_item_1 rfl) (by decide +kernel)
theorem dX5_item_35 : decode cX5_item 35 = .ok (.aload_n 0, 1) := fo_42 (fd_n 7 sr_X5_item_1 rfl)
theorem dX5_item_36 : decode cX5_item 36 = .ok (.invokevirtual 259, 3) := fo_182 (fd_n 8 sr_X5_item_1 rfl) rfl
theorem dX5_item_39 : decode cX5_item 39 = .ok (.ldc2_w 312, 3) := fo_20 (fd_n 11 sr_X5_item_1 rfl) rfl
theorem dX5_item_42 : decode cX5_item 42 = .ok (.lcmp, 1) := fo_148 (fd_n 14 sr_X5_item_1 rfl)
theorem dX5_item_43 : decode cX5_item 43 = .ok (.ifCond .ne 10, 3) := fo_154 (fd_n 15 sr_X5_item_1 rfl) (by decide +kernel)
theorem dX5_item_46 : decode cX5_item 46 = .ok (.aload_n 0, 1) := fo_42 (fd_n 18 sr_X5_item_1 rfl)
theorem dX5_item_47 : decode cX5_item 47 = .ok (.invokevirtual 314, 3) := fo_182 (fd_n 19 sr_X5_item_1 rfl) rfl
theorem dX5_item_50 : decode cX5_item 50 = .ok (.goto 56, 3) := fo_167 (fd_n 22 sr_X5_item_1 rfl) (by decide +kernel)
theorem dX5_item_53 : decode cX5_item 53 = .ok (.aload_n 0, 1) := fo_42 (fd_n 25 sr_X5_item_1 rfl)
theorem dX5_item_54 : decode cX5_item 54 = .ok (.aload_n 0, 1) := fo_42 (fd_n 26 sr_X5_item_1 rfl)
theorem dX5_item_55 : decode cX5_item 55 = .ok (.invokevirtual 259, 3) := fo_182 (fd_n 27 sr_X5_item_1 rfl) rfl
theorem dX5_item_58 : decode cX5_item 58 = .ok (.ldc2_w 317, 3) := fo_20 sr_X5_item_2 rfl
theorem dX5_item_61 : decode cX5_item 61 = .ok (.lcmp, 1) := fo_148 (fd_n 3 sr_X5_item_2 rfl)
theorem dX5_item_62 : decode cX5_item 62 = .ok (.ifCond .ne 7, 3) := fo_154 (fd_n 4 sr_X5_item_2 rfl) (by decide +kernel)
theorem dX5_item_65 : decode cX5_item 65 = .ok (.iconst 1, 1) := fo_4 (fd_n 7 sr_X5_item_2 rfl)
theorem dX5_item_66 : decode cX5_item 66 = .ok (.goto 4, 3) := fo_167 (fd_n 8 sr_X5_item_2 rfl) (by decide +kernel)
theorem dX5_item_69 : decode cX5_item 69 = .ok (.iconst 0, 1) := fo_3 (fd_n 11 sr_X5_item_2 rfl)
theorem dX5_item_70 : decode cX5_item 70 = .ok (.invokevirtual 255, 3) := fo_182 (fd_n 12 sr_X5_item_2 rfl) rfl
theorem dX5_item_73 : decode cX5_item 73 = .ok (.aload_n 0, 1) := fo_42 (fd_n 15 sr_X5_item_2 rfl)
theorem dX5_item_74 : decode cX5_item 74 = .ok (.getfield 241, 3) := fo_180 (fd_n 16 sr_X5_item_2 rfl) rfl
theorem dX5_item_77 : decode cX5_item 77 = .ok (.ifCond .ne 8, 3) := fo_154 (fd_n 19 sr_X5_item_2 rfl) (by decide +kernel)
theorem dX5_item_80 : decode cX5_item 80 = .ok (.aload_n 0, 1) := fo_42 (fd_n 22 sr_X5_item_2 rfl)
theorem dX5_item_81 : decode cX5_item 81 = .ok (.iconst 0, 1) := fo_3 (fd_n 23 sr_X5_item_2 rfl)
theorem dX5_item_82 : decode cX5_item 82 = .ok (.invokevirtual 282, 3) := fo_182 (fd_n 24 sr_X5_item_2 rfl) rfl
theorem dX5_item_85 : decode cX5_item 85 = .ok (.aload_n 0, 1) := fo_42 (fd_n 27 sr_X5_item_2 rfl)
theorem dX5_item_86 : decode cX5_item 86 = .ok (.getfield 241, 3) := fo_180 sr_X5_item_3 rfl
theorem dX5_item_89 : decode cX5_item 89 = .ok (.ifCond .ne 17, 3) := fo_154 (fd_n 3 sr_X5_item_3 rfl) (by decide +kernel)
theorem dX5_item_92 : decode cX5_item 92 = .ok (.aload_n 0, 1) := fo_42 (fd_n 6 sr_X5_item_3 rfl)
theorem dX5_item_93 : decode cX5_item 93 = .ok (.getfield 7, 3) := fo_180 (fd_n 7 sr_X5_item_3 rfl) rfl
theorem dX5_item_96 : decode cX5_item 96 = .ok (.aload_n 0, 1) := fo_42 (fd_n 10 sr_X5_item_3 rfl)
theorem dX5_item_97 : decode cX5_item 97 = .ok (.getfield 252, 3) := fo_180 (fd_n 11 sr_X5_item_3 rfl) rfl
theorem dX5_item_100 : decode cX5_item 100 = .ok (.iconst 0, 1) := fo_3 (fd_n 14 sr_X5_item_3 rfl)
theorem dX5_item_101 : decode cX5_item 101 = .ok (.invokestatic 46, 3) := fo_184 (fd_n 15 sr_X5_item_3 rfl) rfl
theorem dX5_item_104 : decode cX5_item 104 = .ok (.iconst (-1), 1) := fo_2 (fd_n 18 sr_X5_item_3 rfl)
theorem dX5_item_105 : decode cX5_item 105 = .ok (.iastore, 1) := fo_79 (fd_n 19 sr_X5_item_3 rfl)
theorem dX5_item_106 : decode cX5_item 106 = .ok (.return_, 1) := fo_177 (fd_n 20 sr_X5_item_3 rfl)
noncomputable def sl_X5_text_3 : List UInt8 := 42 :: 182 :: 0 :: 191 :: 2 :: 42 :: 180 :: 0 :: 229 :: 100 :: 172 :: 27 :: 172 :: []
noncomputable def sl_X5_text_2 : List UInt8 := 4 :: 167 :: 0 :: 4 :: 3 :: 182 :: 0 :: 255 :: 42 :: 182 :: 1 :: 63 :: 132 :: 1 :: 1 :: 167 :: 255 :: 209 :: 42 :: 3 :: 181 :: 0 :: 215 :: 42 :: 180 :: 0 :: 241 :: 153 :: 0 :: 14 :: sl_X5_text_3
noncomputable def sl_X5_text_1 : List UInt8 := 154 :: 0 :: 46 :: 42 :: 180 :: 0 :: 229 :: 42 :: 180 :: 0 :: 215 :: 162 :: 0 :: 35 :: 42 :: 42 :: 42 :: 180 :: 0 :: 229 :: 182 :: 0 :: 232 :: 16 :: 59 :: 160 :: 0 :: 7 :: sl_X5_text_2
noncomputable def sl_X5_text_0 : List UInt8 := 42 :: 182 :: 0 :: 185 :: 42 :: 3 :: 181 :: 0 :: 226 :: 42 :: 3 :: 181 :: 0 :: 241 :: 42 :: 182 :: 0 :: 245 :: 4 :: 60 :: 42 :: 182 :: 1 :: 63 :: 42 :: 180 :: 0 :: 241 :: sl_X5_text_1
theorem sr_X5_text_0 : fd_at cX5_text 0 sl_X5_text_0 := fd_base (by decide +kernel)
theorem sr_X5_text_1 : fd_at cX5_text 28 sl_X5_text_1 := fd_n 28 sr_X5_text_0 rfl
theorem sr_X5_text_2 : fd_at cX5_text 56 sl_X5_text_2 := fd_n 28 sr_X5_text_1 rfl
theorem sr_X5_text_3 : fd_at cX5_text 86 sl_X5_text_3 := fd_n 30 sr_X5_text_2 rfl
theorem dX5_text_0 : decode cX5_text 0 = .ok (.aload_n 0, 1) := fo_42 sr_X5_text_0
theorem dX5_text_1 : decode cX5_text 1 = .ok (.invokevirtual 185, 3) := fo_182 (fd_n 1 sr_X5_text_0 rfl) rfl
theorem dX5_text_4 : decode cX5_text 4 = .ok (.aload_n 0, 1) := fo_42 (fd_n 4 sr_X5_text_0 rfl)
theorem dX5_text_5 : decode cX5_text 5 = .ok (.iconst 0, 1) := fo_3 (fd_n 5 sr_X5_text_0 rfl)
theorem dX5_text_6 : decode cX5_text 6 = .ok (.putfield 226, 3) := fo_181 (fd_n 6 sr_X5_text_0 rfl) rfl
theorem dX5_text_9 : decode cX5_text 9 = .ok (.aload_n 0, 1) := fo_42 (fd_n 9 sr_X5_text_0 rfl)
theorem dX5_text_10 : decode cX5_text 10 = .ok (.iconst 0, 1) := fo_3 (fd_n 10 sr_X5_text_0 rfl)
theorem dX5_text_11 : decode cX5_text 11 = .ok (.putfield 241, 3) := fo_181 (fd_n 11 sr_X5_text_0 rfl) rfl
theorem dX5_text_14 : decode cX5_text 14 = .ok (.aload_n 0, 1) := fo_42 (fd_n 14 sr_X5_text_0 rfl)
theorem dX5_text_15 : decode cX5_text 15 = .ok (.invokevirtual 245, 3) := fo_182 (fd_n 15 sr_X5_text_0 rfl) rfl
theorem dX5_text_18 : decode cX5_text 18 = .ok (.iconst 1, 1) := fo_4 (fd_n 18 sr_X5_text_0 rfl)
theorem dX5_text_19 : decode cX5_text 19 = .ok (.istore_n 1, 1) := fo_60 (fd_n 19 sr_X5_text_0 rfl)
theorem dX5_text_20 : decode cX5_text 20 = .ok (.aload_n 0, 1) := fo_42 (fd_n 20 sr_X5_text_0 rfl)
theorem dX5_text_21 : decode cX5_text 21 = .ok (.invokevirtual 319, 3) := fo_182 (fd_n 21 sr_X5_text_0 rfl) rfl
theorem dX5_text_24 : decode cX5_text 24 = .ok (.aload_n 0, 1) := fo_42 (fd_n 24 sr_X5_text_0 rfl)
theorem dX5_text_25 : decode cX5_text 25 = .ok (.getfield 241, 3) := fo_180 (fd_n 25 sr_X5_text_0 rfl) rfl
theorem dX5_text_28 : decode cX5_text 28 = .ok (.ifCond .ne 46, 3) := fo_154 sr_X5_text_1 (by decide +kernel)
theorem dX5_text_31 : decode cX5_text 31 = .ok (.aload_n 0, 1) := fo_42 (fd_n 3 sr_X5_text_1 rfl)
theorem dX5_text_32 : decode cX5_text 32 = .ok (.getfield 229, 3) := fo_180 (fd_n 4 sr_X5_text_1 rfl) rfl
theorem dX5_text_35 : decode cX5_text 35 = .ok (.aload_n 0, 1) := fo_42 (fd_n 7 sr_X5_text_1 rfl)
theorem dX5_text_36 : decode cX5_text 36 = .ok (.getfield 215, 3) := fo_180 (fd_n 8 sr_X5_text_1 rfl) rfl
theorem dX5_text_39 : decode cX5_text 39 = .ok (.if_icmp .ge 35, 3) := fo_162 (fd_n 11 sr_X5_text_1 rfl) (by decide +kernel)
theorem dX5_text_42 : decode cX5_text 42 = .ok (.aload_n 0, 1) := fo_42 (fd_n 14 sr_X5_text_1 rfl)
theorem dX5_text_43 : decode cX5_text 43 = .ok (.aload_n 0, 1) := fo_42 (fd_n 15 sr_X5_text_1 rfl)
theorem dX5_text_44 : decode cX5_text 44 = .ok (.aload_n 0, 1) := fo_42 (fd_n 16 sr_X5_text_1 rfl)
theorem dX5_text_45 : decode cX5_text 45 = .ok (.getfield 229, 3) := fo_180 (fd_n 17 sr_X5_text_1 rfl) rfl
theorem dX5_text_48 : decode cX5_text 48 = .ok (.invokevirtual 232, 3) := fo_182 (fd_n 20 sr_X5_text_1 rfl) rfl
theorem dX5_text_51 : decode cX5_text 51 = .ok (.bipush 59, 2) := fo_16 (fd_n 23 sr_X5_text_1 rfl) (by decide +kernel)
theorem dX5_text_53 : decode cX5_text 53 = .ok (.if_icmp .ne 7, 3) := fo_160 (fd_n 25 sr_X5_text_1 rfl) (by decide +kernel)
theorem dX5_text_56 : decode cX5_text 56 = .ok (.iconst 1, 1) := fo_4 sr_X5_text_2
theorem dX5_text_57 : decode cX5_text 57 = .ok (.goto 4, 3) := fo_167 (fd_n 1 sr_X5_text_2 rfl) (by decide +kernel)
theorem dX5_text_60 : decode cX5_text 60 = .ok (.iconst 0, 1) := fo_3 (fd_n 4 sr_X5_text_2 rfl)
theorem dX5_text_61 : decode cX5_text 61 = .ok (.invokevirtual 255, 3) := fo_182 (fd_n 5 sr_X5_text_2 rfl) rfl
theorem dX5_text_64 : decode cX5_text 64 = .ok (.aload_n 0, 1) := fo_42 (fd_n 8 sr_X5_text_2 rfl)
theorem dX5_text_65 : decode cX5_text 65 = .ok (.invokevirtual 319, 3) := fo_182 (fd_n 9 sr_X5_text_2 rfl) rfl
theorem dX5_text_68 : decode cX5_text 68 = .ok (.iinc 1 1, 3) := fo_132 (fd_n 12 sr_X5_text_2 rfl) rfl (by decide +kernel)
theorem dX5_text_71 : decode cX5_text 71 = .ok (.goto (-47), 3) := fo_167 (fd_n 15 sr_X5_text_2 rfl) (by decide +kernel)
theorem dX5_text_74 : decode cX5_text 74 = .ok (.aload_n 0, 1) := fo_42 (fd_n 18 sr_X5_text_2 rfl)
theorem dX5_text_75 : decode cX5_text 75 = .ok (.iconst 0, 1) := fo_3 (fd_n 19 sr_X5_text_2 rfl)
theorem dX5_text_76 : decode cX5_text 76 = .ok (.putfield 215, 3) := fo_181 (fd_n 20 sr_X5_text_2 rfl) rfl
theorem dX5_text_79 : decode cX5_text 79 = .ok (.aload_n 0, 1) := fo_42 (fd_n 23 sr_X5_text_2 rfl)
theorem dX5_text_80 : decode cX5_text 80 = .ok (.getfield 241, 3) := fo_180 (fd_n 24 sr_X5_text_2 rfl) rfl
theorem dX5_text_83 : decode cX5_text 83 = .ok (.ifCond .eq 14, 3) := fo_153 (fd_n 27 sr_X5_text_2 rfl) (by decide +kernel)
theorem dX5_text_86 : decode cX5_text 86 = .ok (.aload_n 0, 1) := fo_42 sr_X5_text_3
theorem dX5_text_87 : decode cX5_text 87 = .ok (.invokevirtual 191, 3) := fo_182 (fd_n 1 sr_X5_text_3 rfl) rfl
theorem dX5_text_90 : decode cX5_text 90 = .ok (.iconst (-1), 1) := fo_2 (fd_n 4 sr_X5_text_3 rfl)
theorem dX5_text_91 : decode cX5_text 91 = .ok (.aload_n 0, 1) := fo_42 (fd_n 5 sr_X5_text_3 rfl)
theorem dX5_text_92 : decode cX5_text 92 = .ok (.getfield 229, 3) := fo_180 (fd_n 6 sr_X5_text_3 rfl) rfl
theorem dX5_text_95 : decode cX5_text 95 = .ok (.isub, 1) := fo_100 (fd_n 9 sr_X5_text_3 rfl)
theorem dX5_text_96 : decode cX5_text 96 = .ok (.ireturn, 1) := fo_172 (fd_n 10 sr_X5_text_3 rfl)
theorem dX5_text_97 : decode cX5_text 97 = .ok (.iload_n 1, 1) := fo_27 (fd_n 11 sr_X5_text_3 rfl)
theorem dX5_text_98 : decode cX5_text 98 = .ok (.ireturn, 1) := fo_172 (fd_n 12 sr_X5_text_3 rfl)
noncomputable def sl_X5_hold_1 : List UInt8 := 182 :: 0 :: 80 :: 172 :: 42 :: 180 :: 0 :: 7 :: 17 :: 0 :: 171 :: 27 :: 96 :: 28 :: 79 :: 4 :: 172 :: []
noncomputable def sl_X5_hold_0 : List UInt8 := 27 :: 133 :: 9 :: 20 :: 0 :: 59 :: 184 :: 0 :: 53 :: 153 :: 0 :: 17 :: 28 :: 133 :: 20 :: 0 :: 130 :: 20 :: 0 :: 51 :: 184 :: 0 :: 53 :: 154 :: 0 :: 10 :: 42 :: 18 :: 50 :: sl_X5_hold_1
theorem sr_X5_hold_0 : fd_at cX5_hold 0 sl_X5_hold_0 := fd_base (by decide +kernel)
theorem sr_X5_hold_1 : fd_at cX5_hold 29 sl_X5_hold_1 := fd_n 29 sr_X5_hold_0 rfl
theorem dX5_hold_0 : decode cX5_hold 0 = .ok (.iload_n 1, 1) := fo_27 sr_X5_hold_0
theorem dX5_hold_1 : decode cX5_hold 1 = .ok (.i2l, 1) := fo_133 (fd_n 1 sr_X5_hold_0 rfl)
theorem dX5_hold_2 : decode cX5_hold 2 = .ok (.lconst 0, 1) := fo_9 (fd_n 2 sr_X5_hold_0 rfl)
theorem dX5_hold_3 : decode cX5_hold 3 = .ok (.ldc2_w 59, 3) := fo_20 (fd_n 3 sr_X5_hold_0 rfl) rfl
theorem dX5_hold_6 : decode cX5_hold 6 = .ok (.invokestatic 53, 3) := fo_184 (fd_n 6 sr_X5_hold_0 rfl) rfl
theorem dX5_hold_9 : decode cX5_hold 9 = .ok (.ifCond .eq 17, 3) := fo_153 (fd_n 9 sr_X5_hold_0 rfl) (by decide +kernel)
theorem dX5_hold_12 : decode cX5_hold 12 = .ok (.iload_n 2, 1) := fo_28 (fd_n 12 sr_X5_hold_0 rfl)
theorem dX5_hold_13 : decode cX5_hold 13 = .ok (.i2l, 1) := fo_133 (fd_n 13 sr_X5_hold_0 rfl)
theorem dX5_hold_14 : decode cX5_hold 14 = .ok (.ldc2_w 130, 3) := fo_20 (fd_n 14 sr_X5_hold_0 rfl) rfl
theorem dX5_hold_17 : decode cX5_hold 17 = .ok (.ldc2_w 51, 3) := fo_20 (fd_n 17 sr_X5_hold_0 rfl) rfl
theorem dX5_hold_20 : decode cX5_hold 20 = .ok (.invokestatic 53, 3) := fo_184 (fd_n 20 sr_X5_hold_0 rfl) rfl
theorem dX5_hold_23 : decode cX5_hold 23 = .ok (.ifCond .ne 10, 3) := fo_154 (fd_n 23 sr_X5_hold_0 rfl) (by decide +kernel)
theorem dX5_hold_26 : decode cX5_hold 26 = .ok (.aload_n 0, 1) := fo_42 (fd_n 26 sr_X5_hold_0 rfl)
theorem dX5_hold_27 : decode cX5_hold 27 = .ok (.ldc 50, 2) := fo_18 (fd_n 27 sr_X5_hold_0 rfl) rfl
theorem dX5_hold_29 : decode cX5_hold 29 = .ok (.invokevirtual 80, 3) := fo_182 sr_X5_hold_1 rfl
theorem dX5_hold_32 : decode cX5_hold 32 = .ok (.ireturn, 1) := fo_172 (fd_n 3 sr_X5_hold_1 rfl)
theorem dX5_hold_33 : decode cX5_hold 33 = .ok (.aload_n 0, 1) := fo_42 (fd_n 4 sr_X5_hold_1 rfl)
theorem dX5_hold_34 : decode cX5_hold 34 = .ok (.getfield 7, 3) := fo_180 (fd_n 5 sr_X5_hold_1 rfl) rfl
theorem dX5_hold_37 : decode cX5_hold 37 = .ok (.sipush 171, 3) := fo_17 (fd_n 8 sr_X5_hold_1 rfl) (by decide +kernel)
theorem dX5_hold_40 : decode cX5_hold 40 = .ok (.iload_n 1, 1) := fo_27 (fd_n 11 sr_X5_hold_1 rfl)
theorem dX5_hold_41 : decode cX5_hold 41 = .ok (.iadd, 1) := fo_96 (fd_n 12 sr_X5_hold_1 rfl)
theorem dX5_hold_42 : decode cX5_hold 42 = .ok (.iload_n 2, 1) := fo_28 (fd_n 13 sr_X5_hold_1 rfl)
theorem dX5_hold_43 : decode cX5_hold 43 = .ok (.iastore, 1) := fo_79 (fd_n 14 sr_X5_hold_1 rfl)
theorem dX5_hold_44 : decode cX5_hold 44 = .ok (.iconst 1, 1) := fo_4 (fd_n 15 sr_X5_hold_1 rfl)
theorem dX5_hold_45 : decode cX5_hold 45 = .ok (.ireturn, 1) := fo_172 (fd_n 16 sr_X5_hold_1 rfl)
noncomputable def sl_X5_as_4 : List UInt8 := 167 :: 0 :: 4 :: 3 :: 54 :: 5 :: 21 :: 5 :: 153 :: 0 :: 7 :: 29 :: 167 :: 0 :: 10 :: 42 :: 19 :: 1 :: 67 :: 182 :: 0 :: 80 :: 172 :: []
noncomputable def sl_X5_as_3 : List UInt8 := 6 :: 159 :: 0 :: 26 :: 28 :: 5 :: 160 :: 0 :: 9 :: 21 :: 4 :: 7 :: 159 :: 0 :: 15 :: 28 :: 8 :: 160 :: 0 :: 14 :: 21 :: 4 :: 16 :: 6 :: 160 :: 0 :: 7 :: 4 :: sl_X5_as_4
noncomputable def sl_X5_as_2 : List UInt8 := 182 :: 0 :: 80 :: 172 :: 42 :: 29 :: 3 :: 182 :: 0 :: 62 :: 54 :: 4 :: 28 :: 153 :: 0 :: 43 :: 21 :: 4 :: 28 :: 159 :: 0 :: 37 :: 28 :: 4 :: 160 :: 0 :: 9 :: 21 :: 4 :: sl_X5_as_3
noncomputable def sl_X5_as_1 : List UInt8 := 172 :: 42 :: 180 :: 0 :: 7 :: 17 :: 0 :: 171 :: 27 :: 96 :: 46 :: 62 :: 29 :: 155 :: 0 :: 11 :: 42 :: 29 :: 182 :: 0 :: 65 :: 154 :: 0 :: 11 :: 42 :: 19 :: 1 :: 66 :: sl_X5_as_2
noncomputable def sl_X5_as_0 : List UInt8 := 27 :: 133 :: 9 :: 20 :: 0 :: 59 :: 184 :: 0 :: 53 :: 153 :: 0 :: 15 :: 28 :: 133 :: 9 :: 20 :: 0 :: 69 :: 184 :: 0 :: 53 :: 154 :: 0 :: 10 :: 42 :: 18 :: 50 :: 182 :: 0 :: 80 :: sl_X5_as_1
theorem sr_X5_as_0 : fd_at cX5_as 0 sl_X5_as_0 := fd_base (by decide +kernel)
theorem sr_X5_as_1 : fd_at cX5_as 30 sl_X5_as_1 := fd_n 30 sr_X5_as_0 rfl
theorem sr_X5_as_2 : fd_at cX5_as 58 sl_X5_as_2 := fd_n 28 sr_X5_as_1 rfl
theorem sr_X5_as_3 : fd_at cX5_as 87 sl_X5_as_3 := fd_n 29 sr_X5_as_2 rfl
theorem sr_X5_as_4 : fd_at cX5_as 115 sl_X5_as_4 := fd_n 28 sr_X5_as_3 rfl
theorem dX5_as_0 : decode cX5_as 0 = .ok (.iload_n 1, 1) := fo_27 sr_X5_as_0
theorem dX5_as_1 : decode cX5_as 1 = .ok (.i2l, 1) := fo_133 (fd_n 1 sr_X5_as_0 rfl)
theorem dX5_as_2 : decode cX5_as 2 = .ok (.lconst 0, 1) := fo_9 (fd_n 2 sr_X5_as_0 rfl)
theorem dX5_as_3 : decode cX5_as 3 = .ok (.ldc2_w 59, 3) := fo_20 (fd_n 3 sr_X5_as_0 rfl) rfl
theorem dX5_as_6 : decode cX5_as 6 = .ok (.invokestatic 53, 3) := fo_184 (fd_n 6 sr_X5_as_0 rfl) rfl
theorem dX5_as_9 : decode cX5_as 9 = .ok (.ifCond .eq 15, 3) := fo_153 (fd_n 9 sr_X5_as_0 rfl) (by decide +kernel)
theorem dX5_as_12 : decode cX5_as 12 = .ok (.iload_n 2, 1) := fo_28 (fd_n 12 sr_X5_as_0 rfl)
theorem dX5_as_13 : decode cX5_as 13 = .ok (.i2l, 1) := fo_133 (fd_n 13 sr_X5_as_0 rfl)
theorem dX5_as_14 : decode cX5_as 14 = .ok (.lconst 0, 1) := fo_9 (fd_n 14 sr_X5_as_0 rfl)
theorem dX5_as_15 : decode cX5_as 15 = .ok (.ldc2_w 69, 3) := fo_20 (fd_n 15 sr_X5_as_0 rfl) rfl
theorem dX5_as_18 : decode cX5_as 18 = .ok (.invokestatic 53, 3) := fo_184 (fd_n 18 sr_X5_as_0 rfl) rfl
theorem dX5_as_21 : decode cX5_as 21 = .ok (.ifCond .ne 10, 3) := fo_154 (fd_n 21 sr_X5_as_0 rfl) (by decide +kernel)
theorem dX5_as_24 : decode cX5_as 24 = .ok (.aload_n 0, 1) := fo_42 (fd_n 24 sr_X5_as_0 rfl)
theorem dX5_as_25 : decode cX5_as 25 = .ok (.ldc 50, 2) := fo_18 (fd_n 25 sr_X5_as_0 rfl) rfl
theorem dX5_as_27 : decode cX5_as 27 = .ok (.invokevirtual 80, 3) := fo_182 (fd_n 27 sr_X5_as_0 rfl) rfl
theorem dX5_as_30 : decode cX5_as 30 = .ok (.ireturn, 1) := fo_172 sr_X5_as_1
theorem dX5_as_31 : decode cX5_as 31 = .ok (.aload_n 0, 1) := fo_42 (fd_n 1 sr_X5_as_1 rfl)
theorem dX5_as_32 : decode cX5_as 32 = .ok (.getfield 7, 3) := fo_180 (fd_n 2 sr_X5_as_1 rfl) rfl
theorem dX5_as_35 : decode cX5_as 35 = .ok (.sipush 171, 3) := fo_17 (fd_n 5 sr_X5_as_1 rfl) (by decide +kernel)
theorem dX5_as_38 : decode cX5_as 38 = .ok (.iload_n 1, 1) := fo_27 (fd_n 8 sr_X5_as_1 rfl)
theorem dX5_as_39 : decode cX5_as 39 = .ok (.iadd, 1) := fo_96 (fd_n 9 sr_X5_as_1 rfl)
theorem dX5_as_40 : decode cX5_as 40 = .ok (.iaload, 1) := fo_46 (fd_n 10 sr_X5_as_1 rfl)
theorem dX5_as_41 : decode cX5_as 41 = .ok (.istore_n 3, 1) := fo_62 (fd_n 11 sr_X5_as_1 rfl)
theorem dX5_as_42 : decode cX5_as 42 = .ok (.iload_n 3, 1) := fo_29 (fd_n 12 sr_X5_as_1 rfl)
theorem dX5_as_43 : decode cX5_as 43 = .ok (.ifCond .lt 11, 3) := fo_155 (fd_n 13 sr_X5_as_1 rfl) (by decide +kernel)
theorem dX5_as_46 : decode cX5_as 46 = .ok (.aload_n 0, 1) := fo_42 (fd_n 16 sr_X5_as_1 rfl)
theorem dX5_as_47 : decode cX5_as 47 = .ok (.iload_n 3, 1) := fo_29 (fd_n 17 sr_X5_as_1 rfl)
theorem dX5_as_48 : decode cX5_as 48 = .ok (.invokevirtual 65, 3) := fo_182 (fd_n 18 sr_X5_as_1 rfl) rfl
theorem dX5_as_51 : decode cX5_as 51 = .ok (.ifCond .ne 11, 3) := fo_154 (fd_n 21 sr_X5_as_1 rfl) (by decide +kernel)
theorem dX5_as_54 : decode cX5_as 54 = .ok (.aload_n 0, 1) := fo_42 (fd_n 24 sr_X5_as_1 rfl)
theorem dX5_as_55 : decode cX5_as 55 = .ok (.ldc_w 322, 3) := fo_19 (fd_n 25 sr_X5_as_1 rfl) rfl
theorem dX5_as_58 : decode cX5_as 58 = .ok (.invokevirtual 80, 3) := fo_182 sr_X5_as_2 rfl
theorem dX5_as_61 : decode cX5_as 61 = .ok (.ireturn, 1) := fo_172 (fd_n 3 sr_X5_as_2 rfl)
theorem dX5_as_62 : decode cX5_as 62 = .ok (.aload_n 0, 1) := fo_42 (fd_n 4 sr_X5_as_2 rfl)
theorem dX5_as_63 : decode cX5_as 63 = .ok (.iload_n 3, 1) := fo_29 (fd_n 5 sr_X5_as_2 rfl)
theorem dX5_as_64 : decode cX5_as 64 = .ok (.iconst 0, 1) := fo_3 (fd_n 6 sr_X5_as_2 rfl)
theorem dX5_as_65 : decode cX5_as 65 = .ok (.invokevirtual 62, 3) := fo_182 (fd_n 7 sr_X5_as_2 rfl) rfl
theorem dX5_as_68 : decode cX5_as 68 = .ok (.istore 4, 2) := fo_54 (fd_n 10 sr_X5_as_2 rfl) rfl
theorem dX5_as_70 : decode cX5_as 70 = .ok (.iload_n 2, 1) := fo_28 (fd_n 12 sr_X5_as_2 rfl)
theorem dX5_as_71 : decode cX5_as 71 = .ok (.ifCond .eq 43, 3) := fo_153 (fd_n 13 sr_X5_as_2 rfl) (by decide +kernel)
theorem dX5_as_74 : decode cX5_as 74 = .ok (.iload 4, 2) := fo_21 (fd_n 16 sr_X5_as_2 rfl) rfl
theorem dX5_as_76 : decode cX5_as 76 = .ok (.iload_n 2, 1) := fo_28 (fd_n 18 sr_X5_as_2 rfl)
theorem dX5_as_77 : decode cX5_as 77 = .ok (.if_icmp .eq 37, 3) := fo_159 (fd_n 19 sr_X5_as_2 rfl) (by decide +kernel)
theorem dX5_as_80 : decode cX5_as 80 = .ok (.iload_n 2, 1) := fo_28 (fd_n 22 sr_X5_as_2 rfl)
theorem dX5_as_81 : decode cX5_as 81 = .ok (.iconst 1, 1) := fo_4 (fd_n 23 sr_X5_as_2 rfl)
theorem dX5_as_82 : decode cX5_as 82 = .ok (.if_icmp .ne 9, 3) := fo_160 (fd_n 24 sr_X5_as_2 rfl) (by decide +kernel)
theorem dX5_as_85 : decode cX5_as 85 = .ok (.iload 4, 2) := fo_21 (fd_n 27 sr_X5_as_2 rfl) rfl
theorem dX5_as_87 : decode cX5_as 87 = .ok (.iconst 3, 1) := fo_6 sr_X5_as_3
theorem dX5_as_88 : decode cX5_as 88 = .ok (.if_icmp .eq 26, 3) := fo_159 (fd_n 1 sr_X5_as_3 rfl) (by decide +kernel)
theorem dX5_as_91 : decode cX5_as 91 = .ok (.iload_n 2, 1) := fo_28 (fd_n 4 sr_X5_as_3 rfl)
theorem dX5_as_92 : decode cX5_as 92 = .ok (.iconst 2, 1) := fo_5 (fd_n 5 sr_X5_as_3 rfl)
theorem dX5_as_93 : decode cX5_as 93 = .ok (.if_icmp .ne 9, 3) := fo_160 (fd_n 6 sr_X5_as_3 rfl) (by decide +kernel)
theorem dX5_as_96 : decode cX5_as 96 = .ok (.iload 4, 2) := fo_21 (fd_n 9 sr_X5_as_3 rfl) rfl
theorem dX5_as_98 : decode cX5_as 98 = .ok (.iconst 4, 1) := fo_7 (fd_n 11 sr_X5_as_3 rfl)
theorem dX5_as_99 : decode cX5_as 99 = .ok (.if_icmp .eq 15, 3) := fo_159 (fd_n 12 sr_X5_as_3 rfl) (by decide +kernel)
theorem dX5_as_102 : decode cX5_as 102 = .ok (.iload_n 2, 1) := fo_28 (fd_n 15 sr_X5_as_3 rfl)
theorem dX5_as_103 : decode cX5_as 103 = .ok (.iconst 5, 1) := fo_8 (fd_n 16 sr_X5_as_3 rfl)
theorem dX5_as_104 : decode cX5_as 104 = .ok (.if_icmp .ne 14, 3) := fo_160 (fd_n 17 sr_X5_as_3 rfl) (by decide +kernel)
theorem dX5_as_107 : decode cX5_as 107 = .ok (.iload 4, 2) := fo_21 (fd_n 20 sr_X5_as_3 rfl) rfl
theorem dX5_as_109 : decode cX5_as 109 = .ok (.bipush 6, 2) := fo_16 (fd_n 22 sr_X5_as_3 rfl) (by decide +kernel)
theorem dX5_as_111 : decode cX5_as 111 = .ok (.if_icmp .ne 7, 3) := fo_160 (fd_n 24 sr_X5_as_3 rfl) (by decide +kernel)
theorem dX5_as_114 : decode cX5_as 114 = .ok (.iconst 1, 1) := fo_4 (fd_n 27 sr_X5_as_3 rfl)
theorem dX5_as_115 : decode cX5_as 115 = .ok (.goto 4, 3) := fo_167 sr_X5_as_4 (by decide +kernel)
theorem dX5_as_118 : decode cX5_as 118 = .ok (.iconst 0, 1) := fo_3 (fd_n 3 sr_X5_as_4 rfl)
theorem dX5_as_119 : decode cX5_as 119 = .ok (.istore 5, 2) := fo_54 (fd_n 4 sr_X5_as_4 rfl) rfl
theorem dX5_as_121 : decode cX5_as 121 = .ok (.iload 5, 2) := fo_21 (fd_n 6 sr_X5_as_4 rfl) rfl
theorem dX5_as_123 : decode cX5_as 123 = .ok (.ifCond .eq 7, 3) := fo_153 (fd_n 8 sr_X5_as_4 rfl) (by decide +kernel)
theorem dX5_as_126 : decode cX5_as 126 = .ok (.iload_n 3, 1) := fo_29 (fd_n 11 sr_X5_as_4 rfl)
theorem dX5_as_127 : decode cX5_as 127 = .ok (.goto 10, 3) := fo_167 (fd_n 12 sr_X5_as_4 rfl) (by decide +kernel)
theorem dX5_as_130 : decode cX5_as 130 = .ok (.aload_n 0, 1) := fo_42 (fd_n 15 sr_X5_as_4 rfl)
theorem dX5_as_131 : decode cX5_as 131 = .ok (.ldc_w 323, 3) := fo_19 (fd_n 16 sr_X5_as_4 rfl) rfl
theorem dX5_as_134 : decode cX5_as 134 = .ok (.invokevirtual 80, 3) := fo_182 (fd_n 19 sr_X5_as_4 rfl) rfl
theorem dX5_as_137 : decode cX5_as 137 = .ok (.ireturn, 1) := fo_172 (fd_n 22 sr_X5_as_4 rfl)
noncomputable def sl_X5_isOne_0 : List UInt8 := 26 :: 133 :: 9 :: 20 :: 0 :: 57 :: 184 :: 0 :: 53 :: 172 :: []
theorem sr_X5_isOne_0 : fd_at cX5_isOne 0 sl_X5_isOne_0 := fd_base (by decide +kernel)
theorem dX5_isOne_0 : decode cX5_isOne 0 = .ok (.iload_n 0, 1) := fo_26 sr_X5_isOne_0
theorem dX5_isOne_1 : decode cX5_isOne 1 = .ok (.i2l, 1) := fo_133 (fd_n 1 sr_X5_isOne_0 rfl)
theorem dX5_isOne_2 : decode cX5_isOne 2 = .ok (.lconst 0, 1) := fo_9 (fd_n 2 sr_X5_isOne_0 rfl)
theorem dX5_isOne_3 : decode cX5_isOne 3 = .ok (.ldc2_w 57, 3) := fo_20 (fd_n 3 sr_X5_isOne_0 rfl) rfl
theorem dX5_isOne_6 : decode cX5_isOne 6 = .ok (.invokestatic 53, 3) := fo_184 (fd_n 6 sr_X5_isOne_0 rfl) rfl
theorem dX5_isOne_9 : decode cX5_isOne 9 = .ok (.ireturn, 1) := fo_172 (fd_n 9 sr_X5_isOne_0 rfl)
noncomputable def sl_X5_sheet_4 : List UInt8 := 27 :: 46 :: 172 :: []
noncomputable def sl_X5_sheet_3 : List UInt8 := 21 :: 4 :: 16 :: 40 :: 162 :: 0 :: 22 :: 42 :: 180 :: 0 :: 40 :: 16 :: 40 :: 27 :: 104 :: 21 :: 4 :: 96 :: 3 :: 79 :: 132 :: 4 :: 1 :: 167 :: 255 :: 233 :: 42 :: 180 :: 0 :: 37 :: sl_X5_sheet_4
noncomputable def sl_X5_sheet_2 : List UInt8 := 182 :: 0 :: 80 :: 172 :: 42 :: 180 :: 0 :: 34 :: 27 :: 28 :: 79 :: 42 :: 180 :: 0 :: 37 :: 27 :: 28 :: 154 :: 0 :: 7 :: 3 :: 167 :: 0 :: 4 :: 29 :: 79 :: 3 :: 54 :: 4 :: sl_X5_sheet_3
noncomputable def sl_X5_sheet_1 : List UInt8 := 42 :: 18 :: 50 :: 182 :: 0 :: 80 :: 172 :: 29 :: 156 :: 0 :: 11 :: 42 :: 19 :: 1 :: 71 :: 182 :: 0 :: 80 :: 172 :: 29 :: 16 :: 40 :: 164 :: 0 :: 10 :: 42 :: 18 :: 50 :: sl_X5_sheet_2
noncomputable def sl_X5_sheet_0 : List UInt8 := 27 :: 184 :: 1 :: 68 :: 153 :: 0 :: 25 :: 28 :: 153 :: 0 :: 28 :: 28 :: 16 :: 8 :: 159 :: 0 :: 22 :: 28 :: 16 :: 16 :: 159 :: 0 :: 16 :: 28 :: 16 :: 32 :: 159 :: 0 :: 10 :: sl_X5_sheet_1
theorem sr_X5_sheet_0 : fd_at cX5_sheet 0 sl_X5_sheet_0 := fd_base (by decide +kernel)
theorem sr_X5_sheet_1 : fd_at cX5_sheet 29 sl_X5_sheet_1 := fd_n 29 sr_X5_sheet_0 rfl
theorem sr_X5_sheet_2 : fd_at cX5_sheet 57 sl_X5_sheet_2 := fd_n 28 sr_X5_sheet_1 rfl
theorem sr_X5_sheet_3 : fd_at cX5_sheet 86 sl_X5_sheet_3 := fd_n 29 sr_X5_sheet_2 rfl
theorem sr_X5_sheet_4 : fd_at cX5_sheet 116 sl_X5_sheet_4 := fd_n 30 sr_X5_sheet_3 rfl
theorem dX5_sheet_0 : decode cX5_sheet 0 = .ok (.iload_n 1, 1) := fo_27 sr_X5_sheet_0
theorem dX5_sheet_1 : decode cX5_sheet 1 = .ok (.invokestatic 324, 3) := fo_184 (fd_n 1 sr_X5_sheet_0 rfl) rfl
theorem dX5_sheet_4 : decode cX5_sheet 4 = .ok (.ifCond .eq 25, 3) := fo_153 (fd_n 4 sr_X5_sheet_0 rfl) (by decide +kernel)
theorem dX5_sheet_7 : decode cX5_sheet 7 = .ok (.iload_n 2, 1) := fo_28 (fd_n 7 sr_X5_sheet_0 rfl)
theorem dX5_sheet_8 : decode cX5_sheet 8 = .ok (.ifCond .eq 28, 3) := fo_153 (fd_n 8 sr_X5_sheet_0 rfl) (by decide +kernel)
theorem dX5_sheet_11 : decode cX5_sheet 11 = .ok (.iload_n 2, 1) := fo_28 (fd_n 11 sr_X5_sheet_0 rfl)
theorem dX5_sheet_12 : decode cX5_sheet 12 = .ok (.bipush 8, 2) := fo_16 (fd_n 12 sr_X5_sheet_0 rfl) (by decide +kernel)
theorem dX5_sheet_14 : decode cX5_sheet 14 = .ok (.if_icmp .eq 22, 3) := fo_159 (fd_n 14 sr_X5_sheet_0 rfl) (by decide +kernel)
theorem dX5_sheet_17 : decode cX5_sheet 17 = .ok (.iload_n 2, 1) := fo_28 (fd_n 17 sr_X5_sheet_0 rfl)
theorem dX5_sheet_18 : decode cX5_sheet 18 = .ok (.bipush 16, 2) := fo_16 (fd_n 18 sr_X5_sheet_0 rfl) (by decide +kernel)
theorem dX5_sheet_20 : decode cX5_sheet 20 = .ok (.if_icmp .eq 16, 3) := fo_159 (fd_n 20 sr_X5_sheet_0 rfl) (by decide +kernel)
theorem dX5_sheet_23 : decode cX5_sheet 23 = .ok (.iload_n 2, 1) := fo_28 (fd_n 23 sr_X5_sheet_0 rfl)
theorem dX5_sheet_24 : decode cX5_sheet 24 = .ok (.bipush 32, 2) := fo_16 (fd_n 24 sr_X5_sheet_0 rfl) (by decide +kernel)
theorem dX5_sheet_26 : decode cX5_sheet 26 = .ok (.if_icmp .eq 10, 3) := fo_159 (fd_n 26 sr_X5_sheet_0 rfl) (by decide +kernel)
theorem dX5_sheet_29 : decode cX5_sheet 29 = .ok (.aload_n 0, 1) := fo_42 sr_X5_sheet_1
theorem dX5_sheet_30 : decode cX5_sheet 30 = .ok (.ldc 50, 2) := fo_18 (fd_n 1 sr_X5_sheet_1 rfl) rfl
theorem dX5_sheet_32 : decode cX5_sheet 32 = .ok (.invokevirtual 80, 3) := fo_182 (fd_n 3 sr_X5_sheet_1 rfl) rfl
theorem dX5_sheet_35 : decode cX5_sheet 35 = .ok (.ireturn, 1) := fo_172 (fd_n 6 sr_X5_sheet_1 rfl)
theorem dX5_sheet_36 : decode cX5_sheet 36 = .ok (.iload_n 3, 1) := fo_29 (fd_n 7 sr_X5_sheet_1 rfl)
theorem dX5_sheet_37 : decode cX5_sheet 37 = .ok (.ifCond .ge 11, 3) := fo_156 (fd_n 8 sr_X5_sheet_1 rfl) (by decide +kernel)
theorem dX5_sheet_40 : decode cX5_sheet 40 = .ok (.aload_n 0, 1) := fo_42 (fd_n 11 sr_X5_sheet_1 rfl)
theorem dX5_sheet_41 : decode cX5_sheet 41 = .ok (.ldc_w 327, 3) := fo_19 (fd_n 12 sr_X5_sheet_1 rfl) rfl
theorem dX5_sheet_44 : decode cX5_sheet 44 = .ok (.invokevirtual 80, 3) := fo_182 (fd_n 15 sr_X5_sheet_1 rfl) rfl
theorem dX5_sheet_47 : decode cX5_sheet 47 = .ok (.ireturn, 1) := fo_172 (fd_n 18 sr_X5_sheet_1 rfl)
theorem dX5_sheet_48 : decode cX5_sheet 48 = .ok (.iload_n 3, 1) := fo_29 (fd_n 19 sr_X5_sheet_1 rfl)
theorem dX5_sheet_49 : decode cX5_sheet 49 = .ok (.bipush 40, 2) := fo_16 (fd_n 20 sr_X5_sheet_1 rfl) (by decide +kernel)
theorem dX5_sheet_51 : decode cX5_sheet 51 = .ok (.if_icmp .le 10, 3) := fo_164 (fd_n 22 sr_X5_sheet_1 rfl) (by decide +kernel)
theorem dX5_sheet_54 : decode cX5_sheet 54 = .ok (.aload_n 0, 1) := fo_42 (fd_n 25 sr_X5_sheet_1 rfl)
theorem dX5_sheet_55 : decode cX5_sheet 55 = .ok (.ldc 50, 2) := fo_18 (fd_n 26 sr_X5_sheet_1 rfl) rfl
theorem dX5_sheet_57 : decode cX5_sheet 57 = .ok (.invokevirtual 80, 3) := fo_182 sr_X5_sheet_2 rfl
theorem dX5_sheet_60 : decode cX5_sheet 60 = .ok (.ireturn, 1) := fo_172 (fd_n 3 sr_X5_sheet_2 rfl)
theorem dX5_sheet_61 : decode cX5_sheet 61 = .ok (.aload_n 0, 1) := fo_42 (fd_n 4 sr_X5_sheet_2 rfl)
theorem dX5_sheet_62 : decode cX5_sheet 62 = .ok (.getfield 34, 3) := fo_180 (fd_n 5 sr_X5_sheet_2 rfl) rfl
theorem dX5_sheet_65 : decode cX5_sheet 65 = .ok (.iload_n 1, 1) := fo_27 (fd_n 8 sr_X5_sheet_2 rfl)
theorem dX5_sheet_66 : decode cX5_sheet 66 = .ok (.iload_n 2, 1) := fo_28 (fd_n 9 sr_X5_sheet_2 rfl)
theorem dX5_sheet_67 : decode cX5_sheet 67 = .ok (.iastore, 1) := fo_79 (fd_n 10 sr_X5_sheet_2 rfl)
theorem dX5_sheet_68 : decode cX5_sheet 68 = .ok (.aload_n 0, 1) := fo_42 (fd_n 11 sr_X5_sheet_2 rfl)
theorem dX5_sheet_69 : decode cX5_sheet 69 = .ok (.getfield 37, 3) := fo_180 (fd_n 12 sr_X5_sheet_2 rfl) rfl
theorem dX5_sheet_72 : decode cX5_sheet 72 = .ok (.iload_n 1, 1) := fo_27 (fd_n 15 sr_X5_sheet_2 rfl)
theorem dX5_sheet_73 : decode cX5_sheet 73 = .ok (.iload_n 2, 1) := fo_28 (fd_n 16 sr_X5_sheet_2 rfl)
theorem dX5_sheet_74 : decode cX5_sheet 74 = .ok (.ifCond .ne 7, 3) := fo_154 (fd_n 17 sr_X5_sheet_2 rfl) (by decide +kernel)
theorem dX5_sheet_77 : decode cX5_sheet 77 = .ok (.iconst 0, 1) := fo_3 (fd_n 20 sr_X5_sheet_2 rfl)
theorem dX5_sheet_78 : decode cX5_sheet 78 = .ok (.goto 4, 3) := fo_167 (fd_n 21 sr_X5_sheet_2 rfl) (by decide +kernel)
theorem dX5_sheet_81 : decode cX5_sheet 81 = .ok (.iload_n 3, 1) := fo_29 (fd_n 24 sr_X5_sheet_2 rfl)
theorem dX5_sheet_82 : decode cX5_sheet 82 = .ok (.iastore, 1) := fo_79 (fd_n 25 sr_X5_sheet_2 rfl)
theorem dX5_sheet_83 : decode cX5_sheet 83 = .ok (.iconst 0, 1) := fo_3 (fd_n 26 sr_X5_sheet_2 rfl)
theorem dX5_sheet_84 : decode cX5_sheet 84 = .ok (.istore 4, 2) := fo_54 (fd_n 27 sr_X5_sheet_2 rfl) rfl
theorem dX5_sheet_86 : decode cX5_sheet 86 = .ok (.iload 4, 2) := fo_21 sr_X5_sheet_3 rfl
theorem dX5_sheet_88 : decode cX5_sheet 88 = .ok (.bipush 40, 2) := fo_16 (fd_n 2 sr_X5_sheet_3 rfl) (by decide +kernel)
theorem dX5_sheet_90 : decode cX5_sheet 90 = .ok (.if_icmp .ge 22, 3) := fo_162 (fd_n 4 sr_X5_sheet_3 rfl) (by decide +kernel)
theorem dX5_sheet_93 : decode cX5_sheet 93 = .ok (.aload_n 0, 1) := fo_42 (fd_n 7 sr_X5_sheet_3 rfl)
theorem dX5_sheet_94 : decode cX5_sheet 94 = .ok (.getfield 40, 3) := fo_180 (fd_n 8 sr_X5_sheet_3 rfl) rfl
theorem dX5_sheet_97 : decode cX5_sheet 97 = .ok (.bipush 40, 2) := fo_16 (fd_n 11 sr_X5_sheet_3 rfl) (by decide +kernel)
theorem dX5_sheet_99 : decode cX5_sheet 99 = .ok (.iload_n 1, 1) := fo_27 (fd_n 13 sr_X5_sheet_3 rfl)
theorem dX5_sheet_100 : decode cX5_sheet 100 = .ok (.imul, 1) := fo_104 (fd_n 14 sr_X5_sheet_3 rfl)
theorem dX5_sheet_101 : decode cX5_sheet 101 = .ok (.iload 4, 2) := fo_21 (fd_n 15 sr_X5_sheet_3 rfl) rfl
theorem dX5_sheet_103 : decode cX5_sheet 103 = .ok (.iadd, 1) := fo_96 (fd_n 17 sr_X5_sheet_3 rfl)
theorem dX5_sheet_104 : decode cX5_sheet 104 = .ok (.iconst 0, 1) := fo_3 (fd_n 18 sr_X5_sheet_3 rfl)
theorem dX5_sheet_105 : decode cX5_sheet 105 = .ok (.iastore, 1) := fo_79 (fd_n 19 sr_X5_sheet_3 rfl)
theorem dX5_sheet_106 : decode cX5_sheet 106 = .ok (.iinc 4 1, 3) := fo_132 (fd_n 20 sr_X5_sheet_3 rfl) rfl (by decide +kernel)
theorem dX5_sheet_109 : decode cX5_sheet 109 = .ok (.goto (-23), 3) := fo_167 (fd_n 23 sr_X5_sheet_3 rfl) (by decide +kernel)
theorem dX5_sheet_112 : decode cX5_sheet 112 = .ok (.aload_n 0, 1) := fo_42 (fd_n 26 sr_X5_sheet_3 rfl)
theorem dX5_sheet_113 : decode cX5_sheet 113 = .ok (.getfield 37, 3) := fo_180 (fd_n 27 sr_X5_sheet_3 rfl) rfl
theorem dX5_sheet_116 : decode cX5_sheet 116 = .ok (.iload_n 1, 1) := fo_27 sr_X5_sheet_4
theorem dX5_sheet_117 : decode cX5_sheet 117 = .ok (.iaload, 1) := fo_46 (fd_n 1 sr_X5_sheet_4 rfl)
theorem dX5_sheet_118 : decode cX5_sheet 118 = .ok (.ireturn, 1) := fo_172 (fd_n 2 sr_X5_sheet_4 rfl)
noncomputable def sl_X5_narrowed_0 : List UInt8 := 26 :: 16 :: 8 :: 160 :: 0 :: 8 :: 27 :: 145 :: 167 :: 0 :: 15 :: 26 :: 16 :: 16 :: 160 :: 0 :: 8 :: 27 :: 147 :: 167 :: 0 :: 4 :: 27 :: 172 :: []
theorem sr_X5_narrowed_0 : fd_at cX5_narrowed 0 sl_X5_narrowed_0 := fd_base (by decide +kernel)
theorem dX5_narrowed_0 : decode cX5_narrowed 0 = .ok (.iload_n 0, 1) := fo_26 sr_X5_narrowed_0
theorem dX5_narrowed_1 : decode cX5_narrowed 1 = .ok (.bipush 8, 2) := fo_16 (fd_n 1 sr_X5_narrowed_0 rfl) (by decide +kernel)
theorem dX5_narrowed_3 : decode cX5_narrowed 3 = .ok (.if_icmp .ne 8, 3) := fo_160 (fd_n 3 sr_X5_narrowed_0 rfl) (by decide +kernel)
theorem dX5_narrowed_6 : decode cX5_narrowed 6 = .ok (.iload_n 1, 1) := fo_27 (fd_n 6 sr_X5_narrowed_0 rfl)
theorem dX5_narrowed_7 : decode cX5_narrowed 7 = .ok (.i2b, 1) := fo_145 (fd_n 7 sr_X5_narrowed_0 rfl)
theorem dX5_narrowed_8 : decode cX5_narrowed 8 = .ok (.goto 15, 3) := fo_167 (fd_n 8 sr_X5_narrowed_0 rfl) (by decide +kernel)
theorem dX5_narrowed_11 : decode cX5_narrowed 11 = .ok (.iload_n 0, 1) := fo_26 (fd_n 11 sr_X5_narrowed_0 rfl)
theorem dX5_narrowed_12 : decode cX5_narrowed 12 = .ok (.bipush 16, 2) := fo_16 (fd_n 12 sr_X5_narrowed_0 rfl) (by decide +kernel)
theorem dX5_narrowed_14 : decode cX5_narrowed 14 = .ok (.if_icmp .ne 8, 3) := fo_160 (fd_n 14 sr_X5_narrowed_0 rfl) (by decide +kernel)
theorem dX5_narrowed_17 : decode cX5_narrowed 17 = .ok (.iload_n 1, 1) := fo_27 (fd_n 17 sr_X5_narrowed_0 rfl)
theorem dX5_narrowed_18 : decode cX5_narrowed 18 = .ok (.i2s, 1) := fo_147 (fd_n 18 sr_X5_narrowed_0 rfl)
theorem dX5_narrowed_19 : decode cX5_narrowed 19 = .ok (.goto 4, 3) := fo_167 (fd_n 19 sr_X5_narrowed_0 rfl) (by decide +kernel)
theorem dX5_narrowed_22 : decode cX5_narrowed 22 = .ok (.iload_n 1, 1) := fo_27 (fd_n 22 sr_X5_narrowed_0 rfl)
theorem dX5_narrowed_23 : decode cX5_narrowed 23 = .ok (.ireturn, 1) := fo_172 (fd_n 23 sr_X5_narrowed_0 rfl)
noncomputable def sl_X5_wrong_1 : List UInt8 := 172 :: []
noncomputable def sl_X5_wrong_0 : List UInt8 := 27 :: 184 :: 1 :: 68 :: 154 :: 0 :: 8 :: 18 :: 50 :: 167 :: 0 :: 19 :: 42 :: 180 :: 0 :: 34 :: 27 :: 46 :: 154 :: 0 :: 9 :: 19 :: 1 :: 66 :: 167 :: 0 :: 4 :: 3 :: sl_X5_wrong_1
theorem sr_X5_wrong_0 : fd_at cX5_wrong 0 sl_X5_wrong_0 := fd_base (by decide +kernel)
theorem sr_X5_wrong_1 : fd_at cX5_wrong 28 sl_X5_wrong_1 := fd_n 28 sr_X5_wrong_0 rfl
theorem dX5_wrong_0 : decode cX5_wrong 0 = .ok (.iload_n 1, 1) := fo_27 sr_X5_wrong_0
theorem dX5_wrong_1 : decode cX5_wrong 1 = .ok (.invokestatic 324, 3) := fo_184 (fd_n 1 sr_X5_wrong_0 rfl) rfl
theorem dX5_wrong_4 : decode cX5_wrong 4 = .ok (.ifCond .ne 8, 3) := fo_154 (fd_n 4 sr_X5_wrong_0 rfl) (by decide +kernel)
theorem dX5_wrong_7 : decode cX5_wrong 7 = .ok (.ldc 50, 2) := fo_18 (fd_n 7 sr_X5_wrong_0 rfl) rfl
theorem dX5_wrong_9 : decode cX5_wrong 9 = .ok (.goto 19, 3) := fo_167 (fd_n 9 sr_X5_wrong_0 rfl) (by decide +kernel)
theorem dX5_wrong_12 : decode cX5_wrong 12 = .ok (.aload_n 0, 1) := fo_42 (fd_n 12 sr_X5_wrong_0 rfl)
theorem dX5_wrong_13 : decode cX5_wrong 13 = .ok (.getfield 34, 3) := fo_180 (fd_n 13 sr_X5_wrong_0 rfl) rfl
theorem dX5_wrong_16 : decode cX5_wrong 16 = .ok (.iload_n 1, 1) := fo_27 (fd_n 16 sr_X5_wrong_0 rfl)
theorem dX5_wrong_17 : decode cX5_wrong 17 = .ok (.iaload, 1) := fo_46 (fd_n 17 sr_X5_wrong_0 rfl)
theorem dX5_wrong_18 : decode cX5_wrong 18 = .ok (.ifCond .ne 9, 3) := fo_154 (fd_n 18 sr_X5_wrong_0 rfl) (by decide +kernel)
theorem dX5_wrong_21 : decode cX5_wrong 21 = .ok (.ldc_w 322, 3) := fo_19 (fd_n 21 sr_X5_wrong_0 rfl) rfl
theorem dX5_wrong_24 : decode cX5_wrong 24 = .ok (.goto 4, 3) := fo_167 (fd_n 24 sr_X5_wrong_0 rfl) (by decide +kernel)
theorem dX5_wrong_27 : decode cX5_wrong 27 = .ok (.iconst 0, 1) := fo_3 (fd_n 27 sr_X5_wrong_0 rfl)
theorem dX5_wrong_28 : decode cX5_wrong 28 = .ok (.ireturn, 1) := fo_172 sr_X5_wrong_1
noncomputable def sl_X5_write_2 : List UInt8 := 27 :: 46 :: 29 :: 184 :: 1 :: 75 :: 79 :: 4 :: 172 :: []
noncomputable def sl_X5_write_1 : List UInt8 := 4 :: 100 :: 133 :: 184 :: 0 :: 53 :: 154 :: 0 :: 10 :: 42 :: 18 :: 50 :: 182 :: 0 :: 80 :: 172 :: 42 :: 180 :: 0 :: 40 :: 16 :: 40 :: 27 :: 104 :: 28 :: 96 :: 42 :: 180 :: 0 :: 34 :: sl_X5_write_2
noncomputable def sl_X5_write_0 : List UInt8 := 42 :: 27 :: 182 :: 1 :: 72 :: 54 :: 4 :: 21 :: 4 :: 153 :: 0 :: 10 :: 42 :: 21 :: 4 :: 182 :: 0 :: 80 :: 172 :: 28 :: 133 :: 9 :: 42 :: 180 :: 0 :: 37 :: 27 :: 46 :: sl_X5_write_1
theorem sr_X5_write_0 : fd_at cX5_write 0 sl_X5_write_0 := fd_base (by decide +kernel)
theorem sr_X5_write_1 : fd_at cX5_write 28 sl_X5_write_1 := fd_n 28 sr_X5_write_0 rfl
theorem sr_X5_write_2 : fd_at cX5_write 58 sl_X5_write_2 := fd_n 30 sr_X5_write_1 rfl
theorem dX5_write_0 : decode cX5_write 0 = .ok (.aload_n 0, 1) := fo_42 sr_X5_write_0
theorem dX5_write_1 : decode cX5_write 1 = .ok (.iload_n 1, 1) := fo_27 (fd_n 1 sr_X5_write_0 rfl)
theorem dX5_write_2 : decode cX5_write 2 = .ok (.invokevirtual 328, 3) := fo_182 (fd_n 2 sr_X5_write_0 rfl) rfl
theorem dX5_write_5 : decode cX5_write 5 = .ok (.istore 4, 2) := fo_54 (fd_n 5 sr_X5_write_0 rfl) rfl
theorem dX5_write_7 : decode cX5_write 7 = .ok (.iload 4, 2) := fo_21 (fd_n 7 sr_X5_write_0 rfl) rfl
theorem dX5_write_9 : decode cX5_write 9 = .ok (.ifCond .eq 10, 3) := fo_153 (fd_n 9 sr_X5_write_0 rfl) (by decide +kernel)
theorem dX5_write_12 : decode cX5_write 12 = .ok (.aload_n 0, 1) := fo_42 (fd_n 12 sr_X5_write_0 rfl)
theorem dX5_write_13 : decode cX5_write 13 = .ok (.iload 4, 2) := fo_21 (fd_n 13 sr_X5_write_0 rfl) rfl
theorem dX5_write_15 : decode cX5_write 15 = .ok (.invokevirtual 80, 3) := fo_182 (fd_n 15 sr_X5_write_0 rfl) rfl
theorem dX5_write_18 : decode cX5_write 18 = .ok (.ireturn, 1) := fo_172 (fd_n 18 sr_X5_write_0 rfl)
theorem dX5_write_19 : decode cX5_write 19 = .ok (.iload_n 2, 1) := fo_28 (fd_n 19 sr_X5_write_0 rfl)
theorem dX5_write_20 : decode cX5_write 20 = .ok (.i2l, 1) := fo_133 (fd_n 20 sr_X5_write_0 rfl)
theorem dX5_write_21 : decode cX5_write 21 = .ok (.lconst 0, 1) := fo_9 (fd_n 21 sr_X5_write_0 rfl)
theorem dX5_write_22 : decode cX5_write 22 = .ok (.aload_n 0, 1) := fo_42 (fd_n 22 sr_X5_write_0 rfl)
theorem dX5_write_23 : decode cX5_write 23 = .ok (.getfield 37, 3) := fo_180 (fd_n 23 sr_X5_write_0 rfl) rfl
theorem dX5_write_26 : decode cX5_write 26 = .ok (.iload_n 1, 1) := fo_27 (fd_n 26 sr_X5_write_0 rfl)
theorem dX5_write_27 : decode cX5_write 27 = .ok (.iaload, 1) := fo_46 (fd_n 27 sr_X5_write_0 rfl)
theorem dX5_write_28 : decode cX5_write 28 = .ok (.iconst 1, 1) := fo_4 sr_X5_write_1
theorem dX5_write_29 : decode cX5_write 29 = .ok (.isub, 1) := fo_100 (fd_n 1 sr_X5_write_1 rfl)
theorem dX5_write_30 : decode cX5_write 30 = .ok (.i2l, 1) := fo_133 (fd_n 2 sr_X5_write_1 rfl)
theorem dX5_write_31 : decode cX5_write 31 = .ok (.invokestatic 53, 3) := fo_184 (fd_n 3 sr_X5_write_1 rfl) rfl
theorem dX5_write_34 : decode cX5_write 34 = .ok (.ifCond .ne 10, 3) := fo_154 (fd_n 6 sr_X5_write_1 rfl) (by decide +kernel)
theorem dX5_write_37 : decode cX5_write 37 = .ok (.aload_n 0, 1) := fo_42 (fd_n 9 sr_X5_write_1 rfl)
theorem dX5_write_38 : decode cX5_write 38 = .ok (.ldc 50, 2) := fo_18 (fd_n 10 sr_X5_write_1 rfl) rfl
theorem dX5_write_40 : decode cX5_write 40 = .ok (.invokevirtual 80, 3) := fo_182 (fd_n 12 sr_X5_write_1 rfl) rfl
theorem dX5_write_43 : decode cX5_write 43 = .ok (.ireturn, 1) := fo_172 (fd_n 15 sr_X5_write_1 rfl)
theorem dX5_write_44 : decode cX5_write 44 = .ok (.aload_n 0, 1) := fo_42 (fd_n 16 sr_X5_write_1 rfl)
theorem dX5_write_45 : decode cX5_write 45 = .ok (.getfield 40, 3) := fo_180 (fd_n 17 sr_X5_write_1 rfl) rfl
theorem dX5_write_48 : decode cX5_write 48 = .ok (.bipush 40, 2) := fo_16 (fd_n 20 sr_X5_write_1 rfl) (by decide +kernel)
theorem dX5_write_50 : decode cX5_write 50 = .ok (.iload_n 1, 1) := fo_27 (fd_n 22 sr_X5_write_1 rfl)
theorem dX5_write_51 : decode cX5_write 51 = .ok (.imul, 1) := fo_104 (fd_n 23 sr_X5_write_1 rfl)
theorem dX5_write_52 : decode cX5_write 52 = .ok (.iload_n 2, 1) := fo_28 (fd_n 24 sr_X5_write_1 rfl)
theorem dX5_write_53 : decode cX5_write 53 = .ok (.iadd, 1) := fo_96 (fd_n 25 sr_X5_write_1 rfl)
theorem dX5_write_54 : decode cX5_write 54 = .ok (.aload_n 0, 1) := fo_42 (fd_n 26 sr_X5_write_1 rfl)
theorem dX5_write_55 : decode cX5_write 55 = .ok (.getfield 34, 3) := fo_180 (fd_n 27 sr_X5_write_1 rfl) rfl
theorem dX5_write_58 : decode cX5_write 58 = .ok (.iload_n 1, 1) := fo_27 sr_X5_write_2
theorem dX5_write_59 : decode cX5_write 59 = .ok (.iaload, 1) := fo_46 (fd_n 1 sr_X5_write_2 rfl)
theorem dX5_write_60 : decode cX5_write 60 = .ok (.iload_n 3, 1) := fo_29 (fd_n 2 sr_X5_write_2 rfl)
theorem dX5_write_61 : decode cX5_write 61 = .ok (.invokestatic 331, 3) := fo_184 (fd_n 3 sr_X5_write_2 rfl) rfl
theorem dX5_write_64 : decode cX5_write 64 = .ok (.iastore, 1) := fo_79 (fd_n 6 sr_X5_write_2 rfl)
theorem dX5_write_65 : decode cX5_write 65 = .ok (.iconst 1, 1) := fo_4 (fd_n 7 sr_X5_write_2 rfl)
theorem dX5_write_66 : decode cX5_write 66 = .ok (.ireturn, 1) := fo_172 (fd_n 8 sr_X5_write_2 rfl)
noncomputable def sl_X5_copy_6 : List UInt8 := 29 :: 104 :: 21 :: 4 :: 96 :: 21 :: 6 :: 96 :: 42 :: 180 :: 0 :: 43 :: 21 :: 6 :: 46 :: 79 :: 132 :: 6 :: 1 :: 167 :: 255 :: 224 :: 21 :: 5 :: 172 :: []
noncomputable def sl_X5_copy_5 : List UInt8 := 28 :: 96 :: 21 :: 6 :: 96 :: 46 :: 79 :: 132 :: 6 :: 1 :: 167 :: 255 :: 225 :: 3 :: 54 :: 6 :: 21 :: 6 :: 21 :: 5 :: 162 :: 0 :: 31 :: 42 :: 180 :: 0 :: 40 :: 16 :: 40 :: sl_X5_copy_6
noncomputable def sl_X5_copy_4 : List UInt8 := 182 :: 0 :: 80 :: 172 :: 3 :: 54 :: 6 :: 21 :: 6 :: 21 :: 5 :: 162 :: 0 :: 30 :: 42 :: 180 :: 0 :: 43 :: 21 :: 6 :: 42 :: 180 :: 0 :: 40 :: 16 :: 40 :: 27 :: 104 :: sl_X5_copy_5
noncomputable def sl_X5_copy_3 : List UInt8 := 42 :: 180 :: 0 :: 37 :: 27 :: 46 :: 28 :: 100 :: 163 :: 0 :: 17 :: 21 :: 5 :: 42 :: 180 :: 0 :: 37 :: 29 :: 46 :: 21 :: 4 :: 100 :: 164 :: 0 :: 10 :: 42 :: 18 :: 50 :: sl_X5_copy_4
noncomputable def sl_X5_copy_2 : List UInt8 := 46 :: 159 :: 0 :: 11 :: 42 :: 19 :: 1 :: 67 :: 182 :: 0 :: 80 :: 172 :: 28 :: 155 :: 0 :: 40 :: 21 :: 4 :: 155 :: 0 :: 35 :: 21 :: 5 :: 155 :: 0 :: 30 :: 21 :: 5 :: sl_X5_copy_3
noncomputable def sl_X5_copy_1 : List UInt8 := 42 :: 180 :: 0 :: 34 :: 29 :: 46 :: 154 :: 0 :: 11 :: 42 :: 19 :: 1 :: 66 :: 182 :: 0 :: 80 :: 172 :: 42 :: 180 :: 0 :: 34 :: 27 :: 46 :: 42 :: 180 :: 0 :: 34 :: 29 :: sl_X5_copy_2
noncomputable def sl_X5_copy_0 : List UInt8 := 27 :: 184 :: 1 :: 68 :: 153 :: 0 :: 10 :: 29 :: 184 :: 1 :: 68 :: 154 :: 0 :: 10 :: 42 :: 18 :: 50 :: 182 :: 0 :: 80 :: 172 :: 42 :: 180 :: 0 :: 34 :: 27 :: 46 :: 153 :: 0 :: 12 :: sl_X5_copy_1
theorem sr_X5_copy_0 : fd_at cX5_copy 0 sl_X5_copy_0 := fd_base (by decide +kernel)
theorem sr_X5_copy_1 : fd_at cX5_copy 30 sl_X5_copy_1 := fd_n 30 sr_X5_copy_0 rfl
theorem sr_X5_copy_2 : fd_at cX5_copy 58 sl_X5_copy_2 := fd_n 28 sr_X5_copy_1 rfl
theorem sr_X5_copy_3 : fd_at cX5_copy 86 sl_X5_copy_3 := fd_n 28 sr_X5_copy_2 rfl
theorem sr_X5_copy_4 : fd_at cX5_copy 114 sl_X5_copy_4 := fd_n 28 sr_X5_copy_3 rfl
theorem sr_X5_copy_5 : fd_at cX5_copy 142 sl_X5_copy_5 := fd_n 28 sr_X5_copy_4 rfl
theorem sr_X5_copy_6 : fd_at cX5_copy 171 sl_X5_copy_6 := fd_n 29 sr_X5_copy_5 rfl
theorem dX5_copy_0 : decode cX5_copy 0 = .ok (.iload_n 1, 1) := fo_27 sr_X5_copy_0
theorem dX5_copy_1 : decode cX5_copy 1 = .ok (.invokestatic 324, 3) := fo_184 (fd_n 1 sr_X5_copy_0 rfl) rfl
theorem dX5_copy_4 : decode cX5_copy 4 = .ok (.ifCond .eq 10, 3) := fo_153 (fd_n 4 sr_X5_copy_0 rfl) (by decide +kernel)
theorem dX5_copy_7 : decode cX5_copy 7 = .ok (.iload_n 3, 1) := fo_29 (fd_n 7 sr_X5_copy_0 rfl)
theorem dX5_copy_8 : decode cX5_copy 8 = .ok (.invokestatic 324, 3) := fo_184 (fd_n 8 sr_X5_copy_0 rfl) rfl
theorem dX5_copy_11 : decode cX5_copy 11 = .ok (.ifCond .ne 10, 3) := fo_154 (fd_n 11 sr_X5_copy_0 rfl) (by decide +kernel)
theorem dX5_copy_14 : decode cX5_copy 14 = .ok (.aload_n 0, 1) := fo_42 (fd_n 14 sr_X5_copy_0 rfl)
theorem dX5_copy_15 : decode cX5_copy 15 = .ok (.ldc 50, 2) := fo_18 (fd_n 15 sr_X5_copy_0 rfl) rfl
theorem dX5_copy_17 : decode cX5_copy 17 = .ok (.invokevirtual 80, 3) := fo_182 (fd_n 17 sr_X5_copy_0 rfl) rfl
theorem dX5_copy_20 : decode cX5_copy 20 = .ok (.ireturn, 1) := fo_172 (fd_n 20 sr_X5_copy_0 rfl)
theorem dX5_copy_21 : decode cX5_copy 21 = .ok (.aload_n 0, 1) := fo_42 (fd_n 21 sr_X5_copy_0 rfl)
theorem dX5_copy_22 : decode cX5_copy 22 = .ok (.getfield 34, 3) := fo_180 (fd_n 22 sr_X5_copy_0 rfl) rfl
theorem dX5_copy_25 : decode cX5_copy 25 = .ok (.iload_n 1, 1) := fo_27 (fd_n 25 sr_X5_copy_0 rfl)
theorem dX5_copy_26 : decode cX5_copy 26 = .ok (.iaload, 1) := fo_46 (fd_n 26 sr_X5_copy_0 rfl)
theorem dX5_copy_27 : decode cX5_copy 27 = .ok (.ifCond .eq 12, 3) := fo_153 (fd_n 27 sr_X5_copy_0 rfl) (by decide +kernel)
theorem dX5_copy_30 : decode cX5_copy 30 = .ok (.aload_n 0, 1) := fo_42 sr_X5_copy_1
theorem dX5_copy_31 : decode cX5_copy 31 = .ok (.getfield 34, 3) := fo_180 (fd_n 1 sr_X5_copy_1 rfl) rfl
theorem dX5_copy_34 : decode cX5_copy 34 = .ok (.iload_n 3, 1) := fo_29 (fd_n 4 sr_X5_copy_1 rfl)
theorem dX5_copy_35 : decode cX5_copy 35 = .ok (.iaload, 1) := fo_46 (fd_n 5 sr_X5_copy_1 rfl)
theorem dX5_copy_36 : decode cX5_copy 36 = .ok (.ifCond .ne 11, 3) := fo_154 (fd_n 6 sr_X5_copy_1 rfl) (by decide +kernel)
theorem dX5_copy_39 : decode cX5_copy 39 = .ok (.aload_n 0, 1) := fo_42 (fd_n 9 sr_X5_copy_1 rfl)
theorem dX5_copy_40 : decode cX5_copy 40 = .ok (.ldc_w 322, 3) := fo_19 (fd_n 10 sr_X5_copy_1 rfl) rfl
theorem dX5_copy_43 : decode cX5_copy 43 = .ok (.invokevirtual 80, 3) := fo_182 (fd_n 13 sr_X5_copy_1 rfl) rfl
theorem dX5_copy_46 : decode cX5_copy 46 = .ok (.ireturn, 1) := fo_172 (fd_n 16 sr_X5_copy_1 rfl)
theorem dX5_copy_47 : decode cX5_copy 47 = .ok (.aload_n 0, 1) := fo_42 (fd_n 17 sr_X5_copy_1 rfl)
theorem dX5_copy_48 : decode cX5_copy 48 = .ok (.getfield 34, 3) := fo_180 (fd_n 18 sr_X5_copy_1 rfl) rfl
theorem dX5_copy_51 : decode cX5_copy 51 = .ok (.iload_n 1, 1) := fo_27 (fd_n 21 sr_X5_copy_1 rfl)
theorem dX5_copy_52 : decode cX5_copy 52 = .ok (.iaload, 1) := fo_46 (fd_n 22 sr_X5_copy_1 rfl)
theorem dX5_copy_53 : decode cX5_copy 53 = .ok (.aload_n 0, 1) := fo_42 (fd_n 23 sr_X5_copy_1 rfl)
theorem dX5_copy_54 : decode cX5_copy 54 = .ok (.getfield 34, 3) := fo_180 (fd_n 24 sr_X5_copy_1 rfl) rfl
theorem dX5_copy_57 : decode cX5_copy 57 = .ok (.iload_n 3, 1) := fo_29 (fd_n 27 sr_X5_copy_1 rfl)
theorem dX5_copy_58 : decode cX5_copy 58 = .ok (.iaload, 1) := fo_46 sr_X5_copy_2
theorem dX5_copy_59 : decode cX5_copy 59 = .ok (.if_icmp .eq 11, 3) := fo_159 (fd_n 1 sr_X5_copy_2 rfl) (by decide +kernel)
theorem dX5_copy_62 : decode cX5_copy 62 = .ok (.aload_n 0, 1) := fo_42 (fd_n 4 sr_X5_copy_2 rfl)
theorem dX5_copy_63 : decode cX5_copy 63 = .ok (.ldc_w 323, 3) := fo_19 (fd_n 5 sr_X5_copy_2 rfl) rfl
theorem dX5_copy_66 : decode cX5_copy 66 = .ok (.invokevirtual 80, 3) := fo_182 (fd_n 8 sr_X5_copy_2 rfl) rfl
theorem dX5_copy_69 : decode cX5_copy 69 = .ok (.ireturn, 1) := fo_172 (fd_n 11 sr_X5_copy_2 rfl)
theorem dX5_copy_70 : decode cX5_copy 70 = .ok (.iload_n 2, 1) := fo_28 (fd_n 12 sr_X5_copy_2 rfl)
theorem dX5_copy_71 : decode cX5_copy 71 = .ok (.ifCond .lt 40, 3) := fo_155 (fd_n 13 sr_X5_copy_2 rfl) (by decide +kernel)
theorem dX5_copy_74 : decode cX5_copy 74 = .ok (.iload 4, 2) := fo_21 (fd_n 16 sr_X5_copy_2 rfl) rfl
theorem dX5_copy_76 : decode cX5_copy 76 = .ok (.ifCond .lt 35, 3) := fo_155 (fd_n 18 sr_X5_copy_2 rfl) (by decide +kernel)
theorem dX5_copy_79 : decode cX5_copy 79 = .ok (.iload 5, 2) := fo_21 (fd_n 21 sr_X5_copy_2 rfl) rfl
theorem dX5_copy_81 : decode cX5_copy 81 = .ok (.ifCond .lt 30, 3) := fo_155 (fd_n 23 sr_X5_copy_2 rfl) (by decide +kernel)
theorem dX5_copy_84 : decode cX5_copy 84 = .ok (.iload 5, 2) := fo_21 (fd_n 26 sr_X5_copy_2 rfl) rfl
theorem dX5_copy_86 : decode cX5_copy 86 = .ok (.aload_n 0, 1) := fo_42 sr_X5_copy_3
theorem dX5_copy_87 : decode cX5_copy 87 = .ok (.getfield 37, 3) := fo_180 (fd_n 1 sr_X5_copy_3 rfl) rfl
theorem dX5_copy_90 : decode cX5_copy 90 = .ok (.iload_n 1, 1) := fo_27 (fd_n 4 sr_X5_copy_3 rfl)
theorem dX5_copy_91 : decode cX5_copy 91 = .ok (.iaload, 1) := fo_46 (fd_n 5 sr_X5_copy_3 rfl)
theorem dX5_copy_92 : decode cX5_copy 92 = .ok (.iload_n 2, 1) := fo_28 (fd_n 6 sr_X5_copy_3 rfl)
theorem dX5_copy_93 : decode cX5_copy 93 = .ok (.isub, 1) := fo_100 (fd_n 7 sr_X5_copy_3 rfl)
theorem dX5_copy_94 : decode cX5_copy 94 = .ok (.if_icmp .gt 17, 3) := fo_163 (fd_n 8 sr_X5_copy_3 rfl) (by decide +kernel)
theorem dX5_copy_97 : decode cX5_copy 97 = .ok (.iload 5, 2) := fo_21 (fd_n 11 sr_X5_copy_3 rfl) rfl
theorem dX5_copy_99 : decode cX5_copy 99 = .ok (.aload_n 0, 1) := fo_42 (fd_n 13 sr_X5_copy_3 rfl)
theorem dX5_copy_100 : decode cX5_copy 100 = .ok (.getfield 37, 3) := fo_180 (fd_n 14 sr_X5_copy_3 rfl) rfl
theorem dX5_copy_103 : decode cX5_copy 103 = .ok (.iload_n 3, 1) := fo_29 (fd_n 17 sr_X5_copy_3 rfl)
theorem dX5_copy_104 : decode cX5_copy 104 = .ok (.iaload, 1) := fo_46 (fd_n 18 sr_X5_copy_3 rfl)
theorem dX5_copy_105 : decode cX5_copy 105 = .ok (.iload 4, 2) := fo_21 (fd_n 19 sr_X5_copy_3 rfl) rfl
theorem dX5_copy_107 : decode cX5_copy 107 = .ok (.isub, 1) := fo_100 (fd_n 21 sr_X5_copy_3 rfl)
theorem dX5_copy_108 : decode cX5_copy 108 = .ok (.if_icmp .le 10, 3) := fo_164 (fd_n 22 sr_X5_copy_3 rfl) (by decide +kernel)
theorem dX5_copy_111 : decode cX5_copy 111 = .ok (.aload_n 0, 1) := fo_42 (fd_n 25 sr_X5_copy_3 rfl)
theorem dX5_copy_112 : decode cX5_copy 112 = .ok (.ldc 50, 2) := fo_18 (fd_n 26 sr_X5_copy_3 rfl) rfl
theorem dX5_copy_114 : decode cX5_copy 114 = .ok (.invokevirtual 80, 3) := fo_182 sr_X5_copy_4 rfl
theorem dX5_copy_117 : decode cX5_copy 117 = .ok (.ireturn, 1) := fo_172 (fd_n 3 sr_X5_copy_4 rfl)
theorem dX5_copy_118 : decode cX5_copy 118 = .ok (.iconst 0, 1) := fo_3 (fd_n 4 sr_X5_copy_4 rfl)
theorem dX5_copy_119 : decode cX5_copy 119 = .ok (.istore 6, 2) := fo_54 (fd_n 5 sr_X5_copy_4 rfl) rfl
theorem dX5_copy_121 : decode cX5_copy 121 = .ok (.iload 6, 2) := fo_21 (fd_n 7 sr_X5_copy_4 rfl) rfl
theorem dX5_copy_123 : decode cX5_copy 123 = .ok (.iload 5, 2) := fo_21 (fd_n 9 sr_X5_copy_4 rfl) rfl
theorem dX5_copy_125 : decode cX5_copy 125 = .ok (.if_icmp .ge 30, 3) := fo_162 (fd_n 11 sr_X5_copy_4 rfl) (by decide +kernel)
theorem dX5_copy_128 : decode cX5_copy 128 = .ok (.aload_n 0, 1) := fo_42 (fd_n 14 sr_X5_copy_4 rfl)
theorem dX5_copy_129 : decode cX5_copy 129 = .ok (.getfield 43, 3) := fo_180 (fd_n 15 sr_X5_copy_4 rfl) rfl
theorem dX5_copy_132 : decode cX5_copy 132 = .ok (.iload 6, 2) := fo_21 (fd_n 18 sr_X5_copy_4 rfl) rfl
theorem dX5_copy_134 : decode cX5_copy 134 = .ok (.aload_n 0, 1) := fo_42 (fd_n 20 sr_X5_copy_4 rfl)
theorem dX5_copy_135 : decode cX5_copy 135 = .ok (.getfield 40, 3) := fo_180 (fd_n 21 sr_X5_copy_4 rfl) rfl
theorem dX5_copy_138 : decode cX5_copy 138 = .ok (.bipush 40, 2) := fo_16 (fd_n 24 sr_X5_copy_4 rfl) (by decide +kernel)
theorem dX5_copy_140 : decode cX5_copy 140 = .ok (.iload_n 1, 1) := fo_27 (fd_n 26 sr_X5_copy_4 rfl)
theorem dX5_copy_141 : decode cX5_copy 141 = .ok (.imul, 1) := fo_104 (fd_n 27 sr_X5_copy_4 rfl)
theorem dX5_copy_142 : decode cX5_copy 142 = .ok (.iload_n 2, 1) := fo_28 sr_X5_copy_5
theorem dX5_copy_143 : decode cX5_copy 143 = .ok (.iadd, 1) := fo_96 (fd_n 1 sr_X5_copy_5 rfl)
theorem dX5_copy_144 : decode cX5_copy 144 = .ok (.iload 6, 2) := fo_21 (fd_n 2 sr_X5_copy_5 rfl) rfl
theorem dX5_copy_146 : decode cX5_copy 146 = .ok (.iadd, 1) := fo_96 (fd_n 4 sr_X5_copy_5 rfl)
theorem dX5_copy_147 : decode cX5_copy 147 = .ok (.iaload, 1) := fo_46 (fd_n 5 sr_X5_copy_5 rfl)
theorem dX5_copy_148 : decode cX5_copy 148 = .ok (.iastore, 1) := fo_79 (fd_n 6 sr_X5_copy_5 rfl)
theorem dX5_copy_149 : decode cX5_copy 149 = .ok (.iinc 6 1, 3) := fo_132 (fd_n 7 sr_X5_copy_5 rfl) rfl (by decide +kernel)
theorem dX5_copy_152 : decode cX5_copy 152 = .ok (.goto (-31), 3) := fo_167 (fd_n 10 sr_X5_copy_5 rfl) (by decide +kernel)
theorem dX5_copy_155 : decode cX5_copy 155 = .ok (.iconst 0, 1) := fo_3 (fd_n 13 sr_X5_copy_5 rfl)
theorem dX5_copy_156 : decode cX5_copy 156 = .ok (.istore 6, 2) := fo_54 (fd_n 14 sr_X5_copy_5 rfl) rfl
theorem dX5_copy_158 : decode cX5_copy 158 = .ok (.iload 6, 2) := fo_21 (fd_n 16 sr_X5_copy_5 rfl) rfl
theorem dX5_copy_160 : decode cX5_copy 160 = .ok (.iload 5, 2) := fo_21 (fd_n 18 sr_X5_copy_5 rfl) rfl
theorem dX5_copy_162 : decode cX5_copy 162 = .ok (.if_icmp .ge 31, 3) := fo_162 (fd_n 20 sr_X5_copy_5 rfl) (by decide +kernel)
theorem dX5_copy_165 : decode cX5_copy 165 = .ok (.aload_n 0, 1) := fo_42 (fd_n 23 sr_X5_copy_5 rfl)
theorem dX5_copy_166 : decode cX5_copy 166 = .ok (.getfield 40, 3) := fo_180 (fd_n 24 sr_X5_copy_5 rfl) rfl
theorem dX5_copy_169 : decode cX5_copy 169 = .ok (.bipush 40, 2) := fo_16 (fd_n 27 sr_X5_copy_5 rfl) (by decide +kernel)
theorem dX5_copy_171 : decode cX5_copy 171 = .ok (.iload_n 3, 1) := fo_29 sr_X5_copy_6
theorem dX5_copy_172 : decode cX5_copy 172 = .ok (.imul, 1) := fo_104 (fd_n 1 sr_X5_copy_6 rfl)
theorem dX5_copy_173 : decode cX5_copy 173 = .ok (.iload 4, 2) := fo_21 (fd_n 2 sr_X5_copy_6 rfl) rfl
theorem dX5_copy_175 : decode cX5_copy 175 = .ok (.iadd, 1) := fo_96 (fd_n 4 sr_X5_copy_6 rfl)
theorem dX5_copy_176 : decode cX5_copy 176 = .ok (.iload 6, 2) := fo_21 (fd_n 5 sr_X5_copy_6 rfl) rfl
theorem dX5_copy_178 : decode cX5_copy 178 = .ok (.iadd, 1) := fo_96 (fd_n 7 sr_X5_copy_6 rfl)
theorem dX5_copy_179 : decode cX5_copy 179 = .ok (.aload_n 0, 1) := fo_42 (fd_n 8 sr_X5_copy_6 rfl)
theorem dX5_copy_180 : decode cX5_copy 180 = .ok (.getfield 43, 3) := fo_180 (fd_n 9 sr_X5_copy_6 rfl) rfl
theorem dX5_copy_183 : decode cX5_copy 183 = .ok (.iload 6, 2) := fo_21 (fd_n 12 sr_X5_copy_6 rfl) rfl
theorem dX5_copy_185 : decode cX5_copy 185 = .ok (.iaload, 1) := fo_46 (fd_n 14 sr_X5_copy_6 rfl)
theorem dX5_copy_186 : decode cX5_copy 186 = .ok (.iastore, 1) := fo_79 (fd_n 15 sr_X5_copy_6 rfl)
theorem dX5_copy_187 : decode cX5_copy 187 = .ok (.iinc 6 1, 3) := fo_132 (fd_n 16 sr_X5_copy_6 rfl) rfl (by decide +kernel)
theorem dX5_copy_190 : decode cX5_copy 190 = .ok (.goto (-32), 3) := fo_167 (fd_n 19 sr_X5_copy_6 rfl) (by decide +kernel)
theorem dX5_copy_193 : decode cX5_copy 193 = .ok (.iload 5, 2) := fo_21 (fd_n 22 sr_X5_copy_6 rfl) rfl
theorem dX5_copy_195 : decode cX5_copy 195 = .ok (.ireturn, 1) := fo_172 (fd_n 24 sr_X5_copy_6 rfl)
noncomputable def sl_X5_load_4 : List UInt8 := 132 :: 5 :: 1 :: 167 :: 255 :: 176 :: 21 :: 4 :: 172 :: []
noncomputable def sl_X5_load_3 : List UInt8 := 42 :: 180 :: 0 :: 7 :: 28 :: 21 :: 5 :: 96 :: 5 :: 184 :: 0 :: 46 :: 42 :: 180 :: 0 :: 40 :: 16 :: 40 :: 27 :: 104 :: 21 :: 5 :: 96 :: 46 :: 79 :: 132 :: 4 :: 1 :: sl_X5_load_4
noncomputable def sl_X5_load_2 : List UInt8 := 180 :: 0 :: 40 :: 16 :: 40 :: 27 :: 104 :: 21 :: 5 :: 96 :: 46 :: 184 :: 0 :: 77 :: 153 :: 0 :: 48 :: 42 :: 28 :: 21 :: 5 :: 96 :: 182 :: 0 :: 65 :: 153 :: 0 :: 31 :: sl_X5_load_3
noncomputable def sl_X5_load_1 : List UInt8 := 172 :: 3 :: 54 :: 4 :: 3 :: 54 :: 5 :: 21 :: 5 :: 42 :: 180 :: 0 :: 37 :: 27 :: 46 :: 162 :: 0 :: 75 :: 28 :: 21 :: 5 :: 96 :: 16 :: 25 :: 162 :: 0 :: 66 :: 42 :: sl_X5_load_2
noncomputable def sl_X5_load_0 : List UInt8 := 42 :: 27 :: 182 :: 1 :: 72 :: 62 :: 29 :: 153 :: 0 :: 9 :: 42 :: 29 :: 182 :: 0 :: 80 :: 172 :: 28 :: 184 :: 0 :: 71 :: 154 :: 0 :: 10 :: 42 :: 18 :: 50 :: 182 :: 0 :: 80 :: sl_X5_load_1
theorem sr_X5_load_0 : fd_at cX5_load 0 sl_X5_load_0 := fd_base (by decide +kernel)
theorem sr_X5_load_1 : fd_at cX5_load 29 sl_X5_load_1 := fd_n 29 sr_X5_load_0 rfl
theorem sr_X5_load_2 : fd_at cX5_load 57 sl_X5_load_2 := fd_n 28 sr_X5_load_1 rfl
theorem sr_X5_load_3 : fd_at cX5_load 85 sl_X5_load_3 := fd_n 28 sr_X5_load_2 rfl
theorem sr_X5_load_4 : fd_at cX5_load 113 sl_X5_load_4 := fd_n 28 sr_X5_load_3 rfl
theorem dX5_load_0 : decode cX5_load 0 = .ok (.aload_n 0, 1) := fo_42 sr_X5_load_0
theorem dX5_load_1 : decode cX5_load 1 = .ok (.iload_n 1, 1) := fo_27 (fd_n 1 sr_X5_load_0 rfl)
theorem dX5_load_2 : decode cX5_load 2 = .ok (.invokevirtual 328, 3) := fo_182 (fd_n 2 sr_X5_load_0 rfl) rfl
theorem dX5_load_5 : decode cX5_load 5 = .ok (.istore_n 3, 1) := fo_62 (fd_n 5 sr_X5_load_0 rfl)
theorem dX5_load_6 : decode cX5_load 6 = .ok (.iload_n 3, 1) := fo_29 (fd_n 6 sr_X5_load_0 rfl)
theorem dX5_load_7 : decode cX5_load 7 = .ok (.ifCond .eq 9, 3) := fo_153 (fd_n 7 sr_X5_load_0 rfl) (by decide +kernel)
theorem dX5_load_10 : decode cX5_load 10 = .ok (.aload_n 0, 1) := fo_42 (fd_n 10 sr_X5_load_0 rfl)
theorem dX5_load_11 : decode cX5_load 11 = .ok (.iload_n 3, 1) := fo_29 (fd_n 11 sr_X5_load_0 rfl)
theorem dX5_load_12 : decode cX5_load 12 = .ok (.invokevirtual 80, 3) := fo_182 (fd_n 12 sr_X5_load_0 rfl) rfl
theorem dX5_load_15 : decode cX5_load 15 = .ok (.ireturn, 1) := fo_172 (fd_n 15 sr_X5_load_0 rfl)
theorem dX5_load_16 : decode cX5_load 16 = .ok (.iload_n 2, 1) := fo_28 (fd_n 16 sr_X5_load_0 rfl)
theorem dX5_load_17 : decode cX5_load 17 = .ok (.invokestatic 71, 3) := fo_184 (fd_n 17 sr_X5_load_0 rfl) rfl
theorem dX5_load_20 : decode cX5_load 20 = .ok (.ifCond .ne 10, 3) := fo_154 (fd_n 20 sr_X5_load_0 rfl) (by decide +kernel)
theorem dX5_load_23 : decode cX5_load 23 = .ok (.aload_n 0, 1) := fo_42 (fd_n 23 sr_X5_load_0 rfl)
theorem dX5_load_24 : decode cX5_load 24 = .ok (.ldc 50, 2) := fo_18 (fd_n 24 sr_X5_load_0 rfl) rfl
theorem dX5_load_26 : decode cX5_load 26 = .ok (.invokevirtual 80, 3) := fo_182 (fd_n 26 sr_X5_load_0 rfl) rfl
theorem dX5_load_29 : decode cX5_load 29 = .ok (.ireturn, 1) := fo_172 sr_X5_load_1
theorem dX5_load_30 : decode cX5_load 30 = .ok (.iconst 0, 1) := fo_3 (fd_n 1 sr_X5_load_1 rfl)
theorem dX5_load_31 : decode cX5_load 31 = .ok (.istore 4, 2) := fo_54 (fd_n 2 sr_X5_load_1 rfl) rfl
theorem dX5_load_33 : decode cX5_load 33 = .ok (.iconst 0, 1) := fo_3 (fd_n 4 sr_X5_load_1 rfl)
theorem dX5_load_34 : decode cX5_load 34 = .ok (.istore 5, 2) := fo_54 (fd_n 5 sr_X5_load_1 rfl) rfl
theorem dX5_load_36 : decode cX5_load 36 = .ok (.iload 5, 2) := fo_21 (fd_n 7 sr_X5_load_1 rfl) rfl
theorem dX5_load_38 : decode cX5_load 38 = .ok (.aload_n 0, 1) := fo_42 (fd_n 9 sr_X5_load_1 rfl)
theorem dX5_load_39 : decode cX5_load 39 = .ok (.getfield 37, 3) := fo_180 (fd_n 10 sr_X5_load_1 rfl) rfl
theorem dX5_load_42 : decode cX5_load 42 = .ok (.iload_n 1, 1) := fo_27 (fd_n 13 sr_X5_load_1 rfl)
theorem dX5_load_43 : decode cX5_load 43 = .ok (.iaload, 1) := fo_46 (fd_n 14 sr_X5_load_1 rfl)
theorem dX5_load_44 : decode cX5_load 44 = .ok (.if_icmp .ge 75, 3) := fo_162 (fd_n 15 sr_X5_load_1 rfl) (by decide +kernel)
theorem dX5_load_47 : decode cX5_load 47 = .ok (.iload_n 2, 1) := fo_28 (fd_n 18 sr_X5_load_1 rfl)
theorem dX5_load_48 : decode cX5_load 48 = .ok (.iload 5, 2) := fo_21 (fd_n 19 sr_X5_load_1 rfl) rfl
theorem dX5_load_50 : decode cX5_load 50 = .ok (.iadd, 1) := fo_96 (fd_n 21 sr_X5_load_1 rfl)
theorem dX5_load_51 : decode cX5_load 51 = .ok (.bipush 25, 2) := fo_16 (fd_n 22 sr_X5_load_1 rfl) (by decide +kernel)
theorem dX5_load_53 : decode cX5_load 53 = .ok (.if_icmp .ge 66, 3) := fo_162 (fd_n 24 sr_X5_load_1 rfl) (by decide +kernel)
theorem dX5_load_56 : decode cX5_load 56 = .ok (.aload_n 0, 1) := fo_42 (fd_n 27 sr_X5_load_1 rfl)
theorem dX5_load_57 : decode cX5_load 57 = .ok (.getfield 40, 3) := fo_180 sr_X5_load_2 rfl
theorem dX5_load_60 : decode cX5_load 60 = .ok (.bipush 40, 2) := fo_16 (fd_n 3 sr_X5_load_2 rfl) (by decide +kernel)
theorem dX5_load_62 : decode cX5_load 62 = .ok (.iload_n 1, 1) := fo_27 (fd_n 5 sr_X5_load_2 rfl)
theorem dX5_load_63 : decode cX5_load 63 = .ok (.imul, 1) := fo_104 (fd_n 6 sr_X5_load_2 rfl)
theorem dX5_load_64 : decode cX5_load 64 = .ok (.iload 5, 2) := fo_21 (fd_n 7 sr_X5_load_2 rfl) rfl
theorem dX5_load_66 : decode cX5_load 66 = .ok (.iadd, 1) := fo_96 (fd_n 9 sr_X5_load_2 rfl)
theorem dX5_load_67 : decode cX5_load 67 = .ok (.iaload, 1) := fo_46 (fd_n 10 sr_X5_load_2 rfl)
theorem dX5_load_68 : decode cX5_load 68 = .ok (.invokestatic 77, 3) := fo_184 (fd_n 11 sr_X5_load_2 rfl) rfl
theorem dX5_load_71 : decode cX5_load 71 = .ok (.ifCond .eq 48, 3) := fo_153 (fd_n 14 sr_X5_load_2 rfl) (by decide +kernel)
theorem dX5_load_74 : decode cX5_load 74 = .ok (.aload_n 0, 1) := fo_42 (fd_n 17 sr_X5_load_2 rfl)
theorem dX5_load_75 : decode cX5_load 75 = .ok (.iload_n 2, 1) := fo_28 (fd_n 18 sr_X5_load_2 rfl)
theorem dX5_load_76 : decode cX5_load 76 = .ok (.iload 5, 2) := fo_21 (fd_n 19 sr_X5_load_2 rfl) rfl
theorem dX5_load_78 : decode cX5_load 78 = .ok (.iadd, 1) := fo_96 (fd_n 21 sr_X5_load_2 rfl)
theorem dX5_load_79 : decode cX5_load 79 = .ok (.invokevirtual 65, 3) := fo_182 (fd_n 22 sr_X5_load_2 rfl) rfl
theorem dX5_load_82 : decode cX5_load 82 = .ok (.ifCond .eq 31, 3) := fo_153 (fd_n 25 sr_X5_load_2 rfl) (by decide +kernel)
theorem dX5_load_85 : decode cX5_load 85 = .ok (.aload_n 0, 1) := fo_42 sr_X5_load_3
theorem dX5_load_86 : decode cX5_load 86 = .ok (.getfield 7, 3) := fo_180 (fd_n 1 sr_X5_load_3 rfl) rfl
theorem dX5_load_89 : decode cX5_load 89 = .ok (.iload_n 2, 1) := fo_28 (fd_n 4 sr_X5_load_3 rfl)
theorem dX5_load_90 : decode cX5_load 90 = .ok (.iload 5, 2) := fo_21 (fd_n 5 sr_X5_load_3 rfl) rfl
theorem dX5_load_92 : decode cX5_load 92 = .ok (.iadd, 1) := fo_96 (fd_n 7 sr_X5_load_3 rfl)
theorem dX5_load_93 : decode cX5_load 93 = .ok (.iconst 2, 1) := fo_5 (fd_n 8 sr_X5_load_3 rfl)
theorem dX5_load_94 : decode cX5_load 94 = .ok (.invokestatic 46, 3) := fo_184 (fd_n 9 sr_X5_load_3 rfl) rfl
theorem dX5_load_97 : decode cX5_load 97 = .ok (.aload_n 0, 1) := fo_42 (fd_n 12 sr_X5_load_3 rfl)
theorem dX5_load_98 : decode cX5_load 98 = .ok (.getfield 40, 3) := fo_180 (fd_n 13 sr_X5_load_3 rfl) rfl
theorem dX5_load_101 : decode cX5_load 101 = .ok (.bipush 40, 2) := fo_16 (fd_n 16 sr_X5_load_3 rfl) (by decide +kernel)
theorem dX5_load_103 : decode cX5_load 103 = .ok (.iload_n 1, 1) := fo_27 (fd_n 18 sr_X5_load_3 rfl)
theorem dX5_load_104 : decode cX5_load 104 = .ok (.imul, 1) := fo_104 (fd_n 19 sr_X5_load_3 rfl)
theorem dX5_load_105 : decode cX5_load 105 = .ok (.iload 5, 2) := fo_21 (fd_n 20 sr_X5_load_3 rfl) rfl
theorem dX5_load_107 : decode cX5_load 107 = .ok (.iadd, 1) := fo_96 (fd_n 22 sr_X5_load_3 rfl)
theorem dX5_load_108 : decode cX5_load 108 = .ok (.iaload, 1) := fo_46 (fd_n 23 sr_X5_load_3 rfl)
theorem dX5_load_109 : decode cX5_load 109 = .ok (.iastore, 1) := fo_79 (fd_n 24 sr_X5_load_3 rfl)
theorem dX5_load_110 : decode cX5_load 110 = .ok (.iinc 4 1, 3) := fo_132 (fd_n 25 sr_X5_load_3 rfl) rfl (by decide +kernel)
theorem dX5_load_113 : decode cX5_load 113 = .ok (.iinc 5 1, 3) := fo_132 sr_X5_load_4 rfl (by decide +kernel)
theorem dX5_load_116 : decode cX5_load 116 = .ok (.goto (-80), 3) := fo_167 (fd_n 3 sr_X5_load_4 rfl) (by decide +kernel)
theorem dX5_load_119 : decode cX5_load 119 = .ok (.iload 4, 2) := fo_21 (fd_n 6 sr_X5_load_4 rfl) rfl
theorem dX5_load_121 : decode cX5_load 121 = .ok (.ireturn, 1) := fo_172 (fd_n 8 sr_X5_load_4 rfl)
noncomputable def sl_X5_judge_3 : List UInt8 := 27 :: 46 :: 160 :: 0 :: 13 :: 21 :: 4 :: 7 :: 160 :: 0 :: 7 :: 3 :: 167 :: 0 :: 7 :: 4 :: 21 :: 4 :: 96 :: 172 :: []
noncomputable def sl_X5_judge_2 : List UInt8 := 104 :: 21 :: 4 :: 96 :: 46 :: 42 :: 28 :: 21 :: 4 :: 4 :: 96 :: 182 :: 0 :: 143 :: 160 :: 0 :: 9 :: 132 :: 4 :: 1 :: 167 :: 255 :: 212 :: 21 :: 4 :: 42 :: 180 :: 0 :: 37 :: sl_X5_judge_3
noncomputable def sl_X5_judge_1 : List UInt8 := 172 :: 3 :: 54 :: 4 :: 21 :: 4 :: 42 :: 180 :: 0 :: 37 :: 27 :: 46 :: 162 :: 0 :: 39 :: 21 :: 4 :: 7 :: 162 :: 0 :: 33 :: 42 :: 180 :: 0 :: 40 :: 16 :: 40 :: 27 :: sl_X5_judge_2
noncomputable def sl_X5_judge_0 : List UInt8 := 42 :: 27 :: 182 :: 1 :: 72 :: 62 :: 29 :: 153 :: 0 :: 9 :: 42 :: 29 :: 182 :: 0 :: 80 :: 172 :: 42 :: 28 :: 182 :: 0 :: 122 :: 154 :: 0 :: 10 :: 42 :: 18 :: 50 :: 182 :: 0 :: 80 :: sl_X5_judge_1
theorem sr_X5_judge_0 : fd_at cX5_judge 0 sl_X5_judge_0 := fd_base (by decide +kernel)
theorem sr_X5_judge_1 : fd_at cX5_judge 30 sl_X5_judge_1 := fd_n 30 sr_X5_judge_0 rfl
theorem sr_X5_judge_2 : fd_at cX5_judge 58 sl_X5_judge_2 := fd_n 28 sr_X5_judge_1 rfl
theorem sr_X5_judge_3 : fd_at cX5_judge 87 sl_X5_judge_3 := fd_n 29 sr_X5_judge_2 rfl
theorem dX5_judge_0 : decode cX5_judge 0 = .ok (.aload_n 0, 1) := fo_42 sr_X5_judge_0
theorem dX5_judge_1 : decode cX5_judge 1 = .ok (.iload_n 1, 1) := fo_27 (fd_n 1 sr_X5_judge_0 rfl)
theorem dX5_judge_2 : decode cX5_judge 2 = .ok (.invokevirtual 328, 3) := fo_182 (fd_n 2 sr_X5_judge_0 rfl) rfl
theorem dX5_judge_5 : decode cX5_judge 5 = .ok (.istore_n 3, 1) := fo_62 (fd_n 5 sr_X5_judge_0 rfl)
theorem dX5_judge_6 : decode cX5_judge 6 = .ok (.iload_n 3, 1) := fo_29 (fd_n 6 sr_X5_judge_0 rfl)
theorem dX5_judge_7 : decode cX5_judge 7 = .ok (.ifCond .eq 9, 3) := fo_153 (fd_n 7 sr_X5_judge_0 rfl) (by decide +kernel)
theorem dX5_judge_10 : decode cX5_judge 10 = .ok (.aload_n 0, 1) := fo_42 (fd_n 10 sr_X5_judge_0 rfl)
theorem dX5_judge_11 : decode cX5_judge 11 = .ok (.iload_n 3, 1) := fo_29 (fd_n 11 sr_X5_judge_0 rfl)
theorem dX5_judge_12 : decode cX5_judge 12 = .ok (.invokevirtual 80, 3) := fo_182 (fd_n 12 sr_X5_judge_0 rfl) rfl
theorem dX5_judge_15 : decode cX5_judge 15 = .ok (.ireturn, 1) := fo_172 (fd_n 15 sr_X5_judge_0 rfl)
theorem dX5_judge_16 : decode cX5_judge 16 = .ok (.aload_n 0, 1) := fo_42 (fd_n 16 sr_X5_judge_0 rfl)
theorem dX5_judge_17 : decode cX5_judge 17 = .ok (.iload_n 2, 1) := fo_28 (fd_n 17 sr_X5_judge_0 rfl)
theorem dX5_judge_18 : decode cX5_judge 18 = .ok (.invokevirtual 122, 3) := fo_182 (fd_n 18 sr_X5_judge_0 rfl) rfl
theorem dX5_judge_21 : decode cX5_judge 21 = .ok (.ifCond .ne 10, 3) := fo_154 (fd_n 21 sr_X5_judge_0 rfl) (by decide +kernel)
theorem dX5_judge_24 : decode cX5_judge 24 = .ok (.aload_n 0, 1) := fo_42 (fd_n 24 sr_X5_judge_0 rfl)
theorem dX5_judge_25 : decode cX5_judge 25 = .ok (.ldc 50, 2) := fo_18 (fd_n 25 sr_X5_judge_0 rfl) rfl
theorem dX5_judge_27 : decode cX5_judge 27 = .ok (.invokevirtual 80, 3) := fo_182 (fd_n 27 sr_X5_judge_0 rfl) rfl
theorem dX5_judge_30 : decode cX5_judge 30 = .ok (.ireturn, 1) := fo_172 sr_X5_judge_1
theorem dX5_judge_31 : decode cX5_judge 31 = .ok (.iconst 0, 1) := fo_3 (fd_n 1 sr_X5_judge_1 rfl)
theorem dX5_judge_32 : decode cX5_judge 32 = .ok (.istore 4, 2) := fo_54 (fd_n 2 sr_X5_judge_1 rfl) rfl
theorem dX5_judge_34 : decode cX5_judge 34 = .ok (.iload 4, 2) := fo_21 (fd_n 4 sr_X5_judge_1 rfl) rfl
theorem dX5_judge_36 : decode cX5_judge 36 = .ok (.aload_n 0, 1) := fo_42 (fd_n 6 sr_X5_judge_1 rfl)
theorem dX5_judge_37 : decode cX5_judge 37 = .ok (.getfield 37, 3) := fo_180 (fd_n 7 sr_X5_judge_1 rfl) rfl
theorem dX5_judge_40 : decode cX5_judge 40 = .ok (.iload_n 1, 1) := fo_27 (fd_n 10 sr_X5_judge_1 rfl)
theorem dX5_judge_41 : decode cX5_judge 41 = .ok (.iaload, 1) := fo_46 (fd_n 11 sr_X5_judge_1 rfl)
theorem dX5_judge_42 : decode cX5_judge 42 = .ok (.if_icmp .ge 39, 3) := fo_162 (fd_n 12 sr_X5_judge_1 rfl) (by decide +kernel)
theorem dX5_judge_45 : decode cX5_judge 45 = .ok (.iload 4, 2) := fo_21 (fd_n 15 sr_X5_judge_1 rfl) rfl
theorem dX5_judge_47 : decode cX5_judge 47 = .ok (.iconst 4, 1) := fo_7 (fd_n 17 sr_X5_judge_1 rfl)
theorem dX5_judge_48 : decode cX5_judge 48 = .ok (.if_icmp .ge 33, 3) := fo_162 (fd_n 18 sr_X5_judge_1 rfl) (by decide +kernel)
theorem dX5_judge_51 : decode cX5_judge 51 = .ok (.aload_n 0, 1) := fo_42 (fd_n 21 sr_X5_judge_1 rfl)
theorem dX5_judge_52 : decode cX5_judge 52 = .ok (.getfield 40, 3) := fo_180 (fd_n 22 sr_X5_judge_1 rfl) rfl
theorem dX5_judge_55 : decode cX5_judge 55 = .ok (.bipush 40, 2) := fo_16 (fd_n 25 sr_X5_judge_1 rfl) (by decide +kernel)
theorem dX5_judge_57 : decode cX5_judge 57 = .ok (.iload_n 1, 1) := fo_27 (fd_n 27 sr_X5_judge_1 rfl)
theorem dX5_judge_58 : decode cX5_judge 58 = .ok (.imul, 1) := fo_104 sr_X5_judge_2
theorem dX5_judge_59 : decode cX5_judge 59 = .ok (.iload 4, 2) := fo_21 (fd_n 1 sr_X5_judge_2 rfl) rfl
theorem dX5_judge_61 : decode cX5_judge 61 = .ok (.iadd, 1) := fo_96 (fd_n 3 sr_X5_judge_2 rfl)
theorem dX5_judge_62 : decode cX5_judge 62 = .ok (.iaload, 1) := fo_46 (fd_n 4 sr_X5_judge_2 rfl)
theorem dX5_judge_63 : decode cX5_judge 63 = .ok (.aload_n 0, 1) := fo_42 (fd_n 5 sr_X5_judge_2 rfl)
theorem dX5_judge_64 : decode cX5_judge 64 = .ok (.iload_n 2, 1) := fo_28 (fd_n 6 sr_X5_judge_2 rfl)
theorem dX5_judge_65 : decode cX5_judge 65 = .ok (.iload 4, 2) := fo_21 (fd_n 7 sr_X5_judge_2 rfl) rfl
theorem dX5_judge_67 : decode cX5_judge 67 = .ok (.iconst 1, 1) := fo_4 (fd_n 9 sr_X5_judge_2 rfl)
theorem dX5_judge_68 : decode cX5_judge 68 = .ok (.iadd, 1) := fo_96 (fd_n 10 sr_X5_judge_2 rfl)
theorem dX5_judge_69 : decode cX5_judge 69 = .ok (.invokevirtual 143, 3) := fo_182 (fd_n 11 sr_X5_judge_2 rfl) rfl
theorem dX5_judge_72 : decode cX5_judge 72 = .ok (.if_icmp .ne 9, 3) := fo_160 (fd_n 14 sr_X5_judge_2 rfl) (by decide +kernel)
theorem dX5_judge_75 : decode cX5_judge 75 = .ok (.iinc 4 1, 3) := fo_132 (fd_n 17 sr_X5_judge_2 rfl) rfl (by decide +kernel)
theorem dX5_judge_78 : decode cX5_judge 78 = .ok (.goto (-44), 3) := fo_167 (fd_n 20 sr_X5_judge_2 rfl) (by decide +kernel)
theorem dX5_judge_81 : decode cX5_judge 81 = .ok (.iload 4, 2) := fo_21 (fd_n 23 sr_X5_judge_2 rfl) rfl
theorem dX5_judge_83 : decode cX5_judge 83 = .ok (.aload_n 0, 1) := fo_42 (fd_n 25 sr_X5_judge_2 rfl)
theorem dX5_judge_84 : decode cX5_judge 84 = .ok (.getfield 37, 3) := fo_180 (fd_n 26 sr_X5_judge_2 rfl) rfl
theorem dX5_judge_87 : decode cX5_judge 87 = .ok (.iload_n 1, 1) := fo_27 sr_X5_judge_3
theorem dX5_judge_88 : decode cX5_judge 88 = .ok (.iaload, 1) := fo_46 (fd_n 1 sr_X5_judge_3 rfl)
theorem dX5_judge_89 : decode cX5_judge 89 = .ok (.if_icmp .ne 13, 3) := fo_160 (fd_n 2 sr_X5_judge_3 rfl) (by decide +kernel)
theorem dX5_judge_92 : decode cX5_judge 92 = .ok (.iload 4, 2) := fo_21 (fd_n 5 sr_X5_judge_3 rfl) rfl
theorem dX5_judge_94 : decode cX5_judge 94 = .ok (.iconst 4, 1) := fo_7 (fd_n 7 sr_X5_judge_3 rfl)
theorem dX5_judge_95 : decode cX5_judge 95 = .ok (.if_icmp .ne 7, 3) := fo_160 (fd_n 8 sr_X5_judge_3 rfl) (by decide +kernel)
theorem dX5_judge_98 : decode cX5_judge 98 = .ok (.iconst 0, 1) := fo_3 (fd_n 11 sr_X5_judge_3 rfl)
theorem dX5_judge_99 : decode cX5_judge 99 = .ok (.goto 7, 3) := fo_167 (fd_n 12 sr_X5_judge_3 rfl) (by decide +kernel)
theorem dX5_judge_102 : decode cX5_judge 102 = .ok (.iconst 1, 1) := fo_4 (fd_n 15 sr_X5_judge_3 rfl)
theorem dX5_judge_103 : decode cX5_judge 103 = .ok (.iload 4, 2) := fo_21 (fd_n 16 sr_X5_judge_3 rfl) rfl
theorem dX5_judge_105 : decode cX5_judge 105 = .ok (.iadd, 1) := fo_96 (fd_n 18 sr_X5_judge_3 rfl)
theorem dX5_judge_106 : decode cX5_judge 106 = .ok (.ireturn, 1) := fo_172 (fd_n 19 sr_X5_judge_3 rfl)
noncomputable def sl_X5_image_1 : List UInt8 := 4 :: 181 :: 1 :: 78 :: 4 :: 172 :: []
noncomputable def sl_X5_image_0 : List UInt8 := 3 :: 60 :: 27 :: 17 :: 0 :: 181 :: 162 :: 0 :: 21 :: 42 :: 180 :: 0 :: 13 :: 27 :: 42 :: 180 :: 0 :: 7 :: 27 :: 46 :: 79 :: 132 :: 1 :: 1 :: 167 :: 255 :: 234 :: 42 :: sl_X5_image_1
theorem sr_X5_image_0 : fd_at cX5_image 0 sl_X5_image_0 := fd_base (by decide +kernel)
theorem sr_X5_image_1 : fd_at cX5_image 28 sl_X5_image_1 := fd_n 28 sr_X5_image_0 rfl
theorem dX5_image_0 : decode cX5_image 0 = .ok (.iconst 0, 1) := fo_3 sr_X5_image_0
theorem dX5_image_1 : decode cX5_image 1 = .ok (.istore_n 1, 1) := fo_60 (fd_n 1 sr_X5_image_0 rfl)
theorem dX5_image_2 : decode cX5_image 2 = .ok (.iload_n 1, 1) := fo_27 (fd_n 2 sr_X5_image_0 rfl)
theorem dX5_image_3 : decode cX5_image 3 = .ok (.sipush 181, 3) := fo_17 (fd_n 3 sr_X5_image_0 rfl) (by decide +kernel)
theorem dX5_image_6 : decode cX5_image 6 = .ok (.if_icmp .ge 21, 3) := fo_162 (fd_n 6 sr_X5_image_0 rfl) (by decide +kernel)
theorem dX5_image_9 : decode cX5_image 9 = .ok (.aload_n 0, 1) := fo_42 (fd_n 9 sr_X5_image_0 rfl)
theorem dX5_image_10 : decode cX5_image 10 = .ok (.getfield 13, 3) := fo_180 (fd_n 10 sr_X5_image_0 rfl) rfl
theorem dX5_image_13 : decode cX5_image 13 = .ok (.iload_n 1, 1) := fo_27 (fd_n 13 sr_X5_image_0 rfl)
theorem dX5_image_14 : decode cX5_image 14 = .ok (.aload_n 0, 1) := fo_42 (fd_n 14 sr_X5_image_0 rfl)
theorem dX5_image_15 : decode cX5_image 15 = .ok (.getfield 7, 3) := fo_180 (fd_n 15 sr_X5_image_0 rfl) rfl
theorem dX5_image_18 : decode cX5_image 18 = .ok (.iload_n 1, 1) := fo_27 (fd_n 18 sr_X5_image_0 rfl)
theorem dX5_image_19 : decode cX5_image 19 = .ok (.iaload, 1) := fo_46 (fd_n 19 sr_X5_image_0 rfl)
theorem dX5_image_20 : decode cX5_image 20 = .ok (.iastore, 1) := fo_79 (fd_n 20 sr_X5_image_0 rfl)
theorem dX5_image_21 : decode cX5_image 21 = .ok (.iinc 1 1, 3) := fo_132 (fd_n 21 sr_X5_image_0 rfl) rfl (by decide +kernel)
theorem dX5_image_24 : decode cX5_image 24 = .ok (.goto (-22), 3) := fo_167 (fd_n 24 sr_X5_image_0 rfl) (by decide +kernel)
theorem dX5_image_27 : decode cX5_image 27 = .ok (.aload_n 0, 1) := fo_42 (fd_n 27 sr_X5_image_0 rfl)
theorem dX5_image_28 : decode cX5_image 28 = .ok (.iconst 1, 1) := fo_4 sr_X5_image_1
theorem dX5_image_29 : decode cX5_image 29 = .ok (.putfield 334, 3) := fo_181 (fd_n 1 sr_X5_image_1 rfl) rfl
theorem dX5_image_32 : decode cX5_image 32 = .ok (.iconst 1, 1) := fo_4 (fd_n 4 sr_X5_image_1 rfl)
theorem dX5_image_33 : decode cX5_image 33 = .ok (.ireturn, 1) := fo_172 (fd_n 5 sr_X5_image_1 rfl)
noncomputable def sl_X5_undo_1 : List UInt8 := 42 :: 180 :: 0 :: 13 :: 27 :: 46 :: 79 :: 132 :: 1 :: 1 :: 167 :: 255 :: 234 :: 42 :: 180 :: 0 :: 7 :: 3 :: 46 :: 172 :: []
noncomputable def sl_X5_undo_0 : List UInt8 := 42 :: 180 :: 1 :: 78 :: 154 :: 0 :: 10 :: 42 :: 18 :: 93 :: 182 :: 0 :: 80 :: 172 :: 3 :: 60 :: 27 :: 17 :: 0 :: 181 :: 162 :: 0 :: 21 :: 42 :: 180 :: 0 :: 7 :: 27 :: sl_X5_undo_1
theorem sr_X5_undo_0 : fd_at cX5_undo 0 sl_X5_undo_0 := fd_base (by decide +kernel)
theorem sr_X5_undo_1 : fd_at cX5_undo 28 sl_X5_undo_1 := fd_n 28 sr_X5_undo_0 rfl
theorem dX5_undo_0 : decode cX5_undo 0 = .ok (.aload_n 0, 1) := fo_42 sr_X5_undo_0
theorem dX5_undo_1 : decode cX5_undo 1 = .ok (.getfield 334, 3) := fo_180 (fd_n 1 sr_X5_undo_0 rfl) rfl
theorem dX5_undo_4 : decode cX5_undo 4 = .ok (.ifCond .ne 10, 3) := fo_154 (fd_n 4 sr_X5_undo_0 rfl) (by decide +kernel)
theorem dX5_undo_7 : decode cX5_undo 7 = .ok (.aload_n 0, 1) := fo_42 (fd_n 7 sr_X5_undo_0 rfl)
theorem dX5_undo_8 : decode cX5_undo 8 = .ok (.ldc 93, 2) := fo_18 (fd_n 8 sr_X5_undo_0 rfl) rfl
theorem dX5_undo_10 : decode cX5_undo 10 = .ok (.invokevirtual 80, 3) := fo_182 (fd_n 10 sr_X5_undo_0 rfl) rfl
theorem dX5_undo_13 : decode cX5_undo 13 = .ok (.ireturn, 1) := fo_172 (fd_n 13 sr_X5_undo_0 rfl)
theorem dX5_undo_14 : decode cX5_undo 14 = .ok (.iconst 0, 1) := fo_3 (fd_n 14 sr_X5_undo_0 rfl)
theorem dX5_undo_15 : decode cX5_undo 15 = .ok (.istore_n 1, 1) := fo_60 (fd_n 15 sr_X5_undo_0 rfl)
theorem dX5_undo_16 : decode cX5_undo 16 = .ok (.iload_n 1, 1) := fo_27 (fd_n 16 sr_X5_undo_0 rfl)
theorem dX5_undo_17 : decode cX5_undo 17 = .ok (.sipush 181, 3) := fo_17 (fd_n 17 sr_X5_undo_0 rfl) (by decide +kernel)
theorem dX5_undo_20 : decode cX5_undo 20 = .ok (.if_icmp .ge 21, 3) := fo_162 (fd_n 20 sr_X5_undo_0 rfl) (by decide +kernel)
theorem dX5_undo_23 : decode cX5_undo 23 = .ok (.aload_n 0, 1) := fo_42 (fd_n 23 sr_X5_undo_0 rfl)
theorem dX5_undo_24 : decode cX5_undo 24 = .ok (.getfield 7, 3) := fo_180 (fd_n 24 sr_X5_undo_0 rfl) rfl
theorem dX5_undo_27 : decode cX5_undo 27 = .ok (.iload_n 1, 1) := fo_27 (fd_n 27 sr_X5_undo_0 rfl)
theorem dX5_undo_28 : decode cX5_undo 28 = .ok (.aload_n 0, 1) := fo_42 sr_X5_undo_1
theorem dX5_undo_29 : decode cX5_undo 29 = .ok (.getfield 13, 3) := fo_180 (fd_n 1 sr_X5_undo_1 rfl) rfl
theorem dX5_undo_32 : decode cX5_undo 32 = .ok (.iload_n 1, 1) := fo_27 (fd_n 4 sr_X5_undo_1 rfl)
theorem dX5_undo_33 : decode cX5_undo 33 = .ok (.iaload, 1) := fo_46 (fd_n 5 sr_X5_undo_1 rfl)
theorem dX5_undo_34 : decode cX5_undo 34 = .ok (.iastore, 1) := fo_79 (fd_n 6 sr_X5_undo_1 rfl)
theorem dX5_undo_35 : decode cX5_undo 35 = .ok (.iinc 1 1, 3) := fo_132 (fd_n 7 sr_X5_undo_1 rfl) rfl (by decide +kernel)
theorem dX5_undo_38 : decode cX5_undo 38 = .ok (.goto (-22), 3) := fo_167 (fd_n 10 sr_X5_undo_1 rfl) (by decide +kernel)
theorem dX5_undo_41 : decode cX5_undo 41 = .ok (.aload_n 0, 1) := fo_42 (fd_n 13 sr_X5_undo_1 rfl)
theorem dX5_undo_42 : decode cX5_undo 42 = .ok (.getfield 7, 3) := fo_180 (fd_n 14 sr_X5_undo_1 rfl) rfl
theorem dX5_undo_45 : decode cX5_undo 45 = .ok (.iconst 0, 1) := fo_3 (fd_n 17 sr_X5_undo_1 rfl)
theorem dX5_undo_46 : decode cX5_undo 46 = .ok (.iaload, 1) := fo_46 (fd_n 18 sr_X5_undo_1 rfl)
theorem dX5_undo_47 : decode cX5_undo 47 = .ok (.ireturn, 1) := fo_172 (fd_n 19 sr_X5_undo_1 rfl)
noncomputable def sl_X5_tear_0 : List UInt8 := 42 :: 180 :: 1 :: 78 :: 153 :: 0 :: 7 :: 4 :: 167 :: 0 :: 4 :: 3 :: 60 :: 42 :: 3 :: 181 :: 1 :: 78 :: 27 :: 172 :: []
theorem sr_X5_tear_0 : fd_at cX5_tear 0 sl_X5_tear_0 := fd_base (by decide +kernel)
theorem dX5_tear_0 : decode cX5_tear 0 = .ok (.aload_n 0, 1) := fo_42 sr_X5_tear_0
theorem dX5_tear_1 : decode cX5_tear 1 = .ok (.getfield 334, 3) := fo_180 (fd_n 1 sr_X5_tear_0 rfl) rfl
theorem dX5_tear_4 : decode cX5_tear 4 = .ok (.ifCond .eq 7, 3) := fo_153 (fd_n 4 sr_X5_tear_0 rfl) (by decide +kernel)
theorem dX5_tear_7 : decode cX5_tear 7 = .ok (.iconst 1, 1) := fo_4 (fd_n 7 sr_X5_tear_0 rfl)
theorem dX5_tear_8 : decode cX5_tear 8 = .ok (.goto 4, 3) := fo_167 (fd_n 8 sr_X5_tear_0 rfl) (by decide +kernel)
theorem dX5_tear_11 : decode cX5_tear 11 = .ok (.iconst 0, 1) := fo_3 (fd_n 11 sr_X5_tear_0 rfl)
theorem dX5_tear_12 : decode cX5_tear 12 = .ok (.istore_n 1, 1) := fo_60 (fd_n 12 sr_X5_tear_0 rfl)
theorem dX5_tear_13 : decode cX5_tear 13 = .ok (.aload_n 0, 1) := fo_42 (fd_n 13 sr_X5_tear_0 rfl)
theorem dX5_tear_14 : decode cX5_tear 14 = .ok (.iconst 0, 1) := fo_3 (fd_n 14 sr_X5_tear_0 rfl)
theorem dX5_tear_15 : decode cX5_tear 15 = .ok (.putfield 334, 3) := fo_181 (fd_n 15 sr_X5_tear_0 rfl) rfl
theorem dX5_tear_18 : decode cX5_tear 18 = .ok (.iload_n 1, 1) := fo_27 (fd_n 18 sr_X5_tear_0 rfl)
theorem dX5_tear_19 : decode cX5_tear 19 = .ok (.ireturn, 1) := fo_172 (fd_n 19 sr_X5_tear_0 rfl)
noncomputable def sl_X5_heights_1 : List UInt8 := 3 :: 96 :: 60 :: 132 :: 2 :: 1 :: 167 :: 255 :: 226 :: 27 :: 172 :: []
noncomputable def sl_X5_heights_0 : List UInt8 := 3 :: 60 :: 3 :: 61 :: 28 :: 16 :: 25 :: 162 :: 0 :: 30 :: 27 :: 42 :: 28 :: 182 :: 0 :: 65 :: 153 :: 0 :: 12 :: 42 :: 28 :: 5 :: 182 :: 0 :: 62 :: 167 :: 0 :: 4 :: sl_X5_heights_1
theorem sr_X5_heights_0 : fd_at cX5_heights 0 sl_X5_heights_0 := fd_base (by decide +kernel)
theorem sr_X5_heights_1 : fd_at cX5_heights 28 sl_X5_heights_1 := fd_n 28 sr_X5_heights_0 rfl
theorem dX5_heights_0 : decode cX5_heights 0 = .ok (.iconst 0, 1) := fo_3 sr_X5_heights_0
theorem dX5_heights_1 : decode cX5_heights 1 = .ok (.istore_n 1, 1) := fo_60 (fd_n 1 sr_X5_heights_0 rfl)
theorem dX5_heights_2 : decode cX5_heights 2 = .ok (.iconst 0, 1) := fo_3 (fd_n 2 sr_X5_heights_0 rfl)
theorem dX5_heights_3 : decode cX5_heights 3 = .ok (.istore_n 2, 1) := fo_61 (fd_n 3 sr_X5_heights_0 rfl)
theorem dX5_heights_4 : decode cX5_heights 4 = .ok (.iload_n 2, 1) := fo_28 (fd_n 4 sr_X5_heights_0 rfl)
theorem dX5_heights_5 : decode cX5_heights 5 = .ok (.bipush 25, 2) := fo_16 (fd_n 5 sr_X5_heights_0 rfl) (by decide +kernel)
theorem dX5_heights_7 : decode cX5_heights 7 = .ok (.if_icmp .ge 30, 3) := fo_162 (fd_n 7 sr_X5_heights_0 rfl) (by decide +kernel)
theorem dX5_heights_10 : decode cX5_heights 10 = .ok (.iload_n 1, 1) := fo_27 (fd_n 10 sr_X5_heights_0 rfl)
theorem dX5_heights_11 : decode cX5_heights 11 = .ok (.aload_n 0, 1) := fo_42 (fd_n 11 sr_X5_heights_0 rfl)
theorem dX5_heights_12 : decode cX5_heights 12 = .ok (.iload_n 2, 1) := fo_28 (fd_n 12 sr_X5_heights_0 rfl)
theorem dX5_heights_13 : decode cX5_heights 13 = .ok (.invokevirtual 65, 3) := fo_182 (fd_n 13 sr_X5_heights_0 rfl) rfl
theorem dX5_heights_16 : decode cX5_heights 16 = .ok (.ifCond .eq 12, 3) := fo_153 (fd_n 16 sr_X5_heights_0 rfl) (by decide +kernel)
theorem dX5_heights_19 : decode cX5_heights 19 = .ok (.aload_n 0, 1) := fo_42 (fd_n 19 sr_X5_heights_0 rfl)
theorem dX5_heights_20 : decode cX5_heights 20 = .ok (.iload_n 2, 1) := fo_28 (fd_n 20 sr_X5_heights_0 rfl)
theorem dX5_heights_21 : decode cX5_heights 21 = .ok (.iconst 2, 1) := fo_5 (fd_n 21 sr_X5_heights_0 rfl)
theorem dX5_heights_22 : decode cX5_heights 22 = .ok (.invokevirtual 62, 3) := fo_182 (fd_n 22 sr_X5_heights_0 rfl) rfl
theorem dX5_heights_25 : decode cX5_heights 25 = .ok (.goto 4, 3) := fo_167 (fd_n 25 sr_X5_heights_0 rfl) (by decide +kernel)
theorem dX5_heights_28 : decode cX5_heights 28 = .ok (.iconst 0, 1) := fo_3 sr_X5_heights_1
theorem dX5_heights_29 : decode cX5_heights 29 = .ok (.iadd, 1) := fo_96 (fd_n 1 sr_X5_heights_1 rfl)
theorem dX5_heights_30 : decode cX5_heights 30 = .ok (.istore_n 1, 1) := fo_60 (fd_n 2 sr_X5_heights_1 rfl)
theorem dX5_heights_31 : decode cX5_heights 31 = .ok (.iinc 2 1, 3) := fo_132 (fd_n 3 sr_X5_heights_1 rfl) rfl (by decide +kernel)
theorem dX5_heights_34 : decode cX5_heights 34 = .ok (.goto (-30), 3) := fo_167 (fd_n 6 sr_X5_heights_1 rfl) (by decide +kernel)
theorem dX5_heights_37 : decode cX5_heights 37 = .ok (.iload_n 1, 1) := fo_27 (fd_n 9 sr_X5_heights_1 rfl)
theorem dX5_heights_38 : decode cX5_heights 38 = .ok (.ireturn, 1) := fo_172 (fd_n 10 sr_X5_heights_1 rfl)
noncomputable def sl_X5_contracts_1 : List UInt8 := 4 :: 96 :: 60 :: 132 :: 2 :: 1 :: 167 :: 255 :: 226 :: 27 :: 172 :: []
noncomputable def sl_X5_contracts_0 : List UInt8 := 3 :: 60 :: 3 :: 61 :: 28 :: 42 :: 180 :: 0 :: 7 :: 4 :: 46 :: 162 :: 0 :: 26 :: 27 :: 42 :: 28 :: 7 :: 182 :: 0 :: 127 :: 156 :: 0 :: 7 :: 3 :: 167 :: 0 :: 4 :: sl_X5_contracts_1
theorem sr_X5_contracts_0 : fd_at cX5_contracts 0 sl_X5_contracts_0 := fd_base (by decide +kernel)
theorem sr_X5_contracts_1 : fd_at cX5_contracts 28 sl_X5_contracts_1 := fd_n 28 sr_X5_contracts_0 rfl
theorem dX5_contracts_0 : decode cX5_contracts 0 = .ok (.iconst 0, 1) := fo_3 sr_X5_contracts_0
theorem dX5_contracts_1 : decode cX5_contracts 1 = .ok (.istore_n 1, 1) := fo_60 (fd_n 1 sr_X5_contracts_0 rfl)
theorem dX5_contracts_2 : decode cX5_contracts 2 = .ok (.iconst 0, 1) := fo_3 (fd_n 2 sr_X5_contracts_0 rfl)
theorem dX5_contracts_3 : decode cX5_contracts 3 = .ok (.istore_n 2, 1) := fo_61 (fd_n 3 sr_X5_contracts_0 rfl)
theorem dX5_contracts_4 : decode cX5_contracts 4 = .ok (.iload_n 2, 1) := fo_28 (fd_n 4 sr_X5_contracts_0 rfl)
theorem dX5_contracts_5 : decode cX5_contracts 5 = .ok (.aload_n 0, 1) := fo_42 (fd_n 5 sr_X5_contracts_0 rfl)
theorem dX5_contracts_6 : decode cX5_contracts 6 = .ok (.getfield 7, 3) := fo_180 (fd_n 6 sr_X5_contracts_0 rfl) rfl
theorem dX5_contracts_9 : decode cX5_contracts 9 = .ok (.iconst 1, 1) := fo_4 (fd_n 9 sr_X5_contracts_0 rfl)
theorem dX5_contracts_10 : decode cX5_contracts 10 = .ok (.iaload, 1) := fo_46 (fd_n 10 sr_X5_contracts_0 rfl)
theorem dX5_contracts_11 : decode cX5_contracts 11 = .ok (.if_icmp .ge 26, 3) := fo_162 (fd_n 11 sr_X5_contracts_0 rfl) (by decide +kernel)
theorem dX5_contracts_14 : decode cX5_contracts 14 = .ok (.iload_n 1, 1) := fo_27 (fd_n 14 sr_X5_contracts_0 rfl)
theorem dX5_contracts_15 : decode cX5_contracts 15 = .ok (.aload_n 0, 1) := fo_42 (fd_n 15 sr_X5_contracts_0 rfl)
theorem dX5_contracts_16 : decode cX5_contracts 16 = .ok (.iload_n 2, 1) := fo_28 (fd_n 16 sr_X5_contracts_0 rfl)
theorem dX5_contracts_17 : decode cX5_contracts 17 = .ok (.iconst 4, 1) := fo_7 (fd_n 17 sr_X5_contracts_0 rfl)
theorem dX5_contracts_18 : decode cX5_contracts 18 = .ok (.invokevirtual 127, 3) := fo_182 (fd_n 18 sr_X5_contracts_0 rfl) rfl
theorem dX5_contracts_21 : decode cX5_contracts 21 = .ok (.ifCond .ge 7, 3) := fo_156 (fd_n 21 sr_X5_contracts_0 rfl) (by decide +kernel)
theorem dX5_contracts_24 : decode cX5_contracts 24 = .ok (.iconst 0, 1) := fo_3 (fd_n 24 sr_X5_contracts_0 rfl)
theorem dX5_contracts_25 : decode cX5_contracts 25 = .ok (.goto 4, 3) := fo_167 (fd_n 25 sr_X5_contracts_0 rfl) (by decide +kernel)
theorem dX5_contracts_28 : decode cX5_contracts 28 = .ok (.iconst 1, 1) := fo_4 sr_X5_contracts_1
theorem dX5_contracts_29 : decode cX5_contracts 29 = .ok (.iadd, 1) := fo_96 (fd_n 1 sr_X5_contracts_1 rfl)
theorem dX5_contracts_30 : decode cX5_contracts 30 = .ok (.istore_n 1, 1) := fo_60 (fd_n 2 sr_X5_contracts_1 rfl)
theorem dX5_contracts_31 : decode cX5_contracts 31 = .ok (.iinc 2 1, 3) := fo_132 (fd_n 3 sr_X5_contracts_1 rfl) rfl (by decide +kernel)
theorem dX5_contracts_34 : decode cX5_contracts 34 = .ok (.goto (-30), 3) := fo_167 (fd_n 6 sr_X5_contracts_1 rfl) (by decide +kernel)
theorem dX5_contracts_37 : decode cX5_contracts 37 = .ok (.iload_n 1, 1) := fo_27 (fd_n 9 sr_X5_contracts_1 rfl)
theorem dX5_contracts_38 : decode cX5_contracts 38 = .ok (.ireturn, 1) := fo_172 (fd_n 10 sr_X5_contracts_1 rfl)
noncomputable def sl_X5_held_1 : List UInt8 := 4 :: 96 :: 60 :: 132 :: 2 :: 1 :: 167 :: 255 :: 226 :: 27 :: 172 :: []
noncomputable def sl_X5_held_0 : List UInt8 := 3 :: 60 :: 3 :: 61 :: 28 :: 16 :: 10 :: 162 :: 0 :: 30 :: 27 :: 42 :: 180 :: 0 :: 7 :: 17 :: 0 :: 171 :: 28 :: 96 :: 46 :: 156 :: 0 :: 7 :: 3 :: 167 :: 0 :: 4 :: sl_X5_held_1
theorem sr_X5_held_0 : fd_at cX5_held 0 sl_X5_held_0 := fd_base (by decide +kernel)
theorem sr_X5_held_1 : fd_at cX5_held 28 sl_X5_held_1 := fd_n 28 sr_X5_held_0 rfl
theorem dX5_held_0 : decode cX5_held 0 = .ok (.iconst 0, 1) := fo_3 sr_X5_held_0
theorem dX5_held_1 : decode cX5_held 1 = .ok (.istore_n 1, 1) := fo_60 (fd_n 1 sr_X5_held_0 rfl)
theorem dX5_held_2 : decode cX5_held 2 = .ok (.iconst 0, 1) := fo_3 (fd_n 2 sr_X5_held_0 rfl)
theorem dX5_held_3 : decode cX5_held 3 = .ok (.istore_n 2, 1) := fo_61 (fd_n 3 sr_X5_held_0 rfl)
theorem dX5_held_4 : decode cX5_held 4 = .ok (.iload_n 2, 1) := fo_28 (fd_n 4 sr_X5_held_0 rfl)
theorem dX5_held_5 : decode cX5_held 5 = .ok (.bipush 10, 2) := fo_16 (fd_n 5 sr_X5_held_0 rfl) (by decide +kernel)
theorem dX5_held_7 : decode cX5_held 7 = .ok (.if_icmp .ge 30, 3) := fo_162 (fd_n 7 sr_X5_held_0 rfl) (by decide +kernel)
theorem dX5_held_10 : decode cX5_held 10 = .ok (.iload_n 1, 1) := fo_27 (fd_n 10 sr_X5_held_0 rfl)
theorem dX5_held_11 : decode cX5_held 11 = .ok (.aload_n 0, 1) := fo_42 (fd_n 11 sr_X5_held_0 rfl)
theorem dX5_held_12 : decode cX5_held 12 = .ok (.getfield 7, 3) := fo_180 (fd_n 12 sr_X5_held_0 rfl) rfl
theorem dX5_held_15 : decode cX5_held 15 = .ok (.sipush 171, 3) := fo_17 (fd_n 15 sr_X5_held_0 rfl) (by decide +kernel)
theorem dX5_held_18 : decode cX5_held 18 = .ok (.iload_n 2, 1) := fo_28 (fd_n 18 sr_X5_held_0 rfl)
theorem dX5_held_19 : decode cX5_held 19 = .ok (.iadd, 1) := fo_96 (fd_n 19 sr_X5_held_0 rfl)
theorem dX5_held_20 : decode cX5_held 20 = .ok (.iaload, 1) := fo_46 (fd_n 20 sr_X5_held_0 rfl)
theorem dX5_held_21 : decode cX5_held 21 = .ok (.ifCond .ge 7, 3) := fo_156 (fd_n 21 sr_X5_held_0 rfl) (by decide +kernel)
theorem dX5_held_24 : decode cX5_held 24 = .ok (.iconst 0, 1) := fo_3 (fd_n 24 sr_X5_held_0 rfl)
theorem dX5_held_25 : decode cX5_held 25 = .ok (.goto 4, 3) := fo_167 (fd_n 25 sr_X5_held_0 rfl) (by decide +kernel)
theorem dX5_held_28 : decode cX5_held 28 = .ok (.iconst 1, 1) := fo_4 sr_X5_held_1
theorem dX5_held_29 : decode cX5_held 29 = .ok (.iadd, 1) := fo_96 (fd_n 1 sr_X5_held_1 rfl)
theorem dX5_held_30 : decode cX5_held 30 = .ok (.istore_n 1, 1) := fo_60 (fd_n 2 sr_X5_held_1 rfl)
theorem dX5_held_31 : decode cX5_held 31 = .ok (.iinc 2 1, 3) := fo_132 (fd_n 3 sr_X5_held_1 rfl) rfl (by decide +kernel)
theorem dX5_held_34 : decode cX5_held 34 = .ok (.goto (-30), 3) := fo_167 (fd_n 6 sr_X5_held_1 rfl) (by decide +kernel)
theorem dX5_held_37 : decode cX5_held 37 = .ok (.iload_n 1, 1) := fo_27 (fd_n 9 sr_X5_held_1 rfl)
theorem dX5_held_38 : decode cX5_held 38 = .ok (.ireturn, 1) := fo_172 (fd_n 10 sr_X5_held_1 rfl)
noncomputable def sl_X5_count_2 : List UInt8 := 172 :: 42 :: 180 :: 0 :: 215 :: 172 :: 42 :: 180 :: 0 :: 7 :: 5 :: 46 :: 172 :: 42 :: 182 :: 1 :: 87 :: 172 :: 42 :: 18 :: 50 :: 182 :: 0 :: 80 :: 172 :: []
noncomputable def sl_X5_count_1 : List UInt8 := 42 :: 180 :: 0 :: 7 :: 3 :: 46 :: 172 :: 42 :: 182 :: 0 :: 89 :: 172 :: 42 :: 180 :: 0 :: 7 :: 4 :: 46 :: 172 :: 42 :: 182 :: 1 :: 81 :: 172 :: 42 :: 182 :: 1 :: 84 :: sl_X5_count_2
noncomputable def sl_X5_count_0 : List UInt8 := 27 :: 170 :: 0 :: 0 :: 0 :: 0 :: 0 :: 93 :: 0 :: 0 :: 0 :: 0 :: 0 :: 0 :: 0 :: 7 :: 0 :: 0 :: 0 :: 47 :: 0 :: 0 :: 0 :: 54 :: 0 :: 0 :: 0 :: 59 :: 0 :: 0 :: 0 :: 66 :: 0 :: 0 :: 0 :: 71 :: 0 :: 0 :: 0 :: 76 :: 0 :: 0 :: 0 :: 81 :: 0 :: 0 :: 0 :: 88 :: sl_X5_count_1
theorem sr_X5_count_0 : fd_at cX5_count 0 sl_X5_count_0 := fd_base (by decide +kernel)
theorem sr_X5_count_1 : fd_at cX5_count 48 sl_X5_count_1 := fd_n 48 sr_X5_count_0 rfl
theorem sr_X5_count_2 : fd_at cX5_count 76 sl_X5_count_2 := fd_n 28 sr_X5_count_1 rfl
theorem dX5_count_0 : decode cX5_count 0 = .ok (.iload_n 1, 1) := fo_27 sr_X5_count_0
theorem dX5_count_48 : decode cX5_count 48 = .ok (.aload_n 0, 1) := fo_42 sr_X5_count_1
theorem dX5_count_49 : decode cX5_count 49 = .ok (.getfield 7, 3) := fo_180 (fd_n 1 sr_X5_count_1 rfl) rfl
theorem dX5_count_52 : decode cX5_count 52 = .ok (.iconst 0, 1) := fo_3 (fd_n 4 sr_X5_count_1 rfl)
theorem dX5_count_53 : decode cX5_count 53 = .ok (.iaload, 1) := fo_46 (fd_n 5 sr_X5_count_1 rfl)
theorem dX5_count_54 : decode cX5_count 54 = .ok (.ireturn, 1) := fo_172 (fd_n 6 sr_X5_count_1 rfl)
theorem dX5_count_55 : decode cX5_count 55 = .ok (.aload_n 0, 1) := fo_42 (fd_n 7 sr_X5_count_1 rfl)
theorem dX5_count_56 : decode cX5_count 56 = .ok (.invokevirtual 89, 3) := fo_182 (fd_n 8 sr_X5_count_1 rfl) rfl
theorem dX5_count_59 : decode cX5_count 59 = .ok (.ireturn, 1) := fo_172 (fd_n 11 sr_X5_count_1 rfl)
theorem dX5_count_60 : decode cX5_count 60 = .ok (.aload_n 0, 1) := fo_42 (fd_n 12 sr_X5_count_1 rfl)
theorem dX5_count_61 : decode cX5_count 61 = .ok (.getfield 7, 3) := fo_180 (fd_n 13 sr_X5_count_1 rfl) rfl
theorem dX5_count_64 : decode cX5_count 64 = .ok (.iconst 1, 1) := fo_4 (fd_n 16 sr_X5_count_1 rfl)
theorem dX5_count_65 : decode cX5_count 65 = .ok (.iaload, 1) := fo_46 (fd_n 17 sr_X5_count_1 rfl)
theorem dX5_count_66 : decode cX5_count 66 = .ok (.ireturn, 1) := fo_172 (fd_n 18 sr_X5_count_1 rfl)
theorem dX5_count_67 : decode cX5_count 67 = .ok (.aload_n 0, 1) := fo_42 (fd_n 19 sr_X5_count_1 rfl)
theorem dX5_count_68 : decode cX5_count 68 = .ok (.invokevirtual 337, 3) := fo_182 (fd_n 20 sr_X5_count_1 rfl) rfl
theorem dX5_count_71 : decode cX5_count 71 = .ok (.ireturn, 1) := fo_172 (fd_n 23 sr_X5_count_1 rfl)
theorem dX5_count_72 : decode cX5_count 72 = .ok (.aload_n 0, 1) := fo_42 (fd_n 24 sr_X5_count_1 rfl)
theorem dX5_count_73 : decode cX5_count 73 = .ok (.invokevirtual 340, 3) := fo_182 (fd_n 25 sr_X5_count_1 rfl) rfl
theorem dX5_count_76 : decode cX5_count 76 = .ok (.ireturn, 1) := fo_172 sr_X5_count_2
theorem dX5_count_77 : decode cX5_count 77 = .ok (.aload_n 0, 1) := fo_42 (fd_n 1 sr_X5_count_2 rfl)
theorem dX5_count_78 : decode cX5_count 78 = .ok (.getfield 215, 3) := fo_180 (fd_n 2 sr_X5_count_2 rfl) rfl
theorem dX5_count_81 : decode cX5_count 81 = .ok (.ireturn, 1) := fo_172 (fd_n 5 sr_X5_count_2 rfl)
theorem dX5_count_82 : decode cX5_count 82 = .ok (.aload_n 0, 1) := fo_42 (fd_n 6 sr_X5_count_2 rfl)
theorem dX5_count_83 : decode cX5_count 83 = .ok (.getfield 7, 3) := fo_180 (fd_n 7 sr_X5_count_2 rfl) rfl
theorem dX5_count_86 : decode cX5_count 86 = .ok (.iconst 2, 1) := fo_5 (fd_n 10 sr_X5_count_2 rfl)
theorem dX5_count_87 : decode cX5_count 87 = .ok (.iaload, 1) := fo_46 (fd_n 11 sr_X5_count_2 rfl)
theorem dX5_count_88 : decode cX5_count 88 = .ok (.ireturn, 1) := fo_172 (fd_n 12 sr_X5_count_2 rfl)
theorem dX5_count_89 : decode cX5_count 89 = .ok (.aload_n 0, 1) := fo_42 (fd_n 13 sr_X5_count_2 rfl)
theorem dX5_count_90 : decode cX5_count 90 = .ok (.invokevirtual 343, 3) := fo_182 (fd_n 14 sr_X5_count_2 rfl) rfl
theorem dX5_count_93 : decode cX5_count 93 = .ok (.ireturn, 1) := fo_172 (fd_n 17 sr_X5_count_2 rfl)
theorem dX5_count_94 : decode cX5_count 94 = .ok (.aload_n 0, 1) := fo_42 (fd_n 18 sr_X5_count_2 rfl)
theorem dX5_count_95 : decode cX5_count 95 = .ok (.ldc 50, 2) := fo_18 (fd_n 19 sr_X5_count_2 rfl) rfl
theorem dX5_count_97 : decode cX5_count 97 = .ok (.invokevirtual 80, 3) := fo_182 (fd_n 21 sr_X5_count_2 rfl) rfl
theorem dX5_count_100 : decode cX5_count 100 = .ok (.ireturn, 1) := fo_172 (fd_n 24 sr_X5_count_2 rfl)
theorem dX5_count_1 : decode cX5_count 1 = .ok (.tableswitch 93 0 7 #[47, 54, 59, 66, 71, 76, 81, 88], 47) := by decide +kernel
noncomputable def sl_X5_status_2 : List UInt8 := 167 :: 255 :: 225 :: 28 :: 172 :: []
noncomputable def sl_X5_status_1 : List UInt8 := 162 :: 0 :: 31 :: 28 :: 27 :: 155 :: 0 :: 8 :: 29 :: 27 :: 160 :: 0 :: 12 :: 42 :: 180 :: 0 :: 19 :: 29 :: 46 :: 167 :: 0 :: 4 :: 3 :: 96 :: 61 :: 132 :: 3 :: 1 :: sl_X5_status_2
noncomputable def sl_X5_status_0 : List UInt8 := 27 :: 133 :: 20 :: 0 :: 130 :: 20 :: 0 :: 69 :: 184 :: 0 :: 53 :: 154 :: 0 :: 10 :: 42 :: 18 :: 50 :: 182 :: 0 :: 80 :: 172 :: 3 :: 61 :: 3 :: 62 :: 29 :: 16 :: 7 :: sl_X5_status_1
theorem sr_X5_status_0 : fd_at cX5_status 0 sl_X5_status_0 := fd_base (by decide +kernel)
theorem sr_X5_status_1 : fd_at cX5_status 28 sl_X5_status_1 := fd_n 28 sr_X5_status_0 rfl
theorem sr_X5_status_2 : fd_at cX5_status 56 sl_X5_status_2 := fd_n 28 sr_X5_status_1 rfl
theorem dX5_status_0 : decode cX5_status 0 = .ok (.iload_n 1, 1) := fo_27 sr_X5_status_0
theorem dX5_status_1 : decode cX5_status 1 = .ok (.i2l, 1) := fo_133 (fd_n 1 sr_X5_status_0 rfl)
theorem dX5_status_2 : decode cX5_status 2 = .ok (.ldc2_w 130, 3) := fo_20 (fd_n 2 sr_X5_status_0 rfl) rfl
theorem dX5_status_5 : decode cX5_status 5 = .ok (.ldc2_w 69, 3) := fo_20 (fd_n 5 sr_X5_status_0 rfl) rfl
theorem dX5_status_8 : decode cX5_status 8 = .ok (.invokestatic 53, 3) := fo_184 (fd_n 8 sr_X5_status_0 rfl) rfl
theorem dX5_status_11 : decode cX5_status 11 = .ok (.ifCond .ne 10, 3) := fo_154 (fd_n 11 sr_X5_status_0 rfl) (by decide +kernel)
theorem dX5_status_14 : decode cX5_status 14 = .ok (.aload_n 0, 1) := fo_42 (fd_n 14 sr_X5_status_0 rfl)
theorem dX5_status_15 : decode cX5_status 15 = .ok (.ldc 50, 2) := fo_18 (fd_n 15 sr_X5_status_0 rfl) rfl
theorem dX5_status_17 : decode cX5_status 17 = .ok (.invokevirtual 80, 3) := fo_182 (fd_n 17 sr_X5_status_0 rfl) rfl
theorem dX5_status_20 : decode cX5_status 20 = .ok (.ireturn, 1) := fo_172 (fd_n 20 sr_X5_status_0 rfl)
theorem dX5_status_21 : decode cX5_status 21 = .ok (.iconst 0, 1) := fo_3 (fd_n 21 sr_X5_status_0 rfl)
theorem dX5_status_22 : decode cX5_status 22 = .ok (.istore_n 2, 1) := fo_61 (fd_n 22 sr_X5_status_0 rfl)
theorem dX5_status_23 : decode cX5_status 23 = .ok (.iconst 0, 1) := fo_3 (fd_n 23 sr_X5_status_0 rfl)
theorem dX5_status_24 : decode cX5_status 24 = .ok (.istore_n 3, 1) := fo_62 (fd_n 24 sr_X5_status_0 rfl)
theorem dX5_status_25 : decode cX5_status 25 = .ok (.iload_n 3, 1) := fo_29 (fd_n 25 sr_X5_status_0 rfl)
theorem dX5_status_26 : decode cX5_status 26 = .ok (.bipush 7, 2) := fo_16 (fd_n 26 sr_X5_status_0 rfl) (by decide +kernel)
theorem dX5_status_28 : decode cX5_status 28 = .ok (.if_icmp .ge 31, 3) := fo_162 sr_X5_status_1 (by decide +kernel)
theorem dX5_status_31 : decode cX5_status 31 = .ok (.iload_n 2, 1) := fo_28 (fd_n 3 sr_X5_status_1 rfl)
theorem dX5_status_32 : decode cX5_status 32 = .ok (.iload_n 1, 1) := fo_27 (fd_n 4 sr_X5_status_1 rfl)
theorem dX5_status_33 : decode cX5_status 33 = .ok (.ifCond .lt 8, 3) := fo_155 (fd_n 5 sr_X5_status_1 rfl) (by decide +kernel)
theorem dX5_status_36 : decode cX5_status 36 = .ok (.iload_n 3, 1) := fo_29 (fd_n 8 sr_X5_status_1 rfl)
theorem dX5_status_37 : decode cX5_status 37 = .ok (.iload_n 1, 1) := fo_27 (fd_n 9 sr_X5_status_1 rfl)
theorem dX5_status_38 : decode cX5_status 38 = .ok (.if_icmp .ne 12, 3) := fo_160 (fd_n 10 sr_X5_status_1 rfl) (by decide +kernel)
theorem dX5_status_41 : decode cX5_status 41 = .ok (.aload_n 0, 1) := fo_42 (fd_n 13 sr_X5_status_1 rfl)
theorem dX5_status_42 : decode cX5_status 42 = .ok (.getfield 19, 3) := fo_180 (fd_n 14 sr_X5_status_1 rfl) rfl
theorem dX5_status_45 : decode cX5_status 45 = .ok (.iload_n 3, 1) := fo_29 (fd_n 17 sr_X5_status_1 rfl)
theorem dX5_status_46 : decode cX5_status 46 = .ok (.iaload, 1) := fo_46 (fd_n 18 sr_X5_status_1 rfl)
theorem dX5_status_47 : decode cX5_status 47 = .ok (.goto 4, 3) := fo_167 (fd_n 19 sr_X5_status_1 rfl) (by decide +kernel)
theorem dX5_status_50 : decode cX5_status 50 = .ok (.iconst 0, 1) := fo_3 (fd_n 22 sr_X5_status_1 rfl)
theorem dX5_status_51 : decode cX5_status 51 = .ok (.iadd, 1) := fo_96 (fd_n 23 sr_X5_status_1 rfl)
theorem dX5_status_52 : decode cX5_status 52 = .ok (.istore_n 2, 1) := fo_61 (fd_n 24 sr_X5_status_1 rfl)
theorem dX5_status_53 : decode cX5_status 53 = .ok (.iinc 3 1, 3) := fo_132 (fd_n 25 sr_X5_status_1 rfl) rfl (by decide +kernel)
theorem dX5_status_56 : decode cX5_status 56 = .ok (.goto (-31), 3) := fo_167 sr_X5_status_2 (by decide +kernel)
theorem dX5_status_59 : decode cX5_status 59 = .ok (.iload_n 2, 1) := fo_28 (fd_n 3 sr_X5_status_2 rfl)
theorem dX5_status_60 : decode cX5_status 60 = .ok (.ireturn, 1) := fo_172 (fd_n 4 sr_X5_status_2 rfl)
