noncomputable def sl_L_law_53 : List UInt8 := 42 :: 29 :: 4 :: 96 :: 46 :: 182 :: 0 :: 218 :: 87 :: 167 :: 0 :: 3 :: 132 :: 3 :: 6 :: 167 :: 249 :: 109 :: 4 :: 172 :: []
noncomputable def sl_L_law_52 : List UInt8 := 182 :: 0 :: 211 :: 44 :: 42 :: 29 :: 4 :: 96 :: 46 :: 182 :: 0 :: 214 :: 159 :: 0 :: 28 :: 3 :: 172 :: 43 :: 42 :: 29 :: 4 :: 96 :: 46 :: 182 :: 0 :: 215 :: 87 :: 44 :: sl_L_law_53
noncomputable def sl_L_law_51 : List UInt8 := 87 :: 44 :: 182 :: 0 :: 206 :: 87 :: 167 :: 0 :: 62 :: 43 :: 182 :: 0 :: 207 :: 87 :: 44 :: 182 :: 0 :: 210 :: 87 :: 167 :: 0 :: 49 :: 43 :: 42 :: 29 :: 4 :: 96 :: 46 :: sl_L_law_52
noncomputable def sl_L_law_50 : List UInt8 := 46 :: 42 :: 29 :: 5 :: 96 :: 46 :: 182 :: 0 :: 198 :: 87 :: 167 :: 0 :: 88 :: 43 :: 182 :: 0 :: 199 :: 87 :: 44 :: 182 :: 0 :: 202 :: 87 :: 167 :: 0 :: 75 :: 43 :: 182 :: 0 :: 203 :: sl_L_law_51
noncomputable def sl_L_law_49 : List UInt8 := 46 :: 182 :: 0 :: 194 :: 87 :: 167 :: 0 :: 121 :: 43 :: 42 :: 29 :: 4 :: 96 :: 46 :: 42 :: 29 :: 5 :: 96 :: 46 :: 182 :: 0 :: 195 :: 87 :: 44 :: 42 :: 29 :: 4 :: 96 :: sl_L_law_50
noncomputable def sl_L_law_48 : List UInt8 := 167 :: 0 :: 154 :: 43 :: 42 :: 29 :: 4 :: 96 :: 46 :: 42 :: 29 :: 5 :: 96 :: 46 :: 182 :: 0 :: 191 :: 87 :: 44 :: 42 :: 29 :: 4 :: 96 :: 46 :: 42 :: 29 :: 5 :: 96 :: sl_L_law_49
noncomputable def sl_L_law_47 : List UInt8 := 29 :: 4 :: 96 :: 46 :: 42 :: 29 :: 5 :: 96 :: 46 :: 42 :: 29 :: 6 :: 96 :: 46 :: 42 :: 29 :: 7 :: 96 :: 46 :: 42 :: 29 :: 8 :: 96 :: 46 :: 182 :: 0 :: 190 :: 87 :: sl_L_law_48
noncomputable def sl_L_law_46 : List UInt8 := 96 :: 46 :: 42 :: 29 :: 5 :: 96 :: 46 :: 42 :: 29 :: 6 :: 96 :: 46 :: 42 :: 29 :: 7 :: 96 :: 46 :: 42 :: 29 :: 8 :: 96 :: 46 :: 182 :: 0 :: 186 :: 87 :: 44 :: 42 :: sl_L_law_47
noncomputable def sl_L_law_45 : List UInt8 := 87 :: 44 :: 42 :: 29 :: 4 :: 96 :: 46 :: 42 :: 29 :: 5 :: 96 :: 46 :: 42 :: 29 :: 6 :: 96 :: 46 :: 182 :: 0 :: 185 :: 87 :: 167 :: 0 :: 217 :: 43 :: 42 :: 29 :: 4 :: sl_L_law_46
noncomputable def sl_L_law_44 : List UInt8 := 29 :: 6 :: 96 :: 46 :: 182 :: 0 :: 181 :: 87 :: 167 :: 1 :: 4 :: 43 :: 42 :: 29 :: 4 :: 96 :: 46 :: 42 :: 29 :: 5 :: 96 :: 46 :: 42 :: 29 :: 6 :: 96 :: 46 :: 182 :: 0 :: 182 :: sl_L_law_45
noncomputable def sl_L_law_43 : List UInt8 := 96 :: 46 :: 42 :: 29 :: 5 :: 96 :: 46 :: 42 :: 29 :: 6 :: 96 :: 46 :: 182 :: 0 :: 178 :: 87 :: 44 :: 42 :: 29 :: 4 :: 96 :: 46 :: 42 :: 29 :: 5 :: 96 :: 46 :: 42 :: sl_L_law_44
noncomputable def sl_L_law_42 : List UInt8 := 96 :: 46 :: 182 :: 0 :: 174 :: 87 :: 44 :: 42 :: 29 :: 4 :: 96 :: 46 :: 42 :: 29 :: 5 :: 96 :: 46 :: 182 :: 0 :: 177 :: 87 :: 167 :: 1 :: 47 :: 43 :: 42 :: 29 :: 4 :: sl_L_law_43
noncomputable def sl_L_law_41 : List UInt8 := 87 :: 44 :: 42 :: 29 :: 4 :: 96 :: 46 :: 42 :: 29 :: 5 :: 96 :: 46 :: 182 :: 0 :: 173 :: 87 :: 167 :: 1 :: 80 :: 43 :: 42 :: 29 :: 4 :: 96 :: 46 :: 42 :: 29 :: 5 :: sl_L_law_42
noncomputable def sl_L_law_40 : List UInt8 := 167 :: 1 :: 126 :: 43 :: 182 :: 0 :: 166 :: 87 :: 44 :: 182 :: 0 :: 169 :: 87 :: 167 :: 1 :: 113 :: 43 :: 42 :: 29 :: 4 :: 96 :: 46 :: 42 :: 29 :: 5 :: 96 :: 46 :: 182 :: 0 :: 170 :: sl_L_law_41
noncomputable def sl_L_law_39 : List UInt8 := 44 :: 42 :: 29 :: 4 :: 96 :: 46 :: 42 :: 29 :: 5 :: 96 :: 46 :: 182 :: 0 :: 161 :: 87 :: 167 :: 1 :: 139 :: 43 :: 182 :: 0 :: 162 :: 87 :: 44 :: 182 :: 0 :: 165 :: 87 :: sl_L_law_40
noncomputable def sl_L_law_38 : List UInt8 := 44 :: 42 :: 29 :: 4 :: 96 :: 46 :: 182 :: 0 :: 157 :: 87 :: 167 :: 1 :: 172 :: 43 :: 42 :: 29 :: 4 :: 96 :: 46 :: 42 :: 29 :: 5 :: 96 :: 46 :: 182 :: 0 :: 158 :: 87 :: sl_L_law_39
noncomputable def sl_L_law_37 : List UInt8 := 46 :: 182 :: 0 :: 150 :: 87 :: 44 :: 42 :: 29 :: 4 :: 96 :: 46 :: 182 :: 0 :: 153 :: 87 :: 167 :: 1 :: 195 :: 43 :: 42 :: 29 :: 4 :: 96 :: 46 :: 182 :: 0 :: 154 :: 87 :: sl_L_law_38
noncomputable def sl_L_law_36 : List UInt8 := 46 :: 182 :: 0 :: 146 :: 87 :: 44 :: 42 :: 29 :: 4 :: 96 :: 46 :: 42 :: 29 :: 5 :: 96 :: 46 :: 182 :: 0 :: 149 :: 87 :: 167 :: 1 :: 218 :: 43 :: 42 :: 29 :: 4 :: 96 :: sl_L_law_37
noncomputable def sl_L_law_35 : List UInt8 := 44 :: 42 :: 29 :: 4 :: 96 :: 46 :: 42 :: 29 :: 5 :: 96 :: 46 :: 182 :: 0 :: 145 :: 87 :: 167 :: 1 :: 251 :: 43 :: 42 :: 29 :: 4 :: 96 :: 46 :: 42 :: 29 :: 5 :: 96 :: sl_L_law_36
noncomputable def sl_L_law_34 : List UInt8 := 44 :: 42 :: 29 :: 4 :: 96 :: 46 :: 182 :: 0 :: 141 :: 87 :: 167 :: 2 :: 28 :: 43 :: 42 :: 29 :: 4 :: 96 :: 46 :: 42 :: 29 :: 5 :: 96 :: 46 :: 182 :: 0 :: 142 :: 87 :: sl_L_law_35
noncomputable def sl_L_law_33 : List UInt8 := 46 :: 42 :: 29 :: 5 :: 96 :: 46 :: 42 :: 29 :: 6 :: 96 :: 46 :: 182 :: 0 :: 137 :: 87 :: 167 :: 2 :: 51 :: 43 :: 42 :: 29 :: 4 :: 96 :: 46 :: 182 :: 0 :: 138 :: 87 :: sl_L_law_34
noncomputable def sl_L_law_32 : List UInt8 := 167 :: 2 :: 94 :: 43 :: 42 :: 29 :: 4 :: 96 :: 46 :: 42 :: 29 :: 5 :: 96 :: 46 :: 42 :: 29 :: 6 :: 96 :: 46 :: 182 :: 0 :: 134 :: 87 :: 44 :: 42 :: 29 :: 4 :: 96 :: sl_L_law_33
noncomputable def sl_L_law_31 : List UInt8 := 46 :: 182 :: 0 :: 129 :: 87 :: 167 :: 2 :: 117 :: 43 :: 42 :: 29 :: 4 :: 96 :: 46 :: 182 :: 0 :: 130 :: 87 :: 44 :: 42 :: 29 :: 4 :: 96 :: 46 :: 182 :: 0 :: 133 :: 87 :: sl_L_law_32
noncomputable def sl_L_law_30 : List UInt8 := 44 :: 42 :: 29 :: 4 :: 96 :: 46 :: 182 :: 0 :: 125 :: 87 :: 167 :: 2 :: 140 :: 43 :: 42 :: 29 :: 4 :: 96 :: 46 :: 182 :: 0 :: 126 :: 87 :: 44 :: 42 :: 29 :: 4 :: 96 :: sl_L_law_31
noncomputable def sl_L_law_29 : List UInt8 := 46 :: 182 :: 0 :: 118 :: 87 :: 44 :: 42 :: 29 :: 4 :: 96 :: 46 :: 182 :: 0 :: 121 :: 87 :: 167 :: 2 :: 163 :: 43 :: 42 :: 29 :: 4 :: 96 :: 46 :: 182 :: 0 :: 122 :: 87 :: sl_L_law_30
noncomputable def sl_L_law_28 : List UInt8 := 46 :: 182 :: 0 :: 114 :: 87 :: 44 :: 42 :: 29 :: 4 :: 96 :: 46 :: 42 :: 29 :: 5 :: 96 :: 46 :: 182 :: 0 :: 117 :: 87 :: 167 :: 2 :: 186 :: 43 :: 42 :: 29 :: 4 :: 96 :: sl_L_law_29
noncomputable def sl_L_law_27 : List UInt8 := 46 :: 182 :: 0 :: 110 :: 87 :: 44 :: 42 :: 29 :: 4 :: 96 :: 46 :: 182 :: 0 :: 113 :: 87 :: 167 :: 2 :: 219 :: 43 :: 42 :: 29 :: 4 :: 96 :: 46 :: 42 :: 29 :: 5 :: 96 :: sl_L_law_28
noncomputable def sl_L_law_26 : List UInt8 := 43 :: 42 :: 29 :: 4 :: 96 :: 46 :: 182 :: 0 :: 106 :: 87 :: 44 :: 42 :: 29 :: 4 :: 96 :: 46 :: 182 :: 0 :: 109 :: 87 :: 167 :: 2 :: 242 :: 43 :: 42 :: 29 :: 4 :: 96 :: sl_L_law_27
noncomputable def sl_L_law_25 : List UInt8 := 182 :: 0 :: 101 :: 87 :: 167 :: 3 :: 32 :: 43 :: 42 :: 29 :: 4 :: 96 :: 46 :: 182 :: 0 :: 102 :: 87 :: 44 :: 42 :: 29 :: 4 :: 96 :: 46 :: 182 :: 0 :: 105 :: 87 :: 167 :: 3 :: 9 :: sl_L_law_26
noncomputable def sl_L_law_24 : List UInt8 := 42 :: 29 :: 5 :: 96 :: 46 :: 182 :: 0 :: 97 :: 87 :: 167 :: 3 :: 55 :: 43 :: 42 :: 29 :: 4 :: 96 :: 46 :: 182 :: 0 :: 98 :: 87 :: 44 :: 42 :: 29 :: 4 :: 96 :: 46 :: sl_L_law_25
noncomputable def sl_L_law_23 : List UInt8 := 182 :: 0 :: 93 :: 87 :: 167 :: 3 :: 88 :: 43 :: 42 :: 29 :: 4 :: 96 :: 46 :: 42 :: 29 :: 5 :: 96 :: 46 :: 182 :: 0 :: 94 :: 87 :: 44 :: 42 :: 29 :: 4 :: 96 :: 46 :: sl_L_law_24
noncomputable def sl_L_law_22 : List UInt8 := 182 :: 0 :: 85 :: 87 :: 44 :: 182 :: 0 :: 89 :: 87 :: 167 :: 3 :: 111 :: 43 :: 42 :: 29 :: 4 :: 96 :: 46 :: 182 :: 0 :: 90 :: 87 :: 44 :: 42 :: 29 :: 4 :: 96 :: 46 :: sl_L_law_23
noncomputable def sl_L_law_21 : List UInt8 := 87 :: 167 :: 3 :: 147 :: 43 :: 42 :: 29 :: 4 :: 96 :: 46 :: 182 :: 0 :: 81 :: 87 :: 44 :: 42 :: 29 :: 4 :: 96 :: 46 :: 182 :: 0 :: 84 :: 87 :: 167 :: 3 :: 124 :: 43 :: sl_L_law_22
noncomputable def sl_L_law_20 : List UInt8 := 96 :: 46 :: 182 :: 0 :: 76 :: 87 :: 167 :: 3 :: 170 :: 43 :: 42 :: 29 :: 4 :: 96 :: 46 :: 182 :: 0 :: 77 :: 87 :: 44 :: 42 :: 29 :: 4 :: 96 :: 46 :: 182 :: 0 :: 80 :: sl_L_law_21
noncomputable def sl_L_law_19 : List UInt8 := 87 :: 44 :: 42 :: 29 :: 4 :: 96 :: 46 :: 182 :: 0 :: 72 :: 87 :: 167 :: 3 :: 193 :: 43 :: 42 :: 29 :: 4 :: 96 :: 46 :: 182 :: 0 :: 73 :: 87 :: 44 :: 42 :: 29 :: 4 :: sl_L_law_20
noncomputable def sl_L_law_18 : List UInt8 := 87 :: 44 :: 42 :: 29 :: 4 :: 96 :: 46 :: 42 :: 29 :: 5 :: 96 :: 46 :: 182 :: 0 :: 68 :: 87 :: 167 :: 3 :: 216 :: 43 :: 42 :: 29 :: 4 :: 96 :: 46 :: 182 :: 0 :: 69 :: sl_L_law_19
noncomputable def sl_L_law_17 : List UInt8 := 87 :: 44 :: 42 :: 29 :: 4 :: 96 :: 46 :: 182 :: 0 :: 64 :: 87 :: 167 :: 3 :: 249 :: 43 :: 42 :: 29 :: 4 :: 96 :: 46 :: 42 :: 29 :: 5 :: 96 :: 46 :: 182 :: 0 :: 65 :: sl_L_law_18
noncomputable def sl_L_law_16 : List UInt8 := 87 :: 44 :: 42 :: 29 :: 4 :: 96 :: 46 :: 42 :: 29 :: 5 :: 96 :: 46 :: 182 :: 0 :: 60 :: 87 :: 167 :: 4 :: 16 :: 43 :: 42 :: 29 :: 4 :: 96 :: 46 :: 182 :: 0 :: 61 :: sl_L_law_17
noncomputable def sl_L_law_15 : List UInt8 := 87 :: 44 :: 42 :: 29 :: 4 :: 96 :: 46 :: 182 :: 0 :: 56 :: 87 :: 167 :: 4 :: 49 :: 43 :: 42 :: 29 :: 4 :: 96 :: 46 :: 42 :: 29 :: 5 :: 96 :: 46 :: 182 :: 0 :: 57 :: sl_L_law_16
noncomputable def sl_L_law_14 : List UInt8 := 96 :: 46 :: 42 :: 29 :: 5 :: 96 :: 46 :: 42 :: 29 :: 6 :: 96 :: 46 :: 182 :: 0 :: 52 :: 87 :: 167 :: 4 :: 72 :: 43 :: 42 :: 29 :: 4 :: 96 :: 46 :: 182 :: 0 :: 53 :: sl_L_law_15
noncomputable def sl_L_law_13 : List UInt8 := 87 :: 167 :: 4 :: 115 :: 43 :: 42 :: 29 :: 4 :: 96 :: 46 :: 42 :: 29 :: 5 :: 96 :: 46 :: 42 :: 29 :: 6 :: 96 :: 46 :: 182 :: 0 :: 49 :: 87 :: 44 :: 42 :: 29 :: 4 :: sl_L_law_14
noncomputable def sl_L_law_12 : List UInt8 := 96 :: 46 :: 42 :: 29 :: 6 :: 96 :: 46 :: 182 :: 0 :: 45 :: 87 :: 44 :: 42 :: 29 :: 4 :: 96 :: 46 :: 42 :: 29 :: 5 :: 96 :: 46 :: 42 :: 29 :: 6 :: 96 :: 46 :: 182 :: 0 :: 48 :: sl_L_law_13
noncomputable def sl_L_law_11 : List UInt8 := 87 :: 44 :: 42 :: 29 :: 4 :: 96 :: 46 :: 42 :: 29 :: 5 :: 96 :: 46 :: 182 :: 0 :: 44 :: 87 :: 167 :: 4 :: 158 :: 43 :: 42 :: 29 :: 4 :: 96 :: 46 :: 42 :: 29 :: 5 :: sl_L_law_12
noncomputable def sl_L_law_10 : List UInt8 := 96 :: 46 :: 42 :: 29 :: 7 :: 96 :: 46 :: 182 :: 0 :: 40 :: 87 :: 167 :: 4 :: 191 :: 43 :: 42 :: 29 :: 4 :: 96 :: 46 :: 42 :: 29 :: 5 :: 96 :: 46 :: 182 :: 0 :: 41 :: sl_L_law_11
noncomputable def sl_L_law_9 : List UInt8 := 42 :: 29 :: 6 :: 96 :: 46 :: 42 :: 29 :: 7 :: 96 :: 46 :: 182 :: 0 :: 37 :: 87 :: 44 :: 42 :: 29 :: 4 :: 96 :: 46 :: 42 :: 29 :: 5 :: 96 :: 46 :: 42 :: 29 :: 6 :: sl_L_law_10
noncomputable def sl_L_law_8 : List UInt8 := 42 :: 29 :: 4 :: 96 :: 46 :: 42 :: 29 :: 5 :: 96 :: 46 :: 182 :: 0 :: 36 :: 87 :: 167 :: 4 :: 244 :: 43 :: 42 :: 29 :: 4 :: 96 :: 46 :: 42 :: 29 :: 5 :: 96 :: 46 :: sl_L_law_9
noncomputable def sl_L_law_7 : List UInt8 := 42 :: 29 :: 6 :: 96 :: 46 :: 182 :: 0 :: 32 :: 87 :: 167 :: 5 :: 21 :: 43 :: 42 :: 29 :: 4 :: 96 :: 46 :: 42 :: 29 :: 5 :: 96 :: 46 :: 182 :: 0 :: 33 :: 87 :: 44 :: sl_L_law_8
noncomputable def sl_L_law_6 : List UInt8 := 4 :: 96 :: 46 :: 42 :: 29 :: 5 :: 96 :: 46 :: 42 :: 29 :: 6 :: 96 :: 46 :: 182 :: 0 :: 28 :: 87 :: 44 :: 42 :: 29 :: 4 :: 96 :: 46 :: 42 :: 29 :: 5 :: 96 :: 46 :: sl_L_law_7
noncomputable def sl_L_law_5 : List UInt8 := 5 :: 96 :: 46 :: 182 :: 0 :: 23 :: 87 :: 44 :: 42 :: 29 :: 4 :: 96 :: 46 :: 42 :: 29 :: 5 :: 96 :: 46 :: 182 :: 0 :: 27 :: 87 :: 167 :: 5 :: 64 :: 43 :: 42 :: 29 :: sl_L_law_6
noncomputable def sl_L_law_4 : List UInt8 := 4 :: 96 :: 46 :: 182 :: 0 :: 18 :: 87 :: 44 :: 42 :: 29 :: 4 :: 96 :: 46 :: 182 :: 0 :: 22 :: 87 :: 167 :: 5 :: 97 :: 43 :: 42 :: 29 :: 4 :: 96 :: 46 :: 42 :: 29 :: sl_L_law_5
noncomputable def sl_L_law_3 : List UInt8 := 4 :: 96 :: 46 :: 42 :: 29 :: 5 :: 96 :: 46 :: 42 :: 29 :: 6 :: 96 :: 46 :: 42 :: 29 :: 7 :: 96 :: 46 :: 182 :: 0 :: 17 :: 87 :: 167 :: 5 :: 120 :: 43 :: 42 :: 29 :: sl_L_law_4
noncomputable def sl_L_law_2 : List UInt8 := 43 :: 42 :: 29 :: 4 :: 96 :: 46 :: 42 :: 29 :: 5 :: 96 :: 46 :: 42 :: 29 :: 6 :: 96 :: 46 :: 42 :: 29 :: 7 :: 96 :: 46 :: 182 :: 0 :: 13 :: 87 :: 44 :: 42 :: 29 :: sl_L_law_3
noncomputable def sl_L_law_1 : List UInt8 := 29 :: 46 :: 16 :: 63 :: 126 :: 170 :: 0 :: 0 :: 0 :: 0 :: 6 :: 129 :: 0 :: 0 :: 0 :: 0 :: 0 :: 0 :: 0 :: 49 :: 0 :: 0 :: 0 :: 215 :: 0 :: 0 :: 1 :: 12 :: 0 :: 0 :: 1 :: 35 :: 0 :: 0 :: 1 :: 68 :: 0 :: 0 :: 1 :: 111 :: 0 :: 0 :: 1 :: 144 :: 0 :: 0 :: 1 :: 197 :: 0 :: 0 :: 1 :: 230 :: 0 :: 0 :: 2 :: 17 :: 0 :: 0 :: 2 :: 60 :: 0 :: 0 :: 2 :: 83 :: 0 :: 0 :: 2 :: 116 :: 0 :: 0 :: 2 :: 139 :: 0 :: 0 :: 2 :: 172 :: 0 :: 0 :: 2 :: 195 :: 0 :: 0 :: 2 :: 218 :: 0 :: 0 :: 2 :: 241 :: 0 :: 0 :: 3 :: 8 :: 0 :: 0 :: 3 :: 21 :: 0 :: 0 :: 3 :: 44 :: 0 :: 0 :: 3 :: 77 :: 0 :: 0 :: 3 :: 100 :: 0 :: 0 :: 3 :: 123 :: 0 :: 0 :: 3 :: 146 :: 0 :: 0 :: 3 :: 169 :: 0 :: 0 :: 3 :: 202 :: 0 :: 0 :: 3 :: 225 :: 0 :: 0 :: 3 :: 248 :: 0 :: 0 :: 4 :: 15 :: 0 :: 0 :: 4 :: 38 :: 0 :: 0 :: 4 :: 81 :: 0 :: 0 :: 4 :: 104 :: 0 :: 0 :: 4 :: 137 :: 0 :: 0 :: 4 :: 170 :: 0 :: 0 :: 4 :: 193 :: 0 :: 0 :: 4 :: 216 :: 0 :: 0 :: 4 :: 249 :: 0 :: 0 :: 5 :: 6 :: 0 :: 0 :: 5 :: 19 :: 0 :: 0 :: 5 :: 52 :: 0 :: 0 :: 5 :: 85 :: 0 :: 0 :: 5 :: 128 :: 0 :: 0 :: 5 :: 171 :: 0 :: 0 :: 5 :: 234 :: 0 :: 0 :: 6 :: 11 :: 0 :: 0 :: 6 :: 44 :: 0 :: 0 :: 6 :: 57 :: 0 :: 0 :: 6 :: 70 :: 0 :: 0 :: 6 :: 83 :: 0 :: 0 :: 6 :: 106 :: sl_L_law_2
noncomputable def sl_L_law_0 : List UInt8 := 187 :: 0 :: 7 :: 89 :: 183 :: 0 :: 9 :: 76 :: 187 :: 0 :: 10 :: 89 :: 183 :: 0 :: 12 :: 77 :: 3 :: 62 :: 29 :: 42 :: 190 :: 16 :: 6 :: 100 :: 163 :: 6 :: 144 :: 42 :: sl_L_law_1
set_option maxRecDepth 100000 in
theorem sr_L_law_0 : fd_at cL_law 0 sl_L_law_0 := fd_base (by decide +kernel)
theorem sr_L_law_1 : fd_at cL_law 28 sl_L_law_1 := fd_n 28 sr_L_law_0 rfl
set_option maxRecDepth 100000 in
theorem sr_L_law_2 : fd_at cL_law 248 sl_L_law_2 := fd_n 220 sr_L_law_1 rfl
theorem sr_L_law_3 : fd_at cL_law 276 sl_L_law_3 := fd_n 28 sr_L_law_2 rfl
theorem sr_L_law_4 : fd_at cL_law 304 sl_L_law_4 := fd_n 28 sr_L_law_3 rfl
theorem sr_L_law_5 : fd_at cL_law 332 sl_L_law_5 := fd_n 28 sr_L_law_4 rfl
theorem sr_L_law_6 : fd_at cL_law 360 sl_L_law_6 := fd_n 28 sr_L_law_5 rfl
theorem sr_L_law_7 : fd_at cL_law 388 sl_L_law_7 := fd_n 28 sr_L_law_6 rfl
theorem sr_L_law_8 : fd_at cL_law 416 sl_L_law_8 := fd_n 28 sr_L_law_7 rfl
theorem sr_L_law_9 : fd_at cL_law 444 sl_L_law_9 := fd_n 28 sr_L_law_8 rfl
theorem sr_L_law_10 : fd_at cL_law 472 sl_L_law_10 := fd_n 28 sr_L_law_9 rfl
theorem sr_L_law_11 : fd_at cL_law 500 sl_L_law_11 := fd_n 28 sr_L_law_10 rfl
theorem sr_L_law_12 : fd_at cL_law 528 sl_L_law_12 := fd_n 28 sr_L_law_11 rfl
theorem sr_L_law_13 : fd_at cL_law 558 sl_L_law_13 := fd_n 30 sr_L_law_12 rfl
theorem sr_L_law_14 : fd_at cL_law 586 sl_L_law_14 := fd_n 28 sr_L_law_13 rfl
theorem sr_L_law_15 : fd_at cL_law 614 sl_L_law_15 := fd_n 28 sr_L_law_14 rfl
theorem sr_L_law_16 : fd_at cL_law 642 sl_L_law_16 := fd_n 28 sr_L_law_15 rfl
theorem sr_L_law_17 : fd_at cL_law 670 sl_L_law_17 := fd_n 28 sr_L_law_16 rfl
theorem sr_L_law_18 : fd_at cL_law 698 sl_L_law_18 := fd_n 28 sr_L_law_17 rfl
theorem sr_L_law_19 : fd_at cL_law 726 sl_L_law_19 := fd_n 28 sr_L_law_18 rfl
theorem sr_L_law_20 : fd_at cL_law 754 sl_L_law_20 := fd_n 28 sr_L_law_19 rfl
theorem sr_L_law_21 : fd_at cL_law 782 sl_L_law_21 := fd_n 28 sr_L_law_20 rfl
theorem sr_L_law_22 : fd_at cL_law 810 sl_L_law_22 := fd_n 28 sr_L_law_21 rfl
theorem sr_L_law_23 : fd_at cL_law 838 sl_L_law_23 := fd_n 28 sr_L_law_22 rfl
theorem sr_L_law_24 : fd_at cL_law 866 sl_L_law_24 := fd_n 28 sr_L_law_23 rfl
theorem sr_L_law_25 : fd_at cL_law 894 sl_L_law_25 := fd_n 28 sr_L_law_24 rfl
theorem sr_L_law_26 : fd_at cL_law 924 sl_L_law_26 := fd_n 30 sr_L_law_25 rfl
theorem sr_L_law_27 : fd_at cL_law 952 sl_L_law_27 := fd_n 28 sr_L_law_26 rfl
theorem sr_L_law_28 : fd_at cL_law 980 sl_L_law_28 := fd_n 28 sr_L_law_27 rfl
theorem sr_L_law_29 : fd_at cL_law 1008 sl_L_law_29 := fd_n 28 sr_L_law_28 rfl
theorem sr_L_law_30 : fd_at cL_law 1036 sl_L_law_30 := fd_n 28 sr_L_law_29 rfl
theorem sr_L_law_31 : fd_at cL_law 1064 sl_L_law_31 := fd_n 28 sr_L_law_30 rfl
theorem sr_L_law_32 : fd_at cL_law 1092 sl_L_law_32 := fd_n 28 sr_L_law_31 rfl
theorem sr_L_law_33 : fd_at cL_law 1120 sl_L_law_33 := fd_n 28 sr_L_law_32 rfl
theorem sr_L_law_34 : fd_at cL_law 1148 sl_L_law_34 := fd_n 28 sr_L_law_33 rfl
theorem sr_L_law_35 : fd_at cL_law 1176 sl_L_law_35 := fd_n 28 sr_L_law_34 rfl
theorem sr_L_law_36 : fd_at cL_law 1204 sl_L_law_36 := fd_n 28 sr_L_law_35 rfl
theorem sr_L_law_37 : fd_at cL_law 1232 sl_L_law_37 := fd_n 28 sr_L_law_36 rfl
theorem sr_L_law_38 : fd_at cL_law 1260 sl_L_law_38 := fd_n 28 sr_L_law_37 rfl
theorem sr_L_law_39 : fd_at cL_law 1288 sl_L_law_39 := fd_n 28 sr_L_law_38 rfl
theorem sr_L_law_40 : fd_at cL_law 1316 sl_L_law_40 := fd_n 28 sr_L_law_39 rfl
theorem sr_L_law_41 : fd_at cL_law 1346 sl_L_law_41 := fd_n 30 sr_L_law_40 rfl
theorem sr_L_law_42 : fd_at cL_law 1374 sl_L_law_42 := fd_n 28 sr_L_law_41 rfl
theorem sr_L_law_43 : fd_at cL_law 1402 sl_L_law_43 := fd_n 28 sr_L_law_42 rfl
theorem sr_L_law_44 : fd_at cL_law 1430 sl_L_law_44 := fd_n 28 sr_L_law_43 rfl
theorem sr_L_law_45 : fd_at cL_law 1460 sl_L_law_45 := fd_n 30 sr_L_law_44 rfl
theorem sr_L_law_46 : fd_at cL_law 1488 sl_L_law_46 := fd_n 28 sr_L_law_45 rfl
theorem sr_L_law_47 : fd_at cL_law 1516 sl_L_law_47 := fd_n 28 sr_L_law_46 rfl
theorem sr_L_law_48 : fd_at cL_law 1544 sl_L_law_48 := fd_n 28 sr_L_law_47 rfl
theorem sr_L_law_49 : fd_at cL_law 1572 sl_L_law_49 := fd_n 28 sr_L_law_48 rfl
theorem sr_L_law_50 : fd_at cL_law 1600 sl_L_law_50 := fd_n 28 sr_L_law_49 rfl
theorem sr_L_law_51 : fd_at cL_law 1630 sl_L_law_51 := fd_n 30 sr_L_law_50 rfl
theorem sr_L_law_52 : fd_at cL_law 1658 sl_L_law_52 := fd_n 28 sr_L_law_51 rfl
theorem sr_L_law_53 : fd_at cL_law 1686 sl_L_law_53 := fd_n 28 sr_L_law_52 rfl
theorem dL_law_0 : decode cL_law 0 = .ok (.new 7, 3) := fo_187 sr_L_law_0 rfl
theorem dL_law_3 : decode cL_law 3 = .ok (.dup, 1) := fo_89 (fd_n 3 sr_L_law_0 rfl)
theorem dL_law_4 : decode cL_law 4 = .ok (.invokespecial 9, 3) := fo_183 (fd_n 4 sr_L_law_0 rfl) rfl
theorem dL_law_7 : decode cL_law 7 = .ok (.astore_n 1, 1) := fo_76 (fd_n 7 sr_L_law_0 rfl)
theorem dL_law_8 : decode cL_law 8 = .ok (.new 10, 3) := fo_187 (fd_n 8 sr_L_law_0 rfl) rfl
theorem dL_law_11 : decode cL_law 11 = .ok (.dup, 1) := fo_89 (fd_n 11 sr_L_law_0 rfl)
theorem dL_law_12 : decode cL_law 12 = .ok (.invokespecial 12, 3) := fo_183 (fd_n 12 sr_L_law_0 rfl) rfl
theorem dL_law_15 : decode cL_law 15 = .ok (.astore_n 2, 1) := fo_77 (fd_n 15 sr_L_law_0 rfl)
theorem dL_law_16 : decode cL_law 16 = .ok (.iconst 0, 1) := fo_3 (fd_n 16 sr_L_law_0 rfl)
theorem dL_law_17 : decode cL_law 17 = .ok (.istore_n 3, 1) := fo_62 (fd_n 17 sr_L_law_0 rfl)
theorem dL_law_18 : decode cL_law 18 = .ok (.iload_n 3, 1) := fo_29 (fd_n 18 sr_L_law_0 rfl)
theorem dL_law_19 : decode cL_law 19 = .ok (.aload_n 0, 1) := fo_42 (fd_n 19 sr_L_law_0 rfl)
theorem dL_law_20 : decode cL_law 20 = .ok (.arraylength, 1) := fo_190 (fd_n 20 sr_L_law_0 rfl)
theorem dL_law_21 : decode cL_law 21 = .ok (.bipush 6, 2) := fo_16 (fd_n 21 sr_L_law_0 rfl) (by decide +kernel)
theorem dL_law_23 : decode cL_law 23 = .ok (.isub, 1) := fo_100 (fd_n 23 sr_L_law_0 rfl)
theorem dL_law_24 : decode cL_law 24 = .ok (.if_icmp .gt 1680, 3) := fo_163 (fd_n 24 sr_L_law_0 rfl) (by decide +kernel)
theorem dL_law_27 : decode cL_law 27 = .ok (.aload_n 0, 1) := fo_42 (fd_n 27 sr_L_law_0 rfl)
theorem dL_law_28 : decode cL_law 28 = .ok (.iload_n 3, 1) := fo_29 sr_L_law_1
theorem dL_law_29 : decode cL_law 29 = .ok (.iaload, 1) := fo_46 (fd_n 1 sr_L_law_1 rfl)
theorem dL_law_30 : decode cL_law 30 = .ok (.bipush 63, 2) := fo_16 (fd_n 2 sr_L_law_1 rfl) (by decide +kernel)
theorem dL_law_32 : decode cL_law 32 = .ok (.iand, 1) := fo_126 (fd_n 4 sr_L_law_1 rfl)
theorem dL_law_248 : decode cL_law 248 = .ok (.aload_n 1, 1) := fo_43 sr_L_law_2
theorem dL_law_249 : decode cL_law 249 = .ok (.aload_n 0, 1) := fo_42 (fd_n 1 sr_L_law_2 rfl)
theorem dL_law_250 : decode cL_law 250 = .ok (.iload_n 3, 1) := fo_29 (fd_n 2 sr_L_law_2 rfl)
theorem dL_law_251 : decode cL_law 251 = .ok (.iconst 1, 1) := fo_4 (fd_n 3 sr_L_law_2 rfl)
theorem dL_law_252 : decode cL_law 252 = .ok (.iadd, 1) := fo_96 (fd_n 4 sr_L_law_2 rfl)
theorem dL_law_253 : decode cL_law 253 = .ok (.iaload, 1) := fo_46 (fd_n 5 sr_L_law_2 rfl)
theorem dL_law_254 : decode cL_law 254 = .ok (.aload_n 0, 1) := fo_42 (fd_n 6 sr_L_law_2 rfl)
theorem dL_law_255 : decode cL_law 255 = .ok (.iload_n 3, 1) := fo_29 (fd_n 7 sr_L_law_2 rfl)
theorem dL_law_256 : decode cL_law 256 = .ok (.iconst 2, 1) := fo_5 (fd_n 8 sr_L_law_2 rfl)
theorem dL_law_257 : decode cL_law 257 = .ok (.iadd, 1) := fo_96 (fd_n 9 sr_L_law_2 rfl)
theorem dL_law_258 : decode cL_law 258 = .ok (.iaload, 1) := fo_46 (fd_n 10 sr_L_law_2 rfl)
theorem dL_law_259 : decode cL_law 259 = .ok (.aload_n 0, 1) := fo_42 (fd_n 11 sr_L_law_2 rfl)
theorem dL_law_260 : decode cL_law 260 = .ok (.iload_n 3, 1) := fo_29 (fd_n 12 sr_L_law_2 rfl)
theorem dL_law_261 : decode cL_law 261 = .ok (.iconst 3, 1) := fo_6 (fd_n 13 sr_L_law_2 rfl)
theorem dL_law_262 : decode cL_law 262 = .ok (.iadd, 1) := fo_96 (fd_n 14 sr_L_law_2 rfl)
theorem dL_law_263 : decode cL_law 263 = .ok (.iaload, 1) := fo_46 (fd_n 15 sr_L_law_2 rfl)
theorem dL_law_264 : decode cL_law 264 = .ok (.aload_n 0, 1) := fo_42 (fd_n 16 sr_L_law_2 rfl)
theorem dL_law_265 : decode cL_law 265 = .ok (.iload_n 3, 1) := fo_29 (fd_n 17 sr_L_law_2 rfl)
theorem dL_law_266 : decode cL_law 266 = .ok (.iconst 4, 1) := fo_7 (fd_n 18 sr_L_law_2 rfl)
theorem dL_law_267 : decode cL_law 267 = .ok (.iadd, 1) := fo_96 (fd_n 19 sr_L_law_2 rfl)
theorem dL_law_268 : decode cL_law 268 = .ok (.iaload, 1) := fo_46 (fd_n 20 sr_L_law_2 rfl)
theorem dL_law_269 : decode cL_law 269 = .ok (.invokevirtual 13, 3) := fo_182 (fd_n 21 sr_L_law_2 rfl) rfl
theorem dL_law_272 : decode cL_law 272 = .ok (.pop, 1) := fo_87 (fd_n 24 sr_L_law_2 rfl)
theorem dL_law_273 : decode cL_law 273 = .ok (.aload_n 2, 1) := fo_44 (fd_n 25 sr_L_law_2 rfl)
theorem dL_law_274 : decode cL_law 274 = .ok (.aload_n 0, 1) := fo_42 (fd_n 26 sr_L_law_2 rfl)
theorem dL_law_275 : decode cL_law 275 = .ok (.iload_n 3, 1) := fo_29 (fd_n 27 sr_L_law_2 rfl)
theorem dL_law_276 : decode cL_law 276 = .ok (.iconst 1, 1) := fo_4 sr_L_law_3
theorem dL_law_277 : decode cL_law 277 = .ok (.iadd, 1) := fo_96 (fd_n 1 sr_L_law_3 rfl)
theorem dL_law_278 : decode cL_law 278 = .ok (.iaload, 1) := fo_46 (fd_n 2 sr_L_law_3 rfl)
theorem dL_law_279 : decode cL_law 279 = .ok (.aload_n 0, 1) := fo_42 (fd_n 3 sr_L_law_3 rfl)
theorem dL_law_280 : decode cL_law 280 = .ok (.iload_n 3, 1) := fo_29 (fd_n 4 sr_L_law_3 rfl)
theorem dL_law_281 : decode cL_law 281 = .ok (.iconst 2, 1) := fo_5 (fd_n 5 sr_L_law_3 rfl)
theorem dL_law_282 : decode cL_law 282 = .ok (.iadd, 1) := fo_96 (fd_n 6 sr_L_law_3 rfl)
theorem dL_law_283 : decode cL_law 283 = .ok (.iaload, 1) := fo_46 (fd_n 7 sr_L_law_3 rfl)
theorem dL_law_284 : decode cL_law 284 = .ok (.aload_n 0, 1) := fo_42 (fd_n 8 sr_L_law_3 rfl)
theorem dL_law_285 : decode cL_law 285 = .ok (.iload_n 3, 1) := fo_29 (fd_n 9 sr_L_law_3 rfl)
theorem dL_law_286 : decode cL_law 286 = .ok (.iconst 3, 1) := fo_6 (fd_n 10 sr_L_law_3 rfl)
theorem dL_law_287 : decode cL_law 287 = .ok (.iadd, 1) := fo_96 (fd_n 11 sr_L_law_3 rfl)
theorem dL_law_288 : decode cL_law 288 = .ok (.iaload, 1) := fo_46 (fd_n 12 sr_L_law_3 rfl)
theorem dL_law_289 : decode cL_law 289 = .ok (.aload_n 0, 1) := fo_42 (fd_n 13 sr_L_law_3 rfl)
theorem dL_law_290 : decode cL_law 290 = .ok (.iload_n 3, 1) := fo_29 (fd_n 14 sr_L_law_3 rfl)
theorem dL_law_291 : decode cL_law 291 = .ok (.iconst 4, 1) := fo_7 (fd_n 15 sr_L_law_3 rfl)
theorem dL_law_292 : decode cL_law 292 = .ok (.iadd, 1) := fo_96 (fd_n 16 sr_L_law_3 rfl)
theorem dL_law_293 : decode cL_law 293 = .ok (.iaload, 1) := fo_46 (fd_n 17 sr_L_law_3 rfl)
theorem dL_law_294 : decode cL_law 294 = .ok (.invokevirtual 17, 3) := fo_182 (fd_n 18 sr_L_law_3 rfl) rfl
theorem dL_law_297 : decode cL_law 297 = .ok (.pop, 1) := fo_87 (fd_n 21 sr_L_law_3 rfl)
theorem dL_law_298 : decode cL_law 298 = .ok (.goto 1400, 3) := fo_167 (fd_n 22 sr_L_law_3 rfl) (by decide +kernel)
theorem dL_law_301 : decode cL_law 301 = .ok (.aload_n 1, 1) := fo_43 (fd_n 25 sr_L_law_3 rfl)
theorem dL_law_302 : decode cL_law 302 = .ok (.aload_n 0, 1) := fo_42 (fd_n 26 sr_L_law_3 rfl)
theorem dL_law_303 : decode cL_law 303 = .ok (.iload_n 3, 1) := fo_29 (fd_n 27 sr_L_law_3 rfl)
theorem dL_law_304 : decode cL_law 304 = .ok (.iconst 1, 1) := fo_4 sr_L_law_4
theorem dL_law_305 : decode cL_law 305 = .ok (.iadd, 1) := fo_96 (fd_n 1 sr_L_law_4 rfl)
theorem dL_law_306 : decode cL_law 306 = .ok (.iaload, 1) := fo_46 (fd_n 2 sr_L_law_4 rfl)
theorem dL_law_307 : decode cL_law 307 = .ok (.invokevirtual 18, 3) := fo_182 (fd_n 3 sr_L_law_4 rfl) rfl
theorem dL_law_310 : decode cL_law 310 = .ok (.pop, 1) := fo_87 (fd_n 6 sr_L_law_4 rfl)
theorem dL_law_311 : decode cL_law 311 = .ok (.aload_n 2, 1) := fo_44 (fd_n 7 sr_L_law_4 rfl)
theorem dL_law_312 : decode cL_law 312 = .ok (.aload_n 0, 1) := fo_42 (fd_n 8 sr_L_law_4 rfl)
theorem dL_law_313 : decode cL_law 313 = .ok (.iload_n 3, 1) := fo_29 (fd_n 9 sr_L_law_4 rfl)
theorem dL_law_314 : decode cL_law 314 = .ok (.iconst 1, 1) := fo_4 (fd_n 10 sr_L_law_4 rfl)
theorem dL_law_315 : decode cL_law 315 = .ok (.iadd, 1) := fo_96 (fd_n 11 sr_L_law_4 rfl)
theorem dL_law_316 : decode cL_law 316 = .ok (.iaload, 1) := fo_46 (fd_n 12 sr_L_law_4 rfl)
theorem dL_law_317 : decode cL_law 317 = .ok (.invokevirtual 22, 3) := fo_182 (fd_n 13 sr_L_law_4 rfl) rfl
theorem dL_law_320 : decode cL_law 320 = .ok (.pop, 1) := fo_87 (fd_n 16 sr_L_law_4 rfl)
theorem dL_law_321 : decode cL_law 321 = .ok (.goto 1377, 3) := fo_167 (fd_n 17 sr_L_law_4 rfl) (by decide +kernel)
theorem dL_law_324 : decode cL_law 324 = .ok (.aload_n 1, 1) := fo_43 (fd_n 20 sr_L_law_4 rfl)
theorem dL_law_325 : decode cL_law 325 = .ok (.aload_n 0, 1) := fo_42 (fd_n 21 sr_L_law_4 rfl)
theorem dL_law_326 : decode cL_law 326 = .ok (.iload_n 3, 1) := fo_29 (fd_n 22 sr_L_law_4 rfl)
theorem dL_law_327 : decode cL_law 327 = .ok (.iconst 1, 1) := fo_4 (fd_n 23 sr_L_law_4 rfl)
theorem dL_law_328 : decode cL_law 328 = .ok (.iadd, 1) := fo_96 (fd_n 24 sr_L_law_4 rfl)
theorem dL_law_329 : decode cL_law 329 = .ok (.iaload, 1) := fo_46 (fd_n 25 sr_L_law_4 rfl)
theorem dL_law_330 : decode cL_law 330 = .ok (.aload_n 0, 1) := fo_42 (fd_n 26 sr_L_law_4 rfl)
theorem dL_law_331 : decode cL_law 331 = .ok (.iload_n 3, 1) := fo_29 (fd_n 27 sr_L_law_4 rfl)
theorem dL_law_332 : decode cL_law 332 = .ok (.iconst 2, 1) := fo_5 sr_L_law_5
theorem dL_law_333 : decode cL_law 333 = .ok (.iadd, 1) := fo_96 (fd_n 1 sr_L_law_5 rfl)
theorem dL_law_334 : decode cL_law 334 = .ok (.iaload, 1) := fo_46 (fd_n 2 sr_L_law_5 rfl)
theorem dL_law_335 : decode cL_law 335 = .ok (.invokevirtual 23, 3) := fo_182 (fd_n 3 sr_L_law_5 rfl) rfl
theorem dL_law_338 : decode cL_law 338 = .ok (.pop, 1) := fo_87 (fd_n 6 sr_L_law_5 rfl)
theorem dL_law_339 : decode cL_law 339 = .ok (.aload_n 2, 1) := fo_44 (fd_n 7 sr_L_law_5 rfl)
theorem dL_law_340 : decode cL_law 340 = .ok (.aload_n 0, 1) := fo_42 (fd_n 8 sr_L_law_5 rfl)
theorem dL_law_341 : decode cL_law 341 = .ok (.iload_n 3, 1) := fo_29 (fd_n 9 sr_L_law_5 rfl)
theorem dL_law_342 : decode cL_law 342 = .ok (.iconst 1, 1) := fo_4 (fd_n 10 sr_L_law_5 rfl)
theorem dL_law_343 : decode cL_law 343 = .ok (.iadd, 1) := fo_96 (fd_n 11 sr_L_law_5 rfl)
theorem dL_law_344 : decode cL_law 344 = .ok (.iaload, 1) := fo_46 (fd_n 12 sr_L_law_5 rfl)
theorem dL_law_345 : decode cL_law 345 = .ok (.aload_n 0, 1) := fo_42 (fd_n 13 sr_L_law_5 rfl)
theorem dL_law_346 : decode cL_law 346 = .ok (.iload_n 3, 1) := fo_29 (fd_n 14 sr_L_law_5 rfl)
theorem dL_law_347 : decode cL_law 347 = .ok (.iconst 2, 1) := fo_5 (fd_n 15 sr_L_law_5 rfl)
theorem dL_law_348 : decode cL_law 348 = .ok (.iadd, 1) := fo_96 (fd_n 16 sr_L_law_5 rfl)
theorem dL_law_349 : decode cL_law 349 = .ok (.iaload, 1) := fo_46 (fd_n 17 sr_L_law_5 rfl)
theorem dL_law_350 : decode cL_law 350 = .ok (.invokevirtual 27, 3) := fo_182 (fd_n 18 sr_L_law_5 rfl) rfl
theorem dL_law_353 : decode cL_law 353 = .ok (.pop, 1) := fo_87 (fd_n 21 sr_L_law_5 rfl)
theorem dL_law_354 : decode cL_law 354 = .ok (.goto 1344, 3) := fo_167 (fd_n 22 sr_L_law_5 rfl) (by decide +kernel)
theorem dL_law_357 : decode cL_law 357 = .ok (.aload_n 1, 1) := fo_43 (fd_n 25 sr_L_law_5 rfl)
theorem dL_law_358 : decode cL_law 358 = .ok (.aload_n 0, 1) := fo_42 (fd_n 26 sr_L_law_5 rfl)
theorem dL_law_359 : decode cL_law 359 = .ok (.iload_n 3, 1) := fo_29 (fd_n 27 sr_L_law_5 rfl)
theorem dL_law_360 : decode cL_law 360 = .ok (.iconst 1, 1) := fo_4 sr_L_law_6
theorem dL_law_361 : decode cL_law 361 = .ok (.iadd, 1) := fo_96 (fd_n 1 sr_L_law_6 rfl)
theorem dL_law_362 : decode cL_law 362 = .ok (.iaload, 1) := fo_46 (fd_n 2 sr_L_law_6 rfl)
theorem dL_law_363 : decode cL_law 363 = .ok (.aload_n 0, 1) := fo_42 (fd_n 3 sr_L_law_6 rfl)
theorem dL_law_364 : decode cL_law 364 = .ok (.iload_n 3, 1) := fo_29 (fd_n 4 sr_L_law_6 rfl)
theorem dL_law_365 : decode cL_law 365 = .ok (.iconst 2, 1) := fo_5 (fd_n 5 sr_L_law_6 rfl)
theorem dL_law_366 : decode cL_law 366 = .ok (.iadd, 1) := fo_96 (fd_n 6 sr_L_law_6 rfl)
theorem dL_law_367 : decode cL_law 367 = .ok (.iaload, 1) := fo_46 (fd_n 7 sr_L_law_6 rfl)
theorem dL_law_368 : decode cL_law 368 = .ok (.aload_n 0, 1) := fo_42 (fd_n 8 sr_L_law_6 rfl)
theorem dL_law_369 : decode cL_law 369 = .ok (.iload_n 3, 1) := fo_29 (fd_n 9 sr_L_law_6 rfl)
theorem dL_law_370 : decode cL_law 370 = .ok (.iconst 3, 1) := fo_6 (fd_n 10 sr_L_law_6 rfl)
theorem dL_law_371 : decode cL_law 371 = .ok (.iadd, 1) := fo_96 (fd_n 11 sr_L_law_6 rfl)
theorem dL_law_372 : decode cL_law 372 = .ok (.iaload, 1) := fo_46 (fd_n 12 sr_L_law_6 rfl)
theorem dL_law_373 : decode cL_law 373 = .ok (.invokevirtual 28, 3) := fo_182 (fd_n 13 sr_L_law_6 rfl) rfl
theorem dL_law_376 : decode cL_law 376 = .ok (.pop, 1) := fo_87 (fd_n 16 sr_L_law_6 rfl)
theorem dL_law_377 : decode cL_law 377 = .ok (.aload_n 2, 1) := fo_44 (fd_n 17 sr_L_law_6 rfl)
theorem dL_law_378 : decode cL_law 378 = .ok (.aload_n 0, 1) := fo_42 (fd_n 18 sr_L_law_6 rfl)
theorem dL_law_379 : decode cL_law 379 = .ok (.iload_n 3, 1) := fo_29 (fd_n 19 sr_L_law_6 rfl)
theorem dL_law_380 : decode cL_law 380 = .ok (.iconst 1, 1) := fo_4 (fd_n 20 sr_L_law_6 rfl)
theorem dL_law_381 : decode cL_law 381 = .ok (.iadd, 1) := fo_96 (fd_n 21 sr_L_law_6 rfl)
theorem dL_law_382 : decode cL_law 382 = .ok (.iaload, 1) := fo_46 (fd_n 22 sr_L_law_6 rfl)
theorem dL_law_383 : decode cL_law 383 = .ok (.aload_n 0, 1) := fo_42 (fd_n 23 sr_L_law_6 rfl)
theorem dL_law_384 : decode cL_law 384 = .ok (.iload_n 3, 1) := fo_29 (fd_n 24 sr_L_law_6 rfl)
theorem dL_law_385 : decode cL_law 385 = .ok (.iconst 2, 1) := fo_5 (fd_n 25 sr_L_law_6 rfl)
theorem dL_law_386 : decode cL_law 386 = .ok (.iadd, 1) := fo_96 (fd_n 26 sr_L_law_6 rfl)
theorem dL_law_387 : decode cL_law 387 = .ok (.iaload, 1) := fo_46 (fd_n 27 sr_L_law_6 rfl)
theorem dL_law_388 : decode cL_law 388 = .ok (.aload_n 0, 1) := fo_42 sr_L_law_7
theorem dL_law_389 : decode cL_law 389 = .ok (.iload_n 3, 1) := fo_29 (fd_n 1 sr_L_law_7 rfl)
theorem dL_law_390 : decode cL_law 390 = .ok (.iconst 3, 1) := fo_6 (fd_n 2 sr_L_law_7 rfl)
theorem dL_law_391 : decode cL_law 391 = .ok (.iadd, 1) := fo_96 (fd_n 3 sr_L_law_7 rfl)
theorem dL_law_392 : decode cL_law 392 = .ok (.iaload, 1) := fo_46 (fd_n 4 sr_L_law_7 rfl)
theorem dL_law_393 : decode cL_law 393 = .ok (.invokevirtual 32, 3) := fo_182 (fd_n 5 sr_L_law_7 rfl) rfl
theorem dL_law_396 : decode cL_law 396 = .ok (.pop, 1) := fo_87 (fd_n 8 sr_L_law_7 rfl)
theorem dL_law_397 : decode cL_law 397 = .ok (.goto 1301, 3) := fo_167 (fd_n 9 sr_L_law_7 rfl) (by decide +kernel)
theorem dL_law_400 : decode cL_law 400 = .ok (.aload_n 1, 1) := fo_43 (fd_n 12 sr_L_law_7 rfl)
theorem dL_law_401 : decode cL_law 401 = .ok (.aload_n 0, 1) := fo_42 (fd_n 13 sr_L_law_7 rfl)
theorem dL_law_402 : decode cL_law 402 = .ok (.iload_n 3, 1) := fo_29 (fd_n 14 sr_L_law_7 rfl)
theorem dL_law_403 : decode cL_law 403 = .ok (.iconst 1, 1) := fo_4 (fd_n 15 sr_L_law_7 rfl)
theorem dL_law_404 : decode cL_law 404 = .ok (.iadd, 1) := fo_96 (fd_n 16 sr_L_law_7 rfl)
theorem dL_law_405 : decode cL_law 405 = .ok (.iaload, 1) := fo_46 (fd_n 17 sr_L_law_7 rfl)
theorem dL_law_406 : decode cL_law 406 = .ok (.aload_n 0, 1) := fo_42 (fd_n 18 sr_L_law_7 rfl)
theorem dL_law_407 : decode cL_law 407 = .ok (.iload_n 3, 1) := fo_29 (fd_n 19 sr_L_law_7 rfl)
theorem dL_law_408 : decode cL_law 408 = .ok (.iconst 2, 1) := fo_5 (fd_n 20 sr_L_law_7 rfl)
theorem dL_law_409 : decode cL_law 409 = .ok (.iadd, 1) := fo_96 (fd_n 21 sr_L_law_7 rfl)
theorem dL_law_410 : decode cL_law 410 = .ok (.iaload, 1) := fo_46 (fd_n 22 sr_L_law_7 rfl)
theorem dL_law_411 : decode cL_law 411 = .ok (.invokevirtual 33, 3) := fo_182 (fd_n 23 sr_L_law_7 rfl) rfl
theorem dL_law_414 : decode cL_law 414 = .ok (.pop, 1) := fo_87 (fd_n 26 sr_L_law_7 rfl)
theorem dL_law_415 : decode cL_law 415 = .ok (.aload_n 2, 1) := fo_44 (fd_n 27 sr_L_law_7 rfl)
theorem dL_law_416 : decode cL_law 416 = .ok (.aload_n 0, 1) := fo_42 sr_L_law_8
theorem dL_law_417 : decode cL_law 417 = .ok (.iload_n 3, 1) := fo_29 (fd_n 1 sr_L_law_8 rfl)
theorem dL_law_418 : decode cL_law 418 = .ok (.iconst 1, 1) := fo_4 (fd_n 2 sr_L_law_8 rfl)
theorem dL_law_419 : decode cL_law 419 = .ok (.iadd, 1) := fo_96 (fd_n 3 sr_L_law_8 rfl)
theorem dL_law_420 : decode cL_law 420 = .ok (.iaload, 1) := fo_46 (fd_n 4 sr_L_law_8 rfl)
theorem dL_law_421 : decode cL_law 421 = .ok (.aload_n 0, 1) := fo_42 (fd_n 5 sr_L_law_8 rfl)
theorem dL_law_422 : decode cL_law 422 = .ok (.iload_n 3, 1) := fo_29 (fd_n 6 sr_L_law_8 rfl)
theorem dL_law_423 : decode cL_law 423 = .ok (.iconst 2, 1) := fo_5 (fd_n 7 sr_L_law_8 rfl)
theorem dL_law_424 : decode cL_law 424 = .ok (.iadd, 1) := fo_96 (fd_n 8 sr_L_law_8 rfl)
theorem dL_law_425 : decode cL_law 425 = .ok (.iaload, 1) := fo_46 (fd_n 9 sr_L_law_8 rfl)
theorem dL_law_426 : decode cL_law 426 = .ok (.invokevirtual 36, 3) := fo_182 (fd_n 10 sr_L_law_8 rfl) rfl
theorem dL_law_429 : decode cL_law 429 = .ok (.pop, 1) := fo_87 (fd_n 13 sr_L_law_8 rfl)
theorem dL_law_430 : decode cL_law 430 = .ok (.goto 1268, 3) := fo_167 (fd_n 14 sr_L_law_8 rfl) (by decide +kernel)
theorem dL_law_433 : decode cL_law 433 = .ok (.aload_n 1, 1) := fo_43 (fd_n 17 sr_L_law_8 rfl)
theorem dL_law_434 : decode cL_law 434 = .ok (.aload_n 0, 1) := fo_42 (fd_n 18 sr_L_law_8 rfl)
theorem dL_law_435 : decode cL_law 435 = .ok (.iload_n 3, 1) := fo_29 (fd_n 19 sr_L_law_8 rfl)
theorem dL_law_436 : decode cL_law 436 = .ok (.iconst 1, 1) := fo_4 (fd_n 20 sr_L_law_8 rfl)
theorem dL_law_437 : decode cL_law 437 = .ok (.iadd, 1) := fo_96 (fd_n 21 sr_L_law_8 rfl)
theorem dL_law_438 : decode cL_law 438 = .ok (.iaload, 1) := fo_46 (fd_n 22 sr_L_law_8 rfl)
theorem dL_law_439 : decode cL_law 439 = .ok (.aload_n 0, 1) := fo_42 (fd_n 23 sr_L_law_8 rfl)
theorem dL_law_440 : decode cL_law 440 = .ok (.iload_n 3, 1) := fo_29 (fd_n 24 sr_L_law_8 rfl)
theorem dL_law_441 : decode cL_law 441 = .ok (.iconst 2, 1) := fo_5 (fd_n 25 sr_L_law_8 rfl)
theorem dL_law_442 : decode cL_law 442 = .ok (.iadd, 1) := fo_96 (fd_n 26 sr_L_law_8 rfl)
theorem dL_law_443 : decode cL_law 443 = .ok (.iaload, 1) := fo_46 (fd_n 27 sr_L_law_8 rfl)
theorem dL_law_444 : decode cL_law 444 = .ok (.aload_n 0, 1) := fo_42 sr_L_law_9
theorem dL_law_445 : decode cL_law 445 = .ok (.iload_n 3, 1) := fo_29 (fd_n 1 sr_L_law_9 rfl)
theorem dL_law_446 : decode cL_law 446 = .ok (.iconst 3, 1) := fo_6 (fd_n 2 sr_L_law_9 rfl)
theorem dL_law_447 : decode cL_law 447 = .ok (.iadd, 1) := fo_96 (fd_n 3 sr_L_law_9 rfl)
theorem dL_law_448 : decode cL_law 448 = .ok (.iaload, 1) := fo_46 (fd_n 4 sr_L_law_9 rfl)
theorem dL_law_449 : decode cL_law 449 = .ok (.aload_n 0, 1) := fo_42 (fd_n 5 sr_L_law_9 rfl)
theorem dL_law_450 : decode cL_law 450 = .ok (.iload_n 3, 1) := fo_29 (fd_n 6 sr_L_law_9 rfl)
theorem dL_law_451 : decode cL_law 451 = .ok (.iconst 4, 1) := fo_7 (fd_n 7 sr_L_law_9 rfl)
theorem dL_law_452 : decode cL_law 452 = .ok (.iadd, 1) := fo_96 (fd_n 8 sr_L_law_9 rfl)
theorem dL_law_453 : decode cL_law 453 = .ok (.iaload, 1) := fo_46 (fd_n 9 sr_L_law_9 rfl)
theorem dL_law_454 : decode cL_law 454 = .ok (.invokevirtual 37, 3) := fo_182 (fd_n 10 sr_L_law_9 rfl) rfl
theorem dL_law_457 : decode cL_law 457 = .ok (.pop, 1) := fo_87 (fd_n 13 sr_L_law_9 rfl)
theorem dL_law_458 : decode cL_law 458 = .ok (.aload_n 2, 1) := fo_44 (fd_n 14 sr_L_law_9 rfl)
theorem dL_law_459 : decode cL_law 459 = .ok (.aload_n 0, 1) := fo_42 (fd_n 15 sr_L_law_9 rfl)
theorem dL_law_460 : decode cL_law 460 = .ok (.iload_n 3, 1) := fo_29 (fd_n 16 sr_L_law_9 rfl)
theorem dL_law_461 : decode cL_law 461 = .ok (.iconst 1, 1) := fo_4 (fd_n 17 sr_L_law_9 rfl)
theorem dL_law_462 : decode cL_law 462 = .ok (.iadd, 1) := fo_96 (fd_n 18 sr_L_law_9 rfl)
theorem dL_law_463 : decode cL_law 463 = .ok (.iaload, 1) := fo_46 (fd_n 19 sr_L_law_9 rfl)
theorem dL_law_464 : decode cL_law 464 = .ok (.aload_n 0, 1) := fo_42 (fd_n 20 sr_L_law_9 rfl)
theorem dL_law_465 : decode cL_law 465 = .ok (.iload_n 3, 1) := fo_29 (fd_n 21 sr_L_law_9 rfl)
theorem dL_law_466 : decode cL_law 466 = .ok (.iconst 2, 1) := fo_5 (fd_n 22 sr_L_law_9 rfl)
theorem dL_law_467 : decode cL_law 467 = .ok (.iadd, 1) := fo_96 (fd_n 23 sr_L_law_9 rfl)
theorem dL_law_468 : decode cL_law 468 = .ok (.iaload, 1) := fo_46 (fd_n 24 sr_L_law_9 rfl)
theorem dL_law_469 : decode cL_law 469 = .ok (.aload_n 0, 1) := fo_42 (fd_n 25 sr_L_law_9 rfl)
theorem dL_law_470 : decode cL_law 470 = .ok (.iload_n 3, 1) := fo_29 (fd_n 26 sr_L_law_9 rfl)
theorem dL_law_471 : decode cL_law 471 = .ok (.iconst 3, 1) := fo_6 (fd_n 27 sr_L_law_9 rfl)
theorem dL_law_472 : decode cL_law 472 = .ok (.iadd, 1) := fo_96 sr_L_law_10
theorem dL_law_473 : decode cL_law 473 = .ok (.iaload, 1) := fo_46 (fd_n 1 sr_L_law_10 rfl)
theorem dL_law_474 : decode cL_law 474 = .ok (.aload_n 0, 1) := fo_42 (fd_n 2 sr_L_law_10 rfl)
theorem dL_law_475 : decode cL_law 475 = .ok (.iload_n 3, 1) := fo_29 (fd_n 3 sr_L_law_10 rfl)
theorem dL_law_476 : decode cL_law 476 = .ok (.iconst 4, 1) := fo_7 (fd_n 4 sr_L_law_10 rfl)
theorem dL_law_477 : decode cL_law 477 = .ok (.iadd, 1) := fo_96 (fd_n 5 sr_L_law_10 rfl)
theorem dL_law_478 : decode cL_law 478 = .ok (.iaload, 1) := fo_46 (fd_n 6 sr_L_law_10 rfl)
theorem dL_law_479 : decode cL_law 479 = .ok (.invokevirtual 40, 3) := fo_182 (fd_n 7 sr_L_law_10 rfl) rfl
theorem dL_law_482 : decode cL_law 482 = .ok (.pop, 1) := fo_87 (fd_n 10 sr_L_law_10 rfl)
theorem dL_law_483 : decode cL_law 483 = .ok (.goto 1215, 3) := fo_167 (fd_n 11 sr_L_law_10 rfl) (by decide +kernel)
theorem dL_law_486 : decode cL_law 486 = .ok (.aload_n 1, 1) := fo_43 (fd_n 14 sr_L_law_10 rfl)
theorem dL_law_487 : decode cL_law 487 = .ok (.aload_n 0, 1) := fo_42 (fd_n 15 sr_L_law_10 rfl)
theorem dL_law_488 : decode cL_law 488 = .ok (.iload_n 3, 1) := fo_29 (fd_n 16 sr_L_law_10 rfl)
theorem dL_law_489 : decode cL_law 489 = .ok (.iconst 1, 1) := fo_4 (fd_n 17 sr_L_law_10 rfl)
theorem dL_law_490 : decode cL_law 490 = .ok (.iadd, 1) := fo_96 (fd_n 18 sr_L_law_10 rfl)
theorem dL_law_491 : decode cL_law 491 = .ok (.iaload, 1) := fo_46 (fd_n 19 sr_L_law_10 rfl)
theorem dL_law_492 : decode cL_law 492 = .ok (.aload_n 0, 1) := fo_42 (fd_n 20 sr_L_law_10 rfl)
theorem dL_law_493 : decode cL_law 493 = .ok (.iload_n 3, 1) := fo_29 (fd_n 21 sr_L_law_10 rfl)
theorem dL_law_494 : decode cL_law 494 = .ok (.iconst 2, 1) := fo_5 (fd_n 22 sr_L_law_10 rfl)
theorem dL_law_495 : decode cL_law 495 = .ok (.iadd, 1) := fo_96 (fd_n 23 sr_L_law_10 rfl)
theorem dL_law_496 : decode cL_law 496 = .ok (.iaload, 1) := fo_46 (fd_n 24 sr_L_law_10 rfl)
theorem dL_law_497 : decode cL_law 497 = .ok (.invokevirtual 41, 3) := fo_182 (fd_n 25 sr_L_law_10 rfl) rfl
theorem dL_law_500 : decode cL_law 500 = .ok (.pop, 1) := fo_87 sr_L_law_11
theorem dL_law_501 : decode cL_law 501 = .ok (.aload_n 2, 1) := fo_44 (fd_n 1 sr_L_law_11 rfl)
theorem dL_law_502 : decode cL_law 502 = .ok (.aload_n 0, 1) := fo_42 (fd_n 2 sr_L_law_11 rfl)
theorem dL_law_503 : decode cL_law 503 = .ok (.iload_n 3, 1) := fo_29 (fd_n 3 sr_L_law_11 rfl)
theorem dL_law_504 : decode cL_law 504 = .ok (.iconst 1, 1) := fo_4 (fd_n 4 sr_L_law_11 rfl)
theorem dL_law_505 : decode cL_law 505 = .ok (.iadd, 1) := fo_96 (fd_n 5 sr_L_law_11 rfl)
theorem dL_law_506 : decode cL_law 506 = .ok (.iaload, 1) := fo_46 (fd_n 6 sr_L_law_11 rfl)
theorem dL_law_507 : decode cL_law 507 = .ok (.aload_n 0, 1) := fo_42 (fd_n 7 sr_L_law_11 rfl)
theorem dL_law_508 : decode cL_law 508 = .ok (.iload_n 3, 1) := fo_29 (fd_n 8 sr_L_law_11 rfl)
theorem dL_law_509 : decode cL_law 509 = .ok (.iconst 2, 1) := fo_5 (fd_n 9 sr_L_law_11 rfl)
theorem dL_law_510 : decode cL_law 510 = .ok (.iadd, 1) := fo_96 (fd_n 10 sr_L_law_11 rfl)
theorem dL_law_511 : decode cL_law 511 = .ok (.iaload, 1) := fo_46 (fd_n 11 sr_L_law_11 rfl)
theorem dL_law_512 : decode cL_law 512 = .ok (.invokevirtual 44, 3) := fo_182 (fd_n 12 sr_L_law_11 rfl) rfl
theorem dL_law_515 : decode cL_law 515 = .ok (.pop, 1) := fo_87 (fd_n 15 sr_L_law_11 rfl)
theorem dL_law_516 : decode cL_law 516 = .ok (.goto 1182, 3) := fo_167 (fd_n 16 sr_L_law_11 rfl) (by decide +kernel)
theorem dL_law_519 : decode cL_law 519 = .ok (.aload_n 1, 1) := fo_43 (fd_n 19 sr_L_law_11 rfl)
theorem dL_law_520 : decode cL_law 520 = .ok (.aload_n 0, 1) := fo_42 (fd_n 20 sr_L_law_11 rfl)
theorem dL_law_521 : decode cL_law 521 = .ok (.iload_n 3, 1) := fo_29 (fd_n 21 sr_L_law_11 rfl)
theorem dL_law_522 : decode cL_law 522 = .ok (.iconst 1, 1) := fo_4 (fd_n 22 sr_L_law_11 rfl)
theorem dL_law_523 : decode cL_law 523 = .ok (.iadd, 1) := fo_96 (fd_n 23 sr_L_law_11 rfl)
theorem dL_law_524 : decode cL_law 524 = .ok (.iaload, 1) := fo_46 (fd_n 24 sr_L_law_11 rfl)
theorem dL_law_525 : decode cL_law 525 = .ok (.aload_n 0, 1) := fo_42 (fd_n 25 sr_L_law_11 rfl)
theorem dL_law_526 : decode cL_law 526 = .ok (.iload_n 3, 1) := fo_29 (fd_n 26 sr_L_law_11 rfl)
theorem dL_law_527 : decode cL_law 527 = .ok (.iconst 2, 1) := fo_5 (fd_n 27 sr_L_law_11 rfl)
theorem dL_law_528 : decode cL_law 528 = .ok (.iadd, 1) := fo_96 sr_L_law_12
theorem dL_law_529 : decode cL_law 529 = .ok (.iaload, 1) := fo_46 (fd_n 1 sr_L_law_12 rfl)
theorem dL_law_530 : decode cL_law 530 = .ok (.aload_n 0, 1) := fo_42 (fd_n 2 sr_L_law_12 rfl)
theorem dL_law_531 : decode cL_law 531 = .ok (.iload_n 3, 1) := fo_29 (fd_n 3 sr_L_law_12 rfl)
theorem dL_law_532 : decode cL_law 532 = .ok (.iconst 3, 1) := fo_6 (fd_n 4 sr_L_law_12 rfl)
theorem dL_law_533 : decode cL_law 533 = .ok (.iadd, 1) := fo_96 (fd_n 5 sr_L_law_12 rfl)
theorem dL_law_534 : decode cL_law 534 = .ok (.iaload, 1) := fo_46 (fd_n 6 sr_L_law_12 rfl)
theorem dL_law_535 : decode cL_law 535 = .ok (.invokevirtual 45, 3) := fo_182 (fd_n 7 sr_L_law_12 rfl) rfl
theorem dL_law_538 : decode cL_law 538 = .ok (.pop, 1) := fo_87 (fd_n 10 sr_L_law_12 rfl)
theorem dL_law_539 : decode cL_law 539 = .ok (.aload_n 2, 1) := fo_44 (fd_n 11 sr_L_law_12 rfl)
theorem dL_law_540 : decode cL_law 540 = .ok (.aload_n 0, 1) := fo_42 (fd_n 12 sr_L_law_12 rfl)
theorem dL_law_541 : decode cL_law 541 = .ok (.iload_n 3, 1) := fo_29 (fd_n 13 sr_L_law_12 rfl)
theorem dL_law_542 : decode cL_law 542 = .ok (.iconst 1, 1) := fo_4 (fd_n 14 sr_L_law_12 rfl)
theorem dL_law_543 : decode cL_law 543 = .ok (.iadd, 1) := fo_96 (fd_n 15 sr_L_law_12 rfl)
theorem dL_law_544 : decode cL_law 544 = .ok (.iaload, 1) := fo_46 (fd_n 16 sr_L_law_12 rfl)
theorem dL_law_545 : decode cL_law 545 = .ok (.aload_n 0, 1) := fo_42 (fd_n 17 sr_L_law_12 rfl)
theorem dL_law_546 : decode cL_law 546 = .ok (.iload_n 3, 1) := fo_29 (fd_n 18 sr_L_law_12 rfl)
theorem dL_law_547 : decode cL_law 547 = .ok (.iconst 2, 1) := fo_5 (fd_n 19 sr_L_law_12 rfl)
theorem dL_law_548 : decode cL_law 548 = .ok (.iadd, 1) := fo_96 (fd_n 20 sr_L_law_12 rfl)
theorem dL_law_549 : decode cL_law 549 = .ok (.iaload, 1) := fo_46 (fd_n 21 sr_L_law_12 rfl)
theorem dL_law_550 : decode cL_law 550 = .ok (.aload_n 0, 1) := fo_42 (fd_n 22 sr_L_law_12 rfl)
theorem dL_law_551 : decode cL_law 551 = .ok (.iload_n 3, 1) := fo_29 (fd_n 23 sr_L_law_12 rfl)
theorem dL_law_552 : decode cL_law 552 = .ok (.iconst 3, 1) := fo_6 (fd_n 24 sr_L_law_12 rfl)
theorem dL_law_553 : decode cL_law 553 = .ok (.iadd, 1) := fo_96 (fd_n 25 sr_L_law_12 rfl)
theorem dL_law_554 : decode cL_law 554 = .ok (.iaload, 1) := fo_46 (fd_n 26 sr_L_law_12 rfl)
theorem dL_law_555 : decode cL_law 555 = .ok (.invokevirtual 48, 3) := fo_182 (fd_n 27 sr_L_law_12 rfl) rfl
theorem dL_law_558 : decode cL_law 558 = .ok (.pop, 1) := fo_87 sr_L_law_13
theorem dL_law_559 : decode cL_law 559 = .ok (.goto 1139, 3) := fo_167 (fd_n 1 sr_L_law_13 rfl) (by decide +kernel)
theorem dL_law_562 : decode cL_law 562 = .ok (.aload_n 1, 1) := fo_43 (fd_n 4 sr_L_law_13 rfl)
theorem dL_law_563 : decode cL_law 563 = .ok (.aload_n 0, 1) := fo_42 (fd_n 5 sr_L_law_13 rfl)
theorem dL_law_564 : decode cL_law 564 = .ok (.iload_n 3, 1) := fo_29 (fd_n 6 sr_L_law_13 rfl)
theorem dL_law_565 : decode cL_law 565 = .ok (.iconst 1, 1) := fo_4 (fd_n 7 sr_L_law_13 rfl)
theorem dL_law_566 : decode cL_law 566 = .ok (.iadd, 1) := fo_96 (fd_n 8 sr_L_law_13 rfl)
theorem dL_law_567 : decode cL_law 567 = .ok (.iaload, 1) := fo_46 (fd_n 9 sr_L_law_13 rfl)
theorem dL_law_568 : decode cL_law 568 = .ok (.aload_n 0, 1) := fo_42 (fd_n 10 sr_L_law_13 rfl)
theorem dL_law_569 : decode cL_law 569 = .ok (.iload_n 3, 1) := fo_29 (fd_n 11 sr_L_law_13 rfl)
theorem dL_law_570 : decode cL_law 570 = .ok (.iconst 2, 1) := fo_5 (fd_n 12 sr_L_law_13 rfl)
theorem dL_law_571 : decode cL_law 571 = .ok (.iadd, 1) := fo_96 (fd_n 13 sr_L_law_13 rfl)
theorem dL_law_572 : decode cL_law 572 = .ok (.iaload, 1) := fo_46 (fd_n 14 sr_L_law_13 rfl)
theorem dL_law_573 : decode cL_law 573 = .ok (.aload_n 0, 1) := fo_42 (fd_n 15 sr_L_law_13 rfl)
theorem dL_law_574 : decode cL_law 574 = .ok (.iload_n 3, 1) := fo_29 (fd_n 16 sr_L_law_13 rfl)
theorem dL_law_575 : decode cL_law 575 = .ok (.iconst 3, 1) := fo_6 (fd_n 17 sr_L_law_13 rfl)
theorem dL_law_576 : decode cL_law 576 = .ok (.iadd, 1) := fo_96 (fd_n 18 sr_L_law_13 rfl)
theorem dL_law_577 : decode cL_law 577 = .ok (.iaload, 1) := fo_46 (fd_n 19 sr_L_law_13 rfl)
theorem dL_law_578 : decode cL_law 578 = .ok (.invokevirtual 49, 3) := fo_182 (fd_n 20 sr_L_law_13 rfl) rfl
theorem dL_law_581 : decode cL_law 581 = .ok (.pop, 1) := fo_87 (fd_n 23 sr_L_law_13 rfl)
theorem dL_law_582 : decode cL_law 582 = .ok (.aload_n 2, 1) := fo_44 (fd_n 24 sr_L_law_13 rfl)
theorem dL_law_583 : decode cL_law 583 = .ok (.aload_n 0, 1) := fo_42 (fd_n 25 sr_L_law_13 rfl)
theorem dL_law_584 : decode cL_law 584 = .ok (.iload_n 3, 1) := fo_29 (fd_n 26 sr_L_law_13 rfl)
theorem dL_law_585 : decode cL_law 585 = .ok (.iconst 1, 1) := fo_4 (fd_n 27 sr_L_law_13 rfl)
theorem dL_law_586 : decode cL_law 586 = .ok (.iadd, 1) := fo_96 sr_L_law_14
theorem dL_law_587 : decode cL_law 587 = .ok (.iaload, 1) := fo_46 (fd_n 1 sr_L_law_14 rfl)
theorem dL_law_588 : decode cL_law 588 = .ok (.aload_n 0, 1) := fo_42 (fd_n 2 sr_L_law_14 rfl)
theorem dL_law_589 : decode cL_law 589 = .ok (.iload_n 3, 1) := fo_29 (fd_n 3 sr_L_law_14 rfl)
theorem dL_law_590 : decode cL_law 590 = .ok (.iconst 2, 1) := fo_5 (fd_n 4 sr_L_law_14 rfl)
theorem dL_law_591 : decode cL_law 591 = .ok (.iadd, 1) := fo_96 (fd_n 5 sr_L_law_14 rfl)
theorem dL_law_592 : decode cL_law 592 = .ok (.iaload, 1) := fo_46 (fd_n 6 sr_L_law_14 rfl)
theorem dL_law_593 : decode cL_law 593 = .ok (.aload_n 0, 1) := fo_42 (fd_n 7 sr_L_law_14 rfl)
theorem dL_law_594 : decode cL_law 594 = .ok (.iload_n 3, 1) := fo_29 (fd_n 8 sr_L_law_14 rfl)
theorem dL_law_595 : decode cL_law 595 = .ok (.iconst 3, 1) := fo_6 (fd_n 9 sr_L_law_14 rfl)
theorem dL_law_596 : decode cL_law 596 = .ok (.iadd, 1) := fo_96 (fd_n 10 sr_L_law_14 rfl)
theorem dL_law_597 : decode cL_law 597 = .ok (.iaload, 1) := fo_46 (fd_n 11 sr_L_law_14 rfl)
theorem dL_law_598 : decode cL_law 598 = .ok (.invokevirtual 52, 3) := fo_182 (fd_n 12 sr_L_law_14 rfl) rfl
theorem dL_law_601 : decode cL_law 601 = .ok (.pop, 1) := fo_87 (fd_n 15 sr_L_law_14 rfl)
theorem dL_law_602 : decode cL_law 602 = .ok (.goto 1096, 3) := fo_167 (fd_n 16 sr_L_law_14 rfl) (by decide +kernel)
theorem dL_law_605 : decode cL_law 605 = .ok (.aload_n 1, 1) := fo_43 (fd_n 19 sr_L_law_14 rfl)
theorem dL_law_606 : decode cL_law 606 = .ok (.aload_n 0, 1) := fo_42 (fd_n 20 sr_L_law_14 rfl)
theorem dL_law_607 : decode cL_law 607 = .ok (.iload_n 3, 1) := fo_29 (fd_n 21 sr_L_law_14 rfl)
theorem dL_law_608 : decode cL_law 608 = .ok (.iconst 1, 1) := fo_4 (fd_n 22 sr_L_law_14 rfl)
theorem dL_law_609 : decode cL_law 609 = .ok (.iadd, 1) := fo_96 (fd_n 23 sr_L_law_14 rfl)
theorem dL_law_610 : decode cL_law 610 = .ok (.iaload, 1) := fo_46 (fd_n 24 sr_L_law_14 rfl)
theorem dL_law_611 : decode cL_law 611 = .ok (.invokevirtual 53, 3) := fo_182 (fd_n 25 sr_L_law_14 rfl) rfl
theorem dL_law_614 : decode cL_law 614 = .ok (.pop, 1) := fo_87 sr_L_law_15
theorem dL_law_615 : decode cL_law 615 = .ok (.aload_n 2, 1) := fo_44 (fd_n 1 sr_L_law_15 rfl)
theorem dL_law_616 : decode cL_law 616 = .ok (.aload_n 0, 1) := fo_42 (fd_n 2 sr_L_law_15 rfl)
theorem dL_law_617 : decode cL_law 617 = .ok (.iload_n 3, 1) := fo_29 (fd_n 3 sr_L_law_15 rfl)
theorem dL_law_618 : decode cL_law 618 = .ok (.iconst 1, 1) := fo_4 (fd_n 4 sr_L_law_15 rfl)
theorem dL_law_619 : decode cL_law 619 = .ok (.iadd, 1) := fo_96 (fd_n 5 sr_L_law_15 rfl)
theorem dL_law_620 : decode cL_law 620 = .ok (.iaload, 1) := fo_46 (fd_n 6 sr_L_law_15 rfl)
theorem dL_law_621 : decode cL_law 621 = .ok (.invokevirtual 56, 3) := fo_182 (fd_n 7 sr_L_law_15 rfl) rfl
theorem dL_law_624 : decode cL_law 624 = .ok (.pop, 1) := fo_87 (fd_n 10 sr_L_law_15 rfl)
theorem dL_law_625 : decode cL_law 625 = .ok (.goto 1073, 3) := fo_167 (fd_n 11 sr_L_law_15 rfl) (by decide +kernel)
theorem dL_law_628 : decode cL_law 628 = .ok (.aload_n 1, 1) := fo_43 (fd_n 14 sr_L_law_15 rfl)
theorem dL_law_629 : decode cL_law 629 = .ok (.aload_n 0, 1) := fo_42 (fd_n 15 sr_L_law_15 rfl)
theorem dL_law_630 : decode cL_law 630 = .ok (.iload_n 3, 1) := fo_29 (fd_n 16 sr_L_law_15 rfl)
theorem dL_law_631 : decode cL_law 631 = .ok (.iconst 1, 1) := fo_4 (fd_n 17 sr_L_law_15 rfl)
theorem dL_law_632 : decode cL_law 632 = .ok (.iadd, 1) := fo_96 (fd_n 18 sr_L_law_15 rfl)
theorem dL_law_633 : decode cL_law 633 = .ok (.iaload, 1) := fo_46 (fd_n 19 sr_L_law_15 rfl)
theorem dL_law_634 : decode cL_law 634 = .ok (.aload_n 0, 1) := fo_42 (fd_n 20 sr_L_law_15 rfl)
theorem dL_law_635 : decode cL_law 635 = .ok (.iload_n 3, 1) := fo_29 (fd_n 21 sr_L_law_15 rfl)
theorem dL_law_636 : decode cL_law 636 = .ok (.iconst 2, 1) := fo_5 (fd_n 22 sr_L_law_15 rfl)
theorem dL_law_637 : decode cL_law 637 = .ok (.iadd, 1) := fo_96 (fd_n 23 sr_L_law_15 rfl)
theorem dL_law_638 : decode cL_law 638 = .ok (.iaload, 1) := fo_46 (fd_n 24 sr_L_law_15 rfl)
theorem dL_law_639 : decode cL_law 639 = .ok (.invokevirtual 57, 3) := fo_182 (fd_n 25 sr_L_law_15 rfl) rfl
theorem dL_law_642 : decode cL_law 642 = .ok (.pop, 1) := fo_87 sr_L_law_16
theorem dL_law_643 : decode cL_law 643 = .ok (.aload_n 2, 1) := fo_44 (fd_n 1 sr_L_law_16 rfl)
theorem dL_law_644 : decode cL_law 644 = .ok (.aload_n 0, 1) := fo_42 (fd_n 2 sr_L_law_16 rfl)
theorem dL_law_645 : decode cL_law 645 = .ok (.iload_n 3, 1) := fo_29 (fd_n 3 sr_L_law_16 rfl)
theorem dL_law_646 : decode cL_law 646 = .ok (.iconst 1, 1) := fo_4 (fd_n 4 sr_L_law_16 rfl)
theorem dL_law_647 : decode cL_law 647 = .ok (.iadd, 1) := fo_96 (fd_n 5 sr_L_law_16 rfl)
theorem dL_law_648 : decode cL_law 648 = .ok (.iaload, 1) := fo_46 (fd_n 6 sr_L_law_16 rfl)
theorem dL_law_649 : decode cL_law 649 = .ok (.aload_n 0, 1) := fo_42 (fd_n 7 sr_L_law_16 rfl)
theorem dL_law_650 : decode cL_law 650 = .ok (.iload_n 3, 1) := fo_29 (fd_n 8 sr_L_law_16 rfl)
theorem dL_law_651 : decode cL_law 651 = .ok (.iconst 2, 1) := fo_5 (fd_n 9 sr_L_law_16 rfl)
theorem dL_law_652 : decode cL_law 652 = .ok (.iadd, 1) := fo_96 (fd_n 10 sr_L_law_16 rfl)
theorem dL_law_653 : decode cL_law 653 = .ok (.iaload, 1) := fo_46 (fd_n 11 sr_L_law_16 rfl)
theorem dL_law_654 : decode cL_law 654 = .ok (.invokevirtual 60, 3) := fo_182 (fd_n 12 sr_L_law_16 rfl) rfl
theorem dL_law_657 : decode cL_law 657 = .ok (.pop, 1) := fo_87 (fd_n 15 sr_L_law_16 rfl)
theorem dL_law_658 : decode cL_law 658 = .ok (.goto 1040, 3) := fo_167 (fd_n 16 sr_L_law_16 rfl) (by decide +kernel)
theorem dL_law_661 : decode cL_law 661 = .ok (.aload_n 1, 1) := fo_43 (fd_n 19 sr_L_law_16 rfl)
theorem dL_law_662 : decode cL_law 662 = .ok (.aload_n 0, 1) := fo_42 (fd_n 20 sr_L_law_16 rfl)
theorem dL_law_663 : decode cL_law 663 = .ok (.iload_n 3, 1) := fo_29 (fd_n 21 sr_L_law_16 rfl)
theorem dL_law_664 : decode cL_law 664 = .ok (.iconst 1, 1) := fo_4 (fd_n 22 sr_L_law_16 rfl)
theorem dL_law_665 : decode cL_law 665 = .ok (.iadd, 1) := fo_96 (fd_n 23 sr_L_law_16 rfl)
theorem dL_law_666 : decode cL_law 666 = .ok (.iaload, 1) := fo_46 (fd_n 24 sr_L_law_16 rfl)
theorem dL_law_667 : decode cL_law 667 = .ok (.invokevirtual 61, 3) := fo_182 (fd_n 25 sr_L_law_16 rfl) rfl
theorem dL_law_670 : decode cL_law 670 = .ok (.pop, 1) := fo_87 sr_L_law_17
theorem dL_law_671 : decode cL_law 671 = .ok (.aload_n 2, 1) := fo_44 (fd_n 1 sr_L_law_17 rfl)
theorem dL_law_672 : decode cL_law 672 = .ok (.aload_n 0, 1) := fo_42 (fd_n 2 sr_L_law_17 rfl)
theorem dL_law_673 : decode cL_law 673 = .ok (.iload_n 3, 1) := fo_29 (fd_n 3 sr_L_law_17 rfl)
theorem dL_law_674 : decode cL_law 674 = .ok (.iconst 1, 1) := fo_4 (fd_n 4 sr_L_law_17 rfl)
theorem dL_law_675 : decode cL_law 675 = .ok (.iadd, 1) := fo_96 (fd_n 5 sr_L_law_17 rfl)
theorem dL_law_676 : decode cL_law 676 = .ok (.iaload, 1) := fo_46 (fd_n 6 sr_L_law_17 rfl)
theorem dL_law_677 : decode cL_law 677 = .ok (.invokevirtual 64, 3) := fo_182 (fd_n 7 sr_L_law_17 rfl) rfl
theorem dL_law_680 : decode cL_law 680 = .ok (.pop, 1) := fo_87 (fd_n 10 sr_L_law_17 rfl)
theorem dL_law_681 : decode cL_law 681 = .ok (.goto 1017, 3) := fo_167 (fd_n 11 sr_L_law_17 rfl) (by decide +kernel)
theorem dL_law_684 : decode cL_law 684 = .ok (.aload_n 1, 1) := fo_43 (fd_n 14 sr_L_law_17 rfl)
theorem dL_law_685 : decode cL_law 685 = .ok (.aload_n 0, 1) := fo_42 (fd_n 15 sr_L_law_17 rfl)
theorem dL_law_686 : decode cL_law 686 = .ok (.iload_n 3, 1) := fo_29 (fd_n 16 sr_L_law_17 rfl)
theorem dL_law_687 : decode cL_law 687 = .ok (.iconst 1, 1) := fo_4 (fd_n 17 sr_L_law_17 rfl)
theorem dL_law_688 : decode cL_law 688 = .ok (.iadd, 1) := fo_96 (fd_n 18 sr_L_law_17 rfl)
theorem dL_law_689 : decode cL_law 689 = .ok (.iaload, 1) := fo_46 (fd_n 19 sr_L_law_17 rfl)
theorem dL_law_690 : decode cL_law 690 = .ok (.aload_n 0, 1) := fo_42 (fd_n 20 sr_L_law_17 rfl)
theorem dL_law_691 : decode cL_law 691 = .ok (.iload_n 3, 1) := fo_29 (fd_n 21 sr_L_law_17 rfl)
theorem dL_law_692 : decode cL_law 692 = .ok (.iconst 2, 1) := fo_5 (fd_n 22 sr_L_law_17 rfl)
theorem dL_law_693 : decode cL_law 693 = .ok (.iadd, 1) := fo_96 (fd_n 23 sr_L_law_17 rfl)
theorem dL_law_694 : decode cL_law 694 = .ok (.iaload, 1) := fo_46 (fd_n 24 sr_L_law_17 rfl)
theorem dL_law_695 : decode cL_law 695 = .ok (.invokevirtual 65, 3) := fo_182 (fd_n 25 sr_L_law_17 rfl) rfl
theorem dL_law_698 : decode cL_law 698 = .ok (.pop, 1) := fo_87 sr_L_law_18
theorem dL_law_699 : decode cL_law 699 = .ok (.aload_n 2, 1) := fo_44 (fd_n 1 sr_L_law_18 rfl)
theorem dL_law_700 : decode cL_law 700 = .ok (.aload_n 0, 1) := fo_42 (fd_n 2 sr_L_law_18 rfl)
theorem dL_law_701 : decode cL_law 701 = .ok (.iload_n 3, 1) := fo_29 (fd_n 3 sr_L_law_18 rfl)
theorem dL_law_702 : decode cL_law 702 = .ok (.iconst 1, 1) := fo_4 (fd_n 4 sr_L_law_18 rfl)
theorem dL_law_703 : decode cL_law 703 = .ok (.iadd, 1) := fo_96 (fd_n 5 sr_L_law_18 rfl)
theorem dL_law_704 : decode cL_law 704 = .ok (.iaload, 1) := fo_46 (fd_n 6 sr_L_law_18 rfl)
theorem dL_law_705 : decode cL_law 705 = .ok (.aload_n 0, 1) := fo_42 (fd_n 7 sr_L_law_18 rfl)
theorem dL_law_706 : decode cL_law 706 = .ok (.iload_n 3, 1) := fo_29 (fd_n 8 sr_L_law_18 rfl)
theorem dL_law_707 : decode cL_law 707 = .ok (.iconst 2, 1) := fo_5 (fd_n 9 sr_L_law_18 rfl)
theorem dL_law_708 : decode cL_law 708 = .ok (.iadd, 1) := fo_96 (fd_n 10 sr_L_law_18 rfl)
theorem dL_law_709 : decode cL_law 709 = .ok (.iaload, 1) := fo_46 (fd_n 11 sr_L_law_18 rfl)
theorem dL_law_710 : decode cL_law 710 = .ok (.invokevirtual 68, 3) := fo_182 (fd_n 12 sr_L_law_18 rfl) rfl
theorem dL_law_713 : decode cL_law 713 = .ok (.pop, 1) := fo_87 (fd_n 15 sr_L_law_18 rfl)
theorem dL_law_714 : decode cL_law 714 = .ok (.goto 984, 3) := fo_167 (fd_n 16 sr_L_law_18 rfl) (by decide +kernel)
theorem dL_law_717 : decode cL_law 717 = .ok (.aload_n 1, 1) := fo_43 (fd_n 19 sr_L_law_18 rfl)
theorem dL_law_718 : decode cL_law 718 = .ok (.aload_n 0, 1) := fo_42 (fd_n 20 sr_L_law_18 rfl)
theorem dL_law_719 : decode cL_law 719 = .ok (.iload_n 3, 1) := fo_29 (fd_n 21 sr_L_law_18 rfl)
theorem dL_law_720 : decode cL_law 720 = .ok (.iconst 1, 1) := fo_4 (fd_n 22 sr_L_law_18 rfl)
theorem dL_law_721 : decode cL_law 721 = .ok (.iadd, 1) := fo_96 (fd_n 23 sr_L_law_18 rfl)
theorem dL_law_722 : decode cL_law 722 = .ok (.iaload, 1) := fo_46 (fd_n 24 sr_L_law_18 rfl)
theorem dL_law_723 : decode cL_law 723 = .ok (.invokevirtual 69, 3) := fo_182 (fd_n 25 sr_L_law_18 rfl) rfl
theorem dL_law_726 : decode cL_law 726 = .ok (.pop, 1) := fo_87 sr_L_law_19
theorem dL_law_727 : decode cL_law 727 = .ok (.aload_n 2, 1) := fo_44 (fd_n 1 sr_L_law_19 rfl)
theorem dL_law_728 : decode cL_law 728 = .ok (.aload_n 0, 1) := fo_42 (fd_n 2 sr_L_law_19 rfl)
theorem dL_law_729 : decode cL_law 729 = .ok (.iload_n 3, 1) := fo_29 (fd_n 3 sr_L_law_19 rfl)
theorem dL_law_730 : decode cL_law 730 = .ok (.iconst 1, 1) := fo_4 (fd_n 4 sr_L_law_19 rfl)
theorem dL_law_731 : decode cL_law 731 = .ok (.iadd, 1) := fo_96 (fd_n 5 sr_L_law_19 rfl)
theorem dL_law_732 : decode cL_law 732 = .ok (.iaload, 1) := fo_46 (fd_n 6 sr_L_law_19 rfl)
theorem dL_law_733 : decode cL_law 733 = .ok (.invokevirtual 72, 3) := fo_182 (fd_n 7 sr_L_law_19 rfl) rfl
theorem dL_law_736 : decode cL_law 736 = .ok (.pop, 1) := fo_87 (fd_n 10 sr_L_law_19 rfl)
theorem dL_law_737 : decode cL_law 737 = .ok (.goto 961, 3) := fo_167 (fd_n 11 sr_L_law_19 rfl) (by decide +kernel)
theorem dL_law_740 : decode cL_law 740 = .ok (.aload_n 1, 1) := fo_43 (fd_n 14 sr_L_law_19 rfl)
theorem dL_law_741 : decode cL_law 741 = .ok (.aload_n 0, 1) := fo_42 (fd_n 15 sr_L_law_19 rfl)
theorem dL_law_742 : decode cL_law 742 = .ok (.iload_n 3, 1) := fo_29 (fd_n 16 sr_L_law_19 rfl)
theorem dL_law_743 : decode cL_law 743 = .ok (.iconst 1, 1) := fo_4 (fd_n 17 sr_L_law_19 rfl)
theorem dL_law_744 : decode cL_law 744 = .ok (.iadd, 1) := fo_96 (fd_n 18 sr_L_law_19 rfl)
theorem dL_law_745 : decode cL_law 745 = .ok (.iaload, 1) := fo_46 (fd_n 19 sr_L_law_19 rfl)
theorem dL_law_746 : decode cL_law 746 = .ok (.invokevirtual 73, 3) := fo_182 (fd_n 20 sr_L_law_19 rfl) rfl
theorem dL_law_749 : decode cL_law 749 = .ok (.pop, 1) := fo_87 (fd_n 23 sr_L_law_19 rfl)
theorem dL_law_750 : decode cL_law 750 = .ok (.aload_n 2, 1) := fo_44 (fd_n 24 sr_L_law_19 rfl)
theorem dL_law_751 : decode cL_law 751 = .ok (.aload_n 0, 1) := fo_42 (fd_n 25 sr_L_law_19 rfl)
theorem dL_law_752 : decode cL_law 752 = .ok (.iload_n 3, 1) := fo_29 (fd_n 26 sr_L_law_19 rfl)
theorem dL_law_753 : decode cL_law 753 = .ok (.iconst 1, 1) := fo_4 (fd_n 27 sr_L_law_19 rfl)
theorem dL_law_754 : decode cL_law 754 = .ok (.iadd, 1) := fo_96 sr_L_law_20
theorem dL_law_755 : decode cL_law 755 = .ok (.iaload, 1) := fo_46 (fd_n 1 sr_L_law_20 rfl)
theorem dL_law_756 : decode cL_law 756 = .ok (.invokevirtual 76, 3) := fo_182 (fd_n 2 sr_L_law_20 rfl) rfl
theorem dL_law_759 : decode cL_law 759 = .ok (.pop, 1) := fo_87 (fd_n 5 sr_L_law_20 rfl)
theorem dL_law_760 : decode cL_law 760 = .ok (.goto 938, 3) := fo_167 (fd_n 6 sr_L_law_20 rfl) (by decide +kernel)
theorem dL_law_763 : decode cL_law 763 = .ok (.aload_n 1, 1) := fo_43 (fd_n 9 sr_L_law_20 rfl)
theorem dL_law_764 : decode cL_law 764 = .ok (.aload_n 0, 1) := fo_42 (fd_n 10 sr_L_law_20 rfl)
theorem dL_law_765 : decode cL_law 765 = .ok (.iload_n 3, 1) := fo_29 (fd_n 11 sr_L_law_20 rfl)
theorem dL_law_766 : decode cL_law 766 = .ok (.iconst 1, 1) := fo_4 (fd_n 12 sr_L_law_20 rfl)
theorem dL_law_767 : decode cL_law 767 = .ok (.iadd, 1) := fo_96 (fd_n 13 sr_L_law_20 rfl)
theorem dL_law_768 : decode cL_law 768 = .ok (.iaload, 1) := fo_46 (fd_n 14 sr_L_law_20 rfl)
theorem dL_law_769 : decode cL_law 769 = .ok (.invokevirtual 77, 3) := fo_182 (fd_n 15 sr_L_law_20 rfl) rfl
theorem dL_law_772 : decode cL_law 772 = .ok (.pop, 1) := fo_87 (fd_n 18 sr_L_law_20 rfl)
theorem dL_law_773 : decode cL_law 773 = .ok (.aload_n 2, 1) := fo_44 (fd_n 19 sr_L_law_20 rfl)
theorem dL_law_774 : decode cL_law 774 = .ok (.aload_n 0, 1) := fo_42 (fd_n 20 sr_L_law_20 rfl)
theorem dL_law_775 : decode cL_law 775 = .ok (.iload_n 3, 1) := fo_29 (fd_n 21 sr_L_law_20 rfl)
theorem dL_law_776 : decode cL_law 776 = .ok (.iconst 1, 1) := fo_4 (fd_n 22 sr_L_law_20 rfl)
theorem dL_law_777 : decode cL_law 777 = .ok (.iadd, 1) := fo_96 (fd_n 23 sr_L_law_20 rfl)
theorem dL_law_778 : decode cL_law 778 = .ok (.iaload, 1) := fo_46 (fd_n 24 sr_L_law_20 rfl)
theorem dL_law_779 : decode cL_law 779 = .ok (.invokevirtual 80, 3) := fo_182 (fd_n 25 sr_L_law_20 rfl) rfl
theorem dL_law_782 : decode cL_law 782 = .ok (.pop, 1) := fo_87 sr_L_law_21
theorem dL_law_783 : decode cL_law 783 = .ok (.goto 915, 3) := fo_167 (fd_n 1 sr_L_law_21 rfl) (by decide +kernel)
theorem dL_law_786 : decode cL_law 786 = .ok (.aload_n 1, 1) := fo_43 (fd_n 4 sr_L_law_21 rfl)
theorem dL_law_787 : decode cL_law 787 = .ok (.aload_n 0, 1) := fo_42 (fd_n 5 sr_L_law_21 rfl)
theorem dL_law_788 : decode cL_law 788 = .ok (.iload_n 3, 1) := fo_29 (fd_n 6 sr_L_law_21 rfl)
theorem dL_law_789 : decode cL_law 789 = .ok (.iconst 1, 1) := fo_4 (fd_n 7 sr_L_law_21 rfl)
theorem dL_law_790 : decode cL_law 790 = .ok (.iadd, 1) := fo_96 (fd_n 8 sr_L_law_21 rfl)
theorem dL_law_791 : decode cL_law 791 = .ok (.iaload, 1) := fo_46 (fd_n 9 sr_L_law_21 rfl)
theorem dL_law_792 : decode cL_law 792 = .ok (.invokevirtual 81, 3) := fo_182 (fd_n 10 sr_L_law_21 rfl) rfl
theorem dL_law_795 : decode cL_law 795 = .ok (.pop, 1) := fo_87 (fd_n 13 sr_L_law_21 rfl)
theorem dL_law_796 : decode cL_law 796 = .ok (.aload_n 2, 1) := fo_44 (fd_n 14 sr_L_law_21 rfl)
theorem dL_law_797 : decode cL_law 797 = .ok (.aload_n 0, 1) := fo_42 (fd_n 15 sr_L_law_21 rfl)
theorem dL_law_798 : decode cL_law 798 = .ok (.iload_n 3, 1) := fo_29 (fd_n 16 sr_L_law_21 rfl)
theorem dL_law_799 : decode cL_law 799 = .ok (.iconst 1, 1) := fo_4 (fd_n 17 sr_L_law_21 rfl)
theorem dL_law_800 : decode cL_law 800 = .ok (.iadd, 1) := fo_96 (fd_n 18 sr_L_law_21 rfl)
theorem dL_law_801 : decode cL_law 801 = .ok (.iaload, 1) := fo_46 (fd_n 19 sr_L_law_21 rfl)
theorem dL_law_802 : decode cL_law 802 = .ok (.invokevirtual 84, 3) := fo_182 (fd_n 20 sr_L_law_21 rfl) rfl
theorem dL_law_805 : decode cL_law 805 = .ok (.pop, 1) := fo_87 (fd_n 23 sr_L_law_21 rfl)
theorem dL_law_806 : decode cL_law 806 = .ok (.goto 892, 3) := fo_167 (fd_n 24 sr_L_law_21 rfl) (by decide +kernel)
theorem dL_law_809 : decode cL_law 809 = .ok (.aload_n 1, 1) := fo_43 (fd_n 27 sr_L_law_21 rfl)
theorem dL_law_810 : decode cL_law 810 = .ok (.invokevirtual 85, 3) := fo_182 sr_L_law_22 rfl
theorem dL_law_813 : decode cL_law 813 = .ok (.pop, 1) := fo_87 (fd_n 3 sr_L_law_22 rfl)
theorem dL_law_814 : decode cL_law 814 = .ok (.aload_n 2, 1) := fo_44 (fd_n 4 sr_L_law_22 rfl)
theorem dL_law_815 : decode cL_law 815 = .ok (.invokevirtual 89, 3) := fo_182 (fd_n 5 sr_L_law_22 rfl) rfl
theorem dL_law_818 : decode cL_law 818 = .ok (.pop, 1) := fo_87 (fd_n 8 sr_L_law_22 rfl)
theorem dL_law_819 : decode cL_law 819 = .ok (.goto 879, 3) := fo_167 (fd_n 9 sr_L_law_22 rfl) (by decide +kernel)
theorem dL_law_822 : decode cL_law 822 = .ok (.aload_n 1, 1) := fo_43 (fd_n 12 sr_L_law_22 rfl)
theorem dL_law_823 : decode cL_law 823 = .ok (.aload_n 0, 1) := fo_42 (fd_n 13 sr_L_law_22 rfl)
theorem dL_law_824 : decode cL_law 824 = .ok (.iload_n 3, 1) := fo_29 (fd_n 14 sr_L_law_22 rfl)
theorem dL_law_825 : decode cL_law 825 = .ok (.iconst 1, 1) := fo_4 (fd_n 15 sr_L_law_22 rfl)
theorem dL_law_826 : decode cL_law 826 = .ok (.iadd, 1) := fo_96 (fd_n 16 sr_L_law_22 rfl)
theorem dL_law_827 : decode cL_law 827 = .ok (.iaload, 1) := fo_46 (fd_n 17 sr_L_law_22 rfl)
theorem dL_law_828 : decode cL_law 828 = .ok (.invokevirtual 90, 3) := fo_182 (fd_n 18 sr_L_law_22 rfl) rfl
theorem dL_law_831 : decode cL_law 831 = .ok (.pop, 1) := fo_87 (fd_n 21 sr_L_law_22 rfl)
theorem dL_law_832 : decode cL_law 832 = .ok (.aload_n 2, 1) := fo_44 (fd_n 22 sr_L_law_22 rfl)
theorem dL_law_833 : decode cL_law 833 = .ok (.aload_n 0, 1) := fo_42 (fd_n 23 sr_L_law_22 rfl)
theorem dL_law_834 : decode cL_law 834 = .ok (.iload_n 3, 1) := fo_29 (fd_n 24 sr_L_law_22 rfl)
theorem dL_law_835 : decode cL_law 835 = .ok (.iconst 1, 1) := fo_4 (fd_n 25 sr_L_law_22 rfl)
theorem dL_law_836 : decode cL_law 836 = .ok (.iadd, 1) := fo_96 (fd_n 26 sr_L_law_22 rfl)
theorem dL_law_837 : decode cL_law 837 = .ok (.iaload, 1) := fo_46 (fd_n 27 sr_L_law_22 rfl)
theorem dL_law_838 : decode cL_law 838 = .ok (.invokevirtual 93, 3) := fo_182 sr_L_law_23 rfl
theorem dL_law_841 : decode cL_law 841 = .ok (.pop, 1) := fo_87 (fd_n 3 sr_L_law_23 rfl)
theorem dL_law_842 : decode cL_law 842 = .ok (.goto 856, 3) := fo_167 (fd_n 4 sr_L_law_23 rfl) (by decide +kernel)
theorem dL_law_845 : decode cL_law 845 = .ok (.aload_n 1, 1) := fo_43 (fd_n 7 sr_L_law_23 rfl)
theorem dL_law_846 : decode cL_law 846 = .ok (.aload_n 0, 1) := fo_42 (fd_n 8 sr_L_law_23 rfl)
theorem dL_law_847 : decode cL_law 847 = .ok (.iload_n 3, 1) := fo_29 (fd_n 9 sr_L_law_23 rfl)
theorem dL_law_848 : decode cL_law 848 = .ok (.iconst 1, 1) := fo_4 (fd_n 10 sr_L_law_23 rfl)
theorem dL_law_849 : decode cL_law 849 = .ok (.iadd, 1) := fo_96 (fd_n 11 sr_L_law_23 rfl)
theorem dL_law_850 : decode cL_law 850 = .ok (.iaload, 1) := fo_46 (fd_n 12 sr_L_law_23 rfl)
theorem dL_law_851 : decode cL_law 851 = .ok (.aload_n 0, 1) := fo_42 (fd_n 13 sr_L_law_23 rfl)
theorem dL_law_852 : decode cL_law 852 = .ok (.iload_n 3, 1) := fo_29 (fd_n 14 sr_L_law_23 rfl)
theorem dL_law_853 : decode cL_law 853 = .ok (.iconst 2, 1) := fo_5 (fd_n 15 sr_L_law_23 rfl)
theorem dL_law_854 : decode cL_law 854 = .ok (.iadd, 1) := fo_96 (fd_n 16 sr_L_law_23 rfl)
theorem dL_law_855 : decode cL_law 855 = .ok (.iaload, 1) := fo_46 (fd_n 17 sr_L_law_23 rfl)
theorem dL_law_856 : decode cL_law 856 = .ok (.invokevirtual 94, 3) := fo_182 (fd_n 18 sr_L_law_23 rfl) rfl
theorem dL_law_859 : decode cL_law 859 = .ok (.pop, 1) := fo_87 (fd_n 21 sr_L_law_23 rfl)
theorem dL_law_860 : decode cL_law 860 = .ok (.aload_n 2, 1) := fo_44 (fd_n 22 sr_L_law_23 rfl)
theorem dL_law_861 : decode cL_law 861 = .ok (.aload_n 0, 1) := fo_42 (fd_n 23 sr_L_law_23 rfl)
theorem dL_law_862 : decode cL_law 862 = .ok (.iload_n 3, 1) := fo_29 (fd_n 24 sr_L_law_23 rfl)
theorem dL_law_863 : decode cL_law 863 = .ok (.iconst 1, 1) := fo_4 (fd_n 25 sr_L_law_23 rfl)
theorem dL_law_864 : decode cL_law 864 = .ok (.iadd, 1) := fo_96 (fd_n 26 sr_L_law_23 rfl)
theorem dL_law_865 : decode cL_law 865 = .ok (.iaload, 1) := fo_46 (fd_n 27 sr_L_law_23 rfl)
theorem dL_law_866 : decode cL_law 866 = .ok (.aload_n 0, 1) := fo_42 sr_L_law_24
theorem dL_law_867 : decode cL_law 867 = .ok (.iload_n 3, 1) := fo_29 (fd_n 1 sr_L_law_24 rfl)
theorem dL_law_868 : decode cL_law 868 = .ok (.iconst 2, 1) := fo_5 (fd_n 2 sr_L_law_24 rfl)
theorem dL_law_869 : decode cL_law 869 = .ok (.iadd, 1) := fo_96 (fd_n 3 sr_L_law_24 rfl)
theorem dL_law_870 : decode cL_law 870 = .ok (.iaload, 1) := fo_46 (fd_n 4 sr_L_law_24 rfl)
theorem dL_law_871 : decode cL_law 871 = .ok (.invokevirtual 97, 3) := fo_182 (fd_n 5 sr_L_law_24 rfl) rfl
theorem dL_law_874 : decode cL_law 874 = .ok (.pop, 1) := fo_87 (fd_n 8 sr_L_law_24 rfl)
theorem dL_law_875 : decode cL_law 875 = .ok (.goto 823, 3) := fo_167 (fd_n 9 sr_L_law_24 rfl) (by decide +kernel)
theorem dL_law_878 : decode cL_law 878 = .ok (.aload_n 1, 1) := fo_43 (fd_n 12 sr_L_law_24 rfl)
theorem dL_law_879 : decode cL_law 879 = .ok (.aload_n 0, 1) := fo_42 (fd_n 13 sr_L_law_24 rfl)
theorem dL_law_880 : decode cL_law 880 = .ok (.iload_n 3, 1) := fo_29 (fd_n 14 sr_L_law_24 rfl)
theorem dL_law_881 : decode cL_law 881 = .ok (.iconst 1, 1) := fo_4 (fd_n 15 sr_L_law_24 rfl)
theorem dL_law_882 : decode cL_law 882 = .ok (.iadd, 1) := fo_96 (fd_n 16 sr_L_law_24 rfl)
theorem dL_law_883 : decode cL_law 883 = .ok (.iaload, 1) := fo_46 (fd_n 17 sr_L_law_24 rfl)
theorem dL_law_884 : decode cL_law 884 = .ok (.invokevirtual 98, 3) := fo_182 (fd_n 18 sr_L_law_24 rfl) rfl
theorem dL_law_887 : decode cL_law 887 = .ok (.pop, 1) := fo_87 (fd_n 21 sr_L_law_24 rfl)
theorem dL_law_888 : decode cL_law 888 = .ok (.aload_n 2, 1) := fo_44 (fd_n 22 sr_L_law_24 rfl)
theorem dL_law_889 : decode cL_law 889 = .ok (.aload_n 0, 1) := fo_42 (fd_n 23 sr_L_law_24 rfl)
theorem dL_law_890 : decode cL_law 890 = .ok (.iload_n 3, 1) := fo_29 (fd_n 24 sr_L_law_24 rfl)
theorem dL_law_891 : decode cL_law 891 = .ok (.iconst 1, 1) := fo_4 (fd_n 25 sr_L_law_24 rfl)
theorem dL_law_892 : decode cL_law 892 = .ok (.iadd, 1) := fo_96 (fd_n 26 sr_L_law_24 rfl)
theorem dL_law_893 : decode cL_law 893 = .ok (.iaload, 1) := fo_46 (fd_n 27 sr_L_law_24 rfl)
theorem dL_law_894 : decode cL_law 894 = .ok (.invokevirtual 101, 3) := fo_182 sr_L_law_25 rfl
theorem dL_law_897 : decode cL_law 897 = .ok (.pop, 1) := fo_87 (fd_n 3 sr_L_law_25 rfl)
theorem dL_law_898 : decode cL_law 898 = .ok (.goto 800, 3) := fo_167 (fd_n 4 sr_L_law_25 rfl) (by decide +kernel)
theorem dL_law_901 : decode cL_law 901 = .ok (.aload_n 1, 1) := fo_43 (fd_n 7 sr_L_law_25 rfl)
theorem dL_law_902 : decode cL_law 902 = .ok (.aload_n 0, 1) := fo_42 (fd_n 8 sr_L_law_25 rfl)
theorem dL_law_903 : decode cL_law 903 = .ok (.iload_n 3, 1) := fo_29 (fd_n 9 sr_L_law_25 rfl)
theorem dL_law_904 : decode cL_law 904 = .ok (.iconst 1, 1) := fo_4 (fd_n 10 sr_L_law_25 rfl)
theorem dL_law_905 : decode cL_law 905 = .ok (.iadd, 1) := fo_96 (fd_n 11 sr_L_law_25 rfl)
theorem dL_law_906 : decode cL_law 906 = .ok (.iaload, 1) := fo_46 (fd_n 12 sr_L_law_25 rfl)
theorem dL_law_907 : decode cL_law 907 = .ok (.invokevirtual 102, 3) := fo_182 (fd_n 13 sr_L_law_25 rfl) rfl
theorem dL_law_910 : decode cL_law 910 = .ok (.pop, 1) := fo_87 (fd_n 16 sr_L_law_25 rfl)
theorem dL_law_911 : decode cL_law 911 = .ok (.aload_n 2, 1) := fo_44 (fd_n 17 sr_L_law_25 rfl)
theorem dL_law_912 : decode cL_law 912 = .ok (.aload_n 0, 1) := fo_42 (fd_n 18 sr_L_law_25 rfl)
theorem dL_law_913 : decode cL_law 913 = .ok (.iload_n 3, 1) := fo_29 (fd_n 19 sr_L_law_25 rfl)
theorem dL_law_914 : decode cL_law 914 = .ok (.iconst 1, 1) := fo_4 (fd_n 20 sr_L_law_25 rfl)
theorem dL_law_915 : decode cL_law 915 = .ok (.iadd, 1) := fo_96 (fd_n 21 sr_L_law_25 rfl)
theorem dL_law_916 : decode cL_law 916 = .ok (.iaload, 1) := fo_46 (fd_n 22 sr_L_law_25 rfl)
theorem dL_law_917 : decode cL_law 917 = .ok (.invokevirtual 105, 3) := fo_182 (fd_n 23 sr_L_law_25 rfl) rfl
theorem dL_law_920 : decode cL_law 920 = .ok (.pop, 1) := fo_87 (fd_n 26 sr_L_law_25 rfl)
theorem dL_law_921 : decode cL_law 921 = .ok (.goto 777, 3) := fo_167 (fd_n 27 sr_L_law_25 rfl) (by decide +kernel)
theorem dL_law_924 : decode cL_law 924 = .ok (.aload_n 1, 1) := fo_43 sr_L_law_26
theorem dL_law_925 : decode cL_law 925 = .ok (.aload_n 0, 1) := fo_42 (fd_n 1 sr_L_law_26 rfl)
theorem dL_law_926 : decode cL_law 926 = .ok (.iload_n 3, 1) := fo_29 (fd_n 2 sr_L_law_26 rfl)
theorem dL_law_927 : decode cL_law 927 = .ok (.iconst 1, 1) := fo_4 (fd_n 3 sr_L_law_26 rfl)
theorem dL_law_928 : decode cL_law 928 = .ok (.iadd, 1) := fo_96 (fd_n 4 sr_L_law_26 rfl)
theorem dL_law_929 : decode cL_law 929 = .ok (.iaload, 1) := fo_46 (fd_n 5 sr_L_law_26 rfl)
theorem dL_law_930 : decode cL_law 930 = .ok (.invokevirtual 106, 3) := fo_182 (fd_n 6 sr_L_law_26 rfl) rfl
theorem dL_law_933 : decode cL_law 933 = .ok (.pop, 1) := fo_87 (fd_n 9 sr_L_law_26 rfl)
theorem dL_law_934 : decode cL_law 934 = .ok (.aload_n 2, 1) := fo_44 (fd_n 10 sr_L_law_26 rfl)
theorem dL_law_935 : decode cL_law 935 = .ok (.aload_n 0, 1) := fo_42 (fd_n 11 sr_L_law_26 rfl)
theorem dL_law_936 : decode cL_law 936 = .ok (.iload_n 3, 1) := fo_29 (fd_n 12 sr_L_law_26 rfl)
theorem dL_law_937 : decode cL_law 937 = .ok (.iconst 1, 1) := fo_4 (fd_n 13 sr_L_law_26 rfl)
theorem dL_law_938 : decode cL_law 938 = .ok (.iadd, 1) := fo_96 (fd_n 14 sr_L_law_26 rfl)
theorem dL_law_939 : decode cL_law 939 = .ok (.iaload, 1) := fo_46 (fd_n 15 sr_L_law_26 rfl)
theorem dL_law_940 : decode cL_law 940 = .ok (.invokevirtual 109, 3) := fo_182 (fd_n 16 sr_L_law_26 rfl) rfl
theorem dL_law_943 : decode cL_law 943 = .ok (.pop, 1) := fo_87 (fd_n 19 sr_L_law_26 rfl)
theorem dL_law_944 : decode cL_law 944 = .ok (.goto 754, 3) := fo_167 (fd_n 20 sr_L_law_26 rfl) (by decide +kernel)
theorem dL_law_947 : decode cL_law 947 = .ok (.aload_n 1, 1) := fo_43 (fd_n 23 sr_L_law_26 rfl)
theorem dL_law_948 : decode cL_law 948 = .ok (.aload_n 0, 1) := fo_42 (fd_n 24 sr_L_law_26 rfl)
theorem dL_law_949 : decode cL_law 949 = .ok (.iload_n 3, 1) := fo_29 (fd_n 25 sr_L_law_26 rfl)
theorem dL_law_950 : decode cL_law 950 = .ok (.iconst 1, 1) := fo_4 (fd_n 26 sr_L_law_26 rfl)
theorem dL_law_951 : decode cL_law 951 = .ok (.iadd, 1) := fo_96 (fd_n 27 sr_L_law_26 rfl)
theorem dL_law_952 : decode cL_law 952 = .ok (.iaload, 1) := fo_46 sr_L_law_27
theorem dL_law_953 : decode cL_law 953 = .ok (.invokevirtual 110, 3) := fo_182 (fd_n 1 sr_L_law_27 rfl) rfl
theorem dL_law_956 : decode cL_law 956 = .ok (.pop, 1) := fo_87 (fd_n 4 sr_L_law_27 rfl)
theorem dL_law_957 : decode cL_law 957 = .ok (.aload_n 2, 1) := fo_44 (fd_n 5 sr_L_law_27 rfl)
theorem dL_law_958 : decode cL_law 958 = .ok (.aload_n 0, 1) := fo_42 (fd_n 6 sr_L_law_27 rfl)
theorem dL_law_959 : decode cL_law 959 = .ok (.iload_n 3, 1) := fo_29 (fd_n 7 sr_L_law_27 rfl)
theorem dL_law_960 : decode cL_law 960 = .ok (.iconst 1, 1) := fo_4 (fd_n 8 sr_L_law_27 rfl)
theorem dL_law_961 : decode cL_law 961 = .ok (.iadd, 1) := fo_96 (fd_n 9 sr_L_law_27 rfl)
theorem dL_law_962 : decode cL_law 962 = .ok (.iaload, 1) := fo_46 (fd_n 10 sr_L_law_27 rfl)
theorem dL_law_963 : decode cL_law 963 = .ok (.invokevirtual 113, 3) := fo_182 (fd_n 11 sr_L_law_27 rfl) rfl
theorem dL_law_966 : decode cL_law 966 = .ok (.pop, 1) := fo_87 (fd_n 14 sr_L_law_27 rfl)
theorem dL_law_967 : decode cL_law 967 = .ok (.goto 731, 3) := fo_167 (fd_n 15 sr_L_law_27 rfl) (by decide +kernel)
theorem dL_law_970 : decode cL_law 970 = .ok (.aload_n 1, 1) := fo_43 (fd_n 18 sr_L_law_27 rfl)
theorem dL_law_971 : decode cL_law 971 = .ok (.aload_n 0, 1) := fo_42 (fd_n 19 sr_L_law_27 rfl)
theorem dL_law_972 : decode cL_law 972 = .ok (.iload_n 3, 1) := fo_29 (fd_n 20 sr_L_law_27 rfl)
theorem dL_law_973 : decode cL_law 973 = .ok (.iconst 1, 1) := fo_4 (fd_n 21 sr_L_law_27 rfl)
theorem dL_law_974 : decode cL_law 974 = .ok (.iadd, 1) := fo_96 (fd_n 22 sr_L_law_27 rfl)
theorem dL_law_975 : decode cL_law 975 = .ok (.iaload, 1) := fo_46 (fd_n 23 sr_L_law_27 rfl)
theorem dL_law_976 : decode cL_law 976 = .ok (.aload_n 0, 1) := fo_42 (fd_n 24 sr_L_law_27 rfl)
theorem dL_law_977 : decode cL_law 977 = .ok (.iload_n 3, 1) := fo_29 (fd_n 25 sr_L_law_27 rfl)
theorem dL_law_978 : decode cL_law 978 = .ok (.iconst 2, 1) := fo_5 (fd_n 26 sr_L_law_27 rfl)
theorem dL_law_979 : decode cL_law 979 = .ok (.iadd, 1) := fo_96 (fd_n 27 sr_L_law_27 rfl)
theorem dL_law_980 : decode cL_law 980 = .ok (.iaload, 1) := fo_46 sr_L_law_28
theorem dL_law_981 : decode cL_law 981 = .ok (.invokevirtual 114, 3) := fo_182 (fd_n 1 sr_L_law_28 rfl) rfl
theorem dL_law_984 : decode cL_law 984 = .ok (.pop, 1) := fo_87 (fd_n 4 sr_L_law_28 rfl)
theorem dL_law_985 : decode cL_law 985 = .ok (.aload_n 2, 1) := fo_44 (fd_n 5 sr_L_law_28 rfl)
theorem dL_law_986 : decode cL_law 986 = .ok (.aload_n 0, 1) := fo_42 (fd_n 6 sr_L_law_28 rfl)
theorem dL_law_987 : decode cL_law 987 = .ok (.iload_n 3, 1) := fo_29 (fd_n 7 sr_L_law_28 rfl)
theorem dL_law_988 : decode cL_law 988 = .ok (.iconst 1, 1) := fo_4 (fd_n 8 sr_L_law_28 rfl)
theorem dL_law_989 : decode cL_law 989 = .ok (.iadd, 1) := fo_96 (fd_n 9 sr_L_law_28 rfl)
theorem dL_law_990 : decode cL_law 990 = .ok (.iaload, 1) := fo_46 (fd_n 10 sr_L_law_28 rfl)
theorem dL_law_991 : decode cL_law 991 = .ok (.aload_n 0, 1) := fo_42 (fd_n 11 sr_L_law_28 rfl)
theorem dL_law_992 : decode cL_law 992 = .ok (.iload_n 3, 1) := fo_29 (fd_n 12 sr_L_law_28 rfl)
theorem dL_law_993 : decode cL_law 993 = .ok (.iconst 2, 1) := fo_5 (fd_n 13 sr_L_law_28 rfl)
theorem dL_law_994 : decode cL_law 994 = .ok (.iadd, 1) := fo_96 (fd_n 14 sr_L_law_28 rfl)
theorem dL_law_995 : decode cL_law 995 = .ok (.iaload, 1) := fo_46 (fd_n 15 sr_L_law_28 rfl)
theorem dL_law_996 : decode cL_law 996 = .ok (.invokevirtual 117, 3) := fo_182 (fd_n 16 sr_L_law_28 rfl) rfl
theorem dL_law_999 : decode cL_law 999 = .ok (.pop, 1) := fo_87 (fd_n 19 sr_L_law_28 rfl)
theorem dL_law_1000 : decode cL_law 1000 = .ok (.goto 698, 3) := fo_167 (fd_n 20 sr_L_law_28 rfl) (by decide +kernel)
theorem dL_law_1003 : decode cL_law 1003 = .ok (.aload_n 1, 1) := fo_43 (fd_n 23 sr_L_law_28 rfl)
theorem dL_law_1004 : decode cL_law 1004 = .ok (.aload_n 0, 1) := fo_42 (fd_n 24 sr_L_law_28 rfl)
theorem dL_law_1005 : decode cL_law 1005 = .ok (.iload_n 3, 1) := fo_29 (fd_n 25 sr_L_law_28 rfl)
theorem dL_law_1006 : decode cL_law 1006 = .ok (.iconst 1, 1) := fo_4 (fd_n 26 sr_L_law_28 rfl)
theorem dL_law_1007 : decode cL_law 1007 = .ok (.iadd, 1) := fo_96 (fd_n 27 sr_L_law_28 rfl)
theorem dL_law_1008 : decode cL_law 1008 = .ok (.iaload, 1) := fo_46 sr_L_law_29
theorem dL_law_1009 : decode cL_law 1009 = .ok (.invokevirtual 118, 3) := fo_182 (fd_n 1 sr_L_law_29 rfl) rfl
theorem dL_law_1012 : decode cL_law 1012 = .ok (.pop, 1) := fo_87 (fd_n 4 sr_L_law_29 rfl)
theorem dL_law_1013 : decode cL_law 1013 = .ok (.aload_n 2, 1) := fo_44 (fd_n 5 sr_L_law_29 rfl)
theorem dL_law_1014 : decode cL_law 1014 = .ok (.aload_n 0, 1) := fo_42 (fd_n 6 sr_L_law_29 rfl)
theorem dL_law_1015 : decode cL_law 1015 = .ok (.iload_n 3, 1) := fo_29 (fd_n 7 sr_L_law_29 rfl)
theorem dL_law_1016 : decode cL_law 1016 = .ok (.iconst 1, 1) := fo_4 (fd_n 8 sr_L_law_29 rfl)
theorem dL_law_1017 : decode cL_law 1017 = .ok (.iadd, 1) := fo_96 (fd_n 9 sr_L_law_29 rfl)
theorem dL_law_1018 : decode cL_law 1018 = .ok (.iaload, 1) := fo_46 (fd_n 10 sr_L_law_29 rfl)
theorem dL_law_1019 : decode cL_law 1019 = .ok (.invokevirtual 121, 3) := fo_182 (fd_n 11 sr_L_law_29 rfl) rfl
theorem dL_law_1022 : decode cL_law 1022 = .ok (.pop, 1) := fo_87 (fd_n 14 sr_L_law_29 rfl)
theorem dL_law_1023 : decode cL_law 1023 = .ok (.goto 675, 3) := fo_167 (fd_n 15 sr_L_law_29 rfl) (by decide +kernel)
theorem dL_law_1026 : decode cL_law 1026 = .ok (.aload_n 1, 1) := fo_43 (fd_n 18 sr_L_law_29 rfl)
theorem dL_law_1027 : decode cL_law 1027 = .ok (.aload_n 0, 1) := fo_42 (fd_n 19 sr_L_law_29 rfl)
theorem dL_law_1028 : decode cL_law 1028 = .ok (.iload_n 3, 1) := fo_29 (fd_n 20 sr_L_law_29 rfl)
theorem dL_law_1029 : decode cL_law 1029 = .ok (.iconst 1, 1) := fo_4 (fd_n 21 sr_L_law_29 rfl)
theorem dL_law_1030 : decode cL_law 1030 = .ok (.iadd, 1) := fo_96 (fd_n 22 sr_L_law_29 rfl)
theorem dL_law_1031 : decode cL_law 1031 = .ok (.iaload, 1) := fo_46 (fd_n 23 sr_L_law_29 rfl)
theorem dL_law_1032 : decode cL_law 1032 = .ok (.invokevirtual 122, 3) := fo_182 (fd_n 24 sr_L_law_29 rfl) rfl
theorem dL_law_1035 : decode cL_law 1035 = .ok (.pop, 1) := fo_87 (fd_n 27 sr_L_law_29 rfl)
theorem dL_law_1036 : decode cL_law 1036 = .ok (.aload_n 2, 1) := fo_44 sr_L_law_30
theorem dL_law_1037 : decode cL_law 1037 = .ok (.aload_n 0, 1) := fo_42 (fd_n 1 sr_L_law_30 rfl)
theorem dL_law_1038 : decode cL_law 1038 = .ok (.iload_n 3, 1) := fo_29 (fd_n 2 sr_L_law_30 rfl)
theorem dL_law_1039 : decode cL_law 1039 = .ok (.iconst 1, 1) := fo_4 (fd_n 3 sr_L_law_30 rfl)
theorem dL_law_1040 : decode cL_law 1040 = .ok (.iadd, 1) := fo_96 (fd_n 4 sr_L_law_30 rfl)
theorem dL_law_1041 : decode cL_law 1041 = .ok (.iaload, 1) := fo_46 (fd_n 5 sr_L_law_30 rfl)
theorem dL_law_1042 : decode cL_law 1042 = .ok (.invokevirtual 125, 3) := fo_182 (fd_n 6 sr_L_law_30 rfl) rfl
theorem dL_law_1045 : decode cL_law 1045 = .ok (.pop, 1) := fo_87 (fd_n 9 sr_L_law_30 rfl)
theorem dL_law_1046 : decode cL_law 1046 = .ok (.goto 652, 3) := fo_167 (fd_n 10 sr_L_law_30 rfl) (by decide +kernel)
theorem dL_law_1049 : decode cL_law 1049 = .ok (.aload_n 1, 1) := fo_43 (fd_n 13 sr_L_law_30 rfl)
theorem dL_law_1050 : decode cL_law 1050 = .ok (.aload_n 0, 1) := fo_42 (fd_n 14 sr_L_law_30 rfl)
theorem dL_law_1051 : decode cL_law 1051 = .ok (.iload_n 3, 1) := fo_29 (fd_n 15 sr_L_law_30 rfl)
theorem dL_law_1052 : decode cL_law 1052 = .ok (.iconst 1, 1) := fo_4 (fd_n 16 sr_L_law_30 rfl)
theorem dL_law_1053 : decode cL_law 1053 = .ok (.iadd, 1) := fo_96 (fd_n 17 sr_L_law_30 rfl)
theorem dL_law_1054 : decode cL_law 1054 = .ok (.iaload, 1) := fo_46 (fd_n 18 sr_L_law_30 rfl)
theorem dL_law_1055 : decode cL_law 1055 = .ok (.invokevirtual 126, 3) := fo_182 (fd_n 19 sr_L_law_30 rfl) rfl
theorem dL_law_1058 : decode cL_law 1058 = .ok (.pop, 1) := fo_87 (fd_n 22 sr_L_law_30 rfl)
theorem dL_law_1059 : decode cL_law 1059 = .ok (.aload_n 2, 1) := fo_44 (fd_n 23 sr_L_law_30 rfl)
theorem dL_law_1060 : decode cL_law 1060 = .ok (.aload_n 0, 1) := fo_42 (fd_n 24 sr_L_law_30 rfl)
theorem dL_law_1061 : decode cL_law 1061 = .ok (.iload_n 3, 1) := fo_29 (fd_n 25 sr_L_law_30 rfl)
theorem dL_law_1062 : decode cL_law 1062 = .ok (.iconst 1, 1) := fo_4 (fd_n 26 sr_L_law_30 rfl)
theorem dL_law_1063 : decode cL_law 1063 = .ok (.iadd, 1) := fo_96 (fd_n 27 sr_L_law_30 rfl)
theorem dL_law_1064 : decode cL_law 1064 = .ok (.iaload, 1) := fo_46 sr_L_law_31
theorem dL_law_1065 : decode cL_law 1065 = .ok (.invokevirtual 129, 3) := fo_182 (fd_n 1 sr_L_law_31 rfl) rfl
theorem dL_law_1068 : decode cL_law 1068 = .ok (.pop, 1) := fo_87 (fd_n 4 sr_L_law_31 rfl)
theorem dL_law_1069 : decode cL_law 1069 = .ok (.goto 629, 3) := fo_167 (fd_n 5 sr_L_law_31 rfl) (by decide +kernel)
theorem dL_law_1072 : decode cL_law 1072 = .ok (.aload_n 1, 1) := fo_43 (fd_n 8 sr_L_law_31 rfl)
theorem dL_law_1073 : decode cL_law 1073 = .ok (.aload_n 0, 1) := fo_42 (fd_n 9 sr_L_law_31 rfl)
theorem dL_law_1074 : decode cL_law 1074 = .ok (.iload_n 3, 1) := fo_29 (fd_n 10 sr_L_law_31 rfl)
theorem dL_law_1075 : decode cL_law 1075 = .ok (.iconst 1, 1) := fo_4 (fd_n 11 sr_L_law_31 rfl)
theorem dL_law_1076 : decode cL_law 1076 = .ok (.iadd, 1) := fo_96 (fd_n 12 sr_L_law_31 rfl)
theorem dL_law_1077 : decode cL_law 1077 = .ok (.iaload, 1) := fo_46 (fd_n 13 sr_L_law_31 rfl)
theorem dL_law_1078 : decode cL_law 1078 = .ok (.invokevirtual 130, 3) := fo_182 (fd_n 14 sr_L_law_31 rfl) rfl
theorem dL_law_1081 : decode cL_law 1081 = .ok (.pop, 1) := fo_87 (fd_n 17 sr_L_law_31 rfl)
theorem dL_law_1082 : decode cL_law 1082 = .ok (.aload_n 2, 1) := fo_44 (fd_n 18 sr_L_law_31 rfl)
theorem dL_law_1083 : decode cL_law 1083 = .ok (.aload_n 0, 1) := fo_42 (fd_n 19 sr_L_law_31 rfl)
theorem dL_law_1084 : decode cL_law 1084 = .ok (.iload_n 3, 1) := fo_29 (fd_n 20 sr_L_law_31 rfl)
theorem dL_law_1085 : decode cL_law 1085 = .ok (.iconst 1, 1) := fo_4 (fd_n 21 sr_L_law_31 rfl)
theorem dL_law_1086 : decode cL_law 1086 = .ok (.iadd, 1) := fo_96 (fd_n 22 sr_L_law_31 rfl)
theorem dL_law_1087 : decode cL_law 1087 = .ok (.iaload, 1) := fo_46 (fd_n 23 sr_L_law_31 rfl)
theorem dL_law_1088 : decode cL_law 1088 = .ok (.invokevirtual 133, 3) := fo_182 (fd_n 24 sr_L_law_31 rfl) rfl
theorem dL_law_1091 : decode cL_law 1091 = .ok (.pop, 1) := fo_87 (fd_n 27 sr_L_law_31 rfl)
theorem dL_law_1092 : decode cL_law 1092 = .ok (.goto 606, 3) := fo_167 sr_L_law_32 (by decide +kernel)
theorem dL_law_1095 : decode cL_law 1095 = .ok (.aload_n 1, 1) := fo_43 (fd_n 3 sr_L_law_32 rfl)
theorem dL_law_1096 : decode cL_law 1096 = .ok (.aload_n 0, 1) := fo_42 (fd_n 4 sr_L_law_32 rfl)
theorem dL_law_1097 : decode cL_law 1097 = .ok (.iload_n 3, 1) := fo_29 (fd_n 5 sr_L_law_32 rfl)
theorem dL_law_1098 : decode cL_law 1098 = .ok (.iconst 1, 1) := fo_4 (fd_n 6 sr_L_law_32 rfl)
theorem dL_law_1099 : decode cL_law 1099 = .ok (.iadd, 1) := fo_96 (fd_n 7 sr_L_law_32 rfl)
theorem dL_law_1100 : decode cL_law 1100 = .ok (.iaload, 1) := fo_46 (fd_n 8 sr_L_law_32 rfl)
theorem dL_law_1101 : decode cL_law 1101 = .ok (.aload_n 0, 1) := fo_42 (fd_n 9 sr_L_law_32 rfl)
theorem dL_law_1102 : decode cL_law 1102 = .ok (.iload_n 3, 1) := fo_29 (fd_n 10 sr_L_law_32 rfl)
theorem dL_law_1103 : decode cL_law 1103 = .ok (.iconst 2, 1) := fo_5 (fd_n 11 sr_L_law_32 rfl)
theorem dL_law_1104 : decode cL_law 1104 = .ok (.iadd, 1) := fo_96 (fd_n 12 sr_L_law_32 rfl)
theorem dL_law_1105 : decode cL_law 1105 = .ok (.iaload, 1) := fo_46 (fd_n 13 sr_L_law_32 rfl)
theorem dL_law_1106 : decode cL_law 1106 = .ok (.aload_n 0, 1) := fo_42 (fd_n 14 sr_L_law_32 rfl)
theorem dL_law_1107 : decode cL_law 1107 = .ok (.iload_n 3, 1) := fo_29 (fd_n 15 sr_L_law_32 rfl)
theorem dL_law_1108 : decode cL_law 1108 = .ok (.iconst 3, 1) := fo_6 (fd_n 16 sr_L_law_32 rfl)
theorem dL_law_1109 : decode cL_law 1109 = .ok (.iadd, 1) := fo_96 (fd_n 17 sr_L_law_32 rfl)
theorem dL_law_1110 : decode cL_law 1110 = .ok (.iaload, 1) := fo_46 (fd_n 18 sr_L_law_32 rfl)
theorem dL_law_1111 : decode cL_law 1111 = .ok (.invokevirtual 134, 3) := fo_182 (fd_n 19 sr_L_law_32 rfl) rfl
theorem dL_law_1114 : decode cL_law 1114 = .ok (.pop, 1) := fo_87 (fd_n 22 sr_L_law_32 rfl)
theorem dL_law_1115 : decode cL_law 1115 = .ok (.aload_n 2, 1) := fo_44 (fd_n 23 sr_L_law_32 rfl)
theorem dL_law_1116 : decode cL_law 1116 = .ok (.aload_n 0, 1) := fo_42 (fd_n 24 sr_L_law_32 rfl)
theorem dL_law_1117 : decode cL_law 1117 = .ok (.iload_n 3, 1) := fo_29 (fd_n 25 sr_L_law_32 rfl)
theorem dL_law_1118 : decode cL_law 1118 = .ok (.iconst 1, 1) := fo_4 (fd_n 26 sr_L_law_32 rfl)
theorem dL_law_1119 : decode cL_law 1119 = .ok (.iadd, 1) := fo_96 (fd_n 27 sr_L_law_32 rfl)
theorem dL_law_1120 : decode cL_law 1120 = .ok (.iaload, 1) := fo_46 sr_L_law_33
theorem dL_law_1121 : decode cL_law 1121 = .ok (.aload_n 0, 1) := fo_42 (fd_n 1 sr_L_law_33 rfl)
theorem dL_law_1122 : decode cL_law 1122 = .ok (.iload_n 3, 1) := fo_29 (fd_n 2 sr_L_law_33 rfl)
theorem dL_law_1123 : decode cL_law 1123 = .ok (.iconst 2, 1) := fo_5 (fd_n 3 sr_L_law_33 rfl)
theorem dL_law_1124 : decode cL_law 1124 = .ok (.iadd, 1) := fo_96 (fd_n 4 sr_L_law_33 rfl)
theorem dL_law_1125 : decode cL_law 1125 = .ok (.iaload, 1) := fo_46 (fd_n 5 sr_L_law_33 rfl)
theorem dL_law_1126 : decode cL_law 1126 = .ok (.aload_n 0, 1) := fo_42 (fd_n 6 sr_L_law_33 rfl)
theorem dL_law_1127 : decode cL_law 1127 = .ok (.iload_n 3, 1) := fo_29 (fd_n 7 sr_L_law_33 rfl)
theorem dL_law_1128 : decode cL_law 1128 = .ok (.iconst 3, 1) := fo_6 (fd_n 8 sr_L_law_33 rfl)
theorem dL_law_1129 : decode cL_law 1129 = .ok (.iadd, 1) := fo_96 (fd_n 9 sr_L_law_33 rfl)
theorem dL_law_1130 : decode cL_law 1130 = .ok (.iaload, 1) := fo_46 (fd_n 10 sr_L_law_33 rfl)
theorem dL_law_1131 : decode cL_law 1131 = .ok (.invokevirtual 137, 3) := fo_182 (fd_n 11 sr_L_law_33 rfl) rfl
theorem dL_law_1134 : decode cL_law 1134 = .ok (.pop, 1) := fo_87 (fd_n 14 sr_L_law_33 rfl)
theorem dL_law_1135 : decode cL_law 1135 = .ok (.goto 563, 3) := fo_167 (fd_n 15 sr_L_law_33 rfl) (by decide +kernel)
theorem dL_law_1138 : decode cL_law 1138 = .ok (.aload_n 1, 1) := fo_43 (fd_n 18 sr_L_law_33 rfl)
theorem dL_law_1139 : decode cL_law 1139 = .ok (.aload_n 0, 1) := fo_42 (fd_n 19 sr_L_law_33 rfl)
theorem dL_law_1140 : decode cL_law 1140 = .ok (.iload_n 3, 1) := fo_29 (fd_n 20 sr_L_law_33 rfl)
theorem dL_law_1141 : decode cL_law 1141 = .ok (.iconst 1, 1) := fo_4 (fd_n 21 sr_L_law_33 rfl)
theorem dL_law_1142 : decode cL_law 1142 = .ok (.iadd, 1) := fo_96 (fd_n 22 sr_L_law_33 rfl)
theorem dL_law_1143 : decode cL_law 1143 = .ok (.iaload, 1) := fo_46 (fd_n 23 sr_L_law_33 rfl)
theorem dL_law_1144 : decode cL_law 1144 = .ok (.invokevirtual 138, 3) := fo_182 (fd_n 24 sr_L_law_33 rfl) rfl
theorem dL_law_1147 : decode cL_law 1147 = .ok (.pop, 1) := fo_87 (fd_n 27 sr_L_law_33 rfl)
theorem dL_law_1148 : decode cL_law 1148 = .ok (.aload_n 2, 1) := fo_44 sr_L_law_34
theorem dL_law_1149 : decode cL_law 1149 = .ok (.aload_n 0, 1) := fo_42 (fd_n 1 sr_L_law_34 rfl)
theorem dL_law_1150 : decode cL_law 1150 = .ok (.iload_n 3, 1) := fo_29 (fd_n 2 sr_L_law_34 rfl)
theorem dL_law_1151 : decode cL_law 1151 = .ok (.iconst 1, 1) := fo_4 (fd_n 3 sr_L_law_34 rfl)
theorem dL_law_1152 : decode cL_law 1152 = .ok (.iadd, 1) := fo_96 (fd_n 4 sr_L_law_34 rfl)
theorem dL_law_1153 : decode cL_law 1153 = .ok (.iaload, 1) := fo_46 (fd_n 5 sr_L_law_34 rfl)
theorem dL_law_1154 : decode cL_law 1154 = .ok (.invokevirtual 141, 3) := fo_182 (fd_n 6 sr_L_law_34 rfl) rfl
theorem dL_law_1157 : decode cL_law 1157 = .ok (.pop, 1) := fo_87 (fd_n 9 sr_L_law_34 rfl)
theorem dL_law_1158 : decode cL_law 1158 = .ok (.goto 540, 3) := fo_167 (fd_n 10 sr_L_law_34 rfl) (by decide +kernel)
theorem dL_law_1161 : decode cL_law 1161 = .ok (.aload_n 1, 1) := fo_43 (fd_n 13 sr_L_law_34 rfl)
theorem dL_law_1162 : decode cL_law 1162 = .ok (.aload_n 0, 1) := fo_42 (fd_n 14 sr_L_law_34 rfl)
theorem dL_law_1163 : decode cL_law 1163 = .ok (.iload_n 3, 1) := fo_29 (fd_n 15 sr_L_law_34 rfl)
theorem dL_law_1164 : decode cL_law 1164 = .ok (.iconst 1, 1) := fo_4 (fd_n 16 sr_L_law_34 rfl)
theorem dL_law_1165 : decode cL_law 1165 = .ok (.iadd, 1) := fo_96 (fd_n 17 sr_L_law_34 rfl)
theorem dL_law_1166 : decode cL_law 1166 = .ok (.iaload, 1) := fo_46 (fd_n 18 sr_L_law_34 rfl)
theorem dL_law_1167 : decode cL_law 1167 = .ok (.aload_n 0, 1) := fo_42 (fd_n 19 sr_L_law_34 rfl)
theorem dL_law_1168 : decode cL_law 1168 = .ok (.iload_n 3, 1) := fo_29 (fd_n 20 sr_L_law_34 rfl)
theorem dL_law_1169 : decode cL_law 1169 = .ok (.iconst 2, 1) := fo_5 (fd_n 21 sr_L_law_34 rfl)
theorem dL_law_1170 : decode cL_law 1170 = .ok (.iadd, 1) := fo_96 (fd_n 22 sr_L_law_34 rfl)
theorem dL_law_1171 : decode cL_law 1171 = .ok (.iaload, 1) := fo_46 (fd_n 23 sr_L_law_34 rfl)
theorem dL_law_1172 : decode cL_law 1172 = .ok (.invokevirtual 142, 3) := fo_182 (fd_n 24 sr_L_law_34 rfl) rfl
theorem dL_law_1175 : decode cL_law 1175 = .ok (.pop, 1) := fo_87 (fd_n 27 sr_L_law_34 rfl)
theorem dL_law_1176 : decode cL_law 1176 = .ok (.aload_n 2, 1) := fo_44 sr_L_law_35
theorem dL_law_1177 : decode cL_law 1177 = .ok (.aload_n 0, 1) := fo_42 (fd_n 1 sr_L_law_35 rfl)
theorem dL_law_1178 : decode cL_law 1178 = .ok (.iload_n 3, 1) := fo_29 (fd_n 2 sr_L_law_35 rfl)
theorem dL_law_1179 : decode cL_law 1179 = .ok (.iconst 1, 1) := fo_4 (fd_n 3 sr_L_law_35 rfl)
theorem dL_law_1180 : decode cL_law 1180 = .ok (.iadd, 1) := fo_96 (fd_n 4 sr_L_law_35 rfl)
theorem dL_law_1181 : decode cL_law 1181 = .ok (.iaload, 1) := fo_46 (fd_n 5 sr_L_law_35 rfl)
theorem dL_law_1182 : decode cL_law 1182 = .ok (.aload_n 0, 1) := fo_42 (fd_n 6 sr_L_law_35 rfl)
theorem dL_law_1183 : decode cL_law 1183 = .ok (.iload_n 3, 1) := fo_29 (fd_n 7 sr_L_law_35 rfl)
theorem dL_law_1184 : decode cL_law 1184 = .ok (.iconst 2, 1) := fo_5 (fd_n 8 sr_L_law_35 rfl)
theorem dL_law_1185 : decode cL_law 1185 = .ok (.iadd, 1) := fo_96 (fd_n 9 sr_L_law_35 rfl)
theorem dL_law_1186 : decode cL_law 1186 = .ok (.iaload, 1) := fo_46 (fd_n 10 sr_L_law_35 rfl)
theorem dL_law_1187 : decode cL_law 1187 = .ok (.invokevirtual 145, 3) := fo_182 (fd_n 11 sr_L_law_35 rfl) rfl
theorem dL_law_1190 : decode cL_law 1190 = .ok (.pop, 1) := fo_87 (fd_n 14 sr_L_law_35 rfl)
theorem dL_law_1191 : decode cL_law 1191 = .ok (.goto 507, 3) := fo_167 (fd_n 15 sr_L_law_35 rfl) (by decide +kernel)
theorem dL_law_1194 : decode cL_law 1194 = .ok (.aload_n 1, 1) := fo_43 (fd_n 18 sr_L_law_35 rfl)
theorem dL_law_1195 : decode cL_law 1195 = .ok (.aload_n 0, 1) := fo_42 (fd_n 19 sr_L_law_35 rfl)
theorem dL_law_1196 : decode cL_law 1196 = .ok (.iload_n 3, 1) := fo_29 (fd_n 20 sr_L_law_35 rfl)
theorem dL_law_1197 : decode cL_law 1197 = .ok (.iconst 1, 1) := fo_4 (fd_n 21 sr_L_law_35 rfl)
theorem dL_law_1198 : decode cL_law 1198 = .ok (.iadd, 1) := fo_96 (fd_n 22 sr_L_law_35 rfl)
theorem dL_law_1199 : decode cL_law 1199 = .ok (.iaload, 1) := fo_46 (fd_n 23 sr_L_law_35 rfl)
theorem dL_law_1200 : decode cL_law 1200 = .ok (.aload_n 0, 1) := fo_42 (fd_n 24 sr_L_law_35 rfl)
theorem dL_law_1201 : decode cL_law 1201 = .ok (.iload_n 3, 1) := fo_29 (fd_n 25 sr_L_law_35 rfl)
theorem dL_law_1202 : decode cL_law 1202 = .ok (.iconst 2, 1) := fo_5 (fd_n 26 sr_L_law_35 rfl)
theorem dL_law_1203 : decode cL_law 1203 = .ok (.iadd, 1) := fo_96 (fd_n 27 sr_L_law_35 rfl)
theorem dL_law_1204 : decode cL_law 1204 = .ok (.iaload, 1) := fo_46 sr_L_law_36
theorem dL_law_1205 : decode cL_law 1205 = .ok (.invokevirtual 146, 3) := fo_182 (fd_n 1 sr_L_law_36 rfl) rfl
theorem dL_law_1208 : decode cL_law 1208 = .ok (.pop, 1) := fo_87 (fd_n 4 sr_L_law_36 rfl)
theorem dL_law_1209 : decode cL_law 1209 = .ok (.aload_n 2, 1) := fo_44 (fd_n 5 sr_L_law_36 rfl)
theorem dL_law_1210 : decode cL_law 1210 = .ok (.aload_n 0, 1) := fo_42 (fd_n 6 sr_L_law_36 rfl)
theorem dL_law_1211 : decode cL_law 1211 = .ok (.iload_n 3, 1) := fo_29 (fd_n 7 sr_L_law_36 rfl)
theorem dL_law_1212 : decode cL_law 1212 = .ok (.iconst 1, 1) := fo_4 (fd_n 8 sr_L_law_36 rfl)
theorem dL_law_1213 : decode cL_law 1213 = .ok (.iadd, 1) := fo_96 (fd_n 9 sr_L_law_36 rfl)
theorem dL_law_1214 : decode cL_law 1214 = .ok (.iaload, 1) := fo_46 (fd_n 10 sr_L_law_36 rfl)
theorem dL_law_1215 : decode cL_law 1215 = .ok (.aload_n 0, 1) := fo_42 (fd_n 11 sr_L_law_36 rfl)
theorem dL_law_1216 : decode cL_law 1216 = .ok (.iload_n 3, 1) := fo_29 (fd_n 12 sr_L_law_36 rfl)
theorem dL_law_1217 : decode cL_law 1217 = .ok (.iconst 2, 1) := fo_5 (fd_n 13 sr_L_law_36 rfl)
theorem dL_law_1218 : decode cL_law 1218 = .ok (.iadd, 1) := fo_96 (fd_n 14 sr_L_law_36 rfl)
theorem dL_law_1219 : decode cL_law 1219 = .ok (.iaload, 1) := fo_46 (fd_n 15 sr_L_law_36 rfl)
theorem dL_law_1220 : decode cL_law 1220 = .ok (.invokevirtual 149, 3) := fo_182 (fd_n 16 sr_L_law_36 rfl) rfl
theorem dL_law_1223 : decode cL_law 1223 = .ok (.pop, 1) := fo_87 (fd_n 19 sr_L_law_36 rfl)
theorem dL_law_1224 : decode cL_law 1224 = .ok (.goto 474, 3) := fo_167 (fd_n 20 sr_L_law_36 rfl) (by decide +kernel)
theorem dL_law_1227 : decode cL_law 1227 = .ok (.aload_n 1, 1) := fo_43 (fd_n 23 sr_L_law_36 rfl)
theorem dL_law_1228 : decode cL_law 1228 = .ok (.aload_n 0, 1) := fo_42 (fd_n 24 sr_L_law_36 rfl)
theorem dL_law_1229 : decode cL_law 1229 = .ok (.iload_n 3, 1) := fo_29 (fd_n 25 sr_L_law_36 rfl)
theorem dL_law_1230 : decode cL_law 1230 = .ok (.iconst 1, 1) := fo_4 (fd_n 26 sr_L_law_36 rfl)
theorem dL_law_1231 : decode cL_law 1231 = .ok (.iadd, 1) := fo_96 (fd_n 27 sr_L_law_36 rfl)
theorem dL_law_1232 : decode cL_law 1232 = .ok (.iaload, 1) := fo_46 sr_L_law_37
theorem dL_law_1233 : decode cL_law 1233 = .ok (.invokevirtual 150, 3) := fo_182 (fd_n 1 sr_L_law_37 rfl) rfl
theorem dL_law_1236 : decode cL_law 1236 = .ok (.pop, 1) := fo_87 (fd_n 4 sr_L_law_37 rfl)
theorem dL_law_1237 : decode cL_law 1237 = .ok (.aload_n 2, 1) := fo_44 (fd_n 5 sr_L_law_37 rfl)
theorem dL_law_1238 : decode cL_law 1238 = .ok (.aload_n 0, 1) := fo_42 (fd_n 6 sr_L_law_37 rfl)
theorem dL_law_1239 : decode cL_law 1239 = .ok (.iload_n 3, 1) := fo_29 (fd_n 7 sr_L_law_37 rfl)
theorem dL_law_1240 : decode cL_law 1240 = .ok (.iconst 1, 1) := fo_4 (fd_n 8 sr_L_law_37 rfl)
theorem dL_law_1241 : decode cL_law 1241 = .ok (.iadd, 1) := fo_96 (fd_n 9 sr_L_law_37 rfl)
theorem dL_law_1242 : decode cL_law 1242 = .ok (.iaload, 1) := fo_46 (fd_n 10 sr_L_law_37 rfl)
theorem dL_law_1243 : decode cL_law 1243 = .ok (.invokevirtual 153, 3) := fo_182 (fd_n 11 sr_L_law_37 rfl) rfl
theorem dL_law_1246 : decode cL_law 1246 = .ok (.pop, 1) := fo_87 (fd_n 14 sr_L_law_37 rfl)
theorem dL_law_1247 : decode cL_law 1247 = .ok (.goto 451, 3) := fo_167 (fd_n 15 sr_L_law_37 rfl) (by decide +kernel)
theorem dL_law_1250 : decode cL_law 1250 = .ok (.aload_n 1, 1) := fo_43 (fd_n 18 sr_L_law_37 rfl)
theorem dL_law_1251 : decode cL_law 1251 = .ok (.aload_n 0, 1) := fo_42 (fd_n 19 sr_L_law_37 rfl)
theorem dL_law_1252 : decode cL_law 1252 = .ok (.iload_n 3, 1) := fo_29 (fd_n 20 sr_L_law_37 rfl)
theorem dL_law_1253 : decode cL_law 1253 = .ok (.iconst 1, 1) := fo_4 (fd_n 21 sr_L_law_37 rfl)
theorem dL_law_1254 : decode cL_law 1254 = .ok (.iadd, 1) := fo_96 (fd_n 22 sr_L_law_37 rfl)
theorem dL_law_1255 : decode cL_law 1255 = .ok (.iaload, 1) := fo_46 (fd_n 23 sr_L_law_37 rfl)
theorem dL_law_1256 : decode cL_law 1256 = .ok (.invokevirtual 154, 3) := fo_182 (fd_n 24 sr_L_law_37 rfl) rfl
theorem dL_law_1259 : decode cL_law 1259 = .ok (.pop, 1) := fo_87 (fd_n 27 sr_L_law_37 rfl)
theorem dL_law_1260 : decode cL_law 1260 = .ok (.aload_n 2, 1) := fo_44 sr_L_law_38
theorem dL_law_1261 : decode cL_law 1261 = .ok (.aload_n 0, 1) := fo_42 (fd_n 1 sr_L_law_38 rfl)
theorem dL_law_1262 : decode cL_law 1262 = .ok (.iload_n 3, 1) := fo_29 (fd_n 2 sr_L_law_38 rfl)
theorem dL_law_1263 : decode cL_law 1263 = .ok (.iconst 1, 1) := fo_4 (fd_n 3 sr_L_law_38 rfl)
theorem dL_law_1264 : decode cL_law 1264 = .ok (.iadd, 1) := fo_96 (fd_n 4 sr_L_law_38 rfl)
theorem dL_law_1265 : decode cL_law 1265 = .ok (.iaload, 1) := fo_46 (fd_n 5 sr_L_law_38 rfl)
theorem dL_law_1266 : decode cL_law 1266 = .ok (.invokevirtual 157, 3) := fo_182 (fd_n 6 sr_L_law_38 rfl) rfl
theorem dL_law_1269 : decode cL_law 1269 = .ok (.pop, 1) := fo_87 (fd_n 9 sr_L_law_38 rfl)
theorem dL_law_1270 : decode cL_law 1270 = .ok (.goto 428, 3) := fo_167 (fd_n 10 sr_L_law_38 rfl) (by decide +kernel)
theorem dL_law_1273 : decode cL_law 1273 = .ok (.aload_n 1, 1) := fo_43 (fd_n 13 sr_L_law_38 rfl)
theorem dL_law_1274 : decode cL_law 1274 = .ok (.aload_n 0, 1) := fo_42 (fd_n 14 sr_L_law_38 rfl)
theorem dL_law_1275 : decode cL_law 1275 = .ok (.iload_n 3, 1) := fo_29 (fd_n 15 sr_L_law_38 rfl)
theorem dL_law_1276 : decode cL_law 1276 = .ok (.iconst 1, 1) := fo_4 (fd_n 16 sr_L_law_38 rfl)
theorem dL_law_1277 : decode cL_law 1277 = .ok (.iadd, 1) := fo_96 (fd_n 17 sr_L_law_38 rfl)
theorem dL_law_1278 : decode cL_law 1278 = .ok (.iaload, 1) := fo_46 (fd_n 18 sr_L_law_38 rfl)
theorem dL_law_1279 : decode cL_law 1279 = .ok (.aload_n 0, 1) := fo_42 (fd_n 19 sr_L_law_38 rfl)
theorem dL_law_1280 : decode cL_law 1280 = .ok (.iload_n 3, 1) := fo_29 (fd_n 20 sr_L_law_38 rfl)
theorem dL_law_1281 : decode cL_law 1281 = .ok (.iconst 2, 1) := fo_5 (fd_n 21 sr_L_law_38 rfl)
theorem dL_law_1282 : decode cL_law 1282 = .ok (.iadd, 1) := fo_96 (fd_n 22 sr_L_law_38 rfl)
theorem dL_law_1283 : decode cL_law 1283 = .ok (.iaload, 1) := fo_46 (fd_n 23 sr_L_law_38 rfl)
theorem dL_law_1284 : decode cL_law 1284 = .ok (.invokevirtual 158, 3) := fo_182 (fd_n 24 sr_L_law_38 rfl) rfl
theorem dL_law_1287 : decode cL_law 1287 = .ok (.pop, 1) := fo_87 (fd_n 27 sr_L_law_38 rfl)
theorem dL_law_1288 : decode cL_law 1288 = .ok (.aload_n 2, 1) := fo_44 sr_L_law_39
theorem dL_law_1289 : decode cL_law 1289 = .ok (.aload_n 0, 1) := fo_42 (fd_n 1 sr_L_law_39 rfl)
theorem dL_law_1290 : decode cL_law 1290 = .ok (.iload_n 3, 1) := fo_29 (fd_n 2 sr_L_law_39 rfl)
theorem dL_law_1291 : decode cL_law 1291 = .ok (.iconst 1, 1) := fo_4 (fd_n 3 sr_L_law_39 rfl)
theorem dL_law_1292 : decode cL_law 1292 = .ok (.iadd, 1) := fo_96 (fd_n 4 sr_L_law_39 rfl)
theorem dL_law_1293 : decode cL_law 1293 = .ok (.iaload, 1) := fo_46 (fd_n 5 sr_L_law_39 rfl)
theorem dL_law_1294 : decode cL_law 1294 = .ok (.aload_n 0, 1) := fo_42 (fd_n 6 sr_L_law_39 rfl)
theorem dL_law_1295 : decode cL_law 1295 = .ok (.iload_n 3, 1) := fo_29 (fd_n 7 sr_L_law_39 rfl)
theorem dL_law_1296 : decode cL_law 1296 = .ok (.iconst 2, 1) := fo_5 (fd_n 8 sr_L_law_39 rfl)
theorem dL_law_1297 : decode cL_law 1297 = .ok (.iadd, 1) := fo_96 (fd_n 9 sr_L_law_39 rfl)
theorem dL_law_1298 : decode cL_law 1298 = .ok (.iaload, 1) := fo_46 (fd_n 10 sr_L_law_39 rfl)
theorem dL_law_1299 : decode cL_law 1299 = .ok (.invokevirtual 161, 3) := fo_182 (fd_n 11 sr_L_law_39 rfl) rfl
theorem dL_law_1302 : decode cL_law 1302 = .ok (.pop, 1) := fo_87 (fd_n 14 sr_L_law_39 rfl)
theorem dL_law_1303 : decode cL_law 1303 = .ok (.goto 395, 3) := fo_167 (fd_n 15 sr_L_law_39 rfl) (by decide +kernel)
theorem dL_law_1306 : decode cL_law 1306 = .ok (.aload_n 1, 1) := fo_43 (fd_n 18 sr_L_law_39 rfl)
theorem dL_law_1307 : decode cL_law 1307 = .ok (.invokevirtual 162, 3) := fo_182 (fd_n 19 sr_L_law_39 rfl) rfl
theorem dL_law_1310 : decode cL_law 1310 = .ok (.pop, 1) := fo_87 (fd_n 22 sr_L_law_39 rfl)
theorem dL_law_1311 : decode cL_law 1311 = .ok (.aload_n 2, 1) := fo_44 (fd_n 23 sr_L_law_39 rfl)
theorem dL_law_1312 : decode cL_law 1312 = .ok (.invokevirtual 165, 3) := fo_182 (fd_n 24 sr_L_law_39 rfl) rfl
theorem dL_law_1315 : decode cL_law 1315 = .ok (.pop, 1) := fo_87 (fd_n 27 sr_L_law_39 rfl)
theorem dL_law_1316 : decode cL_law 1316 = .ok (.goto 382, 3) := fo_167 sr_L_law_40 (by decide +kernel)
theorem dL_law_1319 : decode cL_law 1319 = .ok (.aload_n 1, 1) := fo_43 (fd_n 3 sr_L_law_40 rfl)
theorem dL_law_1320 : decode cL_law 1320 = .ok (.invokevirtual 166, 3) := fo_182 (fd_n 4 sr_L_law_40 rfl) rfl
theorem dL_law_1323 : decode cL_law 1323 = .ok (.pop, 1) := fo_87 (fd_n 7 sr_L_law_40 rfl)
theorem dL_law_1324 : decode cL_law 1324 = .ok (.aload_n 2, 1) := fo_44 (fd_n 8 sr_L_law_40 rfl)
theorem dL_law_1325 : decode cL_law 1325 = .ok (.invokevirtual 169, 3) := fo_182 (fd_n 9 sr_L_law_40 rfl) rfl
theorem dL_law_1328 : decode cL_law 1328 = .ok (.pop, 1) := fo_87 (fd_n 12 sr_L_law_40 rfl)
theorem dL_law_1329 : decode cL_law 1329 = .ok (.goto 369, 3) := fo_167 (fd_n 13 sr_L_law_40 rfl) (by decide +kernel)
theorem dL_law_1332 : decode cL_law 1332 = .ok (.aload_n 1, 1) := fo_43 (fd_n 16 sr_L_law_40 rfl)
theorem dL_law_1333 : decode cL_law 1333 = .ok (.aload_n 0, 1) := fo_42 (fd_n 17 sr_L_law_40 rfl)
theorem dL_law_1334 : decode cL_law 1334 = .ok (.iload_n 3, 1) := fo_29 (fd_n 18 sr_L_law_40 rfl)
theorem dL_law_1335 : decode cL_law 1335 = .ok (.iconst 1, 1) := fo_4 (fd_n 19 sr_L_law_40 rfl)
theorem dL_law_1336 : decode cL_law 1336 = .ok (.iadd, 1) := fo_96 (fd_n 20 sr_L_law_40 rfl)
theorem dL_law_1337 : decode cL_law 1337 = .ok (.iaload, 1) := fo_46 (fd_n 21 sr_L_law_40 rfl)
theorem dL_law_1338 : decode cL_law 1338 = .ok (.aload_n 0, 1) := fo_42 (fd_n 22 sr_L_law_40 rfl)
theorem dL_law_1339 : decode cL_law 1339 = .ok (.iload_n 3, 1) := fo_29 (fd_n 23 sr_L_law_40 rfl)
theorem dL_law_1340 : decode cL_law 1340 = .ok (.iconst 2, 1) := fo_5 (fd_n 24 sr_L_law_40 rfl)
theorem dL_law_1341 : decode cL_law 1341 = .ok (.iadd, 1) := fo_96 (fd_n 25 sr_L_law_40 rfl)
theorem dL_law_1342 : decode cL_law 1342 = .ok (.iaload, 1) := fo_46 (fd_n 26 sr_L_law_40 rfl)
theorem dL_law_1343 : decode cL_law 1343 = .ok (.invokevirtual 170, 3) := fo_182 (fd_n 27 sr_L_law_40 rfl) rfl
theorem dL_law_1346 : decode cL_law 1346 = .ok (.pop, 1) := fo_87 sr_L_law_41
theorem dL_law_1347 : decode cL_law 1347 = .ok (.aload_n 2, 1) := fo_44 (fd_n 1 sr_L_law_41 rfl)
theorem dL_law_1348 : decode cL_law 1348 = .ok (.aload_n 0, 1) := fo_42 (fd_n 2 sr_L_law_41 rfl)
theorem dL_law_1349 : decode cL_law 1349 = .ok (.iload_n 3, 1) := fo_29 (fd_n 3 sr_L_law_41 rfl)
theorem dL_law_1350 : decode cL_law 1350 = .ok (.iconst 1, 1) := fo_4 (fd_n 4 sr_L_law_41 rfl)
theorem dL_law_1351 : decode cL_law 1351 = .ok (.iadd, 1) := fo_96 (fd_n 5 sr_L_law_41 rfl)
theorem dL_law_1352 : decode cL_law 1352 = .ok (.iaload, 1) := fo_46 (fd_n 6 sr_L_law_41 rfl)
theorem dL_law_1353 : decode cL_law 1353 = .ok (.aload_n 0, 1) := fo_42 (fd_n 7 sr_L_law_41 rfl)
theorem dL_law_1354 : decode cL_law 1354 = .ok (.iload_n 3, 1) := fo_29 (fd_n 8 sr_L_law_41 rfl)
theorem dL_law_1355 : decode cL_law 1355 = .ok (.iconst 2, 1) := fo_5 (fd_n 9 sr_L_law_41 rfl)
theorem dL_law_1356 : decode cL_law 1356 = .ok (.iadd, 1) := fo_96 (fd_n 10 sr_L_law_41 rfl)
theorem dL_law_1357 : decode cL_law 1357 = .ok (.iaload, 1) := fo_46 (fd_n 11 sr_L_law_41 rfl)
theorem dL_law_1358 : decode cL_law 1358 = .ok (.invokevirtual 173, 3) := fo_182 (fd_n 12 sr_L_law_41 rfl) rfl
theorem dL_law_1361 : decode cL_law 1361 = .ok (.pop, 1) := fo_87 (fd_n 15 sr_L_law_41 rfl)
theorem dL_law_1362 : decode cL_law 1362 = .ok (.goto 336, 3) := fo_167 (fd_n 16 sr_L_law_41 rfl) (by decide +kernel)
theorem dL_law_1365 : decode cL_law 1365 = .ok (.aload_n 1, 1) := fo_43 (fd_n 19 sr_L_law_41 rfl)
theorem dL_law_1366 : decode cL_law 1366 = .ok (.aload_n 0, 1) := fo_42 (fd_n 20 sr_L_law_41 rfl)
theorem dL_law_1367 : decode cL_law 1367 = .ok (.iload_n 3, 1) := fo_29 (fd_n 21 sr_L_law_41 rfl)
theorem dL_law_1368 : decode cL_law 1368 = .ok (.iconst 1, 1) := fo_4 (fd_n 22 sr_L_law_41 rfl)
theorem dL_law_1369 : decode cL_law 1369 = .ok (.iadd, 1) := fo_96 (fd_n 23 sr_L_law_41 rfl)
theorem dL_law_1370 : decode cL_law 1370 = .ok (.iaload, 1) := fo_46 (fd_n 24 sr_L_law_41 rfl)
theorem dL_law_1371 : decode cL_law 1371 = .ok (.aload_n 0, 1) := fo_42 (fd_n 25 sr_L_law_41 rfl)
theorem dL_law_1372 : decode cL_law 1372 = .ok (.iload_n 3, 1) := fo_29 (fd_n 26 sr_L_law_41 rfl)
theorem dL_law_1373 : decode cL_law 1373 = .ok (.iconst 2, 1) := fo_5 (fd_n 27 sr_L_law_41 rfl)
theorem dL_law_1374 : decode cL_law 1374 = .ok (.iadd, 1) := fo_96 sr_L_law_42
theorem dL_law_1375 : decode cL_law 1375 = .ok (.iaload, 1) := fo_46 (fd_n 1 sr_L_law_42 rfl)
theorem dL_law_1376 : decode cL_law 1376 = .ok (.invokevirtual 174, 3) := fo_182 (fd_n 2 sr_L_law_42 rfl) rfl
theorem dL_law_1379 : decode cL_law 1379 = .ok (.pop, 1) := fo_87 (fd_n 5 sr_L_law_42 rfl)
theorem dL_law_1380 : decode cL_law 1380 = .ok (.aload_n 2, 1) := fo_44 (fd_n 6 sr_L_law_42 rfl)
theorem dL_law_1381 : decode cL_law 1381 = .ok (.aload_n 0, 1) := fo_42 (fd_n 7 sr_L_law_42 rfl)
theorem dL_law_1382 : decode cL_law 1382 = .ok (.iload_n 3, 1) := fo_29 (fd_n 8 sr_L_law_42 rfl)
theorem dL_law_1383 : decode cL_law 1383 = .ok (.iconst 1, 1) := fo_4 (fd_n 9 sr_L_law_42 rfl)
theorem dL_law_1384 : decode cL_law 1384 = .ok (.iadd, 1) := fo_96 (fd_n 10 sr_L_law_42 rfl)
theorem dL_law_1385 : decode cL_law 1385 = .ok (.iaload, 1) := fo_46 (fd_n 11 sr_L_law_42 rfl)
theorem dL_law_1386 : decode cL_law 1386 = .ok (.aload_n 0, 1) := fo_42 (fd_n 12 sr_L_law_42 rfl)
theorem dL_law_1387 : decode cL_law 1387 = .ok (.iload_n 3, 1) := fo_29 (fd_n 13 sr_L_law_42 rfl)
theorem dL_law_1388 : decode cL_law 1388 = .ok (.iconst 2, 1) := fo_5 (fd_n 14 sr_L_law_42 rfl)
theorem dL_law_1389 : decode cL_law 1389 = .ok (.iadd, 1) := fo_96 (fd_n 15 sr_L_law_42 rfl)
theorem dL_law_1390 : decode cL_law 1390 = .ok (.iaload, 1) := fo_46 (fd_n 16 sr_L_law_42 rfl)
theorem dL_law_1391 : decode cL_law 1391 = .ok (.invokevirtual 177, 3) := fo_182 (fd_n 17 sr_L_law_42 rfl) rfl
theorem dL_law_1394 : decode cL_law 1394 = .ok (.pop, 1) := fo_87 (fd_n 20 sr_L_law_42 rfl)
theorem dL_law_1395 : decode cL_law 1395 = .ok (.goto 303, 3) := fo_167 (fd_n 21 sr_L_law_42 rfl) (by decide +kernel)
theorem dL_law_1398 : decode cL_law 1398 = .ok (.aload_n 1, 1) := fo_43 (fd_n 24 sr_L_law_42 rfl)
theorem dL_law_1399 : decode cL_law 1399 = .ok (.aload_n 0, 1) := fo_42 (fd_n 25 sr_L_law_42 rfl)
theorem dL_law_1400 : decode cL_law 1400 = .ok (.iload_n 3, 1) := fo_29 (fd_n 26 sr_L_law_42 rfl)
theorem dL_law_1401 : decode cL_law 1401 = .ok (.iconst 1, 1) := fo_4 (fd_n 27 sr_L_law_42 rfl)
theorem dL_law_1402 : decode cL_law 1402 = .ok (.iadd, 1) := fo_96 sr_L_law_43
theorem dL_law_1403 : decode cL_law 1403 = .ok (.iaload, 1) := fo_46 (fd_n 1 sr_L_law_43 rfl)
theorem dL_law_1404 : decode cL_law 1404 = .ok (.aload_n 0, 1) := fo_42 (fd_n 2 sr_L_law_43 rfl)
theorem dL_law_1405 : decode cL_law 1405 = .ok (.iload_n 3, 1) := fo_29 (fd_n 3 sr_L_law_43 rfl)
theorem dL_law_1406 : decode cL_law 1406 = .ok (.iconst 2, 1) := fo_5 (fd_n 4 sr_L_law_43 rfl)
theorem dL_law_1407 : decode cL_law 1407 = .ok (.iadd, 1) := fo_96 (fd_n 5 sr_L_law_43 rfl)
theorem dL_law_1408 : decode cL_law 1408 = .ok (.iaload, 1) := fo_46 (fd_n 6 sr_L_law_43 rfl)
theorem dL_law_1409 : decode cL_law 1409 = .ok (.aload_n 0, 1) := fo_42 (fd_n 7 sr_L_law_43 rfl)
theorem dL_law_1410 : decode cL_law 1410 = .ok (.iload_n 3, 1) := fo_29 (fd_n 8 sr_L_law_43 rfl)
theorem dL_law_1411 : decode cL_law 1411 = .ok (.iconst 3, 1) := fo_6 (fd_n 9 sr_L_law_43 rfl)
theorem dL_law_1412 : decode cL_law 1412 = .ok (.iadd, 1) := fo_96 (fd_n 10 sr_L_law_43 rfl)
theorem dL_law_1413 : decode cL_law 1413 = .ok (.iaload, 1) := fo_46 (fd_n 11 sr_L_law_43 rfl)
theorem dL_law_1414 : decode cL_law 1414 = .ok (.invokevirtual 178, 3) := fo_182 (fd_n 12 sr_L_law_43 rfl) rfl
theorem dL_law_1417 : decode cL_law 1417 = .ok (.pop, 1) := fo_87 (fd_n 15 sr_L_law_43 rfl)
theorem dL_law_1418 : decode cL_law 1418 = .ok (.aload_n 2, 1) := fo_44 (fd_n 16 sr_L_law_43 rfl)
theorem dL_law_1419 : decode cL_law 1419 = .ok (.aload_n 0, 1) := fo_42 (fd_n 17 sr_L_law_43 rfl)
theorem dL_law_1420 : decode cL_law 1420 = .ok (.iload_n 3, 1) := fo_29 (fd_n 18 sr_L_law_43 rfl)
theorem dL_law_1421 : decode cL_law 1421 = .ok (.iconst 1, 1) := fo_4 (fd_n 19 sr_L_law_43 rfl)
theorem dL_law_1422 : decode cL_law 1422 = .ok (.iadd, 1) := fo_96 (fd_n 20 sr_L_law_43 rfl)
theorem dL_law_1423 : decode cL_law 1423 = .ok (.iaload, 1) := fo_46 (fd_n 21 sr_L_law_43 rfl)
theorem dL_law_1424 : decode cL_law 1424 = .ok (.aload_n 0, 1) := fo_42 (fd_n 22 sr_L_law_43 rfl)
theorem dL_law_1425 : decode cL_law 1425 = .ok (.iload_n 3, 1) := fo_29 (fd_n 23 sr_L_law_43 rfl)
theorem dL_law_1426 : decode cL_law 1426 = .ok (.iconst 2, 1) := fo_5 (fd_n 24 sr_L_law_43 rfl)
theorem dL_law_1427 : decode cL_law 1427 = .ok (.iadd, 1) := fo_96 (fd_n 25 sr_L_law_43 rfl)
theorem dL_law_1428 : decode cL_law 1428 = .ok (.iaload, 1) := fo_46 (fd_n 26 sr_L_law_43 rfl)
theorem dL_law_1429 : decode cL_law 1429 = .ok (.aload_n 0, 1) := fo_42 (fd_n 27 sr_L_law_43 rfl)
theorem dL_law_1430 : decode cL_law 1430 = .ok (.iload_n 3, 1) := fo_29 sr_L_law_44
theorem dL_law_1431 : decode cL_law 1431 = .ok (.iconst 3, 1) := fo_6 (fd_n 1 sr_L_law_44 rfl)
theorem dL_law_1432 : decode cL_law 1432 = .ok (.iadd, 1) := fo_96 (fd_n 2 sr_L_law_44 rfl)
theorem dL_law_1433 : decode cL_law 1433 = .ok (.iaload, 1) := fo_46 (fd_n 3 sr_L_law_44 rfl)
theorem dL_law_1434 : decode cL_law 1434 = .ok (.invokevirtual 181, 3) := fo_182 (fd_n 4 sr_L_law_44 rfl) rfl
theorem dL_law_1437 : decode cL_law 1437 = .ok (.pop, 1) := fo_87 (fd_n 7 sr_L_law_44 rfl)
theorem dL_law_1438 : decode cL_law 1438 = .ok (.goto 260, 3) := fo_167 (fd_n 8 sr_L_law_44 rfl) (by decide +kernel)
theorem dL_law_1441 : decode cL_law 1441 = .ok (.aload_n 1, 1) := fo_43 (fd_n 11 sr_L_law_44 rfl)
theorem dL_law_1442 : decode cL_law 1442 = .ok (.aload_n 0, 1) := fo_42 (fd_n 12 sr_L_law_44 rfl)
theorem dL_law_1443 : decode cL_law 1443 = .ok (.iload_n 3, 1) := fo_29 (fd_n 13 sr_L_law_44 rfl)
theorem dL_law_1444 : decode cL_law 1444 = .ok (.iconst 1, 1) := fo_4 (fd_n 14 sr_L_law_44 rfl)
theorem dL_law_1445 : decode cL_law 1445 = .ok (.iadd, 1) := fo_96 (fd_n 15 sr_L_law_44 rfl)
theorem dL_law_1446 : decode cL_law 1446 = .ok (.iaload, 1) := fo_46 (fd_n 16 sr_L_law_44 rfl)
theorem dL_law_1447 : decode cL_law 1447 = .ok (.aload_n 0, 1) := fo_42 (fd_n 17 sr_L_law_44 rfl)
theorem dL_law_1448 : decode cL_law 1448 = .ok (.iload_n 3, 1) := fo_29 (fd_n 18 sr_L_law_44 rfl)
theorem dL_law_1449 : decode cL_law 1449 = .ok (.iconst 2, 1) := fo_5 (fd_n 19 sr_L_law_44 rfl)
theorem dL_law_1450 : decode cL_law 1450 = .ok (.iadd, 1) := fo_96 (fd_n 20 sr_L_law_44 rfl)
theorem dL_law_1451 : decode cL_law 1451 = .ok (.iaload, 1) := fo_46 (fd_n 21 sr_L_law_44 rfl)
theorem dL_law_1452 : decode cL_law 1452 = .ok (.aload_n 0, 1) := fo_42 (fd_n 22 sr_L_law_44 rfl)
theorem dL_law_1453 : decode cL_law 1453 = .ok (.iload_n 3, 1) := fo_29 (fd_n 23 sr_L_law_44 rfl)
theorem dL_law_1454 : decode cL_law 1454 = .ok (.iconst 3, 1) := fo_6 (fd_n 24 sr_L_law_44 rfl)
theorem dL_law_1455 : decode cL_law 1455 = .ok (.iadd, 1) := fo_96 (fd_n 25 sr_L_law_44 rfl)
theorem dL_law_1456 : decode cL_law 1456 = .ok (.iaload, 1) := fo_46 (fd_n 26 sr_L_law_44 rfl)
theorem dL_law_1457 : decode cL_law 1457 = .ok (.invokevirtual 182, 3) := fo_182 (fd_n 27 sr_L_law_44 rfl) rfl
theorem dL_law_1460 : decode cL_law 1460 = .ok (.pop, 1) := fo_87 sr_L_law_45
theorem dL_law_1461 : decode cL_law 1461 = .ok (.aload_n 2, 1) := fo_44 (fd_n 1 sr_L_law_45 rfl)
theorem dL_law_1462 : decode cL_law 1462 = .ok (.aload_n 0, 1) := fo_42 (fd_n 2 sr_L_law_45 rfl)
theorem dL_law_1463 : decode cL_law 1463 = .ok (.iload_n 3, 1) := fo_29 (fd_n 3 sr_L_law_45 rfl)
theorem dL_law_1464 : decode cL_law 1464 = .ok (.iconst 1, 1) := fo_4 (fd_n 4 sr_L_law_45 rfl)
theorem dL_law_1465 : decode cL_law 1465 = .ok (.iadd, 1) := fo_96 (fd_n 5 sr_L_law_45 rfl)
theorem dL_law_1466 : decode cL_law 1466 = .ok (.iaload, 1) := fo_46 (fd_n 6 sr_L_law_45 rfl)
theorem dL_law_1467 : decode cL_law 1467 = .ok (.aload_n 0, 1) := fo_42 (fd_n 7 sr_L_law_45 rfl)
theorem dL_law_1468 : decode cL_law 1468 = .ok (.iload_n 3, 1) := fo_29 (fd_n 8 sr_L_law_45 rfl)
theorem dL_law_1469 : decode cL_law 1469 = .ok (.iconst 2, 1) := fo_5 (fd_n 9 sr_L_law_45 rfl)
theorem dL_law_1470 : decode cL_law 1470 = .ok (.iadd, 1) := fo_96 (fd_n 10 sr_L_law_45 rfl)
theorem dL_law_1471 : decode cL_law 1471 = .ok (.iaload, 1) := fo_46 (fd_n 11 sr_L_law_45 rfl)
theorem dL_law_1472 : decode cL_law 1472 = .ok (.aload_n 0, 1) := fo_42 (fd_n 12 sr_L_law_45 rfl)
theorem dL_law_1473 : decode cL_law 1473 = .ok (.iload_n 3, 1) := fo_29 (fd_n 13 sr_L_law_45 rfl)
theorem dL_law_1474 : decode cL_law 1474 = .ok (.iconst 3, 1) := fo_6 (fd_n 14 sr_L_law_45 rfl)
theorem dL_law_1475 : decode cL_law 1475 = .ok (.iadd, 1) := fo_96 (fd_n 15 sr_L_law_45 rfl)
theorem dL_law_1476 : decode cL_law 1476 = .ok (.iaload, 1) := fo_46 (fd_n 16 sr_L_law_45 rfl)
theorem dL_law_1477 : decode cL_law 1477 = .ok (.invokevirtual 185, 3) := fo_182 (fd_n 17 sr_L_law_45 rfl) rfl
theorem dL_law_1480 : decode cL_law 1480 = .ok (.pop, 1) := fo_87 (fd_n 20 sr_L_law_45 rfl)
theorem dL_law_1481 : decode cL_law 1481 = .ok (.goto 217, 3) := fo_167 (fd_n 21 sr_L_law_45 rfl) (by decide +kernel)
theorem dL_law_1484 : decode cL_law 1484 = .ok (.aload_n 1, 1) := fo_43 (fd_n 24 sr_L_law_45 rfl)
theorem dL_law_1485 : decode cL_law 1485 = .ok (.aload_n 0, 1) := fo_42 (fd_n 25 sr_L_law_45 rfl)
theorem dL_law_1486 : decode cL_law 1486 = .ok (.iload_n 3, 1) := fo_29 (fd_n 26 sr_L_law_45 rfl)
theorem dL_law_1487 : decode cL_law 1487 = .ok (.iconst 1, 1) := fo_4 (fd_n 27 sr_L_law_45 rfl)
theorem dL_law_1488 : decode cL_law 1488 = .ok (.iadd, 1) := fo_96 sr_L_law_46
theorem dL_law_1489 : decode cL_law 1489 = .ok (.iaload, 1) := fo_46 (fd_n 1 sr_L_law_46 rfl)
theorem dL_law_1490 : decode cL_law 1490 = .ok (.aload_n 0, 1) := fo_42 (fd_n 2 sr_L_law_46 rfl)
theorem dL_law_1491 : decode cL_law 1491 = .ok (.iload_n 3, 1) := fo_29 (fd_n 3 sr_L_law_46 rfl)
theorem dL_law_1492 : decode cL_law 1492 = .ok (.iconst 2, 1) := fo_5 (fd_n 4 sr_L_law_46 rfl)
theorem dL_law_1493 : decode cL_law 1493 = .ok (.iadd, 1) := fo_96 (fd_n 5 sr_L_law_46 rfl)
theorem dL_law_1494 : decode cL_law 1494 = .ok (.iaload, 1) := fo_46 (fd_n 6 sr_L_law_46 rfl)
theorem dL_law_1495 : decode cL_law 1495 = .ok (.aload_n 0, 1) := fo_42 (fd_n 7 sr_L_law_46 rfl)
theorem dL_law_1496 : decode cL_law 1496 = .ok (.iload_n 3, 1) := fo_29 (fd_n 8 sr_L_law_46 rfl)
theorem dL_law_1497 : decode cL_law 1497 = .ok (.iconst 3, 1) := fo_6 (fd_n 9 sr_L_law_46 rfl)
theorem dL_law_1498 : decode cL_law 1498 = .ok (.iadd, 1) := fo_96 (fd_n 10 sr_L_law_46 rfl)
theorem dL_law_1499 : decode cL_law 1499 = .ok (.iaload, 1) := fo_46 (fd_n 11 sr_L_law_46 rfl)
theorem dL_law_1500 : decode cL_law 1500 = .ok (.aload_n 0, 1) := fo_42 (fd_n 12 sr_L_law_46 rfl)
theorem dL_law_1501 : decode cL_law 1501 = .ok (.iload_n 3, 1) := fo_29 (fd_n 13 sr_L_law_46 rfl)
theorem dL_law_1502 : decode cL_law 1502 = .ok (.iconst 4, 1) := fo_7 (fd_n 14 sr_L_law_46 rfl)
theorem dL_law_1503 : decode cL_law 1503 = .ok (.iadd, 1) := fo_96 (fd_n 15 sr_L_law_46 rfl)
theorem dL_law_1504 : decode cL_law 1504 = .ok (.iaload, 1) := fo_46 (fd_n 16 sr_L_law_46 rfl)
theorem dL_law_1505 : decode cL_law 1505 = .ok (.aload_n 0, 1) := fo_42 (fd_n 17 sr_L_law_46 rfl)
theorem dL_law_1506 : decode cL_law 1506 = .ok (.iload_n 3, 1) := fo_29 (fd_n 18 sr_L_law_46 rfl)
theorem dL_law_1507 : decode cL_law 1507 = .ok (.iconst 5, 1) := fo_8 (fd_n 19 sr_L_law_46 rfl)
theorem dL_law_1508 : decode cL_law 1508 = .ok (.iadd, 1) := fo_96 (fd_n 20 sr_L_law_46 rfl)
theorem dL_law_1509 : decode cL_law 1509 = .ok (.iaload, 1) := fo_46 (fd_n 21 sr_L_law_46 rfl)
theorem dL_law_1510 : decode cL_law 1510 = .ok (.invokevirtual 186, 3) := fo_182 (fd_n 22 sr_L_law_46 rfl) rfl
theorem dL_law_1513 : decode cL_law 1513 = .ok (.pop, 1) := fo_87 (fd_n 25 sr_L_law_46 rfl)
theorem dL_law_1514 : decode cL_law 1514 = .ok (.aload_n 2, 1) := fo_44 (fd_n 26 sr_L_law_46 rfl)
theorem dL_law_1515 : decode cL_law 1515 = .ok (.aload_n 0, 1) := fo_42 (fd_n 27 sr_L_law_46 rfl)
theorem dL_law_1516 : decode cL_law 1516 = .ok (.iload_n 3, 1) := fo_29 sr_L_law_47
theorem dL_law_1517 : decode cL_law 1517 = .ok (.iconst 1, 1) := fo_4 (fd_n 1 sr_L_law_47 rfl)
theorem dL_law_1518 : decode cL_law 1518 = .ok (.iadd, 1) := fo_96 (fd_n 2 sr_L_law_47 rfl)
theorem dL_law_1519 : decode cL_law 1519 = .ok (.iaload, 1) := fo_46 (fd_n 3 sr_L_law_47 rfl)
theorem dL_law_1520 : decode cL_law 1520 = .ok (.aload_n 0, 1) := fo_42 (fd_n 4 sr_L_law_47 rfl)
theorem dL_law_1521 : decode cL_law 1521 = .ok (.iload_n 3, 1) := fo_29 (fd_n 5 sr_L_law_47 rfl)
theorem dL_law_1522 : decode cL_law 1522 = .ok (.iconst 2, 1) := fo_5 (fd_n 6 sr_L_law_47 rfl)
theorem dL_law_1523 : decode cL_law 1523 = .ok (.iadd, 1) := fo_96 (fd_n 7 sr_L_law_47 rfl)
theorem dL_law_1524 : decode cL_law 1524 = .ok (.iaload, 1) := fo_46 (fd_n 8 sr_L_law_47 rfl)
theorem dL_law_1525 : decode cL_law 1525 = .ok (.aload_n 0, 1) := fo_42 (fd_n 9 sr_L_law_47 rfl)
theorem dL_law_1526 : decode cL_law 1526 = .ok (.iload_n 3, 1) := fo_29 (fd_n 10 sr_L_law_47 rfl)
theorem dL_law_1527 : decode cL_law 1527 = .ok (.iconst 3, 1) := fo_6 (fd_n 11 sr_L_law_47 rfl)
theorem dL_law_1528 : decode cL_law 1528 = .ok (.iadd, 1) := fo_96 (fd_n 12 sr_L_law_47 rfl)
theorem dL_law_1529 : decode cL_law 1529 = .ok (.iaload, 1) := fo_46 (fd_n 13 sr_L_law_47 rfl)
theorem dL_law_1530 : decode cL_law 1530 = .ok (.aload_n 0, 1) := fo_42 (fd_n 14 sr_L_law_47 rfl)
theorem dL_law_1531 : decode cL_law 1531 = .ok (.iload_n 3, 1) := fo_29 (fd_n 15 sr_L_law_47 rfl)
theorem dL_law_1532 : decode cL_law 1532 = .ok (.iconst 4, 1) := fo_7 (fd_n 16 sr_L_law_47 rfl)
theorem dL_law_1533 : decode cL_law 1533 = .ok (.iadd, 1) := fo_96 (fd_n 17 sr_L_law_47 rfl)
theorem dL_law_1534 : decode cL_law 1534 = .ok (.iaload, 1) := fo_46 (fd_n 18 sr_L_law_47 rfl)
theorem dL_law_1535 : decode cL_law 1535 = .ok (.aload_n 0, 1) := fo_42 (fd_n 19 sr_L_law_47 rfl)
theorem dL_law_1536 : decode cL_law 1536 = .ok (.iload_n 3, 1) := fo_29 (fd_n 20 sr_L_law_47 rfl)
theorem dL_law_1537 : decode cL_law 1537 = .ok (.iconst 5, 1) := fo_8 (fd_n 21 sr_L_law_47 rfl)
theorem dL_law_1538 : decode cL_law 1538 = .ok (.iadd, 1) := fo_96 (fd_n 22 sr_L_law_47 rfl)
theorem dL_law_1539 : decode cL_law 1539 = .ok (.iaload, 1) := fo_46 (fd_n 23 sr_L_law_47 rfl)
theorem dL_law_1540 : decode cL_law 1540 = .ok (.invokevirtual 190, 3) := fo_182 (fd_n 24 sr_L_law_47 rfl) rfl
theorem dL_law_1543 : decode cL_law 1543 = .ok (.pop, 1) := fo_87 (fd_n 27 sr_L_law_47 rfl)
theorem dL_law_1544 : decode cL_law 1544 = .ok (.goto 154, 3) := fo_167 sr_L_law_48 (by decide +kernel)
theorem dL_law_1547 : decode cL_law 1547 = .ok (.aload_n 1, 1) := fo_43 (fd_n 3 sr_L_law_48 rfl)
theorem dL_law_1548 : decode cL_law 1548 = .ok (.aload_n 0, 1) := fo_42 (fd_n 4 sr_L_law_48 rfl)
theorem dL_law_1549 : decode cL_law 1549 = .ok (.iload_n 3, 1) := fo_29 (fd_n 5 sr_L_law_48 rfl)
theorem dL_law_1550 : decode cL_law 1550 = .ok (.iconst 1, 1) := fo_4 (fd_n 6 sr_L_law_48 rfl)
theorem dL_law_1551 : decode cL_law 1551 = .ok (.iadd, 1) := fo_96 (fd_n 7 sr_L_law_48 rfl)
theorem dL_law_1552 : decode cL_law 1552 = .ok (.iaload, 1) := fo_46 (fd_n 8 sr_L_law_48 rfl)
theorem dL_law_1553 : decode cL_law 1553 = .ok (.aload_n 0, 1) := fo_42 (fd_n 9 sr_L_law_48 rfl)
theorem dL_law_1554 : decode cL_law 1554 = .ok (.iload_n 3, 1) := fo_29 (fd_n 10 sr_L_law_48 rfl)
theorem dL_law_1555 : decode cL_law 1555 = .ok (.iconst 2, 1) := fo_5 (fd_n 11 sr_L_law_48 rfl)
theorem dL_law_1556 : decode cL_law 1556 = .ok (.iadd, 1) := fo_96 (fd_n 12 sr_L_law_48 rfl)
theorem dL_law_1557 : decode cL_law 1557 = .ok (.iaload, 1) := fo_46 (fd_n 13 sr_L_law_48 rfl)
theorem dL_law_1558 : decode cL_law 1558 = .ok (.invokevirtual 191, 3) := fo_182 (fd_n 14 sr_L_law_48 rfl) rfl
theorem dL_law_1561 : decode cL_law 1561 = .ok (.pop, 1) := fo_87 (fd_n 17 sr_L_law_48 rfl)
theorem dL_law_1562 : decode cL_law 1562 = .ok (.aload_n 2, 1) := fo_44 (fd_n 18 sr_L_law_48 rfl)
theorem dL_law_1563 : decode cL_law 1563 = .ok (.aload_n 0, 1) := fo_42 (fd_n 19 sr_L_law_48 rfl)
theorem dL_law_1564 : decode cL_law 1564 = .ok (.iload_n 3, 1) := fo_29 (fd_n 20 sr_L_law_48 rfl)
theorem dL_law_1565 : decode cL_law 1565 = .ok (.iconst 1, 1) := fo_4 (fd_n 21 sr_L_law_48 rfl)
theorem dL_law_1566 : decode cL_law 1566 = .ok (.iadd, 1) := fo_96 (fd_n 22 sr_L_law_48 rfl)
theorem dL_law_1567 : decode cL_law 1567 = .ok (.iaload, 1) := fo_46 (fd_n 23 sr_L_law_48 rfl)
theorem dL_law_1568 : decode cL_law 1568 = .ok (.aload_n 0, 1) := fo_42 (fd_n 24 sr_L_law_48 rfl)
theorem dL_law_1569 : decode cL_law 1569 = .ok (.iload_n 3, 1) := fo_29 (fd_n 25 sr_L_law_48 rfl)
theorem dL_law_1570 : decode cL_law 1570 = .ok (.iconst 2, 1) := fo_5 (fd_n 26 sr_L_law_48 rfl)
theorem dL_law_1571 : decode cL_law 1571 = .ok (.iadd, 1) := fo_96 (fd_n 27 sr_L_law_48 rfl)
theorem dL_law_1572 : decode cL_law 1572 = .ok (.iaload, 1) := fo_46 sr_L_law_49
theorem dL_law_1573 : decode cL_law 1573 = .ok (.invokevirtual 194, 3) := fo_182 (fd_n 1 sr_L_law_49 rfl) rfl
theorem dL_law_1576 : decode cL_law 1576 = .ok (.pop, 1) := fo_87 (fd_n 4 sr_L_law_49 rfl)
theorem dL_law_1577 : decode cL_law 1577 = .ok (.goto 121, 3) := fo_167 (fd_n 5 sr_L_law_49 rfl) (by decide +kernel)
theorem dL_law_1580 : decode cL_law 1580 = .ok (.aload_n 1, 1) := fo_43 (fd_n 8 sr_L_law_49 rfl)
theorem dL_law_1581 : decode cL_law 1581 = .ok (.aload_n 0, 1) := fo_42 (fd_n 9 sr_L_law_49 rfl)
theorem dL_law_1582 : decode cL_law 1582 = .ok (.iload_n 3, 1) := fo_29 (fd_n 10 sr_L_law_49 rfl)
theorem dL_law_1583 : decode cL_law 1583 = .ok (.iconst 1, 1) := fo_4 (fd_n 11 sr_L_law_49 rfl)
theorem dL_law_1584 : decode cL_law 1584 = .ok (.iadd, 1) := fo_96 (fd_n 12 sr_L_law_49 rfl)
theorem dL_law_1585 : decode cL_law 1585 = .ok (.iaload, 1) := fo_46 (fd_n 13 sr_L_law_49 rfl)
theorem dL_law_1586 : decode cL_law 1586 = .ok (.aload_n 0, 1) := fo_42 (fd_n 14 sr_L_law_49 rfl)
theorem dL_law_1587 : decode cL_law 1587 = .ok (.iload_n 3, 1) := fo_29 (fd_n 15 sr_L_law_49 rfl)
theorem dL_law_1588 : decode cL_law 1588 = .ok (.iconst 2, 1) := fo_5 (fd_n 16 sr_L_law_49 rfl)
theorem dL_law_1589 : decode cL_law 1589 = .ok (.iadd, 1) := fo_96 (fd_n 17 sr_L_law_49 rfl)
theorem dL_law_1590 : decode cL_law 1590 = .ok (.iaload, 1) := fo_46 (fd_n 18 sr_L_law_49 rfl)
theorem dL_law_1591 : decode cL_law 1591 = .ok (.invokevirtual 195, 3) := fo_182 (fd_n 19 sr_L_law_49 rfl) rfl
theorem dL_law_1594 : decode cL_law 1594 = .ok (.pop, 1) := fo_87 (fd_n 22 sr_L_law_49 rfl)
theorem dL_law_1595 : decode cL_law 1595 = .ok (.aload_n 2, 1) := fo_44 (fd_n 23 sr_L_law_49 rfl)
theorem dL_law_1596 : decode cL_law 1596 = .ok (.aload_n 0, 1) := fo_42 (fd_n 24 sr_L_law_49 rfl)
theorem dL_law_1597 : decode cL_law 1597 = .ok (.iload_n 3, 1) := fo_29 (fd_n 25 sr_L_law_49 rfl)
theorem dL_law_1598 : decode cL_law 1598 = .ok (.iconst 1, 1) := fo_4 (fd_n 26 sr_L_law_49 rfl)
theorem dL_law_1599 : decode cL_law 1599 = .ok (.iadd, 1) := fo_96 (fd_n 27 sr_L_law_49 rfl)
theorem dL_law_1600 : decode cL_law 1600 = .ok (.iaload, 1) := fo_46 sr_L_law_50
theorem dL_law_1601 : decode cL_law 1601 = .ok (.aload_n 0, 1) := fo_42 (fd_n 1 sr_L_law_50 rfl)
theorem dL_law_1602 : decode cL_law 1602 = .ok (.iload_n 3, 1) := fo_29 (fd_n 2 sr_L_law_50 rfl)
theorem dL_law_1603 : decode cL_law 1603 = .ok (.iconst 2, 1) := fo_5 (fd_n 3 sr_L_law_50 rfl)
theorem dL_law_1604 : decode cL_law 1604 = .ok (.iadd, 1) := fo_96 (fd_n 4 sr_L_law_50 rfl)
theorem dL_law_1605 : decode cL_law 1605 = .ok (.iaload, 1) := fo_46 (fd_n 5 sr_L_law_50 rfl)
theorem dL_law_1606 : decode cL_law 1606 = .ok (.invokevirtual 198, 3) := fo_182 (fd_n 6 sr_L_law_50 rfl) rfl
theorem dL_law_1609 : decode cL_law 1609 = .ok (.pop, 1) := fo_87 (fd_n 9 sr_L_law_50 rfl)
theorem dL_law_1610 : decode cL_law 1610 = .ok (.goto 88, 3) := fo_167 (fd_n 10 sr_L_law_50 rfl) (by decide +kernel)
theorem dL_law_1613 : decode cL_law 1613 = .ok (.aload_n 1, 1) := fo_43 (fd_n 13 sr_L_law_50 rfl)
theorem dL_law_1614 : decode cL_law 1614 = .ok (.invokevirtual 199, 3) := fo_182 (fd_n 14 sr_L_law_50 rfl) rfl
theorem dL_law_1617 : decode cL_law 1617 = .ok (.pop, 1) := fo_87 (fd_n 17 sr_L_law_50 rfl)
theorem dL_law_1618 : decode cL_law 1618 = .ok (.aload_n 2, 1) := fo_44 (fd_n 18 sr_L_law_50 rfl)
theorem dL_law_1619 : decode cL_law 1619 = .ok (.invokevirtual 202, 3) := fo_182 (fd_n 19 sr_L_law_50 rfl) rfl
theorem dL_law_1622 : decode cL_law 1622 = .ok (.pop, 1) := fo_87 (fd_n 22 sr_L_law_50 rfl)
theorem dL_law_1623 : decode cL_law 1623 = .ok (.goto 75, 3) := fo_167 (fd_n 23 sr_L_law_50 rfl) (by decide +kernel)
theorem dL_law_1626 : decode cL_law 1626 = .ok (.aload_n 1, 1) := fo_43 (fd_n 26 sr_L_law_50 rfl)
theorem dL_law_1627 : decode cL_law 1627 = .ok (.invokevirtual 203, 3) := fo_182 (fd_n 27 sr_L_law_50 rfl) rfl
theorem dL_law_1630 : decode cL_law 1630 = .ok (.pop, 1) := fo_87 sr_L_law_51
theorem dL_law_1631 : decode cL_law 1631 = .ok (.aload_n 2, 1) := fo_44 (fd_n 1 sr_L_law_51 rfl)
theorem dL_law_1632 : decode cL_law 1632 = .ok (.invokevirtual 206, 3) := fo_182 (fd_n 2 sr_L_law_51 rfl) rfl
theorem dL_law_1635 : decode cL_law 1635 = .ok (.pop, 1) := fo_87 (fd_n 5 sr_L_law_51 rfl)
theorem dL_law_1636 : decode cL_law 1636 = .ok (.goto 62, 3) := fo_167 (fd_n 6 sr_L_law_51 rfl) (by decide +kernel)
theorem dL_law_1639 : decode cL_law 1639 = .ok (.aload_n 1, 1) := fo_43 (fd_n 9 sr_L_law_51 rfl)
theorem dL_law_1640 : decode cL_law 1640 = .ok (.invokevirtual 207, 3) := fo_182 (fd_n 10 sr_L_law_51 rfl) rfl
theorem dL_law_1643 : decode cL_law 1643 = .ok (.pop, 1) := fo_87 (fd_n 13 sr_L_law_51 rfl)
theorem dL_law_1644 : decode cL_law 1644 = .ok (.aload_n 2, 1) := fo_44 (fd_n 14 sr_L_law_51 rfl)
theorem dL_law_1645 : decode cL_law 1645 = .ok (.invokevirtual 210, 3) := fo_182 (fd_n 15 sr_L_law_51 rfl) rfl
theorem dL_law_1648 : decode cL_law 1648 = .ok (.pop, 1) := fo_87 (fd_n 18 sr_L_law_51 rfl)
theorem dL_law_1649 : decode cL_law 1649 = .ok (.goto 49, 3) := fo_167 (fd_n 19 sr_L_law_51 rfl) (by decide +kernel)
theorem dL_law_1652 : decode cL_law 1652 = .ok (.aload_n 1, 1) := fo_43 (fd_n 22 sr_L_law_51 rfl)
theorem dL_law_1653 : decode cL_law 1653 = .ok (.aload_n 0, 1) := fo_42 (fd_n 23 sr_L_law_51 rfl)
theorem dL_law_1654 : decode cL_law 1654 = .ok (.iload_n 3, 1) := fo_29 (fd_n 24 sr_L_law_51 rfl)
theorem dL_law_1655 : decode cL_law 1655 = .ok (.iconst 1, 1) := fo_4 (fd_n 25 sr_L_law_51 rfl)
theorem dL_law_1656 : decode cL_law 1656 = .ok (.iadd, 1) := fo_96 (fd_n 26 sr_L_law_51 rfl)
theorem dL_law_1657 : decode cL_law 1657 = .ok (.iaload, 1) := fo_46 (fd_n 27 sr_L_law_51 rfl)
theorem dL_law_1658 : decode cL_law 1658 = .ok (.invokevirtual 211, 3) := fo_182 sr_L_law_52 rfl
theorem dL_law_1661 : decode cL_law 1661 = .ok (.aload_n 2, 1) := fo_44 (fd_n 3 sr_L_law_52 rfl)
theorem dL_law_1662 : decode cL_law 1662 = .ok (.aload_n 0, 1) := fo_42 (fd_n 4 sr_L_law_52 rfl)
theorem dL_law_1663 : decode cL_law 1663 = .ok (.iload_n 3, 1) := fo_29 (fd_n 5 sr_L_law_52 rfl)
theorem dL_law_1664 : decode cL_law 1664 = .ok (.iconst 1, 1) := fo_4 (fd_n 6 sr_L_law_52 rfl)
theorem dL_law_1665 : decode cL_law 1665 = .ok (.iadd, 1) := fo_96 (fd_n 7 sr_L_law_52 rfl)
theorem dL_law_1666 : decode cL_law 1666 = .ok (.iaload, 1) := fo_46 (fd_n 8 sr_L_law_52 rfl)
theorem dL_law_1667 : decode cL_law 1667 = .ok (.invokevirtual 214, 3) := fo_182 (fd_n 9 sr_L_law_52 rfl) rfl
theorem dL_law_1670 : decode cL_law 1670 = .ok (.if_icmp .eq 28, 3) := fo_159 (fd_n 12 sr_L_law_52 rfl) (by decide +kernel)
theorem dL_law_1673 : decode cL_law 1673 = .ok (.iconst 0, 1) := fo_3 (fd_n 15 sr_L_law_52 rfl)
theorem dL_law_1674 : decode cL_law 1674 = .ok (.ireturn, 1) := fo_172 (fd_n 16 sr_L_law_52 rfl)
theorem dL_law_1675 : decode cL_law 1675 = .ok (.aload_n 1, 1) := fo_43 (fd_n 17 sr_L_law_52 rfl)
theorem dL_law_1676 : decode cL_law 1676 = .ok (.aload_n 0, 1) := fo_42 (fd_n 18 sr_L_law_52 rfl)
theorem dL_law_1677 : decode cL_law 1677 = .ok (.iload_n 3, 1) := fo_29 (fd_n 19 sr_L_law_52 rfl)
theorem dL_law_1678 : decode cL_law 1678 = .ok (.iconst 1, 1) := fo_4 (fd_n 20 sr_L_law_52 rfl)
theorem dL_law_1679 : decode cL_law 1679 = .ok (.iadd, 1) := fo_96 (fd_n 21 sr_L_law_52 rfl)
theorem dL_law_1680 : decode cL_law 1680 = .ok (.iaload, 1) := fo_46 (fd_n 22 sr_L_law_52 rfl)
theorem dL_law_1681 : decode cL_law 1681 = .ok (.invokevirtual 215, 3) := fo_182 (fd_n 23 sr_L_law_52 rfl) rfl
theorem dL_law_1684 : decode cL_law 1684 = .ok (.pop, 1) := fo_87 (fd_n 26 sr_L_law_52 rfl)
theorem dL_law_1685 : decode cL_law 1685 = .ok (.aload_n 2, 1) := fo_44 (fd_n 27 sr_L_law_52 rfl)
theorem dL_law_1686 : decode cL_law 1686 = .ok (.aload_n 0, 1) := fo_42 sr_L_law_53
theorem dL_law_1687 : decode cL_law 1687 = .ok (.iload_n 3, 1) := fo_29 (fd_n 1 sr_L_law_53 rfl)
theorem dL_law_1688 : decode cL_law 1688 = .ok (.iconst 1, 1) := fo_4 (fd_n 2 sr_L_law_53 rfl)
theorem dL_law_1689 : decode cL_law 1689 = .ok (.iadd, 1) := fo_96 (fd_n 3 sr_L_law_53 rfl)
theorem dL_law_1690 : decode cL_law 1690 = .ok (.iaload, 1) := fo_46 (fd_n 4 sr_L_law_53 rfl)
theorem dL_law_1691 : decode cL_law 1691 = .ok (.invokevirtual 218, 3) := fo_182 (fd_n 5 sr_L_law_53 rfl) rfl
theorem dL_law_1694 : decode cL_law 1694 = .ok (.pop, 1) := fo_87 (fd_n 8 sr_L_law_53 rfl)
theorem dL_law_1695 : decode cL_law 1695 = .ok (.goto 3, 3) := fo_167 (fd_n 9 sr_L_law_53 rfl) (by decide +kernel)
theorem dL_law_1698 : decode cL_law 1698 = .ok (.iinc 3 6, 3) := fo_132 (fd_n 12 sr_L_law_53 rfl) rfl (by decide +kernel)
theorem dL_law_1701 : decode cL_law 1701 = .ok (.goto (-1683), 3) := fo_167 (fd_n 15 sr_L_law_53 rfl) (by decide +kernel)
theorem dL_law_1704 : decode cL_law 1704 = .ok (.iconst 1, 1) := fo_4 (fd_n 18 sr_L_law_53 rfl)
theorem dL_law_1705 : decode cL_law 1705 = .ok (.ireturn, 1) := fo_172 (fd_n 19 sr_L_law_53 rfl)
theorem dL_law_33 : decode cL_law 33 = .ok (.tableswitch 1665 0 49 #[215, 268, 291, 324, 367, 400, 453, 486, 529, 572, 595, 628, 651, 684, 707, 730, 753, 776, 789, 812, 845, 868, 891, 914, 937, 970, 993, 1016, 1039, 1062, 1105, 1128, 1161, 1194, 1217, 1240, 1273, 1286, 1299, 1332, 1365, 1408, 1451, 1514, 1547, 1580, 1593, 1606, 1619, 1642], 215) := by decide +kernel
