/-! The two worlds: the shapes of their cells, and what of the tables their methods need beside the words. Own work. -/
def shXl : List jx_Sh := [.inr (.inr (4, [some 1, some 17, some 33, some 49, some 53, some 55, some 63, some 64, some 65, some 66, none])), .inr (.inr (3, [some 2, some 3, some 14, some 15, some 16, none, none, none])), .inr (.inl [4, 5, 6, 7]), .inr (.inl [8, 9, 10, 11, 12, 13]), .inl 25, .inl 25, .inl 25, .inl 25, .inl 10, .inl 10, .inl 10, .inl 10, .inl 10, .inl 10, .inl 4, .inl 4, .inl 10, .inr (.inr (3, [some 18, some 19, some 30, some 31, some 32, none, none, none])), .inr (.inl [20, 21, 22, 23]), .inr (.inl [24, 25, 26, 27, 28, 29]), .inl 25, .inl 25, .inl 25, .inl 25, .inl 10, .inl 10, .inl 10, .inl 10, .inl 10, .inl 10, .inl 4, .inl 4, .inl 10, .inr (.inr (3, [some 34, some 35, some 46, some 47, some 48, none, none, none])), .inr (.inl [36, 37, 38, 39]), .inr (.inl [40, 41, 42, 43, 44, 45]), .inl 25, .inl 25, .inl 25, .inl 25, .inl 10, .inl 10, .inl 10, .inl 10, .inl 10, .inl 10, .inl 4, .inl 4, .inl 10, .inr (.inr (0, [some 50, some 51, some 52])), .inl 5, .inl 5, .inl 5, .inr (.inr (2, [some 54, none, none, none, none, none, none])), .inl 120, .inr (.inr (1, [some 56, some 61, some 62])), .inr (.inl [57, 58, 59, 60]), .inl 40, .inl 40, .inl 40, .inl 40, .inl 4, .inl 4, .inl 7, .inl 4, .inl 4, .inl 4]
def shX (h : Nat) : jx_Sh := shXl.getD h (.inl 0)
theorem s_X0 : shX 0 = .inr (.inr (4, [some 1, some 17, some 33, some 49, some 53, some 55, some 63, some 64, some 65, some 66, none])) := rfl
theorem s_X1 : shX 1 = .inr (.inr (3, [some 2, some 3, some 14, some 15, some 16, none, none, none])) := rfl
theorem s_X2 : shX 2 = .inr (.inl [4, 5, 6, 7]) := rfl
theorem s_X3 : shX 3 = .inr (.inl [8, 9, 10, 11, 12, 13]) := rfl
theorem s_X4 : shX 4 = .inl 25 := rfl
theorem s_X5 : shX 5 = .inl 25 := rfl
theorem s_X6 : shX 6 = .inl 25 := rfl
theorem s_X7 : shX 7 = .inl 25 := rfl
theorem s_X8 : shX 8 = .inl 10 := rfl
theorem s_X9 : shX 9 = .inl 10 := rfl
theorem s_X10 : shX 10 = .inl 10 := rfl
theorem s_X11 : shX 11 = .inl 10 := rfl
theorem s_X12 : shX 12 = .inl 10 := rfl
theorem s_X13 : shX 13 = .inl 10 := rfl
theorem s_X14 : shX 14 = .inl 4 := rfl
theorem s_X15 : shX 15 = .inl 4 := rfl
theorem s_X16 : shX 16 = .inl 10 := rfl
theorem s_X17 : shX 17 = .inr (.inr (3, [some 18, some 19, some 30, some 31, some 32, none, none, none])) := rfl
theorem s_X18 : shX 18 = .inr (.inl [20, 21, 22, 23]) := rfl
theorem s_X19 : shX 19 = .inr (.inl [24, 25, 26, 27, 28, 29]) := rfl
theorem s_X20 : shX 20 = .inl 25 := rfl
theorem s_X21 : shX 21 = .inl 25 := rfl
theorem s_X22 : shX 22 = .inl 25 := rfl
theorem s_X23 : shX 23 = .inl 25 := rfl
theorem s_X24 : shX 24 = .inl 10 := rfl
theorem s_X25 : shX 25 = .inl 10 := rfl
theorem s_X26 : shX 26 = .inl 10 := rfl
theorem s_X27 : shX 27 = .inl 10 := rfl
theorem s_X28 : shX 28 = .inl 10 := rfl
theorem s_X29 : shX 29 = .inl 10 := rfl
theorem s_X30 : shX 30 = .inl 4 := rfl
theorem s_X31 : shX 31 = .inl 4 := rfl
theorem s_X32 : shX 32 = .inl 10 := rfl
theorem s_X33 : shX 33 = .inr (.inr (3, [some 34, some 35, some 46, some 47, some 48, none, none, none])) := rfl
theorem s_X34 : shX 34 = .inr (.inl [36, 37, 38, 39]) := rfl
theorem s_X35 : shX 35 = .inr (.inl [40, 41, 42, 43, 44, 45]) := rfl
theorem s_X36 : shX 36 = .inl 25 := rfl
theorem s_X37 : shX 37 = .inl 25 := rfl
theorem s_X38 : shX 38 = .inl 25 := rfl
theorem s_X39 : shX 39 = .inl 25 := rfl
theorem s_X40 : shX 40 = .inl 10 := rfl
theorem s_X41 : shX 41 = .inl 10 := rfl
theorem s_X42 : shX 42 = .inl 10 := rfl
theorem s_X43 : shX 43 = .inl 10 := rfl
theorem s_X44 : shX 44 = .inl 10 := rfl
theorem s_X45 : shX 45 = .inl 10 := rfl
theorem s_X46 : shX 46 = .inl 4 := rfl
theorem s_X47 : shX 47 = .inl 4 := rfl
theorem s_X48 : shX 48 = .inl 10 := rfl
theorem s_X49 : shX 49 = .inr (.inr (0, [some 50, some 51, some 52])) := rfl
theorem s_X50 : shX 50 = .inl 5 := rfl
theorem s_X51 : shX 51 = .inl 5 := rfl
theorem s_X52 : shX 52 = .inl 5 := rfl
theorem s_X53 : shX 53 = .inr (.inr (2, [some 54, none, none, none, none, none, none])) := rfl
theorem s_X54 : shX 54 = .inl 120 := rfl
theorem s_X55 : shX 55 = .inr (.inr (1, [some 56, some 61, some 62])) := rfl
theorem s_X56 : shX 56 = .inr (.inl [57, 58, 59, 60]) := rfl
theorem s_X57 : shX 57 = .inl 40 := rfl
theorem s_X58 : shX 58 = .inl 40 := rfl
theorem s_X59 : shX 59 = .inl 40 := rfl
theorem s_X60 : shX 60 = .inl 40 := rfl
theorem s_X61 : shX 61 = .inl 4 := rfl
theorem s_X62 : shX 62 = .inl 4 := rfl
theorem s_X63 : shX 63 = .inl 7 := rfl
theorem s_X64 : shX 64 = .inl 4 := rfl
theorem s_X65 : shX 65 = .inl 4 := rfl
theorem s_X66 : shX 66 = .inl 4 := rfl
def shMl : List jx_Sh := [.inr (.inr (5, [some 1, some 2, some 3, some 4, none, some 5, none, none, none, some 6, some 7, some 8, none, none, none, none, none, some 9, some 10, some 11, some 12])), .inl 181, .inl 181, .inl 181, .inl 7, .inl 4, .inl 4, .inl 4, .inl 120, .inl 4, .inl 4, .inl 160, .inl 40]
def shM (h : Nat) : jx_Sh := shMl.getD h (.inl 0)
theorem s_M0 : shM 0 = .inr (.inr (5, [some 1, some 2, some 3, some 4, none, some 5, none, none, none, some 6, some 7, some 8, none, none, none, none, none, some 9, some 10, some 11, some 12])) := rfl
theorem s_M1 : shM 1 = .inl 181 := rfl
theorem s_M2 : shM 2 = .inl 181 := rfl
theorem s_M3 : shM 3 = .inl 181 := rfl
theorem s_M4 : shM 4 = .inl 7 := rfl
theorem s_M5 : shM 5 = .inl 4 := rfl
theorem s_M6 : shM 6 = .inl 4 := rfl
theorem s_M7 : shM 7 = .inl 4 := rfl
theorem s_M8 : shM 8 = .inl 120 := rfl
theorem s_M9 : shM 9 = .inl 4 := rfl
theorem s_M10 : shM 10 = .inl 4 := rfl
theorem s_M11 : shM 11 = .inl 160 := rfl
theorem s_M12 : shM 12 = .inl 40 := rfl
def jx_T (t : Nat) : Prop := t = 1 ∨ t = 17 ∨ t = 33
theorem jx_T1 : jx_T 1 := Or.inl rfl
theorem jx_T17 : jx_T 17 := Or.inr (Or.inl rfl)
theorem jx_T33 : jx_T 33 := Or.inr (Or.inr rfl)
theorem s_T0 {t : Nat} (h : jx_T t) : shX t = .inr (.inr (3, [some (t + 1), some (t + 2), some (t + 13), some (t + 14), some (t + 15), none, none, none])) := by rcases h with rfl | rfl | rfl <;> rfl
theorem n_T0 {t : Nat} (h : jx_T t) : t < 67 := by rcases h with rfl | rfl | rfl <;> decide
theorem s_T1 {t : Nat} (h : jx_T t) : shX (t + 1) = .inr (.inl [(t + 3), (t + 4), (t + 5), (t + 6)]) := by rcases h with rfl | rfl | rfl <;> rfl
theorem n_T1 {t : Nat} (h : jx_T t) : (t + 1) < 67 := by rcases h with rfl | rfl | rfl <;> decide
theorem s_T2 {t : Nat} (h : jx_T t) : shX (t + 2) = .inr (.inl [(t + 7), (t + 8), (t + 9), (t + 10), (t + 11), (t + 12)]) := by rcases h with rfl | rfl | rfl <;> rfl
theorem n_T2 {t : Nat} (h : jx_T t) : (t + 2) < 67 := by rcases h with rfl | rfl | rfl <;> decide
theorem s_T3 {t : Nat} (h : jx_T t) : shX (t + 3) = .inl 25 := by rcases h with rfl | rfl | rfl <;> rfl
theorem n_T3 {t : Nat} (h : jx_T t) : (t + 3) < 67 := by rcases h with rfl | rfl | rfl <;> decide
theorem s_T4 {t : Nat} (h : jx_T t) : shX (t + 4) = .inl 25 := by rcases h with rfl | rfl | rfl <;> rfl
theorem n_T4 {t : Nat} (h : jx_T t) : (t + 4) < 67 := by rcases h with rfl | rfl | rfl <;> decide
theorem s_T5 {t : Nat} (h : jx_T t) : shX (t + 5) = .inl 25 := by rcases h with rfl | rfl | rfl <;> rfl
theorem n_T5 {t : Nat} (h : jx_T t) : (t + 5) < 67 := by rcases h with rfl | rfl | rfl <;> decide
theorem s_T6 {t : Nat} (h : jx_T t) : shX (t + 6) = .inl 25 := by rcases h with rfl | rfl | rfl <;> rfl
theorem n_T6 {t : Nat} (h : jx_T t) : (t + 6) < 67 := by rcases h with rfl | rfl | rfl <;> decide
theorem s_T7 {t : Nat} (h : jx_T t) : shX (t + 7) = .inl 10 := by rcases h with rfl | rfl | rfl <;> rfl
theorem n_T7 {t : Nat} (h : jx_T t) : (t + 7) < 67 := by rcases h with rfl | rfl | rfl <;> decide
theorem s_T8 {t : Nat} (h : jx_T t) : shX (t + 8) = .inl 10 := by rcases h with rfl | rfl | rfl <;> rfl
theorem n_T8 {t : Nat} (h : jx_T t) : (t + 8) < 67 := by rcases h with rfl | rfl | rfl <;> decide
theorem s_T9 {t : Nat} (h : jx_T t) : shX (t + 9) = .inl 10 := by rcases h with rfl | rfl | rfl <;> rfl
theorem n_T9 {t : Nat} (h : jx_T t) : (t + 9) < 67 := by rcases h with rfl | rfl | rfl <;> decide
theorem s_T10 {t : Nat} (h : jx_T t) : shX (t + 10) = .inl 10 := by rcases h with rfl | rfl | rfl <;> rfl
theorem n_T10 {t : Nat} (h : jx_T t) : (t + 10) < 67 := by rcases h with rfl | rfl | rfl <;> decide
theorem s_T11 {t : Nat} (h : jx_T t) : shX (t + 11) = .inl 10 := by rcases h with rfl | rfl | rfl <;> rfl
theorem n_T11 {t : Nat} (h : jx_T t) : (t + 11) < 67 := by rcases h with rfl | rfl | rfl <;> decide
theorem s_T12 {t : Nat} (h : jx_T t) : shX (t + 12) = .inl 10 := by rcases h with rfl | rfl | rfl <;> rfl
theorem n_T12 {t : Nat} (h : jx_T t) : (t + 12) < 67 := by rcases h with rfl | rfl | rfl <;> decide
theorem s_T13 {t : Nat} (h : jx_T t) : shX (t + 13) = .inl 4 := by rcases h with rfl | rfl | rfl <;> rfl
theorem n_T13 {t : Nat} (h : jx_T t) : (t + 13) < 67 := by rcases h with rfl | rfl | rfl <;> decide
theorem s_T14 {t : Nat} (h : jx_T t) : shX (t + 14) = .inl 4 := by rcases h with rfl | rfl | rfl <;> rfl
theorem n_T14 {t : Nat} (h : jx_T t) : (t + 14) < 67 := by rcases h with rfl | rfl | rfl <;> decide
theorem s_T15 {t : Nat} (h : jx_T t) : shX (t + 15) = .inl 10 := by rcases h with rfl | rfl | rfl <;> rfl
theorem n_T15 {t : Nat} (h : jx_T t) : (t + 15) < 67 := by rcases h with rfl | rfl | rfl <;> decide
theorem s_Tr {t k : Nat} (h : jx_T t) (hk : k < 4) : shX (t + 3 + k) = .inl 25 := by rcases (show k = 0 ∨ k = 1 ∨ k = 2 ∨ k = 3 by omega) with rfl | rfl | rfl | rfl <;> rcases h with rfl | rfl | rfl <;> rfl
theorem s_Tw {t k : Nat} (h : jx_T t) (hk : k < 6) : shX (t + 7 + k) = .inl 10 := by rcases (show k = 0 ∨ k = 1 ∨ k = 2 ∨ k = 3 ∨ k = 4 ∨ k = 5 by omega) with rfl | rfl | rfl | rfl | rfl | rfl <;> rcases h with rfl | rfl | rfl <;> rfl
theorem n_Tr {t k : Nat} (h : jx_T t) (hk : k < 4) : t + 3 + k < 67 := by rcases h with rfl | rfl | rfl <;> omega
theorem n_Tw {t k : Nat} (h : jx_T t) (hk : k < 6) : t + 7 + k < 67 := by rcases h with rfl | rfl | rfl <;> omega
theorem s_Sr {k : Nat} (hk : k < 4) : shX (57 + k) = .inl 40 := by rcases (show k = 0 ∨ k = 1 ∨ k = 2 ∨ k = 3 by omega) with rfl | rfl | rfl | rfl <;> rfl
theorem n_Sr {k : Nat} (hk : k < 4) : 57 + k < 67 := by omega
theorem l_Tr {t k : Nat} (hk : k < 4) : [t + 3, t + 4, t + 5, t + 6][k]? = some (t + 3 + k) := by rcases (show k = 0 ∨ k = 1 ∨ k = 2 ∨ k = 3 by omega) with rfl | rfl | rfl | rfl <;> rfl
theorem l_Tw {t k : Nat} (hk : k < 6) : [t + 7, t + 8, t + 9, t + 10, t + 11, t + 12][k]? = some (t + 7 + k) := by rcases (show k = 0 ∨ k = 1 ∨ k = 2 ∨ k = 3 ∨ k = 4 ∨ k = 5 by omega) with rfl | rfl | rfl | rfl | rfl | rfl <;> rfl
theorem l_Sr {k : Nat} (hk : k < 4) : [57, 58, 59, 60][k]? = some (57 + k) := by rcases (show k = 0 ∨ k = 1 ∨ k = 2 ∨ k = 3 by omega) with rfl | rfl | rfl | rfl <;> rfl
theorem l_lt {x : Int32} {n : Nat} (h : ¬ (x < 0 ∨ n ≤ x.toNatClampNeg)) : x.toNatClampNeg < n := Nat.not_le.mp (fun q => h (Or.inr q))
theorem jx_zn {x : Int32} (h : x = 0 ∨ x = 1) : narrow .boolean (.int x) = .int x := by rcases h with rfl | rfl <;> rfl
theorem jx_zf {x : Int32} (h : x = 0 ∨ x = 1) : fits .boolean (.int x) = true := by rcases h with rfl | rfl <;> rfl
theorem jx_ne {x y : Int32} {k : Int} (h : ¬ x = y) (hk : y.toInt = k) : ¬ x.toInt = k := fun q => h (Int32.toInt_inj.mp (q.trans hk.symm))
def ex_nfl : List (String × Nat × String × String × String × String) := [("WindowViews", 84, "WindowViews$Town", "things", "[[I", "WindowViews"), ("WindowViews$Glance", 65, "WindowViews$Town", "things", "[[I", "WindowViews"), ("WindowViews$Glance", 21, "WindowViews$Town", "windows", "[[I", "WindowViews"), ("WindowViews", 114, "WindowViews$Town", "windows", "[[I", "WindowViews"), ("WindowViews", 100, "WindowViews$Town", "paintPrices", "[I", "WindowViews"), ("WindowViews$Tape", 110, "WindowViews$Town", "paintPrices", "[I", "WindowViews"), ("WindowViews", 124, "WindowViews$Town", "purses", "[I", "WindowViews"), ("WindowViews$Glance", 71, "WindowViews$Town", "purses", "[I", "WindowViews"), ("WindowViews", 219, "WindowViews$Town", "spots", "[I", "WindowViews"), ("WindowViews$Tape", 58, "WindowViews$Town", "windowCount", "I", "WindowViews"), ("WindowViews", 103, "WindowViews$Town", "windowCount", "I", "WindowViews"), ("WindowViews$Glance", 57, "WindowViews$Town", "windowCount", "I", "WindowViews"), ("WindowViews", 157, "WindowViews$Town", "month", "I", "WindowViews"), ("WindowViews", 204, "WindowViews$Town", "z", "I", "WindowViews"), ("WindowViews", 207, "WindowViews$Tape", "length", "I", "WindowViews"), ("WindowViews", 216, "WindowViews$Tape", "fault", "I", "WindowViews"), ("WindowViews", 245, "WindowViews$Sheets", "numbers", "[[I", "WindowViews"), ("WindowViews", 238, "WindowViews$Sheets", "bits", "[I", "WindowViews"), ("WindowViews", 229, "WindowViews$Sheets", "lengths", "[I", "WindowViews")]
def ex_nml : List (String × Nat × MethodName × String) := [("WindowViews", 9, ⟨"WindowViews$Town", "<init>", "()V"⟩, "WindowViews"), ("WindowViews", 24, ⟨"WindowViews$Glance", "<init>", "()V"⟩, "WindowViews"), ("WindowViews", 31, ⟨"WindowViews$Tape", "<init>", "()V"⟩, "WindowViews"), ("WindowViews", 38, ⟨"WindowViews$Sheets", "<init>", "()V"⟩, "WindowViews"), ("WindowViews", 68, ⟨"WindowViews$Town", "isTaken", "(I)Z"⟩, "WindowViews"), ("WindowViews", 72, ⟨"WindowViews$Town", "put", "(IIIII)V"⟩, "WindowViews"), ("WindowViews", 76, ⟨"WindowViews$Town", "thingCount", "()I"⟩, "WindowViews"), ("WindowViews", 80, ⟨"WindowViews$Town", "takeOff", "(I)V"⟩, "WindowViews"), ("WindowViews", 88, ⟨"WindowViews$Town", "standing", "(I)I"⟩, "WindowViews"), ("WindowViews", 91, ⟨"WindowViews$Town", "squarePrice", "(I)I"⟩, "WindowViews"), ("WindowViews", 94, ⟨"WindowViews$Town", "growth", "(I)I"⟩, "WindowViews"), ("WindowViews", 107, ⟨"WindowViews$Town", "addWindow", "(IIII)V"⟩, "WindowViews"), ("WindowViews", 120, ⟨"WindowViews$Glance", "isBroken", "(LWindowViews$Town;I)Z"⟩, "WindowViews"), ("WindowViews$Glance", 31, ⟨"WindowViews$Town", "isTaken", "(I)Z"⟩, "WindowViews"), ("WindowViews$Glance", 35, ⟨"WindowViews$Town", "standing", "(I)I"⟩, "WindowViews"), ("WindowViews", 127, ⟨"WindowViews$Glance", "look", "(LWindowViews$Town;I)V"⟩, "WindowViews"), ("WindowViews", 131, ⟨"WindowViews$Glance", "squareSet", "(I)I"⟩, "WindowViews"), ("WindowViews", 134, ⟨"WindowViews$Glance", "squaresInView", "(LWindowViews$Town;I)I"⟩, "WindowViews"), ("WindowViews", 138, ⟨"WindowViews$Glance", "squaresOfOwner", "(LWindowViews$Town;II)I"⟩, "WindowViews"), ("WindowViews", 142, ⟨"WindowViews$Glance", "lotSet", "(LWindowViews$Town;I)I"⟩, "WindowViews"), ("WindowViews", 145, ⟨"WindowViews$Glance", "pay", "(LWindowViews$Town;I[I)I"⟩, "WindowViews"), ("WindowViews$Glance", 68, ⟨"WindowViews$Town", "squarePrice", "(I)I"⟩, "WindowViews"), ("WindowViews", 149, ⟨"WindowViews$Glance", "gainsInto", "(LWindowViews$Town;[I)I"⟩, "WindowViews"), ("WindowViews", 153, ⟨"WindowViews$Glance", "brokenSet", "(LWindowViews$Town;)I"⟩, "WindowViews"), ("WindowViews", 267, ⟨"WindowViews$Glance", "payAll", "(LWindowViews$Town;)I"⟩, "WindowViews"), ("WindowViews", 270, ⟨"WindowViews$Town", "growAll", "()V"⟩, "WindowViews"), ("WindowViews", 163, ⟨"WindowViews$Town", "become", "(LWindowViews$Town;)V"⟩, "WindowViews"), ("WindowViews", 167, ⟨"WindowViews$Glance", "squaresInAllViews", "(LWindowViews$Town;)I"⟩, "WindowViews"), ("WindowViews", 185, ⟨"WindowViews$Town", "isOwnersLot", "(II)Z"⟩, "WindowViews"), ("WindowViews", 273, ⟨"WindowViews$Town", "lower", "(I)I"⟩, "WindowViews"), ("WindowViews", 191, ⟨"WindowViews$Town", "exchange", "(II)V"⟩, "WindowViews"), ("WindowViews", 198, ⟨"WindowViews$Town", "draw", "()I"⟩, "WindowViews"), ("WindowViews", 201, ⟨"WindowViews$Town", "lotOfThing", "(I)I"⟩, "WindowViews"), ("WindowViews", 210, ⟨"WindowViews$Tape", "append", "(I)V"⟩, "WindowViews"), ("WindowViews", 213, ⟨"WindowViews$Tape", "readText", "(LWindowViews$Town;)I"⟩, "WindowViews"), ("WindowViews$Tape", 117, ⟨"WindowViews$Town", "isTaken", "(I)Z"⟩, "WindowViews"), ("WindowViews$Tape", 96, ⟨"WindowViews$Town", "put", "(IIIII)V"⟩, "WindowViews"), ("WindowViews$Tape", 106, ⟨"WindowViews$Town", "addWindow", "(IIII)V"⟩, "WindowViews"), ("WindowViews$Tape", 113, ⟨"WindowViews$Town", "takeOff", "(I)V"⟩, "WindowViews"), ("WindowViews", 225, ⟨"WindowViews$Sheets", "begin", "(III)V"⟩, "WindowViews"), ("WindowViews", 232, ⟨"WindowViews$Sheets", "isMissing", "(I)Z"⟩, "WindowViews"), ("WindowViews", 235, ⟨"WindowViews$Sheets", "store", "(III)V"⟩, "WindowViews"), ("WindowViews", 241, ⟨"WindowViews$Sheets", "hasRange", "(III)Z"⟩, "WindowViews"), ("WindowViews", 254, ⟨"WindowViews$Town", "heightOfAll", "()I"⟩, "WindowViews"), ("WindowViews", 257, ⟨"WindowViews$Town", "contractCount", "()I"⟩, "WindowViews"), ("WindowViews", 260, ⟨"WindowViews$Town", "spotsInUse", "()I"⟩, "WindowViews")]
def ex_si : List Nat := [121, 123, 125, 127, 129, 131, 133, 76, 86, 92, 94, 52, 100, 102, 104, 66, 71]
def ex_st : List String := ["box", "tree", "shed", "poplar", "washing", "house", "tower", "at", "of", "high", "paint", "window", "level", "way", "for", "price", "clear"]
def ex_len : List Nat := [3, 4, 4, 6, 7, 5, 5, 2, 2, 4, 5, 6, 5, 3, 3, 5, 5]
def ex_byt : List (List Int32) := [[98, 111, 120], [116, 114, 101, 101], [115, 104, 101, 100], [112, 111, 112, 108, 97, 114], [119, 97, 115, 104, 105, 110, 103], [104, 111, 117, 115, 101], [116, 111, 119, 101, 114], [97, 116], [111, 102], [104, 105, 103, 104], [112, 97, 105, 110, 116], [119, 105, 110, 100, 111, 119], [108, 101, 118, 101, 108], [119, 97, 121], [102, 111, 114], [112, 114, 105, 99, 101], [99, 108, 101, 97, 114]]
def ex_X (adK adV : Nat → Nat) (A : Nat → Prop) (U : State) : Prop := (∀ q ∈ ex_nfl, va_Nw (.fieldLinkNest q.1 q.2.1 q.2.2.1 q.2.2.2.1 q.2.2.2.2.1 q.2.2.2.2.2) U) ∧ (∀ q ∈ ex_nml, va_Nw (.methodLinkNest q.1 q.2.1 q.2.2.1 q.2.2.2) U) ∧ (∀ j, j < 17 → vk_R RX2 (ex_si.getD j 0) (ex_st.getD j "") (adK j) U) ∧ vk_S 17 ex_len ex_byt adK adV A U U.heap ∧ va_Z "java/lang/String" "COMPACT_STRINGS" "Z" (.int 1) A U U.heap ∧ va_Zq "jdk/internal/util/Preconditions" "SIOOBE_FORMATTER" "Ljava/util/function/BiFunction;" A U U.heap
theorem ex_X_ok (adK adV : Nat → Nat) (A : Nat → Prop) : jx_ok (ex_X adK adV A) A := by
  refine ⟨fun U g mk a h => ?_, fun s U locs h hS hW => ?_⟩
  · exact ⟨fun q hq => va_Nw.same rfl rfl (h.1 q hq), fun q hq => va_Nw.same rfl rfl (h.2.1 q hq), fun j hj => vk_R.same rfl (h.2.2.1 j hj), vk_S.moved (u := U) (U := U.calling g mk a) (Vm.Alike.refl U.vm) h.2.2.2.1, va_Z.moved (u := U) (U := U.calling g mk a) (Vm.Alike.refl U.vm) h.2.2.2.2.1, va_Zq.moved (u := U) (U := U.calling g mk a) (Vm.Alike.refl U.vm) h.2.2.2.2.2⟩
  · exact ⟨fun q hq => va_Nw.warmF hW (h.1 q hq), fun q hq => va_Nw.warmM hW (h.2.1 q hq), fun j hj => vk_R.warm hW (h.2.2.1 j hj), vk_S.moved hW.alike (h.2.2.2.1.kept hS.2.1), va_Z.moved hW.alike (h.2.2.2.2.1.kept hS.2.1), va_Zq.moved hW.alike (h.2.2.2.2.2.kept hS.2.1)⟩
def ex_M (_ : State) : Prop := True
theorem ex_M_ok (A : Nat → Prop) : jx_ok ex_M A := ⟨fun _ _ _ _ _ => trivial, fun _ _ _ _ _ _ => trivial⟩
theorem ex_f {adK adV : Nat → Nat} {A : Nat → Prop} {U : State} (h : ex_X adK adV A U) (i : Nat) {q : String × Nat × String × String × String × String} (hi : ex_nfl[i]? = some q) : va_Nw (.fieldLinkNest q.1 q.2.1 q.2.2.1 q.2.2.2.1 q.2.2.2.2.1 q.2.2.2.2.2) U := h.1 q (List.mem_of_getElem? hi)
theorem ex_m {adK adV : Nat → Nat} {A : Nat → Prop} {U : State} (h : ex_X adK adV A U) (i : Nat) {q : String × Nat × MethodName × String} (hi : ex_nml[i]? = some q) : va_Nw (.methodLinkNest q.1 q.2.1 q.2.2.1 q.2.2.2) U := h.2.1 q (List.mem_of_getElem? hi)
theorem jx_ex {p : Program} {s : State} {m : MethodId} {args : Array Value} {meth : Method} {c : Code} {cc : ByteArray} {nL : Nat} {own : String} {Ts : List Cond} {rt : Option FieldType} {D : va_G} {cl : List vw_C} {N : Nat} {cI cJ : ClassId} {ad : Nat → Nat} {A : Nat → Prop} {Ex : State → Prop} (E : jx_E p s m args meth c cc nL own Ts rt D cl N cI cJ ad A Ex) : Ex s := E.2.2.2.2.2.2.2.2.2.1
