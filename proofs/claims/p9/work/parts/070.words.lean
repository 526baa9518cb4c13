theorem jx_out {α β : Type} {a r : α} {b v : β} (h : some (a, b) = some (r, v)) : a = r ∧ b = v := by
  have h := Option.some.inj h
  exact ⟨congrArg Prod.fst h, congrArg Prod.snd h⟩
def bigT : List Cond := lw_tbl.filter (fun w => goodWord w)
theorem bt_of {w : Cond} (i : Nat) (h : tables_1[i]? = some w) (g : goodWord w = true) : w ∈ bigT := List.mem_filter.mpr ⟨List.mem_append_right _ (List.mem_of_getElem? h), g⟩
theorem bt_sel {q : MethodName × Nat} (i : Nat) (h : lw_privs[i]? = some q) : Cond.selects q.1.cls q.1 q.1 ∈ bigT := List.mem_filter.mpr ⟨List.mem_append_left _ (List.mem_map.mpr ⟨q, List.mem_of_getElem? h, rfl⟩), rfl⟩
def tb_ck : List Cond → List (Nat × Cond) → Bool
  | _, [] => true
  | l, q :: r => match l.drop q.1 with
    | [] => false
    | a :: l' => decide (a = q.2) && goodWord q.2 && tb_ck l' r
def tb_cj : List (Nat × Cond) → Prop
  | [] => True
  | q :: r => q.2 ∈ bigT ∧ tb_cj r
theorem tb_all : ∀ (r : List (Nat × Cond)) (l : List Cond), (∀ a ∈ l, a ∈ tables_1) → tb_ck l r = true → tb_cj r
  | [], _, _, _ => trivial
  | q :: r, l, hl, h => by
    have hd : ∀ a ∈ l.drop q.1, a ∈ tables_1 := fun a ha => hl a (List.mem_of_mem_drop ha)
    unfold tb_ck at h
    split at h
    · cases h
    · rename_i a l' e
      rw [e] at hd
      simp only [Bool.and_eq_true, decide_eq_true_eq] at h
      obtain ⟨⟨h1, h2⟩, h3⟩ := h
      exact ⟨List.mem_filter.mpr ⟨List.mem_append_right _ (h1 ▸ hd a (.head _)), h2⟩, tb_all r l' (fun b hb => hd b (.tail _ hb)) h3⟩
theorem tb_in : ∀ r : List (Nat × Cond), tb_cj r → ∀ w ∈ r.map Prod.snd, w ∈ bigT
  | [], _, _, hw => by cases hw
  | _ :: r, h, _, hw => by
    cases hw with
    | head => exact h.1
    | tail _ hw => exact tb_in r h.2 _ hw
def sb_ck : List Cond → List Cond → Bool
  | [], w => w.isEmpty
  | _ :: _, [] => true
  | a :: l, w :: r => cond (decide (a = w)) (sb_ck l r) (sb_ck l (w :: r))
theorem sb_all : ∀ (l ws : List Cond), sb_ck l ws = true → ∀ w ∈ ws, w ∈ l
  | _, [], _, _, hx => by cases hx
  | [], _ :: _, h, _, _ => absurd (show (false : Bool) = true from h) (by decide)
  | a :: l, w :: r, h, x, hx => by
    unfold sb_ck at h
    by_cases e : a = w
    · rw [decide_eq_true e, cond_true] at h
      cases hx with
      | head => exact e ▸ .head _
      | tail _ hx => exact .tail _ (sb_all l r h x hx)
    · rw [decide_eq_false e, cond_false] at h
      exact .tail _ (sb_all l (w :: r) h x hx)
theorem bt_good {w : Cond} (h : w ∈ bigT) : (w.onTables && w.keeps) = true ∨ ∃ ty, w = .arrayClass ty := good_of_word (List.mem_filter.mp h).2
theorem gb_N {w0 w1 : Cond} (h : w1 ∈ bigT) : GoodIn (w0 :: bigT) (w1 :: bigT) := fun w hw => by
  rcases List.mem_cons.mp hw with rfl | hw
  · exact ⟨List.mem_cons_of_mem _ h, bt_good h⟩
  · exact ⟨List.mem_cons_of_mem _ hw, bt_good hw⟩
theorem gb_c {w0 a : Cond} {l : List Cond} (ha : a ∈ w0 :: bigT) (g : goodWord a = true) (hl : GoodIn (w0 :: bigT) l) : GoodIn (w0 :: bigT) (a :: l) := fun w hw => by
  rcases List.mem_cons.mp hw with rfl | hw
  · exact ⟨ha, good_of_word g⟩
  · exact hl w hw
theorem gb_V {w0 : Cond} {own C : String} {i : Nat} {y : MethodName} {b : ByteArray} {n : Nat} {rt : Option FieldType} (h1 : Cond.methodLink own i y ∈ w0 :: bigT) (h2 : Cond.instanceMethod y ∈ w0 :: bigT) (h3 : Cond.selects C y y ∈ w0 :: bigT) (h4 : Cond.initialized C ∈ w0 :: bigT) (h5 : Cond.code y b n rt ∈ bigT) : GoodIn (w0 :: bigT) (wsV own i C y (Cond.code y b n rt :: bigT)) := gb_c h1 rfl (gb_c h2 rfl (gb_c h3 rfl (gb_c h4 rfl (gb_N h5))))
theorem gb_S {w0 : Cond} {own : String} {i : Nat} {y : MethodName} {b : ByteArray} {n : Nat} {rt : Option FieldType} (h1 : Cond.methodLink own i y ∈ w0 :: bigT) (h2 : Cond.static y ∈ w0 :: bigT) (h3 : Cond.initialized own ∈ w0 :: bigT) (h5 : Cond.code y b n rt ∈ bigT) : GoodIn (w0 :: bigT) (wsS own i y (Cond.code y b n rt :: bigT)) := gb_c h1 rfl (gb_c h2 rfl (gb_c h3 rfl (gb_N h5)))
abbrev vwCl : List vw_C := [(RX0, TX0, 3), (RX1, TX1, 3), (RX2, TX2, 7), (RX3, TX3, 8), (RX4, TX4, 11), (RX5, TX5, 21)]
theorem ex_f0 {adK adV : Nat → Nat} {A : Nat → Prop} {U : State} (h : ex_X adK adV A U) : va_Nw (.fieldLinkNest RX4 84 RX3 (TX3 0).2.1 (TX3 0).2.2.1 "WindowViews") U := ex_f h 0 (q := ("WindowViews", 84, "WindowViews$Town", "things", "[[I", "WindowViews")) rfl
theorem ex_f1 {adK adV : Nat → Nat} {A : Nat → Prop} {U : State} (h : ex_X adK adV A U) : va_Nw (.fieldLinkNest RX0 65 RX3 (TX3 0).2.1 (TX3 0).2.2.1 "WindowViews") U := ex_f h 1 (q := ("WindowViews$Glance", 65, "WindowViews$Town", "things", "[[I", "WindowViews")) rfl
theorem ex_f2 {adK adV : Nat → Nat} {A : Nat → Prop} {U : State} (h : ex_X adK adV A U) : va_Nw (.fieldLinkNest RX0 21 RX3 (TX3 1).2.1 (TX3 1).2.2.1 "WindowViews") U := ex_f h 2 (q := ("WindowViews$Glance", 21, "WindowViews$Town", "windows", "[[I", "WindowViews")) rfl
theorem ex_f3 {adK adV : Nat → Nat} {A : Nat → Prop} {U : State} (h : ex_X adK adV A U) : va_Nw (.fieldLinkNest RX4 114 RX3 (TX3 1).2.1 (TX3 1).2.2.1 "WindowViews") U := ex_f h 3 (q := ("WindowViews", 114, "WindowViews$Town", "windows", "[[I", "WindowViews")) rfl
theorem ex_f4 {adK adV : Nat → Nat} {A : Nat → Prop} {U : State} (h : ex_X adK adV A U) : va_Nw (.fieldLinkNest RX4 100 RX3 (TX3 2).2.1 (TX3 2).2.2.1 "WindowViews") U := ex_f h 4 (q := ("WindowViews", 100, "WindowViews$Town", "paintPrices", "[I", "WindowViews")) rfl
theorem ex_f5 {adK adV : Nat → Nat} {A : Nat → Prop} {U : State} (h : ex_X adK adV A U) : va_Nw (.fieldLinkNest RX2 110 RX3 (TX3 2).2.1 (TX3 2).2.2.1 "WindowViews") U := ex_f h 5 (q := ("WindowViews$Tape", 110, "WindowViews$Town", "paintPrices", "[I", "WindowViews")) rfl
theorem ex_f6 {adK adV : Nat → Nat} {A : Nat → Prop} {U : State} (h : ex_X adK adV A U) : va_Nw (.fieldLinkNest RX4 124 RX3 (TX3 3).2.1 (TX3 3).2.2.1 "WindowViews") U := ex_f h 6 (q := ("WindowViews", 124, "WindowViews$Town", "purses", "[I", "WindowViews")) rfl
theorem ex_f7 {adK adV : Nat → Nat} {A : Nat → Prop} {U : State} (h : ex_X adK adV A U) : va_Nw (.fieldLinkNest RX0 71 RX3 (TX3 3).2.1 (TX3 3).2.2.1 "WindowViews") U := ex_f h 7 (q := ("WindowViews$Glance", 71, "WindowViews$Town", "purses", "[I", "WindowViews")) rfl
theorem ex_f8 {adK adV : Nat → Nat} {A : Nat → Prop} {U : State} (h : ex_X adK adV A U) : va_Nw (.fieldLinkNest RX4 219 RX3 (TX3 4).2.1 (TX3 4).2.2.1 "WindowViews") U := ex_f h 8 (q := ("WindowViews", 219, "WindowViews$Town", "spots", "[I", "WindowViews")) rfl
theorem ex_f9 {adK adV : Nat → Nat} {A : Nat → Prop} {U : State} (h : ex_X adK adV A U) : va_Nw (.fieldLinkNest RX2 58 RX3 (TX3 5).2.1 (TX3 5).2.2.1 "WindowViews") U := ex_f h 9 (q := ("WindowViews$Tape", 58, "WindowViews$Town", "windowCount", "I", "WindowViews")) rfl
theorem ex_f10 {adK adV : Nat → Nat} {A : Nat → Prop} {U : State} (h : ex_X adK adV A U) : va_Nw (.fieldLinkNest RX4 103 RX3 (TX3 5).2.1 (TX3 5).2.2.1 "WindowViews") U := ex_f h 10 (q := ("WindowViews", 103, "WindowViews$Town", "windowCount", "I", "WindowViews")) rfl
theorem ex_f11 {adK adV : Nat → Nat} {A : Nat → Prop} {U : State} (h : ex_X adK adV A U) : va_Nw (.fieldLinkNest RX0 57 RX3 (TX3 5).2.1 (TX3 5).2.2.1 "WindowViews") U := ex_f h 11 (q := ("WindowViews$Glance", 57, "WindowViews$Town", "windowCount", "I", "WindowViews")) rfl
theorem ex_f12 {adK adV : Nat → Nat} {A : Nat → Prop} {U : State} (h : ex_X adK adV A U) : va_Nw (.fieldLinkNest RX4 157 RX3 (TX3 6).2.1 (TX3 6).2.2.1 "WindowViews") U := ex_f h 12 (q := ("WindowViews", 157, "WindowViews$Town", "month", "I", "WindowViews")) rfl
theorem ex_f13 {adK adV : Nat → Nat} {A : Nat → Prop} {U : State} (h : ex_X adK adV A U) : va_Nw (.fieldLinkNest RX4 204 RX3 (TX3 7).2.1 (TX3 7).2.2.1 "WindowViews") U := ex_f h 13 (q := ("WindowViews", 204, "WindowViews$Town", "z", "I", "WindowViews")) rfl
theorem ex_f14 {adK adV : Nat → Nat} {A : Nat → Prop} {U : State} (h : ex_X adK adV A U) : va_Nw (.fieldLinkNest RX4 207 RX2 (TX2 1).2.1 (TX2 1).2.2.1 "WindowViews") U := ex_f h 14 (q := ("WindowViews", 207, "WindowViews$Tape", "length", "I", "WindowViews")) rfl
theorem ex_f15 {adK adV : Nat → Nat} {A : Nat → Prop} {U : State} (h : ex_X adK adV A U) : va_Nw (.fieldLinkNest RX4 216 RX2 (TX2 6).2.1 (TX2 6).2.2.1 "WindowViews") U := ex_f h 15 (q := ("WindowViews", 216, "WindowViews$Tape", "fault", "I", "WindowViews")) rfl
theorem ex_f16 {adK adV : Nat → Nat} {A : Nat → Prop} {U : State} (h : ex_X adK adV A U) : va_Nw (.fieldLinkNest RX4 245 RX1 (TX1 0).2.1 (TX1 0).2.2.1 "WindowViews") U := ex_f h 16 (q := ("WindowViews", 245, "WindowViews$Sheets", "numbers", "[[I", "WindowViews")) rfl
theorem ex_f17 {adK adV : Nat → Nat} {A : Nat → Prop} {U : State} (h : ex_X adK adV A U) : va_Nw (.fieldLinkNest RX4 238 RX1 (TX1 1).2.1 (TX1 1).2.2.1 "WindowViews") U := ex_f h 17 (q := ("WindowViews", 238, "WindowViews$Sheets", "bits", "[I", "WindowViews")) rfl
theorem ex_f18 {adK adV : Nat → Nat} {A : Nat → Prop} {U : State} (h : ex_X adK adV A U) : va_Nw (.fieldLinkNest RX4 229 RX1 (TX1 2).2.1 (TX1 2).2.2.1 "WindowViews") U := ex_f h 18 (q := ("WindowViews", 229, "WindowViews$Sheets", "lengths", "[I", "WindowViews")) rfl
theorem ex_m0 {adK adV : Nat → Nat} {A : Nat → Prop} {U : State} (h : ex_X adK adV A U) : va_Nw (.methodLinkNest RX4 9 yX3_init "WindowViews") U := ex_m h 0 (q := ("WindowViews", 9, yX3_init, "WindowViews")) rfl
theorem ex_m1 {adK adV : Nat → Nat} {A : Nat → Prop} {U : State} (h : ex_X adK adV A U) : va_Nw (.methodLinkNest RX4 24 yX0_init "WindowViews") U := ex_m h 1 (q := ("WindowViews", 24, yX0_init, "WindowViews")) rfl
theorem ex_m2 {adK adV : Nat → Nat} {A : Nat → Prop} {U : State} (h : ex_X adK adV A U) : va_Nw (.methodLinkNest RX4 31 yX2_init "WindowViews") U := ex_m h 2 (q := ("WindowViews", 31, yX2_init, "WindowViews")) rfl
theorem ex_m3 {adK adV : Nat → Nat} {A : Nat → Prop} {U : State} (h : ex_X adK adV A U) : va_Nw (.methodLinkNest RX4 38 yX1_init "WindowViews") U := ex_m h 3 (q := ("WindowViews", 38, yX1_init, "WindowViews")) rfl
theorem ex_m4 {adK adV : Nat → Nat} {A : Nat → Prop} {U : State} (h : ex_X adK adV A U) : va_Nw (.methodLinkNest RX4 68 yX3_isTaken "WindowViews") U := ex_m h 4 (q := ("WindowViews", 68, yX3_isTaken, "WindowViews")) rfl
theorem ex_m5 {adK adV : Nat → Nat} {A : Nat → Prop} {U : State} (h : ex_X adK adV A U) : va_Nw (.methodLinkNest RX4 72 yX3_put "WindowViews") U := ex_m h 5 (q := ("WindowViews", 72, yX3_put, "WindowViews")) rfl
theorem ex_m6 {adK adV : Nat → Nat} {A : Nat → Prop} {U : State} (h : ex_X adK adV A U) : va_Nw (.methodLinkNest RX4 76 yX3_thingCount "WindowViews") U := ex_m h 6 (q := ("WindowViews", 76, yX3_thingCount, "WindowViews")) rfl
theorem ex_m7 {adK adV : Nat → Nat} {A : Nat → Prop} {U : State} (h : ex_X adK adV A U) : va_Nw (.methodLinkNest RX4 80 yX3_takeOff "WindowViews") U := ex_m h 7 (q := ("WindowViews", 80, yX3_takeOff, "WindowViews")) rfl
theorem ex_m8 {adK adV : Nat → Nat} {A : Nat → Prop} {U : State} (h : ex_X adK adV A U) : va_Nw (.methodLinkNest RX4 88 yX3_standing "WindowViews") U := ex_m h 8 (q := ("WindowViews", 88, yX3_standing, "WindowViews")) rfl
theorem ex_m9 {adK adV : Nat → Nat} {A : Nat → Prop} {U : State} (h : ex_X adK adV A U) : va_Nw (.methodLinkNest RX4 91 yX3_squarePrice "WindowViews") U := ex_m h 9 (q := ("WindowViews", 91, yX3_squarePrice, "WindowViews")) rfl
theorem ex_m10 {adK adV : Nat → Nat} {A : Nat → Prop} {U : State} (h : ex_X adK adV A U) : va_Nw (.methodLinkNest RX4 94 yX3_growth "WindowViews") U := ex_m h 10 (q := ("WindowViews", 94, yX3_growth, "WindowViews")) rfl
theorem ex_m11 {adK adV : Nat → Nat} {A : Nat → Prop} {U : State} (h : ex_X adK adV A U) : va_Nw (.methodLinkNest RX4 107 yX3_addWindow "WindowViews") U := ex_m h 11 (q := ("WindowViews", 107, yX3_addWindow, "WindowViews")) rfl
theorem ex_m12 {adK adV : Nat → Nat} {A : Nat → Prop} {U : State} (h : ex_X adK adV A U) : va_Nw (.methodLinkNest RX4 120 yX0_isBroken "WindowViews") U := ex_m h 12 (q := ("WindowViews", 120, yX0_isBroken, "WindowViews")) rfl
theorem ex_m13 {adK adV : Nat → Nat} {A : Nat → Prop} {U : State} (h : ex_X adK adV A U) : va_Nw (.methodLinkNest RX0 31 yX3_isTaken "WindowViews") U := ex_m h 13 (q := ("WindowViews$Glance", 31, yX3_isTaken, "WindowViews")) rfl
theorem ex_m14 {adK adV : Nat → Nat} {A : Nat → Prop} {U : State} (h : ex_X adK adV A U) : va_Nw (.methodLinkNest RX0 35 yX3_standing "WindowViews") U := ex_m h 14 (q := ("WindowViews$Glance", 35, yX3_standing, "WindowViews")) rfl
theorem ex_m15 {adK adV : Nat → Nat} {A : Nat → Prop} {U : State} (h : ex_X adK adV A U) : va_Nw (.methodLinkNest RX4 127 yX0_look "WindowViews") U := ex_m h 15 (q := ("WindowViews", 127, yX0_look, "WindowViews")) rfl
theorem ex_m16 {adK adV : Nat → Nat} {A : Nat → Prop} {U : State} (h : ex_X adK adV A U) : va_Nw (.methodLinkNest RX4 131 yX0_squareSet "WindowViews") U := ex_m h 16 (q := ("WindowViews", 131, yX0_squareSet, "WindowViews")) rfl
theorem ex_m17 {adK adV : Nat → Nat} {A : Nat → Prop} {U : State} (h : ex_X adK adV A U) : va_Nw (.methodLinkNest RX4 134 yX0_squaresInView "WindowViews") U := ex_m h 17 (q := ("WindowViews", 134, yX0_squaresInView, "WindowViews")) rfl
theorem ex_m18 {adK adV : Nat → Nat} {A : Nat → Prop} {U : State} (h : ex_X adK adV A U) : va_Nw (.methodLinkNest RX4 138 yX0_squaresOfOwner "WindowViews") U := ex_m h 18 (q := ("WindowViews", 138, yX0_squaresOfOwner, "WindowViews")) rfl
theorem ex_m19 {adK adV : Nat → Nat} {A : Nat → Prop} {U : State} (h : ex_X adK adV A U) : va_Nw (.methodLinkNest RX4 142 yX0_lotSet "WindowViews") U := ex_m h 19 (q := ("WindowViews", 142, yX0_lotSet, "WindowViews")) rfl
theorem ex_m20 {adK adV : Nat → Nat} {A : Nat → Prop} {U : State} (h : ex_X adK adV A U) : va_Nw (.methodLinkNest RX4 145 yX0_pay "WindowViews") U := ex_m h 20 (q := ("WindowViews", 145, yX0_pay, "WindowViews")) rfl
theorem ex_m21 {adK adV : Nat → Nat} {A : Nat → Prop} {U : State} (h : ex_X adK adV A U) : va_Nw (.methodLinkNest RX0 68 yX3_squarePrice "WindowViews") U := ex_m h 21 (q := ("WindowViews$Glance", 68, yX3_squarePrice, "WindowViews")) rfl
theorem ex_m22 {adK adV : Nat → Nat} {A : Nat → Prop} {U : State} (h : ex_X adK adV A U) : va_Nw (.methodLinkNest RX4 149 yX0_gainsInto "WindowViews") U := ex_m h 22 (q := ("WindowViews", 149, yX0_gainsInto, "WindowViews")) rfl
theorem ex_m23 {adK adV : Nat → Nat} {A : Nat → Prop} {U : State} (h : ex_X adK adV A U) : va_Nw (.methodLinkNest RX4 153 yX0_brokenSet "WindowViews") U := ex_m h 23 (q := ("WindowViews", 153, yX0_brokenSet, "WindowViews")) rfl
theorem ex_m24 {adK adV : Nat → Nat} {A : Nat → Prop} {U : State} (h : ex_X adK adV A U) : va_Nw (.methodLinkNest RX4 267 yX0_payAll "WindowViews") U := ex_m h 24 (q := ("WindowViews", 267, yX0_payAll, "WindowViews")) rfl
theorem ex_m25 {adK adV : Nat → Nat} {A : Nat → Prop} {U : State} (h : ex_X adK adV A U) : va_Nw (.methodLinkNest RX4 270 yX3_growAll "WindowViews") U := ex_m h 25 (q := ("WindowViews", 270, yX3_growAll, "WindowViews")) rfl
theorem ex_m26 {adK adV : Nat → Nat} {A : Nat → Prop} {U : State} (h : ex_X adK adV A U) : va_Nw (.methodLinkNest RX4 163 yX3_become "WindowViews") U := ex_m h 26 (q := ("WindowViews", 163, yX3_become, "WindowViews")) rfl
theorem ex_m27 {adK adV : Nat → Nat} {A : Nat → Prop} {U : State} (h : ex_X adK adV A U) : va_Nw (.methodLinkNest RX4 167 yX0_squaresInAllViews "WindowViews") U := ex_m h 27 (q := ("WindowViews", 167, yX0_squaresInAllViews, "WindowViews")) rfl
theorem ex_m28 {adK adV : Nat → Nat} {A : Nat → Prop} {U : State} (h : ex_X adK adV A U) : va_Nw (.methodLinkNest RX4 185 yX3_isOwnersLot "WindowViews") U := ex_m h 28 (q := ("WindowViews", 185, yX3_isOwnersLot, "WindowViews")) rfl
theorem ex_m29 {adK adV : Nat → Nat} {A : Nat → Prop} {U : State} (h : ex_X adK adV A U) : va_Nw (.methodLinkNest RX4 273 yX3_lower "WindowViews") U := ex_m h 29 (q := ("WindowViews", 273, yX3_lower, "WindowViews")) rfl
theorem ex_m30 {adK adV : Nat → Nat} {A : Nat → Prop} {U : State} (h : ex_X adK adV A U) : va_Nw (.methodLinkNest RX4 191 yX3_exchange "WindowViews") U := ex_m h 30 (q := ("WindowViews", 191, yX3_exchange, "WindowViews")) rfl
theorem ex_m31 {adK adV : Nat → Nat} {A : Nat → Prop} {U : State} (h : ex_X adK adV A U) : va_Nw (.methodLinkNest RX4 198 yX3_draw "WindowViews") U := ex_m h 31 (q := ("WindowViews", 198, yX3_draw, "WindowViews")) rfl
theorem ex_m32 {adK adV : Nat → Nat} {A : Nat → Prop} {U : State} (h : ex_X adK adV A U) : va_Nw (.methodLinkNest RX4 201 yX3_lotOfThing "WindowViews") U := ex_m h 32 (q := ("WindowViews", 201, yX3_lotOfThing, "WindowViews")) rfl
theorem ex_m33 {adK adV : Nat → Nat} {A : Nat → Prop} {U : State} (h : ex_X adK adV A U) : va_Nw (.methodLinkNest RX4 210 yX2_append "WindowViews") U := ex_m h 33 (q := ("WindowViews", 210, yX2_append, "WindowViews")) rfl
theorem ex_m34 {adK adV : Nat → Nat} {A : Nat → Prop} {U : State} (h : ex_X adK adV A U) : va_Nw (.methodLinkNest RX4 213 yX2_readText "WindowViews") U := ex_m h 34 (q := ("WindowViews", 213, yX2_readText, "WindowViews")) rfl
theorem ex_m35 {adK adV : Nat → Nat} {A : Nat → Prop} {U : State} (h : ex_X adK adV A U) : va_Nw (.methodLinkNest RX2 117 yX3_isTaken "WindowViews") U := ex_m h 35 (q := ("WindowViews$Tape", 117, yX3_isTaken, "WindowViews")) rfl
theorem ex_m36 {adK adV : Nat → Nat} {A : Nat → Prop} {U : State} (h : ex_X adK adV A U) : va_Nw (.methodLinkNest RX2 96 yX3_put "WindowViews") U := ex_m h 36 (q := ("WindowViews$Tape", 96, yX3_put, "WindowViews")) rfl
theorem ex_m37 {adK adV : Nat → Nat} {A : Nat → Prop} {U : State} (h : ex_X adK adV A U) : va_Nw (.methodLinkNest RX2 106 yX3_addWindow "WindowViews") U := ex_m h 37 (q := ("WindowViews$Tape", 106, yX3_addWindow, "WindowViews")) rfl
theorem ex_m38 {adK adV : Nat → Nat} {A : Nat → Prop} {U : State} (h : ex_X adK adV A U) : va_Nw (.methodLinkNest RX2 113 yX3_takeOff "WindowViews") U := ex_m h 38 (q := ("WindowViews$Tape", 113, yX3_takeOff, "WindowViews")) rfl
theorem ex_m39 {adK adV : Nat → Nat} {A : Nat → Prop} {U : State} (h : ex_X adK adV A U) : va_Nw (.methodLinkNest RX4 225 yX1_begin "WindowViews") U := ex_m h 39 (q := ("WindowViews", 225, yX1_begin, "WindowViews")) rfl
theorem ex_m40 {adK adV : Nat → Nat} {A : Nat → Prop} {U : State} (h : ex_X adK adV A U) : va_Nw (.methodLinkNest RX4 232 yX1_isMissing "WindowViews") U := ex_m h 40 (q := ("WindowViews", 232, yX1_isMissing, "WindowViews")) rfl
theorem ex_m41 {adK adV : Nat → Nat} {A : Nat → Prop} {U : State} (h : ex_X adK adV A U) : va_Nw (.methodLinkNest RX4 235 yX1_store "WindowViews") U := ex_m h 41 (q := ("WindowViews", 235, yX1_store, "WindowViews")) rfl
theorem ex_m42 {adK adV : Nat → Nat} {A : Nat → Prop} {U : State} (h : ex_X adK adV A U) : va_Nw (.methodLinkNest RX4 241 yX1_hasRange "WindowViews") U := ex_m h 42 (q := ("WindowViews", 241, yX1_hasRange, "WindowViews")) rfl
theorem ex_m43 {adK adV : Nat → Nat} {A : Nat → Prop} {U : State} (h : ex_X adK adV A U) : va_Nw (.methodLinkNest RX4 254 yX3_heightOfAll "WindowViews") U := ex_m h 43 (q := ("WindowViews", 254, yX3_heightOfAll, "WindowViews")) rfl
theorem ex_m44 {adK adV : Nat → Nat} {A : Nat → Prop} {U : State} (h : ex_X adK adV A U) : va_Nw (.methodLinkNest RX4 257 yX3_contractCount "WindowViews") U := ex_m h 44 (q := ("WindowViews", 257, yX3_contractCount, "WindowViews")) rfl
theorem ex_m45 {adK adV : Nat → Nat} {A : Nat → Prop} {U : State} (h : ex_X adK adV A U) : va_Nw (.methodLinkNest RX4 260 yX3_spotsInUse "WindowViews") U := ex_m h 45 (q := ("WindowViews", 260, yX3_spotsInUse, "WindowViews")) rfl
theorem uw_X0 : ∀ w ∈ u_ws RX0 TX0 3, w ∈ bigT := by
  have h := tb_in _ (tb_all (List.zip [79, 1, 1] (u_ws RX0 TX0 3)) tables_1 (fun _ h => h) (by decide +kernel))
  have e : (List.zip [79, 1, 1] (u_ws RX0 TX0 3)).map Prod.snd = u_ws RX0 TX0 3 := List.map_snd_zip (by decide +kernel)
  rw [e] at h
  exact h
theorem uw_X1 : ∀ w ∈ u_ws RX1 TX1 3, w ∈ bigT := by
  have h := tb_in _ (tb_all (List.zip [129, 1, 1] (u_ws RX1 TX1 3)) tables_1 (fun _ h => h) (by decide +kernel))
  have e : (List.zip [129, 1, 1] (u_ws RX1 TX1 3)).map Prod.snd = u_ws RX1 TX1 3 := List.map_snd_zip (by decide +kernel)
  rw [e] at h
  exact h
theorem uw_X2 : ∀ w ∈ u_ws RX2 TX2 7, w ∈ bigT := by
  have h := tb_in _ (tb_all (List.zip [101, 1, 1, 1, 1, 1, 1] (u_ws RX2 TX2 7)) tables_1 (fun _ h => h) (by decide +kernel))
  have e : (List.zip [101, 1, 1, 1, 1, 1, 1] (u_ws RX2 TX2 7)).map Prod.snd = u_ws RX2 TX2 7 := List.map_snd_zip (by decide +kernel)
  rw [e] at h
  exact h
theorem uw_X3 : ∀ w ∈ u_ws RX3 TX3 8, w ∈ bigT := by
  have h := tb_in _ (tb_all (List.zip [52, 1, 1, 1, 1, 1, 1, 1] (u_ws RX3 TX3 8)) tables_1 (fun _ h => h) (by decide +kernel))
  have e : (List.zip [52, 1, 1, 1, 1, 1, 1, 1] (u_ws RX3 TX3 8)).map Prod.snd = u_ws RX3 TX3 8 := List.map_snd_zip (by decide +kernel)
  rw [e] at h
  exact h
theorem uw_X4 : ∀ w ∈ u_ws RX4 TX4 11, w ∈ bigT := by
  have h := tb_in _ (tb_all (List.zip [147, 1, 1, 1, 1, 1, 1, 1, 1, 1, 1] (u_ws RX4 TX4 11)) tables_1 (fun _ h => h) (by decide +kernel))
  have e : (List.zip [147, 1, 1, 1, 1, 1, 1, 1, 1, 1, 1] (u_ws RX4 TX4 11)).map Prod.snd = u_ws RX4 TX4 11 := List.map_snd_zip (by decide +kernel)
  rw [e] at h
  exact h
theorem uw_X5 : ∀ w ∈ u_ws RX5 TX5 21, w ∈ bigT := by
  have h := tb_in _ (tb_all (List.zip [755, 1, 1, 1, 1, 1, 1, 1, 1, 1, 1, 1, 1, 1, 1, 1, 1, 1, 1, 1, 1] (u_ws RX5 TX5 21)) tables_1 (fun _ h => h) (by decide +kernel))
  have e : (List.zip [755, 1, 1, 1, 1, 1, 1, 1, 1, 1, 1, 1, 1, 1, 1, 1, 1, 1, 1, 1, 1] (u_ws RX5 TX5 21)).map Prod.snd = u_ws RX5 TX5 21 := List.map_snd_zip (by decide +kernel)
  rw [e] at h
  exact h
theorem tg_0 : Cond.initialized RX4 ∈ bigT ∧ Cond.initialized RX3 ∈ bigT ∧ Cond.initialized RX0 ∈ bigT ∧ Cond.initialized RX2 ∈ bigT ∧ Cond.initialized RX1 ∈ bigT ∧ Cond.initialized RX5 ∈ bigT ∧ Cond.initialized RJ9 ∈ bigT ∧ Cond.initialized "java/lang/System" ∈ bigT ∧ Cond.initialized RJ6 ∈ bigT ∧ Cond.initialized RJ0 ∈ bigT ∧ Cond.initialized RJ1 ∈ bigT ∧ Cond.initialized RJ3 ∈ bigT ∧ Cond.fieldLink RX3 11 RX3 "things" "[[I" ∈ bigT ∧ Cond.fieldLink RX3 16 RX3 "windows" "[[I" ∈ bigT ∧ Cond.fieldLink RX3 19 RX3 "paintPrices" "[I" ∈ bigT ∧ Cond.fieldLink RX3 23 RX3 "purses" "[I" ∈ bigT ∧ Cond.fieldLink RX3 26 RX3 "spots" "[I" ∈ bigT ∧ Cond.fieldLink RX3 29 RX3 "windowCount" "I" ∈ bigT ∧ Cond.fieldLink RX3 33 RX3 "month" "I" ∈ bigT ∧ Cond.fieldLink RX3 36 RX3 "z" "I" ∈ bigT ∧ Cond.fieldLink RX0 9 RX0 "lotsAway" "[I" ∈ bigT ∧ Cond.fieldLink RX0 15 RX0 "tops" "[I" ∈ bigT ∧ Cond.fieldLink RX0 18 RX0 "lowest" "[I" ∈ bigT ∧ Cond.fieldLink RX2 9 RX2 "bytes" "[I" ∈ bigT ∧ True := by
  have h := tb_all [(1, Cond.initialized RX4), (0, Cond.initialized RX3), (0, Cond.initialized RX0), (0, Cond.initialized RX2), (0, Cond.initialized RX1), (0, Cond.initialized RX5), (0, Cond.initialized RJ9), (0, Cond.initialized "java/lang/System"), (0, Cond.initialized RJ6), (0, Cond.initialized RJ0), (0, Cond.initialized RJ1), (0, Cond.initialized RJ3), (17, Cond.fieldLink RX3 11 RX3 "things" "[[I"), (2, Cond.fieldLink RX3 16 RX3 "windows" "[[I"), (2, Cond.fieldLink RX3 19 RX3 "paintPrices" "[I"), (2, Cond.fieldLink RX3 23 RX3 "purses" "[I"), (2, Cond.fieldLink RX3 26 RX3 "spots" "[I"), (1, Cond.fieldLink RX3 29 RX3 "windowCount" "I"), (3, Cond.fieldLink RX3 33 RX3 "month" "I"), (1, Cond.fieldLink RX3 36 RX3 "z" "I"), (25, Cond.fieldLink RX0 9 RX0 "lotsAway" "[I"), (0, Cond.fieldLink RX0 15 RX0 "tops" "[I"), (0, Cond.fieldLink RX0 18 RX0 "lowest" "[I"), (13, Cond.fieldLink RX2 9 RX2 "bytes" "[I")] tables_1 (fun _ h => h) (by decide +kernel)
  exact h
theorem tw_190 : Cond.initialized RX4 ∈ bigT := tg_0.1
theorem tw_33 : Cond.initialized RX3 ∈ bigT := tg_0.2.1
theorem tw_49 : Cond.initialized RX0 ∈ bigT := tg_0.2.2.1
theorem tw_100 : Cond.initialized RX2 ∈ bigT := tg_0.2.2.2.1
theorem tw_295 : Cond.initialized RX1 ∈ bigT := tg_0.2.2.2.2.1
theorem tw_325 : Cond.initialized RX5 ∈ bigT := tg_0.2.2.2.2.2.1
theorem tw_37 : Cond.initialized RJ9 ∈ bigT := tg_0.2.2.2.2.2.2.1
theorem tw_175 : Cond.initialized "java/lang/System" ∈ bigT := tg_0.2.2.2.2.2.2.2.1
theorem tw_257 : Cond.initialized RJ6 ∈ bigT := tg_0.2.2.2.2.2.2.2.2.1
theorem tw_17 : Cond.initialized RJ0 ∈ bigT := tg_0.2.2.2.2.2.2.2.2.2.1
theorem tw_18 : Cond.initialized RJ1 ∈ bigT := tg_0.2.2.2.2.2.2.2.2.2.2.1
theorem tw_19 : Cond.initialized RJ3 ∈ bigT := tg_0.2.2.2.2.2.2.2.2.2.2.2.1
theorem tw_27 : Cond.fieldLink RX3 11 RX3 "things" "[[I" ∈ bigT := tg_0.2.2.2.2.2.2.2.2.2.2.2.2.1
theorem tw_141 : Cond.fieldLink RX3 16 RX3 "windows" "[[I" ∈ bigT := tg_0.2.2.2.2.2.2.2.2.2.2.2.2.2.1
theorem tw_73 : Cond.fieldLink RX3 19 RX3 "paintPrices" "[I" ∈ bigT := tg_0.2.2.2.2.2.2.2.2.2.2.2.2.2.2.1
theorem tw_176 : Cond.fieldLink RX3 23 RX3 "purses" "[I" ∈ bigT := tg_0.2.2.2.2.2.2.2.2.2.2.2.2.2.2.2.1
theorem tw_177 : Cond.fieldLink RX3 26 RX3 "spots" "[I" ∈ bigT := tg_0.2.2.2.2.2.2.2.2.2.2.2.2.2.2.2.2.1
theorem tw_140 : Cond.fieldLink RX3 29 RX3 "windowCount" "I" ∈ bigT := tg_0.2.2.2.2.2.2.2.2.2.2.2.2.2.2.2.2.2.1
theorem tw_28 : Cond.fieldLink RX3 33 RX3 "month" "I" ∈ bigT := tg_0.2.2.2.2.2.2.2.2.2.2.2.2.2.2.2.2.2.2.1
theorem tw_178 : Cond.fieldLink RX3 36 RX3 "z" "I" ∈ bigT := tg_0.2.2.2.2.2.2.2.2.2.2.2.2.2.2.2.2.2.2.2.1
theorem tw_38 : Cond.fieldLink RX0 9 RX0 "lotsAway" "[I" ∈ bigT := tg_0.2.2.2.2.2.2.2.2.2.2.2.2.2.2.2.2.2.2.2.2.1
theorem tw_39 : Cond.fieldLink RX0 15 RX0 "tops" "[I" ∈ bigT := tg_0.2.2.2.2.2.2.2.2.2.2.2.2.2.2.2.2.2.2.2.2.2.1
theorem tw_50 : Cond.fieldLink RX0 18 RX0 "lowest" "[I" ∈ bigT := tg_0.2.2.2.2.2.2.2.2.2.2.2.2.2.2.2.2.2.2.2.2.2.2.1
theorem tw_93 : Cond.fieldLink RX2 9 RX2 "bytes" "[I" ∈ bigT := tg_0.2.2.2.2.2.2.2.2.2.2.2.2.2.2.2.2.2.2.2.2.2.2.2.1
theorem tg_1 : Cond.fieldLink RX2 15 RX2 "length" "I" ∈ bigT ∧ Cond.fieldLink RX2 19 RX2 "sort" "I" ∈ bigT ∧ Cond.fieldLink RX2 22 RX2 "begin" "I" ∈ bigT ∧ Cond.fieldLink RX2 25 RX2 "end" "I" ∈ bigT ∧ Cond.fieldLink RX2 28 RX2 "number" "I" ∈ bigT ∧ Cond.fieldLink RX2 31 RX2 "fault" "I" ∈ bigT ∧ Cond.fieldLink RX1 11 RX1 "numbers" "[[I" ∈ bigT ∧ Cond.fieldLink RX1 16 RX1 "bits" "[I" ∈ bigT ∧ Cond.fieldLink RX1 20 RX1 "lengths" "[I" ∈ bigT ∧ Cond.fieldLink RX4 10 RX4 "town" "LWindowViews$Town;" ∈ bigT ∧ Cond.fieldLink RX4 16 RX4 "kept" "LWindowViews$Town;" ∈ bigT ∧ Cond.fieldLink RX4 19 RX4 "trial" "LWindowViews$Town;" ∈ bigT ∧ Cond.fieldLink RX4 25 RX4 "glance" "LWindowViews$Glance;" ∈ bigT ∧ Cond.fieldLink RX4 32 RX4 "tape" "LWindowViews$Tape;" ∈ bigT ∧ Cond.fieldLink RX4 39 RX4 "sheets" "LWindowViews$Sheets;" ∈ bigT ∧ Cond.fieldLink RX4 43 RX4 "told" "[I" ∈ bigT ∧ Cond.fieldLink RX4 47 RX4 "gainsBefore" "[I" ∈ bigT ∧ Cond.fieldLink RX4 50 RX4 "gainsAfter" "[I" ∈ bigT ∧ Cond.fieldLink RX4 53 RX4 "spareRow" "[I" ∈ bigT ∧ Cond.fieldLink RX4 56 RX4 "imageKept" "Z" ∈ bigT ∧ Cond.methodLink RX4 60 yX4_within ∈ bigT ∧ Cond.static yX4_within ∈ bigT ∧ Cond.code yX4_within cX4_within 2 (some .boolean) ∈ bigT ∧ Cond.methodLink RX4 64 yX4_finding ∈ bigT ∧ True := by
  have h := tb_all [(93, Cond.fieldLink RX2 15 RX2 "length" "I"), (1, Cond.fieldLink RX2 19 RX2 "sort" "I"), (0, Cond.fieldLink RX2 22 RX2 "begin" "I"), (0, Cond.fieldLink RX2 25 RX2 "end" "I"), (0, Cond.fieldLink RX2 28 RX2 "number" "I"), (0, Cond.fieldLink RX2 31 RX2 "fault" "I"), (23, Cond.fieldLink RX1 11 RX1 "numbers" "[[I"), (1, Cond.fieldLink RX1 16 RX1 "bits" "[I"), (1, Cond.fieldLink RX1 20 RX1 "lengths" "[I"), (8, Cond.fieldLink RX4 10 RX4 "town" "LWindowViews$Town;"), (0, Cond.fieldLink RX4 16 RX4 "kept" "LWindowViews$Town;"), (0, Cond.fieldLink RX4 19 RX4 "trial" "LWindowViews$Town;"), (0, Cond.fieldLink RX4 25 RX4 "glance" "LWindowViews$Glance;"), (0, Cond.fieldLink RX4 32 RX4 "tape" "LWindowViews$Tape;"), (0, Cond.fieldLink RX4 39 RX4 "sheets" "LWindowViews$Sheets;"), (0, Cond.fieldLink RX4 43 RX4 "told" "[I"), (0, Cond.fieldLink RX4 47 RX4 "gainsBefore" "[I"), (0, Cond.fieldLink RX4 50 RX4 "gainsAfter" "[I"), (0, Cond.fieldLink RX4 53 RX4 "spareRow" "[I"), (0, Cond.fieldLink RX4 56 RX4 "imageKept" "Z"), (27, Cond.methodLink RX4 60 yX4_within), (0, Cond.static yX4_within), (0, Cond.code yX4_within cX4_within 2 (some .boolean)), (0, Cond.methodLink RX4 64 yX4_finding)] tables_1 (fun _ h => h) (by decide +kernel)
  exact h
theorem tw_92 : Cond.fieldLink RX2 15 RX2 "length" "I" ∈ bigT := tg_1.1
theorem tw_101 : Cond.fieldLink RX2 19 RX2 "sort" "I" ∈ bigT := tg_1.2.1
theorem tw_95 : Cond.fieldLink RX2 22 RX2 "begin" "I" ∈ bigT := tg_1.2.2.1
theorem tw_94 : Cond.fieldLink RX2 25 RX2 "end" "I" ∈ bigT := tg_1.2.2.2.1
theorem tw_102 : Cond.fieldLink RX2 28 RX2 "number" "I" ∈ bigT := tg_1.2.2.2.2.1
theorem tw_116 : Cond.fieldLink RX2 31 RX2 "fault" "I" ∈ bigT := tg_1.2.2.2.2.2.1
theorem tw_91 : Cond.fieldLink RX1 11 RX1 "numbers" "[[I" ∈ bigT := tg_1.2.2.2.2.2.2.1
theorem tw_89 : Cond.fieldLink RX1 16 RX1 "bits" "[I" ∈ bigT := tg_1.2.2.2.2.2.2.2.1
theorem tw_90 : Cond.fieldLink RX1 20 RX1 "lengths" "[I" ∈ bigT := tg_1.2.2.2.2.2.2.2.2.1
theorem tw_195 : Cond.fieldLink RX4 10 RX4 "town" "LWindowViews$Town;" ∈ bigT := tg_1.2.2.2.2.2.2.2.2.2.1
theorem tw_308 : Cond.fieldLink RX4 16 RX4 "kept" "LWindowViews$Town;" ∈ bigT := tg_1.2.2.2.2.2.2.2.2.2.2.1
theorem tw_234 : Cond.fieldLink RX4 19 RX4 "trial" "LWindowViews$Town;" ∈ bigT := tg_1.2.2.2.2.2.2.2.2.2.2.2.1
theorem tw_209 : Cond.fieldLink RX4 25 RX4 "glance" "LWindowViews$Glance;" ∈ bigT := tg_1.2.2.2.2.2.2.2.2.2.2.2.2.1
theorem tw_280 : Cond.fieldLink RX4 32 RX4 "tape" "LWindowViews$Tape;" ∈ bigT := tg_1.2.2.2.2.2.2.2.2.2.2.2.2.2.1
theorem tw_293 : Cond.fieldLink RX4 39 RX4 "sheets" "LWindowViews$Sheets;" ∈ bigT := tg_1.2.2.2.2.2.2.2.2.2.2.2.2.2.2.1
theorem tw_185 : Cond.fieldLink RX4 43 RX4 "told" "[I" ∈ bigT := tg_1.2.2.2.2.2.2.2.2.2.2.2.2.2.2.2.1
theorem tw_253 : Cond.fieldLink RX4 47 RX4 "gainsBefore" "[I" ∈ bigT := tg_1.2.2.2.2.2.2.2.2.2.2.2.2.2.2.2.2.1
theorem tw_217 : Cond.fieldLink RX4 50 RX4 "gainsAfter" "[I" ∈ bigT := tg_1.2.2.2.2.2.2.2.2.2.2.2.2.2.2.2.2.2.1
theorem tw_216 : Cond.fieldLink RX4 53 RX4 "spareRow" "[I" ∈ bigT := tg_1.2.2.2.2.2.2.2.2.2.2.2.2.2.2.2.2.2.2.1
theorem tw_309 : Cond.fieldLink RX4 56 RX4 "imageKept" "Z" ∈ bigT := tg_1.2.2.2.2.2.2.2.2.2.2.2.2.2.2.2.2.2.2.2.1
theorem tw_188 : Cond.methodLink RX4 60 yX4_within ∈ bigT := tg_1.2.2.2.2.2.2.2.2.2.2.2.2.2.2.2.2.2.2.2.2.1
theorem tw_189 : Cond.static yX4_within ∈ bigT := tg_1.2.2.2.2.2.2.2.2.2.2.2.2.2.2.2.2.2.2.2.2.2.1
theorem tw_187 : Cond.code yX4_within cX4_within 2 (some .boolean) ∈ bigT := tg_1.2.2.2.2.2.2.2.2.2.2.2.2.2.2.2.2.2.2.2.2.2.2.1
theorem tw_192 : Cond.methodLink RX4 64 yX4_finding ∈ bigT := tg_1.2.2.2.2.2.2.2.2.2.2.2.2.2.2.2.2.2.2.2.2.2.2.2.1
theorem tg_2 : Cond.instanceMethod yX4_finding ∈ bigT ∧ Cond.code yX4_finding cX4_finding 2 (some .int) ∈ bigT ∧ Cond.constant RX4 263 (-1000001) ∈ bigT ∧ Cond.instanceMethod yX3_isTaken ∈ bigT ∧ Cond.code yX3_isTaken cX3_isTaken 2 (some .boolean) ∈ bigT ∧ Cond.instanceMethod yX3_put ∈ bigT ∧ Cond.code yX3_put cX3_put 6 (none) ∈ bigT ∧ Cond.instanceMethod yX3_thingCount ∈ bigT ∧ Cond.code yX3_thingCount cX3_thingCount 3 (some .int) ∈ bigT ∧ Cond.methodLink RX3 45 yX3_isTaken ∈ bigT ∧ Cond.instanceMethod yX3_takeOff ∈ bigT ∧ Cond.code yX3_takeOff cX3_takeOff 2 (none) ∈ bigT ∧ Cond.instanceMethod yX3_standing ∈ bigT ∧ Cond.code yX3_standing cX3_standing 3 (some .int) ∈ bigT ∧ Cond.methodLink RX3 49 yX3_isSummer ∈ bigT ∧ Cond.instanceMethod yX3_isSummer ∈ bigT ∧ Cond.code yX3_isSummer cX3_isSummer 2 (some .boolean) ∈ bigT ∧ Cond.methodLink RX3 53 yJ9_min_7cf53 ∈ bigT ∧ Cond.static yJ9_min_7cf53 ∈ bigT ∧ Cond.code yJ9_min_7cf53 cJ9_min_7cf53 2 (some .int) ∈ bigT ∧ Cond.instanceMethod yX3_squarePrice ∈ bigT ∧ Cond.code yX3_squarePrice cX3_squarePrice 4 (some .int) ∈ bigT ∧ Cond.instanceMethod yX3_growth ∈ bigT ∧ Cond.code yX3_growth cX3_growth 3 (some .int) ∈ bigT ∧ True := by
  have h := tb_all [(179, Cond.instanceMethod yX4_finding), (0, Cond.code yX4_finding cX4_finding 2 (some .int)), (0, Cond.constant RX4 263 (-1000001)), (2, Cond.instanceMethod yX3_isTaken), (0, Cond.code yX3_isTaken cX3_isTaken 2 (some .boolean)), (2, Cond.instanceMethod yX3_put), (0, Cond.code yX3_put cX3_put 6 (none)), (2, Cond.instanceMethod yX3_thingCount), (0, Cond.code yX3_thingCount cX3_thingCount 3 (some .int)), (0, Cond.methodLink RX3 45 yX3_isTaken), (6, Cond.instanceMethod yX3_takeOff), (0, Cond.code yX3_takeOff cX3_takeOff 2 (none)), (6, Cond.instanceMethod yX3_standing), (0, Cond.code yX3_standing cX3_standing 3 (some .int)), (0, Cond.methodLink RX3 49 yX3_isSummer), (1, Cond.instanceMethod yX3_isSummer), (0, Cond.code yX3_isSummer cX3_isSummer 2 (some .boolean)), (0, Cond.methodLink RX3 53 yJ9_min_7cf53), (0, Cond.static yJ9_min_7cf53), (0, Cond.code yJ9_min_7cf53 cJ9_min_7cf53 2 (some .int)), (2, Cond.instanceMethod yX3_squarePrice), (0, Cond.code yX3_squarePrice cX3_squarePrice 4 (some .int)), (2, Cond.instanceMethod yX3_growth), (0, Cond.code yX3_growth cX3_growth 3 (some .int))] tables_1 (fun _ h => h) (by decide +kernel)
  exact h
theorem tw_193 : Cond.instanceMethod yX4_finding ∈ bigT := tg_2.1
theorem tw_191 : Cond.code yX4_finding cX4_finding 2 (some .int) ∈ bigT := tg_2.2.1
theorem tw_186 : Cond.constant RX4 263 (-1000001) ∈ bigT := tg_2.2.2.1
theorem tw_52 : Cond.instanceMethod yX3_isTaken ∈ bigT := tg_2.2.2.2.1
theorem tw_51 : Cond.code yX3_isTaken cX3_isTaken 2 (some .boolean) ∈ bigT := tg_2.2.2.2.2.1
theorem tw_138 : Cond.instanceMethod yX3_put ∈ bigT := tg_2.2.2.2.2.2.1
theorem tw_137 : Cond.code yX3_put cX3_put 6 (none) ∈ bigT := tg_2.2.2.2.2.2.2.1
theorem tw_197 : Cond.instanceMethod yX3_thingCount ∈ bigT := tg_2.2.2.2.2.2.2.2.1
theorem tw_196 : Cond.code yX3_thingCount cX3_thingCount 3 (some .int) ∈ bigT := tg_2.2.2.2.2.2.2.2.2.1
theorem tw_179 : Cond.methodLink RX3 45 yX3_isTaken ∈ bigT := tg_2.2.2.2.2.2.2.2.2.2.1
theorem tw_146 : Cond.instanceMethod yX3_takeOff ∈ bigT := tg_2.2.2.2.2.2.2.2.2.2.2.1
theorem tw_145 : Cond.code yX3_takeOff cX3_takeOff 2 (none) ∈ bigT := tg_2.2.2.2.2.2.2.2.2.2.2.2.1
theorem tw_55 : Cond.instanceMethod yX3_standing ∈ bigT := tg_2.2.2.2.2.2.2.2.2.2.2.2.2.1
theorem tw_54 : Cond.code yX3_standing cX3_standing 3 (some .int) ∈ bigT := tg_2.2.2.2.2.2.2.2.2.2.2.2.2.2.1
theorem tw_30 : Cond.methodLink RX3 49 yX3_isSummer ∈ bigT := tg_2.2.2.2.2.2.2.2.2.2.2.2.2.2.2.1
theorem tw_31 : Cond.instanceMethod yX3_isSummer ∈ bigT := tg_2.2.2.2.2.2.2.2.2.2.2.2.2.2.2.2.1
theorem tw_29 : Cond.code yX3_isSummer cX3_isSummer 2 (some .boolean) ∈ bigT := tg_2.2.2.2.2.2.2.2.2.2.2.2.2.2.2.2.2.1
theorem tw_35 : Cond.methodLink RX3 53 yJ9_min_7cf53 ∈ bigT := tg_2.2.2.2.2.2.2.2.2.2.2.2.2.2.2.2.2.2.1
theorem tw_36 : Cond.static yJ9_min_7cf53 ∈ bigT := tg_2.2.2.2.2.2.2.2.2.2.2.2.2.2.2.2.2.2.2.1
theorem tw_34 : Cond.code yJ9_min_7cf53 cJ9_min_7cf53 2 (some .int) ∈ bigT := tg_2.2.2.2.2.2.2.2.2.2.2.2.2.2.2.2.2.2.2.2.1
theorem tw_75 : Cond.instanceMethod yX3_squarePrice ∈ bigT := tg_2.2.2.2.2.2.2.2.2.2.2.2.2.2.2.2.2.2.2.2.2.1
theorem tw_74 : Cond.code yX3_squarePrice cX3_squarePrice 4 (some .int) ∈ bigT := tg_2.2.2.2.2.2.2.2.2.2.2.2.2.2.2.2.2.2.2.2.2.2.1
theorem tw_182 : Cond.instanceMethod yX3_growth ∈ bigT := tg_2.2.2.2.2.2.2.2.2.2.2.2.2.2.2.2.2.2.2.2.2.2.2.1
theorem tw_180 : Cond.code yX3_growth cX3_growth 3 (some .int) ∈ bigT := tg_2.2.2.2.2.2.2.2.2.2.2.2.2.2.2.2.2.2.2.2.2.2.2.2.1
theorem tg_3 : Cond.methodLink RX4 97 yX4_thingLimit ∈ bigT ∧ Cond.static yX4_thingLimit ∈ bigT ∧ Cond.code yX4_thingLimit cX4_thingLimit 1 (some .int) ∈ bigT ∧ Cond.instanceMethod yX3_addWindow ∈ bigT ∧ Cond.code yX3_addWindow cX3_addWindow 5 (none) ∈ bigT ∧ Cond.methodLink RX4 111 yX4_isWindow ∈ bigT ∧ Cond.instanceMethod yX4_isWindow ∈ bigT ∧ Cond.code yX4_isWindow cX4_isWindow 2 (some .boolean) ∈ bigT ∧ Cond.methodLink RX4 117 yX4_windowLimit ∈ bigT ∧ Cond.static yX4_windowLimit ∈ bigT ∧ Cond.code yX4_windowLimit cX4_windowLimit 1 (some .int) ∈ bigT ∧ Cond.instanceMethod yX0_isBroken ∈ bigT ∧ Cond.code yX0_isBroken cX0_isBroken 4 (some .boolean) ∈ bigT ∧ Cond.methodLink RX0 78 yX0_squaresOfOwner ∈ bigT ∧ Cond.instanceMethod yX0_squaresOfOwner ∈ bigT ∧ Cond.code yX0_squaresOfOwner cX0_squaresOfOwner 6 (some .int) ∈ bigT ∧ Cond.methodLink RX0 53 yX0_look ∈ bigT ∧ Cond.instanceMethod yX0_look ∈ bigT ∧ Cond.code yX0_look cX0_look 7 (none) ∈ bigT ∧ Cond.methodLink RX0 27 yX0_nextLot ∈ bigT ∧ Cond.static yX0_nextLot ∈ bigT ∧ Cond.code yX0_nextLot cX0_nextLot 2 (some .int) ∈ bigT ∧ Cond.methodLink RX0 39 yX0_lowestSeen ∈ bigT ∧ Cond.instanceMethod yX0_lowestSeen ∈ bigT ∧ True := by
  have h := tb_all [(230, Cond.methodLink RX4 97 yX4_thingLimit), (0, Cond.static yX4_thingLimit), (0, Cond.code yX4_thingLimit cX4_thingLimit 1 (some .int)), (10, Cond.instanceMethod yX3_addWindow), (0, Cond.code yX3_addWindow cX3_addWindow 5 (none)), (4, Cond.methodLink RX4 111 yX4_isWindow), (1, Cond.instanceMethod yX4_isWindow), (0, Cond.code yX4_isWindow cX4_isWindow 2 (some .boolean)), (4, Cond.methodLink RX4 117 yX4_windowLimit), (0, Cond.static yX4_windowLimit), (0, Cond.code yX4_windowLimit cX4_windowLimit 1 (some .int)), (6, Cond.instanceMethod yX0_isBroken), (0, Cond.code yX0_isBroken cX0_isBroken 4 (some .boolean)), (0, Cond.methodLink RX0 78 yX0_squaresOfOwner), (1, Cond.instanceMethod yX0_squaresOfOwner), (0, Cond.code yX0_squaresOfOwner cX0_squaresOfOwner 6 (some .int)), (0, Cond.methodLink RX0 53 yX0_look), (1, Cond.instanceMethod yX0_look), (0, Cond.code yX0_look cX0_look 7 (none)), (0, Cond.methodLink RX0 27 yX0_nextLot), (0, Cond.static yX0_nextLot), (0, Cond.code yX0_nextLot cX0_nextLot 2 (some .int)), (2, Cond.methodLink RX0 39 yX0_lowestSeen), (1, Cond.instanceMethod yX0_lowestSeen)] tables_1 (fun _ h => h) (by decide +kernel)
  exact h
theorem tw_200 : Cond.methodLink RX4 97 yX4_thingLimit ∈ bigT := tg_3.1
theorem tw_201 : Cond.static yX4_thingLimit ∈ bigT := tg_3.2.1
theorem tw_199 : Cond.code yX4_thingLimit cX4_thingLimit 1 (some .int) ∈ bigT := tg_3.2.2.1
theorem tw_143 : Cond.instanceMethod yX3_addWindow ∈ bigT := tg_3.2.2.2.1
theorem tw_142 : Cond.code yX3_addWindow cX3_addWindow 5 (none) ∈ bigT := tg_3.2.2.2.2.1
theorem tw_203 : Cond.methodLink RX4 111 yX4_isWindow ∈ bigT := tg_3.2.2.2.2.2.1
theorem tw_204 : Cond.instanceMethod yX4_isWindow ∈ bigT := tg_3.2.2.2.2.2.2.1
theorem tw_202 : Cond.code yX4_isWindow cX4_isWindow 2 (some .boolean) ∈ bigT := tg_3.2.2.2.2.2.2.2.1
theorem tw_207 : Cond.methodLink RX4 117 yX4_windowLimit ∈ bigT := tg_3.2.2.2.2.2.2.2.2.1
theorem tw_208 : Cond.static yX4_windowLimit ∈ bigT := tg_3.2.2.2.2.2.2.2.2.2.1
theorem tw_206 : Cond.code yX4_windowLimit cX4_windowLimit 1 (some .int) ∈ bigT := tg_3.2.2.2.2.2.2.2.2.2.2.1
theorem tw_87 : Cond.instanceMethod yX0_isBroken ∈ bigT := tg_3.2.2.2.2.2.2.2.2.2.2.2.1
theorem tw_85 : Cond.code yX0_isBroken cX0_isBroken 4 (some .boolean) ∈ bigT := tg_3.2.2.2.2.2.2.2.2.2.2.2.2.1
theorem tw_82 : Cond.methodLink RX0 78 yX0_squaresOfOwner ∈ bigT := tg_3.2.2.2.2.2.2.2.2.2.2.2.2.2.1
theorem tw_83 : Cond.instanceMethod yX0_squaresOfOwner ∈ bigT := tg_3.2.2.2.2.2.2.2.2.2.2.2.2.2.2.1
theorem tw_81 : Cond.code yX0_squaresOfOwner cX0_squaresOfOwner 6 (some .int) ∈ bigT := tg_3.2.2.2.2.2.2.2.2.2.2.2.2.2.2.2.1
theorem tw_66 : Cond.methodLink RX0 53 yX0_look ∈ bigT := tg_3.2.2.2.2.2.2.2.2.2.2.2.2.2.2.2.2.1
theorem tw_67 : Cond.instanceMethod yX0_look ∈ bigT := tg_3.2.2.2.2.2.2.2.2.2.2.2.2.2.2.2.2.2.1
theorem tw_65 : Cond.code yX0_look cX0_look 7 (none) ∈ bigT := tg_3.2.2.2.2.2.2.2.2.2.2.2.2.2.2.2.2.2.2.1
theorem tw_47 : Cond.methodLink RX0 27 yX0_nextLot ∈ bigT := tg_3.2.2.2.2.2.2.2.2.2.2.2.2.2.2.2.2.2.2.2.1
theorem tw_48 : Cond.static yX0_nextLot ∈ bigT := tg_3.2.2.2.2.2.2.2.2.2.2.2.2.2.2.2.2.2.2.2.2.1
theorem tw_46 : Cond.code yX0_nextLot cX0_nextLot 2 (some .int) ∈ bigT := tg_3.2.2.2.2.2.2.2.2.2.2.2.2.2.2.2.2.2.2.2.2.2.1
theorem tw_58 : Cond.methodLink RX0 39 yX0_lowestSeen ∈ bigT := tg_3.2.2.2.2.2.2.2.2.2.2.2.2.2.2.2.2.2.2.2.2.2.2.1
theorem tw_59 : Cond.instanceMethod yX0_lowestSeen ∈ bigT := tg_3.2.2.2.2.2.2.2.2.2.2.2.2.2.2.2.2.2.2.2.2.2.2.2.1
theorem tg_4 : Cond.code yX0_lowestSeen cX0_lowestSeen 6 (some .int) ∈ bigT ∧ Cond.methodLink RX0 42 yJ9_floorDiv_7cf53 ∈ bigT ∧ Cond.static yJ9_floorDiv_7cf53 ∈ bigT ∧ Cond.code yJ9_floorDiv_7cf53 cJ9_floorDiv_7cf53 3 (some .int) ∈ bigT ∧ Cond.methodLink RX0 47 yJ9_max_7cf53 ∈ bigT ∧ Cond.static yJ9_max_7cf53 ∈ bigT ∧ Cond.code yJ9_max_7cf53 cJ9_max_7cf53 2 (some .int) ∈ bigT ∧ Cond.methodLink RX0 50 yX0_squares ∈ bigT ∧ Cond.instanceMethod yX0_squares ∈ bigT ∧ Cond.code yX0_squares cX0_squares 2 (some .int) ∈ bigT ∧ Cond.instanceMethod yX0_squareSet ∈ bigT ∧ Cond.code yX0_squareSet cX0_squareSet 2 (some .int) ∈ bigT ∧ Cond.instanceMethod yX0_squaresInView ∈ bigT ∧ Cond.code yX0_squaresInView cX0_squaresInView 5 (some .int) ∈ bigT ∧ Cond.instanceMethod yX0_lotSet ∈ bigT ∧ Cond.code yX0_lotSet cX0_lotSet 5 (some .int) ∈ bigT ∧ Cond.instanceMethod yX0_pay ∈ bigT ∧ Cond.code yX0_pay cX0_pay 9 (some .int) ∈ bigT ∧ Cond.instanceMethod yX0_gainsInto ∈ bigT ∧ Cond.code yX0_gainsInto cX0_gainsInto 5 (some .int) ∈ bigT ∧ Cond.methodLink RX0 74 yX0_pay ∈ bigT ∧ Cond.instanceMethod yX0_brokenSet ∈ bigT ∧ Cond.code yX0_brokenSet cX0_brokenSet 4 (some .int) ∈ bigT ∧ Cond.methodLink RX0 82 yX0_isBroken ∈ bigT ∧ True := by
  have h := tb_all [(284, Cond.code yX0_lowestSeen cX0_lowestSeen 6 (some .int)), (0, Cond.methodLink RX0 42 yJ9_floorDiv_7cf53), (0, Cond.static yJ9_floorDiv_7cf53), (0, Cond.code yJ9_floorDiv_7cf53 cJ9_floorDiv_7cf53 3 (some .int)), (0, Cond.methodLink RX0 47 yJ9_max_7cf53), (0, Cond.static yJ9_max_7cf53), (0, Cond.code yJ9_max_7cf53 cJ9_max_7cf53 2 (some .int)), (0, Cond.methodLink RX0 50 yX0_squares), (1, Cond.instanceMethod yX0_squares), (0, Cond.code yX0_squares cX0_squares 2 (some .int)), (11, Cond.instanceMethod yX0_squareSet), (0, Cond.code yX0_squareSet cX0_squareSet 2 (some .int)), (6, Cond.instanceMethod yX0_squaresInView), (0, Cond.code yX0_squaresInView cX0_squaresInView 5 (some .int)), (11, Cond.instanceMethod yX0_lotSet), (0, Cond.code yX0_lotSet cX0_lotSet 5 (some .int)), (10, Cond.instanceMethod yX0_pay), (0, Cond.code yX0_pay cX0_pay 9 (some .int)), (7, Cond.instanceMethod yX0_gainsInto), (0, Cond.code yX0_gainsInto cX0_gainsInto 5 (some .int)), (0, Cond.methodLink RX0 74 yX0_pay), (6, Cond.instanceMethod yX0_brokenSet), (0, Cond.code yX0_brokenSet cX0_brokenSet 4 (some .int)), (0, Cond.methodLink RX0 82 yX0_isBroken)] tables_1 (fun _ h => h) (by decide +kernel)
  exact h
theorem tw_57 : Cond.code yX0_lowestSeen cX0_lowestSeen 6 (some .int) ∈ bigT := tg_4.1
theorem tw_41 : Cond.methodLink RX0 42 yJ9_floorDiv_7cf53 ∈ bigT := tg_4.2.1
theorem tw_42 : Cond.static yJ9_floorDiv_7cf53 ∈ bigT := tg_4.2.2.1
theorem tw_40 : Cond.code yJ9_floorDiv_7cf53 cJ9_floorDiv_7cf53 3 (some .int) ∈ bigT := tg_4.2.2.2.1
theorem tw_44 : Cond.methodLink RX0 47 yJ9_max_7cf53 ∈ bigT := tg_4.2.2.2.2.1
theorem tw_45 : Cond.static yJ9_max_7cf53 ∈ bigT := tg_4.2.2.2.2.2.1
theorem tw_43 : Cond.code yJ9_max_7cf53 cJ9_max_7cf53 2 (some .int) ∈ bigT := tg_4.2.2.2.2.2.2.1
theorem tw_62 : Cond.methodLink RX0 50 yX0_squares ∈ bigT := tg_4.2.2.2.2.2.2.2.1
theorem tw_63 : Cond.instanceMethod yX0_squares ∈ bigT := tg_4.2.2.2.2.2.2.2.2.1
theorem tw_61 : Cond.code yX0_squares cX0_squares 2 (some .int) ∈ bigT := tg_4.2.2.2.2.2.2.2.2.2.1
theorem tw_211 : Cond.instanceMethod yX0_squareSet ∈ bigT := tg_4.2.2.2.2.2.2.2.2.2.2.1
theorem tw_210 : Cond.code yX0_squareSet cX0_squareSet 2 (some .int) ∈ bigT := tg_4.2.2.2.2.2.2.2.2.2.2.2.1
theorem tw_71 : Cond.instanceMethod yX0_squaresInView ∈ bigT := tg_4.2.2.2.2.2.2.2.2.2.2.2.2.1
theorem tw_69 : Cond.code yX0_squaresInView cX0_squaresInView 5 (some .int) ∈ bigT := tg_4.2.2.2.2.2.2.2.2.2.2.2.2.2.1
theorem tw_214 : Cond.instanceMethod yX0_lotSet ∈ bigT := tg_4.2.2.2.2.2.2.2.2.2.2.2.2.2.2.1
theorem tw_213 : Cond.code yX0_lotSet cX0_lotSet 5 (some .int) ∈ bigT := tg_4.2.2.2.2.2.2.2.2.2.2.2.2.2.2.2.1
theorem tw_79 : Cond.instanceMethod yX0_pay ∈ bigT := tg_4.2.2.2.2.2.2.2.2.2.2.2.2.2.2.2.2.1
theorem tw_77 : Cond.code yX0_pay cX0_pay 9 (some .int) ∈ bigT := tg_4.2.2.2.2.2.2.2.2.2.2.2.2.2.2.2.2.2.1
theorem tw_219 : Cond.instanceMethod yX0_gainsInto ∈ bigT := tg_4.2.2.2.2.2.2.2.2.2.2.2.2.2.2.2.2.2.2.1
theorem tw_218 : Cond.code yX0_gainsInto cX0_gainsInto 5 (some .int) ∈ bigT := tg_4.2.2.2.2.2.2.2.2.2.2.2.2.2.2.2.2.2.2.2.1
theorem tw_78 : Cond.methodLink RX0 74 yX0_pay ∈ bigT := tg_4.2.2.2.2.2.2.2.2.2.2.2.2.2.2.2.2.2.2.2.2.1
theorem tw_222 : Cond.instanceMethod yX0_brokenSet ∈ bigT := tg_4.2.2.2.2.2.2.2.2.2.2.2.2.2.2.2.2.2.2.2.2.2.1
theorem tw_221 : Cond.code yX0_brokenSet cX0_brokenSet 4 (some .int) ∈ bigT := tg_4.2.2.2.2.2.2.2.2.2.2.2.2.2.2.2.2.2.2.2.2.2.2.1
theorem tw_86 : Cond.methodLink RX0 82 yX0_isBroken ∈ bigT := tg_4.2.2.2.2.2.2.2.2.2.2.2.2.2.2.2.2.2.2.2.2.2.2.2.1
theorem tg_5 : Cond.methodLink RX4 160 yX4_passMonths ∈ bigT ∧ Cond.instanceMethod yX4_passMonths ∈ bigT ∧ Cond.code yX4_passMonths cX4_passMonths 5 (some .int) ∈ bigT ∧ Cond.instanceMethod yX0_payAll ∈ bigT ∧ Cond.code yX0_payAll cX0_payAll 4 (some .int) ∈ bigT ∧ Cond.instanceMethod yX3_growAll ∈ bigT ∧ Cond.code yX3_growAll cX3_growAll 2 (none) ∈ bigT ∧ Cond.methodLink RX3 59 yX3_growth ∈ bigT ∧ Cond.instanceMethod yX3_become ∈ bigT ∧ Cond.code yX3_become cX3_become 3 (none) ∈ bigT ∧ Cond.methodLink RX3 39 arraycopyName ∈ bigT ∧ Cond.static arraycopyName ∈ bigT ∧ Cond.native arraycopyName ∈ bigT ∧ Cond.instanceMethod yX0_squaresInAllViews ∈ bigT ∧ Cond.code yX0_squaresInAllViews cX0_squaresInAllViews 4 (some .int) ∈ bigT ∧ Cond.methodLink RX0 61 yX0_squaresInView ∈ bigT ∧ Cond.methodLink RX4 170 yX4_tryUntilBroken ∈ bigT ∧ Cond.instanceMethod yX4_tryUntilBroken ∈ bigT ∧ Cond.code yX4_tryUntilBroken cX4_tryUntilBroken 3 (some .int) ∈ bigT ∧ Cond.methodLink RX4 173 yX4_isBrokenWithout ∈ bigT ∧ Cond.instanceMethod yX4_isBrokenWithout ∈ bigT ∧ Cond.code yX4_isBrokenWithout cX4_isBrokenWithout 5 (some .boolean) ∈ bigT ∧ Cond.methodLink RX4 176 yX4_bestFor ∈ bigT ∧ Cond.instanceMethod yX4_bestFor ∈ bigT ∧ True := by
  have h := tb_all [(364, Cond.methodLink RX4 160 yX4_passMonths), (1, Cond.instanceMethod yX4_passMonths), (0, Cond.code yX4_passMonths cX4_passMonths 5 (some .int)), (2, Cond.instanceMethod yX0_payAll), (0, Cond.code yX0_payAll cX0_payAll 4 (some .int)), (2, Cond.instanceMethod yX3_growAll), (0, Cond.code yX3_growAll cX3_growAll 2 (none)), (0, Cond.methodLink RX3 59 yX3_growth), (6, Cond.instanceMethod yX3_become), (0, Cond.code yX3_become cX3_become 3 (none)), (0, Cond.methodLink RX3 39 arraycopyName), (0, Cond.static arraycopyName), (0, Cond.native arraycopyName), (2, Cond.instanceMethod yX0_squaresInAllViews), (0, Cond.code yX0_squaresInAllViews cX0_squaresInAllViews 4 (some .int)), (0, Cond.methodLink RX0 61 yX0_squaresInView), (4, Cond.methodLink RX4 170 yX4_tryUntilBroken), (1, Cond.instanceMethod yX4_tryUntilBroken), (0, Cond.code yX4_tryUntilBroken cX4_tryUntilBroken 3 (some .int)), (4, Cond.methodLink RX4 173 yX4_isBrokenWithout), (1, Cond.instanceMethod yX4_isBrokenWithout), (0, Cond.code yX4_isBrokenWithout cX4_isBrokenWithout 5 (some .boolean)), (4, Cond.methodLink RX4 176 yX4_bestFor), (1, Cond.instanceMethod yX4_bestFor)] tables_1 (fun _ h => h) (by decide +kernel)
  exact h
theorem tw_231 : Cond.methodLink RX4 160 yX4_passMonths ∈ bigT := tg_5.1
theorem tw_232 : Cond.instanceMethod yX4_passMonths ∈ bigT := tg_5.2.1
theorem tw_230 : Cond.code yX4_passMonths cX4_passMonths 5 (some .int) ∈ bigT := tg_5.2.2.1
theorem tw_225 : Cond.instanceMethod yX0_payAll ∈ bigT := tg_5.2.2.2.1
theorem tw_224 : Cond.code yX0_payAll cX0_payAll 4 (some .int) ∈ bigT := tg_5.2.2.2.2.1
theorem tw_228 : Cond.instanceMethod yX3_growAll ∈ bigT := tg_5.2.2.2.2.2.1
theorem tw_227 : Cond.code yX3_growAll cX3_growAll 2 (none) ∈ bigT := tg_5.2.2.2.2.2.2.1
theorem tw_181 : Cond.methodLink RX3 59 yX3_growth ∈ bigT := tg_5.2.2.2.2.2.2.2.1
theorem tw_236 : Cond.instanceMethod yX3_become ∈ bigT := tg_5.2.2.2.2.2.2.2.2.1
theorem tw_235 : Cond.code yX3_become cX3_become 3 (none) ∈ bigT := tg_5.2.2.2.2.2.2.2.2.2.1
theorem tw_172 : Cond.methodLink RX3 39 arraycopyName ∈ bigT := tg_5.2.2.2.2.2.2.2.2.2.2.1
theorem tw_174 : Cond.static arraycopyName ∈ bigT := tg_5.2.2.2.2.2.2.2.2.2.2.2.1
theorem tw_173 : Cond.native arraycopyName ∈ bigT := tg_5.2.2.2.2.2.2.2.2.2.2.2.2.1
theorem tw_239 : Cond.instanceMethod yX0_squaresInAllViews ∈ bigT := tg_5.2.2.2.2.2.2.2.2.2.2.2.2.2.1
theorem tw_238 : Cond.code yX0_squaresInAllViews cX0_squaresInAllViews 4 (some .int) ∈ bigT := tg_5.2.2.2.2.2.2.2.2.2.2.2.2.2.2.1
theorem tw_70 : Cond.methodLink RX0 61 yX0_squaresInView ∈ bigT := tg_5.2.2.2.2.2.2.2.2.2.2.2.2.2.2.2.1
theorem tw_242 : Cond.methodLink RX4 170 yX4_tryUntilBroken ∈ bigT := tg_5.2.2.2.2.2.2.2.2.2.2.2.2.2.2.2.2.1
theorem tw_243 : Cond.instanceMethod yX4_tryUntilBroken ∈ bigT := tg_5.2.2.2.2.2.2.2.2.2.2.2.2.2.2.2.2.2.1
theorem tw_241 : Cond.code yX4_tryUntilBroken cX4_tryUntilBroken 3 (some .int) ∈ bigT := tg_5.2.2.2.2.2.2.2.2.2.2.2.2.2.2.2.2.2.2.1
theorem tw_246 : Cond.methodLink RX4 173 yX4_isBrokenWithout ∈ bigT := tg_5.2.2.2.2.2.2.2.2.2.2.2.2.2.2.2.2.2.2.2.1
theorem tw_247 : Cond.instanceMethod yX4_isBrokenWithout ∈ bigT := tg_5.2.2.2.2.2.2.2.2.2.2.2.2.2.2.2.2.2.2.2.2.1
theorem tw_245 : Cond.code yX4_isBrokenWithout cX4_isBrokenWithout 5 (some .boolean) ∈ bigT := tg_5.2.2.2.2.2.2.2.2.2.2.2.2.2.2.2.2.2.2.2.2.2.1
theorem tw_250 : Cond.methodLink RX4 176 yX4_bestFor ∈ bigT := tg_5.2.2.2.2.2.2.2.2.2.2.2.2.2.2.2.2.2.2.2.2.2.2.1
theorem tw_251 : Cond.instanceMethod yX4_bestFor ∈ bigT := tg_5.2.2.2.2.2.2.2.2.2.2.2.2.2.2.2.2.2.2.2.2.2.2.2.1
theorem tg_6 : Cond.code yX4_bestFor cX4_bestFor 9 (some .int) ∈ bigT ∧ Cond.methodLink RX4 180 yJ6_bitCount_0f7a4 ∈ bigT ∧ Cond.static yJ6_bitCount_0f7a4 ∈ bigT ∧ Cond.code yJ6_bitCount_0f7a4 cJ6_bitCount_0f7a4 1 (some .int) ∈ bigT ∧ Cond.constant RJ6 265 (1431655765) ∈ bigT ∧ Cond.constant RJ6 266 (858993459) ∈ bigT ∧ Cond.constant RJ6 267 (252645135) ∈ bigT ∧ Cond.instanceMethod yX3_isOwnersLot ∈ bigT ∧ Cond.code yX3_isOwnersLot cX3_isOwnersLot 3 (some .boolean) ∈ bigT ∧ Cond.methodLink RX4 188 yX4_bothGainIfLower ∈ bigT ∧ Cond.instanceMethod yX4_bothGainIfLower ∈ bigT ∧ Cond.code yX4_bothGainIfLower cX4_bothGainIfLower 7 (some .boolean) ∈ bigT ∧ Cond.instanceMethod yX3_lower ∈ bigT ∧ Cond.code yX3_lower cX3_lower 3 (some .int) ∈ bigT ∧ Cond.instanceMethod yX3_exchange ∈ bigT ∧ Cond.code yX3_exchange cX3_exchange 5 (none) ∈ bigT ∧ Cond.methodLink RX4 195 yJ6_compare_7cf53 ∈ bigT ∧ Cond.static yJ6_compare_7cf53 ∈ bigT ∧ Cond.code yJ6_compare_7cf53 cJ6_compare_7cf53 2 (some .int) ∈ bigT ∧ Cond.instanceMethod yX3_draw ∈ bigT ∧ Cond.code yX3_draw cX3_draw 1 (some .int) ∈ bigT ∧ Cond.constant RX3 63 (1103515245) ∈ bigT ∧ Cond.instanceMethod yX3_lotOfThing ∈ bigT ∧ Cond.code yX3_lotOfThing cX3_lotOfThing 4 (some .int) ∈ bigT ∧ True := by
  have h := tb_all [(416, Cond.code yX4_bestFor cX4_bestFor 9 (some .int)), (12, Cond.methodLink RX4 180 yJ6_bitCount_0f7a4), (0, Cond.static yJ6_bitCount_0f7a4), (0, Cond.code yJ6_bitCount_0f7a4 cJ6_bitCount_0f7a4 1 (some .int)), (0, Cond.constant RJ6 265 (1431655765)), (0, Cond.constant RJ6 266 (858993459)), (0, Cond.constant RJ6 267 (252645135)), (26, Cond.instanceMethod yX3_isOwnersLot), (0, Cond.code yX3_isOwnersLot cX3_isOwnersLot 3 (some .boolean)), (0, Cond.methodLink RX4 188 yX4_bothGainIfLower), (1, Cond.instanceMethod yX4_bothGainIfLower), (0, Cond.code yX4_bothGainIfLower cX4_bothGainIfLower 7 (some .boolean)), (2, Cond.instanceMethod yX3_lower), (0, Cond.code yX3_lower cX3_lower 3 (some .int)), (6, Cond.instanceMethod yX3_exchange), (0, Cond.code yX3_exchange cX3_exchange 5 (none)), (0, Cond.methodLink RX4 195 yJ6_compare_7cf53), (0, Cond.static yJ6_compare_7cf53), (0, Cond.code yJ6_compare_7cf53 cJ6_compare_7cf53 2 (some .int)), (6, Cond.instanceMethod yX3_draw), (0, Cond.code yX3_draw cX3_draw 1 (some .int)), (0, Cond.constant RX3 63 (1103515245)), (2, Cond.instanceMethod yX3_lotOfThing), (0, Cond.code yX3_lotOfThing cX3_lotOfThing 4 (some .int))] tables_1 (fun _ h => h) (by decide +kernel)
  exact h
theorem tw_249 : Cond.code yX4_bestFor cX4_bestFor 9 (some .int) ∈ bigT := tg_6.1
theorem tw_255 : Cond.methodLink RX4 180 yJ6_bitCount_0f7a4 ∈ bigT := tg_6.2.1
theorem tw_256 : Cond.static yJ6_bitCount_0f7a4 ∈ bigT := tg_6.2.2.1
theorem tw_254 : Cond.code yJ6_bitCount_0f7a4 cJ6_bitCount_0f7a4 1 (some .int) ∈ bigT := tg_6.2.2.2.1
theorem tw_24 : Cond.constant RJ6 265 (1431655765) ∈ bigT := tg_6.2.2.2.2.1
theorem tw_25 : Cond.constant RJ6 266 (858993459) ∈ bigT := tg_6.2.2.2.2.2.1
theorem tw_26 : Cond.constant RJ6 267 (252645135) ∈ bigT := tg_6.2.2.2.2.2.2.1
theorem tw_262 : Cond.instanceMethod yX3_isOwnersLot ∈ bigT := tg_6.2.2.2.2.2.2.2.1
theorem tw_261 : Cond.code yX3_isOwnersLot cX3_isOwnersLot 3 (some .boolean) ∈ bigT := tg_6.2.2.2.2.2.2.2.2.1
theorem tw_265 : Cond.methodLink RX4 188 yX4_bothGainIfLower ∈ bigT := tg_6.2.2.2.2.2.2.2.2.2.1
theorem tw_266 : Cond.instanceMethod yX4_bothGainIfLower ∈ bigT := tg_6.2.2.2.2.2.2.2.2.2.2.1
theorem tw_264 : Cond.code yX4_bothGainIfLower cX4_bothGainIfLower 7 (some .boolean) ∈ bigT := tg_6.2.2.2.2.2.2.2.2.2.2.2.1
theorem tw_259 : Cond.instanceMethod yX3_lower ∈ bigT := tg_6.2.2.2.2.2.2.2.2.2.2.2.2.1
theorem tw_258 : Cond.code yX3_lower cX3_lower 3 (some .int) ∈ bigT := tg_6.2.2.2.2.2.2.2.2.2.2.2.2.2.1
theorem tw_269 : Cond.instanceMethod yX3_exchange ∈ bigT := tg_6.2.2.2.2.2.2.2.2.2.2.2.2.2.2.1
theorem tw_268 : Cond.code yX3_exchange cX3_exchange 5 (none) ∈ bigT := tg_6.2.2.2.2.2.2.2.2.2.2.2.2.2.2.2.1
theorem tw_272 : Cond.methodLink RX4 195 yJ6_compare_7cf53 ∈ bigT := tg_6.2.2.2.2.2.2.2.2.2.2.2.2.2.2.2.2.1
theorem tw_273 : Cond.static yJ6_compare_7cf53 ∈ bigT := tg_6.2.2.2.2.2.2.2.2.2.2.2.2.2.2.2.2.2.1
theorem tw_271 : Cond.code yJ6_compare_7cf53 cJ6_compare_7cf53 2 (some .int) ∈ bigT := tg_6.2.2.2.2.2.2.2.2.2.2.2.2.2.2.2.2.2.2.1
theorem tw_275 : Cond.instanceMethod yX3_draw ∈ bigT := tg_6.2.2.2.2.2.2.2.2.2.2.2.2.2.2.2.2.2.2.2.1
theorem tw_274 : Cond.code yX3_draw cX3_draw 1 (some .int) ∈ bigT := tg_6.2.2.2.2.2.2.2.2.2.2.2.2.2.2.2.2.2.2.2.2.1
theorem tw_184 : Cond.constant RX3 63 (1103515245) ∈ bigT := tg_6.2.2.2.2.2.2.2.2.2.2.2.2.2.2.2.2.2.2.2.2.2.1
theorem tw_278 : Cond.instanceMethod yX3_lotOfThing ∈ bigT := tg_6.2.2.2.2.2.2.2.2.2.2.2.2.2.2.2.2.2.2.2.2.2.2.1
theorem tw_277 : Cond.code yX3_lotOfThing cX3_lotOfThing 4 (some .int) ∈ bigT := tg_6.2.2.2.2.2.2.2.2.2.2.2.2.2.2.2.2.2.2.2.2.2.2.2.1
theorem tg_7 : Cond.instanceMethod yX2_append ∈ bigT ∧ Cond.code yX2_append cX2_append 2 (none) ∈ bigT ∧ Cond.instanceMethod yX2_readText ∈ bigT ∧ Cond.code yX2_readText cX2_readText 3 (some .int) ∈ bigT ∧ Cond.methodLink RX2 34 yX2_nextToken ∈ bigT ∧ Cond.instanceMethod yX2_nextToken ∈ bigT ∧ Cond.code yX2_nextToken cX2_nextToken 1 (none) ∈ bigT ∧ Cond.methodLink RX2 143 yX2_sortAt ∈ bigT ∧ Cond.instanceMethod yX2_sortAt ∈ bigT ∧ Cond.code yX2_sortAt cX2_sortAt 3 (some .int) ∈ bigT ∧ Cond.methodLink RX2 146 yJ9_min_7cf53 ∈ bigT ∧ Cond.methodLink RX2 37 yX2_readItem ∈ bigT ∧ Cond.instanceMethod yX2_readItem ∈ bigT ∧ Cond.code yX2_readItem cX2_readItem 3 (none) ∈ bigT ∧ Cond.methodLink RX2 44 yX2_kindOfWord ∈ bigT ∧ Cond.instanceMethod yX2_kindOfWord ∈ bigT ∧ Cond.code yX2_kindOfWord cX2_kindOfWord 1 (some .int) ∈ bigT ∧ Cond.methodLink RX2 54 yX2_isWord ∈ bigT ∧ Cond.instanceMethod yX2_isWord ∈ bigT ∧ Cond.code yX2_isWord cX2_isWord 3 (some .boolean) ∈ bigT ∧ Cond.methodLink RX2 135 yJ0_length_8abf5 ∈ bigT ∧ Cond.instanceMethod yJ0_length_8abf5 ∈ bigT ∧ Cond.selects RJ0 yJ0_length_8abf5 yJ0_length_8abf5 ∈ bigT ∧ Cond.code yJ0_length_8abf5 cJ0_length_8abf5 1 (some .int) ∈ bigT ∧ True := by
  have h := tb_all [(505, Cond.instanceMethod yX2_append), (0, Cond.code yX2_append cX2_append 2 (none)), (10, Cond.instanceMethod yX2_readText), (0, Cond.code yX2_readText cX2_readText 3 (some .int)), (0, Cond.methodLink RX2 34 yX2_nextToken), (1, Cond.instanceMethod yX2_nextToken), (0, Cond.code yX2_nextToken cX2_nextToken 1 (none)), (0, Cond.methodLink RX2 143 yX2_sortAt), (1, Cond.instanceMethod yX2_sortAt), (0, Cond.code yX2_sortAt cX2_sortAt 3 (some .int)), (0, Cond.methodLink RX2 146 yJ9_min_7cf53), (0, Cond.methodLink RX2 37 yX2_readItem), (1, Cond.instanceMethod yX2_readItem), (0, Cond.code yX2_readItem cX2_readItem 3 (none)), (0, Cond.methodLink RX2 44 yX2_kindOfWord), (1, Cond.instanceMethod yX2_kindOfWord), (0, Cond.code yX2_kindOfWord cX2_kindOfWord 1 (some .int)), (1, Cond.methodLink RX2 54 yX2_isWord), (1, Cond.instanceMethod yX2_isWord), (0, Cond.code yX2_isWord cX2_isWord 3 (some .boolean)), (0, Cond.methodLink RX2 135 yJ0_length_8abf5), (0, Cond.instanceMethod yJ0_length_8abf5), (0, Cond.selects RJ0 yJ0_length_8abf5 yJ0_length_8abf5), (0, Cond.code yJ0_length_8abf5 cJ0_length_8abf5 1 (some .int))] tables_1 (fun _ h => h) (by decide +kernel)
  exact h
theorem tw_282 : Cond.instanceMethod yX2_append ∈ bigT := tg_7.1
theorem tw_281 : Cond.code yX2_append cX2_append 2 (none) ∈ bigT := tg_7.2.1
theorem tw_285 : Cond.instanceMethod yX2_readText ∈ bigT := tg_7.2.2.1
theorem tw_284 : Cond.code yX2_readText cX2_readText 3 (some .int) ∈ bigT := tg_7.2.2.2.1
theorem tw_122 : Cond.methodLink RX2 34 yX2_nextToken ∈ bigT := tg_7.2.2.2.2.1
theorem tw_123 : Cond.instanceMethod yX2_nextToken ∈ bigT := tg_7.2.2.2.2.2.1
theorem tw_121 : Cond.code yX2_nextToken cX2_nextToken 1 (none) ∈ bigT := tg_7.2.2.2.2.2.2.1
theorem tw_97 : Cond.methodLink RX2 143 yX2_sortAt ∈ bigT := tg_7.2.2.2.2.2.2.2.1
theorem tw_98 : Cond.instanceMethod yX2_sortAt ∈ bigT := tg_7.2.2.2.2.2.2.2.2.1
theorem tw_96 : Cond.code yX2_sortAt cX2_sortAt 3 (some .int) ∈ bigT := tg_7.2.2.2.2.2.2.2.2.2.1
theorem tw_103 : Cond.methodLink RX2 146 yJ9_min_7cf53 ∈ bigT := tg_7.2.2.2.2.2.2.2.2.2.2.1
theorem tw_169 : Cond.methodLink RX2 37 yX2_readItem ∈ bigT := tg_7.2.2.2.2.2.2.2.2.2.2.2.1
theorem tw_170 : Cond.instanceMethod yX2_readItem ∈ bigT := tg_7.2.2.2.2.2.2.2.2.2.2.2.2.1
theorem tw_168 : Cond.code yX2_readItem cX2_readItem 3 (none) ∈ bigT := tg_7.2.2.2.2.2.2.2.2.2.2.2.2.2.1
theorem tw_149 : Cond.methodLink RX2 44 yX2_kindOfWord ∈ bigT := tg_7.2.2.2.2.2.2.2.2.2.2.2.2.2.2.1
theorem tw_150 : Cond.instanceMethod yX2_kindOfWord ∈ bigT := tg_7.2.2.2.2.2.2.2.2.2.2.2.2.2.2.2.1
theorem tw_148 : Cond.code yX2_kindOfWord cX2_kindOfWord 1 (some .int) ∈ bigT := tg_7.2.2.2.2.2.2.2.2.2.2.2.2.2.2.2.2.1
theorem tw_113 : Cond.methodLink RX2 54 yX2_isWord ∈ bigT := tg_7.2.2.2.2.2.2.2.2.2.2.2.2.2.2.2.2.2.1
theorem tw_114 : Cond.instanceMethod yX2_isWord ∈ bigT := tg_7.2.2.2.2.2.2.2.2.2.2.2.2.2.2.2.2.2.2.1
theorem tw_112 : Cond.code yX2_isWord cX2_isWord 3 (some .boolean) ∈ bigT := tg_7.2.2.2.2.2.2.2.2.2.2.2.2.2.2.2.2.2.2.2.1
theorem tw_105 : Cond.methodLink RX2 135 yJ0_length_8abf5 ∈ bigT := tg_7.2.2.2.2.2.2.2.2.2.2.2.2.2.2.2.2.2.2.2.2.1
theorem tw_106 : Cond.instanceMethod yJ0_length_8abf5 ∈ bigT := tg_7.2.2.2.2.2.2.2.2.2.2.2.2.2.2.2.2.2.2.2.2.2.1
theorem tw_107 : Cond.selects RJ0 yJ0_length_8abf5 yJ0_length_8abf5 ∈ bigT := tg_7.2.2.2.2.2.2.2.2.2.2.2.2.2.2.2.2.2.2.2.2.2.2.1
theorem tw_104 : Cond.code yJ0_length_8abf5 cJ0_length_8abf5 1 (some .int) ∈ bigT := tg_7.2.2.2.2.2.2.2.2.2.2.2.2.2.2.2.2.2.2.2.2.2.2.2.1
theorem tg_8 : Cond.methodLink RJ0 335 yJ0_coder_7d493 ∈ bigT ∧ Cond.instanceMethod yJ0_coder_7d493 ∈ bigT ∧ Cond.selects RJ0 yJ0_coder_7d493 yJ0_coder_7d493 ∈ bigT ∧ Cond.code yJ0_coder_7d493 cJ0_coder_7d493 1 (some .byte) ∈ bigT ∧ Cond.fieldLink RJ0 38 "java/lang/String" "COMPACT_STRINGS" "Z" ∈ bigT ∧ Cond.methodLink RX2 139 yJ0_charAt_5068e ∈ bigT ∧ Cond.instanceMethod yJ0_charAt_5068e ∈ bigT ∧ Cond.selects RJ0 yJ0_charAt_5068e yJ0_charAt_5068e ∈ bigT ∧ Cond.code yJ0_charAt_5068e cJ0_charAt_5068e 2 (some .char) ∈ bigT ∧ Cond.methodLink RJ0 492 yJ0_isLatin1_aae02 ∈ bigT ∧ Cond.instanceMethod yJ0_isLatin1_aae02 ∈ bigT ∧ Cond.selects RJ0 yJ0_isLatin1_aae02 yJ0_isLatin1_aae02 ∈ bigT ∧ Cond.code yJ0_isLatin1_aae02 cJ0_isLatin1_aae02 1 (some .boolean) ∈ bigT ∧ Cond.methodLink RJ0 495 yJ1_charAt_3b067 ∈ bigT ∧ Cond.static yJ1_charAt_3b067 ∈ bigT ∧ Cond.code yJ1_charAt_3b067 cJ1_charAt_3b067 2 (some .char) ∈ bigT ∧ Cond.methodLink RJ1 9 yJ0_checkIndex_df160 ∈ bigT ∧ Cond.static yJ0_checkIndex_df160 ∈ bigT ∧ Cond.code yJ0_checkIndex_df160 cJ0_checkIndex_df160 2 (none) ∈ bigT ∧ Cond.fieldLink RJ0 1053 "jdk/internal/util/Preconditions" "SIOOBE_FORMATTER" "Ljava/util/function/BiFunction;" ∈ bigT ∧ Cond.methodLink RJ0 1059 yJ3_checkIndex_8e157 ∈ bigT ∧ Cond.static yJ3_checkIndex_8e157 ∈ bigT ∧ Cond.code yJ3_checkIndex_8e157 cJ3_checkIndex_8e157 3 (some .int) ∈ bigT ∧ Cond.methodLink RX2 48 yX2_readThing ∈ bigT ∧ True := by
  have h := tb_all [(545, Cond.methodLink RJ0 335 yJ0_coder_7d493), (0, Cond.instanceMethod yJ0_coder_7d493), (0, Cond.selects RJ0 yJ0_coder_7d493 yJ0_coder_7d493), (0, Cond.code yJ0_coder_7d493 cJ0_coder_7d493 1 (some .byte)), (0, Cond.fieldLink RJ0 38 "java/lang/String" "COMPACT_STRINGS" "Z"), (1, Cond.methodLink RX2 139 yJ0_charAt_5068e), (0, Cond.instanceMethod yJ0_charAt_5068e), (0, Cond.selects RJ0 yJ0_charAt_5068e yJ0_charAt_5068e), (0, Cond.code yJ0_charAt_5068e cJ0_charAt_5068e 2 (some .char)), (0, Cond.methodLink RJ0 492 yJ0_isLatin1_aae02), (0, Cond.instanceMethod yJ0_isLatin1_aae02), (0, Cond.selects RJ0 yJ0_isLatin1_aae02 yJ0_isLatin1_aae02), (0, Cond.code yJ0_isLatin1_aae02 cJ0_isLatin1_aae02 1 (some .boolean)), (0, Cond.methodLink RJ0 495 yJ1_charAt_3b067), (0, Cond.static yJ1_charAt_3b067), (0, Cond.code yJ1_charAt_3b067 cJ1_charAt_3b067 2 (some .char)), (0, Cond.methodLink RJ1 9 yJ0_checkIndex_df160), (0, Cond.static yJ0_checkIndex_df160), (0, Cond.code yJ0_checkIndex_df160 cJ0_checkIndex_df160 2 (none)), (0, Cond.fieldLink RJ0 1053 "jdk/internal/util/Preconditions" "SIOOBE_FORMATTER" "Ljava/util/function/BiFunction;"), (1, Cond.methodLink RJ0 1059 yJ3_checkIndex_8e157), (0, Cond.static yJ3_checkIndex_8e157), (0, Cond.code yJ3_checkIndex_8e157 cJ3_checkIndex_8e157 3 (some .int)), (25, Cond.methodLink RX2 48 yX2_readThing)] tables_1 (fun _ h => h) (by decide +kernel)
  exact h
theorem tw_12 : Cond.methodLink RJ0 335 yJ0_coder_7d493 ∈ bigT := tg_8.1
theorem tw_5 : Cond.instanceMethod yJ0_coder_7d493 ∈ bigT := tg_8.2.1
theorem tw_6 : Cond.selects RJ0 yJ0_coder_7d493 yJ0_coder_7d493 ∈ bigT := tg_8.2.2.1
theorem tw_0 : Cond.code yJ0_coder_7d493 cJ0_coder_7d493 1 (some .byte) ∈ bigT := tg_8.2.2.2.1
theorem tw_20 : Cond.fieldLink RJ0 38 "java/lang/String" "COMPACT_STRINGS" "Z" ∈ bigT := tg_8.2.2.2.2.1
theorem tw_109 : Cond.methodLink RX2 139 yJ0_charAt_5068e ∈ bigT := tg_8.2.2.2.2.2.1
theorem tw_110 : Cond.instanceMethod yJ0_charAt_5068e ∈ bigT := tg_8.2.2.2.2.2.2.1
theorem tw_111 : Cond.selects RJ0 yJ0_charAt_5068e yJ0_charAt_5068e ∈ bigT := tg_8.2.2.2.2.2.2.2.1
theorem tw_108 : Cond.code yJ0_charAt_5068e cJ0_charAt_5068e 2 (some .char) ∈ bigT := tg_8.2.2.2.2.2.2.2.2.1
theorem tw_13 : Cond.methodLink RJ0 492 yJ0_isLatin1_aae02 ∈ bigT := tg_8.2.2.2.2.2.2.2.2.2.1
theorem tw_7 : Cond.instanceMethod yJ0_isLatin1_aae02 ∈ bigT := tg_8.2.2.2.2.2.2.2.2.2.2.1
theorem tw_8 : Cond.selects RJ0 yJ0_isLatin1_aae02 yJ0_isLatin1_aae02 ∈ bigT := tg_8.2.2.2.2.2.2.2.2.2.2.2.1
theorem tw_1 : Cond.code yJ0_isLatin1_aae02 cJ0_isLatin1_aae02 1 (some .boolean) ∈ bigT := tg_8.2.2.2.2.2.2.2.2.2.2.2.2.1
theorem tw_14 : Cond.methodLink RJ0 495 yJ1_charAt_3b067 ∈ bigT := tg_8.2.2.2.2.2.2.2.2.2.2.2.2.2.1
theorem tw_10 : Cond.static yJ1_charAt_3b067 ∈ bigT := tg_8.2.2.2.2.2.2.2.2.2.2.2.2.2.2.1
theorem tw_3 : Cond.code yJ1_charAt_3b067 cJ1_charAt_3b067 2 (some .char) ∈ bigT := tg_8.2.2.2.2.2.2.2.2.2.2.2.2.2.2.2.1
theorem tw_15 : Cond.methodLink RJ1 9 yJ0_checkIndex_df160 ∈ bigT := tg_8.2.2.2.2.2.2.2.2.2.2.2.2.2.2.2.2.1
theorem tw_9 : Cond.static yJ0_checkIndex_df160 ∈ bigT := tg_8.2.2.2.2.2.2.2.2.2.2.2.2.2.2.2.2.2.1
theorem tw_2 : Cond.code yJ0_checkIndex_df160 cJ0_checkIndex_df160 2 (none) ∈ bigT := tg_8.2.2.2.2.2.2.2.2.2.2.2.2.2.2.2.2.2.2.1
theorem tw_21 : Cond.fieldLink RJ0 1053 "jdk/internal/util/Preconditions" "SIOOBE_FORMATTER" "Ljava/util/function/BiFunction;" ∈ bigT := tg_8.2.2.2.2.2.2.2.2.2.2.2.2.2.2.2.2.2.2.2.1
theorem tw_16 : Cond.methodLink RJ0 1059 yJ3_checkIndex_8e157 ∈ bigT := tg_8.2.2.2.2.2.2.2.2.2.2.2.2.2.2.2.2.2.2.2.2.1
theorem tw_11 : Cond.static yJ3_checkIndex_8e157 ∈ bigT := tg_8.2.2.2.2.2.2.2.2.2.2.2.2.2.2.2.2.2.2.2.2.2.1
theorem tw_4 : Cond.code yJ3_checkIndex_8e157 cJ3_checkIndex_8e157 3 (some .int) ∈ bigT := tg_8.2.2.2.2.2.2.2.2.2.2.2.2.2.2.2.2.2.2.2.2.2.2.1
theorem tw_165 : Cond.methodLink RX2 48 yX2_readThing ∈ bigT := tg_8.2.2.2.2.2.2.2.2.2.2.2.2.2.2.2.2.2.2.2.2.2.2.2.1
theorem tg_9 : Cond.instanceMethod yX2_readThing ∈ bigT ∧ Cond.code yX2_readThing cX2_readThing 7 (none) ∈ bigT ∧ Cond.methodLink RX2 78 yX2_takeWord ∈ bigT ∧ Cond.instanceMethod yX2_takeWord ∈ bigT ∧ Cond.code yX2_takeWord cX2_takeWord 2 (none) ∈ bigT ∧ Cond.methodLink RX2 41 yX2_failHere ∈ bigT ∧ Cond.instanceMethod yX2_failHere ∈ bigT ∧ Cond.code yX2_failHere cX2_failHere 1 (none) ∈ bigT ∧ Cond.methodLink RX2 82 yX2_takeLot ∈ bigT ∧ Cond.instanceMethod yX2_takeLot ∈ bigT ∧ Cond.code yX2_takeLot cX2_takeLot 4 (some .int) ∈ bigT ∧ Cond.methodLink RX2 88 yX2_takeNumber ∈ bigT ∧ Cond.instanceMethod yX2_takeNumber ∈ bigT ∧ Cond.code yX2_takeNumber cX2_takeNumber 3 (some .int) ∈ bigT ∧ Cond.methodLink RX2 63 yX2_readWindow ∈ bigT ∧ Cond.instanceMethod yX2_readWindow ∈ bigT ∧ Cond.code yX2_readWindow cX2_readWindow 6 (none) ∈ bigT ∧ Cond.methodLink RX2 68 yX2_readPrice ∈ bigT ∧ Cond.instanceMethod yX2_readPrice ∈ bigT ∧ Cond.code yX2_readPrice cX2_readPrice 4 (none) ∈ bigT ∧ Cond.methodLink RX2 73 yX2_readClear ∈ bigT ∧ Cond.instanceMethod yX2_readClear ∈ bigT ∧ Cond.code yX2_readClear cX2_readClear 3 (none) ∈ bigT ∧ Cond.methodLink RX4 222 yX4_isOfKind ∈ bigT ∧ True := by
  have h := tb_all [(597, Cond.instanceMethod yX2_readThing), (0, Cond.code yX2_readThing cX2_readThing 7 (none)), (1, Cond.methodLink RX2 78 yX2_takeWord), (1, Cond.instanceMethod yX2_takeWord), (0, Cond.code yX2_takeWord cX2_takeWord 2 (none)), (0, Cond.methodLink RX2 41 yX2_failHere), (1, Cond.instanceMethod yX2_failHere), (0, Cond.code yX2_failHere cX2_failHere 1 (none)), (0, Cond.methodLink RX2 82 yX2_takeLot), (1, Cond.instanceMethod yX2_takeLot), (0, Cond.code yX2_takeLot cX2_takeLot 4 (some .int)), (2, Cond.methodLink RX2 88 yX2_takeNumber), (1, Cond.instanceMethod yX2_takeNumber), (0, Cond.code yX2_takeNumber cX2_takeNumber 3 (some .int)), (4, Cond.methodLink RX2 63 yX2_readWindow), (1, Cond.instanceMethod yX2_readWindow), (0, Cond.code yX2_readWindow cX2_readWindow 6 (none)), (5, Cond.methodLink RX2 68 yX2_readPrice), (1, Cond.instanceMethod yX2_readPrice), (0, Cond.code yX2_readPrice cX2_readPrice 4 (none)), (1, Cond.methodLink RX2 73 yX2_readClear), (1, Cond.instanceMethod yX2_readClear), (0, Cond.code yX2_readClear cX2_readClear 3 (none)), (10, Cond.methodLink RX4 222 yX4_isOfKind)] tables_1 (fun _ h => h) (by decide +kernel)
  exact h
theorem tw_166 : Cond.instanceMethod yX2_readThing ∈ bigT := tg_9.1
theorem tw_164 : Cond.code yX2_readThing cX2_readThing 7 (none) ∈ bigT := tg_9.2.1
theorem tw_126 : Cond.methodLink RX2 78 yX2_takeWord ∈ bigT := tg_9.2.2.1
theorem tw_127 : Cond.instanceMethod yX2_takeWord ∈ bigT := tg_9.2.2.2.1
theorem tw_125 : Cond.code yX2_takeWord cX2_takeWord 2 (none) ∈ bigT := tg_9.2.2.2.2.1
theorem tw_118 : Cond.methodLink RX2 41 yX2_failHere ∈ bigT := tg_9.2.2.2.2.2.1
theorem tw_119 : Cond.instanceMethod yX2_failHere ∈ bigT := tg_9.2.2.2.2.2.2.1
theorem tw_117 : Cond.code yX2_failHere cX2_failHere 1 (none) ∈ bigT := tg_9.2.2.2.2.2.2.2.1
theorem tw_130 : Cond.methodLink RX2 82 yX2_takeLot ∈ bigT := tg_9.2.2.2.2.2.2.2.2.1
theorem tw_131 : Cond.instanceMethod yX2_takeLot ∈ bigT := tg_9.2.2.2.2.2.2.2.2.2.1
theorem tw_129 : Cond.code yX2_takeLot cX2_takeLot 4 (some .int) ∈ bigT := tg_9.2.2.2.2.2.2.2.2.2.2.1
theorem tw_134 : Cond.methodLink RX2 88 yX2_takeNumber ∈ bigT := tg_9.2.2.2.2.2.2.2.2.2.2.2.1
theorem tw_135 : Cond.instanceMethod yX2_takeNumber ∈ bigT := tg_9.2.2.2.2.2.2.2.2.2.2.2.2.1
theorem tw_133 : Cond.code yX2_takeNumber cX2_takeNumber 3 (some .int) ∈ bigT := tg_9.2.2.2.2.2.2.2.2.2.2.2.2.2.1
theorem tw_161 : Cond.methodLink RX2 63 yX2_readWindow ∈ bigT := tg_9.2.2.2.2.2.2.2.2.2.2.2.2.2.2.1
theorem tw_162 : Cond.instanceMethod yX2_readWindow ∈ bigT := tg_9.2.2.2.2.2.2.2.2.2.2.2.2.2.2.2.1
theorem tw_160 : Cond.code yX2_readWindow cX2_readWindow 6 (none) ∈ bigT := tg_9.2.2.2.2.2.2.2.2.2.2.2.2.2.2.2.2.1
theorem tw_157 : Cond.methodLink RX2 68 yX2_readPrice ∈ bigT := tg_9.2.2.2.2.2.2.2.2.2.2.2.2.2.2.2.2.2.1
theorem tw_158 : Cond.instanceMethod yX2_readPrice ∈ bigT := tg_9.2.2.2.2.2.2.2.2.2.2.2.2.2.2.2.2.2.2.1
theorem tw_156 : Cond.code yX2_readPrice cX2_readPrice 4 (none) ∈ bigT := tg_9.2.2.2.2.2.2.2.2.2.2.2.2.2.2.2.2.2.2.2.1
theorem tw_153 : Cond.methodLink RX2 73 yX2_readClear ∈ bigT := tg_9.2.2.2.2.2.2.2.2.2.2.2.2.2.2.2.2.2.2.2.2.1
theorem tw_154 : Cond.instanceMethod yX2_readClear ∈ bigT := tg_9.2.2.2.2.2.2.2.2.2.2.2.2.2.2.2.2.2.2.2.2.2.1
theorem tw_152 : Cond.code yX2_readClear cX2_readClear 3 (none) ∈ bigT := tg_9.2.2.2.2.2.2.2.2.2.2.2.2.2.2.2.2.2.2.2.2.2.2.1
theorem tw_291 : Cond.methodLink RX4 222 yX4_isOfKind ∈ bigT := tg_9.2.2.2.2.2.2.2.2.2.2.2.2.2.2.2.2.2.2.2.2.2.2.2.1
theorem tg_10 : Cond.static yX4_isOfKind ∈ bigT ∧ Cond.code yX4_isOfKind cX4_isOfKind 2 (some .boolean) ∈ bigT ∧ Cond.methodLink RX4 264 yX4_kindAbove ∈ bigT ∧ Cond.static yX4_kindAbove ∈ bigT ∧ Cond.code yX4_kindAbove cX4_kindAbove 1 (some .int) ∈ bigT ∧ Cond.instanceMethod yX1_begin ∈ bigT ∧ Cond.code yX1_begin cX1_begin 5 (none) ∈ bigT ∧ Cond.instanceMethod yX1_isMissing ∈ bigT ∧ Cond.code yX1_isMissing cX1_isMissing 2 (some .boolean) ∈ bigT ∧ Cond.instanceMethod yX1_store ∈ bigT ∧ Cond.code yX1_store cX1_store 4 (none) ∈ bigT ∧ Cond.instanceMethod yX1_hasRange ∈ bigT ∧ Cond.code yX1_hasRange cX1_hasRange 4 (some .boolean) ∈ bigT ∧ Cond.methodLink RX4 248 arraycopyName ∈ bigT ∧ Cond.instanceMethod yX3_heightOfAll ∈ bigT ∧ Cond.code yX3_heightOfAll cX3_heightOfAll 3 (some .int) ∈ bigT ∧ Cond.instanceMethod yX3_contractCount ∈ bigT ∧ Cond.code yX3_contractCount cX3_contractCount 3 (some .int) ∈ bigT ∧ Cond.instanceMethod yX3_spotsInUse ∈ bigT ∧ Cond.code yX3_spotsInUse cX3_spotsInUse 3 (some .int) ∈ bigT ∧ Cond.methodLink RX5 46 yX5_at ∈ bigT ∧ Cond.static yX5_at ∈ bigT ∧ Cond.code yX5_at cX5_at 2 (some .int) ∈ bigT ∧ Cond.fieldLink RX5 7 RX5 "s" "[I" ∈ bigT ∧ True := by
  have h := tb_all [(651, Cond.static yX4_isOfKind), (0, Cond.code yX4_isOfKind cX4_isOfKind 2 (some .boolean)), (0, Cond.methodLink RX4 264 yX4_kindAbove), (0, Cond.static yX4_kindAbove), (0, Cond.code yX4_kindAbove cX4_kindAbove 1 (some .int)), (6, Cond.instanceMethod yX1_begin), (0, Cond.code yX1_begin cX1_begin 5 (none)), (6, Cond.instanceMethod yX1_isMissing), (0, Cond.code yX1_isMissing cX1_isMissing 2 (some .boolean)), (2, Cond.instanceMethod yX1_store), (0, Cond.code yX1_store cX1_store 4 (none)), (6, Cond.instanceMethod yX1_hasRange), (0, Cond.code yX1_hasRange cX1_hasRange 4 (some .boolean)), (0, Cond.methodLink RX4 248 arraycopyName), (26, Cond.instanceMethod yX3_heightOfAll), (0, Cond.code yX3_heightOfAll cX3_heightOfAll 3 (some .int)), (2, Cond.instanceMethod yX3_contractCount), (0, Cond.code yX3_contractCount cX3_contractCount 3 (some .int)), (2, Cond.instanceMethod yX3_spotsInUse), (0, Cond.code yX3_spotsInUse cX3_spotsInUse 3 (some .int)), (10, Cond.methodLink RX5 46 yX5_at), (0, Cond.static yX5_at), (0, Cond.code yX5_at cX5_at 2 (some .int)), (0, Cond.fieldLink RX5 7 RX5 "s" "[I")] tables_1 (fun _ h => h) (by decide +kernel)
  exact h
theorem tw_292 : Cond.static yX4_isOfKind ∈ bigT := tg_10.1
theorem tw_290 : Cond.code yX4_isOfKind cX4_isOfKind 2 (some .boolean) ∈ bigT := tg_10.2.1
theorem tw_288 : Cond.methodLink RX4 264 yX4_kindAbove ∈ bigT := tg_10.2.2.1
theorem tw_289 : Cond.static yX4_kindAbove ∈ bigT := tg_10.2.2.2.1
theorem tw_287 : Cond.code yX4_kindAbove cX4_kindAbove 1 (some .int) ∈ bigT := tg_10.2.2.2.2.1
theorem tw_296 : Cond.instanceMethod yX1_begin ∈ bigT := tg_10.2.2.2.2.2.1
theorem tw_294 : Cond.code yX1_begin cX1_begin 5 (none) ∈ bigT := tg_10.2.2.2.2.2.2.1
theorem tw_299 : Cond.instanceMethod yX1_isMissing ∈ bigT := tg_10.2.2.2.2.2.2.2.1
theorem tw_298 : Cond.code yX1_isMissing cX1_isMissing 2 (some .boolean) ∈ bigT := tg_10.2.2.2.2.2.2.2.2.1
theorem tw_302 : Cond.instanceMethod yX1_store ∈ bigT := tg_10.2.2.2.2.2.2.2.2.2.1
theorem tw_301 : Cond.code yX1_store cX1_store 4 (none) ∈ bigT := tg_10.2.2.2.2.2.2.2.2.2.2.1
theorem tw_305 : Cond.instanceMethod yX1_hasRange ∈ bigT := tg_10.2.2.2.2.2.2.2.2.2.2.2.1
theorem tw_304 : Cond.code yX1_hasRange cX1_hasRange 4 (some .boolean) ∈ bigT := tg_10.2.2.2.2.2.2.2.2.2.2.2.2.1
theorem tw_307 : Cond.methodLink RX4 248 arraycopyName ∈ bigT := tg_10.2.2.2.2.2.2.2.2.2.2.2.2.2.1
theorem tw_311 : Cond.instanceMethod yX3_heightOfAll ∈ bigT := tg_10.2.2.2.2.2.2.2.2.2.2.2.2.2.2.1
theorem tw_310 : Cond.code yX3_heightOfAll cX3_heightOfAll 3 (some .int) ∈ bigT := tg_10.2.2.2.2.2.2.2.2.2.2.2.2.2.2.2.1
theorem tw_314 : Cond.instanceMethod yX3_contractCount ∈ bigT := tg_10.2.2.2.2.2.2.2.2.2.2.2.2.2.2.2.2.1
theorem tw_313 : Cond.code yX3_contractCount cX3_contractCount 3 (some .int) ∈ bigT := tg_10.2.2.2.2.2.2.2.2.2.2.2.2.2.2.2.2.2.1
theorem tw_317 : Cond.instanceMethod yX3_spotsInUse ∈ bigT := tg_10.2.2.2.2.2.2.2.2.2.2.2.2.2.2.2.2.2.2.1
theorem tw_316 : Cond.code yX3_spotsInUse cX3_spotsInUse 3 (some .int) ∈ bigT := tg_10.2.2.2.2.2.2.2.2.2.2.2.2.2.2.2.2.2.2.2.1
theorem tw_332 : Cond.methodLink RX5 46 yX5_at ∈ bigT := tg_10.2.2.2.2.2.2.2.2.2.2.2.2.2.2.2.2.2.2.2.2.1
theorem tw_333 : Cond.static yX5_at ∈ bigT := tg_10.2.2.2.2.2.2.2.2.2.2.2.2.2.2.2.2.2.2.2.2.2.1
theorem tw_331 : Cond.code yX5_at cX5_at 2 (some .int) ∈ bigT := tg_10.2.2.2.2.2.2.2.2.2.2.2.2.2.2.2.2.2.2.2.2.2.2.1
theorem tw_328 : Cond.fieldLink RX5 7 RX5 "s" "[I" ∈ bigT := tg_10.2.2.2.2.2.2.2.2.2.2.2.2.2.2.2.2.2.2.2.2.2.2.2.1
theorem tg_11 : Cond.fieldLink RX5 13 RX5 "keptS" "[I" ∈ bigT ∧ Cond.fieldLink RX5 16 RX5 "other" "[I" ∈ bigT ∧ Cond.fieldLink RX5 19 RX5 "statuses" "[I" ∈ bigT ∧ Cond.fieldLink RX5 334 RX5 "isKept" "Z" ∈ bigT ∧ Cond.fieldLink RX5 22 RX5 "squares" "[I" ∈ bigT ∧ Cond.fieldLink RX5 146 RX5 "allSquares" "I" ∈ bigT ∧ Cond.fieldLink RX5 150 RX5 "rentHere" "I" ∈ bigT ∧ Cond.fieldLink RX5 153 RX5 "lotSet" "I" ∈ bigT ∧ Cond.fieldLink RX5 25 RX5 "gains" "[I" ∈ bigT ∧ Cond.fieldLink RX5 28 RX5 "hadGains" "[I" ∈ bigT ∧ Cond.fieldLink RX5 31 RX5 "tape" "[I" ∈ bigT ∧ Cond.fieldLink RX5 215 RX5 "taped" "I" ∈ bigT ∧ Cond.fieldLink RX5 229 RX5 "from" "I" ∈ bigT ∧ Cond.fieldLink RX5 226 RX5 "to" "I" ∈ bigT ∧ Cond.fieldLink RX5 252 RX5 "value" "I" ∈ bigT ∧ Cond.fieldLink RX5 241 RX5 "isWrong" "Z" ∈ bigT ∧ Cond.fieldLink RX5 34 RX5 "bitsOf" "[I" ∈ bigT ∧ Cond.fieldLink RX5 37 RX5 "sizeOf" "[I" ∈ bigT ∧ Cond.fieldLink RX5 40 RX5 "number" "[I" ∈ bigT ∧ Cond.fieldLink RX5 43 RX5 "moved" "[I" ∈ bigT ∧ Cond.constantLong RX5 69 (6) ∈ bigT ∧ Cond.methodLink RX5 53 yX5_in ∈ bigT ∧ Cond.static yX5_in ∈ bigT ∧ Cond.code yX5_in cX5_in 6 (some .boolean) ∈ bigT ∧ True := by
  have h := tb_all [(735, Cond.fieldLink RX5 13 RX5 "keptS" "[I"), (0, Cond.fieldLink RX5 16 RX5 "other" "[I"), (0, Cond.fieldLink RX5 19 RX5 "statuses" "[I"), (0, Cond.fieldLink RX5 334 RX5 "isKept" "Z"), (0, Cond.fieldLink RX5 22 RX5 "squares" "[I"), (0, Cond.fieldLink RX5 146 RX5 "allSquares" "I"), (0, Cond.fieldLink RX5 150 RX5 "rentHere" "I"), (0, Cond.fieldLink RX5 153 RX5 "lotSet" "I"), (0, Cond.fieldLink RX5 25 RX5 "gains" "[I"), (0, Cond.fieldLink RX5 28 RX5 "hadGains" "[I"), (0, Cond.fieldLink RX5 31 RX5 "tape" "[I"), (0, Cond.fieldLink RX5 215 RX5 "taped" "I"), (0, Cond.fieldLink RX5 229 RX5 "from" "I"), (0, Cond.fieldLink RX5 226 RX5 "to" "I"), (0, Cond.fieldLink RX5 252 RX5 "value" "I"), (0, Cond.fieldLink RX5 241 RX5 "isWrong" "Z"), (0, Cond.fieldLink RX5 34 RX5 "bitsOf" "[I"), (0, Cond.fieldLink RX5 37 RX5 "sizeOf" "[I"), (0, Cond.fieldLink RX5 40 RX5 "number" "[I"), (0, Cond.fieldLink RX5 43 RX5 "moved" "[I"), (47, Cond.constantLong RX5 69 (6)), (0, Cond.methodLink RX5 53 yX5_in), (0, Cond.static yX5_in), (0, Cond.code yX5_in cX5_in 6 (some .boolean))] tables_1 (fun _ h => h) (by decide +kernel)
  exact h
theorem tw_596 : Cond.fieldLink RX5 13 RX5 "keptS" "[I" ∈ bigT := tg_11.1
theorem tw_330 : Cond.fieldLink RX5 16 RX5 "other" "[I" ∈ bigT := tg_11.2.1
theorem tw_319 : Cond.fieldLink RX5 19 RX5 "statuses" "[I" ∈ bigT := tg_11.2.2.1
theorem tw_595 : Cond.fieldLink RX5 334 RX5 "isKept" "Z" ∈ bigT := tg_11.2.2.2.1
theorem tw_412 : Cond.fieldLink RX5 22 RX5 "squares" "[I" ∈ bigT := tg_11.2.2.2.2.1
theorem tw_409 : Cond.fieldLink RX5 146 RX5 "allSquares" "I" ∈ bigT := tg_11.2.2.2.2.2.1
theorem tw_410 : Cond.fieldLink RX5 150 RX5 "rentHere" "I" ∈ bigT := tg_11.2.2.2.2.2.2.1
theorem tw_411 : Cond.fieldLink RX5 153 RX5 "lotSet" "I" ∈ bigT := tg_11.2.2.2.2.2.2.2.1
theorem tw_420 : Cond.fieldLink RX5 25 RX5 "gains" "[I" ∈ bigT := tg_11.2.2.2.2.2.2.2.2.1
theorem tw_489 : Cond.fieldLink RX5 28 RX5 "hadGains" "[I" ∈ bigT := tg_11.2.2.2.2.2.2.2.2.2.1
theorem tw_496 : Cond.fieldLink RX5 31 RX5 "tape" "[I" ∈ bigT := tg_11.2.2.2.2.2.2.2.2.2.2.1
theorem tw_495 : Cond.fieldLink RX5 215 RX5 "taped" "I" ∈ bigT := tg_11.2.2.2.2.2.2.2.2.2.2.2.1
theorem tw_502 : Cond.fieldLink RX5 229 RX5 "from" "I" ∈ bigT := tg_11.2.2.2.2.2.2.2.2.2.2.2.2.1
theorem tw_501 : Cond.fieldLink RX5 226 RX5 "to" "I" ∈ bigT := tg_11.2.2.2.2.2.2.2.2.2.2.2.2.2.1
theorem tw_520 : Cond.fieldLink RX5 252 RX5 "value" "I" ∈ bigT := tg_11.2.2.2.2.2.2.2.2.2.2.2.2.2.2.1
theorem tw_513 : Cond.fieldLink RX5 241 RX5 "isWrong" "Z" ∈ bigT := tg_11.2.2.2.2.2.2.2.2.2.2.2.2.2.2.2.1
theorem tw_583 : Cond.fieldLink RX5 34 RX5 "bitsOf" "[I" ∈ bigT := tg_11.2.2.2.2.2.2.2.2.2.2.2.2.2.2.2.2.1
theorem tw_584 : Cond.fieldLink RX5 37 RX5 "sizeOf" "[I" ∈ bigT := tg_11.2.2.2.2.2.2.2.2.2.2.2.2.2.2.2.2.2.1
theorem tw_586 : Cond.fieldLink RX5 40 RX5 "number" "[I" ∈ bigT := tg_11.2.2.2.2.2.2.2.2.2.2.2.2.2.2.2.2.2.2.1
theorem tw_594 : Cond.fieldLink RX5 43 RX5 "moved" "[I" ∈ bigT := tg_11.2.2.2.2.2.2.2.2.2.2.2.2.2.2.2.2.2.2.2.1
theorem tw_342 : Cond.constantLong RX5 69 (6) ∈ bigT := tg_11.2.2.2.2.2.2.2.2.2.2.2.2.2.2.2.2.2.2.2.2.1
theorem tw_323 : Cond.methodLink RX5 53 yX5_in ∈ bigT := tg_11.2.2.2.2.2.2.2.2.2.2.2.2.2.2.2.2.2.2.2.2.2.1
theorem tw_324 : Cond.static yX5_in ∈ bigT := tg_11.2.2.2.2.2.2.2.2.2.2.2.2.2.2.2.2.2.2.2.2.2.2.1
theorem tw_322 : Cond.code yX5_in cX5_in 6 (some .boolean) ∈ bigT := tg_11.2.2.2.2.2.2.2.2.2.2.2.2.2.2.2.2.2.2.2.2.2.2.2.1
theorem tg_12 : Cond.methodLink RX5 71 yX5_isLot ∈ bigT ∧ Cond.static yX5_isLot ∈ bigT ∧ Cond.code yX5_isLot cX5_isLot 1 (some .boolean) ∈ bigT ∧ Cond.constantLong RX5 51 (24) ∈ bigT ∧ Cond.methodLink RX5 74 yX5_isOwner ∈ bigT ∧ Cond.static yX5_isOwner ∈ bigT ∧ Cond.code yX5_isOwner cX5_isOwner 1 (some .boolean) ∈ bigT ∧ Cond.constantLong RX5 57 (3) ∈ bigT ∧ Cond.methodLink RX5 77 yX5_isHeight ∈ bigT ∧ Cond.static yX5_isHeight ∈ bigT ∧ Cond.code yX5_isHeight cX5_isHeight 1 (some .boolean) ∈ bigT ∧ Cond.constantLong RX5 59 (9) ∈ bigT ∧ Cond.constant RX5 50 (-1000001) ∈ bigT ∧ Cond.methodLink RX5 80 yX5_finds ∈ bigT ∧ Cond.instanceMethod yX5_finds ∈ bigT ∧ Cond.code yX5_finds cX5_finds 2 (some .int) ∈ bigT ∧ Cond.methodLink RX5 65 yX5_isThing ∈ bigT ∧ Cond.instanceMethod yX5_isThing ∈ bigT ∧ Cond.code yX5_isThing cX5_isThing 2 (some .boolean) ∈ bigT ∧ Cond.methodLink RX5 62 yX5_its ∈ bigT ∧ Cond.instanceMethod yX5_its ∈ bigT ∧ Cond.code yX5_its cX5_its 3 (some .int) ∈ bigT ∧ Cond.constant RX5 84 (-1000005) ∈ bigT ∧ Cond.methodLink RX5 85 yX5_builds ∈ bigT ∧ True := by
  have h := tb_all [(806, Cond.methodLink RX5 71 yX5_isLot), (0, Cond.static yX5_isLot), (0, Cond.code yX5_isLot cX5_isLot 1 (some .boolean)), (0, Cond.constantLong RX5 51 (24)), (0, Cond.methodLink RX5 74 yX5_isOwner), (0, Cond.static yX5_isOwner), (0, Cond.code yX5_isOwner cX5_isOwner 1 (some .boolean)), (0, Cond.constantLong RX5 57 (3)), (0, Cond.methodLink RX5 77 yX5_isHeight), (0, Cond.static yX5_isHeight), (0, Cond.code yX5_isHeight cX5_isHeight 1 (some .boolean)), (0, Cond.constantLong RX5 59 (9)), (0, Cond.constant RX5 50 (-1000001)), (0, Cond.methodLink RX5 80 yX5_finds), (1, Cond.instanceMethod yX5_finds), (0, Cond.code yX5_finds cX5_finds 2 (some .int)), (0, Cond.methodLink RX5 65 yX5_isThing), (1, Cond.instanceMethod yX5_isThing), (0, Cond.code yX5_isThing cX5_isThing 2 (some .boolean)), (0, Cond.methodLink RX5 62 yX5_its), (1, Cond.instanceMethod yX5_its), (0, Cond.code yX5_its cX5_its 3 (some .int)), (0, Cond.constant RX5 84 (-1000005)), (0, Cond.methodLink RX5 85 yX5_builds)] tables_1 (fun _ h => h) (by decide +kernel)
  exact h
theorem tw_348 : Cond.methodLink RX5 71 yX5_isLot ∈ bigT := tg_12.1
theorem tw_349 : Cond.static yX5_isLot ∈ bigT := tg_12.2.1
theorem tw_347 : Cond.code yX5_isLot cX5_isLot 1 (some .boolean) ∈ bigT := tg_12.2.2.1
theorem tw_321 : Cond.constantLong RX5 51 (24) ∈ bigT := tg_12.2.2.2.1
theorem tw_351 : Cond.methodLink RX5 74 yX5_isOwner ∈ bigT := tg_12.2.2.2.2.1
theorem tw_352 : Cond.static yX5_isOwner ∈ bigT := tg_12.2.2.2.2.2.1
theorem tw_350 : Cond.code yX5_isOwner cX5_isOwner 1 (some .boolean) ∈ bigT := tg_12.2.2.2.2.2.2.1
theorem tw_326 : Cond.constantLong RX5 57 (3) ∈ bigT := tg_12.2.2.2.2.2.2.2.1
theorem tw_354 : Cond.methodLink RX5 77 yX5_isHeight ∈ bigT := tg_12.2.2.2.2.2.2.2.2.1
theorem tw_355 : Cond.static yX5_isHeight ∈ bigT := tg_12.2.2.2.2.2.2.2.2.2.1
theorem tw_353 : Cond.code yX5_isHeight cX5_isHeight 1 (some .boolean) ∈ bigT := tg_12.2.2.2.2.2.2.2.2.2.2.1
theorem tw_327 : Cond.constantLong RX5 59 (9) ∈ bigT := tg_12.2.2.2.2.2.2.2.2.2.2.2.1
theorem tw_320 : Cond.constant RX5 50 (-1000001) ∈ bigT := tg_12.2.2.2.2.2.2.2.2.2.2.2.2.1
theorem tw_344 : Cond.methodLink RX5 80 yX5_finds ∈ bigT := tg_12.2.2.2.2.2.2.2.2.2.2.2.2.2.1
theorem tw_345 : Cond.instanceMethod yX5_finds ∈ bigT := tg_12.2.2.2.2.2.2.2.2.2.2.2.2.2.2.1
theorem tw_343 : Cond.code yX5_finds cX5_finds 2 (some .int) ∈ bigT := tg_12.2.2.2.2.2.2.2.2.2.2.2.2.2.2.2.1
theorem tw_339 : Cond.methodLink RX5 65 yX5_isThing ∈ bigT := tg_12.2.2.2.2.2.2.2.2.2.2.2.2.2.2.2.2.1
theorem tw_340 : Cond.instanceMethod yX5_isThing ∈ bigT := tg_12.2.2.2.2.2.2.2.2.2.2.2.2.2.2.2.2.2.1
theorem tw_338 : Cond.code yX5_isThing cX5_isThing 2 (some .boolean) ∈ bigT := tg_12.2.2.2.2.2.2.2.2.2.2.2.2.2.2.2.2.2.2.1
theorem tw_335 : Cond.methodLink RX5 62 yX5_its ∈ bigT := tg_12.2.2.2.2.2.2.2.2.2.2.2.2.2.2.2.2.2.2.2.1
theorem tw_336 : Cond.instanceMethod yX5_its ∈ bigT := tg_12.2.2.2.2.2.2.2.2.2.2.2.2.2.2.2.2.2.2.2.2.1
theorem tw_334 : Cond.code yX5_its cX5_its 3 (some .int) ∈ bigT := tg_12.2.2.2.2.2.2.2.2.2.2.2.2.2.2.2.2.2.2.2.2.2.1
theorem tw_364 : Cond.constant RX5 84 (-1000005) ∈ bigT := tg_12.2.2.2.2.2.2.2.2.2.2.2.2.2.2.2.2.2.2.2.2.2.2.1
theorem tw_357 : Cond.methodLink RX5 85 yX5_builds ∈ bigT := tg_12.2.2.2.2.2.2.2.2.2.2.2.2.2.2.2.2.2.2.2.2.2.2.2.1
theorem tg_13 : Cond.instanceMethod yX5_builds ∈ bigT ∧ Cond.code yX5_builds cX5_builds 6 (none) ∈ bigT ∧ Cond.methodLink RX5 89 yX5_things ∈ bigT ∧ Cond.instanceMethod yX5_things ∈ bigT ∧ Cond.code yX5_things cX5_things 3 (some .int) ∈ bigT ∧ Cond.methodLink RX5 94 yX5_lotWrong ∈ bigT ∧ Cond.instanceMethod yX5_lotWrong ∈ bigT ∧ Cond.code yX5_lotWrong cX5_lotWrong 2 (some .int) ∈ bigT ∧ Cond.constant RX5 93 (-1000004) ∈ bigT ∧ Cond.methodLink RX5 103 yX5_stands ∈ bigT ∧ Cond.instanceMethod yX5_stands ∈ bigT ∧ Cond.code yX5_stands cX5_stands 4 (some .int) ∈ bigT ∧ Cond.methodLink RX5 99 yX5_isSummer ∈ bigT ∧ Cond.instanceMethod yX5_isSummer ∈ bigT ∧ Cond.code yX5_isSummer cX5_isSummer 1 (some .boolean) ∈ bigT ∧ Cond.constantLong RX5 97 (8) ∈ bigT ∧ Cond.methodLink RX5 106 yX5_priceOf ∈ bigT ∧ Cond.instanceMethod yX5_priceOf ∈ bigT ∧ Cond.code yX5_priceOf cX5_priceOf 3 (some .int) ∈ bigT ∧ Cond.methodLink RX5 109 yX5_grows ∈ bigT ∧ Cond.instanceMethod yX5_grows ∈ bigT ∧ Cond.code yX5_grows cX5_grows 4 (some .int) ∈ bigT ∧ Cond.constantLong RX5 112 (99) ∈ bigT ∧ Cond.constant RX5 117 (-1000002) ∈ bigT ∧ True := by
  have h := tb_all [(834, Cond.instanceMethod yX5_builds), (0, Cond.code yX5_builds cX5_builds 6 (none)), (0, Cond.methodLink RX5 89 yX5_things), (1, Cond.instanceMethod yX5_things), (0, Cond.code yX5_things cX5_things 3 (some .int)), (4, Cond.methodLink RX5 94 yX5_lotWrong), (1, Cond.instanceMethod yX5_lotWrong), (0, Cond.code yX5_lotWrong cX5_lotWrong 2 (some .int)), (0, Cond.constant RX5 93 (-1000004)), (4, Cond.methodLink RX5 103 yX5_stands), (1, Cond.instanceMethod yX5_stands), (0, Cond.code yX5_stands cX5_stands 4 (some .int)), (0, Cond.methodLink RX5 99 yX5_isSummer), (1, Cond.instanceMethod yX5_isSummer), (0, Cond.code yX5_isSummer cX5_isSummer 1 (some .boolean)), (0, Cond.constantLong RX5 97 (8)), (0, Cond.methodLink RX5 106 yX5_priceOf), (1, Cond.instanceMethod yX5_priceOf), (0, Cond.code yX5_priceOf cX5_priceOf 3 (some .int)), (0, Cond.methodLink RX5 109 yX5_grows), (1, Cond.instanceMethod yX5_grows), (0, Cond.code yX5_grows cX5_grows 4 (some .int)), (8, Cond.constantLong RX5 112 (99)), (4, Cond.constant RX5 117 (-1000002))] tables_1 (fun _ h => h) (by decide +kernel)
  exact h
theorem tw_358 : Cond.instanceMethod yX5_builds ∈ bigT := tg_13.1
theorem tw_356 : Cond.code yX5_builds cX5_builds 6 (none) ∈ bigT := tg_13.2.1
theorem tw_361 : Cond.methodLink RX5 89 yX5_things ∈ bigT := tg_13.2.2.1
theorem tw_362 : Cond.instanceMethod yX5_things ∈ bigT := tg_13.2.2.2.1
theorem tw_360 : Cond.code yX5_things cX5_things 3 (some .int) ∈ bigT := tg_13.2.2.2.2.1
theorem tw_367 : Cond.methodLink RX5 94 yX5_lotWrong ∈ bigT := tg_13.2.2.2.2.2.1
theorem tw_368 : Cond.instanceMethod yX5_lotWrong ∈ bigT := tg_13.2.2.2.2.2.2.1
theorem tw_366 : Cond.code yX5_lotWrong cX5_lotWrong 2 (some .int) ∈ bigT := tg_13.2.2.2.2.2.2.2.1
theorem tw_365 : Cond.constant RX5 93 (-1000004) ∈ bigT := tg_13.2.2.2.2.2.2.2.2.1
theorem tw_384 : Cond.methodLink RX5 103 yX5_stands ∈ bigT := tg_13.2.2.2.2.2.2.2.2.2.1
theorem tw_385 : Cond.instanceMethod yX5_stands ∈ bigT := tg_13.2.2.2.2.2.2.2.2.2.2.1
theorem tw_383 : Cond.code yX5_stands cX5_stands 4 (some .int) ∈ bigT := tg_13.2.2.2.2.2.2.2.2.2.2.2.1
theorem tw_372 : Cond.methodLink RX5 99 yX5_isSummer ∈ bigT := tg_13.2.2.2.2.2.2.2.2.2.2.2.2.1
theorem tw_373 : Cond.instanceMethod yX5_isSummer ∈ bigT := tg_13.2.2.2.2.2.2.2.2.2.2.2.2.2.1
theorem tw_371 : Cond.code yX5_isSummer cX5_isSummer 1 (some .boolean) ∈ bigT := tg_13.2.2.2.2.2.2.2.2.2.2.2.2.2.2.1
theorem tw_370 : Cond.constantLong RX5 97 (8) ∈ bigT := tg_13.2.2.2.2.2.2.2.2.2.2.2.2.2.2.2.1
theorem tw_380 : Cond.methodLink RX5 106 yX5_priceOf ∈ bigT := tg_13.2.2.2.2.2.2.2.2.2.2.2.2.2.2.2.2.1
theorem tw_381 : Cond.instanceMethod yX5_priceOf ∈ bigT := tg_13.2.2.2.2.2.2.2.2.2.2.2.2.2.2.2.2.2.1
theorem tw_379 : Cond.code yX5_priceOf cX5_priceOf 3 (some .int) ∈ bigT := tg_13.2.2.2.2.2.2.2.2.2.2.2.2.2.2.2.2.2.2.1
theorem tw_376 : Cond.methodLink RX5 109 yX5_grows ∈ bigT := tg_13.2.2.2.2.2.2.2.2.2.2.2.2.2.2.2.2.2.2.2.1
theorem tw_377 : Cond.instanceMethod yX5_grows ∈ bigT := tg_13.2.2.2.2.2.2.2.2.2.2.2.2.2.2.2.2.2.2.2.2.1
theorem tw_375 : Cond.code yX5_grows cX5_grows 4 (some .int) ∈ bigT := tg_13.2.2.2.2.2.2.2.2.2.2.2.2.2.2.2.2.2.2.2.2.2.1
theorem tw_387 : Cond.constantLong RX5 112 (99) ∈ bigT := tg_13.2.2.2.2.2.2.2.2.2.2.2.2.2.2.2.2.2.2.2.2.2.2.1
theorem tw_395 : Cond.constant RX5 117 (-1000002) ∈ bigT := tg_13.2.2.2.2.2.2.2.2.2.2.2.2.2.2.2.2.2.2.2.2.2.2.2.1
theorem tg_14 : Cond.methodLink RX5 118 yX5_newWindow ∈ bigT ∧ Cond.instanceMethod yX5_newWindow ∈ bigT ∧ Cond.code yX5_newWindow cX5_newWindow 6 (some .int) ∈ bigT ∧ Cond.methodLink RX5 114 yX5_where ∈ bigT ∧ Cond.static yX5_where ∈ bigT ∧ Cond.code yX5_where cX5_where 2 (some .int) ∈ bigT ∧ Cond.methodLink RX5 122 yX5_isWindow ∈ bigT ∧ Cond.instanceMethod yX5_isWindow ∈ bigT ∧ Cond.code yX5_isWindow cX5_isWindow 2 (some .boolean) ∈ bigT ∧ Cond.constantLong RX5 125 (5) ∈ bigT ∧ Cond.methodLink RX5 127 yX5_told ∈ bigT ∧ Cond.instanceMethod yX5_told ∈ bigT ∧ Cond.code yX5_told cX5_told 3 (some .int) ∈ bigT ∧ Cond.constantLong RX5 130 (-1) ∈ bigT ∧ Cond.constantLong RX5 132 (36) ∈ bigT ∧ Cond.methodLink RX5 134 yX5_isBroken ∈ bigT ∧ Cond.instanceMethod yX5_isBroken ∈ bigT ∧ Cond.code yX5_isBroken cX5_isBroken 3 (some .boolean) ∈ bigT ∧ Cond.methodLink RX5 159 yX5_looks ∈ bigT ∧ Cond.instanceMethod yX5_looks ∈ bigT ∧ Cond.code yX5_looks cX5_looks 8 (none) ∈ bigT ∧ Cond.methodLink RX5 143 yX5_seen ∈ bigT ∧ Cond.instanceMethod yX5_seen ∈ bigT ∧ Cond.code yX5_seen cX5_seen 11 (some .int) ∈ bigT ∧ True := by
  have h := tb_all [(884, Cond.methodLink RX5 118 yX5_newWindow), (1, Cond.instanceMethod yX5_newWindow), (0, Cond.code yX5_newWindow cX5_newWindow 6 (some .int)), (0, Cond.methodLink RX5 114 yX5_where), (0, Cond.static yX5_where), (0, Cond.code yX5_where cX5_where 2 (some .int)), (4, Cond.methodLink RX5 122 yX5_isWindow), (1, Cond.instanceMethod yX5_isWindow), (0, Cond.code yX5_isWindow cX5_isWindow 2 (some .boolean)), (0, Cond.constantLong RX5 125 (5)), (0, Cond.methodLink RX5 127 yX5_told), (1, Cond.instanceMethod yX5_told), (0, Cond.code yX5_told cX5_told 3 (some .int)), (8, Cond.constantLong RX5 130 (-1)), (0, Cond.constantLong RX5 132 (36)), (0, Cond.methodLink RX5 134 yX5_isBroken), (1, Cond.instanceMethod yX5_isBroken), (0, Cond.code yX5_isBroken cX5_isBroken 3 (some .boolean)), (0, Cond.methodLink RX5 159 yX5_looks), (1, Cond.instanceMethod yX5_looks), (0, Cond.code yX5_looks cX5_looks 8 (none)), (0, Cond.methodLink RX5 143 yX5_seen), (1, Cond.instanceMethod yX5_seen), (0, Cond.code yX5_seen cX5_seen 11 (some .int))] tables_1 (fun _ h => h) (by decide +kernel)
  exact h
theorem tw_392 : Cond.methodLink RX5 118 yX5_newWindow ∈ bigT := tg_14.1
theorem tw_393 : Cond.instanceMethod yX5_newWindow ∈ bigT := tg_14.2.1
theorem tw_391 : Cond.code yX5_newWindow cX5_newWindow 6 (some .int) ∈ bigT := tg_14.2.2.1
theorem tw_389 : Cond.methodLink RX5 114 yX5_where ∈ bigT := tg_14.2.2.2.1
theorem tw_390 : Cond.static yX5_where ∈ bigT := tg_14.2.2.2.2.1
theorem tw_388 : Cond.code yX5_where cX5_where 2 (some .int) ∈ bigT := tg_14.2.2.2.2.2.1
theorem tw_397 : Cond.methodLink RX5 122 yX5_isWindow ∈ bigT := tg_14.2.2.2.2.2.2.1
theorem tw_398 : Cond.instanceMethod yX5_isWindow ∈ bigT := tg_14.2.2.2.2.2.2.2.1
theorem tw_396 : Cond.code yX5_isWindow cX5_isWindow 2 (some .boolean) ∈ bigT := tg_14.2.2.2.2.2.2.2.2.1
theorem tw_400 : Cond.constantLong RX5 125 (5) ∈ bigT := tg_14.2.2.2.2.2.2.2.2.2.1
theorem tw_402 : Cond.methodLink RX5 127 yX5_told ∈ bigT := tg_14.2.2.2.2.2.2.2.2.2.2.1
theorem tw_403 : Cond.instanceMethod yX5_told ∈ bigT := tg_14.2.2.2.2.2.2.2.2.2.2.2.1
theorem tw_401 : Cond.code yX5_told cX5_told 3 (some .int) ∈ bigT := tg_14.2.2.2.2.2.2.2.2.2.2.2.2.1
theorem tw_425 : Cond.constantLong RX5 130 (-1) ∈ bigT := tg_14.2.2.2.2.2.2.2.2.2.2.2.2.2.1
theorem tw_426 : Cond.constantLong RX5 132 (36) ∈ bigT := tg_14.2.2.2.2.2.2.2.2.2.2.2.2.2.2.1
theorem tw_428 : Cond.methodLink RX5 134 yX5_isBroken ∈ bigT := tg_14.2.2.2.2.2.2.2.2.2.2.2.2.2.2.2.1
theorem tw_429 : Cond.instanceMethod yX5_isBroken ∈ bigT := tg_14.2.2.2.2.2.2.2.2.2.2.2.2.2.2.2.2.1
theorem tw_427 : Cond.code yX5_isBroken cX5_isBroken 3 (some .boolean) ∈ bigT := tg_14.2.2.2.2.2.2.2.2.2.2.2.2.2.2.2.2.2.1
theorem tw_422 : Cond.methodLink RX5 159 yX5_looks ∈ bigT := tg_14.2.2.2.2.2.2.2.2.2.2.2.2.2.2.2.2.2.2.1
theorem tw_423 : Cond.instanceMethod yX5_looks ∈ bigT := tg_14.2.2.2.2.2.2.2.2.2.2.2.2.2.2.2.2.2.2.2.1
theorem tw_421 : Cond.code yX5_looks cX5_looks 8 (none) ∈ bigT := tg_14.2.2.2.2.2.2.2.2.2.2.2.2.2.2.2.2.2.2.2.2.1
theorem tw_414 : Cond.methodLink RX5 143 yX5_seen ∈ bigT := tg_14.2.2.2.2.2.2.2.2.2.2.2.2.2.2.2.2.2.2.2.2.2.1
theorem tw_415 : Cond.instanceMethod yX5_seen ∈ bigT := tg_14.2.2.2.2.2.2.2.2.2.2.2.2.2.2.2.2.2.2.2.2.2.2.1
theorem tw_413 : Cond.code yX5_seen cX5_seen 11 (some .int) ∈ bigT := tg_14.2.2.2.2.2.2.2.2.2.2.2.2.2.2.2.2.2.2.2.2.2.2.2.1
theorem tg_15 : Cond.methodLink RX5 139 yX5_lotAt ∈ bigT ∧ Cond.static yX5_lotAt ∈ bigT ∧ Cond.code yX5_lotAt cX5_lotAt 5 (some .int) ∈ bigT ∧ Cond.constantLong RX5 137 (4) ∈ bigT ∧ Cond.methodLink RX5 156 yX5_ones ∈ bigT ∧ Cond.static yX5_ones ∈ bigT ∧ Cond.code yX5_ones cX5_ones 3 (some .int) ∈ bigT ∧ Cond.methodLink RX5 166 yX5_gainOf ∈ bigT ∧ Cond.instanceMethod yX5_gainOf ∈ bigT ∧ Cond.code yX5_gainOf cX5_gainOf 3 (some .int) ∈ bigT ∧ Cond.methodLink RX5 163 yX5_findGains ∈ bigT ∧ Cond.instanceMethod yX5_findGains ∈ bigT ∧ Cond.code yX5_findGains cX5_findGains 3 (some .int) ∈ bigT ∧ Cond.methodLink RX5 169 yX5_brokenSet ∈ bigT ∧ Cond.instanceMethod yX5_brokenSet ∈ bigT ∧ Cond.code yX5_brokenSet cX5_brokenSet 3 (some .int) ∈ bigT ∧ Cond.constantLong RX5 175 (60) ∈ bigT ∧ Cond.methodLink RX5 177 yX5_isTooLate ∈ bigT ∧ Cond.instanceMethod yX5_isTooLate ∈ bigT ∧ Cond.code yX5_isTooLate cX5_isTooLate 2 (some .boolean) ∈ bigT ∧ Cond.methodLink RX5 180 yX5_monthsGo ∈ bigT ∧ Cond.instanceMethod yX5_monthsGo ∈ bigT ∧ Cond.code yX5_monthsGo cX5_monthsGo 4 (some .int) ∈ bigT ∧ Cond.methodLink RX5 172 yX5_month ∈ bigT ∧ True := by
  have h := tb_all [(926, Cond.methodLink RX5 139 yX5_lotAt), (0, Cond.static yX5_lotAt), (0, Cond.code yX5_lotAt cX5_lotAt 5 (some .int)), (0, Cond.constantLong RX5 137 (4)), (0, Cond.methodLink RX5 156 yX5_ones), (0, Cond.static yX5_ones), (0, Cond.code yX5_ones cX5_ones 3 (some .int)), (32, Cond.methodLink RX5 166 yX5_gainOf), (1, Cond.instanceMethod yX5_gainOf), (0, Cond.code yX5_gainOf cX5_gainOf 3 (some .int)), (0, Cond.methodLink RX5 163 yX5_findGains), (1, Cond.instanceMethod yX5_findGains), (0, Cond.code yX5_findGains cX5_findGains 3 (some .int)), (4, Cond.methodLink RX5 169 yX5_brokenSet), (1, Cond.instanceMethod yX5_brokenSet), (0, Cond.code yX5_brokenSet cX5_brokenSet 3 (some .int)), (4, Cond.constantLong RX5 175 (60)), (0, Cond.methodLink RX5 177 yX5_isTooLate), (1, Cond.instanceMethod yX5_isTooLate), (0, Cond.code yX5_isTooLate cX5_isTooLate 2 (some .boolean)), (0, Cond.methodLink RX5 180 yX5_monthsGo), (1, Cond.instanceMethod yX5_monthsGo), (0, Cond.code yX5_monthsGo cX5_monthsGo 4 (some .int)), (0, Cond.methodLink RX5 172 yX5_month)] tables_1 (fun _ h => h) (by decide +kernel)
  exact h
theorem tw_407 : Cond.methodLink RX5 139 yX5_lotAt ∈ bigT := tg_15.1
theorem tw_408 : Cond.static yX5_lotAt ∈ bigT := tg_15.2.1
theorem tw_406 : Cond.code yX5_lotAt cX5_lotAt 5 (some .int) ∈ bigT := tg_15.2.2.1
theorem tw_405 : Cond.constantLong RX5 137 (4) ∈ bigT := tg_15.2.2.2.1
theorem tw_418 : Cond.methodLink RX5 156 yX5_ones ∈ bigT := tg_15.2.2.2.2.1
theorem tw_419 : Cond.static yX5_ones ∈ bigT := tg_15.2.2.2.2.2.1
theorem tw_417 : Cond.code yX5_ones cX5_ones 3 (some .int) ∈ bigT := tg_15.2.2.2.2.2.2.1
theorem tw_436 : Cond.methodLink RX5 166 yX5_gainOf ∈ bigT := tg_15.2.2.2.2.2.2.2.1
theorem tw_437 : Cond.instanceMethod yX5_gainOf ∈ bigT := tg_15.2.2.2.2.2.2.2.2.1
theorem tw_435 : Cond.code yX5_gainOf cX5_gainOf 3 (some .int) ∈ bigT := tg_15.2.2.2.2.2.2.2.2.2.1
theorem tw_432 : Cond.methodLink RX5 163 yX5_findGains ∈ bigT := tg_15.2.2.2.2.2.2.2.2.2.2.1
theorem tw_433 : Cond.instanceMethod yX5_findGains ∈ bigT := tg_15.2.2.2.2.2.2.2.2.2.2.2.1
theorem tw_431 : Cond.code yX5_findGains cX5_findGains 3 (some .int) ∈ bigT := tg_15.2.2.2.2.2.2.2.2.2.2.2.2.1
theorem tw_440 : Cond.methodLink RX5 169 yX5_brokenSet ∈ bigT := tg_15.2.2.2.2.2.2.2.2.2.2.2.2.2.1
theorem tw_441 : Cond.instanceMethod yX5_brokenSet ∈ bigT := tg_15.2.2.2.2.2.2.2.2.2.2.2.2.2.2.1
theorem tw_439 : Cond.code yX5_brokenSet cX5_brokenSet 3 (some .int) ∈ bigT := tg_15.2.2.2.2.2.2.2.2.2.2.2.2.2.2.2.1
theorem tw_447 : Cond.constantLong RX5 175 (60) ∈ bigT := tg_15.2.2.2.2.2.2.2.2.2.2.2.2.2.2.2.2.1
theorem tw_449 : Cond.methodLink RX5 177 yX5_isTooLate ∈ bigT := tg_15.2.2.2.2.2.2.2.2.2.2.2.2.2.2.2.2.2.1
theorem tw_450 : Cond.instanceMethod yX5_isTooLate ∈ bigT := tg_15.2.2.2.2.2.2.2.2.2.2.2.2.2.2.2.2.2.2.1
theorem tw_448 : Cond.code yX5_isTooLate cX5_isTooLate 2 (some .boolean) ∈ bigT := tg_15.2.2.2.2.2.2.2.2.2.2.2.2.2.2.2.2.2.2.2.1
theorem tw_453 : Cond.methodLink RX5 180 yX5_monthsGo ∈ bigT := tg_15.2.2.2.2.2.2.2.2.2.2.2.2.2.2.2.2.2.2.2.2.1
theorem tw_454 : Cond.instanceMethod yX5_monthsGo ∈ bigT := tg_15.2.2.2.2.2.2.2.2.2.2.2.2.2.2.2.2.2.2.2.2.2.1
theorem tw_452 : Cond.code yX5_monthsGo cX5_monthsGo 4 (some .int) ∈ bigT := tg_15.2.2.2.2.2.2.2.2.2.2.2.2.2.2.2.2.2.2.2.2.2.2.1
theorem tw_444 : Cond.methodLink RX5 172 yX5_month ∈ bigT := tg_15.2.2.2.2.2.2.2.2.2.2.2.2.2.2.2.2.2.2.2.2.2.2.2.1
theorem tg_16 : Cond.instanceMethod yX5_month ∈ bigT ∧ Cond.code yX5_month cX5_month 4 (some .int) ∈ bigT ∧ Cond.constantLong RX5 183 (120) ∈ bigT ∧ Cond.methodLink RX5 185 yX5_puts ∈ bigT ∧ Cond.instanceMethod yX5_puts ∈ bigT ∧ Cond.code yX5_puts cX5_puts 2 (none) ∈ bigT ∧ Cond.methodLink RX5 188 yX5_allViews ∈ bigT ∧ Cond.instanceMethod yX5_allViews ∈ bigT ∧ Cond.code yX5_allViews cX5_allViews 3 (some .int) ∈ bigT ∧ Cond.methodLink RX5 191 yX5_putsBack ∈ bigT ∧ Cond.instanceMethod yX5_putsBack ∈ bigT ∧ Cond.code yX5_putsBack cX5_putsBack 2 (none) ∈ bigT ∧ Cond.methodLink RX5 194 yX5_isLate ∈ bigT ∧ Cond.instanceMethod yX5_isLate ∈ bigT ∧ Cond.code yX5_isLate cX5_isLate 2 (some .boolean) ∈ bigT ∧ Cond.methodLink RX5 197 yX5_breaks ∈ bigT ∧ Cond.instanceMethod yX5_breaks ∈ bigT ∧ Cond.code yX5_breaks cX5_breaks 4 (some .int) ∈ bigT ∧ Cond.methodLink RX5 200 yX5_bestPart ∈ bigT ∧ Cond.instanceMethod yX5_bestPart ∈ bigT ∧ Cond.code yX5_bestPart cX5_bestPart 9 (some .int) ∈ bigT ∧ Cond.methodLink RX5 203 yX5_viewOf ∈ bigT ∧ Cond.instanceMethod yX5_viewOf ∈ bigT ∧ Cond.code yX5_viewOf cX5_viewOf 2 (some .int) ∈ bigT ∧ True := by
  have h := tb_all [(996, Cond.instanceMethod yX5_month), (0, Cond.code yX5_month cX5_month 4 (some .int)), (4, Cond.constantLong RX5 183 (120)), (0, Cond.methodLink RX5 185 yX5_puts), (1, Cond.instanceMethod yX5_puts), (0, Cond.code yX5_puts cX5_puts 2 (none)), (0, Cond.methodLink RX5 188 yX5_allViews), (1, Cond.instanceMethod yX5_allViews), (0, Cond.code yX5_allViews cX5_allViews 3 (some .int)), (0, Cond.methodLink RX5 191 yX5_putsBack), (1, Cond.instanceMethod yX5_putsBack), (0, Cond.code yX5_putsBack cX5_putsBack 2 (none)), (4, Cond.methodLink RX5 194 yX5_isLate), (1, Cond.instanceMethod yX5_isLate), (0, Cond.code yX5_isLate cX5_isLate 2 (some .boolean)), (0, Cond.methodLink RX5 197 yX5_breaks), (1, Cond.instanceMethod yX5_breaks), (0, Cond.code yX5_breaks cX5_breaks 4 (some .int)), (8, Cond.methodLink RX5 200 yX5_bestPart), (1, Cond.instanceMethod yX5_bestPart), (0, Cond.code yX5_bestPart cX5_bestPart 9 (some .int)), (16, Cond.methodLink RX5 203 yX5_viewOf), (1, Cond.instanceMethod yX5_viewOf), (0, Cond.code yX5_viewOf cX5_viewOf 2 (some .int))] tables_1 (fun _ h => h) (by decide +kernel)
  exact h
theorem tw_445 : Cond.instanceMethod yX5_month ∈ bigT := tg_16.1
theorem tw_443 : Cond.code yX5_month cX5_month 4 (some .int) ∈ bigT := tg_16.2.1
theorem tw_456 : Cond.constantLong RX5 183 (120) ∈ bigT := tg_16.2.2.1
theorem tw_458 : Cond.methodLink RX5 185 yX5_puts ∈ bigT := tg_16.2.2.2.1
theorem tw_459 : Cond.instanceMethod yX5_puts ∈ bigT := tg_16.2.2.2.2.1
theorem tw_457 : Cond.code yX5_puts cX5_puts 2 (none) ∈ bigT := tg_16.2.2.2.2.2.1
theorem tw_466 : Cond.methodLink RX5 188 yX5_allViews ∈ bigT := tg_16.2.2.2.2.2.2.1
theorem tw_467 : Cond.instanceMethod yX5_allViews ∈ bigT := tg_16.2.2.2.2.2.2.2.1
theorem tw_465 : Cond.code yX5_allViews cX5_allViews 3 (some .int) ∈ bigT := tg_16.2.2.2.2.2.2.2.2.1
theorem tw_462 : Cond.methodLink RX5 191 yX5_putsBack ∈ bigT := tg_16.2.2.2.2.2.2.2.2.2.1
theorem tw_463 : Cond.instanceMethod yX5_putsBack ∈ bigT := tg_16.2.2.2.2.2.2.2.2.2.2.1
theorem tw_461 : Cond.code yX5_putsBack cX5_putsBack 2 (none) ∈ bigT := tg_16.2.2.2.2.2.2.2.2.2.2.2.1
theorem tw_470 : Cond.methodLink RX5 194 yX5_isLate ∈ bigT := tg_16.2.2.2.2.2.2.2.2.2.2.2.2.1
theorem tw_471 : Cond.instanceMethod yX5_isLate ∈ bigT := tg_16.2.2.2.2.2.2.2.2.2.2.2.2.2.1
theorem tw_469 : Cond.code yX5_isLate cX5_isLate 2 (some .boolean) ∈ bigT := tg_16.2.2.2.2.2.2.2.2.2.2.2.2.2.2.1
theorem tw_474 : Cond.methodLink RX5 197 yX5_breaks ∈ bigT := tg_16.2.2.2.2.2.2.2.2.2.2.2.2.2.2.2.1
theorem tw_475 : Cond.instanceMethod yX5_breaks ∈ bigT := tg_16.2.2.2.2.2.2.2.2.2.2.2.2.2.2.2.2.1
theorem tw_473 : Cond.code yX5_breaks cX5_breaks 4 (some .int) ∈ bigT := tg_16.2.2.2.2.2.2.2.2.2.2.2.2.2.2.2.2.2.1
theorem tw_478 : Cond.methodLink RX5 200 yX5_bestPart ∈ bigT := tg_16.2.2.2.2.2.2.2.2.2.2.2.2.2.2.2.2.2.2.1
theorem tw_479 : Cond.instanceMethod yX5_bestPart ∈ bigT := tg_16.2.2.2.2.2.2.2.2.2.2.2.2.2.2.2.2.2.2.2.1
theorem tw_477 : Cond.code yX5_bestPart cX5_bestPart 9 (some .int) ∈ bigT := tg_16.2.2.2.2.2.2.2.2.2.2.2.2.2.2.2.2.2.2.2.2.1
theorem tw_482 : Cond.methodLink RX5 203 yX5_viewOf ∈ bigT := tg_16.2.2.2.2.2.2.2.2.2.2.2.2.2.2.2.2.2.2.2.2.2.1
theorem tw_483 : Cond.instanceMethod yX5_viewOf ∈ bigT := tg_16.2.2.2.2.2.2.2.2.2.2.2.2.2.2.2.2.2.2.2.2.2.2.1
theorem tw_481 : Cond.code yX5_viewOf cX5_viewOf 2 (some .int) ∈ bigT := tg_16.2.2.2.2.2.2.2.2.2.2.2.2.2.2.2.2.2.2.2.2.2.2.2.1
theorem tg_17 : Cond.methodLink RX5 206 yX5_isLowered ∈ bigT ∧ Cond.instanceMethod yX5_isLowered ∈ bigT ∧ Cond.code yX5_isLowered cX5_isLowered 3 (some .boolean) ∈ bigT ∧ Cond.constantLong RX5 210 (12) ∈ bigT ∧ Cond.methodLink RX5 212 yX5_draw ∈ bigT ∧ Cond.instanceMethod yX5_draw ∈ bigT ∧ Cond.code yX5_draw cX5_draw 1 (some .int) ∈ bigT ∧ Cond.constant RX5 61 (1103515245) ∈ bigT ∧ Cond.methodLink RX5 245 yX5_token ∈ bigT ∧ Cond.instanceMethod yX5_token ∈ bigT ∧ Cond.code yX5_token cX5_token 3 (none) ∈ bigT ∧ Cond.methodLink RX5 232 yX5_byteAt ∈ bigT ∧ Cond.instanceMethod yX5_byteAt ∈ bigT ∧ Cond.code yX5_byteAt cX5_byteAt 2 (some .int) ∈ bigT ∧ Cond.methodLink RX5 235 yX5_isLetter ∈ bigT ∧ Cond.static yX5_isLetter ∈ bigT ∧ Cond.code yX5_isLetter cX5_isLetter 1 (some .boolean) ∈ bigT ∧ Cond.constantLong RX5 218 (97) ∈ bigT ∧ Cond.constantLong RX5 220 (122) ∈ bigT ∧ Cond.methodLink RX5 238 yX5_isDigit ∈ bigT ∧ Cond.static yX5_isDigit ∈ bigT ∧ Cond.code yX5_isDigit cX5_isDigit 1 (some .boolean) ∈ bigT ∧ Cond.constantLong RX5 222 (48) ∈ bigT ∧ Cond.constantLong RX5 224 (57) ∈ bigT ∧ True := by
  have h := tb_all [(1079, Cond.methodLink RX5 206 yX5_isLowered), (1, Cond.instanceMethod yX5_isLowered), (0, Cond.code yX5_isLowered cX5_isLowered 3 (some .boolean)), (8, Cond.constantLong RX5 210 (12)), (0, Cond.methodLink RX5 212 yX5_draw), (1, Cond.instanceMethod yX5_draw), (0, Cond.code yX5_draw cX5_draw 1 (some .int)), (0, Cond.constant RX5 61 (1103515245)), (16, Cond.methodLink RX5 245 yX5_token), (1, Cond.instanceMethod yX5_token), (0, Cond.code yX5_token cX5_token 3 (none)), (0, Cond.methodLink RX5 232 yX5_byteAt), (1, Cond.instanceMethod yX5_byteAt), (0, Cond.code yX5_byteAt cX5_byteAt 2 (some .int)), (0, Cond.methodLink RX5 235 yX5_isLetter), (0, Cond.static yX5_isLetter), (0, Cond.code yX5_isLetter cX5_isLetter 1 (some .boolean)), (0, Cond.constantLong RX5 218 (97)), (0, Cond.constantLong RX5 220 (122)), (0, Cond.methodLink RX5 238 yX5_isDigit), (0, Cond.static yX5_isDigit), (0, Cond.code yX5_isDigit cX5_isDigit 1 (some .boolean)), (0, Cond.constantLong RX5 222 (48)), (0, Cond.constantLong RX5 224 (57))] tables_1 (fun _ h => h) (by decide +kernel)
  exact h
theorem tw_486 : Cond.methodLink RX5 206 yX5_isLowered ∈ bigT := tg_17.1
theorem tw_487 : Cond.instanceMethod yX5_isLowered ∈ bigT := tg_17.2.1
theorem tw_485 : Cond.code yX5_isLowered cX5_isLowered 3 (some .boolean) ∈ bigT := tg_17.2.2.1
theorem tw_490 : Cond.constantLong RX5 210 (12) ∈ bigT := tg_17.2.2.2.1
theorem tw_492 : Cond.methodLink RX5 212 yX5_draw ∈ bigT := tg_17.2.2.2.2.1
theorem tw_493 : Cond.instanceMethod yX5_draw ∈ bigT := tg_17.2.2.2.2.2.1
theorem tw_491 : Cond.code yX5_draw cX5_draw 1 (some .int) ∈ bigT := tg_17.2.2.2.2.2.2.1
theorem tw_329 : Cond.constant RX5 61 (1103515245) ∈ bigT := tg_17.2.2.2.2.2.2.2.1
theorem tw_515 : Cond.methodLink RX5 245 yX5_token ∈ bigT := tg_17.2.2.2.2.2.2.2.2.1
theorem tw_516 : Cond.instanceMethod yX5_token ∈ bigT := tg_17.2.2.2.2.2.2.2.2.2.1
theorem tw_514 : Cond.code yX5_token cX5_token 3 (none) ∈ bigT := tg_17.2.2.2.2.2.2.2.2.2.2.1
theorem tw_504 : Cond.methodLink RX5 232 yX5_byteAt ∈ bigT := tg_17.2.2.2.2.2.2.2.2.2.2.2.1
theorem tw_505 : Cond.instanceMethod yX5_byteAt ∈ bigT := tg_17.2.2.2.2.2.2.2.2.2.2.2.2.1
theorem tw_503 : Cond.code yX5_byteAt cX5_byteAt 2 (some .int) ∈ bigT := tg_17.2.2.2.2.2.2.2.2.2.2.2.2.2.1
theorem tw_508 : Cond.methodLink RX5 235 yX5_isLetter ∈ bigT := tg_17.2.2.2.2.2.2.2.2.2.2.2.2.2.2.1
theorem tw_509 : Cond.static yX5_isLetter ∈ bigT := tg_17.2.2.2.2.2.2.2.2.2.2.2.2.2.2.2.1
theorem tw_507 : Cond.code yX5_isLetter cX5_isLetter 1 (some .boolean) ∈ bigT := tg_17.2.2.2.2.2.2.2.2.2.2.2.2.2.2.2.2.1
theorem tw_497 : Cond.constantLong RX5 218 (97) ∈ bigT := tg_17.2.2.2.2.2.2.2.2.2.2.2.2.2.2.2.2.2.1
theorem tw_498 : Cond.constantLong RX5 220 (122) ∈ bigT := tg_17.2.2.2.2.2.2.2.2.2.2.2.2.2.2.2.2.2.2.1
theorem tw_511 : Cond.methodLink RX5 238 yX5_isDigit ∈ bigT := tg_17.2.2.2.2.2.2.2.2.2.2.2.2.2.2.2.2.2.2.2.1
theorem tw_512 : Cond.static yX5_isDigit ∈ bigT := tg_17.2.2.2.2.2.2.2.2.2.2.2.2.2.2.2.2.2.2.2.2.1
theorem tw_510 : Cond.code yX5_isDigit cX5_isDigit 1 (some .boolean) ∈ bigT := tg_17.2.2.2.2.2.2.2.2.2.2.2.2.2.2.2.2.2.2.2.2.2.1
theorem tw_499 : Cond.constantLong RX5 222 (48) ∈ bigT := tg_17.2.2.2.2.2.2.2.2.2.2.2.2.2.2.2.2.2.2.2.2.2.2.1
theorem tw_500 : Cond.constantLong RX5 224 (57) ∈ bigT := tg_17.2.2.2.2.2.2.2.2.2.2.2.2.2.2.2.2.2.2.2.2.2.2.2.1
theorem tg_18 : Cond.methodLink RX5 319 yX5_item ∈ bigT ∧ Cond.instanceMethod yX5_item ∈ bigT ∧ Cond.code yX5_item cX5_item 2 (none) ∈ bigT ∧ Cond.methodLink RX5 301 yX5_kindHere ∈ bigT ∧ Cond.instanceMethod yX5_kindHere ∈ bigT ∧ Cond.code yX5_kindHere cX5_kindHere 3 (some .int) ∈ bigT ∧ Cond.methodLink RX5 259 yX5_word ∈ bigT ∧ Cond.instanceMethod yX5_word ∈ bigT ∧ Cond.code yX5_word cX5_word 4 (some .long) ∈ bigT ∧ Cond.constantLong RX5 248 (36028797018963967) ∈ bigT ∧ Cond.constantLong RX5 250 (32) ∈ bigT ∧ Cond.constantLong RX5 263 (2552) ∈ bigT ∧ Cond.constantLong RX5 265 (673957) ∈ bigT ∧ Cond.constantLong RX5 267 (630948) ∈ bigT ∧ Cond.constantLong RX5 269 (553136178) ∈ bigT ∧ Cond.constantLong RX5 271 (24749811143) ∈ bigT ∧ Cond.constantLong RX5 273 (8902245) ∈ bigT ∧ Cond.constantLong RX5 275 (21486770) ∈ bigT ∧ Cond.methodLink RX5 304 yX5_thingItem ∈ bigT ∧ Cond.instanceMethod yX5_thingItem ∈ bigT ∧ Cond.code yX5_thingItem cX5_thingItem 6 (none) ∈ bigT ∧ Cond.methodLink RX5 255 yX5_needs ∈ bigT ∧ Cond.instanceMethod yX5_needs ∈ bigT ∧ Cond.code yX5_needs cX5_needs 2 (none) ∈ bigT ∧ True := by
  have h := tb_all [(1131, Cond.methodLink RX5 319 yX5_item), (1, Cond.instanceMethod yX5_item), (0, Cond.code yX5_item cX5_item 2 (none)), (0, Cond.methodLink RX5 301 yX5_kindHere), (1, Cond.instanceMethod yX5_kindHere), (0, Cond.code yX5_kindHere cX5_kindHere 3 (some .int)), (0, Cond.methodLink RX5 259 yX5_word), (1, Cond.instanceMethod yX5_word), (0, Cond.code yX5_word cX5_word 4 (some .long)), (0, Cond.constantLong RX5 248 (36028797018963967)), (0, Cond.constantLong RX5 250 (32)), (0, Cond.constantLong RX5 263 (2552)), (0, Cond.constantLong RX5 265 (673957)), (0, Cond.constantLong RX5 267 (630948)), (0, Cond.constantLong RX5 269 (553136178)), (0, Cond.constantLong RX5 271 (24749811143)), (0, Cond.constantLong RX5 273 (8902245)), (0, Cond.constantLong RX5 275 (21486770)), (0, Cond.methodLink RX5 304 yX5_thingItem), (1, Cond.instanceMethod yX5_thingItem), (0, Cond.code yX5_thingItem cX5_thingItem 6 (none)), (0, Cond.methodLink RX5 255 yX5_needs), (1, Cond.instanceMethod yX5_needs), (0, Cond.code yX5_needs cX5_needs 2 (none))] tables_1 (fun _ h => h) (by decide +kernel)
  exact h
theorem tw_575 : Cond.methodLink RX5 319 yX5_item ∈ bigT := tg_18.1
theorem tw_576 : Cond.instanceMethod yX5_item ∈ bigT := tg_18.2.1
theorem tw_574 : Cond.code yX5_item cX5_item 2 (none) ∈ bigT := tg_18.2.2.1
theorem tw_556 : Cond.methodLink RX5 301 yX5_kindHere ∈ bigT := tg_18.2.2.2.1
theorem tw_557 : Cond.instanceMethod yX5_kindHere ∈ bigT := tg_18.2.2.2.2.1
theorem tw_555 : Cond.code yX5_kindHere cX5_kindHere 3 (some .int) ∈ bigT := tg_18.2.2.2.2.2.1
theorem tw_526 : Cond.methodLink RX5 259 yX5_word ∈ bigT := tg_18.2.2.2.2.2.2.1
theorem tw_527 : Cond.instanceMethod yX5_word ∈ bigT := tg_18.2.2.2.2.2.2.2.1
theorem tw_525 : Cond.code yX5_word cX5_word 4 (some .long) ∈ bigT := tg_18.2.2.2.2.2.2.2.2.1
theorem tw_518 : Cond.constantLong RX5 248 (36028797018963967) ∈ bigT := tg_18.2.2.2.2.2.2.2.2.2.1
theorem tw_519 : Cond.constantLong RX5 250 (32) ∈ bigT := tg_18.2.2.2.2.2.2.2.2.2.2.1
theorem tw_529 : Cond.constantLong RX5 263 (2552) ∈ bigT := tg_18.2.2.2.2.2.2.2.2.2.2.2.1
theorem tw_530 : Cond.constantLong RX5 265 (673957) ∈ bigT := tg_18.2.2.2.2.2.2.2.2.2.2.2.2.1
theorem tw_531 : Cond.constantLong RX5 267 (630948) ∈ bigT := tg_18.2.2.2.2.2.2.2.2.2.2.2.2.2.1
theorem tw_532 : Cond.constantLong RX5 269 (553136178) ∈ bigT := tg_18.2.2.2.2.2.2.2.2.2.2.2.2.2.2.1
theorem tw_533 : Cond.constantLong RX5 271 (24749811143) ∈ bigT := tg_18.2.2.2.2.2.2.2.2.2.2.2.2.2.2.2.1
theorem tw_534 : Cond.constantLong RX5 273 (8902245) ∈ bigT := tg_18.2.2.2.2.2.2.2.2.2.2.2.2.2.2.2.2.1
theorem tw_535 : Cond.constantLong RX5 275 (21486770) ∈ bigT := tg_18.2.2.2.2.2.2.2.2.2.2.2.2.2.2.2.2.2.1
theorem tw_571 : Cond.methodLink RX5 304 yX5_thingItem ∈ bigT := tg_18.2.2.2.2.2.2.2.2.2.2.2.2.2.2.2.2.2.2.1
theorem tw_572 : Cond.instanceMethod yX5_thingItem ∈ bigT := tg_18.2.2.2.2.2.2.2.2.2.2.2.2.2.2.2.2.2.2.2.1
theorem tw_570 : Cond.code yX5_thingItem cX5_thingItem 6 (none) ∈ bigT := tg_18.2.2.2.2.2.2.2.2.2.2.2.2.2.2.2.2.2.2.2.2.1
theorem tw_522 : Cond.methodLink RX5 255 yX5_needs ∈ bigT := tg_18.2.2.2.2.2.2.2.2.2.2.2.2.2.2.2.2.2.2.2.2.2.1
theorem tw_523 : Cond.instanceMethod yX5_needs ∈ bigT := tg_18.2.2.2.2.2.2.2.2.2.2.2.2.2.2.2.2.2.2.2.2.2.2.1
theorem tw_521 : Cond.code yX5_needs cX5_needs 2 (none) ∈ bigT := tg_18.2.2.2.2.2.2.2.2.2.2.2.2.2.2.2.2.2.2.2.2.2.2.2.1
theorem tg_19 : Cond.constantLong RX5 280 (52) ∈ bigT ∧ Cond.methodLink RX5 282 yX5_lotTold ∈ bigT ∧ Cond.instanceMethod yX5_lotTold ∈ bigT ∧ Cond.code yX5_lotTold cX5_lotTold 4 (none) ∈ bigT ∧ Cond.constantLong RX5 285 (486) ∈ bigT ∧ Cond.methodLink RX5 287 yX5_numberBehind ∈ bigT ∧ Cond.instanceMethod yX5_numberBehind ∈ bigT ∧ Cond.code yX5_numberBehind cX5_numberBehind 4 (some .int) ∈ bigT ∧ Cond.methodLink RX5 277 yX5_number ∈ bigT ∧ Cond.instanceMethod yX5_number ∈ bigT ∧ Cond.code yX5_number cX5_number 6 (none) ∈ bigT ∧ Cond.constantLong RX5 291 (271592) ∈ bigT ∧ Cond.constantLong RX5 293 (16819668) ∈ bigT ∧ Cond.constantLong RX5 307 (781652471) ∈ bigT ∧ Cond.methodLink RX5 309 yX5_windowItem ∈ bigT ∧ Cond.instanceMethod yX5_windowItem ∈ bigT ∧ Cond.code yX5_windowItem cX5_windowItem 6 (none) ∈ bigT ∧ Cond.constantLong RX5 295 (12769452) ∈ bigT ∧ Cond.constantLong RX5 297 (23609) ∈ bigT ∧ Cond.constantLong RX5 299 (6642) ∈ bigT ∧ Cond.constantLong RX5 312 (17376357) ∈ bigT ∧ Cond.methodLink RX5 314 yX5_priceItem ∈ bigT ∧ Cond.instanceMethod yX5_priceItem ∈ bigT ∧ Cond.code yX5_priceItem cX5_priceItem 2 (none) ∈ bigT ∧ True := by
  have h := tb_all [(1160, Cond.constantLong RX5 280 (52)), (0, Cond.methodLink RX5 282 yX5_lotTold), (1, Cond.instanceMethod yX5_lotTold), (0, Cond.code yX5_lotTold cX5_lotTold 4 (none)), (0, Cond.constantLong RX5 285 (486)), (0, Cond.methodLink RX5 287 yX5_numberBehind), (1, Cond.instanceMethod yX5_numberBehind), (0, Cond.code yX5_numberBehind cX5_numberBehind 4 (some .int)), (0, Cond.methodLink RX5 277 yX5_number), (1, Cond.instanceMethod yX5_number), (0, Cond.code yX5_number cX5_number 6 (none)), (0, Cond.constantLong RX5 291 (271592)), (0, Cond.constantLong RX5 293 (16819668)), (0, Cond.constantLong RX5 307 (781652471)), (0, Cond.methodLink RX5 309 yX5_windowItem), (1, Cond.instanceMethod yX5_windowItem), (0, Cond.code yX5_windowItem cX5_windowItem 6 (none)), (0, Cond.constantLong RX5 295 (12769452)), (0, Cond.constantLong RX5 297 (23609)), (0, Cond.constantLong RX5 299 (6642)), (0, Cond.constantLong RX5 312 (17376357)), (0, Cond.methodLink RX5 314 yX5_priceItem), (1, Cond.instanceMethod yX5_priceItem), (0, Cond.code yX5_priceItem cX5_priceItem 2 (none))] tables_1 (fun _ h => h) (by decide +kernel)
  exact h
theorem tw_540 : Cond.constantLong RX5 280 (52) ∈ bigT := tg_19.1
theorem tw_549 : Cond.methodLink RX5 282 yX5_lotTold ∈ bigT := tg_19.2.1
theorem tw_550 : Cond.instanceMethod yX5_lotTold ∈ bigT := tg_19.2.2.1
theorem tw_548 : Cond.code yX5_lotTold cX5_lotTold 4 (none) ∈ bigT := tg_19.2.2.2.1
theorem tw_541 : Cond.constantLong RX5 285 (486) ∈ bigT := tg_19.2.2.2.2.1
theorem tw_543 : Cond.methodLink RX5 287 yX5_numberBehind ∈ bigT := tg_19.2.2.2.2.2.1
theorem tw_544 : Cond.instanceMethod yX5_numberBehind ∈ bigT := tg_19.2.2.2.2.2.2.1
theorem tw_542 : Cond.code yX5_numberBehind cX5_numberBehind 4 (some .int) ∈ bigT := tg_19.2.2.2.2.2.2.2.1
theorem tw_537 : Cond.methodLink RX5 277 yX5_number ∈ bigT := tg_19.2.2.2.2.2.2.2.2.1
theorem tw_538 : Cond.instanceMethod yX5_number ∈ bigT := tg_19.2.2.2.2.2.2.2.2.2.1
theorem tw_536 : Cond.code yX5_number cX5_number 6 (none) ∈ bigT := tg_19.2.2.2.2.2.2.2.2.2.2.1
theorem tw_546 : Cond.constantLong RX5 291 (271592) ∈ bigT := tg_19.2.2.2.2.2.2.2.2.2.2.2.1
theorem tw_547 : Cond.constantLong RX5 293 (16819668) ∈ bigT := tg_19.2.2.2.2.2.2.2.2.2.2.2.2.1
theorem tw_559 : Cond.constantLong RX5 307 (781652471) ∈ bigT := tg_19.2.2.2.2.2.2.2.2.2.2.2.2.2.1
theorem tw_567 : Cond.methodLink RX5 309 yX5_windowItem ∈ bigT := tg_19.2.2.2.2.2.2.2.2.2.2.2.2.2.2.1
theorem tw_568 : Cond.instanceMethod yX5_windowItem ∈ bigT := tg_19.2.2.2.2.2.2.2.2.2.2.2.2.2.2.2.1
theorem tw_566 : Cond.code yX5_windowItem cX5_windowItem 6 (none) ∈ bigT := tg_19.2.2.2.2.2.2.2.2.2.2.2.2.2.2.2.2.1
theorem tw_552 : Cond.constantLong RX5 295 (12769452) ∈ bigT := tg_19.2.2.2.2.2.2.2.2.2.2.2.2.2.2.2.2.2.1
theorem tw_553 : Cond.constantLong RX5 297 (23609) ∈ bigT := tg_19.2.2.2.2.2.2.2.2.2.2.2.2.2.2.2.2.2.2.1
theorem tw_554 : Cond.constantLong RX5 299 (6642) ∈ bigT := tg_19.2.2.2.2.2.2.2.2.2.2.2.2.2.2.2.2.2.2.2.1
theorem tw_560 : Cond.constantLong RX5 312 (17376357) ∈ bigT := tg_19.2.2.2.2.2.2.2.2.2.2.2.2.2.2.2.2.2.2.2.2.1
theorem tw_563 : Cond.methodLink RX5 314 yX5_priceItem ∈ bigT := tg_19.2.2.2.2.2.2.2.2.2.2.2.2.2.2.2.2.2.2.2.2.2.1
theorem tw_564 : Cond.instanceMethod yX5_priceItem ∈ bigT := tg_19.2.2.2.2.2.2.2.2.2.2.2.2.2.2.2.2.2.2.2.2.2.2.1
theorem tw_562 : Cond.code yX5_priceItem cX5_priceItem 2 (none) ∈ bigT := tg_19.2.2.2.2.2.2.2.2.2.2.2.2.2.2.2.2.2.2.2.2.2.2.2.1
theorem tg_20 : Cond.constantLong RX5 317 (3544114) ∈ bigT ∧ Cond.constant RX5 322 (-1000006) ∈ bigT ∧ Cond.constant RX5 323 (-1000003) ∈ bigT ∧ Cond.methodLink RX5 324 yX5_isOne ∈ bigT ∧ Cond.static yX5_isOne ∈ bigT ∧ Cond.code yX5_isOne cX5_isOne 1 (some .boolean) ∈ bigT ∧ Cond.constant RX5 327 (-1000007) ∈ bigT ∧ Cond.methodLink RX5 328 yX5_wrong ∈ bigT ∧ Cond.instanceMethod yX5_wrong ∈ bigT ∧ Cond.code yX5_wrong cX5_wrong 2 (some .int) ∈ bigT ∧ Cond.methodLink RX5 331 yX5_narrowed ∈ bigT ∧ Cond.static yX5_narrowed ∈ bigT ∧ Cond.code yX5_narrowed cX5_narrowed 2 (some .int) ∈ bigT ∧ Cond.methodLink RX5 337 yX5_heights ∈ bigT ∧ Cond.instanceMethod yX5_heights ∈ bigT ∧ Cond.code yX5_heights cX5_heights 3 (some .int) ∈ bigT ∧ Cond.methodLink RX5 340 yX5_contracts ∈ bigT ∧ Cond.instanceMethod yX5_contracts ∈ bigT ∧ Cond.code yX5_contracts cX5_contracts 3 (some .int) ∈ bigT ∧ Cond.methodLink RX5 343 yX5_held ∈ bigT ∧ Cond.instanceMethod yX5_held ∈ bigT ∧ Cond.code yX5_held cX5_held 3 (some .int) ∈ bigT ∧ Cond.fieldLink RJ0 9 "java/lang/String" "value" "[B" ∈ bigT ∧ Cond.fieldLink RJ0 15 "java/lang/String" "coder" "B" ∈ bigT ∧ True := by
  have h := tb_all [(1189, Cond.constantLong RX5 317 (3544114)), (8, Cond.constant RX5 322 (-1000006)), (0, Cond.constant RX5 323 (-1000003)), (4, Cond.methodLink RX5 324 yX5_isOne), (0, Cond.static yX5_isOne), (0, Cond.code yX5_isOne cX5_isOne 1 (some .boolean)), (0, Cond.constant RX5 327 (-1000007)), (4, Cond.methodLink RX5 328 yX5_wrong), (1, Cond.instanceMethod yX5_wrong), (0, Cond.code yX5_wrong cX5_wrong 2 (some .int)), (0, Cond.methodLink RX5 331 yX5_narrowed), (0, Cond.static yX5_narrowed), (0, Cond.code yX5_narrowed cX5_narrowed 2 (some .int)), (28, Cond.methodLink RX5 337 yX5_heights), (1, Cond.instanceMethod yX5_heights), (0, Cond.code yX5_heights cX5_heights 3 (some .int)), (0, Cond.methodLink RX5 340 yX5_contracts), (1, Cond.instanceMethod yX5_contracts), (0, Cond.code yX5_contracts cX5_contracts 3 (some .int)), (0, Cond.methodLink RX5 343 yX5_held), (1, Cond.instanceMethod yX5_held), (0, Cond.code yX5_held cX5_held 3 (some .int)), (4, Cond.fieldLink RJ0 9 "java/lang/String" "value" "[B"), (0, Cond.fieldLink RJ0 15 "java/lang/String" "coder" "B")] tables_1 (fun _ h => h) (by decide +kernel)
  exact h
theorem tw_561 : Cond.constantLong RX5 317 (3544114) ∈ bigT := tg_20.1
theorem tw_578 : Cond.constant RX5 322 (-1000006) ∈ bigT := tg_20.2.1
theorem tw_579 : Cond.constant RX5 323 (-1000003) ∈ bigT := tg_20.2.2.1
theorem tw_581 : Cond.methodLink RX5 324 yX5_isOne ∈ bigT := tg_20.2.2.2.1
theorem tw_582 : Cond.static yX5_isOne ∈ bigT := tg_20.2.2.2.2.1
theorem tw_580 : Cond.code yX5_isOne cX5_isOne 1 (some .boolean) ∈ bigT := tg_20.2.2.2.2.2.1
theorem tw_585 : Cond.constant RX5 327 (-1000007) ∈ bigT := tg_20.2.2.2.2.2.2.1
theorem tw_588 : Cond.methodLink RX5 328 yX5_wrong ∈ bigT := tg_20.2.2.2.2.2.2.2.1
theorem tw_589 : Cond.instanceMethod yX5_wrong ∈ bigT := tg_20.2.2.2.2.2.2.2.2.1
theorem tw_587 : Cond.code yX5_wrong cX5_wrong 2 (some .int) ∈ bigT := tg_20.2.2.2.2.2.2.2.2.2.1
theorem tw_592 : Cond.methodLink RX5 331 yX5_narrowed ∈ bigT := tg_20.2.2.2.2.2.2.2.2.2.2.1
theorem tw_593 : Cond.static yX5_narrowed ∈ bigT := tg_20.2.2.2.2.2.2.2.2.2.2.2.1
theorem tw_591 : Cond.code yX5_narrowed cX5_narrowed 2 (some .int) ∈ bigT := tg_20.2.2.2.2.2.2.2.2.2.2.2.2.1
theorem tw_598 : Cond.methodLink RX5 337 yX5_heights ∈ bigT := tg_20.2.2.2.2.2.2.2.2.2.2.2.2.2.1
theorem tw_599 : Cond.instanceMethod yX5_heights ∈ bigT := tg_20.2.2.2.2.2.2.2.2.2.2.2.2.2.2.1
theorem tw_597 : Cond.code yX5_heights cX5_heights 3 (some .int) ∈ bigT := tg_20.2.2.2.2.2.2.2.2.2.2.2.2.2.2.2.1
theorem tw_602 : Cond.methodLink RX5 340 yX5_contracts ∈ bigT := tg_20.2.2.2.2.2.2.2.2.2.2.2.2.2.2.2.2.1
theorem tw_603 : Cond.instanceMethod yX5_contracts ∈ bigT := tg_20.2.2.2.2.2.2.2.2.2.2.2.2.2.2.2.2.2.1
theorem tw_601 : Cond.code yX5_contracts cX5_contracts 3 (some .int) ∈ bigT := tg_20.2.2.2.2.2.2.2.2.2.2.2.2.2.2.2.2.2.2.1
theorem tw_606 : Cond.methodLink RX5 343 yX5_held ∈ bigT := tg_20.2.2.2.2.2.2.2.2.2.2.2.2.2.2.2.2.2.2.2.1
theorem tw_607 : Cond.instanceMethod yX5_held ∈ bigT := tg_20.2.2.2.2.2.2.2.2.2.2.2.2.2.2.2.2.2.2.2.2.1
theorem tw_605 : Cond.code yX5_held cX5_held 3 (some .int) ∈ bigT := tg_20.2.2.2.2.2.2.2.2.2.2.2.2.2.2.2.2.2.2.2.2.2.1
theorem tw_22 : Cond.fieldLink RJ0 9 "java/lang/String" "value" "[B" ∈ bigT := tg_20.2.2.2.2.2.2.2.2.2.2.2.2.2.2.2.2.2.2.2.2.2.2.1
theorem tw_23 : Cond.fieldLink RJ0 15 "java/lang/String" "coder" "B" ∈ bigT := tg_20.2.2.2.2.2.2.2.2.2.2.2.2.2.2.2.2.2.2.2.2.2.2.2.1
theorem tw_32 : Cond.selects RX3 yX3_isSummer yX3_isSummer ∈ bigT := bt_sel (q := (yX3_isSummer, 8)) 6 (by decide +kernel)
theorem tw_53 : Cond.selects RX3 yX3_isTaken yX3_isTaken ∈ bigT := bt_sel (q := (yX3_isTaken, 8)) 1 (by decide +kernel)
theorem tw_56 : Cond.selects RX3 yX3_standing yX3_standing ∈ bigT := bt_sel (q := (yX3_standing, 8)) 5 (by decide +kernel)
theorem tw_60 : Cond.selects RX0 yX0_lowestSeen yX0_lowestSeen ∈ bigT := bt_sel (q := (yX0_lowestSeen, 3)) 14 (by decide +kernel)
theorem tw_64 : Cond.selects RX0 yX0_squares yX0_squares ∈ bigT := bt_sel (q := (yX0_squares, 3)) 15 (by decide +kernel)
theorem tw_68 : Cond.selects RX0 yX0_look yX0_look ∈ bigT := bt_sel (q := (yX0_look, 3)) 13 (by decide +kernel)
theorem tw_72 : Cond.selects RX0 yX0_squaresInView yX0_squaresInView ∈ bigT := bt_sel (q := (yX0_squaresInView, 3)) 17 (by decide +kernel)
theorem tw_76 : Cond.selects RX3 yX3_squarePrice yX3_squarePrice ∈ bigT := bt_sel (q := (yX3_squarePrice, 8)) 7 (by decide +kernel)
theorem tw_80 : Cond.selects RX0 yX0_pay yX0_pay ∈ bigT := bt_sel (q := (yX0_pay, 3)) 19 (by decide +kernel)
theorem tw_84 : Cond.selects RX0 yX0_squaresOfOwner yX0_squaresOfOwner ∈ bigT := bt_sel (q := (yX0_squaresOfOwner, 3)) 12 (by decide +kernel)
theorem tw_88 : Cond.selects RX0 yX0_isBroken yX0_isBroken ∈ bigT := bt_sel (q := (yX0_isBroken, 3)) 11 (by decide +kernel)
theorem tw_99 : Cond.selects RX2 yX2_sortAt yX2_sortAt ∈ bigT := bt_sel (q := (yX2_sortAt, 7)) 39 (by decide +kernel)
theorem tw_115 : Cond.selects RX2 yX2_isWord yX2_isWord ∈ bigT := bt_sel (q := (yX2_isWord, 7)) 42 (by decide +kernel)
theorem tw_120 : Cond.selects RX2 yX2_failHere yX2_failHere ∈ bigT := bt_sel (q := (yX2_failHere, 7)) 45 (by decide +kernel)
theorem tw_124 : Cond.selects RX2 yX2_nextToken yX2_nextToken ∈ bigT := bt_sel (q := (yX2_nextToken, 7)) 38 (by decide +kernel)
theorem tw_128 : Cond.selects RX2 yX2_takeWord yX2_takeWord ∈ bigT := bt_sel (q := (yX2_takeWord, 7)) 44 (by decide +kernel)
theorem tw_132 : Cond.selects RX2 yX2_takeLot yX2_takeLot ∈ bigT := bt_sel (q := (yX2_takeLot, 7)) 46 (by decide +kernel)
theorem tw_136 : Cond.selects RX2 yX2_takeNumber yX2_takeNumber ∈ bigT := bt_sel (q := (yX2_takeNumber, 7)) 47 (by decide +kernel)
theorem tw_139 : Cond.selects RX3 yX3_put yX3_put ∈ bigT := bt_sel (q := (yX3_put, 8)) 2 (by decide +kernel)
theorem tw_144 : Cond.selects RX3 yX3_addWindow yX3_addWindow ∈ bigT := bt_sel (q := (yX3_addWindow, 8)) 9 (by decide +kernel)
theorem tw_147 : Cond.selects RX3 yX3_takeOff yX3_takeOff ∈ bigT := bt_sel (q := (yX3_takeOff, 8)) 4 (by decide +kernel)
theorem tw_151 : Cond.selects RX2 yX2_kindOfWord yX2_kindOfWord ∈ bigT := bt_sel (q := (yX2_kindOfWord, 7)) 41 (by decide +kernel)
theorem tw_155 : Cond.selects RX2 yX2_readClear yX2_readClear ∈ bigT := bt_sel (q := (yX2_readClear, 7)) 50 (by decide +kernel)
theorem tw_159 : Cond.selects RX2 yX2_readPrice yX2_readPrice ∈ bigT := bt_sel (q := (yX2_readPrice, 7)) 49 (by decide +kernel)
theorem tw_163 : Cond.selects RX2 yX2_readWindow yX2_readWindow ∈ bigT := bt_sel (q := (yX2_readWindow, 7)) 48 (by decide +kernel)
theorem tw_167 : Cond.selects RX2 yX2_readThing yX2_readThing ∈ bigT := bt_sel (q := (yX2_readThing, 7)) 43 (by decide +kernel)
theorem tw_171 : Cond.selects RX2 yX2_readItem yX2_readItem ∈ bigT := bt_sel (q := (yX2_readItem, 7)) 40 (by decide +kernel)
theorem tw_183 : Cond.selects RX3 yX3_growth yX3_growth ∈ bigT := bt_sel (q := (yX3_growth, 8)) 8 (by decide +kernel)
theorem tw_194 : Cond.selects RX4 yX4_finding yX4_finding ∈ bigT := bt_sel (q := (yX4_finding, 11)) 0 (by decide +kernel)
theorem tw_198 : Cond.selects RX3 yX3_thingCount yX3_thingCount ∈ bigT := bt_sel (q := (yX3_thingCount, 8)) 3 (by decide +kernel)
theorem tw_205 : Cond.selects RX4 yX4_isWindow yX4_isWindow ∈ bigT := bt_sel (q := (yX4_isWindow, 11)) 10 (by decide +kernel)
theorem tw_212 : Cond.selects RX0 yX0_squareSet yX0_squareSet ∈ bigT := bt_sel (q := (yX0_squareSet, 3)) 16 (by decide +kernel)
theorem tw_215 : Cond.selects RX0 yX0_lotSet yX0_lotSet ∈ bigT := bt_sel (q := (yX0_lotSet, 3)) 18 (by decide +kernel)
theorem tw_220 : Cond.selects RX0 yX0_gainsInto yX0_gainsInto ∈ bigT := bt_sel (q := (yX0_gainsInto, 3)) 20 (by decide +kernel)
theorem tw_223 : Cond.selects RX0 yX0_brokenSet yX0_brokenSet ∈ bigT := bt_sel (q := (yX0_brokenSet, 3)) 21 (by decide +kernel)
theorem tw_226 : Cond.selects RX0 yX0_payAll yX0_payAll ∈ bigT := bt_sel (q := (yX0_payAll, 3)) 23 (by decide +kernel)
theorem tw_229 : Cond.selects RX3 yX3_growAll yX3_growAll ∈ bigT := bt_sel (q := (yX3_growAll, 8)) 24 (by decide +kernel)
theorem tw_233 : Cond.selects RX4 yX4_passMonths yX4_passMonths ∈ bigT := bt_sel (q := (yX4_passMonths, 11)) 22 (by decide +kernel)
theorem tw_237 : Cond.selects RX3 yX3_become yX3_become ∈ bigT := bt_sel (q := (yX3_become, 8)) 25 (by decide +kernel)
theorem tw_240 : Cond.selects RX0 yX0_squaresInAllViews yX0_squaresInAllViews ∈ bigT := bt_sel (q := (yX0_squaresInAllViews, 3)) 26 (by decide +kernel)
theorem tw_244 : Cond.selects RX4 yX4_tryUntilBroken yX4_tryUntilBroken ∈ bigT := bt_sel (q := (yX4_tryUntilBroken, 11)) 27 (by decide +kernel)
theorem tw_248 : Cond.selects RX4 yX4_isBrokenWithout yX4_isBrokenWithout ∈ bigT := bt_sel (q := (yX4_isBrokenWithout, 11)) 28 (by decide +kernel)
theorem tw_252 : Cond.selects RX4 yX4_bestFor yX4_bestFor ∈ bigT := bt_sel (q := (yX4_bestFor, 11)) 29 (by decide +kernel)
theorem tw_260 : Cond.selects RX3 yX3_lower yX3_lower ∈ bigT := bt_sel (q := (yX3_lower, 8)) 32 (by decide +kernel)
theorem tw_263 : Cond.selects RX3 yX3_isOwnersLot yX3_isOwnersLot ∈ bigT := bt_sel (q := (yX3_isOwnersLot, 8)) 30 (by decide +kernel)
theorem tw_267 : Cond.selects RX4 yX4_bothGainIfLower yX4_bothGainIfLower ∈ bigT := bt_sel (q := (yX4_bothGainIfLower, 11)) 31 (by decide +kernel)
theorem tw_270 : Cond.selects RX3 yX3_exchange yX3_exchange ∈ bigT := bt_sel (q := (yX3_exchange, 8)) 33 (by decide +kernel)
theorem tw_276 : Cond.selects RX3 yX3_draw yX3_draw ∈ bigT := bt_sel (q := (yX3_draw, 8)) 34 (by decide +kernel)
theorem tw_279 : Cond.selects RX3 yX3_lotOfThing yX3_lotOfThing ∈ bigT := bt_sel (q := (yX3_lotOfThing, 8)) 35 (by decide +kernel)
theorem tw_283 : Cond.selects RX2 yX2_append yX2_append ∈ bigT := bt_sel (q := (yX2_append, 7)) 36 (by decide +kernel)
theorem tw_286 : Cond.selects RX2 yX2_readText yX2_readText ∈ bigT := bt_sel (q := (yX2_readText, 7)) 37 (by decide +kernel)
theorem tw_297 : Cond.selects RX1 yX1_begin yX1_begin ∈ bigT := bt_sel (q := (yX1_begin, 3)) 51 (by decide +kernel)
theorem tw_300 : Cond.selects RX1 yX1_isMissing yX1_isMissing ∈ bigT := bt_sel (q := (yX1_isMissing, 3)) 52 (by decide +kernel)
theorem tw_303 : Cond.selects RX1 yX1_store yX1_store ∈ bigT := bt_sel (q := (yX1_store, 3)) 53 (by decide +kernel)
theorem tw_306 : Cond.selects RX1 yX1_hasRange yX1_hasRange ∈ bigT := bt_sel (q := (yX1_hasRange, 3)) 54 (by decide +kernel)
theorem tw_312 : Cond.selects RX3 yX3_heightOfAll yX3_heightOfAll ∈ bigT := bt_sel (q := (yX3_heightOfAll, 8)) 55 (by decide +kernel)
theorem tw_315 : Cond.selects RX3 yX3_contractCount yX3_contractCount ∈ bigT := bt_sel (q := (yX3_contractCount, 8)) 56 (by decide +kernel)
theorem tw_318 : Cond.selects RX3 yX3_spotsInUse yX3_spotsInUse ∈ bigT := bt_sel (q := (yX3_spotsInUse, 8)) 57 (by decide +kernel)
theorem tw_337 : Cond.selects RX5 yX5_its yX5_its ∈ bigT := bt_sel (q := (yX5_its, 21)) 60 (by decide +kernel)
theorem tw_341 : Cond.selects RX5 yX5_isThing yX5_isThing ∈ bigT := bt_sel (q := (yX5_isThing, 21)) 59 (by decide +kernel)
theorem tw_346 : Cond.selects RX5 yX5_finds yX5_finds ∈ bigT := bt_sel (q := (yX5_finds, 21)) 58 (by decide +kernel)
theorem tw_359 : Cond.selects RX5 yX5_builds yX5_builds ∈ bigT := bt_sel (q := (yX5_builds, 21)) 61 (by decide +kernel)
theorem tw_363 : Cond.selects RX5 yX5_things yX5_things ∈ bigT := bt_sel (q := (yX5_things, 21)) 62 (by decide +kernel)
theorem tw_369 : Cond.selects RX5 yX5_lotWrong yX5_lotWrong ∈ bigT := bt_sel (q := (yX5_lotWrong, 21)) 63 (by decide +kernel)
theorem tw_374 : Cond.selects RX5 yX5_isSummer yX5_isSummer ∈ bigT := bt_sel (q := (yX5_isSummer, 21)) 65 (by decide +kernel)
theorem tw_378 : Cond.selects RX5 yX5_grows yX5_grows ∈ bigT := bt_sel (q := (yX5_grows, 21)) 67 (by decide +kernel)
theorem tw_382 : Cond.selects RX5 yX5_priceOf yX5_priceOf ∈ bigT := bt_sel (q := (yX5_priceOf, 21)) 66 (by decide +kernel)
theorem tw_386 : Cond.selects RX5 yX5_stands yX5_stands ∈ bigT := bt_sel (q := (yX5_stands, 21)) 64 (by decide +kernel)
theorem tw_394 : Cond.selects RX5 yX5_newWindow yX5_newWindow ∈ bigT := bt_sel (q := (yX5_newWindow, 21)) 68 (by decide +kernel)
theorem tw_399 : Cond.selects RX5 yX5_isWindow yX5_isWindow ∈ bigT := bt_sel (q := (yX5_isWindow, 21)) 69 (by decide +kernel)
theorem tw_404 : Cond.selects RX5 yX5_told yX5_told ∈ bigT := bt_sel (q := (yX5_told, 21)) 70 (by decide +kernel)
theorem tw_416 : Cond.selects RX5 yX5_seen yX5_seen ∈ bigT := bt_sel (q := (yX5_seen, 21)) 73 (by decide +kernel)
theorem tw_424 : Cond.selects RX5 yX5_looks yX5_looks ∈ bigT := bt_sel (q := (yX5_looks, 21)) 72 (by decide +kernel)
theorem tw_430 : Cond.selects RX5 yX5_isBroken yX5_isBroken ∈ bigT := bt_sel (q := (yX5_isBroken, 21)) 71 (by decide +kernel)
theorem tw_434 : Cond.selects RX5 yX5_findGains yX5_findGains ∈ bigT := bt_sel (q := (yX5_findGains, 21)) 75 (by decide +kernel)
theorem tw_438 : Cond.selects RX5 yX5_gainOf yX5_gainOf ∈ bigT := bt_sel (q := (yX5_gainOf, 21)) 74 (by decide +kernel)
theorem tw_442 : Cond.selects RX5 yX5_brokenSet yX5_brokenSet ∈ bigT := bt_sel (q := (yX5_brokenSet, 21)) 76 (by decide +kernel)
theorem tw_446 : Cond.selects RX5 yX5_month yX5_month ∈ bigT := bt_sel (q := (yX5_month, 21)) 79 (by decide +kernel)
theorem tw_451 : Cond.selects RX5 yX5_isTooLate yX5_isTooLate ∈ bigT := bt_sel (q := (yX5_isTooLate, 21)) 77 (by decide +kernel)
theorem tw_455 : Cond.selects RX5 yX5_monthsGo yX5_monthsGo ∈ bigT := bt_sel (q := (yX5_monthsGo, 21)) 78 (by decide +kernel)
theorem tw_460 : Cond.selects RX5 yX5_puts yX5_puts ∈ bigT := bt_sel (q := (yX5_puts, 21)) 80 (by decide +kernel)
theorem tw_464 : Cond.selects RX5 yX5_putsBack yX5_putsBack ∈ bigT := bt_sel (q := (yX5_putsBack, 21)) 82 (by decide +kernel)
theorem tw_468 : Cond.selects RX5 yX5_allViews yX5_allViews ∈ bigT := bt_sel (q := (yX5_allViews, 21)) 81 (by decide +kernel)
theorem tw_472 : Cond.selects RX5 yX5_isLate yX5_isLate ∈ bigT := bt_sel (q := (yX5_isLate, 21)) 83 (by decide +kernel)
theorem tw_476 : Cond.selects RX5 yX5_breaks yX5_breaks ∈ bigT := bt_sel (q := (yX5_breaks, 21)) 84 (by decide +kernel)
theorem tw_480 : Cond.selects RX5 yX5_bestPart yX5_bestPart ∈ bigT := bt_sel (q := (yX5_bestPart, 21)) 85 (by decide +kernel)
theorem tw_484 : Cond.selects RX5 yX5_viewOf yX5_viewOf ∈ bigT := bt_sel (q := (yX5_viewOf, 21)) 86 (by decide +kernel)
theorem tw_488 : Cond.selects RX5 yX5_isLowered yX5_isLowered ∈ bigT := bt_sel (q := (yX5_isLowered, 21)) 87 (by decide +kernel)
theorem tw_494 : Cond.selects RX5 yX5_draw yX5_draw ∈ bigT := bt_sel (q := (yX5_draw, 21)) 88 (by decide +kernel)
theorem tw_506 : Cond.selects RX5 yX5_byteAt yX5_byteAt ∈ bigT := bt_sel (q := (yX5_byteAt, 21)) 90 (by decide +kernel)
theorem tw_517 : Cond.selects RX5 yX5_token yX5_token ∈ bigT := bt_sel (q := (yX5_token, 21)) 89 (by decide +kernel)
theorem tw_524 : Cond.selects RX5 yX5_needs yX5_needs ∈ bigT := bt_sel (q := (yX5_needs, 21)) 95 (by decide +kernel)
theorem tw_528 : Cond.selects RX5 yX5_word yX5_word ∈ bigT := bt_sel (q := (yX5_word, 21)) 93 (by decide +kernel)
theorem tw_539 : Cond.selects RX5 yX5_number yX5_number ∈ bigT := bt_sel (q := (yX5_number, 21)) 98 (by decide +kernel)
theorem tw_545 : Cond.selects RX5 yX5_numberBehind yX5_numberBehind ∈ bigT := bt_sel (q := (yX5_numberBehind, 21)) 97 (by decide +kernel)
theorem tw_551 : Cond.selects RX5 yX5_lotTold yX5_lotTold ∈ bigT := bt_sel (q := (yX5_lotTold, 21)) 96 (by decide +kernel)
theorem tw_558 : Cond.selects RX5 yX5_kindHere yX5_kindHere ∈ bigT := bt_sel (q := (yX5_kindHere, 21)) 92 (by decide +kernel)
theorem tw_565 : Cond.selects RX5 yX5_priceItem yX5_priceItem ∈ bigT := bt_sel (q := (yX5_priceItem, 21)) 100 (by decide +kernel)
theorem tw_569 : Cond.selects RX5 yX5_windowItem yX5_windowItem ∈ bigT := bt_sel (q := (yX5_windowItem, 21)) 99 (by decide +kernel)
theorem tw_573 : Cond.selects RX5 yX5_thingItem yX5_thingItem ∈ bigT := bt_sel (q := (yX5_thingItem, 21)) 94 (by decide +kernel)
theorem tw_577 : Cond.selects RX5 yX5_item yX5_item ∈ bigT := bt_sel (q := (yX5_item, 21)) 91 (by decide +kernel)
theorem tw_590 : Cond.selects RX5 yX5_wrong yX5_wrong ∈ bigT := bt_sel (q := (yX5_wrong, 21)) 101 (by decide +kernel)
theorem tw_600 : Cond.selects RX5 yX5_heights yX5_heights ∈ bigT := bt_sel (q := (yX5_heights, 21)) 102 (by decide +kernel)
theorem tw_604 : Cond.selects RX5 yX5_contracts yX5_contracts ∈ bigT := bt_sel (q := (yX5_contracts, 21)) 103 (by decide +kernel)
theorem tw_608 : Cond.selects RX5 yX5_held yX5_held ∈ bigT := bt_sel (q := (yX5_held, 21)) 104 (by decide +kernel)
theorem dc_J6 : RJ6 ≠ "java/lang/invoke/MethodHandle" ∧ RJ6 ≠ "java/lang/invoke/VarHandle" := by decide +kernel
theorem dp_0 : (parseMethodDescriptor "(II)I").map (fun d => d.parameters.length) = some 2 := by decide +kernel
theorem dd_J6_compare_7cf53 : yJ6_compare_7cf53.cls = RJ6 ∧ yJ6_compare_7cf53.cls ≠ "java/lang/invoke/MethodHandle" ∧ yJ6_compare_7cf53.cls ≠ "java/lang/invoke/VarHandle" ∧ (parseMethodDescriptor yJ6_compare_7cf53.desc).map (fun d => d.parameters.length) = some 2 := ⟨rfl, dc_J6.1, dc_J6.2, dp_0⟩
theorem dp_1 : (parseMethodDescriptor "(I)I").map (fun d => d.parameters.length) = some 1 := by decide +kernel
theorem dd_J6_bitCount_0f7a4 : yJ6_bitCount_0f7a4.cls = RJ6 ∧ yJ6_bitCount_0f7a4.cls ≠ "java/lang/invoke/MethodHandle" ∧ yJ6_bitCount_0f7a4.cls ≠ "java/lang/invoke/VarHandle" ∧ (parseMethodDescriptor yJ6_bitCount_0f7a4.desc).map (fun d => d.parameters.length) = some 1 := ⟨rfl, dc_J6.1, dc_J6.2, dp_1⟩
theorem dc_J9 : RJ9 ≠ "java/lang/invoke/MethodHandle" ∧ RJ9 ≠ "java/lang/invoke/VarHandle" := by decide +kernel
theorem dd_J9_floorDiv_7cf53 : yJ9_floorDiv_7cf53.cls = RJ9 ∧ yJ9_floorDiv_7cf53.cls ≠ "java/lang/invoke/MethodHandle" ∧ yJ9_floorDiv_7cf53.cls ≠ "java/lang/invoke/VarHandle" ∧ (parseMethodDescriptor yJ9_floorDiv_7cf53.desc).map (fun d => d.parameters.length) = some 2 := ⟨rfl, dc_J9.1, dc_J9.2, dp_0⟩
theorem dd_J9_max_7cf53 : yJ9_max_7cf53.cls = RJ9 ∧ yJ9_max_7cf53.cls ≠ "java/lang/invoke/MethodHandle" ∧ yJ9_max_7cf53.cls ≠ "java/lang/invoke/VarHandle" ∧ (parseMethodDescriptor yJ9_max_7cf53.desc).map (fun d => d.parameters.length) = some 2 := ⟨rfl, dc_J9.1, dc_J9.2, dp_0⟩
theorem dd_J9_min_7cf53 : yJ9_min_7cf53.cls = RJ9 ∧ yJ9_min_7cf53.cls ≠ "java/lang/invoke/MethodHandle" ∧ yJ9_min_7cf53.cls ≠ "java/lang/invoke/VarHandle" ∧ (parseMethodDescriptor yJ9_min_7cf53.desc).map (fun d => d.parameters.length) = some 2 := ⟨rfl, dc_J9.1, dc_J9.2, dp_0⟩
theorem dc_X0 : RX0 ≠ "java/lang/invoke/MethodHandle" ∧ RX0 ≠ "java/lang/invoke/VarHandle" := by decide +kernel
theorem dd_X0_nextLot : yX0_nextLot.cls = RX0 ∧ yX0_nextLot.cls ≠ "java/lang/invoke/MethodHandle" ∧ yX0_nextLot.cls ≠ "java/lang/invoke/VarHandle" ∧ (parseMethodDescriptor yX0_nextLot.desc).map (fun d => d.parameters.length) = some 2 := ⟨rfl, dc_X0.1, dc_X0.2, dp_0⟩
theorem dc_X3 : RX3 ≠ "java/lang/invoke/MethodHandle" ∧ RX3 ≠ "java/lang/invoke/VarHandle" := by decide +kernel
theorem dp_2 : (parseMethodDescriptor "(I)Z").map (fun d => d.parameters.length) = some 1 := by decide +kernel
theorem dd_X3_isTaken : yX3_isTaken.cls = RX3 ∧ yX3_isTaken.cls ≠ "java/lang/invoke/MethodHandle" ∧ yX3_isTaken.cls ≠ "java/lang/invoke/VarHandle" ∧ (parseMethodDescriptor yX3_isTaken.desc).map (fun d => d.parameters.length) = some 1 := ⟨rfl, dc_X3.1, dc_X3.2, dp_2⟩
theorem dp_3 : (parseMethodDescriptor "()Z").map (fun d => d.parameters.length) = some 0 := by decide +kernel
theorem dd_X3_isSummer : yX3_isSummer.cls = RX3 ∧ yX3_isSummer.cls ≠ "java/lang/invoke/MethodHandle" ∧ yX3_isSummer.cls ≠ "java/lang/invoke/VarHandle" ∧ (parseMethodDescriptor yX3_isSummer.desc).map (fun d => d.parameters.length) = some 0 := ⟨rfl, dc_X3.1, dc_X3.2, dp_3⟩
theorem dd_X3_standing : yX3_standing.cls = RX3 ∧ yX3_standing.cls ≠ "java/lang/invoke/MethodHandle" ∧ yX3_standing.cls ≠ "java/lang/invoke/VarHandle" ∧ (parseMethodDescriptor yX3_standing.desc).map (fun d => d.parameters.length) = some 1 := ⟨rfl, dc_X3.1, dc_X3.2, dp_1⟩
theorem dd_X0_lowestSeen : yX0_lowestSeen.cls = RX0 ∧ yX0_lowestSeen.cls ≠ "java/lang/invoke/MethodHandle" ∧ yX0_lowestSeen.cls ≠ "java/lang/invoke/VarHandle" ∧ (parseMethodDescriptor yX0_lowestSeen.desc).map (fun d => d.parameters.length) = some 2 := ⟨rfl, dc_X0.1, dc_X0.2, dp_0⟩
theorem dp_4 : (parseMethodDescriptor "(LWindowViews$Town;I)V").map (fun d => d.parameters.length) = some 2 := by decide +kernel
theorem dd_X0_look : yX0_look.cls = RX0 ∧ yX0_look.cls ≠ "java/lang/invoke/MethodHandle" ∧ yX0_look.cls ≠ "java/lang/invoke/VarHandle" ∧ (parseMethodDescriptor yX0_look.desc).map (fun d => d.parameters.length) = some 2 := ⟨rfl, dc_X0.1, dc_X0.2, dp_4⟩
theorem dd_X0_squares : yX0_squares.cls = RX0 ∧ yX0_squares.cls ≠ "java/lang/invoke/MethodHandle" ∧ yX0_squares.cls ≠ "java/lang/invoke/VarHandle" ∧ (parseMethodDescriptor yX0_squares.desc).map (fun d => d.parameters.length) = some 1 := ⟨rfl, dc_X0.1, dc_X0.2, dp_1⟩
theorem dd_X0_squareSet : yX0_squareSet.cls = RX0 ∧ yX0_squareSet.cls ≠ "java/lang/invoke/MethodHandle" ∧ yX0_squareSet.cls ≠ "java/lang/invoke/VarHandle" ∧ (parseMethodDescriptor yX0_squareSet.desc).map (fun d => d.parameters.length) = some 1 := ⟨rfl, dc_X0.1, dc_X0.2, dp_1⟩
theorem dp_5 : (parseMethodDescriptor "(LWindowViews$Town;I)I").map (fun d => d.parameters.length) = some 2 := by decide +kernel
theorem dd_X0_squaresInView : yX0_squaresInView.cls = RX0 ∧ yX0_squaresInView.cls ≠ "java/lang/invoke/MethodHandle" ∧ yX0_squaresInView.cls ≠ "java/lang/invoke/VarHandle" ∧ (parseMethodDescriptor yX0_squaresInView.desc).map (fun d => d.parameters.length) = some 2 := ⟨rfl, dc_X0.1, dc_X0.2, dp_5⟩
theorem dp_6 : (parseMethodDescriptor "(LWindowViews$Town;)I").map (fun d => d.parameters.length) = some 1 := by decide +kernel
theorem dd_X0_squaresInAllViews : yX0_squaresInAllViews.cls = RX0 ∧ yX0_squaresInAllViews.cls ≠ "java/lang/invoke/MethodHandle" ∧ yX0_squaresInAllViews.cls ≠ "java/lang/invoke/VarHandle" ∧ (parseMethodDescriptor yX0_squaresInAllViews.desc).map (fun d => d.parameters.length) = some 1 := ⟨rfl, dc_X0.1, dc_X0.2, dp_6⟩
theorem dp_7 : (parseMethodDescriptor "(LWindowViews$Town;II)I").map (fun d => d.parameters.length) = some 3 := by decide +kernel
theorem dd_X0_squaresOfOwner : yX0_squaresOfOwner.cls = RX0 ∧ yX0_squaresOfOwner.cls ≠ "java/lang/invoke/MethodHandle" ∧ yX0_squaresOfOwner.cls ≠ "java/lang/invoke/VarHandle" ∧ (parseMethodDescriptor yX0_squaresOfOwner.desc).map (fun d => d.parameters.length) = some 3 := ⟨rfl, dc_X0.1, dc_X0.2, dp_7⟩
theorem dd_X0_lotSet : yX0_lotSet.cls = RX0 ∧ yX0_lotSet.cls ≠ "java/lang/invoke/MethodHandle" ∧ yX0_lotSet.cls ≠ "java/lang/invoke/VarHandle" ∧ (parseMethodDescriptor yX0_lotSet.desc).map (fun d => d.parameters.length) = some 2 := ⟨rfl, dc_X0.1, dc_X0.2, dp_5⟩
theorem dd_X3_squarePrice : yX3_squarePrice.cls = RX3 ∧ yX3_squarePrice.cls ≠ "java/lang/invoke/MethodHandle" ∧ yX3_squarePrice.cls ≠ "java/lang/invoke/VarHandle" ∧ (parseMethodDescriptor yX3_squarePrice.desc).map (fun d => d.parameters.length) = some 1 := ⟨rfl, dc_X3.1, dc_X3.2, dp_1⟩
theorem dp_8 : (parseMethodDescriptor "(LWindowViews$Town;I[I)I").map (fun d => d.parameters.length) = some 3 := by decide +kernel
theorem dd_X0_pay : yX0_pay.cls = RX0 ∧ yX0_pay.cls ≠ "java/lang/invoke/MethodHandle" ∧ yX0_pay.cls ≠ "java/lang/invoke/VarHandle" ∧ (parseMethodDescriptor yX0_pay.desc).map (fun d => d.parameters.length) = some 3 := ⟨rfl, dc_X0.1, dc_X0.2, dp_8⟩
theorem dd_X0_payAll : yX0_payAll.cls = RX0 ∧ yX0_payAll.cls ≠ "java/lang/invoke/MethodHandle" ∧ yX0_payAll.cls ≠ "java/lang/invoke/VarHandle" ∧ (parseMethodDescriptor yX0_payAll.desc).map (fun d => d.parameters.length) = some 1 := ⟨rfl, dc_X0.1, dc_X0.2, dp_6⟩
theorem dp_9 : (parseMethodDescriptor "(LWindowViews$Town;[I)I").map (fun d => d.parameters.length) = some 2 := by decide +kernel
theorem dd_X0_gainsInto : yX0_gainsInto.cls = RX0 ∧ yX0_gainsInto.cls ≠ "java/lang/invoke/MethodHandle" ∧ yX0_gainsInto.cls ≠ "java/lang/invoke/VarHandle" ∧ (parseMethodDescriptor yX0_gainsInto.desc).map (fun d => d.parameters.length) = some 2 := ⟨rfl, dc_X0.1, dc_X0.2, dp_9⟩
theorem dp_10 : (parseMethodDescriptor "(LWindowViews$Town;I)Z").map (fun d => d.parameters.length) = some 2 := by decide +kernel
theorem dd_X0_isBroken : yX0_isBroken.cls = RX0 ∧ yX0_isBroken.cls ≠ "java/lang/invoke/MethodHandle" ∧ yX0_isBroken.cls ≠ "java/lang/invoke/VarHandle" ∧ (parseMethodDescriptor yX0_isBroken.desc).map (fun d => d.parameters.length) = some 2 := ⟨rfl, dc_X0.1, dc_X0.2, dp_10⟩
theorem dd_X0_brokenSet : yX0_brokenSet.cls = RX0 ∧ yX0_brokenSet.cls ≠ "java/lang/invoke/MethodHandle" ∧ yX0_brokenSet.cls ≠ "java/lang/invoke/VarHandle" ∧ (parseMethodDescriptor yX0_brokenSet.desc).map (fun d => d.parameters.length) = some 1 := ⟨rfl, dc_X0.1, dc_X0.2, dp_6⟩
theorem dc_X1 : RX1 ≠ "java/lang/invoke/MethodHandle" ∧ RX1 ≠ "java/lang/invoke/VarHandle" := by decide +kernel
theorem dd_X1_isMissing : yX1_isMissing.cls = RX1 ∧ yX1_isMissing.cls ≠ "java/lang/invoke/MethodHandle" ∧ yX1_isMissing.cls ≠ "java/lang/invoke/VarHandle" ∧ (parseMethodDescriptor yX1_isMissing.desc).map (fun d => d.parameters.length) = some 1 := ⟨rfl, dc_X1.1, dc_X1.2, dp_2⟩
theorem dp_11 : (parseMethodDescriptor "(III)V").map (fun d => d.parameters.length) = some 3 := by decide +kernel
theorem dd_X1_begin : yX1_begin.cls = RX1 ∧ yX1_begin.cls ≠ "java/lang/invoke/MethodHandle" ∧ yX1_begin.cls ≠ "java/lang/invoke/VarHandle" ∧ (parseMethodDescriptor yX1_begin.desc).map (fun d => d.parameters.length) = some 3 := ⟨rfl, dc_X1.1, dc_X1.2, dp_11⟩
theorem dd_X1_store : yX1_store.cls = RX1 ∧ yX1_store.cls ≠ "java/lang/invoke/MethodHandle" ∧ yX1_store.cls ≠ "java/lang/invoke/VarHandle" ∧ (parseMethodDescriptor yX1_store.desc).map (fun d => d.parameters.length) = some 3 := ⟨rfl, dc_X1.1, dc_X1.2, dp_11⟩
theorem dp_12 : (parseMethodDescriptor "(III)Z").map (fun d => d.parameters.length) = some 3 := by decide +kernel
theorem dd_X1_hasRange : yX1_hasRange.cls = RX1 ∧ yX1_hasRange.cls ≠ "java/lang/invoke/MethodHandle" ∧ yX1_hasRange.cls ≠ "java/lang/invoke/VarHandle" ∧ (parseMethodDescriptor yX1_hasRange.desc).map (fun d => d.parameters.length) = some 3 := ⟨rfl, dc_X1.1, dc_X1.2, dp_12⟩
theorem dc_X2 : RX2 ≠ "java/lang/invoke/MethodHandle" ∧ RX2 ≠ "java/lang/invoke/VarHandle" := by decide +kernel
theorem dp_13 : (parseMethodDescriptor "(I)V").map (fun d => d.parameters.length) = some 1 := by decide +kernel
theorem dd_X2_append : yX2_append.cls = RX2 ∧ yX2_append.cls ≠ "java/lang/invoke/MethodHandle" ∧ yX2_append.cls ≠ "java/lang/invoke/VarHandle" ∧ (parseMethodDescriptor yX2_append.desc).map (fun d => d.parameters.length) = some 1 := ⟨rfl, dc_X2.1, dc_X2.2, dp_13⟩
theorem dd_X2_sortAt : yX2_sortAt.cls = RX2 ∧ yX2_sortAt.cls ≠ "java/lang/invoke/MethodHandle" ∧ yX2_sortAt.cls ≠ "java/lang/invoke/VarHandle" ∧ (parseMethodDescriptor yX2_sortAt.desc).map (fun d => d.parameters.length) = some 1 := ⟨rfl, dc_X2.1, dc_X2.2, dp_1⟩
theorem dp_14 : (parseMethodDescriptor "()V").map (fun d => d.parameters.length) = some 0 := by decide +kernel
theorem dd_X2_nextToken : yX2_nextToken.cls = RX2 ∧ yX2_nextToken.cls ≠ "java/lang/invoke/MethodHandle" ∧ yX2_nextToken.cls ≠ "java/lang/invoke/VarHandle" ∧ (parseMethodDescriptor yX2_nextToken.desc).map (fun d => d.parameters.length) = some 0 := ⟨rfl, dc_X2.1, dc_X2.2, dp_14⟩
theorem dp_15 : (parseMethodDescriptor "(Ljava/lang/String;)Z").map (fun d => d.parameters.length) = some 1 := by decide +kernel
theorem dd_X2_isWord : yX2_isWord.cls = RX2 ∧ yX2_isWord.cls ≠ "java/lang/invoke/MethodHandle" ∧ yX2_isWord.cls ≠ "java/lang/invoke/VarHandle" ∧ (parseMethodDescriptor yX2_isWord.desc).map (fun d => d.parameters.length) = some 1 := ⟨rfl, dc_X2.1, dc_X2.2, dp_15⟩
theorem dp_16 : (parseMethodDescriptor "()I").map (fun d => d.parameters.length) = some 0 := by decide +kernel
theorem dd_X2_kindOfWord : yX2_kindOfWord.cls = RX2 ∧ yX2_kindOfWord.cls ≠ "java/lang/invoke/MethodHandle" ∧ yX2_kindOfWord.cls ≠ "java/lang/invoke/VarHandle" ∧ (parseMethodDescriptor yX2_kindOfWord.desc).map (fun d => d.parameters.length) = some 0 := ⟨rfl, dc_X2.1, dc_X2.2, dp_16⟩
theorem dd_X2_failHere : yX2_failHere.cls = RX2 ∧ yX2_failHere.cls ≠ "java/lang/invoke/MethodHandle" ∧ yX2_failHere.cls ≠ "java/lang/invoke/VarHandle" ∧ (parseMethodDescriptor yX2_failHere.desc).map (fun d => d.parameters.length) = some 0 := ⟨rfl, dc_X2.1, dc_X2.2, dp_14⟩
theorem dp_17 : (parseMethodDescriptor "(Ljava/lang/String;)V").map (fun d => d.parameters.length) = some 1 := by decide +kernel
theorem dd_X2_takeWord : yX2_takeWord.cls = RX2 ∧ yX2_takeWord.cls ≠ "java/lang/invoke/MethodHandle" ∧ yX2_takeWord.cls ≠ "java/lang/invoke/VarHandle" ∧ (parseMethodDescriptor yX2_takeWord.desc).map (fun d => d.parameters.length) = some 1 := ⟨rfl, dc_X2.1, dc_X2.2, dp_17⟩
theorem dp_18 : (parseMethodDescriptor "(LWindowViews$Town;Z)I").map (fun d => d.parameters.length) = some 2 := by decide +kernel
theorem dd_X2_takeLot : yX2_takeLot.cls = RX2 ∧ yX2_takeLot.cls ≠ "java/lang/invoke/MethodHandle" ∧ yX2_takeLot.cls ≠ "java/lang/invoke/VarHandle" ∧ (parseMethodDescriptor yX2_takeLot.desc).map (fun d => d.parameters.length) = some 2 := ⟨rfl, dc_X2.1, dc_X2.2, dp_18⟩
theorem dd_X2_takeNumber : yX2_takeNumber.cls = RX2 ∧ yX2_takeNumber.cls ≠ "java/lang/invoke/MethodHandle" ∧ yX2_takeNumber.cls ≠ "java/lang/invoke/VarHandle" ∧ (parseMethodDescriptor yX2_takeNumber.desc).map (fun d => d.parameters.length) = some 1 := ⟨rfl, dc_X2.1, dc_X2.2, dp_1⟩
theorem dp_19 : (parseMethodDescriptor "(IIIII)V").map (fun d => d.parameters.length) = some 5 := by decide +kernel
theorem dd_X3_put : yX3_put.cls = RX3 ∧ yX3_put.cls ≠ "java/lang/invoke/MethodHandle" ∧ yX3_put.cls ≠ "java/lang/invoke/VarHandle" ∧ (parseMethodDescriptor yX3_put.desc).map (fun d => d.parameters.length) = some 5 := ⟨rfl, dc_X3.1, dc_X3.2, dp_19⟩
theorem dd_X2_readThing : yX2_readThing.cls = RX2 ∧ yX2_readThing.cls ≠ "java/lang/invoke/MethodHandle" ∧ yX2_readThing.cls ≠ "java/lang/invoke/VarHandle" ∧ (parseMethodDescriptor yX2_readThing.desc).map (fun d => d.parameters.length) = some 2 := ⟨rfl, dc_X2.1, dc_X2.2, dp_4⟩
theorem dp_20 : (parseMethodDescriptor "(IIII)V").map (fun d => d.parameters.length) = some 4 := by decide +kernel
theorem dd_X3_addWindow : yX3_addWindow.cls = RX3 ∧ yX3_addWindow.cls ≠ "java/lang/invoke/MethodHandle" ∧ yX3_addWindow.cls ≠ "java/lang/invoke/VarHandle" ∧ (parseMethodDescriptor yX3_addWindow.desc).map (fun d => d.parameters.length) = some 4 := ⟨rfl, dc_X3.1, dc_X3.2, dp_20⟩
theorem dp_21 : (parseMethodDescriptor "(LWindowViews$Town;)V").map (fun d => d.parameters.length) = some 1 := by decide +kernel
theorem dd_X2_readWindow : yX2_readWindow.cls = RX2 ∧ yX2_readWindow.cls ≠ "java/lang/invoke/MethodHandle" ∧ yX2_readWindow.cls ≠ "java/lang/invoke/VarHandle" ∧ (parseMethodDescriptor yX2_readWindow.desc).map (fun d => d.parameters.length) = some 1 := ⟨rfl, dc_X2.1, dc_X2.2, dp_21⟩
theorem dd_X2_readPrice : yX2_readPrice.cls = RX2 ∧ yX2_readPrice.cls ≠ "java/lang/invoke/MethodHandle" ∧ yX2_readPrice.cls ≠ "java/lang/invoke/VarHandle" ∧ (parseMethodDescriptor yX2_readPrice.desc).map (fun d => d.parameters.length) = some 1 := ⟨rfl, dc_X2.1, dc_X2.2, dp_21⟩
theorem dd_X3_takeOff : yX3_takeOff.cls = RX3 ∧ yX3_takeOff.cls ≠ "java/lang/invoke/MethodHandle" ∧ yX3_takeOff.cls ≠ "java/lang/invoke/VarHandle" ∧ (parseMethodDescriptor yX3_takeOff.desc).map (fun d => d.parameters.length) = some 1 := ⟨rfl, dc_X3.1, dc_X3.2, dp_13⟩
theorem dd_X2_readClear : yX2_readClear.cls = RX2 ∧ yX2_readClear.cls ≠ "java/lang/invoke/MethodHandle" ∧ yX2_readClear.cls ≠ "java/lang/invoke/VarHandle" ∧ (parseMethodDescriptor yX2_readClear.desc).map (fun d => d.parameters.length) = some 1 := ⟨rfl, dc_X2.1, dc_X2.2, dp_21⟩
theorem dd_X2_readItem : yX2_readItem.cls = RX2 ∧ yX2_readItem.cls ≠ "java/lang/invoke/MethodHandle" ∧ yX2_readItem.cls ≠ "java/lang/invoke/VarHandle" ∧ (parseMethodDescriptor yX2_readItem.desc).map (fun d => d.parameters.length) = some 1 := ⟨rfl, dc_X2.1, dc_X2.2, dp_21⟩
theorem dd_X2_readText : yX2_readText.cls = RX2 ∧ yX2_readText.cls ≠ "java/lang/invoke/MethodHandle" ∧ yX2_readText.cls ≠ "java/lang/invoke/VarHandle" ∧ (parseMethodDescriptor yX2_readText.desc).map (fun d => d.parameters.length) = some 1 := ⟨rfl, dc_X2.1, dc_X2.2, dp_6⟩
theorem dd_X3_become : yX3_become.cls = RX3 ∧ yX3_become.cls ≠ "java/lang/invoke/MethodHandle" ∧ yX3_become.cls ≠ "java/lang/invoke/VarHandle" ∧ (parseMethodDescriptor yX3_become.desc).map (fun d => d.parameters.length) = some 1 := ⟨rfl, dc_X3.1, dc_X3.2, dp_21⟩
theorem dp_22 : (parseMethodDescriptor "(II)Z").map (fun d => d.parameters.length) = some 2 := by decide +kernel
theorem dd_X3_isOwnersLot : yX3_isOwnersLot.cls = RX3 ∧ yX3_isOwnersLot.cls ≠ "java/lang/invoke/MethodHandle" ∧ yX3_isOwnersLot.cls ≠ "java/lang/invoke/VarHandle" ∧ (parseMethodDescriptor yX3_isOwnersLot.desc).map (fun d => d.parameters.length) = some 2 := ⟨rfl, dc_X3.1, dc_X3.2, dp_22⟩
theorem dp_23 : (parseMethodDescriptor "(II)V").map (fun d => d.parameters.length) = some 2 := by decide +kernel
theorem dd_X3_exchange : yX3_exchange.cls = RX3 ∧ yX3_exchange.cls ≠ "java/lang/invoke/MethodHandle" ∧ yX3_exchange.cls ≠ "java/lang/invoke/VarHandle" ∧ (parseMethodDescriptor yX3_exchange.desc).map (fun d => d.parameters.length) = some 2 := ⟨rfl, dc_X3.1, dc_X3.2, dp_23⟩
theorem dd_X3_lower : yX3_lower.cls = RX3 ∧ yX3_lower.cls ≠ "java/lang/invoke/MethodHandle" ∧ yX3_lower.cls ≠ "java/lang/invoke/VarHandle" ∧ (parseMethodDescriptor yX3_lower.desc).map (fun d => d.parameters.length) = some 1 := ⟨rfl, dc_X3.1, dc_X3.2, dp_1⟩
theorem dd_X3_growth : yX3_growth.cls = RX3 ∧ yX3_growth.cls ≠ "java/lang/invoke/MethodHandle" ∧ yX3_growth.cls ≠ "java/lang/invoke/VarHandle" ∧ (parseMethodDescriptor yX3_growth.desc).map (fun d => d.parameters.length) = some 1 := ⟨rfl, dc_X3.1, dc_X3.2, dp_1⟩
theorem dd_X3_growAll : yX3_growAll.cls = RX3 ∧ yX3_growAll.cls ≠ "java/lang/invoke/MethodHandle" ∧ yX3_growAll.cls ≠ "java/lang/invoke/VarHandle" ∧ (parseMethodDescriptor yX3_growAll.desc).map (fun d => d.parameters.length) = some 0 := ⟨rfl, dc_X3.1, dc_X3.2, dp_14⟩
theorem dd_X3_draw : yX3_draw.cls = RX3 ∧ yX3_draw.cls ≠ "java/lang/invoke/MethodHandle" ∧ yX3_draw.cls ≠ "java/lang/invoke/VarHandle" ∧ (parseMethodDescriptor yX3_draw.desc).map (fun d => d.parameters.length) = some 0 := ⟨rfl, dc_X3.1, dc_X3.2, dp_16⟩
theorem dd_X3_lotOfThing : yX3_lotOfThing.cls = RX3 ∧ yX3_lotOfThing.cls ≠ "java/lang/invoke/MethodHandle" ∧ yX3_lotOfThing.cls ≠ "java/lang/invoke/VarHandle" ∧ (parseMethodDescriptor yX3_lotOfThing.desc).map (fun d => d.parameters.length) = some 1 := ⟨rfl, dc_X3.1, dc_X3.2, dp_1⟩
theorem dd_X3_thingCount : yX3_thingCount.cls = RX3 ∧ yX3_thingCount.cls ≠ "java/lang/invoke/MethodHandle" ∧ yX3_thingCount.cls ≠ "java/lang/invoke/VarHandle" ∧ (parseMethodDescriptor yX3_thingCount.desc).map (fun d => d.parameters.length) = some 0 := ⟨rfl, dc_X3.1, dc_X3.2, dp_16⟩
theorem dd_X3_heightOfAll : yX3_heightOfAll.cls = RX3 ∧ yX3_heightOfAll.cls ≠ "java/lang/invoke/MethodHandle" ∧ yX3_heightOfAll.cls ≠ "java/lang/invoke/VarHandle" ∧ (parseMethodDescriptor yX3_heightOfAll.desc).map (fun d => d.parameters.length) = some 0 := ⟨rfl, dc_X3.1, dc_X3.2, dp_16⟩
theorem dd_X3_contractCount : yX3_contractCount.cls = RX3 ∧ yX3_contractCount.cls ≠ "java/lang/invoke/MethodHandle" ∧ yX3_contractCount.cls ≠ "java/lang/invoke/VarHandle" ∧ (parseMethodDescriptor yX3_contractCount.desc).map (fun d => d.parameters.length) = some 0 := ⟨rfl, dc_X3.1, dc_X3.2, dp_16⟩
theorem dd_X3_spotsInUse : yX3_spotsInUse.cls = RX3 ∧ yX3_spotsInUse.cls ≠ "java/lang/invoke/MethodHandle" ∧ yX3_spotsInUse.cls ≠ "java/lang/invoke/VarHandle" ∧ (parseMethodDescriptor yX3_spotsInUse.desc).map (fun d => d.parameters.length) = some 0 := ⟨rfl, dc_X3.1, dc_X3.2, dp_16⟩
theorem dc_X4 : RX4 ≠ "java/lang/invoke/MethodHandle" ∧ RX4 ≠ "java/lang/invoke/VarHandle" := by decide +kernel
theorem dd_X4_within : yX4_within.cls = RX4 ∧ yX4_within.cls ≠ "java/lang/invoke/MethodHandle" ∧ yX4_within.cls ≠ "java/lang/invoke/VarHandle" ∧ (parseMethodDescriptor yX4_within.desc).map (fun d => d.parameters.length) = some 2 := ⟨rfl, dc_X4.1, dc_X4.2, dp_22⟩
theorem dd_X4_finding : yX4_finding.cls = RX4 ∧ yX4_finding.cls ≠ "java/lang/invoke/MethodHandle" ∧ yX4_finding.cls ≠ "java/lang/invoke/VarHandle" ∧ (parseMethodDescriptor yX4_finding.desc).map (fun d => d.parameters.length) = some 1 := ⟨rfl, dc_X4.1, dc_X4.2, dp_1⟩
theorem dp_24 : (parseMethodDescriptor "(IIII)I").map (fun d => d.parameters.length) = some 4 := by decide +kernel
theorem dd_X4_build : yX4_build.cls = RX4 ∧ yX4_build.cls ≠ "java/lang/invoke/MethodHandle" ∧ yX4_build.cls ≠ "java/lang/invoke/VarHandle" ∧ (parseMethodDescriptor yX4_build.desc).map (fun d => d.parameters.length) = some 4 := ⟨rfl, dc_X4.1, dc_X4.2, dp_24⟩
theorem dd_X4_clear : yX4_clear.cls = RX4 ∧ yX4_clear.cls ≠ "java/lang/invoke/MethodHandle" ∧ yX4_clear.cls ≠ "java/lang/invoke/VarHandle" ∧ (parseMethodDescriptor yX4_clear.desc).map (fun d => d.parameters.length) = some 1 := ⟨rfl, dc_X4.1, dc_X4.2, dp_1⟩
theorem dd_X4_of : yX4_of.cls = RX4 ∧ yX4_of.cls ≠ "java/lang/invoke/MethodHandle" ∧ yX4_of.cls ≠ "java/lang/invoke/VarHandle" ∧ (parseMethodDescriptor yX4_of.desc).map (fun d => d.parameters.length) = some 2 := ⟨rfl, dc_X4.1, dc_X4.2, dp_0⟩
theorem dd_X4_thingLimit : yX4_thingLimit.cls = RX4 ∧ yX4_thingLimit.cls ≠ "java/lang/invoke/MethodHandle" ∧ yX4_thingLimit.cls ≠ "java/lang/invoke/VarHandle" ∧ (parseMethodDescriptor yX4_thingLimit.desc).map (fun d => d.parameters.length) = some 1 := ⟨rfl, dc_X4.1, dc_X4.2, dp_1⟩
theorem dp_25 : (parseMethodDescriptor "(III)I").map (fun d => d.parameters.length) = some 3 := by decide +kernel
theorem dd_X4_change : yX4_change.cls = RX4 ∧ yX4_change.cls ≠ "java/lang/invoke/MethodHandle" ∧ yX4_change.cls ≠ "java/lang/invoke/VarHandle" ∧ (parseMethodDescriptor yX4_change.desc).map (fun d => d.parameters.length) = some 3 := ⟨rfl, dc_X4.1, dc_X4.2, dp_25⟩
theorem dd_X4_price : yX4_price.cls = RX4 ∧ yX4_price.cls ≠ "java/lang/invoke/MethodHandle" ∧ yX4_price.cls ≠ "java/lang/invoke/VarHandle" ∧ (parseMethodDescriptor yX4_price.desc).map (fun d => d.parameters.length) = some 2 := ⟨rfl, dc_X4.1, dc_X4.2, dp_0⟩
theorem dd_X4_window : yX4_window.cls = RX4 ∧ yX4_window.cls ≠ "java/lang/invoke/MethodHandle" ∧ yX4_window.cls ≠ "java/lang/invoke/VarHandle" ∧ (parseMethodDescriptor yX4_window.desc).map (fun d => d.parameters.length) = some 4 := ⟨rfl, dc_X4.1, dc_X4.2, dp_24⟩
theorem dd_X4_isWindow : yX4_isWindow.cls = RX4 ∧ yX4_isWindow.cls ≠ "java/lang/invoke/MethodHandle" ∧ yX4_isWindow.cls ≠ "java/lang/invoke/VarHandle" ∧ (parseMethodDescriptor yX4_isWindow.desc).map (fun d => d.parameters.length) = some 1 := ⟨rfl, dc_X4.1, dc_X4.2, dp_2⟩
theorem dd_X4_windowOf : yX4_windowOf.cls = RX4 ∧ yX4_windowOf.cls ≠ "java/lang/invoke/MethodHandle" ∧ yX4_windowOf.cls ≠ "java/lang/invoke/VarHandle" ∧ (parseMethodDescriptor yX4_windowOf.desc).map (fun d => d.parameters.length) = some 2 := ⟨rfl, dc_X4.1, dc_X4.2, dp_0⟩
theorem dd_X4_windowLimit : yX4_windowLimit.cls = RX4 ∧ yX4_windowLimit.cls ≠ "java/lang/invoke/MethodHandle" ∧ yX4_windowLimit.cls ≠ "java/lang/invoke/VarHandle" ∧ (parseMethodDescriptor yX4_windowLimit.desc).map (fun d => d.parameters.length) = some 1 := ⟨rfl, dc_X4.1, dc_X4.2, dp_1⟩
theorem dd_X4_turn : yX4_turn.cls = RX4 ∧ yX4_turn.cls ≠ "java/lang/invoke/MethodHandle" ∧ yX4_turn.cls ≠ "java/lang/invoke/VarHandle" ∧ (parseMethodDescriptor yX4_turn.desc).map (fun d => d.parameters.length) = some 3 := ⟨rfl, dc_X4.1, dc_X4.2, dp_25⟩
theorem dd_X4_contract : yX4_contract.cls = RX4 ∧ yX4_contract.cls ≠ "java/lang/invoke/MethodHandle" ∧ yX4_contract.cls ≠ "java/lang/invoke/VarHandle" ∧ (parseMethodDescriptor yX4_contract.desc).map (fun d => d.parameters.length) = some 3 := ⟨rfl, dc_X4.1, dc_X4.2, dp_25⟩
theorem dd_X4_purse : yX4_purse.cls = RX4 ∧ yX4_purse.cls ≠ "java/lang/invoke/MethodHandle" ∧ yX4_purse.cls ≠ "java/lang/invoke/VarHandle" ∧ (parseMethodDescriptor yX4_purse.desc).map (fun d => d.parameters.length) = some 1 := ⟨rfl, dc_X4.1, dc_X4.2, dp_1⟩
theorem dd_X4_sees : yX4_sees.cls = RX4 ∧ yX4_sees.cls ≠ "java/lang/invoke/MethodHandle" ∧ yX4_sees.cls ≠ "java/lang/invoke/VarHandle" ∧ (parseMethodDescriptor yX4_sees.desc).map (fun d => d.parameters.length) = some 2 := ⟨rfl, dc_X4.1, dc_X4.2, dp_0⟩
theorem dd_X4_view : yX4_view.cls = RX4 ∧ yX4_view.cls ≠ "java/lang/invoke/MethodHandle" ∧ yX4_view.cls ≠ "java/lang/invoke/VarHandle" ∧ (parseMethodDescriptor yX4_view.desc).map (fun d => d.parameters.length) = some 1 := ⟨rfl, dc_X4.1, dc_X4.2, dp_1⟩
theorem dd_X4_share : yX4_share.cls = RX4 ∧ yX4_share.cls ≠ "java/lang/invoke/MethodHandle" ∧ yX4_share.cls ≠ "java/lang/invoke/VarHandle" ∧ (parseMethodDescriptor yX4_share.desc).map (fun d => d.parameters.length) = some 2 := ⟨rfl, dc_X4.1, dc_X4.2, dp_0⟩
theorem dd_X4_lots : yX4_lots.cls = RX4 ∧ yX4_lots.cls ≠ "java/lang/invoke/MethodHandle" ∧ yX4_lots.cls ≠ "java/lang/invoke/VarHandle" ∧ (parseMethodDescriptor yX4_lots.desc).map (fun d => d.parameters.length) = some 1 := ⟨rfl, dc_X4.1, dc_X4.2, dp_1⟩
theorem dd_X4_watched : yX4_watched.cls = RX4 ∧ yX4_watched.cls ≠ "java/lang/invoke/MethodHandle" ∧ yX4_watched.cls ≠ "java/lang/invoke/VarHandle" ∧ (parseMethodDescriptor yX4_watched.desc).map (fun d => d.parameters.length) = some 1 := ⟨rfl, dc_X4.1, dc_X4.2, dp_1⟩
theorem dd_X4_rent : yX4_rent.cls = RX4 ∧ yX4_rent.cls ≠ "java/lang/invoke/MethodHandle" ∧ yX4_rent.cls ≠ "java/lang/invoke/VarHandle" ∧ (parseMethodDescriptor yX4_rent.desc).map (fun d => d.parameters.length) = some 1 := ⟨rfl, dc_X4.1, dc_X4.2, dp_1⟩
theorem dd_X4_gain : yX4_gain.cls = RX4 ∧ yX4_gain.cls ≠ "java/lang/invoke/MethodHandle" ∧ yX4_gain.cls ≠ "java/lang/invoke/VarHandle" ∧ (parseMethodDescriptor yX4_gain.desc).map (fun d => d.parameters.length) = some 1 := ⟨rfl, dc_X4.1, dc_X4.2, dp_1⟩
theorem dd_X4_broken : yX4_broken.cls = RX4 ∧ yX4_broken.cls ≠ "java/lang/invoke/MethodHandle" ∧ yX4_broken.cls ≠ "java/lang/invoke/VarHandle" ∧ (parseMethodDescriptor yX4_broken.desc).map (fun d => d.parameters.length) = some 0 := ⟨rfl, dc_X4.1, dc_X4.2, dp_16⟩
theorem dd_X4_passMonths : yX4_passMonths.cls = RX4 ∧ yX4_passMonths.cls ≠ "java/lang/invoke/MethodHandle" ∧ yX4_passMonths.cls ≠ "java/lang/invoke/VarHandle" ∧ (parseMethodDescriptor yX4_passMonths.desc).map (fun d => d.parameters.length) = some 2 := ⟨rfl, dc_X4.1, dc_X4.2, dp_5⟩
theorem dd_X4_months : yX4_months.cls = RX4 ∧ yX4_months.cls ≠ "java/lang/invoke/MethodHandle" ∧ yX4_months.cls ≠ "java/lang/invoke/VarHandle" ∧ (parseMethodDescriptor yX4_months.desc).map (fun d => d.parameters.length) = some 1 := ⟨rfl, dc_X4.1, dc_X4.2, dp_1⟩
theorem dd_X4_ahead : yX4_ahead.cls = RX4 ∧ yX4_ahead.cls ≠ "java/lang/invoke/MethodHandle" ∧ yX4_ahead.cls ≠ "java/lang/invoke/VarHandle" ∧ (parseMethodDescriptor yX4_ahead.desc).map (fun d => d.parameters.length) = some 2 := ⟨rfl, dc_X4.1, dc_X4.2, dp_0⟩
theorem dd_X4_tryUntilBroken : yX4_tryUntilBroken.cls = RX4 ∧ yX4_tryUntilBroken.cls ≠ "java/lang/invoke/MethodHandle" ∧ yX4_tryUntilBroken.cls ≠ "java/lang/invoke/VarHandle" ∧ (parseMethodDescriptor yX4_tryUntilBroken.desc).map (fun d => d.parameters.length) = some 1 := ⟨rfl, dc_X4.1, dc_X4.2, dp_1⟩
theorem dd_X4_breach : yX4_breach.cls = RX4 ∧ yX4_breach.cls ≠ "java/lang/invoke/MethodHandle" ∧ yX4_breach.cls ≠ "java/lang/invoke/VarHandle" ∧ (parseMethodDescriptor yX4_breach.desc).map (fun d => d.parameters.length) = some 1 := ⟨rfl, dc_X4.1, dc_X4.2, dp_1⟩
theorem dd_X4_isBrokenWithout : yX4_isBrokenWithout.cls = RX4 ∧ yX4_isBrokenWithout.cls ≠ "java/lang/invoke/MethodHandle" ∧ yX4_isBrokenWithout.cls ≠ "java/lang/invoke/VarHandle" ∧ (parseMethodDescriptor yX4_isBrokenWithout.desc).map (fun d => d.parameters.length) = some 2 := ⟨rfl, dc_X4.1, dc_X4.2, dp_22⟩
theorem dd_X4_blame : yX4_blame.cls = RX4 ∧ yX4_blame.cls ≠ "java/lang/invoke/MethodHandle" ∧ yX4_blame.cls ≠ "java/lang/invoke/VarHandle" ∧ (parseMethodDescriptor yX4_blame.desc).map (fun d => d.parameters.length) = some 1 := ⟨rfl, dc_X4.1, dc_X4.2, dp_1⟩
theorem dd_X4_bestFor : yX4_bestFor.cls = RX4 ∧ yX4_bestFor.cls ≠ "java/lang/invoke/MethodHandle" ∧ yX4_bestFor.cls ≠ "java/lang/invoke/VarHandle" ∧ (parseMethodDescriptor yX4_bestFor.desc).map (fun d => d.parameters.length) = some 2 := ⟨rfl, dc_X4.1, dc_X4.2, dp_0⟩
theorem dd_X4_paint : yX4_paint.cls = RX4 ∧ yX4_paint.cls ≠ "java/lang/invoke/MethodHandle" ∧ yX4_paint.cls ≠ "java/lang/invoke/VarHandle" ∧ (parseMethodDescriptor yX4_paint.desc).map (fun d => d.parameters.length) = some 1 := ⟨rfl, dc_X4.1, dc_X4.2, dp_1⟩
theorem dd_X4_height : yX4_height.cls = RX4 ∧ yX4_height.cls ≠ "java/lang/invoke/MethodHandle" ∧ yX4_height.cls ≠ "java/lang/invoke/VarHandle" ∧ (parseMethodDescriptor yX4_height.desc).map (fun d => d.parameters.length) = some 1 := ⟨rfl, dc_X4.1, dc_X4.2, dp_1⟩
theorem dd_X4_storey : yX4_storey.cls = RX4 ∧ yX4_storey.cls ≠ "java/lang/invoke/MethodHandle" ∧ yX4_storey.cls ≠ "java/lang/invoke/VarHandle" ∧ (parseMethodDescriptor yX4_storey.desc).map (fun d => d.parameters.length) = some 2 := ⟨rfl, dc_X4.1, dc_X4.2, dp_0⟩
theorem dd_X4_allowed : yX4_allowed.cls = RX4 ∧ yX4_allowed.cls ≠ "java/lang/invoke/MethodHandle" ∧ yX4_allowed.cls ≠ "java/lang/invoke/VarHandle" ∧ (parseMethodDescriptor yX4_allowed.desc).map (fun d => d.parameters.length) = some 1 := ⟨rfl, dc_X4.1, dc_X4.2, dp_1⟩
theorem dd_X4_opens : yX4_opens.cls = RX4 ∧ yX4_opens.cls ≠ "java/lang/invoke/MethodHandle" ∧ yX4_opens.cls ≠ "java/lang/invoke/VarHandle" ∧ (parseMethodDescriptor yX4_opens.desc).map (fun d => d.parameters.length) = some 1 := ⟨rfl, dc_X4.1, dc_X4.2, dp_1⟩
theorem dd_X4_level : yX4_level.cls = RX4 ∧ yX4_level.cls ≠ "java/lang/invoke/MethodHandle" ∧ yX4_level.cls ≠ "java/lang/invoke/VarHandle" ∧ (parseMethodDescriptor yX4_level.desc).map (fun d => d.parameters.length) = some 1 := ⟨rfl, dc_X4.1, dc_X4.2, dp_1⟩
theorem dd_X4_cheapest : yX4_cheapest.cls = RX4 ∧ yX4_cheapest.cls ≠ "java/lang/invoke/MethodHandle" ∧ yX4_cheapest.cls ≠ "java/lang/invoke/VarHandle" ∧ (parseMethodDescriptor yX4_cheapest.desc).map (fun d => d.parameters.length) = some 1 := ⟨rfl, dc_X4.1, dc_X4.2, dp_1⟩
theorem dd_X4_site : yX4_site.cls = RX4 ∧ yX4_site.cls ≠ "java/lang/invoke/MethodHandle" ∧ yX4_site.cls ≠ "java/lang/invoke/VarHandle" ∧ (parseMethodDescriptor yX4_site.desc).map (fun d => d.parameters.length) = some 3 := ⟨rfl, dc_X4.1, dc_X4.2, dp_25⟩
theorem dd_X4_worst : yX4_worst.cls = RX4 ∧ yX4_worst.cls ≠ "java/lang/invoke/MethodHandle" ∧ yX4_worst.cls ≠ "java/lang/invoke/VarHandle" ∧ (parseMethodDescriptor yX4_worst.desc).map (fun d => d.parameters.length) = some 1 := ⟨rfl, dc_X4.1, dc_X4.2, dp_1⟩
theorem dd_X4_bothGainIfLower : yX4_bothGainIfLower.cls = RX4 ∧ yX4_bothGainIfLower.cls ≠ "java/lang/invoke/MethodHandle" ∧ yX4_bothGainIfLower.cls ≠ "java/lang/invoke/VarHandle" ∧ (parseMethodDescriptor yX4_bothGainIfLower.desc).map (fun d => d.parameters.length) = some 2 := ⟨rfl, dc_X4.1, dc_X4.2, dp_22⟩
theorem dd_X4_trade : yX4_trade.cls = RX4 ∧ yX4_trade.cls ≠ "java/lang/invoke/MethodHandle" ∧ yX4_trade.cls ≠ "java/lang/invoke/VarHandle" ∧ (parseMethodDescriptor yX4_trade.desc).map (fun d => d.parameters.length) = some 2 := ⟨rfl, dc_X4.1, dc_X4.2, dp_0⟩
theorem dd_X4_swap : yX4_swap.cls = RX4 ∧ yX4_swap.cls ≠ "java/lang/invoke/MethodHandle" ∧ yX4_swap.cls ≠ "java/lang/invoke/VarHandle" ∧ (parseMethodDescriptor yX4_swap.desc).map (fun d => d.parameters.length) = some 2 := ⟨rfl, dc_X4.1, dc_X4.2, dp_0⟩
theorem dd_X4_spill : yX4_spill.cls = RX4 ∧ yX4_spill.cls ≠ "java/lang/invoke/MethodHandle" ∧ yX4_spill.cls ≠ "java/lang/invoke/VarHandle" ∧ (parseMethodDescriptor yX4_spill.desc).map (fun d => d.parameters.length) = some 1 := ⟨rfl, dc_X4.1, dc_X4.2, dp_1⟩
theorem dd_X4_seed : yX4_seed.cls = RX4 ∧ yX4_seed.cls ≠ "java/lang/invoke/MethodHandle" ∧ yX4_seed.cls ≠ "java/lang/invoke/VarHandle" ∧ (parseMethodDescriptor yX4_seed.desc).map (fun d => d.parameters.length) = some 1 := ⟨rfl, dc_X4.1, dc_X4.2, dp_1⟩
theorem dd_X4_feed : yX4_feed.cls = RX4 ∧ yX4_feed.cls ≠ "java/lang/invoke/MethodHandle" ∧ yX4_feed.cls ≠ "java/lang/invoke/VarHandle" ∧ (parseMethodDescriptor yX4_feed.desc).map (fun d => d.parameters.length) = some 2 := ⟨rfl, dc_X4.1, dc_X4.2, dp_0⟩
theorem dd_X4_wipe : yX4_wipe.cls = RX4 ∧ yX4_wipe.cls ≠ "java/lang/invoke/MethodHandle" ∧ yX4_wipe.cls ≠ "java/lang/invoke/VarHandle" ∧ (parseMethodDescriptor yX4_wipe.desc).map (fun d => d.parameters.length) = some 0 := ⟨rfl, dc_X4.1, dc_X4.2, dp_16⟩
theorem dd_X4_text : yX4_text.cls = RX4 ∧ yX4_text.cls ≠ "java/lang/invoke/MethodHandle" ∧ yX4_text.cls ≠ "java/lang/invoke/VarHandle" ∧ (parseMethodDescriptor yX4_text.desc).map (fun d => d.parameters.length) = some 0 := ⟨rfl, dc_X4.1, dc_X4.2, dp_16⟩
theorem dd_X4_hold : yX4_hold.cls = RX4 ∧ yX4_hold.cls ≠ "java/lang/invoke/MethodHandle" ∧ yX4_hold.cls ≠ "java/lang/invoke/VarHandle" ∧ (parseMethodDescriptor yX4_hold.desc).map (fun d => d.parameters.length) = some 2 := ⟨rfl, dc_X4.1, dc_X4.2, dp_0⟩
theorem dd_X4_kindAbove : yX4_kindAbove.cls = RX4 ∧ yX4_kindAbove.cls ≠ "java/lang/invoke/MethodHandle" ∧ yX4_kindAbove.cls ≠ "java/lang/invoke/VarHandle" ∧ (parseMethodDescriptor yX4_kindAbove.desc).map (fun d => d.parameters.length) = some 1 := ⟨rfl, dc_X4.1, dc_X4.2, dp_1⟩
theorem dd_X4_isOfKind : yX4_isOfKind.cls = RX4 ∧ yX4_isOfKind.cls ≠ "java/lang/invoke/MethodHandle" ∧ yX4_isOfKind.cls ≠ "java/lang/invoke/VarHandle" ∧ (parseMethodDescriptor yX4_isOfKind.desc).map (fun d => d.parameters.length) = some 2 := ⟨rfl, dc_X4.1, dc_X4.2, dp_22⟩
theorem dd_X4_as : yX4_as.cls = RX4 ∧ yX4_as.cls ≠ "java/lang/invoke/MethodHandle" ∧ yX4_as.cls ≠ "java/lang/invoke/VarHandle" ∧ (parseMethodDescriptor yX4_as.desc).map (fun d => d.parameters.length) = some 2 := ⟨rfl, dc_X4.1, dc_X4.2, dp_0⟩
theorem dd_X4_sheet : yX4_sheet.cls = RX4 ∧ yX4_sheet.cls ≠ "java/lang/invoke/MethodHandle" ∧ yX4_sheet.cls ≠ "java/lang/invoke/VarHandle" ∧ (parseMethodDescriptor yX4_sheet.desc).map (fun d => d.parameters.length) = some 3 := ⟨rfl, dc_X4.1, dc_X4.2, dp_25⟩
theorem dd_X4_write : yX4_write.cls = RX4 ∧ yX4_write.cls ≠ "java/lang/invoke/MethodHandle" ∧ yX4_write.cls ≠ "java/lang/invoke/VarHandle" ∧ (parseMethodDescriptor yX4_write.desc).map (fun d => d.parameters.length) = some 3 := ⟨rfl, dc_X4.1, dc_X4.2, dp_25⟩
theorem dp_26 : (parseMethodDescriptor "(IIIII)I").map (fun d => d.parameters.length) = some 5 := by decide +kernel
theorem dd_X4_copy : yX4_copy.cls = RX4 ∧ yX4_copy.cls ≠ "java/lang/invoke/MethodHandle" ∧ yX4_copy.cls ≠ "java/lang/invoke/VarHandle" ∧ (parseMethodDescriptor yX4_copy.desc).map (fun d => d.parameters.length) = some 5 := ⟨rfl, dc_X4.1, dc_X4.2, dp_26⟩
theorem dd_X4_load : yX4_load.cls = RX4 ∧ yX4_load.cls ≠ "java/lang/invoke/MethodHandle" ∧ yX4_load.cls ≠ "java/lang/invoke/VarHandle" ∧ (parseMethodDescriptor yX4_load.desc).map (fun d => d.parameters.length) = some 2 := ⟨rfl, dc_X4.1, dc_X4.2, dp_0⟩
theorem dd_X4_judge : yX4_judge.cls = RX4 ∧ yX4_judge.cls ≠ "java/lang/invoke/MethodHandle" ∧ yX4_judge.cls ≠ "java/lang/invoke/VarHandle" ∧ (parseMethodDescriptor yX4_judge.desc).map (fun d => d.parameters.length) = some 2 := ⟨rfl, dc_X4.1, dc_X4.2, dp_0⟩
theorem dd_X4_image : yX4_image.cls = RX4 ∧ yX4_image.cls ≠ "java/lang/invoke/MethodHandle" ∧ yX4_image.cls ≠ "java/lang/invoke/VarHandle" ∧ (parseMethodDescriptor yX4_image.desc).map (fun d => d.parameters.length) = some 0 := ⟨rfl, dc_X4.1, dc_X4.2, dp_16⟩
theorem dd_X4_undo : yX4_undo.cls = RX4 ∧ yX4_undo.cls ≠ "java/lang/invoke/MethodHandle" ∧ yX4_undo.cls ≠ "java/lang/invoke/VarHandle" ∧ (parseMethodDescriptor yX4_undo.desc).map (fun d => d.parameters.length) = some 0 := ⟨rfl, dc_X4.1, dc_X4.2, dp_16⟩
theorem dd_X4_tear : yX4_tear.cls = RX4 ∧ yX4_tear.cls ≠ "java/lang/invoke/MethodHandle" ∧ yX4_tear.cls ≠ "java/lang/invoke/VarHandle" ∧ (parseMethodDescriptor yX4_tear.desc).map (fun d => d.parameters.length) = some 0 := ⟨rfl, dc_X4.1, dc_X4.2, dp_16⟩
theorem dd_X4_count : yX4_count.cls = RX4 ∧ yX4_count.cls ≠ "java/lang/invoke/MethodHandle" ∧ yX4_count.cls ≠ "java/lang/invoke/VarHandle" ∧ (parseMethodDescriptor yX4_count.desc).map (fun d => d.parameters.length) = some 1 := ⟨rfl, dc_X4.1, dc_X4.2, dp_1⟩
theorem dd_X4_status : yX4_status.cls = RX4 ∧ yX4_status.cls ≠ "java/lang/invoke/MethodHandle" ∧ yX4_status.cls ≠ "java/lang/invoke/VarHandle" ∧ (parseMethodDescriptor yX4_status.desc).map (fun d => d.parameters.length) = some 1 := ⟨rfl, dc_X4.1, dc_X4.2, dp_1⟩
theorem dc_X5 : RX5 ≠ "java/lang/invoke/MethodHandle" ∧ RX5 ≠ "java/lang/invoke/VarHandle" := by decide +kernel
theorem dp_27 : (parseMethodDescriptor "(JJJ)Z").map (fun d => d.parameters.length) = some 3 := by decide +kernel
theorem dd_X5_in : yX5_in.cls = RX5 ∧ yX5_in.cls ≠ "java/lang/invoke/MethodHandle" ∧ yX5_in.cls ≠ "java/lang/invoke/VarHandle" ∧ (parseMethodDescriptor yX5_in.desc).map (fun d => d.parameters.length) = some 3 := ⟨rfl, dc_X5.1, dc_X5.2, dp_27⟩
theorem dd_X5_finds : yX5_finds.cls = RX5 ∧ yX5_finds.cls ≠ "java/lang/invoke/MethodHandle" ∧ yX5_finds.cls ≠ "java/lang/invoke/VarHandle" ∧ (parseMethodDescriptor yX5_finds.desc).map (fun d => d.parameters.length) = some 1 := ⟨rfl, dc_X5.1, dc_X5.2, dp_1⟩
theorem dd_X5_isLot : yX5_isLot.cls = RX5 ∧ yX5_isLot.cls ≠ "java/lang/invoke/MethodHandle" ∧ yX5_isLot.cls ≠ "java/lang/invoke/VarHandle" ∧ (parseMethodDescriptor yX5_isLot.desc).map (fun d => d.parameters.length) = some 1 := ⟨rfl, dc_X5.1, dc_X5.2, dp_2⟩
theorem dd_X5_isOwner : yX5_isOwner.cls = RX5 ∧ yX5_isOwner.cls ≠ "java/lang/invoke/MethodHandle" ∧ yX5_isOwner.cls ≠ "java/lang/invoke/VarHandle" ∧ (parseMethodDescriptor yX5_isOwner.desc).map (fun d => d.parameters.length) = some 1 := ⟨rfl, dc_X5.1, dc_X5.2, dp_2⟩
theorem dd_X5_isHeight : yX5_isHeight.cls = RX5 ∧ yX5_isHeight.cls ≠ "java/lang/invoke/MethodHandle" ∧ yX5_isHeight.cls ≠ "java/lang/invoke/VarHandle" ∧ (parseMethodDescriptor yX5_isHeight.desc).map (fun d => d.parameters.length) = some 1 := ⟨rfl, dc_X5.1, dc_X5.2, dp_2⟩
theorem dd_X5_isWindow : yX5_isWindow.cls = RX5 ∧ yX5_isWindow.cls ≠ "java/lang/invoke/MethodHandle" ∧ yX5_isWindow.cls ≠ "java/lang/invoke/VarHandle" ∧ (parseMethodDescriptor yX5_isWindow.desc).map (fun d => d.parameters.length) = some 1 := ⟨rfl, dc_X5.1, dc_X5.2, dp_2⟩
theorem dd_X5_ones : yX5_ones.cls = RX5 ∧ yX5_ones.cls ≠ "java/lang/invoke/MethodHandle" ∧ yX5_ones.cls ≠ "java/lang/invoke/VarHandle" ∧ (parseMethodDescriptor yX5_ones.desc).map (fun d => d.parameters.length) = some 1 := ⟨rfl, dc_X5.1, dc_X5.2, dp_1⟩
theorem dd_X5_draw : yX5_draw.cls = RX5 ∧ yX5_draw.cls ≠ "java/lang/invoke/MethodHandle" ∧ yX5_draw.cls ≠ "java/lang/invoke/VarHandle" ∧ (parseMethodDescriptor yX5_draw.desc).map (fun d => d.parameters.length) = some 0 := ⟨rfl, dc_X5.1, dc_X5.2, dp_16⟩
theorem dd_X5_puts : yX5_puts.cls = RX5 ∧ yX5_puts.cls ≠ "java/lang/invoke/MethodHandle" ∧ yX5_puts.cls ≠ "java/lang/invoke/VarHandle" ∧ (parseMethodDescriptor yX5_puts.desc).map (fun d => d.parameters.length) = some 0 := ⟨rfl, dc_X5.1, dc_X5.2, dp_14⟩
theorem dd_X5_putsBack : yX5_putsBack.cls = RX5 ∧ yX5_putsBack.cls ≠ "java/lang/invoke/MethodHandle" ∧ yX5_putsBack.cls ≠ "java/lang/invoke/VarHandle" ∧ (parseMethodDescriptor yX5_putsBack.desc).map (fun d => d.parameters.length) = some 0 := ⟨rfl, dc_X5.1, dc_X5.2, dp_14⟩
theorem dd_X5_at : yX5_at.cls = RX5 ∧ yX5_at.cls ≠ "java/lang/invoke/MethodHandle" ∧ yX5_at.cls ≠ "java/lang/invoke/VarHandle" ∧ (parseMethodDescriptor yX5_at.desc).map (fun d => d.parameters.length) = some 2 := ⟨rfl, dc_X5.1, dc_X5.2, dp_0⟩
theorem dd_X5_its : yX5_its.cls = RX5 ∧ yX5_its.cls ≠ "java/lang/invoke/MethodHandle" ∧ yX5_its.cls ≠ "java/lang/invoke/VarHandle" ∧ (parseMethodDescriptor yX5_its.desc).map (fun d => d.parameters.length) = some 2 := ⟨rfl, dc_X5.1, dc_X5.2, dp_0⟩
theorem dd_X5_isThing : yX5_isThing.cls = RX5 ∧ yX5_isThing.cls ≠ "java/lang/invoke/MethodHandle" ∧ yX5_isThing.cls ≠ "java/lang/invoke/VarHandle" ∧ (parseMethodDescriptor yX5_isThing.desc).map (fun d => d.parameters.length) = some 1 := ⟨rfl, dc_X5.1, dc_X5.2, dp_2⟩
theorem dd_X5_things : yX5_things.cls = RX5 ∧ yX5_things.cls ≠ "java/lang/invoke/MethodHandle" ∧ yX5_things.cls ≠ "java/lang/invoke/VarHandle" ∧ (parseMethodDescriptor yX5_things.desc).map (fun d => d.parameters.length) = some 0 := ⟨rfl, dc_X5.1, dc_X5.2, dp_16⟩
theorem dd_X5_builds : yX5_builds.cls = RX5 ∧ yX5_builds.cls ≠ "java/lang/invoke/MethodHandle" ∧ yX5_builds.cls ≠ "java/lang/invoke/VarHandle" ∧ (parseMethodDescriptor yX5_builds.desc).map (fun d => d.parameters.length) = some 5 := ⟨rfl, dc_X5.1, dc_X5.2, dp_19⟩
theorem dd_X5_build : yX5_build.cls = RX5 ∧ yX5_build.cls ≠ "java/lang/invoke/MethodHandle" ∧ yX5_build.cls ≠ "java/lang/invoke/VarHandle" ∧ (parseMethodDescriptor yX5_build.desc).map (fun d => d.parameters.length) = some 4 := ⟨rfl, dc_X5.1, dc_X5.2, dp_24⟩
theorem dd_X5_lotWrong : yX5_lotWrong.cls = RX5 ∧ yX5_lotWrong.cls ≠ "java/lang/invoke/MethodHandle" ∧ yX5_lotWrong.cls ≠ "java/lang/invoke/VarHandle" ∧ (parseMethodDescriptor yX5_lotWrong.desc).map (fun d => d.parameters.length) = some 1 := ⟨rfl, dc_X5.1, dc_X5.2, dp_1⟩
theorem dd_X5_clear : yX5_clear.cls = RX5 ∧ yX5_clear.cls ≠ "java/lang/invoke/MethodHandle" ∧ yX5_clear.cls ≠ "java/lang/invoke/VarHandle" ∧ (parseMethodDescriptor yX5_clear.desc).map (fun d => d.parameters.length) = some 1 := ⟨rfl, dc_X5.1, dc_X5.2, dp_1⟩
theorem dd_X5_isSummer : yX5_isSummer.cls = RX5 ∧ yX5_isSummer.cls ≠ "java/lang/invoke/MethodHandle" ∧ yX5_isSummer.cls ≠ "java/lang/invoke/VarHandle" ∧ (parseMethodDescriptor yX5_isSummer.desc).map (fun d => d.parameters.length) = some 0 := ⟨rfl, dc_X5.1, dc_X5.2, dp_3⟩
theorem dd_X5_stands : yX5_stands.cls = RX5 ∧ yX5_stands.cls ≠ "java/lang/invoke/MethodHandle" ∧ yX5_stands.cls ≠ "java/lang/invoke/VarHandle" ∧ (parseMethodDescriptor yX5_stands.desc).map (fun d => d.parameters.length) = some 1 := ⟨rfl, dc_X5.1, dc_X5.2, dp_1⟩
theorem dd_X5_grows : yX5_grows.cls = RX5 ∧ yX5_grows.cls ≠ "java/lang/invoke/MethodHandle" ∧ yX5_grows.cls ≠ "java/lang/invoke/VarHandle" ∧ (parseMethodDescriptor yX5_grows.desc).map (fun d => d.parameters.length) = some 1 := ⟨rfl, dc_X5.1, dc_X5.2, dp_1⟩
theorem dd_X5_priceOf : yX5_priceOf.cls = RX5 ∧ yX5_priceOf.cls ≠ "java/lang/invoke/MethodHandle" ∧ yX5_priceOf.cls ≠ "java/lang/invoke/VarHandle" ∧ (parseMethodDescriptor yX5_priceOf.desc).map (fun d => d.parameters.length) = some 1 := ⟨rfl, dc_X5.1, dc_X5.2, dp_1⟩
theorem dd_X5_of : yX5_of.cls = RX5 ∧ yX5_of.cls ≠ "java/lang/invoke/MethodHandle" ∧ yX5_of.cls ≠ "java/lang/invoke/VarHandle" ∧ (parseMethodDescriptor yX5_of.desc).map (fun d => d.parameters.length) = some 2 := ⟨rfl, dc_X5.1, dc_X5.2, dp_0⟩
theorem dd_X5_change : yX5_change.cls = RX5 ∧ yX5_change.cls ≠ "java/lang/invoke/MethodHandle" ∧ yX5_change.cls ≠ "java/lang/invoke/VarHandle" ∧ (parseMethodDescriptor yX5_change.desc).map (fun d => d.parameters.length) = some 3 := ⟨rfl, dc_X5.1, dc_X5.2, dp_25⟩
theorem dd_X5_price : yX5_price.cls = RX5 ∧ yX5_price.cls ≠ "java/lang/invoke/MethodHandle" ∧ yX5_price.cls ≠ "java/lang/invoke/VarHandle" ∧ (parseMethodDescriptor yX5_price.desc).map (fun d => d.parameters.length) = some 2 := ⟨rfl, dc_X5.1, dc_X5.2, dp_0⟩
theorem dd_X5_where : yX5_where.cls = RX5 ∧ yX5_where.cls ≠ "java/lang/invoke/MethodHandle" ∧ yX5_where.cls ≠ "java/lang/invoke/VarHandle" ∧ (parseMethodDescriptor yX5_where.desc).map (fun d => d.parameters.length) = some 2 := ⟨rfl, dc_X5.1, dc_X5.2, dp_0⟩
theorem dd_X5_told : yX5_told.cls = RX5 ∧ yX5_told.cls ≠ "java/lang/invoke/MethodHandle" ∧ yX5_told.cls ≠ "java/lang/invoke/VarHandle" ∧ (parseMethodDescriptor yX5_told.desc).map (fun d => d.parameters.length) = some 2 := ⟨rfl, dc_X5.1, dc_X5.2, dp_0⟩
theorem dd_X5_newWindow : yX5_newWindow.cls = RX5 ∧ yX5_newWindow.cls ≠ "java/lang/invoke/MethodHandle" ∧ yX5_newWindow.cls ≠ "java/lang/invoke/VarHandle" ∧ (parseMethodDescriptor yX5_newWindow.desc).map (fun d => d.parameters.length) = some 4 := ⟨rfl, dc_X5.1, dc_X5.2, dp_24⟩
theorem dd_X5_window : yX5_window.cls = RX5 ∧ yX5_window.cls ≠ "java/lang/invoke/MethodHandle" ∧ yX5_window.cls ≠ "java/lang/invoke/VarHandle" ∧ (parseMethodDescriptor yX5_window.desc).map (fun d => d.parameters.length) = some 4 := ⟨rfl, dc_X5.1, dc_X5.2, dp_24⟩
theorem dd_X5_windowOf : yX5_windowOf.cls = RX5 ∧ yX5_windowOf.cls ≠ "java/lang/invoke/MethodHandle" ∧ yX5_windowOf.cls ≠ "java/lang/invoke/VarHandle" ∧ (parseMethodDescriptor yX5_windowOf.desc).map (fun d => d.parameters.length) = some 2 := ⟨rfl, dc_X5.1, dc_X5.2, dp_0⟩
theorem dd_X5_turn : yX5_turn.cls = RX5 ∧ yX5_turn.cls ≠ "java/lang/invoke/MethodHandle" ∧ yX5_turn.cls ≠ "java/lang/invoke/VarHandle" ∧ (parseMethodDescriptor yX5_turn.desc).map (fun d => d.parameters.length) = some 3 := ⟨rfl, dc_X5.1, dc_X5.2, dp_25⟩
theorem dd_X5_lotAt : yX5_lotAt.cls = RX5 ∧ yX5_lotAt.cls ≠ "java/lang/invoke/MethodHandle" ∧ yX5_lotAt.cls ≠ "java/lang/invoke/VarHandle" ∧ (parseMethodDescriptor yX5_lotAt.desc).map (fun d => d.parameters.length) = some 3 := ⟨rfl, dc_X5.1, dc_X5.2, dp_25⟩
theorem dd_X5_seen : yX5_seen.cls = RX5 ∧ yX5_seen.cls ≠ "java/lang/invoke/MethodHandle" ∧ yX5_seen.cls ≠ "java/lang/invoke/VarHandle" ∧ (parseMethodDescriptor yX5_seen.desc).map (fun d => d.parameters.length) = some 2 := ⟨rfl, dc_X5.1, dc_X5.2, dp_0⟩
theorem dd_X5_looks : yX5_looks.cls = RX5 ∧ yX5_looks.cls ≠ "java/lang/invoke/MethodHandle" ∧ yX5_looks.cls ≠ "java/lang/invoke/VarHandle" ∧ (parseMethodDescriptor yX5_looks.desc).map (fun d => d.parameters.length) = some 1 := ⟨rfl, dc_X5.1, dc_X5.2, dp_13⟩
theorem dd_X5_isBroken : yX5_isBroken.cls = RX5 ∧ yX5_isBroken.cls ≠ "java/lang/invoke/MethodHandle" ∧ yX5_isBroken.cls ≠ "java/lang/invoke/VarHandle" ∧ (parseMethodDescriptor yX5_isBroken.desc).map (fun d => d.parameters.length) = some 1 := ⟨rfl, dc_X5.1, dc_X5.2, dp_2⟩
theorem dd_X5_contract : yX5_contract.cls = RX5 ∧ yX5_contract.cls ≠ "java/lang/invoke/MethodHandle" ∧ yX5_contract.cls ≠ "java/lang/invoke/VarHandle" ∧ (parseMethodDescriptor yX5_contract.desc).map (fun d => d.parameters.length) = some 3 := ⟨rfl, dc_X5.1, dc_X5.2, dp_25⟩
theorem dd_X5_purse : yX5_purse.cls = RX5 ∧ yX5_purse.cls ≠ "java/lang/invoke/MethodHandle" ∧ yX5_purse.cls ≠ "java/lang/invoke/VarHandle" ∧ (parseMethodDescriptor yX5_purse.desc).map (fun d => d.parameters.length) = some 1 := ⟨rfl, dc_X5.1, dc_X5.2, dp_1⟩
theorem dd_X5_sees : yX5_sees.cls = RX5 ∧ yX5_sees.cls ≠ "java/lang/invoke/MethodHandle" ∧ yX5_sees.cls ≠ "java/lang/invoke/VarHandle" ∧ (parseMethodDescriptor yX5_sees.desc).map (fun d => d.parameters.length) = some 2 := ⟨rfl, dc_X5.1, dc_X5.2, dp_0⟩
theorem dd_X5_view : yX5_view.cls = RX5 ∧ yX5_view.cls ≠ "java/lang/invoke/MethodHandle" ∧ yX5_view.cls ≠ "java/lang/invoke/VarHandle" ∧ (parseMethodDescriptor yX5_view.desc).map (fun d => d.parameters.length) = some 1 := ⟨rfl, dc_X5.1, dc_X5.2, dp_1⟩
theorem dd_X5_share : yX5_share.cls = RX5 ∧ yX5_share.cls ≠ "java/lang/invoke/MethodHandle" ∧ yX5_share.cls ≠ "java/lang/invoke/VarHandle" ∧ (parseMethodDescriptor yX5_share.desc).map (fun d => d.parameters.length) = some 2 := ⟨rfl, dc_X5.1, dc_X5.2, dp_0⟩
theorem dd_X5_lots : yX5_lots.cls = RX5 ∧ yX5_lots.cls ≠ "java/lang/invoke/MethodHandle" ∧ yX5_lots.cls ≠ "java/lang/invoke/VarHandle" ∧ (parseMethodDescriptor yX5_lots.desc).map (fun d => d.parameters.length) = some 1 := ⟨rfl, dc_X5.1, dc_X5.2, dp_1⟩
theorem dd_X5_watched : yX5_watched.cls = RX5 ∧ yX5_watched.cls ≠ "java/lang/invoke/MethodHandle" ∧ yX5_watched.cls ≠ "java/lang/invoke/VarHandle" ∧ (parseMethodDescriptor yX5_watched.desc).map (fun d => d.parameters.length) = some 1 := ⟨rfl, dc_X5.1, dc_X5.2, dp_1⟩
theorem dd_X5_rent : yX5_rent.cls = RX5 ∧ yX5_rent.cls ≠ "java/lang/invoke/MethodHandle" ∧ yX5_rent.cls ≠ "java/lang/invoke/VarHandle" ∧ (parseMethodDescriptor yX5_rent.desc).map (fun d => d.parameters.length) = some 1 := ⟨rfl, dc_X5.1, dc_X5.2, dp_1⟩
theorem dd_X5_findGains : yX5_findGains.cls = RX5 ∧ yX5_findGains.cls ≠ "java/lang/invoke/MethodHandle" ∧ yX5_findGains.cls ≠ "java/lang/invoke/VarHandle" ∧ (parseMethodDescriptor yX5_findGains.desc).map (fun d => d.parameters.length) = some 0 := ⟨rfl, dc_X5.1, dc_X5.2, dp_16⟩
theorem dd_X5_gainOf : yX5_gainOf.cls = RX5 ∧ yX5_gainOf.cls ≠ "java/lang/invoke/MethodHandle" ∧ yX5_gainOf.cls ≠ "java/lang/invoke/VarHandle" ∧ (parseMethodDescriptor yX5_gainOf.desc).map (fun d => d.parameters.length) = some 1 := ⟨rfl, dc_X5.1, dc_X5.2, dp_1⟩
theorem dd_X5_gain : yX5_gain.cls = RX5 ∧ yX5_gain.cls ≠ "java/lang/invoke/MethodHandle" ∧ yX5_gain.cls ≠ "java/lang/invoke/VarHandle" ∧ (parseMethodDescriptor yX5_gain.desc).map (fun d => d.parameters.length) = some 1 := ⟨rfl, dc_X5.1, dc_X5.2, dp_1⟩
theorem dd_X5_brokenSet : yX5_brokenSet.cls = RX5 ∧ yX5_brokenSet.cls ≠ "java/lang/invoke/MethodHandle" ∧ yX5_brokenSet.cls ≠ "java/lang/invoke/VarHandle" ∧ (parseMethodDescriptor yX5_brokenSet.desc).map (fun d => d.parameters.length) = some 0 := ⟨rfl, dc_X5.1, dc_X5.2, dp_16⟩
theorem dd_X5_broken : yX5_broken.cls = RX5 ∧ yX5_broken.cls ≠ "java/lang/invoke/MethodHandle" ∧ yX5_broken.cls ≠ "java/lang/invoke/VarHandle" ∧ (parseMethodDescriptor yX5_broken.desc).map (fun d => d.parameters.length) = some 0 := ⟨rfl, dc_X5.1, dc_X5.2, dp_16⟩
theorem dd_X5_month : yX5_month.cls = RX5 ∧ yX5_month.cls ≠ "java/lang/invoke/MethodHandle" ∧ yX5_month.cls ≠ "java/lang/invoke/VarHandle" ∧ (parseMethodDescriptor yX5_month.desc).map (fun d => d.parameters.length) = some 0 := ⟨rfl, dc_X5.1, dc_X5.2, dp_16⟩
theorem dd_X5_monthsGo : yX5_monthsGo.cls = RX5 ∧ yX5_monthsGo.cls ≠ "java/lang/invoke/MethodHandle" ∧ yX5_monthsGo.cls ≠ "java/lang/invoke/VarHandle" ∧ (parseMethodDescriptor yX5_monthsGo.desc).map (fun d => d.parameters.length) = some 1 := ⟨rfl, dc_X5.1, dc_X5.2, dp_1⟩
theorem dd_X5_isTooLate : yX5_isTooLate.cls = RX5 ∧ yX5_isTooLate.cls ≠ "java/lang/invoke/MethodHandle" ∧ yX5_isTooLate.cls ≠ "java/lang/invoke/VarHandle" ∧ (parseMethodDescriptor yX5_isTooLate.desc).map (fun d => d.parameters.length) = some 1 := ⟨rfl, dc_X5.1, dc_X5.2, dp_2⟩
theorem dd_X5_months : yX5_months.cls = RX5 ∧ yX5_months.cls ≠ "java/lang/invoke/MethodHandle" ∧ yX5_months.cls ≠ "java/lang/invoke/VarHandle" ∧ (parseMethodDescriptor yX5_months.desc).map (fun d => d.parameters.length) = some 1 := ⟨rfl, dc_X5.1, dc_X5.2, dp_1⟩
theorem dd_X5_allViews : yX5_allViews.cls = RX5 ∧ yX5_allViews.cls ≠ "java/lang/invoke/MethodHandle" ∧ yX5_allViews.cls ≠ "java/lang/invoke/VarHandle" ∧ (parseMethodDescriptor yX5_allViews.desc).map (fun d => d.parameters.length) = some 0 := ⟨rfl, dc_X5.1, dc_X5.2, dp_16⟩
theorem dd_X5_ahead : yX5_ahead.cls = RX5 ∧ yX5_ahead.cls ≠ "java/lang/invoke/MethodHandle" ∧ yX5_ahead.cls ≠ "java/lang/invoke/VarHandle" ∧ (parseMethodDescriptor yX5_ahead.desc).map (fun d => d.parameters.length) = some 2 := ⟨rfl, dc_X5.1, dc_X5.2, dp_0⟩
theorem dd_X5_breaks : yX5_breaks.cls = RX5 ∧ yX5_breaks.cls ≠ "java/lang/invoke/MethodHandle" ∧ yX5_breaks.cls ≠ "java/lang/invoke/VarHandle" ∧ (parseMethodDescriptor yX5_breaks.desc).map (fun d => d.parameters.length) = some 1 := ⟨rfl, dc_X5.1, dc_X5.2, dp_1⟩
theorem dd_X5_isLate : yX5_isLate.cls = RX5 ∧ yX5_isLate.cls ≠ "java/lang/invoke/MethodHandle" ∧ yX5_isLate.cls ≠ "java/lang/invoke/VarHandle" ∧ (parseMethodDescriptor yX5_isLate.desc).map (fun d => d.parameters.length) = some 1 := ⟨rfl, dc_X5.1, dc_X5.2, dp_2⟩
theorem dd_X5_breach : yX5_breach.cls = RX5 ∧ yX5_breach.cls ≠ "java/lang/invoke/MethodHandle" ∧ yX5_breach.cls ≠ "java/lang/invoke/VarHandle" ∧ (parseMethodDescriptor yX5_breach.desc).map (fun d => d.parameters.length) = some 1 := ⟨rfl, dc_X5.1, dc_X5.2, dp_1⟩
theorem dd_X5_blame : yX5_blame.cls = RX5 ∧ yX5_blame.cls ≠ "java/lang/invoke/MethodHandle" ∧ yX5_blame.cls ≠ "java/lang/invoke/VarHandle" ∧ (parseMethodDescriptor yX5_blame.desc).map (fun d => d.parameters.length) = some 1 := ⟨rfl, dc_X5.1, dc_X5.2, dp_1⟩
theorem dd_X5_bestPart : yX5_bestPart.cls = RX5 ∧ yX5_bestPart.cls ≠ "java/lang/invoke/MethodHandle" ∧ yX5_bestPart.cls ≠ "java/lang/invoke/VarHandle" ∧ (parseMethodDescriptor yX5_bestPart.desc).map (fun d => d.parameters.length) = some 3 := ⟨rfl, dc_X5.1, dc_X5.2, dp_25⟩
theorem dd_X5_paint : yX5_paint.cls = RX5 ∧ yX5_paint.cls ≠ "java/lang/invoke/MethodHandle" ∧ yX5_paint.cls ≠ "java/lang/invoke/VarHandle" ∧ (parseMethodDescriptor yX5_paint.desc).map (fun d => d.parameters.length) = some 1 := ⟨rfl, dc_X5.1, dc_X5.2, dp_1⟩
theorem dd_X5_height : yX5_height.cls = RX5 ∧ yX5_height.cls ≠ "java/lang/invoke/MethodHandle" ∧ yX5_height.cls ≠ "java/lang/invoke/VarHandle" ∧ (parseMethodDescriptor yX5_height.desc).map (fun d => d.parameters.length) = some 1 := ⟨rfl, dc_X5.1, dc_X5.2, dp_1⟩
theorem dd_X5_storey : yX5_storey.cls = RX5 ∧ yX5_storey.cls ≠ "java/lang/invoke/MethodHandle" ∧ yX5_storey.cls ≠ "java/lang/invoke/VarHandle" ∧ (parseMethodDescriptor yX5_storey.desc).map (fun d => d.parameters.length) = some 2 := ⟨rfl, dc_X5.1, dc_X5.2, dp_0⟩
theorem dd_X5_allowed : yX5_allowed.cls = RX5 ∧ yX5_allowed.cls ≠ "java/lang/invoke/MethodHandle" ∧ yX5_allowed.cls ≠ "java/lang/invoke/VarHandle" ∧ (parseMethodDescriptor yX5_allowed.desc).map (fun d => d.parameters.length) = some 1 := ⟨rfl, dc_X5.1, dc_X5.2, dp_1⟩
theorem dd_X5_viewOf : yX5_viewOf.cls = RX5 ∧ yX5_viewOf.cls ≠ "java/lang/invoke/MethodHandle" ∧ yX5_viewOf.cls ≠ "java/lang/invoke/VarHandle" ∧ (parseMethodDescriptor yX5_viewOf.desc).map (fun d => d.parameters.length) = some 1 := ⟨rfl, dc_X5.1, dc_X5.2, dp_1⟩
theorem dd_X5_opens : yX5_opens.cls = RX5 ∧ yX5_opens.cls ≠ "java/lang/invoke/MethodHandle" ∧ yX5_opens.cls ≠ "java/lang/invoke/VarHandle" ∧ (parseMethodDescriptor yX5_opens.desc).map (fun d => d.parameters.length) = some 1 := ⟨rfl, dc_X5.1, dc_X5.2, dp_1⟩
theorem dd_X5_level : yX5_level.cls = RX5 ∧ yX5_level.cls ≠ "java/lang/invoke/MethodHandle" ∧ yX5_level.cls ≠ "java/lang/invoke/VarHandle" ∧ (parseMethodDescriptor yX5_level.desc).map (fun d => d.parameters.length) = some 1 := ⟨rfl, dc_X5.1, dc_X5.2, dp_1⟩
theorem dd_X5_cheapest : yX5_cheapest.cls = RX5 ∧ yX5_cheapest.cls ≠ "java/lang/invoke/MethodHandle" ∧ yX5_cheapest.cls ≠ "java/lang/invoke/VarHandle" ∧ (parseMethodDescriptor yX5_cheapest.desc).map (fun d => d.parameters.length) = some 1 := ⟨rfl, dc_X5.1, dc_X5.2, dp_1⟩
theorem dd_X5_site : yX5_site.cls = RX5 ∧ yX5_site.cls ≠ "java/lang/invoke/MethodHandle" ∧ yX5_site.cls ≠ "java/lang/invoke/VarHandle" ∧ (parseMethodDescriptor yX5_site.desc).map (fun d => d.parameters.length) = some 3 := ⟨rfl, dc_X5.1, dc_X5.2, dp_25⟩
theorem dd_X5_worst : yX5_worst.cls = RX5 ∧ yX5_worst.cls ≠ "java/lang/invoke/MethodHandle" ∧ yX5_worst.cls ≠ "java/lang/invoke/VarHandle" ∧ (parseMethodDescriptor yX5_worst.desc).map (fun d => d.parameters.length) = some 1 := ⟨rfl, dc_X5.1, dc_X5.2, dp_1⟩
theorem dd_X5_isLowered : yX5_isLowered.cls = RX5 ∧ yX5_isLowered.cls ≠ "java/lang/invoke/MethodHandle" ∧ yX5_isLowered.cls ≠ "java/lang/invoke/VarHandle" ∧ (parseMethodDescriptor yX5_isLowered.desc).map (fun d => d.parameters.length) = some 2 := ⟨rfl, dc_X5.1, dc_X5.2, dp_22⟩
theorem dd_X5_trade : yX5_trade.cls = RX5 ∧ yX5_trade.cls ≠ "java/lang/invoke/MethodHandle" ∧ yX5_trade.cls ≠ "java/lang/invoke/VarHandle" ∧ (parseMethodDescriptor yX5_trade.desc).map (fun d => d.parameters.length) = some 2 := ⟨rfl, dc_X5.1, dc_X5.2, dp_0⟩
theorem dd_X5_swap : yX5_swap.cls = RX5 ∧ yX5_swap.cls ≠ "java/lang/invoke/MethodHandle" ∧ yX5_swap.cls ≠ "java/lang/invoke/VarHandle" ∧ (parseMethodDescriptor yX5_swap.desc).map (fun d => d.parameters.length) = some 2 := ⟨rfl, dc_X5.1, dc_X5.2, dp_0⟩
theorem dd_X5_spill : yX5_spill.cls = RX5 ∧ yX5_spill.cls ≠ "java/lang/invoke/MethodHandle" ∧ yX5_spill.cls ≠ "java/lang/invoke/VarHandle" ∧ (parseMethodDescriptor yX5_spill.desc).map (fun d => d.parameters.length) = some 1 := ⟨rfl, dc_X5.1, dc_X5.2, dp_1⟩
theorem dd_X5_seed : yX5_seed.cls = RX5 ∧ yX5_seed.cls ≠ "java/lang/invoke/MethodHandle" ∧ yX5_seed.cls ≠ "java/lang/invoke/VarHandle" ∧ (parseMethodDescriptor yX5_seed.desc).map (fun d => d.parameters.length) = some 1 := ⟨rfl, dc_X5.1, dc_X5.2, dp_1⟩
theorem dd_X5_feed : yX5_feed.cls = RX5 ∧ yX5_feed.cls ≠ "java/lang/invoke/MethodHandle" ∧ yX5_feed.cls ≠ "java/lang/invoke/VarHandle" ∧ (parseMethodDescriptor yX5_feed.desc).map (fun d => d.parameters.length) = some 2 := ⟨rfl, dc_X5.1, dc_X5.2, dp_0⟩
theorem dd_X5_wipe : yX5_wipe.cls = RX5 ∧ yX5_wipe.cls ≠ "java/lang/invoke/MethodHandle" ∧ yX5_wipe.cls ≠ "java/lang/invoke/VarHandle" ∧ (parseMethodDescriptor yX5_wipe.desc).map (fun d => d.parameters.length) = some 0 := ⟨rfl, dc_X5.1, dc_X5.2, dp_16⟩
theorem dd_X5_byteAt : yX5_byteAt.cls = RX5 ∧ yX5_byteAt.cls ≠ "java/lang/invoke/MethodHandle" ∧ yX5_byteAt.cls ≠ "java/lang/invoke/VarHandle" ∧ (parseMethodDescriptor yX5_byteAt.desc).map (fun d => d.parameters.length) = some 1 := ⟨rfl, dc_X5.1, dc_X5.2, dp_1⟩
theorem dd_X5_isLetter : yX5_isLetter.cls = RX5 ∧ yX5_isLetter.cls ≠ "java/lang/invoke/MethodHandle" ∧ yX5_isLetter.cls ≠ "java/lang/invoke/VarHandle" ∧ (parseMethodDescriptor yX5_isLetter.desc).map (fun d => d.parameters.length) = some 1 := ⟨rfl, dc_X5.1, dc_X5.2, dp_2⟩
theorem dd_X5_isDigit : yX5_isDigit.cls = RX5 ∧ yX5_isDigit.cls ≠ "java/lang/invoke/MethodHandle" ∧ yX5_isDigit.cls ≠ "java/lang/invoke/VarHandle" ∧ (parseMethodDescriptor yX5_isDigit.desc).map (fun d => d.parameters.length) = some 1 := ⟨rfl, dc_X5.1, dc_X5.2, dp_2⟩
theorem dd_X5_token : yX5_token.cls = RX5 ∧ yX5_token.cls ≠ "java/lang/invoke/MethodHandle" ∧ yX5_token.cls ≠ "java/lang/invoke/VarHandle" ∧ (parseMethodDescriptor yX5_token.desc).map (fun d => d.parameters.length) = some 0 := ⟨rfl, dc_X5.1, dc_X5.2, dp_14⟩
theorem dp_28 : (parseMethodDescriptor "(Z)V").map (fun d => d.parameters.length) = some 1 := by decide +kernel
theorem dd_X5_needs : yX5_needs.cls = RX5 ∧ yX5_needs.cls ≠ "java/lang/invoke/MethodHandle" ∧ yX5_needs.cls ≠ "java/lang/invoke/VarHandle" ∧ (parseMethodDescriptor yX5_needs.desc).map (fun d => d.parameters.length) = some 1 := ⟨rfl, dc_X5.1, dc_X5.2, dp_28⟩
theorem dp_29 : (parseMethodDescriptor "()J").map (fun d => d.parameters.length) = some 0 := by decide +kernel
theorem dd_X5_word : yX5_word.cls = RX5 ∧ yX5_word.cls ≠ "java/lang/invoke/MethodHandle" ∧ yX5_word.cls ≠ "java/lang/invoke/VarHandle" ∧ (parseMethodDescriptor yX5_word.desc).map (fun d => d.parameters.length) = some 0 := ⟨rfl, dc_X5.1, dc_X5.2, dp_29⟩
theorem dd_X5_number : yX5_number.cls = RX5 ∧ yX5_number.cls ≠ "java/lang/invoke/MethodHandle" ∧ yX5_number.cls ≠ "java/lang/invoke/VarHandle" ∧ (parseMethodDescriptor yX5_number.desc).map (fun d => d.parameters.length) = some 2 := ⟨rfl, dc_X5.1, dc_X5.2, dp_23⟩
theorem dd_X5_kindHere : yX5_kindHere.cls = RX5 ∧ yX5_kindHere.cls ≠ "java/lang/invoke/MethodHandle" ∧ yX5_kindHere.cls ≠ "java/lang/invoke/VarHandle" ∧ (parseMethodDescriptor yX5_kindHere.desc).map (fun d => d.parameters.length) = some 0 := ⟨rfl, dc_X5.1, dc_X5.2, dp_16⟩
theorem dd_X5_lotTold : yX5_lotTold.cls = RX5 ∧ yX5_lotTold.cls ≠ "java/lang/invoke/MethodHandle" ∧ yX5_lotTold.cls ≠ "java/lang/invoke/VarHandle" ∧ (parseMethodDescriptor yX5_lotTold.desc).map (fun d => d.parameters.length) = some 1 := ⟨rfl, dc_X5.1, dc_X5.2, dp_28⟩
theorem dp_30 : (parseMethodDescriptor "(JI)I").map (fun d => d.parameters.length) = some 2 := by decide +kernel
theorem dd_X5_numberBehind : yX5_numberBehind.cls = RX5 ∧ yX5_numberBehind.cls ≠ "java/lang/invoke/MethodHandle" ∧ yX5_numberBehind.cls ≠ "java/lang/invoke/VarHandle" ∧ (parseMethodDescriptor yX5_numberBehind.desc).map (fun d => d.parameters.length) = some 2 := ⟨rfl, dc_X5.1, dc_X5.2, dp_30⟩
theorem dd_X5_thingItem : yX5_thingItem.cls = RX5 ∧ yX5_thingItem.cls ≠ "java/lang/invoke/MethodHandle" ∧ yX5_thingItem.cls ≠ "java/lang/invoke/VarHandle" ∧ (parseMethodDescriptor yX5_thingItem.desc).map (fun d => d.parameters.length) = some 1 := ⟨rfl, dc_X5.1, dc_X5.2, dp_13⟩
theorem dd_X5_windowItem : yX5_windowItem.cls = RX5 ∧ yX5_windowItem.cls ≠ "java/lang/invoke/MethodHandle" ∧ yX5_windowItem.cls ≠ "java/lang/invoke/VarHandle" ∧ (parseMethodDescriptor yX5_windowItem.desc).map (fun d => d.parameters.length) = some 0 := ⟨rfl, dc_X5.1, dc_X5.2, dp_14⟩
theorem dd_X5_priceItem : yX5_priceItem.cls = RX5 ∧ yX5_priceItem.cls ≠ "java/lang/invoke/MethodHandle" ∧ yX5_priceItem.cls ≠ "java/lang/invoke/VarHandle" ∧ (parseMethodDescriptor yX5_priceItem.desc).map (fun d => d.parameters.length) = some 0 := ⟨rfl, dc_X5.1, dc_X5.2, dp_14⟩
theorem dd_X5_item : yX5_item.cls = RX5 ∧ yX5_item.cls ≠ "java/lang/invoke/MethodHandle" ∧ yX5_item.cls ≠ "java/lang/invoke/VarHandle" ∧ (parseMethodDescriptor yX5_item.desc).map (fun d => d.parameters.length) = some 0 := ⟨rfl, dc_X5.1, dc_X5.2, dp_14⟩
theorem dd_X5_text : yX5_text.cls = RX5 ∧ yX5_text.cls ≠ "java/lang/invoke/MethodHandle" ∧ yX5_text.cls ≠ "java/lang/invoke/VarHandle" ∧ (parseMethodDescriptor yX5_text.desc).map (fun d => d.parameters.length) = some 0 := ⟨rfl, dc_X5.1, dc_X5.2, dp_16⟩
theorem dd_X5_hold : yX5_hold.cls = RX5 ∧ yX5_hold.cls ≠ "java/lang/invoke/MethodHandle" ∧ yX5_hold.cls ≠ "java/lang/invoke/VarHandle" ∧ (parseMethodDescriptor yX5_hold.desc).map (fun d => d.parameters.length) = some 2 := ⟨rfl, dc_X5.1, dc_X5.2, dp_0⟩
theorem dd_X5_as : yX5_as.cls = RX5 ∧ yX5_as.cls ≠ "java/lang/invoke/MethodHandle" ∧ yX5_as.cls ≠ "java/lang/invoke/VarHandle" ∧ (parseMethodDescriptor yX5_as.desc).map (fun d => d.parameters.length) = some 2 := ⟨rfl, dc_X5.1, dc_X5.2, dp_0⟩
theorem dd_X5_isOne : yX5_isOne.cls = RX5 ∧ yX5_isOne.cls ≠ "java/lang/invoke/MethodHandle" ∧ yX5_isOne.cls ≠ "java/lang/invoke/VarHandle" ∧ (parseMethodDescriptor yX5_isOne.desc).map (fun d => d.parameters.length) = some 1 := ⟨rfl, dc_X5.1, dc_X5.2, dp_2⟩
theorem dd_X5_sheet : yX5_sheet.cls = RX5 ∧ yX5_sheet.cls ≠ "java/lang/invoke/MethodHandle" ∧ yX5_sheet.cls ≠ "java/lang/invoke/VarHandle" ∧ (parseMethodDescriptor yX5_sheet.desc).map (fun d => d.parameters.length) = some 3 := ⟨rfl, dc_X5.1, dc_X5.2, dp_25⟩
theorem dd_X5_narrowed : yX5_narrowed.cls = RX5 ∧ yX5_narrowed.cls ≠ "java/lang/invoke/MethodHandle" ∧ yX5_narrowed.cls ≠ "java/lang/invoke/VarHandle" ∧ (parseMethodDescriptor yX5_narrowed.desc).map (fun d => d.parameters.length) = some 2 := ⟨rfl, dc_X5.1, dc_X5.2, dp_0⟩
theorem dd_X5_wrong : yX5_wrong.cls = RX5 ∧ yX5_wrong.cls ≠ "java/lang/invoke/MethodHandle" ∧ yX5_wrong.cls ≠ "java/lang/invoke/VarHandle" ∧ (parseMethodDescriptor yX5_wrong.desc).map (fun d => d.parameters.length) = some 1 := ⟨rfl, dc_X5.1, dc_X5.2, dp_1⟩
theorem dd_X5_write : yX5_write.cls = RX5 ∧ yX5_write.cls ≠ "java/lang/invoke/MethodHandle" ∧ yX5_write.cls ≠ "java/lang/invoke/VarHandle" ∧ (parseMethodDescriptor yX5_write.desc).map (fun d => d.parameters.length) = some 3 := ⟨rfl, dc_X5.1, dc_X5.2, dp_25⟩
theorem dd_X5_copy : yX5_copy.cls = RX5 ∧ yX5_copy.cls ≠ "java/lang/invoke/MethodHandle" ∧ yX5_copy.cls ≠ "java/lang/invoke/VarHandle" ∧ (parseMethodDescriptor yX5_copy.desc).map (fun d => d.parameters.length) = some 5 := ⟨rfl, dc_X5.1, dc_X5.2, dp_26⟩
theorem dd_X5_load : yX5_load.cls = RX5 ∧ yX5_load.cls ≠ "java/lang/invoke/MethodHandle" ∧ yX5_load.cls ≠ "java/lang/invoke/VarHandle" ∧ (parseMethodDescriptor yX5_load.desc).map (fun d => d.parameters.length) = some 2 := ⟨rfl, dc_X5.1, dc_X5.2, dp_0⟩
theorem dd_X5_judge : yX5_judge.cls = RX5 ∧ yX5_judge.cls ≠ "java/lang/invoke/MethodHandle" ∧ yX5_judge.cls ≠ "java/lang/invoke/VarHandle" ∧ (parseMethodDescriptor yX5_judge.desc).map (fun d => d.parameters.length) = some 2 := ⟨rfl, dc_X5.1, dc_X5.2, dp_0⟩
theorem dd_X5_image : yX5_image.cls = RX5 ∧ yX5_image.cls ≠ "java/lang/invoke/MethodHandle" ∧ yX5_image.cls ≠ "java/lang/invoke/VarHandle" ∧ (parseMethodDescriptor yX5_image.desc).map (fun d => d.parameters.length) = some 0 := ⟨rfl, dc_X5.1, dc_X5.2, dp_16⟩
theorem dd_X5_undo : yX5_undo.cls = RX5 ∧ yX5_undo.cls ≠ "java/lang/invoke/MethodHandle" ∧ yX5_undo.cls ≠ "java/lang/invoke/VarHandle" ∧ (parseMethodDescriptor yX5_undo.desc).map (fun d => d.parameters.length) = some 0 := ⟨rfl, dc_X5.1, dc_X5.2, dp_16⟩
theorem dd_X5_tear : yX5_tear.cls = RX5 ∧ yX5_tear.cls ≠ "java/lang/invoke/MethodHandle" ∧ yX5_tear.cls ≠ "java/lang/invoke/VarHandle" ∧ (parseMethodDescriptor yX5_tear.desc).map (fun d => d.parameters.length) = some 0 := ⟨rfl, dc_X5.1, dc_X5.2, dp_16⟩
theorem dd_X5_heights : yX5_heights.cls = RX5 ∧ yX5_heights.cls ≠ "java/lang/invoke/MethodHandle" ∧ yX5_heights.cls ≠ "java/lang/invoke/VarHandle" ∧ (parseMethodDescriptor yX5_heights.desc).map (fun d => d.parameters.length) = some 0 := ⟨rfl, dc_X5.1, dc_X5.2, dp_16⟩
theorem dd_X5_contracts : yX5_contracts.cls = RX5 ∧ yX5_contracts.cls ≠ "java/lang/invoke/MethodHandle" ∧ yX5_contracts.cls ≠ "java/lang/invoke/VarHandle" ∧ (parseMethodDescriptor yX5_contracts.desc).map (fun d => d.parameters.length) = some 0 := ⟨rfl, dc_X5.1, dc_X5.2, dp_16⟩
theorem dd_X5_held : yX5_held.cls = RX5 ∧ yX5_held.cls ≠ "java/lang/invoke/MethodHandle" ∧ yX5_held.cls ≠ "java/lang/invoke/VarHandle" ∧ (parseMethodDescriptor yX5_held.desc).map (fun d => d.parameters.length) = some 0 := ⟨rfl, dc_X5.1, dc_X5.2, dp_16⟩
theorem dd_X5_count : yX5_count.cls = RX5 ∧ yX5_count.cls ≠ "java/lang/invoke/MethodHandle" ∧ yX5_count.cls ≠ "java/lang/invoke/VarHandle" ∧ (parseMethodDescriptor yX5_count.desc).map (fun d => d.parameters.length) = some 1 := ⟨rfl, dc_X5.1, dc_X5.2, dp_1⟩
theorem dd_X5_status : yX5_status.cls = RX5 ∧ yX5_status.cls ≠ "java/lang/invoke/MethodHandle" ∧ yX5_status.cls ≠ "java/lang/invoke/VarHandle" ∧ (parseMethodDescriptor yX5_status.desc).map (fun d => d.parameters.length) = some 1 := ⟨rfl, dc_X5.1, dc_X5.2, dp_1⟩
theorem dc_J0 : RJ0 ≠ "java/lang/invoke/MethodHandle" ∧ RJ0 ≠ "java/lang/invoke/VarHandle" := by decide +kernel
theorem dd_J0_length_8abf5 : yJ0_length_8abf5.cls = RJ0 ∧ yJ0_length_8abf5.cls ≠ "java/lang/invoke/MethodHandle" ∧ yJ0_length_8abf5.cls ≠ "java/lang/invoke/VarHandle" ∧ (parseMethodDescriptor yJ0_length_8abf5.desc).map (fun d => d.parameters.length) = some 0 := ⟨rfl, dc_J0.1, dc_J0.2, dp_16⟩
theorem dp_31 : (parseMethodDescriptor "(I)C").map (fun d => d.parameters.length) = some 1 := by decide +kernel
theorem dd_J0_charAt_5068e : yJ0_charAt_5068e.cls = RJ0 ∧ yJ0_charAt_5068e.cls ≠ "java/lang/invoke/MethodHandle" ∧ yJ0_charAt_5068e.cls ≠ "java/lang/invoke/VarHandle" ∧ (parseMethodDescriptor yJ0_charAt_5068e.desc).map (fun d => d.parameters.length) = some 1 := ⟨rfl, dc_J0.1, dc_J0.2, dp_31⟩
def rm_J0_coder_7d493 : Room := { frames := 0, cells := 0, slots := 0, locals := 0 }
def rm_J0_isLatin1_aae02 : Room := { frames := 0, cells := 0, slots := 0, locals := 0 }
def rm_J3_checkIndex_8e157 : Room := { frames := 0, cells := 0, slots := 0, locals := 0 }
def rm_J0_checkIndex_df160 : Room := { frames := 1, cells := 0, slots := 0, locals := 22 }
def rm_J1_charAt_3b067 : Room := { frames := 2, cells := 0, slots := 0, locals := 43 }
def rm_J0_length_8abf5 : Room := { frames := 1, cells := 0, slots := 0, locals := 20 }
def rm_J0_charAt_5068e : Room := { frames := 3, cells := 0, slots := 0, locals := 64 }
theorem dd_J0_coder_7d493 : yJ0_coder_7d493.cls = RJ0 ∧ yJ0_coder_7d493.cls ≠ "java/lang/invoke/MethodHandle" ∧ yJ0_coder_7d493.cls ≠ "java/lang/invoke/VarHandle" ∧ (parseMethodDescriptor yJ0_coder_7d493.desc).map (fun d => d.parameters.length) = some 0 := by decide +kernel
theorem dd_J0_isLatin1_aae02 : yJ0_isLatin1_aae02.cls = RJ0 ∧ yJ0_isLatin1_aae02.cls ≠ "java/lang/invoke/MethodHandle" ∧ yJ0_isLatin1_aae02.cls ≠ "java/lang/invoke/VarHandle" ∧ (parseMethodDescriptor yJ0_isLatin1_aae02.desc).map (fun d => d.parameters.length) = some 0 := by decide +kernel
theorem dd_J0_checkIndex_df160 : yJ0_checkIndex_df160.cls = RJ0 ∧ yJ0_checkIndex_df160.cls ≠ "java/lang/invoke/MethodHandle" ∧ yJ0_checkIndex_df160.cls ≠ "java/lang/invoke/VarHandle" ∧ (parseMethodDescriptor yJ0_checkIndex_df160.desc).map (fun d => d.parameters.length) = some 2 := by decide +kernel
theorem dd_J1_charAt_3b067 : yJ1_charAt_3b067.cls = RJ1 ∧ yJ1_charAt_3b067.cls ≠ "java/lang/invoke/MethodHandle" ∧ yJ1_charAt_3b067.cls ≠ "java/lang/invoke/VarHandle" ∧ (parseMethodDescriptor yJ1_charAt_3b067.desc).map (fun d => d.parameters.length) = some 2 := by decide +kernel
theorem dd_J3_checkIndex_8e157 : yJ3_checkIndex_8e157.cls = RJ3 ∧ yJ3_checkIndex_8e157.cls ≠ "java/lang/invoke/MethodHandle" ∧ yJ3_checkIndex_8e157.cls ≠ "java/lang/invoke/VarHandle" ∧ (parseMethodDescriptor yJ3_checkIndex_8e157.desc).map (fun d => d.parameters.length) = some 3 := by decide +kernel
theorem sx_len : ∀ i, i < 17 → Int32.ofNat (ex_len.getD i 0) >>> ((0 : Int32) &&& 31) = nI (ex_len.getD i 0) := by decide +kernel
theorem sx_byt : ∀ i, i < 17 → ∀ k, k < ex_len.getD i 0 → (((ex_byt.getD i []).getD k 0 &&& 255).toUInt32 % 65536).toInt32 = (ex_byt.getD i []).getD k 0 := by decide +kernel
theorem sx_nar : ∀ i, i < 17 → ∀ k, k < ex_len.getD i 0 → narrow .char (.int ((ex_byt.getD i []).getD k 0)) = .int ((ex_byt.getD i []).getD k 0) := by decide +kernel
theorem sx_31 : ∀ i, i < 17 → ex_len.getD i 0 < 1000 := by decide +kernel
set_option maxRecDepth 100000 in
theorem k_coder {l : Launch} {D : va_G} {cI cJ : ClassId} {ad : Nat → Nat} {A : Nat → Prop} {adK adV : Nat → Nat} (hI : jx_inj 67 ad A) (w0 : Nat) (hw0 : w0 < 17) (v : jx_V) : jx_Ci l D vwCl 67 cI cJ ad shX A (ex_X adK adV A) yJ0_coder_7d493 (Cond.code yJ0_coder_7d493 cJ0_coder_7d493 1 (some .byte) :: bigT) rm_J0_coder_7d493 [.ref (adK w0)] v 0 v := by
  refine jx_enteri bigT RJ0 cJ0_coder_7d493 1 (some .byte) [(0, .ref (adK w0))] hI (ex_X_ok adK adV A) (by decide +kernel) rfl (Nat.le_of_ble_eq_true rfl) rfl rfl ?_
  intro p e s m args below meth c E
  have h0 := (jx_ex E).2.2.2.1.1 w0 hw0
  refine jx_gets (x := .int 1) E dJ0_coder_7d493_0 (jx_ex E).2.2.2.2.1 (List.mem_cons_of_mem _ tw_20) ?_
  refine jx_if_eq (tgt := 13) E dJ0_coder_7d493_3 (by decide) (fun h => absurd h (by decide)) (fun _ => ?_)
  refine jx_aload_n E dJ0_coder_7d493_6 0 rfl ?_
  refine jx_sget E dJ0_coder_7d493_7 h0.2.1 (List.mem_cons_of_mem _ tw_23) ?_
  refine jx_goto (tgt := 14) E dJ0_coder_7d493_10 (by decide) ?_
  exact jx_nret E dJ0_coder_7d493_14 rfl rfl
set_option maxRecDepth 100000 in
theorem k_lat {l : Launch} {D : va_G} {cI cJ : ClassId} {ad : Nat → Nat} {A : Nat → Prop} {adK adV : Nat → Nat} (hI : jx_inj 67 ad A) (w0 : Nat) (hw0 : w0 < 17) (v : jx_V) : jx_Ci l D vwCl 67 cI cJ ad shX A (ex_X adK adV A) yJ0_isLatin1_aae02 (Cond.code yJ0_isLatin1_aae02 cJ0_isLatin1_aae02 1 (some .boolean) :: bigT) rm_J0_isLatin1_aae02 [.ref (adK w0)] v 1 v := by
  refine jx_enteri bigT RJ0 cJ0_isLatin1_aae02 1 (some .boolean) [(0, .ref (adK w0))] hI (ex_X_ok adK adV A) (by decide +kernel) rfl (Nat.le_of_ble_eq_true rfl) rfl rfl ?_
  intro p e s m args below meth c E
  have h0 := (jx_ex E).2.2.2.1.1 w0 hw0
  refine jx_gets (x := .int 1) E dJ0_isLatin1_aae02_0 (jx_ex E).2.2.2.2.1 (List.mem_cons_of_mem _ tw_20) ?_
  refine jx_if_eq (tgt := 17) E dJ0_isLatin1_aae02_3 (by decide) (fun h => absurd h (by decide)) (fun _ => ?_)
  refine jx_aload_n E dJ0_isLatin1_aae02_6 0 rfl ?_
  refine jx_sget E dJ0_isLatin1_aae02_7 h0.2.1 (List.mem_cons_of_mem _ tw_23) ?_
  refine jx_if_ne (tgt := 17) E dJ0_isLatin1_aae02_10 (by decide) (fun h => absurd rfl h) (fun _ => ?_)
  refine jx_iconst (x := 1) E dJ0_isLatin1_aae02_13 (by decide) ?_
  refine jx_goto (tgt := 18) E dJ0_isLatin1_aae02_14 (by decide) ?_
  exact jx_nret E dJ0_isLatin1_aae02_18 rfl rfl
def f_J0_length_8abf5 (w0 : Nat) (v : jx_V) : Option (Int32 × jx_V) := some (nI (ex_len.getD w0 0), v)
set_option maxRecDepth 100000 in
theorem k_J0_length_8abf5 {l : Launch} {D : va_G} {cI cJ : ClassId} {ad : Nat → Nat} {A : Nat → Prop} {adK adV : Nat → Nat} (hI : jx_inj 67 ad A) (w0 : Nat) (hw0 : w0 < 17) (v : jx_V) (r : Int32) (v' : jx_V) (hF : f_J0_length_8abf5 w0 v = some (r, v')) : jx_Ci l D vwCl 67 cI cJ ad shX A (ex_X adK adV A) yJ0_length_8abf5 (Cond.code yJ0_length_8abf5 cJ0_length_8abf5 1 (some .int) :: bigT) rm_J0_length_8abf5 [.ref (adK w0)] v r v' := by
  obtain ⟨rfl, rfl⟩ := jx_out hF
  refine jx_enteri bigT RJ0 cJ0_length_8abf5 1 (some .int) [(0, .ref (adK w0))] hI (ex_X_ok adK adV A) (by decide +kernel) rfl (Nat.le_of_ble_eq_true rfl) rfl rfl ?_
  intro p e s m args below meth c E
  have h0 := (jx_ex E).2.2.2.1.1 w0 hw0
  refine jx_aload_n E dJ0_length_8abf5_0 0 rfl ?_
  refine jx_sget E dJ0_length_8abf5_1 h0.2.2.1 (List.mem_cons_of_mem _ tw_22) ?_
  refine jx_stlen E dJ0_length_8abf5_4 h0.2.2.2 ?_
  refine jx_aload_n E dJ0_length_8abf5_5 0 rfl ?_
  refine jx_callVSi (As := []) (st := [.int (Int32.ofNat (ex_len.getD w0 0))]) (q := adK w0) E dJ0_length_8abf5_6 0 rfl (k_coder hI w0 hw0 v) (gb_V (List.mem_cons_of_mem _ tw_12) (List.mem_cons_of_mem _ tw_5) (List.mem_cons_of_mem _ tw_6) (List.mem_cons_of_mem _ tw_17) tw_0) rfl rfl rfl dd_J0_coder_7d493 rfl (fun H locs hS => vk_recv (jx_ex E).2.2.2.1 hw0 hS) ⟨by decide, by decide⟩ ⟨Nat.le_refl 0, Nat.le_refl 0⟩ (Nat.le_of_ble_eq_true rfl) ?_
  refine jx_ishr E dJ0_length_8abf5_9 ?_
  rw [sx_len w0 hw0]
  exact jx_iret E dJ0_length_8abf5_10 rfl
set_option maxRecDepth 100000 in
theorem k_pcn {l : Launch} {D : va_G} {cI cJ : ClassId} {ad : Nat → Nat} {A : Nat → Prop} {adK adV : Nat → Nat} (hI : jx_inj 67 ad A) (x0 x1 : Int32) (h1 : ¬ x0 < 0) (h2 : x0 < x1) (v : jx_V) : jx_Ci l D vwCl 67 cI cJ ad shX A (ex_X adK adV A) yJ3_checkIndex_8e157 (Cond.code yJ3_checkIndex_8e157 cJ3_checkIndex_8e157 3 (some .int) :: bigT) rm_J3_checkIndex_8e157 [.int x0, .int x1, .null] v x0 v := by
  refine jx_enteri bigT RJ3 cJ3_checkIndex_8e157 3 (some .int) [(0, .int x0), (1, .int x1), (2, .null)] hI (ex_X_ok adK adV A) (by decide +kernel) rfl (Nat.le_of_ble_eq_true rfl) rfl rfl ?_
  intro p e s m args below meth c E
  refine jx_iload_n E dJ3_checkIndex_8e157_0 0 rfl ?_
  refine jx_if_lt (tgt := 9) E dJ3_checkIndex_8e157_1 (by decide) (fun h => absurd h h1) (fun _ => ?_)
  refine jx_iload_n E dJ3_checkIndex_8e157_4 0 rfl ?_
  refine jx_iload_n E dJ3_checkIndex_8e157_5 1 rfl ?_
  refine jx_icmp_lt (tgt := 16) E dJ3_checkIndex_8e157_6 (by decide) (fun _ => ?_) (fun h => absurd h2 h)
  refine jx_iload_n E dJ3_checkIndex_8e157_16 0 rfl ?_
  exact jx_iret E dJ3_checkIndex_8e157_17 rfl
set_option maxRecDepth 100000 in
theorem k_pcr {l : Launch} {D : va_G} {cI cJ : ClassId} {ad : Nat → Nat} {A : Nat → Prop} {adK adV : Nat → Nat} (hI : jx_inj 67 ad A) (t0 : Nat) (x0 x1 : Int32) (h1 : ¬ x0 < 0) (h2 : x0 < x1) (v : jx_V) : jx_Ci l D vwCl 67 cI cJ ad shX A (ex_X adK adV A) yJ3_checkIndex_8e157 (Cond.code yJ3_checkIndex_8e157 cJ3_checkIndex_8e157 3 (some .int) :: bigT) rm_J3_checkIndex_8e157 [.int x0, .int x1, .ref t0] v x0 v := by
  refine jx_enteri bigT RJ3 cJ3_checkIndex_8e157 3 (some .int) [(0, .int x0), (1, .int x1), (2, .ref t0)] hI (ex_X_ok adK adV A) (by decide +kernel) rfl (Nat.le_of_ble_eq_true rfl) rfl rfl ?_
  intro p e s m args below meth c E
  refine jx_iload_n E dJ3_checkIndex_8e157_0 0 rfl ?_
  refine jx_if_lt (tgt := 9) E dJ3_checkIndex_8e157_1 (by decide) (fun h => absurd h h1) (fun _ => ?_)
  refine jx_iload_n E dJ3_checkIndex_8e157_4 0 rfl ?_
  refine jx_iload_n E dJ3_checkIndex_8e157_5 1 rfl ?_
  refine jx_icmp_lt (tgt := 16) E dJ3_checkIndex_8e157_6 (by decide) (fun _ => ?_) (fun h => absurd h2 h)
  refine jx_iload_n E dJ3_checkIndex_8e157_16 0 rfl ?_
  exact jx_iret E dJ3_checkIndex_8e157_17 rfl
set_option maxRecDepth 100000 in
theorem k_chk {l : Launch} {D : va_G} {cI cJ : ClassId} {ad : Nat → Nat} {A : Nat → Prop} {adK adV : Nat → Nat} (hI : jx_inj 67 ad A) (x0 x1 : Int32) (h1 : ¬ x0 < 0) (h2 : x0 < x1) (v : jx_V) : jx_Cv l D vwCl 67 cI cJ ad shX A (ex_X adK adV A) yJ0_checkIndex_df160 (Cond.code yJ0_checkIndex_df160 cJ0_checkIndex_df160 2 (none) :: bigT) rm_J0_checkIndex_df160 [.int x0, .int x1] v v := by
  refine jx_enterv bigT RJ0 cJ0_checkIndex_df160 2 (none) [(0, .int x0), (1, .int x1)] hI (ex_X_ok adK adV A) (by decide +kernel) rfl (Nat.le_of_ble_eq_true rfl) rfl rfl ?_
  intro p e s m args below meth c E
  refine jx_iload_n E dJ0_checkIndex_df160_0 0 rfl ?_
  refine jx_iload_n E dJ0_checkIndex_df160_1 1 rfl ?_
  rcases (jx_ex E).2.2.2.2.2 with hz | ⟨t0, hz⟩
  · refine jx_gets (x := .null) E dJ0_checkIndex_df160_2 hz (List.mem_cons_of_mem _ tw_21) ?_
    refine jx_callTi (As := [.int x0, .int x1, .null]) (st := []) E dJ0_checkIndex_df160_5 3 rfl (k_pcn hI x0 x1 h1 h2 v) (gb_N tw_4) rfl rfl rfl (List.mem_cons_of_mem _ tw_16) (List.mem_cons_of_mem _ tw_11) (List.mem_cons_of_mem _ tw_19) dd_J3_checkIndex_8e157.2 rfl ⟨by decide, by decide⟩ ⟨Nat.le_refl 0, Nat.le_refl 0⟩ (Nat.le_of_ble_eq_true rfl) ?_
    refine jx_pop E dJ0_checkIndex_df160_8 rfl ?_
    exact jx_vret E dJ0_checkIndex_df160_9 rfl
  · refine jx_gets (x := .ref t0) E dJ0_checkIndex_df160_2 hz (List.mem_cons_of_mem _ tw_21) ?_
    refine jx_callTi (As := [.int x0, .int x1, .ref t0]) (st := []) E dJ0_checkIndex_df160_5 3 rfl (k_pcr hI t0 x0 x1 h1 h2 v) (gb_N tw_4) rfl rfl rfl (List.mem_cons_of_mem _ tw_16) (List.mem_cons_of_mem _ tw_11) (List.mem_cons_of_mem _ tw_19) dd_J3_checkIndex_8e157.2 rfl ⟨by decide, by decide⟩ ⟨Nat.le_refl 0, Nat.le_refl 0⟩ (Nat.le_of_ble_eq_true rfl) ?_
    refine jx_pop E dJ0_checkIndex_df160_8 rfl ?_
    exact jx_vret E dJ0_checkIndex_df160_9 rfl
set_option maxRecDepth 100000 in
theorem k_l1 {l : Launch} {D : va_G} {cI cJ : ClassId} {ad : Nat → Nat} {A : Nat → Prop} {adK adV : Nat → Nat} (hI : jx_inj 67 ad A) (w0 : Nat) (hw0 : w0 < 17) (x1 : Int32) (hi : ¬ (x1 < 0 ∨ ex_len.getD w0 0 ≤ Int32.toNatClampNeg x1)) (v : jx_V) : jx_Ci l D vwCl 67 cI cJ ad shX A (ex_X adK adV A) yJ1_charAt_3b067 (Cond.code yJ1_charAt_3b067 cJ1_charAt_3b067 2 (some .char) :: bigT) rm_J1_charAt_3b067 [.ref (adV w0), .int x1] v ((ex_byt.getD w0 []).getD (Int32.toNatClampNeg x1) 0) v := by
  refine jx_enteri bigT RJ1 cJ1_charAt_3b067 2 (some .char) [(0, .ref (adV w0)), (1, .int x1)] hI (ex_X_ok adK adV A) (by decide +kernel) rfl (Nat.le_of_ble_eq_true rfl) rfl rfl ?_
  intro p e s m args below meth c E
  have h0 := (jx_ex E).2.2.2.1.1 w0 hw0
  have h1 : ¬ x1 < 0 := fun q => hi (Or.inl q)
  have hlt : x1.toNatClampNeg < ex_len.getD w0 0 := Nat.not_le.mp fun q => hi (Or.inr q)
  have h31 := sx_31 w0 hw0
  have h2 : x1 < Int32.ofNat (ex_len.getD w0 0) := by
    obtain ⟨j, hj, rfl⟩ := nI_of h1
    rw [nI_clamp hj] at hlt
    exact nI_lt hlt (by omega)
  refine jx_iload_n E dJ1_charAt_3b067_0 1 rfl ?_
  refine jx_aload_n E dJ1_charAt_3b067_1 0 rfl ?_
  refine jx_stlen E dJ1_charAt_3b067_2 h0.2.2.2 ?_
  refine jx_callTv (As := [.int x1, .int (Int32.ofNat (ex_len.getD w0 0))]) (st := []) E dJ1_charAt_3b067_3 2 rfl (k_chk hI x1 (Int32.ofNat (ex_len.getD w0 0)) h1 h2 v) (gb_N tw_2) rfl rfl rfl (List.mem_cons_of_mem _ tw_15) (List.mem_cons_of_mem _ tw_9) (List.mem_cons_of_mem _ tw_17) dd_J0_checkIndex_df160.2 rfl ⟨by decide, by decide⟩ ⟨Nat.le_refl 0, Nat.le_refl 0⟩ (Nat.le_of_ble_eq_true rfl) ?_
  refine jx_aload_n E dJ1_charAt_3b067_6 0 rfl ?_
  refine jx_iload_n E dJ1_charAt_3b067_7 1 rfl ?_
  refine jx_stb E dJ1_charAt_3b067_8 h0.2.2.2 hi ?_
  refine jx_sipush (x := 255) E dJ1_charAt_3b067_9 (by decide) ?_
  refine jx_iand E dJ1_charAt_3b067_12 ?_
  refine jx_i2c E dJ1_charAt_3b067_13 ?_
  rw [sx_byt w0 hw0 _ hlt]
  exact jx_nret E dJ1_charAt_3b067_14 rfl (sx_nar w0 hw0 _ hlt)
def f_J0_charAt_5068e (w0 : Nat) (x1 : Int32) (v : jx_V) : Option (Int32 × jx_V) := (if (x1 < 0 ∨ ex_len.getD w0 0 ≤ Int32.toNatClampNeg x1) then none else some (((ex_byt.getD w0 []).getD (Int32.toNatClampNeg x1) 0), v))
set_option maxRecDepth 100000 in
theorem k_J0_charAt_5068e {l : Launch} {D : va_G} {cI cJ : ClassId} {ad : Nat → Nat} {A : Nat → Prop} {adK adV : Nat → Nat} (hI : jx_inj 67 ad A) (w0 : Nat) (hw0 : w0 < 17) (x1 : Int32) (v : jx_V) (r : Int32) (v' : jx_V) (hF : f_J0_charAt_5068e w0 x1 v = some (r, v')) : jx_Ci l D vwCl 67 cI cJ ad shX A (ex_X adK adV A) yJ0_charAt_5068e (Cond.code yJ0_charAt_5068e cJ0_charAt_5068e 2 (some .char) :: bigT) rm_J0_charAt_5068e [.ref (adK w0), .int x1] v r v' := by
  obtain ⟨hi, hF⟩ := jx_guard hF
  obtain ⟨rfl, rfl⟩ := jx_out hF
  have hlt : x1.toNatClampNeg < ex_len.getD w0 0 := Nat.not_le.mp fun q => hi (Or.inr q)
  refine jx_enteri bigT RJ0 cJ0_charAt_5068e 2 (some .char) [(0, .ref (adK w0)), (1, .int x1)] hI (ex_X_ok adK adV A) (by decide +kernel) rfl (Nat.le_of_ble_eq_true rfl) rfl rfl ?_
  intro p e s m args below meth c E
  have h0 := (jx_ex E).2.2.2.1.1 w0 hw0
  refine jx_aload_n E dJ0_charAt_5068e_0 0 rfl ?_
  refine jx_callVSi (As := []) (st := []) (q := adK w0) E dJ0_charAt_5068e_1 0 rfl (k_lat hI w0 hw0 v) (gb_V (List.mem_cons_of_mem _ tw_13) (List.mem_cons_of_mem _ tw_7) (List.mem_cons_of_mem _ tw_8) (List.mem_cons_of_mem _ tw_17) tw_1) rfl rfl rfl dd_J0_isLatin1_aae02 rfl (fun H locs hS => vk_recv (jx_ex E).2.2.2.1 hw0 hS) ⟨by decide, by decide⟩ ⟨Nat.le_refl 0, Nat.le_refl 0⟩ (Nat.le_of_ble_eq_true rfl) ?_
  refine jx_if_eq (tgt := 16) E dJ0_charAt_5068e_4 (by decide) (fun h => absurd h (by decide)) (fun _ => ?_)
  refine jx_aload_n E dJ0_charAt_5068e_7 0 rfl ?_
  refine jx_sget E dJ0_charAt_5068e_8 h0.2.2.1 (List.mem_cons_of_mem _ tw_22) ?_
  refine jx_iload_n E dJ0_charAt_5068e_11 1 rfl ?_
  refine jx_callTi (As := [.ref (adV w0), .int x1]) (st := []) E dJ0_charAt_5068e_12 2 rfl (k_l1 hI w0 hw0 x1 hi v) (gb_N tw_3) rfl rfl rfl (List.mem_cons_of_mem _ tw_14) (List.mem_cons_of_mem _ tw_10) (List.mem_cons_of_mem _ tw_18) dd_J1_charAt_3b067.2 rfl ⟨by decide, by decide⟩ ⟨Nat.le_refl 0, Nat.le_refl 0⟩ (Nat.le_of_ble_eq_true rfl) ?_
  exact jx_nret E dJ0_charAt_5068e_15 rfl (sx_nar w0 hw0 _ hlt)
