theorem jx_out {α β : Type} {a r : α} {b v : β} (h : some (a, b) = some (r, v)) : a = r ∧ b = v := by
  have h := Option.some.inj h
  exact ⟨congrArg Prod.fst h, congrArg Prod.snd h⟩
def bigT : List Cond := lw_tbl.filter (fun w => goodWord w)
theorem bt_of {w : Cond} (i : Nat) (h : tables_1[i]? = some w) (g : goodWord w = true) : w ∈ bigT := List.mem_filter.mpr ⟨List.mem_append_right _ (List.mem_of_getElem? h), g⟩
theorem bt_sel {q : MethodName × Nat} (i : Nat) (h : lw_privs[i]? = some q) : Cond.selects q.1.cls q.1 q.1 ∈ bigT := List.mem_filter.mpr ⟨List.mem_append_left _ (List.mem_map.mpr ⟨q, List.mem_of_getElem? h, rfl⟩), rfl⟩
def tb_ck : List Cond → List (Nat × Cond) → Bool
  | _, [] => true
  | l, q :: r => match l.drop q.1 with
    | [] => false
    | a :: l' => decide (a = q.2) && goodWord q.2 && tb_ck l' r
def tb_cj : List (Nat × Cond) → Prop
  | [] => True
  | q :: r => q.2 ∈ bigT ∧ tb_cj r
theorem tb_all : ∀ (r : List (Nat × Cond)) (l : List Cond), (∀ a ∈ l, a ∈ tables_1) → tb_ck l r = true → tb_cj r
  | [], _, _, _ => trivial
  | q :: r, l, hl, h => by
    have hd : ∀ a ∈ l.drop q.1, a ∈ tables_1 := fun a ha => hl a (List.mem_of_mem_drop ha)
    unfold tb_ck at h
    split at h
    · cases h
    · rename_i a l' e
      rw [e] at hd
      simp only [Bool.and_eq_true, decide_eq_true_eq] at h
      obtain ⟨⟨h1, h2⟩, h3⟩ := h
      exact ⟨List.mem_filter.mpr ⟨List.mem_append_right _ (h1 ▸ hd a (.head _)), h2⟩, tb_all r l' (fun b hb => hd b (.tail _ hb)) h3⟩
theorem tb_in : ∀ r : List (Nat × Cond), tb_cj r → ∀ w ∈ r.map Prod.snd, w ∈ bigT
  | [], _, _, hw => by cases hw
  | _ :: r, h, _, hw => by
    cases hw with
    | head => exact h.1
    | tail _ hw => exact tb_in r h.2 _ hw
def sb_ck : List Cond → List Cond → Bool
  | [], w => w.isEmpty
  | _ :: _, [] => true
  | a :: l, w :: r => cond (decide (a = w)) (sb_ck l r) (sb_ck l (w :: r))
theorem sb_all : ∀ (l ws : List Cond), sb_ck l ws = true → ∀ w ∈ ws, w ∈ l
  | _, [], _, _, hx => by cases hx
  | [], _ :: _, h, _, _ => absurd (show (false : Bool) = true from h) (by decide)
  | a :: l, w :: r, h, x, hx => by
    unfold sb_ck at h
    by_cases e : a = w
    · rw [decide_eq_true e, cond_true] at h
      cases hx with
      | head => exact e ▸ .head _
      | tail _ hx => exact .tail _ (sb_all l r h x hx)
    · rw [decide_eq_false e, cond_false] at h
      exact .tail _ (sb_all l (w :: r) h x hx)
def tb_sel : List Cond → List Nat → List Cond
  | _, [] => []
  | l, g :: r => match l.drop g with
    | [] => []
    | a :: l' => a :: tb_sel l' r
theorem tb_sel_in : ∀ (gs : List Nat) (l : List Cond) (a : Cond), a ∈ tb_sel l gs → a ∈ l
  | [], _, a, h => by
    have h : a ∈ ([] : List Cond) := h
    cases h
  | g :: r, l, a, h => by
    unfold tb_sel at h
    split at h
    · cases h
    · rename_i b l' e
      have hd : ∀ x ∈ b :: l', x ∈ l := fun x hx => List.mem_of_mem_drop (i := g) (by rw [e]; exact hx)
      cases h with
      | head => exact hd _ (.head _)
      | tail _ h => exact hd _ (.tail _ (tb_sel_in r l' a h))
def tb_cl : List Cond → Prop
  | [] => True
  | w :: r => w ∈ bigT ∧ tb_cl r
theorem tb_cl_of : ∀ ws : List Cond, (∀ w ∈ ws, w ∈ bigT) → tb_cl ws
  | [], _ => trivial
  | w :: r, h => ⟨h w (.head _), tb_cl_of r (fun x hx => h x (.tail _ hx))⟩
theorem tb_alls (l : List Cond) (hl : ∀ a ∈ l, a ∈ tables_1) (gs : List Nat) (ws : List Cond) (e : tb_sel l gs = ws) (g : ws.all goodWord = true) : tb_cl ws := tb_cl_of ws (fun w hw => List.mem_filter.mpr ⟨List.mem_append_right _ (hl _ (tb_sel_in gs l w (by rw [e]; exact hw))), List.all_eq_true.mp g w hw⟩)
theorem tp_1 : ∀ a ∈ tables_1_1, a ∈ tables_1 := fun _ h => List.mem_append_left _ h
theorem tp_2 : ∀ a ∈ tables_1_2, a ∈ tables_1 := fun _ h => List.mem_append_right _ (List.mem_append_left _ h)
theorem tp_3 : ∀ a ∈ tables_1_3, a ∈ tables_1 := fun _ h => List.mem_append_right _ (List.mem_append_right _ (List.mem_append_left _ h))
theorem tp_4 : ∀ a ∈ tables_1_4, a ∈ tables_1 := fun _ h => List.mem_append_right _ (List.mem_append_right _ (List.mem_append_right _ (List.mem_append_left _ h)))
theorem tp_5 : ∀ a ∈ tables_1_5, a ∈ tables_1 := fun _ h => List.mem_append_right _ (List.mem_append_right _ (List.mem_append_right _ (List.mem_append_right _ (List.mem_append_left _ h))))
theorem tp_6 : ∀ a ∈ tables_1_6, a ∈ tables_1 := fun _ h => List.mem_append_right _ (List.mem_append_right _ (List.mem_append_right _ (List.mem_append_right _ (List.mem_append_right _ h))))
theorem bt_good {w : Cond} (h : w ∈ bigT) : (w.onTables && w.keeps) = true ∨ ∃ ty, w = .arrayClass ty := good_of_word (List.mem_filter.mp h).2
theorem gb_N {w0 w1 : Cond} (h : w1 ∈ bigT) : GoodIn (w0 :: bigT) (w1 :: bigT) := fun w hw => by
  rcases List.mem_cons.mp hw with rfl | hw
  · exact ⟨List.mem_cons_of_mem _ h, bt_good h⟩
  · exact ⟨List.mem_cons_of_mem _ hw, bt_good hw⟩
theorem gb_c {w0 a : Cond} {l : List Cond} (ha : a ∈ w0 :: bigT) (g : goodWord a = true) (hl : GoodIn (w0 :: bigT) l) : GoodIn (w0 :: bigT) (a :: l) := fun w hw => by
  rcases List.mem_cons.mp hw with rfl | hw
  · exact ⟨ha, good_of_word g⟩
  · exact hl w hw
theorem gb_V {w0 : Cond} {own C : String} {i : Nat} {y : MethodName} {b : ByteArray} {n : Nat} {rt : Option FieldType} (h1 : Cond.methodLink own i y ∈ w0 :: bigT) (h2 : Cond.instanceMethod y ∈ w0 :: bigT) (h3 : Cond.selects C y y ∈ w0 :: bigT) (h4 : Cond.initialized C ∈ w0 :: bigT) (h5 : Cond.code y b n rt ∈ bigT) : GoodIn (w0 :: bigT) (wsV own i C y (Cond.code y b n rt :: bigT)) := gb_c h1 rfl (gb_c h2 rfl (gb_c h3 rfl (gb_c h4 rfl (gb_N h5))))
theorem gb_S {w0 : Cond} {own : String} {i : Nat} {y : MethodName} {b : ByteArray} {n : Nat} {rt : Option FieldType} (h1 : Cond.methodLink own i y ∈ w0 :: bigT) (h2 : Cond.static y ∈ w0 :: bigT) (h3 : Cond.initialized own ∈ w0 :: bigT) (h5 : Cond.code y b n rt ∈ bigT) : GoodIn (w0 :: bigT) (wsS own i y (Cond.code y b n rt :: bigT)) := gb_c h1 rfl (gb_c h2 rfl (gb_c h3 rfl (gb_N h5)))
abbrev vwCl : List vw_C := [(RX0, TX0, 3), (RX1, TX1, 3), (RX2, TX2, 7), (RX3, TX3, 8), (RX4, TX4, 11), (RX5, TX5, 21)]
theorem ex_f0 {adK adV : Nat → Nat} {A : Nat → Prop} {U : State} (h : ex_X adK adV A U) : va_Nw (.fieldLinkNest RX4 84 RX3 (TX3 0).2.1 (TX3 0).2.2.1 "WindowViews") U := ex_f h 0 (q := ("WindowViews", 84, "WindowViews$Town", "things", "[[I", "WindowViews")) rfl
theorem ex_f1 {adK adV : Nat → Nat} {A : Nat → Prop} {U : State} (h : ex_X adK adV A U) : va_Nw (.fieldLinkNest RX0 65 RX3 (TX3 0).2.1 (TX3 0).2.2.1 "WindowViews") U := ex_f h 1 (q := ("WindowViews$Glance", 65, "WindowViews$Town", "things", "[[I", "WindowViews")) rfl
theorem ex_f2 {adK adV : Nat → Nat} {A : Nat → Prop} {U : State} (h : ex_X adK adV A U) : va_Nw (.fieldLinkNest RX0 21 RX3 (TX3 1).2.1 (TX3 1).2.2.1 "WindowViews") U := ex_f h 2 (q := ("WindowViews$Glance", 21, "WindowViews$Town", "windows", "[[I", "WindowViews")) rfl
theorem ex_f3 {adK adV : Nat → Nat} {A : Nat → Prop} {U : State} (h : ex_X adK adV A U) : va_Nw (.fieldLinkNest RX4 114 RX3 (TX3 1).2.1 (TX3 1).2.2.1 "WindowViews") U := ex_f h 3 (q := ("WindowViews", 114, "WindowViews$Town", "windows", "[[I", "WindowViews")) rfl
theorem ex_f4 {adK adV : Nat → Nat} {A : Nat → Prop} {U : State} (h : ex_X adK adV A U) : va_Nw (.fieldLinkNest RX4 100 RX3 (TX3 2).2.1 (TX3 2).2.2.1 "WindowViews") U := ex_f h 4 (q := ("WindowViews", 100, "WindowViews$Town", "paintPrices", "[I", "WindowViews")) rfl
theorem ex_f5 {adK adV : Nat → Nat} {A : Nat → Prop} {U : State} (h : ex_X adK adV A U) : va_Nw (.fieldLinkNest RX2 110 RX3 (TX3 2).2.1 (TX3 2).2.2.1 "WindowViews") U := ex_f h 5 (q := ("WindowViews$Tape", 110, "WindowViews$Town", "paintPrices", "[I", "WindowViews")) rfl
theorem ex_f6 {adK adV : Nat → Nat} {A : Nat → Prop} {U : State} (h : ex_X adK adV A U) : va_Nw (.fieldLinkNest RX4 124 RX3 (TX3 3).2.1 (TX3 3).2.2.1 "WindowViews") U := ex_f h 6 (q := ("WindowViews", 124, "WindowViews$Town", "purses", "[I", "WindowViews")) rfl
theorem ex_f7 {adK adV : Nat → Nat} {A : Nat → Prop} {U : State} (h : ex_X adK adV A U) : va_Nw (.fieldLinkNest RX0 71 RX3 (TX3 3).2.1 (TX3 3).2.2.1 "WindowViews") U := ex_f h 7 (q := ("WindowViews$Glance", 71, "WindowViews$Town", "purses", "[I", "WindowViews")) rfl
theorem ex_f8 {adK adV : Nat → Nat} {A : Nat → Prop} {U : State} (h : ex_X adK adV A U) : va_Nw (.fieldLinkNest RX4 219 RX3 (TX3 4).2.1 (TX3 4).2.2.1 "WindowViews") U := ex_f h 8 (q := ("WindowViews", 219, "WindowViews$Town", "spots", "[I", "WindowViews")) rfl
theorem ex_f9 {adK adV : Nat → Nat} {A : Nat → Prop} {U : State} (h : ex_X adK adV A U) : va_Nw (.fieldLinkNest RX2 58 RX3 (TX3 5).2.1 (TX3 5).2.2.1 "WindowViews") U := ex_f h 9 (q := ("WindowViews$Tape", 58, "WindowViews$Town", "windowCount", "I", "WindowViews")) rfl
theorem ex_f10 {adK adV : Nat → Nat} {A : Nat → Prop} {U : State} (h : ex_X adK adV A U) : va_Nw (.fieldLinkNest RX4 103 RX3 (TX3 5).2.1 (TX3 5).2.2.1 "WindowViews") U := ex_f h 10 (q := ("WindowViews", 103, "WindowViews$Town", "windowCount", "I", "WindowViews")) rfl
theorem ex_f11 {adK adV : Nat → Nat} {A : Nat → Prop} {U : State} (h : ex_X adK adV A U) : va_Nw (.fieldLinkNest RX0 57 RX3 (TX3 5).2.1 (TX3 5).2.2.1 "WindowViews") U := ex_f h 11 (q := ("WindowViews$Glance", 57, "WindowViews$Town", "windowCount", "I", "WindowViews")) rfl
theorem ex_f12 {adK adV : Nat → Nat} {A : Nat → Prop} {U : State} (h : ex_X adK adV A U) : va_Nw (.fieldLinkNest RX4 157 RX3 (TX3 6).2.1 (TX3 6).2.2.1 "WindowViews") U := ex_f h 12 (q := ("WindowViews", 157, "WindowViews$Town", "month", "I", "WindowViews")) rfl
theorem ex_f13 {adK adV : Nat → Nat} {A : Nat → Prop} {U : State} (h : ex_X adK adV A U) : va_Nw (.fieldLinkNest RX4 204 RX3 (TX3 7).2.1 (TX3 7).2.2.1 "WindowViews") U := ex_f h 13 (q := ("WindowViews", 204, "WindowViews$Town", "z", "I", "WindowViews")) rfl
theorem ex_f14 {adK adV : Nat → Nat} {A : Nat → Prop} {U : State} (h : ex_X adK adV A U) : va_Nw (.fieldLinkNest RX4 207 RX2 (TX2 1).2.1 (TX2 1).2.2.1 "WindowViews") U := ex_f h 14 (q := ("WindowViews", 207, "WindowViews$Tape", "length", "I", "WindowViews")) rfl
theorem ex_f15 {adK adV : Nat → Nat} {A : Nat → Prop} {U : State} (h : ex_X adK adV A U) : va_Nw (.fieldLinkNest RX4 216 RX2 (TX2 6).2.1 (TX2 6).2.2.1 "WindowViews") U := ex_f h 15 (q := ("WindowViews", 216, "WindowViews$Tape", "fault", "I", "WindowViews")) rfl
theorem ex_f16 {adK adV : Nat → Nat} {A : Nat → Prop} {U : State} (h : ex_X adK adV A U) : va_Nw (.fieldLinkNest RX4 245 RX1 (TX1 0).2.1 (TX1 0).2.2.1 "WindowViews") U := ex_f h 16 (q := ("WindowViews", 245, "WindowViews$Sheets", "numbers", "[[I", "WindowViews")) rfl
theorem ex_f17 {adK adV : Nat → Nat} {A : Nat → Prop} {U : State} (h : ex_X adK adV A U) : va_Nw (.fieldLinkNest RX4 238 RX1 (TX1 1).2.1 (TX1 1).2.2.1 "WindowViews") U := ex_f h 17 (q := ("WindowViews", 238, "WindowViews$Sheets", "bits", "[I", "WindowViews")) rfl
theorem ex_f18 {adK adV : Nat → Nat} {A : Nat → Prop} {U : State} (h : ex_X adK adV A U) : va_Nw (.fieldLinkNest RX4 229 RX1 (TX1 2).2.1 (TX1 2).2.2.1 "WindowViews") U := ex_f h 18 (q := ("WindowViews", 229, "WindowViews$Sheets", "lengths", "[I", "WindowViews")) rfl
theorem ex_m0 {adK adV : Nat → Nat} {A : Nat → Prop} {U : State} (h : ex_X adK adV A U) : va_Nw (.methodLinkNest RX4 9 yX3_init "WindowViews") U := ex_m h 0 (q := ("WindowViews", 9, yX3_init, "WindowViews")) rfl
theorem ex_m1 {adK adV : Nat → Nat} {A : Nat → Prop} {U : State} (h : ex_X adK adV A U) : va_Nw (.methodLinkNest RX4 24 yX0_init "WindowViews") U := ex_m h 1 (q := ("WindowViews", 24, yX0_init, "WindowViews")) rfl
theorem ex_m2 {adK adV : Nat → Nat} {A : Nat → Prop} {U : State} (h : ex_X adK adV A U) : va_Nw (.methodLinkNest RX4 31 yX2_init "WindowViews") U := ex_m h 2 (q := ("WindowViews", 31, yX2_init, "WindowViews")) rfl
theorem ex_m3 {adK adV : Nat → Nat} {A : Nat → Prop} {U : State} (h : ex_X adK adV A U) : va_Nw (.methodLinkNest RX4 38 yX1_init "WindowViews") U := ex_m h 3 (q := ("WindowViews", 38, yX1_init, "WindowViews")) rfl
theorem ex_m4 {adK adV : Nat → Nat} {A : Nat → Prop} {U : State} (h : ex_X adK adV A U) : va_Nw (.methodLinkNest RX4 68 yX3_isTaken "WindowViews") U := ex_m h 4 (q := ("WindowViews", 68, yX3_isTaken, "WindowViews")) rfl
theorem ex_m5 {adK adV : Nat → Nat} {A : Nat → Prop} {U : State} (h : ex_X adK adV A U) : va_Nw (.methodLinkNest RX4 72 yX3_put "WindowViews") U := ex_m h 5 (q := ("WindowViews", 72, yX3_put, "WindowViews")) rfl
theorem ex_m6 {adK adV : Nat → Nat} {A : Nat → Prop} {U : State} (h : ex_X adK adV A U) : va_Nw (.methodLinkNest RX4 76 yX3_thingCount "WindowViews") U := ex_m h 6 (q := ("WindowViews", 76, yX3_thingCount, "WindowViews")) rfl
theorem ex_m7 {adK adV : Nat → Nat} {A : Nat → Prop} {U : State} (h : ex_X adK adV A U) : va_Nw (.methodLinkNest RX4 80 yX3_takeOff "WindowViews") U := ex_m h 7 (q := ("WindowViews", 80, yX3_takeOff, "WindowViews")) rfl
theorem ex_m8 {adK adV : Nat → Nat} {A : Nat → Prop} {U : State} (h : ex_X adK adV A U) : va_Nw (.methodLinkNest RX4 88 yX3_standing "WindowViews") U := ex_m h 8 (q := ("WindowViews", 88, yX3_standing, "WindowViews")) rfl
theorem ex_m9 {adK adV : Nat → Nat} {A : Nat → Prop} {U : State} (h : ex_X adK adV A U) : va_Nw (.methodLinkNest RX4 91 yX3_squarePrice "WindowViews") U := ex_m h 9 (q := ("WindowViews", 91, yX3_squarePrice, "WindowViews")) rfl
theorem ex_m10 {adK adV : Nat → Nat} {A : Nat → Prop} {U : State} (h : ex_X adK adV A U) : va_Nw (.methodLinkNest RX4 94 yX3_growth "WindowViews") U := ex_m h 10 (q := ("WindowViews", 94, yX3_growth, "WindowViews")) rfl
theorem ex_m11 {adK adV : Nat → Nat} {A : Nat → Prop} {U : State} (h : ex_X adK adV A U) : va_Nw (.methodLinkNest RX4 107 yX3_addWindow "WindowViews") U := ex_m h 11 (q := ("WindowViews", 107, yX3_addWindow, "WindowViews")) rfl
theorem ex_m12 {adK adV : Nat → Nat} {A : Nat → Prop} {U : State} (h : ex_X adK adV A U) : va_Nw (.methodLinkNest RX4 120 yX0_isBroken "WindowViews") U := ex_m h 12 (q := ("WindowViews", 120, yX0_isBroken, "WindowViews")) rfl
theorem ex_m13 {adK adV : Nat → Nat} {A : Nat → Prop} {U : State} (h : ex_X adK adV A U) : va_Nw (.methodLinkNest RX0 31 yX3_isTaken "WindowViews") U := ex_m h 13 (q := ("WindowViews$Glance", 31, yX3_isTaken, "WindowViews")) rfl
theorem ex_m14 {adK adV : Nat → Nat} {A : Nat → Prop} {U : State} (h : ex_X adK adV A U) : va_Nw (.methodLinkNest RX0 35 yX3_standing "WindowViews") U := ex_m h 14 (q := ("WindowViews$Glance", 35, yX3_standing, "WindowViews")) rfl
theorem ex_m15 {adK adV : Nat → Nat} {A : Nat → Prop} {U : State} (h : ex_X adK adV A U) : va_Nw (.methodLinkNest RX4 127 yX0_look "WindowViews") U := ex_m h 15 (q := ("WindowViews", 127, yX0_look, "WindowViews")) rfl
theorem ex_m16 {adK adV : Nat → Nat} {A : Nat → Prop} {U : State} (h : ex_X adK adV A U) : va_Nw (.methodLinkNest RX4 131 yX0_squareSet "WindowViews") U := ex_m h 16 (q := ("WindowViews", 131, yX0_squareSet, "WindowViews")) rfl
theorem ex_m17 {adK adV : Nat → Nat} {A : Nat → Prop} {U : State} (h : ex_X adK adV A U) : va_Nw (.methodLinkNest RX4 134 yX0_squaresInView "WindowViews") U := ex_m h 17 (q := ("WindowViews", 134, yX0_squaresInView, "WindowViews")) rfl
theorem ex_m18 {adK adV : Nat → Nat} {A : Nat → Prop} {U : State} (h : ex_X adK adV A U) : va_Nw (.methodLinkNest RX4 138 yX0_squaresOfOwner "WindowViews") U := ex_m h 18 (q := ("WindowViews", 138, yX0_squaresOfOwner, "WindowViews")) rfl
theorem ex_m19 {adK adV : Nat → Nat} {A : Nat → Prop} {U : State} (h : ex_X adK adV A U) : va_Nw (.methodLinkNest RX4 142 yX0_lotSet "WindowViews") U := ex_m h 19 (q := ("WindowViews", 142, yX0_lotSet, "WindowViews")) rfl
theorem ex_m20 {adK adV : Nat → Nat} {A : Nat → Prop} {U : State} (h : ex_X adK adV A U) : va_Nw (.methodLinkNest RX4 145 yX0_pay "WindowViews") U := ex_m h 20 (q := ("WindowViews", 145, yX0_pay, "WindowViews")) rfl
theorem ex_m21 {adK adV : Nat → Nat} {A : Nat → Prop} {U : State} (h : ex_X adK adV A U) : va_Nw (.methodLinkNest RX0 68 yX3_squarePrice "WindowViews") U := ex_m h 21 (q := ("WindowViews$Glance", 68, yX3_squarePrice, "WindowViews")) rfl
theorem ex_m22 {adK adV : Nat → Nat} {A : Nat → Prop} {U : State} (h : ex_X adK adV A U) : va_Nw (.methodLinkNest RX4 149 yX0_gainsInto "WindowViews") U := ex_m h 22 (q := ("WindowViews", 149, yX0_gainsInto, "WindowViews")) rfl
theorem ex_m23 {adK adV : Nat → Nat} {A : Nat → Prop} {U : State} (h : ex_X adK adV A U) : va_Nw (.methodLinkNest RX4 153 yX0_brokenSet "WindowViews") U := ex_m h 23 (q := ("WindowViews", 153, yX0_brokenSet, "WindowViews")) rfl
theorem ex_m24 {adK adV : Nat → Nat} {A : Nat → Prop} {U : State} (h : ex_X adK adV A U) : va_Nw (.methodLinkNest RX4 267 yX0_payAll "WindowViews") U := ex_m h 24 (q := ("WindowViews", 267, yX0_payAll, "WindowViews")) rfl
theorem ex_m25 {adK adV : Nat → Nat} {A : Nat → Prop} {U : State} (h : ex_X adK adV A U) : va_Nw (.methodLinkNest RX4 270 yX3_growAll "WindowViews") U := ex_m h 25 (q := ("WindowViews", 270, yX3_growAll, "WindowViews")) rfl
theorem ex_m26 {adK adV : Nat → Nat} {A : Nat → Prop} {U : State} (h : ex_X adK adV A U) : va_Nw (.methodLinkNest RX4 163 yX3_become "WindowViews") U := ex_m h 26 (q := ("WindowViews", 163, yX3_become, "WindowViews")) rfl
theorem ex_m27 {adK adV : Nat → Nat} {A : Nat → Prop} {U : State} (h : ex_X adK adV A U) : va_Nw (.methodLinkNest RX4 167 yX0_squaresInAllViews "WindowViews") U := ex_m h 27 (q := ("WindowViews", 167, yX0_squaresInAllViews, "WindowViews")) rfl
theorem ex_m28 {adK adV : Nat → Nat} {A : Nat → Prop} {U : State} (h : ex_X adK adV A U) : va_Nw (.methodLinkNest RX4 185 yX3_isOwnersLot "WindowViews") U := ex_m h 28 (q := ("WindowViews", 185, yX3_isOwnersLot, "WindowViews")) rfl
theorem ex_m29 {adK adV : Nat → Nat} {A : Nat → Prop} {U : State} (h : ex_X adK adV A U) : va_Nw (.methodLinkNest RX4 273 yX3_lower "WindowViews") U := ex_m h 29 (q := ("WindowViews", 273, yX3_lower, "WindowViews")) rfl
theorem ex_m30 {adK adV : Nat → Nat} {A : Nat → Prop} {U : State} (h : ex_X adK adV A U) : va_Nw (.methodLinkNest RX4 191 yX3_exchange "WindowViews") U := ex_m h 30 (q := ("WindowViews", 191, yX3_exchange, "WindowViews")) rfl
theorem ex_m31 {adK adV : Nat → Nat} {A : Nat → Prop} {U : State} (h : ex_X adK adV A U) : va_Nw (.methodLinkNest RX4 198 yX3_draw "WindowViews") U := ex_m h 31 (q := ("WindowViews", 198, yX3_draw, "WindowViews")) rfl
theorem ex_m32 {adK adV : Nat → Nat} {A : Nat → Prop} {U : State} (h : ex_X adK adV A U) : va_Nw (.methodLinkNest RX4 201 yX3_lotOfThing "WindowViews") U := ex_m h 32 (q := ("WindowViews", 201, yX3_lotOfThing, "WindowViews")) rfl
theorem ex_m33 {adK adV : Nat → Nat} {A : Nat → Prop} {U : State} (h : ex_X adK adV A U) : va_Nw (.methodLinkNest RX4 210 yX2_append "WindowViews") U := ex_m h 33 (q := ("WindowViews", 210, yX2_append, "WindowViews")) rfl
theorem ex_m34 {adK adV : Nat → Nat} {A : Nat → Prop} {U : State} (h : ex_X adK adV A U) : va_Nw (.methodLinkNest RX4 213 yX2_readText "WindowViews") U := ex_m h 34 (q := ("WindowViews", 213, yX2_readText, "WindowViews")) rfl
theorem ex_m35 {adK adV : Nat → Nat} {A : Nat → Prop} {U : State} (h : ex_X adK adV A U) : va_Nw (.methodLinkNest RX2 117 yX3_isTaken "WindowViews") U := ex_m h 35 (q := ("WindowViews$Tape", 117, yX3_isTaken, "WindowViews")) rfl
theorem ex_m36 {adK adV : Nat → Nat} {A : Nat → Prop} {U : State} (h : ex_X adK adV A U) : va_Nw (.methodLinkNest RX2 96 yX3_put "WindowViews") U := ex_m h 36 (q := ("WindowViews$Tape", 96, yX3_put, "WindowViews")) rfl
theorem ex_m37 {adK adV : Nat → Nat} {A : Nat → Prop} {U : State} (h : ex_X adK adV A U) : va_Nw (.methodLinkNest RX2 106 yX3_addWindow "WindowViews") U := ex_m h 37 (q := ("WindowViews$Tape", 106, yX3_addWindow, "WindowViews")) rfl
theorem ex_m38 {adK adV : Nat → Nat} {A : Nat → Prop} {U : State} (h : ex_X adK adV A U) : va_Nw (.methodLinkNest RX2 113 yX3_takeOff "WindowViews") U := ex_m h 38 (q := ("WindowViews$Tape", 113, yX3_takeOff, "WindowViews")) rfl
theorem ex_m39 {adK adV : Nat → Nat} {A : Nat → Prop} {U : State} (h : ex_X adK adV A U) : va_Nw (.methodLinkNest RX4 225 yX1_begin "WindowViews") U := ex_m h 39 (q := ("WindowViews", 225, yX1_begin, "WindowViews")) rfl
theorem ex_m40 {adK adV : Nat → Nat} {A : Nat → Prop} {U : State} (h : ex_X adK adV A U) : va_Nw (.methodLinkNest RX4 232 yX1_isMissing "WindowViews") U := ex_m h 40 (q := ("WindowViews", 232, yX1_isMissing, "WindowViews")) rfl
theorem ex_m41 {adK adV : Nat → Nat} {A : Nat → Prop} {U : State} (h : ex_X adK adV A U) : va_Nw (.methodLinkNest RX4 235 yX1_store "WindowViews") U := ex_m h 41 (q := ("WindowViews", 235, yX1_store, "WindowViews")) rfl
theorem ex_m42 {adK adV : Nat → Nat} {A : Nat → Prop} {U : State} (h : ex_X adK adV A U) : va_Nw (.methodLinkNest RX4 241 yX1_hasRange "WindowViews") U := ex_m h 42 (q := ("WindowViews", 241, yX1_hasRange, "WindowViews")) rfl
theorem ex_m43 {adK adV : Nat → Nat} {A : Nat → Prop} {U : State} (h : ex_X adK adV A U) : va_Nw (.methodLinkNest RX4 254 yX3_heightOfAll "WindowViews") U := ex_m h 43 (q := ("WindowViews", 254, yX3_heightOfAll, "WindowViews")) rfl
theorem ex_m44 {adK adV : Nat → Nat} {A : Nat → Prop} {U : State} (h : ex_X adK adV A U) : va_Nw (.methodLinkNest RX4 257 yX3_contractCount "WindowViews") U := ex_m h 44 (q := ("WindowViews", 257, yX3_contractCount, "WindowViews")) rfl
theorem ex_m45 {adK adV : Nat → Nat} {A : Nat → Prop} {U : State} (h : ex_X adK adV A U) : va_Nw (.methodLinkNest RX4 260 yX3_spotsInUse "WindowViews") U := ex_m h 45 (q := ("WindowViews", 260, yX3_spotsInUse, "WindowViews")) rfl
theorem uw_X0 : ∀ w ∈ u_ws RX0 TX0 3, w ∈ bigT := by
  have h := tb_in _ (tb_all (List.zip [79, 1, 1] (u_ws RX0 TX0 3)) tables_1 (fun _ h => h) (by decide +kernel))
  have e : (List.zip [79, 1, 1] (u_ws RX0 TX0 3)).map Prod.snd = u_ws RX0 TX0 3 := List.map_snd_zip (by decide +kernel)
  rw [e] at h
  exact h
theorem uw_X1 : ∀ w ∈ u_ws RX1 TX1 3, w ∈ bigT := by
  have h := tb_in _ (tb_all (List.zip [129, 1, 1] (u_ws RX1 TX1 3)) tables_1 (fun _ h => h) (by decide +kernel))
  have e : (List.zip [129, 1, 1] (u_ws RX1 TX1 3)).map Prod.snd = u_ws RX1 TX1 3 := List.map_snd_zip (by decide +kernel)
  rw [e] at h
  exact h
theorem uw_X2 : ∀ w ∈ u_ws RX2 TX2 7, w ∈ bigT := by
  have h := tb_in _ (tb_all (List.zip [101, 1, 1, 1, 1, 1, 1] (u_ws RX2 TX2 7)) tables_1 (fun _ h => h) (by decide +kernel))
  have e : (List.zip [101, 1, 1, 1, 1, 1, 1] (u_ws RX2 TX2 7)).map Prod.snd = u_ws RX2 TX2 7 := List.map_snd_zip (by decide +kernel)
  rw [e] at h
  exact h
theorem uw_X3 : ∀ w ∈ u_ws RX3 TX3 8, w ∈ bigT := by
  have h := tb_in _ (tb_all (List.zip [52, 1, 1, 1, 1, 1, 1, 1] (u_ws RX3 TX3 8)) tables_1 (fun _ h => h) (by decide +kernel))
  have e : (List.zip [52, 1, 1, 1, 1, 1, 1, 1] (u_ws RX3 TX3 8)).map Prod.snd = u_ws RX3 TX3 8 := List.map_snd_zip (by decide +kernel)
  rw [e] at h
  exact h
theorem uw_X4 : ∀ w ∈ u_ws RX4 TX4 11, w ∈ bigT := by
  have h := tb_in _ (tb_all (List.zip [147, 1, 1, 1, 1, 1, 1, 1, 1, 1, 1] (u_ws RX4 TX4 11)) tables_1 (fun _ h => h) (by decide +kernel))
  have e : (List.zip [147, 1, 1, 1, 1, 1, 1, 1, 1, 1, 1] (u_ws RX4 TX4 11)).map Prod.snd = u_ws RX4 TX4 11 := List.map_snd_zip (by decide +kernel)
  rw [e] at h
  exact h
theorem uw_X5 : ∀ w ∈ u_ws RX5 TX5 21, w ∈ bigT := by
  have h := tb_in _ (tb_all (List.zip [755, 1, 1, 1, 1, 1, 1, 1, 1, 1, 1, 1, 1, 1, 1, 1, 1, 1, 1, 1, 1] (u_ws RX5 TX5 21)) tables_1 (fun _ h => h) (by decide +kernel))
  have e : (List.zip [755, 1, 1, 1, 1, 1, 1, 1, 1, 1, 1, 1, 1, 1, 1, 1, 1, 1, 1, 1, 1] (u_ws RX5 TX5 21)).map Prod.snd = u_ws RX5 TX5 21 := List.map_snd_zip (by decide +kernel)
  rw [e] at h
  exact h
