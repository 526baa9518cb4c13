def f_X4_level_L  : Nat → Int32 → Int32 → Int32 → Int32 → Int32 → jx_V → Option (Int32 × jx_V)
  | 0, _, _, _, _, _, _ => none
  | n + 1, x1, x2, x3, x4, x5, v => (if 10 ≤ x5 then (if (x1 < 0 ∨ 10 ≤ Int32.toNatClampNeg x1) then none else (some (x3, (jx_up v 9 (Int32.toNatClampNeg x1) x2)))) else (if (x1 < 0 ∨ 10 ≤ Int32.toNatClampNeg x1) then none else ((f_X0_squaresInView 1 x1 (jx_up v 9 (Int32.toNatClampNeg x1) x5)).bind (fun (r8, v8) => (if r8 ≤ x4 then (f_X4_level_L n x1 x2 x3 x4 (x5 + 1) v8) else (f_X4_level_L n x1 x2 x5 r8 (x5 + 1) v8))))))
def f_X4_level (x1 : Int32) (v : jx_V) : Option (Int32 × jx_V) := ((f_X4_isWindow x1 v).bind (fun (r1, v1) => (if r1 = 0 then ((f_X4_finding 0 v1).bind (fun (r4, v4) => (some (r4, v4)))) else (if (x1 < 0 ∨ 10 ≤ Int32.toNatClampNeg x1) then none else (f_X4_level_L 100000 x1 (v1 9 (Int32.toNatClampNeg x1)) 0 (-1) 0 v1)))))
def rm_X4_level : Room := { frames := 4, cells := 0, slots := 0, locals := 97 }
set_option maxHeartbeats 4000000 in
set_option maxRecDepth 100000 in
theorem k_X4_level {l : Launch} {D : va_G} {cI cJ : ClassId} {ad : Nat → Nat} {A : Nat → Prop} {adK adV : Nat → Nat} (hI : jx_inj 67 ad A) (x1 : Int32) (v : jx_V) (r : Int32) (v' : jx_V) (hF : f_X4_level x1 v = some (r, v')) : jx_Ci l D vwCl 67 cI cJ ad shX A (ex_X adK adV A) yX4_level (Cond.code yX4_level cX4_level 7 (some .int) :: bigT) rm_X4_level [.ref (ad 0), .int x1] v r v' := by
  unfold f_X4_level at hF
  refine jx_enteri bigT RX4 cX4_level 7 (some .int) [(0, .ref (ad 0)), (1, .int x1)] hI (ex_X_ok adK adV A) (by decide +kernel) rfl (Nat.le_of_ble_eq_true rfl) rfl rfl ?_
  intro p e s m args below meth c E
  have iX3 : ∀ w ∈ u_ws RX3 TX3 8, w ∈ (Cond.code yX4_level cX4_level 7 (some .int) :: bigT) := fun w h => List.mem_cons_of_mem _ (uw_X3 w h)
  have iX4 : ∀ w ∈ u_ws RX4 TX4 11, w ∈ (Cond.code yX4_level cX4_level 7 (some .int) :: bigT) := fun w h => List.mem_cons_of_mem _ (uw_X4 w h)
  have key : ∀ n : Nat, (∀ (x1 : Int32) (x2 : Int32) (x3 : Int32) (x4 : Int32) (x5 : Int32) (v : jx_V), f_X4_level_L  n  x1 x2 x3 x4 x5 v = some (r, v') → jx_J p l e rm_X4_level s m args below meth c D vwCl 67 cI cJ ad shX A 0 0 7 (MQ below (va_Qi (fun (r1 : Int32) (_ : Unit) => r1 = r) (fun _ t => va_P D vwCl (jx_ws 67 cI cJ ad shX v') t.heap) A) args s 0 0 A) v 34 [(0, .ref (ad 0)), (1, .int x1), (2, .int x2), (3, .int x3), (4, .int x4), (5, .int x5)] []) := by
    intro n
    induction n with
    | zero =>
      exact (fun _ _ _ _ _ _ h => by cases h)
    | succ n ih =>
      intro x1 x2 x3 x4 x5 v hF
      rw [f_X4_level_L] at hF
      refine jx_iload E dX4_level_34 5 rfl ?_
      refine jx_bipush (x := 10) E dX4_level_36 (by decide) ?_
      refine jx_icmp_ge (tgt := 88) E dX4_level_38 (by decide) (fun hc5 => ?_) (fun hc5 => ?_)
      · rw [if_pos hc5] at hF
        refine jx_aload_n E dX4_level_88 0 rfl ?_
        refine jx_getr (C := RX4) (T := TX4) (M := 11) (k := 0) E dX4_level_89 (Nat.le_of_ble_eq_true rfl) s_X0 rfl iX4 (by decide) rfl (List.mem_cons_of_mem _ tw_195) rfl ?_
        refine jx_getrN (C := RX3) (T := TX3) (M := 8) (k := 1) E dX4_level_92 (Nat.le_of_ble_eq_true rfl) s_X1 rfl iX3 (by decide) rfl (ex_f3 (jx_ex E)) rfl ?_
        refine jx_iconst (x := 1) E dX4_level_95 (by decide) ?_
        refine jx_aald (h' := 9) E dX4_level_96 (Nat.le_of_ble_eq_true rfl) s_X3 (show ¬ ((1 : Int32) < 0 ∨ 6 ≤ Int32.toNatClampNeg 1) by decide) rfl ?_
        refine jx_iload_n E dX4_level_97 1 rfl ?_
        refine jx_iload_n E dX4_level_98 2 rfl ?_
        obtain ⟨hg6, hF⟩ := jx_guard hF
        refine jx_iast (h := 9) (j := (Int32.toNatClampNeg x1)) E dX4_level_99 (Nat.le_of_ble_eq_true rfl) s_X9 hg6 rfl ?_
        refine jx_iload_n E dX4_level_100 3 rfl ?_
        obtain ⟨rfl, rfl⟩ := jx_out hF
        exact jx_iret E dX4_level_101 rfl
      · rw [if_neg hc5] at hF
        refine jx_aload_n E dX4_level_41 0 rfl ?_
        refine jx_getr (C := RX4) (T := TX4) (M := 11) (k := 0) E dX4_level_42 (Nat.le_of_ble_eq_true rfl) s_X0 rfl iX4 (by decide) rfl (List.mem_cons_of_mem _ tw_195) rfl ?_
        refine jx_getrN (C := RX3) (T := TX3) (M := 8) (k := 1) E dX4_level_45 (Nat.le_of_ble_eq_true rfl) s_X1 rfl iX3 (by decide) rfl (ex_f3 (jx_ex E)) rfl ?_
        refine jx_iconst (x := 1) E dX4_level_48 (by decide) ?_
        refine jx_aald (h' := 9) E dX4_level_49 (Nat.le_of_ble_eq_true rfl) s_X3 (show ¬ ((1 : Int32) < 0 ∨ 6 ≤ Int32.toNatClampNeg 1) by decide) rfl ?_
        refine jx_iload_n E dX4_level_50 1 rfl ?_
        refine jx_iload E dX4_level_51 5 rfl ?_
        obtain ⟨hg7, hF⟩ := jx_guard hF
        refine jx_iast (h := 9) (j := (Int32.toNatClampNeg x1)) E dX4_level_53 (Nat.le_of_ble_eq_true rfl) s_X9 hg7 rfl ?_
        refine jx_aload_n E dX4_level_54 0 rfl ?_
        refine jx_getr (C := RX4) (T := TX4) (M := 11) (k := 3) E dX4_level_55 (Nat.le_of_ble_eq_true rfl) s_X0 rfl iX4 (by decide) rfl (List.mem_cons_of_mem _ tw_209) rfl ?_
        refine jx_aload_n E dX4_level_58 0 rfl ?_
        refine jx_getr (C := RX4) (T := TX4) (M := 11) (k := 0) E dX4_level_59 (Nat.le_of_ble_eq_true rfl) s_X0 rfl iX4 (by decide) rfl (List.mem_cons_of_mem _ tw_195) rfl ?_
        refine jx_iload_n E dX4_level_62 1 rfl ?_
        obtain ⟨⟨r8, v8⟩, hc8, hF⟩ := jx_bind hF
        try dsimp only at hF
        refine jx_callNi (As := [.ref (ad 1), .int x1]) (st := []) (h := 49) E dX4_level_63 2 rfl (k_X0_squaresInView hI 1 jx_T1 x1 (jx_up v 9 (Int32.toNatClampNeg x1) x5) r8 v8 hc8) (gb_N tw_69) rfl rfl rfl (ex_m17 (jx_ex E)) (List.mem_cons_of_mem _ tw_49) (List.mem_cons_of_mem _ tw_71) (List.mem_cons_of_mem _ tw_72) dd_X0_squaresInView.2 rfl (Nat.le_of_ble_eq_true rfl) s_X49 rfl ⟨by decide, by decide⟩ ⟨Nat.le_refl 0, Nat.le_refl 0⟩ (Nat.le_of_ble_eq_true rfl) ?_
        refine jx_istore (lv' := [(6, .int r8), (0, .ref (ad 0)), (1, .int x1), (2, .int x2), (3, .int x3), (4, .int x4), (5, .int x5)]) E dX4_level_66 (by decide) rfl ?_
        refine jx_iload E dX4_level_68 0 rfl ?_
        refine jx_iload E dX4_level_70 5 rfl ?_
        refine jx_icmp_le (tgt := 82) E dX4_level_72 (by decide) (fun hc9 => ?_) (fun hc9 => ?_)
        · rw [if_pos hc9] at hF
          refine jx_iinc (y := (x5 + 1)) (lv' := [(5, .int (x5 + 1)), (6, .int r8), (0, .ref (ad 0)), (1, .int x1), (2, .int x2), (3, .int x3), (4, .int x4)]) E dX4_level_82 6 rfl rfl (by decide) rfl ?_
          refine jx_goto (tgt := 34) E dX4_level_85 (by decide) ?_
          refine jx_sub [2, 3, 4, 5, 6, 0] rfl ?_
          exact ih x1 x2 x3 x4 (x5 + 1) v8 hF
        · rw [if_neg hc9] at hF
          refine jx_iload E dX4_level_75 0 rfl ?_
          refine jx_istore (lv' := [(4, .int r8), (6, .int r8), (0, .ref (ad 0)), (1, .int x1), (2, .int x2), (3, .int x3), (5, .int x5)]) E dX4_level_77 (by decide) rfl ?_
          refine jx_iload E dX4_level_79 6 rfl ?_
          refine jx_istore_n (lv' := [(3, .int x5), (4, .int r8), (6, .int r8), (0, .ref (ad 0)), (1, .int x1), (2, .int x2), (5, .int x5)]) E dX4_level_81 (by decide) rfl ?_
          refine jx_iinc (y := (x5 + 1)) (lv' := [(5, .int (x5 + 1)), (3, .int x5), (4, .int r8), (6, .int r8), (0, .ref (ad 0)), (1, .int x1), (2, .int x2)]) E dX4_level_82 6 rfl rfl (by decide) rfl ?_
          refine jx_goto (tgt := 34) E dX4_level_85 (by decide) ?_
          refine jx_sub [4, 5, 6, 1, 2, 0] rfl ?_
          exact ih x1 x2 x5 r8 (x5 + 1) v8 hF
  refine jx_aload_n E dX4_level_0 0 rfl ?_
  refine jx_iload_n E dX4_level_1 1 rfl ?_
  obtain ⟨⟨r1, v1⟩, hc1, hF⟩ := jx_bind hF
  try dsimp only at hF
  refine jx_callVi (As := [.int x1]) (st := []) (h := 0) E dX4_level_2 1 rfl (k_X4_isWindow hI x1 v r1 v1 hc1) (gb_V (List.mem_cons_of_mem _ tw_203) (List.mem_cons_of_mem _ tw_204) (List.mem_cons_of_mem _ tw_205) (List.mem_cons_of_mem _ tw_190) tw_202) rfl rfl rfl dd_X4_isWindow rfl (Nat.le_of_ble_eq_true rfl) s_X0 rfl ⟨by decide, by decide⟩ ⟨Nat.le_refl 0, Nat.le_refl 0⟩ (Nat.le_of_ble_eq_true rfl) ?_
  refine jx_if_ne (tgt := 14) E dX4_level_5 (by decide) (fun hc2 => ?_) (fun hc2 => ?_)
  · rw [if_neg hc2] at hF
    refine jx_aload_n E dX4_level_14 0 rfl ?_
    refine jx_getr (C := RX4) (T := TX4) (M := 11) (k := 0) E dX4_level_15 (Nat.le_of_ble_eq_true rfl) s_X0 rfl iX4 (by decide) rfl (List.mem_cons_of_mem _ tw_195) rfl ?_
    refine jx_getrN (C := RX3) (T := TX3) (M := 8) (k := 1) E dX4_level_18 (Nat.le_of_ble_eq_true rfl) s_X1 rfl iX3 (by decide) rfl (ex_f3 (jx_ex E)) rfl ?_
    refine jx_iconst (x := 1) E dX4_level_21 (by decide) ?_
    refine jx_aald (h' := 9) E dX4_level_22 (Nat.le_of_ble_eq_true rfl) s_X3 (show ¬ ((1 : Int32) < 0 ∨ 6 ≤ Int32.toNatClampNeg 1) by decide) rfl ?_
    refine jx_iload_n E dX4_level_23 1 rfl ?_
    obtain ⟨hg3, hF⟩ := jx_guard hF
    refine jx_iald (h := 9) (j := (Int32.toNatClampNeg x1)) E dX4_level_24 (Nat.le_of_ble_eq_true rfl) s_X9 hg3 rfl ?_
    refine jx_istore_n (lv' := [(2, .int (v1 9 (Int32.toNatClampNeg x1))), (0, .ref (ad 0)), (1, .int x1)]) E dX4_level_25 (by decide) rfl ?_
    refine jx_iconst (x := 0) E dX4_level_26 (by decide) ?_
    refine jx_istore_n (lv' := [(3, .int 0), (2, .int (v1 9 (Int32.toNatClampNeg x1))), (0, .ref (ad 0)), (1, .int x1)]) E dX4_level_27 (by decide) rfl ?_
    refine jx_iconst (x := -1) E dX4_level_28 (by decide) ?_
    refine jx_istore (lv' := [(4, .int (-1)), (3, .int 0), (2, .int (v1 9 (Int32.toNatClampNeg x1))), (0, .ref (ad 0)), (1, .int x1)]) E dX4_level_29 (by decide) rfl ?_
    refine jx_iconst (x := 0) E dX4_level_31 (by decide) ?_
    refine jx_istore (lv' := [(5, .int 0), (4, .int (-1)), (3, .int 0), (2, .int (v1 9 (Int32.toNatClampNeg x1))), (0, .ref (ad 0)), (1, .int x1)]) E dX4_level_32 (by decide) rfl ?_
    refine jx_sub [4, 5, 3, 2, 1, 0] rfl ?_
    exact (key 100000) x1 (v1 9 (Int32.toNatClampNeg x1)) 0 (-1) 0 v1 hF
  · rw [if_pos hc2] at hF
    refine jx_aload_n E dX4_level_8 0 rfl ?_
    refine jx_iconst (x := 0) E dX4_level_9 (by decide) ?_
    obtain ⟨⟨r4, v4⟩, hc4, hF⟩ := jx_bind hF
    try dsimp only at hF
    refine jx_callVi (As := [.int 0]) (st := []) (h := 0) E dX4_level_10 1 rfl (k_X4_finding hI 0 v1 r4 v4 hc4) (gb_V (List.mem_cons_of_mem _ tw_192) (List.mem_cons_of_mem _ tw_193) (List.mem_cons_of_mem _ tw_194) (List.mem_cons_of_mem _ tw_190) tw_191) rfl rfl rfl dd_X4_finding rfl (Nat.le_of_ble_eq_true rfl) s_X0 rfl ⟨by decide, by decide⟩ ⟨Nat.le_refl 0, Nat.le_refl 0⟩ (Nat.le_of_ble_eq_true rfl) ?_
    obtain ⟨rfl, rfl⟩ := jx_out hF
    exact jx_iret E dX4_level_13 rfl
def f_X4_cheapest_L  : Nat → Int32 → Int32 → Int32 → Int32 → Int32 → jx_V → Option (Int32 × jx_V)
  | 0, _, _, _, _, _, _ => none
  | n + 1, x1, x2, x3, x4, x5, v => (if 4 ≤ x5 then (if (x1 < 0 ∨ 10 ≤ Int32.toNatClampNeg x1) then none else (some (x3, (jx_up v 10 (Int32.toNatClampNeg x1) x2)))) else (if (x1 < 0 ∨ 10 ≤ Int32.toNatClampNeg x1) then none else ((f_X0_pay 1 x1 66 (jx_up v 10 (Int32.toNatClampNeg x1) x5)).bind (fun (r8, v8) => (if x5 = 0 then (f_X4_cheapest_L n x1 x2 x5 r8 (x5 + 1) v8) else (if x4 ≤ r8 then (f_X4_cheapest_L n x1 x2 x3 x4 (x5 + 1) v8) else (f_X4_cheapest_L n x1 x2 x5 r8 (x5 + 1) v8)))))))
def f_X4_cheapest (x1 : Int32) (v : jx_V) : Option (Int32 × jx_V) := ((f_X4_isWindow x1 v).bind (fun (r1, v1) => (if r1 = 0 then ((f_X4_finding 0 v1).bind (fun (r4, v4) => (some (r4, v4)))) else (if (x1 < 0 ∨ 10 ≤ Int32.toNatClampNeg x1) then none else (f_X4_cheapest_L 100000 x1 (v1 10 (Int32.toNatClampNeg x1)) 0 0 0 v1)))))
def rm_X4_cheapest : Room := { frames := 4, cells := 0, slots := 0, locals := 101 }
set_option maxHeartbeats 4000000 in
set_option maxRecDepth 100000 in
theorem k_X4_cheapest {l : Launch} {D : va_G} {cI cJ : ClassId} {ad : Nat → Nat} {A : Nat → Prop} {adK adV : Nat → Nat} (hI : jx_inj 67 ad A) (x1 : Int32) (v : jx_V) (r : Int32) (v' : jx_V) (hF : f_X4_cheapest x1 v = some (r, v')) : jx_Ci l D vwCl 67 cI cJ ad shX A (ex_X adK adV A) yX4_cheapest (Cond.code yX4_cheapest cX4_cheapest 7 (some .int) :: bigT) rm_X4_cheapest [.ref (ad 0), .int x1] v r v' := by
  unfold f_X4_cheapest at hF
  refine jx_enteri bigT RX4 cX4_cheapest 7 (some .int) [(0, .ref (ad 0)), (1, .int x1)] hI (ex_X_ok adK adV A) (by decide +kernel) rfl (Nat.le_of_ble_eq_true rfl) rfl rfl ?_
  intro p e s m args below meth c E
  have iX3 : ∀ w ∈ u_ws RX3 TX3 8, w ∈ (Cond.code yX4_cheapest cX4_cheapest 7 (some .int) :: bigT) := fun w h => List.mem_cons_of_mem _ (uw_X3 w h)
  have iX4 : ∀ w ∈ u_ws RX4 TX4 11, w ∈ (Cond.code yX4_cheapest cX4_cheapest 7 (some .int) :: bigT) := fun w h => List.mem_cons_of_mem _ (uw_X4 w h)
  have key : ∀ n : Nat, (∀ (x1 : Int32) (x2 : Int32) (x3 : Int32) (x4 : Int32) (x5 : Int32) (v : jx_V), f_X4_cheapest_L  n  x1 x2 x3 x4 x5 v = some (r, v') → jx_J p l e rm_X4_cheapest s m args below meth c D vwCl 67 cI cJ ad shX A 0 0 7 (MQ below (va_Qi (fun (r1 : Int32) (_ : Unit) => r1 = r) (fun _ t => va_P D vwCl (jx_ws 67 cI cJ ad shX v') t.heap) A) args s 0 0 A) v 34 [(0, .ref (ad 0)), (1, .int x1), (2, .int x2), (3, .int x3), (4, .int x4), (5, .int x5)] []) := by
    intro n
    induction n with
    | zero =>
      exact (fun _ _ _ _ _ _ h => by cases h)
    | succ n ih =>
      intro x1 x2 x3 x4 x5 v hF
      rw [f_X4_cheapest_L] at hF
      refine jx_iload E dX4_cheapest_34 5 rfl ?_
      refine jx_iconst (x := 4) E dX4_cheapest_36 (by decide) ?_
      refine jx_icmp_ge (tgt := 96) E dX4_cheapest_37 (by decide) (fun hc5 => ?_) (fun hc5 => ?_)
      · rw [if_pos hc5] at hF
        refine jx_aload_n E dX4_cheapest_96 0 rfl ?_
        refine jx_getr (C := RX4) (T := TX4) (M := 11) (k := 0) E dX4_cheapest_97 (Nat.le_of_ble_eq_true rfl) s_X0 rfl iX4 (by decide) rfl (List.mem_cons_of_mem _ tw_195) rfl ?_
        refine jx_getrN (C := RX3) (T := TX3) (M := 8) (k := 1) E dX4_cheapest_100 (Nat.le_of_ble_eq_true rfl) s_X1 rfl iX3 (by decide) rfl (ex_f3 (jx_ex E)) rfl ?_
        refine jx_iconst (x := 2) E dX4_cheapest_103 (by decide) ?_
        refine jx_aald (h' := 10) E dX4_cheapest_104 (Nat.le_of_ble_eq_true rfl) s_X3 (show ¬ ((2 : Int32) < 0 ∨ 6 ≤ Int32.toNatClampNeg 2) by decide) rfl ?_
        refine jx_iload_n E dX4_cheapest_105 1 rfl ?_
        refine jx_iload_n E dX4_cheapest_106 2 rfl ?_
        obtain ⟨hg6, hF⟩ := jx_guard hF
        refine jx_iast (h := 10) (j := (Int32.toNatClampNeg x1)) E dX4_cheapest_107 (Nat.le_of_ble_eq_true rfl) s_X10 hg6 rfl ?_
        refine jx_iload_n E dX4_cheapest_108 3 rfl ?_
        obtain ⟨rfl, rfl⟩ := jx_out hF
        exact jx_iret E dX4_cheapest_109 rfl
      · rw [if_neg hc5] at hF
        refine jx_aload_n E dX4_cheapest_40 0 rfl ?_
        refine jx_getr (C := RX4) (T := TX4) (M := 11) (k := 0) E dX4_cheapest_41 (Nat.le_of_ble_eq_true rfl) s_X0 rfl iX4 (by decide) rfl (List.mem_cons_of_mem _ tw_195) rfl ?_
        refine jx_getrN (C := RX3) (T := TX3) (M := 8) (k := 1) E dX4_cheapest_44 (Nat.le_of_ble_eq_true rfl) s_X1 rfl iX3 (by decide) rfl (ex_f3 (jx_ex E)) rfl ?_
        refine jx_iconst (x := 2) E dX4_cheapest_47 (by decide) ?_
        refine jx_aald (h' := 10) E dX4_cheapest_48 (Nat.le_of_ble_eq_true rfl) s_X3 (show ¬ ((2 : Int32) < 0 ∨ 6 ≤ Int32.toNatClampNeg 2) by decide) rfl ?_
        refine jx_iload_n E dX4_cheapest_49 1 rfl ?_
        refine jx_iload E dX4_cheapest_50 5 rfl ?_
        obtain ⟨hg7, hF⟩ := jx_guard hF
        refine jx_iast (h := 10) (j := (Int32.toNatClampNeg x1)) E dX4_cheapest_52 (Nat.le_of_ble_eq_true rfl) s_X10 hg7 rfl ?_
        refine jx_aload_n E dX4_cheapest_53 0 rfl ?_
        refine jx_getr (C := RX4) (T := TX4) (M := 11) (k := 3) E dX4_cheapest_54 (Nat.le_of_ble_eq_true rfl) s_X0 rfl iX4 (by decide) rfl (List.mem_cons_of_mem _ tw_209) rfl ?_
        refine jx_aload_n E dX4_cheapest_57 0 rfl ?_
        refine jx_getr (C := RX4) (T := TX4) (M := 11) (k := 0) E dX4_cheapest_58 (Nat.le_of_ble_eq_true rfl) s_X0 rfl iX4 (by decide) rfl (List.mem_cons_of_mem _ tw_195) rfl ?_
        refine jx_iload_n E dX4_cheapest_61 1 rfl ?_
        refine jx_aload_n E dX4_cheapest_62 0 rfl ?_
        refine jx_getr (C := RX4) (T := TX4) (M := 11) (k := 9) E dX4_cheapest_63 (Nat.le_of_ble_eq_true rfl) s_X0 rfl iX4 (by decide) rfl (List.mem_cons_of_mem _ tw_216) rfl ?_
        obtain ⟨⟨r8, v8⟩, hc8, hF⟩ := jx_bind hF
        try dsimp only at hF
        refine jx_callNi (As := [.ref (ad 1), .int x1, .ref (ad 66)]) (st := []) (h := 49) E dX4_cheapest_66 3 rfl (k_X0_pay hI 1 jx_T1 x1 66 s_X66 (Nat.le_of_ble_eq_true rfl) (jx_up v 10 (Int32.toNatClampNeg x1) x5) r8 v8 hc8) (gb_N tw_77) rfl rfl rfl (ex_m20 (jx_ex E)) (List.mem_cons_of_mem _ tw_49) (List.mem_cons_of_mem _ tw_79) (List.mem_cons_of_mem _ tw_80) dd_X0_pay.2 rfl (Nat.le_of_ble_eq_true rfl) s_X49 rfl ⟨by decide, by decide⟩ ⟨Nat.le_refl 0, Nat.le_refl 0⟩ (Nat.le_of_ble_eq_true rfl) ?_
        refine jx_istore (lv' := [(6, .int r8), (0, .ref (ad 0)), (1, .int x1), (2, .int x2), (3, .int x3), (4, .int x4), (5, .int x5)]) E dX4_cheapest_69 (by decide) rfl ?_
        refine jx_iload E dX4_cheapest_71 6 rfl ?_
        refine jx_if_eq (tgt := 83) E dX4_cheapest_73 (by decide) (fun hc9 => ?_) (fun hc9 => ?_)
        · rw [if_pos hc9] at hF
          refine jx_iload E dX4_cheapest_83 0 rfl ?_
          refine jx_istore (lv' := [(4, .int r8), (6, .int r8), (0, .ref (ad 0)), (1, .int x1), (2, .int x2), (3, .int x3), (5, .int x5)]) E dX4_cheapest_85 (by decide) rfl ?_
          refine jx_iload E dX4_cheapest_87 6 rfl ?_
          refine jx_istore_n (lv' := [(3, .int x5), (4, .int r8), (6, .int r8), (0, .ref (ad 0)), (1, .int x1), (2, .int x2), (5, .int x5)]) E dX4_cheapest_89 (by decide) rfl ?_
          refine jx_iinc (y := (x5 + 1)) (lv' := [(5, .int (x5 + 1)), (3, .int x5), (4, .int r8), (6, .int r8), (0, .ref (ad 0)), (1, .int x1), (2, .int x2)]) E dX4_cheapest_90 6 rfl rfl (by decide) rfl ?_
          refine jx_goto (tgt := 34) E dX4_cheapest_93 (by decide) ?_
          refine jx_sub [4, 5, 6, 1, 2, 0] rfl ?_
          exact ih x1 x2 x5 r8 (x5 + 1) v8 hF
        · rw [if_neg hc9] at hF
          refine jx_iload E dX4_cheapest_76 0 rfl ?_
          refine jx_iload E dX4_cheapest_78 5 rfl ?_
          refine jx_icmp_ge (tgt := 90) E dX4_cheapest_80 (by decide) (fun hc10 => ?_) (fun hc10 => ?_)
          · rw [if_pos hc10] at hF
            refine jx_iinc (y := (x5 + 1)) (lv' := [(5, .int (x5 + 1)), (6, .int r8), (0, .ref (ad 0)), (1, .int x1), (2, .int x2), (3, .int x3), (4, .int x4)]) E dX4_cheapest_90 6 rfl rfl (by decide) rfl ?_
            refine jx_goto (tgt := 34) E dX4_cheapest_93 (by decide) ?_
            refine jx_sub [2, 3, 4, 5, 6, 0] rfl ?_
            exact ih x1 x2 x3 x4 (x5 + 1) v8 hF
          · rw [if_neg hc10] at hF
            refine jx_iload E dX4_cheapest_83 0 rfl ?_
            refine jx_istore (lv' := [(4, .int r8), (6, .int r8), (0, .ref (ad 0)), (1, .int x1), (2, .int x2), (3, .int x3), (5, .int x5)]) E dX4_cheapest_85 (by decide) rfl ?_
            refine jx_iload E dX4_cheapest_87 6 rfl ?_
            refine jx_istore_n (lv' := [(3, .int x5), (4, .int r8), (6, .int r8), (0, .ref (ad 0)), (1, .int x1), (2, .int x2), (5, .int x5)]) E dX4_cheapest_89 (by decide) rfl ?_
            refine jx_iinc (y := (x5 + 1)) (lv' := [(5, .int (x5 + 1)), (3, .int x5), (4, .int r8), (6, .int r8), (0, .ref (ad 0)), (1, .int x1), (2, .int x2)]) E dX4_cheapest_90 6 rfl rfl (by decide) rfl ?_
            refine jx_goto (tgt := 34) E dX4_cheapest_93 (by decide) ?_
            refine jx_sub [4, 5, 6, 1, 2, 0] rfl ?_
            exact ih x1 x2 x5 r8 (x5 + 1) v8 hF
  refine jx_aload_n E dX4_cheapest_0 0 rfl ?_
  refine jx_iload_n E dX4_cheapest_1 1 rfl ?_
  obtain ⟨⟨r1, v1⟩, hc1, hF⟩ := jx_bind hF
  try dsimp only at hF
  refine jx_callVi (As := [.int x1]) (st := []) (h := 0) E dX4_cheapest_2 1 rfl (k_X4_isWindow hI x1 v r1 v1 hc1) (gb_V (List.mem_cons_of_mem _ tw_203) (List.mem_cons_of_mem _ tw_204) (List.mem_cons_of_mem _ tw_205) (List.mem_cons_of_mem _ tw_190) tw_202) rfl rfl rfl dd_X4_isWindow rfl (Nat.le_of_ble_eq_true rfl) s_X0 rfl ⟨by decide, by decide⟩ ⟨Nat.le_refl 0, Nat.le_refl 0⟩ (Nat.le_of_ble_eq_true rfl) ?_
  refine jx_if_ne (tgt := 14) E dX4_cheapest_5 (by decide) (fun hc2 => ?_) (fun hc2 => ?_)
  · rw [if_neg hc2] at hF
    refine jx_aload_n E dX4_cheapest_14 0 rfl ?_
    refine jx_getr (C := RX4) (T := TX4) (M := 11) (k := 0) E dX4_cheapest_15 (Nat.le_of_ble_eq_true rfl) s_X0 rfl iX4 (by decide) rfl (List.mem_cons_of_mem _ tw_195) rfl ?_
    refine jx_getrN (C := RX3) (T := TX3) (M := 8) (k := 1) E dX4_cheapest_18 (Nat.le_of_ble_eq_true rfl) s_X1 rfl iX3 (by decide) rfl (ex_f3 (jx_ex E)) rfl ?_
    refine jx_iconst (x := 2) E dX4_cheapest_21 (by decide) ?_
    refine jx_aald (h' := 10) E dX4_cheapest_22 (Nat.le_of_ble_eq_true rfl) s_X3 (show ¬ ((2 : Int32) < 0 ∨ 6 ≤ Int32.toNatClampNeg 2) by decide) rfl ?_
    refine jx_iload_n E dX4_cheapest_23 1 rfl ?_
    obtain ⟨hg3, hF⟩ := jx_guard hF
    refine jx_iald (h := 10) (j := (Int32.toNatClampNeg x1)) E dX4_cheapest_24 (Nat.le_of_ble_eq_true rfl) s_X10 hg3 rfl ?_
    refine jx_istore_n (lv' := [(2, .int (v1 10 (Int32.toNatClampNeg x1))), (0, .ref (ad 0)), (1, .int x1)]) E dX4_cheapest_25 (by decide) rfl ?_
    refine jx_iconst (x := 0) E dX4_cheapest_26 (by decide) ?_
    refine jx_istore_n (lv' := [(3, .int 0), (2, .int (v1 10 (Int32.toNatClampNeg x1))), (0, .ref (ad 0)), (1, .int x1)]) E dX4_cheapest_27 (by decide) rfl ?_
    refine jx_iconst (x := 0) E dX4_cheapest_28 (by decide) ?_
    refine jx_istore (lv' := [(4, .int 0), (3, .int 0), (2, .int (v1 10 (Int32.toNatClampNeg x1))), (0, .ref (ad 0)), (1, .int x1)]) E dX4_cheapest_29 (by decide) rfl ?_
    refine jx_iconst (x := 0) E dX4_cheapest_31 (by decide) ?_
    refine jx_istore (lv' := [(5, .int 0), (4, .int 0), (3, .int 0), (2, .int (v1 10 (Int32.toNatClampNeg x1))), (0, .ref (ad 0)), (1, .int x1)]) E dX4_cheapest_32 (by decide) rfl ?_
    refine jx_sub [4, 5, 3, 2, 1, 0] rfl ?_
    exact (key 100000) x1 (v1 10 (Int32.toNatClampNeg x1)) 0 0 0 v1 hF
  · rw [if_pos hc2] at hF
    refine jx_aload_n E dX4_cheapest_8 0 rfl ?_
    refine jx_iconst (x := 0) E dX4_cheapest_9 (by decide) ?_
    obtain ⟨⟨r4, v4⟩, hc4, hF⟩ := jx_bind hF
    try dsimp only at hF
    refine jx_callVi (As := [.int 0]) (st := []) (h := 0) E dX4_cheapest_10 1 rfl (k_X4_finding hI 0 v1 r4 v4 hc4) (gb_V (List.mem_cons_of_mem _ tw_192) (List.mem_cons_of_mem _ tw_193) (List.mem_cons_of_mem _ tw_194) (List.mem_cons_of_mem _ tw_190) tw_191) rfl rfl rfl dd_X4_finding rfl (Nat.le_of_ble_eq_true rfl) s_X0 rfl ⟨by decide, by decide⟩ ⟨Nat.le_refl 0, Nat.le_refl 0⟩ (Nat.le_of_ble_eq_true rfl) ?_
    obtain ⟨rfl, rfl⟩ := jx_out hF
    exact jx_iret E dX4_cheapest_13 rfl
def f_X4_site_L  : Nat → Int32 → Int32 → Int32 → Int32 → Int32 → Int32 → jx_V → Option (Int32 × jx_V)
  | 0, _, _, _, _, _, _, _ => none
  | n + 1, x1, x2, x3, x4, x5, x6, v => (if 25 ≤ x6 then (if 0 ≤ x4 then (some (x4, v)) else ((f_X4_finding 3 v).bind (fun (r12, v12) => (some (r12, v12))))) else ((f_X3_isTaken 1 x6 v).bind (fun (r13, v13) => (if r13 = 0 then ((f_X3_put 1 x6 x1 x2 x3 0 v13).bind (fun v15 => ((f_X0_gainsInto 1 65 v15).bind (fun (r16, v16) => ((f_X3_takeOff 1 x6 v16).bind (fun v17 => (if x4 < 0 then (if (x2 < 0 ∨ 4 ≤ Int32.toNatClampNeg x2) then none else (f_X4_site_L n x1 x2 x3 x6 (v17 65 (Int32.toNatClampNeg x2)) (x6 + 1) v17)) else (if (x2 < 0 ∨ 4 ≤ Int32.toNatClampNeg x2) then none else (if (v17 65 (Int32.toNatClampNeg x2)) ≤ x5 then (f_X4_site_L n x1 x2 x3 x4 x5 (x6 + 1) v17) else (if (x2 < 0 ∨ 4 ≤ Int32.toNatClampNeg x2) then none else (f_X4_site_L n x1 x2 x3 x6 (v17 65 (Int32.toNatClampNeg x2)) (x6 + 1) v17))))))))))) else (f_X4_site_L n x1 x2 x3 x4 x5 (x6 + 1) v13)))))
def f_X4_site (x1 : Int32) (x2 : Int32) (x3 : Int32) (v : jx_V) : Option (Int32 × jx_V) := ((f_X4_within x1 7 v).bind (fun (r1, v1) => (if r1 = 0 then ((f_X4_finding 0 v1).bind (fun (r3, v3) => (some (r3, v3)))) else ((f_X4_within x2 4 v1).bind (fun (r4, v4) => (if r4 = 0 then ((f_X4_finding 0 v4).bind (fun (r6, v6) => (some (r6, v6)))) else ((f_X4_within x3 10 v4).bind (fun (r7, v7) => (if r7 = 0 then ((f_X4_finding 0 v7).bind (fun (r9, v9) => (some (r9, v9)))) else (f_X4_site_L 100000 x1 x2 x3 (-1) 0 0 v7))))))))))
def rm_X4_site : Room := { frames := 5, cells := 0, slots := 0, locals := 125 }
set_option maxHeartbeats 4000000 in
set_option maxRecDepth 100000 in
theorem k_X4_site {l : Launch} {D : va_G} {cI cJ : ClassId} {ad : Nat → Nat} {A : Nat → Prop} {adK adV : Nat → Nat} (hI : jx_inj 67 ad A) (x1 : Int32) (x2 : Int32) (x3 : Int32) (v : jx_V) (r : Int32) (v' : jx_V) (hF : f_X4_site x1 x2 x3 v = some (r, v')) : jx_Ci l D vwCl 67 cI cJ ad shX A (ex_X adK adV A) yX4_site (Cond.code yX4_site cX4_site 7 (some .int) :: bigT) rm_X4_site [.ref (ad 0), .int x1, .int x2, .int x3] v r v' := by
  unfold f_X4_site at hF
  refine jx_enteri bigT RX4 cX4_site 7 (some .int) [(0, .ref (ad 0)), (1, .int x1), (2, .int x2), (3, .int x3)] hI (ex_X_ok adK adV A) (by decide +kernel) rfl (Nat.le_of_ble_eq_true rfl) rfl rfl ?_
  intro p e s m args below meth c E
  have iX4 : ∀ w ∈ u_ws RX4 TX4 11, w ∈ (Cond.code yX4_site cX4_site 7 (some .int) :: bigT) := fun w h => List.mem_cons_of_mem _ (uw_X4 w h)
  have key : ∀ n : Nat, (∀ (x1 : Int32) (x2 : Int32) (x3 : Int32) (x4 : Int32) (x5 : Int32) (x6 : Int32) (v : jx_V), f_X4_site_L  n  x1 x2 x3 x4 x5 x6 v = some (r, v') → jx_J p l e rm_X4_site s m args below meth c D vwCl 67 cI cJ ad shX A 0 0 7 (MQ below (va_Qi (fun (r1 : Int32) (_ : Unit) => r1 = r) (fun _ t => va_P D vwCl (jx_ws 67 cI cJ ad shX v') t.heap) A) args s 0 0 A) v 41 [(0, .ref (ad 0)), (1, .int x1), (2, .int x2), (3, .int x3), (4, .int x4), (5, .int x5), (6, .int x6)] []) := by
    intro n
    induction n with
    | zero =>
      exact (fun _ _ _ _ _ _ _ h => by cases h)
    | succ n ih =>
      intro x1 x2 x3 x4 x5 x6 v hF
      rw [f_X4_site_L] at hF
      refine jx_iload E dX4_site_41 6 rfl ?_
      refine jx_bipush (x := 25) E dX4_site_43 (by decide) ?_
      refine jx_icmp_ge (tgt := 135) E dX4_site_45 (by decide) (fun hc10 => ?_) (fun hc10 => ?_)
      · rw [if_pos hc10] at hF
        refine jx_iload E dX4_site_135 4 rfl ?_
        refine jx_if_ge (tgt := 148) E dX4_site_137 (by decide) (fun hc11 => ?_) (fun hc11 => ?_)
        · rw [if_pos hc11] at hF
          refine jx_iload E dX4_site_148 4 rfl ?_
          obtain ⟨rfl, rfl⟩ := jx_out hF
          exact jx_iret E dX4_site_150 rfl
        · rw [if_neg hc11] at hF
          refine jx_aload_n E dX4_site_140 0 rfl ?_
          refine jx_iconst (x := 3) E dX4_site_141 (by decide) ?_
          obtain ⟨⟨r12, v12⟩, hc12, hF⟩ := jx_bind hF
          try dsimp only at hF
          refine jx_callVi (As := [.int 3]) (st := []) (h := 0) E dX4_site_142 1 rfl (k_X4_finding hI 3 v r12 v12 hc12) (gb_V (List.mem_cons_of_mem _ tw_192) (List.mem_cons_of_mem _ tw_193) (List.mem_cons_of_mem _ tw_194) (List.mem_cons_of_mem _ tw_190) tw_191) rfl rfl rfl dd_X4_finding rfl (Nat.le_of_ble_eq_true rfl) s_X0 rfl ⟨by decide, by decide⟩ ⟨Nat.le_refl 0, Nat.le_refl 0⟩ (Nat.le_of_ble_eq_true rfl) ?_
          refine jx_goto (tgt := 150) E dX4_site_145 (by decide) ?_
          obtain ⟨rfl, rfl⟩ := jx_out hF
          exact jx_iret E dX4_site_150 rfl
      · rw [if_neg hc10] at hF
        refine jx_aload_n E dX4_site_48 0 rfl ?_
        refine jx_getr (C := RX4) (T := TX4) (M := 11) (k := 0) E dX4_site_49 (Nat.le_of_ble_eq_true rfl) s_X0 rfl iX4 (by decide) rfl (List.mem_cons_of_mem _ tw_195) rfl ?_
        refine jx_iload E dX4_site_52 6 rfl ?_
        obtain ⟨⟨r13, v13⟩, hc13, hF⟩ := jx_bind hF
        try dsimp only at hF
        refine jx_callNi (As := [.int x6]) (st := []) (h := 1) E dX4_site_54 1 rfl (k_X3_isTaken hI 1 jx_T1 x6 v r13 v13 hc13) (gb_N tw_51) rfl rfl rfl (ex_m4 (jx_ex E)) (List.mem_cons_of_mem _ tw_33) (List.mem_cons_of_mem _ tw_52) (List.mem_cons_of_mem _ tw_53) dd_X3_isTaken.2 rfl (Nat.le_of_ble_eq_true rfl) s_X1 rfl ⟨by decide, by decide⟩ ⟨Nat.le_refl 0, Nat.le_refl 0⟩ (Nat.le_of_ble_eq_true rfl) ?_
        refine jx_if_eq (tgt := 63) E dX4_site_57 (by decide) (fun hc14 => ?_) (fun hc14 => ?_)
        · rw [if_pos hc14] at hF
          refine jx_aload_n E dX4_site_63 0 rfl ?_
          refine jx_getr (C := RX4) (T := TX4) (M := 11) (k := 0) E dX4_site_64 (Nat.le_of_ble_eq_true rfl) s_X0 rfl iX4 (by decide) rfl (List.mem_cons_of_mem _ tw_195) rfl ?_
          refine jx_iload E dX4_site_67 6 rfl ?_
          refine jx_iload_n E dX4_site_69 1 rfl ?_
          refine jx_iload_n E dX4_site_70 2 rfl ?_
          refine jx_iload_n E dX4_site_71 3 rfl ?_
          refine jx_iconst (x := 0) E dX4_site_72 (by decide) ?_
          obtain ⟨v15, hc15, hF⟩ := jx_bind hF
          try dsimp only at hF
          refine jx_callNv (As := [.int x6, .int x1, .int x2, .int x3, .int 0]) (st := []) (h := 1) E dX4_site_73 5 rfl (k_X3_put hI 1 jx_T1 x6 x1 x2 x3 0 v13 v15 hc15) (gb_N tw_137) rfl rfl rfl (ex_m5 (jx_ex E)) (List.mem_cons_of_mem _ tw_33) (List.mem_cons_of_mem _ tw_138) (List.mem_cons_of_mem _ tw_139) dd_X3_put.2 rfl (Nat.le_of_ble_eq_true rfl) s_X1 rfl ⟨by decide, by decide⟩ ⟨Nat.le_refl 0, Nat.le_refl 0⟩ (Nat.le_of_ble_eq_true rfl) ?_
          refine jx_aload_n E dX4_site_76 0 rfl ?_
          refine jx_getr (C := RX4) (T := TX4) (M := 11) (k := 3) E dX4_site_77 (Nat.le_of_ble_eq_true rfl) s_X0 rfl iX4 (by decide) rfl (List.mem_cons_of_mem _ tw_209) rfl ?_
          refine jx_aload_n E dX4_site_80 0 rfl ?_
          refine jx_getr (C := RX4) (T := TX4) (M := 11) (k := 0) E dX4_site_81 (Nat.le_of_ble_eq_true rfl) s_X0 rfl iX4 (by decide) rfl (List.mem_cons_of_mem _ tw_195) rfl ?_
          refine jx_aload_n E dX4_site_84 0 rfl ?_
          refine jx_getr (C := RX4) (T := TX4) (M := 11) (k := 8) E dX4_site_85 (Nat.le_of_ble_eq_true rfl) s_X0 rfl iX4 (by decide) rfl (List.mem_cons_of_mem _ tw_217) rfl ?_
          obtain ⟨⟨r16, v16⟩, hc16, hF⟩ := jx_bind hF
          try dsimp only at hF
          refine jx_callNi (As := [.ref (ad 1), .ref (ad 65)]) (st := []) (h := 49) E dX4_site_88 2 rfl (k_X0_gainsInto hI 1 jx_T1 65 s_X65 (Nat.le_of_ble_eq_true rfl) v15 r16 v16 hc16) (gb_N tw_218) rfl rfl rfl (ex_m22 (jx_ex E)) (List.mem_cons_of_mem _ tw_49) (List.mem_cons_of_mem _ tw_219) (List.mem_cons_of_mem _ tw_220) dd_X0_gainsInto.2 rfl (Nat.le_of_ble_eq_true rfl) s_X49 rfl ⟨by decide, by decide⟩ ⟨Nat.le_refl 0, Nat.le_refl 0⟩ (Nat.le_of_ble_eq_true rfl) ?_
          refine jx_pop E dX4_site_91 rfl ?_
          refine jx_aload_n E dX4_site_92 0 rfl ?_
          refine jx_getr (C := RX4) (T := TX4) (M := 11) (k := 0) E dX4_site_93 (Nat.le_of_ble_eq_true rfl) s_X0 rfl iX4 (by decide) rfl (List.mem_cons_of_mem _ tw_195) rfl ?_
          refine jx_iload E dX4_site_96 6 rfl ?_
          obtain ⟨v17, hc17, hF⟩ := jx_bind hF
          try dsimp only at hF
          refine jx_callNv (As := [.int x6]) (st := []) (h := 1) E dX4_site_98 1 rfl (k_X3_takeOff hI 1 jx_T1 x6 v16 v17 hc17) (gb_N tw_145) rfl rfl rfl (ex_m7 (jx_ex E)) (List.mem_cons_of_mem _ tw_33) (List.mem_cons_of_mem _ tw_146) (List.mem_cons_of_mem _ tw_147) dd_X3_takeOff.2 rfl (Nat.le_of_ble_eq_true rfl) s_X1 rfl ⟨by decide, by decide⟩ ⟨Nat.le_refl 0, Nat.le_refl 0⟩ (Nat.le_of_ble_eq_true rfl) ?_
          refine jx_iload E dX4_site_101 4 rfl ?_
          refine jx_if_lt (tgt := 117) E dX4_site_103 (by decide) (fun hc18 => ?_) (fun hc18 => ?_)
          · rw [if_pos hc18] at hF
            refine jx_aload_n E dX4_site_117 0 rfl ?_
            refine jx_getr (C := RX4) (T := TX4) (M := 11) (k := 8) E dX4_site_118 (Nat.le_of_ble_eq_true rfl) s_X0 rfl iX4 (by decide) rfl (List.mem_cons_of_mem _ tw_217) rfl ?_
            refine jx_iload_n E dX4_site_121 2 rfl ?_
            obtain ⟨hg19, hF⟩ := jx_guard hF
            refine jx_iald (h := 65) (j := (Int32.toNatClampNeg x2)) E dX4_site_122 (Nat.le_of_ble_eq_true rfl) s_X65 hg19 rfl ?_
            refine jx_istore (lv' := [(5, .int (v17 65 (Int32.toNatClampNeg x2))), (0, .ref (ad 0)), (1, .int x1), (2, .int x2), (3, .int x3), (4, .int x4), (6, .int x6)]) E dX4_site_123 (by decide) rfl ?_
            refine jx_iload E dX4_site_125 6 rfl ?_
            refine jx_istore (lv' := [(4, .int x6), (5, .int (v17 65 (Int32.toNatClampNeg x2))), (0, .ref (ad 0)), (1, .int x1), (2, .int x2), (3, .int x3), (6, .int x6)]) E dX4_site_127 (by decide) rfl ?_
            refine jx_iinc (y := (x6 + 1)) (lv' := [(6, .int (x6 + 1)), (4, .int x6), (5, .int (v17 65 (Int32.toNatClampNeg x2))), (0, .ref (ad 0)), (1, .int x1), (2, .int x2), (3, .int x3)]) E dX4_site_129 6 rfl rfl (by decide) rfl ?_
            refine jx_goto (tgt := 41) E dX4_site_132 (by decide) ?_
            refine jx_sub [3, 4, 5, 6, 1, 2, 0] rfl ?_
            exact ih x1 x2 x3 x6 (v17 65 (Int32.toNatClampNeg x2)) (x6 + 1) v17 hF
          · rw [if_neg hc18] at hF
            refine jx_aload_n E dX4_site_106 0 rfl ?_
            refine jx_getr (C := RX4) (T := TX4) (M := 11) (k := 8) E dX4_site_107 (Nat.le_of_ble_eq_true rfl) s_X0 rfl iX4 (by decide) rfl (List.mem_cons_of_mem _ tw_217) rfl ?_
            refine jx_iload_n E dX4_site_110 2 rfl ?_
            obtain ⟨hg20, hF⟩ := jx_guard hF
            refine jx_iald (h := 65) (j := (Int32.toNatClampNeg x2)) E dX4_site_111 (Nat.le_of_ble_eq_true rfl) s_X65 hg20 rfl ?_
            refine jx_iload E dX4_site_112 5 rfl ?_
            refine jx_icmp_le (tgt := 129) E dX4_site_114 (by decide) (fun hc21 => ?_) (fun hc21 => ?_)
            · rw [if_pos hc21] at hF
              refine jx_iinc (y := (x6 + 1)) (lv' := [(6, .int (x6 + 1)), (0, .ref (ad 0)), (1, .int x1), (2, .int x2), (3, .int x3), (4, .int x4), (5, .int x5)]) E dX4_site_129 6 rfl rfl (by decide) rfl ?_
              refine jx_goto (tgt := 41) E dX4_site_132 (by decide) ?_
              refine jx_sub [1, 2, 3, 4, 5, 6, 0] rfl ?_
              exact ih x1 x2 x3 x4 x5 (x6 + 1) v17 hF
            · rw [if_neg hc21] at hF
              refine jx_aload_n E dX4_site_117 0 rfl ?_
              refine jx_getr (C := RX4) (T := TX4) (M := 11) (k := 8) E dX4_site_118 (Nat.le_of_ble_eq_true rfl) s_X0 rfl iX4 (by decide) rfl (List.mem_cons_of_mem _ tw_217) rfl ?_
              refine jx_iload_n E dX4_site_121 2 rfl ?_
              obtain ⟨hg22, hF⟩ := jx_guard hF
              refine jx_iald (h := 65) (j := (Int32.toNatClampNeg x2)) E dX4_site_122 (Nat.le_of_ble_eq_true rfl) s_X65 hg22 rfl ?_
              refine jx_istore (lv' := [(5, .int (v17 65 (Int32.toNatClampNeg x2))), (0, .ref (ad 0)), (1, .int x1), (2, .int x2), (3, .int x3), (4, .int x4), (6, .int x6)]) E dX4_site_123 (by decide) rfl ?_
              refine jx_iload E dX4_site_125 6 rfl ?_
              refine jx_istore (lv' := [(4, .int x6), (5, .int (v17 65 (Int32.toNatClampNeg x2))), (0, .ref (ad 0)), (1, .int x1), (2, .int x2), (3, .int x3), (6, .int x6)]) E dX4_site_127 (by decide) rfl ?_
              refine jx_iinc (y := (x6 + 1)) (lv' := [(6, .int (x6 + 1)), (4, .int x6), (5, .int (v17 65 (Int32.toNatClampNeg x2))), (0, .ref (ad 0)), (1, .int x1), (2, .int x2), (3, .int x3)]) E dX4_site_129 6 rfl rfl (by decide) rfl ?_
              refine jx_goto (tgt := 41) E dX4_site_132 (by decide) ?_
              refine jx_sub [3, 4, 5, 6, 1, 2, 0] rfl ?_
              exact ih x1 x2 x3 x6 (v17 65 (Int32.toNatClampNeg x2)) (x6 + 1) v17 hF
        · rw [if_neg hc14] at hF
          refine jx_goto (tgt := 129) E dX4_site_60 (by decide) ?_
          refine jx_iinc (y := (x6 + 1)) (lv' := [(6, .int (x6 + 1)), (0, .ref (ad 0)), (1, .int x1), (2, .int x2), (3, .int x3), (4, .int x4), (5, .int x5)]) E dX4_site_129 6 rfl rfl (by decide) rfl ?_
          refine jx_goto (tgt := 41) E dX4_site_132 (by decide) ?_
          refine jx_sub [1, 2, 3, 4, 5, 6, 0] rfl ?_
          exact ih x1 x2 x3 x4 x5 (x6 + 1) v13 hF
  refine jx_iload_n E dX4_site_0 1 rfl ?_
  refine jx_bipush (x := 7) E dX4_site_1 (by decide) ?_
  obtain ⟨⟨r1, v1⟩, hc1, hF⟩ := jx_bind hF
  try dsimp only at hF
  refine jx_callSi (As := [.int x1, .int 7]) (st := []) E dX4_site_3 2 rfl (k_X4_within hI x1 7 v r1 v1 hc1) (gb_S (List.mem_cons_of_mem _ tw_188) (List.mem_cons_of_mem _ tw_189) (List.mem_cons_of_mem _ tw_190) tw_187) rfl rfl rfl dd_X4_within rfl ⟨by decide, by decide⟩ ⟨Nat.le_refl 0, Nat.le_refl 0⟩ (Nat.le_of_ble_eq_true rfl) ?_
  refine jx_if_eq (tgt := 26) E dX4_site_6 (by decide) (fun hc2 => ?_) (fun hc2 => ?_)
  · rw [if_pos hc2] at hF
    refine jx_aload_n E dX4_site_26 0 rfl ?_
    refine jx_iconst (x := 0) E dX4_site_27 (by decide) ?_
    obtain ⟨⟨r3, v3⟩, hc3, hF⟩ := jx_bind hF
    try dsimp only at hF
    refine jx_callVi (As := [.int 0]) (st := []) (h := 0) E dX4_site_28 1 rfl (k_X4_finding hI 0 v1 r3 v3 hc3) (gb_V (List.mem_cons_of_mem _ tw_192) (List.mem_cons_of_mem _ tw_193) (List.mem_cons_of_mem _ tw_194) (List.mem_cons_of_mem _ tw_190) tw_191) rfl rfl rfl dd_X4_finding rfl (Nat.le_of_ble_eq_true rfl) s_X0 rfl ⟨by decide, by decide⟩ ⟨Nat.le_refl 0, Nat.le_refl 0⟩ (Nat.le_of_ble_eq_true rfl) ?_
    obtain ⟨rfl, rfl⟩ := jx_out hF
    exact jx_iret E dX4_site_31 rfl
  · rw [if_neg hc2] at hF
    refine jx_iload_n E dX4_site_9 2 rfl ?_
    refine jx_iconst (x := 4) E dX4_site_10 (by decide) ?_
    obtain ⟨⟨r4, v4⟩, hc4, hF⟩ := jx_bind hF
    try dsimp only at hF
    refine jx_callSi (As := [.int x2, .int 4]) (st := []) E dX4_site_11 2 rfl (k_X4_within hI x2 4 v1 r4 v4 hc4) (gb_S (List.mem_cons_of_mem _ tw_188) (List.mem_cons_of_mem _ tw_189) (List.mem_cons_of_mem _ tw_190) tw_187) rfl rfl rfl dd_X4_within rfl ⟨by decide, by decide⟩ ⟨Nat.le_refl 0, Nat.le_refl 0⟩ (Nat.le_of_ble_eq_true rfl) ?_
    refine jx_if_eq (tgt := 26) E dX4_site_14 (by decide) (fun hc5 => ?_) (fun hc5 => ?_)
    · rw [if_pos hc5] at hF
      refine jx_aload_n E dX4_site_26 0 rfl ?_
      refine jx_iconst (x := 0) E dX4_site_27 (by decide) ?_
      obtain ⟨⟨r6, v6⟩, hc6, hF⟩ := jx_bind hF
      try dsimp only at hF
      refine jx_callVi (As := [.int 0]) (st := []) (h := 0) E dX4_site_28 1 rfl (k_X4_finding hI 0 v4 r6 v6 hc6) (gb_V (List.mem_cons_of_mem _ tw_192) (List.mem_cons_of_mem _ tw_193) (List.mem_cons_of_mem _ tw_194) (List.mem_cons_of_mem _ tw_190) tw_191) rfl rfl rfl dd_X4_finding rfl (Nat.le_of_ble_eq_true rfl) s_X0 rfl ⟨by decide, by decide⟩ ⟨Nat.le_refl 0, Nat.le_refl 0⟩ (Nat.le_of_ble_eq_true rfl) ?_
      obtain ⟨rfl, rfl⟩ := jx_out hF
      exact jx_iret E dX4_site_31 rfl
    · rw [if_neg hc5] at hF
      refine jx_iload_n E dX4_site_17 3 rfl ?_
      refine jx_bipush (x := 10) E dX4_site_18 (by decide) ?_
      obtain ⟨⟨r7, v7⟩, hc7, hF⟩ := jx_bind hF
      try dsimp only at hF
      refine jx_callSi (As := [.int x3, .int 10]) (st := []) E dX4_site_20 2 rfl (k_X4_within hI x3 10 v4 r7 v7 hc7) (gb_S (List.mem_cons_of_mem _ tw_188) (List.mem_cons_of_mem _ tw_189) (List.mem_cons_of_mem _ tw_190) tw_187) rfl rfl rfl dd_X4_within rfl ⟨by decide, by decide⟩ ⟨Nat.le_refl 0, Nat.le_refl 0⟩ (Nat.le_of_ble_eq_true rfl) ?_
      refine jx_if_ne (tgt := 32) E dX4_site_23 (by decide) (fun hc8 => ?_) (fun hc8 => ?_)
      · rw [if_neg hc8] at hF
        refine jx_iconst (x := -1) E dX4_site_32 (by decide) ?_
        refine jx_istore (lv' := [(4, .int (-1)), (0, .ref (ad 0)), (1, .int x1), (2, .int x2), (3, .int x3)]) E dX4_site_33 (by decide) rfl ?_
        refine jx_iconst (x := 0) E dX4_site_35 (by decide) ?_
        refine jx_istore (lv' := [(5, .int 0), (4, .int (-1)), (0, .ref (ad 0)), (1, .int x1), (2, .int x2), (3, .int x3)]) E dX4_site_36 (by decide) rfl ?_
        refine jx_iconst (x := 0) E dX4_site_38 (by decide) ?_
        refine jx_istore (lv' := [(6, .int 0), (5, .int 0), (4, .int (-1)), (0, .ref (ad 0)), (1, .int x1), (2, .int x2), (3, .int x3)]) E dX4_site_39 (by decide) rfl ?_
        refine jx_sub [3, 4, 5, 6, 2, 1, 0] rfl ?_
        exact (key 100000) x1 x2 x3 (-1) 0 0 v7 hF
      · rw [if_pos hc8] at hF
        refine jx_aload_n E dX4_site_26 0 rfl ?_
        refine jx_iconst (x := 0) E dX4_site_27 (by decide) ?_
        obtain ⟨⟨r9, v9⟩, hc9, hF⟩ := jx_bind hF
        try dsimp only at hF
        refine jx_callVi (As := [.int 0]) (st := []) (h := 0) E dX4_site_28 1 rfl (k_X4_finding hI 0 v7 r9 v9 hc9) (gb_V (List.mem_cons_of_mem _ tw_192) (List.mem_cons_of_mem _ tw_193) (List.mem_cons_of_mem _ tw_194) (List.mem_cons_of_mem _ tw_190) tw_191) rfl rfl rfl dd_X4_finding rfl (Nat.le_of_ble_eq_true rfl) s_X0 rfl ⟨by decide, by decide⟩ ⟨Nat.le_refl 0, Nat.le_refl 0⟩ (Nat.le_of_ble_eq_true rfl) ?_
        obtain ⟨rfl, rfl⟩ := jx_out hF
        exact jx_iret E dX4_site_31 rfl
def f_X4_worst_L  : Nat → Int32 → Int32 → Int32 → Int32 → Int32 → jx_V → Option (Int32 × jx_V)
  | 0, _, _, _, _, _, _ => none
  | n + 1, x1, x2, x3, x4, x5, v => (if 12 ≤ x5 then (some (x3, (jx_up v 1 6 x2))) else ((f_X0_gainsInto 1 65 (jx_up v 1 6 (x2 + x5))).bind (fun (r7, v7) => (if x5 = 0 then (if (x1 < 0 ∨ 4 ≤ Int32.toNatClampNeg x1) then none else (f_X4_worst_L n x1 x2 x5 (v7 65 (Int32.toNatClampNeg x1)) (x5 + 1) v7)) else (if (x1 < 0 ∨ 4 ≤ Int32.toNatClampNeg x1) then none else (if x4 ≤ (v7 65 (Int32.toNatClampNeg x1)) then (f_X4_worst_L n x1 x2 x3 x4 (x5 + 1) v7) else (if (x1 < 0 ∨ 4 ≤ Int32.toNatClampNeg x1) then none else (f_X4_worst_L n x1 x2 x5 (v7 65 (Int32.toNatClampNeg x1)) (x5 + 1) v7))))))))
def f_X4_worst (x1 : Int32) (v : jx_V) : Option (Int32 × jx_V) := ((f_X4_within x1 4 v).bind (fun (r1, v1) => (if r1 = 0 then ((f_X4_finding 0 v1).bind (fun (r5, v5) => (some (r5, v5)))) else (if (((v1 1 6) + 12) - 1) ≤ 999 then (f_X4_worst_L 100000 x1 (v1 1 6) 0 0 0 v1) else ((f_X4_finding 4 v1).bind (fun (r4, v4) => (some (r4, v4))))))))
def rm_X4_worst : Room := { frames := 5, cells := 0, slots := 0, locals := 125 }
set_option maxHeartbeats 4000000 in
set_option maxRecDepth 100000 in
theorem k_X4_worst {l : Launch} {D : va_G} {cI cJ : ClassId} {ad : Nat → Nat} {A : Nat → Prop} {adK adV : Nat → Nat} (hI : jx_inj 67 ad A) (x1 : Int32) (v : jx_V) (r : Int32) (v' : jx_V) (hF : f_X4_worst x1 v = some (r, v')) : jx_Ci l D vwCl 67 cI cJ ad shX A (ex_X adK adV A) yX4_worst (Cond.code yX4_worst cX4_worst 6 (some .int) :: bigT) rm_X4_worst [.ref (ad 0), .int x1] v r v' := by
  unfold f_X4_worst at hF
  refine jx_enteri bigT RX4 cX4_worst 6 (some .int) [(0, .ref (ad 0)), (1, .int x1)] hI (ex_X_ok adK adV A) (by decide +kernel) rfl (Nat.le_of_ble_eq_true rfl) rfl rfl ?_
  intro p e s m args below meth c E
  have iX3 : ∀ w ∈ u_ws RX3 TX3 8, w ∈ (Cond.code yX4_worst cX4_worst 6 (some .int) :: bigT) := fun w h => List.mem_cons_of_mem _ (uw_X3 w h)
  have iX4 : ∀ w ∈ u_ws RX4 TX4 11, w ∈ (Cond.code yX4_worst cX4_worst 6 (some .int) :: bigT) := fun w h => List.mem_cons_of_mem _ (uw_X4 w h)
  have key : ∀ n : Nat, (∀ (x1 : Int32) (x2 : Int32) (x3 : Int32) (x4 : Int32) (x5 : Int32) (v : jx_V), f_X4_worst_L  n  x1 x2 x3 x4 x5 v = some (r, v') → jx_J p l e rm_X4_worst s m args below meth c D vwCl 67 cI cJ ad shX A 0 0 6 (MQ below (va_Qi (fun (r1 : Int32) (_ : Unit) => r1 = r) (fun _ t => va_P D vwCl (jx_ws 67 cI cJ ad shX v') t.heap) A) args s 0 0 A) v 54 [(0, .ref (ad 0)), (1, .int x1), (2, .int x2), (3, .int x3), (4, .int x4), (5, .int x5)] []) := by
    intro n
    induction n with
    | zero =>
      exact (fun _ _ _ _ _ _ h => by cases h)
    | succ n ih =>
      intro x1 x2 x3 x4 x5 v hF
      rw [f_X4_worst_L] at hF
      refine jx_iload E dX4_worst_54 5 rfl ?_
      refine jx_bipush (x := 12) E dX4_worst_56 (by decide) ?_
      refine jx_icmp_ge (tgt := 121) E dX4_worst_58 (by decide) (fun hc6 => ?_) (fun hc6 => ?_)
      · rw [if_pos hc6] at hF
        refine jx_aload_n E dX4_worst_121 0 rfl ?_
        refine jx_getr (C := RX4) (T := TX4) (M := 11) (k := 0) E dX4_worst_122 (Nat.le_of_ble_eq_true rfl) s_X0 rfl iX4 (by decide) rfl (List.mem_cons_of_mem _ tw_195) rfl ?_
        refine jx_iload_n E dX4_worst_125 2 rfl ?_
        refine jx_putiN (C := RX3) (T := TX3) (M := 8) (k := 6) (ty := .int) E tyX3 dX4_worst_126 (Nat.le_of_ble_eq_true rfl) s_X1 rfl iX3 (by decide) rfl (ex_f12 (jx_ex E)) tyX3_ok nmX3 rfl (by decide +kernel) rfl rfl rfl ?_
        refine jx_iload_n E dX4_worst_129 3 rfl ?_
        obtain ⟨rfl, rfl⟩ := jx_out hF
        exact jx_iret E dX4_worst_130 rfl
      · rw [if_neg hc6] at hF
        refine jx_aload_n E dX4_worst_61 0 rfl ?_
        refine jx_getr (C := RX4) (T := TX4) (M := 11) (k := 0) E dX4_worst_62 (Nat.le_of_ble_eq_true rfl) s_X0 rfl iX4 (by decide) rfl (List.mem_cons_of_mem _ tw_195) rfl ?_
        refine jx_iload_n E dX4_worst_65 2 rfl ?_
        refine jx_iload E dX4_worst_66 5 rfl ?_
        refine jx_iadd E dX4_worst_68 ?_
        refine jx_putiN (C := RX3) (T := TX3) (M := 8) (k := 6) (ty := .int) E tyX3 dX4_worst_69 (Nat.le_of_ble_eq_true rfl) s_X1 rfl iX3 (by decide) rfl (ex_f12 (jx_ex E)) tyX3_ok nmX3 rfl (by decide +kernel) rfl rfl rfl ?_
        refine jx_aload_n E dX4_worst_72 0 rfl ?_
        refine jx_getr (C := RX4) (T := TX4) (M := 11) (k := 3) E dX4_worst_73 (Nat.le_of_ble_eq_true rfl) s_X0 rfl iX4 (by decide) rfl (List.mem_cons_of_mem _ tw_209) rfl ?_
        refine jx_aload_n E dX4_worst_76 0 rfl ?_
        refine jx_getr (C := RX4) (T := TX4) (M := 11) (k := 0) E dX4_worst_77 (Nat.le_of_ble_eq_true rfl) s_X0 rfl iX4 (by decide) rfl (List.mem_cons_of_mem _ tw_195) rfl ?_
        refine jx_aload_n E dX4_worst_80 0 rfl ?_
        refine jx_getr (C := RX4) (T := TX4) (M := 11) (k := 8) E dX4_worst_81 (Nat.le_of_ble_eq_true rfl) s_X0 rfl iX4 (by decide) rfl (List.mem_cons_of_mem _ tw_217) rfl ?_
        obtain ⟨⟨r7, v7⟩, hc7, hF⟩ := jx_bind hF
        try dsimp only at hF
        refine jx_callNi (As := [.ref (ad 1), .ref (ad 65)]) (st := []) (h := 49) E dX4_worst_84 2 rfl (k_X0_gainsInto hI 1 jx_T1 65 s_X65 (Nat.le_of_ble_eq_true rfl) (jx_up v 1 6 (x2 + x5)) r7 v7 hc7) (gb_N tw_218) rfl rfl rfl (ex_m22 (jx_ex E)) (List.mem_cons_of_mem _ tw_49) (List.mem_cons_of_mem _ tw_219) (List.mem_cons_of_mem _ tw_220) dd_X0_gainsInto.2 rfl (Nat.le_of_ble_eq_true rfl) s_X49 rfl ⟨by decide, by decide⟩ ⟨Nat.le_refl 0, Nat.le_refl 0⟩ (Nat.le_of_ble_eq_true rfl) ?_
        refine jx_pop E dX4_worst_87 rfl ?_
        refine jx_iload E dX4_worst_88 5 rfl ?_
        refine jx_if_eq (tgt := 104) E dX4_worst_90 (by decide) (fun hc8 => ?_) (fun hc8 => ?_)
        · rw [if_pos hc8] at hF
          refine jx_aload_n E dX4_worst_104 0 rfl ?_
          refine jx_getr (C := RX4) (T := TX4) (M := 11) (k := 8) E dX4_worst_105 (Nat.le_of_ble_eq_true rfl) s_X0 rfl iX4 (by decide) rfl (List.mem_cons_of_mem _ tw_217) rfl ?_
          refine jx_iload_n E dX4_worst_108 1 rfl ?_
          obtain ⟨hg9, hF⟩ := jx_guard hF
          refine jx_iald (h := 65) (j := (Int32.toNatClampNeg x1)) E dX4_worst_109 (Nat.le_of_ble_eq_true rfl) s_X65 hg9 rfl ?_
          refine jx_istore (lv' := [(4, .int (v7 65 (Int32.toNatClampNeg x1))), (0, .ref (ad 0)), (1, .int x1), (2, .int x2), (3, .int x3), (5, .int x5)]) E dX4_worst_110 (by decide) rfl ?_
          refine jx_iload E dX4_worst_112 5 rfl ?_
          refine jx_istore_n (lv' := [(3, .int x5), (4, .int (v7 65 (Int32.toNatClampNeg x1))), (0, .ref (ad 0)), (1, .int x1), (2, .int x2), (5, .int x5)]) E dX4_worst_114 (by decide) rfl ?_
          refine jx_iinc (y := (x5 + 1)) (lv' := [(5, .int (x5 + 1)), (3, .int x5), (4, .int (v7 65 (Int32.toNatClampNeg x1))), (0, .ref (ad 0)), (1, .int x1), (2, .int x2)]) E dX4_worst_115 5 rfl rfl (by decide) rfl ?_
          refine jx_goto (tgt := 54) E dX4_worst_118 (by decide) ?_
          refine jx_sub [3, 4, 5, 1, 2, 0] rfl ?_
          exact ih x1 x2 x5 (v7 65 (Int32.toNatClampNeg x1)) (x5 + 1) v7 hF
        · rw [if_neg hc8] at hF
          refine jx_aload_n E dX4_worst_93 0 rfl ?_
          refine jx_getr (C := RX4) (T := TX4) (M := 11) (k := 8) E dX4_worst_94 (Nat.le_of_ble_eq_true rfl) s_X0 rfl iX4 (by decide) rfl (List.mem_cons_of_mem _ tw_217) rfl ?_
          refine jx_iload_n E dX4_worst_97 1 rfl ?_
          obtain ⟨hg10, hF⟩ := jx_guard hF
          refine jx_iald (h := 65) (j := (Int32.toNatClampNeg x1)) E dX4_worst_98 (Nat.le_of_ble_eq_true rfl) s_X65 hg10 rfl ?_
          refine jx_iload E dX4_worst_99 4 rfl ?_
          refine jx_icmp_ge (tgt := 115) E dX4_worst_101 (by decide) (fun hc11 => ?_) (fun hc11 => ?_)
          · rw [if_pos hc11] at hF
            refine jx_iinc (y := (x5 + 1)) (lv' := [(5, .int (x5 + 1)), (0, .ref (ad 0)), (1, .int x1), (2, .int x2), (3, .int x3), (4, .int x4)]) E dX4_worst_115 5 rfl rfl (by decide) rfl ?_
            refine jx_goto (tgt := 54) E dX4_worst_118 (by decide) ?_
            refine jx_sub [1, 2, 3, 4, 5, 0] rfl ?_
            exact ih x1 x2 x3 x4 (x5 + 1) v7 hF
          · rw [if_neg hc11] at hF
            refine jx_aload_n E dX4_worst_104 0 rfl ?_
            refine jx_getr (C := RX4) (T := TX4) (M := 11) (k := 8) E dX4_worst_105 (Nat.le_of_ble_eq_true rfl) s_X0 rfl iX4 (by decide) rfl (List.mem_cons_of_mem _ tw_217) rfl ?_
            refine jx_iload_n E dX4_worst_108 1 rfl ?_
            obtain ⟨hg12, hF⟩ := jx_guard hF
            refine jx_iald (h := 65) (j := (Int32.toNatClampNeg x1)) E dX4_worst_109 (Nat.le_of_ble_eq_true rfl) s_X65 hg12 rfl ?_
            refine jx_istore (lv' := [(4, .int (v7 65 (Int32.toNatClampNeg x1))), (0, .ref (ad 0)), (1, .int x1), (2, .int x2), (3, .int x3), (5, .int x5)]) E dX4_worst_110 (by decide) rfl ?_
            refine jx_iload E dX4_worst_112 5 rfl ?_
            refine jx_istore_n (lv' := [(3, .int x5), (4, .int (v7 65 (Int32.toNatClampNeg x1))), (0, .ref (ad 0)), (1, .int x1), (2, .int x2), (5, .int x5)]) E dX4_worst_114 (by decide) rfl ?_
            refine jx_iinc (y := (x5 + 1)) (lv' := [(5, .int (x5 + 1)), (3, .int x5), (4, .int (v7 65 (Int32.toNatClampNeg x1))), (0, .ref (ad 0)), (1, .int x1), (2, .int x2)]) E dX4_worst_115 5 rfl rfl (by decide) rfl ?_
            refine jx_goto (tgt := 54) E dX4_worst_118 (by decide) ?_
            refine jx_sub [3, 4, 5, 1, 2, 0] rfl ?_
            exact ih x1 x2 x5 (v7 65 (Int32.toNatClampNeg x1)) (x5 + 1) v7 hF
  refine jx_iload_n E dX4_worst_0 1 rfl ?_
  refine jx_iconst (x := 4) E dX4_worst_1 (by decide) ?_
  obtain ⟨⟨r1, v1⟩, hc1, hF⟩ := jx_bind hF
  try dsimp only at hF
  refine jx_callSi (As := [.int x1, .int 4]) (st := []) E dX4_worst_2 2 rfl (k_X4_within hI x1 4 v r1 v1 hc1) (gb_S (List.mem_cons_of_mem _ tw_188) (List.mem_cons_of_mem _ tw_189) (List.mem_cons_of_mem _ tw_190) tw_187) rfl rfl rfl dd_X4_within rfl ⟨by decide, by decide⟩ ⟨Nat.le_refl 0, Nat.le_refl 0⟩ (Nat.le_of_ble_eq_true rfl) ?_
  refine jx_if_ne (tgt := 14) E dX4_worst_5 (by decide) (fun hc2 => ?_) (fun hc2 => ?_)
  · rw [if_neg hc2] at hF
    refine jx_aload_n E dX4_worst_14 0 rfl ?_
    refine jx_getr (C := RX4) (T := TX4) (M := 11) (k := 0) E dX4_worst_15 (Nat.le_of_ble_eq_true rfl) s_X0 rfl iX4 (by decide) rfl (List.mem_cons_of_mem _ tw_195) rfl ?_
    refine jx_getiN (C := RX3) (T := TX3) (M := 8) (k := 6) E dX4_worst_18 (Nat.le_of_ble_eq_true rfl) s_X1 rfl iX3 (by decide) rfl (ex_f12 (jx_ex E)) rfl ?_
    refine jx_bipush (x := 12) E dX4_worst_21 (by decide) ?_
    refine jx_iadd E dX4_worst_23 ?_
    refine jx_iconst (x := 1) E dX4_worst_24 (by decide) ?_
    refine jx_isub E dX4_worst_25 ?_
    refine jx_sipush (x := 999) E dX4_worst_26 (by decide) ?_
    refine jx_icmp_le (tgt := 38) E dX4_worst_29 (by decide) (fun hc3 => ?_) (fun hc3 => ?_)
    · rw [if_pos hc3] at hF
      refine jx_aload_n E dX4_worst_38 0 rfl ?_
      refine jx_getr (C := RX4) (T := TX4) (M := 11) (k := 0) E dX4_worst_39 (Nat.le_of_ble_eq_true rfl) s_X0 rfl iX4 (by decide) rfl (List.mem_cons_of_mem _ tw_195) rfl ?_
      refine jx_getiN (C := RX3) (T := TX3) (M := 8) (k := 6) E dX4_worst_42 (Nat.le_of_ble_eq_true rfl) s_X1 rfl iX3 (by decide) rfl (ex_f12 (jx_ex E)) rfl ?_
      refine jx_istore_n (lv' := [(2, .int (v1 1 6)), (0, .ref (ad 0)), (1, .int x1)]) E dX4_worst_45 (by decide) rfl ?_
      refine jx_iconst (x := 0) E dX4_worst_46 (by decide) ?_
      refine jx_istore_n (lv' := [(3, .int 0), (2, .int (v1 1 6)), (0, .ref (ad 0)), (1, .int x1)]) E dX4_worst_47 (by decide) rfl ?_
      refine jx_iconst (x := 0) E dX4_worst_48 (by decide) ?_
      refine jx_istore (lv' := [(4, .int 0), (3, .int 0), (2, .int (v1 1 6)), (0, .ref (ad 0)), (1, .int x1)]) E dX4_worst_49 (by decide) rfl ?_
      refine jx_iconst (x := 0) E dX4_worst_51 (by decide) ?_
      refine jx_istore (lv' := [(5, .int 0), (4, .int 0), (3, .int 0), (2, .int (v1 1 6)), (0, .ref (ad 0)), (1, .int x1)]) E dX4_worst_52 (by decide) rfl ?_
      refine jx_sub [4, 5, 3, 2, 1, 0] rfl ?_
      exact (key 100000) x1 (v1 1 6) 0 0 0 v1 hF
    · rw [if_neg hc3] at hF
      refine jx_aload_n E dX4_worst_32 0 rfl ?_
      refine jx_iconst (x := 4) E dX4_worst_33 (by decide) ?_
      obtain ⟨⟨r4, v4⟩, hc4, hF⟩ := jx_bind hF
      try dsimp only at hF
      refine jx_callVi (As := [.int 4]) (st := []) (h := 0) E dX4_worst_34 1 rfl (k_X4_finding hI 4 v1 r4 v4 hc4) (gb_V (List.mem_cons_of_mem _ tw_192) (List.mem_cons_of_mem _ tw_193) (List.mem_cons_of_mem _ tw_194) (List.mem_cons_of_mem _ tw_190) tw_191) rfl rfl rfl dd_X4_finding rfl (Nat.le_of_ble_eq_true rfl) s_X0 rfl ⟨by decide, by decide⟩ ⟨Nat.le_refl 0, Nat.le_refl 0⟩ (Nat.le_of_ble_eq_true rfl) ?_
      obtain ⟨rfl, rfl⟩ := jx_out hF
      exact jx_iret E dX4_worst_37 rfl
  · rw [if_pos hc2] at hF
    refine jx_aload_n E dX4_worst_8 0 rfl ?_
    refine jx_iconst (x := 0) E dX4_worst_9 (by decide) ?_
    obtain ⟨⟨r5, v5⟩, hc5, hF⟩ := jx_bind hF
    try dsimp only at hF
    refine jx_callVi (As := [.int 0]) (st := []) (h := 0) E dX4_worst_10 1 rfl (k_X4_finding hI 0 v1 r5 v5 hc5) (gb_V (List.mem_cons_of_mem _ tw_192) (List.mem_cons_of_mem _ tw_193) (List.mem_cons_of_mem _ tw_194) (List.mem_cons_of_mem _ tw_190) tw_191) rfl rfl rfl dd_X4_finding rfl (Nat.le_of_ble_eq_true rfl) s_X0 rfl ⟨by decide, by decide⟩ ⟨Nat.le_refl 0, Nat.le_refl 0⟩ (Nat.le_of_ble_eq_true rfl) ?_
    obtain ⟨rfl, rfl⟩ := jx_out hF
    exact jx_iret E dX4_worst_13 rfl
def f_X4_bothGainIfLower (x1 : Int32) (x2 : Int32) (v : jx_V) : Option (Int32 × jx_V) := ((f_X3_lower 1 x1 v).bind (fun (r1, v1) => ((f_X3_lower 1 x2 v1).bind (fun (r2, v2) => ((f_X0_gainsInto 1 65 v2).bind (fun (r3, v3) => (if (x1 < 0 ∨ 25 ≤ Int32.toNatClampNeg x1) then none else (if (x1 < 0 ∨ 25 ≤ Int32.toNatClampNeg x1) then none else (if (x2 < 0 ∨ 25 ≤ Int32.toNatClampNeg x2) then none else (if (x2 < 0 ∨ 25 ≤ Int32.toNatClampNeg x2) then none else (if (x1 < 0 ∨ 25 ≤ Int32.toNatClampNeg x1) then none else (if (x2 < 0 ∨ 25 ≤ Int32.toNatClampNeg x2) then none else (if (((jx_up (jx_up v3 6 (Int32.toNatClampNeg x1) ((v3 6 (Int32.toNatClampNeg x1)) + r1)) 6 (Int32.toNatClampNeg x2) (((jx_up v3 6 (Int32.toNatClampNeg x1) ((v3 6 (Int32.toNatClampNeg x1)) + r1)) 6 (Int32.toNatClampNeg x2)) + r2)) 5 (Int32.toNatClampNeg x1)) < 0 ∨ 4 ≤ Int32.toNatClampNeg ((jx_up (jx_up v3 6 (Int32.toNatClampNeg x1) ((v3 6 (Int32.toNatClampNeg x1)) + r1)) 6 (Int32.toNatClampNeg x2) (((jx_up v3 6 (Int32.toNatClampNeg x1) ((v3 6 (Int32.toNatClampNeg x1)) + r1)) 6 (Int32.toNatClampNeg x2)) + r2)) 5 (Int32.toNatClampNeg x1))) then none else (if (((jx_up (jx_up v3 6 (Int32.toNatClampNeg x1) ((v3 6 (Int32.toNatClampNeg x1)) + r1)) 6 (Int32.toNatClampNeg x2) (((jx_up v3 6 (Int32.toNatClampNeg x1) ((v3 6 (Int32.toNatClampNeg x1)) + r1)) 6 (Int32.toNatClampNeg x2)) + r2)) 5 (Int32.toNatClampNeg x1)) < 0 ∨ 4 ≤ Int32.toNatClampNeg ((jx_up (jx_up v3 6 (Int32.toNatClampNeg x1) ((v3 6 (Int32.toNatClampNeg x1)) + r1)) 6 (Int32.toNatClampNeg x2) (((jx_up v3 6 (Int32.toNatClampNeg x1) ((v3 6 (Int32.toNatClampNeg x1)) + r1)) 6 (Int32.toNatClampNeg x2)) + r2)) 5 (Int32.toNatClampNeg x1))) then none else (if ((jx_up (jx_up v3 6 (Int32.toNatClampNeg x1) ((v3 6 (Int32.toNatClampNeg x1)) + r1)) 6 (Int32.toNatClampNeg x2) (((jx_up v3 6 (Int32.toNatClampNeg x1) ((v3 6 (Int32.toNatClampNeg x1)) + r1)) 6 (Int32.toNatClampNeg x2)) + r2)) 65 (Int32.toNatClampNeg ((jx_up (jx_up v3 6 (Int32.toNatClampNeg x1) ((v3 6 (Int32.toNatClampNeg x1)) + r1)) 6 (Int32.toNatClampNeg x2) (((jx_up v3 6 (Int32.toNatClampNeg x1) ((v3 6 (Int32.toNatClampNeg x1)) + r1)) 6 (Int32.toNatClampNeg x2)) + r2)) 5 (Int32.toNatClampNeg x1)))) ≤ ((jx_up (jx_up v3 6 (Int32.toNatClampNeg x1) ((v3 6 (Int32.toNatClampNeg x1)) + r1)) 6 (Int32.toNatClampNeg x2) (((jx_up v3 6 (Int32.toNatClampNeg x1) ((v3 6 (Int32.toNatClampNeg x1)) + r1)) 6 (Int32.toNatClampNeg x2)) + r2)) 64 (Int32.toNatClampNeg ((jx_up (jx_up v3 6 (Int32.toNatClampNeg x1) ((v3 6 (Int32.toNatClampNeg x1)) + r1)) 6 (Int32.toNatClampNeg x2) (((jx_up v3 6 (Int32.toNatClampNeg x1) ((v3 6 (Int32.toNatClampNeg x1)) + r1)) 6 (Int32.toNatClampNeg x2)) + r2)) 5 (Int32.toNatClampNeg x1)))) then (some (0, (jx_up (jx_up v3 6 (Int32.toNatClampNeg x1) ((v3 6 (Int32.toNatClampNeg x1)) + r1)) 6 (Int32.toNatClampNeg x2) (((jx_up v3 6 (Int32.toNatClampNeg x1) ((v3 6 (Int32.toNatClampNeg x1)) + r1)) 6 (Int32.toNatClampNeg x2)) + r2)))) else (if (((jx_up (jx_up v3 6 (Int32.toNatClampNeg x1) ((v3 6 (Int32.toNatClampNeg x1)) + r1)) 6 (Int32.toNatClampNeg x2) (((jx_up v3 6 (Int32.toNatClampNeg x1) ((v3 6 (Int32.toNatClampNeg x1)) + r1)) 6 (Int32.toNatClampNeg x2)) + r2)) 5 (Int32.toNatClampNeg x2)) < 0 ∨ 4 ≤ Int32.toNatClampNeg ((jx_up (jx_up v3 6 (Int32.toNatClampNeg x1) ((v3 6 (Int32.toNatClampNeg x1)) + r1)) 6 (Int32.toNatClampNeg x2) (((jx_up v3 6 (Int32.toNatClampNeg x1) ((v3 6 (Int32.toNatClampNeg x1)) + r1)) 6 (Int32.toNatClampNeg x2)) + r2)) 5 (Int32.toNatClampNeg x2))) then none else (if (((jx_up (jx_up v3 6 (Int32.toNatClampNeg x1) ((v3 6 (Int32.toNatClampNeg x1)) + r1)) 6 (Int32.toNatClampNeg x2) (((jx_up v3 6 (Int32.toNatClampNeg x1) ((v3 6 (Int32.toNatClampNeg x1)) + r1)) 6 (Int32.toNatClampNeg x2)) + r2)) 5 (Int32.toNatClampNeg x2)) < 0 ∨ 4 ≤ Int32.toNatClampNeg ((jx_up (jx_up v3 6 (Int32.toNatClampNeg x1) ((v3 6 (Int32.toNatClampNeg x1)) + r1)) 6 (Int32.toNatClampNeg x2) (((jx_up v3 6 (Int32.toNatClampNeg x1) ((v3 6 (Int32.toNatClampNeg x1)) + r1)) 6 (Int32.toNatClampNeg x2)) + r2)) 5 (Int32.toNatClampNeg x2))) then none else (if ((jx_up (jx_up v3 6 (Int32.toNatClampNeg x1) ((v3 6 (Int32.toNatClampNeg x1)) + r1)) 6 (Int32.toNatClampNeg x2) (((jx_up v3 6 (Int32.toNatClampNeg x1) ((v3 6 (Int32.toNatClampNeg x1)) + r1)) 6 (Int32.toNatClampNeg x2)) + r2)) 65 (Int32.toNatClampNeg ((jx_up (jx_up v3 6 (Int32.toNatClampNeg x1) ((v3 6 (Int32.toNatClampNeg x1)) + r1)) 6 (Int32.toNatClampNeg x2) (((jx_up v3 6 (Int32.toNatClampNeg x1) ((v3 6 (Int32.toNatClampNeg x1)) + r1)) 6 (Int32.toNatClampNeg x2)) + r2)) 5 (Int32.toNatClampNeg x2)))) ≤ ((jx_up (jx_up v3 6 (Int32.toNatClampNeg x1) ((v3 6 (Int32.toNatClampNeg x1)) + r1)) 6 (Int32.toNatClampNeg x2) (((jx_up v3 6 (Int32.toNatClampNeg x1) ((v3 6 (Int32.toNatClampNeg x1)) + r1)) 6 (Int32.toNatClampNeg x2)) + r2)) 64 (Int32.toNatClampNeg ((jx_up (jx_up v3 6 (Int32.toNatClampNeg x1) ((v3 6 (Int32.toNatClampNeg x1)) + r1)) 6 (Int32.toNatClampNeg x2) (((jx_up v3 6 (Int32.toNatClampNeg x1) ((v3 6 (Int32.toNatClampNeg x1)) + r1)) 6 (Int32.toNatClampNeg x2)) + r2)) 5 (Int32.toNatClampNeg x2)))) then (some (0, (jx_up (jx_up v3 6 (Int32.toNatClampNeg x1) ((v3 6 (Int32.toNatClampNeg x1)) + r1)) 6 (Int32.toNatClampNeg x2) (((jx_up v3 6 (Int32.toNatClampNeg x1) ((v3 6 (Int32.toNatClampNeg x1)) + r1)) 6 (Int32.toNatClampNeg x2)) + r2)))) else (some (1, (jx_up (jx_up v3 6 (Int32.toNatClampNeg x1) ((v3 6 (Int32.toNatClampNeg x1)) + r1)) 6 (Int32.toNatClampNeg x2) (((jx_up v3 6 (Int32.toNatClampNeg x1) ((v3 6 (Int32.toNatClampNeg x1)) + r1)) 6 (Int32.toNatClampNeg x2)) + r2))))))))))))))))))))))
def rm_X4_bothGainIfLower : Room := { frames := 5, cells := 0, slots := 0, locals := 125 }
set_option maxHeartbeats 4000000 in
set_option maxRecDepth 100000 in
theorem k_X4_bothGainIfLower {l : Launch} {D : va_G} {cI cJ : ClassId} {ad : Nat → Nat} {A : Nat → Prop} {adK adV : Nat → Nat} (hI : jx_inj 67 ad A) (x1 : Int32) (x2 : Int32) (v : jx_V) (r : Int32) (v' : jx_V) (hF : f_X4_bothGainIfLower x1 x2 v = some (r, v')) : jx_Ci l D vwCl 67 cI cJ ad shX A (ex_X adK adV A) yX4_bothGainIfLower (Cond.code yX4_bothGainIfLower cX4_bothGainIfLower 7 (some .boolean) :: bigT) rm_X4_bothGainIfLower [.ref (ad 0), .int x1, .int x2] v r v' := by
  unfold f_X4_bothGainIfLower at hF
  refine jx_enteri bigT RX4 cX4_bothGainIfLower 7 (some .boolean) [(0, .ref (ad 0)), (1, .int x1), (2, .int x2)] hI (ex_X_ok adK adV A) (by decide +kernel) rfl (Nat.le_of_ble_eq_true rfl) rfl rfl ?_
  intro p e s m args below meth c E
  have iX3 : ∀ w ∈ u_ws RX3 TX3 8, w ∈ (Cond.code yX4_bothGainIfLower cX4_bothGainIfLower 7 (some .boolean) :: bigT) := fun w h => List.mem_cons_of_mem _ (uw_X3 w h)
  have iX4 : ∀ w ∈ u_ws RX4 TX4 11, w ∈ (Cond.code yX4_bothGainIfLower cX4_bothGainIfLower 7 (some .boolean) :: bigT) := fun w h => List.mem_cons_of_mem _ (uw_X4 w h)
  refine jx_aload_n E dX4_bothGainIfLower_0 0 rfl ?_
  refine jx_getr (C := RX4) (T := TX4) (M := 11) (k := 0) E dX4_bothGainIfLower_1 (Nat.le_of_ble_eq_true rfl) s_X0 rfl iX4 (by decide) rfl (List.mem_cons_of_mem _ tw_195) rfl ?_
  refine jx_iload_n E dX4_bothGainIfLower_4 1 rfl ?_
  obtain ⟨⟨r1, v1⟩, hc1, hF⟩ := jx_bind hF
  try dsimp only at hF
  refine jx_callNi (As := [.int x1]) (st := []) (h := 1) E dX4_bothGainIfLower_5 1 rfl (k_X3_lower hI 1 jx_T1 x1 v r1 v1 hc1) (gb_N tw_258) rfl rfl rfl (ex_m29 (jx_ex E)) (List.mem_cons_of_mem _ tw_33) (List.mem_cons_of_mem _ tw_259) (List.mem_cons_of_mem _ tw_260) dd_X3_lower.2 rfl (Nat.le_of_ble_eq_true rfl) s_X1 rfl ⟨by decide, by decide⟩ ⟨Nat.le_refl 0, Nat.le_refl 0⟩ (Nat.le_of_ble_eq_true rfl) ?_
  refine jx_istore_n (lv' := [(3, .int r1), (0, .ref (ad 0)), (1, .int x1), (2, .int x2)]) E dX4_bothGainIfLower_8 (by decide) rfl ?_
  refine jx_aload_n E dX4_bothGainIfLower_9 1 rfl ?_
  refine jx_getr (C := RX4) (T := TX4) (M := 11) (k := 0) E dX4_bothGainIfLower_10 (Nat.le_of_ble_eq_true rfl) s_X0 rfl iX4 (by decide) rfl (List.mem_cons_of_mem _ tw_195) rfl ?_
  refine jx_iload_n E dX4_bothGainIfLower_13 3 rfl ?_
  obtain ⟨⟨r2, v2⟩, hc2, hF⟩ := jx_bind hF
  try dsimp only at hF
  refine jx_callNi (As := [.int x2]) (st := []) (h := 1) E dX4_bothGainIfLower_14 1 rfl (k_X3_lower hI 1 jx_T1 x2 v1 r2 v2 hc2) (gb_N tw_258) rfl rfl rfl (ex_m29 (jx_ex E)) (List.mem_cons_of_mem _ tw_33) (List.mem_cons_of_mem _ tw_259) (List.mem_cons_of_mem _ tw_260) dd_X3_lower.2 rfl (Nat.le_of_ble_eq_true rfl) s_X1 rfl ⟨by decide, by decide⟩ ⟨Nat.le_refl 0, Nat.le_refl 0⟩ (Nat.le_of_ble_eq_true rfl) ?_
  refine jx_istore (lv' := [(4, .int r2), (3, .int r1), (0, .ref (ad 0)), (1, .int x1), (2, .int x2)]) E dX4_bothGainIfLower_17 (by decide) rfl ?_
  refine jx_aload_n E dX4_bothGainIfLower_19 2 rfl ?_
  refine jx_getr (C := RX4) (T := TX4) (M := 11) (k := 3) E dX4_bothGainIfLower_20 (Nat.le_of_ble_eq_true rfl) s_X0 rfl iX4 (by decide) rfl (List.mem_cons_of_mem _ tw_209) rfl ?_
  refine jx_aload_n E dX4_bothGainIfLower_23 2 rfl ?_
  refine jx_getr (C := RX4) (T := TX4) (M := 11) (k := 0) E dX4_bothGainIfLower_24 (Nat.le_of_ble_eq_true rfl) s_X0 rfl iX4 (by decide) rfl (List.mem_cons_of_mem _ tw_195) rfl ?_
  refine jx_aload_n E dX4_bothGainIfLower_27 2 rfl ?_
  refine jx_getr (C := RX4) (T := TX4) (M := 11) (k := 8) E dX4_bothGainIfLower_28 (Nat.le_of_ble_eq_true rfl) s_X0 rfl iX4 (by decide) rfl (List.mem_cons_of_mem _ tw_217) rfl ?_
  obtain ⟨⟨r3, v3⟩, hc3, hF⟩ := jx_bind hF
  try dsimp only at hF
  refine jx_callNi (As := [.ref (ad 1), .ref (ad 65)]) (st := []) (h := 49) E dX4_bothGainIfLower_31 2 rfl (k_X0_gainsInto hI 1 jx_T1 65 s_X65 (Nat.le_of_ble_eq_true rfl) v2 r3 v3 hc3) (gb_N tw_218) rfl rfl rfl (ex_m22 (jx_ex E)) (List.mem_cons_of_mem _ tw_49) (List.mem_cons_of_mem _ tw_219) (List.mem_cons_of_mem _ tw_220) dd_X0_gainsInto.2 rfl (Nat.le_of_ble_eq_true rfl) s_X49 rfl ⟨by decide, by decide⟩ ⟨Nat.le_refl 0, Nat.le_refl 0⟩ (Nat.le_of_ble_eq_true rfl) ?_
  refine jx_pop E dX4_bothGainIfLower_34 rfl ?_
  refine jx_aload_n E dX4_bothGainIfLower_35 2 rfl ?_
  refine jx_getr (C := RX4) (T := TX4) (M := 11) (k := 0) E dX4_bothGainIfLower_36 (Nat.le_of_ble_eq_true rfl) s_X0 rfl iX4 (by decide) rfl (List.mem_cons_of_mem _ tw_195) rfl ?_
  refine jx_getrN (C := RX3) (T := TX3) (M := 8) (k := 0) E dX4_bothGainIfLower_39 (Nat.le_of_ble_eq_true rfl) s_X1 rfl iX3 (by decide) rfl (ex_f0 (jx_ex E)) rfl ?_
  refine jx_iconst (x := 2) E dX4_bothGainIfLower_42 (by decide) ?_
  refine jx_aald (h' := 6) E dX4_bothGainIfLower_43 (Nat.le_of_ble_eq_true rfl) s_X2 (show ¬ ((2 : Int32) < 0 ∨ 4 ≤ Int32.toNatClampNeg 2) by decide) rfl ?_
  refine jx_iload_n E dX4_bothGainIfLower_44 3 rfl ?_
  refine jx_dup2 E dX4_bothGainIfLower_45 rfl rfl ?_
  obtain ⟨hg4, hF⟩ := jx_guard hF
  refine jx_iald (h := 6) (j := (Int32.toNatClampNeg x1)) E dX4_bothGainIfLower_46 (Nat.le_of_ble_eq_true rfl) s_X6 hg4 rfl ?_
  refine jx_iload_n E dX4_bothGainIfLower_47 1 rfl ?_
  refine jx_iadd E dX4_bothGainIfLower_48 ?_
  obtain ⟨hg5, hF⟩ := jx_guard hF
  refine jx_iast (h := 6) (j := (Int32.toNatClampNeg x1)) E dX4_bothGainIfLower_49 (Nat.le_of_ble_eq_true rfl) s_X6 hg5 rfl ?_
  refine jx_aload_n E dX4_bothGainIfLower_50 2 rfl ?_
  refine jx_getr (C := RX4) (T := TX4) (M := 11) (k := 0) E dX4_bothGainIfLower_51 (Nat.le_of_ble_eq_true rfl) s_X0 rfl iX4 (by decide) rfl (List.mem_cons_of_mem _ tw_195) rfl ?_
  refine jx_getrN (C := RX3) (T := TX3) (M := 8) (k := 0) E dX4_bothGainIfLower_54 (Nat.le_of_ble_eq_true rfl) s_X1 rfl iX3 (by decide) rfl (ex_f0 (jx_ex E)) rfl ?_
  refine jx_iconst (x := 2) E dX4_bothGainIfLower_57 (by decide) ?_
  refine jx_aald (h' := 6) E dX4_bothGainIfLower_58 (Nat.le_of_ble_eq_true rfl) s_X2 (show ¬ ((2 : Int32) < 0 ∨ 4 ≤ Int32.toNatClampNeg 2) by decide) rfl ?_
  refine jx_iload_n E dX4_bothGainIfLower_59 4 rfl ?_
  refine jx_dup2 E dX4_bothGainIfLower_60 rfl rfl ?_
  obtain ⟨hg6, hF⟩ := jx_guard hF
  refine jx_iald (h := 6) (j := (Int32.toNatClampNeg x2)) E dX4_bothGainIfLower_61 (Nat.le_of_ble_eq_true rfl) s_X6 hg6 rfl ?_
  refine jx_iload E dX4_bothGainIfLower_62 0 rfl ?_
  refine jx_iadd E dX4_bothGainIfLower_64 ?_
  obtain ⟨hg7, hF⟩ := jx_guard hF
  refine jx_iast (h := 6) (j := (Int32.toNatClampNeg x2)) E dX4_bothGainIfLower_65 (Nat.le_of_ble_eq_true rfl) s_X6 hg7 rfl ?_
  refine jx_aload_n E dX4_bothGainIfLower_66 2 rfl ?_
  refine jx_getr (C := RX4) (T := TX4) (M := 11) (k := 0) E dX4_bothGainIfLower_67 (Nat.le_of_ble_eq_true rfl) s_X0 rfl iX4 (by decide) rfl (List.mem_cons_of_mem _ tw_195) rfl ?_
  refine jx_getrN (C := RX3) (T := TX3) (M := 8) (k := 0) E dX4_bothGainIfLower_70 (Nat.le_of_ble_eq_true rfl) s_X1 rfl iX3 (by decide) rfl (ex_f0 (jx_ex E)) rfl ?_
  refine jx_iconst (x := 1) E dX4_bothGainIfLower_73 (by decide) ?_
  refine jx_aald (h' := 5) E dX4_bothGainIfLower_74 (Nat.le_of_ble_eq_true rfl) s_X2 (show ¬ ((1 : Int32) < 0 ∨ 4 ≤ Int32.toNatClampNeg 1) by decide) rfl ?_
  refine jx_iload_n E dX4_bothGainIfLower_75 3 rfl ?_
  obtain ⟨hg8, hF⟩ := jx_guard hF
  refine jx_iald (h := 5) (j := (Int32.toNatClampNeg x1)) E dX4_bothGainIfLower_76 (Nat.le_of_ble_eq_true rfl) s_X5 hg8 rfl ?_
  refine jx_istore (lv' := [(5, .int ((jx_up (jx_up v3 6 (Int32.toNatClampNeg x1) ((v3 6 (Int32.toNatClampNeg x1)) + r1)) 6 (Int32.toNatClampNeg x2) (((jx_up v3 6 (Int32.toNatClampNeg x1) ((v3 6 (Int32.toNatClampNeg x1)) + r1)) 6 (Int32.toNatClampNeg x2)) + r2)) 5 (Int32.toNatClampNeg x1))), (4, .int r2), (3, .int r1), (0, .ref (ad 0)), (1, .int x1), (2, .int x2)]) E dX4_bothGainIfLower_77 (by decide) rfl ?_
  refine jx_aload_n E dX4_bothGainIfLower_79 3 rfl ?_
  refine jx_getr (C := RX4) (T := TX4) (M := 11) (k := 0) E dX4_bothGainIfLower_80 (Nat.le_of_ble_eq_true rfl) s_X0 rfl iX4 (by decide) rfl (List.mem_cons_of_mem _ tw_195) rfl ?_
  refine jx_getrN (C := RX3) (T := TX3) (M := 8) (k := 0) E dX4_bothGainIfLower_83 (Nat.le_of_ble_eq_true rfl) s_X1 rfl iX3 (by decide) rfl (ex_f0 (jx_ex E)) rfl ?_
  refine jx_iconst (x := 1) E dX4_bothGainIfLower_86 (by decide) ?_
  refine jx_aald (h' := 5) E dX4_bothGainIfLower_87 (Nat.le_of_ble_eq_true rfl) s_X2 (show ¬ ((1 : Int32) < 0 ∨ 4 ≤ Int32.toNatClampNeg 1) by decide) rfl ?_
  refine jx_iload_n E dX4_bothGainIfLower_88 5 rfl ?_
  obtain ⟨hg9, hF⟩ := jx_guard hF
  refine jx_iald (h := 5) (j := (Int32.toNatClampNeg x2)) E dX4_bothGainIfLower_89 (Nat.le_of_ble_eq_true rfl) s_X5 hg9 rfl ?_
  refine jx_istore (lv' := [(6, .int ((jx_up (jx_up v3 6 (Int32.toNatClampNeg x1) ((v3 6 (Int32.toNatClampNeg x1)) + r1)) 6 (Int32.toNatClampNeg x2) (((jx_up v3 6 (Int32.toNatClampNeg x1) ((v3 6 (Int32.toNatClampNeg x1)) + r1)) 6 (Int32.toNatClampNeg x2)) + r2)) 5 (Int32.toNatClampNeg x2))), (5, .int ((jx_up (jx_up v3 6 (Int32.toNatClampNeg x1) ((v3 6 (Int32.toNatClampNeg x1)) + r1)) 6 (Int32.toNatClampNeg x2) (((jx_up v3 6 (Int32.toNatClampNeg x1) ((v3 6 (Int32.toNatClampNeg x1)) + r1)) 6 (Int32.toNatClampNeg x2)) + r2)) 5 (Int32.toNatClampNeg x1))), (4, .int r2), (3, .int r1), (0, .ref (ad 0)), (1, .int x1), (2, .int x2)]) E dX4_bothGainIfLower_90 (by decide) rfl ?_
  refine jx_aload_n E dX4_bothGainIfLower_92 4 rfl ?_
  refine jx_getr (C := RX4) (T := TX4) (M := 11) (k := 8) E dX4_bothGainIfLower_93 (Nat.le_of_ble_eq_true rfl) s_X0 rfl iX4 (by decide) rfl (List.mem_cons_of_mem _ tw_217) rfl ?_
  refine jx_iload E dX4_bothGainIfLower_96 1 rfl ?_
  obtain ⟨hg10, hF⟩ := jx_guard hF
  refine jx_iald (h := 65) (j := (Int32.toNatClampNeg ((jx_up (jx_up v3 6 (Int32.toNatClampNeg x1) ((v3 6 (Int32.toNatClampNeg x1)) + r1)) 6 (Int32.toNatClampNeg x2) (((jx_up v3 6 (Int32.toNatClampNeg x1) ((v3 6 (Int32.toNatClampNeg x1)) + r1)) 6 (Int32.toNatClampNeg x2)) + r2)) 5 (Int32.toNatClampNeg x1)))) E dX4_bothGainIfLower_98 (Nat.le_of_ble_eq_true rfl) s_X65 hg10 rfl ?_
  refine jx_aload_n E dX4_bothGainIfLower_99 4 rfl ?_
  refine jx_getr (C := RX4) (T := TX4) (M := 11) (k := 7) E dX4_bothGainIfLower_100 (Nat.le_of_ble_eq_true rfl) s_X0 rfl iX4 (by decide) rfl (List.mem_cons_of_mem _ tw_253) rfl ?_
  refine jx_iload E dX4_bothGainIfLower_103 1 rfl ?_
  obtain ⟨hg11, hF⟩ := jx_guard hF
  refine jx_iald (h := 64) (j := (Int32.toNatClampNeg ((jx_up (jx_up v3 6 (Int32.toNatClampNeg x1) ((v3 6 (Int32.toNatClampNeg x1)) + r1)) 6 (Int32.toNatClampNeg x2) (((jx_up v3 6 (Int32.toNatClampNeg x1) ((v3 6 (Int32.toNatClampNeg x1)) + r1)) 6 (Int32.toNatClampNeg x2)) + r2)) 5 (Int32.toNatClampNeg x1)))) E dX4_bothGainIfLower_105 (Nat.le_of_ble_eq_true rfl) s_X64 hg11 rfl ?_
  refine jx_icmp_le (tgt := 130) E dX4_bothGainIfLower_106 (by decide) (fun hc12 => ?_) (fun hc12 => ?_)
  · rw [if_pos hc12] at hF
    refine jx_iconst (x := 0) E dX4_bothGainIfLower_130 (by decide) ?_
    obtain ⟨rfl, rfl⟩ := jx_out hF
    exact jx_zret E dX4_bothGainIfLower_131 rfl (Or.inl rfl)
  · rw [if_neg hc12] at hF
    refine jx_aload_n E dX4_bothGainIfLower_109 4 rfl ?_
    refine jx_getr (C := RX4) (T := TX4) (M := 11) (k := 8) E dX4_bothGainIfLower_110 (Nat.le_of_ble_eq_true rfl) s_X0 rfl iX4 (by decide) rfl (List.mem_cons_of_mem _ tw_217) rfl ?_
    refine jx_iload E dX4_bothGainIfLower_113 0 rfl ?_
    obtain ⟨hg13, hF⟩ := jx_guard hF
    refine jx_iald (h := 65) (j := (Int32.toNatClampNeg ((jx_up (jx_up v3 6 (Int32.toNatClampNeg x1) ((v3 6 (Int32.toNatClampNeg x1)) + r1)) 6 (Int32.toNatClampNeg x2) (((jx_up v3 6 (Int32.toNatClampNeg x1) ((v3 6 (Int32.toNatClampNeg x1)) + r1)) 6 (Int32.toNatClampNeg x2)) + r2)) 5 (Int32.toNatClampNeg x2)))) E dX4_bothGainIfLower_115 (Nat.le_of_ble_eq_true rfl) s_X65 hg13 rfl ?_
    refine jx_aload_n E dX4_bothGainIfLower_116 4 rfl ?_
    refine jx_getr (C := RX4) (T := TX4) (M := 11) (k := 7) E dX4_bothGainIfLower_117 (Nat.le_of_ble_eq_true rfl) s_X0 rfl iX4 (by decide) rfl (List.mem_cons_of_mem _ tw_253) rfl ?_
    refine jx_iload E dX4_bothGainIfLower_120 0 rfl ?_
    obtain ⟨hg14, hF⟩ := jx_guard hF
    refine jx_iald (h := 64) (j := (Int32.toNatClampNeg ((jx_up (jx_up v3 6 (Int32.toNatClampNeg x1) ((v3 6 (Int32.toNatClampNeg x1)) + r1)) 6 (Int32.toNatClampNeg x2) (((jx_up v3 6 (Int32.toNatClampNeg x1) ((v3 6 (Int32.toNatClampNeg x1)) + r1)) 6 (Int32.toNatClampNeg x2)) + r2)) 5 (Int32.toNatClampNeg x2)))) E dX4_bothGainIfLower_122 (Nat.le_of_ble_eq_true rfl) s_X64 hg14 rfl ?_
    refine jx_icmp_le (tgt := 130) E dX4_bothGainIfLower_123 (by decide) (fun hc15 => ?_) (fun hc15 => ?_)
    · rw [if_pos hc15] at hF
      refine jx_iconst (x := 0) E dX4_bothGainIfLower_130 (by decide) ?_
      obtain ⟨rfl, rfl⟩ := jx_out hF
      exact jx_zret E dX4_bothGainIfLower_131 rfl (Or.inl rfl)
    · rw [if_neg hc15] at hF
      refine jx_iconst (x := 1) E dX4_bothGainIfLower_126 (by decide) ?_
      refine jx_goto (tgt := 131) E dX4_bothGainIfLower_127 (by decide) ?_
      obtain ⟨rfl, rfl⟩ := jx_out hF
      exact jx_zret E dX4_bothGainIfLower_131 rfl (Or.inr rfl)
def f_X4_trade_L  : Nat → Nat → Int32 → Int32 → Int32 → Int32 → jx_V → Option (Int32 × jx_V)
  | 0, _, _, _, _, _, _ => none
  | n + 1, tag, x1, x2, x3, x4, v => (if tag = 0 then (if 25 ≤ x3 then ((f_X4_finding 3 v).bind (fun (r11, v11) => (some (r11, v11)))) else ((f_X3_isOwnersLot 1 x3 x1 v).bind (fun (r12, v12) => (if r12 = 0 then (f_X4_trade_L n 0 x1 x2 (x3 + 1) 0 v12) else (f_X4_trade_L n 1 x1 x2 x3 0 v12))))) else (if tag = 1 then (if 25 ≤ x4 then (f_X4_trade_L n 0 x1 x2 (x3 + 1) 0 v) else ((f_X3_isOwnersLot 1 x4 x2 v).bind (fun (r15, v15) => (if r15 = 0 then (f_X4_trade_L n 1 x1 x2 x3 (x4 + 1) v15) else ((f_X4_bothGainIfLower x3 x4 v15).bind (fun (r17, v17) => (if r17 = 0 then (f_X4_trade_L n 1 x1 x2 x3 (x4 + 1) v17) else (some (((100 * x3) + x4), v17))))))))) else none))
def f_X4_trade (x1 : Int32) (x2 : Int32) (v : jx_V) : Option (Int32 × jx_V) := ((f_X4_within x1 4 v).bind (fun (r1, v1) => (if r1 = 0 then ((f_X4_finding 0 v1).bind (fun (r3, v3) => (some (r3, v3)))) else ((f_X4_within x2 4 v1).bind (fun (r4, v4) => (if r4 = 0 then ((f_X4_finding 0 v4).bind (fun (r6, v6) => (some (r6, v6)))) else (if x1 = x2 then ((f_X4_finding 0 v4).bind (fun (r9, v9) => (some (r9, v9)))) else ((f_X0_gainsInto 1 64 v4).bind (fun (r8, v8) => (f_X4_trade_L 100000 0 x1 x2 0 0 v8))))))))))
def rm_X4_trade : Room := { frames := 6, cells := 0, slots := 0, locals := 151 }
set_option maxHeartbeats 4000000 in
set_option maxRecDepth 100000 in
theorem k_X4_trade {l : Launch} {D : va_G} {cI cJ : ClassId} {ad : Nat → Nat} {A : Nat → Prop} {adK adV : Nat → Nat} (hI : jx_inj 67 ad A) (x1 : Int32) (x2 : Int32) (v : jx_V) (r : Int32) (v' : jx_V) (hF : f_X4_trade x1 x2 v = some (r, v')) : jx_Ci l D vwCl 67 cI cJ ad shX A (ex_X adK adV A) yX4_trade (Cond.code yX4_trade cX4_trade 5 (some .int) :: bigT) rm_X4_trade [.ref (ad 0), .int x1, .int x2] v r v' := by
  unfold f_X4_trade at hF
  refine jx_enteri bigT RX4 cX4_trade 5 (some .int) [(0, .ref (ad 0)), (1, .int x1), (2, .int x2)] hI (ex_X_ok adK adV A) (by decide +kernel) rfl (Nat.le_of_ble_eq_true rfl) rfl rfl ?_
  intro p e s m args below meth c E
  have iX4 : ∀ w ∈ u_ws RX4 TX4 11, w ∈ (Cond.code yX4_trade cX4_trade 5 (some .int) :: bigT) := fun w h => List.mem_cons_of_mem _ (uw_X4 w h)
  have key : ∀ n : Nat, (∀ (x1 : Int32) (x2 : Int32) (x3 : Int32) (v : jx_V), f_X4_trade_L  n 0 x1 x2 x3 0 v = some (r, v') → jx_J p l e rm_X4_trade s m args below meth c D vwCl 67 cI cJ ad shX A 0 0 5 (MQ below (va_Qi (fun (r1 : Int32) (_ : Unit) => r1 = r) (fun _ t => va_P D vwCl (jx_ws 67 cI cJ ad shX v') t.heap) A) args s 0 0 A) v 45 [(0, .ref (ad 0)), (1, .int x1), (2, .int x2), (3, .int x3)] []) ∧ (∀ (x1 : Int32) (x2 : Int32) (x3 : Int32) (x4 : Int32) (v : jx_V), f_X4_trade_L  n 1 x1 x2 x3 x4 v = some (r, v') → jx_J p l e rm_X4_trade s m args below meth c D vwCl 67 cI cJ ad shX A 0 0 5 (MQ below (va_Qi (fun (r1 : Int32) (_ : Unit) => r1 = r) (fun _ t => va_P D vwCl (jx_ws 67 cI cJ ad shX v') t.heap) A) args s 0 0 A) v 69 [(0, .ref (ad 0)), (1, .int x1), (2, .int x2), (3, .int x3), (4, .int x4)] []) := by
    intro n
    induction n with
    | zero =>
      exact ⟨(fun _ _ _ _ h => by cases h), (fun _ _ _ _ _ h => by cases h)⟩
    | succ n ih =>
      refine ⟨?_, ?_⟩
      · intro x1 x2 x3 v hF
        rw [f_X4_trade_L] at hF
        rw [if_pos rfl] at hF
        refine jx_iload_n E dX4_trade_45 3 rfl ?_
        refine jx_bipush (x := 25) E dX4_trade_46 (by decide) ?_
        refine jx_icmp_ge (tgt := 119) E dX4_trade_48 (by decide) (fun hc10 => ?_) (fun hc10 => ?_)
        · rw [if_pos hc10] at hF
          refine jx_aload_n E dX4_trade_119 0 rfl ?_
          refine jx_iconst (x := 3) E dX4_trade_120 (by decide) ?_
          obtain ⟨⟨r11, v11⟩, hc11, hF⟩ := jx_bind hF
          try dsimp only at hF
          refine jx_callVi (As := [.int 3]) (st := []) (h := 0) E dX4_trade_121 1 rfl (k_X4_finding hI 3 v r11 v11 hc11) (gb_V (List.mem_cons_of_mem _ tw_192) (List.mem_cons_of_mem _ tw_193) (List.mem_cons_of_mem _ tw_194) (List.mem_cons_of_mem _ tw_190) tw_191) rfl rfl rfl dd_X4_finding rfl (Nat.le_of_ble_eq_true rfl) s_X0 rfl ⟨by decide, by decide⟩ ⟨Nat.le_refl 0, Nat.le_refl 0⟩ (Nat.le_of_ble_eq_true rfl) ?_
          obtain ⟨rfl, rfl⟩ := jx_out hF
          exact jx_iret E dX4_trade_124 rfl
        · rw [if_neg hc10] at hF
          refine jx_aload_n E dX4_trade_51 0 rfl ?_
          refine jx_getr (C := RX4) (T := TX4) (M := 11) (k := 0) E dX4_trade_52 (Nat.le_of_ble_eq_true rfl) s_X0 rfl iX4 (by decide) rfl (List.mem_cons_of_mem _ tw_195) rfl ?_
          refine jx_iload_n E dX4_trade_55 3 rfl ?_
          refine jx_iload_n E dX4_trade_56 1 rfl ?_
          obtain ⟨⟨r12, v12⟩, hc12, hF⟩ := jx_bind hF
          try dsimp only at hF
          refine jx_callNi (As := [.int x3, .int x1]) (st := []) (h := 1) E dX4_trade_57 2 rfl (k_X3_isOwnersLot hI 1 jx_T1 x3 x1 v r12 v12 hc12) (gb_N tw_261) rfl rfl rfl (ex_m28 (jx_ex E)) (List.mem_cons_of_mem _ tw_33) (List.mem_cons_of_mem _ tw_262) (List.mem_cons_of_mem _ tw_263) dd_X3_isOwnersLot.2 rfl (Nat.le_of_ble_eq_true rfl) s_X1 rfl ⟨by decide, by decide⟩ ⟨Nat.le_refl 0, Nat.le_refl 0⟩ (Nat.le_of_ble_eq_true rfl) ?_
          refine jx_if_ne (tgt := 66) E dX4_trade_60 (by decide) (fun hc13 => ?_) (fun hc13 => ?_)
          · rw [if_neg hc13] at hF
            refine jx_iconst (x := 0) E dX4_trade_66 (by decide) ?_
            refine jx_istore (lv' := [(4, .int 0), (0, .ref (ad 0)), (1, .int x1), (2, .int x2), (3, .int x3)]) E dX4_trade_67 (by decide) rfl ?_
            refine jx_sub [1, 2, 3, 4, 0] rfl ?_
            exact ih.2 x1 x2 x3 0 v12 hF
          · rw [if_pos hc13] at hF
            refine jx_goto (tgt := 113) E dX4_trade_63 (by decide) ?_
            refine jx_iinc (y := (x3 + 1)) (lv' := [(3, .int (x3 + 1)), (0, .ref (ad 0)), (1, .int x1), (2, .int x2)]) E dX4_trade_113 3 rfl rfl (by decide) rfl ?_
            refine jx_goto (tgt := 45) E dX4_trade_116 (by decide) ?_
            refine jx_sub [1, 2, 3, 0] rfl ?_
            exact ih.1 x1 x2 (x3 + 1) v12 hF
      · intro x1 x2 x3 x4 v hF
        rw [f_X4_trade_L] at hF
        rw [if_neg (by decide), if_pos rfl] at hF
        refine jx_iload E dX4_trade_69 4 rfl ?_
        refine jx_bipush (x := 25) E dX4_trade_71 (by decide) ?_
        refine jx_icmp_ge (tgt := 113) E dX4_trade_73 (by decide) (fun hc14 => ?_) (fun hc14 => ?_)
        · rw [if_pos hc14] at hF
          refine jx_iinc (y := (x3 + 1)) (lv' := [(3, .int (x3 + 1)), (0, .ref (ad 0)), (1, .int x1), (2, .int x2), (4, .int x4)]) E dX4_trade_113 3 rfl rfl (by decide) rfl ?_
          refine jx_goto (tgt := 45) E dX4_trade_116 (by decide) ?_
          refine jx_sub [1, 2, 3, 0] rfl ?_
          exact ih.1 x1 x2 (x3 + 1) v hF
        · rw [if_neg hc14] at hF
          refine jx_aload_n E dX4_trade_76 0 rfl ?_
          refine jx_getr (C := RX4) (T := TX4) (M := 11) (k := 0) E dX4_trade_77 (Nat.le_of_ble_eq_true rfl) s_X0 rfl iX4 (by decide) rfl (List.mem_cons_of_mem _ tw_195) rfl ?_
          refine jx_iload E dX4_trade_80 4 rfl ?_
          refine jx_iload_n E dX4_trade_82 2 rfl ?_
          obtain ⟨⟨r15, v15⟩, hc15, hF⟩ := jx_bind hF
          try dsimp only at hF
          refine jx_callNi (As := [.int x4, .int x2]) (st := []) (h := 1) E dX4_trade_83 2 rfl (k_X3_isOwnersLot hI 1 jx_T1 x4 x2 v r15 v15 hc15) (gb_N tw_261) rfl rfl rfl (ex_m28 (jx_ex E)) (List.mem_cons_of_mem _ tw_33) (List.mem_cons_of_mem _ tw_262) (List.mem_cons_of_mem _ tw_263) dd_X3_isOwnersLot.2 rfl (Nat.le_of_ble_eq_true rfl) s_X1 rfl ⟨by decide, by decide⟩ ⟨Nat.le_refl 0, Nat.le_refl 0⟩ (Nat.le_of_ble_eq_true rfl) ?_
          refine jx_if_eq (tgt := 107) E dX4_trade_86 (by decide) (fun hc16 => ?_) (fun hc16 => ?_)
          · rw [if_pos hc16] at hF
            refine jx_iinc (y := (x4 + 1)) (lv' := [(4, .int (x4 + 1)), (0, .ref (ad 0)), (1, .int x1), (2, .int x2), (3, .int x3)]) E dX4_trade_107 4 rfl rfl (by decide) rfl ?_
            refine jx_goto (tgt := 69) E dX4_trade_110 (by decide) ?_
            refine jx_sub [1, 2, 3, 4, 0] rfl ?_
            exact ih.2 x1 x2 x3 (x4 + 1) v15 hF
          · rw [if_neg hc16] at hF
            refine jx_aload_n E dX4_trade_89 0 rfl ?_
            refine jx_iload_n E dX4_trade_90 3 rfl ?_
            refine jx_iload E dX4_trade_91 4 rfl ?_
            obtain ⟨⟨r17, v17⟩, hc17, hF⟩ := jx_bind hF
            try dsimp only at hF
            refine jx_callVi (As := [.int x3, .int x4]) (st := []) (h := 0) E dX4_trade_93 2 rfl (k_X4_bothGainIfLower hI x3 x4 v15 r17 v17 hc17) (gb_V (List.mem_cons_of_mem _ tw_265) (List.mem_cons_of_mem _ tw_266) (List.mem_cons_of_mem _ tw_267) (List.mem_cons_of_mem _ tw_190) tw_264) rfl rfl rfl dd_X4_bothGainIfLower rfl (Nat.le_of_ble_eq_true rfl) s_X0 rfl ⟨by decide, by decide⟩ ⟨Nat.le_refl 0, Nat.le_refl 0⟩ (Nat.le_of_ble_eq_true rfl) ?_
            refine jx_if_eq (tgt := 107) E dX4_trade_96 (by decide) (fun hc18 => ?_) (fun hc18 => ?_)
            · rw [if_pos hc18] at hF
              refine jx_iinc (y := (x4 + 1)) (lv' := [(4, .int (x4 + 1)), (0, .ref (ad 0)), (1, .int x1), (2, .int x2), (3, .int x3)]) E dX4_trade_107 4 rfl rfl (by decide) rfl ?_
              refine jx_goto (tgt := 69) E dX4_trade_110 (by decide) ?_
              refine jx_sub [1, 2, 3, 4, 0] rfl ?_
              exact ih.2 x1 x2 x3 (x4 + 1) v17 hF
            · rw [if_neg hc18] at hF
              refine jx_bipush (x := 100) E dX4_trade_99 (by decide) ?_
              refine jx_iload_n E dX4_trade_101 3 rfl ?_
              refine jx_imul E dX4_trade_102 ?_
              refine jx_iload E dX4_trade_103 4 rfl ?_
              refine jx_iadd E dX4_trade_105 ?_
              obtain ⟨rfl, rfl⟩ := jx_out hF
              exact jx_iret E dX4_trade_106 rfl
  refine jx_iload_n E dX4_trade_0 1 rfl ?_
  refine jx_iconst (x := 4) E dX4_trade_1 (by decide) ?_
  obtain ⟨⟨r1, v1⟩, hc1, hF⟩ := jx_bind hF
  try dsimp only at hF
  refine jx_callSi (As := [.int x1, .int 4]) (st := []) E dX4_trade_2 2 rfl (k_X4_within hI x1 4 v r1 v1 hc1) (gb_S (List.mem_cons_of_mem _ tw_188) (List.mem_cons_of_mem _ tw_189) (List.mem_cons_of_mem _ tw_190) tw_187) rfl rfl rfl dd_X4_within rfl ⟨by decide, by decide⟩ ⟨Nat.le_refl 0, Nat.le_refl 0⟩ (Nat.le_of_ble_eq_true rfl) ?_
  refine jx_if_eq (tgt := 21) E dX4_trade_5 (by decide) (fun hc2 => ?_) (fun hc2 => ?_)
  · rw [if_pos hc2] at hF
    refine jx_aload_n E dX4_trade_21 0 rfl ?_
    refine jx_iconst (x := 0) E dX4_trade_22 (by decide) ?_
    obtain ⟨⟨r3, v3⟩, hc3, hF⟩ := jx_bind hF
    try dsimp only at hF
    refine jx_callVi (As := [.int 0]) (st := []) (h := 0) E dX4_trade_23 1 rfl (k_X4_finding hI 0 v1 r3 v3 hc3) (gb_V (List.mem_cons_of_mem _ tw_192) (List.mem_cons_of_mem _ tw_193) (List.mem_cons_of_mem _ tw_194) (List.mem_cons_of_mem _ tw_190) tw_191) rfl rfl rfl dd_X4_finding rfl (Nat.le_of_ble_eq_true rfl) s_X0 rfl ⟨by decide, by decide⟩ ⟨Nat.le_refl 0, Nat.le_refl 0⟩ (Nat.le_of_ble_eq_true rfl) ?_
    obtain ⟨rfl, rfl⟩ := jx_out hF
    exact jx_iret E dX4_trade_26 rfl
  · rw [if_neg hc2] at hF
    refine jx_iload_n E dX4_trade_8 2 rfl ?_
    refine jx_iconst (x := 4) E dX4_trade_9 (by decide) ?_
    obtain ⟨⟨r4, v4⟩, hc4, hF⟩ := jx_bind hF
    try dsimp only at hF
    refine jx_callSi (As := [.int x2, .int 4]) (st := []) E dX4_trade_10 2 rfl (k_X4_within hI x2 4 v1 r4 v4 hc4) (gb_S (List.mem_cons_of_mem _ tw_188) (List.mem_cons_of_mem _ tw_189) (List.mem_cons_of_mem _ tw_190) tw_187) rfl rfl rfl dd_X4_within rfl ⟨by decide, by decide⟩ ⟨Nat.le_refl 0, Nat.le_refl 0⟩ (Nat.le_of_ble_eq_true rfl) ?_
    refine jx_if_eq (tgt := 21) E dX4_trade_13 (by decide) (fun hc5 => ?_) (fun hc5 => ?_)
    · rw [if_pos hc5] at hF
      refine jx_aload_n E dX4_trade_21 0 rfl ?_
      refine jx_iconst (x := 0) E dX4_trade_22 (by decide) ?_
      obtain ⟨⟨r6, v6⟩, hc6, hF⟩ := jx_bind hF
      try dsimp only at hF
      refine jx_callVi (As := [.int 0]) (st := []) (h := 0) E dX4_trade_23 1 rfl (k_X4_finding hI 0 v4 r6 v6 hc6) (gb_V (List.mem_cons_of_mem _ tw_192) (List.mem_cons_of_mem _ tw_193) (List.mem_cons_of_mem _ tw_194) (List.mem_cons_of_mem _ tw_190) tw_191) rfl rfl rfl dd_X4_finding rfl (Nat.le_of_ble_eq_true rfl) s_X0 rfl ⟨by decide, by decide⟩ ⟨Nat.le_refl 0, Nat.le_refl 0⟩ (Nat.le_of_ble_eq_true rfl) ?_
      obtain ⟨rfl, rfl⟩ := jx_out hF
      exact jx_iret E dX4_trade_26 rfl
    · rw [if_neg hc5] at hF
      refine jx_iload_n E dX4_trade_16 1 rfl ?_
      refine jx_iload_n E dX4_trade_17 2 rfl ?_
      refine jx_icmp_ne (tgt := 27) E dX4_trade_18 (by decide) (fun hc7 => ?_) (fun hc7 => ?_)
      · rw [if_neg hc7] at hF
        refine jx_aload_n E dX4_trade_27 0 rfl ?_
        refine jx_getr (C := RX4) (T := TX4) (M := 11) (k := 3) E dX4_trade_28 (Nat.le_of_ble_eq_true rfl) s_X0 rfl iX4 (by decide) rfl (List.mem_cons_of_mem _ tw_209) rfl ?_
        refine jx_aload_n E dX4_trade_31 0 rfl ?_
        refine jx_getr (C := RX4) (T := TX4) (M := 11) (k := 0) E dX4_trade_32 (Nat.le_of_ble_eq_true rfl) s_X0 rfl iX4 (by decide) rfl (List.mem_cons_of_mem _ tw_195) rfl ?_
        refine jx_aload_n E dX4_trade_35 0 rfl ?_
        refine jx_getr (C := RX4) (T := TX4) (M := 11) (k := 7) E dX4_trade_36 (Nat.le_of_ble_eq_true rfl) s_X0 rfl iX4 (by decide) rfl (List.mem_cons_of_mem _ tw_253) rfl ?_
        obtain ⟨⟨r8, v8⟩, hc8, hF⟩ := jx_bind hF
        try dsimp only at hF
        refine jx_callNi (As := [.ref (ad 1), .ref (ad 64)]) (st := []) (h := 49) E dX4_trade_39 2 rfl (k_X0_gainsInto hI 1 jx_T1 64 s_X64 (Nat.le_of_ble_eq_true rfl) v4 r8 v8 hc8) (gb_N tw_218) rfl rfl rfl (ex_m22 (jx_ex E)) (List.mem_cons_of_mem _ tw_49) (List.mem_cons_of_mem _ tw_219) (List.mem_cons_of_mem _ tw_220) dd_X0_gainsInto.2 rfl (Nat.le_of_ble_eq_true rfl) s_X49 rfl ⟨by decide, by decide⟩ ⟨Nat.le_refl 0, Nat.le_refl 0⟩ (Nat.le_of_ble_eq_true rfl) ?_
        refine jx_pop E dX4_trade_42 rfl ?_
        refine jx_iconst (x := 0) E dX4_trade_43 (by decide) ?_
        refine jx_istore_n (lv' := [(3, .int 0), (0, .ref (ad 0)), (1, .int x1), (2, .int x2)]) E dX4_trade_44 (by decide) rfl ?_
        refine jx_sub [1, 2, 3, 0] rfl ?_
        exact (key 100000).1 x1 x2 0 v8 hF
      · rw [if_pos hc7] at hF
        refine jx_aload_n E dX4_trade_21 0 rfl ?_
        refine jx_iconst (x := 0) E dX4_trade_22 (by decide) ?_
        obtain ⟨⟨r9, v9⟩, hc9, hF⟩ := jx_bind hF
        try dsimp only at hF
        refine jx_callVi (As := [.int 0]) (st := []) (h := 0) E dX4_trade_23 1 rfl (k_X4_finding hI 0 v4 r9 v9 hc9) (gb_V (List.mem_cons_of_mem _ tw_192) (List.mem_cons_of_mem _ tw_193) (List.mem_cons_of_mem _ tw_194) (List.mem_cons_of_mem _ tw_190) tw_191) rfl rfl rfl dd_X4_finding rfl (Nat.le_of_ble_eq_true rfl) s_X0 rfl ⟨by decide, by decide⟩ ⟨Nat.le_refl 0, Nat.le_refl 0⟩ (Nat.le_of_ble_eq_true rfl) ?_
        obtain ⟨rfl, rfl⟩ := jx_out hF
        exact jx_iret E dX4_trade_26 rfl
def f_X4_swap_L  : Nat → Int32 → Int32 → Int32 → Int32 → jx_V → Option (Int32 × jx_V)
  | 0, _, _, _, _, _ => none
  | n + 1, x1, x2, x3, x4, v => (if 4 ≤ x4 then (some (x3, v)) else (if (x4 < 0 ∨ 4 ≤ Int32.toNatClampNeg x4) then none else (if (x4 < 0 ∨ 4 ≤ Int32.toNatClampNeg x4) then none else ((f_J6_compare_7cf53 (v 65 (Int32.toNatClampNeg x4)) (v 64 (Int32.toNatClampNeg x4)) v).bind (fun (r20, v20) => (f_X4_swap_L n x1 x2 (x3 + r20) (x4 + 1) v20))))))
def f_X4_swap (x1 : Int32) (x2 : Int32) (v : jx_V) : Option (Int32 × jx_V) := ((f_X4_within x1 25 v).bind (fun (r1, v1) => (if r1 = 0 then ((f_X4_finding 0 v1).bind (fun (r3, v3) => (some (r3, v3)))) else ((f_X4_within x2 25 v1).bind (fun (r4, v4) => (if r4 = 0 then ((f_X4_finding 0 v4).bind (fun (r16, v16) => (some (r16, v16)))) else ((f_X3_isTaken 1 x1 v4).bind (fun (r6, v6) => (if r6 = 0 then ((f_X4_finding 3 v6).bind (fun (r8, v8) => (some (r8, v8)))) else ((f_X3_isTaken 1 x2 v6).bind (fun (r9, v9) => (if r9 = 0 then ((f_X4_finding 3 v9).bind (fun (r15, v15) => (some (r15, v15)))) else ((f_X0_gainsInto 1 64 v9).bind (fun (r11, v11) => ((f_X3_exchange 1 x1 x2 v11).bind (fun v12 => ((f_X0_gainsInto 1 65 v12).bind (fun (r13, v13) => ((f_X3_exchange 1 x1 x2 v13).bind (fun v14 => (f_X4_swap_L 100000 x1 x2 0 0 v14)))))))))))))))))))))
def rm_X4_swap : Room := { frames := 5, cells := 0, slots := 0, locals := 125 }
set_option maxHeartbeats 4000000 in
set_option maxRecDepth 100000 in
theorem k_X4_swap {l : Launch} {D : va_G} {cI cJ : ClassId} {ad : Nat → Nat} {A : Nat → Prop} {adK adV : Nat → Nat} (hI : jx_inj 67 ad A) (x1 : Int32) (x2 : Int32) (v : jx_V) (r : Int32) (v' : jx_V) (hF : f_X4_swap x1 x2 v = some (r, v')) : jx_Ci l D vwCl 67 cI cJ ad shX A (ex_X adK adV A) yX4_swap (Cond.code yX4_swap cX4_swap 5 (some .int) :: bigT) rm_X4_swap [.ref (ad 0), .int x1, .int x2] v r v' := by
  unfold f_X4_swap at hF
  refine jx_enteri bigT RX4 cX4_swap 5 (some .int) [(0, .ref (ad 0)), (1, .int x1), (2, .int x2)] hI (ex_X_ok adK adV A) (by decide +kernel) rfl (Nat.le_of_ble_eq_true rfl) rfl rfl ?_
  intro p e s m args below meth c E
  have iX4 : ∀ w ∈ u_ws RX4 TX4 11, w ∈ (Cond.code yX4_swap cX4_swap 5 (some .int) :: bigT) := fun w h => List.mem_cons_of_mem _ (uw_X4 w h)
  have key : ∀ n : Nat, (∀ (x1 : Int32) (x2 : Int32) (x3 : Int32) (x4 : Int32) (v : jx_V), f_X4_swap_L  n  x1 x2 x3 x4 v = some (r, v') → jx_J p l e rm_X4_swap s m args below meth c D vwCl 67 cI cJ ad shX A 0 0 5 (MQ below (va_Qi (fun (r1 : Int32) (_ : Unit) => r1 = r) (fun _ t => va_P D vwCl (jx_ws 67 cI cJ ad shX v') t.heap) A) args s 0 0 A) v 107 [(0, .ref (ad 0)), (1, .int x1), (2, .int x2), (3, .int x3), (4, .int x4)] []) := by
    intro n
    induction n with
    | zero =>
      exact (fun _ _ _ _ _ h => by cases h)
    | succ n ih =>
      intro x1 x2 x3 x4 v hF
      rw [f_X4_swap_L] at hF
      refine jx_iload E dX4_swap_107 4 rfl ?_
      refine jx_iconst (x := 4) E dX4_swap_109 (by decide) ?_
      refine jx_icmp_ge (tgt := 139) E dX4_swap_110 (by decide) (fun hc17 => ?_) (fun hc17 => ?_)
      · rw [if_pos hc17] at hF
        refine jx_iload_n E dX4_swap_139 3 rfl ?_
        obtain ⟨rfl, rfl⟩ := jx_out hF
        exact jx_iret E dX4_swap_140 rfl
      · rw [if_neg hc17] at hF
        refine jx_iload_n E dX4_swap_113 3 rfl ?_
        refine jx_aload_n E dX4_swap_114 0 rfl ?_
        refine jx_getr (C := RX4) (T := TX4) (M := 11) (k := 8) E dX4_swap_115 (Nat.le_of_ble_eq_true rfl) s_X0 rfl iX4 (by decide) rfl (List.mem_cons_of_mem _ tw_217) rfl ?_
        refine jx_iload E dX4_swap_118 4 rfl ?_
        obtain ⟨hg18, hF⟩ := jx_guard hF
        refine jx_iald (h := 65) (j := (Int32.toNatClampNeg x4)) E dX4_swap_120 (Nat.le_of_ble_eq_true rfl) s_X65 hg18 rfl ?_
        refine jx_aload_n E dX4_swap_121 0 rfl ?_
        refine jx_getr (C := RX4) (T := TX4) (M := 11) (k := 7) E dX4_swap_122 (Nat.le_of_ble_eq_true rfl) s_X0 rfl iX4 (by decide) rfl (List.mem_cons_of_mem _ tw_253) rfl ?_
        refine jx_iload E dX4_swap_125 4 rfl ?_
        obtain ⟨hg19, hF⟩ := jx_guard hF
        refine jx_iald (h := 64) (j := (Int32.toNatClampNeg x4)) E dX4_swap_127 (Nat.le_of_ble_eq_true rfl) s_X64 hg19 rfl ?_
        obtain ⟨⟨r20, v20⟩, hc20, hF⟩ := jx_bind hF
        try dsimp only at hF
        refine jx_callTi (As := [.int (v 65 (Int32.toNatClampNeg x4)), .int (v 64 (Int32.toNatClampNeg x4))]) (st := [.int x3]) E dX4_swap_128 2 rfl (k_J6_compare_7cf53 hI (v 65 (Int32.toNatClampNeg x4)) (v 64 (Int32.toNatClampNeg x4)) v r20 v20 hc20) (gb_N tw_271) rfl rfl rfl (List.mem_cons_of_mem _ tw_272) (List.mem_cons_of_mem _ tw_273) (List.mem_cons_of_mem _ tw_257) dd_J6_compare_7cf53.2 rfl ⟨by decide, by decide⟩ ⟨Nat.le_refl 0, Nat.le_refl 0⟩ (Nat.le_of_ble_eq_true rfl) ?_
        refine jx_iadd E dX4_swap_131 ?_
        refine jx_istore_n (lv' := [(3, .int (x3 + r20)), (0, .ref (ad 0)), (1, .int x1), (2, .int x2), (4, .int x4)]) E dX4_swap_132 (by decide) rfl ?_
        refine jx_iinc (y := (x4 + 1)) (lv' := [(4, .int (x4 + 1)), (3, .int (x3 + r20)), (0, .ref (ad 0)), (1, .int x1), (2, .int x2)]) E dX4_swap_133 4 rfl rfl (by decide) rfl ?_
        refine jx_goto (tgt := 107) E dX4_swap_136 (by decide) ?_
        refine jx_sub [2, 3, 4, 1, 0] rfl ?_
        exact ih x1 x2 (x3 + r20) (x4 + 1) v20 hF
  refine jx_iload_n E dX4_swap_0 1 rfl ?_
  refine jx_bipush (x := 25) E dX4_swap_1 (by decide) ?_
  obtain ⟨⟨r1, v1⟩, hc1, hF⟩ := jx_bind hF
  try dsimp only at hF
  refine jx_callSi (As := [.int x1, .int 25]) (st := []) E dX4_swap_3 2 rfl (k_X4_within hI x1 25 v r1 v1 hc1) (gb_S (List.mem_cons_of_mem _ tw_188) (List.mem_cons_of_mem _ tw_189) (List.mem_cons_of_mem _ tw_190) tw_187) rfl rfl rfl dd_X4_within rfl ⟨by decide, by decide⟩ ⟨Nat.le_refl 0, Nat.le_refl 0⟩ (Nat.le_of_ble_eq_true rfl) ?_
  refine jx_if_eq (tgt := 18) E dX4_swap_6 (by decide) (fun hc2 => ?_) (fun hc2 => ?_)
  · rw [if_pos hc2] at hF
    refine jx_aload_n E dX4_swap_18 0 rfl ?_
    refine jx_iconst (x := 0) E dX4_swap_19 (by decide) ?_
    obtain ⟨⟨r3, v3⟩, hc3, hF⟩ := jx_bind hF
    try dsimp only at hF
    refine jx_callVi (As := [.int 0]) (st := []) (h := 0) E dX4_swap_20 1 rfl (k_X4_finding hI 0 v1 r3 v3 hc3) (gb_V (List.mem_cons_of_mem _ tw_192) (List.mem_cons_of_mem _ tw_193) (List.mem_cons_of_mem _ tw_194) (List.mem_cons_of_mem _ tw_190) tw_191) rfl rfl rfl dd_X4_finding rfl (Nat.le_of_ble_eq_true rfl) s_X0 rfl ⟨by decide, by decide⟩ ⟨Nat.le_refl 0, Nat.le_refl 0⟩ (Nat.le_of_ble_eq_true rfl) ?_
    obtain ⟨rfl, rfl⟩ := jx_out hF
    exact jx_iret E dX4_swap_23 rfl
  · rw [if_neg hc2] at hF
    refine jx_iload_n E dX4_swap_9 2 rfl ?_
    refine jx_bipush (x := 25) E dX4_swap_10 (by decide) ?_
    obtain ⟨⟨r4, v4⟩, hc4, hF⟩ := jx_bind hF
    try dsimp only at hF
    refine jx_callSi (As := [.int x2, .int 25]) (st := []) E dX4_swap_12 2 rfl (k_X4_within hI x2 25 v1 r4 v4 hc4) (gb_S (List.mem_cons_of_mem _ tw_188) (List.mem_cons_of_mem _ tw_189) (List.mem_cons_of_mem _ tw_190) tw_187) rfl rfl rfl dd_X4_within rfl ⟨by decide, by decide⟩ ⟨Nat.le_refl 0, Nat.le_refl 0⟩ (Nat.le_of_ble_eq_true rfl) ?_
    refine jx_if_ne (tgt := 24) E dX4_swap_15 (by decide) (fun hc5 => ?_) (fun hc5 => ?_)
    · rw [if_neg hc5] at hF
      refine jx_aload_n E dX4_swap_24 0 rfl ?_
      refine jx_getr (C := RX4) (T := TX4) (M := 11) (k := 0) E dX4_swap_25 (Nat.le_of_ble_eq_true rfl) s_X0 rfl iX4 (by decide) rfl (List.mem_cons_of_mem _ tw_195) rfl ?_
      refine jx_iload_n E dX4_swap_28 1 rfl ?_
      obtain ⟨⟨r6, v6⟩, hc6, hF⟩ := jx_bind hF
      try dsimp only at hF
      refine jx_callNi (As := [.int x1]) (st := []) (h := 1) E dX4_swap_29 1 rfl (k_X3_isTaken hI 1 jx_T1 x1 v4 r6 v6 hc6) (gb_N tw_51) rfl rfl rfl (ex_m4 (jx_ex E)) (List.mem_cons_of_mem _ tw_33) (List.mem_cons_of_mem _ tw_52) (List.mem_cons_of_mem _ tw_53) dd_X3_isTaken.2 rfl (Nat.le_of_ble_eq_true rfl) s_X1 rfl ⟨by decide, by decide⟩ ⟨Nat.le_refl 0, Nat.le_refl 0⟩ (Nat.le_of_ble_eq_true rfl) ?_
      refine jx_if_eq (tgt := 46) E dX4_swap_32 (by decide) (fun hc7 => ?_) (fun hc7 => ?_)
      · rw [if_pos hc7] at hF
        refine jx_aload_n E dX4_swap_46 0 rfl ?_
        refine jx_iconst (x := 3) E dX4_swap_47 (by decide) ?_
        obtain ⟨⟨r8, v8⟩, hc8, hF⟩ := jx_bind hF
        try dsimp only at hF
        refine jx_callVi (As := [.int 3]) (st := []) (h := 0) E dX4_swap_48 1 rfl (k_X4_finding hI 3 v6 r8 v8 hc8) (gb_V (List.mem_cons_of_mem _ tw_192) (List.mem_cons_of_mem _ tw_193) (List.mem_cons_of_mem _ tw_194) (List.mem_cons_of_mem _ tw_190) tw_191) rfl rfl rfl dd_X4_finding rfl (Nat.le_of_ble_eq_true rfl) s_X0 rfl ⟨by decide, by decide⟩ ⟨Nat.le_refl 0, Nat.le_refl 0⟩ (Nat.le_of_ble_eq_true rfl) ?_
        obtain ⟨rfl, rfl⟩ := jx_out hF
        exact jx_iret E dX4_swap_51 rfl
      · rw [if_neg hc7] at hF
        refine jx_aload_n E dX4_swap_35 0 rfl ?_
        refine jx_getr (C := RX4) (T := TX4) (M := 11) (k := 0) E dX4_swap_36 (Nat.le_of_ble_eq_true rfl) s_X0 rfl iX4 (by decide) rfl (List.mem_cons_of_mem _ tw_195) rfl ?_
        refine jx_iload_n E dX4_swap_39 2 rfl ?_
        obtain ⟨⟨r9, v9⟩, hc9, hF⟩ := jx_bind hF
        try dsimp only at hF
        refine jx_callNi (As := [.int x2]) (st := []) (h := 1) E dX4_swap_40 1 rfl (k_X3_isTaken hI 1 jx_T1 x2 v6 r9 v9 hc9) (gb_N tw_51) rfl rfl rfl (ex_m4 (jx_ex E)) (List.mem_cons_of_mem _ tw_33) (List.mem_cons_of_mem _ tw_52) (List.mem_cons_of_mem _ tw_53) dd_X3_isTaken.2 rfl (Nat.le_of_ble_eq_true rfl) s_X1 rfl ⟨by decide, by decide⟩ ⟨Nat.le_refl 0, Nat.le_refl 0⟩ (Nat.le_of_ble_eq_true rfl) ?_
        refine jx_if_ne (tgt := 52) E dX4_swap_43 (by decide) (fun hc10 => ?_) (fun hc10 => ?_)
        · rw [if_neg hc10] at hF
          refine jx_aload_n E dX4_swap_52 0 rfl ?_
          refine jx_getr (C := RX4) (T := TX4) (M := 11) (k := 3) E dX4_swap_53 (Nat.le_of_ble_eq_true rfl) s_X0 rfl iX4 (by decide) rfl (List.mem_cons_of_mem _ tw_209) rfl ?_
          refine jx_aload_n E dX4_swap_56 0 rfl ?_
          refine jx_getr (C := RX4) (T := TX4) (M := 11) (k := 0) E dX4_swap_57 (Nat.le_of_ble_eq_true rfl) s_X0 rfl iX4 (by decide) rfl (List.mem_cons_of_mem _ tw_195) rfl ?_
          refine jx_aload_n E dX4_swap_60 0 rfl ?_
          refine jx_getr (C := RX4) (T := TX4) (M := 11) (k := 7) E dX4_swap_61 (Nat.le_of_ble_eq_true rfl) s_X0 rfl iX4 (by decide) rfl (List.mem_cons_of_mem _ tw_253) rfl ?_
          obtain ⟨⟨r11, v11⟩, hc11, hF⟩ := jx_bind hF
          try dsimp only at hF
          refine jx_callNi (As := [.ref (ad 1), .ref (ad 64)]) (st := []) (h := 49) E dX4_swap_64 2 rfl (k_X0_gainsInto hI 1 jx_T1 64 s_X64 (Nat.le_of_ble_eq_true rfl) v9 r11 v11 hc11) (gb_N tw_218) rfl rfl rfl (ex_m22 (jx_ex E)) (List.mem_cons_of_mem _ tw_49) (List.mem_cons_of_mem _ tw_219) (List.mem_cons_of_mem _ tw_220) dd_X0_gainsInto.2 rfl (Nat.le_of_ble_eq_true rfl) s_X49 rfl ⟨by decide, by decide⟩ ⟨Nat.le_refl 0, Nat.le_refl 0⟩ (Nat.le_of_ble_eq_true rfl) ?_
          refine jx_pop E dX4_swap_67 rfl ?_
          refine jx_aload_n E dX4_swap_68 0 rfl ?_
          refine jx_getr (C := RX4) (T := TX4) (M := 11) (k := 0) E dX4_swap_69 (Nat.le_of_ble_eq_true rfl) s_X0 rfl iX4 (by decide) rfl (List.mem_cons_of_mem _ tw_195) rfl ?_
          refine jx_iload_n E dX4_swap_72 1 rfl ?_
          refine jx_iload_n E dX4_swap_73 2 rfl ?_
          obtain ⟨v12, hc12, hF⟩ := jx_bind hF
          try dsimp only at hF
          refine jx_callNv (As := [.int x1, .int x2]) (st := []) (h := 1) E dX4_swap_74 2 rfl (k_X3_exchange hI 1 jx_T1 x1 x2 v11 v12 hc12) (gb_N tw_268) rfl rfl rfl (ex_m30 (jx_ex E)) (List.mem_cons_of_mem _ tw_33) (List.mem_cons_of_mem _ tw_269) (List.mem_cons_of_mem _ tw_270) dd_X3_exchange.2 rfl (Nat.le_of_ble_eq_true rfl) s_X1 rfl ⟨by decide, by decide⟩ ⟨Nat.le_refl 0, Nat.le_refl 0⟩ (Nat.le_of_ble_eq_true rfl) ?_
          refine jx_aload_n E dX4_swap_77 0 rfl ?_
          refine jx_getr (C := RX4) (T := TX4) (M := 11) (k := 3) E dX4_swap_78 (Nat.le_of_ble_eq_true rfl) s_X0 rfl iX4 (by decide) rfl (List.mem_cons_of_mem _ tw_209) rfl ?_
          refine jx_aload_n E dX4_swap_81 0 rfl ?_
          refine jx_getr (C := RX4) (T := TX4) (M := 11) (k := 0) E dX4_swap_82 (Nat.le_of_ble_eq_true rfl) s_X0 rfl iX4 (by decide) rfl (List.mem_cons_of_mem _ tw_195) rfl ?_
          refine jx_aload_n E dX4_swap_85 0 rfl ?_
          refine jx_getr (C := RX4) (T := TX4) (M := 11) (k := 8) E dX4_swap_86 (Nat.le_of_ble_eq_true rfl) s_X0 rfl iX4 (by decide) rfl (List.mem_cons_of_mem _ tw_217) rfl ?_
          obtain ⟨⟨r13, v13⟩, hc13, hF⟩ := jx_bind hF
          try dsimp only at hF
          refine jx_callNi (As := [.ref (ad 1), .ref (ad 65)]) (st := []) (h := 49) E dX4_swap_89 2 rfl (k_X0_gainsInto hI 1 jx_T1 65 s_X65 (Nat.le_of_ble_eq_true rfl) v12 r13 v13 hc13) (gb_N tw_218) rfl rfl rfl (ex_m22 (jx_ex E)) (List.mem_cons_of_mem _ tw_49) (List.mem_cons_of_mem _ tw_219) (List.mem_cons_of_mem _ tw_220) dd_X0_gainsInto.2 rfl (Nat.le_of_ble_eq_true rfl) s_X49 rfl ⟨by decide, by decide⟩ ⟨Nat.le_refl 0, Nat.le_refl 0⟩ (Nat.le_of_ble_eq_true rfl) ?_
          refine jx_pop E dX4_swap_92 rfl ?_
          refine jx_aload_n E dX4_swap_93 0 rfl ?_
          refine jx_getr (C := RX4) (T := TX4) (M := 11) (k := 0) E dX4_swap_94 (Nat.le_of_ble_eq_true rfl) s_X0 rfl iX4 (by decide) rfl (List.mem_cons_of_mem _ tw_195) rfl ?_
          refine jx_iload_n E dX4_swap_97 1 rfl ?_
          refine jx_iload_n E dX4_swap_98 2 rfl ?_
          obtain ⟨v14, hc14, hF⟩ := jx_bind hF
          try dsimp only at hF
          refine jx_callNv (As := [.int x1, .int x2]) (st := []) (h := 1) E dX4_swap_99 2 rfl (k_X3_exchange hI 1 jx_T1 x1 x2 v13 v14 hc14) (gb_N tw_268) rfl rfl rfl (ex_m30 (jx_ex E)) (List.mem_cons_of_mem _ tw_33) (List.mem_cons_of_mem _ tw_269) (List.mem_cons_of_mem _ tw_270) dd_X3_exchange.2 rfl (Nat.le_of_ble_eq_true rfl) s_X1 rfl ⟨by decide, by decide⟩ ⟨Nat.le_refl 0, Nat.le_refl 0⟩ (Nat.le_of_ble_eq_true rfl) ?_
          refine jx_iconst (x := 0) E dX4_swap_102 (by decide) ?_
          refine jx_istore_n (lv' := [(3, .int 0), (0, .ref (ad 0)), (1, .int x1), (2, .int x2)]) E dX4_swap_103 (by decide) rfl ?_
          refine jx_iconst (x := 0) E dX4_swap_104 (by decide) ?_
          refine jx_istore (lv' := [(4, .int 0), (3, .int 0), (0, .ref (ad 0)), (1, .int x1), (2, .int x2)]) E dX4_swap_105 (by decide) rfl ?_
          refine jx_sub [2, 3, 4, 1, 0] rfl ?_
          exact (key 100000) x1 x2 0 0 v14 hF
        · rw [if_pos hc10] at hF
          refine jx_aload_n E dX4_swap_46 0 rfl ?_
          refine jx_iconst (x := 3) E dX4_swap_47 (by decide) ?_
          obtain ⟨⟨r15, v15⟩, hc15, hF⟩ := jx_bind hF
          try dsimp only at hF
          refine jx_callVi (As := [.int 3]) (st := []) (h := 0) E dX4_swap_48 1 rfl (k_X4_finding hI 3 v9 r15 v15 hc15) (gb_V (List.mem_cons_of_mem _ tw_192) (List.mem_cons_of_mem _ tw_193) (List.mem_cons_of_mem _ tw_194) (List.mem_cons_of_mem _ tw_190) tw_191) rfl rfl rfl dd_X4_finding rfl (Nat.le_of_ble_eq_true rfl) s_X0 rfl ⟨by decide, by decide⟩ ⟨Nat.le_refl 0, Nat.le_refl 0⟩ (Nat.le_of_ble_eq_true rfl) ?_
          obtain ⟨rfl, rfl⟩ := jx_out hF
          exact jx_iret E dX4_swap_51 rfl
    · rw [if_pos hc5] at hF
      refine jx_aload_n E dX4_swap_18 0 rfl ?_
      refine jx_iconst (x := 0) E dX4_swap_19 (by decide) ?_
      obtain ⟨⟨r16, v16⟩, hc16, hF⟩ := jx_bind hF
      try dsimp only at hF
      refine jx_callVi (As := [.int 0]) (st := []) (h := 0) E dX4_swap_20 1 rfl (k_X4_finding hI 0 v4 r16 v16 hc16) (gb_V (List.mem_cons_of_mem _ tw_192) (List.mem_cons_of_mem _ tw_193) (List.mem_cons_of_mem _ tw_194) (List.mem_cons_of_mem _ tw_190) tw_191) rfl rfl rfl dd_X4_finding rfl (Nat.le_of_ble_eq_true rfl) s_X0 rfl ⟨by decide, by decide⟩ ⟨Nat.le_refl 0, Nat.le_refl 0⟩ (Nat.le_of_ble_eq_true rfl) ?_
      obtain ⟨rfl, rfl⟩ := jx_out hF
      exact jx_iret E dX4_swap_23 rfl
def f_X4_spill_L  : Nat → Int32 → Int32 → Int32 → jx_V → Option (Int32 × jx_V)
  | 0, _, _, _, _ => none
  | n + 1, x1, x2, x3, v => (if x1 ≤ x3 then ((f_X0_gainsInto 1 65 v).bind (fun (r9, v9) => (some (r9, v9)))) else ((f_X3_draw 1 v).bind (fun (r10, v10) => (if x2 = 0 then none else ((f_X3_lotOfThing 1 (r10 - r10 / x2 * x2) v10).bind (fun (r12, v12) => ((f_X3_draw 1 v12).bind (fun (r13, v13) => (if r12 < 0 then (f_X4_spill_L n x1 x2 (x3 + 1) v13) else (if (r12 < 0 ∨ 25 ≤ Int32.toNatClampNeg r12) then none else (f_X4_spill_L n x1 x2 (x3 + 1) (jx_up v13 7 (Int32.toNatClampNeg r12) (r13 - r13 / 4 * 4)))))))))))))
def f_X4_spill (x1 : Int32) (v : jx_V) : Option (Int32 × jx_V) := (if x1 < 1 then ((f_X4_finding 0 v).bind (fun (r2, v2) => (some (r2, v2)))) else (if x1 ≤ 12 then ((f_X3_thingCount 1 v).bind (fun (r4, v4) => (if r4 = 0 then ((f_X4_finding 4 v4).bind (fun (r6, v6) => (some (r6, v6)))) else (f_X4_spill_L 100000 x1 r4 0 v4)))) else ((f_X4_finding 0 v).bind (fun (r7, v7) => (some (r7, v7))))))
def rm_X4_spill : Room := { frames := 5, cells := 0, slots := 0, locals := 125 }
set_option maxHeartbeats 4000000 in
set_option maxRecDepth 100000 in
theorem k_X4_spill {l : Launch} {D : va_G} {cI cJ : ClassId} {ad : Nat → Nat} {A : Nat → Prop} {adK adV : Nat → Nat} (hI : jx_inj 67 ad A) (x1 : Int32) (v : jx_V) (r : Int32) (v' : jx_V) (hF : f_X4_spill x1 v = some (r, v')) : jx_Ci l D vwCl 67 cI cJ ad shX A (ex_X adK adV A) yX4_spill (Cond.code yX4_spill cX4_spill 6 (some .int) :: bigT) rm_X4_spill [.ref (ad 0), .int x1] v r v' := by
  unfold f_X4_spill at hF
  refine jx_enteri bigT RX4 cX4_spill 6 (some .int) [(0, .ref (ad 0)), (1, .int x1)] hI (ex_X_ok adK adV A) (by decide +kernel) rfl (Nat.le_of_ble_eq_true rfl) rfl rfl ?_
  intro p e s m args below meth c E
  have iX3 : ∀ w ∈ u_ws RX3 TX3 8, w ∈ (Cond.code yX4_spill cX4_spill 6 (some .int) :: bigT) := fun w h => List.mem_cons_of_mem _ (uw_X3 w h)
  have iX4 : ∀ w ∈ u_ws RX4 TX4 11, w ∈ (Cond.code yX4_spill cX4_spill 6 (some .int) :: bigT) := fun w h => List.mem_cons_of_mem _ (uw_X4 w h)
  have key : ∀ n : Nat, (∀ (x1 : Int32) (x2 : Int32) (x3 : Int32) (v : jx_V), f_X4_spill_L  n  x1 x2 x3 v = some (r, v') → jx_J p l e rm_X4_spill s m args below meth c D vwCl 67 cI cJ ad shX A 0 0 6 (MQ below (va_Qi (fun (r1 : Int32) (_ : Unit) => r1 = r) (fun _ t => va_P D vwCl (jx_ws 67 cI cJ ad shX v') t.heap) A) args s 0 0 A) v 37 [(0, .ref (ad 0)), (1, .int x1), (2, .int x2), (3, .int x3)] []) := by
    intro n
    induction n with
    | zero =>
      exact (fun _ _ _ _ h => by cases h)
    | succ n ih =>
      intro x1 x2 x3 v hF
      rw [f_X4_spill_L] at hF
      refine jx_iload_n E dX4_spill_37 3 rfl ?_
      refine jx_iload_n E dX4_spill_38 1 rfl ?_
      refine jx_icmp_ge (tgt := 96) E dX4_spill_39 (by decide) (fun hc8 => ?_) (fun hc8 => ?_)
      · rw [if_pos hc8] at hF
        refine jx_aload_n E dX4_spill_96 0 rfl ?_
        refine jx_getr (C := RX4) (T := TX4) (M := 11) (k := 3) E dX4_spill_97 (Nat.le_of_ble_eq_true rfl) s_X0 rfl iX4 (by decide) rfl (List.mem_cons_of_mem _ tw_209) rfl ?_
        refine jx_aload_n E dX4_spill_100 0 rfl ?_
        refine jx_getr (C := RX4) (T := TX4) (M := 11) (k := 0) E dX4_spill_101 (Nat.le_of_ble_eq_true rfl) s_X0 rfl iX4 (by decide) rfl (List.mem_cons_of_mem _ tw_195) rfl ?_
        refine jx_aload_n E dX4_spill_104 0 rfl ?_
        refine jx_getr (C := RX4) (T := TX4) (M := 11) (k := 8) E dX4_spill_105 (Nat.le_of_ble_eq_true rfl) s_X0 rfl iX4 (by decide) rfl (List.mem_cons_of_mem _ tw_217) rfl ?_
        obtain ⟨⟨r9, v9⟩, hc9, hF⟩ := jx_bind hF
        try dsimp only at hF
        refine jx_callNi (As := [.ref (ad 1), .ref (ad 65)]) (st := []) (h := 49) E dX4_spill_108 2 rfl (k_X0_gainsInto hI 1 jx_T1 65 s_X65 (Nat.le_of_ble_eq_true rfl) v r9 v9 hc9) (gb_N tw_218) rfl rfl rfl (ex_m22 (jx_ex E)) (List.mem_cons_of_mem _ tw_49) (List.mem_cons_of_mem _ tw_219) (List.mem_cons_of_mem _ tw_220) dd_X0_gainsInto.2 rfl (Nat.le_of_ble_eq_true rfl) s_X49 rfl ⟨by decide, by decide⟩ ⟨Nat.le_refl 0, Nat.le_refl 0⟩ (Nat.le_of_ble_eq_true rfl) ?_
        obtain ⟨rfl, rfl⟩ := jx_out hF
        exact jx_iret E dX4_spill_111 rfl
      · rw [if_neg hc8] at hF
        refine jx_aload_n E dX4_spill_42 0 rfl ?_
        refine jx_getr (C := RX4) (T := TX4) (M := 11) (k := 0) E dX4_spill_43 (Nat.le_of_ble_eq_true rfl) s_X0 rfl iX4 (by decide) rfl (List.mem_cons_of_mem _ tw_195) rfl ?_
        refine jx_aload_n E dX4_spill_46 0 rfl ?_
        refine jx_getr (C := RX4) (T := TX4) (M := 11) (k := 0) E dX4_spill_47 (Nat.le_of_ble_eq_true rfl) s_X0 rfl iX4 (by decide) rfl (List.mem_cons_of_mem _ tw_195) rfl ?_
        obtain ⟨⟨r10, v10⟩, hc10, hF⟩ := jx_bind hF
        try dsimp only at hF
        refine jx_callNi (As := []) (st := [.ref (ad 1)]) (h := 1) E dX4_spill_50 0 rfl (k_X3_draw hI 1 jx_T1 v r10 v10 hc10) (gb_N tw_274) rfl rfl rfl (ex_m31 (jx_ex E)) (List.mem_cons_of_mem _ tw_33) (List.mem_cons_of_mem _ tw_275) (List.mem_cons_of_mem _ tw_276) dd_X3_draw.2 rfl (Nat.le_of_ble_eq_true rfl) s_X1 rfl ⟨by decide, by decide⟩ ⟨Nat.le_refl 0, Nat.le_refl 0⟩ (Nat.le_of_ble_eq_true rfl) ?_
        refine jx_iload_n E dX4_spill_53 2 rfl ?_
        obtain ⟨hg11, hF⟩ := jx_guard hF
        refine jx_irem E dX4_spill_54 hg11 ?_
        obtain ⟨⟨r12, v12⟩, hc12, hF⟩ := jx_bind hF
        try dsimp only at hF
        refine jx_callNi (As := [.int (r10 - r10 / x2 * x2)]) (st := []) (h := 1) E dX4_spill_55 1 rfl (k_X3_lotOfThing hI 1 jx_T1 (r10 - r10 / x2 * x2) v10 r12 v12 hc12) (gb_N tw_277) rfl rfl rfl (ex_m32 (jx_ex E)) (List.mem_cons_of_mem _ tw_33) (List.mem_cons_of_mem _ tw_278) (List.mem_cons_of_mem _ tw_279) dd_X3_lotOfThing.2 rfl (Nat.le_of_ble_eq_true rfl) s_X1 rfl ⟨by decide, by decide⟩ ⟨Nat.le_refl 0, Nat.le_refl 0⟩ (Nat.le_of_ble_eq_true rfl) ?_
        refine jx_istore (lv' := [(4, .int r12), (0, .ref (ad 0)), (1, .int x1), (2, .int x2), (3, .int x3)]) E dX4_spill_58 (by decide) rfl ?_
        refine jx_aload_n E dX4_spill_60 1 rfl ?_
        refine jx_getr (C := RX4) (T := TX4) (M := 11) (k := 0) E dX4_spill_61 (Nat.le_of_ble_eq_true rfl) s_X0 rfl iX4 (by decide) rfl (List.mem_cons_of_mem _ tw_195) rfl ?_
        obtain ⟨⟨r13, v13⟩, hc13, hF⟩ := jx_bind hF
        try dsimp only at hF
        refine jx_callNi (As := []) (st := []) (h := 1) E dX4_spill_64 0 rfl (k_X3_draw hI 1 jx_T1 v12 r13 v13 hc13) (gb_N tw_274) rfl rfl rfl (ex_m31 (jx_ex E)) (List.mem_cons_of_mem _ tw_33) (List.mem_cons_of_mem _ tw_275) (List.mem_cons_of_mem _ tw_276) dd_X3_draw.2 rfl (Nat.le_of_ble_eq_true rfl) s_X1 rfl ⟨by decide, by decide⟩ ⟨Nat.le_refl 0, Nat.le_refl 0⟩ (Nat.le_of_ble_eq_true rfl) ?_
        refine jx_iconst (x := 4) E dX4_spill_67 (by decide) ?_
        refine jx_irem E dX4_spill_68 (by decide) ?_
        refine jx_istore (lv' := [(5, .int (r13 - r13 / 4 * 4)), (4, .int r12), (0, .ref (ad 0)), (1, .int x1), (2, .int x2), (3, .int x3)]) E dX4_spill_69 (by decide) rfl ?_
        refine jx_iload E dX4_spill_71 1 rfl ?_
        refine jx_if_lt (tgt := 90) E dX4_spill_73 (by decide) (fun hc14 => ?_) (fun hc14 => ?_)
        · rw [if_pos hc14] at hF
          refine jx_iinc (y := (x3 + 1)) (lv' := [(3, .int (x3 + 1)), (5, .int (r13 - r13 / 4 * 4)), (4, .int r12), (0, .ref (ad 0)), (1, .int x1), (2, .int x2)]) E dX4_spill_90 5 rfl rfl (by decide) rfl ?_
          refine jx_goto (tgt := 37) E dX4_spill_93 (by decide) ?_
          refine jx_sub [3, 4, 5, 0] rfl ?_
          exact ih x1 x2 (x3 + 1) v13 hF
        · rw [if_neg hc14] at hF
          refine jx_aload_n E dX4_spill_76 2 rfl ?_
          refine jx_getr (C := RX4) (T := TX4) (M := 11) (k := 0) E dX4_spill_77 (Nat.le_of_ble_eq_true rfl) s_X0 rfl iX4 (by decide) rfl (List.mem_cons_of_mem _ tw_195) rfl ?_
          refine jx_getrN (C := RX3) (T := TX3) (M := 8) (k := 0) E dX4_spill_80 (Nat.le_of_ble_eq_true rfl) s_X1 rfl iX3 (by decide) rfl (ex_f0 (jx_ex E)) rfl ?_
          refine jx_iconst (x := 3) E dX4_spill_83 (by decide) ?_
          refine jx_aald (h' := 7) E dX4_spill_84 (Nat.le_of_ble_eq_true rfl) s_X2 (show ¬ ((3 : Int32) < 0 ∨ 4 ≤ Int32.toNatClampNeg 3) by decide) rfl ?_
          refine jx_iload E dX4_spill_85 1 rfl ?_
          refine jx_iload E dX4_spill_87 0 rfl ?_
          obtain ⟨hg15, hF⟩ := jx_guard hF
          refine jx_iast (h := 7) (j := (Int32.toNatClampNeg r12)) E dX4_spill_89 (Nat.le_of_ble_eq_true rfl) s_X7 hg15 rfl ?_
          refine jx_iinc (y := (x3 + 1)) (lv' := [(3, .int (x3 + 1)), (5, .int (r13 - r13 / 4 * 4)), (4, .int r12), (0, .ref (ad 0)), (1, .int x1), (2, .int x2)]) E dX4_spill_90 5 rfl rfl (by decide) rfl ?_
          refine jx_goto (tgt := 37) E dX4_spill_93 (by decide) ?_
          refine jx_sub [3, 4, 5, 0] rfl ?_
          exact ih x1 x2 (x3 + 1) (jx_up v13 7 (Int32.toNatClampNeg r12) (r13 - r13 / 4 * 4)) hF
  refine jx_iload_n E dX4_spill_0 1 rfl ?_
  refine jx_iconst (x := 1) E dX4_spill_1 (by decide) ?_
  refine jx_icmp_lt (tgt := 11) E dX4_spill_2 (by decide) (fun hc1 => ?_) (fun hc1 => ?_)
  · rw [if_pos hc1] at hF
    refine jx_aload_n E dX4_spill_11 0 rfl ?_
    refine jx_iconst (x := 0) E dX4_spill_12 (by decide) ?_
    obtain ⟨⟨r2, v2⟩, hc2, hF⟩ := jx_bind hF
    try dsimp only at hF
    refine jx_callVi (As := [.int 0]) (st := []) (h := 0) E dX4_spill_13 1 rfl (k_X4_finding hI 0 v r2 v2 hc2) (gb_V (List.mem_cons_of_mem _ tw_192) (List.mem_cons_of_mem _ tw_193) (List.mem_cons_of_mem _ tw_194) (List.mem_cons_of_mem _ tw_190) tw_191) rfl rfl rfl dd_X4_finding rfl (Nat.le_of_ble_eq_true rfl) s_X0 rfl ⟨by decide, by decide⟩ ⟨Nat.le_refl 0, Nat.le_refl 0⟩ (Nat.le_of_ble_eq_true rfl) ?_
    obtain ⟨rfl, rfl⟩ := jx_out hF
    exact jx_iret E dX4_spill_16 rfl
  · rw [if_neg hc1] at hF
    refine jx_iload_n E dX4_spill_5 1 rfl ?_
    refine jx_bipush (x := 12) E dX4_spill_6 (by decide) ?_
    refine jx_icmp_le (tgt := 17) E dX4_spill_8 (by decide) (fun hc3 => ?_) (fun hc3 => ?_)
    · rw [if_pos hc3] at hF
      refine jx_aload_n E dX4_spill_17 0 rfl ?_
      refine jx_getr (C := RX4) (T := TX4) (M := 11) (k := 0) E dX4_spill_18 (Nat.le_of_ble_eq_true rfl) s_X0 rfl iX4 (by decide) rfl (List.mem_cons_of_mem _ tw_195) rfl ?_
      obtain ⟨⟨r4, v4⟩, hc4, hF⟩ := jx_bind hF
      try dsimp only at hF
      refine jx_callNi (As := []) (st := []) (h := 1) E dX4_spill_21 0 rfl (k_X3_thingCount hI 1 jx_T1 v r4 v4 hc4) (gb_N tw_196) rfl rfl rfl (ex_m6 (jx_ex E)) (List.mem_cons_of_mem _ tw_33) (List.mem_cons_of_mem _ tw_197) (List.mem_cons_of_mem _ tw_198) dd_X3_thingCount.2 rfl (Nat.le_of_ble_eq_true rfl) s_X1 rfl ⟨by decide, by decide⟩ ⟨Nat.le_refl 0, Nat.le_refl 0⟩ (Nat.le_of_ble_eq_true rfl) ?_
      refine jx_istore_n (lv' := [(2, .int r4), (0, .ref (ad 0)), (1, .int x1)]) E dX4_spill_24 (by decide) rfl ?_
      refine jx_iload_n E dX4_spill_25 0 rfl ?_
      refine jx_if_ne (tgt := 35) E dX4_spill_26 (by decide) (fun hc5 => ?_) (fun hc5 => ?_)
      · rw [if_neg hc5] at hF
        refine jx_iconst (x := 0) E dX4_spill_35 (by decide) ?_
        refine jx_istore_n (lv' := [(3, .int 0), (2, .int r4), (0, .ref (ad 0)), (1, .int x1)]) E dX4_spill_36 (by decide) rfl ?_
        refine jx_sub [2, 3, 1, 0] rfl ?_
        exact (key 100000) x1 r4 0 v4 hF
      · rw [if_pos hc5] at hF
        refine jx_aload_n E dX4_spill_29 1 rfl ?_
        refine jx_iconst (x := 4) E dX4_spill_30 (by decide) ?_
        obtain ⟨⟨r6, v6⟩, hc6, hF⟩ := jx_bind hF
        try dsimp only at hF
        refine jx_callVi (As := [.int 4]) (st := []) (h := 0) E dX4_spill_31 1 rfl (k_X4_finding hI 4 v4 r6 v6 hc6) (gb_V (List.mem_cons_of_mem _ tw_192) (List.mem_cons_of_mem _ tw_193) (List.mem_cons_of_mem _ tw_194) (List.mem_cons_of_mem _ tw_190) tw_191) rfl rfl rfl dd_X4_finding rfl (Nat.le_of_ble_eq_true rfl) s_X0 rfl ⟨by decide, by decide⟩ ⟨Nat.le_refl 0, Nat.le_refl 0⟩ (Nat.le_of_ble_eq_true rfl) ?_
        obtain ⟨rfl, rfl⟩ := jx_out hF
        exact jx_iret E dX4_spill_34 rfl
    · rw [if_neg hc3] at hF
      refine jx_aload_n E dX4_spill_11 0 rfl ?_
      refine jx_iconst (x := 0) E dX4_spill_12 (by decide) ?_
      obtain ⟨⟨r7, v7⟩, hc7, hF⟩ := jx_bind hF
      try dsimp only at hF
      refine jx_callVi (As := [.int 0]) (st := []) (h := 0) E dX4_spill_13 1 rfl (k_X4_finding hI 0 v r7 v7 hc7) (gb_V (List.mem_cons_of_mem _ tw_192) (List.mem_cons_of_mem _ tw_193) (List.mem_cons_of_mem _ tw_194) (List.mem_cons_of_mem _ tw_190) tw_191) rfl rfl rfl dd_X4_finding rfl (Nat.le_of_ble_eq_true rfl) s_X0 rfl ⟨by decide, by decide⟩ ⟨Nat.le_refl 0, Nat.le_refl 0⟩ (Nat.le_of_ble_eq_true rfl) ?_
      obtain ⟨rfl, rfl⟩ := jx_out hF
      exact jx_iret E dX4_spill_16 rfl
def f_X4_seed (x1 : Int32) (v : jx_V) : Option (Int32 × jx_V) := (some ((v 1 7), (jx_up v 1 7 x1)))
def rm_X4_seed : Room := { frames := 0, cells := 0, slots := 0, locals := 0 }
set_option maxHeartbeats 4000000 in
set_option maxRecDepth 100000 in
theorem k_X4_seed {l : Launch} {D : va_G} {cI cJ : ClassId} {ad : Nat → Nat} {A : Nat → Prop} {adK adV : Nat → Nat} (hI : jx_inj 67 ad A) (x1 : Int32) (v : jx_V) (r : Int32) (v' : jx_V) (hF : f_X4_seed x1 v = some (r, v')) : jx_Ci l D vwCl 67 cI cJ ad shX A (ex_X adK adV A) yX4_seed (Cond.code yX4_seed cX4_seed 3 (some .int) :: bigT) rm_X4_seed [.ref (ad 0), .int x1] v r v' := by
  unfold f_X4_seed at hF
  refine jx_enteri bigT RX4 cX4_seed 3 (some .int) [(0, .ref (ad 0)), (1, .int x1)] hI (ex_X_ok adK adV A) (by decide +kernel) rfl (Nat.le_of_ble_eq_true rfl) rfl rfl ?_
  intro p e s m args below meth c E
  have iX3 : ∀ w ∈ u_ws RX3 TX3 8, w ∈ (Cond.code yX4_seed cX4_seed 3 (some .int) :: bigT) := fun w h => List.mem_cons_of_mem _ (uw_X3 w h)
  have iX4 : ∀ w ∈ u_ws RX4 TX4 11, w ∈ (Cond.code yX4_seed cX4_seed 3 (some .int) :: bigT) := fun w h => List.mem_cons_of_mem _ (uw_X4 w h)
  refine jx_aload_n E dX4_seed_0 0 rfl ?_
  refine jx_getr (C := RX4) (T := TX4) (M := 11) (k := 0) E dX4_seed_1 (Nat.le_of_ble_eq_true rfl) s_X0 rfl iX4 (by decide) rfl (List.mem_cons_of_mem _ tw_195) rfl ?_
  refine jx_getiN (C := RX3) (T := TX3) (M := 8) (k := 7) E dX4_seed_4 (Nat.le_of_ble_eq_true rfl) s_X1 rfl iX3 (by decide) rfl (ex_f13 (jx_ex E)) rfl ?_
  refine jx_istore_n (lv' := [(2, .int (v 1 7)), (0, .ref (ad 0)), (1, .int x1)]) E dX4_seed_7 (by decide) rfl ?_
  refine jx_aload_n E dX4_seed_8 1 rfl ?_
  refine jx_getr (C := RX4) (T := TX4) (M := 11) (k := 0) E dX4_seed_9 (Nat.le_of_ble_eq_true rfl) s_X0 rfl iX4 (by decide) rfl (List.mem_cons_of_mem _ tw_195) rfl ?_
  refine jx_iload_n E dX4_seed_12 2 rfl ?_
  refine jx_putiN (C := RX3) (T := TX3) (M := 8) (k := 7) (ty := .int) E tyX3 dX4_seed_13 (Nat.le_of_ble_eq_true rfl) s_X1 rfl iX3 (by decide) rfl (ex_f13 (jx_ex E)) tyX3_ok nmX3 rfl (by decide +kernel) rfl rfl rfl ?_
  refine jx_iload_n E dX4_seed_16 0 rfl ?_
  obtain ⟨rfl, rfl⟩ := jx_out hF
  exact jx_iret E dX4_seed_17 rfl
def f_X4_feed_L  : Nat → Int32 → Int32 → Int32 → jx_V → Option (Int32 × jx_V)
  | 0, _, _, _, _ => none
  | n + 1, x1, x2, x3, v => (if x3 < 0 then (some ((v 53 1), v)) else ((f_X2_append ((Int32.toUInt32 x1 >>> (Int32.toUInt32 (8 * x3) &&& Int32.toUInt32 31)).toInt32 &&& 255) v).bind (fun v8 => (f_X4_feed_L n x1 x2 (x3 + (-1)) v8))))
def f_X4_feed (x1 : Int32) (x2 : Int32) (v : jx_V) : Option (Int32 × jx_V) := (if x2 < 1 then ((f_X4_finding 0 v).bind (fun (r2, v2) => (some (r2, v2)))) else (if x2 ≤ 4 then (if ((v 53 1) + x2) ≤ 120 then (f_X4_feed_L 100000 x1 x2 (x2 - 1) v) else ((f_X4_finding 1 v).bind (fun (r5, v5) => (some (r5, v5))))) else ((f_X4_finding 0 v).bind (fun (r6, v6) => (some (r6, v6))))))
def rm_X4_feed : Room := { frames := 1, cells := 0, slots := 0, locals := 21 }
set_option maxHeartbeats 4000000 in
set_option maxRecDepth 100000 in
theorem k_X4_feed {l : Launch} {D : va_G} {cI cJ : ClassId} {ad : Nat → Nat} {A : Nat → Prop} {adK adV : Nat → Nat} (hI : jx_inj 67 ad A) (x1 : Int32) (x2 : Int32) (v : jx_V) (r : Int32) (v' : jx_V) (hF : f_X4_feed x1 x2 v = some (r, v')) : jx_Ci l D vwCl 67 cI cJ ad shX A (ex_X adK adV A) yX4_feed (Cond.code yX4_feed cX4_feed 4 (some .int) :: bigT) rm_X4_feed [.ref (ad 0), .int x1, .int x2] v r v' := by
  unfold f_X4_feed at hF
  refine jx_enteri bigT RX4 cX4_feed 4 (some .int) [(0, .ref (ad 0)), (1, .int x1), (2, .int x2)] hI (ex_X_ok adK adV A) (by decide +kernel) rfl (Nat.le_of_ble_eq_true rfl) rfl rfl ?_
  intro p e s m args below meth c E
  have iX2 : ∀ w ∈ u_ws RX2 TX2 7, w ∈ (Cond.code yX4_feed cX4_feed 4 (some .int) :: bigT) := fun w h => List.mem_cons_of_mem _ (uw_X2 w h)
  have iX4 : ∀ w ∈ u_ws RX4 TX4 11, w ∈ (Cond.code yX4_feed cX4_feed 4 (some .int) :: bigT) := fun w h => List.mem_cons_of_mem _ (uw_X4 w h)
  have key : ∀ n : Nat, (∀ (x1 : Int32) (x2 : Int32) (x3 : Int32) (v : jx_V), f_X4_feed_L  n  x1 x2 x3 v = some (r, v') → jx_J p l e rm_X4_feed s m args below meth c D vwCl 67 cI cJ ad shX A 0 0 4 (MQ below (va_Qi (fun (r1 : Int32) (_ : Unit) => r1 = r) (fun _ t => va_P D vwCl (jx_ws 67 cI cJ ad shX v') t.heap) A) args s 0 0 A) v 40 [(0, .ref (ad 0)), (1, .int x1), (2, .int x2), (3, .int x3)] []) := by
    intro n
    induction n with
    | zero =>
      exact (fun _ _ _ _ h => by cases h)
    | succ n ih =>
      intro x1 x2 x3 v hF
      rw [f_X4_feed_L] at hF
      refine jx_iload_n E dX4_feed_40 3 rfl ?_
      refine jx_if_lt (tgt := 67) E dX4_feed_41 (by decide) (fun hc7 => ?_) (fun hc7 => ?_)
      · rw [if_pos hc7] at hF
        refine jx_aload_n E dX4_feed_67 0 rfl ?_
        refine jx_getr (C := RX4) (T := TX4) (M := 11) (k := 4) E dX4_feed_68 (Nat.le_of_ble_eq_true rfl) s_X0 rfl iX4 (by decide) rfl (List.mem_cons_of_mem _ tw_280) rfl ?_
        refine jx_getiN (C := RX2) (T := TX2) (M := 7) (k := 1) E dX4_feed_71 (Nat.le_of_ble_eq_true rfl) s_X53 rfl iX2 (by decide) rfl (ex_f14 (jx_ex E)) rfl ?_
        obtain ⟨rfl, rfl⟩ := jx_out hF
        exact jx_iret E dX4_feed_74 rfl
      · rw [if_neg hc7] at hF
        refine jx_aload_n E dX4_feed_44 0 rfl ?_
        refine jx_getr (C := RX4) (T := TX4) (M := 11) (k := 4) E dX4_feed_45 (Nat.le_of_ble_eq_true rfl) s_X0 rfl iX4 (by decide) rfl (List.mem_cons_of_mem _ tw_280) rfl ?_
        refine jx_iload_n E dX4_feed_48 1 rfl ?_
        refine jx_bipush (x := 8) E dX4_feed_49 (by decide) ?_
        refine jx_iload_n E dX4_feed_51 3 rfl ?_
        refine jx_imul E dX4_feed_52 ?_
        refine jx_iushr E dX4_feed_53 ?_
        refine jx_sipush (x := 255) E dX4_feed_54 (by decide) ?_
        refine jx_iand E dX4_feed_57 ?_
        obtain ⟨v8, hc8, hF⟩ := jx_bind hF
        try dsimp only at hF
        refine jx_callNv (As := [.int ((Int32.toUInt32 x1 >>> (Int32.toUInt32 (8 * x3) &&& Int32.toUInt32 31)).toInt32 &&& 255)]) (st := []) (h := 53) E dX4_feed_58 1 rfl (k_X2_append hI ((Int32.toUInt32 x1 >>> (Int32.toUInt32 (8 * x3) &&& Int32.toUInt32 31)).toInt32 &&& 255) v v8 hc8) (gb_N tw_281) rfl rfl rfl (ex_m33 (jx_ex E)) (List.mem_cons_of_mem _ tw_100) (List.mem_cons_of_mem _ tw_282) (List.mem_cons_of_mem _ tw_283) dd_X2_append.2 rfl (Nat.le_of_ble_eq_true rfl) s_X53 rfl ⟨by decide, by decide⟩ ⟨Nat.le_refl 0, Nat.le_refl 0⟩ (Nat.le_of_ble_eq_true rfl) ?_
        refine jx_iinc (y := (x3 + (-1))) (lv' := [(3, .int (x3 + (-1))), (0, .ref (ad 0)), (1, .int x1), (2, .int x2)]) E dX4_feed_61 3 rfl rfl (by decide) rfl ?_
        refine jx_goto (tgt := 40) E dX4_feed_64 (by decide) ?_
        refine jx_sub [1, 2, 3, 0] rfl ?_
        exact ih x1 x2 (x3 + (-1)) v8 hF
  refine jx_iload_n E dX4_feed_0 2 rfl ?_
  refine jx_iconst (x := 1) E dX4_feed_1 (by decide) ?_
  refine jx_icmp_lt (tgt := 10) E dX4_feed_2 (by decide) (fun hc1 => ?_) (fun hc1 => ?_)
  · rw [if_pos hc1] at hF
    refine jx_aload_n E dX4_feed_10 0 rfl ?_
    refine jx_iconst (x := 0) E dX4_feed_11 (by decide) ?_
    obtain ⟨⟨r2, v2⟩, hc2, hF⟩ := jx_bind hF
    try dsimp only at hF
    refine jx_callVi (As := [.int 0]) (st := []) (h := 0) E dX4_feed_12 1 rfl (k_X4_finding hI 0 v r2 v2 hc2) (gb_V (List.mem_cons_of_mem _ tw_192) (List.mem_cons_of_mem _ tw_193) (List.mem_cons_of_mem _ tw_194) (List.mem_cons_of_mem _ tw_190) tw_191) rfl rfl rfl dd_X4_finding rfl (Nat.le_of_ble_eq_true rfl) s_X0 rfl ⟨by decide, by decide⟩ ⟨Nat.le_refl 0, Nat.le_refl 0⟩ (Nat.le_of_ble_eq_true rfl) ?_
    obtain ⟨rfl, rfl⟩ := jx_out hF
    exact jx_iret E dX4_feed_15 rfl
  · rw [if_neg hc1] at hF
    refine jx_iload_n E dX4_feed_5 2 rfl ?_
    refine jx_iconst (x := 4) E dX4_feed_6 (by decide) ?_
    refine jx_icmp_le (tgt := 16) E dX4_feed_7 (by decide) (fun hc3 => ?_) (fun hc3 => ?_)
    · rw [if_pos hc3] at hF
      refine jx_aload_n E dX4_feed_16 0 rfl ?_
      refine jx_getr (C := RX4) (T := TX4) (M := 11) (k := 4) E dX4_feed_17 (Nat.le_of_ble_eq_true rfl) s_X0 rfl iX4 (by decide) rfl (List.mem_cons_of_mem _ tw_280) rfl ?_
      refine jx_getiN (C := RX2) (T := TX2) (M := 7) (k := 1) E dX4_feed_20 (Nat.le_of_ble_eq_true rfl) s_X53 rfl iX2 (by decide) rfl (ex_f14 (jx_ex E)) rfl ?_
      refine jx_iload_n E dX4_feed_23 2 rfl ?_
      refine jx_iadd E dX4_feed_24 ?_
      refine jx_bipush (x := 120) E dX4_feed_25 (by decide) ?_
      refine jx_icmp_le (tgt := 36) E dX4_feed_27 (by decide) (fun hc4 => ?_) (fun hc4 => ?_)
      · rw [if_pos hc4] at hF
        refine jx_iload_n E dX4_feed_36 2 rfl ?_
        refine jx_iconst (x := 1) E dX4_feed_37 (by decide) ?_
        refine jx_isub E dX4_feed_38 ?_
        refine jx_istore_n (lv' := [(3, .int (x2 - 1)), (0, .ref (ad 0)), (1, .int x1), (2, .int x2)]) E dX4_feed_39 (by decide) rfl ?_
        refine jx_sub [1, 2, 3, 0] rfl ?_
        exact (key 100000) x1 x2 (x2 - 1) v hF
      · rw [if_neg hc4] at hF
        refine jx_aload_n E dX4_feed_30 0 rfl ?_
        refine jx_iconst (x := 1) E dX4_feed_31 (by decide) ?_
        obtain ⟨⟨r5, v5⟩, hc5, hF⟩ := jx_bind hF
        try dsimp only at hF
        refine jx_callVi (As := [.int 1]) (st := []) (h := 0) E dX4_feed_32 1 rfl (k_X4_finding hI 1 v r5 v5 hc5) (gb_V (List.mem_cons_of_mem _ tw_192) (List.mem_cons_of_mem _ tw_193) (List.mem_cons_of_mem _ tw_194) (List.mem_cons_of_mem _ tw_190) tw_191) rfl rfl rfl dd_X4_finding rfl (Nat.le_of_ble_eq_true rfl) s_X0 rfl ⟨by decide, by decide⟩ ⟨Nat.le_refl 0, Nat.le_refl 0⟩ (Nat.le_of_ble_eq_true rfl) ?_
        obtain ⟨rfl, rfl⟩ := jx_out hF
        exact jx_iret E dX4_feed_35 rfl
    · rw [if_neg hc3] at hF
      refine jx_aload_n E dX4_feed_10 0 rfl ?_
      refine jx_iconst (x := 0) E dX4_feed_11 (by decide) ?_
      obtain ⟨⟨r6, v6⟩, hc6, hF⟩ := jx_bind hF
      try dsimp only at hF
      refine jx_callVi (As := [.int 0]) (st := []) (h := 0) E dX4_feed_12 1 rfl (k_X4_finding hI 0 v r6 v6 hc6) (gb_V (List.mem_cons_of_mem _ tw_192) (List.mem_cons_of_mem _ tw_193) (List.mem_cons_of_mem _ tw_194) (List.mem_cons_of_mem _ tw_190) tw_191) rfl rfl rfl dd_X4_finding rfl (Nat.le_of_ble_eq_true rfl) s_X0 rfl ⟨by decide, by decide⟩ ⟨Nat.le_refl 0, Nat.le_refl 0⟩ (Nat.le_of_ble_eq_true rfl) ?_
      obtain ⟨rfl, rfl⟩ := jx_out hF
      exact jx_iret E dX4_feed_15 rfl
def f_X4_wipe  (v : jx_V) : Option (Int32 × jx_V) := (some ((v 53 1), (jx_up v 53 1 0)))
def rm_X4_wipe : Room := { frames := 0, cells := 0, slots := 0, locals := 0 }
set_option maxHeartbeats 4000000 in
set_option maxRecDepth 100000 in
theorem k_X4_wipe {l : Launch} {D : va_G} {cI cJ : ClassId} {ad : Nat → Nat} {A : Nat → Prop} {adK adV : Nat → Nat} (hI : jx_inj 67 ad A)  (v : jx_V) (r : Int32) (v' : jx_V) (hF : f_X4_wipe  v = some (r, v')) : jx_Ci l D vwCl 67 cI cJ ad shX A (ex_X adK adV A) yX4_wipe (Cond.code yX4_wipe cX4_wipe 2 (some .int) :: bigT) rm_X4_wipe [.ref (ad 0)] v r v' := by
  unfold f_X4_wipe at hF
  refine jx_enteri bigT RX4 cX4_wipe 2 (some .int) [(0, .ref (ad 0))] hI (ex_X_ok adK adV A) (by decide +kernel) rfl (Nat.le_of_ble_eq_true rfl) rfl rfl ?_
  intro p e s m args below meth c E
  have iX2 : ∀ w ∈ u_ws RX2 TX2 7, w ∈ (Cond.code yX4_wipe cX4_wipe 2 (some .int) :: bigT) := fun w h => List.mem_cons_of_mem _ (uw_X2 w h)
  have iX4 : ∀ w ∈ u_ws RX4 TX4 11, w ∈ (Cond.code yX4_wipe cX4_wipe 2 (some .int) :: bigT) := fun w h => List.mem_cons_of_mem _ (uw_X4 w h)
  refine jx_aload_n E dX4_wipe_0 0 rfl ?_
  refine jx_getr (C := RX4) (T := TX4) (M := 11) (k := 4) E dX4_wipe_1 (Nat.le_of_ble_eq_true rfl) s_X0 rfl iX4 (by decide) rfl (List.mem_cons_of_mem _ tw_280) rfl ?_
  refine jx_getiN (C := RX2) (T := TX2) (M := 7) (k := 1) E dX4_wipe_4 (Nat.le_of_ble_eq_true rfl) s_X53 rfl iX2 (by decide) rfl (ex_f14 (jx_ex E)) rfl ?_
  refine jx_istore_n (lv' := [(1, .int (v 53 1)), (0, .ref (ad 0))]) E dX4_wipe_7 (by decide) rfl ?_
  refine jx_aload_n E dX4_wipe_8 1 rfl ?_
  refine jx_getr (C := RX4) (T := TX4) (M := 11) (k := 4) E dX4_wipe_9 (Nat.le_of_ble_eq_true rfl) s_X0 rfl iX4 (by decide) rfl (List.mem_cons_of_mem _ tw_280) rfl ?_
  refine jx_iconst (x := 0) E dX4_wipe_12 (by decide) ?_
  refine jx_putiN (C := RX2) (T := TX2) (M := 7) (k := 1) (ty := .int) E tyX2 dX4_wipe_13 (Nat.le_of_ble_eq_true rfl) s_X53 rfl iX2 (by decide) rfl (ex_f14 (jx_ex E)) tyX2_ok nmX2 rfl (by decide +kernel) rfl rfl rfl ?_
  refine jx_iload_n E dX4_wipe_16 0 rfl ?_
  obtain ⟨rfl, rfl⟩ := jx_out hF
  exact jx_iret E dX4_wipe_17 rfl
def f_X4_text  (v : jx_V) : Option (Int32 × jx_V) := ((f_X3_become 33 1 v).bind (fun v1 => ((f_X2_readText 33 v1).bind (fun (r2, v2) => (if ((jx_up v2 53 1 0) 53 6) < 0 then ((f_X3_become 1 33 (jx_up v2 53 1 0)).bind (fun v4 => (some (r2, v4)))) else (some (((-1) - ((jx_up v2 53 1 0) 53 6)), (jx_up v2 53 1 0))))))))
def rm_X4_text : Room := { frames := 9, cells := 0, slots := 0, locals := 198 }
set_option maxHeartbeats 4000000 in
set_option maxRecDepth 100000 in
theorem k_X4_text {l : Launch} {D : va_G} {cI cJ : ClassId} {ad : Nat → Nat} {A : Nat → Prop} {adK adV : Nat → Nat} (hI : jx_inj 67 ad A)  (v : jx_V) (r : Int32) (v' : jx_V) (hF : f_X4_text  v = some (r, v')) : jx_Ci l D vwCl 67 cI cJ ad shX A (ex_X adK adV A) yX4_text (Cond.code yX4_text cX4_text 2 (some .int) :: bigT) rm_X4_text [.ref (ad 0)] v r v' := by
  unfold f_X4_text at hF
  refine jx_enteri bigT RX4 cX4_text 2 (some .int) [(0, .ref (ad 0))] hI (ex_X_ok adK adV A) (by decide +kernel) rfl (Nat.le_of_ble_eq_true rfl) rfl rfl ?_
  intro p e s m args below meth c E
  have iX2 : ∀ w ∈ u_ws RX2 TX2 7, w ∈ (Cond.code yX4_text cX4_text 2 (some .int) :: bigT) := fun w h => List.mem_cons_of_mem _ (uw_X2 w h)
  have iX4 : ∀ w ∈ u_ws RX4 TX4 11, w ∈ (Cond.code yX4_text cX4_text 2 (some .int) :: bigT) := fun w h => List.mem_cons_of_mem _ (uw_X4 w h)
  refine jx_aload_n E dX4_text_0 0 rfl ?_
  refine jx_getr (C := RX4) (T := TX4) (M := 11) (k := 2) E dX4_text_1 (Nat.le_of_ble_eq_true rfl) s_X0 rfl iX4 (by decide) rfl (List.mem_cons_of_mem _ tw_234) rfl ?_
  refine jx_aload_n E dX4_text_4 0 rfl ?_
  refine jx_getr (C := RX4) (T := TX4) (M := 11) (k := 0) E dX4_text_5 (Nat.le_of_ble_eq_true rfl) s_X0 rfl iX4 (by decide) rfl (List.mem_cons_of_mem _ tw_195) rfl ?_
  obtain ⟨v1, hc1, hF⟩ := jx_bind hF
  try dsimp only at hF
  refine jx_callNv (As := [.ref (ad 1)]) (st := []) (h := 33) E dX4_text_8 1 rfl (k_X3_become hI 33 jx_T33 1 jx_T1 v v1 hc1) (gb_N tw_235) rfl rfl rfl (ex_m26 (jx_ex E)) (List.mem_cons_of_mem _ tw_33) (List.mem_cons_of_mem _ tw_236) (List.mem_cons_of_mem _ tw_237) dd_X3_become.2 rfl (Nat.le_of_ble_eq_true rfl) s_X33 rfl ⟨by decide, by decide⟩ ⟨Nat.le_refl 0, Nat.le_refl 0⟩ (Nat.le_of_ble_eq_true rfl) ?_
  refine jx_aload_n E dX4_text_11 0 rfl ?_
  refine jx_getr (C := RX4) (T := TX4) (M := 11) (k := 4) E dX4_text_12 (Nat.le_of_ble_eq_true rfl) s_X0 rfl iX4 (by decide) rfl (List.mem_cons_of_mem _ tw_280) rfl ?_
  refine jx_aload_n E dX4_text_15 0 rfl ?_
  refine jx_getr (C := RX4) (T := TX4) (M := 11) (k := 2) E dX4_text_16 (Nat.le_of_ble_eq_true rfl) s_X0 rfl iX4 (by decide) rfl (List.mem_cons_of_mem _ tw_234) rfl ?_
  obtain ⟨⟨r2, v2⟩, hc2, hF⟩ := jx_bind hF
  try dsimp only at hF
  refine jx_callNi (As := [.ref (ad 33)]) (st := []) (h := 53) E dX4_text_19 1 rfl (k_X2_readText hI 33 jx_T33 v1 r2 v2 hc2) (gb_N tw_284) rfl rfl rfl (ex_m34 (jx_ex E)) (List.mem_cons_of_mem _ tw_100) (List.mem_cons_of_mem _ tw_285) (List.mem_cons_of_mem _ tw_286) dd_X2_readText.2 rfl (Nat.le_of_ble_eq_true rfl) s_X53 rfl ⟨by decide, by decide⟩ ⟨Nat.le_refl 0, Nat.le_refl 0⟩ (Nat.le_of_ble_eq_true rfl) ?_
  refine jx_istore_n (lv' := [(1, .int r2), (0, .ref (ad 0))]) E dX4_text_22 (by decide) rfl ?_
  refine jx_aload_n E dX4_text_23 1 rfl ?_
  refine jx_getr (C := RX4) (T := TX4) (M := 11) (k := 4) E dX4_text_24 (Nat.le_of_ble_eq_true rfl) s_X0 rfl iX4 (by decide) rfl (List.mem_cons_of_mem _ tw_280) rfl ?_
  refine jx_iconst (x := 0) E dX4_text_27 (by decide) ?_
  refine jx_putiN (C := RX2) (T := TX2) (M := 7) (k := 1) (ty := .int) E tyX2 dX4_text_28 (Nat.le_of_ble_eq_true rfl) s_X53 rfl iX2 (by decide) rfl (ex_f14 (jx_ex E)) tyX2_ok nmX2 rfl (by decide +kernel) rfl rfl rfl ?_
  refine jx_aload_n E dX4_text_31 1 rfl ?_
  refine jx_getr (C := RX4) (T := TX4) (M := 11) (k := 4) E dX4_text_32 (Nat.le_of_ble_eq_true rfl) s_X0 rfl iX4 (by decide) rfl (List.mem_cons_of_mem _ tw_280) rfl ?_
  refine jx_getiN (C := RX2) (T := TX2) (M := 7) (k := 6) E dX4_text_35 (Nat.le_of_ble_eq_true rfl) s_X53 rfl iX2 (by decide) rfl (ex_f15 (jx_ex E)) rfl ?_
  refine jx_if_lt (tgt := 51) E dX4_text_38 (by decide) (fun hc3 => ?_) (fun hc3 => ?_)
  · rw [if_pos hc3] at hF
    refine jx_aload_n E dX4_text_51 1 rfl ?_
    refine jx_getr (C := RX4) (T := TX4) (M := 11) (k := 0) E dX4_text_52 (Nat.le_of_ble_eq_true rfl) s_X0 rfl iX4 (by decide) rfl (List.mem_cons_of_mem _ tw_195) rfl ?_
    refine jx_aload_n E dX4_text_55 1 rfl ?_
    refine jx_getr (C := RX4) (T := TX4) (M := 11) (k := 2) E dX4_text_56 (Nat.le_of_ble_eq_true rfl) s_X0 rfl iX4 (by decide) rfl (List.mem_cons_of_mem _ tw_234) rfl ?_
    obtain ⟨v4, hc4, hF⟩ := jx_bind hF
    try dsimp only at hF
    refine jx_callNv (As := [.ref (ad 33)]) (st := []) (h := 1) E dX4_text_59 1 rfl (k_X3_become hI 1 jx_T1 33 jx_T33 (jx_up v2 53 1 0) v4 hc4) (gb_N tw_235) rfl rfl rfl (ex_m26 (jx_ex E)) (List.mem_cons_of_mem _ tw_33) (List.mem_cons_of_mem _ tw_236) (List.mem_cons_of_mem _ tw_237) dd_X3_become.2 rfl (Nat.le_of_ble_eq_true rfl) s_X1 rfl ⟨by decide, by decide⟩ ⟨Nat.le_refl 0, Nat.le_refl 0⟩ (Nat.le_of_ble_eq_true rfl) ?_
    refine jx_iload_n E dX4_text_62 0 rfl ?_
    obtain ⟨rfl, rfl⟩ := jx_out hF
    exact jx_iret E dX4_text_63 rfl
  · rw [if_neg hc3] at hF
    refine jx_iconst (x := -1) E dX4_text_41 (by decide) ?_
    refine jx_aload_n E dX4_text_42 1 rfl ?_
    refine jx_getr (C := RX4) (T := TX4) (M := 11) (k := 4) E dX4_text_43 (Nat.le_of_ble_eq_true rfl) s_X0 rfl iX4 (by decide) rfl (List.mem_cons_of_mem _ tw_280) rfl ?_
    refine jx_getiN (C := RX2) (T := TX2) (M := 7) (k := 6) E dX4_text_46 (Nat.le_of_ble_eq_true rfl) s_X53 rfl iX2 (by decide) rfl (ex_f15 (jx_ex E)) rfl ?_
    refine jx_isub E dX4_text_49 ?_
    obtain ⟨rfl, rfl⟩ := jx_out hF
    exact jx_iret E dX4_text_50 rfl
