def f_X5_level_L  : Nat → Int32 → Int32 → Int32 → Int32 → Int32 → jx_V → Option (Int32 × jx_V)
  | 0, _, _, _, _, _, _ => none
  | n + 1, x1, x2, x3, x4, x5, v => (if 10 ≤ x5 then ((f_X5_where x1 1 v).bind (fun (r6, v6) => (if (r6 < 0 ∨ 181 ≤ Int32.toNatClampNeg r6) then none else (some (x3, (jx_up v6 1 (Int32.toNatClampNeg r6) x2)))))) else ((f_X5_where x1 1 v).bind (fun (r8, v8) => (if (r8 < 0 ∨ 181 ≤ Int32.toNatClampNeg r8) then none else ((f_X5_viewOf x1 (jx_up v8 1 (Int32.toNatClampNeg r8) x5)).bind (fun (r10, v10) => (if r10 ≤ x4 then (if r10 ≤ x4 then (f_X5_level_L n x1 x2 x3 x4 (x5 + 1) v10) else (f_X5_level_L n x1 x2 x3 r10 (x5 + 1) v10)) else (if r10 ≤ x4 then (f_X5_level_L n x1 x2 x5 x4 (x5 + 1) v10) else (f_X5_level_L n x1 x2 x5 r10 (x5 + 1) v10)))))))))
def f_X5_level (x1 : Int32) (v : jx_V) : Option (Int32 × jx_V) := ((f_X5_isWindow x1 v).bind (fun (r1, v1) => (if r1 = 0 then ((f_X5_finds (-1000001) v1).bind (fun (r4, v4) => (some (r4, v4)))) else ((f_X5_told x1 1 v1).bind (fun (r3, v3) => (f_X5_level_L 100000 x1 r3 0 (-1) 0 v3))))))
def rm_X5_level : Room := { frames := 6, cells := 0, slots := 0, locals := 146 }
set_option maxHeartbeats 4000000 in
set_option maxRecDepth 100000 in
theorem k_X5_level {l : Launch} {D : va_G} {cI cJ : ClassId} {ad : Nat → Nat} {A : Nat → Prop} (hI : jx_inj 13 ad A) (x1 : Int32) (v : jx_V) (r : Int32) (v' : jx_V) (hF : f_X5_level x1 v = some (r, v')) : jx_Ci l D vwCl 13 cI cJ ad shM A ex_M yX5_level (Cond.code yX5_level cX5_level 7 (some .int) :: bigT) rm_X5_level [.ref (ad 0), .int x1] v r v' := by
  unfold f_X5_level at hF
  refine jx_enteri bigT RX5 cX5_level 7 (some .int) [(0, .ref (ad 0)), (1, .int x1)] hI (ex_M_ok A) (by decide +kernel) rfl (Nat.le_of_ble_eq_true rfl) rfl rfl ?_
  intro p e s m args below meth c E
  have iX5 : ∀ w ∈ u_ws RX5 TX5 21, w ∈ (Cond.code yX5_level cX5_level 7 (some .int) :: bigT) := fun w h => List.mem_cons_of_mem _ (uw_X5 w h)
  have key : ∀ n : Nat, (∀ (x1 : Int32) (x2 : Int32) (x3 : Int32) (x4 : Int32) (x5 : Int32) (v : jx_V), f_X5_level_L  n  x1 x2 x3 x4 x5 v = some (r, v') → jx_J p l e rm_X5_level s m args below meth c D vwCl 13 cI cJ ad shM A 0 0 7 (MQ below (va_Qi (fun (r1 : Int32) (_ : Unit) => r1 = r) (fun _ t => va_P D vwCl (jx_ws 13 cI cJ ad shM v') t.heap) A) args s 0 0 A) v 30 [(0, .ref (ad 0)), (1, .int x1), (2, .int x2), (3, .int x3), (4, .int x4), (5, .int x5)] []) := by
    intro n
    induction n with
    | zero =>
      exact (fun _ _ _ _ _ _ h => by cases h)
    | succ n ih =>
      intro x1 x2 x3 x4 x5 v hF
      rw [f_X5_level_L] at hF
      refine jx_iload E dX5_level_30 5 rfl ?_
      refine jx_bipush (x := 10) E dX5_level_32 (by decide) ?_
      refine jx_icmp_ge (tgt := 92) E dX5_level_34 (by decide) (fun hc5 => ?_) (fun hc5 => ?_)
      · rw [if_pos hc5] at hF
        refine jx_aload_n E dX5_level_92 0 rfl ?_
        refine jx_getr (C := RX5) (T := TX5) (M := 21) (k := 0) E dX5_level_93 (Nat.le_of_ble_eq_true rfl) s_M0 rfl iX5 (by decide) rfl (List.mem_cons_of_mem _ tw_328) rfl ?_
        refine jx_iload_n E dX5_level_96 1 rfl ?_
        refine jx_iconst (x := 1) E dX5_level_97 (by decide) ?_
        obtain ⟨⟨r6, v6⟩, hc6, hF⟩ := jx_bind hF
        try dsimp only at hF
        refine jx_callSi (As := [.int x1, .int 1]) (st := [.ref (ad 1)]) E dX5_level_98 2 rfl (k_X5_where hI x1 1 v r6 v6 hc6) (gb_S (List.mem_cons_of_mem _ tw_389) (List.mem_cons_of_mem _ tw_390) (List.mem_cons_of_mem _ tw_325) tw_388) rfl rfl rfl dd_X5_where rfl ⟨by decide, by decide⟩ ⟨Nat.le_refl 0, Nat.le_refl 0⟩ (Nat.le_of_ble_eq_true rfl) ?_
        refine jx_iload_n E dX5_level_101 2 rfl ?_
        obtain ⟨hg7, hF⟩ := jx_guard hF
        refine jx_iast (h := 1) (j := (Int32.toNatClampNeg r6)) E dX5_level_102 (Nat.le_of_ble_eq_true rfl) s_M1 hg7 rfl ?_
        refine jx_iload_n E dX5_level_103 3 rfl ?_
        obtain ⟨rfl, rfl⟩ := jx_out hF
        exact jx_iret E dX5_level_104 rfl
      · rw [if_neg hc5] at hF
        refine jx_aload_n E dX5_level_37 0 rfl ?_
        refine jx_getr (C := RX5) (T := TX5) (M := 21) (k := 0) E dX5_level_38 (Nat.le_of_ble_eq_true rfl) s_M0 rfl iX5 (by decide) rfl (List.mem_cons_of_mem _ tw_328) rfl ?_
        refine jx_iload_n E dX5_level_41 1 rfl ?_
        refine jx_iconst (x := 1) E dX5_level_42 (by decide) ?_
        obtain ⟨⟨r8, v8⟩, hc8, hF⟩ := jx_bind hF
        try dsimp only at hF
        refine jx_callSi (As := [.int x1, .int 1]) (st := [.ref (ad 1)]) E dX5_level_43 2 rfl (k_X5_where hI x1 1 v r8 v8 hc8) (gb_S (List.mem_cons_of_mem _ tw_389) (List.mem_cons_of_mem _ tw_390) (List.mem_cons_of_mem _ tw_325) tw_388) rfl rfl rfl dd_X5_where rfl ⟨by decide, by decide⟩ ⟨Nat.le_refl 0, Nat.le_refl 0⟩ (Nat.le_of_ble_eq_true rfl) ?_
        refine jx_iload E dX5_level_46 5 rfl ?_
        obtain ⟨hg9, hF⟩ := jx_guard hF
        refine jx_iast (h := 1) (j := (Int32.toNatClampNeg r8)) E dX5_level_48 (Nat.le_of_ble_eq_true rfl) s_M1 hg9 rfl ?_
        refine jx_aload_n E dX5_level_49 0 rfl ?_
        refine jx_iload_n E dX5_level_50 1 rfl ?_
        obtain ⟨⟨r10, v10⟩, hc10, hF⟩ := jx_bind hF
        try dsimp only at hF
        refine jx_callVi (As := [.int x1]) (st := []) (h := 0) E dX5_level_51 1 rfl (k_X5_viewOf hI x1 (jx_up v8 1 (Int32.toNatClampNeg r8) x5) r10 v10 hc10) (gb_V (List.mem_cons_of_mem _ tw_482) (List.mem_cons_of_mem _ tw_483) (List.mem_cons_of_mem _ tw_484) (List.mem_cons_of_mem _ tw_325) tw_481) rfl rfl rfl dd_X5_viewOf rfl (Nat.le_of_ble_eq_true rfl) s_M0 rfl ⟨by decide, by decide⟩ ⟨Nat.le_refl 0, Nat.le_refl 0⟩ (Nat.le_of_ble_eq_true rfl) ?_
        refine jx_istore (lv' := [(6, .int r10), (0, .ref (ad 0)), (1, .int x1), (2, .int x2), (3, .int x3), (4, .int x4), (5, .int x5)]) E dX5_level_54 (by decide) rfl ?_
        refine jx_iload E dX5_level_56 0 rfl ?_
        refine jx_iload E dX5_level_58 5 rfl ?_
        refine jx_icmp_le (tgt := 68) E dX5_level_60 (by decide) (fun hc11 => ?_) (fun hc11 => ?_)
        · rw [if_pos hc11] at hF
          refine jx_iload_n E dX5_level_68 4 rfl ?_
          refine jx_istore_n (lv' := [(3, .int x3), (6, .int r10), (0, .ref (ad 0)), (1, .int x1), (2, .int x2), (4, .int x4), (5, .int x5)]) E dX5_level_69 (by decide) rfl ?_
          refine jx_iload E dX5_level_70 1 rfl ?_
          refine jx_iload E dX5_level_72 5 rfl ?_
          refine jx_icmp_le (tgt := 82) E dX5_level_74 (by decide) (fun hc12 => ?_) (fun hc12 => ?_)
          · rw [if_pos hc12] at hF
            refine jx_iload E dX5_level_82 5 rfl ?_
            refine jx_istore (lv' := [(4, .int x4), (3, .int x3), (6, .int r10), (0, .ref (ad 0)), (1, .int x1), (2, .int x2), (5, .int x5)]) E dX5_level_84 (by decide) rfl ?_
            refine jx_iinc (y := (x5 + 1)) (lv' := [(5, .int (x5 + 1)), (4, .int x4), (3, .int x3), (6, .int r10), (0, .ref (ad 0)), (1, .int x1), (2, .int x2)]) E dX5_level_86 6 rfl rfl (by decide) rfl ?_
            refine jx_goto (tgt := 30) E dX5_level_89 (by decide) ?_
            refine jx_sub [4, 5, 6, 2, 1, 0] rfl ?_
            exact ih x1 x2 x3 x4 (x5 + 1) v10 hF
          · rw [if_neg hc12] at hF
            refine jx_iload E dX5_level_77 1 rfl ?_
            refine jx_goto (tgt := 84) E dX5_level_79 (by decide) ?_
            refine jx_istore (lv' := [(4, .int r10), (3, .int x3), (6, .int r10), (0, .ref (ad 0)), (1, .int x1), (2, .int x2), (5, .int x5)]) E dX5_level_84 (by decide) rfl ?_
            refine jx_iinc (y := (x5 + 1)) (lv' := [(5, .int (x5 + 1)), (4, .int r10), (3, .int x3), (6, .int r10), (0, .ref (ad 0)), (1, .int x1), (2, .int x2)]) E dX5_level_86 6 rfl rfl (by decide) rfl ?_
            refine jx_goto (tgt := 30) E dX5_level_89 (by decide) ?_
            refine jx_sub [4, 5, 6, 2, 1, 0] rfl ?_
            exact ih x1 x2 x3 r10 (x5 + 1) v10 hF
        · rw [if_neg hc11] at hF
          refine jx_iload E dX5_level_63 6 rfl ?_
          refine jx_goto (tgt := 69) E dX5_level_65 (by decide) ?_
          refine jx_istore_n (lv' := [(3, .int x5), (6, .int r10), (0, .ref (ad 0)), (1, .int x1), (2, .int x2), (4, .int x4), (5, .int x5)]) E dX5_level_69 (by decide) rfl ?_
          refine jx_iload E dX5_level_70 1 rfl ?_
          refine jx_iload E dX5_level_72 5 rfl ?_
          refine jx_icmp_le (tgt := 82) E dX5_level_74 (by decide) (fun hc13 => ?_) (fun hc13 => ?_)
          · rw [if_pos hc13] at hF
            refine jx_iload E dX5_level_82 5 rfl ?_
            refine jx_istore (lv' := [(4, .int x4), (3, .int x5), (6, .int r10), (0, .ref (ad 0)), (1, .int x1), (2, .int x2), (5, .int x5)]) E dX5_level_84 (by decide) rfl ?_
            refine jx_iinc (y := (x5 + 1)) (lv' := [(5, .int (x5 + 1)), (4, .int x4), (3, .int x5), (6, .int r10), (0, .ref (ad 0)), (1, .int x1), (2, .int x2)]) E dX5_level_86 6 rfl rfl (by decide) rfl ?_
            refine jx_goto (tgt := 30) E dX5_level_89 (by decide) ?_
            refine jx_sub [4, 5, 6, 2, 1, 0] rfl ?_
            exact ih x1 x2 x5 x4 (x5 + 1) v10 hF
          · rw [if_neg hc13] at hF
            refine jx_iload E dX5_level_77 1 rfl ?_
            refine jx_goto (tgt := 84) E dX5_level_79 (by decide) ?_
            refine jx_istore (lv' := [(4, .int r10), (3, .int x5), (6, .int r10), (0, .ref (ad 0)), (1, .int x1), (2, .int x2), (5, .int x5)]) E dX5_level_84 (by decide) rfl ?_
            refine jx_iinc (y := (x5 + 1)) (lv' := [(5, .int (x5 + 1)), (4, .int r10), (3, .int x5), (6, .int r10), (0, .ref (ad 0)), (1, .int x1), (2, .int x2)]) E dX5_level_86 6 rfl rfl (by decide) rfl ?_
            refine jx_goto (tgt := 30) E dX5_level_89 (by decide) ?_
            refine jx_sub [4, 5, 6, 2, 1, 0] rfl ?_
            exact ih x1 x2 x5 r10 (x5 + 1) v10 hF
  refine jx_aload_n E dX5_level_0 0 rfl ?_
  refine jx_iload_n E dX5_level_1 1 rfl ?_
  obtain ⟨⟨r1, v1⟩, hc1, hF⟩ := jx_bind hF
  try dsimp only at hF
  refine jx_callVi (As := [.int x1]) (st := []) (h := 0) E dX5_level_2 1 rfl (k_X5_isWindow hI x1 v r1 v1 hc1) (gb_V (List.mem_cons_of_mem _ tw_397) (List.mem_cons_of_mem _ tw_398) (List.mem_cons_of_mem _ tw_399) (List.mem_cons_of_mem _ tw_325) tw_396) rfl rfl rfl dd_X5_isWindow rfl (Nat.le_of_ble_eq_true rfl) s_M0 rfl ⟨by decide, by decide⟩ ⟨Nat.le_refl 0, Nat.le_refl 0⟩ (Nat.le_of_ble_eq_true rfl) ?_
  refine jx_if_ne (tgt := 15) E dX5_level_5 (by decide) (fun hc2 => ?_) (fun hc2 => ?_)
  · rw [if_neg hc2] at hF
    refine jx_aload_n E dX5_level_15 0 rfl ?_
    refine jx_iload_n E dX5_level_16 1 rfl ?_
    refine jx_iconst (x := 1) E dX5_level_17 (by decide) ?_
    obtain ⟨⟨r3, v3⟩, hc3, hF⟩ := jx_bind hF
    try dsimp only at hF
    refine jx_callVi (As := [.int x1, .int 1]) (st := []) (h := 0) E dX5_level_18 2 rfl (k_X5_told hI x1 1 v1 r3 v3 hc3) (gb_V (List.mem_cons_of_mem _ tw_402) (List.mem_cons_of_mem _ tw_403) (List.mem_cons_of_mem _ tw_404) (List.mem_cons_of_mem _ tw_325) tw_401) rfl rfl rfl dd_X5_told rfl (Nat.le_of_ble_eq_true rfl) s_M0 rfl ⟨by decide, by decide⟩ ⟨Nat.le_refl 0, Nat.le_refl 0⟩ (Nat.le_of_ble_eq_true rfl) ?_
    refine jx_istore_n (lv' := [(2, .int r3), (0, .ref (ad 0)), (1, .int x1)]) E dX5_level_21 (by decide) rfl ?_
    refine jx_iconst (x := 0) E dX5_level_22 (by decide) ?_
    refine jx_istore_n (lv' := [(3, .int 0), (2, .int r3), (0, .ref (ad 0)), (1, .int x1)]) E dX5_level_23 (by decide) rfl ?_
    refine jx_iconst (x := -1) E dX5_level_24 (by decide) ?_
    refine jx_istore (lv' := [(4, .int (-1)), (3, .int 0), (2, .int r3), (0, .ref (ad 0)), (1, .int x1)]) E dX5_level_25 (by decide) rfl ?_
    refine jx_iconst (x := 0) E dX5_level_27 (by decide) ?_
    refine jx_istore (lv' := [(5, .int 0), (4, .int (-1)), (3, .int 0), (2, .int r3), (0, .ref (ad 0)), (1, .int x1)]) E dX5_level_28 (by decide) rfl ?_
    refine jx_sub [4, 5, 3, 2, 1, 0] rfl ?_
    exact (key 100000) x1 r3 0 (-1) 0 v3 hF
  · rw [if_pos hc2] at hF
    refine jx_aload_n E dX5_level_8 0 rfl ?_
    refine jx_ldc (x := -1000001) E dX5_level_9 (List.mem_cons_of_mem _ tw_320) ?_
    obtain ⟨⟨r4, v4⟩, hc4, hF⟩ := jx_bind hF
    try dsimp only at hF
    refine jx_callVi (As := [.int (-1000001)]) (st := []) (h := 0) E dX5_level_11 1 rfl (k_X5_finds hI (-1000001) v1 r4 v4 hc4) (gb_V (List.mem_cons_of_mem _ tw_344) (List.mem_cons_of_mem _ tw_345) (List.mem_cons_of_mem _ tw_346) (List.mem_cons_of_mem _ tw_325) tw_343) rfl rfl rfl dd_X5_finds rfl (Nat.le_of_ble_eq_true rfl) s_M0 rfl ⟨by decide, by decide⟩ ⟨Nat.le_refl 0, Nat.le_refl 0⟩ (Nat.le_of_ble_eq_true rfl) ?_
    obtain ⟨rfl, rfl⟩ := jx_out hF
    exact jx_iret E dX5_level_14 rfl
def f_X5_cheapest_L  : Nat → Int32 → Int32 → Int32 → Int32 → Int32 → jx_V → Option (Int32 × jx_V)
  | 0, _, _, _, _, _, _ => none
  | n + 1, x1, x2, x3, x4, x5, v => (if 4 ≤ x5 then ((f_X5_where x1 2 v).bind (fun (r6, v6) => (if (r6 < 0 ∨ 181 ≤ Int32.toNatClampNeg r6) then none else (some (x3, (jx_up v6 1 (Int32.toNatClampNeg r6) x2)))))) else ((f_X5_where x1 2 v).bind (fun (r8, v8) => (if (r8 < 0 ∨ 181 ≤ Int32.toNatClampNeg r8) then none else ((f_X5_looks x1 (jx_up v8 1 (Int32.toNatClampNeg r8) x5)).bind (fun v10 => (if x3 < 0 then (f_X5_cheapest_L n x1 x2 x5 (v10 0 7) (x5 + 1) v10) else (if x4 ≤ (v10 0 7) then (f_X5_cheapest_L n x1 x2 x3 x4 (x5 + 1) v10) else (f_X5_cheapest_L n x1 x2 x5 (v10 0 7) (x5 + 1) v10)))))))))
def f_X5_cheapest (x1 : Int32) (v : jx_V) : Option (Int32 × jx_V) := ((f_X5_isWindow x1 v).bind (fun (r1, v1) => (if r1 = 0 then ((f_X5_finds (-1000001) v1).bind (fun (r4, v4) => (some (r4, v4)))) else ((f_X5_told x1 2 v1).bind (fun (r3, v3) => (f_X5_cheapest_L 100000 x1 r3 (-1) 0 0 v3))))))
def rm_X5_cheapest : Room := { frames := 5, cells := 0, slots := 0, locals := 125 }
set_option maxHeartbeats 4000000 in
set_option maxRecDepth 100000 in
theorem k_X5_cheapest {l : Launch} {D : va_G} {cI cJ : ClassId} {ad : Nat → Nat} {A : Nat → Prop} (hI : jx_inj 13 ad A) (x1 : Int32) (v : jx_V) (r : Int32) (v' : jx_V) (hF : f_X5_cheapest x1 v = some (r, v')) : jx_Ci l D vwCl 13 cI cJ ad shM A ex_M yX5_cheapest (Cond.code yX5_cheapest cX5_cheapest 6 (some .int) :: bigT) rm_X5_cheapest [.ref (ad 0), .int x1] v r v' := by
  unfold f_X5_cheapest at hF
  refine jx_enteri bigT RX5 cX5_cheapest 6 (some .int) [(0, .ref (ad 0)), (1, .int x1)] hI (ex_M_ok A) (by decide +kernel) rfl (Nat.le_of_ble_eq_true rfl) rfl rfl ?_
  intro p e s m args below meth c E
  have iX5 : ∀ w ∈ u_ws RX5 TX5 21, w ∈ (Cond.code yX5_cheapest cX5_cheapest 6 (some .int) :: bigT) := fun w h => List.mem_cons_of_mem _ (uw_X5 w h)
  have key : ∀ n : Nat, (∀ (x1 : Int32) (x2 : Int32) (x3 : Int32) (x4 : Int32) (x5 : Int32) (v : jx_V), f_X5_cheapest_L  n  x1 x2 x3 x4 x5 v = some (r, v') → jx_J p l e rm_X5_cheapest s m args below meth c D vwCl 13 cI cJ ad shM A 0 0 6 (MQ below (va_Qi (fun (r1 : Int32) (_ : Unit) => r1 = r) (fun _ t => va_P D vwCl (jx_ws 13 cI cJ ad shM v') t.heap) A) args s 0 0 A) v 30 [(0, .ref (ad 0)), (1, .int x1), (2, .int x2), (3, .int x3), (4, .int x4), (5, .int x5)] []) := by
    intro n
    induction n with
    | zero =>
      exact (fun _ _ _ _ _ _ h => by cases h)
    | succ n ih =>
      intro x1 x2 x3 x4 x5 v hF
      rw [f_X5_cheapest_L] at hF
      refine jx_iload E dX5_cheapest_30 5 rfl ?_
      refine jx_iconst (x := 4) E dX5_cheapest_32 (by decide) ?_
      refine jx_icmp_ge (tgt := 81) E dX5_cheapest_33 (by decide) (fun hc5 => ?_) (fun hc5 => ?_)
      · rw [if_pos hc5] at hF
        refine jx_aload_n E dX5_cheapest_81 0 rfl ?_
        refine jx_getr (C := RX5) (T := TX5) (M := 21) (k := 0) E dX5_cheapest_82 (Nat.le_of_ble_eq_true rfl) s_M0 rfl iX5 (by decide) rfl (List.mem_cons_of_mem _ tw_328) rfl ?_
        refine jx_iload_n E dX5_cheapest_85 1 rfl ?_
        refine jx_iconst (x := 2) E dX5_cheapest_86 (by decide) ?_
        obtain ⟨⟨r6, v6⟩, hc6, hF⟩ := jx_bind hF
        try dsimp only at hF
        refine jx_callSi (As := [.int x1, .int 2]) (st := [.ref (ad 1)]) E dX5_cheapest_87 2 rfl (k_X5_where hI x1 2 v r6 v6 hc6) (gb_S (List.mem_cons_of_mem _ tw_389) (List.mem_cons_of_mem _ tw_390) (List.mem_cons_of_mem _ tw_325) tw_388) rfl rfl rfl dd_X5_where rfl ⟨by decide, by decide⟩ ⟨Nat.le_refl 0, Nat.le_refl 0⟩ (Nat.le_of_ble_eq_true rfl) ?_
        refine jx_iload_n E dX5_cheapest_90 2 rfl ?_
        obtain ⟨hg7, hF⟩ := jx_guard hF
        refine jx_iast (h := 1) (j := (Int32.toNatClampNeg r6)) E dX5_cheapest_91 (Nat.le_of_ble_eq_true rfl) s_M1 hg7 rfl ?_
        refine jx_iload_n E dX5_cheapest_92 3 rfl ?_
        obtain ⟨rfl, rfl⟩ := jx_out hF
        exact jx_iret E dX5_cheapest_93 rfl
      · rw [if_neg hc5] at hF
        refine jx_aload_n E dX5_cheapest_36 0 rfl ?_
        refine jx_getr (C := RX5) (T := TX5) (M := 21) (k := 0) E dX5_cheapest_37 (Nat.le_of_ble_eq_true rfl) s_M0 rfl iX5 (by decide) rfl (List.mem_cons_of_mem _ tw_328) rfl ?_
        refine jx_iload_n E dX5_cheapest_40 1 rfl ?_
        refine jx_iconst (x := 2) E dX5_cheapest_41 (by decide) ?_
        obtain ⟨⟨r8, v8⟩, hc8, hF⟩ := jx_bind hF
        try dsimp only at hF
        refine jx_callSi (As := [.int x1, .int 2]) (st := [.ref (ad 1)]) E dX5_cheapest_42 2 rfl (k_X5_where hI x1 2 v r8 v8 hc8) (gb_S (List.mem_cons_of_mem _ tw_389) (List.mem_cons_of_mem _ tw_390) (List.mem_cons_of_mem _ tw_325) tw_388) rfl rfl rfl dd_X5_where rfl ⟨by decide, by decide⟩ ⟨Nat.le_refl 0, Nat.le_refl 0⟩ (Nat.le_of_ble_eq_true rfl) ?_
        refine jx_iload E dX5_cheapest_45 5 rfl ?_
        obtain ⟨hg9, hF⟩ := jx_guard hF
        refine jx_iast (h := 1) (j := (Int32.toNatClampNeg r8)) E dX5_cheapest_47 (Nat.le_of_ble_eq_true rfl) s_M1 hg9 rfl ?_
        refine jx_aload_n E dX5_cheapest_48 0 rfl ?_
        refine jx_iload_n E dX5_cheapest_49 1 rfl ?_
        obtain ⟨v10, hc10, hF⟩ := jx_bind hF
        try dsimp only at hF
        refine jx_callVv (As := [.int x1]) (st := []) (h := 0) E dX5_cheapest_50 1 rfl (k_X5_looks hI x1 (jx_up v8 1 (Int32.toNatClampNeg r8) x5) v10 hc10) (gb_V (List.mem_cons_of_mem _ tw_422) (List.mem_cons_of_mem _ tw_423) (List.mem_cons_of_mem _ tw_424) (List.mem_cons_of_mem _ tw_325) tw_421) rfl rfl rfl dd_X5_looks rfl (Nat.le_of_ble_eq_true rfl) s_M0 rfl ⟨by decide, by decide⟩ ⟨Nat.le_refl 0, Nat.le_refl 0⟩ (Nat.le_of_ble_eq_true rfl) ?_
        refine jx_iload_n E dX5_cheapest_53 3 rfl ?_
        refine jx_if_lt (tgt := 66) E dX5_cheapest_54 (by decide) (fun hc11 => ?_) (fun hc11 => ?_)
        · rw [if_pos hc11] at hF
          refine jx_iload E dX5_cheapest_66 5 rfl ?_
          refine jx_istore_n (lv' := [(3, .int x5), (0, .ref (ad 0)), (1, .int x1), (2, .int x2), (4, .int x4), (5, .int x5)]) E dX5_cheapest_68 (by decide) rfl ?_
          refine jx_aload_n E dX5_cheapest_69 1 rfl ?_
          refine jx_geti (C := RX5) (T := TX5) (M := 21) (k := 7) E dX5_cheapest_70 (Nat.le_of_ble_eq_true rfl) s_M0 rfl iX5 (by decide) rfl (List.mem_cons_of_mem _ tw_410) rfl ?_
          refine jx_istore (lv' := [(4, .int (v10 0 7)), (3, .int x5), (0, .ref (ad 0)), (1, .int x1), (2, .int x2), (5, .int x5)]) E dX5_cheapest_73 (by decide) rfl ?_
          refine jx_iinc (y := (x5 + 1)) (lv' := [(5, .int (x5 + 1)), (4, .int (v10 0 7)), (3, .int x5), (0, .ref (ad 0)), (1, .int x1), (2, .int x2)]) E dX5_cheapest_75 5 rfl rfl (by decide) rfl ?_
          refine jx_goto (tgt := 30) E dX5_cheapest_78 (by decide) ?_
          refine jx_sub [3, 4, 5, 2, 1, 0] rfl ?_
          exact ih x1 x2 x5 (v10 0 7) (x5 + 1) v10 hF
        · rw [if_neg hc11] at hF
          refine jx_aload_n E dX5_cheapest_57 0 rfl ?_
          refine jx_geti (C := RX5) (T := TX5) (M := 21) (k := 7) E dX5_cheapest_58 (Nat.le_of_ble_eq_true rfl) s_M0 rfl iX5 (by decide) rfl (List.mem_cons_of_mem _ tw_410) rfl ?_
          refine jx_iload E dX5_cheapest_61 4 rfl ?_
          refine jx_icmp_ge (tgt := 75) E dX5_cheapest_63 (by decide) (fun hc12 => ?_) (fun hc12 => ?_)
          · rw [if_pos hc12] at hF
            refine jx_iinc (y := (x5 + 1)) (lv' := [(5, .int (x5 + 1)), (0, .ref (ad 0)), (1, .int x1), (2, .int x2), (3, .int x3), (4, .int x4)]) E dX5_cheapest_75 5 rfl rfl (by decide) rfl ?_
            refine jx_goto (tgt := 30) E dX5_cheapest_78 (by decide) ?_
            refine jx_sub [1, 2, 3, 4, 5, 0] rfl ?_
            exact ih x1 x2 x3 x4 (x5 + 1) v10 hF
          · rw [if_neg hc12] at hF
            refine jx_iload E dX5_cheapest_66 5 rfl ?_
            refine jx_istore_n (lv' := [(3, .int x5), (0, .ref (ad 0)), (1, .int x1), (2, .int x2), (4, .int x4), (5, .int x5)]) E dX5_cheapest_68 (by decide) rfl ?_
            refine jx_aload_n E dX5_cheapest_69 1 rfl ?_
            refine jx_geti (C := RX5) (T := TX5) (M := 21) (k := 7) E dX5_cheapest_70 (Nat.le_of_ble_eq_true rfl) s_M0 rfl iX5 (by decide) rfl (List.mem_cons_of_mem _ tw_410) rfl ?_
            refine jx_istore (lv' := [(4, .int (v10 0 7)), (3, .int x5), (0, .ref (ad 0)), (1, .int x1), (2, .int x2), (5, .int x5)]) E dX5_cheapest_73 (by decide) rfl ?_
            refine jx_iinc (y := (x5 + 1)) (lv' := [(5, .int (x5 + 1)), (4, .int (v10 0 7)), (3, .int x5), (0, .ref (ad 0)), (1, .int x1), (2, .int x2)]) E dX5_cheapest_75 5 rfl rfl (by decide) rfl ?_
            refine jx_goto (tgt := 30) E dX5_cheapest_78 (by decide) ?_
            refine jx_sub [3, 4, 5, 2, 1, 0] rfl ?_
            exact ih x1 x2 x5 (v10 0 7) (x5 + 1) v10 hF
  refine jx_aload_n E dX5_cheapest_0 0 rfl ?_
  refine jx_iload_n E dX5_cheapest_1 1 rfl ?_
  obtain ⟨⟨r1, v1⟩, hc1, hF⟩ := jx_bind hF
  try dsimp only at hF
  refine jx_callVi (As := [.int x1]) (st := []) (h := 0) E dX5_cheapest_2 1 rfl (k_X5_isWindow hI x1 v r1 v1 hc1) (gb_V (List.mem_cons_of_mem _ tw_397) (List.mem_cons_of_mem _ tw_398) (List.mem_cons_of_mem _ tw_399) (List.mem_cons_of_mem _ tw_325) tw_396) rfl rfl rfl dd_X5_isWindow rfl (Nat.le_of_ble_eq_true rfl) s_M0 rfl ⟨by decide, by decide⟩ ⟨Nat.le_refl 0, Nat.le_refl 0⟩ (Nat.le_of_ble_eq_true rfl) ?_
  refine jx_if_ne (tgt := 15) E dX5_cheapest_5 (by decide) (fun hc2 => ?_) (fun hc2 => ?_)
  · rw [if_neg hc2] at hF
    refine jx_aload_n E dX5_cheapest_15 0 rfl ?_
    refine jx_iload_n E dX5_cheapest_16 1 rfl ?_
    refine jx_iconst (x := 2) E dX5_cheapest_17 (by decide) ?_
    obtain ⟨⟨r3, v3⟩, hc3, hF⟩ := jx_bind hF
    try dsimp only at hF
    refine jx_callVi (As := [.int x1, .int 2]) (st := []) (h := 0) E dX5_cheapest_18 2 rfl (k_X5_told hI x1 2 v1 r3 v3 hc3) (gb_V (List.mem_cons_of_mem _ tw_402) (List.mem_cons_of_mem _ tw_403) (List.mem_cons_of_mem _ tw_404) (List.mem_cons_of_mem _ tw_325) tw_401) rfl rfl rfl dd_X5_told rfl (Nat.le_of_ble_eq_true rfl) s_M0 rfl ⟨by decide, by decide⟩ ⟨Nat.le_refl 0, Nat.le_refl 0⟩ (Nat.le_of_ble_eq_true rfl) ?_
    refine jx_istore_n (lv' := [(2, .int r3), (0, .ref (ad 0)), (1, .int x1)]) E dX5_cheapest_21 (by decide) rfl ?_
    refine jx_iconst (x := -1) E dX5_cheapest_22 (by decide) ?_
    refine jx_istore_n (lv' := [(3, .int (-1)), (2, .int r3), (0, .ref (ad 0)), (1, .int x1)]) E dX5_cheapest_23 (by decide) rfl ?_
    refine jx_iconst (x := 0) E dX5_cheapest_24 (by decide) ?_
    refine jx_istore (lv' := [(4, .int 0), (3, .int (-1)), (2, .int r3), (0, .ref (ad 0)), (1, .int x1)]) E dX5_cheapest_25 (by decide) rfl ?_
    refine jx_iconst (x := 0) E dX5_cheapest_27 (by decide) ?_
    refine jx_istore (lv' := [(5, .int 0), (4, .int 0), (3, .int (-1)), (2, .int r3), (0, .ref (ad 0)), (1, .int x1)]) E dX5_cheapest_28 (by decide) rfl ?_
    refine jx_sub [4, 5, 3, 2, 1, 0] rfl ?_
    exact (key 100000) x1 r3 (-1) 0 0 v3 hF
  · rw [if_pos hc2] at hF
    refine jx_aload_n E dX5_cheapest_8 0 rfl ?_
    refine jx_ldc (x := -1000001) E dX5_cheapest_9 (List.mem_cons_of_mem _ tw_320) ?_
    obtain ⟨⟨r4, v4⟩, hc4, hF⟩ := jx_bind hF
    try dsimp only at hF
    refine jx_callVi (As := [.int (-1000001)]) (st := []) (h := 0) E dX5_cheapest_11 1 rfl (k_X5_finds hI (-1000001) v1 r4 v4 hc4) (gb_V (List.mem_cons_of_mem _ tw_344) (List.mem_cons_of_mem _ tw_345) (List.mem_cons_of_mem _ tw_346) (List.mem_cons_of_mem _ tw_325) tw_343) rfl rfl rfl dd_X5_finds rfl (Nat.le_of_ble_eq_true rfl) s_M0 rfl ⟨by decide, by decide⟩ ⟨Nat.le_refl 0, Nat.le_refl 0⟩ (Nat.le_of_ble_eq_true rfl) ?_
    obtain ⟨rfl, rfl⟩ := jx_out hF
    exact jx_iret E dX5_cheapest_14 rfl
def f_X5_site_L  : Nat → Int32 → Int32 → Int32 → Int32 → Int32 → Int32 → jx_V → Option (Int32 × jx_V)
  | 0, _, _, _, _, _, _, _ => none
  | n + 1, x1, x2, x3, x4, x5, x6, v => (if 25 ≤ x6 then (if 0 ≤ x4 then (some (x4, v)) else ((f_X5_finds (-1000004) v).bind (fun (r13, v13) => (some (r13, v13))))) else ((f_X5_isThing x6 v).bind (fun (r14, v14) => (if r14 = 0 then ((f_X5_builds x6 x1 x2 x3 0 v14).bind (fun v16 => ((f_X5_gainOf x2 v16).bind (fun (r17, v17) => ((f_X5_putsBack v17).bind (fun v18 => (if x4 < 0 then (f_X5_site_L n x1 x2 x3 x6 r17 (x6 + 1) v18) else (if r17 ≤ x5 then (f_X5_site_L n x1 x2 x3 x4 x5 (x6 + 1) v18) else (f_X5_site_L n x1 x2 x3 x6 r17 (x6 + 1) v18))))))))) else (f_X5_site_L n x1 x2 x3 x4 x5 (x6 + 1) v14)))))
def f_X5_site (x1 : Int32) (x2 : Int32) (x3 : Int32) (v : jx_V) : Option (Int32 × jx_V) := ((f_X5_in (Int32.toInt64 x1) 0 6 v).bind (fun (r1, v1) => (if r1 = 0 then ((f_X5_finds (-1000001) v1).bind (fun (r3, v3) => (some (r3, v3)))) else ((f_X5_isOwner x2 v1).bind (fun (r4, v4) => (if r4 = 0 then ((f_X5_finds (-1000001) v4).bind (fun (r6, v6) => (some (r6, v6)))) else ((f_X5_isHeight x3 v4).bind (fun (r7, v7) => (if r7 = 0 then ((f_X5_finds (-1000001) v7).bind (fun (r10, v10) => (some (r10, v10)))) else ((f_X5_puts v7).bind (fun v9 => (f_X5_site_L 100000 x1 x2 x3 (-1) 0 0 v9))))))))))))
def rm_X5_site : Room := { frames := 7, cells := 0, slots := 0, locals := 169 }
set_option maxHeartbeats 4000000 in
set_option maxRecDepth 100000 in
theorem k_X5_site {l : Launch} {D : va_G} {cI cJ : ClassId} {ad : Nat → Nat} {A : Nat → Prop} (hI : jx_inj 13 ad A) (x1 : Int32) (x2 : Int32) (x3 : Int32) (v : jx_V) (r : Int32) (v' : jx_V) (hF : f_X5_site x1 x2 x3 v = some (r, v')) : jx_Ci l D vwCl 13 cI cJ ad shM A ex_M yX5_site (Cond.code yX5_site cX5_site 8 (some .int) :: bigT) rm_X5_site [.ref (ad 0), .int x1, .int x2, .int x3] v r v' := by
  unfold f_X5_site at hF
  refine jx_enteri bigT RX5 cX5_site 8 (some .int) [(0, .ref (ad 0)), (1, .int x1), (2, .int x2), (3, .int x3)] hI (ex_M_ok A) (by decide +kernel) rfl (Nat.le_of_ble_eq_true rfl) rfl rfl ?_
  intro p e s m args below meth c E
  have key : ∀ n : Nat, (∀ (x1 : Int32) (x2 : Int32) (x3 : Int32) (x4 : Int32) (x5 : Int32) (x6 : Int32) (v : jx_V), f_X5_site_L  n  x1 x2 x3 x4 x5 x6 v = some (r, v') → jx_J p l e rm_X5_site s m args below meth c D vwCl 13 cI cJ ad shM A 0 0 8 (MQ below (va_Qi (fun (r1 : Int32) (_ : Unit) => r1 = r) (fun _ t => va_P D vwCl (jx_ws 13 cI cJ ad shM v') t.heap) A) args s 0 0 A) v 46 [(0, .ref (ad 0)), (1, .int x1), (2, .int x2), (3, .int x3), (4, .int x4), (5, .int x5), (6, .int x6)] []) := by
    intro n
    induction n with
    | zero =>
      exact (fun _ _ _ _ _ _ _ h => by cases h)
    | succ n ih =>
      intro x1 x2 x3 x4 x5 x6 v hF
      rw [f_X5_site_L] at hF
      refine jx_iload E dX5_site_46 6 rfl ?_
      refine jx_bipush (x := 25) E dX5_site_48 (by decide) ?_
      refine jx_icmp_ge (tgt := 109) E dX5_site_50 (by decide) (fun hc11 => ?_) (fun hc11 => ?_)
      · rw [if_pos hc11] at hF
        refine jx_iload E dX5_site_109 4 rfl ?_
        refine jx_if_ge (tgt := 123) E dX5_site_111 (by decide) (fun hc12 => ?_) (fun hc12 => ?_)
        · rw [if_pos hc12] at hF
          refine jx_iload E dX5_site_123 4 rfl ?_
          obtain ⟨rfl, rfl⟩ := jx_out hF
          exact jx_iret E dX5_site_125 rfl
        · rw [if_neg hc12] at hF
          refine jx_aload_n E dX5_site_114 0 rfl ?_
          refine jx_ldc (x := -1000004) E dX5_site_115 (List.mem_cons_of_mem _ tw_365) ?_
          obtain ⟨⟨r13, v13⟩, hc13, hF⟩ := jx_bind hF
          try dsimp only at hF
          refine jx_callVi (As := [.int (-1000004)]) (st := []) (h := 0) E dX5_site_117 1 rfl (k_X5_finds hI (-1000004) v r13 v13 hc13) (gb_V (List.mem_cons_of_mem _ tw_344) (List.mem_cons_of_mem _ tw_345) (List.mem_cons_of_mem _ tw_346) (List.mem_cons_of_mem _ tw_325) tw_343) rfl rfl rfl dd_X5_finds rfl (Nat.le_of_ble_eq_true rfl) s_M0 rfl ⟨by decide, by decide⟩ ⟨Nat.le_refl 0, Nat.le_refl 0⟩ (Nat.le_of_ble_eq_true rfl) ?_
          refine jx_goto (tgt := 125) E dX5_site_120 (by decide) ?_
          obtain ⟨rfl, rfl⟩ := jx_out hF
          exact jx_iret E dX5_site_125 rfl
      · rw [if_neg hc11] at hF
        refine jx_aload_n E dX5_site_53 0 rfl ?_
        refine jx_iload E dX5_site_54 6 rfl ?_
        obtain ⟨⟨r14, v14⟩, hc14, hF⟩ := jx_bind hF
        try dsimp only at hF
        refine jx_callVi (As := [.int x6]) (st := []) (h := 0) E dX5_site_56 1 rfl (k_X5_isThing hI x6 v r14 v14 hc14) (gb_V (List.mem_cons_of_mem _ tw_339) (List.mem_cons_of_mem _ tw_340) (List.mem_cons_of_mem _ tw_341) (List.mem_cons_of_mem _ tw_325) tw_338) rfl rfl rfl dd_X5_isThing rfl (Nat.le_of_ble_eq_true rfl) s_M0 rfl ⟨by decide, by decide⟩ ⟨Nat.le_refl 0, Nat.le_refl 0⟩ (Nat.le_of_ble_eq_true rfl) ?_
        refine jx_if_ne (tgt := 103) E dX5_site_59 (by decide) (fun hc15 => ?_) (fun hc15 => ?_)
        · rw [if_neg hc15] at hF
          refine jx_iinc (y := (x6 + 1)) (lv' := [(6, .int (x6 + 1)), (0, .ref (ad 0)), (1, .int x1), (2, .int x2), (3, .int x3), (4, .int x4), (5, .int x5)]) E dX5_site_103 6 rfl rfl (by decide) rfl ?_
          refine jx_goto (tgt := 46) E dX5_site_106 (by decide) ?_
          refine jx_sub [1, 2, 3, 4, 5, 6, 0] rfl ?_
          exact ih x1 x2 x3 x4 x5 (x6 + 1) v14 hF
        · rw [if_pos hc15] at hF
          refine jx_aload_n E dX5_site_62 0 rfl ?_
          refine jx_iload E dX5_site_63 6 rfl ?_
          refine jx_iload_n E dX5_site_65 1 rfl ?_
          refine jx_iload_n E dX5_site_66 2 rfl ?_
          refine jx_iload_n E dX5_site_67 3 rfl ?_
          refine jx_iconst (x := 0) E dX5_site_68 (by decide) ?_
          obtain ⟨v16, hc16, hF⟩ := jx_bind hF
          try dsimp only at hF
          refine jx_callVv (As := [.int x6, .int x1, .int x2, .int x3, .int 0]) (st := []) (h := 0) E dX5_site_69 5 rfl (k_X5_builds hI x6 x1 x2 x3 0 v14 v16 hc16) (gb_V (List.mem_cons_of_mem _ tw_357) (List.mem_cons_of_mem _ tw_358) (List.mem_cons_of_mem _ tw_359) (List.mem_cons_of_mem _ tw_325) tw_356) rfl rfl rfl dd_X5_builds rfl (Nat.le_of_ble_eq_true rfl) s_M0 rfl ⟨by decide, by decide⟩ ⟨Nat.le_refl 0, Nat.le_refl 0⟩ (Nat.le_of_ble_eq_true rfl) ?_
          refine jx_aload_n E dX5_site_72 0 rfl ?_
          refine jx_iload_n E dX5_site_73 2 rfl ?_
          obtain ⟨⟨r17, v17⟩, hc17, hF⟩ := jx_bind hF
          try dsimp only at hF
          refine jx_callVi (As := [.int x2]) (st := []) (h := 0) E dX5_site_74 1 rfl (k_X5_gainOf hI x2 v16 r17 v17 hc17) (gb_V (List.mem_cons_of_mem _ tw_436) (List.mem_cons_of_mem _ tw_437) (List.mem_cons_of_mem _ tw_438) (List.mem_cons_of_mem _ tw_325) tw_435) rfl rfl rfl dd_X5_gainOf rfl (Nat.le_of_ble_eq_true rfl) s_M0 rfl ⟨by decide, by decide⟩ ⟨Nat.le_refl 0, Nat.le_refl 0⟩ (Nat.le_of_ble_eq_true rfl) ?_
          refine jx_istore (lv' := [(7, .int r17), (0, .ref (ad 0)), (1, .int x1), (2, .int x2), (3, .int x3), (4, .int x4), (5, .int x5), (6, .int x6)]) E dX5_site_77 (by decide) rfl ?_
          refine jx_aload_n E dX5_site_79 1 rfl ?_
          obtain ⟨v18, hc18, hF⟩ := jx_bind hF
          try dsimp only at hF
          refine jx_callVv (As := []) (st := []) (h := 0) E dX5_site_80 0 rfl (k_X5_putsBack hI  v17 v18 hc18) (gb_V (List.mem_cons_of_mem _ tw_462) (List.mem_cons_of_mem _ tw_463) (List.mem_cons_of_mem _ tw_464) (List.mem_cons_of_mem _ tw_325) tw_461) rfl rfl rfl dd_X5_putsBack rfl (Nat.le_of_ble_eq_true rfl) s_M0 rfl ⟨by decide, by decide⟩ ⟨Nat.le_refl 0, Nat.le_refl 0⟩ (Nat.le_of_ble_eq_true rfl) ?_
          refine jx_iload E dX5_site_83 5 rfl ?_
          refine jx_if_lt (tgt := 95) E dX5_site_85 (by decide) (fun hc19 => ?_) (fun hc19 => ?_)
          · rw [if_pos hc19] at hF
            refine jx_iload E dX5_site_95 7 rfl ?_
            refine jx_istore (lv' := [(4, .int x6), (7, .int r17), (0, .ref (ad 0)), (1, .int x1), (2, .int x2), (3, .int x3), (5, .int x5), (6, .int x6)]) E dX5_site_97 (by decide) rfl ?_
            refine jx_iload E dX5_site_99 1 rfl ?_
            refine jx_istore (lv' := [(5, .int r17), (4, .int x6), (7, .int r17), (0, .ref (ad 0)), (1, .int x1), (2, .int x2), (3, .int x3), (6, .int x6)]) E dX5_site_101 (by decide) rfl ?_
            refine jx_iinc (y := (x6 + 1)) (lv' := [(6, .int (x6 + 1)), (5, .int r17), (4, .int x6), (7, .int r17), (0, .ref (ad 0)), (1, .int x1), (2, .int x2), (3, .int x3)]) E dX5_site_103 7 rfl rfl (by decide) rfl ?_
            refine jx_goto (tgt := 46) E dX5_site_106 (by decide) ?_
            refine jx_sub [4, 5, 6, 7, 2, 1, 0] rfl ?_
            exact ih x1 x2 x3 x6 r17 (x6 + 1) v18 hF
          · rw [if_neg hc19] at hF
            refine jx_iload E dX5_site_88 0 rfl ?_
            refine jx_iload E dX5_site_90 6 rfl ?_
            refine jx_icmp_le (tgt := 103) E dX5_site_92 (by decide) (fun hc20 => ?_) (fun hc20 => ?_)
            · rw [if_pos hc20] at hF
              refine jx_iinc (y := (x6 + 1)) (lv' := [(6, .int (x6 + 1)), (7, .int r17), (0, .ref (ad 0)), (1, .int x1), (2, .int x2), (3, .int x3), (4, .int x4), (5, .int x5)]) E dX5_site_103 7 rfl rfl (by decide) rfl ?_
              refine jx_goto (tgt := 46) E dX5_site_106 (by decide) ?_
              refine jx_sub [2, 3, 4, 5, 6, 7, 0] rfl ?_
              exact ih x1 x2 x3 x4 x5 (x6 + 1) v18 hF
            · rw [if_neg hc20] at hF
              refine jx_iload E dX5_site_95 7 rfl ?_
              refine jx_istore (lv' := [(4, .int x6), (7, .int r17), (0, .ref (ad 0)), (1, .int x1), (2, .int x2), (3, .int x3), (5, .int x5), (6, .int x6)]) E dX5_site_97 (by decide) rfl ?_
              refine jx_iload E dX5_site_99 1 rfl ?_
              refine jx_istore (lv' := [(5, .int r17), (4, .int x6), (7, .int r17), (0, .ref (ad 0)), (1, .int x1), (2, .int x2), (3, .int x3), (6, .int x6)]) E dX5_site_101 (by decide) rfl ?_
              refine jx_iinc (y := (x6 + 1)) (lv' := [(6, .int (x6 + 1)), (5, .int r17), (4, .int x6), (7, .int r17), (0, .ref (ad 0)), (1, .int x1), (2, .int x2), (3, .int x3)]) E dX5_site_103 7 rfl rfl (by decide) rfl ?_
              refine jx_goto (tgt := 46) E dX5_site_106 (by decide) ?_
              refine jx_sub [4, 5, 6, 7, 2, 1, 0] rfl ?_
              exact ih x1 x2 x3 x6 r17 (x6 + 1) v18 hF
  refine jx_iload_n E dX5_site_0 1 rfl ?_
  refine jx_i2l E dX5_site_1 ?_
  refine jx_lconst (x := 0) E dX5_site_2 (by decide) ?_
  refine jx_ldc2 (x := 6) E dX5_site_3 (List.mem_cons_of_mem _ tw_342) ?_
  obtain ⟨⟨r1, v1⟩, hc1, hF⟩ := jx_bind hF
  try dsimp only at hF
  refine jx_callSi (As := [.long (Int32.toInt64 x1), .long 0, .long 6]) (st := []) E dX5_site_6 3 rfl (k_X5_in hI (Int32.toInt64 x1) 0 6 v r1 v1 hc1) (gb_S (List.mem_cons_of_mem _ tw_323) (List.mem_cons_of_mem _ tw_324) (List.mem_cons_of_mem _ tw_325) tw_322) rfl rfl rfl dd_X5_in rfl ⟨by decide, by decide⟩ ⟨Nat.le_refl 0, Nat.le_refl 0⟩ (Nat.le_of_ble_eq_true rfl) ?_
  refine jx_if_eq (tgt := 26) E dX5_site_9 (by decide) (fun hc2 => ?_) (fun hc2 => ?_)
  · rw [if_pos hc2] at hF
    refine jx_aload_n E dX5_site_26 0 rfl ?_
    refine jx_ldc (x := -1000001) E dX5_site_27 (List.mem_cons_of_mem _ tw_320) ?_
    obtain ⟨⟨r3, v3⟩, hc3, hF⟩ := jx_bind hF
    try dsimp only at hF
    refine jx_callVi (As := [.int (-1000001)]) (st := []) (h := 0) E dX5_site_29 1 rfl (k_X5_finds hI (-1000001) v1 r3 v3 hc3) (gb_V (List.mem_cons_of_mem _ tw_344) (List.mem_cons_of_mem _ tw_345) (List.mem_cons_of_mem _ tw_346) (List.mem_cons_of_mem _ tw_325) tw_343) rfl rfl rfl dd_X5_finds rfl (Nat.le_of_ble_eq_true rfl) s_M0 rfl ⟨by decide, by decide⟩ ⟨Nat.le_refl 0, Nat.le_refl 0⟩ (Nat.le_of_ble_eq_true rfl) ?_
    obtain ⟨rfl, rfl⟩ := jx_out hF
    exact jx_iret E dX5_site_32 rfl
  · rw [if_neg hc2] at hF
    refine jx_iload_n E dX5_site_12 2 rfl ?_
    obtain ⟨⟨r4, v4⟩, hc4, hF⟩ := jx_bind hF
    try dsimp only at hF
    refine jx_callSi (As := [.int x2]) (st := []) E dX5_site_13 1 rfl (k_X5_isOwner hI x2 v1 r4 v4 hc4) (gb_S (List.mem_cons_of_mem _ tw_351) (List.mem_cons_of_mem _ tw_352) (List.mem_cons_of_mem _ tw_325) tw_350) rfl rfl rfl dd_X5_isOwner rfl ⟨by decide, by decide⟩ ⟨Nat.le_refl 0, Nat.le_refl 0⟩ (Nat.le_of_ble_eq_true rfl) ?_
    refine jx_if_eq (tgt := 26) E dX5_site_16 (by decide) (fun hc5 => ?_) (fun hc5 => ?_)
    · rw [if_pos hc5] at hF
      refine jx_aload_n E dX5_site_26 0 rfl ?_
      refine jx_ldc (x := -1000001) E dX5_site_27 (List.mem_cons_of_mem _ tw_320) ?_
      obtain ⟨⟨r6, v6⟩, hc6, hF⟩ := jx_bind hF
      try dsimp only at hF
      refine jx_callVi (As := [.int (-1000001)]) (st := []) (h := 0) E dX5_site_29 1 rfl (k_X5_finds hI (-1000001) v4 r6 v6 hc6) (gb_V (List.mem_cons_of_mem _ tw_344) (List.mem_cons_of_mem _ tw_345) (List.mem_cons_of_mem _ tw_346) (List.mem_cons_of_mem _ tw_325) tw_343) rfl rfl rfl dd_X5_finds rfl (Nat.le_of_ble_eq_true rfl) s_M0 rfl ⟨by decide, by decide⟩ ⟨Nat.le_refl 0, Nat.le_refl 0⟩ (Nat.le_of_ble_eq_true rfl) ?_
      obtain ⟨rfl, rfl⟩ := jx_out hF
      exact jx_iret E dX5_site_32 rfl
    · rw [if_neg hc5] at hF
      refine jx_iload_n E dX5_site_19 3 rfl ?_
      obtain ⟨⟨r7, v7⟩, hc7, hF⟩ := jx_bind hF
      try dsimp only at hF
      refine jx_callSi (As := [.int x3]) (st := []) E dX5_site_20 1 rfl (k_X5_isHeight hI x3 v4 r7 v7 hc7) (gb_S (List.mem_cons_of_mem _ tw_354) (List.mem_cons_of_mem _ tw_355) (List.mem_cons_of_mem _ tw_325) tw_353) rfl rfl rfl dd_X5_isHeight rfl ⟨by decide, by decide⟩ ⟨Nat.le_refl 0, Nat.le_refl 0⟩ (Nat.le_of_ble_eq_true rfl) ?_
      refine jx_if_ne (tgt := 33) E dX5_site_23 (by decide) (fun hc8 => ?_) (fun hc8 => ?_)
      · rw [if_neg hc8] at hF
        refine jx_iconst (x := -1) E dX5_site_33 (by decide) ?_
        refine jx_istore (lv' := [(4, .int (-1)), (0, .ref (ad 0)), (1, .int x1), (2, .int x2), (3, .int x3)]) E dX5_site_34 (by decide) rfl ?_
        refine jx_iconst (x := 0) E dX5_site_36 (by decide) ?_
        refine jx_istore (lv' := [(5, .int 0), (4, .int (-1)), (0, .ref (ad 0)), (1, .int x1), (2, .int x2), (3, .int x3)]) E dX5_site_37 (by decide) rfl ?_
        refine jx_aload_n E dX5_site_39 2 rfl ?_
        obtain ⟨v9, hc9, hF⟩ := jx_bind hF
        try dsimp only at hF
        refine jx_callVv (As := []) (st := []) (h := 0) E dX5_site_40 0 rfl (k_X5_puts hI  v7 v9 hc9) (gb_V (List.mem_cons_of_mem _ tw_458) (List.mem_cons_of_mem _ tw_459) (List.mem_cons_of_mem _ tw_460) (List.mem_cons_of_mem _ tw_325) tw_457) rfl rfl rfl dd_X5_puts rfl (Nat.le_of_ble_eq_true rfl) s_M0 rfl ⟨by decide, by decide⟩ ⟨Nat.le_refl 0, Nat.le_refl 0⟩ (Nat.le_of_ble_eq_true rfl) ?_
        refine jx_iconst (x := 0) E dX5_site_43 (by decide) ?_
        refine jx_istore (lv' := [(6, .int 0), (5, .int 0), (4, .int (-1)), (0, .ref (ad 0)), (1, .int x1), (2, .int x2), (3, .int x3)]) E dX5_site_44 (by decide) rfl ?_
        refine jx_sub [3, 4, 5, 6, 2, 1, 0] rfl ?_
        exact (key 100000) x1 x2 x3 (-1) 0 0 v9 hF
      · rw [if_pos hc8] at hF
        refine jx_aload_n E dX5_site_26 0 rfl ?_
        refine jx_ldc (x := -1000001) E dX5_site_27 (List.mem_cons_of_mem _ tw_320) ?_
        obtain ⟨⟨r10, v10⟩, hc10, hF⟩ := jx_bind hF
        try dsimp only at hF
        refine jx_callVi (As := [.int (-1000001)]) (st := []) (h := 0) E dX5_site_29 1 rfl (k_X5_finds hI (-1000001) v7 r10 v10 hc10) (gb_V (List.mem_cons_of_mem _ tw_344) (List.mem_cons_of_mem _ tw_345) (List.mem_cons_of_mem _ tw_346) (List.mem_cons_of_mem _ tw_325) tw_343) rfl rfl rfl dd_X5_finds rfl (Nat.le_of_ble_eq_true rfl) s_M0 rfl ⟨by decide, by decide⟩ ⟨Nat.le_refl 0, Nat.le_refl 0⟩ (Nat.le_of_ble_eq_true rfl) ?_
        obtain ⟨rfl, rfl⟩ := jx_out hF
        exact jx_iret E dX5_site_32 rfl
def f_X5_worst_L  : Nat → Int32 → Int32 → Int32 → Int32 → Int32 → jx_V → Option (Int32 × jx_V)
  | 0, _, _, _, _, _, _ => none
  | n + 1, x1, x2, x3, x4, x5, v => (if 12 ≤ x5 then (some (x3, (jx_up v 1 0 x2))) else ((f_X5_gainOf x1 (jx_up v 1 0 (x2 + x5))).bind (fun (r9, v9) => (if x4 ≤ r9 then (if x4 ≤ r9 then (f_X5_worst_L n x1 x2 x3 x4 (x5 + 1) v9) else (f_X5_worst_L n x1 x2 x3 r9 (x5 + 1) v9)) else (if x4 ≤ r9 then (f_X5_worst_L n x1 x2 x5 x4 (x5 + 1) v9) else (f_X5_worst_L n x1 x2 x5 r9 (x5 + 1) v9))))))
def f_X5_worst (x1 : Int32) (v : jx_V) : Option (Int32 × jx_V) := ((f_X5_isOwner x1 v).bind (fun (r1, v1) => (if r1 = 0 then ((f_X5_finds (-1000001) v1).bind (fun (r7, v7) => (some (r7, v7)))) else ((f_X5_isTooLate 11 v1).bind (fun (r3, v3) => (if r3 = 0 then ((f_X5_gainOf x1 v3).bind (fun (r5, v5) => (f_X5_worst_L 100000 x1 (v3 1 0) 0 r5 1 v5))) else ((f_X5_finds (-1000005) v3).bind (fun (r6, v6) => (some (r6, v6))))))))))
def rm_X5_worst : Room := { frames := 7, cells := 0, slots := 0, locals := 169 }
set_option maxHeartbeats 4000000 in
set_option maxRecDepth 100000 in
theorem k_X5_worst {l : Launch} {D : va_G} {cI cJ : ClassId} {ad : Nat → Nat} {A : Nat → Prop} (hI : jx_inj 13 ad A) (x1 : Int32) (v : jx_V) (r : Int32) (v' : jx_V) (hF : f_X5_worst x1 v = some (r, v')) : jx_Ci l D vwCl 13 cI cJ ad shM A ex_M yX5_worst (Cond.code yX5_worst cX5_worst 7 (some .int) :: bigT) rm_X5_worst [.ref (ad 0), .int x1] v r v' := by
  unfold f_X5_worst at hF
  refine jx_enteri bigT RX5 cX5_worst 7 (some .int) [(0, .ref (ad 0)), (1, .int x1)] hI (ex_M_ok A) (by decide +kernel) rfl (Nat.le_of_ble_eq_true rfl) rfl rfl ?_
  intro p e s m args below meth c E
  have iX5 : ∀ w ∈ u_ws RX5 TX5 21, w ∈ (Cond.code yX5_worst cX5_worst 7 (some .int) :: bigT) := fun w h => List.mem_cons_of_mem _ (uw_X5 w h)
  have key : ∀ n : Nat, (∀ (x1 : Int32) (x2 : Int32) (x3 : Int32) (x4 : Int32) (x5 : Int32) (v : jx_V), f_X5_worst_L  n  x1 x2 x3 x4 x5 v = some (r, v') → jx_J p l e rm_X5_worst s m args below meth c D vwCl 13 cI cJ ad shM A 0 0 7 (MQ below (va_Qi (fun (r1 : Int32) (_ : Unit) => r1 = r) (fun _ t => va_P D vwCl (jx_ws 13 cI cJ ad shM v') t.heap) A) args s 0 0 A) v 49 [(0, .ref (ad 0)), (1, .int x1), (2, .int x2), (3, .int x3), (4, .int x4), (5, .int x5)] []) := by
    intro n
    induction n with
    | zero =>
      exact (fun _ _ _ _ _ _ h => by cases h)
    | succ n ih =>
      intro x1 x2 x3 x4 x5 v hF
      rw [f_X5_worst_L] at hF
      refine jx_iload E dX5_worst_49 5 rfl ?_
      refine jx_bipush (x := 12) E dX5_worst_51 (by decide) ?_
      refine jx_icmp_ge (tgt := 109) E dX5_worst_53 (by decide) (fun hc8 => ?_) (fun hc8 => ?_)
      · rw [if_pos hc8] at hF
        refine jx_aload_n E dX5_worst_109 0 rfl ?_
        refine jx_getr (C := RX5) (T := TX5) (M := 21) (k := 0) E dX5_worst_110 (Nat.le_of_ble_eq_true rfl) s_M0 rfl iX5 (by decide) rfl (List.mem_cons_of_mem _ tw_328) rfl ?_
        refine jx_iconst (x := 0) E dX5_worst_113 (by decide) ?_
        refine jx_iload_n E dX5_worst_114 2 rfl ?_
        refine jx_iast (h := 1) (j := 0) E dX5_worst_115 (Nat.le_of_ble_eq_true rfl) s_M1 (by decide) (by decide) ?_
        refine jx_iload_n E dX5_worst_116 3 rfl ?_
        obtain ⟨rfl, rfl⟩ := jx_out hF
        exact jx_iret E dX5_worst_117 rfl
      · rw [if_neg hc8] at hF
        refine jx_aload_n E dX5_worst_56 0 rfl ?_
        refine jx_getr (C := RX5) (T := TX5) (M := 21) (k := 0) E dX5_worst_57 (Nat.le_of_ble_eq_true rfl) s_M0 rfl iX5 (by decide) rfl (List.mem_cons_of_mem _ tw_328) rfl ?_
        refine jx_iconst (x := 0) E dX5_worst_60 (by decide) ?_
        refine jx_iload_n E dX5_worst_61 2 rfl ?_
        refine jx_iload E dX5_worst_62 5 rfl ?_
        refine jx_iadd E dX5_worst_64 ?_
        refine jx_iast (h := 1) (j := 0) E dX5_worst_65 (Nat.le_of_ble_eq_true rfl) s_M1 (by decide) (by decide) ?_
        refine jx_aload_n E dX5_worst_66 0 rfl ?_
        refine jx_iload_n E dX5_worst_67 1 rfl ?_
        obtain ⟨⟨r9, v9⟩, hc9, hF⟩ := jx_bind hF
        try dsimp only at hF
        refine jx_callVi (As := [.int x1]) (st := []) (h := 0) E dX5_worst_68 1 rfl (k_X5_gainOf hI x1 (jx_up v 1 0 (x2 + x5)) r9 v9 hc9) (gb_V (List.mem_cons_of_mem _ tw_436) (List.mem_cons_of_mem _ tw_437) (List.mem_cons_of_mem _ tw_438) (List.mem_cons_of_mem _ tw_325) tw_435) rfl rfl rfl dd_X5_gainOf rfl (Nat.le_of_ble_eq_true rfl) s_M0 rfl ⟨by decide, by decide⟩ ⟨Nat.le_refl 0, Nat.le_refl 0⟩ (Nat.le_of_ble_eq_true rfl) ?_
        refine jx_istore (lv' := [(6, .int r9), (0, .ref (ad 0)), (1, .int x1), (2, .int x2), (3, .int x3), (4, .int x4), (5, .int x5)]) E dX5_worst_71 (by decide) rfl ?_
        refine jx_iload E dX5_worst_73 0 rfl ?_
        refine jx_iload E dX5_worst_75 5 rfl ?_
        refine jx_icmp_ge (tgt := 85) E dX5_worst_77 (by decide) (fun hc10 => ?_) (fun hc10 => ?_)
        · rw [if_pos hc10] at hF
          refine jx_iload_n E dX5_worst_85 4 rfl ?_
          refine jx_istore_n (lv' := [(3, .int x3), (6, .int r9), (0, .ref (ad 0)), (1, .int x1), (2, .int x2), (4, .int x4), (5, .int x5)]) E dX5_worst_86 (by decide) rfl ?_
          refine jx_iload E dX5_worst_87 1 rfl ?_
          refine jx_iload E dX5_worst_89 5 rfl ?_
          refine jx_icmp_ge (tgt := 99) E dX5_worst_91 (by decide) (fun hc11 => ?_) (fun hc11 => ?_)
          · rw [if_pos hc11] at hF
            refine jx_iload E dX5_worst_99 5 rfl ?_
            refine jx_istore (lv' := [(4, .int x4), (3, .int x3), (6, .int r9), (0, .ref (ad 0)), (1, .int x1), (2, .int x2), (5, .int x5)]) E dX5_worst_101 (by decide) rfl ?_
            refine jx_iinc (y := (x5 + 1)) (lv' := [(5, .int (x5 + 1)), (4, .int x4), (3, .int x3), (6, .int r9), (0, .ref (ad 0)), (1, .int x1), (2, .int x2)]) E dX5_worst_103 6 rfl rfl (by decide) rfl ?_
            refine jx_goto (tgt := 49) E dX5_worst_106 (by decide) ?_
            refine jx_sub [4, 5, 6, 2, 1, 0] rfl ?_
            exact ih x1 x2 x3 x4 (x5 + 1) v9 hF
          · rw [if_neg hc11] at hF
            refine jx_iload E dX5_worst_94 1 rfl ?_
            refine jx_goto (tgt := 101) E dX5_worst_96 (by decide) ?_
            refine jx_istore (lv' := [(4, .int r9), (3, .int x3), (6, .int r9), (0, .ref (ad 0)), (1, .int x1), (2, .int x2), (5, .int x5)]) E dX5_worst_101 (by decide) rfl ?_
            refine jx_iinc (y := (x5 + 1)) (lv' := [(5, .int (x5 + 1)), (4, .int r9), (3, .int x3), (6, .int r9), (0, .ref (ad 0)), (1, .int x1), (2, .int x2)]) E dX5_worst_103 6 rfl rfl (by decide) rfl ?_
            refine jx_goto (tgt := 49) E dX5_worst_106 (by decide) ?_
            refine jx_sub [4, 5, 6, 2, 1, 0] rfl ?_
            exact ih x1 x2 x3 r9 (x5 + 1) v9 hF
        · rw [if_neg hc10] at hF
          refine jx_iload E dX5_worst_80 6 rfl ?_
          refine jx_goto (tgt := 86) E dX5_worst_82 (by decide) ?_
          refine jx_istore_n (lv' := [(3, .int x5), (6, .int r9), (0, .ref (ad 0)), (1, .int x1), (2, .int x2), (4, .int x4), (5, .int x5)]) E dX5_worst_86 (by decide) rfl ?_
          refine jx_iload E dX5_worst_87 1 rfl ?_
          refine jx_iload E dX5_worst_89 5 rfl ?_
          refine jx_icmp_ge (tgt := 99) E dX5_worst_91 (by decide) (fun hc12 => ?_) (fun hc12 => ?_)
          · rw [if_pos hc12] at hF
            refine jx_iload E dX5_worst_99 5 rfl ?_
            refine jx_istore (lv' := [(4, .int x4), (3, .int x5), (6, .int r9), (0, .ref (ad 0)), (1, .int x1), (2, .int x2), (5, .int x5)]) E dX5_worst_101 (by decide) rfl ?_
            refine jx_iinc (y := (x5 + 1)) (lv' := [(5, .int (x5 + 1)), (4, .int x4), (3, .int x5), (6, .int r9), (0, .ref (ad 0)), (1, .int x1), (2, .int x2)]) E dX5_worst_103 6 rfl rfl (by decide) rfl ?_
            refine jx_goto (tgt := 49) E dX5_worst_106 (by decide) ?_
            refine jx_sub [4, 5, 6, 2, 1, 0] rfl ?_
            exact ih x1 x2 x5 x4 (x5 + 1) v9 hF
          · rw [if_neg hc12] at hF
            refine jx_iload E dX5_worst_94 1 rfl ?_
            refine jx_goto (tgt := 101) E dX5_worst_96 (by decide) ?_
            refine jx_istore (lv' := [(4, .int r9), (3, .int x5), (6, .int r9), (0, .ref (ad 0)), (1, .int x1), (2, .int x2), (5, .int x5)]) E dX5_worst_101 (by decide) rfl ?_
            refine jx_iinc (y := (x5 + 1)) (lv' := [(5, .int (x5 + 1)), (4, .int r9), (3, .int x5), (6, .int r9), (0, .ref (ad 0)), (1, .int x1), (2, .int x2)]) E dX5_worst_103 6 rfl rfl (by decide) rfl ?_
            refine jx_goto (tgt := 49) E dX5_worst_106 (by decide) ?_
            refine jx_sub [4, 5, 6, 2, 1, 0] rfl ?_
            exact ih x1 x2 x5 r9 (x5 + 1) v9 hF
  refine jx_iload_n E dX5_worst_0 1 rfl ?_
  obtain ⟨⟨r1, v1⟩, hc1, hF⟩ := jx_bind hF
  try dsimp only at hF
  refine jx_callSi (As := [.int x1]) (st := []) E dX5_worst_1 1 rfl (k_X5_isOwner hI x1 v r1 v1 hc1) (gb_S (List.mem_cons_of_mem _ tw_351) (List.mem_cons_of_mem _ tw_352) (List.mem_cons_of_mem _ tw_325) tw_350) rfl rfl rfl dd_X5_isOwner rfl ⟨by decide, by decide⟩ ⟨Nat.le_refl 0, Nat.le_refl 0⟩ (Nat.le_of_ble_eq_true rfl) ?_
  refine jx_if_ne (tgt := 14) E dX5_worst_4 (by decide) (fun hc2 => ?_) (fun hc2 => ?_)
  · rw [if_neg hc2] at hF
    refine jx_aload_n E dX5_worst_14 0 rfl ?_
    refine jx_bipush (x := 11) E dX5_worst_15 (by decide) ?_
    obtain ⟨⟨r3, v3⟩, hc3, hF⟩ := jx_bind hF
    try dsimp only at hF
    refine jx_callVi (As := [.int 11]) (st := []) (h := 0) E dX5_worst_17 1 rfl (k_X5_isTooLate hI 11 v1 r3 v3 hc3) (gb_V (List.mem_cons_of_mem _ tw_449) (List.mem_cons_of_mem _ tw_450) (List.mem_cons_of_mem _ tw_451) (List.mem_cons_of_mem _ tw_325) tw_448) rfl rfl rfl dd_X5_isTooLate rfl (Nat.le_of_ble_eq_true rfl) s_M0 rfl ⟨by decide, by decide⟩ ⟨Nat.le_refl 0, Nat.le_refl 0⟩ (Nat.le_of_ble_eq_true rfl) ?_
    refine jx_if_eq (tgt := 30) E dX5_worst_20 (by decide) (fun hc4 => ?_) (fun hc4 => ?_)
    · rw [if_pos hc4] at hF
      refine jx_aload_n E dX5_worst_30 0 rfl ?_
      refine jx_getr (C := RX5) (T := TX5) (M := 21) (k := 0) E dX5_worst_31 (Nat.le_of_ble_eq_true rfl) s_M0 rfl iX5 (by decide) rfl (List.mem_cons_of_mem _ tw_328) rfl ?_
      refine jx_iconst (x := 0) E dX5_worst_34 (by decide) ?_
      refine jx_iald (h := 1) (j := 0) E dX5_worst_35 (Nat.le_of_ble_eq_true rfl) s_M1 (by decide) (by decide) ?_
      refine jx_istore_n (lv' := [(2, .int (v3 1 0)), (0, .ref (ad 0)), (1, .int x1)]) E dX5_worst_36 (by decide) rfl ?_
      refine jx_iconst (x := 0) E dX5_worst_37 (by decide) ?_
      refine jx_istore_n (lv' := [(3, .int 0), (2, .int (v3 1 0)), (0, .ref (ad 0)), (1, .int x1)]) E dX5_worst_38 (by decide) rfl ?_
      refine jx_aload_n E dX5_worst_39 2 rfl ?_
      refine jx_iload_n E dX5_worst_40 3 rfl ?_
      obtain ⟨⟨r5, v5⟩, hc5, hF⟩ := jx_bind hF
      try dsimp only at hF
      refine jx_callVi (As := [.int x1]) (st := []) (h := 0) E dX5_worst_41 1 rfl (k_X5_gainOf hI x1 v3 r5 v5 hc5) (gb_V (List.mem_cons_of_mem _ tw_436) (List.mem_cons_of_mem _ tw_437) (List.mem_cons_of_mem _ tw_438) (List.mem_cons_of_mem _ tw_325) tw_435) rfl rfl rfl dd_X5_gainOf rfl (Nat.le_of_ble_eq_true rfl) s_M0 rfl ⟨by decide, by decide⟩ ⟨Nat.le_refl 0, Nat.le_refl 0⟩ (Nat.le_of_ble_eq_true rfl) ?_
      refine jx_istore (lv' := [(4, .int r5), (3, .int 0), (2, .int (v3 1 0)), (0, .ref (ad 0)), (1, .int x1)]) E dX5_worst_44 (by decide) rfl ?_
      refine jx_iconst (x := 1) E dX5_worst_46 (by decide) ?_
      refine jx_istore (lv' := [(5, .int 1), (4, .int r5), (3, .int 0), (2, .int (v3 1 0)), (0, .ref (ad 0)), (1, .int x1)]) E dX5_worst_47 (by decide) rfl ?_
      refine jx_sub [4, 5, 3, 2, 1, 0] rfl ?_
      exact (key 100000) x1 (v3 1 0) 0 r5 1 v5 hF
    · rw [if_neg hc4] at hF
      refine jx_aload_n E dX5_worst_23 0 rfl ?_
      refine jx_ldc (x := -1000005) E dX5_worst_24 (List.mem_cons_of_mem _ tw_364) ?_
      obtain ⟨⟨r6, v6⟩, hc6, hF⟩ := jx_bind hF
      try dsimp only at hF
      refine jx_callVi (As := [.int (-1000005)]) (st := []) (h := 0) E dX5_worst_26 1 rfl (k_X5_finds hI (-1000005) v3 r6 v6 hc6) (gb_V (List.mem_cons_of_mem _ tw_344) (List.mem_cons_of_mem _ tw_345) (List.mem_cons_of_mem _ tw_346) (List.mem_cons_of_mem _ tw_325) tw_343) rfl rfl rfl dd_X5_finds rfl (Nat.le_of_ble_eq_true rfl) s_M0 rfl ⟨by decide, by decide⟩ ⟨Nat.le_refl 0, Nat.le_refl 0⟩ (Nat.le_of_ble_eq_true rfl) ?_
      obtain ⟨rfl, rfl⟩ := jx_out hF
      exact jx_iret E dX5_worst_29 rfl
  · rw [if_pos hc2] at hF
    refine jx_aload_n E dX5_worst_7 0 rfl ?_
    refine jx_ldc (x := -1000001) E dX5_worst_8 (List.mem_cons_of_mem _ tw_320) ?_
    obtain ⟨⟨r7, v7⟩, hc7, hF⟩ := jx_bind hF
    try dsimp only at hF
    refine jx_callVi (As := [.int (-1000001)]) (st := []) (h := 0) E dX5_worst_10 1 rfl (k_X5_finds hI (-1000001) v1 r7 v7 hc7) (gb_V (List.mem_cons_of_mem _ tw_344) (List.mem_cons_of_mem _ tw_345) (List.mem_cons_of_mem _ tw_346) (List.mem_cons_of_mem _ tw_325) tw_343) rfl rfl rfl dd_X5_finds rfl (Nat.le_of_ble_eq_true rfl) s_M0 rfl ⟨by decide, by decide⟩ ⟨Nat.le_refl 0, Nat.le_refl 0⟩ (Nat.le_of_ble_eq_true rfl) ?_
    obtain ⟨rfl, rfl⟩ := jx_out hF
    exact jx_iret E dX5_worst_13 rfl
def f_X5_isLowered (x1 : Int32) (x2 : Int32) (v : jx_V) : Option (Int32 × jx_V) := ((f_X5_isThing x1 v).bind (fun (r1, v1) => (if r1 = 0 then (some (0, v1)) else ((f_X5_its x1 1 v1).bind (fun (r3, v3) => (if r3 = x2 then ((f_X5_its x1 2 v3).bind (fun (r5, v5) => (if r5 ≤ 0 then (some (0, v5)) else (some (1, v5))))) else (some (0, v3))))))))
def rm_X5_isLowered : Room := { frames := 3, cells := 0, slots := 0, locals := 64 }
set_option maxHeartbeats 4000000 in
set_option maxRecDepth 100000 in
theorem k_X5_isLowered {l : Launch} {D : va_G} {cI cJ : ClassId} {ad : Nat → Nat} {A : Nat → Prop} (hI : jx_inj 13 ad A) (x1 : Int32) (x2 : Int32) (v : jx_V) (r : Int32) (v' : jx_V) (hF : f_X5_isLowered x1 x2 v = some (r, v')) : jx_Ci l D vwCl 13 cI cJ ad shM A ex_M yX5_isLowered (Cond.code yX5_isLowered cX5_isLowered 3 (some .boolean) :: bigT) rm_X5_isLowered [.ref (ad 0), .int x1, .int x2] v r v' := by
  unfold f_X5_isLowered at hF
  refine jx_enteri bigT RX5 cX5_isLowered 3 (some .boolean) [(0, .ref (ad 0)), (1, .int x1), (2, .int x2)] hI (ex_M_ok A) (by decide +kernel) rfl (Nat.le_of_ble_eq_true rfl) rfl rfl ?_
  intro p e s m args below meth c E
  refine jx_aload_n E dX5_isLowered_0 0 rfl ?_
  refine jx_iload_n E dX5_isLowered_1 1 rfl ?_
  obtain ⟨⟨r1, v1⟩, hc1, hF⟩ := jx_bind hF
  try dsimp only at hF
  refine jx_callVi (As := [.int x1]) (st := []) (h := 0) E dX5_isLowered_2 1 rfl (k_X5_isThing hI x1 v r1 v1 hc1) (gb_V (List.mem_cons_of_mem _ tw_339) (List.mem_cons_of_mem _ tw_340) (List.mem_cons_of_mem _ tw_341) (List.mem_cons_of_mem _ tw_325) tw_338) rfl rfl rfl dd_X5_isThing rfl (Nat.le_of_ble_eq_true rfl) s_M0 rfl ⟨by decide, by decide⟩ ⟨Nat.le_refl 0, Nat.le_refl 0⟩ (Nat.le_of_ble_eq_true rfl) ?_
  refine jx_if_eq (tgt := 31) E dX5_isLowered_5 (by decide) (fun hc2 => ?_) (fun hc2 => ?_)
  · rw [if_pos hc2] at hF
    refine jx_iconst (x := 0) E dX5_isLowered_31 (by decide) ?_
    obtain ⟨rfl, rfl⟩ := jx_out hF
    exact jx_zret E dX5_isLowered_32 rfl (Or.inl rfl)
  · rw [if_neg hc2] at hF
    refine jx_aload_n E dX5_isLowered_8 0 rfl ?_
    refine jx_iload_n E dX5_isLowered_9 1 rfl ?_
    refine jx_iconst (x := 1) E dX5_isLowered_10 (by decide) ?_
    obtain ⟨⟨r3, v3⟩, hc3, hF⟩ := jx_bind hF
    try dsimp only at hF
    refine jx_callVi (As := [.int x1, .int 1]) (st := []) (h := 0) E dX5_isLowered_11 2 rfl (k_X5_its hI x1 1 v1 r3 v3 hc3) (gb_V (List.mem_cons_of_mem _ tw_335) (List.mem_cons_of_mem _ tw_336) (List.mem_cons_of_mem _ tw_337) (List.mem_cons_of_mem _ tw_325) tw_334) rfl rfl rfl dd_X5_its rfl (Nat.le_of_ble_eq_true rfl) s_M0 rfl ⟨by decide, by decide⟩ ⟨Nat.le_refl 0, Nat.le_refl 0⟩ (Nat.le_of_ble_eq_true rfl) ?_
    refine jx_iload_n E dX5_isLowered_14 2 rfl ?_
    refine jx_icmp_ne (tgt := 31) E dX5_isLowered_15 (by decide) (fun hc4 => ?_) (fun hc4 => ?_)
    · rw [if_neg hc4] at hF
      refine jx_iconst (x := 0) E dX5_isLowered_31 (by decide) ?_
      obtain ⟨rfl, rfl⟩ := jx_out hF
      exact jx_zret E dX5_isLowered_32 rfl (Or.inl rfl)
    · rw [if_pos hc4] at hF
      refine jx_aload_n E dX5_isLowered_18 0 rfl ?_
      refine jx_iload_n E dX5_isLowered_19 1 rfl ?_
      refine jx_iconst (x := 2) E dX5_isLowered_20 (by decide) ?_
      obtain ⟨⟨r5, v5⟩, hc5, hF⟩ := jx_bind hF
      try dsimp only at hF
      refine jx_callVi (As := [.int x1, .int 2]) (st := []) (h := 0) E dX5_isLowered_21 2 rfl (k_X5_its hI x1 2 v3 r5 v5 hc5) (gb_V (List.mem_cons_of_mem _ tw_335) (List.mem_cons_of_mem _ tw_336) (List.mem_cons_of_mem _ tw_337) (List.mem_cons_of_mem _ tw_325) tw_334) rfl rfl rfl dd_X5_its rfl (Nat.le_of_ble_eq_true rfl) s_M0 rfl ⟨by decide, by decide⟩ ⟨Nat.le_refl 0, Nat.le_refl 0⟩ (Nat.le_of_ble_eq_true rfl) ?_
      refine jx_if_le (tgt := 31) E dX5_isLowered_24 (by decide) (fun hc6 => ?_) (fun hc6 => ?_)
      · rw [if_pos hc6] at hF
        refine jx_iconst (x := 0) E dX5_isLowered_31 (by decide) ?_
        obtain ⟨rfl, rfl⟩ := jx_out hF
        exact jx_zret E dX5_isLowered_32 rfl (Or.inl rfl)
      · rw [if_neg hc6] at hF
        refine jx_iconst (x := 1) E dX5_isLowered_27 (by decide) ?_
        refine jx_goto (tgt := 32) E dX5_isLowered_28 (by decide) ?_
        obtain ⟨rfl, rfl⟩ := jx_out hF
        exact jx_zret E dX5_isLowered_32 rfl (Or.inr rfl)
def f_X5_trade_L  : Nat → Nat → Int32 → Int32 → Int32 → Int32 → Int32 → Int32 → Int32 → jx_V → Option (Int32 × jx_V)
  | 0, _, _, _, _, _, _, _, _, _ => none
  | n + 1, tag, x1, x2, x3, x4, x5, x6, x7, v => (if tag = 0 then (if 25 ≤ x6 then (if 0 ≤ x5 then (some (x5, v)) else ((f_X5_finds (-1000004) v).bind (fun (r13, v13) => (some (r13, v13))))) else (if 0 ≤ x5 then (if 0 ≤ x5 then (some (x5, v)) else ((f_X5_finds (-1000004) v).bind (fun (r16, v16) => (some (r16, v16))))) else (f_X5_trade_L n 1 x1 x2 x3 x4 x5 x6 0 v))) else (if tag = 1 then (if 25 ≤ x7 then (f_X5_trade_L n 0 x1 x2 x3 x4 x5 (x6 + 1) 0 v) else (if 0 ≤ x5 then (f_X5_trade_L n 0 x1 x2 x3 x4 x5 (x6 + 1) 0 v) else ((f_X5_isLowered x6 x1 v).bind (fun (r19, v19) => (if r19 = 0 then (f_X5_trade_L n 1 x1 x2 x3 x4 x5 x6 (x7 + 1) v19) else ((f_X5_isLowered x7 x2 v19).bind (fun (r21, v21) => (if r21 = 0 then (f_X5_trade_L n 1 x1 x2 x3 x4 x5 x6 (x7 + 1) v21) else ((f_X5_at x6 2 v21).bind (fun (r23, v23) => (if (r23 < 0 ∨ 181 ≤ Int32.toNatClampNeg r23) then none else (if (r23 < 0 ∨ 181 ≤ Int32.toNatClampNeg r23) then none else ((f_X5_at x7 2 (jx_up v23 1 (Int32.toNatClampNeg r23) ((v23 1 (Int32.toNatClampNeg r23)) - 1))).bind (fun (r26, v26) => (if (r26 < 0 ∨ 181 ≤ Int32.toNatClampNeg r26) then none else (if (r26 < 0 ∨ 181 ≤ Int32.toNatClampNeg r26) then none else ((f_X5_gainOf x1 (jx_up v26 1 (Int32.toNatClampNeg r26) ((v26 1 (Int32.toNatClampNeg r26)) - 1))).bind (fun (r29, v29) => (if r29 ≤ x3 then ((f_X5_at x6 2 v29).bind (fun (r31, v31) => (if (r31 < 0 ∨ 181 ≤ Int32.toNatClampNeg r31) then none else (if (r31 < 0 ∨ 181 ≤ Int32.toNatClampNeg r31) then none else ((f_X5_at x7 2 (jx_up v31 1 (Int32.toNatClampNeg r31) ((v31 1 (Int32.toNatClampNeg r31)) + 1))).bind (fun (r34, v34) => (if (r34 < 0 ∨ 181 ≤ Int32.toNatClampNeg r34) then none else (if (r34 < 0 ∨ 181 ≤ Int32.toNatClampNeg r34) then none else (f_X5_trade_L n 1 x1 x2 x3 x4 (-1) x6 (x7 + 1) (jx_up v34 1 (Int32.toNatClampNeg r34) ((v34 1 (Int32.toNatClampNeg r34)) + 1))))))))))) else (if (x2 < 0 ∨ 4 ≤ Int32.toNatClampNeg x2) then none else (if (v29 6 (Int32.toNatClampNeg x2)) ≤ x4 then ((f_X5_at x6 2 v29).bind (fun (r39, v39) => (if (r39 < 0 ∨ 181 ≤ Int32.toNatClampNeg r39) then none else (if (r39 < 0 ∨ 181 ≤ Int32.toNatClampNeg r39) then none else ((f_X5_at x7 2 (jx_up v39 1 (Int32.toNatClampNeg r39) ((v39 1 (Int32.toNatClampNeg r39)) + 1))).bind (fun (r42, v42) => (if (r42 < 0 ∨ 181 ≤ Int32.toNatClampNeg r42) then none else (if (r42 < 0 ∨ 181 ≤ Int32.toNatClampNeg r42) then none else (f_X5_trade_L n 1 x1 x2 x3 x4 (-1) x6 (x7 + 1) (jx_up v42 1 (Int32.toNatClampNeg r42) ((v42 1 (Int32.toNatClampNeg r42)) + 1))))))))))) else ((f_X5_at x6 2 v29).bind (fun (r45, v45) => (if (r45 < 0 ∨ 181 ≤ Int32.toNatClampNeg r45) then none else (if (r45 < 0 ∨ 181 ≤ Int32.toNatClampNeg r45) then none else ((f_X5_at x7 2 (jx_up v45 1 (Int32.toNatClampNeg r45) ((v45 1 (Int32.toNatClampNeg r45)) + 1))).bind (fun (r48, v48) => (if (r48 < 0 ∨ 181 ≤ Int32.toNatClampNeg r48) then none else (if (r48 < 0 ∨ 181 ≤ Int32.toNatClampNeg r48) then none else (f_X5_trade_L n 1 x1 x2 x3 x4 ((100 * x6) + x7) x6 (x7 + 1) (jx_up v48 1 (Int32.toNatClampNeg r48) ((v48 1 (Int32.toNatClampNeg r48)) + 1)))))))))))))))))))))))))))))))) else none))
def f_X5_trade (x1 : Int32) (x2 : Int32) (v : jx_V) : Option (Int32 × jx_V) := ((f_X5_isOwner x1 v).bind (fun (r1, v1) => (if r1 = 0 then ((f_X5_finds (-1000001) v1).bind (fun (r3, v3) => (some (r3, v3)))) else ((f_X5_isOwner x2 v1).bind (fun (r4, v4) => (if r4 = 0 then ((f_X5_finds (-1000001) v4).bind (fun (r6, v6) => (some (r6, v6)))) else (if x1 = x2 then ((f_X5_finds (-1000001) v4).bind (fun (r10, v10) => (some (r10, v10)))) else ((f_X5_gainOf x1 v4).bind (fun (r8, v8) => (if (x2 < 0 ∨ 4 ≤ Int32.toNatClampNeg x2) then none else (f_X5_trade_L 100000 0 x1 x2 r8 (v8 6 (Int32.toNatClampNeg x2)) (-1) 0 0 v8)))))))))))
def rm_X5_trade : Room := { frames := 7, cells := 0, slots := 0, locals := 169 }
set_option maxHeartbeats 4000000 in
set_option maxRecDepth 100000 in
theorem k_X5_trade {l : Launch} {D : va_G} {cI cJ : ClassId} {ad : Nat → Nat} {A : Nat → Prop} (hI : jx_inj 13 ad A) (x1 : Int32) (x2 : Int32) (v : jx_V) (r : Int32) (v' : jx_V) (hF : f_X5_trade x1 x2 v = some (r, v')) : jx_Ci l D vwCl 13 cI cJ ad shM A ex_M yX5_trade (Cond.code yX5_trade cX5_trade 8 (some .int) :: bigT) rm_X5_trade [.ref (ad 0), .int x1, .int x2] v r v' := by
  unfold f_X5_trade at hF
  refine jx_enteri bigT RX5 cX5_trade 8 (some .int) [(0, .ref (ad 0)), (1, .int x1), (2, .int x2)] hI (ex_M_ok A) (by decide +kernel) rfl (Nat.le_of_ble_eq_true rfl) rfl rfl ?_
  intro p e s m args below meth c E
  have iX5 : ∀ w ∈ u_ws RX5 TX5 21, w ∈ (Cond.code yX5_trade cX5_trade 8 (some .int) :: bigT) := fun w h => List.mem_cons_of_mem _ (uw_X5 w h)
  have key : ∀ n : Nat, (∀ (x1 : Int32) (x2 : Int32) (x3 : Int32) (x4 : Int32) (x5 : Int32) (x6 : Int32) (v : jx_V), f_X5_trade_L  n 0 x1 x2 x3 x4 x5 x6 0 v = some (r, v') → jx_J p l e rm_X5_trade s m args below meth c D vwCl 13 cI cJ ad shM A 0 0 8 (MQ below (va_Qi (fun (r1 : Int32) (_ : Unit) => r1 = r) (fun _ t => va_P D vwCl (jx_ws 13 cI cJ ad shM v') t.heap) A) args s 0 0 A) v 46 [(0, .ref (ad 0)), (1, .int x1), (2, .int x2), (3, .int x3), (4, .int x4), (5, .int x5), (6, .int x6)] []) ∧ (∀ (x1 : Int32) (x2 : Int32) (x3 : Int32) (x4 : Int32) (x5 : Int32) (x6 : Int32) (x7 : Int32) (v : jx_V), f_X5_trade_L  n 1 x1 x2 x3 x4 x5 x6 x7 v = some (r, v') → jx_J p l e rm_X5_trade s m args below meth c D vwCl 13 cI cJ ad shM A 0 0 8 (MQ below (va_Qi (fun (r1 : Int32) (_ : Unit) => r1 = r) (fun _ t => va_P D vwCl (jx_ws 13 cI cJ ad shM v') t.heap) A) args s 0 0 A) v 61 [(0, .ref (ad 0)), (1, .int x1), (2, .int x2), (3, .int x3), (4, .int x4), (5, .int x5), (6, .int x6), (7, .int x7)] []) := by
    intro n
    induction n with
    | zero =>
      exact ⟨(fun _ _ _ _ _ _ _ h => by cases h), (fun _ _ _ _ _ _ _ _ h => by cases h)⟩
    | succ n ih =>
      refine ⟨?_, ?_⟩
      · intro x1 x2 x3 x4 x5 x6 v hF
        rw [f_X5_trade_L] at hF
        rw [if_pos rfl] at hF
        refine jx_iload E dX5_trade_46 6 rfl ?_
        refine jx_bipush (x := 25) E dX5_trade_48 (by decide) ?_
        refine jx_icmp_ge (tgt := 199) E dX5_trade_50 (by decide) (fun hc11 => ?_) (fun hc11 => ?_)
        · rw [if_pos hc11] at hF
          refine jx_iload E dX5_trade_199 5 rfl ?_
          refine jx_if_ge (tgt := 213) E dX5_trade_201 (by decide) (fun hc12 => ?_) (fun hc12 => ?_)
          · rw [if_pos hc12] at hF
            refine jx_iload E dX5_trade_213 5 rfl ?_
            obtain ⟨rfl, rfl⟩ := jx_out hF
            exact jx_iret E dX5_trade_215 rfl
          · rw [if_neg hc12] at hF
            refine jx_aload_n E dX5_trade_204 0 rfl ?_
            refine jx_ldc (x := -1000004) E dX5_trade_205 (List.mem_cons_of_mem _ tw_365) ?_
            obtain ⟨⟨r13, v13⟩, hc13, hF⟩ := jx_bind hF
            try dsimp only at hF
            refine jx_callVi (As := [.int (-1000004)]) (st := []) (h := 0) E dX5_trade_207 1 rfl (k_X5_finds hI (-1000004) v r13 v13 hc13) (gb_V (List.mem_cons_of_mem _ tw_344) (List.mem_cons_of_mem _ tw_345) (List.mem_cons_of_mem _ tw_346) (List.mem_cons_of_mem _ tw_325) tw_343) rfl rfl rfl dd_X5_finds rfl (Nat.le_of_ble_eq_true rfl) s_M0 rfl ⟨by decide, by decide⟩ ⟨Nat.le_refl 0, Nat.le_refl 0⟩ (Nat.le_of_ble_eq_true rfl) ?_
            refine jx_goto (tgt := 215) E dX5_trade_210 (by decide) ?_
            obtain ⟨rfl, rfl⟩ := jx_out hF
            exact jx_iret E dX5_trade_215 rfl
        · rw [if_neg hc11] at hF
          refine jx_iload E dX5_trade_53 5 rfl ?_
          refine jx_if_ge (tgt := 199) E dX5_trade_55 (by decide) (fun hc14 => ?_) (fun hc14 => ?_)
          · rw [if_pos hc14] at hF
            refine jx_iload E dX5_trade_199 5 rfl ?_
            refine jx_if_ge (tgt := 213) E dX5_trade_201 (by decide) (fun hc15 => ?_) (fun hc15 => ?_)
            · rw [if_pos hc15] at hF
              refine jx_iload E dX5_trade_213 5 rfl ?_
              obtain ⟨rfl, rfl⟩ := jx_out hF
              exact jx_iret E dX5_trade_215 rfl
            · rw [if_neg hc15] at hF
              refine jx_aload_n E dX5_trade_204 0 rfl ?_
              refine jx_ldc (x := -1000004) E dX5_trade_205 (List.mem_cons_of_mem _ tw_365) ?_
              obtain ⟨⟨r16, v16⟩, hc16, hF⟩ := jx_bind hF
              try dsimp only at hF
              refine jx_callVi (As := [.int (-1000004)]) (st := []) (h := 0) E dX5_trade_207 1 rfl (k_X5_finds hI (-1000004) v r16 v16 hc16) (gb_V (List.mem_cons_of_mem _ tw_344) (List.mem_cons_of_mem _ tw_345) (List.mem_cons_of_mem _ tw_346) (List.mem_cons_of_mem _ tw_325) tw_343) rfl rfl rfl dd_X5_finds rfl (Nat.le_of_ble_eq_true rfl) s_M0 rfl ⟨by decide, by decide⟩ ⟨Nat.le_refl 0, Nat.le_refl 0⟩ (Nat.le_of_ble_eq_true rfl) ?_
              refine jx_goto (tgt := 215) E dX5_trade_210 (by decide) ?_
              obtain ⟨rfl, rfl⟩ := jx_out hF
              exact jx_iret E dX5_trade_215 rfl
          · rw [if_neg hc14] at hF
            refine jx_iconst (x := 0) E dX5_trade_58 (by decide) ?_
            refine jx_istore (lv' := [(7, .int 0), (0, .ref (ad 0)), (1, .int x1), (2, .int x2), (3, .int x3), (4, .int x4), (5, .int x5), (6, .int x6)]) E dX5_trade_59 (by decide) rfl ?_
            refine jx_sub [1, 2, 3, 4, 5, 6, 7, 0] rfl ?_
            exact ih.2 x1 x2 x3 x4 x5 x6 0 v hF
      · intro x1 x2 x3 x4 x5 x6 x7 v hF
        rw [f_X5_trade_L] at hF
        rw [if_neg (by decide), if_pos rfl] at hF
        refine jx_iload E dX5_trade_61 7 rfl ?_
        refine jx_bipush (x := 25) E dX5_trade_63 (by decide) ?_
        refine jx_icmp_ge (tgt := 193) E dX5_trade_65 (by decide) (fun hc17 => ?_) (fun hc17 => ?_)
        · rw [if_pos hc17] at hF
          refine jx_iinc (y := (x6 + 1)) (lv' := [(6, .int (x6 + 1)), (0, .ref (ad 0)), (1, .int x1), (2, .int x2), (3, .int x3), (4, .int x4), (5, .int x5), (7, .int x7)]) E dX5_trade_193 6 rfl rfl (by decide) rfl ?_
          refine jx_goto (tgt := 46) E dX5_trade_196 (by decide) ?_
          refine jx_sub [1, 2, 3, 4, 5, 6, 0] rfl ?_
          exact ih.1 x1 x2 x3 x4 x5 (x6 + 1) v hF
        · rw [if_neg hc17] at hF
          refine jx_iload E dX5_trade_68 5 rfl ?_
          refine jx_if_ge (tgt := 193) E dX5_trade_70 (by decide) (fun hc18 => ?_) (fun hc18 => ?_)
          · rw [if_pos hc18] at hF
            refine jx_iinc (y := (x6 + 1)) (lv' := [(6, .int (x6 + 1)), (0, .ref (ad 0)), (1, .int x1), (2, .int x2), (3, .int x3), (4, .int x4), (5, .int x5), (7, .int x7)]) E dX5_trade_193 6 rfl rfl (by decide) rfl ?_
            refine jx_goto (tgt := 46) E dX5_trade_196 (by decide) ?_
            refine jx_sub [1, 2, 3, 4, 5, 6, 0] rfl ?_
            exact ih.1 x1 x2 x3 x4 x5 (x6 + 1) v hF
          · rw [if_neg hc18] at hF
            refine jx_aload_n E dX5_trade_73 0 rfl ?_
            refine jx_iload E dX5_trade_74 6 rfl ?_
            refine jx_iload_n E dX5_trade_76 1 rfl ?_
            obtain ⟨⟨r19, v19⟩, hc19, hF⟩ := jx_bind hF
            try dsimp only at hF
            refine jx_callVi (As := [.int x6, .int x1]) (st := []) (h := 0) E dX5_trade_77 2 rfl (k_X5_isLowered hI x6 x1 v r19 v19 hc19) (gb_V (List.mem_cons_of_mem _ tw_486) (List.mem_cons_of_mem _ tw_487) (List.mem_cons_of_mem _ tw_488) (List.mem_cons_of_mem _ tw_325) tw_485) rfl rfl rfl dd_X5_isLowered rfl (Nat.le_of_ble_eq_true rfl) s_M0 rfl ⟨by decide, by decide⟩ ⟨Nat.le_refl 0, Nat.le_refl 0⟩ (Nat.le_of_ble_eq_true rfl) ?_
            refine jx_if_eq (tgt := 187) E dX5_trade_80 (by decide) (fun hc20 => ?_) (fun hc20 => ?_)
            · rw [if_pos hc20] at hF
              refine jx_iinc (y := (x7 + 1)) (lv' := [(7, .int (x7 + 1)), (0, .ref (ad 0)), (1, .int x1), (2, .int x2), (3, .int x3), (4, .int x4), (5, .int x5), (6, .int x6)]) E dX5_trade_187 7 rfl rfl (by decide) rfl ?_
              refine jx_goto (tgt := 61) E dX5_trade_190 (by decide) ?_
              refine jx_sub [1, 2, 3, 4, 5, 6, 7, 0] rfl ?_
              exact ih.2 x1 x2 x3 x4 x5 x6 (x7 + 1) v19 hF
            · rw [if_neg hc20] at hF
              refine jx_aload_n E dX5_trade_83 0 rfl ?_
              refine jx_iload E dX5_trade_84 7 rfl ?_
              refine jx_iload_n E dX5_trade_86 2 rfl ?_
              obtain ⟨⟨r21, v21⟩, hc21, hF⟩ := jx_bind hF
              try dsimp only at hF
              refine jx_callVi (As := [.int x7, .int x2]) (st := []) (h := 0) E dX5_trade_87 2 rfl (k_X5_isLowered hI x7 x2 v19 r21 v21 hc21) (gb_V (List.mem_cons_of_mem _ tw_486) (List.mem_cons_of_mem _ tw_487) (List.mem_cons_of_mem _ tw_488) (List.mem_cons_of_mem _ tw_325) tw_485) rfl rfl rfl dd_X5_isLowered rfl (Nat.le_of_ble_eq_true rfl) s_M0 rfl ⟨by decide, by decide⟩ ⟨Nat.le_refl 0, Nat.le_refl 0⟩ (Nat.le_of_ble_eq_true rfl) ?_
              refine jx_if_eq (tgt := 187) E dX5_trade_90 (by decide) (fun hc22 => ?_) (fun hc22 => ?_)
              · rw [if_pos hc22] at hF
                refine jx_iinc (y := (x7 + 1)) (lv' := [(7, .int (x7 + 1)), (0, .ref (ad 0)), (1, .int x1), (2, .int x2), (3, .int x3), (4, .int x4), (5, .int x5), (6, .int x6)]) E dX5_trade_187 7 rfl rfl (by decide) rfl ?_
                refine jx_goto (tgt := 61) E dX5_trade_190 (by decide) ?_
                refine jx_sub [1, 2, 3, 4, 5, 6, 7, 0] rfl ?_
                exact ih.2 x1 x2 x3 x4 x5 x6 (x7 + 1) v21 hF
              · rw [if_neg hc22] at hF
                refine jx_aload_n E dX5_trade_93 0 rfl ?_
                refine jx_getr (C := RX5) (T := TX5) (M := 21) (k := 0) E dX5_trade_94 (Nat.le_of_ble_eq_true rfl) s_M0 rfl iX5 (by decide) rfl (List.mem_cons_of_mem _ tw_328) rfl ?_
                refine jx_iload E dX5_trade_97 6 rfl ?_
                refine jx_iconst (x := 2) E dX5_trade_99 (by decide) ?_
                obtain ⟨⟨r23, v23⟩, hc23, hF⟩ := jx_bind hF
                try dsimp only at hF
                refine jx_callSi (As := [.int x6, .int 2]) (st := [.ref (ad 1)]) E dX5_trade_100 2 rfl (k_X5_at hI x6 2 v21 r23 v23 hc23) (gb_S (List.mem_cons_of_mem _ tw_332) (List.mem_cons_of_mem _ tw_333) (List.mem_cons_of_mem _ tw_325) tw_331) rfl rfl rfl dd_X5_at rfl ⟨by decide, by decide⟩ ⟨Nat.le_refl 0, Nat.le_refl 0⟩ (Nat.le_of_ble_eq_true rfl) ?_
                refine jx_dup2 E dX5_trade_103 rfl rfl ?_
                obtain ⟨hg24, hF⟩ := jx_guard hF
                refine jx_iald (h := 1) (j := (Int32.toNatClampNeg r23)) E dX5_trade_104 (Nat.le_of_ble_eq_true rfl) s_M1 hg24 rfl ?_
                refine jx_iconst (x := 1) E dX5_trade_105 (by decide) ?_
                refine jx_isub E dX5_trade_106 ?_
                obtain ⟨hg25, hF⟩ := jx_guard hF
                refine jx_iast (h := 1) (j := (Int32.toNatClampNeg r23)) E dX5_trade_107 (Nat.le_of_ble_eq_true rfl) s_M1 hg25 rfl ?_
                refine jx_aload_n E dX5_trade_108 0 rfl ?_
                refine jx_getr (C := RX5) (T := TX5) (M := 21) (k := 0) E dX5_trade_109 (Nat.le_of_ble_eq_true rfl) s_M0 rfl iX5 (by decide) rfl (List.mem_cons_of_mem _ tw_328) rfl ?_
                refine jx_iload E dX5_trade_112 7 rfl ?_
                refine jx_iconst (x := 2) E dX5_trade_114 (by decide) ?_
                obtain ⟨⟨r26, v26⟩, hc26, hF⟩ := jx_bind hF
                try dsimp only at hF
                refine jx_callSi (As := [.int x7, .int 2]) (st := [.ref (ad 1)]) E dX5_trade_115 2 rfl (k_X5_at hI x7 2 (jx_up v23 1 (Int32.toNatClampNeg r23) ((v23 1 (Int32.toNatClampNeg r23)) - 1)) r26 v26 hc26) (gb_S (List.mem_cons_of_mem _ tw_332) (List.mem_cons_of_mem _ tw_333) (List.mem_cons_of_mem _ tw_325) tw_331) rfl rfl rfl dd_X5_at rfl ⟨by decide, by decide⟩ ⟨Nat.le_refl 0, Nat.le_refl 0⟩ (Nat.le_of_ble_eq_true rfl) ?_
                refine jx_dup2 E dX5_trade_118 rfl rfl ?_
                obtain ⟨hg27, hF⟩ := jx_guard hF
                refine jx_iald (h := 1) (j := (Int32.toNatClampNeg r26)) E dX5_trade_119 (Nat.le_of_ble_eq_true rfl) s_M1 hg27 rfl ?_
                refine jx_iconst (x := 1) E dX5_trade_120 (by decide) ?_
                refine jx_isub E dX5_trade_121 ?_
                obtain ⟨hg28, hF⟩ := jx_guard hF
                refine jx_iast (h := 1) (j := (Int32.toNatClampNeg r26)) E dX5_trade_122 (Nat.le_of_ble_eq_true rfl) s_M1 hg28 rfl ?_
                refine jx_aload_n E dX5_trade_123 0 rfl ?_
                refine jx_iload_n E dX5_trade_124 1 rfl ?_
                obtain ⟨⟨r29, v29⟩, hc29, hF⟩ := jx_bind hF
                try dsimp only at hF
                refine jx_callVi (As := [.int x1]) (st := []) (h := 0) E dX5_trade_125 1 rfl (k_X5_gainOf hI x1 (jx_up v26 1 (Int32.toNatClampNeg r26) ((v26 1 (Int32.toNatClampNeg r26)) - 1)) r29 v29 hc29) (gb_V (List.mem_cons_of_mem _ tw_436) (List.mem_cons_of_mem _ tw_437) (List.mem_cons_of_mem _ tw_438) (List.mem_cons_of_mem _ tw_325) tw_435) rfl rfl rfl dd_X5_gainOf rfl (Nat.le_of_ble_eq_true rfl) s_M0 rfl ⟨by decide, by decide⟩ ⟨Nat.le_refl 0, Nat.le_refl 0⟩ (Nat.le_of_ble_eq_true rfl) ?_
                refine jx_iload_n E dX5_trade_128 3 rfl ?_
                refine jx_icmp_le (tgt := 154) E dX5_trade_129 (by decide) (fun hc30 => ?_) (fun hc30 => ?_)
                · rw [if_pos hc30] at hF
                  refine jx_iconst (x := -1) E dX5_trade_154 (by decide) ?_
                  refine jx_istore (lv' := [(5, .int (-1)), (0, .ref (ad 0)), (1, .int x1), (2, .int x2), (3, .int x3), (4, .int x4), (6, .int x6), (7, .int x7)]) E dX5_trade_155 (by decide) rfl ?_
                  refine jx_aload_n E dX5_trade_157 1 rfl ?_
                  refine jx_getr (C := RX5) (T := TX5) (M := 21) (k := 0) E dX5_trade_158 (Nat.le_of_ble_eq_true rfl) s_M0 rfl iX5 (by decide) rfl (List.mem_cons_of_mem _ tw_328) rfl ?_
                  refine jx_iload E dX5_trade_161 6 rfl ?_
                  refine jx_iconst (x := 2) E dX5_trade_163 (by decide) ?_
                  obtain ⟨⟨r31, v31⟩, hc31, hF⟩ := jx_bind hF
                  try dsimp only at hF
                  refine jx_callSi (As := [.int x6, .int 2]) (st := [.ref (ad 1)]) E dX5_trade_164 2 rfl (k_X5_at hI x6 2 v29 r31 v31 hc31) (gb_S (List.mem_cons_of_mem _ tw_332) (List.mem_cons_of_mem _ tw_333) (List.mem_cons_of_mem _ tw_325) tw_331) rfl rfl rfl dd_X5_at rfl ⟨by decide, by decide⟩ ⟨Nat.le_refl 0, Nat.le_refl 0⟩ (Nat.le_of_ble_eq_true rfl) ?_
                  refine jx_dup2 E dX5_trade_167 rfl rfl ?_
                  obtain ⟨hg32, hF⟩ := jx_guard hF
                  refine jx_iald (h := 1) (j := (Int32.toNatClampNeg r31)) E dX5_trade_168 (Nat.le_of_ble_eq_true rfl) s_M1 hg32 rfl ?_
                  refine jx_iconst (x := 1) E dX5_trade_169 (by decide) ?_
                  refine jx_iadd E dX5_trade_170 ?_
                  obtain ⟨hg33, hF⟩ := jx_guard hF
                  refine jx_iast (h := 1) (j := (Int32.toNatClampNeg r31)) E dX5_trade_171 (Nat.le_of_ble_eq_true rfl) s_M1 hg33 rfl ?_
                  refine jx_aload_n E dX5_trade_172 1 rfl ?_
                  refine jx_getr (C := RX5) (T := TX5) (M := 21) (k := 0) E dX5_trade_173 (Nat.le_of_ble_eq_true rfl) s_M0 rfl iX5 (by decide) rfl (List.mem_cons_of_mem _ tw_328) rfl ?_
                  refine jx_iload E dX5_trade_176 7 rfl ?_
                  refine jx_iconst (x := 2) E dX5_trade_178 (by decide) ?_
                  obtain ⟨⟨r34, v34⟩, hc34, hF⟩ := jx_bind hF
                  try dsimp only at hF
                  refine jx_callSi (As := [.int x7, .int 2]) (st := [.ref (ad 1)]) E dX5_trade_179 2 rfl (k_X5_at hI x7 2 (jx_up v31 1 (Int32.toNatClampNeg r31) ((v31 1 (Int32.toNatClampNeg r31)) + 1)) r34 v34 hc34) (gb_S (List.mem_cons_of_mem _ tw_332) (List.mem_cons_of_mem _ tw_333) (List.mem_cons_of_mem _ tw_325) tw_331) rfl rfl rfl dd_X5_at rfl ⟨by decide, by decide⟩ ⟨Nat.le_refl 0, Nat.le_refl 0⟩ (Nat.le_of_ble_eq_true rfl) ?_
                  refine jx_dup2 E dX5_trade_182 rfl rfl ?_
                  obtain ⟨hg35, hF⟩ := jx_guard hF
                  refine jx_iald (h := 1) (j := (Int32.toNatClampNeg r34)) E dX5_trade_183 (Nat.le_of_ble_eq_true rfl) s_M1 hg35 rfl ?_
                  refine jx_iconst (x := 1) E dX5_trade_184 (by decide) ?_
                  refine jx_iadd E dX5_trade_185 ?_
                  obtain ⟨hg36, hF⟩ := jx_guard hF
                  refine jx_iast (h := 1) (j := (Int32.toNatClampNeg r34)) E dX5_trade_186 (Nat.le_of_ble_eq_true rfl) s_M1 hg36 rfl ?_
                  refine jx_iinc (y := (x7 + 1)) (lv' := [(7, .int (x7 + 1)), (5, .int (-1)), (0, .ref (ad 0)), (1, .int x1), (2, .int x2), (3, .int x3), (4, .int x4), (6, .int x6)]) E dX5_trade_187 7 rfl rfl (by decide) rfl ?_
                  refine jx_goto (tgt := 61) E dX5_trade_190 (by decide) ?_
                  refine jx_sub [2, 3, 4, 5, 6, 1, 7, 0] rfl ?_
                  exact ih.2 x1 x2 x3 x4 (-1) x6 (x7 + 1) (jx_up v34 1 (Int32.toNatClampNeg r34) ((v34 1 (Int32.toNatClampNeg r34)) + 1)) hF
                · rw [if_neg hc30] at hF
                  refine jx_aload_n E dX5_trade_132 0 rfl ?_
                  refine jx_getr (C := RX5) (T := TX5) (M := 21) (k := 9) E dX5_trade_133 (Nat.le_of_ble_eq_true rfl) s_M0 rfl iX5 (by decide) rfl (List.mem_cons_of_mem _ tw_420) rfl ?_
                  refine jx_iload_n E dX5_trade_136 2 rfl ?_
                  obtain ⟨hg37, hF⟩ := jx_guard hF
                  refine jx_iald (h := 6) (j := (Int32.toNatClampNeg x2)) E dX5_trade_137 (Nat.le_of_ble_eq_true rfl) s_M6 hg37 rfl ?_
                  refine jx_iload E dX5_trade_138 4 rfl ?_
                  refine jx_icmp_le (tgt := 154) E dX5_trade_140 (by decide) (fun hc38 => ?_) (fun hc38 => ?_)
                  · rw [if_pos hc38] at hF
                    refine jx_iconst (x := -1) E dX5_trade_154 (by decide) ?_
                    refine jx_istore (lv' := [(5, .int (-1)), (0, .ref (ad 0)), (1, .int x1), (2, .int x2), (3, .int x3), (4, .int x4), (6, .int x6), (7, .int x7)]) E dX5_trade_155 (by decide) rfl ?_
                    refine jx_aload_n E dX5_trade_157 1 rfl ?_
                    refine jx_getr (C := RX5) (T := TX5) (M := 21) (k := 0) E dX5_trade_158 (Nat.le_of_ble_eq_true rfl) s_M0 rfl iX5 (by decide) rfl (List.mem_cons_of_mem _ tw_328) rfl ?_
                    refine jx_iload E dX5_trade_161 6 rfl ?_
                    refine jx_iconst (x := 2) E dX5_trade_163 (by decide) ?_
                    obtain ⟨⟨r39, v39⟩, hc39, hF⟩ := jx_bind hF
                    try dsimp only at hF
                    refine jx_callSi (As := [.int x6, .int 2]) (st := [.ref (ad 1)]) E dX5_trade_164 2 rfl (k_X5_at hI x6 2 v29 r39 v39 hc39) (gb_S (List.mem_cons_of_mem _ tw_332) (List.mem_cons_of_mem _ tw_333) (List.mem_cons_of_mem _ tw_325) tw_331) rfl rfl rfl dd_X5_at rfl ⟨by decide, by decide⟩ ⟨Nat.le_refl 0, Nat.le_refl 0⟩ (Nat.le_of_ble_eq_true rfl) ?_
                    refine jx_dup2 E dX5_trade_167 rfl rfl ?_
                    obtain ⟨hg40, hF⟩ := jx_guard hF
                    refine jx_iald (h := 1) (j := (Int32.toNatClampNeg r39)) E dX5_trade_168 (Nat.le_of_ble_eq_true rfl) s_M1 hg40 rfl ?_
                    refine jx_iconst (x := 1) E dX5_trade_169 (by decide) ?_
                    refine jx_iadd E dX5_trade_170 ?_
                    obtain ⟨hg41, hF⟩ := jx_guard hF
                    refine jx_iast (h := 1) (j := (Int32.toNatClampNeg r39)) E dX5_trade_171 (Nat.le_of_ble_eq_true rfl) s_M1 hg41 rfl ?_
                    refine jx_aload_n E dX5_trade_172 1 rfl ?_
                    refine jx_getr (C := RX5) (T := TX5) (M := 21) (k := 0) E dX5_trade_173 (Nat.le_of_ble_eq_true rfl) s_M0 rfl iX5 (by decide) rfl (List.mem_cons_of_mem _ tw_328) rfl ?_
                    refine jx_iload E dX5_trade_176 7 rfl ?_
                    refine jx_iconst (x := 2) E dX5_trade_178 (by decide) ?_
                    obtain ⟨⟨r42, v42⟩, hc42, hF⟩ := jx_bind hF
                    try dsimp only at hF
                    refine jx_callSi (As := [.int x7, .int 2]) (st := [.ref (ad 1)]) E dX5_trade_179 2 rfl (k_X5_at hI x7 2 (jx_up v39 1 (Int32.toNatClampNeg r39) ((v39 1 (Int32.toNatClampNeg r39)) + 1)) r42 v42 hc42) (gb_S (List.mem_cons_of_mem _ tw_332) (List.mem_cons_of_mem _ tw_333) (List.mem_cons_of_mem _ tw_325) tw_331) rfl rfl rfl dd_X5_at rfl ⟨by decide, by decide⟩ ⟨Nat.le_refl 0, Nat.le_refl 0⟩ (Nat.le_of_ble_eq_true rfl) ?_
                    refine jx_dup2 E dX5_trade_182 rfl rfl ?_
                    obtain ⟨hg43, hF⟩ := jx_guard hF
                    refine jx_iald (h := 1) (j := (Int32.toNatClampNeg r42)) E dX5_trade_183 (Nat.le_of_ble_eq_true rfl) s_M1 hg43 rfl ?_
                    refine jx_iconst (x := 1) E dX5_trade_184 (by decide) ?_
                    refine jx_iadd E dX5_trade_185 ?_
                    obtain ⟨hg44, hF⟩ := jx_guard hF
                    refine jx_iast (h := 1) (j := (Int32.toNatClampNeg r42)) E dX5_trade_186 (Nat.le_of_ble_eq_true rfl) s_M1 hg44 rfl ?_
                    refine jx_iinc (y := (x7 + 1)) (lv' := [(7, .int (x7 + 1)), (5, .int (-1)), (0, .ref (ad 0)), (1, .int x1), (2, .int x2), (3, .int x3), (4, .int x4), (6, .int x6)]) E dX5_trade_187 7 rfl rfl (by decide) rfl ?_
                    refine jx_goto (tgt := 61) E dX5_trade_190 (by decide) ?_
                    refine jx_sub [2, 3, 4, 5, 6, 1, 7, 0] rfl ?_
                    exact ih.2 x1 x2 x3 x4 (-1) x6 (x7 + 1) (jx_up v42 1 (Int32.toNatClampNeg r42) ((v42 1 (Int32.toNatClampNeg r42)) + 1)) hF
                  · rw [if_neg hc38] at hF
                    refine jx_bipush (x := 100) E dX5_trade_143 (by decide) ?_
                    refine jx_iload E dX5_trade_145 6 rfl ?_
                    refine jx_imul E dX5_trade_147 ?_
                    refine jx_iload E dX5_trade_148 7 rfl ?_
                    refine jx_iadd E dX5_trade_150 ?_
                    refine jx_goto (tgt := 155) E dX5_trade_151 (by decide) ?_
                    refine jx_istore (lv' := [(5, .int ((100 * x6) + x7)), (0, .ref (ad 0)), (1, .int x1), (2, .int x2), (3, .int x3), (4, .int x4), (6, .int x6), (7, .int x7)]) E dX5_trade_155 (by decide) rfl ?_
                    refine jx_aload_n E dX5_trade_157 1 rfl ?_
                    refine jx_getr (C := RX5) (T := TX5) (M := 21) (k := 0) E dX5_trade_158 (Nat.le_of_ble_eq_true rfl) s_M0 rfl iX5 (by decide) rfl (List.mem_cons_of_mem _ tw_328) rfl ?_
                    refine jx_iload E dX5_trade_161 6 rfl ?_
                    refine jx_iconst (x := 2) E dX5_trade_163 (by decide) ?_
                    obtain ⟨⟨r45, v45⟩, hc45, hF⟩ := jx_bind hF
                    try dsimp only at hF
                    refine jx_callSi (As := [.int x6, .int 2]) (st := [.ref (ad 1)]) E dX5_trade_164 2 rfl (k_X5_at hI x6 2 v29 r45 v45 hc45) (gb_S (List.mem_cons_of_mem _ tw_332) (List.mem_cons_of_mem _ tw_333) (List.mem_cons_of_mem _ tw_325) tw_331) rfl rfl rfl dd_X5_at rfl ⟨by decide, by decide⟩ ⟨Nat.le_refl 0, Nat.le_refl 0⟩ (Nat.le_of_ble_eq_true rfl) ?_
                    refine jx_dup2 E dX5_trade_167 rfl rfl ?_
                    obtain ⟨hg46, hF⟩ := jx_guard hF
                    refine jx_iald (h := 1) (j := (Int32.toNatClampNeg r45)) E dX5_trade_168 (Nat.le_of_ble_eq_true rfl) s_M1 hg46 rfl ?_
                    refine jx_iconst (x := 1) E dX5_trade_169 (by decide) ?_
                    refine jx_iadd E dX5_trade_170 ?_
                    obtain ⟨hg47, hF⟩ := jx_guard hF
                    refine jx_iast (h := 1) (j := (Int32.toNatClampNeg r45)) E dX5_trade_171 (Nat.le_of_ble_eq_true rfl) s_M1 hg47 rfl ?_
                    refine jx_aload_n E dX5_trade_172 1 rfl ?_
                    refine jx_getr (C := RX5) (T := TX5) (M := 21) (k := 0) E dX5_trade_173 (Nat.le_of_ble_eq_true rfl) s_M0 rfl iX5 (by decide) rfl (List.mem_cons_of_mem _ tw_328) rfl ?_
                    refine jx_iload E dX5_trade_176 7 rfl ?_
                    refine jx_iconst (x := 2) E dX5_trade_178 (by decide) ?_
                    obtain ⟨⟨r48, v48⟩, hc48, hF⟩ := jx_bind hF
                    try dsimp only at hF
                    refine jx_callSi (As := [.int x7, .int 2]) (st := [.ref (ad 1)]) E dX5_trade_179 2 rfl (k_X5_at hI x7 2 (jx_up v45 1 (Int32.toNatClampNeg r45) ((v45 1 (Int32.toNatClampNeg r45)) + 1)) r48 v48 hc48) (gb_S (List.mem_cons_of_mem _ tw_332) (List.mem_cons_of_mem _ tw_333) (List.mem_cons_of_mem _ tw_325) tw_331) rfl rfl rfl dd_X5_at rfl ⟨by decide, by decide⟩ ⟨Nat.le_refl 0, Nat.le_refl 0⟩ (Nat.le_of_ble_eq_true rfl) ?_
                    refine jx_dup2 E dX5_trade_182 rfl rfl ?_
                    obtain ⟨hg49, hF⟩ := jx_guard hF
                    refine jx_iald (h := 1) (j := (Int32.toNatClampNeg r48)) E dX5_trade_183 (Nat.le_of_ble_eq_true rfl) s_M1 hg49 rfl ?_
                    refine jx_iconst (x := 1) E dX5_trade_184 (by decide) ?_
                    refine jx_iadd E dX5_trade_185 ?_
                    obtain ⟨hg50, hF⟩ := jx_guard hF
                    refine jx_iast (h := 1) (j := (Int32.toNatClampNeg r48)) E dX5_trade_186 (Nat.le_of_ble_eq_true rfl) s_M1 hg50 rfl ?_
                    refine jx_iinc (y := (x7 + 1)) (lv' := [(7, .int (x7 + 1)), (5, .int ((100 * x6) + x7)), (0, .ref (ad 0)), (1, .int x1), (2, .int x2), (3, .int x3), (4, .int x4), (6, .int x6)]) E dX5_trade_187 7 rfl rfl (by decide) rfl ?_
                    refine jx_goto (tgt := 61) E dX5_trade_190 (by decide) ?_
                    refine jx_sub [2, 3, 4, 5, 6, 1, 7, 0] rfl ?_
                    exact ih.2 x1 x2 x3 x4 ((100 * x6) + x7) x6 (x7 + 1) (jx_up v48 1 (Int32.toNatClampNeg r48) ((v48 1 (Int32.toNatClampNeg r48)) + 1)) hF
  refine jx_iload_n E dX5_trade_0 1 rfl ?_
  obtain ⟨⟨r1, v1⟩, hc1, hF⟩ := jx_bind hF
  try dsimp only at hF
  refine jx_callSi (As := [.int x1]) (st := []) E dX5_trade_1 1 rfl (k_X5_isOwner hI x1 v r1 v1 hc1) (gb_S (List.mem_cons_of_mem _ tw_351) (List.mem_cons_of_mem _ tw_352) (List.mem_cons_of_mem _ tw_325) tw_350) rfl rfl rfl dd_X5_isOwner rfl ⟨by decide, by decide⟩ ⟨Nat.le_refl 0, Nat.le_refl 0⟩ (Nat.le_of_ble_eq_true rfl) ?_
  refine jx_if_eq (tgt := 19) E dX5_trade_4 (by decide) (fun hc2 => ?_) (fun hc2 => ?_)
  · rw [if_pos hc2] at hF
    refine jx_aload_n E dX5_trade_19 0 rfl ?_
    refine jx_ldc (x := -1000001) E dX5_trade_20 (List.mem_cons_of_mem _ tw_320) ?_
    obtain ⟨⟨r3, v3⟩, hc3, hF⟩ := jx_bind hF
    try dsimp only at hF
    refine jx_callVi (As := [.int (-1000001)]) (st := []) (h := 0) E dX5_trade_22 1 rfl (k_X5_finds hI (-1000001) v1 r3 v3 hc3) (gb_V (List.mem_cons_of_mem _ tw_344) (List.mem_cons_of_mem _ tw_345) (List.mem_cons_of_mem _ tw_346) (List.mem_cons_of_mem _ tw_325) tw_343) rfl rfl rfl dd_X5_finds rfl (Nat.le_of_ble_eq_true rfl) s_M0 rfl ⟨by decide, by decide⟩ ⟨Nat.le_refl 0, Nat.le_refl 0⟩ (Nat.le_of_ble_eq_true rfl) ?_
    obtain ⟨rfl, rfl⟩ := jx_out hF
    exact jx_iret E dX5_trade_25 rfl
  · rw [if_neg hc2] at hF
    refine jx_iload_n E dX5_trade_7 2 rfl ?_
    obtain ⟨⟨r4, v4⟩, hc4, hF⟩ := jx_bind hF
    try dsimp only at hF
    refine jx_callSi (As := [.int x2]) (st := []) E dX5_trade_8 1 rfl (k_X5_isOwner hI x2 v1 r4 v4 hc4) (gb_S (List.mem_cons_of_mem _ tw_351) (List.mem_cons_of_mem _ tw_352) (List.mem_cons_of_mem _ tw_325) tw_350) rfl rfl rfl dd_X5_isOwner rfl ⟨by decide, by decide⟩ ⟨Nat.le_refl 0, Nat.le_refl 0⟩ (Nat.le_of_ble_eq_true rfl) ?_
    refine jx_if_eq (tgt := 19) E dX5_trade_11 (by decide) (fun hc5 => ?_) (fun hc5 => ?_)
    · rw [if_pos hc5] at hF
      refine jx_aload_n E dX5_trade_19 0 rfl ?_
      refine jx_ldc (x := -1000001) E dX5_trade_20 (List.mem_cons_of_mem _ tw_320) ?_
      obtain ⟨⟨r6, v6⟩, hc6, hF⟩ := jx_bind hF
      try dsimp only at hF
      refine jx_callVi (As := [.int (-1000001)]) (st := []) (h := 0) E dX5_trade_22 1 rfl (k_X5_finds hI (-1000001) v4 r6 v6 hc6) (gb_V (List.mem_cons_of_mem _ tw_344) (List.mem_cons_of_mem _ tw_345) (List.mem_cons_of_mem _ tw_346) (List.mem_cons_of_mem _ tw_325) tw_343) rfl rfl rfl dd_X5_finds rfl (Nat.le_of_ble_eq_true rfl) s_M0 rfl ⟨by decide, by decide⟩ ⟨Nat.le_refl 0, Nat.le_refl 0⟩ (Nat.le_of_ble_eq_true rfl) ?_
      obtain ⟨rfl, rfl⟩ := jx_out hF
      exact jx_iret E dX5_trade_25 rfl
    · rw [if_neg hc5] at hF
      refine jx_iload_n E dX5_trade_14 1 rfl ?_
      refine jx_iload_n E dX5_trade_15 2 rfl ?_
      refine jx_icmp_ne (tgt := 26) E dX5_trade_16 (by decide) (fun hc7 => ?_) (fun hc7 => ?_)
      · rw [if_neg hc7] at hF
        refine jx_aload_n E dX5_trade_26 0 rfl ?_
        refine jx_iload_n E dX5_trade_27 1 rfl ?_
        obtain ⟨⟨r8, v8⟩, hc8, hF⟩ := jx_bind hF
        try dsimp only at hF
        refine jx_callVi (As := [.int x1]) (st := []) (h := 0) E dX5_trade_28 1 rfl (k_X5_gainOf hI x1 v4 r8 v8 hc8) (gb_V (List.mem_cons_of_mem _ tw_436) (List.mem_cons_of_mem _ tw_437) (List.mem_cons_of_mem _ tw_438) (List.mem_cons_of_mem _ tw_325) tw_435) rfl rfl rfl dd_X5_gainOf rfl (Nat.le_of_ble_eq_true rfl) s_M0 rfl ⟨by decide, by decide⟩ ⟨Nat.le_refl 0, Nat.le_refl 0⟩ (Nat.le_of_ble_eq_true rfl) ?_
        refine jx_istore_n (lv' := [(3, .int r8), (0, .ref (ad 0)), (1, .int x1), (2, .int x2)]) E dX5_trade_31 (by decide) rfl ?_
        refine jx_aload_n E dX5_trade_32 1 rfl ?_
        refine jx_getr (C := RX5) (T := TX5) (M := 21) (k := 9) E dX5_trade_33 (Nat.le_of_ble_eq_true rfl) s_M0 rfl iX5 (by decide) rfl (List.mem_cons_of_mem _ tw_420) rfl ?_
        refine jx_iload_n E dX5_trade_36 3 rfl ?_
        obtain ⟨hg9, hF⟩ := jx_guard hF
        refine jx_iald (h := 6) (j := (Int32.toNatClampNeg x2)) E dX5_trade_37 (Nat.le_of_ble_eq_true rfl) s_M6 hg9 rfl ?_
        refine jx_istore (lv' := [(4, .int (v8 6 (Int32.toNatClampNeg x2))), (3, .int r8), (0, .ref (ad 0)), (1, .int x1), (2, .int x2)]) E dX5_trade_38 (by decide) rfl ?_
        refine jx_iconst (x := -1) E dX5_trade_40 (by decide) ?_
        refine jx_istore (lv' := [(5, .int (-1)), (4, .int (v8 6 (Int32.toNatClampNeg x2))), (3, .int r8), (0, .ref (ad 0)), (1, .int x1), (2, .int x2)]) E dX5_trade_41 (by decide) rfl ?_
        refine jx_iconst (x := 0) E dX5_trade_43 (by decide) ?_
        refine jx_istore (lv' := [(6, .int 0), (5, .int (-1)), (4, .int (v8 6 (Int32.toNatClampNeg x2))), (3, .int r8), (0, .ref (ad 0)), (1, .int x1), (2, .int x2)]) E dX5_trade_44 (by decide) rfl ?_
        refine jx_sub [4, 5, 6, 3, 2, 1, 0] rfl ?_
        exact (key 100000).1 x1 x2 r8 (v8 6 (Int32.toNatClampNeg x2)) (-1) 0 v8 hF
      · rw [if_pos hc7] at hF
        refine jx_aload_n E dX5_trade_19 0 rfl ?_
        refine jx_ldc (x := -1000001) E dX5_trade_20 (List.mem_cons_of_mem _ tw_320) ?_
        obtain ⟨⟨r10, v10⟩, hc10, hF⟩ := jx_bind hF
        try dsimp only at hF
        refine jx_callVi (As := [.int (-1000001)]) (st := []) (h := 0) E dX5_trade_22 1 rfl (k_X5_finds hI (-1000001) v4 r10 v10 hc10) (gb_V (List.mem_cons_of_mem _ tw_344) (List.mem_cons_of_mem _ tw_345) (List.mem_cons_of_mem _ tw_346) (List.mem_cons_of_mem _ tw_325) tw_343) rfl rfl rfl dd_X5_finds rfl (Nat.le_of_ble_eq_true rfl) s_M0 rfl ⟨by decide, by decide⟩ ⟨Nat.le_refl 0, Nat.le_refl 0⟩ (Nat.le_of_ble_eq_true rfl) ?_
        obtain ⟨rfl, rfl⟩ := jx_out hF
        exact jx_iret E dX5_trade_25 rfl
def f_X5_swap_L  : Nat → Nat → Int32 → Int32 → Int32 → Int32 → Int32 → Int32 → jx_V → Option (Int32 × jx_V)
  | 0, _, _, _, _, _, _, _, _ => none
  | n + 1, tag, x1, x2, x3, x4, x5, x6, v => (if tag = 0 then (if 4 ≤ x5 then ((f_X5_puts v).bind (fun v25 => (f_X5_swap_L n 1 x1 x2 x3 x4 0 0 v25))) else (if (x5 < 0 ∨ 4 ≤ Int32.toNatClampNeg x5) then none else (if (x5 < 0 ∨ 4 ≤ Int32.toNatClampNeg x5) then none else (f_X5_swap_L n 0 x1 x2 x3 x4 (x5 + 1) 0 (jx_up v 7 (Int32.toNatClampNeg x5) (v 6 (Int32.toNatClampNeg x5))))))) else (if tag = 1 then (if 4 ≤ x5 then ((f_X5_findGains v).bind (fun (r29, v29) => ((f_X5_putsBack v29).bind (fun v30 => (f_X5_swap_L n 2 x1 x2 x3 r29 0 0 v30))))) else ((f_X5_at x1 x5 v).bind (fun (r31, v31) => ((f_X5_at x2 x5 v31).bind (fun (r32, v32) => (if (r32 < 0 ∨ 181 ≤ Int32.toNatClampNeg r32) then none else (if (r31 < 0 ∨ 181 ≤ Int32.toNatClampNeg r31) then none else ((f_X5_at x2 x5 (jx_up v32 1 (Int32.toNatClampNeg r31) (v32 3 (Int32.toNatClampNeg r32)))).bind (fun (r35, v35) => ((f_X5_at x1 x5 v35).bind (fun (r36, v36) => (if (r36 < 0 ∨ 181 ≤ Int32.toNatClampNeg r36) then none else (if (r35 < 0 ∨ 181 ≤ Int32.toNatClampNeg r35) then none else (f_X5_swap_L n 1 x1 x2 x3 x4 (x5 + 1) 0 (jx_up v36 1 (Int32.toNatClampNeg r35) (v36 3 (Int32.toNatClampNeg r36))))))))))))))))) else (if tag = 2 then (if 4 ≤ x6 then (some (x5, v)) else (if (x6 < 0 ∨ 4 ≤ Int32.toNatClampNeg x6) then none else (if (x6 < 0 ∨ 4 ≤ Int32.toNatClampNeg x6) then none else (if (v 6 (Int32.toNatClampNeg x6)) ≤ (v 7 (Int32.toNatClampNeg x6)) then (if (x6 < 0 ∨ 4 ≤ Int32.toNatClampNeg x6) then none else (if (x6 < 0 ∨ 4 ≤ Int32.toNatClampNeg x6) then none else (if (v 7 (Int32.toNatClampNeg x6)) ≤ (v 6 (Int32.toNatClampNeg x6)) then (f_X5_swap_L n 2 x1 x2 x3 x4 (x5 + 0) (x6 + 1) v) else (f_X5_swap_L n 2 x1 x2 x3 x4 (x5 + (-1)) (x6 + 1) v)))) else (f_X5_swap_L n 2 x1 x2 x3 x4 (x5 + 1) (x6 + 1) v))))) else none)))
def f_X5_swap (x1 : Int32) (x2 : Int32) (v : jx_V) : Option (Int32 × jx_V) := ((f_X5_isLot x1 v).bind (fun (r1, v1) => (if r1 = 0 then (if (-1000001 : Int32) = 0 then ((f_X5_findGains v1).bind (fun (r4, v4) => (f_X5_swap_L 100000 0 x1 x2 (-1000001) r4 0 0 v4))) else ((f_X5_finds (-1000001) v1).bind (fun (r5, v5) => (some (r5, v5))))) else ((f_X5_isLot x2 v1).bind (fun (r6, v6) => (if r6 = 0 then (if (-1000001 : Int32) = 0 then ((f_X5_findGains v6).bind (fun (r22, v22) => (f_X5_swap_L 100000 0 x1 x2 (-1000001) r22 0 0 v22))) else ((f_X5_finds (-1000001) v6).bind (fun (r23, v23) => (some (r23, v23))))) else ((f_X5_isThing x1 v6).bind (fun (r8, v8) => (if r8 = 0 then (if (-1000004 : Int32) = 0 then ((f_X5_findGains v8).bind (fun (r11, v11) => (f_X5_swap_L 100000 0 x1 x2 (-1000004) r11 0 0 v11))) else ((f_X5_finds (-1000004) v8).bind (fun (r12, v12) => (some (r12, v12))))) else ((f_X5_isThing x2 v8).bind (fun (r13, v13) => (if r13 = 0 then (if (-1000004 : Int32) = 0 then ((f_X5_findGains v13).bind (fun (r19, v19) => (f_X5_swap_L 100000 0 x1 x2 (-1000004) r19 0 0 v19))) else ((f_X5_finds (-1000004) v13).bind (fun (r20, v20) => (some (r20, v20))))) else (if (0 : Int32) = 0 then ((f_X5_findGains v13).bind (fun (r16, v16) => (f_X5_swap_L 100000 0 x1 x2 0 r16 0 0 v16))) else ((f_X5_finds 0 v13).bind (fun (r17, v17) => (some (r17, v17)))))))))))))))))
def rm_X5_swap : Room := { frames := 6, cells := 0, slots := 0, locals := 147 }
set_option maxHeartbeats 4000000 in
set_option maxRecDepth 100000 in
theorem k_X5_swap {l : Launch} {D : va_G} {cI cJ : ClassId} {ad : Nat → Nat} {A : Nat → Prop} (hI : jx_inj 13 ad A) (x1 : Int32) (x2 : Int32) (v : jx_V) (r : Int32) (v' : jx_V) (hF : f_X5_swap x1 x2 v = some (r, v')) : jx_Ci l D vwCl 13 cI cJ ad shM A ex_M yX5_swap (Cond.code yX5_swap cX5_swap 7 (some .int) :: bigT) rm_X5_swap [.ref (ad 0), .int x1, .int x2] v r v' := by
  unfold f_X5_swap at hF
  refine jx_enteri bigT RX5 cX5_swap 7 (some .int) [(0, .ref (ad 0)), (1, .int x1), (2, .int x2)] hI (ex_M_ok A) (by decide +kernel) rfl (Nat.le_of_ble_eq_true rfl) rfl rfl ?_
  intro p e s m args below meth c E
  have iX5 : ∀ w ∈ u_ws RX5 TX5 21, w ∈ (Cond.code yX5_swap cX5_swap 7 (some .int) :: bigT) := fun w h => List.mem_cons_of_mem _ (uw_X5 w h)
  have key : ∀ n : Nat, (∀ (x1 : Int32) (x2 : Int32) (x3 : Int32) (x4 : Int32) (x5 : Int32) (v : jx_V), f_X5_swap_L  n 0 x1 x2 x3 x4 x5 0 v = some (r, v') → jx_J p l e rm_X5_swap s m args below meth c D vwCl 13 cI cJ ad shM A 0 0 7 (MQ below (va_Qi (fun (r1 : Int32) (_ : Unit) => r1 = r) (fun _ t => va_P D vwCl (jx_ws 13 cI cJ ad shM v') t.heap) A) args s 0 0 A) v 61 [(0, .ref (ad 0)), (1, .int x1), (2, .int x2), (3, .int x3), (4, .int x4), (5, .int x5)] []) ∧ (∀ (x1 : Int32) (x2 : Int32) (x3 : Int32) (x4 : Int32) (x5 : Int32) (v : jx_V), f_X5_swap_L  n 1 x1 x2 x3 x4 x5 0 v = some (r, v') → jx_J p l e rm_X5_swap s m args below meth c D vwCl 13 cI cJ ad shM A 0 0 7 (MQ below (va_Qi (fun (r1 : Int32) (_ : Unit) => r1 = r) (fun _ t => va_P D vwCl (jx_ws 13 cI cJ ad shM v') t.heap) A) args s 0 0 A) v 94 [(0, .ref (ad 0)), (1, .int x1), (2, .int x2), (3, .int x3), (4, .int x4), (5, .int x5)] []) ∧ (∀ (x1 : Int32) (x2 : Int32) (x3 : Int32) (x4 : Int32) (x5 : Int32) (x6 : Int32) (v : jx_V), f_X5_swap_L  n 2 x1 x2 x3 x4 x5 x6 v = some (r, v') → jx_J p l e rm_X5_swap s m args below meth c D vwCl 13 cI cJ ad shM A 0 0 7 (MQ below (va_Qi (fun (r1 : Int32) (_ : Unit) => r1 = r) (fun _ t => va_P D vwCl (jx_ws 13 cI cJ ad shM v') t.heap) A) args s 0 0 A) v 166 [(0, .ref (ad 0)), (1, .int x1), (2, .int x2), (3, .int x3), (4, .int x4), (5, .int x5), (6, .int x6)] []) := by
    intro n
    induction n with
    | zero =>
      exact ⟨(fun _ _ _ _ _ _ h => by cases h), (fun _ _ _ _ _ _ h => by cases h), (fun _ _ _ _ _ _ _ h => by cases h)⟩
    | succ n ih =>
      refine ⟨?_, ?_, ?_⟩
      · intro x1 x2 x3 x4 x5 v hF
        rw [f_X5_swap_L] at hF
        rw [if_pos rfl] at hF
        refine jx_iload E dX5_swap_61 5 rfl ?_
        refine jx_iconst (x := 4) E dX5_swap_63 (by decide) ?_
        refine jx_icmp_ge (tgt := 87) E dX5_swap_64 (by decide) (fun hc24 => ?_) (fun hc24 => ?_)
        · rw [if_pos hc24] at hF
          refine jx_aload_n E dX5_swap_87 0 rfl ?_
          obtain ⟨v25, hc25, hF⟩ := jx_bind hF
          try dsimp only at hF
          refine jx_callVv (As := []) (st := []) (h := 0) E dX5_swap_88 0 rfl (k_X5_puts hI  v v25 hc25) (gb_V (List.mem_cons_of_mem _ tw_458) (List.mem_cons_of_mem _ tw_459) (List.mem_cons_of_mem _ tw_460) (List.mem_cons_of_mem _ tw_325) tw_457) rfl rfl rfl dd_X5_puts rfl (Nat.le_of_ble_eq_true rfl) s_M0 rfl ⟨by decide, by decide⟩ ⟨Nat.le_refl 0, Nat.le_refl 0⟩ (Nat.le_of_ble_eq_true rfl) ?_
          refine jx_iconst (x := 0) E dX5_swap_91 (by decide) ?_
          refine jx_istore (lv' := [(5, .int 0), (0, .ref (ad 0)), (1, .int x1), (2, .int x2), (3, .int x3), (4, .int x4)]) E dX5_swap_92 (by decide) rfl ?_
          refine jx_sub [1, 2, 3, 4, 5, 0] rfl ?_
          exact ih.2.1 x1 x2 x3 x4 0 v25 hF
        · rw [if_neg hc24] at hF
          refine jx_aload_n E dX5_swap_67 0 rfl ?_
          refine jx_getr (C := RX5) (T := TX5) (M := 21) (k := 10) E dX5_swap_68 (Nat.le_of_ble_eq_true rfl) s_M0 rfl iX5 (by decide) rfl (List.mem_cons_of_mem _ tw_489) rfl ?_
          refine jx_iload E dX5_swap_71 5 rfl ?_
          refine jx_aload_n E dX5_swap_73 0 rfl ?_
          refine jx_getr (C := RX5) (T := TX5) (M := 21) (k := 9) E dX5_swap_74 (Nat.le_of_ble_eq_true rfl) s_M0 rfl iX5 (by decide) rfl (List.mem_cons_of_mem _ tw_420) rfl ?_
          refine jx_iload E dX5_swap_77 5 rfl ?_
          obtain ⟨hg26, hF⟩ := jx_guard hF
          refine jx_iald (h := 6) (j := (Int32.toNatClampNeg x5)) E dX5_swap_79 (Nat.le_of_ble_eq_true rfl) s_M6 hg26 rfl ?_
          obtain ⟨hg27, hF⟩ := jx_guard hF
          refine jx_iast (h := 7) (j := (Int32.toNatClampNeg x5)) E dX5_swap_80 (Nat.le_of_ble_eq_true rfl) s_M7 hg27 rfl ?_
          refine jx_iinc (y := (x5 + 1)) (lv' := [(5, .int (x5 + 1)), (0, .ref (ad 0)), (1, .int x1), (2, .int x2), (3, .int x3), (4, .int x4)]) E dX5_swap_81 5 rfl rfl (by decide) rfl ?_
          refine jx_goto (tgt := 61) E dX5_swap_84 (by decide) ?_
          refine jx_sub [1, 2, 3, 4, 5, 0] rfl ?_
          exact ih.1 x1 x2 x3 x4 (x5 + 1) (jx_up v 7 (Int32.toNatClampNeg x5) (v 6 (Int32.toNatClampNeg x5))) hF
      · intro x1 x2 x3 x4 x5 v hF
        rw [f_X5_swap_L] at hF
        rw [if_neg (by decide), if_pos rfl] at hF
        refine jx_iload E dX5_swap_94 5 rfl ?_
        refine jx_iconst (x := 4) E dX5_swap_96 (by decide) ?_
        refine jx_icmp_ge (tgt := 150) E dX5_swap_97 (by decide) (fun hc28 => ?_) (fun hc28 => ?_)
        · rw [if_pos hc28] at hF
          refine jx_aload_n E dX5_swap_150 0 rfl ?_
          obtain ⟨⟨r29, v29⟩, hc29, hF⟩ := jx_bind hF
          try dsimp only at hF
          refine jx_callVi (As := []) (st := []) (h := 0) E dX5_swap_151 0 rfl (k_X5_findGains hI  v r29 v29 hc29) (gb_V (List.mem_cons_of_mem _ tw_432) (List.mem_cons_of_mem _ tw_433) (List.mem_cons_of_mem _ tw_434) (List.mem_cons_of_mem _ tw_325) tw_431) rfl rfl rfl dd_X5_findGains rfl (Nat.le_of_ble_eq_true rfl) s_M0 rfl ⟨by decide, by decide⟩ ⟨Nat.le_refl 0, Nat.le_refl 0⟩ (Nat.le_of_ble_eq_true rfl) ?_
          refine jx_istore (lv' := [(4, .int r29), (0, .ref (ad 0)), (1, .int x1), (2, .int x2), (3, .int x3), (5, .int x5)]) E dX5_swap_154 (by decide) rfl ?_
          refine jx_aload_n E dX5_swap_156 1 rfl ?_
          obtain ⟨v30, hc30, hF⟩ := jx_bind hF
          try dsimp only at hF
          refine jx_callVv (As := []) (st := []) (h := 0) E dX5_swap_157 0 rfl (k_X5_putsBack hI  v29 v30 hc30) (gb_V (List.mem_cons_of_mem _ tw_462) (List.mem_cons_of_mem _ tw_463) (List.mem_cons_of_mem _ tw_464) (List.mem_cons_of_mem _ tw_325) tw_461) rfl rfl rfl dd_X5_putsBack rfl (Nat.le_of_ble_eq_true rfl) s_M0 rfl ⟨by decide, by decide⟩ ⟨Nat.le_refl 0, Nat.le_refl 0⟩ (Nat.le_of_ble_eq_true rfl) ?_
          refine jx_iconst (x := 0) E dX5_swap_160 (by decide) ?_
          refine jx_istore (lv' := [(5, .int 0), (4, .int r29), (0, .ref (ad 0)), (1, .int x1), (2, .int x2), (3, .int x3)]) E dX5_swap_161 (by decide) rfl ?_
          refine jx_iconst (x := 0) E dX5_swap_163 (by decide) ?_
          refine jx_istore (lv' := [(6, .int 0), (5, .int 0), (4, .int r29), (0, .ref (ad 0)), (1, .int x1), (2, .int x2), (3, .int x3)]) E dX5_swap_164 (by decide) rfl ?_
          refine jx_sub [3, 4, 5, 6, 2, 1, 0] rfl ?_
          exact ih.2.2 x1 x2 x3 r29 0 0 v30 hF
        · rw [if_neg hc28] at hF
          refine jx_aload_n E dX5_swap_100 0 rfl ?_
          refine jx_getr (C := RX5) (T := TX5) (M := 21) (k := 0) E dX5_swap_101 (Nat.le_of_ble_eq_true rfl) s_M0 rfl iX5 (by decide) rfl (List.mem_cons_of_mem _ tw_328) rfl ?_
          refine jx_iload_n E dX5_swap_104 1 rfl ?_
          refine jx_iload E dX5_swap_105 5 rfl ?_
          obtain ⟨⟨r31, v31⟩, hc31, hF⟩ := jx_bind hF
          try dsimp only at hF
          refine jx_callSi (As := [.int x1, .int x5]) (st := [.ref (ad 1)]) E dX5_swap_107 2 rfl (k_X5_at hI x1 x5 v r31 v31 hc31) (gb_S (List.mem_cons_of_mem _ tw_332) (List.mem_cons_of_mem _ tw_333) (List.mem_cons_of_mem _ tw_325) tw_331) rfl rfl rfl dd_X5_at rfl ⟨by decide, by decide⟩ ⟨Nat.le_refl 0, Nat.le_refl 0⟩ (Nat.le_of_ble_eq_true rfl) ?_
          refine jx_aload_n E dX5_swap_110 0 rfl ?_
          refine jx_getr (C := RX5) (T := TX5) (M := 21) (k := 2) E dX5_swap_111 (Nat.le_of_ble_eq_true rfl) s_M0 rfl iX5 (by decide) rfl (List.mem_cons_of_mem _ tw_330) rfl ?_
          refine jx_iload_n E dX5_swap_114 2 rfl ?_
          refine jx_iload E dX5_swap_115 5 rfl ?_
          obtain ⟨⟨r32, v32⟩, hc32, hF⟩ := jx_bind hF
          try dsimp only at hF
          refine jx_callSi (As := [.int x2, .int x5]) (st := [.ref (ad 3), .int r31, .ref (ad 1)]) E dX5_swap_117 2 rfl (k_X5_at hI x2 x5 v31 r32 v32 hc32) (gb_S (List.mem_cons_of_mem _ tw_332) (List.mem_cons_of_mem _ tw_333) (List.mem_cons_of_mem _ tw_325) tw_331) rfl rfl rfl dd_X5_at rfl ⟨by decide, by decide⟩ ⟨Nat.le_refl 0, Nat.le_refl 0⟩ (Nat.le_of_ble_eq_true rfl) ?_
          obtain ⟨hg33, hF⟩ := jx_guard hF
          refine jx_iald (h := 3) (j := (Int32.toNatClampNeg r32)) E dX5_swap_120 (Nat.le_of_ble_eq_true rfl) s_M3 hg33 rfl ?_
          obtain ⟨hg34, hF⟩ := jx_guard hF
          refine jx_iast (h := 1) (j := (Int32.toNatClampNeg r31)) E dX5_swap_121 (Nat.le_of_ble_eq_true rfl) s_M1 hg34 rfl ?_
          refine jx_aload_n E dX5_swap_122 0 rfl ?_
          refine jx_getr (C := RX5) (T := TX5) (M := 21) (k := 0) E dX5_swap_123 (Nat.le_of_ble_eq_true rfl) s_M0 rfl iX5 (by decide) rfl (List.mem_cons_of_mem _ tw_328) rfl ?_
          refine jx_iload_n E dX5_swap_126 2 rfl ?_
          refine jx_iload E dX5_swap_127 5 rfl ?_
          obtain ⟨⟨r35, v35⟩, hc35, hF⟩ := jx_bind hF
          try dsimp only at hF
          refine jx_callSi (As := [.int x2, .int x5]) (st := [.ref (ad 1)]) E dX5_swap_129 2 rfl (k_X5_at hI x2 x5 (jx_up v32 1 (Int32.toNatClampNeg r31) (v32 3 (Int32.toNatClampNeg r32))) r35 v35 hc35) (gb_S (List.mem_cons_of_mem _ tw_332) (List.mem_cons_of_mem _ tw_333) (List.mem_cons_of_mem _ tw_325) tw_331) rfl rfl rfl dd_X5_at rfl ⟨by decide, by decide⟩ ⟨Nat.le_refl 0, Nat.le_refl 0⟩ (Nat.le_of_ble_eq_true rfl) ?_
          refine jx_aload_n E dX5_swap_132 0 rfl ?_
          refine jx_getr (C := RX5) (T := TX5) (M := 21) (k := 2) E dX5_swap_133 (Nat.le_of_ble_eq_true rfl) s_M0 rfl iX5 (by decide) rfl (List.mem_cons_of_mem _ tw_330) rfl ?_
          refine jx_iload_n E dX5_swap_136 1 rfl ?_
          refine jx_iload E dX5_swap_137 5 rfl ?_
          obtain ⟨⟨r36, v36⟩, hc36, hF⟩ := jx_bind hF
          try dsimp only at hF
          refine jx_callSi (As := [.int x1, .int x5]) (st := [.ref (ad 3), .int r35, .ref (ad 1)]) E dX5_swap_139 2 rfl (k_X5_at hI x1 x5 v35 r36 v36 hc36) (gb_S (List.mem_cons_of_mem _ tw_332) (List.mem_cons_of_mem _ tw_333) (List.mem_cons_of_mem _ tw_325) tw_331) rfl rfl rfl dd_X5_at rfl ⟨by decide, by decide⟩ ⟨Nat.le_refl 0, Nat.le_refl 0⟩ (Nat.le_of_ble_eq_true rfl) ?_
          obtain ⟨hg37, hF⟩ := jx_guard hF
          refine jx_iald (h := 3) (j := (Int32.toNatClampNeg r36)) E dX5_swap_142 (Nat.le_of_ble_eq_true rfl) s_M3 hg37 rfl ?_
          obtain ⟨hg38, hF⟩ := jx_guard hF
          refine jx_iast (h := 1) (j := (Int32.toNatClampNeg r35)) E dX5_swap_143 (Nat.le_of_ble_eq_true rfl) s_M1 hg38 rfl ?_
          refine jx_iinc (y := (x5 + 1)) (lv' := [(5, .int (x5 + 1)), (0, .ref (ad 0)), (1, .int x1), (2, .int x2), (3, .int x3), (4, .int x4)]) E dX5_swap_144 5 rfl rfl (by decide) rfl ?_
          refine jx_goto (tgt := 94) E dX5_swap_147 (by decide) ?_
          refine jx_sub [1, 2, 3, 4, 5, 0] rfl ?_
          exact ih.2.1 x1 x2 x3 x4 (x5 + 1) (jx_up v36 1 (Int32.toNatClampNeg r35) (v36 3 (Int32.toNatClampNeg r36))) hF
      · intro x1 x2 x3 x4 x5 x6 v hF
        rw [f_X5_swap_L] at hF
        rw [if_neg (by decide), if_neg (by decide), if_pos rfl] at hF
        refine jx_iload E dX5_swap_166 6 rfl ?_
        refine jx_iconst (x := 4) E dX5_swap_168 (by decide) ?_
        refine jx_icmp_ge (tgt := 226) E dX5_swap_169 (by decide) (fun hc39 => ?_) (fun hc39 => ?_)
        · rw [if_pos hc39] at hF
          refine jx_iload E dX5_swap_226 5 rfl ?_
          obtain ⟨rfl, rfl⟩ := jx_out hF
          exact jx_iret E dX5_swap_228 rfl
        · rw [if_neg hc39] at hF
          refine jx_iload E dX5_swap_172 5 rfl ?_
          refine jx_aload_n E dX5_swap_174 0 rfl ?_
          refine jx_getr (C := RX5) (T := TX5) (M := 21) (k := 9) E dX5_swap_175 (Nat.le_of_ble_eq_true rfl) s_M0 rfl iX5 (by decide) rfl (List.mem_cons_of_mem _ tw_420) rfl ?_
          refine jx_iload E dX5_swap_178 6 rfl ?_
          obtain ⟨hg40, hF⟩ := jx_guard hF
          refine jx_iald (h := 6) (j := (Int32.toNatClampNeg x6)) E dX5_swap_180 (Nat.le_of_ble_eq_true rfl) s_M6 hg40 rfl ?_
          refine jx_aload_n E dX5_swap_181 0 rfl ?_
          refine jx_getr (C := RX5) (T := TX5) (M := 21) (k := 10) E dX5_swap_182 (Nat.le_of_ble_eq_true rfl) s_M0 rfl iX5 (by decide) rfl (List.mem_cons_of_mem _ tw_489) rfl ?_
          refine jx_iload E dX5_swap_185 6 rfl ?_
          obtain ⟨hg41, hF⟩ := jx_guard hF
          refine jx_iald (h := 7) (j := (Int32.toNatClampNeg x6)) E dX5_swap_187 (Nat.le_of_ble_eq_true rfl) s_M7 hg41 rfl ?_
          refine jx_icmp_le (tgt := 195) E dX5_swap_188 (by decide) (fun hc42 => ?_) (fun hc42 => ?_)
          · rw [if_pos hc42] at hF
            refine jx_aload_n E dX5_swap_195 0 rfl ?_
            refine jx_getr (C := RX5) (T := TX5) (M := 21) (k := 9) E dX5_swap_196 (Nat.le_of_ble_eq_true rfl) s_M0 rfl iX5 (by decide) rfl (List.mem_cons_of_mem _ tw_420) rfl ?_
            refine jx_iload E dX5_swap_199 6 rfl ?_
            obtain ⟨hg43, hF⟩ := jx_guard hF
            refine jx_iald (h := 6) (j := (Int32.toNatClampNeg x6)) E dX5_swap_201 (Nat.le_of_ble_eq_true rfl) s_M6 hg43 rfl ?_
            refine jx_aload_n E dX5_swap_202 0 rfl ?_
            refine jx_getr (C := RX5) (T := TX5) (M := 21) (k := 10) E dX5_swap_203 (Nat.le_of_ble_eq_true rfl) s_M0 rfl iX5 (by decide) rfl (List.mem_cons_of_mem _ tw_489) rfl ?_
            refine jx_iload E dX5_swap_206 6 rfl ?_
            obtain ⟨hg44, hF⟩ := jx_guard hF
            refine jx_iald (h := 7) (j := (Int32.toNatClampNeg x6)) E dX5_swap_208 (Nat.le_of_ble_eq_true rfl) s_M7 hg44 rfl ?_
            refine jx_icmp_ge (tgt := 216) E dX5_swap_209 (by decide) (fun hc45 => ?_) (fun hc45 => ?_)
            · rw [if_pos hc45] at hF
              refine jx_iconst (x := 0) E dX5_swap_216 (by decide) ?_
              refine jx_iadd E dX5_swap_217 ?_
              refine jx_istore (lv' := [(5, .int (x5 + 0)), (0, .ref (ad 0)), (1, .int x1), (2, .int x2), (3, .int x3), (4, .int x4), (6, .int x6)]) E dX5_swap_218 (by decide) rfl ?_
              refine jx_iinc (y := (x6 + 1)) (lv' := [(6, .int (x6 + 1)), (5, .int (x5 + 0)), (0, .ref (ad 0)), (1, .int x1), (2, .int x2), (3, .int x3), (4, .int x4)]) E dX5_swap_220 6 rfl rfl (by decide) rfl ?_
              refine jx_goto (tgt := 166) E dX5_swap_223 (by decide) ?_
              refine jx_sub [2, 3, 4, 5, 6, 1, 0] rfl ?_
              exact ih.2.2 x1 x2 x3 x4 (x5 + 0) (x6 + 1) v hF
            · rw [if_neg hc45] at hF
              refine jx_iconst (x := -1) E dX5_swap_212 (by decide) ?_
              refine jx_goto (tgt := 217) E dX5_swap_213 (by decide) ?_
              refine jx_iadd E dX5_swap_217 ?_
              refine jx_istore (lv' := [(5, .int (x5 + (-1))), (0, .ref (ad 0)), (1, .int x1), (2, .int x2), (3, .int x3), (4, .int x4), (6, .int x6)]) E dX5_swap_218 (by decide) rfl ?_
              refine jx_iinc (y := (x6 + 1)) (lv' := [(6, .int (x6 + 1)), (5, .int (x5 + (-1))), (0, .ref (ad 0)), (1, .int x1), (2, .int x2), (3, .int x3), (4, .int x4)]) E dX5_swap_220 6 rfl rfl (by decide) rfl ?_
              refine jx_goto (tgt := 166) E dX5_swap_223 (by decide) ?_
              refine jx_sub [2, 3, 4, 5, 6, 1, 0] rfl ?_
              exact ih.2.2 x1 x2 x3 x4 (x5 + (-1)) (x6 + 1) v hF
          · rw [if_neg hc42] at hF
            refine jx_iconst (x := 1) E dX5_swap_191 (by decide) ?_
            refine jx_goto (tgt := 217) E dX5_swap_192 (by decide) ?_
            refine jx_iadd E dX5_swap_217 ?_
            refine jx_istore (lv' := [(5, .int (x5 + 1)), (0, .ref (ad 0)), (1, .int x1), (2, .int x2), (3, .int x3), (4, .int x4), (6, .int x6)]) E dX5_swap_218 (by decide) rfl ?_
            refine jx_iinc (y := (x6 + 1)) (lv' := [(6, .int (x6 + 1)), (5, .int (x5 + 1)), (0, .ref (ad 0)), (1, .int x1), (2, .int x2), (3, .int x3), (4, .int x4)]) E dX5_swap_220 6 rfl rfl (by decide) rfl ?_
            refine jx_goto (tgt := 166) E dX5_swap_223 (by decide) ?_
            refine jx_sub [2, 3, 4, 5, 6, 1, 0] rfl ?_
            exact ih.2.2 x1 x2 x3 x4 (x5 + 1) (x6 + 1) v hF
  refine jx_iload_n E dX5_swap_0 1 rfl ?_
  obtain ⟨⟨r1, v1⟩, hc1, hF⟩ := jx_bind hF
  try dsimp only at hF
  refine jx_callSi (As := [.int x1]) (st := []) E dX5_swap_1 1 rfl (k_X5_isLot hI x1 v r1 v1 hc1) (gb_S (List.mem_cons_of_mem _ tw_348) (List.mem_cons_of_mem _ tw_349) (List.mem_cons_of_mem _ tw_325) tw_347) rfl rfl rfl dd_X5_isLot rfl ⟨by decide, by decide⟩ ⟨Nat.le_refl 0, Nat.le_refl 0⟩ (Nat.le_of_ble_eq_true rfl) ?_
  refine jx_if_eq (tgt := 14) E dX5_swap_4 (by decide) (fun hc2 => ?_) (fun hc2 => ?_)
  · rw [if_pos hc2] at hF
    refine jx_ldc (x := -1000001) E dX5_swap_14 (List.mem_cons_of_mem _ tw_320) ?_
    refine jx_goto (tgt := 41) E dX5_swap_16 (by decide) ?_
    refine jx_istore_n (lv' := [(3, .int (-1000001)), (0, .ref (ad 0)), (1, .int x1), (2, .int x2)]) E dX5_swap_41 (by decide) rfl ?_
    refine jx_iload_n E dX5_swap_42 0 rfl ?_
    refine jx_if_eq (tgt := 52) E dX5_swap_43 (by decide) (fun hc3 => ?_) (fun hc3 => ?_)
    · rw [if_pos hc3] at hF
      refine jx_aload_n E dX5_swap_52 1 rfl ?_
      obtain ⟨⟨r4, v4⟩, hc4, hF⟩ := jx_bind hF
      try dsimp only at hF
      refine jx_callVi (As := []) (st := []) (h := 0) E dX5_swap_53 0 rfl (k_X5_findGains hI  v1 r4 v4 hc4) (gb_V (List.mem_cons_of_mem _ tw_432) (List.mem_cons_of_mem _ tw_433) (List.mem_cons_of_mem _ tw_434) (List.mem_cons_of_mem _ tw_325) tw_431) rfl rfl rfl dd_X5_findGains rfl (Nat.le_of_ble_eq_true rfl) s_M0 rfl ⟨by decide, by decide⟩ ⟨Nat.le_refl 0, Nat.le_refl 0⟩ (Nat.le_of_ble_eq_true rfl) ?_
      refine jx_istore (lv' := [(4, .int r4), (3, .int (-1000001)), (0, .ref (ad 0)), (1, .int x1), (2, .int x2)]) E dX5_swap_56 (by decide) rfl ?_
      refine jx_iconst (x := 0) E dX5_swap_58 (by decide) ?_
      refine jx_istore (lv' := [(5, .int 0), (4, .int r4), (3, .int (-1000001)), (0, .ref (ad 0)), (1, .int x1), (2, .int x2)]) E dX5_swap_59 (by decide) rfl ?_
      refine jx_sub [3, 4, 5, 2, 1, 0] rfl ?_
      exact (key 100000).1 x1 x2 (-1000001) r4 0 v4 hF
    · rw [if_neg hc3] at hF
      refine jx_aload_n E dX5_swap_46 1 rfl ?_
      refine jx_iload_n E dX5_swap_47 0 rfl ?_
      obtain ⟨⟨r5, v5⟩, hc5, hF⟩ := jx_bind hF
      try dsimp only at hF
      refine jx_callVi (As := [.int (-1000001)]) (st := []) (h := 0) E dX5_swap_48 1 rfl (k_X5_finds hI (-1000001) v1 r5 v5 hc5) (gb_V (List.mem_cons_of_mem _ tw_344) (List.mem_cons_of_mem _ tw_345) (List.mem_cons_of_mem _ tw_346) (List.mem_cons_of_mem _ tw_325) tw_343) rfl rfl rfl dd_X5_finds rfl (Nat.le_of_ble_eq_true rfl) s_M0 rfl ⟨by decide, by decide⟩ ⟨Nat.le_refl 0, Nat.le_refl 0⟩ (Nat.le_of_ble_eq_true rfl) ?_
      obtain ⟨rfl, rfl⟩ := jx_out hF
      exact jx_iret E dX5_swap_51 rfl
  · rw [if_neg hc2] at hF
    refine jx_iload_n E dX5_swap_7 2 rfl ?_
    obtain ⟨⟨r6, v6⟩, hc6, hF⟩ := jx_bind hF
    try dsimp only at hF
    refine jx_callSi (As := [.int x2]) (st := []) E dX5_swap_8 1 rfl (k_X5_isLot hI x2 v1 r6 v6 hc6) (gb_S (List.mem_cons_of_mem _ tw_348) (List.mem_cons_of_mem _ tw_349) (List.mem_cons_of_mem _ tw_325) tw_347) rfl rfl rfl dd_X5_isLot rfl ⟨by decide, by decide⟩ ⟨Nat.le_refl 0, Nat.le_refl 0⟩ (Nat.le_of_ble_eq_true rfl) ?_
    refine jx_if_ne (tgt := 19) E dX5_swap_11 (by decide) (fun hc7 => ?_) (fun hc7 => ?_)
    · rw [if_neg hc7] at hF
      refine jx_aload_n E dX5_swap_19 0 rfl ?_
      refine jx_iload_n E dX5_swap_20 1 rfl ?_
      obtain ⟨⟨r8, v8⟩, hc8, hF⟩ := jx_bind hF
      try dsimp only at hF
      refine jx_callVi (As := [.int x1]) (st := []) (h := 0) E dX5_swap_21 1 rfl (k_X5_isThing hI x1 v6 r8 v8 hc8) (gb_V (List.mem_cons_of_mem _ tw_339) (List.mem_cons_of_mem _ tw_340) (List.mem_cons_of_mem _ tw_341) (List.mem_cons_of_mem _ tw_325) tw_338) rfl rfl rfl dd_X5_isThing rfl (Nat.le_of_ble_eq_true rfl) s_M0 rfl ⟨by decide, by decide⟩ ⟨Nat.le_refl 0, Nat.le_refl 0⟩ (Nat.le_of_ble_eq_true rfl) ?_
      refine jx_if_eq (tgt := 35) E dX5_swap_24 (by decide) (fun hc9 => ?_) (fun hc9 => ?_)
      · rw [if_pos hc9] at hF
        refine jx_ldc (x := -1000004) E dX5_swap_35 (List.mem_cons_of_mem _ tw_365) ?_
        refine jx_goto (tgt := 41) E dX5_swap_37 (by decide) ?_
        refine jx_istore_n (lv' := [(3, .int (-1000004)), (0, .ref (ad 0)), (1, .int x1), (2, .int x2)]) E dX5_swap_41 (by decide) rfl ?_
        refine jx_iload_n E dX5_swap_42 0 rfl ?_
        refine jx_if_eq (tgt := 52) E dX5_swap_43 (by decide) (fun hc10 => ?_) (fun hc10 => ?_)
        · rw [if_pos hc10] at hF
          refine jx_aload_n E dX5_swap_52 1 rfl ?_
          obtain ⟨⟨r11, v11⟩, hc11, hF⟩ := jx_bind hF
          try dsimp only at hF
          refine jx_callVi (As := []) (st := []) (h := 0) E dX5_swap_53 0 rfl (k_X5_findGains hI  v8 r11 v11 hc11) (gb_V (List.mem_cons_of_mem _ tw_432) (List.mem_cons_of_mem _ tw_433) (List.mem_cons_of_mem _ tw_434) (List.mem_cons_of_mem _ tw_325) tw_431) rfl rfl rfl dd_X5_findGains rfl (Nat.le_of_ble_eq_true rfl) s_M0 rfl ⟨by decide, by decide⟩ ⟨Nat.le_refl 0, Nat.le_refl 0⟩ (Nat.le_of_ble_eq_true rfl) ?_
          refine jx_istore (lv' := [(4, .int r11), (3, .int (-1000004)), (0, .ref (ad 0)), (1, .int x1), (2, .int x2)]) E dX5_swap_56 (by decide) rfl ?_
          refine jx_iconst (x := 0) E dX5_swap_58 (by decide) ?_
          refine jx_istore (lv' := [(5, .int 0), (4, .int r11), (3, .int (-1000004)), (0, .ref (ad 0)), (1, .int x1), (2, .int x2)]) E dX5_swap_59 (by decide) rfl ?_
          refine jx_sub [3, 4, 5, 2, 1, 0] rfl ?_
          exact (key 100000).1 x1 x2 (-1000004) r11 0 v11 hF
        · rw [if_neg hc10] at hF
          refine jx_aload_n E dX5_swap_46 1 rfl ?_
          refine jx_iload_n E dX5_swap_47 0 rfl ?_
          obtain ⟨⟨r12, v12⟩, hc12, hF⟩ := jx_bind hF
          try dsimp only at hF
          refine jx_callVi (As := [.int (-1000004)]) (st := []) (h := 0) E dX5_swap_48 1 rfl (k_X5_finds hI (-1000004) v8 r12 v12 hc12) (gb_V (List.mem_cons_of_mem _ tw_344) (List.mem_cons_of_mem _ tw_345) (List.mem_cons_of_mem _ tw_346) (List.mem_cons_of_mem _ tw_325) tw_343) rfl rfl rfl dd_X5_finds rfl (Nat.le_of_ble_eq_true rfl) s_M0 rfl ⟨by decide, by decide⟩ ⟨Nat.le_refl 0, Nat.le_refl 0⟩ (Nat.le_of_ble_eq_true rfl) ?_
          obtain ⟨rfl, rfl⟩ := jx_out hF
          exact jx_iret E dX5_swap_51 rfl
      · rw [if_neg hc9] at hF
        refine jx_aload_n E dX5_swap_27 0 rfl ?_
        refine jx_iload_n E dX5_swap_28 2 rfl ?_
        obtain ⟨⟨r13, v13⟩, hc13, hF⟩ := jx_bind hF
        try dsimp only at hF
        refine jx_callVi (As := [.int x2]) (st := []) (h := 0) E dX5_swap_29 1 rfl (k_X5_isThing hI x2 v8 r13 v13 hc13) (gb_V (List.mem_cons_of_mem _ tw_339) (List.mem_cons_of_mem _ tw_340) (List.mem_cons_of_mem _ tw_341) (List.mem_cons_of_mem _ tw_325) tw_338) rfl rfl rfl dd_X5_isThing rfl (Nat.le_of_ble_eq_true rfl) s_M0 rfl ⟨by decide, by decide⟩ ⟨Nat.le_refl 0, Nat.le_refl 0⟩ (Nat.le_of_ble_eq_true rfl) ?_
        refine jx_if_ne (tgt := 40) E dX5_swap_32 (by decide) (fun hc14 => ?_) (fun hc14 => ?_)
        · rw [if_neg hc14] at hF
          refine jx_iconst (x := 0) E dX5_swap_40 (by decide) ?_
          refine jx_istore_n (lv' := [(3, .int 0), (0, .ref (ad 0)), (1, .int x1), (2, .int x2)]) E dX5_swap_41 (by decide) rfl ?_
          refine jx_iload_n E dX5_swap_42 0 rfl ?_
          refine jx_if_eq (tgt := 52) E dX5_swap_43 (by decide) (fun hc15 => ?_) (fun hc15 => ?_)
          · rw [if_pos hc15] at hF
            refine jx_aload_n E dX5_swap_52 1 rfl ?_
            obtain ⟨⟨r16, v16⟩, hc16, hF⟩ := jx_bind hF
            try dsimp only at hF
            refine jx_callVi (As := []) (st := []) (h := 0) E dX5_swap_53 0 rfl (k_X5_findGains hI  v13 r16 v16 hc16) (gb_V (List.mem_cons_of_mem _ tw_432) (List.mem_cons_of_mem _ tw_433) (List.mem_cons_of_mem _ tw_434) (List.mem_cons_of_mem _ tw_325) tw_431) rfl rfl rfl dd_X5_findGains rfl (Nat.le_of_ble_eq_true rfl) s_M0 rfl ⟨by decide, by decide⟩ ⟨Nat.le_refl 0, Nat.le_refl 0⟩ (Nat.le_of_ble_eq_true rfl) ?_
            refine jx_istore (lv' := [(4, .int r16), (3, .int 0), (0, .ref (ad 0)), (1, .int x1), (2, .int x2)]) E dX5_swap_56 (by decide) rfl ?_
            refine jx_iconst (x := 0) E dX5_swap_58 (by decide) ?_
            refine jx_istore (lv' := [(5, .int 0), (4, .int r16), (3, .int 0), (0, .ref (ad 0)), (1, .int x1), (2, .int x2)]) E dX5_swap_59 (by decide) rfl ?_
            refine jx_sub [3, 4, 5, 2, 1, 0] rfl ?_
            exact (key 100000).1 x1 x2 0 r16 0 v16 hF
          · rw [if_neg hc15] at hF
            refine jx_aload_n E dX5_swap_46 1 rfl ?_
            refine jx_iload_n E dX5_swap_47 0 rfl ?_
            obtain ⟨⟨r17, v17⟩, hc17, hF⟩ := jx_bind hF
            try dsimp only at hF
            refine jx_callVi (As := [.int 0]) (st := []) (h := 0) E dX5_swap_48 1 rfl (k_X5_finds hI 0 v13 r17 v17 hc17) (gb_V (List.mem_cons_of_mem _ tw_344) (List.mem_cons_of_mem _ tw_345) (List.mem_cons_of_mem _ tw_346) (List.mem_cons_of_mem _ tw_325) tw_343) rfl rfl rfl dd_X5_finds rfl (Nat.le_of_ble_eq_true rfl) s_M0 rfl ⟨by decide, by decide⟩ ⟨Nat.le_refl 0, Nat.le_refl 0⟩ (Nat.le_of_ble_eq_true rfl) ?_
            obtain ⟨rfl, rfl⟩ := jx_out hF
            exact jx_iret E dX5_swap_51 rfl
        · rw [if_pos hc14] at hF
          refine jx_ldc (x := -1000004) E dX5_swap_35 (List.mem_cons_of_mem _ tw_365) ?_
          refine jx_goto (tgt := 41) E dX5_swap_37 (by decide) ?_
          refine jx_istore_n (lv' := [(3, .int (-1000004)), (0, .ref (ad 0)), (1, .int x1), (2, .int x2)]) E dX5_swap_41 (by decide) rfl ?_
          refine jx_iload_n E dX5_swap_42 0 rfl ?_
          refine jx_if_eq (tgt := 52) E dX5_swap_43 (by decide) (fun hc18 => ?_) (fun hc18 => ?_)
          · rw [if_pos hc18] at hF
            refine jx_aload_n E dX5_swap_52 1 rfl ?_
            obtain ⟨⟨r19, v19⟩, hc19, hF⟩ := jx_bind hF
            try dsimp only at hF
            refine jx_callVi (As := []) (st := []) (h := 0) E dX5_swap_53 0 rfl (k_X5_findGains hI  v13 r19 v19 hc19) (gb_V (List.mem_cons_of_mem _ tw_432) (List.mem_cons_of_mem _ tw_433) (List.mem_cons_of_mem _ tw_434) (List.mem_cons_of_mem _ tw_325) tw_431) rfl rfl rfl dd_X5_findGains rfl (Nat.le_of_ble_eq_true rfl) s_M0 rfl ⟨by decide, by decide⟩ ⟨Nat.le_refl 0, Nat.le_refl 0⟩ (Nat.le_of_ble_eq_true rfl) ?_
            refine jx_istore (lv' := [(4, .int r19), (3, .int (-1000004)), (0, .ref (ad 0)), (1, .int x1), (2, .int x2)]) E dX5_swap_56 (by decide) rfl ?_
            refine jx_iconst (x := 0) E dX5_swap_58 (by decide) ?_
            refine jx_istore (lv' := [(5, .int 0), (4, .int r19), (3, .int (-1000004)), (0, .ref (ad 0)), (1, .int x1), (2, .int x2)]) E dX5_swap_59 (by decide) rfl ?_
            refine jx_sub [3, 4, 5, 2, 1, 0] rfl ?_
            exact (key 100000).1 x1 x2 (-1000004) r19 0 v19 hF
          · rw [if_neg hc18] at hF
            refine jx_aload_n E dX5_swap_46 1 rfl ?_
            refine jx_iload_n E dX5_swap_47 0 rfl ?_
            obtain ⟨⟨r20, v20⟩, hc20, hF⟩ := jx_bind hF
            try dsimp only at hF
            refine jx_callVi (As := [.int (-1000004)]) (st := []) (h := 0) E dX5_swap_48 1 rfl (k_X5_finds hI (-1000004) v13 r20 v20 hc20) (gb_V (List.mem_cons_of_mem _ tw_344) (List.mem_cons_of_mem _ tw_345) (List.mem_cons_of_mem _ tw_346) (List.mem_cons_of_mem _ tw_325) tw_343) rfl rfl rfl dd_X5_finds rfl (Nat.le_of_ble_eq_true rfl) s_M0 rfl ⟨by decide, by decide⟩ ⟨Nat.le_refl 0, Nat.le_refl 0⟩ (Nat.le_of_ble_eq_true rfl) ?_
            obtain ⟨rfl, rfl⟩ := jx_out hF
            exact jx_iret E dX5_swap_51 rfl
    · rw [if_pos hc7] at hF
      refine jx_ldc (x := -1000001) E dX5_swap_14 (List.mem_cons_of_mem _ tw_320) ?_
      refine jx_goto (tgt := 41) E dX5_swap_16 (by decide) ?_
      refine jx_istore_n (lv' := [(3, .int (-1000001)), (0, .ref (ad 0)), (1, .int x1), (2, .int x2)]) E dX5_swap_41 (by decide) rfl ?_
      refine jx_iload_n E dX5_swap_42 0 rfl ?_
      refine jx_if_eq (tgt := 52) E dX5_swap_43 (by decide) (fun hc21 => ?_) (fun hc21 => ?_)
      · rw [if_pos hc21] at hF
        refine jx_aload_n E dX5_swap_52 1 rfl ?_
        obtain ⟨⟨r22, v22⟩, hc22, hF⟩ := jx_bind hF
        try dsimp only at hF
        refine jx_callVi (As := []) (st := []) (h := 0) E dX5_swap_53 0 rfl (k_X5_findGains hI  v6 r22 v22 hc22) (gb_V (List.mem_cons_of_mem _ tw_432) (List.mem_cons_of_mem _ tw_433) (List.mem_cons_of_mem _ tw_434) (List.mem_cons_of_mem _ tw_325) tw_431) rfl rfl rfl dd_X5_findGains rfl (Nat.le_of_ble_eq_true rfl) s_M0 rfl ⟨by decide, by decide⟩ ⟨Nat.le_refl 0, Nat.le_refl 0⟩ (Nat.le_of_ble_eq_true rfl) ?_
        refine jx_istore (lv' := [(4, .int r22), (3, .int (-1000001)), (0, .ref (ad 0)), (1, .int x1), (2, .int x2)]) E dX5_swap_56 (by decide) rfl ?_
        refine jx_iconst (x := 0) E dX5_swap_58 (by decide) ?_
        refine jx_istore (lv' := [(5, .int 0), (4, .int r22), (3, .int (-1000001)), (0, .ref (ad 0)), (1, .int x1), (2, .int x2)]) E dX5_swap_59 (by decide) rfl ?_
        refine jx_sub [3, 4, 5, 2, 1, 0] rfl ?_
        exact (key 100000).1 x1 x2 (-1000001) r22 0 v22 hF
      · rw [if_neg hc21] at hF
        refine jx_aload_n E dX5_swap_46 1 rfl ?_
        refine jx_iload_n E dX5_swap_47 0 rfl ?_
        obtain ⟨⟨r23, v23⟩, hc23, hF⟩ := jx_bind hF
        try dsimp only at hF
        refine jx_callVi (As := [.int (-1000001)]) (st := []) (h := 0) E dX5_swap_48 1 rfl (k_X5_finds hI (-1000001) v6 r23 v23 hc23) (gb_V (List.mem_cons_of_mem _ tw_344) (List.mem_cons_of_mem _ tw_345) (List.mem_cons_of_mem _ tw_346) (List.mem_cons_of_mem _ tw_325) tw_343) rfl rfl rfl dd_X5_finds rfl (Nat.le_of_ble_eq_true rfl) s_M0 rfl ⟨by decide, by decide⟩ ⟨Nat.le_refl 0, Nat.le_refl 0⟩ (Nat.le_of_ble_eq_true rfl) ?_
        obtain ⟨rfl, rfl⟩ := jx_out hF
        exact jx_iret E dX5_swap_51 rfl
