def f_X5_spill_L  : Nat → Nat → Int32 → Int32 → Int32 → Int32 → Int32 → jx_V → Option (Int32 × jx_V)
  | 0, _, _, _, _, _, _, _ => none
  | n + 1, tag, x1, x2, x3, x4, x5, v => (if tag = 0 then (if x1 ≤ x3 then ((f_X5_findGains v).bind (fun (r8, v8) => (some (r8, v8)))) else ((f_X5_draw v).bind (fun (r9, v9) => (if x2 = 0 then none else (f_X5_spill_L n 1 x1 x2 x3 (r9 - r9 / x2 * x2) 0 v9))))) else (if tag = 1 then ((f_X5_isThing x5 v).bind (fun (r11, v11) => (if r11 = 0 then ((f_X5_isThing x5 v11).bind (fun (r13, v13) => (if r13 = 0 then (f_X5_spill_L n 1 x1 x2 x3 (x4 - 0) (x5 + 1) v13) else (f_X5_spill_L n 1 x1 x2 x3 (x4 - 1) (x5 + 1) v13)))) else (if x4 ≤ 0 then ((f_X5_at x5 3 v11).bind (fun (r16, v16) => ((f_X5_draw v16).bind (fun (r17, v17) => (if (r16 < 0 ∨ 181 ≤ Int32.toNatClampNeg r16) then none else (f_X5_spill_L n 0 x1 x2 (x3 + 1) 0 0 (jx_up v17 1 (Int32.toNatClampNeg r16) (r17 - r17 / 4 * 4)))))))) else ((f_X5_isThing x5 v11).bind (fun (r19, v19) => (if r19 = 0 then (f_X5_spill_L n 1 x1 x2 x3 (x4 - 0) (x5 + 1) v19) else (f_X5_spill_L n 1 x1 x2 x3 (x4 - 1) (x5 + 1) v19)))))))) else none))
def f_X5_spill (x1 : Int32) (v : jx_V) : Option (Int32 × jx_V) := ((f_X5_in (Int32.toInt64 x1) 1 12 v).bind (fun (r1, v1) => (if r1 = 0 then ((f_X5_finds (-1000001) v1).bind (fun (r6, v6) => (some (r6, v6)))) else ((f_X5_things v1).bind (fun (r3, v3) => (if r3 = 0 then ((f_X5_finds (-1000005) v3).bind (fun (r5, v5) => (some (r5, v5)))) else (f_X5_spill_L 100000 0 x1 r3 0 0 0 v3)))))))
def rm_X5_spill : Room := { frames := 6, cells := 0, slots := 0, locals := 147 }
set_option maxHeartbeats 4000000 in
set_option maxRecDepth 100000 in
theorem k_X5_spill {l : Launch} {D : va_G} {cI cJ : ClassId} {ad : Nat → Nat} {A : Nat → Prop} (hI : jx_inj 13 ad A) (x1 : Int32) (v : jx_V) (r : Int32) (v' : jx_V) (hF : f_X5_spill x1 v = some (r, v')) : jx_Ci l D vwCl 13 cI cJ ad shM A ex_M yX5_spill (Cond.code yX5_spill cX5_spill 6 (some .int) :: bigT) rm_X5_spill [.ref (ad 0), .int x1] v r v' := by
  unfold f_X5_spill at hF
  refine jx_enteri bigT RX5 cX5_spill 6 (some .int) [(0, .ref (ad 0)), (1, .int x1)] hI (ex_M_ok A) (by decide +kernel) rfl (Nat.le_of_ble_eq_true rfl) rfl rfl ?_
  intro p e s m args below meth c E
  have iX5 : ∀ w ∈ u_ws RX5 TX5 21, w ∈ (Cond.code yX5_spill cX5_spill 6 (some .int) :: bigT) := fun w h => List.mem_cons_of_mem _ (uw_X5 w h)
  have key : ∀ n : Nat, (∀ (x1 : Int32) (x2 : Int32) (x3 : Int32) (v : jx_V), f_X5_spill_L  n 0 x1 x2 x3 0 0 v = some (r, v') → jx_J p l e rm_X5_spill s m args below meth c D vwCl 13 cI cJ ad shM A 0 0 6 (MQ below (va_Qi (fun (r1 : Int32) (_ : Unit) => r1 = r) (fun _ t => va_P D vwCl (jx_ws 13 cI cJ ad shM v') t.heap) A) args s 0 0 A) v 37 [(0, .ref (ad 0)), (1, .int x1), (2, .int x2), (3, .int x3)] []) ∧ (∀ (x1 : Int32) (x2 : Int32) (x3 : Int32) (x4 : Int32) (x5 : Int32) (v : jx_V), f_X5_spill_L  n 1 x1 x2 x3 x4 x5 v = some (r, v') → jx_J p l e rm_X5_spill s m args below meth c D vwCl 13 cI cJ ad shM A 0 0 6 (MQ below (va_Qi (fun (r1 : Int32) (_ : Unit) => r1 = r) (fun _ t => va_P D vwCl (jx_ws 13 cI cJ ad shM v') t.heap) A) args s 0 0 A) v 53 [(0, .ref (ad 0)), (1, .int x1), (2, .int x2), (3, .int x3), (4, .int x4), (5, .int x5)] []) := by
    intro n
    induction n with
    | zero =>
      exact ⟨(fun _ _ _ _ h => by cases h), (fun _ _ _ _ _ _ h => by cases h)⟩
    | succ n ih =>
      refine ⟨?_, ?_⟩
      · intro x1 x2 x3 v hF
        rw [f_X5_spill_L] at hF
        rw [if_pos rfl] at hF
        refine jx_iload_n E dX5_spill_37 3 rfl ?_
        refine jx_iload_n E dX5_spill_38 1 rfl ?_
        refine jx_icmp_ge (tgt := 115) E dX5_spill_39 (by decide) (fun hc7 => ?_) (fun hc7 => ?_)
        · rw [if_pos hc7] at hF
          refine jx_aload_n E dX5_spill_115 0 rfl ?_
          obtain ⟨⟨r8, v8⟩, hc8, hF⟩ := jx_bind hF
          try dsimp only at hF
          refine jx_callVi (As := []) (st := []) (h := 0) E dX5_spill_116 0 rfl (k_X5_findGains hI  v r8 v8 hc8) (gb_V (List.mem_cons_of_mem _ tw_432) (List.mem_cons_of_mem _ tw_433) (List.mem_cons_of_mem _ tw_434) (List.mem_cons_of_mem _ tw_325) tw_431) rfl rfl rfl dd_X5_findGains rfl (Nat.le_of_ble_eq_true rfl) s_M0 rfl ⟨by decide, by decide⟩ ⟨Nat.le_refl 0, Nat.le_refl 0⟩ (Nat.le_of_ble_eq_true rfl) ?_
          obtain ⟨rfl, rfl⟩ := jx_out hF
          exact jx_iret E dX5_spill_119 rfl
        · rw [if_neg hc7] at hF
          refine jx_aload_n E dX5_spill_42 0 rfl ?_
          obtain ⟨⟨r9, v9⟩, hc9, hF⟩ := jx_bind hF
          try dsimp only at hF
          refine jx_callVi (As := []) (st := []) (h := 0) E dX5_spill_43 0 rfl (k_X5_draw hI  v r9 v9 hc9) (gb_V (List.mem_cons_of_mem _ tw_492) (List.mem_cons_of_mem _ tw_493) (List.mem_cons_of_mem _ tw_494) (List.mem_cons_of_mem _ tw_325) tw_491) rfl rfl rfl dd_X5_draw rfl (Nat.le_of_ble_eq_true rfl) s_M0 rfl ⟨by decide, by decide⟩ ⟨Nat.le_refl 0, Nat.le_refl 0⟩ (Nat.le_of_ble_eq_true rfl) ?_
          refine jx_iload_n E dX5_spill_46 2 rfl ?_
          obtain ⟨hg10, hF⟩ := jx_guard hF
          refine jx_irem E dX5_spill_47 hg10 ?_
          refine jx_istore (lv' := [(4, .int (r9 - r9 / x2 * x2)), (0, .ref (ad 0)), (1, .int x1), (2, .int x2), (3, .int x3)]) E dX5_spill_48 (by decide) rfl ?_
          refine jx_iconst (x := 0) E dX5_spill_50 (by decide) ?_
          refine jx_istore (lv' := [(5, .int 0), (4, .int (r9 - r9 / x2 * x2)), (0, .ref (ad 0)), (1, .int x1), (2, .int x2), (3, .int x3)]) E dX5_spill_51 (by decide) rfl ?_
          refine jx_sub [2, 3, 4, 5, 1, 0] rfl ?_
          exact ih.2 x1 x2 x3 (r9 - r9 / x2 * x2) 0 v9 hF
      · intro x1 x2 x3 x4 x5 v hF
        rw [f_X5_spill_L] at hF
        rw [if_neg (by decide), if_pos rfl] at hF
        refine jx_aload_n E dX5_spill_53 0 rfl ?_
        refine jx_iload E dX5_spill_54 5 rfl ?_
        obtain ⟨⟨r11, v11⟩, hc11, hF⟩ := jx_bind hF
        try dsimp only at hF
        refine jx_callVi (As := [.int x5]) (st := []) (h := 0) E dX5_spill_56 1 rfl (k_X5_isThing hI x5 v r11 v11 hc11) (gb_V (List.mem_cons_of_mem _ tw_339) (List.mem_cons_of_mem _ tw_340) (List.mem_cons_of_mem _ tw_341) (List.mem_cons_of_mem _ tw_325) tw_338) rfl rfl rfl dd_X5_isThing rfl (Nat.le_of_ble_eq_true rfl) s_M0 rfl ⟨by decide, by decide⟩ ⟨Nat.le_refl 0, Nat.le_refl 0⟩ (Nat.le_of_ble_eq_true rfl) ?_
        refine jx_if_eq (tgt := 67) E dX5_spill_59 (by decide) (fun hc12 => ?_) (fun hc12 => ?_)
        · rw [if_pos hc12] at hF
          refine jx_iload E dX5_spill_67 4 rfl ?_
          refine jx_aload_n E dX5_spill_69 0 rfl ?_
          refine jx_iload E dX5_spill_70 5 rfl ?_
          obtain ⟨⟨r13, v13⟩, hc13, hF⟩ := jx_bind hF
          try dsimp only at hF
          refine jx_callVi (As := [.int x5]) (st := [.int x4]) (h := 0) E dX5_spill_72 1 rfl (k_X5_isThing hI x5 v11 r13 v13 hc13) (gb_V (List.mem_cons_of_mem _ tw_339) (List.mem_cons_of_mem _ tw_340) (List.mem_cons_of_mem _ tw_341) (List.mem_cons_of_mem _ tw_325) tw_338) rfl rfl rfl dd_X5_isThing rfl (Nat.le_of_ble_eq_true rfl) s_M0 rfl ⟨by decide, by decide⟩ ⟨Nat.le_refl 0, Nat.le_refl 0⟩ (Nat.le_of_ble_eq_true rfl) ?_
          refine jx_if_eq (tgt := 82) E dX5_spill_75 (by decide) (fun hc14 => ?_) (fun hc14 => ?_)
          · rw [if_pos hc14] at hF
            refine jx_iconst (x := 0) E dX5_spill_82 (by decide) ?_
            refine jx_isub E dX5_spill_83 ?_
            refine jx_istore (lv' := [(4, .int (x4 - 0)), (0, .ref (ad 0)), (1, .int x1), (2, .int x2), (3, .int x3), (5, .int x5)]) E dX5_spill_84 (by decide) rfl ?_
            refine jx_iinc (y := (x5 + 1)) (lv' := [(5, .int (x5 + 1)), (4, .int (x4 - 0)), (0, .ref (ad 0)), (1, .int x1), (2, .int x2), (3, .int x3)]) E dX5_spill_86 5 rfl rfl (by decide) rfl ?_
            refine jx_goto (tgt := 53) E dX5_spill_89 (by decide) ?_
            refine jx_sub [2, 3, 4, 5, 1, 0] rfl ?_
            exact ih.2 x1 x2 x3 (x4 - 0) (x5 + 1) v13 hF
          · rw [if_neg hc14] at hF
            refine jx_iconst (x := 1) E dX5_spill_78 (by decide) ?_
            refine jx_goto (tgt := 83) E dX5_spill_79 (by decide) ?_
            refine jx_isub E dX5_spill_83 ?_
            refine jx_istore (lv' := [(4, .int (x4 - 1)), (0, .ref (ad 0)), (1, .int x1), (2, .int x2), (3, .int x3), (5, .int x5)]) E dX5_spill_84 (by decide) rfl ?_
            refine jx_iinc (y := (x5 + 1)) (lv' := [(5, .int (x5 + 1)), (4, .int (x4 - 1)), (0, .ref (ad 0)), (1, .int x1), (2, .int x2), (3, .int x3)]) E dX5_spill_86 5 rfl rfl (by decide) rfl ?_
            refine jx_goto (tgt := 53) E dX5_spill_89 (by decide) ?_
            refine jx_sub [2, 3, 4, 5, 1, 0] rfl ?_
            exact ih.2 x1 x2 x3 (x4 - 1) (x5 + 1) v13 hF
        · rw [if_neg hc12] at hF
          refine jx_iload E dX5_spill_62 4 rfl ?_
          refine jx_if_le (tgt := 92) E dX5_spill_64 (by decide) (fun hc15 => ?_) (fun hc15 => ?_)
          · rw [if_pos hc15] at hF
            refine jx_aload_n E dX5_spill_92 0 rfl ?_
            refine jx_getr (C := RX5) (T := TX5) (M := 21) (k := 0) E dX5_spill_93 (Nat.le_of_ble_eq_true rfl) s_M0 rfl iX5 (by decide) rfl (List.mem_cons_of_mem _ tw_328) rfl ?_
            refine jx_iload E dX5_spill_96 5 rfl ?_
            refine jx_iconst (x := 3) E dX5_spill_98 (by decide) ?_
            obtain ⟨⟨r16, v16⟩, hc16, hF⟩ := jx_bind hF
            try dsimp only at hF
            refine jx_callSi (As := [.int x5, .int 3]) (st := [.ref (ad 1)]) E dX5_spill_99 2 rfl (k_X5_at hI x5 3 v11 r16 v16 hc16) (gb_S (List.mem_cons_of_mem _ tw_332) (List.mem_cons_of_mem _ tw_333) (List.mem_cons_of_mem _ tw_325) tw_331) rfl rfl rfl dd_X5_at rfl ⟨by decide, by decide⟩ ⟨Nat.le_refl 0, Nat.le_refl 0⟩ (Nat.le_of_ble_eq_true rfl) ?_
            refine jx_aload_n E dX5_spill_102 0 rfl ?_
            obtain ⟨⟨r17, v17⟩, hc17, hF⟩ := jx_bind hF
            try dsimp only at hF
            refine jx_callVi (As := []) (st := [.int r16, .ref (ad 1)]) (h := 0) E dX5_spill_103 0 rfl (k_X5_draw hI  v16 r17 v17 hc17) (gb_V (List.mem_cons_of_mem _ tw_492) (List.mem_cons_of_mem _ tw_493) (List.mem_cons_of_mem _ tw_494) (List.mem_cons_of_mem _ tw_325) tw_491) rfl rfl rfl dd_X5_draw rfl (Nat.le_of_ble_eq_true rfl) s_M0 rfl ⟨by decide, by decide⟩ ⟨Nat.le_refl 0, Nat.le_refl 0⟩ (Nat.le_of_ble_eq_true rfl) ?_
            refine jx_iconst (x := 4) E dX5_spill_106 (by decide) ?_
            refine jx_irem E dX5_spill_107 (by decide) ?_
            obtain ⟨hg18, hF⟩ := jx_guard hF
            refine jx_iast (h := 1) (j := (Int32.toNatClampNeg r16)) E dX5_spill_108 (Nat.le_of_ble_eq_true rfl) s_M1 hg18 rfl ?_
            refine jx_iinc (y := (x3 + 1)) (lv' := [(3, .int (x3 + 1)), (0, .ref (ad 0)), (1, .int x1), (2, .int x2), (4, .int x4), (5, .int x5)]) E dX5_spill_109 3 rfl rfl (by decide) rfl ?_
            refine jx_goto (tgt := 37) E dX5_spill_112 (by decide) ?_
            refine jx_sub [1, 2, 3, 0] rfl ?_
            exact ih.1 x1 x2 (x3 + 1) (jx_up v17 1 (Int32.toNatClampNeg r16) (r17 - r17 / 4 * 4)) hF
          · rw [if_neg hc15] at hF
            refine jx_iload E dX5_spill_67 4 rfl ?_
            refine jx_aload_n E dX5_spill_69 0 rfl ?_
            refine jx_iload E dX5_spill_70 5 rfl ?_
            obtain ⟨⟨r19, v19⟩, hc19, hF⟩ := jx_bind hF
            try dsimp only at hF
            refine jx_callVi (As := [.int x5]) (st := [.int x4]) (h := 0) E dX5_spill_72 1 rfl (k_X5_isThing hI x5 v11 r19 v19 hc19) (gb_V (List.mem_cons_of_mem _ tw_339) (List.mem_cons_of_mem _ tw_340) (List.mem_cons_of_mem _ tw_341) (List.mem_cons_of_mem _ tw_325) tw_338) rfl rfl rfl dd_X5_isThing rfl (Nat.le_of_ble_eq_true rfl) s_M0 rfl ⟨by decide, by decide⟩ ⟨Nat.le_refl 0, Nat.le_refl 0⟩ (Nat.le_of_ble_eq_true rfl) ?_
            refine jx_if_eq (tgt := 82) E dX5_spill_75 (by decide) (fun hc20 => ?_) (fun hc20 => ?_)
            · rw [if_pos hc20] at hF
              refine jx_iconst (x := 0) E dX5_spill_82 (by decide) ?_
              refine jx_isub E dX5_spill_83 ?_
              refine jx_istore (lv' := [(4, .int (x4 - 0)), (0, .ref (ad 0)), (1, .int x1), (2, .int x2), (3, .int x3), (5, .int x5)]) E dX5_spill_84 (by decide) rfl ?_
              refine jx_iinc (y := (x5 + 1)) (lv' := [(5, .int (x5 + 1)), (4, .int (x4 - 0)), (0, .ref (ad 0)), (1, .int x1), (2, .int x2), (3, .int x3)]) E dX5_spill_86 5 rfl rfl (by decide) rfl ?_
              refine jx_goto (tgt := 53) E dX5_spill_89 (by decide) ?_
              refine jx_sub [2, 3, 4, 5, 1, 0] rfl ?_
              exact ih.2 x1 x2 x3 (x4 - 0) (x5 + 1) v19 hF
            · rw [if_neg hc20] at hF
              refine jx_iconst (x := 1) E dX5_spill_78 (by decide) ?_
              refine jx_goto (tgt := 83) E dX5_spill_79 (by decide) ?_
              refine jx_isub E dX5_spill_83 ?_
              refine jx_istore (lv' := [(4, .int (x4 - 1)), (0, .ref (ad 0)), (1, .int x1), (2, .int x2), (3, .int x3), (5, .int x5)]) E dX5_spill_84 (by decide) rfl ?_
              refine jx_iinc (y := (x5 + 1)) (lv' := [(5, .int (x5 + 1)), (4, .int (x4 - 1)), (0, .ref (ad 0)), (1, .int x1), (2, .int x2), (3, .int x3)]) E dX5_spill_86 5 rfl rfl (by decide) rfl ?_
              refine jx_goto (tgt := 53) E dX5_spill_89 (by decide) ?_
              refine jx_sub [2, 3, 4, 5, 1, 0] rfl ?_
              exact ih.2 x1 x2 x3 (x4 - 1) (x5 + 1) v19 hF
  refine jx_iload_n E dX5_spill_0 1 rfl ?_
  refine jx_i2l E dX5_spill_1 ?_
  refine jx_lconst (x := 1) E dX5_spill_2 (by decide) ?_
  refine jx_ldc2 (x := 12) E dX5_spill_3 (List.mem_cons_of_mem _ tw_490) ?_
  obtain ⟨⟨r1, v1⟩, hc1, hF⟩ := jx_bind hF
  try dsimp only at hF
  refine jx_callSi (As := [.long (Int32.toInt64 x1), .long 1, .long 12]) (st := []) E dX5_spill_6 3 rfl (k_X5_in hI (Int32.toInt64 x1) 1 12 v r1 v1 hc1) (gb_S (List.mem_cons_of_mem _ tw_323) (List.mem_cons_of_mem _ tw_324) (List.mem_cons_of_mem _ tw_325) tw_322) rfl rfl rfl dd_X5_in rfl ⟨by decide, by decide⟩ ⟨Nat.le_refl 0, Nat.le_refl 0⟩ (Nat.le_of_ble_eq_true rfl) ?_
  refine jx_if_ne (tgt := 19) E dX5_spill_9 (by decide) (fun hc2 => ?_) (fun hc2 => ?_)
  · rw [if_neg hc2] at hF
    refine jx_aload_n E dX5_spill_19 0 rfl ?_
    obtain ⟨⟨r3, v3⟩, hc3, hF⟩ := jx_bind hF
    try dsimp only at hF
    refine jx_callVi (As := []) (st := []) (h := 0) E dX5_spill_20 0 rfl (k_X5_things hI  v1 r3 v3 hc3) (gb_V (List.mem_cons_of_mem _ tw_361) (List.mem_cons_of_mem _ tw_362) (List.mem_cons_of_mem _ tw_363) (List.mem_cons_of_mem _ tw_325) tw_360) rfl rfl rfl dd_X5_things rfl (Nat.le_of_ble_eq_true rfl) s_M0 rfl ⟨by decide, by decide⟩ ⟨Nat.le_refl 0, Nat.le_refl 0⟩ (Nat.le_of_ble_eq_true rfl) ?_
    refine jx_istore_n (lv' := [(2, .int r3), (0, .ref (ad 0)), (1, .int x1)]) E dX5_spill_23 (by decide) rfl ?_
    refine jx_iload_n E dX5_spill_24 0 rfl ?_
    refine jx_if_ne (tgt := 35) E dX5_spill_25 (by decide) (fun hc4 => ?_) (fun hc4 => ?_)
    · rw [if_neg hc4] at hF
      refine jx_iconst (x := 0) E dX5_spill_35 (by decide) ?_
      refine jx_istore_n (lv' := [(3, .int 0), (2, .int r3), (0, .ref (ad 0)), (1, .int x1)]) E dX5_spill_36 (by decide) rfl ?_
      refine jx_sub [2, 3, 1, 0] rfl ?_
      exact (key 100000).1 x1 r3 0 v3 hF
    · rw [if_pos hc4] at hF
      refine jx_aload_n E dX5_spill_28 1 rfl ?_
      refine jx_ldc (x := -1000005) E dX5_spill_29 (List.mem_cons_of_mem _ tw_364) ?_
      obtain ⟨⟨r5, v5⟩, hc5, hF⟩ := jx_bind hF
      try dsimp only at hF
      refine jx_callVi (As := [.int (-1000005)]) (st := []) (h := 0) E dX5_spill_31 1 rfl (k_X5_finds hI (-1000005) v3 r5 v5 hc5) (gb_V (List.mem_cons_of_mem _ tw_344) (List.mem_cons_of_mem _ tw_345) (List.mem_cons_of_mem _ tw_346) (List.mem_cons_of_mem _ tw_325) tw_343) rfl rfl rfl dd_X5_finds rfl (Nat.le_of_ble_eq_true rfl) s_M0 rfl ⟨by decide, by decide⟩ ⟨Nat.le_refl 0, Nat.le_refl 0⟩ (Nat.le_of_ble_eq_true rfl) ?_
      obtain ⟨rfl, rfl⟩ := jx_out hF
      exact jx_iret E dX5_spill_34 rfl
  · rw [if_pos hc2] at hF
    refine jx_aload_n E dX5_spill_12 0 rfl ?_
    refine jx_ldc (x := -1000001) E dX5_spill_13 (List.mem_cons_of_mem _ tw_320) ?_
    obtain ⟨⟨r6, v6⟩, hc6, hF⟩ := jx_bind hF
    try dsimp only at hF
    refine jx_callVi (As := [.int (-1000001)]) (st := []) (h := 0) E dX5_spill_15 1 rfl (k_X5_finds hI (-1000001) v1 r6 v6 hc6) (gb_V (List.mem_cons_of_mem _ tw_344) (List.mem_cons_of_mem _ tw_345) (List.mem_cons_of_mem _ tw_346) (List.mem_cons_of_mem _ tw_325) tw_343) rfl rfl rfl dd_X5_finds rfl (Nat.le_of_ble_eq_true rfl) s_M0 rfl ⟨by decide, by decide⟩ ⟨Nat.le_refl 0, Nat.le_refl 0⟩ (Nat.le_of_ble_eq_true rfl) ?_
    obtain ⟨rfl, rfl⟩ := jx_out hF
    exact jx_iret E dX5_spill_18 rfl
def f_X5_seed (x1 : Int32) (v : jx_V) : Option (Int32 × jx_V) := (some ((v 1 2), (jx_up v 1 2 x1)))
def rm_X5_seed : Room := { frames := 0, cells := 0, slots := 0, locals := 0 }
set_option maxHeartbeats 4000000 in
set_option maxRecDepth 100000 in
theorem k_X5_seed {l : Launch} {D : va_G} {cI cJ : ClassId} {ad : Nat → Nat} {A : Nat → Prop} (hI : jx_inj 13 ad A) (x1 : Int32) (v : jx_V) (r : Int32) (v' : jx_V) (hF : f_X5_seed x1 v = some (r, v')) : jx_Ci l D vwCl 13 cI cJ ad shM A ex_M yX5_seed (Cond.code yX5_seed cX5_seed 3 (some .int) :: bigT) rm_X5_seed [.ref (ad 0), .int x1] v r v' := by
  unfold f_X5_seed at hF
  refine jx_enteri bigT RX5 cX5_seed 3 (some .int) [(0, .ref (ad 0)), (1, .int x1)] hI (ex_M_ok A) (by decide +kernel) rfl (Nat.le_of_ble_eq_true rfl) rfl rfl ?_
  intro p e s m args below meth c E
  have iX5 : ∀ w ∈ u_ws RX5 TX5 21, w ∈ (Cond.code yX5_seed cX5_seed 3 (some .int) :: bigT) := fun w h => List.mem_cons_of_mem _ (uw_X5 w h)
  refine jx_aload_n E dX5_seed_0 0 rfl ?_
  refine jx_getr (C := RX5) (T := TX5) (M := 21) (k := 0) E dX5_seed_1 (Nat.le_of_ble_eq_true rfl) s_M0 rfl iX5 (by decide) rfl (List.mem_cons_of_mem _ tw_328) rfl ?_
  refine jx_iconst (x := 2) E dX5_seed_4 (by decide) ?_
  refine jx_iald (h := 1) (j := 2) E dX5_seed_5 (Nat.le_of_ble_eq_true rfl) s_M1 (by decide) (by decide) ?_
  refine jx_istore_n (lv' := [(2, .int (v 1 2)), (0, .ref (ad 0)), (1, .int x1)]) E dX5_seed_6 (by decide) rfl ?_
  refine jx_aload_n E dX5_seed_7 1 rfl ?_
  refine jx_getr (C := RX5) (T := TX5) (M := 21) (k := 0) E dX5_seed_8 (Nat.le_of_ble_eq_true rfl) s_M0 rfl iX5 (by decide) rfl (List.mem_cons_of_mem _ tw_328) rfl ?_
  refine jx_iconst (x := 2) E dX5_seed_11 (by decide) ?_
  refine jx_iload_n E dX5_seed_12 2 rfl ?_
  refine jx_iast (h := 1) (j := 2) E dX5_seed_13 (Nat.le_of_ble_eq_true rfl) s_M1 (by decide) (by decide) ?_
  refine jx_iload_n E dX5_seed_14 0 rfl ?_
  obtain ⟨rfl, rfl⟩ := jx_out hF
  exact jx_iret E dX5_seed_15 rfl
def f_X5_feed_L  : Nat → Int32 → Int32 → Int32 → jx_V → Option (Int32 × jx_V)
  | 0, _, _, _, _ => none
  | n + 1, x1, x2, x3, v => (if x3 < 0 then (some ((v 0 12), v)) else (if ((v 0 12) < 0 ∨ 120 ≤ Int32.toNatClampNeg (v 0 12)) then none else (f_X5_feed_L n x1 x2 (x3 + (-1)) (jx_up (jx_up v 8 (Int32.toNatClampNeg (v 0 12)) ((x1 >>> ((8 * x3) &&& 31)) &&& 255)) 0 12 (((jx_up v 8 (Int32.toNatClampNeg (v 0 12)) ((x1 >>> ((8 * x3) &&& 31)) &&& 255)) 0 12) + 1)))))
def f_X5_feed (x1 : Int32) (x2 : Int32) (v : jx_V) : Option (Int32 × jx_V) := ((f_X5_in (Int32.toInt64 x2) 1 4 v).bind (fun (r1, v1) => (if r1 = 0 then ((f_X5_finds (-1000001) v1).bind (fun (r5, v5) => (some (r5, v5)))) else (if ((v1 0 12) + x2) ≤ 120 then (f_X5_feed_L 100000 x1 x2 (x2 - 1) v1) else ((f_X5_finds (-1000002) v1).bind (fun (r4, v4) => (some (r4, v4))))))))
def rm_X5_feed : Room := { frames := 1, cells := 0, slots := 0, locals := 25 }
set_option maxHeartbeats 4000000 in
set_option maxRecDepth 100000 in
theorem k_X5_feed {l : Launch} {D : va_G} {cI cJ : ClassId} {ad : Nat → Nat} {A : Nat → Prop} (hI : jx_inj 13 ad A) (x1 : Int32) (x2 : Int32) (v : jx_V) (r : Int32) (v' : jx_V) (hF : f_X5_feed x1 x2 v = some (r, v')) : jx_Ci l D vwCl 13 cI cJ ad shM A ex_M yX5_feed (Cond.code yX5_feed cX5_feed 4 (some .int) :: bigT) rm_X5_feed [.ref (ad 0), .int x1, .int x2] v r v' := by
  unfold f_X5_feed at hF
  refine jx_enteri bigT RX5 cX5_feed 4 (some .int) [(0, .ref (ad 0)), (1, .int x1), (2, .int x2)] hI (ex_M_ok A) (by decide +kernel) rfl (Nat.le_of_ble_eq_true rfl) rfl rfl ?_
  intro p e s m args below meth c E
  have iX5 : ∀ w ∈ u_ws RX5 TX5 21, w ∈ (Cond.code yX5_feed cX5_feed 4 (some .int) :: bigT) := fun w h => List.mem_cons_of_mem _ (uw_X5 w h)
  have key : ∀ n : Nat, (∀ (x1 : Int32) (x2 : Int32) (x3 : Int32) (v : jx_V), f_X5_feed_L  n  x1 x2 x3 v = some (r, v') → jx_J p l e rm_X5_feed s m args below meth c D vwCl 13 cI cJ ad shM A 0 0 4 (MQ below (va_Qi (fun (r1 : Int32) (_ : Unit) => r1 = r) (fun _ t => va_P D vwCl (jx_ws 13 cI cJ ad shM v') t.heap) A) args s 0 0 A) v 41 [(0, .ref (ad 0)), (1, .int x1), (2, .int x2), (3, .int x3)] []) := by
    intro n
    induction n with
    | zero =>
      exact (fun _ _ _ _ h => by cases h)
    | succ n ih =>
      intro x1 x2 x3 v hF
      rw [f_X5_feed_L] at hF
      refine jx_iload_n E dX5_feed_41 3 rfl ?_
      refine jx_if_lt (tgt := 80) E dX5_feed_42 (by decide) (fun hc6 => ?_) (fun hc6 => ?_)
      · rw [if_pos hc6] at hF
        refine jx_aload_n E dX5_feed_80 0 rfl ?_
        refine jx_geti (C := RX5) (T := TX5) (M := 21) (k := 12) E dX5_feed_81 (Nat.le_of_ble_eq_true rfl) s_M0 rfl iX5 (by decide) rfl (List.mem_cons_of_mem _ tw_495) rfl ?_
        obtain ⟨rfl, rfl⟩ := jx_out hF
        exact jx_iret E dX5_feed_84 rfl
      · rw [if_neg hc6] at hF
        refine jx_aload_n E dX5_feed_45 0 rfl ?_
        refine jx_getr (C := RX5) (T := TX5) (M := 21) (k := 11) E dX5_feed_46 (Nat.le_of_ble_eq_true rfl) s_M0 rfl iX5 (by decide) rfl (List.mem_cons_of_mem _ tw_496) rfl ?_
        refine jx_aload_n E dX5_feed_49 0 rfl ?_
        refine jx_geti (C := RX5) (T := TX5) (M := 21) (k := 12) E dX5_feed_50 (Nat.le_of_ble_eq_true rfl) s_M0 rfl iX5 (by decide) rfl (List.mem_cons_of_mem _ tw_495) rfl ?_
        refine jx_iload_n E dX5_feed_53 1 rfl ?_
        refine jx_bipush (x := 8) E dX5_feed_54 (by decide) ?_
        refine jx_iload_n E dX5_feed_56 3 rfl ?_
        refine jx_imul E dX5_feed_57 ?_
        refine jx_ishr E dX5_feed_58 ?_
        refine jx_sipush (x := 255) E dX5_feed_59 (by decide) ?_
        refine jx_iand E dX5_feed_62 ?_
        obtain ⟨hg7, hF⟩ := jx_guard hF
        refine jx_iast (h := 8) (j := (Int32.toNatClampNeg (v 0 12))) E dX5_feed_63 (Nat.le_of_ble_eq_true rfl) s_M8 hg7 rfl ?_
        refine jx_aload_n E dX5_feed_64 0 rfl ?_
        refine jx_dup E dX5_feed_65 rfl ?_
        refine jx_geti (C := RX5) (T := TX5) (M := 21) (k := 12) E dX5_feed_66 (Nat.le_of_ble_eq_true rfl) s_M0 rfl iX5 (by decide) rfl (List.mem_cons_of_mem _ tw_495) rfl ?_
        refine jx_iconst (x := 1) E dX5_feed_69 (by decide) ?_
        refine jx_iadd E dX5_feed_70 ?_
        refine jx_puti (C := RX5) (T := TX5) (M := 21) (k := 12) (ty := .int) E tyX5 dX5_feed_71 (Nat.le_of_ble_eq_true rfl) s_M0 rfl iX5 (by decide) rfl (List.mem_cons_of_mem _ tw_495) tyX5_ok nmX5 rfl (by decide +kernel) rfl rfl rfl ?_
        refine jx_iinc (y := (x3 + (-1))) (lv' := [(3, .int (x3 + (-1))), (0, .ref (ad 0)), (1, .int x1), (2, .int x2)]) E dX5_feed_74 3 rfl rfl (by decide) rfl ?_
        refine jx_goto (tgt := 41) E dX5_feed_77 (by decide) ?_
        refine jx_sub [1, 2, 3, 0] rfl ?_
        exact ih x1 x2 (x3 + (-1)) (jx_up (jx_up v 8 (Int32.toNatClampNeg (v 0 12)) ((x1 >>> ((8 * x3) &&& 31)) &&& 255)) 0 12 (((jx_up v 8 (Int32.toNatClampNeg (v 0 12)) ((x1 >>> ((8 * x3) &&& 31)) &&& 255)) 0 12) + 1)) hF
  refine jx_iload_n E dX5_feed_0 2 rfl ?_
  refine jx_i2l E dX5_feed_1 ?_
  refine jx_lconst (x := 1) E dX5_feed_2 (by decide) ?_
  refine jx_ldc2 (x := 4) E dX5_feed_3 (List.mem_cons_of_mem _ tw_405) ?_
  obtain ⟨⟨r1, v1⟩, hc1, hF⟩ := jx_bind hF
  try dsimp only at hF
  refine jx_callSi (As := [.long (Int32.toInt64 x2), .long 1, .long 4]) (st := []) E dX5_feed_6 3 rfl (k_X5_in hI (Int32.toInt64 x2) 1 4 v r1 v1 hc1) (gb_S (List.mem_cons_of_mem _ tw_323) (List.mem_cons_of_mem _ tw_324) (List.mem_cons_of_mem _ tw_325) tw_322) rfl rfl rfl dd_X5_in rfl ⟨by decide, by decide⟩ ⟨Nat.le_refl 0, Nat.le_refl 0⟩ (Nat.le_of_ble_eq_true rfl) ?_
  refine jx_if_ne (tgt := 19) E dX5_feed_9 (by decide) (fun hc2 => ?_) (fun hc2 => ?_)
  · rw [if_neg hc2] at hF
    refine jx_aload_n E dX5_feed_19 0 rfl ?_
    refine jx_geti (C := RX5) (T := TX5) (M := 21) (k := 12) E dX5_feed_20 (Nat.le_of_ble_eq_true rfl) s_M0 rfl iX5 (by decide) rfl (List.mem_cons_of_mem _ tw_495) rfl ?_
    refine jx_iload_n E dX5_feed_23 2 rfl ?_
    refine jx_iadd E dX5_feed_24 ?_
    refine jx_bipush (x := 120) E dX5_feed_25 (by decide) ?_
    refine jx_icmp_le (tgt := 37) E dX5_feed_27 (by decide) (fun hc3 => ?_) (fun hc3 => ?_)
    · rw [if_pos hc3] at hF
      refine jx_iload_n E dX5_feed_37 2 rfl ?_
      refine jx_iconst (x := 1) E dX5_feed_38 (by decide) ?_
      refine jx_isub E dX5_feed_39 ?_
      refine jx_istore_n (lv' := [(3, .int (x2 - 1)), (0, .ref (ad 0)), (1, .int x1), (2, .int x2)]) E dX5_feed_40 (by decide) rfl ?_
      refine jx_sub [1, 2, 3, 0] rfl ?_
      exact (key 100000) x1 x2 (x2 - 1) v1 hF
    · rw [if_neg hc3] at hF
      refine jx_aload_n E dX5_feed_30 0 rfl ?_
      refine jx_ldc (x := -1000002) E dX5_feed_31 (List.mem_cons_of_mem _ tw_395) ?_
      obtain ⟨⟨r4, v4⟩, hc4, hF⟩ := jx_bind hF
      try dsimp only at hF
      refine jx_callVi (As := [.int (-1000002)]) (st := []) (h := 0) E dX5_feed_33 1 rfl (k_X5_finds hI (-1000002) v1 r4 v4 hc4) (gb_V (List.mem_cons_of_mem _ tw_344) (List.mem_cons_of_mem _ tw_345) (List.mem_cons_of_mem _ tw_346) (List.mem_cons_of_mem _ tw_325) tw_343) rfl rfl rfl dd_X5_finds rfl (Nat.le_of_ble_eq_true rfl) s_M0 rfl ⟨by decide, by decide⟩ ⟨Nat.le_refl 0, Nat.le_refl 0⟩ (Nat.le_of_ble_eq_true rfl) ?_
      obtain ⟨rfl, rfl⟩ := jx_out hF
      exact jx_iret E dX5_feed_36 rfl
  · rw [if_pos hc2] at hF
    refine jx_aload_n E dX5_feed_12 0 rfl ?_
    refine jx_ldc (x := -1000001) E dX5_feed_13 (List.mem_cons_of_mem _ tw_320) ?_
    obtain ⟨⟨r5, v5⟩, hc5, hF⟩ := jx_bind hF
    try dsimp only at hF
    refine jx_callVi (As := [.int (-1000001)]) (st := []) (h := 0) E dX5_feed_15 1 rfl (k_X5_finds hI (-1000001) v1 r5 v5 hc5) (gb_V (List.mem_cons_of_mem _ tw_344) (List.mem_cons_of_mem _ tw_345) (List.mem_cons_of_mem _ tw_346) (List.mem_cons_of_mem _ tw_325) tw_343) rfl rfl rfl dd_X5_finds rfl (Nat.le_of_ble_eq_true rfl) s_M0 rfl ⟨by decide, by decide⟩ ⟨Nat.le_refl 0, Nat.le_refl 0⟩ (Nat.le_of_ble_eq_true rfl) ?_
    obtain ⟨rfl, rfl⟩ := jx_out hF
    exact jx_iret E dX5_feed_18 rfl
def f_X5_wipe  (v : jx_V) : Option (Int32 × jx_V) := (some ((v 0 12), (jx_up v 0 12 0)))
def rm_X5_wipe : Room := { frames := 0, cells := 0, slots := 0, locals := 0 }
set_option maxHeartbeats 4000000 in
set_option maxRecDepth 100000 in
theorem k_X5_wipe {l : Launch} {D : va_G} {cI cJ : ClassId} {ad : Nat → Nat} {A : Nat → Prop} (hI : jx_inj 13 ad A)  (v : jx_V) (r : Int32) (v' : jx_V) (hF : f_X5_wipe  v = some (r, v')) : jx_Ci l D vwCl 13 cI cJ ad shM A ex_M yX5_wipe (Cond.code yX5_wipe cX5_wipe 2 (some .int) :: bigT) rm_X5_wipe [.ref (ad 0)] v r v' := by
  unfold f_X5_wipe at hF
  refine jx_enteri bigT RX5 cX5_wipe 2 (some .int) [(0, .ref (ad 0))] hI (ex_M_ok A) (by decide +kernel) rfl (Nat.le_of_ble_eq_true rfl) rfl rfl ?_
  intro p e s m args below meth c E
  have iX5 : ∀ w ∈ u_ws RX5 TX5 21, w ∈ (Cond.code yX5_wipe cX5_wipe 2 (some .int) :: bigT) := fun w h => List.mem_cons_of_mem _ (uw_X5 w h)
  refine jx_aload_n E dX5_wipe_0 0 rfl ?_
  refine jx_geti (C := RX5) (T := TX5) (M := 21) (k := 12) E dX5_wipe_1 (Nat.le_of_ble_eq_true rfl) s_M0 rfl iX5 (by decide) rfl (List.mem_cons_of_mem _ tw_495) rfl ?_
  refine jx_istore_n (lv' := [(1, .int (v 0 12)), (0, .ref (ad 0))]) E dX5_wipe_4 (by decide) rfl ?_
  refine jx_aload_n E dX5_wipe_5 1 rfl ?_
  refine jx_iconst (x := 0) E dX5_wipe_6 (by decide) ?_
  refine jx_puti (C := RX5) (T := TX5) (M := 21) (k := 12) (ty := .int) E tyX5 dX5_wipe_7 (Nat.le_of_ble_eq_true rfl) s_M0 rfl iX5 (by decide) rfl (List.mem_cons_of_mem _ tw_495) tyX5_ok nmX5 rfl (by decide +kernel) rfl rfl rfl ?_
  refine jx_iload_n E dX5_wipe_10 0 rfl ?_
  obtain ⟨rfl, rfl⟩ := jx_out hF
  exact jx_iret E dX5_wipe_11 rfl
def f_X5_byteAt (x1 : Int32) (v : jx_V) : Option (Int32 × jx_V) := (if (v 0 12) ≤ x1 then (some ((-1), v)) else (if (x1 < 0 ∨ 120 ≤ Int32.toNatClampNeg x1) then none else (some ((v 8 (Int32.toNatClampNeg x1)), v))))
def rm_X5_byteAt : Room := { frames := 0, cells := 0, slots := 0, locals := 0 }
set_option maxHeartbeats 4000000 in
set_option maxRecDepth 100000 in
theorem k_X5_byteAt {l : Launch} {D : va_G} {cI cJ : ClassId} {ad : Nat → Nat} {A : Nat → Prop} (hI : jx_inj 13 ad A) (x1 : Int32) (v : jx_V) (r : Int32) (v' : jx_V) (hF : f_X5_byteAt x1 v = some (r, v')) : jx_Ci l D vwCl 13 cI cJ ad shM A ex_M yX5_byteAt (Cond.code yX5_byteAt cX5_byteAt 2 (some .int) :: bigT) rm_X5_byteAt [.ref (ad 0), .int x1] v r v' := by
  unfold f_X5_byteAt at hF
  refine jx_enteri bigT RX5 cX5_byteAt 2 (some .int) [(0, .ref (ad 0)), (1, .int x1)] hI (ex_M_ok A) (by decide +kernel) rfl (Nat.le_of_ble_eq_true rfl) rfl rfl ?_
  intro p e s m args below meth c E
  have iX5 : ∀ w ∈ u_ws RX5 TX5 21, w ∈ (Cond.code yX5_byteAt cX5_byteAt 2 (some .int) :: bigT) := fun w h => List.mem_cons_of_mem _ (uw_X5 w h)
  refine jx_iload_n E dX5_byteAt_0 1 rfl ?_
  refine jx_aload_n E dX5_byteAt_1 0 rfl ?_
  refine jx_geti (C := RX5) (T := TX5) (M := 21) (k := 12) E dX5_byteAt_2 (Nat.le_of_ble_eq_true rfl) s_M0 rfl iX5 (by decide) rfl (List.mem_cons_of_mem _ tw_495) rfl ?_
  refine jx_icmp_ge (tgt := 17) E dX5_byteAt_5 (by decide) (fun hc1 => ?_) (fun hc1 => ?_)
  · rw [if_pos hc1] at hF
    refine jx_iconst (x := -1) E dX5_byteAt_17 (by decide) ?_
    obtain ⟨rfl, rfl⟩ := jx_out hF
    exact jx_iret E dX5_byteAt_18 rfl
  · rw [if_neg hc1] at hF
    refine jx_aload_n E dX5_byteAt_8 0 rfl ?_
    refine jx_getr (C := RX5) (T := TX5) (M := 21) (k := 11) E dX5_byteAt_9 (Nat.le_of_ble_eq_true rfl) s_M0 rfl iX5 (by decide) rfl (List.mem_cons_of_mem _ tw_496) rfl ?_
    refine jx_iload_n E dX5_byteAt_12 1 rfl ?_
    obtain ⟨hg2, hF⟩ := jx_guard hF
    refine jx_iald (h := 8) (j := (Int32.toNatClampNeg x1)) E dX5_byteAt_13 (Nat.le_of_ble_eq_true rfl) s_M8 hg2 rfl ?_
    refine jx_goto (tgt := 18) E dX5_byteAt_14 (by decide) ?_
    obtain ⟨rfl, rfl⟩ := jx_out hF
    exact jx_iret E dX5_byteAt_18 rfl
def f_X5_isLetter (x0 : Int32) (v : jx_V) : Option (Int32 × jx_V) := ((f_X5_in (Int32.toInt64 x0) 97 122 v).bind (fun (r1, v1) => (if ¬ (r1 = 0 ∨ r1 = 1) then none else some (r1, v1))))
def rm_X5_isLetter : Room := { frames := 1, cells := 0, slots := 0, locals := 25 }
set_option maxHeartbeats 4000000 in
set_option maxRecDepth 100000 in
theorem k_X5_isLetter {l : Launch} {D : va_G} {cI cJ : ClassId} {ad : Nat → Nat} {A : Nat → Prop} (hI : jx_inj 13 ad A) (x0 : Int32) (v : jx_V) (r : Int32) (v' : jx_V) (hF : f_X5_isLetter x0 v = some (r, v')) : jx_Ci l D vwCl 13 cI cJ ad shM A ex_M yX5_isLetter (Cond.code yX5_isLetter cX5_isLetter 1 (some .boolean) :: bigT) rm_X5_isLetter [.int x0] v r v' := by
  unfold f_X5_isLetter at hF
  refine jx_enteri bigT RX5 cX5_isLetter 1 (some .boolean) [(0, .int x0)] hI (ex_M_ok A) (by decide +kernel) rfl (Nat.le_of_ble_eq_true rfl) rfl rfl ?_
  intro p e s m args below meth c E
  refine jx_iload_n E dX5_isLetter_0 0 rfl ?_
  refine jx_i2l E dX5_isLetter_1 ?_
  refine jx_ldc2 (x := 97) E dX5_isLetter_2 (List.mem_cons_of_mem _ tw_497) ?_
  refine jx_ldc2 (x := 122) E dX5_isLetter_5 (List.mem_cons_of_mem _ tw_498) ?_
  obtain ⟨⟨r1, v1⟩, hc1, hF⟩ := jx_bind hF
  try dsimp only at hF
  refine jx_callSi (As := [.long (Int32.toInt64 x0), .long 97, .long 122]) (st := []) E dX5_isLetter_8 3 rfl (k_X5_in hI (Int32.toInt64 x0) 97 122 v r1 v1 hc1) (gb_S (List.mem_cons_of_mem _ tw_323) (List.mem_cons_of_mem _ tw_324) (List.mem_cons_of_mem _ tw_325) tw_322) rfl rfl rfl dd_X5_in rfl ⟨by decide, by decide⟩ ⟨Nat.le_refl 0, Nat.le_refl 0⟩ (Nat.le_of_ble_eq_true rfl) ?_
  obtain ⟨hg2, hF⟩ := jx_guard hF
  obtain ⟨rfl, rfl⟩ := jx_out hF
  exact jx_zret E dX5_isLetter_11 rfl (Decidable.not_not.mp hg2)
def f_X5_isDigit (x0 : Int32) (v : jx_V) : Option (Int32 × jx_V) := ((f_X5_in (Int32.toInt64 x0) 48 57 v).bind (fun (r1, v1) => (if ¬ (r1 = 0 ∨ r1 = 1) then none else some (r1, v1))))
def rm_X5_isDigit : Room := { frames := 1, cells := 0, slots := 0, locals := 25 }
set_option maxHeartbeats 4000000 in
set_option maxRecDepth 100000 in
theorem k_X5_isDigit {l : Launch} {D : va_G} {cI cJ : ClassId} {ad : Nat → Nat} {A : Nat → Prop} (hI : jx_inj 13 ad A) (x0 : Int32) (v : jx_V) (r : Int32) (v' : jx_V) (hF : f_X5_isDigit x0 v = some (r, v')) : jx_Ci l D vwCl 13 cI cJ ad shM A ex_M yX5_isDigit (Cond.code yX5_isDigit cX5_isDigit 1 (some .boolean) :: bigT) rm_X5_isDigit [.int x0] v r v' := by
  unfold f_X5_isDigit at hF
  refine jx_enteri bigT RX5 cX5_isDigit 1 (some .boolean) [(0, .int x0)] hI (ex_M_ok A) (by decide +kernel) rfl (Nat.le_of_ble_eq_true rfl) rfl rfl ?_
  intro p e s m args below meth c E
  refine jx_iload_n E dX5_isDigit_0 0 rfl ?_
  refine jx_i2l E dX5_isDigit_1 ?_
  refine jx_ldc2 (x := 48) E dX5_isDigit_2 (List.mem_cons_of_mem _ tw_499) ?_
  refine jx_ldc2 (x := 57) E dX5_isDigit_5 (List.mem_cons_of_mem _ tw_500) ?_
  obtain ⟨⟨r1, v1⟩, hc1, hF⟩ := jx_bind hF
  try dsimp only at hF
  refine jx_callSi (As := [.long (Int32.toInt64 x0), .long 48, .long 57]) (st := []) E dX5_isDigit_8 3 rfl (k_X5_in hI (Int32.toInt64 x0) 48 57 v r1 v1 hc1) (gb_S (List.mem_cons_of_mem _ tw_323) (List.mem_cons_of_mem _ tw_324) (List.mem_cons_of_mem _ tw_325) tw_322) rfl rfl rfl dd_X5_in rfl ⟨by decide, by decide⟩ ⟨Nat.le_refl 0, Nat.le_refl 0⟩ (Nat.le_of_ble_eq_true rfl) ?_
  obtain ⟨hg2, hF⟩ := jx_guard hF
  obtain ⟨rfl, rfl⟩ := jx_out hF
  exact jx_zret E dX5_isDigit_11 rfl (Decidable.not_not.mp hg2)
def f_X5_token_L  : Nat → Nat → Int32 → Int32 → jx_V → Option (jx_V)
  | 0, _, _, _, _ => none
  | n + 1, tag, x1, x2, v => (if tag = 0 then ((f_X5_byteAt (v 0 13) v).bind (fun (r1, v1) => (if r1 = 32 then (f_X5_token_L n 0 0 0 (jx_up v1 0 13 ((v1 0 13) + 1))) else ((f_X5_byteAt (v1 0 13) v1).bind (fun (r3, v3) => ((f_X5_isLetter r3 v3).bind (fun (r4, v4) => ((f_X5_byteAt (v4 0 13) v4).bind (fun (r5, v5) => ((f_X5_isDigit r5 v5).bind (fun (r6, v6) => (if (v6 0 12) ≤ (v6 0 13) then (f_X5_token_L n 1 r4 r6 (jx_up v6 0 14 (v6 0 13))) else (f_X5_token_L n 1 r4 r6 (jx_up v6 0 14 ((v6 0 13) + 1))))))))))))))) else (if tag = 1 then (if x1 = 0 then (if x2 = 0 then (some v) else ((f_X5_byteAt (v 0 14) v).bind (fun (r10, v10) => ((f_X5_isDigit r10 v10).bind (fun (r11, v11) => (if r11 = 0 then (some v11) else (f_X5_token_L n 1 x1 x2 (jx_up v11 0 14 ((v11 0 14) + 1))))))))) else ((f_X5_byteAt (v 0 14) v).bind (fun (r13, v13) => ((f_X5_isLetter r13 v13).bind (fun (r14, v14) => (if r14 = 0 then (if x2 = 0 then (some v14) else ((f_X5_byteAt (v14 0 14) v14).bind (fun (r17, v17) => ((f_X5_isDigit r17 v17).bind (fun (r18, v18) => (if r18 = 0 then (some v18) else (f_X5_token_L n 1 x1 x2 (jx_up v18 0 14 ((v18 0 14) + 1))))))))) else (f_X5_token_L n 1 x1 x2 (jx_up v14 0 14 ((v14 0 14) + 1))))))))) else none))
def f_X5_token  (v : jx_V) : Option (jx_V) := (f_X5_token_L 100000 0 0 0 (jx_up v 0 13 (v 0 14)))
def rm_X5_token : Room := { frames := 2, cells := 0, slots := 0, locals := 45 }
set_option maxHeartbeats 4000000 in
set_option maxRecDepth 100000 in
theorem k_X5_token {l : Launch} {D : va_G} {cI cJ : ClassId} {ad : Nat → Nat} {A : Nat → Prop} (hI : jx_inj 13 ad A)  (v : jx_V) (v' : jx_V) (hF : f_X5_token  v = some v') : jx_Cv l D vwCl 13 cI cJ ad shM A ex_M yX5_token (Cond.code yX5_token cX5_token 3 (none) :: bigT) rm_X5_token [.ref (ad 0)] v v' := by
  unfold f_X5_token at hF
  refine jx_enterv bigT RX5 cX5_token 3 (none) [(0, .ref (ad 0))] hI (ex_M_ok A) (by decide +kernel) rfl (Nat.le_of_ble_eq_true rfl) rfl rfl ?_
  intro p e s m args below meth c E
  have iX5 : ∀ w ∈ u_ws RX5 TX5 21, w ∈ (Cond.code yX5_token cX5_token 3 (none) :: bigT) := fun w h => List.mem_cons_of_mem _ (uw_X5 w h)
  have key : ∀ n : Nat, (∀  (v : jx_V), f_X5_token_L  n 0 0 0 v = some v' → jx_J p l e rm_X5_token s m args below meth c D vwCl 13 cI cJ ad shM A 0 0 3 (MQ below (va_Qv (fun (_ : Unit) => True) (fun _ t => va_P D vwCl (jx_ws 13 cI cJ ad shM v') t.heap) A) args s 0 0 A) v 8 [(0, .ref (ad 0))] []) ∧ (∀ (x1 : Int32) (x2 : Int32) (v : jx_V), f_X5_token_L  n 1 x1 x2 v = some v' → jx_J p l e rm_X5_token s m args below meth c D vwCl 13 cI cJ ad shM A 0 0 3 (MQ below (va_Qv (fun (_ : Unit) => True) (fun _ t => va_P D vwCl (jx_ws 13 cI cJ ad shM v') t.heap) A) args s 0 0 A) v 86 [(0, .ref (ad 0)), (1, .int x1), (2, .int x2)] []) := by
    intro n
    induction n with
    | zero =>
      exact ⟨(fun _ h => by cases h), (fun _ _ _ h => by cases h)⟩
    | succ n ih =>
      refine ⟨?_, ?_⟩
      · intro  v hF
        rw [f_X5_token_L] at hF
        rw [if_pos rfl] at hF
        refine jx_aload_n E dX5_token_8 0 rfl ?_
        refine jx_aload_n E dX5_token_9 0 rfl ?_
        refine jx_geti (C := RX5) (T := TX5) (M := 21) (k := 13) E dX5_token_10 (Nat.le_of_ble_eq_true rfl) s_M0 rfl iX5 (by decide) rfl (List.mem_cons_of_mem _ tw_502) rfl ?_
        obtain ⟨⟨r1, v1⟩, hc1, hF⟩ := jx_bind hF
        try dsimp only at hF
        refine jx_callVi (As := [.int (v 0 13)]) (st := []) (h := 0) E dX5_token_13 1 rfl (k_X5_byteAt hI (v 0 13) v r1 v1 hc1) (gb_V (List.mem_cons_of_mem _ tw_504) (List.mem_cons_of_mem _ tw_505) (List.mem_cons_of_mem _ tw_506) (List.mem_cons_of_mem _ tw_325) tw_503) rfl rfl rfl dd_X5_byteAt rfl (Nat.le_of_ble_eq_true rfl) s_M0 rfl ⟨by decide, by decide⟩ ⟨Nat.le_refl 0, Nat.le_refl 0⟩ (Nat.le_of_ble_eq_true rfl) ?_
        refine jx_bipush (x := 32) E dX5_token_16 (by decide) ?_
        refine jx_icmp_ne (tgt := 34) E dX5_token_18 (by decide) (fun hc2 => ?_) (fun hc2 => ?_)
        · rw [if_neg hc2] at hF
          refine jx_aload_n E dX5_token_34 0 rfl ?_
          refine jx_aload_n E dX5_token_35 0 rfl ?_
          refine jx_geti (C := RX5) (T := TX5) (M := 21) (k := 13) E dX5_token_36 (Nat.le_of_ble_eq_true rfl) s_M0 rfl iX5 (by decide) rfl (List.mem_cons_of_mem _ tw_502) rfl ?_
          obtain ⟨⟨r3, v3⟩, hc3, hF⟩ := jx_bind hF
          try dsimp only at hF
          refine jx_callVi (As := [.int (v1 0 13)]) (st := []) (h := 0) E dX5_token_39 1 rfl (k_X5_byteAt hI (v1 0 13) v1 r3 v3 hc3) (gb_V (List.mem_cons_of_mem _ tw_504) (List.mem_cons_of_mem _ tw_505) (List.mem_cons_of_mem _ tw_506) (List.mem_cons_of_mem _ tw_325) tw_503) rfl rfl rfl dd_X5_byteAt rfl (Nat.le_of_ble_eq_true rfl) s_M0 rfl ⟨by decide, by decide⟩ ⟨Nat.le_refl 0, Nat.le_refl 0⟩ (Nat.le_of_ble_eq_true rfl) ?_
          obtain ⟨⟨r4, v4⟩, hc4, hF⟩ := jx_bind hF
          try dsimp only at hF
          refine jx_callSi (As := [.int r3]) (st := []) E dX5_token_42 1 rfl (k_X5_isLetter hI r3 v3 r4 v4 hc4) (gb_S (List.mem_cons_of_mem _ tw_508) (List.mem_cons_of_mem _ tw_509) (List.mem_cons_of_mem _ tw_325) tw_507) rfl rfl rfl dd_X5_isLetter rfl ⟨by decide, by decide⟩ ⟨Nat.le_refl 0, Nat.le_refl 0⟩ (Nat.le_of_ble_eq_true rfl) ?_
          refine jx_istore_n (lv' := [(1, .int r4), (0, .ref (ad 0))]) E dX5_token_45 (by decide) rfl ?_
          refine jx_aload_n E dX5_token_46 1 rfl ?_
          refine jx_aload_n E dX5_token_47 1 rfl ?_
          refine jx_geti (C := RX5) (T := TX5) (M := 21) (k := 13) E dX5_token_48 (Nat.le_of_ble_eq_true rfl) s_M0 rfl iX5 (by decide) rfl (List.mem_cons_of_mem _ tw_502) rfl ?_
          obtain ⟨⟨r5, v5⟩, hc5, hF⟩ := jx_bind hF
          try dsimp only at hF
          refine jx_callVi (As := [.int (v4 0 13)]) (st := []) (h := 0) E dX5_token_51 1 rfl (k_X5_byteAt hI (v4 0 13) v4 r5 v5 hc5) (gb_V (List.mem_cons_of_mem _ tw_504) (List.mem_cons_of_mem _ tw_505) (List.mem_cons_of_mem _ tw_506) (List.mem_cons_of_mem _ tw_325) tw_503) rfl rfl rfl dd_X5_byteAt rfl (Nat.le_of_ble_eq_true rfl) s_M0 rfl ⟨by decide, by decide⟩ ⟨Nat.le_refl 0, Nat.le_refl 0⟩ (Nat.le_of_ble_eq_true rfl) ?_
          obtain ⟨⟨r6, v6⟩, hc6, hF⟩ := jx_bind hF
          try dsimp only at hF
          refine jx_callSi (As := [.int r5]) (st := []) E dX5_token_54 1 rfl (k_X5_isDigit hI r5 v5 r6 v6 hc6) (gb_S (List.mem_cons_of_mem _ tw_511) (List.mem_cons_of_mem _ tw_512) (List.mem_cons_of_mem _ tw_325) tw_510) rfl rfl rfl dd_X5_isDigit rfl ⟨by decide, by decide⟩ ⟨Nat.le_refl 0, Nat.le_refl 0⟩ (Nat.le_of_ble_eq_true rfl) ?_
          refine jx_istore_n (lv' := [(2, .int r6), (1, .int r4), (0, .ref (ad 0))]) E dX5_token_57 (by decide) rfl ?_
          refine jx_aload_n E dX5_token_58 2 rfl ?_
          refine jx_aload_n E dX5_token_59 2 rfl ?_
          refine jx_geti (C := RX5) (T := TX5) (M := 21) (k := 13) E dX5_token_60 (Nat.le_of_ble_eq_true rfl) s_M0 rfl iX5 (by decide) rfl (List.mem_cons_of_mem _ tw_502) rfl ?_
          refine jx_aload_n E dX5_token_63 2 rfl ?_
          refine jx_geti (C := RX5) (T := TX5) (M := 21) (k := 12) E dX5_token_64 (Nat.le_of_ble_eq_true rfl) s_M0 rfl iX5 (by decide) rfl (List.mem_cons_of_mem _ tw_495) rfl ?_
          refine jx_icmp_ge (tgt := 79) E dX5_token_67 (by decide) (fun hc7 => ?_) (fun hc7 => ?_)
          · rw [if_pos hc7] at hF
            refine jx_aload_n E dX5_token_79 2 rfl ?_
            refine jx_geti (C := RX5) (T := TX5) (M := 21) (k := 13) E dX5_token_80 (Nat.le_of_ble_eq_true rfl) s_M0 rfl iX5 (by decide) rfl (List.mem_cons_of_mem _ tw_502) rfl ?_
            refine jx_puti (C := RX5) (T := TX5) (M := 21) (k := 14) (ty := .int) E tyX5 dX5_token_83 (Nat.le_of_ble_eq_true rfl) s_M0 rfl iX5 (by decide) rfl (List.mem_cons_of_mem _ tw_501) tyX5_ok nmX5 rfl (by decide +kernel) rfl rfl rfl ?_
            refine jx_sub [2, 1, 0] rfl ?_
            exact ih.2 r4 r6 (jx_up v6 0 14 (v6 0 13)) hF
          · rw [if_neg hc7] at hF
            refine jx_aload_n E dX5_token_70 2 rfl ?_
            refine jx_geti (C := RX5) (T := TX5) (M := 21) (k := 13) E dX5_token_71 (Nat.le_of_ble_eq_true rfl) s_M0 rfl iX5 (by decide) rfl (List.mem_cons_of_mem _ tw_502) rfl ?_
            refine jx_iconst (x := 1) E dX5_token_74 (by decide) ?_
            refine jx_iadd E dX5_token_75 ?_
            refine jx_goto (tgt := 83) E dX5_token_76 (by decide) ?_
            refine jx_puti (C := RX5) (T := TX5) (M := 21) (k := 14) (ty := .int) E tyX5 dX5_token_83 (Nat.le_of_ble_eq_true rfl) s_M0 rfl iX5 (by decide) rfl (List.mem_cons_of_mem _ tw_501) tyX5_ok nmX5 rfl (by decide +kernel) rfl rfl rfl ?_
            refine jx_sub [2, 1, 0] rfl ?_
            exact ih.2 r4 r6 (jx_up v6 0 14 ((v6 0 13) + 1)) hF
        · rw [if_pos hc2] at hF
          refine jx_aload_n E dX5_token_21 0 rfl ?_
          refine jx_dup E dX5_token_22 rfl ?_
          refine jx_geti (C := RX5) (T := TX5) (M := 21) (k := 13) E dX5_token_23 (Nat.le_of_ble_eq_true rfl) s_M0 rfl iX5 (by decide) rfl (List.mem_cons_of_mem _ tw_502) rfl ?_
          refine jx_iconst (x := 1) E dX5_token_26 (by decide) ?_
          refine jx_iadd E dX5_token_27 ?_
          refine jx_puti (C := RX5) (T := TX5) (M := 21) (k := 13) (ty := .int) E tyX5 dX5_token_28 (Nat.le_of_ble_eq_true rfl) s_M0 rfl iX5 (by decide) rfl (List.mem_cons_of_mem _ tw_502) tyX5_ok nmX5 rfl (by decide +kernel) rfl rfl rfl ?_
          refine jx_goto (tgt := 8) E dX5_token_31 (by decide) ?_
          refine jx_sub [0] rfl ?_
          exact ih.1  (jx_up v1 0 13 ((v1 0 13) + 1)) hF
      · intro x1 x2 v hF
        rw [f_X5_token_L] at hF
        rw [if_neg (by decide), if_pos rfl] at hF
        refine jx_iload_n E dX5_token_86 1 rfl ?_
        refine jx_if_eq (tgt := 104) E dX5_token_87 (by decide) (fun hc8 => ?_) (fun hc8 => ?_)
        · rw [if_pos hc8] at hF
          refine jx_iload_n E dX5_token_104 2 rfl ?_
          refine jx_if_eq (tgt := 135) E dX5_token_105 (by decide) (fun hc9 => ?_) (fun hc9 => ?_)
          · rw [if_pos hc9] at hF
            obtain rfl := Option.some.inj hF
            exact jx_vret E dX5_token_135 rfl
          · rw [if_neg hc9] at hF
            refine jx_aload_n E dX5_token_108 0 rfl ?_
            refine jx_aload_n E dX5_token_109 0 rfl ?_
            refine jx_geti (C := RX5) (T := TX5) (M := 21) (k := 14) E dX5_token_110 (Nat.le_of_ble_eq_true rfl) s_M0 rfl iX5 (by decide) rfl (List.mem_cons_of_mem _ tw_501) rfl ?_
            obtain ⟨⟨r10, v10⟩, hc10, hF⟩ := jx_bind hF
            try dsimp only at hF
            refine jx_callVi (As := [.int (v 0 14)]) (st := []) (h := 0) E dX5_token_113 1 rfl (k_X5_byteAt hI (v 0 14) v r10 v10 hc10) (gb_V (List.mem_cons_of_mem _ tw_504) (List.mem_cons_of_mem _ tw_505) (List.mem_cons_of_mem _ tw_506) (List.mem_cons_of_mem _ tw_325) tw_503) rfl rfl rfl dd_X5_byteAt rfl (Nat.le_of_ble_eq_true rfl) s_M0 rfl ⟨by decide, by decide⟩ ⟨Nat.le_refl 0, Nat.le_refl 0⟩ (Nat.le_of_ble_eq_true rfl) ?_
            obtain ⟨⟨r11, v11⟩, hc11, hF⟩ := jx_bind hF
            try dsimp only at hF
            refine jx_callSi (As := [.int r10]) (st := []) E dX5_token_116 1 rfl (k_X5_isDigit hI r10 v10 r11 v11 hc11) (gb_S (List.mem_cons_of_mem _ tw_511) (List.mem_cons_of_mem _ tw_512) (List.mem_cons_of_mem _ tw_325) tw_510) rfl rfl rfl dd_X5_isDigit rfl ⟨by decide, by decide⟩ ⟨Nat.le_refl 0, Nat.le_refl 0⟩ (Nat.le_of_ble_eq_true rfl) ?_
            refine jx_if_eq (tgt := 135) E dX5_token_119 (by decide) (fun hc12 => ?_) (fun hc12 => ?_)
            · rw [if_pos hc12] at hF
              obtain rfl := Option.some.inj hF
              exact jx_vret E dX5_token_135 rfl
            · rw [if_neg hc12] at hF
              refine jx_aload_n E dX5_token_122 0 rfl ?_
              refine jx_dup E dX5_token_123 rfl ?_
              refine jx_geti (C := RX5) (T := TX5) (M := 21) (k := 14) E dX5_token_124 (Nat.le_of_ble_eq_true rfl) s_M0 rfl iX5 (by decide) rfl (List.mem_cons_of_mem _ tw_501) rfl ?_
              refine jx_iconst (x := 1) E dX5_token_127 (by decide) ?_
              refine jx_iadd E dX5_token_128 ?_
              refine jx_puti (C := RX5) (T := TX5) (M := 21) (k := 14) (ty := .int) E tyX5 dX5_token_129 (Nat.le_of_ble_eq_true rfl) s_M0 rfl iX5 (by decide) rfl (List.mem_cons_of_mem _ tw_501) tyX5_ok nmX5 rfl (by decide +kernel) rfl rfl rfl ?_
              refine jx_goto (tgt := 86) E dX5_token_132 (by decide) ?_
              refine jx_sub [0, 1, 2] rfl ?_
              exact ih.2 x1 x2 (jx_up v11 0 14 ((v11 0 14) + 1)) hF
        · rw [if_neg hc8] at hF
          refine jx_aload_n E dX5_token_90 0 rfl ?_
          refine jx_aload_n E dX5_token_91 0 rfl ?_
          refine jx_geti (C := RX5) (T := TX5) (M := 21) (k := 14) E dX5_token_92 (Nat.le_of_ble_eq_true rfl) s_M0 rfl iX5 (by decide) rfl (List.mem_cons_of_mem _ tw_501) rfl ?_
          obtain ⟨⟨r13, v13⟩, hc13, hF⟩ := jx_bind hF
          try dsimp only at hF
          refine jx_callVi (As := [.int (v 0 14)]) (st := []) (h := 0) E dX5_token_95 1 rfl (k_X5_byteAt hI (v 0 14) v r13 v13 hc13) (gb_V (List.mem_cons_of_mem _ tw_504) (List.mem_cons_of_mem _ tw_505) (List.mem_cons_of_mem _ tw_506) (List.mem_cons_of_mem _ tw_325) tw_503) rfl rfl rfl dd_X5_byteAt rfl (Nat.le_of_ble_eq_true rfl) s_M0 rfl ⟨by decide, by decide⟩ ⟨Nat.le_refl 0, Nat.le_refl 0⟩ (Nat.le_of_ble_eq_true rfl) ?_
          obtain ⟨⟨r14, v14⟩, hc14, hF⟩ := jx_bind hF
          try dsimp only at hF
          refine jx_callSi (As := [.int r13]) (st := []) E dX5_token_98 1 rfl (k_X5_isLetter hI r13 v13 r14 v14 hc14) (gb_S (List.mem_cons_of_mem _ tw_508) (List.mem_cons_of_mem _ tw_509) (List.mem_cons_of_mem _ tw_325) tw_507) rfl rfl rfl dd_X5_isLetter rfl ⟨by decide, by decide⟩ ⟨Nat.le_refl 0, Nat.le_refl 0⟩ (Nat.le_of_ble_eq_true rfl) ?_
          refine jx_if_ne (tgt := 122) E dX5_token_101 (by decide) (fun hc15 => ?_) (fun hc15 => ?_)
          · rw [if_neg hc15] at hF
            refine jx_aload_n E dX5_token_122 0 rfl ?_
            refine jx_dup E dX5_token_123 rfl ?_
            refine jx_geti (C := RX5) (T := TX5) (M := 21) (k := 14) E dX5_token_124 (Nat.le_of_ble_eq_true rfl) s_M0 rfl iX5 (by decide) rfl (List.mem_cons_of_mem _ tw_501) rfl ?_
            refine jx_iconst (x := 1) E dX5_token_127 (by decide) ?_
            refine jx_iadd E dX5_token_128 ?_
            refine jx_puti (C := RX5) (T := TX5) (M := 21) (k := 14) (ty := .int) E tyX5 dX5_token_129 (Nat.le_of_ble_eq_true rfl) s_M0 rfl iX5 (by decide) rfl (List.mem_cons_of_mem _ tw_501) tyX5_ok nmX5 rfl (by decide +kernel) rfl rfl rfl ?_
            refine jx_goto (tgt := 86) E dX5_token_132 (by decide) ?_
            refine jx_sub [0, 1, 2] rfl ?_
            exact ih.2 x1 x2 (jx_up v14 0 14 ((v14 0 14) + 1)) hF
          · rw [if_pos hc15] at hF
            refine jx_iload_n E dX5_token_104 2 rfl ?_
            refine jx_if_eq (tgt := 135) E dX5_token_105 (by decide) (fun hc16 => ?_) (fun hc16 => ?_)
            · rw [if_pos hc16] at hF
              obtain rfl := Option.some.inj hF
              exact jx_vret E dX5_token_135 rfl
            · rw [if_neg hc16] at hF
              refine jx_aload_n E dX5_token_108 0 rfl ?_
              refine jx_aload_n E dX5_token_109 0 rfl ?_
              refine jx_geti (C := RX5) (T := TX5) (M := 21) (k := 14) E dX5_token_110 (Nat.le_of_ble_eq_true rfl) s_M0 rfl iX5 (by decide) rfl (List.mem_cons_of_mem _ tw_501) rfl ?_
              obtain ⟨⟨r17, v17⟩, hc17, hF⟩ := jx_bind hF
              try dsimp only at hF
              refine jx_callVi (As := [.int (v14 0 14)]) (st := []) (h := 0) E dX5_token_113 1 rfl (k_X5_byteAt hI (v14 0 14) v14 r17 v17 hc17) (gb_V (List.mem_cons_of_mem _ tw_504) (List.mem_cons_of_mem _ tw_505) (List.mem_cons_of_mem _ tw_506) (List.mem_cons_of_mem _ tw_325) tw_503) rfl rfl rfl dd_X5_byteAt rfl (Nat.le_of_ble_eq_true rfl) s_M0 rfl ⟨by decide, by decide⟩ ⟨Nat.le_refl 0, Nat.le_refl 0⟩ (Nat.le_of_ble_eq_true rfl) ?_
              obtain ⟨⟨r18, v18⟩, hc18, hF⟩ := jx_bind hF
              try dsimp only at hF
              refine jx_callSi (As := [.int r17]) (st := []) E dX5_token_116 1 rfl (k_X5_isDigit hI r17 v17 r18 v18 hc18) (gb_S (List.mem_cons_of_mem _ tw_511) (List.mem_cons_of_mem _ tw_512) (List.mem_cons_of_mem _ tw_325) tw_510) rfl rfl rfl dd_X5_isDigit rfl ⟨by decide, by decide⟩ ⟨Nat.le_refl 0, Nat.le_refl 0⟩ (Nat.le_of_ble_eq_true rfl) ?_
              refine jx_if_eq (tgt := 135) E dX5_token_119 (by decide) (fun hc19 => ?_) (fun hc19 => ?_)
              · rw [if_pos hc19] at hF
                obtain rfl := Option.some.inj hF
                exact jx_vret E dX5_token_135 rfl
              · rw [if_neg hc19] at hF
                refine jx_aload_n E dX5_token_122 0 rfl ?_
                refine jx_dup E dX5_token_123 rfl ?_
                refine jx_geti (C := RX5) (T := TX5) (M := 21) (k := 14) E dX5_token_124 (Nat.le_of_ble_eq_true rfl) s_M0 rfl iX5 (by decide) rfl (List.mem_cons_of_mem _ tw_501) rfl ?_
                refine jx_iconst (x := 1) E dX5_token_127 (by decide) ?_
                refine jx_iadd E dX5_token_128 ?_
                refine jx_puti (C := RX5) (T := TX5) (M := 21) (k := 14) (ty := .int) E tyX5 dX5_token_129 (Nat.le_of_ble_eq_true rfl) s_M0 rfl iX5 (by decide) rfl (List.mem_cons_of_mem _ tw_501) tyX5_ok nmX5 rfl (by decide +kernel) rfl rfl rfl ?_
                refine jx_goto (tgt := 86) E dX5_token_132 (by decide) ?_
                refine jx_sub [0, 1, 2] rfl ?_
                exact ih.2 x1 x2 (jx_up v18 0 14 ((v18 0 14) + 1)) hF
  refine jx_aload_n E dX5_token_0 0 rfl ?_
  refine jx_aload_n E dX5_token_1 0 rfl ?_
  refine jx_geti (C := RX5) (T := TX5) (M := 21) (k := 14) E dX5_token_2 (Nat.le_of_ble_eq_true rfl) s_M0 rfl iX5 (by decide) rfl (List.mem_cons_of_mem _ tw_501) rfl ?_
  refine jx_puti (C := RX5) (T := TX5) (M := 21) (k := 13) (ty := .int) E tyX5 dX5_token_5 (Nat.le_of_ble_eq_true rfl) s_M0 rfl iX5 (by decide) rfl (List.mem_cons_of_mem _ tw_502) tyX5_ok nmX5 rfl (by decide +kernel) rfl rfl rfl ?_
  refine jx_sub [0] rfl ?_
  exact (key 100000).1  (jx_up v 0 13 (v 0 14)) hF
def f_X5_needs (x1 : Int32) (v : jx_V) : Option (jx_V) := (if (v 0 16) = 0 then (if x1 = 0 then (if ((jx_up v 0 16 1) 0 16) = 0 then ((f_X5_token (jx_up v 0 16 1)).bind (fun v8 => (some v8))) else (some (jx_up v 0 16 1))) else (if ((jx_up v 0 16 0) 0 16) = 0 then ((f_X5_token (jx_up v 0 16 0)).bind (fun v6 => (some v6))) else (some (jx_up v 0 16 0)))) else (if ((jx_up v 0 16 1) 0 16) = 0 then ((f_X5_token (jx_up v 0 16 1)).bind (fun v3 => (some v3))) else (some (jx_up v 0 16 1))))
def rm_X5_needs : Room := { frames := 3, cells := 0, slots := 0, locals := 67 }
set_option maxHeartbeats 4000000 in
set_option maxRecDepth 100000 in
theorem k_X5_needs {l : Launch} {D : va_G} {cI cJ : ClassId} {ad : Nat → Nat} {A : Nat → Prop} (hI : jx_inj 13 ad A) (x1 : Int32) (v : jx_V) (v' : jx_V) (hF : f_X5_needs x1 v = some v') : jx_Cv l D vwCl 13 cI cJ ad shM A ex_M yX5_needs (Cond.code yX5_needs cX5_needs 2 (none) :: bigT) rm_X5_needs [.ref (ad 0), .int x1] v v' := by
  unfold f_X5_needs at hF
  refine jx_enterv bigT RX5 cX5_needs 2 (none) [(0, .ref (ad 0)), (1, .int x1)] hI (ex_M_ok A) (by decide +kernel) rfl (Nat.le_of_ble_eq_true rfl) rfl rfl ?_
  intro p e s m args below meth c E
  have iX5 : ∀ w ∈ u_ws RX5 TX5 21, w ∈ (Cond.code yX5_needs cX5_needs 2 (none) :: bigT) := fun w h => List.mem_cons_of_mem _ (uw_X5 w h)
  refine jx_aload_n E dX5_needs_0 0 rfl ?_
  refine jx_aload_n E dX5_needs_1 0 rfl ?_
  refine jx_geti (C := RX5) (T := TX5) (M := 21) (k := 16) E dX5_needs_2 (Nat.le_of_ble_eq_true rfl) s_M0 rfl iX5 (by decide) rfl (List.mem_cons_of_mem _ tw_513) rfl ?_
  refine jx_if_ne (tgt := 12) E dX5_needs_5 (by decide) (fun hc1 => ?_) (fun hc1 => ?_)
  · rw [if_neg hc1] at hF
    refine jx_iconst (x := 1) E dX5_needs_12 (by decide) ?_
    refine jx_goto (tgt := 17) E dX5_needs_13 (by decide) ?_
    refine jx_puti (C := RX5) (T := TX5) (M := 21) (k := 16) (ty := .boolean) E tyX5 dX5_needs_17 (Nat.le_of_ble_eq_true rfl) s_M0 rfl iX5 (by decide) rfl (List.mem_cons_of_mem _ tw_513) tyX5_ok nmX5 rfl (by decide +kernel) rfl rfl rfl ?_
    refine jx_aload_n E dX5_needs_20 0 rfl ?_
    refine jx_geti (C := RX5) (T := TX5) (M := 21) (k := 16) E dX5_needs_21 (Nat.le_of_ble_eq_true rfl) s_M0 rfl iX5 (by decide) rfl (List.mem_cons_of_mem _ tw_513) rfl ?_
    refine jx_if_ne (tgt := 31) E dX5_needs_24 (by decide) (fun hc2 => ?_) (fun hc2 => ?_)
    · rw [if_neg hc2] at hF
      obtain rfl := Option.some.inj hF
      exact jx_vret E dX5_needs_31 rfl
    · rw [if_pos hc2] at hF
      refine jx_aload_n E dX5_needs_27 0 rfl ?_
      obtain ⟨v3, hc3, hF⟩ := jx_bind hF
      try dsimp only at hF
      refine jx_callVv (As := []) (st := []) (h := 0) E dX5_needs_28 0 rfl (k_X5_token hI  (jx_up v 0 16 1) v3 hc3) (gb_V (List.mem_cons_of_mem _ tw_515) (List.mem_cons_of_mem _ tw_516) (List.mem_cons_of_mem _ tw_517) (List.mem_cons_of_mem _ tw_325) tw_514) rfl rfl rfl dd_X5_token rfl (Nat.le_of_ble_eq_true rfl) s_M0 rfl ⟨by decide, by decide⟩ ⟨Nat.le_refl 0, Nat.le_refl 0⟩ (Nat.le_of_ble_eq_true rfl) ?_
      obtain rfl := Option.some.inj hF
      exact jx_vret E dX5_needs_31 rfl
  · rw [if_pos hc1] at hF
    refine jx_iload_n E dX5_needs_8 1 rfl ?_
    refine jx_if_ne (tgt := 16) E dX5_needs_9 (by decide) (fun hc4 => ?_) (fun hc4 => ?_)
    · rw [if_neg hc4] at hF
      refine jx_iconst (x := 0) E dX5_needs_16 (by decide) ?_
      refine jx_puti (C := RX5) (T := TX5) (M := 21) (k := 16) (ty := .boolean) E tyX5 dX5_needs_17 (Nat.le_of_ble_eq_true rfl) s_M0 rfl iX5 (by decide) rfl (List.mem_cons_of_mem _ tw_513) tyX5_ok nmX5 rfl (by decide +kernel) rfl rfl rfl ?_
      refine jx_aload_n E dX5_needs_20 0 rfl ?_
      refine jx_geti (C := RX5) (T := TX5) (M := 21) (k := 16) E dX5_needs_21 (Nat.le_of_ble_eq_true rfl) s_M0 rfl iX5 (by decide) rfl (List.mem_cons_of_mem _ tw_513) rfl ?_
      refine jx_if_ne (tgt := 31) E dX5_needs_24 (by decide) (fun hc5 => ?_) (fun hc5 => ?_)
      · rw [if_neg hc5] at hF
        obtain rfl := Option.some.inj hF
        exact jx_vret E dX5_needs_31 rfl
      · rw [if_pos hc5] at hF
        refine jx_aload_n E dX5_needs_27 0 rfl ?_
        obtain ⟨v6, hc6, hF⟩ := jx_bind hF
        try dsimp only at hF
        refine jx_callVv (As := []) (st := []) (h := 0) E dX5_needs_28 0 rfl (k_X5_token hI  (jx_up v 0 16 0) v6 hc6) (gb_V (List.mem_cons_of_mem _ tw_515) (List.mem_cons_of_mem _ tw_516) (List.mem_cons_of_mem _ tw_517) (List.mem_cons_of_mem _ tw_325) tw_514) rfl rfl rfl dd_X5_token rfl (Nat.le_of_ble_eq_true rfl) s_M0 rfl ⟨by decide, by decide⟩ ⟨Nat.le_refl 0, Nat.le_refl 0⟩ (Nat.le_of_ble_eq_true rfl) ?_
        obtain rfl := Option.some.inj hF
        exact jx_vret E dX5_needs_31 rfl
    · rw [if_pos hc4] at hF
      refine jx_iconst (x := 1) E dX5_needs_12 (by decide) ?_
      refine jx_goto (tgt := 17) E dX5_needs_13 (by decide) ?_
      refine jx_puti (C := RX5) (T := TX5) (M := 21) (k := 16) (ty := .boolean) E tyX5 dX5_needs_17 (Nat.le_of_ble_eq_true rfl) s_M0 rfl iX5 (by decide) rfl (List.mem_cons_of_mem _ tw_513) tyX5_ok nmX5 rfl (by decide +kernel) rfl rfl rfl ?_
      refine jx_aload_n E dX5_needs_20 0 rfl ?_
      refine jx_geti (C := RX5) (T := TX5) (M := 21) (k := 16) E dX5_needs_21 (Nat.le_of_ble_eq_true rfl) s_M0 rfl iX5 (by decide) rfl (List.mem_cons_of_mem _ tw_513) rfl ?_
      refine jx_if_ne (tgt := 31) E dX5_needs_24 (by decide) (fun hc7 => ?_) (fun hc7 => ?_)
      · rw [if_neg hc7] at hF
        obtain rfl := Option.some.inj hF
        exact jx_vret E dX5_needs_31 rfl
      · rw [if_pos hc7] at hF
        refine jx_aload_n E dX5_needs_27 0 rfl ?_
        obtain ⟨v8, hc8, hF⟩ := jx_bind hF
        try dsimp only at hF
        refine jx_callVv (As := []) (st := []) (h := 0) E dX5_needs_28 0 rfl (k_X5_token hI  (jx_up v 0 16 1) v8 hc8) (gb_V (List.mem_cons_of_mem _ tw_515) (List.mem_cons_of_mem _ tw_516) (List.mem_cons_of_mem _ tw_517) (List.mem_cons_of_mem _ tw_325) tw_514) rfl rfl rfl dd_X5_token rfl (Nat.le_of_ble_eq_true rfl) s_M0 rfl ⟨by decide, by decide⟩ ⟨Nat.le_refl 0, Nat.le_refl 0⟩ (Nat.le_of_ble_eq_true rfl) ?_
        obtain rfl := Option.some.inj hF
        exact jx_vret E dX5_needs_31 rfl
def f_X5_word_L  : Nat → Int64 → Int32 → jx_V → Option (Int64 × jx_V)
  | 0, _, _, _ => none
  | n + 1, x1, x3, v => (if (v 0 14) ≤ x3 then (if (v 0 16) = 0 then ((f_X5_byteAt (v 0 13) v).bind (fun (r3, v3) => ((f_X5_isLetter r3 v3).bind (fun (r4, v4) => (if r4 = 0 then (some (0, v4)) else (some (x1, v4))))))) else (some (0, v))) else (if (lg_cmp x1 36028797018963967) ≤ 0 then (if (x3 < 0 ∨ 120 ≤ Int32.toNatClampNeg x3) then none else (f_X5_word_L n ((32 * x1) + (Int32.toInt64 ((v 8 (Int32.toNatClampNeg x3)) - 96))) (x3 + 1) v)) else (f_X5_word_L n x1 (x3 + 1) v)))
def f_X5_word  (v : jx_V) : Option (Int64 × jx_V) := (f_X5_word_L 100000 0 (v 0 13) v)
def rm_X5_word : Room := { frames := 2, cells := 0, slots := 0, locals := 45 }
set_option maxHeartbeats 4000000 in
set_option maxRecDepth 100000 in
theorem k_X5_word {l : Launch} {D : va_G} {cI cJ : ClassId} {ad : Nat → Nat} {A : Nat → Prop} (hI : jx_inj 13 ad A)  (v : jx_V) (r : Int64) (v' : jx_V) (hF : f_X5_word  v = some (r, v')) : jx_Cl l D vwCl 13 cI cJ ad shM A ex_M yX5_word (Cond.code yX5_word cX5_word 4 (some .long) :: bigT) rm_X5_word [.ref (ad 0)] v r v' := by
  unfold f_X5_word at hF
  refine jx_enterl bigT RX5 cX5_word 4 (some .long) [(0, .ref (ad 0))] hI (ex_M_ok A) (by decide +kernel) rfl (Nat.le_of_ble_eq_true rfl) rfl rfl ?_
  intro p e s m args below meth c E
  have iX5 : ∀ w ∈ u_ws RX5 TX5 21, w ∈ (Cond.code yX5_word cX5_word 4 (some .long) :: bigT) := fun w h => List.mem_cons_of_mem _ (uw_X5 w h)
  have key : ∀ n : Nat, (∀ (x1 : Int64) (x3 : Int32) (v : jx_V), f_X5_word_L  n  x1 x3 v = some (r, v') → jx_J p l e rm_X5_word s m args below meth c D vwCl 13 cI cJ ad shM A 0 0 4 (MQ below (va_Ql (fun (r1 : Int64) (_ : Unit) => r1 = r) (fun _ t => va_P D vwCl (jx_ws 13 cI cJ ad shM v') t.heap) A) args s 0 0 A) v 7 [(0, .ref (ad 0)), (1, .long x1), (3, .int x3)] []) := by
    intro n
    induction n with
    | zero =>
      exact (fun _ _ _ h => by cases h)
    | succ n ih =>
      intro x1 x3 v hF
      rw [f_X5_word_L] at hF
      refine jx_iload_n E dX5_word_7 2 rfl ?_
      refine jx_aload_n E dX5_word_8 0 rfl ?_
      refine jx_geti (C := RX5) (T := TX5) (M := 21) (k := 14) E dX5_word_9 (Nat.le_of_ble_eq_true rfl) s_M0 rfl iX5 (by decide) rfl (List.mem_cons_of_mem _ tw_501) rfl ?_
      refine jx_icmp_ge (tgt := 50) E dX5_word_12 (by decide) (fun hc1 => ?_) (fun hc1 => ?_)
      · rw [if_pos hc1] at hF
        refine jx_aload_n E dX5_word_50 0 rfl ?_
        refine jx_geti (C := RX5) (T := TX5) (M := 21) (k := 16) E dX5_word_51 (Nat.le_of_ble_eq_true rfl) s_M0 rfl iX5 (by decide) rfl (List.mem_cons_of_mem _ tw_513) rfl ?_
        refine jx_if_ne (tgt := 71) E dX5_word_54 (by decide) (fun hc2 => ?_) (fun hc2 => ?_)
        · rw [if_neg hc2] at hF
          refine jx_lconst (x := 0) E dX5_word_71 (by decide) ?_
          refine jx_goto (tgt := 76) E dX5_word_72 (by decide) ?_
          obtain ⟨rfl, rfl⟩ := jx_out hF
          exact jx_lret E dX5_word_76 rfl
        · rw [if_pos hc2] at hF
          refine jx_aload_n E dX5_word_57 0 rfl ?_
          refine jx_aload_n E dX5_word_58 0 rfl ?_
          refine jx_geti (C := RX5) (T := TX5) (M := 21) (k := 13) E dX5_word_59 (Nat.le_of_ble_eq_true rfl) s_M0 rfl iX5 (by decide) rfl (List.mem_cons_of_mem _ tw_502) rfl ?_
          obtain ⟨⟨r3, v3⟩, hc3, hF⟩ := jx_bind hF
          try dsimp only at hF
          refine jx_callVi (As := [.int (v 0 13)]) (st := []) (h := 0) E dX5_word_62 1 rfl (k_X5_byteAt hI (v 0 13) v r3 v3 hc3) (gb_V (List.mem_cons_of_mem _ tw_504) (List.mem_cons_of_mem _ tw_505) (List.mem_cons_of_mem _ tw_506) (List.mem_cons_of_mem _ tw_325) tw_503) rfl rfl rfl dd_X5_byteAt rfl (Nat.le_of_ble_eq_true rfl) s_M0 rfl ⟨by decide, by decide⟩ ⟨Nat.le_refl 0, Nat.le_refl 0⟩ (Nat.le_of_ble_eq_true rfl) ?_
          obtain ⟨⟨r4, v4⟩, hc4, hF⟩ := jx_bind hF
          try dsimp only at hF
          refine jx_callSi (As := [.int r3]) (st := []) E dX5_word_65 1 rfl (k_X5_isLetter hI r3 v3 r4 v4 hc4) (gb_S (List.mem_cons_of_mem _ tw_508) (List.mem_cons_of_mem _ tw_509) (List.mem_cons_of_mem _ tw_325) tw_507) rfl rfl rfl dd_X5_isLetter rfl ⟨by decide, by decide⟩ ⟨Nat.le_refl 0, Nat.le_refl 0⟩ (Nat.le_of_ble_eq_true rfl) ?_
          refine jx_if_ne (tgt := 75) E dX5_word_68 (by decide) (fun hc5 => ?_) (fun hc5 => ?_)
          · rw [if_neg hc5] at hF
            refine jx_lload_n E dX5_word_75 1 rfl ?_
            obtain ⟨rfl, rfl⟩ := jx_out hF
            exact jx_lret E dX5_word_76 rfl
          · rw [if_pos hc5] at hF
            refine jx_lconst (x := 0) E dX5_word_71 (by decide) ?_
            refine jx_goto (tgt := 76) E dX5_word_72 (by decide) ?_
            obtain ⟨rfl, rfl⟩ := jx_out hF
            exact jx_lret E dX5_word_76 rfl
      · rw [if_neg hc1] at hF
        refine jx_lload_n E dX5_word_15 1 rfl ?_
        refine jx_ldc2 (x := 36028797018963967) E dX5_word_16 (List.mem_cons_of_mem _ tw_518) ?_
        refine jx_lcmp E dX5_word_19 ?_
        refine jx_if_le (tgt := 27) E dX5_word_20 (by decide) (fun hc6 => ?_) (fun hc6 => ?_)
        · rw [if_pos hc6] at hF
          refine jx_ldc2 (x := 32) E dX5_word_27 (List.mem_cons_of_mem _ tw_519) ?_
          refine jx_lload_n E dX5_word_30 1 rfl ?_
          refine jx_lmul E dX5_word_31 ?_
          refine jx_aload_n E dX5_word_32 0 rfl ?_
          refine jx_getr (C := RX5) (T := TX5) (M := 21) (k := 11) E dX5_word_33 (Nat.le_of_ble_eq_true rfl) s_M0 rfl iX5 (by decide) rfl (List.mem_cons_of_mem _ tw_496) rfl ?_
          refine jx_iload_n E dX5_word_36 2 rfl ?_
          obtain ⟨hg7, hF⟩ := jx_guard hF
          refine jx_iald (h := 8) (j := (Int32.toNatClampNeg x3)) E dX5_word_37 (Nat.le_of_ble_eq_true rfl) s_M8 hg7 rfl ?_
          refine jx_bipush (x := 96) E dX5_word_38 (by decide) ?_
          refine jx_isub E dX5_word_40 ?_
          refine jx_i2l E dX5_word_41 ?_
          refine jx_ladd E dX5_word_42 ?_
          refine jx_lstore_n (lv' := [(1, .long ((32 * x1) + (Int32.toInt64 ((v 8 (Int32.toNatClampNeg x3)) - 96)))), (0, .ref (ad 0)), (3, .int x3)]) E dX5_word_43 (by decide) rfl ?_
          refine jx_iinc (y := (x3 + 1)) (lv' := [(3, .int (x3 + 1)), (1, .long ((32 * x1) + (Int32.toInt64 ((v 8 (Int32.toNatClampNeg x3)) - 96)))), (0, .ref (ad 0))]) E dX5_word_44 2 rfl rfl (by decide) rfl ?_
          refine jx_goto (tgt := 7) E dX5_word_47 (by decide) ?_
          refine jx_sub [2, 1, 0] rfl ?_
          exact ih ((32 * x1) + (Int32.toInt64 ((v 8 (Int32.toNatClampNeg x3)) - 96))) (x3 + 1) v hF
        · rw [if_neg hc6] at hF
          refine jx_lload_n E dX5_word_23 1 rfl ?_
          refine jx_goto (tgt := 43) E dX5_word_24 (by decide) ?_
          refine jx_lstore_n (lv' := [(1, .long x1), (0, .ref (ad 0)), (3, .int x3)]) E dX5_word_43 (by decide) rfl ?_
          refine jx_iinc (y := (x3 + 1)) (lv' := [(3, .int (x3 + 1)), (1, .long x1), (0, .ref (ad 0))]) E dX5_word_44 2 rfl rfl (by decide) rfl ?_
          refine jx_goto (tgt := 7) E dX5_word_47 (by decide) ?_
          refine jx_sub [2, 1, 0] rfl ?_
          exact ih x1 (x3 + 1) v hF
  refine jx_lconst (x := 0) E dX5_word_0 (by decide) ?_
  refine jx_lstore_n (lv' := [(1, .long 0), (0, .ref (ad 0))]) E dX5_word_1 (by decide) rfl ?_
  refine jx_aload_n E dX5_word_2 1 rfl ?_
  refine jx_geti (C := RX5) (T := TX5) (M := 21) (k := 13) E dX5_word_3 (Nat.le_of_ble_eq_true rfl) s_M0 rfl iX5 (by decide) rfl (List.mem_cons_of_mem _ tw_502) rfl ?_
  refine jx_istore_n (lv' := [(3, .int (v 0 13)), (1, .long 0), (0, .ref (ad 0))]) E dX5_word_6 (by decide) rfl ?_
  refine jx_sub [2, 1, 0] rfl ?_
  exact (key 100000) 0 (v 0 13) v hF
def f_X5_number_L  : Nat → Int32 → Int32 → Int32 → Int32 → Int32 → jx_V → Option (jx_V)
  | 0, _, _, _, _, _, _ => none
  | n + 1, x1, x2, x3, x4, x5, v => (if (v 0 14) ≤ x5 then (if x3 = 0 then ((f_X5_needs 0 (jx_up v 0 15 x4)).bind (fun v6 => (some v6))) else ((f_X5_in (Int32.toInt64 x4) (Int32.toInt64 x1) (Int32.toInt64 x2) (jx_up v 0 15 x4)).bind (fun (r7, v7) => (if r7 = 0 then ((f_X5_needs 0 v7).bind (fun v9 => (some v9))) else ((f_X5_needs 1 v7).bind (fun v10 => (some v10))))))) else (if x3 = 0 then (if x3 = 0 then ((f_X5_needs 0 (jx_up v 0 15 x4)).bind (fun v13 => (some v13))) else ((f_X5_in (Int32.toInt64 x4) (Int32.toInt64 x1) (Int32.toInt64 x2) (jx_up v 0 15 x4)).bind (fun (r14, v14) => (if r14 = 0 then ((f_X5_needs 0 v14).bind (fun v16 => (some v16))) else ((f_X5_needs 1 v14).bind (fun v17 => (some v17))))))) else (if x4 ≤ 999 then (if (x5 < 0 ∨ 120 ≤ Int32.toNatClampNeg x5) then none else (f_X5_number_L n x1 x2 x3 (((10 * x4) + (v 8 (Int32.toNatClampNeg x5))) - 48) (x5 + 1) v)) else (f_X5_number_L n x1 x2 x3 x4 (x5 + 1) v))))
def f_X5_number (x1 : Int32) (x2 : Int32) (v : jx_V) : Option (jx_V) := (if (v 0 16) = 0 then ((f_X5_byteAt (v 0 13) v).bind (fun (r2, v2) => ((f_X5_isDigit r2 v2).bind (fun (r3, v3) => (f_X5_number_L 100000 x1 x2 r3 0 (v3 0 13) v3))))) else (some v))
def rm_X5_number : Room := { frames := 4, cells := 0, slots := 0, locals := 88 }
set_option maxHeartbeats 4000000 in
set_option maxRecDepth 100000 in
theorem k_X5_number {l : Launch} {D : va_G} {cI cJ : ClassId} {ad : Nat → Nat} {A : Nat → Prop} (hI : jx_inj 13 ad A) (x1 : Int32) (x2 : Int32) (v : jx_V) (v' : jx_V) (hF : f_X5_number x1 x2 v = some v') : jx_Cv l D vwCl 13 cI cJ ad shM A ex_M yX5_number (Cond.code yX5_number cX5_number 6 (none) :: bigT) rm_X5_number [.ref (ad 0), .int x1, .int x2] v v' := by
  unfold f_X5_number at hF
  refine jx_enterv bigT RX5 cX5_number 6 (none) [(0, .ref (ad 0)), (1, .int x1), (2, .int x2)] hI (ex_M_ok A) (by decide +kernel) rfl (Nat.le_of_ble_eq_true rfl) rfl rfl ?_
  intro p e s m args below meth c E
  have iX5 : ∀ w ∈ u_ws RX5 TX5 21, w ∈ (Cond.code yX5_number cX5_number 6 (none) :: bigT) := fun w h => List.mem_cons_of_mem _ (uw_X5 w h)
  have key : ∀ n : Nat, (∀ (x1 : Int32) (x2 : Int32) (x3 : Int32) (x4 : Int32) (x5 : Int32) (v : jx_V), f_X5_number_L  n  x1 x2 x3 x4 x5 v = some v' → jx_J p l e rm_X5_number s m args below meth c D vwCl 13 cI cJ ad shM A 0 0 6 (MQ below (va_Qv (fun (_ : Unit) => True) (fun _ t => va_P D vwCl (jx_ws 13 cI cJ ad shM v') t.heap) A) args s 0 0 A) v 29 [(0, .ref (ad 0)), (1, .int x1), (2, .int x2), (3, .int x3), (4, .int x4), (5, .int x5)] []) := by
    intro n
    induction n with
    | zero =>
      exact (fun _ _ _ _ _ _ h => by cases h)
    | succ n ih =>
      intro x1 x2 x3 x4 x5 v hF
      rw [f_X5_number_L] at hF
      refine jx_iload E dX5_number_29 5 rfl ?_
      refine jx_aload_n E dX5_number_31 0 rfl ?_
      refine jx_geti (C := RX5) (T := TX5) (M := 21) (k := 14) E dX5_number_32 (Nat.le_of_ble_eq_true rfl) s_M0 rfl iX5 (by decide) rfl (List.mem_cons_of_mem _ tw_501) rfl ?_
      refine jx_icmp_ge (tgt := 79) E dX5_number_35 (by decide) (fun hc4 => ?_) (fun hc4 => ?_)
      · rw [if_pos hc4] at hF
        refine jx_aload_n E dX5_number_79 0 rfl ?_
        refine jx_iload E dX5_number_80 4 rfl ?_
        refine jx_puti (C := RX5) (T := TX5) (M := 21) (k := 15) (ty := .int) E tyX5 dX5_number_82 (Nat.le_of_ble_eq_true rfl) s_M0 rfl iX5 (by decide) rfl (List.mem_cons_of_mem _ tw_520) tyX5_ok nmX5 rfl (by decide +kernel) rfl rfl rfl ?_
        refine jx_aload_n E dX5_number_85 0 rfl ?_
        refine jx_iload_n E dX5_number_86 3 rfl ?_
        refine jx_if_eq (tgt := 107) E dX5_number_87 (by decide) (fun hc5 => ?_) (fun hc5 => ?_)
        · rw [if_pos hc5] at hF
          refine jx_iconst (x := 0) E dX5_number_107 (by decide) ?_
          obtain ⟨v6, hc6, hF⟩ := jx_bind hF
          try dsimp only at hF
          refine jx_callVv (As := [.int 0]) (st := []) (h := 0) E dX5_number_108 1 rfl (k_X5_needs hI 0 (jx_up v 0 15 x4) v6 hc6) (gb_V (List.mem_cons_of_mem _ tw_522) (List.mem_cons_of_mem _ tw_523) (List.mem_cons_of_mem _ tw_524) (List.mem_cons_of_mem _ tw_325) tw_521) rfl rfl rfl dd_X5_needs rfl (Nat.le_of_ble_eq_true rfl) s_M0 rfl ⟨by decide, by decide⟩ ⟨Nat.le_refl 0, Nat.le_refl 0⟩ (Nat.le_of_ble_eq_true rfl) ?_
          obtain rfl := Option.some.inj hF
          exact jx_vret E dX5_number_111 rfl
        · rw [if_neg hc5] at hF
          refine jx_iload E dX5_number_90 4 rfl ?_
          refine jx_i2l E dX5_number_92 ?_
          refine jx_iload_n E dX5_number_93 1 rfl ?_
          refine jx_i2l E dX5_number_94 ?_
          refine jx_iload_n E dX5_number_95 2 rfl ?_
          refine jx_i2l E dX5_number_96 ?_
          obtain ⟨⟨r7, v7⟩, hc7, hF⟩ := jx_bind hF
          try dsimp only at hF
          refine jx_callSi (As := [.long (Int32.toInt64 x4), .long (Int32.toInt64 x1), .long (Int32.toInt64 x2)]) (st := [.ref (ad 0)]) E dX5_number_97 3 rfl (k_X5_in hI (Int32.toInt64 x4) (Int32.toInt64 x1) (Int32.toInt64 x2) (jx_up v 0 15 x4) r7 v7 hc7) (gb_S (List.mem_cons_of_mem _ tw_323) (List.mem_cons_of_mem _ tw_324) (List.mem_cons_of_mem _ tw_325) tw_322) rfl rfl rfl dd_X5_in rfl ⟨by decide, by decide⟩ ⟨Nat.le_refl 0, Nat.le_refl 0⟩ (Nat.le_of_ble_eq_true rfl) ?_
          refine jx_if_eq (tgt := 107) E dX5_number_100 (by decide) (fun hc8 => ?_) (fun hc8 => ?_)
          · rw [if_pos hc8] at hF
            refine jx_iconst (x := 0) E dX5_number_107 (by decide) ?_
            obtain ⟨v9, hc9, hF⟩ := jx_bind hF
            try dsimp only at hF
            refine jx_callVv (As := [.int 0]) (st := []) (h := 0) E dX5_number_108 1 rfl (k_X5_needs hI 0 v7 v9 hc9) (gb_V (List.mem_cons_of_mem _ tw_522) (List.mem_cons_of_mem _ tw_523) (List.mem_cons_of_mem _ tw_524) (List.mem_cons_of_mem _ tw_325) tw_521) rfl rfl rfl dd_X5_needs rfl (Nat.le_of_ble_eq_true rfl) s_M0 rfl ⟨by decide, by decide⟩ ⟨Nat.le_refl 0, Nat.le_refl 0⟩ (Nat.le_of_ble_eq_true rfl) ?_
            obtain rfl := Option.some.inj hF
            exact jx_vret E dX5_number_111 rfl
          · rw [if_neg hc8] at hF
            refine jx_iconst (x := 1) E dX5_number_103 (by decide) ?_
            refine jx_goto (tgt := 108) E dX5_number_104 (by decide) ?_
            obtain ⟨v10, hc10, hF⟩ := jx_bind hF
            try dsimp only at hF
            refine jx_callVv (As := [.int 1]) (st := []) (h := 0) E dX5_number_108 1 rfl (k_X5_needs hI 1 v7 v10 hc10) (gb_V (List.mem_cons_of_mem _ tw_522) (List.mem_cons_of_mem _ tw_523) (List.mem_cons_of_mem _ tw_524) (List.mem_cons_of_mem _ tw_325) tw_521) rfl rfl rfl dd_X5_needs rfl (Nat.le_of_ble_eq_true rfl) s_M0 rfl ⟨by decide, by decide⟩ ⟨Nat.le_refl 0, Nat.le_refl 0⟩ (Nat.le_of_ble_eq_true rfl) ?_
            obtain rfl := Option.some.inj hF
            exact jx_vret E dX5_number_111 rfl
      · rw [if_neg hc4] at hF
        refine jx_iload_n E dX5_number_38 3 rfl ?_
        refine jx_if_eq (tgt := 79) E dX5_number_39 (by decide) (fun hc11 => ?_) (fun hc11 => ?_)
        · rw [if_pos hc11] at hF
          refine jx_aload_n E dX5_number_79 0 rfl ?_
          refine jx_iload E dX5_number_80 4 rfl ?_
          refine jx_puti (C := RX5) (T := TX5) (M := 21) (k := 15) (ty := .int) E tyX5 dX5_number_82 (Nat.le_of_ble_eq_true rfl) s_M0 rfl iX5 (by decide) rfl (List.mem_cons_of_mem _ tw_520) tyX5_ok nmX5 rfl (by decide +kernel) rfl rfl rfl ?_
          refine jx_aload_n E dX5_number_85 0 rfl ?_
          refine jx_iload_n E dX5_number_86 3 rfl ?_
          refine jx_if_eq (tgt := 107) E dX5_number_87 (by decide) (fun hc12 => ?_) (fun hc12 => ?_)
          · rw [if_pos hc12] at hF
            refine jx_iconst (x := 0) E dX5_number_107 (by decide) ?_
            obtain ⟨v13, hc13, hF⟩ := jx_bind hF
            try dsimp only at hF
            refine jx_callVv (As := [.int 0]) (st := []) (h := 0) E dX5_number_108 1 rfl (k_X5_needs hI 0 (jx_up v 0 15 x4) v13 hc13) (gb_V (List.mem_cons_of_mem _ tw_522) (List.mem_cons_of_mem _ tw_523) (List.mem_cons_of_mem _ tw_524) (List.mem_cons_of_mem _ tw_325) tw_521) rfl rfl rfl dd_X5_needs rfl (Nat.le_of_ble_eq_true rfl) s_M0 rfl ⟨by decide, by decide⟩ ⟨Nat.le_refl 0, Nat.le_refl 0⟩ (Nat.le_of_ble_eq_true rfl) ?_
            obtain rfl := Option.some.inj hF
            exact jx_vret E dX5_number_111 rfl
          · rw [if_neg hc12] at hF
            refine jx_iload E dX5_number_90 4 rfl ?_
            refine jx_i2l E dX5_number_92 ?_
            refine jx_iload_n E dX5_number_93 1 rfl ?_
            refine jx_i2l E dX5_number_94 ?_
            refine jx_iload_n E dX5_number_95 2 rfl ?_
            refine jx_i2l E dX5_number_96 ?_
            obtain ⟨⟨r14, v14⟩, hc14, hF⟩ := jx_bind hF
            try dsimp only at hF
            refine jx_callSi (As := [.long (Int32.toInt64 x4), .long (Int32.toInt64 x1), .long (Int32.toInt64 x2)]) (st := [.ref (ad 0)]) E dX5_number_97 3 rfl (k_X5_in hI (Int32.toInt64 x4) (Int32.toInt64 x1) (Int32.toInt64 x2) (jx_up v 0 15 x4) r14 v14 hc14) (gb_S (List.mem_cons_of_mem _ tw_323) (List.mem_cons_of_mem _ tw_324) (List.mem_cons_of_mem _ tw_325) tw_322) rfl rfl rfl dd_X5_in rfl ⟨by decide, by decide⟩ ⟨Nat.le_refl 0, Nat.le_refl 0⟩ (Nat.le_of_ble_eq_true rfl) ?_
            refine jx_if_eq (tgt := 107) E dX5_number_100 (by decide) (fun hc15 => ?_) (fun hc15 => ?_)
            · rw [if_pos hc15] at hF
              refine jx_iconst (x := 0) E dX5_number_107 (by decide) ?_
              obtain ⟨v16, hc16, hF⟩ := jx_bind hF
              try dsimp only at hF
              refine jx_callVv (As := [.int 0]) (st := []) (h := 0) E dX5_number_108 1 rfl (k_X5_needs hI 0 v14 v16 hc16) (gb_V (List.mem_cons_of_mem _ tw_522) (List.mem_cons_of_mem _ tw_523) (List.mem_cons_of_mem _ tw_524) (List.mem_cons_of_mem _ tw_325) tw_521) rfl rfl rfl dd_X5_needs rfl (Nat.le_of_ble_eq_true rfl) s_M0 rfl ⟨by decide, by decide⟩ ⟨Nat.le_refl 0, Nat.le_refl 0⟩ (Nat.le_of_ble_eq_true rfl) ?_
              obtain rfl := Option.some.inj hF
              exact jx_vret E dX5_number_111 rfl
            · rw [if_neg hc15] at hF
              refine jx_iconst (x := 1) E dX5_number_103 (by decide) ?_
              refine jx_goto (tgt := 108) E dX5_number_104 (by decide) ?_
              obtain ⟨v17, hc17, hF⟩ := jx_bind hF
              try dsimp only at hF
              refine jx_callVv (As := [.int 1]) (st := []) (h := 0) E dX5_number_108 1 rfl (k_X5_needs hI 1 v14 v17 hc17) (gb_V (List.mem_cons_of_mem _ tw_522) (List.mem_cons_of_mem _ tw_523) (List.mem_cons_of_mem _ tw_524) (List.mem_cons_of_mem _ tw_325) tw_521) rfl rfl rfl dd_X5_needs rfl (Nat.le_of_ble_eq_true rfl) s_M0 rfl ⟨by decide, by decide⟩ ⟨Nat.le_refl 0, Nat.le_refl 0⟩ (Nat.le_of_ble_eq_true rfl) ?_
              obtain rfl := Option.some.inj hF
              exact jx_vret E dX5_number_111 rfl
        · rw [if_neg hc11] at hF
          refine jx_iload E dX5_number_42 4 rfl ?_
          refine jx_sipush (x := 999) E dX5_number_44 (by decide) ?_
          refine jx_icmp_le (tgt := 55) E dX5_number_47 (by decide) (fun hc18 => ?_) (fun hc18 => ?_)
          · rw [if_pos hc18] at hF
            refine jx_bipush (x := 10) E dX5_number_55 (by decide) ?_
            refine jx_iload E dX5_number_57 4 rfl ?_
            refine jx_imul E dX5_number_59 ?_
            refine jx_aload_n E dX5_number_60 0 rfl ?_
            refine jx_getr (C := RX5) (T := TX5) (M := 21) (k := 11) E dX5_number_61 (Nat.le_of_ble_eq_true rfl) s_M0 rfl iX5 (by decide) rfl (List.mem_cons_of_mem _ tw_496) rfl ?_
            refine jx_iload E dX5_number_64 5 rfl ?_
            obtain ⟨hg19, hF⟩ := jx_guard hF
            refine jx_iald (h := 8) (j := (Int32.toNatClampNeg x5)) E dX5_number_66 (Nat.le_of_ble_eq_true rfl) s_M8 hg19 rfl ?_
            refine jx_iadd E dX5_number_67 ?_
            refine jx_bipush (x := 48) E dX5_number_68 (by decide) ?_
            refine jx_isub E dX5_number_70 ?_
            refine jx_istore (lv' := [(4, .int (((10 * x4) + (v 8 (Int32.toNatClampNeg x5))) - 48)), (0, .ref (ad 0)), (1, .int x1), (2, .int x2), (3, .int x3), (5, .int x5)]) E dX5_number_71 (by decide) rfl ?_
            refine jx_iinc (y := (x5 + 1)) (lv' := [(5, .int (x5 + 1)), (4, .int (((10 * x4) + (v 8 (Int32.toNatClampNeg x5))) - 48)), (0, .ref (ad 0)), (1, .int x1), (2, .int x2), (3, .int x3)]) E dX5_number_73 5 rfl rfl (by decide) rfl ?_
            refine jx_goto (tgt := 29) E dX5_number_76 (by decide) ?_
            refine jx_sub [2, 3, 4, 5, 1, 0] rfl ?_
            exact ih x1 x2 x3 (((10 * x4) + (v 8 (Int32.toNatClampNeg x5))) - 48) (x5 + 1) v hF
          · rw [if_neg hc18] at hF
            refine jx_iload E dX5_number_50 4 rfl ?_
            refine jx_goto (tgt := 71) E dX5_number_52 (by decide) ?_
            refine jx_istore (lv' := [(4, .int x4), (0, .ref (ad 0)), (1, .int x1), (2, .int x2), (3, .int x3), (5, .int x5)]) E dX5_number_71 (by decide) rfl ?_
            refine jx_iinc (y := (x5 + 1)) (lv' := [(5, .int (x5 + 1)), (4, .int x4), (0, .ref (ad 0)), (1, .int x1), (2, .int x2), (3, .int x3)]) E dX5_number_73 5 rfl rfl (by decide) rfl ?_
            refine jx_goto (tgt := 29) E dX5_number_76 (by decide) ?_
            refine jx_sub [2, 3, 4, 5, 1, 0] rfl ?_
            exact ih x1 x2 x3 x4 (x5 + 1) v hF
  refine jx_aload_n E dX5_number_0 0 rfl ?_
  refine jx_geti (C := RX5) (T := TX5) (M := 21) (k := 16) E dX5_number_1 (Nat.le_of_ble_eq_true rfl) s_M0 rfl iX5 (by decide) rfl (List.mem_cons_of_mem _ tw_513) rfl ?_
  refine jx_if_eq (tgt := 8) E dX5_number_4 (by decide) (fun hc1 => ?_) (fun hc1 => ?_)
  · rw [if_pos hc1] at hF
    refine jx_aload_n E dX5_number_8 0 rfl ?_
    refine jx_aload_n E dX5_number_9 0 rfl ?_
    refine jx_geti (C := RX5) (T := TX5) (M := 21) (k := 13) E dX5_number_10 (Nat.le_of_ble_eq_true rfl) s_M0 rfl iX5 (by decide) rfl (List.mem_cons_of_mem _ tw_502) rfl ?_
    obtain ⟨⟨r2, v2⟩, hc2, hF⟩ := jx_bind hF
    try dsimp only at hF
    refine jx_callVi (As := [.int (v 0 13)]) (st := []) (h := 0) E dX5_number_13 1 rfl (k_X5_byteAt hI (v 0 13) v r2 v2 hc2) (gb_V (List.mem_cons_of_mem _ tw_504) (List.mem_cons_of_mem _ tw_505) (List.mem_cons_of_mem _ tw_506) (List.mem_cons_of_mem _ tw_325) tw_503) rfl rfl rfl dd_X5_byteAt rfl (Nat.le_of_ble_eq_true rfl) s_M0 rfl ⟨by decide, by decide⟩ ⟨Nat.le_refl 0, Nat.le_refl 0⟩ (Nat.le_of_ble_eq_true rfl) ?_
    obtain ⟨⟨r3, v3⟩, hc3, hF⟩ := jx_bind hF
    try dsimp only at hF
    refine jx_callSi (As := [.int r2]) (st := []) E dX5_number_16 1 rfl (k_X5_isDigit hI r2 v2 r3 v3 hc3) (gb_S (List.mem_cons_of_mem _ tw_511) (List.mem_cons_of_mem _ tw_512) (List.mem_cons_of_mem _ tw_325) tw_510) rfl rfl rfl dd_X5_isDigit rfl ⟨by decide, by decide⟩ ⟨Nat.le_refl 0, Nat.le_refl 0⟩ (Nat.le_of_ble_eq_true rfl) ?_
    refine jx_istore_n (lv' := [(3, .int r3), (0, .ref (ad 0)), (1, .int x1), (2, .int x2)]) E dX5_number_19 (by decide) rfl ?_
    refine jx_iconst (x := 0) E dX5_number_20 (by decide) ?_
    refine jx_istore (lv' := [(4, .int 0), (3, .int r3), (0, .ref (ad 0)), (1, .int x1), (2, .int x2)]) E dX5_number_21 (by decide) rfl ?_
    refine jx_aload_n E dX5_number_23 2 rfl ?_
    refine jx_geti (C := RX5) (T := TX5) (M := 21) (k := 13) E dX5_number_24 (Nat.le_of_ble_eq_true rfl) s_M0 rfl iX5 (by decide) rfl (List.mem_cons_of_mem _ tw_502) rfl ?_
    refine jx_istore (lv' := [(5, .int (v3 0 13)), (4, .int 0), (3, .int r3), (0, .ref (ad 0)), (1, .int x1), (2, .int x2)]) E dX5_number_27 (by decide) rfl ?_
    refine jx_sub [3, 4, 5, 2, 1, 0] rfl ?_
    exact (key 100000) x1 x2 r3 0 (v3 0 13) v3 hF
  · rw [if_neg hc1] at hF
    obtain rfl := Option.some.inj hF
    exact jx_vret E dX5_number_7 rfl
def f_X5_kindHere  (v : jx_V) : Option (Int32 × jx_V) := ((f_X5_word v).bind (fun (r1, v1) => (if (lg_cmp r1 2552) = 0 then (some (0, v1)) else (if (lg_cmp r1 673957) = 0 then (some (1, v1)) else (if (lg_cmp r1 630948) = 0 then (some (2, v1)) else (if (lg_cmp r1 553136178) = 0 then (some (3, v1)) else (if (lg_cmp r1 24749811143) = 0 then (some (4, v1)) else (if (lg_cmp r1 8902245) = 0 then (some (5, v1)) else (if (lg_cmp r1 21486770) = 0 then (some (6, v1)) else (some ((-1), v1)))))))))))
def rm_X5_kindHere : Room := { frames := 3, cells := 0, slots := 0, locals := 68 }
set_option maxHeartbeats 4000000 in
set_option maxRecDepth 100000 in
theorem k_X5_kindHere {l : Launch} {D : va_G} {cI cJ : ClassId} {ad : Nat → Nat} {A : Nat → Prop} (hI : jx_inj 13 ad A)  (v : jx_V) (r : Int32) (v' : jx_V) (hF : f_X5_kindHere  v = some (r, v')) : jx_Ci l D vwCl 13 cI cJ ad shM A ex_M yX5_kindHere (Cond.code yX5_kindHere cX5_kindHere 3 (some .int) :: bigT) rm_X5_kindHere [.ref (ad 0)] v r v' := by
  unfold f_X5_kindHere at hF
  refine jx_enteri bigT RX5 cX5_kindHere 3 (some .int) [(0, .ref (ad 0))] hI (ex_M_ok A) (by decide +kernel) rfl (Nat.le_of_ble_eq_true rfl) rfl rfl ?_
  intro p e s m args below meth c E
  refine jx_aload_n E dX5_kindHere_0 0 rfl ?_
  obtain ⟨⟨r1, v1⟩, hc1, hF⟩ := jx_bind hF
  try dsimp only at hF
  refine jx_callVl (As := []) (st := []) (h := 0) E dX5_kindHere_1 0 rfl (k_X5_word hI  v r1 v1 hc1) (gb_V (List.mem_cons_of_mem _ tw_526) (List.mem_cons_of_mem _ tw_527) (List.mem_cons_of_mem _ tw_528) (List.mem_cons_of_mem _ tw_325) tw_525) rfl rfl rfl dd_X5_word rfl (Nat.le_of_ble_eq_true rfl) s_M0 rfl ⟨by decide, by decide⟩ ⟨Nat.le_refl 0, Nat.le_refl 0⟩ (Nat.le_of_ble_eq_true rfl) ?_
  refine jx_lstore_n (lv' := [(1, .long r1), (0, .ref (ad 0))]) E dX5_kindHere_4 (by decide) rfl ?_
  refine jx_lload_n E dX5_kindHere_5 0 rfl ?_
  refine jx_ldc2 (x := 2552) E dX5_kindHere_6 (List.mem_cons_of_mem _ tw_529) ?_
  refine jx_lcmp E dX5_kindHere_9 ?_
  refine jx_if_ne (tgt := 17) E dX5_kindHere_10 (by decide) (fun hc2 => ?_) (fun hc2 => ?_)
  · rw [if_neg hc2] at hF
    refine jx_lload_n E dX5_kindHere_17 0 rfl ?_
    refine jx_ldc2 (x := 673957) E dX5_kindHere_18 (List.mem_cons_of_mem _ tw_530) ?_
    refine jx_lcmp E dX5_kindHere_21 ?_
    refine jx_if_ne (tgt := 29) E dX5_kindHere_22 (by decide) (fun hc3 => ?_) (fun hc3 => ?_)
    · rw [if_neg hc3] at hF
      refine jx_lload_n E dX5_kindHere_29 0 rfl ?_
      refine jx_ldc2 (x := 630948) E dX5_kindHere_30 (List.mem_cons_of_mem _ tw_531) ?_
      refine jx_lcmp E dX5_kindHere_33 ?_
      refine jx_if_ne (tgt := 41) E dX5_kindHere_34 (by decide) (fun hc4 => ?_) (fun hc4 => ?_)
      · rw [if_neg hc4] at hF
        refine jx_lload_n E dX5_kindHere_41 0 rfl ?_
        refine jx_ldc2 (x := 553136178) E dX5_kindHere_42 (List.mem_cons_of_mem _ tw_532) ?_
        refine jx_lcmp E dX5_kindHere_45 ?_
        refine jx_if_ne (tgt := 53) E dX5_kindHere_46 (by decide) (fun hc5 => ?_) (fun hc5 => ?_)
        · rw [if_neg hc5] at hF
          refine jx_lload_n E dX5_kindHere_53 0 rfl ?_
          refine jx_ldc2 (x := 24749811143) E dX5_kindHere_54 (List.mem_cons_of_mem _ tw_533) ?_
          refine jx_lcmp E dX5_kindHere_57 ?_
          refine jx_if_ne (tgt := 65) E dX5_kindHere_58 (by decide) (fun hc6 => ?_) (fun hc6 => ?_)
          · rw [if_neg hc6] at hF
            refine jx_lload_n E dX5_kindHere_65 0 rfl ?_
            refine jx_ldc2 (x := 8902245) E dX5_kindHere_66 (List.mem_cons_of_mem _ tw_534) ?_
            refine jx_lcmp E dX5_kindHere_69 ?_
            refine jx_if_ne (tgt := 77) E dX5_kindHere_70 (by decide) (fun hc7 => ?_) (fun hc7 => ?_)
            · rw [if_neg hc7] at hF
              refine jx_lload_n E dX5_kindHere_77 0 rfl ?_
              refine jx_ldc2 (x := 21486770) E dX5_kindHere_78 (List.mem_cons_of_mem _ tw_535) ?_
              refine jx_lcmp E dX5_kindHere_81 ?_
              refine jx_if_ne (tgt := 90) E dX5_kindHere_82 (by decide) (fun hc8 => ?_) (fun hc8 => ?_)
              · rw [if_neg hc8] at hF
                refine jx_iconst (x := -1) E dX5_kindHere_90 (by decide) ?_
                obtain ⟨rfl, rfl⟩ := jx_out hF
                exact jx_iret E dX5_kindHere_91 rfl
              · rw [if_pos hc8] at hF
                refine jx_bipush (x := 6) E dX5_kindHere_85 (by decide) ?_
                refine jx_goto (tgt := 91) E dX5_kindHere_87 (by decide) ?_
                obtain ⟨rfl, rfl⟩ := jx_out hF
                exact jx_iret E dX5_kindHere_91 rfl
            · rw [if_pos hc7] at hF
              refine jx_iconst (x := 5) E dX5_kindHere_73 (by decide) ?_
              refine jx_goto (tgt := 91) E dX5_kindHere_74 (by decide) ?_
              obtain ⟨rfl, rfl⟩ := jx_out hF
              exact jx_iret E dX5_kindHere_91 rfl
          · rw [if_pos hc6] at hF
            refine jx_iconst (x := 4) E dX5_kindHere_61 (by decide) ?_
            refine jx_goto (tgt := 91) E dX5_kindHere_62 (by decide) ?_
            obtain ⟨rfl, rfl⟩ := jx_out hF
            exact jx_iret E dX5_kindHere_91 rfl
        · rw [if_pos hc5] at hF
          refine jx_iconst (x := 3) E dX5_kindHere_49 (by decide) ?_
          refine jx_goto (tgt := 91) E dX5_kindHere_50 (by decide) ?_
          obtain ⟨rfl, rfl⟩ := jx_out hF
          exact jx_iret E dX5_kindHere_91 rfl
      · rw [if_pos hc4] at hF
        refine jx_iconst (x := 2) E dX5_kindHere_37 (by decide) ?_
        refine jx_goto (tgt := 91) E dX5_kindHere_38 (by decide) ?_
        obtain ⟨rfl, rfl⟩ := jx_out hF
        exact jx_iret E dX5_kindHere_91 rfl
    · rw [if_pos hc3] at hF
      refine jx_iconst (x := 1) E dX5_kindHere_25 (by decide) ?_
      refine jx_goto (tgt := 91) E dX5_kindHere_26 (by decide) ?_
      obtain ⟨rfl, rfl⟩ := jx_out hF
      exact jx_iret E dX5_kindHere_91 rfl
  · rw [if_pos hc2] at hF
    refine jx_iconst (x := 0) E dX5_kindHere_13 (by decide) ?_
    refine jx_goto (tgt := 91) E dX5_kindHere_14 (by decide) ?_
    obtain ⟨rfl, rfl⟩ := jx_out hF
    exact jx_iret E dX5_kindHere_91 rfl
def f_X5_lotTold_L  : Nat → Int32 → Int32 → Int32 → jx_V → Option (jx_V)
  | 0, _, _, _, _ => none
  | n + 1, x1, x2, x3, v => (if (v 0 14) ≤ x3 then ((f_X5_byteAt ((jx_up v 0 15 x2) 0 13) (jx_up v 0 15 x2)).bind (fun (r2, v2) => ((f_X5_isDigit r2 v2).bind (fun (r3, v3) => (if r3 = 0 then ((f_X5_needs 0 v3).bind (fun v5 => (some v5))) else ((f_X5_isLot x2 v3).bind (fun (r6, v6) => (if r6 = 0 then ((f_X5_needs 0 v6).bind (fun v8 => (some v8))) else ((f_X5_isThing x2 v6).bind (fun (r9, v9) => (if r9 = x1 then ((f_X5_needs 0 v9).bind (fun v11 => (some v11))) else ((f_X5_needs 1 v9).bind (fun v12 => (some v12)))))))))))))) else ((f_X5_byteAt (v 0 13) v).bind (fun (r13, v13) => ((f_X5_isDigit r13 v13).bind (fun (r14, v14) => (if r14 = 0 then ((f_X5_byteAt ((jx_up v14 0 15 x2) 0 13) (jx_up v14 0 15 x2)).bind (fun (r16, v16) => ((f_X5_isDigit r16 v16).bind (fun (r17, v17) => (if r17 = 0 then ((f_X5_needs 0 v17).bind (fun v19 => (some v19))) else ((f_X5_isLot x2 v17).bind (fun (r20, v20) => (if r20 = 0 then ((f_X5_needs 0 v20).bind (fun v22 => (some v22))) else ((f_X5_isThing x2 v20).bind (fun (r23, v23) => (if r23 = x1 then ((f_X5_needs 0 v23).bind (fun v25 => (some v25))) else ((f_X5_needs 1 v23).bind (fun v26 => (some v26)))))))))))))) else (if x2 ≤ 999 then (if (x3 < 0 ∨ 120 ≤ Int32.toNatClampNeg x3) then none else (f_X5_lotTold_L n x1 (((10 * x2) + (v14 8 (Int32.toNatClampNeg x3))) - 48) (x3 + 1) v14)) else (f_X5_lotTold_L n x1 x2 (x3 + 1) v14))))))))
def f_X5_lotTold (x1 : Int32) (v : jx_V) : Option (jx_V) := (f_X5_lotTold_L 100000 x1 0 (v 0 13) v)
def rm_X5_lotTold : Room := { frames := 4, cells := 0, slots := 0, locals := 88 }
set_option maxHeartbeats 4000000 in
set_option maxRecDepth 100000 in
theorem k_X5_lotTold {l : Launch} {D : va_G} {cI cJ : ClassId} {ad : Nat → Nat} {A : Nat → Prop} (hI : jx_inj 13 ad A) (x1 : Int32) (v : jx_V) (v' : jx_V) (hF : f_X5_lotTold x1 v = some v') : jx_Cv l D vwCl 13 cI cJ ad shM A ex_M yX5_lotTold (Cond.code yX5_lotTold cX5_lotTold 4 (none) :: bigT) rm_X5_lotTold [.ref (ad 0), .int x1] v v' := by
  unfold f_X5_lotTold at hF
  refine jx_enterv bigT RX5 cX5_lotTold 4 (none) [(0, .ref (ad 0)), (1, .int x1)] hI (ex_M_ok A) (by decide +kernel) rfl (Nat.le_of_ble_eq_true rfl) rfl rfl ?_
  intro p e s m args below meth c E
  have iX5 : ∀ w ∈ u_ws RX5 TX5 21, w ∈ (Cond.code yX5_lotTold cX5_lotTold 4 (none) :: bigT) := fun w h => List.mem_cons_of_mem _ (uw_X5 w h)
  have key : ∀ n : Nat, (∀ (x1 : Int32) (x2 : Int32) (x3 : Int32) (v : jx_V), f_X5_lotTold_L  n  x1 x2 x3 v = some v' → jx_J p l e rm_X5_lotTold s m args below meth c D vwCl 13 cI cJ ad shM A 0 0 4 (MQ below (va_Qv (fun (_ : Unit) => True) (fun _ t => va_P D vwCl (jx_ws 13 cI cJ ad shM v') t.heap) A) args s 0 0 A) v 7 [(0, .ref (ad 0)), (1, .int x1), (2, .int x2), (3, .int x3)] []) := by
    intro n
    induction n with
    | zero =>
      exact (fun _ _ _ _ h => by cases h)
    | succ n ih =>
      intro x1 x2 x3 v hF
      rw [f_X5_lotTold_L] at hF
      refine jx_iload_n E dX5_lotTold_7 3 rfl ?_
      refine jx_aload_n E dX5_lotTold_8 0 rfl ?_
      refine jx_geti (C := RX5) (T := TX5) (M := 21) (k := 14) E dX5_lotTold_9 (Nat.le_of_ble_eq_true rfl) s_M0 rfl iX5 (by decide) rfl (List.mem_cons_of_mem _ tw_501) rfl ?_
      refine jx_icmp_ge (tgt := 61) E dX5_lotTold_12 (by decide) (fun hc1 => ?_) (fun hc1 => ?_)
      · rw [if_pos hc1] at hF
        refine jx_aload_n E dX5_lotTold_61 0 rfl ?_
        refine jx_iload_n E dX5_lotTold_62 2 rfl ?_
        refine jx_puti (C := RX5) (T := TX5) (M := 21) (k := 15) (ty := .int) E tyX5 dX5_lotTold_63 (Nat.le_of_ble_eq_true rfl) s_M0 rfl iX5 (by decide) rfl (List.mem_cons_of_mem _ tw_520) tyX5_ok nmX5 rfl (by decide +kernel) rfl rfl rfl ?_
        refine jx_aload_n E dX5_lotTold_66 0 rfl ?_
        refine jx_aload_n E dX5_lotTold_67 0 rfl ?_
        refine jx_aload_n E dX5_lotTold_68 0 rfl ?_
        refine jx_geti (C := RX5) (T := TX5) (M := 21) (k := 13) E dX5_lotTold_69 (Nat.le_of_ble_eq_true rfl) s_M0 rfl iX5 (by decide) rfl (List.mem_cons_of_mem _ tw_502) rfl ?_
        obtain ⟨⟨r2, v2⟩, hc2, hF⟩ := jx_bind hF
        try dsimp only at hF
        refine jx_callVi (As := [.int ((jx_up v 0 15 x2) 0 13)]) (st := [.ref (ad 0)]) (h := 0) E dX5_lotTold_72 1 rfl (k_X5_byteAt hI ((jx_up v 0 15 x2) 0 13) (jx_up v 0 15 x2) r2 v2 hc2) (gb_V (List.mem_cons_of_mem _ tw_504) (List.mem_cons_of_mem _ tw_505) (List.mem_cons_of_mem _ tw_506) (List.mem_cons_of_mem _ tw_325) tw_503) rfl rfl rfl dd_X5_byteAt rfl (Nat.le_of_ble_eq_true rfl) s_M0 rfl ⟨by decide, by decide⟩ ⟨Nat.le_refl 0, Nat.le_refl 0⟩ (Nat.le_of_ble_eq_true rfl) ?_
        obtain ⟨⟨r3, v3⟩, hc3, hF⟩ := jx_bind hF
        try dsimp only at hF
        refine jx_callSi (As := [.int r2]) (st := [.ref (ad 0)]) E dX5_lotTold_75 1 rfl (k_X5_isDigit hI r2 v2 r3 v3 hc3) (gb_S (List.mem_cons_of_mem _ tw_511) (List.mem_cons_of_mem _ tw_512) (List.mem_cons_of_mem _ tw_325) tw_510) rfl rfl rfl dd_X5_isDigit rfl ⟨by decide, by decide⟩ ⟨Nat.le_refl 0, Nat.le_refl 0⟩ (Nat.le_of_ble_eq_true rfl) ?_
        refine jx_if_eq (tgt := 101) E dX5_lotTold_78 (by decide) (fun hc4 => ?_) (fun hc4 => ?_)
        · rw [if_pos hc4] at hF
          refine jx_iconst (x := 0) E dX5_lotTold_101 (by decide) ?_
          obtain ⟨v5, hc5, hF⟩ := jx_bind hF
          try dsimp only at hF
          refine jx_callVv (As := [.int 0]) (st := []) (h := 0) E dX5_lotTold_102 1 rfl (k_X5_needs hI 0 v3 v5 hc5) (gb_V (List.mem_cons_of_mem _ tw_522) (List.mem_cons_of_mem _ tw_523) (List.mem_cons_of_mem _ tw_524) (List.mem_cons_of_mem _ tw_325) tw_521) rfl rfl rfl dd_X5_needs rfl (Nat.le_of_ble_eq_true rfl) s_M0 rfl ⟨by decide, by decide⟩ ⟨Nat.le_refl 0, Nat.le_refl 0⟩ (Nat.le_of_ble_eq_true rfl) ?_
          obtain rfl := Option.some.inj hF
          exact jx_vret E dX5_lotTold_105 rfl
        · rw [if_neg hc4] at hF
          refine jx_iload_n E dX5_lotTold_81 2 rfl ?_
          obtain ⟨⟨r6, v6⟩, hc6, hF⟩ := jx_bind hF
          try dsimp only at hF
          refine jx_callSi (As := [.int x2]) (st := [.ref (ad 0)]) E dX5_lotTold_82 1 rfl (k_X5_isLot hI x2 v3 r6 v6 hc6) (gb_S (List.mem_cons_of_mem _ tw_348) (List.mem_cons_of_mem _ tw_349) (List.mem_cons_of_mem _ tw_325) tw_347) rfl rfl rfl dd_X5_isLot rfl ⟨by decide, by decide⟩ ⟨Nat.le_refl 0, Nat.le_refl 0⟩ (Nat.le_of_ble_eq_true rfl) ?_
          refine jx_if_eq (tgt := 101) E dX5_lotTold_85 (by decide) (fun hc7 => ?_) (fun hc7 => ?_)
          · rw [if_pos hc7] at hF
            refine jx_iconst (x := 0) E dX5_lotTold_101 (by decide) ?_
            obtain ⟨v8, hc8, hF⟩ := jx_bind hF
            try dsimp only at hF
            refine jx_callVv (As := [.int 0]) (st := []) (h := 0) E dX5_lotTold_102 1 rfl (k_X5_needs hI 0 v6 v8 hc8) (gb_V (List.mem_cons_of_mem _ tw_522) (List.mem_cons_of_mem _ tw_523) (List.mem_cons_of_mem _ tw_524) (List.mem_cons_of_mem _ tw_325) tw_521) rfl rfl rfl dd_X5_needs rfl (Nat.le_of_ble_eq_true rfl) s_M0 rfl ⟨by decide, by decide⟩ ⟨Nat.le_refl 0, Nat.le_refl 0⟩ (Nat.le_of_ble_eq_true rfl) ?_
            obtain rfl := Option.some.inj hF
            exact jx_vret E dX5_lotTold_105 rfl
          · rw [if_neg hc7] at hF
            refine jx_aload_n E dX5_lotTold_88 0 rfl ?_
            refine jx_iload_n E dX5_lotTold_89 2 rfl ?_
            obtain ⟨⟨r9, v9⟩, hc9, hF⟩ := jx_bind hF
            try dsimp only at hF
            refine jx_callVi (As := [.int x2]) (st := [.ref (ad 0)]) (h := 0) E dX5_lotTold_90 1 rfl (k_X5_isThing hI x2 v6 r9 v9 hc9) (gb_V (List.mem_cons_of_mem _ tw_339) (List.mem_cons_of_mem _ tw_340) (List.mem_cons_of_mem _ tw_341) (List.mem_cons_of_mem _ tw_325) tw_338) rfl rfl rfl dd_X5_isThing rfl (Nat.le_of_ble_eq_true rfl) s_M0 rfl ⟨by decide, by decide⟩ ⟨Nat.le_refl 0, Nat.le_refl 0⟩ (Nat.le_of_ble_eq_true rfl) ?_
            refine jx_iload_n E dX5_lotTold_93 1 rfl ?_
            refine jx_icmp_eq (tgt := 101) E dX5_lotTold_94 (by decide) (fun hc10 => ?_) (fun hc10 => ?_)
            · rw [if_pos hc10] at hF
              refine jx_iconst (x := 0) E dX5_lotTold_101 (by decide) ?_
              obtain ⟨v11, hc11, hF⟩ := jx_bind hF
              try dsimp only at hF
              refine jx_callVv (As := [.int 0]) (st := []) (h := 0) E dX5_lotTold_102 1 rfl (k_X5_needs hI 0 v9 v11 hc11) (gb_V (List.mem_cons_of_mem _ tw_522) (List.mem_cons_of_mem _ tw_523) (List.mem_cons_of_mem _ tw_524) (List.mem_cons_of_mem _ tw_325) tw_521) rfl rfl rfl dd_X5_needs rfl (Nat.le_of_ble_eq_true rfl) s_M0 rfl ⟨by decide, by decide⟩ ⟨Nat.le_refl 0, Nat.le_refl 0⟩ (Nat.le_of_ble_eq_true rfl) ?_
              obtain rfl := Option.some.inj hF
              exact jx_vret E dX5_lotTold_105 rfl
            · rw [if_neg hc10] at hF
              refine jx_iconst (x := 1) E dX5_lotTold_97 (by decide) ?_
              refine jx_goto (tgt := 102) E dX5_lotTold_98 (by decide) ?_
              obtain ⟨v12, hc12, hF⟩ := jx_bind hF
              try dsimp only at hF
              refine jx_callVv (As := [.int 1]) (st := []) (h := 0) E dX5_lotTold_102 1 rfl (k_X5_needs hI 1 v9 v12 hc12) (gb_V (List.mem_cons_of_mem _ tw_522) (List.mem_cons_of_mem _ tw_523) (List.mem_cons_of_mem _ tw_524) (List.mem_cons_of_mem _ tw_325) tw_521) rfl rfl rfl dd_X5_needs rfl (Nat.le_of_ble_eq_true rfl) s_M0 rfl ⟨by decide, by decide⟩ ⟨Nat.le_refl 0, Nat.le_refl 0⟩ (Nat.le_of_ble_eq_true rfl) ?_
              obtain rfl := Option.some.inj hF
              exact jx_vret E dX5_lotTold_105 rfl
      · rw [if_neg hc1] at hF
        refine jx_aload_n E dX5_lotTold_15 0 rfl ?_
        refine jx_aload_n E dX5_lotTold_16 0 rfl ?_
        refine jx_geti (C := RX5) (T := TX5) (M := 21) (k := 13) E dX5_lotTold_17 (Nat.le_of_ble_eq_true rfl) s_M0 rfl iX5 (by decide) rfl (List.mem_cons_of_mem _ tw_502) rfl ?_
        obtain ⟨⟨r13, v13⟩, hc13, hF⟩ := jx_bind hF
        try dsimp only at hF
        refine jx_callVi (As := [.int (v 0 13)]) (st := []) (h := 0) E dX5_lotTold_20 1 rfl (k_X5_byteAt hI (v 0 13) v r13 v13 hc13) (gb_V (List.mem_cons_of_mem _ tw_504) (List.mem_cons_of_mem _ tw_505) (List.mem_cons_of_mem _ tw_506) (List.mem_cons_of_mem _ tw_325) tw_503) rfl rfl rfl dd_X5_byteAt rfl (Nat.le_of_ble_eq_true rfl) s_M0 rfl ⟨by decide, by decide⟩ ⟨Nat.le_refl 0, Nat.le_refl 0⟩ (Nat.le_of_ble_eq_true rfl) ?_
        obtain ⟨⟨r14, v14⟩, hc14, hF⟩ := jx_bind hF
        try dsimp only at hF
        refine jx_callSi (As := [.int r13]) (st := []) E dX5_lotTold_23 1 rfl (k_X5_isDigit hI r13 v13 r14 v14 hc14) (gb_S (List.mem_cons_of_mem _ tw_511) (List.mem_cons_of_mem _ tw_512) (List.mem_cons_of_mem _ tw_325) tw_510) rfl rfl rfl dd_X5_isDigit rfl ⟨by decide, by decide⟩ ⟨Nat.le_refl 0, Nat.le_refl 0⟩ (Nat.le_of_ble_eq_true rfl) ?_
        refine jx_if_eq (tgt := 61) E dX5_lotTold_26 (by decide) (fun hc15 => ?_) (fun hc15 => ?_)
        · rw [if_pos hc15] at hF
          refine jx_aload_n E dX5_lotTold_61 0 rfl ?_
          refine jx_iload_n E dX5_lotTold_62 2 rfl ?_
          refine jx_puti (C := RX5) (T := TX5) (M := 21) (k := 15) (ty := .int) E tyX5 dX5_lotTold_63 (Nat.le_of_ble_eq_true rfl) s_M0 rfl iX5 (by decide) rfl (List.mem_cons_of_mem _ tw_520) tyX5_ok nmX5 rfl (by decide +kernel) rfl rfl rfl ?_
          refine jx_aload_n E dX5_lotTold_66 0 rfl ?_
          refine jx_aload_n E dX5_lotTold_67 0 rfl ?_
          refine jx_aload_n E dX5_lotTold_68 0 rfl ?_
          refine jx_geti (C := RX5) (T := TX5) (M := 21) (k := 13) E dX5_lotTold_69 (Nat.le_of_ble_eq_true rfl) s_M0 rfl iX5 (by decide) rfl (List.mem_cons_of_mem _ tw_502) rfl ?_
          obtain ⟨⟨r16, v16⟩, hc16, hF⟩ := jx_bind hF
          try dsimp only at hF
          refine jx_callVi (As := [.int ((jx_up v14 0 15 x2) 0 13)]) (st := [.ref (ad 0)]) (h := 0) E dX5_lotTold_72 1 rfl (k_X5_byteAt hI ((jx_up v14 0 15 x2) 0 13) (jx_up v14 0 15 x2) r16 v16 hc16) (gb_V (List.mem_cons_of_mem _ tw_504) (List.mem_cons_of_mem _ tw_505) (List.mem_cons_of_mem _ tw_506) (List.mem_cons_of_mem _ tw_325) tw_503) rfl rfl rfl dd_X5_byteAt rfl (Nat.le_of_ble_eq_true rfl) s_M0 rfl ⟨by decide, by decide⟩ ⟨Nat.le_refl 0, Nat.le_refl 0⟩ (Nat.le_of_ble_eq_true rfl) ?_
          obtain ⟨⟨r17, v17⟩, hc17, hF⟩ := jx_bind hF
          try dsimp only at hF
          refine jx_callSi (As := [.int r16]) (st := [.ref (ad 0)]) E dX5_lotTold_75 1 rfl (k_X5_isDigit hI r16 v16 r17 v17 hc17) (gb_S (List.mem_cons_of_mem _ tw_511) (List.mem_cons_of_mem _ tw_512) (List.mem_cons_of_mem _ tw_325) tw_510) rfl rfl rfl dd_X5_isDigit rfl ⟨by decide, by decide⟩ ⟨Nat.le_refl 0, Nat.le_refl 0⟩ (Nat.le_of_ble_eq_true rfl) ?_
          refine jx_if_eq (tgt := 101) E dX5_lotTold_78 (by decide) (fun hc18 => ?_) (fun hc18 => ?_)
          · rw [if_pos hc18] at hF
            refine jx_iconst (x := 0) E dX5_lotTold_101 (by decide) ?_
            obtain ⟨v19, hc19, hF⟩ := jx_bind hF
            try dsimp only at hF
            refine jx_callVv (As := [.int 0]) (st := []) (h := 0) E dX5_lotTold_102 1 rfl (k_X5_needs hI 0 v17 v19 hc19) (gb_V (List.mem_cons_of_mem _ tw_522) (List.mem_cons_of_mem _ tw_523) (List.mem_cons_of_mem _ tw_524) (List.mem_cons_of_mem _ tw_325) tw_521) rfl rfl rfl dd_X5_needs rfl (Nat.le_of_ble_eq_true rfl) s_M0 rfl ⟨by decide, by decide⟩ ⟨Nat.le_refl 0, Nat.le_refl 0⟩ (Nat.le_of_ble_eq_true rfl) ?_
            obtain rfl := Option.some.inj hF
            exact jx_vret E dX5_lotTold_105 rfl
          · rw [if_neg hc18] at hF
            refine jx_iload_n E dX5_lotTold_81 2 rfl ?_
            obtain ⟨⟨r20, v20⟩, hc20, hF⟩ := jx_bind hF
            try dsimp only at hF
            refine jx_callSi (As := [.int x2]) (st := [.ref (ad 0)]) E dX5_lotTold_82 1 rfl (k_X5_isLot hI x2 v17 r20 v20 hc20) (gb_S (List.mem_cons_of_mem _ tw_348) (List.mem_cons_of_mem _ tw_349) (List.mem_cons_of_mem _ tw_325) tw_347) rfl rfl rfl dd_X5_isLot rfl ⟨by decide, by decide⟩ ⟨Nat.le_refl 0, Nat.le_refl 0⟩ (Nat.le_of_ble_eq_true rfl) ?_
            refine jx_if_eq (tgt := 101) E dX5_lotTold_85 (by decide) (fun hc21 => ?_) (fun hc21 => ?_)
            · rw [if_pos hc21] at hF
              refine jx_iconst (x := 0) E dX5_lotTold_101 (by decide) ?_
              obtain ⟨v22, hc22, hF⟩ := jx_bind hF
              try dsimp only at hF
              refine jx_callVv (As := [.int 0]) (st := []) (h := 0) E dX5_lotTold_102 1 rfl (k_X5_needs hI 0 v20 v22 hc22) (gb_V (List.mem_cons_of_mem _ tw_522) (List.mem_cons_of_mem _ tw_523) (List.mem_cons_of_mem _ tw_524) (List.mem_cons_of_mem _ tw_325) tw_521) rfl rfl rfl dd_X5_needs rfl (Nat.le_of_ble_eq_true rfl) s_M0 rfl ⟨by decide, by decide⟩ ⟨Nat.le_refl 0, Nat.le_refl 0⟩ (Nat.le_of_ble_eq_true rfl) ?_
              obtain rfl := Option.some.inj hF
              exact jx_vret E dX5_lotTold_105 rfl
            · rw [if_neg hc21] at hF
              refine jx_aload_n E dX5_lotTold_88 0 rfl ?_
              refine jx_iload_n E dX5_lotTold_89 2 rfl ?_
              obtain ⟨⟨r23, v23⟩, hc23, hF⟩ := jx_bind hF
              try dsimp only at hF
              refine jx_callVi (As := [.int x2]) (st := [.ref (ad 0)]) (h := 0) E dX5_lotTold_90 1 rfl (k_X5_isThing hI x2 v20 r23 v23 hc23) (gb_V (List.mem_cons_of_mem _ tw_339) (List.mem_cons_of_mem _ tw_340) (List.mem_cons_of_mem _ tw_341) (List.mem_cons_of_mem _ tw_325) tw_338) rfl rfl rfl dd_X5_isThing rfl (Nat.le_of_ble_eq_true rfl) s_M0 rfl ⟨by decide, by decide⟩ ⟨Nat.le_refl 0, Nat.le_refl 0⟩ (Nat.le_of_ble_eq_true rfl) ?_
              refine jx_iload_n E dX5_lotTold_93 1 rfl ?_
              refine jx_icmp_eq (tgt := 101) E dX5_lotTold_94 (by decide) (fun hc24 => ?_) (fun hc24 => ?_)
              · rw [if_pos hc24] at hF
                refine jx_iconst (x := 0) E dX5_lotTold_101 (by decide) ?_
                obtain ⟨v25, hc25, hF⟩ := jx_bind hF
                try dsimp only at hF
                refine jx_callVv (As := [.int 0]) (st := []) (h := 0) E dX5_lotTold_102 1 rfl (k_X5_needs hI 0 v23 v25 hc25) (gb_V (List.mem_cons_of_mem _ tw_522) (List.mem_cons_of_mem _ tw_523) (List.mem_cons_of_mem _ tw_524) (List.mem_cons_of_mem _ tw_325) tw_521) rfl rfl rfl dd_X5_needs rfl (Nat.le_of_ble_eq_true rfl) s_M0 rfl ⟨by decide, by decide⟩ ⟨Nat.le_refl 0, Nat.le_refl 0⟩ (Nat.le_of_ble_eq_true rfl) ?_
                obtain rfl := Option.some.inj hF
                exact jx_vret E dX5_lotTold_105 rfl
              · rw [if_neg hc24] at hF
                refine jx_iconst (x := 1) E dX5_lotTold_97 (by decide) ?_
                refine jx_goto (tgt := 102) E dX5_lotTold_98 (by decide) ?_
                obtain ⟨v26, hc26, hF⟩ := jx_bind hF
                try dsimp only at hF
                refine jx_callVv (As := [.int 1]) (st := []) (h := 0) E dX5_lotTold_102 1 rfl (k_X5_needs hI 1 v23 v26 hc26) (gb_V (List.mem_cons_of_mem _ tw_522) (List.mem_cons_of_mem _ tw_523) (List.mem_cons_of_mem _ tw_524) (List.mem_cons_of_mem _ tw_325) tw_521) rfl rfl rfl dd_X5_needs rfl (Nat.le_of_ble_eq_true rfl) s_M0 rfl ⟨by decide, by decide⟩ ⟨Nat.le_refl 0, Nat.le_refl 0⟩ (Nat.le_of_ble_eq_true rfl) ?_
                obtain rfl := Option.some.inj hF
                exact jx_vret E dX5_lotTold_105 rfl
        · rw [if_neg hc15] at hF
          refine jx_iload_n E dX5_lotTold_29 2 rfl ?_
          refine jx_sipush (x := 999) E dX5_lotTold_30 (by decide) ?_
          refine jx_icmp_le (tgt := 40) E dX5_lotTold_33 (by decide) (fun hc27 => ?_) (fun hc27 => ?_)
          · rw [if_pos hc27] at hF
            refine jx_bipush (x := 10) E dX5_lotTold_40 (by decide) ?_
            refine jx_iload_n E dX5_lotTold_42 2 rfl ?_
            refine jx_imul E dX5_lotTold_43 ?_
            refine jx_aload_n E dX5_lotTold_44 0 rfl ?_
            refine jx_getr (C := RX5) (T := TX5) (M := 21) (k := 11) E dX5_lotTold_45 (Nat.le_of_ble_eq_true rfl) s_M0 rfl iX5 (by decide) rfl (List.mem_cons_of_mem _ tw_496) rfl ?_
            refine jx_iload_n E dX5_lotTold_48 3 rfl ?_
            obtain ⟨hg28, hF⟩ := jx_guard hF
            refine jx_iald (h := 8) (j := (Int32.toNatClampNeg x3)) E dX5_lotTold_49 (Nat.le_of_ble_eq_true rfl) s_M8 hg28 rfl ?_
            refine jx_iadd E dX5_lotTold_50 ?_
            refine jx_bipush (x := 48) E dX5_lotTold_51 (by decide) ?_
            refine jx_isub E dX5_lotTold_53 ?_
            refine jx_istore_n (lv' := [(2, .int (((10 * x2) + (v14 8 (Int32.toNatClampNeg x3))) - 48)), (0, .ref (ad 0)), (1, .int x1), (3, .int x3)]) E dX5_lotTold_54 (by decide) rfl ?_
            refine jx_iinc (y := (x3 + 1)) (lv' := [(3, .int (x3 + 1)), (2, .int (((10 * x2) + (v14 8 (Int32.toNatClampNeg x3))) - 48)), (0, .ref (ad 0)), (1, .int x1)]) E dX5_lotTold_55 3 rfl rfl (by decide) rfl ?_
            refine jx_goto (tgt := 7) E dX5_lotTold_58 (by decide) ?_
            refine jx_sub [2, 3, 1, 0] rfl ?_
            exact ih x1 (((10 * x2) + (v14 8 (Int32.toNatClampNeg x3))) - 48) (x3 + 1) v14 hF
          · rw [if_neg hc27] at hF
            refine jx_iload_n E dX5_lotTold_36 2 rfl ?_
            refine jx_goto (tgt := 54) E dX5_lotTold_37 (by decide) ?_
            refine jx_istore_n (lv' := [(2, .int x2), (0, .ref (ad 0)), (1, .int x1), (3, .int x3)]) E dX5_lotTold_54 (by decide) rfl ?_
            refine jx_iinc (y := (x3 + 1)) (lv' := [(3, .int (x3 + 1)), (2, .int x2), (0, .ref (ad 0)), (1, .int x1)]) E dX5_lotTold_55 3 rfl rfl (by decide) rfl ?_
            refine jx_goto (tgt := 7) E dX5_lotTold_58 (by decide) ?_
            refine jx_sub [2, 3, 1, 0] rfl ?_
            exact ih x1 x2 (x3 + 1) v14 hF
  refine jx_iconst (x := 0) E dX5_lotTold_0 (by decide) ?_
  refine jx_istore_n (lv' := [(2, .int 0), (0, .ref (ad 0)), (1, .int x1)]) E dX5_lotTold_1 (by decide) rfl ?_
  refine jx_aload_n E dX5_lotTold_2 1 rfl ?_
  refine jx_geti (C := RX5) (T := TX5) (M := 21) (k := 13) E dX5_lotTold_3 (Nat.le_of_ble_eq_true rfl) s_M0 rfl iX5 (by decide) rfl (List.mem_cons_of_mem _ tw_502) rfl ?_
  refine jx_istore_n (lv' := [(3, .int (v 0 13)), (2, .int 0), (0, .ref (ad 0)), (1, .int x1)]) E dX5_lotTold_6 (by decide) rfl ?_
  refine jx_sub [2, 3, 1, 0] rfl ?_
  exact (key 100000) x1 0 (v 0 13) v hF
def f_X5_numberBehind (x1 : Int64) (x3 : Int32) (v : jx_V) : Option (Int32 × jx_V) := ((f_X5_word v).bind (fun (r1, v1) => (if (lg_cmp r1 x1) = 0 then ((f_X5_needs 1 v1).bind (fun v5 => ((f_X5_number 0 x3 v5).bind (fun v6 => (some ((v6 0 15), v6)))))) else ((f_X5_needs 0 v1).bind (fun v3 => ((f_X5_number 0 x3 v3).bind (fun v4 => (some ((v4 0 15), v4)))))))))
def rm_X5_numberBehind : Room := { frames := 5, cells := 0, slots := 0, locals := 113 }
set_option maxHeartbeats 4000000 in
set_option maxRecDepth 100000 in
theorem k_X5_numberBehind {l : Launch} {D : va_G} {cI cJ : ClassId} {ad : Nat → Nat} {A : Nat → Prop} (hI : jx_inj 13 ad A) (x1 : Int64) (x3 : Int32) (v : jx_V) (r : Int32) (v' : jx_V) (hF : f_X5_numberBehind x1 x3 v = some (r, v')) : jx_Ci l D vwCl 13 cI cJ ad shM A ex_M yX5_numberBehind (Cond.code yX5_numberBehind cX5_numberBehind 4 (some .int) :: bigT) rm_X5_numberBehind [.ref (ad 0), .long x1, .int x3] v r v' := by
  unfold f_X5_numberBehind at hF
  refine jx_enteri bigT RX5 cX5_numberBehind 4 (some .int) [(0, .ref (ad 0)), (1, .long x1), (3, .int x3)] hI (ex_M_ok A) (by decide +kernel) rfl (Nat.le_of_ble_eq_true rfl) rfl rfl ?_
  intro p e s m args below meth c E
  have iX5 : ∀ w ∈ u_ws RX5 TX5 21, w ∈ (Cond.code yX5_numberBehind cX5_numberBehind 4 (some .int) :: bigT) := fun w h => List.mem_cons_of_mem _ (uw_X5 w h)
  refine jx_aload_n E dX5_numberBehind_0 0 rfl ?_
  refine jx_aload_n E dX5_numberBehind_1 0 rfl ?_
  obtain ⟨⟨r1, v1⟩, hc1, hF⟩ := jx_bind hF
  try dsimp only at hF
  refine jx_callVl (As := []) (st := [.ref (ad 0)]) (h := 0) E dX5_numberBehind_2 0 rfl (k_X5_word hI  v r1 v1 hc1) (gb_V (List.mem_cons_of_mem _ tw_526) (List.mem_cons_of_mem _ tw_527) (List.mem_cons_of_mem _ tw_528) (List.mem_cons_of_mem _ tw_325) tw_525) rfl rfl rfl dd_X5_word rfl (Nat.le_of_ble_eq_true rfl) s_M0 rfl ⟨by decide, by decide⟩ ⟨Nat.le_refl 0, Nat.le_refl 0⟩ (Nat.le_of_ble_eq_true rfl) ?_
  refine jx_lload_n E dX5_numberBehind_5 1 rfl ?_
  refine jx_lcmp E dX5_numberBehind_6 ?_
  refine jx_if_ne (tgt := 14) E dX5_numberBehind_7 (by decide) (fun hc2 => ?_) (fun hc2 => ?_)
  · rw [if_neg hc2] at hF
    refine jx_iconst (x := 0) E dX5_numberBehind_14 (by decide) ?_
    obtain ⟨v3, hc3, hF⟩ := jx_bind hF
    try dsimp only at hF
    refine jx_callVv (As := [.int 0]) (st := []) (h := 0) E dX5_numberBehind_15 1 rfl (k_X5_needs hI 0 v1 v3 hc3) (gb_V (List.mem_cons_of_mem _ tw_522) (List.mem_cons_of_mem _ tw_523) (List.mem_cons_of_mem _ tw_524) (List.mem_cons_of_mem _ tw_325) tw_521) rfl rfl rfl dd_X5_needs rfl (Nat.le_of_ble_eq_true rfl) s_M0 rfl ⟨by decide, by decide⟩ ⟨Nat.le_refl 0, Nat.le_refl 0⟩ (Nat.le_of_ble_eq_true rfl) ?_
    refine jx_aload_n E dX5_numberBehind_18 0 rfl ?_
    refine jx_iconst (x := 0) E dX5_numberBehind_19 (by decide) ?_
    refine jx_iload_n E dX5_numberBehind_20 2 rfl ?_
    obtain ⟨v4, hc4, hF⟩ := jx_bind hF
    try dsimp only at hF
    refine jx_callVv (As := [.int 0, .int x3]) (st := []) (h := 0) E dX5_numberBehind_21 2 rfl (k_X5_number hI 0 x3 v3 v4 hc4) (gb_V (List.mem_cons_of_mem _ tw_537) (List.mem_cons_of_mem _ tw_538) (List.mem_cons_of_mem _ tw_539) (List.mem_cons_of_mem _ tw_325) tw_536) rfl rfl rfl dd_X5_number rfl (Nat.le_of_ble_eq_true rfl) s_M0 rfl ⟨by decide, by decide⟩ ⟨Nat.le_refl 0, Nat.le_refl 0⟩ (Nat.le_of_ble_eq_true rfl) ?_
    refine jx_aload_n E dX5_numberBehind_24 0 rfl ?_
    refine jx_geti (C := RX5) (T := TX5) (M := 21) (k := 15) E dX5_numberBehind_25 (Nat.le_of_ble_eq_true rfl) s_M0 rfl iX5 (by decide) rfl (List.mem_cons_of_mem _ tw_520) rfl ?_
    obtain ⟨rfl, rfl⟩ := jx_out hF
    exact jx_iret E dX5_numberBehind_28 rfl
  · rw [if_pos hc2] at hF
    refine jx_iconst (x := 1) E dX5_numberBehind_10 (by decide) ?_
    refine jx_goto (tgt := 15) E dX5_numberBehind_11 (by decide) ?_
    obtain ⟨v5, hc5, hF⟩ := jx_bind hF
    try dsimp only at hF
    refine jx_callVv (As := [.int 1]) (st := []) (h := 0) E dX5_numberBehind_15 1 rfl (k_X5_needs hI 1 v1 v5 hc5) (gb_V (List.mem_cons_of_mem _ tw_522) (List.mem_cons_of_mem _ tw_523) (List.mem_cons_of_mem _ tw_524) (List.mem_cons_of_mem _ tw_325) tw_521) rfl rfl rfl dd_X5_needs rfl (Nat.le_of_ble_eq_true rfl) s_M0 rfl ⟨by decide, by decide⟩ ⟨Nat.le_refl 0, Nat.le_refl 0⟩ (Nat.le_of_ble_eq_true rfl) ?_
    refine jx_aload_n E dX5_numberBehind_18 0 rfl ?_
    refine jx_iconst (x := 0) E dX5_numberBehind_19 (by decide) ?_
    refine jx_iload_n E dX5_numberBehind_20 2 rfl ?_
    obtain ⟨v6, hc6, hF⟩ := jx_bind hF
    try dsimp only at hF
    refine jx_callVv (As := [.int 0, .int x3]) (st := []) (h := 0) E dX5_numberBehind_21 2 rfl (k_X5_number hI 0 x3 v5 v6 hc6) (gb_V (List.mem_cons_of_mem _ tw_537) (List.mem_cons_of_mem _ tw_538) (List.mem_cons_of_mem _ tw_539) (List.mem_cons_of_mem _ tw_325) tw_536) rfl rfl rfl dd_X5_number rfl (Nat.le_of_ble_eq_true rfl) s_M0 rfl ⟨by decide, by decide⟩ ⟨Nat.le_refl 0, Nat.le_refl 0⟩ (Nat.le_of_ble_eq_true rfl) ?_
    refine jx_aload_n E dX5_numberBehind_24 0 rfl ?_
    refine jx_geti (C := RX5) (T := TX5) (M := 21) (k := 15) E dX5_numberBehind_25 (Nat.le_of_ble_eq_true rfl) s_M0 rfl iX5 (by decide) rfl (List.mem_cons_of_mem _ tw_520) rfl ?_
    obtain ⟨rfl, rfl⟩ := jx_out hF
    exact jx_iret E dX5_numberBehind_28 rfl
