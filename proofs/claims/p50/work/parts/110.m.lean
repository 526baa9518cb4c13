def f_X5_spill_L  : Nat → Nat → Int32 → Int32 → Int32 → Int32 → Int32 → jx_V → Option (Int32 × jx_V)
  | 0, _, _, _, _, _, _, _ => none
  | n + 1, tag, x1, x2, x3, x4, x5, v => (if tag = 0 then (if x1 ≤ x3 then ((f_X5_findGains v).bind (fun (r8, v8) => (some (r8, v8)))) else ((f_X5_draw v).bind (fun (r9, v9) => (if x2 = 0 then none else (f_X5_spill_L n 1 x1 x2 x3 (r9 - r9 / x2 * x2) 0 v9))))) else (if tag = 1 then ((f_X5_isThing x5 v).bind (fun (r11, v11) => (if r11 = 0 then ((f_X5_isThing x5 v11).bind (fun (r13, v13) => (if r13 = 0 then (f_X5_spill_L n 1 x1 x2 x3 (x4 - 0) (x5 + 1) v13) else (f_X5_spill_L n 1 x1 x2 x3 (x4 - 1) (x5 + 1) v13)))) else (if x4 ≤ 0 then ((f_X5_at x5 3 v11).bind (fun (r16, v16) => ((f_X5_draw v16).bind (fun (r17, v17) => (if (r16 < 0 ∨ 181 ≤ Int32.toNatClampNeg r16) then none else (f_X5_spill_L n 0 x1 x2 (x3 + 1) 0 0 (jx_up v17 1 (Int32.toNatClampNeg r16) (r17 - r17 / 4 * 4)))))))) else ((f_X5_isThing x5 v11).bind (fun (r19, v19) => (if r19 = 0 then (f_X5_spill_L n 1 x1 x2 x3 (x4 - 0) (x5 + 1) v19) else (f_X5_spill_L n 1 x1 x2 x3 (x4 - 1) (x5 + 1) v19)))))))) else none))
def f_X5_spill (x1 : Int32) (v : jx_V) : Option (Int32 × jx_V) := ((f_X5_in (Int32.toInt64 x1) 1 12 v).bind (fun (r1, v1) => (if r1 = 0 then ((f_X5_finds (-1000001) v1).bind (fun (r6, v6) => (some (r6, v6)))) else ((f_X5_things v1).bind (fun (r3, v3) => (if r3 = 0 then ((f_X5_finds (-1000005) v3).bind (fun (r5, v5) => (some (r5, v5)))) else (f_X5_spill_L 100000 0 x1 r3 0 0 0 v3)))))))
def rm_X5_spill : Room := { frames := 6, cells := 0, slots := 0, locals := 147 }
set_option maxHeartbeats 4000000 in
set_option maxRecDepth 100000 in
theorem k_X5_spill {l : Launch} {D : va_G} {cI cJ : ClassId} {ad : Nat → Nat} {A : Nat → Prop} (hI : jx_inj 13 ad A) (x1 : Int32) (v : jx_V) (r : Int32) (v' : jx_V) (hF : f_X5_spill x1 v = some (r, v')) : jx_Ci l D vwCl 13 cI cJ ad shM A ex_M yX5_spill (Cond.code yX5_spill cX5_spill 6 (some .int) :: bigT) rm_X5_spill [.ref (ad 0), .int x1] v r v' := by
  unfold f_X5_spill at hF
  refine jx_enteri bigT RX5 cX5_spill 6 (some .int) [(0, .ref (ad 0)), (1, .int x1)] hI (ex_M_ok A) (by decide +kernel) rfl (Nat.le_of_ble_eq_true rfl) rfl rfl ?_
  intro p e s m args below meth c E
  have iX5 : ∀ w ∈ u_ws RX5 TX5 21, w ∈ (Cond.code yX5_spill cX5_spill 6 (some .int) :: bigT) := fun w h => List.mem_cons_of_mem _ (uw_X5 w h)
  have key : ∀ n : Nat, (∀ (x1 : Int32) (x2 : Int32) (x3 : Int32) (v : jx_V), f_X5_spill_L  n 0 x1 x2 x3 0 0 v = some (r, v') → jx_J p l e rm_X5_spill s m args below meth c D vwCl 13 cI cJ ad shM A 0 0 6 (MQ below (va_Qi (fun (r1 : Int32) (_ : Unit) => r1 = r) (fun _ t => va_P D vwCl (jx_ws 13 cI cJ ad shM v') t.heap) A) args s 0 0 A) v 37 [(0, .ref (ad 0)), (1, .int x1), (2, .int x2), (3, .int x3)] []) ∧ (∀ (x1 : Int32) (x2 : Int32) (x3 : Int32) (x4 : Int32) (x5 : Int32) (v : jx_V), f_X5_spill_L  n 1 x1 x2 x3 x4 x5 v = some (r, v') → jx_J p l e rm_X5_spill s m args below meth c D vwCl 13 cI cJ ad shM A 0 0 6 (MQ below (va_Qi (fun (r1 : Int32) (_ : Unit) => r1 = r) (fun _ t => va_P D vwCl (jx_ws 13 cI cJ ad shM v') t.heap) A) args s 0 0 A) v 53 [(0, .ref (ad 0)), (1, .int x1), (2, .int x2), (3, .int x3), (4, .int x4), (5, .int x5)] []) := by
    intro n
    induction n with
    | zero =>
      exact ⟨(fun _ _ _ _ h => by cases h), (fun _ _ _ _ _ _ h => by cases h)⟩
    | succ n ih =>
      refine ⟨?_, ?_⟩
      · intro x1 x2 x3 v hF
        rw [f_X5_spill_L] at hF
        rw [if_pos rfl] at hF
        refine jx_iload_n E dX5_spill_37 3 rfl ?_
        refine jx_iload_n E dX5_spill_38 1 rfl ?_
        refine jx_icmp_ge (tgt := 115) E dX5_spill_39 (by decide) (fun hc7 => ?_) (fun hc7 => ?_)
        · rw [if_pos hc7] at hF
          refine jx_aload_n E dX5_spill_115 0 rfl ?_
          obtain ⟨⟨r8, v8⟩, hc8, hF⟩ := jx_bind hF
          try dsimp only at hF
          refine jx_callVi (As := []) (st := []) (h := 0) E dX5_spill_116 0 rfl (k_X5_findGains hI  v r8 v8 hc8) (gb_V (List.mem_cons_of_mem _ tw_432) (List.mem_cons_of_mem _ tw_433) (List.mem_cons_of_mem _ tw_434) (List.mem_cons_of_mem _ tw_325) tw_431) rfl rfl rfl dd_X5_findGains rfl (Nat.le_of_ble_eq_true rfl) s_M0 rfl ⟨by decide, by decide⟩ ⟨Nat.le_refl 0, Nat.le_refl 0⟩ (Nat.le_of_ble_eq_true rfl) ?_
          obtain ⟨rfl, rfl⟩ := jx_out hF
          exact jx_iret E dX5_spill_119 rfl
        · rw [if_neg hc7] at hF
          refine jx_aload_n E dX5_spill_42 0 rfl ?_
          obtain ⟨⟨r9, v9⟩, hc9, hF⟩ := jx_bind hF
          try dsimp only at hF
          refine jx_callVi (As := []) (st := []) (h := 0) E dX5_spill_43 0 rfl (k_X5_draw hI  v r9 v9 hc9) (gb_V (List.mem_cons_of_mem _ tw_492) (List.mem_cons_of_mem _ tw_493) (List.mem_cons_of_mem _ tw_494) (List.mem_cons_of_mem _ tw_325) tw_491) rfl rfl rfl dd_X5_draw rfl (Nat.le_of_ble_eq_true rfl) s_M0 rfl ⟨by decide, by decide⟩ ⟨Nat.le_refl 0, Nat.le_refl 0⟩ (Nat.le_of_ble_eq_true rfl) ?_
          refine jx_iload_n E dX5_spill_46 2 rfl ?_
          obtain ⟨hg10, hF⟩ := jx_guard hF
          refine jx_irem E dX5_spill_47 hg10 ?_
          refine jx_istore (lv' := [(4, .int (r9 - r9 / x2 * x2)), (0, .ref (ad 0)), (1, .int x1), (2, .int x2), (3, .int x3)]) E dX5_spill_48 (by decide) rfl ?_
          refine jx_iconst (x := 0) E dX5_spill_50 (by decide) ?_
          refine jx_istore (lv' := [(5, .int 0), (4, .int (r9 - r9 / x2 * x2)), (0, .ref (ad 0)), (1, .int x1), (2, .int x2), (3, .int x3)]) E dX5_spill_51 (by decide) rfl ?_
          refine jx_sub [2, 3, 4, 5, 1, 0] rfl ?_
          exact ih.2 x1 x2 x3 (r9 - r9 / x2 * x2) 0 v9 hF
      · intro x1 x2 x3 x4 x5 v hF
        rw [f_X5_spill_L] at hF
        rw [if_neg (by decide), if_pos rfl] at hF
        refine jx_aload_n E dX5_spill_53 0 rfl ?_
        refine jx_iload E dX5_spill_54 5 rfl ?_
        obtain ⟨⟨r11, v11⟩, hc11, hF⟩ := jx_bind hF
        try dsimp only at hF
        refine jx_callVi (As := [.int x5]) (st := []) (h := 0) E dX5_spill_56 1 rfl (k_X5_isThing hI x5 v r11 v11 hc11) (gb_V (List.mem_cons_of_mem _ tw_339) (List.mem_cons_of_mem _ tw_340) (List.mem_cons_of_mem _ tw_341) (List.mem_cons_of_mem _ tw_325) tw_338) rfl rfl rfl dd_X5_isThing rfl (Nat.le_of_ble_eq_true rfl) s_M0 rfl ⟨by decide, by decide⟩ ⟨Nat.le_refl 0, Nat.le_refl 0⟩ (Nat.le_of_ble_eq_true rfl) ?_
        refine jx_if_eq (tgt := 67) E dX5_spill_59 (by decide) (fun hc12 => ?_) (fun hc12 => ?_)
        · rw [if_pos hc12] at hF
          refine jx_iload E dX5_spill_67 4 rfl ?_
          refine jx_aload_n E dX5_spill_69 0 rfl ?_
          refine jx_iload E dX5_spill_70 5 rfl ?_
          obtain ⟨⟨r13, v13⟩, hc13, hF⟩ := jx_bind hF
          try dsimp only at hF
          refine jx_callVi (As := [.int x5]) (st := [.int x4]) (h := 0) E dX5_spill_72 1 rfl (k_X5_isThing hI x5 v11 r13 v13 hc13) (gb_V (List.mem_cons_of_mem _ tw_339) (List.mem_cons_of_mem _ tw_340) (List.mem_cons_of_mem _ tw_341) (List.mem_cons_of_mem _ tw_325) tw_338) rfl rfl rfl dd_X5_isThing rfl (Nat.le_of_ble_eq_true rfl) s_M0 rfl ⟨by decide, by decide⟩ ⟨Nat.le_refl 0, Nat.le_refl 0⟩ (Nat.le_of_ble_eq_true rfl) ?_
          refine jx_if_eq (tgt := 82) E dX5_spill_75 (by decide) (fun hc14 => ?_) (fun hc14 => ?_)
          · rw [if_pos hc14] at hF
            refine jx_iconst (x := 0) E dX5_spill_82 (by decide) ?_
            refine jx_isub E dX5_spill_83 ?_
            refine jx_istore (lv' := [(4, .int (x4 - 0)), (0, .ref (ad 0)), (1, .int x1), (2, .int x2), (3, .int x3), (5, .int x5)]) E dX5_spill_84 (by decide) rfl ?_
            refine jx_iinc (y := (x5 + 1)) (lv' := [(5, .int (x5 + 1)), (4, .int (x4 - 0)), (0, .ref (ad 0)), (1, .int x1), (2, .int x2), (3, .int x3)]) E dX5_spill_86 5 rfl rfl (by decide) rfl ?_
            refine jx_goto (tgt := 53) E dX5_spill_89 (by decide) ?_
            refine jx_sub [2, 3, 4, 5, 1, 0] rfl ?_
            exact ih.2 x1 x2 x3 (x4 - 0) (x5 + 1) v13 hF
          · rw [if_neg hc14] at hF
            refine jx_iconst (x := 1) E dX5_spill_78 (by decide) ?_
            refine jx_goto (tgt := 83) E dX5_spill_79 (by decide) ?_
            refine jx_isub E dX5_spill_83 ?_
            refine jx_istore (lv' := [(4, .int (x4 - 1)), (0, .ref (ad 0)), (1, .int x1), (2, .int x2), (3, .int x3), (5, .int x5)]) E dX5_spill_84 (by decide) rfl ?_
            refine jx_iinc (y := (x5 + 1)) (lv' := [(5, .int (x5 + 1)), (4, .int (x4 - 1)), (0, .ref (ad 0)), (1, .int x1), (2, .int x2), (3, .int x3)]) E dX5_spill_86 5 rfl rfl (by decide) rfl ?_
            refine jx_goto (tgt := 53) E dX5_spill_89 (by decide) ?_
            refine jx_sub [2, 3, 4, 5, 1, 0] rfl ?_
            exact ih.2 x1 x2 x3 (x4 - 1) (x5 + 1) v13 hF
        · rw [if_neg hc12] at hF
          refine jx_iload E dX5_spill_62 4 rfl ?_
          refine jx_if_le (tgt := 92) E dX5_spill_64 (by decide) (fun hc15 => ?_) (fun hc15 => ?_)
          · rw [if_pos hc15] at hF
            refine jx_aload_n E dX5_spill_92 0 rfl ?_
            refine jx_getr (C := RX5) (T := TX5) (M := 21) (k := 0) E dX5_spill_93 (Nat.le_of_ble_eq_true rfl) s_M0 rfl iX5 (by decide) rfl (List.mem_cons_of_mem _ tw_328) rfl ?_
            refine jx_iload E dX5_spill_96 5 rfl ?_
            refine jx_iconst (x := 3) E dX5_spill_98 (by decide) ?_
            obtain ⟨⟨r16, v16⟩, hc16, hF⟩ := jx_bind hF
            try dsimp only at hF
            refine jx_callSi (As := [.int x5, .int 3]) (st := [.ref (ad 1)]) E dX5_spill_99 2 rfl (k_X5_at hI x5 3 v11 r16 v16 hc16) (gb_S (List.mem_cons_of_mem _ tw_332) (List.mem_cons_of_mem _ tw_333) (List.mem_cons_of_mem _ tw_325) tw_331) rfl rfl rfl dd_X5_at rfl ⟨by decide, by decide⟩ ⟨Nat.le_refl 0, Nat.le_refl 0⟩ (Nat.le_of_ble_eq_true rfl) ?_
            refine jx_aload_n E dX5_spill_102 0 rfl ?_
            obtain ⟨⟨r17, v17⟩, hc17, hF⟩ := jx_bind hF
            try dsimp only at hF
            refine jx_callVi (As := []) (st := [.int r16, .ref (ad 1)]) (h := 0) E dX5_spill_103 0 rfl (k_X5_draw hI  v16 r17 v17 hc17) (gb_V (List.mem_cons_of_mem _ tw_492) (List.mem_cons_of_mem _ tw_493) (List.mem_cons_of_mem _ tw_494) (List.mem_cons_of_mem _ tw_325) tw_491) rfl rfl rfl dd_X5_draw rfl (Nat.le_of_ble_eq_true rfl) s_M0 rfl ⟨by decide, by decide⟩ ⟨Nat.le_refl 0, Nat.le_refl 0⟩ (Nat.le_of_ble_eq_true rfl) ?_
            refine jx_iconst (x := 4) E dX5_spill_106 (by decide) ?_
            refine jx_irem E dX5_spill_107 (by decide) ?_
            obtain ⟨hg18, hF⟩ := jx_guard hF
            refine jx_iast (h := 1) (j := (Int32.toNatClampNeg r16)) E dX5_spill_108 (Nat.le_of_ble_eq_true rfl) s_M1 hg18 rfl ?_
            refine jx_iinc (y := (x3 + 1)) (lv' := [(3, .int (x3 + 1)), (0, .ref (ad 0)), (1, .int x1), (2, .int x2), (4, .int x4), (5, .int x5)]) E dX5_spill_109 3 rfl rfl (by decide) rfl ?_
            refine jx_goto (tgt := 37) E dX5_spill_112 (by decide) ?_
            refine jx_sub [1, 2, 3, 0] rfl ?_
            exact ih.1 x1 x2 (x3 + 1) (jx_up v17 1 (Int32.toNatClampNeg r16) (r17 - r17 / 4 * 4)) hF
          · rw [if_neg hc15] at hF
            refine jx_iload E dX5_spill_67 4 rfl ?_
            refine jx_aload_n E dX5_spill_69 0 rfl ?_
            refine jx_iload E dX5_spill_70 5 rfl ?_
            obtain ⟨⟨r19, v19⟩, hc19, hF⟩ := jx_bind hF
            try dsimp only at hF
            refine jx_callVi (As := [.int x5]) (st := [.int x4]) (h := 0) E dX5_spill_72 1 rfl (k_X5_isThing hI x5 v11 r19 v19 hc19) (gb_V (List.mem_cons_of_mem _ tw_339) (List.mem_cons_of_mem _ tw_340) (List.mem_cons_of_mem _ tw_341) (List.mem_cons_of_mem _ tw_325) tw_338) rfl rfl rfl dd_X5_isThing rfl (Nat.le_of_ble_eq_true rfl) s_M0 rfl ⟨by decide, by decide⟩ ⟨Nat.le_refl 0, Nat.le_refl 0⟩ (Nat.le_of_ble_eq_true rfl) ?_
            refine jx_if_eq (tgt := 82) E dX5_spill_75 (by decide) (fun hc20 => ?_) (fun hc20 => ?_)
            · rw [if_pos hc20] at hF
              refine jx_iconst (x := 0) E dX5_spill_82 (by decide) ?_
              refine jx_isub E dX5_spill_83 ?_
              refine jx_istore (lv' := [(4, .int (x4 - 0)), (0, .ref (ad 0)), (1, .int x1), (2, .int x2), (3, .int x3), (5, .int x5)]) E dX5_spill_84 (by decide) rfl ?_
              refine jx_iinc (y := (x5 + 1)) (lv' := [(5, .int (x5 + 1)), (4, .int (x4 - 0)), (0, .ref (ad 0)), (1, .int x1), (2, .int x2), (3, .int x3)]) E dX5_spill_86 5 rfl rfl (by decide) rfl ?_
              refine jx_goto (tgt := 53) E dX5_spill_89 (by decide) ?_
              refine jx_sub [2, 3, 4, 5, 1, 0] rfl ?_
              exact ih.2 x1 x2 x3 (x4 - 0) (x5 + 1) v19 hF
            · rw [if_neg hc20] at hF
              refine jx_iconst (x := 1) E dX5_spill_78 (by decide) ?_
              refine jx_goto (tgt := 83) E dX5_spill_79 (by decide) ?_
              refine jx_isub E dX5_spill_83 ?_
              refine jx_istore (lv' := [(4, .int (x4 - 1)), (0, .ref (ad 0)), (1, .int x1), (2, .int x2), (3, .int x3), (5, .int x5)]) E dX5_spill_84 (by decide) rfl ?_
              refine jx_iinc (y := (x5 + 1)) (lv' := [(5, .int (x5 + 1)), (4, .int (x4 - 1)), (0, .ref (ad 0)), (1, .int x1), (2, .int x2), (3, .int x3)]) E dX5_spill_86 5 rfl rfl (by decide) rfl ?_
              refine jx_goto (tgt := 53) E dX5_spill_89 (by decide) ?_
              refine jx_sub [2, 3, 4, 5, 1, 0] rfl ?_
              exact ih.2 x1 x2 x3 (x4 - 1) (x5 + 1) v19 hF
  refine jx_iload_n E dX5_spill_0 1 rfl ?_
  refine jx_i2l E dX5_spill_1 ?_
  refine jx_lconst (x := 1) E dX5_spill_2 (by decide) ?_
  refine jx_ldc2 (x := 12) E dX5_spill_3 (List.mem_cons_of_mem _ tw_490) ?_
  obtain ⟨⟨r1, v1⟩, hc1, hF⟩ := jx_bind hF
  try dsimp only at hF
  refine jx_callSi (As := [.long (Int32.toInt64 x1), .long 1, .long 12]) (st := []) E dX5_spill_6 3 rfl (k_X5_in hI (Int32.toInt64 x1) 1 12 v r1 v1 hc1) (gb_S (List.mem_cons_of_mem _ tw_323) (List.mem_cons_of_mem _ tw_324) (List.mem_cons_of_mem _ tw_325) tw_322) rfl rfl rfl dd_X5_in rfl ⟨by decide, by decide⟩ ⟨Nat.le_refl 0, Nat.le_refl 0⟩ (Nat.le_of_ble_eq_true rfl) ?_
  refine jx_if_ne (tgt := 19) E dX5_spill_9 (by decide) (fun hc2 => ?_) (fun hc2 => ?_)
  · rw [if_neg hc2] at hF
    refine jx_aload_n E dX5_spill_19 0 rfl ?_
    obtain ⟨⟨r3, v3⟩, hc3, hF⟩ := jx_bind hF
    try dsimp only at hF
    refine jx_callVi (As := []) (st := []) (h := 0) E dX5_spill_20 0 rfl (k_X5_things hI  v1 r3 v3 hc3) (gb_V (List.mem_cons_of_mem _ tw_361) (List.mem_cons_of_mem _ tw_362) (List.mem_cons_of_mem _ tw_363) (List.mem_cons_of_mem _ tw_325) tw_360) rfl rfl rfl dd_X5_things rfl (Nat.le_of_ble_eq_true rfl) s_M0 rfl ⟨by decide, by decide⟩ ⟨Nat.le_refl 0, Nat.le_refl 0⟩ (Nat.le_of_ble_eq_true rfl) ?_
    refine jx_istore_n (lv' := [(2, .int r3), (0, .ref (ad 0)), (1, .int x1)]) E dX5_spill_23 (by decide) rfl ?_
    refine jx_iload_n E dX5_spill_24 0 rfl ?_
    refine jx_if_ne (tgt := 35) E dX5_spill_25 (by decide) (fun hc4 => ?_) (fun hc4 => ?_)
    · rw [if_neg hc4] at hF
      refine jx_iconst (x := 0) E dX5_spill_35 (by decide) ?_
      refine jx_istore_n (lv' := [(3, .int 0), (2, .int r3), (0, .ref (ad 0)), (1, .int x1)]) E dX5_spill_36 (by decide) rfl ?_
      refine jx_sub [2, 3, 1, 0] rfl ?_
      exact (key 100000).1 x1 r3 0 v3 hF
    · rw [if_pos hc4] at hF
      refine jx_aload_n E dX5_spill_28 1 rfl ?_
      refine jx_ldc (x := -1000005) E dX5_spill_29 (List.mem_cons_of_mem _ tw_364) ?_
      obtain ⟨⟨r5, v5⟩, hc5, hF⟩ := jx_bind hF
      try dsimp only at hF
      refine jx_callVi (As := [.int (-1000005)]) (st := []) (h := 0) E dX5_spill_31 1 rfl (k_X5_finds hI (-1000005) v3 r5 v5 hc5) (gb_V (List.mem_cons_of_mem _ tw_344) (List.mem_cons_of_mem _ tw_345) (List.mem_cons_of_mem _ tw_346) (List.mem_cons_of_mem _ tw_325) tw_343) rfl rfl rfl dd_X5_finds rfl (Nat.le_of_ble_eq_true rfl) s_M0 rfl ⟨by decide, by decide⟩ ⟨Nat.le_refl 0, Nat.le_refl 0⟩ (Nat.le_of_ble_eq_true rfl) ?_
      obtain ⟨rfl, rfl⟩ := jx_out hF
      exact jx_iret E dX5_spill_34 rfl
  · rw [if_pos hc2] at hF
    refine jx_aload_n E dX5_spill_12 0 rfl ?_
    refine jx_ldc (x := -1000001) E dX5_spill_13 (List.mem_cons_of_mem _ tw_320) ?_
    obtain ⟨⟨r6, v6⟩, hc6, hF⟩ := jx_bind hF
    try dsimp only at hF
    refine jx_callVi (As := [.int (-1000001)]) (st := []) (h := 0) E dX5_spill_15 1 rfl (k_X5_finds hI (-1000001) v1 r6 v6 hc6) (gb_V (List.mem_cons_of_mem _ tw_344) (List.mem_cons_of_mem _ tw_345) (List.mem_cons_of_mem _ tw_346) (List.mem_cons_of_mem _ tw_325) tw_343) rfl rfl rfl dd_X5_finds rfl (Nat.le_of_ble_eq_true rfl) s_M0 rfl ⟨by decide, by decide⟩ ⟨Nat.le_refl 0, Nat.le_refl 0⟩ (Nat.le_of_ble_eq_true rfl) ?_
    obtain ⟨rfl, rfl⟩ := jx_out hF
    exact jx_iret E dX5_spill_18 rfl
def f_X5_seed (x1 : Int32) (v : jx_V) : Option (Int32 × jx_V) := (some ((v 1 2), (jx_up v 1 2 x1)))
def rm_X5_seed : Room := { frames := 0, cells := 0, slots := 0, locals := 0 }
set_option maxHeartbeats 4000000 in
set_option maxRecDepth 100000 in
theorem k_X5_seed {l : Launch} {D : va_G} {cI cJ : ClassId} {ad : Nat → Nat} {A : Nat → Prop} (hI : jx_inj 13 ad A) (x1 : Int32) (v : jx_V) (r : Int32) (v' : jx_V) (hF : f_X5_seed x1 v = some (r, v')) : jx_Ci l D vwCl 13 cI cJ ad shM A ex_M yX5_seed (Cond.code yX5_seed cX5_seed 3 (some .int) :: bigT) rm_X5_seed [.ref (ad 0), .int x1] v r v' := by
  unfold f_X5_seed at hF
  refine jx_enteri bigT RX5 cX5_seed 3 (some .int) [(0, .ref (ad 0)), (1, .int x1)] hI (ex_M_ok A) (by decide +kernel) rfl (Nat.le_of_ble_eq_true rfl) rfl rfl ?_
  intro p e s m args below meth c E
  have iX5 : ∀ w ∈ u_ws RX5 TX5 21, w ∈ (Cond.code yX5_seed cX5_seed 3 (some .int) :: bigT) := fun w h => List.mem_cons_of_mem _ (uw_X5 w h)
  refine jx_aload_n E dX5_seed_0 0 rfl ?_
  refine jx_getr (C := RX5) (T := TX5) (M := 21) (k := 0) E dX5_seed_1 (Nat.le_of_ble_eq_true rfl) s_M0 rfl iX5 (by decide) rfl (List.mem_cons_of_mem _ tw_328) rfl ?_
  refine jx_iconst (x := 2) E dX5_seed_4 (by decide) ?_
  refine jx_iald (h := 1) (j := 2) E dX5_seed_5 (Nat.le_of_ble_eq_true rfl) s_M1 (by decide) (by decide) ?_
  refine jx_istore_n (lv' := [(2, .int (v 1 2)), (0, .ref (ad 0)), (1, .int x1)]) E dX5_seed_6 (by decide) rfl ?_
  refine jx_aload_n E dX5_seed_7 1 rfl ?_
  refine jx_getr (C := RX5) (T := TX5) (M := 21) (k := 0) E dX5_seed_8 (Nat.le_of_ble_eq_true rfl) s_M0 rfl iX5 (by decide) rfl (List.mem_cons_of_mem _ tw_328) rfl ?_
  refine jx_iconst (x := 2) E dX5_seed_11 (by decide) ?_
  refine jx_iload_n E dX5_seed_12 2 rfl ?_
  refine jx_iast (h := 1) (j := 2) E dX5_seed_13 (Nat.le_of_ble_eq_true rfl) s_M1 (by decide) (by decide) ?_
  refine jx_iload_n E dX5_seed_14 0 rfl ?_
  obtain ⟨rfl, rfl⟩ := jx_out hF
  exact jx_iret E dX5_seed_15 rfl
def f_X5_feed_L  : Nat → Int32 → Int32 → Int32 → jx_V → Option (Int32 × jx_V)
  | 0, _, _, _, _ => none
  | n + 1, x1, x2, x3, v => (if x3 < 0 then (some ((v 0 12), v)) else (if ((v 0 12) < 0 ∨ 120 ≤ Int32.toNatClampNeg (v 0 12)) then none else (f_X5_feed_L n x1 x2 (x3 + (-1)) (jx_up (jx_up v 8 (Int32.toNatClampNeg (v 0 12)) ((x1 >>> ((8 * x3) &&& 31)) &&& 255)) 0 12 (((jx_up v 8 (Int32.toNatClampNeg (v 0 12)) ((x1 >>> ((8 * x3) &&& 31)) &&& 255)) 0 12) + 1)))))
def f_X5_feed (x1 : Int32) (x2 : Int32) (v : jx_V) : Option (Int32 × jx_V) := ((f_X5_in (Int32.toInt64 x2) 1 4 v).bind (fun (r1, v1) => (if r1 = 0 then ((f_X5_finds (-1000001) v1).bind (fun (r5, v5) => (some (r5, v5)))) else (if ((v1 0 12) + x2) ≤ 120 then (f_X5_feed_L 100000 x1 x2 (x2 - 1) v1) else ((f_X5_finds (-1000002) v1).bind (fun (r4, v4) => (some (r4, v4))))))))
def rm_X5_feed : Room := { frames := 1, cells := 0, slots := 0, locals := 25 }
set_option maxHeartbeats 4000000 in
set_option maxRecDepth 100000 in
theorem k_X5_feed {l : Launch} {D : va_G} {cI cJ : ClassId} {ad : Nat → Nat} {A : Nat → Prop} (hI : jx_inj 13 ad A) (x1 : Int32) (x2 : Int32) (v : jx_V) (r : Int32) (v' : jx_V) (hF : f_X5_feed x1 x2 v = some (r, v')) : jx_Ci l D vwCl 13 cI cJ ad shM A ex_M yX5_feed (Cond.code yX5_feed cX5_feed 4 (some .int) :: bigT) rm_X5_feed [.ref (ad 0), .int x1, .int x2] v r v' := by
  unfold f_X5_feed at hF
  refine jx_enteri bigT RX5 cX5_feed 4 (some .int) [(0, .ref (ad 0)), (1, .int x1), (2, .int x2)] hI (ex_M_ok A) (by decide +kernel) rfl (Nat.le_of_ble_eq_true rfl) rfl rfl ?_
  intro p e s m args below meth c E
  have iX5 : ∀ w ∈ u_ws RX5 TX5 21, w ∈ (Cond.code yX5_feed cX5_feed 4 (some .int) :: bigT) := fun w h => List.mem_cons_of_mem _ (uw_X5 w h)
  have key : ∀ n : Nat, (∀ (x1 : Int32) (x2 : Int32) (x3 : Int32) (v : jx_V), f_X5_feed_L  n  x1 x2 x3 v = some (r, v') → jx_J p l e rm_X5_feed s m args below meth c D vwCl 13 cI cJ ad shM A 0 0 4 (MQ below (va_Qi (fun (r1 : Int32) (_ : Unit) => r1 = r) (fun _ t => va_P D vwCl (jx_ws 13 cI cJ ad shM v') t.heap) A) args s 0 0 A) v 41 [(0, .ref (ad 0)), (1, .int x1), (2, .int x2), (3, .int x3)] []) := by
    intro n
    induction n with
    | zero =>
      exact (fun _ _ _ _ h => by cases h)
    | succ n ih =>
      intro x1 x2 x3 v hF
      rw [f_X5_feed_L] at hF
      refine jx_iload_n E dX5_feed_41 3 rfl ?_
      refine jx_if_lt (tgt := 80) E dX5_feed_42 (by decide) (fun hc6 => ?_) (fun hc6 => ?_)
      · rw [if_pos hc6] at hF
        refine jx_aload_n E dX5_feed_80 0 rfl ?_
        refine jx_geti (C := RX5) (T := TX5) (M := 21) (k := 12) E dX5_feed_81 (Nat.le_of_ble_eq_true rfl) s_M0 rfl iX5 (by decide) rfl (List.mem_cons_of_mem _ tw_495) rfl ?_
        obtain ⟨rfl, rfl⟩ := jx_out hF
        exact jx_iret E dX5_feed_84 rfl
      · rw [if_neg hc6] at hF
        refine jx_aload_n E dX5_feed_45 0 rfl ?_
        refine jx_getr (C := RX5) (T := TX5) (M := 21) (k := 11) E dX5_feed_46 (Nat.le_of_ble_eq_true rfl) s_M0 rfl iX5 (by decide) rfl (List.mem_cons_of_mem _ tw_496) rfl ?_
        refine jx_aload_n E dX5_feed_49 0 rfl ?_
        refine jx_geti (C := RX5) (T := TX5) (M := 21) (k := 12) E dX5_feed_50 (Nat.le_of_ble_eq_true rfl) s_M0 rfl iX5 (by decide) rfl (List.mem_cons_of_mem _ tw_495) rfl ?_
        refine jx_iload_n E dX5_feed_53 1 rfl ?_
        refine jx_bipush (x := 8) E dX5_feed_54 (by decide) ?_
        refine jx_iload_n E dX5_feed_56 3 rfl ?_
        refine jx_imul E dX5_feed_57 ?_
        refine jx_ishr E dX5_feed_58 ?_
        refine jx_sipush (x := 255) E dX5_feed_59 (by decide) ?_
        refine jx_iand E dX5_feed_62 ?_
        obtain ⟨hg7, hF⟩ := jx_guard hF
        refine jx_iast (h := 8) (j := (Int32.toNatClampNeg (v 0 12))) E dX5_feed_63 (Nat.le_of_ble_eq_true rfl) s_M8 hg7 rfl ?_
        refine jx_aload_n E dX5_feed_64 0 rfl ?_
        refine jx_dup E dX5_feed_65 rfl ?_
        refine jx_geti (C := RX5) (T := TX5) (M := 21) (k := 12) E dX5_feed_66 (Nat.le_of_ble_eq_true rfl) s_M0 rfl iX5 (by decide) rfl (List.mem_cons_of_mem _ tw_495) rfl ?_
        refine jx_iconst (x := 1) E dX5_feed_69 (by decide) ?_
        refine jx_iadd E dX5_feed_70 ?_
        refine jx_puti (C := RX5) (T := TX5) (M := 21) (k := 12) (ty := .int) E tyX5 dX5_feed_71 (Nat.le_of_ble_eq_true rfl) s_M0 rfl iX5 (by decide) rfl (List.mem_cons_of_mem _ tw_495) tyX5_ok nmX5 rfl (by decide +kernel) rfl rfl rfl ?_
        refine jx_iinc (y := (x3 + (-1))) (lv' := [(3, .int (x3 + (-1))), (0, .ref (ad 0)), (1, .int x1), (2, .int x2)]) E dX5_feed_74 3 rfl rfl (by decide) rfl ?_
        refine jx_goto (tgt := 41) E dX5_feed_77 (by decide) ?_
        refine jx_sub [1, 2, 3, 0] rfl ?_
        exact ih x1 x2 (x3 + (-1)) (jx_up (jx_up v 8 (Int32.toNatClampNeg (v 0 12)) ((x1 >>> ((8 * x3) &&& 31)) &&& 255)) 0 12 (((jx_up v 8 (Int32.toNatClampNeg (v 0 12)) ((x1 >>> ((8 * x3) &&& 31)) &&& 255)) 0 12) + 1)) hF
  refine jx_iload_n E dX5_feed_0 2 rfl ?_
  refine jx_i2l E dX5_feed_1 ?_
  refine jx_lconst (x := 1) E dX5_feed_2 (by decide) ?_
  refine jx_ldc2 (x := 4) E dX5_feed_3 (List.mem_cons_of_mem _ tw_405) ?_
  obtain ⟨⟨r1, v1⟩, hc1, hF⟩ := jx_bind hF
  try dsimp only at hF
  refine jx_callSi (As := [.long (Int32.toInt64 x2), .long 1, .long 4]) (st := []) E dX5_feed_6 3 rfl (k_X5_in hI (Int32.toInt64 x2) 1 4 v r1 v1 hc1) (gb_S (List.mem_cons_of_mem _ tw_323) (List.mem_cons_of_mem _ tw_324) (List.mem_cons_of_mem _ tw_325) tw_322) rfl rfl rfl dd_X5_in rfl ⟨by decide, by decide⟩ ⟨Nat.le_refl 0, Nat.le_refl 0⟩ (Nat.le_of_ble_eq_true rfl) ?_
  refine jx_if_ne (tgt := 19) E dX5_feed_9 (by decide) (fun hc2 => ?_) (fun hc2 => ?_)
  · rw [if_neg hc2] at hF
    refine jx_aload_n E dX5_feed_19 0 rfl ?_
    refine jx_geti (C := RX5) (T := TX5) (M := 21) (k := 12) E dX5_feed_20 (Nat.le_of_ble_eq_true rfl) s_M0 rfl iX5 (by decide) rfl (List.mem_cons_of_mem _ tw_495) rfl ?_
    refine jx_iload_n E dX5_feed_23 2 rfl ?_
    refine jx_iadd E dX5_feed_24 ?_
    refine jx_bipush (x := 120) E dX5_feed_25 (by decide) ?_
    refine jx_icmp_le (tgt := 37) E dX5_feed_27 (by decide) (fun hc3 => ?_) (fun hc3 => ?_)
    · rw [if_pos hc3] at hF
      refine jx_iload_n E dX5_feed_37 2 rfl ?_
      refine jx_iconst (x := 1) E dX5_feed_38 (by decide) ?_
      refine jx_isub E dX5_feed_39 ?_
      refine jx_istore_n (lv' := [(3, .int (x2 - 1)), (0, .ref (ad 0)), (1, .int x1), (2, .int x2)]) E dX5_feed_40 (by decide) rfl ?_
      refine jx_sub [1, 2, 3, 0] rfl ?_
      exact (key 100000) x1 x2 (x2 - 1) v1 hF
    · rw [if_neg hc3] at hF
      refine jx_aload_n E dX5_feed_30 0 rfl ?_
      refine jx_ldc (x := -1000002) E dX5_feed_31 (List.mem_cons_of_mem _ tw_395) ?_
      obtain ⟨⟨r4, v4⟩, hc4, hF⟩ := jx_bind hF
      try dsimp only at hF
      refine jx_callVi (As := [.int (-1000002)]) (st := []) (h := 0) E dX5_feed_33 1 rfl (k_X5_finds hI (-1000002) v1 r4 v4 hc4) (gb_V (List.mem_cons_of_mem _ tw_344) (List.mem_cons_of_mem _ tw_345) (List.mem_cons_of_mem _ tw_346) (List.mem_cons_of_mem _ tw_325) tw_343) rfl rfl rfl dd_X5_finds rfl (Nat.le_of_ble_eq_true rfl) s_M0 rfl ⟨by decide, by decide⟩ ⟨Nat.le_refl 0, Nat.le_refl 0⟩ (Nat.le_of_ble_eq_true rfl) ?_
      obtain ⟨rfl, rfl⟩ := jx_out hF
      exact jx_iret E dX5_feed_36 rfl
  · rw [if_pos hc2] at hF
    refine jx_aload_n E dX5_feed_12 0 rfl ?_
    refine jx_ldc (x := -1000001) E dX5_feed_13 (List.mem_cons_of_mem _ tw_320) ?_
    obtain ⟨⟨r5, v5⟩, hc5, hF⟩ := jx_bind hF
    try dsimp only at hF
    refine jx_callVi (As := [.int (-1000001)]) (st := []) (h := 0) E dX5_feed_15 1 rfl (k_X5_finds hI (-1000001) v1 r5 v5 hc5) (gb_V (List.mem_cons_of_mem _ tw_344) (List.mem_cons_of_mem _ tw_345) (List.mem_cons_of_mem _ tw_346) (List.mem_cons_of_mem _ tw_325) tw_343) rfl rfl rfl dd_X5_finds rfl (Nat.le_of_ble_eq_true rfl) s_M0 rfl ⟨by decide, by decide⟩ ⟨Nat.le_refl 0, Nat.le_refl 0⟩ (Nat.le_of_ble_eq_true rfl) ?_
    obtain ⟨rfl, rfl⟩ := jx_out hF
    exact jx_iret E dX5_feed_18 rfl
def f_X5_wipe  (v : jx_V) : Option (Int32 × jx_V) := (some ((v 0 12), (jx_up v 0 12 0)))
def rm_X5_wipe : Room := { frames := 0, cells := 0, slots := 0, locals := 0 }
set_option maxHeartbeats 4000000 in
set_option maxRecDepth 100000 in
theorem k_X5_wipe {l : Launch} {D : va_G} {cI cJ : ClassId} {ad : Nat → Nat} {A : Nat → Prop} (hI : jx_inj 13 ad A)  (v : jx_V) (r : Int32) (v' : jx_V) (hF : f_X5_wipe  v = some (r, v')) : jx_Ci l D vwCl 13 cI cJ ad shM A ex_M yX5_wipe (Cond.code yX5_wipe cX5_wipe 2 (some .int) :: bigT) rm_X5_wipe [.ref (ad 0)] v r v' := by
  unfold f_X5_wipe at hF
  refine jx_enteri bigT RX5 cX5_wipe 2 (some .int) [(0, .ref (ad 0))] hI (ex_M_ok A) (by decide +kernel) rfl (Nat.le_of_ble_eq_true rfl) rfl rfl ?_
  intro p e s m args below meth c E
  have iX5 : ∀ w ∈ u_ws RX5 TX5 21, w ∈ (Cond.code yX5_wipe cX5_wipe 2 (some .int) :: bigT) := fun w h => List.mem_cons_of_mem _ (uw_X5 w h)
  refine jx_aload_n E dX5_wipe_0 0 rfl ?_
  refine jx_geti (C := RX5) (T := TX5) (M := 21) (k := 12) E dX5_wipe_1 (Nat.le_of_ble_eq_true rfl) s_M0 rfl iX5 (by decide) rfl (List.mem_cons_of_mem _ tw_495) rfl ?_
  refine jx_istore_n (lv' := [(1, .int (v 0 12)), (0, .ref (ad 0))]) E dX5_wipe_4 (by decide) rfl ?_
  refine jx_aload_n E dX5_wipe_5 1 rfl ?_
  refine jx_iconst (x := 0) E dX5_wipe_6 (by decide) ?_
  refine jx_puti (C := RX5) (T := TX5) (M := 21) (k := 12) (ty := .int) E tyX5 dX5_wipe_7 (Nat.le_of_ble_eq_true rfl) s_M0 rfl iX5 (by decide) rfl (List.mem_cons_of_mem _ tw_495) tyX5_ok nmX5 rfl (by decide +kernel) rfl rfl rfl ?_
  refine jx_iload_n E dX5_wipe_10 0 rfl ?_
  obtain ⟨rfl, rfl⟩ := jx_out hF
  exact jx_iret E dX5_wipe_11 rfl
def f_X5_byteAt (x1 : Int32) (v : jx_V) : Option (Int32 × jx_V) := (if (v 0 12) ≤ x1 then (some ((-1), v)) else (if (x1 < 0 ∨ 120 ≤ Int32.toNatClampNeg x1) then none else (some ((v 8 (Int32.toNatClampNeg x1)), v))))
def rm_X5_byteAt : Room := { frames := 0, cells := 0, slots := 0, locals := 0 }
set_option maxHeartbeats 4000000 in
set_option maxRecDepth 100000 in
theorem k_X5_byteAt {l : Launch} {D : va_G} {cI cJ : ClassId} {ad : Nat → Nat} {A : Nat → Prop} (hI : jx_inj 13 ad A) (x1 : Int32) (v : jx_V) (r : Int32) (v' : jx_V) (hF : f_X5_byteAt x1 v = some (r, v')) : jx_Ci l D vwCl 13 cI cJ ad shM A ex_M yX5_byteAt (Cond.code yX5_byteAt cX5_byteAt 2 (some .int) :: bigT) rm_X5_byteAt [.ref (ad 0), .int x1] v r v' := by
  unfold f_X5_byteAt at hF
  refine jx_enteri bigT RX5 cX5_byteAt 2 (some .int) [(0, .ref (ad 0)), (1, .int x1)] hI (ex_M_ok A) (by decide +kernel) rfl (Nat.le_of_ble_eq_true rfl) rfl rfl ?_
  intro p e s m args below meth c E
  have iX5 : ∀ w ∈ u_ws RX5 TX5 21, w ∈ (Cond.code yX5_byteAt cX5_byteAt 2 (some .int) :: bigT) := fun w h => List.mem_cons_of_mem _ (uw_X5 w h)
  refine jx_iload_n E dX5_byteAt_0 1 rfl ?_
  refine jx_aload_n E dX5_byteAt_1 0 rfl ?_
  refine jx_geti (C := RX5) (T := TX5) (M := 21) (k := 12) E dX5_byteAt_2 (Nat.le_of_ble_eq_true rfl) s_M0 rfl iX5 (by decide) rfl (List.mem_cons_of_mem _ tw_495) rfl ?_
  refine jx_icmp_ge (tgt := 17) E dX5_byteAt_5 (by decide) (fun hc1 => ?_) (fun hc1 => ?_)
  · rw [if_pos hc1] at hF
    refine jx_iconst (x := -1) E dX5_byteAt_17 (by decide) ?_
    obtain ⟨rfl, rfl⟩ := jx_out hF
    exact jx_iret E dX5_byteAt_18 rfl
  · rw [if_neg hc1] at hF
    refine jx_aload_n E dX5_byteAt_8 0 rfl ?_
    refine jx_getr (C := RX5) (T := TX5) (M := 21) (k := 11) E dX5_byteAt_9 (Nat.le_of_ble_eq_true rfl) s_M0 rfl iX5 (by decide) rfl (List.mem_cons_of_mem _ tw_496) rfl ?_
    refine jx_iload_n E dX5_byteAt_12 1 rfl ?_
    obtain ⟨hg2, hF⟩ := jx_guard hF
    refine jx_iald (h := 8) (j := (Int32.toNatClampNeg x1)) E dX5_byteAt_13 (Nat.le_of_ble_eq_true rfl) s_M8 hg2 rfl ?_
    refine jx_goto (tgt := 18) E dX5_byteAt_14 (by decide) ?_
    obtain ⟨rfl, rfl⟩ := jx_out hF
    exact jx_iret E dX5_byteAt_18 rfl
def f_X5_isLetter (x0 : Int32) (v : jx_V) : Option (Int32 × jx_V) := ((f_X5_in (Int32.toInt64 x0) 97 122 v).bind (fun (r1, v1) => (if ¬ (r1 = 0 ∨ r1 = 1) then none else some (r1, v1))))
def rm_X5_isLetter : Room := { frames := 1, cells := 0, slots := 0, locals := 25 }
set_option maxHeartbeats 4000000 in
set_option maxRecDepth 100000 in
theorem k_X5_isLetter {l : Launch} {D : va_G} {cI cJ : ClassId} {ad : Nat → Nat} {A : Nat → Prop} (hI : jx_inj 13 ad A) (x0 : Int32) (v : jx_V) (r : Int32) (v' : jx_V) (hF : f_X5_isLetter x0 v = some (r, v')) : jx_Ci l D vwCl 13 cI cJ ad shM A ex_M yX5_isLetter (Cond.code yX5_isLetter cX5_isLetter 1 (some .boolean) :: bigT) rm_X5_isLetter [.int x0] v r v' := by
  unfold f_X5_isLetter at hF
  refine jx_enteri bigT RX5 cX5_isLetter 1 (some .boolean) [(0, .int x0)] hI (ex_M_ok A) (by decide +kernel) rfl (Nat.le_of_ble_eq_true rfl) rfl rfl ?_
  intro p e s m args below meth c E
  refine jx_iload_n E dX5_isLetter_0 0 rfl ?_
  refine jx_i2l E dX5_isLetter_1 ?_
  refine jx_ldc2 (x := 97) E dX5_isLetter_2 (List.mem_cons_of_mem _ tw_497) ?_
  refine jx_ldc2 (x := 122) E dX5_isLetter_5 (List.mem_cons_of_mem _ tw_498) ?_
  obtain ⟨⟨r1, v1⟩, hc1, hF⟩ := jx_bind hF
  try dsimp only at hF
  refine jx_callSi (As := [.long (Int32.toInt64 x0), .long 97, .long 122]) (st := []) E dX5_isLetter_8 3 rfl (k_X5_in hI (Int32.toInt64 x0) 97 122 v r1 v1 hc1) (gb_S (List.mem_cons_of_mem _ tw_323) (List.mem_cons_of_mem _ tw_324) (List.mem_cons_of_mem _ tw_325) tw_322) rfl rfl rfl dd_X5_in rfl ⟨by decide, by decide⟩ ⟨Nat.le_refl 0, Nat.le_refl 0⟩ (Nat.le_of_ble_eq_true rfl) ?_
  obtain ⟨hg2, hF⟩ := jx_guard hF
  obtain ⟨rfl, rfl⟩ := jx_out hF
  exact jx_zret E dX5_isLetter_11 rfl (Decidable.not_not.mp hg2)
def f_X5_isDigit (x0 : Int32) (v : jx_V) : Option (Int32 × jx_V) := ((f_X5_in (Int32.toInt64 x0) 48 57 v).bind (fun (r1, v1) => (if ¬ (r1 = 0 ∨ r1 = 1) then none else some (r1, v1))))
def rm_X5_isDigit : Room := { frames := 1, cells := 0, slots := 0, locals := 25 }
set_option maxHeartbeats 4000000 in
set_option maxRecDepth 100000 in
theorem k_X5_isDigit {l : Launch} {D : va_G} {cI cJ : ClassId} {ad : Nat → Nat} {A : Nat → Prop} (hI : jx_inj 13 ad A) (x0 : Int32) (v : jx_V) (r : Int32) (v' : jx_V) (hF : f_X5_isDigit x0 v = some (r, v')) : jx_Ci l D vwCl 13 cI cJ ad shM A ex_M yX5_isDigit (Cond.code yX5_isDigit cX5_isDigit 1 (some .boolean) :: bigT) rm_X5_isDigit [.int x0] v r v' := by
  unfold f_X5_isDigit at hF
  refine jx_enteri bigT RX5 cX5_isDigit 1 (some .boolean) [(0, .int x0)] hI (ex_M_ok A) (by decide +kernel) rfl (Nat.le_of_ble_eq_true rfl) rfl rfl ?_
  intro p e s m args below meth c E
  refine jx_iload_n E dX5_isDigit_0 0 rfl ?_
  refine jx_i2l E dX5_isDigit_1 ?_
  refine jx_ldc2 (x := 48) E dX5_isDigit_2 (List.mem_cons_of_mem _ tw_499) ?_
  refine jx_ldc2 (x := 57) E dX5_isDigit_5 (List.mem_cons_of_mem _ tw_500) ?_
  obtain ⟨⟨r1, v1⟩, hc1, hF⟩ := jx_bind hF
  try dsimp only at hF
  refine jx_callSi (As := [.long (Int32.toInt64 x0), .long 48, .long 57]) (st := []) E dX5_isDigit_8 3 rfl (k_X5_in hI (Int32.toInt64 x0) 48 57 v r1 v1 hc1) (gb_S (List.mem_cons_of_mem _ tw_323) (List.mem_cons_of_mem _ tw_324) (List.mem_cons_of_mem _ tw_325) tw_322) rfl rfl rfl dd_X5_in rfl ⟨by decide, by decide⟩ ⟨Nat.le_refl 0, Nat.le_refl 0⟩ (Nat.le_of_ble_eq_true rfl) ?_
  obtain ⟨hg2, hF⟩ := jx_guard hF
  obtain ⟨rfl, rfl⟩ := jx_out hF
  exact jx_zret E dX5_isDigit_11 rfl (Decidable.not_not.mp hg2)
def f_X5_token_L  : Nat → Nat → Int32 → Int32 → jx_V → Option (jx_V)
  | 0, _, _, _, _ => none
  | n + 1, tag, x1, x2, v => (if tag = 0 then ((f_X5_byteAt (v 0 13) v).bind (fun (r1, v1) => (if r1 = 32 then (f_X5_token_L n 0 0 0 (jx_up v1 0 13 ((v1 0 13) + 1))) else ((f_X5_byteAt (v1 0 13) v1).bind (fun (r3, v3) => ((f_X5_isLetter r3 v3).bind (fun (r4, v4) => ((f_X5_byteAt (v4 0 13) v4).bind (fun (r5, v5) => ((f_X5_isDigit r5 v5).bind (fun (r6, v6) => (if (v6 0 12) ≤ (v6 0 13) then (f_X5_token_L n 1 r4 r6 (jx_up v6 0 14 (v6 0 13))) else (f_X5_token_L n 1 r4 r6 (jx_up v6 0 14 ((v6 0 13) + 1))))))))))))))) else (if tag = 1 then (if x1 = 0 then (if x2 = 0 then (some v) else ((f_X5_byteAt (v 0 14) v).bind (fun (r10, v10) => ((f_X5_isDigit r10 v10).bind (fun (r11, v11) => (if r11 = 0 then (some v11) else (f_X5_token_L n 1 x1 x2 (jx_up v11 0 14 ((v11 0 14) + 1))))))))) else ((f_X5_byteAt (v 0 14) v).bind (fun (r13, v13) => ((f_X5_isLetter r13 v13).bind (fun (r14, v14) => (if r14 = 0 then (if x2 = 0 then (some v14) else ((f_X5_byteAt (v14 0 14) v14).bind (fun (r17, v17) => ((f_X5_isDigit r17 v17).bind (fun (r18, v18) => (if r18 = 0 then (some v18) else (f_X5_token_L n 1 x1 x2 (jx_up v18 0 14 ((v18 0 14) + 1))))))))) else (f_X5_token_L n 1 x1 x2 (jx_up v14 0 14 ((v14 0 14) + 1))))))))) else none))
def f_X5_token  (v : jx_V) : Option (jx_V) := (f_X5_token_L 100000 0 0 0 (jx_up v 0 13 (v 0 14)))
def rm_X5_token : Room := { frames := 2, cells := 0, slots := 0, locals := 45 }
set_option maxHeartbeats 4000000 in
set_option maxRecDepth 100000 in
theorem k_X5_token {l : Launch} {D : va_G} {cI cJ : ClassId} {ad : Nat → Nat} {A : Nat → Prop} (hI : jx_inj 13 ad A)  (v : jx_V) (v' : jx_V) (hF : f_X5_token  v = some v') : jx_Cv l D vwCl 13 cI cJ ad shM A ex_M yX5_token (Cond.code yX5_token cX5_token 3 (none) :: bigT) rm_X5_token [.ref (ad 0)] v v' := by
  unfold f_X5_token at hF
  refine jx_enterv bigT RX5 cX5_token 3 (none) [(0, .ref (ad 0))] hI (ex_M_ok A) (by decide +kernel) rfl (Nat.le_of_ble_eq_true rfl) rfl rfl ?_
  intro p e s m args below meth c E
  have iX5 : ∀ w ∈ u_ws RX5 TX5 21, w ∈ (Cond.code yX5_token cX5_token 3 (none) :: bigT) := fun w h => List.mem_cons_of_mem _ (uw_X5 w h)
  have key : ∀ n : Nat, (∀  (v : jx_V), f_X5_token_L  n 0 0 0 v = some v' → jx_J p l e rm_X5_token s m args below meth c D vwCl 13 cI cJ ad shM A 0 0 3 (MQ below (va_Qv (fun (_ : Unit) => True) (fun _ t => va_P D vwCl (jx_ws 13 cI cJ ad shM v') t.heap) A) args s 0 0 A) v 8 [(0, .ref (ad 0))] []) ∧ (∀ (x1 : Int32) (x2 : Int32) (v : jx_V), f_X5_token_L  n 1 x1 x2 v = some v' → jx_J p l e rm_X5_token s m args below meth c D vwCl 13 cI cJ ad shM A 0 0 3 (MQ below (va_Qv (fun (_ : Unit) => True) (fun _ t => va_P D vwCl (jx_ws 13 cI cJ ad shM v') t.heap) A) args s 0 0 A) v 86 [(0, .ref (ad 0)), (1, .int x1), (2, .int x2)] []) := by
    intro n
    induction n with
    | zero =>
      exact ⟨(fun _ h => by cases h), (fun _ _ _ h => by cases h)⟩
    | succ n ih =>
      refine ⟨?_, ?_⟩
      · intro  v hF
        rw [f_X5_token_L] at hF
        rw [if_pos rfl] at hF
        refine jx_aload_n E dX5_token_8 0 rfl ?_
        refine jx_aload_n E dX5_token_9 0 rfl ?_
        refine jx_geti (C := RX5) (T := TX5) (M := 21) (k := 13) E dX5_token_10 (Nat.le_of_ble_eq_true rfl) s_M0 rfl iX5 (by decide) rfl (List.mem_cons_of_mem _ tw_502) rfl ?_
        obtain ⟨⟨r1, v1⟩, hc1, hF⟩ := jx_bind hF
        try dsimp only at hF
        refine jx_callVi (As := [.int (v 0 13)]) (st := []) (h := 0) E dX5_token_13 1 rfl (k_X5_byteAt hI (v 0 13) v r1 v1 hc1) (gb_V (List.mem_cons_of_mem _ tw_504) (List.mem_cons_of_mem _ tw_505) (List.mem_cons_of_mem _ tw_506) (List.mem_cons_of_mem _ tw_325) tw_503) rfl rfl rfl dd_X5_byteAt rfl (Nat.le_of_ble_eq_true rfl) s_M0 rfl ⟨by decide, by decide⟩ ⟨Nat.le_refl 0, Nat.le_refl 0⟩ (Nat.le_of_ble_eq_true rfl) ?_
        refine jx_bipush (x := 32) E dX5_token_16 (by decide) ?_
        refine jx_icmp_ne (tgt := 34) E dX5_token_18 (by decide) (fun hc2 => ?_) (fun hc2 => ?_)
        · rw [if_neg hc2] at hF
          refine jx_aload_n E dX5_token_34 0 rfl ?_
          refine jx_aload_n E dX5_token_35 0 rfl ?_
          refine jx_geti (C := RX5) (T := TX5) (M := 21) (k := 13) E dX5_token_36 (Nat.le_of_ble_eq_true rfl) s_M0 rfl iX5 (by decide) rfl (List.mem_cons_of_mem _ tw_502) rfl ?_
          obtain ⟨⟨r3, v3⟩, hc3, hF⟩ := jx_bind hF
          try dsimp only at hF
          refine jx_callVi (As := [.int (v1 0 13)]) (st := []) (h := 0) E dX5_token_39 1 rfl (k_X5_byteAt hI (v1 0 13) v1 r3 v3 hc3) (gb_V (List.mem_cons_of_mem _ tw_504) (List.mem_cons_of_mem _ tw_505) (List.mem_cons_of_mem _ tw_506) (List.mem_cons_of_mem _ tw_325) tw_503) rfl rfl rfl dd_X5_byteAt rfl (Nat.le_of_ble_eq_true rfl) s_M0 rfl ⟨by decide, by decide⟩ ⟨Nat.le_refl 0, Nat.le_refl 0⟩ (Nat.le_of_ble_eq_true rfl) ?_
          obtain ⟨⟨r4, v4⟩, hc4, hF⟩ := jx_bind hF
          try dsimp only at hF
          refine jx_callSi (As := [.int r3]) (st := []) E dX5_token_42 1 rfl (k_X5_isLetter hI r3 v3 r4 v4 hc4) (gb_S (List.mem_cons_of_mem _ tw_508) (List.mem_cons_of_mem _ tw_509) (List.mem_cons_of_mem _ tw_325) tw_507) rfl rfl rfl dd_X5_isLetter rfl ⟨by decide, by decide⟩ ⟨Nat.le_refl 0, Nat.le_refl 0⟩ (Nat.le_of_ble_eq_true rfl) ?_
          refine jx_istore_n (lv' := [(1, .int r4), (0, .ref (ad 0))]) E dX5_token_45 (by decide) rfl ?_
          refine jx_aload_n E dX5_token_46 1 rfl ?_
          refine jx_aload_n E dX5_token_47 1 rfl ?_
          refine jx_geti (C := RX5) (T := TX5) (M := 21) (k := 13) E dX5_token_48 (Nat.le_of_ble_eq_true rfl) s_M0 rfl iX5 (by decide) rfl (List.mem_cons_of_mem _ tw_502) rfl ?_
          obtain ⟨⟨r5, v5⟩, hc5, hF⟩ := jx_bind hF
          try dsimp only at hF
          refine jx_callVi (As := [.int (v4 0 13)]) (st := []) (h := 0) E dX5_token_51 1 rfl (k_X5_byteAt hI (v4 0 13) v4 r5 v5 hc5) (gb_V (List.mem_cons_of_mem _ tw_504) (List.mem_cons_of_mem _ tw_505) (List.mem_cons_of_mem _ tw_506) (List.mem_cons_of_mem _ tw_325) tw_503) rfl rfl rfl dd_X5_byteAt rfl (Nat.le_of_ble_eq_true rfl) s_M0 rfl ⟨by decide, by decide⟩ ⟨Nat.le_refl 0, Nat.le_refl 0⟩ (Nat.le_of_ble_eq_true rfl) ?_
          obtain ⟨⟨r6, v6⟩, hc6, hF⟩ := jx_bind hF
          try dsimp only at hF
          refine jx_callSi (As := [.int r5]) (st := []) E dX5_token_54 1 rfl (k_X5_isDigit hI r5 v5 r6 v6 hc6) (gb_S (List.mem_cons_of_mem _ tw_511) (List.mem_cons_of_mem _ tw_512) (List.mem_cons_of_mem _ tw_325) tw_510) rfl rfl rfl dd_X5_isDigit rfl ⟨by decide, by decide⟩ ⟨Nat.le_refl 0, Nat.le_refl 0⟩ (Nat.le_of_ble_eq_true rfl) ?_
          refine jx_istore_n (lv' := [(2, .int r6), (1, .int r4), (0, .ref (ad 0))]) E dX5_token_57 (by decide) rfl ?_
          refine jx_aload_n E dX5_token_58 2 rfl ?_
          refine jx_aload_n E dX5_token_59 2 rfl ?_
          refine jx_geti (C := RX5) (T := TX5) (M := 21) (k := 13) E dX5_token_60 (Nat.le_of_ble_eq_true rfl) s_M0 rfl iX5 (by decide) rfl (List.mem_cons_of_mem _ tw_502) rfl ?_
          refine jx_aload_n E dX5_token_63 2 rfl ?_
          refine jx_geti (C := RX5) (T := TX5) (M := 21) (k := 12) E dX5_token_64 (Nat.le_of_ble_eq_true rfl) s_M0 rfl iX5 (by decide) rfl (List.mem_cons_of_mem _ tw_495) rfl ?_
          refine jx_icmp_ge (tgt := 79) E dX5_token_67 (by decide) (fun hc7 => ?_) (fun hc7 => ?_)
          · rw [if_pos hc7] at hF
            refine jx_aload_n E dX5_token_79 2 rfl ?_
            refine jx_geti (C := RX5) (T := TX5) (M := 21) (k := 13) E dX5_token_80 (Nat.le_of_ble_eq_true rfl) s_M0 rfl iX5 (by decide) rfl (List.mem_cons_of_mem _ tw_502) rfl ?_
            refine jx_puti (C := RX5) (T := TX5) (M := 21) (k := 14) (ty := .int) E tyX5 dX5_token_83 (Nat.le_of_ble_eq_true rfl) s_M0 rfl iX5 (by decide) rfl (List.mem_cons_of_mem _ tw_501) tyX5_ok nmX5 rfl (by decide +kernel) rfl rfl rfl ?_
            refine jx_sub [2, 1, 0] rfl ?_
            exact ih.2 r4 r6 (jx_up v6 0 14 (v6 0 13)) hF
          · rw [if_neg hc7] at hF
            refine jx_aload_n E dX5_token_70 2 rfl ?_
            refine jx_geti (C := RX5) (T := TX5) (M := 21) (k := 13) E dX5_token_71 (Nat.le_of_ble_eq_true rfl) s_M0 rfl iX5 (by decide) rfl (List.mem_cons_of_mem _ tw_502) rfl ?_
            refine jx_iconst (x := 1) E dX5_token_74 (by decide) ?_
            refine jx_iadd E dX5_token_75 ?_
            refine jx_goto (tgt := 83) E dX5_token_76 (by decide) ?_
            refine jx_puti (C := RX5) (T := TX5) (M := 21) (k := 14) (ty := .int) E tyX5 dX5_token_83 (Nat.le_of_ble_eq_true rfl) s_M0 rfl iX5 (by decide) rfl (List.mem_cons_of_mem _ tw_501) tyX5_ok nmX5 rfl (by decide +kernel) rfl rfl rfl ?_
            refine jx_sub [2, 1, 0] rfl ?_
            exact ih.2 r4 r6 (jx_up v6 0 14 ((v6 0 13) + 1)) hF
        · rw [if_pos hc2] at hF
          refine jx_aload_n E dX5_token_21 0 rfl ?_
          refine jx_dup E dX5_token_22 rfl ?_
          refine jx_geti (C := RX5) (T := TX5) (M := 21) (k := 13) E dX5_token_23 (Nat.le_of_ble_eq_true rfl) s_M0 rfl iX5 (by decide) rfl (List.mem_cons_of_mem _ tw_502) rfl ?_
          refine jx_iconst (x := 1) E dX5_token_26 (by decide) ?_
          refine jx_iadd E dX5_token_27 ?_
          refine jx_puti (C := RX5) (T := TX5) (M := 21) (k := 13) (ty := .int) E tyX5 dX5_token_28 (Nat.le_of_ble_eq_true rfl) s_M0 rfl iX5 (by decide) rfl (List.mem_cons_of_mem _ tw_502) tyX5_ok nmX5 rfl (by decide +kernel) rfl rfl rfl ?_
          refine jx_goto (tgt := 8) E dX5_token_31 (by decide) ?_
          refine jx_sub [0] rfl ?_
          exact ih.1  (jx_up v1 0 13 ((v1 0 13) + 1)) hF
      · intro x1 x2 v hF
        rw [f_X5_token_L] at hF
        rw [if_neg (by decide), if_pos rfl] at hF
        refine jx_iload_n E dX5_token_86 1 rfl ?_
        refine jx_if_eq (tgt := 104) E dX5_token_87 (by decide) (fun hc8 => ?_) (fun hc8 => ?_)
        · rw [if_pos hc8] at hF
          refine jx_iload_n E dX5_token_104 2 rfl ?_
          refine jx_if_eq (tgt := 135) E dX5_token_105 (by decide) (fun hc9 => ?_) (fun hc9 => ?_)
          · rw [if_pos hc9] at hF
            obtain rfl := Option.some.inj hF
            exact jx_vret E dX5_token_135 rfl
          · rw [if_neg hc9] at hF
            refine jx_aload_n E dX5_token_108 0 rfl ?_
            refine jx_aload_n E dX5_token_109 0 rfl ?_
            refine jx_geti (C := RX5) (T := TX5) (M := 21) (k := 14) E dX5_token_110 (Nat.le_of_ble_eq_true rfl) s_M0 rfl iX5 (by decide) rfl (List.mem_cons_of_mem _ tw_501) rfl ?_
            obtain ⟨⟨r10, v10⟩, hc10, hF⟩ := jx_bind hF
            try dsimp only at hF
            refine jx_callVi (As := [.int (v 0 14)]) (st := []) (h := 0) E dX5_token_113 1 rfl (k_X5_byteAt hI (v 0 14) v r10 v10 hc10) (gb_V (List.mem_cons_of_mem _ tw_504) (List.mem_cons_of_mem _ tw_505) (List.mem_cons_of_mem _ tw_506) (List.mem_cons_of_mem _ tw_325) tw_503) rfl rfl rfl dd_X5_byteAt rfl (Nat.le_of_ble_eq_true rfl) s_M0 rfl ⟨by decide, by decide⟩ ⟨Nat.le_refl 0, Nat.le_refl 0⟩ (Nat.le_of_ble_eq_true rfl) ?_
            obtain ⟨⟨r11, v11⟩, hc11, hF⟩ := jx_bind hF
            try dsimp only at hF
            refine jx_callSi (As := [.int r10]) (st := []) E dX5_token_116 1 rfl (k_X5_isDigit hI r10 v10 r11 v11 hc11) (gb_S (List.mem_cons_of_mem _ tw_511) (List.mem_cons_of_mem _ tw_512) (List.mem_cons_of_mem _ tw_325) tw_510) rfl rfl rfl dd_X5_isDigit rfl ⟨by decide, by decide⟩ ⟨Nat.le_refl 0, Nat.le_refl 0⟩ (Nat.le_of_ble_eq_true rfl) ?_
            refine jx_if_eq (tgt := 135) E dX5_token_119 (by decide) (fun hc12 => ?_) (fun hc12 => ?_)
            · rw [if_pos hc12] at hF
              obtain rfl := Option.some.inj hF
              exact jx_vret E dX5_token_135 rfl
            · rw [if_neg hc12] at hF
              refine jx_aload_n E dX5_token_122 0 rfl ?_
              refine jx_dup E dX5_token_123 rfl ?_
              refine jx_geti (C := RX5) (T := TX5) (M := 21) (k := 14) E dX5_token_124 (Nat.le_of_ble_eq_true rfl) s_M0 rfl iX5 (by decide) rfl (List.mem_cons_of_mem _ tw_501) rfl ?_
              refine jx_iconst (x := 1) E dX5_token_127 (by decide) ?_
              refine jx_iadd E dX5_token_128 ?_
              refine jx_puti (C := RX5) (T := TX5) (M := 21) (k := 14) (ty := .int) E tyX5 dX5_token_129 (Nat.le_of_ble_eq_true rfl) s_M0 rfl iX5 (by decide) rfl (List.mem_cons_of_mem _ tw_501) tyX5_ok nmX5 rfl (by decide +kernel) rfl rfl rfl ?_
              refine jx_goto (tgt := 86) E dX5_token_132 (by decide) ?_
              refine jx_sub [0, 1, 2] rfl ?_
              exact ih.2 x1 x2 (jx_up v11 0 14 ((v11 0 14) + 1)) hF
        · rw [if_neg hc8] at hF
          refine jx_aload_n E dX5_token_90 0 rfl ?_
          refine jx_aload_n E dX5_token_91 0 rfl ?_
          refine jx_geti (C := RX5) (T := TX5) (M := 21) (k := 14) E dX5_token_92 (Nat.le_of_ble_eq_true rfl) s_M0 rfl iX5 (by decide) rfl (List.mem_cons_of_mem _ tw_501) rfl ?_
          obtain ⟨⟨r13, v13⟩, hc13, hF⟩ := jx_bind hF
          try dsimp only at hF
          refine jx_callVi (As := [.int (v 0 14)]) (st := []) (h := 0) E dX5_token_95 1 rfl (k_X5_byteAt hI (v 0 14) v r13 v13 hc13) (gb_V (List.mem_cons_of_mem _ tw_504) (List.mem_cons_of_mem _ tw_505) (List.mem_cons_of_mem _ tw_506) (List.mem_cons_of_mem _ tw_325) tw_503) rfl rfl rfl dd_X5_byteAt rfl (Nat.le_of_ble_eq_true rfl) s_M0 rfl ⟨by decide, by decide⟩ ⟨Nat.le_refl 0, Nat.le_refl 0⟩ (Nat.le_of_ble_eq_true rfl) ?_
          obtain ⟨⟨r14, v14⟩, hc14, hF⟩ := jx_bind hF
          try dsimp only at hF
          refine jx_callSi (As := [.int r13]) (st := []) E dX5_token_98 1 rfl (k_X5_isLetter hI r13 v13 r14 v14 hc14) (gb_S (List.mem_cons_of_mem _ tw_508) (List.mem_cons_of_mem _ tw_509) (List.mem_cons_of_mem _ tw_325) tw_507) rfl rfl rfl dd_X5_isLetter rfl ⟨by decide, by decide⟩ ⟨Nat.le_refl 0, Nat.le_refl 0⟩ (Nat.le_of_ble_eq_true rfl) ?_
          refine jx_if_ne (tgt := 122) E dX5_token_101 (by decide) (fun hc15 => ?_) (fun hc15 => ?_)
          · rw [if_neg hc15] at hF
            refine jx_aload_n E dX5_token_122 0 rfl ?_
            refine jx_dup E dX5_token_123 rfl ?_
            refine jx_geti (C := RX5) (T := TX5) (M := 21) (k := 14) E dX5_token_124 (Nat.le_of_ble_eq_true rfl) s_M0 rfl iX5 (by decide) rfl (List.mem_cons_of_mem _ tw_501) rfl ?_
            refine jx_iconst (x := 1) E dX5_token_127 (by decide) ?_
            refine jx_iadd E dX5_token_128 ?_
            refine jx_puti (C := RX5) (T := TX5) (M := 21) (k := 14) (ty := .int) E tyX5 dX5_token_129 (Nat.le_of_ble_eq_true rfl) s_M0 rfl iX5 (by decide) rfl (List.mem_cons_of_mem _ tw_501) tyX5_ok nmX5 rfl (by decide +kernel) rfl rfl rfl ?_
            refine jx_goto (tgt := 86) E dX5_token_132 (by decide) ?_
            refine jx_sub [0, 1, 2] rfl ?_
            exact ih.2 x1 x2 (jx_up v14 0 14 ((v14 0 14) + 1)) hF
          · rw [if_pos hc15] at hF
            refine jx_iload_n E dX5_token_104 2 rfl ?_
            refine jx_if_eq (tgt := 135) E dX5_token_105 (by decide) (fun hc16 => ?_) (fun hc16 => ?_)
            · rw [if_pos hc16] at hF
              obtain rfl := Option.some.inj hF
              exact jx_vret E dX5_token_135 rfl
            · rw [if_neg hc16] at hF
              refine jx_aload_n E dX5_token_108 0 rfl ?_
              refine jx_aload_n E dX5_token_109 0 rfl ?_
              refine jx_geti (C := RX5) (T := TX5) (M := 21) (k := 14) E dX5_token_110 (Nat.le_of_ble_eq_true rfl) s_M0 rfl iX5 (by decide) rfl (List.mem_cons_of_mem _ tw_501) rfl ?_
              obtain ⟨⟨r17, v17⟩, hc17, hF⟩ := jx_bind hF
              try dsimp only at hF
              refine jx_callVi (As := [.int (v14 0 14)]) (st := []) (h := 0) E dX5_token_113 1 rfl (k_X5_byteAt hI (v14 0 14) v14 r17 v17 hc17) (gb_V (List.mem_cons_of_mem _ tw_504) (List.mem_cons_of_mem _ tw_505) (List.mem_cons_of_mem _ tw_506) (List.mem_cons_of_mem _ tw_325) tw_503) rfl rfl rfl dd_X5_byteAt rfl (Nat.le_of_ble_eq_true rfl) s_M0 rfl ⟨by decide, by decide⟩ ⟨Nat.le_refl 0, Nat.le_refl 0⟩ (Nat.le_of_ble_eq_true rfl) ?_
              obtain ⟨⟨r18, v18⟩, hc18, hF⟩ := jx_bind hF
              try dsimp only at hF
              refine jx_callSi (As := [.int r17]) (st := []) E dX5_token_116 1 rfl (k_X5_isDigit hI r17 v17 r18 v18 hc18) (gb_S (List.mem_cons_of_mem _ tw_511) (List.mem_cons_of_mem _ tw_512) (List.mem_cons_of_mem _ tw_325) tw_510) rfl rfl rfl dd_X5_isDigit rfl ⟨by decide, by decide⟩ ⟨Nat.le_refl 0, Nat.le_refl 0⟩ (Nat.le_of_ble_eq_true rfl) ?_
              refine jx_if_eq (tgt := 135) E dX5_token_119 (by decide) (fun hc19 => ?_) (fun hc19 => ?_)
              · rw [if_pos hc19] at hF
                obtain rfl := Option.some.inj hF
                exact jx_vret E dX5_token_135 rfl
              · rw [if_neg hc19] at hF
                refine jx_aload_n E dX5_token_122 0 rfl ?_
                refine jx_dup E dX5_token_123 rfl ?_
                refine jx_geti (C := RX5) (T := TX5) (M := 21) (k := 14) E dX5_token_124 (Nat.le_of_ble_eq_true rfl) s_M0 rfl iX5 (by decide) rfl (List.mem_cons_of_mem _ tw_501) rfl ?_
                refine jx_iconst (x := 1) E dX5_token_127 (by decide) ?_
                refine jx_iadd E dX5_token_128 ?_
                refine jx_puti (C := RX5) (T := TX5) (M := 21) (k := 14) (ty := .int) E tyX5 dX5_token_129 (Nat.le_of_ble_eq_true rfl) s_M0 rfl iX5 (by decide) rfl (List.mem_cons_of_mem _ tw_501) tyX5_ok nmX5 rfl (by decide +kernel) rfl rfl rfl ?_
                refine jx_goto (tgt := 86) E dX5_token_132 (by decide) ?_
                refine jx_sub [0, 1, 2] rfl ?_
                exact ih.2 x1 x2 (jx_up v18 0 14 ((v18 0 14) + 1)) hF
  refine jx_aload_n E dX5_token_0 0 rfl ?_
  refine jx_aload_n E dX5_token_1 0 rfl ?_
  refine jx_geti (C := RX5) (T := TX5) (M := 21) (k := 14) E dX5_token_2 (Nat.le_of_ble_eq_true rfl) s_M0 rfl iX5 (by decide) rfl (List.mem_cons_of_mem _ tw_501) rfl ?_
  refine jx_puti (C := RX5) (T := TX5) (M := 21) (k := 13) (ty := .int) E tyX5 dX5_token_5 (Nat.le_of_ble_eq_true rfl) s_M0 rfl iX5 (by decide) rfl (List.mem_cons_of_mem _ tw_502) tyX5_ok nmX5 rfl (by decide +kernel) rfl rfl rfl ?_
  refine jx_sub [0] rfl ?_
  exact (key 100000).1  (jx_up v 0 13 (v 0 14)) hF
def f_X5_needs (x1 : Int32) (v : jx_V) : Option (jx_V) := (if (v 0 16) = 0 then (if x1 = 0 then (if ((jx_up v 0 16 1) 0 16) = 0 then ((f_X5_token (jx_up v 0 16 1)).bind (fun v8 => (some v8))) else (some (jx_up v 0 16 1))) else (if ((jx_up v 0 16 0) 0 16) = 0 then ((f_X5_token (jx_up v 0 16 0)).bind (fun v6 => (some v6))) else (some (jx_up v 0 16 0)))) else (if ((jx_up v 0 16 1) 0 16) = 0 then ((f_X5_token (jx_up v 0 16 1)).bind (fun v3 => (some v3))) else (some (jx_up v 0 16 1))))
def rm_X5_needs : Room := { frames := 3, cells := 0, slots := 0, locals := 67 }
set_option maxHeartbeats 4000000 in
set_option maxRecDepth 100000 in
theorem k_X5_needs {l : Launch} {D : va_G} {cI cJ : ClassId} {ad : Nat → Nat} {A : Nat → Prop} (hI : jx_inj 13 ad A) (x1 : Int32) (v : jx_V) (v' : jx_V) (hF : f_X5_needs x1 v = some v') : jx_Cv l D vwCl 13 cI cJ ad shM A ex_M yX5_needs (Cond.code yX5_needs cX5_needs 2 (none) :: bigT) rm_X5_needs [.ref (ad 0), .int x1] v v' := by
  unfold f_X5_needs at hF
  refine jx_enterv bigT RX5 cX5_needs 2 (none) [(0, .ref (ad 0)), (1, .int x1)] hI (ex_M_ok A) (by decide +kernel) rfl (Nat.le_of_ble_eq_true rfl) rfl rfl ?_
  intro p e s m args below meth c E
  have iX5 : ∀ w ∈ u_ws RX5 TX5 21, w ∈ (Cond.code yX5_needs cX5_needs 2 (none) :: bigT) := fun w h => List.mem_cons_of_mem _ (uw_X5 w h)
  refine jx_aload_n E dX5_needs_0 0 rfl ?_
  refine jx_aload_n E dX5_needs_1 0 rfl ?_
  refine jx_geti (C := RX5) (T := TX5) (M := 21) (k := 16) E dX5_needs_2 (Nat.le_of_ble_eq_true rfl) s_M0 rfl iX5 (by decide) rfl (List.mem_cons_of_mem _ tw_513) rfl ?_
  refine jx_if_ne (tgt := 12) E dX5_needs_5 (by decide) (fun hc1 => ?_) (fun hc1 => ?_)
  · rw [if_neg hc1] at hF
    refine jx_iconst (x := 1) E dX5_needs_12 (by decide) ?_
    refine jx_goto (tgt := 17) E dX5_needs_13 (by decide) ?_
    refine jx_puti (C := RX5) (T := TX5) (M := 21) (k := 16) (ty := .boolean) E tyX5 dX5_needs_17 (Nat.le_of_ble_eq_true rfl) s_M0 rfl iX5 (by decide) rfl (List.mem_cons_of_mem _ tw_513) tyX5_ok nmX5 rfl (by decide +kernel) rfl rfl rfl ?_
    refine jx_aload_n E dX5_needs_20 0 rfl ?_
    refine jx_geti (C := RX5) (T := TX5) (M := 21) (k := 16) E dX5_needs_21 (Nat.le_of_ble_eq_true rfl) s_M0 rfl iX5 (by decide) rfl (List.mem_cons_of_mem _ tw_513) rfl ?_
    refine jx_if_ne (tgt := 31) E dX5_needs_24 (by decide) (fun hc2 => ?_) (fun hc2 => ?_)
    · rw [if_neg hc2] at hF
      obtain rfl := Option.some.inj hF
      exact jx_vret E dX5_needs_31 rfl
    · rw [if_pos hc2] at hF
      refine jx_aload_n E dX5_needs_27 0 rfl ?_
      obtain ⟨v3, hc3, hF⟩ := jx_bind hF
      try dsimp only at hF
      refine jx_callVv (As := []) (st := []) (h := 0) E dX5_needs_28 0 rfl (k_X5_token hI  (jx_up v 0 16 1) v3 hc3) (gb_V (List.mem_cons_of_mem _ tw_515) (List.mem_cons_of_mem _ tw_516) (List.mem_cons_of_mem _ tw_517) (List.mem_cons_of_mem _ tw_325) tw_514) rfl rfl rfl dd_X5_token rfl (Nat.le_of_ble_eq_true rfl) s_M0 rfl ⟨by decide, by decide⟩ ⟨Nat.le_refl 0, Nat.le_refl 0⟩ (Nat.le_of_ble_eq_true rfl) ?_
      obtain rfl := Option.some.inj hF
      exact jx_vret E dX5_needs_31 rfl
  · rw [if_pos hc1] at hF
    refine jx_iload_n E dX5_needs_8 1 rfl ?_
    refine jx_if_ne (tgt := 16) E dX5_needs_9 (by decide) (fun hc4 => ?_) (fun hc4 => ?_)
    · rw [if_neg hc4] at hF
      refine jx_iconst (x := 0) E dX5_needs_16 (by decide) ?_
      refine jx_puti (C := RX5) (T := TX5) (M := 21) (k := 16) (ty := .boolean) E tyX5 dX5_needs_17 (Nat.le_of_ble_eq_true rfl) s_M0 rfl iX5 (by decide) rfl (List.mem_cons_of_mem _ tw_513) tyX5_ok nmX5 rfl (by decide +kernel) rfl rfl rfl ?_
      refine jx_aload_n E dX5_needs_20 0 rfl ?_
      refine jx_geti (C := RX5) (T := TX5) (M := 21) (k := 16) E dX5_needs_21 (Nat.le_of_ble_eq_true rfl) s_M0 rfl iX5 (by decide) rfl (List.mem_cons_of_mem _ tw_513) rfl ?_
      refine jx_if_ne (tgt := 31) E dX5_needs_24 (by decide) (fun hc5 => ?_) (fun hc5 => ?_)
      · rw [if_neg hc5] at hF
        obtain rfl := Option.some.inj hF
        exact jx_vret E dX5_needs_31 rfl
      · rw [if_pos hc5] at hF
        refine jx_aload_n E dX5_needs_27 0 rfl ?_
        obtain ⟨v6, hc6, hF⟩ := jx_bind hF
        try dsimp only at hF
        refine jx_callVv (As := []) (st := []) (h := 0) E dX5_needs_28 0 rfl (k_X5_token hI  (jx_up v 0 16 0) v6 hc6) (gb_V (List.mem_cons_of_mem _ tw_515) (List.mem_cons_of_mem _ tw_516) (List.mem_cons_of_mem _ tw_517) (List.mem_cons_of_mem _ tw_325) tw_514) rfl rfl rfl dd_X5_token rfl (Nat.le_of_ble_eq_true rfl) s_M0 rfl ⟨by decide, by decide⟩ ⟨Nat.le_refl 0, Nat.le_refl 0⟩ (Nat.le_of_ble_eq_true rfl) ?_
        obtain rfl := Option.some.inj hF
        exact jx_vret E dX5_needs_31 rfl
    · rw [if_pos hc4] at hF
      refine jx_iconst (x := 1) E dX5_needs_12 (by decide) ?_
      refine jx_goto (tgt := 17) E dX5_needs_13 (by decide) ?_
      refine jx_puti (C := RX5) (T := TX5) (M := 21) (k := 16) (ty := .boolean) E tyX5 dX5_needs_17 (Nat.le_of_ble_eq_true rfl) s_M0 rfl iX5 (by decide) rfl (List.mem_cons_of_mem _ tw_513) tyX5_ok nmX5 rfl (by decide +kernel) rfl rfl rfl ?_
      refine jx_aload_n E dX5_needs_20 0 rfl ?_
      refine jx_geti (C := RX5) (T := TX5) (M := 21) (k := 16) E dX5_needs_21 (Nat.le_of_ble_eq_true rfl) s_M0 rfl iX5 (by decide) rfl (List.mem_cons_of_mem _ tw_513) rfl ?_
      refine jx_if_ne (tgt := 31) E dX5_needs_24 (by decide) (fun hc7 => ?_) (fun hc7 => ?_)
      · rw [if_neg hc7] at hF
        obtain rfl := Option.some.inj hF
        exact jx_vret E dX5_needs_31 rfl
      · rw [if_pos hc7] at hF
        refine jx_aload_n E dX5_needs_27 0 rfl ?_
        obtain ⟨v8, hc8, hF⟩ := jx_bind hF
        try dsimp only at hF
        refine jx_callVv (As := []) (st := []) (h := 0) E dX5_needs_28 0 rfl (k_X5_token hI  (jx_up v 0 16 1) v8 hc8) (gb_V (List.mem_cons_of_mem _ tw_515) (List.mem_cons_of_mem _ tw_516) (List.mem_cons_of_mem _ tw_517) (List.mem_cons_of_mem _ tw_325) tw_514) rfl rfl rfl dd_X5_token rfl (Nat.le_of_ble_eq_true rfl) s_M0 rfl ⟨by decide, by decide⟩ ⟨Nat.le_refl 0, Nat.le_refl 0⟩ (Nat.le_of_ble_eq_true rfl) ?_
        obtain rfl := Option.some.inj hF
        exact jx_vret E dX5_needs_31 rfl
def f_X5_word_L  : Nat → Int64 → Int32 → jx_V → Option (Int64 × jx_V)
  | 0, _, _, _ => none
  | n + 1, x1, x3, v => (if (v 0 14) ≤ x3 then (if (v 0 16) = 0 then ((f_X5_byteAt (v 0 13) v).bind (fun (r3, v3) => ((f_X5_isLetter r3 v3).bind (fun (r4, v4) => (if r4 = 0 then (some (0, v4)) else (some (x1, v4))))))) else (some (0, v))) else (if (lg_cmp x1 36028797018963967) ≤ 0 then (if (x3 < 0 ∨ 120 ≤ Int32.toNatClampNeg x3) then none else (f_X5_word_L n ((32 * x1) + (Int32.toInt64 ((v 8 (Int32.toNatClampNeg x3)) - 96))) (x3 + 1) v)) else (f_X5_word_L n x1 (x3 + 1) v)))
def f_X5_word  (v : jx_V) : Option (Int64 × jx_V) := (f_X5_word_L 100000 0 (v 0 13) v)
def rm_X5_word : Room := { frames := 2, cells := 0, slots := 0, locals := 45 }
set_option maxHeartbeats 4000000 in
set_option maxRecDepth 100000 in
theorem k_X5_word {l : Launch} {D : va_G} {cI cJ : ClassId} {ad : Nat → Nat} {A : Nat → Prop} (hI : jx_inj 13 ad A)  (v : jx_V) (r : Int64) (v' : jx_V) (hF : f_X5_word  v = some (r, v')) : jx_Cl l D vwCl 13 cI cJ ad shM A ex_M yX5_word (Cond.code yX5_word cX5_word 4 (some .long) :: bigT) rm_X5_word [.ref (ad 0)] v r v' := by
  unfold f_X5_word at hF
  refine jx_enterl bigT RX5 cX5_word 4 (some .long) [(0, .ref (ad 0))] hI (ex_M_ok A) (by decide +kernel) rfl (Nat.le_of_ble_eq_true rfl) rfl rfl ?_
  intro p e s m args below meth c E
  have iX5 : ∀ w ∈ u_ws RX5 TX5 21, w ∈ (Cond.code yX5_word cX5_word 4 (some .long) :: bigT) := fun w h => List.mem_cons_of_mem _ (uw_X5 w h)
  have key : ∀ n : Nat, (∀ (x1 : Int64) (x3 : Int32) (v : jx_V), f_X5_word_L  n  x1 x3 v = some (r, v') → jx_J p l e rm_X5_word s m args below meth c D vwCl 13 cI cJ ad shM A 0 0 4 (MQ below (va_Ql (fun (r1 : Int64) (_ : Unit) => r1 = r) (fun _ t => va_P D vwCl (jx_ws 13 cI cJ ad shM v') t.heap) A) args s 0 0 A) v 7 [(0, .ref (ad 0)), (1, .long x1), (3, .int x3)] []) := by
    intro n
    induction n with
    | zero =>
      exact (fun _ _ _ h => by cases h)
    | succ n ih =>
      intro x1 x3 v hF
      rw [f_X5_word_L] at hF
      refine jx_iload_n E dX5_word_7 2 rfl ?_
      refine jx_aload_n E dX5_word_8 0 rfl ?_
      refine jx_geti (C := RX5) (T := TX5) (M := 21) (k := 14) E dX5_word_9 (Nat.le_of_ble_eq_true rfl) s_M0 rfl iX5 (by decide) rfl (List.mem_cons_of_mem _ tw_501) rfl ?_
      refine jx_icmp_ge (tgt := 50) E dX5_word_12 (by decide) (fun hc1 => ?_) (fun hc1 => ?_)
      · rw [if_pos hc1] at hF
        refine jx_aload_n E dX5_word_50 0 rfl ?_
        refine jx_geti (C := RX5) (T := TX5) (M := 21) (k := 16) E dX5_word_51 (Nat.le_of_ble_eq_true rfl) s_M0 rfl iX5 (by decide) rfl (List.mem_cons_of_mem _ tw_513) rfl ?_
        refine jx_if_ne (tgt := 71) E dX5_word_54 (by decide) (fun hc2 => ?_) (fun hc2 => ?_)
        · rw [if_neg hc2] at hF
          refine jx_lconst (x := 0) E dX5_word_71 (by decide) ?_
          refine jx_goto (tgt := 76) E dX5_word_72 (by decide) ?_
          obtain ⟨rfl, rfl⟩ := jx_out hF
          exact jx_lret E dX5_word_76 rfl
        · rw [if_pos hc2] at hF
          refine jx_aload_n E dX5_word_57 0 rfl ?_
          refine jx_aload_n E dX5_word_58 0 rfl ?_
          refine jx_geti (C := RX5) (T := TX5) (M := 21) (k := 13) E dX5_word_59 (Nat.le_of_ble_eq_true rfl) s_M0 rfl iX5 (by decide) rfl (List.mem_cons_of_mem _ tw_502) rfl ?_
          obtain ⟨⟨r3, v3⟩, hc3, hF⟩ := jx_bind hF
          try dsimp only at hF
          refine jx_callVi (As := [.int (v 0 13)]) (st := []) (h := 0) E dX5_word_62 1 rfl (k_X5_byteAt hI (v 0 13) v r3 v3 hc3) (gb_V (List.mem_cons_of_mem _ tw_504) (List.mem_cons_of_mem _ tw_505) (List.mem_cons_of_mem _ tw_506) (List.mem_cons_of_mem _ tw_325) tw_503) rfl rfl rfl dd_X5_byteAt rfl (Nat.le_of_ble_eq_true rfl) s_M0 rfl ⟨by decide, by decide⟩ ⟨Nat.le_refl 0, Nat.le_refl 0⟩ (Nat.le_of_ble_eq_true rfl) ?_
          obtain ⟨⟨r4, v4⟩, hc4, hF⟩ := jx_bind hF
          try dsimp only at hF
          refine jx_callSi (As := [.int r3]) (st := []) E dX5_word_65 1 rfl (k_X5_isLetter hI r3 v3 r4 v4 hc4) (gb_S (List.mem_cons_of_mem _ tw_508) (List.mem_cons_of_mem _ tw_509) (List.mem_cons_of_mem _ tw_325) tw_507) rfl rfl rfl dd_X5_isLetter rfl ⟨by decide, by decide⟩ ⟨Nat.le_refl 0, Nat.le_refl 0⟩ (Nat.le_of_ble_eq_true rfl) ?_
          refine jx_if_ne (tgt := 75) E dX5_word_68 (by decide) (fun hc5 => ?_) (fun hc5 => ?_)
          · rw [if_neg hc5] at hF
            refine jx_lload_n E dX5_word_75 1 rfl ?_
            obtain ⟨rfl, rfl⟩ := jx_out hF
            exact jx_lret E dX5_word_76 rfl
          · rw [if_pos hc5] at hF
            refine jx_lconst (x := 0) E dX5_word_71 (by decide) ?_
            refine jx_goto (tgt := 76) E dX5_word_72 (by decide) ?_
            obtain ⟨rfl, rfl⟩ := jx_out hF
            exact jx_lret E dX5_word_76 rfl
      · rw [if_neg hc1] at hF
        refine jx_lload_n E dX5_word_15 1 rfl ?_
        refine jx_ldc2 (x := 36028797018963967) E dX5_word_16 (List.mem_cons_of_mem _ tw_518) ?_
        refine jx_lcmp E dX5_word_19 ?_
        refine jx_if_le (tgt := 27) E dX5_word_20 (by decide) (fun hc6 => ?_) (fun hc6 => ?_)
        · rw [if_pos hc6] at hF
          refine jx_ldc2 (x := 32) E dX5_word_27 (List.mem_cons_of_mem _ tw_519) ?_
          refine jx_lload_n E dX5_word_30 1 rfl ?_
          refine jx_lmul E dX5_word_31 ?_
          refine jx_aload_n E dX5_word_32 0 rfl ?_
          refine jx_getr (C := RX5) (T := TX5) (M := 21) (k := 11) E dX5_word_33 (Nat.le_of_ble_eq_true rfl) s_M0 rfl iX5 (by decide) rfl (List.mem_cons_of_mem _ tw_496) rfl ?_
          refine jx_iload_n E dX5_word_36 2 rfl ?_
          obtain ⟨hg7, hF⟩ := jx_guard hF
          refine jx_iald (h := 8) (j := (Int32.toNatClampNeg x3)) E dX5_word_37 (Nat.le_of_ble_eq_true rfl) s_M8 hg7 rfl ?_
          refine jx_bipush (x := 96) E dX5_word_38 (by decide) ?_
          refine jx_isub E dX5_word_40 ?_
          refine jx_i2l E dX5_word_41 ?_
          refine jx_ladd E dX5_word_42 ?_
          refine jx_lstore_n (lv' := [(1, .long ((32 * x1) + (Int32.toInt64 ((v 8 (Int32.toNatClampNeg x3)) - 96)))), (0, .ref (ad 0)), (3, .int x3)]) E dX5_word_43 (by decide) rfl ?_
          refine jx_iinc (y := (x3 + 1)) (lv' := [(3, .int (x3 + 1)), (1, .long ((32 * x1) + (Int32.toInt64 ((v 8 (Int32.toNatClampNeg x3)) - 96)))), (0, .ref (ad 0))]) E dX5_word_44 2 rfl rfl (by decide) rfl ?_
          refine jx_goto (tgt := 7) E dX5_word_47 (by decide) ?_
          refine jx_sub [2, 1, 0] rfl ?_
          exact ih ((32 * x1) + (Int32.toInt64 ((v 8 (Int32.toNatClampNeg x3)) - 96))) (x3 + 1) v hF
        · rw [if_neg hc6] at hF
          refine jx_lload_n E dX5_word_23 1 rfl ?_
          refine jx_goto (tgt := 43) E dX5_word_24 (by decide) ?_
          refine jx_lstore_n (lv' := [(1, .long x1), (0, .ref (ad 0)), (3, .int x3)]) E dX5_word_43 (by decide) rfl ?_
          refine jx_iinc (y := (x3 + 1)) (lv' := [(3, .int (x3 + 1)), (1, .long x1), (0, .ref (ad 0))]) E dX5_word_44 2 rfl rfl (by decide) rfl ?_
          refine jx_goto (tgt := 7) E dX5_word_47 (by decide) ?_
          refine jx_sub [2, 1, 0] rfl ?_
          exact ih x1 (x3 + 1) v hF
  refine jx_lconst (x := 0) E dX5_word_0 (by decide) ?_
  refine jx_lstore_n (lv' := [(1, .long 0), (0, .ref (ad 0))]) E dX5_word_1 (by decide) rfl ?_
  refine jx_aload_n E dX5_word_2 1 rfl ?_
  refine jx_geti (C := RX5) (T := TX5) (M := 21) (k := 13) E dX5_word_3 (Nat.le_of_ble_eq_true rfl) s_M0 rfl iX5 (by decide) rfl (List.mem_cons_of_mem _ tw_502) rfl ?_
  refine jx_istore_n (lv' := [(3, .int (v 0 13)), (1, .long 0), (0, .ref (ad 0))]) E dX5_word_6 (by decide) rfl ?_
  refine jx_sub [2, 1, 0] rfl ?_
  exact (key 100000) 0 (v 0 13) v hF
def f_X5_number_L  : Nat → Int32 → Int32 → Int32 → Int32 → Int32 → jx_V → Option (jx_V)
  | 0, _, _, _, _, _, _ => none
  | n + 1, x1, x2, x3, x4, x5, v => (if (v 0 14) ≤ x5 then (if x3 = 0 then ((f_X5_needs 0 (jx_up v 0 15 x4)).bind (fun v6 => (some v6))) else ((f_X5_in (Int32.toInt64 x4) (Int32.toInt64 x1) (Int32.toInt64 x2) (jx_up v 0 15 x4)).bind (fun (r7, v7) => (if r7 = 0 then ((f_X5_needs 0 v7).bind (fun v9 => (some v9))) else ((f_X5_needs 1 v7).bind (fun v10 => (some v10))))))) else (if x3 = 0 then (if x3 = 0 then ((f_X5_needs 0 (jx_up v 0 15 x4)).bind (fun v13 => (some v13))) else ((f_X5_in (Int32.toInt64 x4) (Int32.toInt64 x1) (Int32.toInt64 x2) (jx_up v 0 15 x4)).bind (fun (r14, v14) => (if r14 = 0 then ((f_X5_needs 0 v14).bind (fun v16 => (some v16))) else ((f_X5_needs 1 v14).bind (fun v17 => (some v17))))))) else (if x4 ≤ 999 then (if (x5 < 0 ∨ 120 ≤ Int32.toNatClampNeg x5) then none else (f_X5_number_L n x1 x2 x3 (((10 * x4) + (v 8 (Int32.toNatClampNeg x5))) - 48) (x5 + 1) v)) else (f_X5_number_L n x1 x2 x3 x4 (x5 + 1) v))))
def f_X5_number (x1 : Int32) (x2 : Int32) (v : jx_V) : Option (jx_V) := (if (v 0 16) = 0 then ((f_X5_byteAt (v 0 13) v).bind (fun (r2, v2) => ((f_X5_isDigit r2 v2).bind (fun (r3, v3) => (f_X5_number_L 100000 x1 x2 r3 0 (v3 0 13) v3))))) else (some v))
def rm_X5_number : Room := { frames := 4, cells := 0, slots := 0, locals := 88 }
set_option maxHeartbeats 4000000 in
set_option maxRecDepth 100000 in
theorem k_X5_number {l : Launch} {D : va_G} {cI cJ : ClassId} {ad : Nat → Nat} {A : Nat → Prop} (hI : jx_inj 13 ad A) (x1 : Int32) (x2 : Int32) (v : jx_V) (v' : jx_V) (hF : f_X5_number x1 x2 v = some v') : jx_Cv l D vwCl 13 cI cJ ad shM A ex_M yX5_number (Cond.code yX5_number cX5_number 6 (none) :: bigT) rm_X5_number [.ref (ad 0), .int x1, .int x2] v v' := by
  unfold f_X5_number at hF
  refine jx_enterv bigT RX5 cX5_number 6 (none) [(0, .ref (ad 0)), (1, .int x1), (2, .int x2)] hI (ex_M_ok A) (by decide +kernel) rfl (Nat.le_of_ble_eq_true rfl) rfl rfl ?_
  intro p e s m args below meth c E
  have iX5 : ∀ w ∈ u_ws RX5 TX5 21, w ∈ (Cond.code yX5_number cX5_number 6 (none) :: bigT) := fun w h => List.mem_cons_of_mem _ (uw_X5 w h)
  have key : ∀ n : Nat, (∀ (x1 : Int32) (x2 : Int32) (x3 : Int32) (x4 : Int32) (x5 : Int32) (v : jx_V), f_X5_number_L  n  x1 x2 x3 x4 x5 v = some v' → jx_J p l e rm_X5_number s m args below meth c D vwCl 13 cI cJ ad shM A 0 0 6 (MQ below (va_Qv (fun (_ : Unit) => True) (fun _ t => va_P D vwCl (jx_ws 13 cI cJ ad shM v') t.heap) A) args s 0 0 A) v 29 [(0, .ref (ad 0)), (1, .int x1), (2, .int x2), (3, .int x3), (4, .int x4), (5, .int x5)] []) := by
    intro n
    induction n with
    | zero =>
      exact (fun _ _ _ _ _ _ h => by cases h)
    | succ n ih =>
      intro x1 x2 x3 x4 x5 v hF
      rw [f_X5_number_L] at hF
      refine jx_iload E dX5_number_29 5 rfl ?_
      refine jx_aload_n E dX5_number_31 0 rfl ?_
      refine jx_geti (C := RX5) (T := TX5) (M := 21) (k := 14) E dX5_number_32 (Nat.le_of_ble_eq_true rfl) s_M0 rfl iX5 (by decide) rfl (List.mem_cons_of_mem _ tw_501) rfl ?_
      refine jx_icmp_ge (tgt := 79) E dX5_number_35 (by decide) (fun hc4 => ?_) (fun hc4 => ?_)
      · rw [if_pos hc4] at hF
        refine jx_aload_n E dX5_number_79 0 rfl ?_
        refine jx_iload E dX5_number_80 4 rfl ?_
        refine jx_puti (C := RX5) (T := TX5) (M := 21) (k := 15) (ty := .int) E tyX5 dX5_number_82 (Nat.le_of_ble_eq_true rfl) s_M0 rfl iX5 (by decide) rfl (List.mem_cons_of_mem _ tw_520) tyX5_ok nmX5 rfl (by decide +kernel) rfl rfl rfl ?_
        refine jx_aload_n E dX5_number_85 0 rfl ?_
        refine jx_iload_n E dX5_number_86 3 rfl ?_
        refine jx_if_eq (tgt := 107) E dX5_number_87 (by decide) (fun hc5 => ?_) (fun hc5 => ?_)
        · rw [if_pos hc5] at hF
          refine jx_iconst (x := 0) E dX5_number_107 (by decide) ?_
          obtain ⟨v6, hc6, hF⟩ := jx_bind hF
          try dsimp only at hF
          refine jx_callVv (As := [.int 0]) (st := []) (h := 0) E dX5_number_108 1 rfl (k_X5_needs hI 0 (jx_up v 0 15 x4) v6 hc6) (gb_V (List.mem_cons_of_mem _ tw_522) (List.mem_cons_of_mem _ tw_523) (List.mem_cons_of_mem _ tw_524) (List.mem_cons_of_mem _ tw_325) tw_521) rfl rfl rfl dd_X5_needs rfl (Nat.le_of_ble_eq_true rfl) s_M0 rfl ⟨by decide, by decide⟩ ⟨Nat.le_refl 0, Nat.le_refl 0⟩ (Nat.le_of_ble_eq_true rfl) ?_
          obtain rfl := Option.some.inj hF
          exact jx_vret E dX5_number_111 rfl
        · rw [if_neg hc5] at hF
          refine jx_iload E dX5_number_90 4 rfl ?_
          refine jx_i2l E dX5_number_92 ?_
          refine jx_iload_n E dX5_number_93 1 rfl ?_
          refine jx_i2l E dX5_number_94 ?_
          refine jx_iload_n E dX5_number_95 2 rfl ?_
          refine jx_i2l E dX5_number_96 ?_
          obtain ⟨⟨r7, v7⟩, hc7, hF⟩ := jx_bind hF
          try dsimp only at hF
          refine jx_callSi (As := [.long (Int32.toInt64 x4), .long (Int32.toInt64 x1), .long (Int32.toInt64 x2)]) (st := [.ref (ad 0)]) E dX5_number_97 3 rfl (k_X5_in hI (Int32.toInt64 x4) (Int32.toInt64 x1) (Int32.toInt64 x2) (jx_up v 0 15 x4) r7 v7 hc7) (gb_S (List.mem_cons_of_mem _ tw_323) (List.mem_cons_of_mem _ tw_324) (List.mem_cons_of_mem _ tw_325) tw_322) rfl rfl rfl dd_X5_in rfl ⟨by decide, by decide⟩ ⟨Nat.le_refl 0, Nat.le_refl 0⟩ (Nat.le_of_ble_eq_true rfl) ?_
          refine jx_if_eq (tgt := 107) E dX5_number_100 (by decide) (fun hc8 => ?_) (fun hc8 => ?_)
          · rw [if_pos hc8] at hF
            refine jx_iconst (x := 0) E dX5_number_107 (by decide) ?_
            obtain ⟨v9, hc9, hF⟩ := jx_bind hF
            try dsimp only at hF
            refine jx_callVv (As := [.int 0]) (st := []) (h := 0) E dX5_number_108 1 rfl (k_X5_needs hI 0 v7 v9 hc9) (gb_V (List.mem_cons_of_mem _ tw_522) (List.mem_cons_of_mem _ tw_523) (List.mem_cons_of_mem _ tw_524) (List.mem_cons_of_mem _ tw_325) tw_521) rfl rfl rfl dd_X5_needs rfl (Nat.le_of_ble_eq_true rfl) s_M0 rfl ⟨by decide, by decide⟩ ⟨Nat.le_refl 0, Nat.le_refl 0⟩ (Nat.le_of_ble_eq_true rfl) ?_
            obtain rfl := Option.some.inj hF
            exact jx_vret E dX5_number_111 rfl
          · rw [if_neg hc8] at hF
            refine jx_iconst (x := 1) E dX5_number_103 (by decide) ?_
            refine jx_goto (tgt := 108) E dX5_number_104 (by decide) ?_
            obtain ⟨v10, hc10, hF⟩ := jx_bind hF
            try dsimp only at hF
            refine jx_callVv (As := [.int 1]) (st := []) (h := 0) E dX5_number_108 1 rfl (k_X5_needs hI 1 v7 v10 hc10) (gb_V (List.mem_cons_of_mem _ tw_522) (List.mem_cons_of_mem _ tw_523) (List.mem_cons_of_mem _ tw_524) (List.mem_cons_of_mem _ tw_325) tw_521) rfl rfl rfl dd_X5_needs rfl (Nat.le_of_ble_eq_true rfl) s_M0 rfl ⟨by decide, by decide⟩ ⟨Nat.le_refl 0, Nat.le_refl 0⟩ (Nat.le_of_ble_eq_true rfl) ?_
            obtain rfl := Option.some.inj hF
            exact jx_vret E dX5_number_111 rfl
      · rw [if_neg hc4] at hF
        refine jx_iload_n E dX5_number_38 3 rfl ?_
        refine jx_if_eq (tgt := 79) E dX5_number_39 (by decide) (fun hc11 => ?_) (fun hc11 => ?_)
        · rw [if_pos hc11] at hF
          refine jx_aload_n E dX5_number_79 0 rfl ?_
          refine jx_iload E dX5_number_80 4 rfl ?_
          refine jx_puti (C := RX5) (T := TX5) (M := 21) (k := 15) (ty := .int) E tyX5 dX5_number_82 (Nat.le_of_ble_eq_true rfl) s_M0 rfl iX5 (by decide) rfl (List.mem_cons_of_mem _ tw_520) tyX5_ok nmX5 rfl (by decide +kernel) rfl rfl rfl ?_
          refine jx_aload_n E dX5_number_85 0 rfl ?_
          refine jx_iload_n E dX5_number_86 3 rfl ?_
          refine jx_if_eq (tgt := 107) E dX5_number_87 (by decide) (fun hc12 => ?_) (fun hc12 => ?_)
          · rw [if_pos hc12] at hF
            refine jx_iconst (x := 0) E dX5_number_107 (by decide) ?_
            obtain ⟨v13, hc13, hF⟩ := jx_bind hF
            try dsimp only at hF
            refine jx_callVv (As := [.int 0]) (st := []) (h := 0) E dX5_number_108 1 rfl (k_X5_needs hI 0 (jx_up v 0 15 x4) v13 hc13) (gb_V (List.mem_cons_of_mem _ tw_522) (List.mem_cons_of_mem _ tw_523) (List.mem_cons_of_mem _ tw_524) (List.mem_cons_of_mem _ tw_325) tw_521) rfl rfl rfl dd_X5_needs rfl (Nat.le_of_ble_eq_true rfl) s_M0 rfl ⟨by decide, by decide⟩ ⟨Nat.le_refl 0, Nat.le_refl 0⟩ (Nat.le_of_ble_eq_true rfl) ?_
            obtain rfl := Option.some.inj hF
            exact jx_vret E dX5_number_111 rfl
          · rw [if_neg hc12] at hF
            refine jx_iload E dX5_number_90 4 rfl ?_
            refine jx_i2l E dX5_number_92 ?_
            refine jx_iload_n E dX5_number_93 1 rfl ?_
            refine jx_i2l E dX5_number_94 ?_
            refine jx_iload_n E dX5_number_95 2 rfl ?_
            refine jx_i2l E dX5_number_96 ?_
            obtain ⟨⟨r14, v14⟩, hc14, hF⟩ := jx_bind hF
            try dsimp only at hF
            refine jx_callSi (As := [.long (Int32.toInt64 x4), .long (Int32.toInt64 x1), .long (Int32.toInt64 x2)]) (st := [.ref (ad 0)]) E dX5_number_97 3 rfl (k_X5_in hI (Int32.toInt64 x4) (Int32.toInt64 x1) (Int32.toInt64 x2) (jx_up v 0 15 x4) r14 v14 hc14) (gb_S (List.mem_cons_of_mem _ tw_323) (List.mem_cons_of_mem _ tw_324) (List.mem_cons_of_mem _ tw_325) tw_322) rfl rfl rfl dd_X5_in rfl ⟨by decide, by decide⟩ ⟨Nat.le_refl 0, Nat.le_refl 0⟩ (Nat.le_of_ble_eq_true rfl) ?_
            refine jx_if_eq (tgt := 107) E dX5_number_100 (by decide) (fun hc15 => ?_) (fun hc15 => ?_)
            · rw [if_pos hc15] at hF
              refine jx_iconst (x := 0) E dX5_number_107 (by decide) ?_
              obtain ⟨v16, hc16, hF⟩ := jx_bind hF
              try dsimp only at hF
              refine jx_callVv (As := [.int 0]) (st := []) (h := 0) E dX5_number_108 1 rfl (k_X5_needs hI 0 v14 v16 hc16) (gb_V (List.mem_cons_of_mem _ tw_522) (List.mem_cons_of_mem _ tw_523) (List.mem_cons_of_mem _ tw_524) (List.mem_cons_of_mem _ tw_325) tw_521) rfl rfl rfl dd_X5_needs rfl (Nat.le_of_ble_eq_true rfl) s_M0 rfl ⟨by decide, by decide⟩ ⟨Nat.le_refl 0, Nat.le_refl 0⟩ (Nat.le_of_ble_eq_true rfl) ?_
              obtain rfl := Option.some.inj hF
              exact jx_vret E dX5_number_111 rfl
            · rw [if_neg hc15] at hF
              refine jx_iconst (x := 1) E dX5_number_103 (by decide) ?_
              refine jx_goto (tgt := 108) E dX5_number_104 (by decide) ?_
              obtain ⟨v17, hc17, hF⟩ := jx_bind hF
              try dsimp only at hF
              refine jx_callVv (As := [.int 1]) (st := []) (h := 0) E dX5_number_108 1 rfl (k_X5_needs hI 1 v14 v17 hc17) (gb_V (List.mem_cons_of_mem _ tw_522) (List.mem_cons_of_mem _ tw_523) (List.mem_cons_of_mem _ tw_524) (List.mem_cons_of_mem _ tw_325) tw_521) rfl rfl rfl dd_X5_needs rfl (Nat.le_of_ble_eq_true rfl) s_M0 rfl ⟨by decide, by decide⟩ ⟨Nat.le_refl 0, Nat.le_refl 0⟩ (Nat.le_of_ble_eq_true rfl) ?_
              obtain rfl := Option.some.inj hF
              exact jx_vret E dX5_number_111 rfl
        · rw [if_neg hc11] at hF
          refine jx_iload E dX5_number_42 4 rfl ?_
          refine jx_sipush (x := 999) E dX5_number_44 (by decide) ?_
          refine jx_icmp_le (tgt := 55) E dX5_number_47 (by decide) (fun hc18 => ?_) (fun hc18 => ?_)
          · rw [if_pos hc18] at hF
            refine jx_bipush (x := 10) E dX5_number_55 (by decide) ?_
            refine jx_iload E dX5_number_57 4 rfl ?_
            refine jx_imul E dX5_number_59 ?_
            refine jx_aload_n E dX5_number_60 0 rfl ?_
            refine jx_getr (C := RX5) (T := TX5) (M := 21) (k := 11) E dX5_number_61 (Nat.le_of_ble_eq_true rfl) s_M0 rfl iX5 (by decide) rfl (List.mem_cons_of_mem _ tw_496) rfl ?_
            refine jx_iload E dX5_number_64 5 rfl ?_
            obtain ⟨hg19, hF⟩ := jx_guard hF
            refine jx_iald (h := 8) (j := (Int32.toNatClampNeg x5)) E dX5_number_66 (Nat.le_of_ble_eq_true rfl) s_M8 hg19 rfl ?_
            refine jx_iadd E dX5_number_67 ?_
            refine jx_bipush (x := 48) E dX5_number_68 (by decide) ?_
            refine jx_isub E dX5_number_70 ?_
            refine jx_istore (lv' := [(4, .int (((10 * x4) + (v 8 (Int32.toNatClampNeg x5))) - 48)), (0, .ref (ad 0)), (1, .int x1), (2, .int x2), (3, .int x3), (5, .int x5)]) E dX5_number_71 (by decide) rfl ?_
            refine jx_iinc (y := (x5 + 1)) (lv' := [(5, .int (x5 + 1)), (4, .int (((10 * x4) + (v 8 (Int32.toNatClampNeg x5))) - 48)), (0, .ref (ad 0)), (1, .int x1), (2, .int x2), (3, .int x3)]) E dX5_number_73 5 rfl rfl (by decide) rfl ?_
            refine jx_goto (tgt := 29) E dX5_number_76 (by decide) ?_
            refine jx_sub [2, 3, 4, 5, 1, 0] rfl ?_
            exact ih x1 x2 x3 (((10 * x4) + (v 8 (Int32.toNatClampNeg x5))) - 48) (x5 + 1) v hF
          · rw [if_neg hc18] at hF
            refine jx_iload E dX5_number_50 4 rfl ?_
            refine jx_goto (tgt := 71) E dX5_number_52 (by decide) ?_
            refine jx_istore (lv' := [(4, .int x4), (0, .ref (ad 0)), (1, .int x1), (2, .int x2), (3, .int x3), (5, .int x5)]) E dX5_number_71 (by decide) rfl ?_
            refine jx_iinc (y := (x5 + 1)) (lv' := [(5, .int (x5 + 1)), (4, .int x4), (0, .ref (ad 0)), (1, .int x1), (2, .int x2), (3, .int x3)]) E dX5_number_73 5 rfl rfl (by decide) rfl ?_
            refine jx_goto (tgt := 29) E dX5_number_76 (by decide) ?_
            refine jx_sub [2, 3, 4, 5, 1, 0] rfl ?_
            exact ih x1 x2 x3 x4 (x5 + 1) v hF
  refine jx_aload_n E dX5_number_0 0 rfl ?_
  refine jx_geti (C := RX5) (T := TX5) (M := 21) (k := 16) E dX5_number_1 (Nat.le_of_ble_eq_true rfl) s_M0 rfl iX5 (by decide) rfl (List.mem_cons_of_mem _ tw_513) rfl ?_
  refine jx_if_eq (tgt := 8) E dX5_number_4 (by decide) (fun hc1 => ?_) (fun hc1 => ?_)
  · rw [if_pos hc1] at hF
    refine jx_aload_n E dX5_number_8 0 rfl ?_
    refine jx_aload_n E dX5_number_9 0 rfl ?_
    refine jx_geti (C := RX5) (T := TX5) (M := 21) (k := 13) E dX5_number_10 (Nat.le_of_ble_eq_true rfl) s_M0 rfl iX5 (by decide) rfl (List.mem_cons_of_mem _ tw_502) rfl ?_
    obtain ⟨⟨r2, v2⟩, hc2, hF⟩ := jx_bind hF
    try dsimp only at hF
    refine jx_callVi (As := [.int (v 0 13)]) (st := []) (h := 0) E dX5_number_13 1 rfl (k_X5_byteAt hI (v 0 13) v r2 v2 hc2) (gb_V (List.mem_cons_of_mem _ tw_504) (List.mem_cons_of_mem _ tw_505) (List.mem_cons_of_mem _ tw_506) (List.mem_cons_of_mem _ tw_325) tw_503) rfl rfl rfl dd_X5_byteAt rfl (Nat.le_of_ble_eq_true rfl) s_M0 rfl ⟨by decide, by decide⟩ ⟨Nat.le_refl 0, Nat.le_refl 0⟩ (Nat.le_of_ble_eq_true rfl) ?_
    obtain ⟨⟨r3, v3⟩, hc3, hF⟩ := jx_bind hF
    try dsimp only at hF
    refine jx_callSi (As := [.int r2]) (st := []) E dX5_number_16 1 rfl (k_X5_isDigit hI r2 v2 r3 v3 hc3) (gb_S (List.mem_cons_of_mem _ tw_511) (List.mem_cons_of_mem _ tw_512) (List.mem_cons_of_mem _ tw_325) tw_510) rfl rfl rfl dd_X5_isDigit rfl ⟨by decide, by decide⟩ ⟨Nat.le_refl 0, Nat.le_refl 0⟩ (Nat.le_of_ble_eq_true rfl) ?_
    refine jx_istore_n (lv' := [(3, .int r3), (0, .ref (ad 0)), (1, .int x1), (2, .int x2)]) E dX5_number_19 (by decide) rfl ?_
    refine jx_iconst (x := 0) E dX5_number_20 (by decide) ?_
    refine jx_istore (lv' := [(4, .int 0), (3, .int r3), (0, .ref (ad 0)), (1, .int x1), (2, .int x2)]) E dX5_number_21 (by decide) rfl ?_
    refine jx_aload_n E dX5_number_23 2 rfl ?_
    refine jx_geti (C := RX5) (T := TX5) (M := 21) (k := 13) E dX5_number_24 (Nat.le_of_ble_eq_true rfl) s_M0 rfl iX5 (by decide) rfl (List.mem_cons_of_mem _ tw_502) rfl ?_
    refine jx_istore (lv' := [(5, .int (v3 0 13)), (4, .int 0), (3, .int r3), (0, .ref (ad 0)), (1, .int x1), (2, .int x2)]) E dX5_number_27 (by decide) rfl ?_
    refine jx_sub [3, 4, 5, 2, 1, 0] rfl ?_
    exact (key 100000) x1 x2 r3 0 (v3 0 13) v3 hF
  · rw [if_neg hc1] at hF
    obtain rfl := Option.some.inj hF
    exact jx_vret E dX5_number_7 rfl
def f_X5_kindHere  (v : jx_V) : Option (Int32 × jx_V) := ((f_X5_word v).bind (fun (r1, v1) => (if (lg_cmp r1 2552) = 0 then (some (0, v1)) else (if (lg_cmp r1 673957) = 0 then (some (1, v1)) else (if (lg_cmp r1 630948) = 0 then (some (2, v1)) else (if (lg_cmp r1 553136178) = 0 then (some (3, v1)) else (if (lg_cmp r1 24749811143) = 0 then (some (4, v1)) else (if (lg_cmp r1 8902245) = 0 then (some (5, v1)) else (if (lg_cmp r1 21486770) = 0 then (some (6, v1)) else (some ((-1), v1)))))))))))
def rm_X5_kindHere : Room := { frames := 3, cells := 0, slots := 0, locals := 68 }
set_option maxHeartbeats 4000000 in
set_option maxRecDepth 100000 in
theorem k_X5_kindHere {l : Launch} {D : va_G} {cI cJ : ClassId} {ad : Nat → Nat} {A : Nat → Prop} (hI : jx_inj 13 ad A)  (v : jx_V) (r : Int32) (v' : jx_V) (hF : f_X5_kindHere  v = some (r, v')) : jx_Ci l D vwCl 13 cI cJ ad shM A ex_M yX5_kindHere (Cond.code yX5_kindHere cX5_kindHere 3 (some .int) :: bigT) rm_X5_kindHere [.ref (ad 0)] v r v' := by
  unfold f_X5_kindHere at hF
  refine jx_enteri bigT RX5 cX5_kindHere 3 (some .int) [(0, .ref (ad 0))] hI (ex_M_ok A) (by decide +kernel) rfl (Nat.le_of_ble_eq_true rfl) rfl rfl ?_
  intro p e s m args below meth c E
  refine jx_aload_n E dX5_kindHere_0 0 rfl ?_
  obtain ⟨⟨r1, v1⟩, hc1, hF⟩ := jx_bind hF
  try dsimp only at hF
  refine jx_callVl (As := []) (st := []) (h := 0) E dX5_kindHere_1 0 rfl (k_X5_word hI  v r1 v1 hc1) (gb_V (List.mem_cons_of_mem _ tw_526) (List.mem_cons_of_mem _ tw_527) (List.mem_cons_of_mem _ tw_528) (List.mem_cons_of_mem _ tw_325) tw_525) rfl rfl rfl dd_X5_word rfl (Nat.le_of_ble_eq_true rfl) s_M0 rfl ⟨by decide, by decide⟩ ⟨Nat.le_refl 0, Nat.le_refl 0⟩ (Nat.le_of_ble_eq_true rfl) ?_
  refine jx_lstore_n (lv' := [(1, .long r1), (0, .ref (ad 0))]) E dX5_kindHere_4 (by decide) rfl ?_
  refine jx_lload_n E dX5_kindHere_5 0 rfl ?_
  refine jx_ldc2 (x := 2552) E dX5_kindHere_6 (List.mem_cons_of_mem _ tw_529) ?_
  refine jx_lcmp E dX5_kindHere_9 ?_
  refine jx_if_ne (tgt := 17) E dX5_kindHere_10 (by decide) (fun hc2 => ?_) (fun hc2 => ?_)
  · rw [if_neg hc2] at hF
    refine jx_lload_n E dX5_kindHere_17 0 rfl ?_
    refine jx_ldc2 (x := 673957) E dX5_kindHere_18 (List.mem_cons_of_mem _ tw_530) ?_
    refine jx_lcmp E dX5_kindHere_21 ?_
    refine jx_if_ne (tgt := 29) E dX5_kindHere_22 (by decide) (fun hc3 => ?_) (fun hc3 => ?_)
    · rw [if_neg hc3] at hF
      refine jx_lload_n E dX5_kindHere_29 0 rfl ?_
      refine jx_ldc2 (x := 630948) E dX5_kindHere_30 (List.mem_cons_of_mem _ tw_531) ?_
      refine jx_lcmp E dX5_kindHere_33 ?_
      refine jx_if_ne (tgt := 41) E dX5_kindHere_34 (by decide) (fun hc4 => ?_) (fun hc4 => ?_)
      · rw [if_neg hc4] at hF
        refine jx_lload_n E dX5_kindHere_41 0 rfl ?_
        refine jx_ldc2 (x := 553136178) E dX5_kindHere_42 (List.mem_cons_of_mem _ tw_532) ?_
        refine jx_lcmp E dX5_kindHere_45 ?_
        refine jx_if_ne (tgt := 53) E dX5_kindHere_46 (by decide) (fun hc5 => ?_) (fun hc5 => ?_)
        · rw [if_neg hc5] at hF
          refine jx_lload_n E dX5_kindHere_53 0 rfl ?_
          refine jx_ldc2 (x := 24749811143) E dX5_kindHere_54 (List.mem_cons_of_mem _ tw_533) ?_
          refine jx_lcmp E dX5_kindHere_57 ?_
          refine jx_if_ne (tgt := 65) E dX5_kindHere_58 (by decide) (fun hc6 => ?_) (fun hc6 => ?_)
          · rw [if_neg hc6] at hF
            refine jx_lload_n E dX5_kindHere_65 0 rfl ?_
            refine jx_ldc2 (x := 8902245) E dX5_kindHere_66 (List.mem_cons_of_mem _ tw_534) ?_
            refine jx_lcmp E dX5_kindHere_69 ?_
            refine jx_if_ne (tgt := 77) E dX5_kindHere_70 (by decide) (fun hc7 => ?_) (fun hc7 => ?_)
            · rw [if_neg hc7] at hF
              refine jx_lload_n E dX5_kindHere_77 0 rfl ?_
              refine jx_ldc2 (x := 21486770) E dX5_kindHere_78 (List.mem_cons_of_mem _ tw_535) ?_
              refine jx_lcmp E dX5_kindHere_81 ?_
              refine jx_if_ne (tgt := 90) E dX5_kindHere_82 (by decide) (fun hc8 => ?_) (fun hc8 => ?_)
              · rw [if_neg hc8] at hF
                refine jx_iconst (x := -1) E dX5_kindHere_90 (by decide) ?_
                obtain ⟨rfl, rfl⟩ := jx_out hF
                exact jx_iret E dX5_kindHere_91 rfl
              · rw [if_pos hc8] at hF
                refine jx_bipush (x := 6) E dX5_kindHere_85 (by decide) ?_
                refine jx_goto (tgt := 91) E dX5_kindHere_87 (by decide) ?_
                obtain ⟨rfl, rfl⟩ := jx_out hF
                exact jx_iret E dX5_kindHere_91 rfl
            · rw [if_pos hc7] at hF
              refine jx_iconst (x := 5) E dX5_kindHere_73 (by decide) ?_
              refine jx_goto (tgt := 91) E dX5_kindHere_74 (by decide) ?_
              obtain ⟨rfl, rfl⟩ := jx_out hF
              exact jx_iret E dX5_kindHere_91 rfl
          · rw [if_pos hc6] at hF
            refine jx_iconst (x := 4) E dX5_kindHere_61 (by decide) ?_
            refine jx_goto (tgt := 91) E dX5_kindHere_62 (by decide) ?_
            obtain ⟨rfl, rfl⟩ := jx_out hF
            exact jx_iret E dX5_kindHere_91 rfl
        · rw [if_pos hc5] at hF
          refine jx_iconst (x := 3) E dX5_kindHere_49 (by decide) ?_
          refine jx_goto (tgt := 91) E dX5_kindHere_50 (by decide) ?_
          obtain ⟨rfl, rfl⟩ := jx_out hF
          exact jx_iret E dX5_kindHere_91 rfl
      · rw [if_pos hc4] at hF
        refine jx_iconst (x := 2) E dX5_kindHere_37 (by decide) ?_
        refine jx_goto (tgt := 91) E dX5_kindHere_38 (by decide) ?_
        obtain ⟨rfl, rfl⟩ := jx_out hF
        exact jx_iret E dX5_kindHere_91 rfl
    · rw [if_pos hc3] at hF
      refine jx_iconst (x := 1) E dX5_kindHere_25 (by decide) ?_
      refine jx_goto (tgt := 91) E dX5_kindHere_26 (by decide) ?_
      obtain ⟨rfl, rfl⟩ := jx_out hF
      exact jx_iret E dX5_kindHere_91 rfl
  · rw [if_pos hc2] at hF
    refine jx_iconst (x := 0) E dX5_kindHere_13 (by decide) ?_
    refine jx_goto (tgt := 91) E dX5_kindHere_14 (by decide) ?_
    obtain ⟨rfl, rfl⟩ := jx_out hF
    exact jx_iret E dX5_kindHere_91 rfl
def f_X5_lotTold_L  : Nat → Int32 → Int32 → Int32 → jx_V → Option (jx_V)
  | 0, _, _, _, _ => none
  | n + 1, x1, x2, x3, v => (if (v 0 14) ≤ x3 then ((f_X5_byteAt ((jx_up v 0 15 x2) 0 13) (jx_up v 0 15 x2)).bind (fun (r2, v2) => ((f_X5_isDigit r2 v2).bind (fun (r3, v3) => (if r3 = 0 then ((f_X5_needs 0 v3).bind (fun v5 => (some v5))) else ((f_X5_isLot x2 v3).bind (fun (r6, v6) => (if r6 = 0 then ((f_X5_needs 0 v6).bind (fun v8 => (some v8))) else ((f_X5_isThing x2 v6).bind (fun (r9, v9) => (if r9 = x1 then ((f_X5_needs 0 v9).bind (fun v11 => (some v11))) else ((f_X5_needs 1 v9).bind (fun v12 => (some v12)))))))))))))) else ((f_X5_byteAt (v 0 13) v).bind (fun (r13, v13) => ((f_X5_isDigit r13 v13).bind (fun (r14, v14) => (if r14 = 0 then ((f_X5_byteAt ((jx_up v14 0 15 x2) 0 13) (jx_up v14 0 15 x2)).bind (fun (r16, v16) => ((f_X5_isDigit r16 v16).bind (fun (r17, v17) => (if r17 = 0 then ((f_X5_needs 0 v17).bind (fun v19 => (some v19))) else ((f_X5_isLot x2 v17).bind (fun (r20, v20) => (if r20 = 0 then ((f_X5_needs 0 v20).bind (fun v22 => (some v22))) else ((f_X5_isThing x2 v20).bind (fun (r23, v23) => (if r23 = x1 then ((f_X5_needs 0 v23).bind (fun v25 => (some v25))) else ((f_X5_needs 1 v23).bind (fun v26 => (some v26)))))))))))))) else (if x2 ≤ 999 then (if (x3 < 0 ∨ 120 ≤ Int32.toNatClampNeg x3) then none else (f_X5_lotTold_L n x1 (((10 * x2) + (v14 8 (Int32.toNatClampNeg x3))) - 48) (x3 + 1) v14)) else (f_X5_lotTold_L n x1 x2 (x3 + 1) v14))))))))
def f_X5_lotTold (x1 : Int32) (v : jx_V) : Option (jx_V) := (f_X5_lotTold_L 100000 x1 0 (v 0 13) v)
def rm_X5_lotTold : Room := { frames := 4, cells := 0, slots := 0, locals := 88 }
set_option maxHeartbeats 4000000 in
set_option maxRecDepth 100000 in
theorem k_X5_lotTold {l : Launch} {D : va_G} {cI cJ : ClassId} {ad : Nat → Nat} {A : Nat → Prop} (hI : jx_inj 13 ad A) (x1 : Int32) (v : jx_V) (v' : jx_V) (hF : f_X5_lotTold x1 v = some v') : jx_Cv l D vwCl 13 cI cJ ad shM A ex_M yX5_lotTold (Cond.code yX5_lotTold cX5_lotTold 4 (none) :: bigT) rm_X5_lotTold [.ref (ad 0), .int x1] v v' := by
  unfold f_X5_lotTold at hF
  refine jx_enterv bigT RX5 cX5_lotTold 4 (none) [(0, .ref (ad 0)), (1, .int x1)] hI (ex_M_ok A) (by decide +kernel) rfl (Nat.le_of_ble_eq_true rfl) rfl rfl ?_
  intro p e s m args below meth c E
  have iX5 : ∀ w ∈ u_ws RX5 TX5 21, w ∈ (Cond.code yX5_lotTold cX5_lotTold 4 (none) :: bigT) := fun w h => List.mem_cons_of_mem _ (uw_X5 w h)
  have key : ∀ n : Nat, (∀ (x1 : Int32) (x2 : Int32) (x3 : Int32) (v : jx_V), f_X5_lotTold_L  n  x1 x2 x3 v = some v' → jx_J p l e rm_X5_lotTold s m args below meth c D vwCl 13 cI cJ ad shM A 0 0 4 (MQ below (va_Qv (fun (_ : Unit) => True) (fun _ t => va_P D vwCl (jx_ws 13 cI cJ ad shM v') t.heap) A) args s 0 0 A) v 7 [(0, .ref (ad 0)), (1, .int x1), (2, .int x2), (3, .int x3)] []) := by
    intro n
    induction n with
    | zero =>
      exact (fun _ _ _ _ h => by cases h)
    | succ n ih =>
      intro x1 x2 x3 v hF
      rw [f_X5_lotTold_L] at hF
      refine jx_iload_n E dX5_lotTold_7 3 rfl ?_
      refine jx_aload_n E dX5_lotTold_8 0 rfl ?_
      refine jx_geti (C := RX5) (T := TX5) (M := 21) (k := 14) E dX5_lotTold_9 (Nat.le_of_ble_eq_true rfl) s_M0 rfl iX5 (by decide) rfl (List.mem_cons_of_mem _ tw_501) rfl ?_
      refine jx_icmp_ge (tgt := 61) E dX5_lotTold_12 (by decide) (fun hc1 => ?_) (fun hc1 => ?_)
      · rw [if_pos hc1] at hF
        refine jx_aload_n E dX5_lotTold_61 0 rfl ?_
        refine jx_iload_n E dX5_lotTold_62 2 rfl ?_
        refine jx_puti (C := RX5) (T := TX5) (M := 21) (k := 15) (ty := .int) E tyX5 dX5_lotTold_63 (Nat.le_of_ble_eq_true rfl) s_M0 rfl iX5 (by decide) rfl (List.mem_cons_of_mem _ tw_520) tyX5_ok nmX5 rfl (by decide +kernel) rfl rfl rfl ?_
        refine jx_aload_n E dX5_lotTold_66 0 rfl ?_
        refine jx_aload_n E dX5_lotTold_67 0 rfl ?_
        refine jx_aload_n E dX5_lotTold_68 0 rfl ?_
        refine jx_geti (C := RX5) (T := TX5) (M := 21) (k := 13) E dX5_lotTold_69 (Nat.le_of_ble_eq_true rfl) s_M0 rfl iX5 (by decide) rfl (List.mem_cons_of_mem _ tw_502) rfl ?_
        obtain ⟨⟨r2, v2⟩, hc2, hF⟩ := jx_bind hF
        try dsimp only at hF
        refine jx_callVi (As := [.int ((jx_up v 0 15 x2) 0 13)]) (st := [.ref (ad 0)]) (h := 0) E dX5_lotTold_72 1 rfl (k_X5_byteAt hI ((jx_up v 0 15 x2) 0 13) (jx_up v 0 15 x2) r2 v2 hc2) (gb_V (List.mem_cons_of_mem _ tw_504) (List.mem_cons_of_mem _ tw_505) (List.mem_cons_of_mem _ tw_506) (List.mem_cons_of_mem _ tw_325) tw_503) rfl rfl rfl dd_X5_byteAt rfl (Nat.le_of_ble_eq_true rfl) s_M0 rfl ⟨by decide, by decide⟩ ⟨Nat.le_refl 0, Nat.le_refl 0⟩ (Nat.le_of_ble_eq_true rfl) ?_
        obtain ⟨⟨r3, v3⟩, hc3, hF⟩ := jx_bind hF
        try dsimp only at hF
        refine jx_callSi (As := [.int r2]) (st := [.ref (ad 0)]) E dX5_lotTold_75 1 rfl (k_X5_isDigit hI r2 v2 r3 v3 hc3) (gb_S (List.mem_cons_of_mem _ tw_511) (List.mem_cons_of_mem _ tw_512) (List.mem_cons_of_mem _ tw_325) tw_510) rfl rfl rfl dd_X5_isDigit rfl ⟨by decide, by decide⟩ ⟨Nat.le_refl 0, Nat.le_refl 0⟩ (Nat.le_of_ble_eq_true rfl) ?_
        refine jx_if_eq (tgt := 101) E dX5_lotTold_78 (by decide) (fun hc4 => ?_) (fun hc4 => ?_)
        · rw [if_pos hc4] at hF
          refine jx_iconst (x := 0) E dX5_lotTold_101 (by decide) ?_
          obtain ⟨v5, hc5, hF⟩ := jx_bind hF
          try dsimp only at hF
          refine jx_callVv (As := [.int 0]) (st := []) (h := 0) E dX5_lotTold_102 1 rfl (k_X5_needs hI 0 v3 v5 hc5) (gb_V (List.mem_cons_of_mem _ tw_522) (List.mem_cons_of_mem _ tw_523) (List.mem_cons_of_mem _ tw_524) (List.mem_cons_of_mem _ tw_325) tw_521) rfl rfl rfl dd_X5_needs rfl (Nat.le_of_ble_eq_true rfl) s_M0 rfl ⟨by decide, by decide⟩ ⟨Nat.le_refl 0, Nat.le_refl 0⟩ (Nat.le_of_ble_eq_true rfl) ?_
          obtain rfl := Option.some.inj hF
          exact jx_vret E dX5_lotTold_105 rfl
        · rw [if_neg hc4] at hF
          refine jx_iload_n E dX5_lotTold_81 2 rfl ?_
          obtain ⟨⟨r6, v6⟩, hc6, hF⟩ := jx_bind hF
          try dsimp only at hF
          refine jx_callSi (As := [.int x2]) (st := [.ref (ad 0)]) E dX5_lotTold_82 1 rfl (k_X5_isLot hI x2 v3 r6 v6 hc6) (gb_S (List.mem_cons_of_mem _ tw_348) (List.mem_cons_of_mem _ tw_349) (List.mem_cons_of_mem _ tw_325) tw_347) rfl rfl rfl dd_X5_isLot rfl ⟨by decide, by decide⟩ ⟨Nat.le_refl 0, Nat.le_refl 0⟩ (Nat.le_of_ble_eq_true rfl) ?_
          refine jx_if_eq (tgt := 101) E dX5_lotTold_85 (by decide) (fun hc7 => ?_) (fun hc7 => ?_)
          · rw [if_pos hc7] at hF
            refine jx_iconst (x := 0) E dX5_lotTold_101 (by decide) ?_
            obtain ⟨v8, hc8, hF⟩ := jx_bind hF
            try dsimp only at hF
            refine jx_callVv (As := [.int 0]) (st := []) (h := 0) E dX5_lotTold_102 1 rfl (k_X5_needs hI 0 v6 v8 hc8) (gb_V (List.mem_cons_of_mem _ tw_522) (List.mem_cons_of_mem _ tw_523) (List.mem_cons_of_mem _ tw_524) (List.mem_cons_of_mem _ tw_325) tw_521) rfl rfl rfl dd_X5_needs rfl (Nat.le_of_ble_eq_true rfl) s_M0 rfl ⟨by decide, by decide⟩ ⟨Nat.le_refl 0, Nat.le_refl 0⟩ (Nat.le_of_ble_eq_true rfl) ?_
            obtain rfl := Option.some.inj hF
            exact jx_vret E dX5_lotTold_105 rfl
          · rw [if_neg hc7] at hF
            refine jx_aload_n E dX5_lotTold_88 0 rfl ?_
            refine jx_iload_n E dX5_lotTold_89 2 rfl ?_
            obtain ⟨⟨r9, v9⟩, hc9, hF⟩ := jx_bind hF
            try dsimp only at hF
            refine jx_callVi (As := [.int x2]) (st := [.ref (ad 0)]) (h := 0) E dX5_lotTold_90 1 rfl (k_X5_isThing hI x2 v6 r9 v9 hc9) (gb_V (List.mem_cons_of_mem _ tw_339) (List.mem_cons_of_mem _ tw_340) (List.mem_cons_of_mem _ tw_341) (List.mem_cons_of_mem _ tw_325) tw_338) rfl rfl rfl dd_X5_isThing rfl (Nat.le_of_ble_eq_true rfl) s_M0 rfl ⟨by decide, by decide⟩ ⟨Nat.le_refl 0, Nat.le_refl 0⟩ (Nat.le_of_ble_eq_true rfl) ?_
            refine jx_iload_n E dX5_lotTold_93 1 rfl ?_
            refine jx_icmp_eq (tgt := 101) E dX5_lotTold_94 (by decide) (fun hc10 => ?_) (fun hc10 => ?_)
            · rw [if_pos hc10] at hF
              refine jx_iconst (x := 0) E dX5_lotTold_101 (by decide) ?_
              obtain ⟨v11, hc11, hF⟩ := jx_bind hF
              try dsimp only at hF
              refine jx_callVv (As := [.int 0]) (st := []) (h := 0) E dX5_lotTold_102 1 rfl (k_X5_needs hI 0 v9 v11 hc11) (gb_V (List.mem_cons_of_mem _ tw_522) (List.mem_cons_of_mem _ tw_523) (List.mem_cons_of_mem _ tw_524) (List.mem_cons_of_mem _ tw_325) tw_521) rfl rfl rfl dd_X5_needs rfl (Nat.le_of_ble_eq_true rfl) s_M0 rfl ⟨by decide, by decide⟩ ⟨Nat.le_refl 0, Nat.le_refl 0⟩ (Nat.le_of_ble_eq_true rfl) ?_
              obtain rfl := Option.some.inj hF
              exact jx_vret E dX5_lotTold_105 rfl
            · rw [if_neg hc10] at hF
              refine jx_iconst (x := 1) E dX5_lotTold_97 (by decide) ?_
              refine jx_goto (tgt := 102) E dX5_lotTold_98 (by decide) ?_
              obtain ⟨v12, hc12, hF⟩ := jx_bind hF
              try dsimp only at hF
              refine jx_callVv (As := [.int 1]) (st := []) (h := 0) E dX5_lotTold_102 1 rfl (k_X5_needs hI 1 v9 v12 hc12) (gb_V (List.mem_cons_of_mem _ tw_522) (List.mem_cons_of_mem _ tw_523) (List.mem_cons_of_mem _ tw_524) (List.mem_cons_of_mem _ tw_325) tw_521) rfl rfl rfl dd_X5_needs rfl (Nat.le_of_ble_eq_true rfl) s_M0 rfl ⟨by decide, by decide⟩ ⟨Nat.le_refl 0, Nat.le_refl 0⟩ (Nat.le_of_ble_eq_true rfl) ?_
              obtain rfl := Option.some.inj hF
              exact jx_vret E dX5_lotTold_105 rfl
      · rw [if_neg hc1] at hF
        refine jx_aload_n E dX5_lotTold_15 0 rfl ?_
        refine jx_aload_n E dX5_lotTold_16 0 rfl ?_
        refine jx_geti (C := RX5) (T := TX5) (M := 21) (k := 13) E dX5_lotTold_17 (Nat.le_of_ble_eq_true rfl) s_M0 rfl iX5 (by decide) rfl (List.mem_cons_of_mem _ tw_502) rfl ?_
        obtain ⟨⟨r13, v13⟩, hc13, hF⟩ := jx_bind hF
        try dsimp only at hF
        refine jx_callVi (As := [.int (v 0 13)]) (st := []) (h := 0) E dX5_lotTold_20 1 rfl (k_X5_byteAt hI (v 0 13) v r13 v13 hc13) (gb_V (List.mem_cons_of_mem _ tw_504) (List.mem_cons_of_mem _ tw_505) (List.mem_cons_of_mem _ tw_506) (List.mem_cons_of_mem _ tw_325) tw_503) rfl rfl rfl dd_X5_byteAt rfl (Nat.le_of_ble_eq_true rfl) s_M0 rfl ⟨by decide, by decide⟩ ⟨Nat.le_refl 0, Nat.le_refl 0⟩ (Nat.le_of_ble_eq_true rfl) ?_
        obtain ⟨⟨r14, v14⟩, hc14, hF⟩ := jx_bind hF
        try dsimp only at hF
        refine jx_callSi (As := [.int r13]) (st := []) E dX5_lotTold_23 1 rfl (k_X5_isDigit hI r13 v13 r14 v14 hc14) (gb_S (List.mem_cons_of_mem _ tw_511) (List.mem_cons_of_mem _ tw_512) (List.mem_cons_of_mem _ tw_325) tw_510) rfl rfl rfl dd_X5_isDigit rfl ⟨by decide, by decide⟩ ⟨Nat.le_refl 0, Nat.le_refl 0⟩ (Nat.le_of_ble_eq_true rfl) ?_
        refine jx_if_eq (tgt := 61) E dX5_lotTold_26 (by decide) (fun hc15 => ?_) (fun hc15 => ?_)
        · rw [if_pos hc15] at hF
          refine jx_aload_n E dX5_lotTold_61 0 rfl ?_
          refine jx_iload_n E dX5_lotTold_62 2 rfl ?_
          refine jx_puti (C := RX5) (T := TX5) (M := 21) (k := 15) (ty := .int) E tyX5 dX5_lotTold_63 (Nat.le_of_ble_eq_true rfl) s_M0 rfl iX5 (by decide) rfl (List.mem_cons_of_mem _ tw_520) tyX5_ok nmX5 rfl (by decide +kernel) rfl rfl rfl ?_
          refine jx_aload_n E dX5_lotTold_66 0 rfl ?_
          refine jx_aload_n E dX5_lotTold_67 0 rfl ?_
          refine jx_aload_n E dX5_lotTold_68 0 rfl ?_
          refine jx_geti (C := RX5) (T := TX5) (M := 21) (k := 13) E dX5_lotTold_69 (Nat.le_of_ble_eq_true rfl) s_M0 rfl iX5 (by decide) rfl (List.mem_cons_of_mem _ tw_502) rfl ?_
          obtain ⟨⟨r16, v16⟩, hc16, hF⟩ := jx_bind hF
          try dsimp only at hF
          refine jx_callVi (As := [.int ((jx_up v14 0 15 x2) 0 13)]) (st := [.ref (ad 0)]) (h := 0) E dX5_lotTold_72 1 rfl (k_X5_byteAt hI ((jx_up v14 0 15 x2) 0 13) (jx_up v14 0 15 x2) r16 v16 hc16) (gb_V (List.mem_cons_of_mem _ tw_504) (List.mem_cons_of_mem _ tw_505) (List.mem_cons_of_mem _ tw_506) (List.mem_cons_of_mem _ tw_325) tw_503) rfl rfl rfl dd_X5_byteAt rfl (Nat.le_of_ble_eq_true rfl) s_M0 rfl ⟨by decide, by decide⟩ ⟨Nat.le_refl 0, Nat.le_refl 0⟩ (Nat.le_of_ble_eq_true rfl) ?_
          obtain ⟨⟨r17, v17⟩, hc17, hF⟩ := jx_bind hF
          try dsimp only at hF
          refine jx_callSi (As := [.int r16]) (st := [.ref (ad 0)]) E dX5_lotTold_75 1 rfl (k_X5_isDigit hI r16 v16 r17 v17 hc17) (gb_S (List.mem_cons_of_mem _ tw_511) (List.mem_cons_of_mem _ tw_512) (List.mem_cons_of_mem _ tw_325) tw_510) rfl rfl rfl dd_X5_isDigit rfl ⟨by decide, by decide⟩ ⟨Nat.le_refl 0, Nat.le_refl 0⟩ (Nat.le_of_ble_eq_true rfl) ?_
          refine jx_if_eq (tgt := 101) E dX5_lotTold_78 (by decide) (fun hc18 => ?_) (fun hc18 => ?_)
          · rw [if_pos hc18] at hF
            refine jx_iconst (x := 0) E dX5_lotTold_101 (by decide) ?_
            obtain ⟨v19, hc19, hF⟩ := jx_bind hF
            try dsimp only at hF
            refine jx_callVv (As := [.int 0]) (st := []) (h := 0) E dX5_lotTold_102 1 rfl (k_X5_needs hI 0 v17 v19 hc19) (gb_V (List.mem_cons_of_mem _ tw_522) (List.mem_cons_of_mem _ tw_523) (List.mem_cons_of_mem _ tw_524) (List.mem_cons_of_mem _ tw_325) tw_521) rfl rfl rfl dd_X5_needs rfl (Nat.le_of_ble_eq_true rfl) s_M0 rfl ⟨by decide, by decide⟩ ⟨Nat.le_refl 0, Nat.le_refl 0⟩ (Nat.le_of_ble_eq_true rfl) ?_
            obtain rfl := Option.some.inj hF
            exact jx_vret E dX5_lotTold_105 rfl
          · rw [if_neg hc18] at hF
            refine jx_iload_n E dX5_lotTold_81 2 rfl ?_
            obtain ⟨⟨r20, v20⟩, hc20, hF⟩ := jx_bind hF
            try dsimp only at hF
            refine jx_callSi (As := [.int x2]) (st := [.ref (ad 0)]) E dX5_lotTold_82 1 rfl (k_X5_isLot hI x2 v17 r20 v20 hc20) (gb_S (List.mem_cons_of_mem _ tw_348) (List.mem_cons_of_mem _ tw_349) (List.mem_cons_of_mem _ tw_325) tw_347) rfl rfl rfl dd_X5_isLot rfl ⟨by decide, by decide⟩ ⟨Nat.le_refl 0, Nat.le_refl 0⟩ (Nat.le_of_ble_eq_true rfl) ?_
            refine jx_if_eq (tgt := 101) E dX5_lotTold_85 (by decide) (fun hc21 => ?_) (fun hc21 => ?_)
            · rw [if_pos hc21] at hF
              refine jx_iconst (x := 0) E dX5_lotTold_101 (by decide) ?_
              obtain ⟨v22, hc22, hF⟩ := jx_bind hF
              try dsimp only at hF
              refine jx_callVv (As := [.int 0]) (st := []) (h := 0) E dX5_lotTold_102 1 rfl (k_X5_needs hI 0 v20 v22 hc22) (gb_V (List.mem_cons_of_mem _ tw_522) (List.mem_cons_of_mem _ tw_523) (List.mem_cons_of_mem _ tw_524) (List.mem_cons_of_mem _ tw_325) tw_521) rfl rfl rfl dd_X5_needs rfl (Nat.le_of_ble_eq_true rfl) s_M0 rfl ⟨by decide, by decide⟩ ⟨Nat.le_refl 0, Nat.le_refl 0⟩ (Nat.le_of_ble_eq_true rfl) ?_
              obtain rfl := Option.some.inj hF
              exact jx_vret E dX5_lotTold_105 rfl
            · rw [if_neg hc21] at hF
              refine jx_aload_n E dX5_lotTold_88 0 rfl ?_
              refine jx_iload_n E dX5_lotTold_89 2 rfl ?_
              obtain ⟨⟨r23, v23⟩, hc23, hF⟩ := jx_bind hF
              try dsimp only at hF
              refine jx_callVi (As := [.int x2]) (st := [.ref (ad 0)]) (h := 0) E dX5_lotTold_90 1 rfl (k_X5_isThing hI x2 v20 r23 v23 hc23) (gb_V (List.mem_cons_of_mem _ tw_339) (List.mem_cons_of_mem _ tw_340) (List.mem_cons_of_mem _ tw_341) (List.mem_cons_of_mem _ tw_325) tw_338) rfl rfl rfl dd_X5_isThing rfl (Nat.le_of_ble_eq_true rfl) s_M0 rfl ⟨by decide, by decide⟩ ⟨Nat.le_refl 0, Nat.le_refl 0⟩ (Nat.le_of_ble_eq_true rfl) ?_
              refine jx_iload_n E dX5_lotTold_93 1 rfl ?_
              refine jx_icmp_eq (tgt := 101) E dX5_lotTold_94 (by decide) (fun hc24 => ?_) (fun hc24 => ?_)
              · rw [if_pos hc24] at hF
                refine jx_iconst (x := 0) E dX5_lotTold_101 (by decide) ?_
                obtain ⟨v25, hc25, hF⟩ := jx_bind hF
                try dsimp only at hF
                refine jx_callVv (As := [.int 0]) (st := []) (h := 0) E dX5_lotTold_102 1 rfl (k_X5_needs hI 0 v23 v25 hc25) (gb_V (List.mem_cons_of_mem _ tw_522) (List.mem_cons_of_mem _ tw_523) (List.mem_cons_of_mem _ tw_524) (List.mem_cons_of_mem _ tw_325) tw_521) rfl rfl rfl dd_X5_needs rfl (Nat.le_of_ble_eq_true rfl) s_M0 rfl ⟨by decide, by decide⟩ ⟨Nat.le_refl 0, Nat.le_refl 0⟩ (Nat.le_of_ble_eq_true rfl) ?_
                obtain rfl := Option.some.inj hF
                exact jx_vret E dX5_lotTold_105 rfl
              · rw [if_neg hc24] at hF
                refine jx_iconst (x := 1) E dX5_lotTold_97 (by decide) ?_
                refine jx_goto (tgt := 102) E dX5_lotTold_98 (by decide) ?_
                obtain ⟨v26, hc26, hF⟩ := jx_bind hF
                try dsimp only at hF
                refine jx_callVv (As := [.int 1]) (st := []) (h := 0) E dX5_lotTold_102 1 rfl (k_X5_needs hI 1 v23 v26 hc26) (gb_V (List.mem_cons_of_mem _ tw_522) (List.mem_cons_of_mem _ tw_523) (List.mem_cons_of_mem _ tw_524) (List.mem_cons_of_mem _ tw_325) tw_521) rfl rfl rfl dd_X5_needs rfl (Nat.le_of_ble_eq_true rfl) s_M0 rfl ⟨by decide, by decide⟩ ⟨Nat.le_refl 0, Nat.le_refl 0⟩ (Nat.le_of_ble_eq_true rfl) ?_
                obtain rfl := Option.some.inj hF
                exact jx_vret E dX5_lotTold_105 rfl
        · rw [if_neg hc15] at hF
          refine jx_iload_n E dX5_lotTold_29 2 rfl ?_
          refine jx_sipush (x := 999) E dX5_lotTold_30 (by decide) ?_
          refine jx_icmp_le (tgt := 40) E dX5_lotTold_33 (by decide) (fun hc27 => ?_) (fun hc27 => ?_)
          · rw [if_pos hc27] at hF
            refine jx_bipush (x := 10) E dX5_lotTold_40 (by decide) ?_
            refine jx_iload_n E dX5_lotTold_42 2 rfl ?_
            refine jx_imul E dX5_lotTold_43 ?_
            refine jx_aload_n E dX5_lotTold_44 0 rfl ?_
            refine jx_getr (C := RX5) (T := TX5) (M := 21) (k := 11) E dX5_lotTold_45 (Nat.le_of_ble_eq_true rfl) s_M0 rfl iX5 (by decide) rfl (List.mem_cons_of_mem _ tw_496) rfl ?_
            refine jx_iload_n E dX5_lotTold_48 3 rfl ?_
            obtain ⟨hg28, hF⟩ := jx_guard hF
            refine jx_iald (h := 8) (j := (Int32.toNatClampNeg x3)) E dX5_lotTold_49 (Nat.le_of_ble_eq_true rfl) s_M8 hg28 rfl ?_
            refine jx_iadd E dX5_lotTold_50 ?_
            refine jx_bipush (x := 48) E dX5_lotTold_51 (by decide) ?_
            refine jx_isub E dX5_lotTold_53 ?_
            refine jx_istore_n (lv' := [(2, .int (((10 * x2) + (v14 8 (Int32.toNatClampNeg x3))) - 48)), (0, .ref (ad 0)), (1, .int x1), (3, .int x3)]) E dX5_lotTold_54 (by decide) rfl ?_
            refine jx_iinc (y := (x3 + 1)) (lv' := [(3, .int (x3 + 1)), (2, .int (((10 * x2) + (v14 8 (Int32.toNatClampNeg x3))) - 48)), (0, .ref (ad 0)), (1, .int x1)]) E dX5_lotTold_55 3 rfl rfl (by decide) rfl ?_
            refine jx_goto (tgt := 7) E dX5_lotTold_58 (by decide) ?_
            refine jx_sub [2, 3, 1, 0] rfl ?_
            exact ih x1 (((10 * x2) + (v14 8 (Int32.toNatClampNeg x3))) - 48) (x3 + 1) v14 hF
          · rw [if_neg hc27] at hF
            refine jx_iload_n E dX5_lotTold_36 2 rfl ?_
            refine jx_goto (tgt := 54) E dX5_lotTold_37 (by decide) ?_
            refine jx_istore_n (lv' := [(2, .int x2), (0, .ref (ad 0)), (1, .int x1), (3, .int x3)]) E dX5_lotTold_54 (by decide) rfl ?_
            refine jx_iinc (y := (x3 + 1)) (lv' := [(3, .int (x3 + 1)), (2, .int x2), (0, .ref (ad 0)), (1, .int x1)]) E dX5_lotTold_55 3 rfl rfl (by decide) rfl ?_
            refine jx_goto (tgt := 7) E dX5_lotTold_58 (by decide) ?_
            refine jx_sub [2, 3, 1, 0] rfl ?_
            exact ih x1 x2 (x3 + 1) v14 hF
  refine jx_iconst (x := 0) E dX5_lotTold_0 (by decide) ?_
  refine jx_istore_n (lv' := [(2, .int 0), (0, .ref (ad 0)), (1, .int x1)]) E dX5_lotTold_1 (by decide) rfl ?_
  refine jx_aload_n E dX5_lotTold_2 1 rfl ?_
  refine jx_geti (C := RX5) (T := TX5) (M := 21) (k := 13) E dX5_lotTold_3 (Nat.le_of_ble_eq_true rfl) s_M0 rfl iX5 (by decide) rfl (List.mem_cons_of_mem _ tw_502) rfl ?_
  refine jx_istore_n (lv' := [(3, .int (v 0 13)), (2, .int 0), (0, .ref (ad 0)), (1, .int x1)]) E dX5_lotTold_6 (by decide) rfl ?_
  refine jx_sub [2, 3, 1, 0] rfl ?_
  exact (key 100000) x1 0 (v 0 13) v hF
def f_X5_numberBehind (x1 : Int64) (x3 : Int32) (v : jx_V) : Option (Int32 × jx_V) := ((f_X5_word v).bind (fun (r1, v1) => (if (lg_cmp r1 x1) = 0 then ((f_X5_needs 1 v1).bind (fun v5 => ((f_X5_number 0 x3 v5).bind (fun v6 => (some ((v6 0 15), v6)))))) else ((f_X5_needs 0 v1).bind (fun v3 => ((f_X5_number 0 x3 v3).bind (fun v4 => (some ((v4 0 15), v4)))))))))
def rm_X5_numberBehind : Room := { frames := 5, cells := 0, slots := 0, locals := 113 }
set_option maxHeartbeats 4000000 in
set_option maxRecDepth 100000 in
theorem k_X5_numberBehind {l : Launch} {D : va_G} {cI cJ : ClassId} {ad : Nat → Nat} {A : Nat → Prop} (hI : jx_inj 13 ad A) (x1 : Int64) (x3 : Int32) (v : jx_V) (r : Int32) (v' : jx_V) (hF : f_X5_numberBehind x1 x3 v = some (r, v')) : jx_Ci l D vwCl 13 cI cJ ad shM A ex_M yX5_numberBehind (Cond.code yX5_numberBehind cX5_numberBehind 4 (some .int) :: bigT) rm_X5_numberBehind [.ref (ad 0), .long x1, .int x3] v r v' := by
  unfold f_X5_numberBehind at hF
  refine jx_enteri bigT RX5 cX5_numberBehind 4 (some .int) [(0, .ref (ad 0)), (1, .long x1), (3, .int x3)] hI (ex_M_ok A) (by decide +kernel) rfl (Nat.le_of_ble_eq_true rfl) rfl rfl ?_
  intro p e s m args below meth c E
  have iX5 : ∀ w ∈ u_ws RX5 TX5 21, w ∈ (Cond.code yX5_numberBehind cX5_numberBehind 4 (some .int) :: bigT) := fun w h => List.mem_cons_of_mem _ (uw_X5 w h)
  refine jx_aload_n E dX5_numberBehind_0 0 rfl ?_
  refine jx_aload_n E dX5_numberBehind_1 0 rfl ?_
  obtain ⟨⟨r1, v1⟩, hc1, hF⟩ := jx_bind hF
  try dsimp only at hF
  refine jx_callVl (As := []) (st := [.ref (ad 0)]) (h := 0) E dX5_numberBehind_2 0 rfl (k_X5_word hI  v r1 v1 hc1) (gb_V (List.mem_cons_of_mem _ tw_526) (List.mem_cons_of_mem _ tw_527) (List.mem_cons_of_mem _ tw_528) (List.mem_cons_of_mem _ tw_325) tw_525) rfl rfl rfl dd_X5_word rfl (Nat.le_of_ble_eq_true rfl) s_M0 rfl ⟨by decide, by decide⟩ ⟨Nat.le_refl 0, Nat.le_refl 0⟩ (Nat.le_of_ble_eq_true rfl) ?_
  refine jx_lload_n E dX5_numberBehind_5 1 rfl ?_
  refine jx_lcmp E dX5_numberBehind_6 ?_
  refine jx_if_ne (tgt := 14) E dX5_numberBehind_7 (by decide) (fun hc2 => ?_) (fun hc2 => ?_)
  · rw [if_neg hc2] at hF
    refine jx_iconst (x := 0) E dX5_numberBehind_14 (by decide) ?_
    obtain ⟨v3, hc3, hF⟩ := jx_bind hF
    try dsimp only at hF
    refine jx_callVv (As := [.int 0]) (st := []) (h := 0) E dX5_numberBehind_15 1 rfl (k_X5_needs hI 0 v1 v3 hc3) (gb_V (List.mem_cons_of_mem _ tw_522) (List.mem_cons_of_mem _ tw_523) (List.mem_cons_of_mem _ tw_524) (List.mem_cons_of_mem _ tw_325) tw_521) rfl rfl rfl dd_X5_needs rfl (Nat.le_of_ble_eq_true rfl) s_M0 rfl ⟨by decide, by decide⟩ ⟨Nat.le_refl 0, Nat.le_refl 0⟩ (Nat.le_of_ble_eq_true rfl) ?_
    refine jx_aload_n E dX5_numberBehind_18 0 rfl ?_
    refine jx_iconst (x := 0) E dX5_numberBehind_19 (by decide) ?_
    refine jx_iload_n E dX5_numberBehind_20 2 rfl ?_
    obtain ⟨v4, hc4, hF⟩ := jx_bind hF
    try dsimp only at hF
    refine jx_callVv (As := [.int 0, .int x3]) (st := []) (h := 0) E dX5_numberBehind_21 2 rfl (k_X5_number hI 0 x3 v3 v4 hc4) (gb_V (List.mem_cons_of_mem _ tw_537) (List.mem_cons_of_mem _ tw_538) (List.mem_cons_of_mem _ tw_539) (List.mem_cons_of_mem _ tw_325) tw_536) rfl rfl rfl dd_X5_number rfl (Nat.le_of_ble_eq_true rfl) s_M0 rfl ⟨by decide, by decide⟩ ⟨Nat.le_refl 0, Nat.le_refl 0⟩ (Nat.le_of_ble_eq_true rfl) ?_
    refine jx_aload_n E dX5_numberBehind_24 0 rfl ?_
    refine jx_geti (C := RX5) (T := TX5) (M := 21) (k := 15) E dX5_numberBehind_25 (Nat.le_of_ble_eq_true rfl) s_M0 rfl iX5 (by decide) rfl (List.mem_cons_of_mem _ tw_520) rfl ?_
    obtain ⟨rfl, rfl⟩ := jx_out hF
    exact jx_iret E dX5_numberBehind_28 rfl
  · rw [if_pos hc2] at hF
    refine jx_iconst (x := 1) E dX5_numberBehind_10 (by decide) ?_
    refine jx_goto (tgt := 15) E dX5_numberBehind_11 (by decide) ?_
    obtain ⟨v5, hc5, hF⟩ := jx_bind hF
    try dsimp only at hF
    refine jx_callVv (As := [.int 1]) (st := []) (h := 0) E dX5_numberBehind_15 1 rfl (k_X5_needs hI 1 v1 v5 hc5) (gb_V (List.mem_cons_of_mem _ tw_522) (List.mem_cons_of_mem _ tw_523) (List.mem_cons_of_mem _ tw_524) (List.mem_cons_of_mem _ tw_325) tw_521) rfl rfl rfl dd_X5_needs rfl (Nat.le_of_ble_eq_true rfl) s_M0 rfl ⟨by decide, by decide⟩ ⟨Nat.le_refl 0, Nat.le_refl 0⟩ (Nat.le_of_ble_eq_true rfl) ?_
    refine jx_aload_n E dX5_numberBehind_18 0 rfl ?_
    refine jx_iconst (x := 0) E dX5_numberBehind_19 (by decide) ?_
    refine jx_iload_n E dX5_numberBehind_20 2 rfl ?_
    obtain ⟨v6, hc6, hF⟩ := jx_bind hF
    try dsimp only at hF
    refine jx_callVv (As := [.int 0, .int x3]) (st := []) (h := 0) E dX5_numberBehind_21 2 rfl (k_X5_number hI 0 x3 v5 v6 hc6) (gb_V (List.mem_cons_of_mem _ tw_537) (List.mem_cons_of_mem _ tw_538) (List.mem_cons_of_mem _ tw_539) (List.mem_cons_of_mem _ tw_325) tw_536) rfl rfl rfl dd_X5_number rfl (Nat.le_of_ble_eq_true rfl) s_M0 rfl ⟨by decide, by decide⟩ ⟨Nat.le_refl 0, Nat.le_refl 0⟩ (Nat.le_of_ble_eq_true rfl) ?_
    refine jx_aload_n E dX5_numberBehind_24 0 rfl ?_
    refine jx_geti (C := RX5) (T := TX5) (M := 21) (k := 15) E dX5_numberBehind_25 (Nat.le_of_ble_eq_true rfl) s_M0 rfl iX5 (by decide) rfl (List.mem_cons_of_mem _ tw_520) rfl ?_
    obtain ⟨rfl, rfl⟩ := jx_out hF
    exact jx_iret E dX5_numberBehind_28 rfl
def f_X5_thingItem (x1 : Int32) (v : jx_V) : Option (jx_V) := ((f_X5_needs 1 v).bind (fun v1 => ((f_X5_word v1).bind (fun (r2, v2) => (if (lg_cmp r2 52) = 0 then ((f_X5_needs 1 v2).bind (fun v25 => (if (v25 0 16) = 0 then ((f_X5_lotTold 1 v25).bind (fun v36 => ((f_X5_numberBehind 486 3 v36).bind (fun (r37, v37) => ((f_X5_numberBehind 271592 9 v37).bind (fun (r38, v38) => ((f_X5_word v38).bind (fun (r39, v39) => (if (lg_cmp r39 16819668) = 0 then ((f_X5_numberBehind 16819668 3 v39).bind (fun (r43, v43) => (if (v43 0 16) = 0 then ((f_X5_builds (v36 0 15) x1 r37 r38 r43 v43).bind (fun v45 => (some v45))) else (some v43)))) else (if (v39 0 16) = 0 then ((f_X5_builds (v36 0 15) x1 r37 r38 0 v39).bind (fun v42 => (some v42))) else (some v39))))))))))) else ((f_X5_numberBehind 486 3 v25).bind (fun (r27, v27) => ((f_X5_numberBehind 271592 9 v27).bind (fun (r28, v28) => ((f_X5_word v28).bind (fun (r29, v29) => (if (lg_cmp r29 16819668) = 0 then ((f_X5_numberBehind 16819668 3 v29).bind (fun (r33, v33) => (if (v33 0 16) = 0 then ((f_X5_builds (v25 0 15) x1 r27 r28 r33 v33).bind (fun v35 => (some v35))) else (some v33)))) else (if (v29 0 16) = 0 then ((f_X5_builds (v25 0 15) x1 r27 r28 0 v29).bind (fun v32 => (some v32))) else (some v29)))))))))))) else ((f_X5_needs 0 v2).bind (fun v4 => (if (v4 0 16) = 0 then ((f_X5_lotTold 1 v4).bind (fun v15 => ((f_X5_numberBehind 486 3 v15).bind (fun (r16, v16) => ((f_X5_numberBehind 271592 9 v16).bind (fun (r17, v17) => ((f_X5_word v17).bind (fun (r18, v18) => (if (lg_cmp r18 16819668) = 0 then ((f_X5_numberBehind 16819668 3 v18).bind (fun (r22, v22) => (if (v22 0 16) = 0 then ((f_X5_builds (v15 0 15) x1 r16 r17 r22 v22).bind (fun v24 => (some v24))) else (some v22)))) else (if (v18 0 16) = 0 then ((f_X5_builds (v15 0 15) x1 r16 r17 0 v18).bind (fun v21 => (some v21))) else (some v18))))))))))) else ((f_X5_numberBehind 486 3 v4).bind (fun (r6, v6) => ((f_X5_numberBehind 271592 9 v6).bind (fun (r7, v7) => ((f_X5_word v7).bind (fun (r8, v8) => (if (lg_cmp r8 16819668) = 0 then ((f_X5_numberBehind 16819668 3 v8).bind (fun (r12, v12) => (if (v12 0 16) = 0 then ((f_X5_builds (v4 0 15) x1 r6 r7 r12 v12).bind (fun v14 => (some v14))) else (some v12)))) else (if (v8 0 16) = 0 then ((f_X5_builds (v4 0 15) x1 r6 r7 0 v8).bind (fun v11 => (some v11))) else (some v8)))))))))))))))))
def rm_X5_thingItem : Room := { frames := 6, cells := 0, slots := 0, locals := 136 }
set_option maxHeartbeats 4000000 in
set_option maxRecDepth 100000 in
theorem k_X5_thingItem {l : Launch} {D : va_G} {cI cJ : ClassId} {ad : Nat → Nat} {A : Nat → Prop} (hI : jx_inj 13 ad A) (x1 : Int32) (v : jx_V) (v' : jx_V) (hF : f_X5_thingItem x1 v = some v') : jx_Cv l D vwCl 13 cI cJ ad shM A ex_M yX5_thingItem (Cond.code yX5_thingItem cX5_thingItem 6 (none) :: bigT) rm_X5_thingItem [.ref (ad 0), .int x1] v v' := by
  unfold f_X5_thingItem at hF
  refine jx_enterv bigT RX5 cX5_thingItem 6 (none) [(0, .ref (ad 0)), (1, .int x1)] hI (ex_M_ok A) (by decide +kernel) rfl (Nat.le_of_ble_eq_true rfl) rfl rfl ?_
  intro p e s m args below meth c E
  have iX5 : ∀ w ∈ u_ws RX5 TX5 21, w ∈ (Cond.code yX5_thingItem cX5_thingItem 6 (none) :: bigT) := fun w h => List.mem_cons_of_mem _ (uw_X5 w h)
  refine jx_aload_n E dX5_thingItem_0 0 rfl ?_
  refine jx_iconst (x := 1) E dX5_thingItem_1 (by decide) ?_
  obtain ⟨v1, hc1, hF⟩ := jx_bind hF
  try dsimp only at hF
  refine jx_callVv (As := [.int 1]) (st := []) (h := 0) E dX5_thingItem_2 1 rfl (k_X5_needs hI 1 v v1 hc1) (gb_V (List.mem_cons_of_mem _ tw_522) (List.mem_cons_of_mem _ tw_523) (List.mem_cons_of_mem _ tw_524) (List.mem_cons_of_mem _ tw_325) tw_521) rfl rfl rfl dd_X5_needs rfl (Nat.le_of_ble_eq_true rfl) s_M0 rfl ⟨by decide, by decide⟩ ⟨Nat.le_refl 0, Nat.le_refl 0⟩ (Nat.le_of_ble_eq_true rfl) ?_
  refine jx_aload_n E dX5_thingItem_5 0 rfl ?_
  refine jx_aload_n E dX5_thingItem_6 0 rfl ?_
  obtain ⟨⟨r2, v2⟩, hc2, hF⟩ := jx_bind hF
  try dsimp only at hF
  refine jx_callVl (As := []) (st := [.ref (ad 0)]) (h := 0) E dX5_thingItem_7 0 rfl (k_X5_word hI  v1 r2 v2 hc2) (gb_V (List.mem_cons_of_mem _ tw_526) (List.mem_cons_of_mem _ tw_527) (List.mem_cons_of_mem _ tw_528) (List.mem_cons_of_mem _ tw_325) tw_525) rfl rfl rfl dd_X5_word rfl (Nat.le_of_ble_eq_true rfl) s_M0 rfl ⟨by decide, by decide⟩ ⟨Nat.le_refl 0, Nat.le_refl 0⟩ (Nat.le_of_ble_eq_true rfl) ?_
  refine jx_ldc2 (x := 52) E dX5_thingItem_10 (List.mem_cons_of_mem _ tw_540) ?_
  refine jx_lcmp E dX5_thingItem_13 ?_
  refine jx_if_ne (tgt := 21) E dX5_thingItem_14 (by decide) (fun hc3 => ?_) (fun hc3 => ?_)
  · rw [if_neg hc3] at hF
    refine jx_iconst (x := 0) E dX5_thingItem_21 (by decide) ?_
    obtain ⟨v4, hc4, hF⟩ := jx_bind hF
    try dsimp only at hF
    refine jx_callVv (As := [.int 0]) (st := []) (h := 0) E dX5_thingItem_22 1 rfl (k_X5_needs hI 0 v2 v4 hc4) (gb_V (List.mem_cons_of_mem _ tw_522) (List.mem_cons_of_mem _ tw_523) (List.mem_cons_of_mem _ tw_524) (List.mem_cons_of_mem _ tw_325) tw_521) rfl rfl rfl dd_X5_needs rfl (Nat.le_of_ble_eq_true rfl) s_M0 rfl ⟨by decide, by decide⟩ ⟨Nat.le_refl 0, Nat.le_refl 0⟩ (Nat.le_of_ble_eq_true rfl) ?_
    refine jx_aload_n E dX5_thingItem_25 0 rfl ?_
    refine jx_geti (C := RX5) (T := TX5) (M := 21) (k := 16) E dX5_thingItem_26 (Nat.le_of_ble_eq_true rfl) s_M0 rfl iX5 (by decide) rfl (List.mem_cons_of_mem _ tw_513) rfl ?_
    refine jx_if_ne (tgt := 37) E dX5_thingItem_29 (by decide) (fun hc5 => ?_) (fun hc5 => ?_)
    · rw [if_neg hc5] at hF
      refine jx_aload_n E dX5_thingItem_37 0 rfl ?_
      refine jx_geti (C := RX5) (T := TX5) (M := 21) (k := 15) E dX5_thingItem_38 (Nat.le_of_ble_eq_true rfl) s_M0 rfl iX5 (by decide) rfl (List.mem_cons_of_mem _ tw_520) rfl ?_
      refine jx_istore_n (lv' := [(2, .int (v4 0 15)), (0, .ref (ad 0)), (1, .int x1)]) E dX5_thingItem_41 (by decide) rfl ?_
      refine jx_aload_n E dX5_thingItem_42 1 rfl ?_
      refine jx_ldc2 (x := 486) E dX5_thingItem_43 (List.mem_cons_of_mem _ tw_541) ?_
      refine jx_iconst (x := 3) E dX5_thingItem_46 (by decide) ?_
      obtain ⟨⟨r6, v6⟩, hc6, hF⟩ := jx_bind hF
      try dsimp only at hF
      refine jx_callVi (As := [.long 486, .int 3]) (st := []) (h := 0) E dX5_thingItem_47 2 rfl (k_X5_numberBehind hI 486 3 v4 r6 v6 hc6) (gb_V (List.mem_cons_of_mem _ tw_543) (List.mem_cons_of_mem _ tw_544) (List.mem_cons_of_mem _ tw_545) (List.mem_cons_of_mem _ tw_325) tw_542) rfl rfl rfl dd_X5_numberBehind rfl (Nat.le_of_ble_eq_true rfl) s_M0 rfl ⟨by decide, by decide⟩ ⟨Nat.le_refl 0, Nat.le_refl 0⟩ (Nat.le_of_ble_eq_true rfl) ?_
      refine jx_istore_n (lv' := [(3, .int r6), (2, .int (v4 0 15)), (0, .ref (ad 0)), (1, .int x1)]) E dX5_thingItem_50 (by decide) rfl ?_
      refine jx_aload_n E dX5_thingItem_51 2 rfl ?_
      refine jx_ldc2 (x := 271592) E dX5_thingItem_52 (List.mem_cons_of_mem _ tw_546) ?_
      refine jx_bipush (x := 9) E dX5_thingItem_55 (by decide) ?_
      obtain ⟨⟨r7, v7⟩, hc7, hF⟩ := jx_bind hF
      try dsimp only at hF
      refine jx_callVi (As := [.long 271592, .int 9]) (st := []) (h := 0) E dX5_thingItem_57 2 rfl (k_X5_numberBehind hI 271592 9 v6 r7 v7 hc7) (gb_V (List.mem_cons_of_mem _ tw_543) (List.mem_cons_of_mem _ tw_544) (List.mem_cons_of_mem _ tw_545) (List.mem_cons_of_mem _ tw_325) tw_542) rfl rfl rfl dd_X5_numberBehind rfl (Nat.le_of_ble_eq_true rfl) s_M0 rfl ⟨by decide, by decide⟩ ⟨Nat.le_refl 0, Nat.le_refl 0⟩ (Nat.le_of_ble_eq_true rfl) ?_
      refine jx_istore (lv' := [(4, .int r7), (3, .int r6), (2, .int (v4 0 15)), (0, .ref (ad 0)), (1, .int x1)]) E dX5_thingItem_60 (by decide) rfl ?_
      refine jx_aload_n E dX5_thingItem_62 3 rfl ?_
      obtain ⟨⟨r8, v8⟩, hc8, hF⟩ := jx_bind hF
      try dsimp only at hF
      refine jx_callVl (As := []) (st := []) (h := 0) E dX5_thingItem_63 0 rfl (k_X5_word hI  v7 r8 v8 hc8) (gb_V (List.mem_cons_of_mem _ tw_526) (List.mem_cons_of_mem _ tw_527) (List.mem_cons_of_mem _ tw_528) (List.mem_cons_of_mem _ tw_325) tw_525) rfl rfl rfl dd_X5_word rfl (Nat.le_of_ble_eq_true rfl) s_M0 rfl ⟨by decide, by decide⟩ ⟨Nat.le_refl 0, Nat.le_refl 0⟩ (Nat.le_of_ble_eq_true rfl) ?_
      refine jx_ldc2 (x := 16819668) E dX5_thingItem_66 (List.mem_cons_of_mem _ tw_547) ?_
      refine jx_lcmp E dX5_thingItem_69 ?_
      refine jx_if_ne (tgt := 84) E dX5_thingItem_70 (by decide) (fun hc9 => ?_) (fun hc9 => ?_)
      · rw [if_neg hc9] at hF
        refine jx_iconst (x := 0) E dX5_thingItem_84 (by decide) ?_
        refine jx_istore (lv' := [(5, .int 0), (4, .int r7), (3, .int r6), (2, .int (v4 0 15)), (0, .ref (ad 0)), (1, .int x1)]) E dX5_thingItem_85 (by decide) rfl ?_
        refine jx_aload_n E dX5_thingItem_87 4 rfl ?_
        refine jx_geti (C := RX5) (T := TX5) (M := 21) (k := 16) E dX5_thingItem_88 (Nat.le_of_ble_eq_true rfl) s_M0 rfl iX5 (by decide) rfl (List.mem_cons_of_mem _ tw_513) rfl ?_
        refine jx_if_ne (tgt := 105) E dX5_thingItem_91 (by decide) (fun hc10 => ?_) (fun hc10 => ?_)
        · rw [if_neg hc10] at hF
          obtain rfl := Option.some.inj hF
          exact jx_vret E dX5_thingItem_105 rfl
        · rw [if_pos hc10] at hF
          refine jx_aload_n E dX5_thingItem_94 4 rfl ?_
          refine jx_iload_n E dX5_thingItem_95 3 rfl ?_
          refine jx_iload_n E dX5_thingItem_96 5 rfl ?_
          refine jx_iload_n E dX5_thingItem_97 2 rfl ?_
          refine jx_iload E dX5_thingItem_98 1 rfl ?_
          refine jx_iload E dX5_thingItem_100 0 rfl ?_
          obtain ⟨v11, hc11, hF⟩ := jx_bind hF
          try dsimp only at hF
          refine jx_callVv (As := [.int (v4 0 15), .int x1, .int r6, .int r7, .int 0]) (st := []) (h := 0) E dX5_thingItem_102 5 rfl (k_X5_builds hI (v4 0 15) x1 r6 r7 0 v8 v11 hc11) (gb_V (List.mem_cons_of_mem _ tw_357) (List.mem_cons_of_mem _ tw_358) (List.mem_cons_of_mem _ tw_359) (List.mem_cons_of_mem _ tw_325) tw_356) rfl rfl rfl dd_X5_builds rfl (Nat.le_of_ble_eq_true rfl) s_M0 rfl ⟨by decide, by decide⟩ ⟨Nat.le_refl 0, Nat.le_refl 0⟩ (Nat.le_of_ble_eq_true rfl) ?_
          obtain rfl := Option.some.inj hF
          exact jx_vret E dX5_thingItem_105 rfl
      · rw [if_pos hc9] at hF
        refine jx_aload_n E dX5_thingItem_73 3 rfl ?_
        refine jx_ldc2 (x := 16819668) E dX5_thingItem_74 (List.mem_cons_of_mem _ tw_547) ?_
        refine jx_iconst (x := 3) E dX5_thingItem_77 (by decide) ?_
        obtain ⟨⟨r12, v12⟩, hc12, hF⟩ := jx_bind hF
        try dsimp only at hF
        refine jx_callVi (As := [.long 16819668, .int 3]) (st := []) (h := 0) E dX5_thingItem_78 2 rfl (k_X5_numberBehind hI 16819668 3 v8 r12 v12 hc12) (gb_V (List.mem_cons_of_mem _ tw_543) (List.mem_cons_of_mem _ tw_544) (List.mem_cons_of_mem _ tw_545) (List.mem_cons_of_mem _ tw_325) tw_542) rfl rfl rfl dd_X5_numberBehind rfl (Nat.le_of_ble_eq_true rfl) s_M0 rfl ⟨by decide, by decide⟩ ⟨Nat.le_refl 0, Nat.le_refl 0⟩ (Nat.le_of_ble_eq_true rfl) ?_
        refine jx_goto (tgt := 85) E dX5_thingItem_81 (by decide) ?_
        refine jx_istore (lv' := [(5, .int r12), (4, .int r7), (3, .int r6), (2, .int (v4 0 15)), (0, .ref (ad 0)), (1, .int x1)]) E dX5_thingItem_85 (by decide) rfl ?_
        refine jx_aload_n E dX5_thingItem_87 4 rfl ?_
        refine jx_geti (C := RX5) (T := TX5) (M := 21) (k := 16) E dX5_thingItem_88 (Nat.le_of_ble_eq_true rfl) s_M0 rfl iX5 (by decide) rfl (List.mem_cons_of_mem _ tw_513) rfl ?_
        refine jx_if_ne (tgt := 105) E dX5_thingItem_91 (by decide) (fun hc13 => ?_) (fun hc13 => ?_)
        · rw [if_neg hc13] at hF
          obtain rfl := Option.some.inj hF
          exact jx_vret E dX5_thingItem_105 rfl
        · rw [if_pos hc13] at hF
          refine jx_aload_n E dX5_thingItem_94 4 rfl ?_
          refine jx_iload_n E dX5_thingItem_95 3 rfl ?_
          refine jx_iload_n E dX5_thingItem_96 5 rfl ?_
          refine jx_iload_n E dX5_thingItem_97 2 rfl ?_
          refine jx_iload E dX5_thingItem_98 1 rfl ?_
          refine jx_iload E dX5_thingItem_100 0 rfl ?_
          obtain ⟨v14, hc14, hF⟩ := jx_bind hF
          try dsimp only at hF
          refine jx_callVv (As := [.int (v4 0 15), .int x1, .int r6, .int r7, .int r12]) (st := []) (h := 0) E dX5_thingItem_102 5 rfl (k_X5_builds hI (v4 0 15) x1 r6 r7 r12 v12 v14 hc14) (gb_V (List.mem_cons_of_mem _ tw_357) (List.mem_cons_of_mem _ tw_358) (List.mem_cons_of_mem _ tw_359) (List.mem_cons_of_mem _ tw_325) tw_356) rfl rfl rfl dd_X5_builds rfl (Nat.le_of_ble_eq_true rfl) s_M0 rfl ⟨by decide, by decide⟩ ⟨Nat.le_refl 0, Nat.le_refl 0⟩ (Nat.le_of_ble_eq_true rfl) ?_
          obtain rfl := Option.some.inj hF
          exact jx_vret E dX5_thingItem_105 rfl
    · rw [if_pos hc5] at hF
      refine jx_aload_n E dX5_thingItem_32 0 rfl ?_
      refine jx_iconst (x := 1) E dX5_thingItem_33 (by decide) ?_
      obtain ⟨v15, hc15, hF⟩ := jx_bind hF
      try dsimp only at hF
      refine jx_callVv (As := [.int 1]) (st := []) (h := 0) E dX5_thingItem_34 1 rfl (k_X5_lotTold hI 1 v4 v15 hc15) (gb_V (List.mem_cons_of_mem _ tw_549) (List.mem_cons_of_mem _ tw_550) (List.mem_cons_of_mem _ tw_551) (List.mem_cons_of_mem _ tw_325) tw_548) rfl rfl rfl dd_X5_lotTold rfl (Nat.le_of_ble_eq_true rfl) s_M0 rfl ⟨by decide, by decide⟩ ⟨Nat.le_refl 0, Nat.le_refl 0⟩ (Nat.le_of_ble_eq_true rfl) ?_
      refine jx_aload_n E dX5_thingItem_37 0 rfl ?_
      refine jx_geti (C := RX5) (T := TX5) (M := 21) (k := 15) E dX5_thingItem_38 (Nat.le_of_ble_eq_true rfl) s_M0 rfl iX5 (by decide) rfl (List.mem_cons_of_mem _ tw_520) rfl ?_
      refine jx_istore_n (lv' := [(2, .int (v15 0 15)), (0, .ref (ad 0)), (1, .int x1)]) E dX5_thingItem_41 (by decide) rfl ?_
      refine jx_aload_n E dX5_thingItem_42 1 rfl ?_
      refine jx_ldc2 (x := 486) E dX5_thingItem_43 (List.mem_cons_of_mem _ tw_541) ?_
      refine jx_iconst (x := 3) E dX5_thingItem_46 (by decide) ?_
      obtain ⟨⟨r16, v16⟩, hc16, hF⟩ := jx_bind hF
      try dsimp only at hF
      refine jx_callVi (As := [.long 486, .int 3]) (st := []) (h := 0) E dX5_thingItem_47 2 rfl (k_X5_numberBehind hI 486 3 v15 r16 v16 hc16) (gb_V (List.mem_cons_of_mem _ tw_543) (List.mem_cons_of_mem _ tw_544) (List.mem_cons_of_mem _ tw_545) (List.mem_cons_of_mem _ tw_325) tw_542) rfl rfl rfl dd_X5_numberBehind rfl (Nat.le_of_ble_eq_true rfl) s_M0 rfl ⟨by decide, by decide⟩ ⟨Nat.le_refl 0, Nat.le_refl 0⟩ (Nat.le_of_ble_eq_true rfl) ?_
      refine jx_istore_n (lv' := [(3, .int r16), (2, .int (v15 0 15)), (0, .ref (ad 0)), (1, .int x1)]) E dX5_thingItem_50 (by decide) rfl ?_
      refine jx_aload_n E dX5_thingItem_51 2 rfl ?_
      refine jx_ldc2 (x := 271592) E dX5_thingItem_52 (List.mem_cons_of_mem _ tw_546) ?_
      refine jx_bipush (x := 9) E dX5_thingItem_55 (by decide) ?_
      obtain ⟨⟨r17, v17⟩, hc17, hF⟩ := jx_bind hF
      try dsimp only at hF
      refine jx_callVi (As := [.long 271592, .int 9]) (st := []) (h := 0) E dX5_thingItem_57 2 rfl (k_X5_numberBehind hI 271592 9 v16 r17 v17 hc17) (gb_V (List.mem_cons_of_mem _ tw_543) (List.mem_cons_of_mem _ tw_544) (List.mem_cons_of_mem _ tw_545) (List.mem_cons_of_mem _ tw_325) tw_542) rfl rfl rfl dd_X5_numberBehind rfl (Nat.le_of_ble_eq_true rfl) s_M0 rfl ⟨by decide, by decide⟩ ⟨Nat.le_refl 0, Nat.le_refl 0⟩ (Nat.le_of_ble_eq_true rfl) ?_
      refine jx_istore (lv' := [(4, .int r17), (3, .int r16), (2, .int (v15 0 15)), (0, .ref (ad 0)), (1, .int x1)]) E dX5_thingItem_60 (by decide) rfl ?_
      refine jx_aload_n E dX5_thingItem_62 3 rfl ?_
      obtain ⟨⟨r18, v18⟩, hc18, hF⟩ := jx_bind hF
      try dsimp only at hF
      refine jx_callVl (As := []) (st := []) (h := 0) E dX5_thingItem_63 0 rfl (k_X5_word hI  v17 r18 v18 hc18) (gb_V (List.mem_cons_of_mem _ tw_526) (List.mem_cons_of_mem _ tw_527) (List.mem_cons_of_mem _ tw_528) (List.mem_cons_of_mem _ tw_325) tw_525) rfl rfl rfl dd_X5_word rfl (Nat.le_of_ble_eq_true rfl) s_M0 rfl ⟨by decide, by decide⟩ ⟨Nat.le_refl 0, Nat.le_refl 0⟩ (Nat.le_of_ble_eq_true rfl) ?_
      refine jx_ldc2 (x := 16819668) E dX5_thingItem_66 (List.mem_cons_of_mem _ tw_547) ?_
      refine jx_lcmp E dX5_thingItem_69 ?_
      refine jx_if_ne (tgt := 84) E dX5_thingItem_70 (by decide) (fun hc19 => ?_) (fun hc19 => ?_)
      · rw [if_neg hc19] at hF
        refine jx_iconst (x := 0) E dX5_thingItem_84 (by decide) ?_
        refine jx_istore (lv' := [(5, .int 0), (4, .int r17), (3, .int r16), (2, .int (v15 0 15)), (0, .ref (ad 0)), (1, .int x1)]) E dX5_thingItem_85 (by decide) rfl ?_
        refine jx_aload_n E dX5_thingItem_87 4 rfl ?_
        refine jx_geti (C := RX5) (T := TX5) (M := 21) (k := 16) E dX5_thingItem_88 (Nat.le_of_ble_eq_true rfl) s_M0 rfl iX5 (by decide) rfl (List.mem_cons_of_mem _ tw_513) rfl ?_
        refine jx_if_ne (tgt := 105) E dX5_thingItem_91 (by decide) (fun hc20 => ?_) (fun hc20 => ?_)
        · rw [if_neg hc20] at hF
          obtain rfl := Option.some.inj hF
          exact jx_vret E dX5_thingItem_105 rfl
        · rw [if_pos hc20] at hF
          refine jx_aload_n E dX5_thingItem_94 4 rfl ?_
          refine jx_iload_n E dX5_thingItem_95 3 rfl ?_
          refine jx_iload_n E dX5_thingItem_96 5 rfl ?_
          refine jx_iload_n E dX5_thingItem_97 2 rfl ?_
          refine jx_iload E dX5_thingItem_98 1 rfl ?_
          refine jx_iload E dX5_thingItem_100 0 rfl ?_
          obtain ⟨v21, hc21, hF⟩ := jx_bind hF
          try dsimp only at hF
          refine jx_callVv (As := [.int (v15 0 15), .int x1, .int r16, .int r17, .int 0]) (st := []) (h := 0) E dX5_thingItem_102 5 rfl (k_X5_builds hI (v15 0 15) x1 r16 r17 0 v18 v21 hc21) (gb_V (List.mem_cons_of_mem _ tw_357) (List.mem_cons_of_mem _ tw_358) (List.mem_cons_of_mem _ tw_359) (List.mem_cons_of_mem _ tw_325) tw_356) rfl rfl rfl dd_X5_builds rfl (Nat.le_of_ble_eq_true rfl) s_M0 rfl ⟨by decide, by decide⟩ ⟨Nat.le_refl 0, Nat.le_refl 0⟩ (Nat.le_of_ble_eq_true rfl) ?_
          obtain rfl := Option.some.inj hF
          exact jx_vret E dX5_thingItem_105 rfl
      · rw [if_pos hc19] at hF
        refine jx_aload_n E dX5_thingItem_73 3 rfl ?_
        refine jx_ldc2 (x := 16819668) E dX5_thingItem_74 (List.mem_cons_of_mem _ tw_547) ?_
        refine jx_iconst (x := 3) E dX5_thingItem_77 (by decide) ?_
        obtain ⟨⟨r22, v22⟩, hc22, hF⟩ := jx_bind hF
        try dsimp only at hF
        refine jx_callVi (As := [.long 16819668, .int 3]) (st := []) (h := 0) E dX5_thingItem_78 2 rfl (k_X5_numberBehind hI 16819668 3 v18 r22 v22 hc22) (gb_V (List.mem_cons_of_mem _ tw_543) (List.mem_cons_of_mem _ tw_544) (List.mem_cons_of_mem _ tw_545) (List.mem_cons_of_mem _ tw_325) tw_542) rfl rfl rfl dd_X5_numberBehind rfl (Nat.le_of_ble_eq_true rfl) s_M0 rfl ⟨by decide, by decide⟩ ⟨Nat.le_refl 0, Nat.le_refl 0⟩ (Nat.le_of_ble_eq_true rfl) ?_
        refine jx_goto (tgt := 85) E dX5_thingItem_81 (by decide) ?_
        refine jx_istore (lv' := [(5, .int r22), (4, .int r17), (3, .int r16), (2, .int (v15 0 15)), (0, .ref (ad 0)), (1, .int x1)]) E dX5_thingItem_85 (by decide) rfl ?_
        refine jx_aload_n E dX5_thingItem_87 4 rfl ?_
        refine jx_geti (C := RX5) (T := TX5) (M := 21) (k := 16) E dX5_thingItem_88 (Nat.le_of_ble_eq_true rfl) s_M0 rfl iX5 (by decide) rfl (List.mem_cons_of_mem _ tw_513) rfl ?_
        refine jx_if_ne (tgt := 105) E dX5_thingItem_91 (by decide) (fun hc23 => ?_) (fun hc23 => ?_)
        · rw [if_neg hc23] at hF
          obtain rfl := Option.some.inj hF
          exact jx_vret E dX5_thingItem_105 rfl
        · rw [if_pos hc23] at hF
          refine jx_aload_n E dX5_thingItem_94 4 rfl ?_
          refine jx_iload_n E dX5_thingItem_95 3 rfl ?_
          refine jx_iload_n E dX5_thingItem_96 5 rfl ?_
          refine jx_iload_n E dX5_thingItem_97 2 rfl ?_
          refine jx_iload E dX5_thingItem_98 1 rfl ?_
          refine jx_iload E dX5_thingItem_100 0 rfl ?_
          obtain ⟨v24, hc24, hF⟩ := jx_bind hF
          try dsimp only at hF
          refine jx_callVv (As := [.int (v15 0 15), .int x1, .int r16, .int r17, .int r22]) (st := []) (h := 0) E dX5_thingItem_102 5 rfl (k_X5_builds hI (v15 0 15) x1 r16 r17 r22 v22 v24 hc24) (gb_V (List.mem_cons_of_mem _ tw_357) (List.mem_cons_of_mem _ tw_358) (List.mem_cons_of_mem _ tw_359) (List.mem_cons_of_mem _ tw_325) tw_356) rfl rfl rfl dd_X5_builds rfl (Nat.le_of_ble_eq_true rfl) s_M0 rfl ⟨by decide, by decide⟩ ⟨Nat.le_refl 0, Nat.le_refl 0⟩ (Nat.le_of_ble_eq_true rfl) ?_
          obtain rfl := Option.some.inj hF
          exact jx_vret E dX5_thingItem_105 rfl
  · rw [if_pos hc3] at hF
    refine jx_iconst (x := 1) E dX5_thingItem_17 (by decide) ?_
    refine jx_goto (tgt := 22) E dX5_thingItem_18 (by decide) ?_
    obtain ⟨v25, hc25, hF⟩ := jx_bind hF
    try dsimp only at hF
    refine jx_callVv (As := [.int 1]) (st := []) (h := 0) E dX5_thingItem_22 1 rfl (k_X5_needs hI 1 v2 v25 hc25) (gb_V (List.mem_cons_of_mem _ tw_522) (List.mem_cons_of_mem _ tw_523) (List.mem_cons_of_mem _ tw_524) (List.mem_cons_of_mem _ tw_325) tw_521) rfl rfl rfl dd_X5_needs rfl (Nat.le_of_ble_eq_true rfl) s_M0 rfl ⟨by decide, by decide⟩ ⟨Nat.le_refl 0, Nat.le_refl 0⟩ (Nat.le_of_ble_eq_true rfl) ?_
    refine jx_aload_n E dX5_thingItem_25 0 rfl ?_
    refine jx_geti (C := RX5) (T := TX5) (M := 21) (k := 16) E dX5_thingItem_26 (Nat.le_of_ble_eq_true rfl) s_M0 rfl iX5 (by decide) rfl (List.mem_cons_of_mem _ tw_513) rfl ?_
    refine jx_if_ne (tgt := 37) E dX5_thingItem_29 (by decide) (fun hc26 => ?_) (fun hc26 => ?_)
    · rw [if_neg hc26] at hF
      refine jx_aload_n E dX5_thingItem_37 0 rfl ?_
      refine jx_geti (C := RX5) (T := TX5) (M := 21) (k := 15) E dX5_thingItem_38 (Nat.le_of_ble_eq_true rfl) s_M0 rfl iX5 (by decide) rfl (List.mem_cons_of_mem _ tw_520) rfl ?_
      refine jx_istore_n (lv' := [(2, .int (v25 0 15)), (0, .ref (ad 0)), (1, .int x1)]) E dX5_thingItem_41 (by decide) rfl ?_
      refine jx_aload_n E dX5_thingItem_42 1 rfl ?_
      refine jx_ldc2 (x := 486) E dX5_thingItem_43 (List.mem_cons_of_mem _ tw_541) ?_
      refine jx_iconst (x := 3) E dX5_thingItem_46 (by decide) ?_
      obtain ⟨⟨r27, v27⟩, hc27, hF⟩ := jx_bind hF
      try dsimp only at hF
      refine jx_callVi (As := [.long 486, .int 3]) (st := []) (h := 0) E dX5_thingItem_47 2 rfl (k_X5_numberBehind hI 486 3 v25 r27 v27 hc27) (gb_V (List.mem_cons_of_mem _ tw_543) (List.mem_cons_of_mem _ tw_544) (List.mem_cons_of_mem _ tw_545) (List.mem_cons_of_mem _ tw_325) tw_542) rfl rfl rfl dd_X5_numberBehind rfl (Nat.le_of_ble_eq_true rfl) s_M0 rfl ⟨by decide, by decide⟩ ⟨Nat.le_refl 0, Nat.le_refl 0⟩ (Nat.le_of_ble_eq_true rfl) ?_
      refine jx_istore_n (lv' := [(3, .int r27), (2, .int (v25 0 15)), (0, .ref (ad 0)), (1, .int x1)]) E dX5_thingItem_50 (by decide) rfl ?_
      refine jx_aload_n E dX5_thingItem_51 2 rfl ?_
      refine jx_ldc2 (x := 271592) E dX5_thingItem_52 (List.mem_cons_of_mem _ tw_546) ?_
      refine jx_bipush (x := 9) E dX5_thingItem_55 (by decide) ?_
      obtain ⟨⟨r28, v28⟩, hc28, hF⟩ := jx_bind hF
      try dsimp only at hF
      refine jx_callVi (As := [.long 271592, .int 9]) (st := []) (h := 0) E dX5_thingItem_57 2 rfl (k_X5_numberBehind hI 271592 9 v27 r28 v28 hc28) (gb_V (List.mem_cons_of_mem _ tw_543) (List.mem_cons_of_mem _ tw_544) (List.mem_cons_of_mem _ tw_545) (List.mem_cons_of_mem _ tw_325) tw_542) rfl rfl rfl dd_X5_numberBehind rfl (Nat.le_of_ble_eq_true rfl) s_M0 rfl ⟨by decide, by decide⟩ ⟨Nat.le_refl 0, Nat.le_refl 0⟩ (Nat.le_of_ble_eq_true rfl) ?_
      refine jx_istore (lv' := [(4, .int r28), (3, .int r27), (2, .int (v25 0 15)), (0, .ref (ad 0)), (1, .int x1)]) E dX5_thingItem_60 (by decide) rfl ?_
      refine jx_aload_n E dX5_thingItem_62 3 rfl ?_
      obtain ⟨⟨r29, v29⟩, hc29, hF⟩ := jx_bind hF
      try dsimp only at hF
      refine jx_callVl (As := []) (st := []) (h := 0) E dX5_thingItem_63 0 rfl (k_X5_word hI  v28 r29 v29 hc29) (gb_V (List.mem_cons_of_mem _ tw_526) (List.mem_cons_of_mem _ tw_527) (List.mem_cons_of_mem _ tw_528) (List.mem_cons_of_mem _ tw_325) tw_525) rfl rfl rfl dd_X5_word rfl (Nat.le_of_ble_eq_true rfl) s_M0 rfl ⟨by decide, by decide⟩ ⟨Nat.le_refl 0, Nat.le_refl 0⟩ (Nat.le_of_ble_eq_true rfl) ?_
      refine jx_ldc2 (x := 16819668) E dX5_thingItem_66 (List.mem_cons_of_mem _ tw_547) ?_
      refine jx_lcmp E dX5_thingItem_69 ?_
      refine jx_if_ne (tgt := 84) E dX5_thingItem_70 (by decide) (fun hc30 => ?_) (fun hc30 => ?_)
      · rw [if_neg hc30] at hF
        refine jx_iconst (x := 0) E dX5_thingItem_84 (by decide) ?_
        refine jx_istore (lv' := [(5, .int 0), (4, .int r28), (3, .int r27), (2, .int (v25 0 15)), (0, .ref (ad 0)), (1, .int x1)]) E dX5_thingItem_85 (by decide) rfl ?_
        refine jx_aload_n E dX5_thingItem_87 4 rfl ?_
        refine jx_geti (C := RX5) (T := TX5) (M := 21) (k := 16) E dX5_thingItem_88 (Nat.le_of_ble_eq_true rfl) s_M0 rfl iX5 (by decide) rfl (List.mem_cons_of_mem _ tw_513) rfl ?_
        refine jx_if_ne (tgt := 105) E dX5_thingItem_91 (by decide) (fun hc31 => ?_) (fun hc31 => ?_)
        · rw [if_neg hc31] at hF
          obtain rfl := Option.some.inj hF
          exact jx_vret E dX5_thingItem_105 rfl
        · rw [if_pos hc31] at hF
          refine jx_aload_n E dX5_thingItem_94 4 rfl ?_
          refine jx_iload_n E dX5_thingItem_95 3 rfl ?_
          refine jx_iload_n E dX5_thingItem_96 5 rfl ?_
          refine jx_iload_n E dX5_thingItem_97 2 rfl ?_
          refine jx_iload E dX5_thingItem_98 1 rfl ?_
          refine jx_iload E dX5_thingItem_100 0 rfl ?_
          obtain ⟨v32, hc32, hF⟩ := jx_bind hF
          try dsimp only at hF
          refine jx_callVv (As := [.int (v25 0 15), .int x1, .int r27, .int r28, .int 0]) (st := []) (h := 0) E dX5_thingItem_102 5 rfl (k_X5_builds hI (v25 0 15) x1 r27 r28 0 v29 v32 hc32) (gb_V (List.mem_cons_of_mem _ tw_357) (List.mem_cons_of_mem _ tw_358) (List.mem_cons_of_mem _ tw_359) (List.mem_cons_of_mem _ tw_325) tw_356) rfl rfl rfl dd_X5_builds rfl (Nat.le_of_ble_eq_true rfl) s_M0 rfl ⟨by decide, by decide⟩ ⟨Nat.le_refl 0, Nat.le_refl 0⟩ (Nat.le_of_ble_eq_true rfl) ?_
          obtain rfl := Option.some.inj hF
          exact jx_vret E dX5_thingItem_105 rfl
      · rw [if_pos hc30] at hF
        refine jx_aload_n E dX5_thingItem_73 3 rfl ?_
        refine jx_ldc2 (x := 16819668) E dX5_thingItem_74 (List.mem_cons_of_mem _ tw_547) ?_
        refine jx_iconst (x := 3) E dX5_thingItem_77 (by decide) ?_
        obtain ⟨⟨r33, v33⟩, hc33, hF⟩ := jx_bind hF
        try dsimp only at hF
        refine jx_callVi (As := [.long 16819668, .int 3]) (st := []) (h := 0) E dX5_thingItem_78 2 rfl (k_X5_numberBehind hI 16819668 3 v29 r33 v33 hc33) (gb_V (List.mem_cons_of_mem _ tw_543) (List.mem_cons_of_mem _ tw_544) (List.mem_cons_of_mem _ tw_545) (List.mem_cons_of_mem _ tw_325) tw_542) rfl rfl rfl dd_X5_numberBehind rfl (Nat.le_of_ble_eq_true rfl) s_M0 rfl ⟨by decide, by decide⟩ ⟨Nat.le_refl 0, Nat.le_refl 0⟩ (Nat.le_of_ble_eq_true rfl) ?_
        refine jx_goto (tgt := 85) E dX5_thingItem_81 (by decide) ?_
        refine jx_istore (lv' := [(5, .int r33), (4, .int r28), (3, .int r27), (2, .int (v25 0 15)), (0, .ref (ad 0)), (1, .int x1)]) E dX5_thingItem_85 (by decide) rfl ?_
        refine jx_aload_n E dX5_thingItem_87 4 rfl ?_
        refine jx_geti (C := RX5) (T := TX5) (M := 21) (k := 16) E dX5_thingItem_88 (Nat.le_of_ble_eq_true rfl) s_M0 rfl iX5 (by decide) rfl (List.mem_cons_of_mem _ tw_513) rfl ?_
        refine jx_if_ne (tgt := 105) E dX5_thingItem_91 (by decide) (fun hc34 => ?_) (fun hc34 => ?_)
        · rw [if_neg hc34] at hF
          obtain rfl := Option.some.inj hF
          exact jx_vret E dX5_thingItem_105 rfl
        · rw [if_pos hc34] at hF
          refine jx_aload_n E dX5_thingItem_94 4 rfl ?_
          refine jx_iload_n E dX5_thingItem_95 3 rfl ?_
          refine jx_iload_n E dX5_thingItem_96 5 rfl ?_
          refine jx_iload_n E dX5_thingItem_97 2 rfl ?_
          refine jx_iload E dX5_thingItem_98 1 rfl ?_
          refine jx_iload E dX5_thingItem_100 0 rfl ?_
          obtain ⟨v35, hc35, hF⟩ := jx_bind hF
          try dsimp only at hF
          refine jx_callVv (As := [.int (v25 0 15), .int x1, .int r27, .int r28, .int r33]) (st := []) (h := 0) E dX5_thingItem_102 5 rfl (k_X5_builds hI (v25 0 15) x1 r27 r28 r33 v33 v35 hc35) (gb_V (List.mem_cons_of_mem _ tw_357) (List.mem_cons_of_mem _ tw_358) (List.mem_cons_of_mem _ tw_359) (List.mem_cons_of_mem _ tw_325) tw_356) rfl rfl rfl dd_X5_builds rfl (Nat.le_of_ble_eq_true rfl) s_M0 rfl ⟨by decide, by decide⟩ ⟨Nat.le_refl 0, Nat.le_refl 0⟩ (Nat.le_of_ble_eq_true rfl) ?_
          obtain rfl := Option.some.inj hF
          exact jx_vret E dX5_thingItem_105 rfl
    · rw [if_pos hc26] at hF
      refine jx_aload_n E dX5_thingItem_32 0 rfl ?_
      refine jx_iconst (x := 1) E dX5_thingItem_33 (by decide) ?_
      obtain ⟨v36, hc36, hF⟩ := jx_bind hF
      try dsimp only at hF
      refine jx_callVv (As := [.int 1]) (st := []) (h := 0) E dX5_thingItem_34 1 rfl (k_X5_lotTold hI 1 v25 v36 hc36) (gb_V (List.mem_cons_of_mem _ tw_549) (List.mem_cons_of_mem _ tw_550) (List.mem_cons_of_mem _ tw_551) (List.mem_cons_of_mem _ tw_325) tw_548) rfl rfl rfl dd_X5_lotTold rfl (Nat.le_of_ble_eq_true rfl) s_M0 rfl ⟨by decide, by decide⟩ ⟨Nat.le_refl 0, Nat.le_refl 0⟩ (Nat.le_of_ble_eq_true rfl) ?_
      refine jx_aload_n E dX5_thingItem_37 0 rfl ?_
      refine jx_geti (C := RX5) (T := TX5) (M := 21) (k := 15) E dX5_thingItem_38 (Nat.le_of_ble_eq_true rfl) s_M0 rfl iX5 (by decide) rfl (List.mem_cons_of_mem _ tw_520) rfl ?_
      refine jx_istore_n (lv' := [(2, .int (v36 0 15)), (0, .ref (ad 0)), (1, .int x1)]) E dX5_thingItem_41 (by decide) rfl ?_
      refine jx_aload_n E dX5_thingItem_42 1 rfl ?_
      refine jx_ldc2 (x := 486) E dX5_thingItem_43 (List.mem_cons_of_mem _ tw_541) ?_
      refine jx_iconst (x := 3) E dX5_thingItem_46 (by decide) ?_
      obtain ⟨⟨r37, v37⟩, hc37, hF⟩ := jx_bind hF
      try dsimp only at hF
      refine jx_callVi (As := [.long 486, .int 3]) (st := []) (h := 0) E dX5_thingItem_47 2 rfl (k_X5_numberBehind hI 486 3 v36 r37 v37 hc37) (gb_V (List.mem_cons_of_mem _ tw_543) (List.mem_cons_of_mem _ tw_544) (List.mem_cons_of_mem _ tw_545) (List.mem_cons_of_mem _ tw_325) tw_542) rfl rfl rfl dd_X5_numberBehind rfl (Nat.le_of_ble_eq_true rfl) s_M0 rfl ⟨by decide, by decide⟩ ⟨Nat.le_refl 0, Nat.le_refl 0⟩ (Nat.le_of_ble_eq_true rfl) ?_
      refine jx_istore_n (lv' := [(3, .int r37), (2, .int (v36 0 15)), (0, .ref (ad 0)), (1, .int x1)]) E dX5_thingItem_50 (by decide) rfl ?_
      refine jx_aload_n E dX5_thingItem_51 2 rfl ?_
      refine jx_ldc2 (x := 271592) E dX5_thingItem_52 (List.mem_cons_of_mem _ tw_546) ?_
      refine jx_bipush (x := 9) E dX5_thingItem_55 (by decide) ?_
      obtain ⟨⟨r38, v38⟩, hc38, hF⟩ := jx_bind hF
      try dsimp only at hF
      refine jx_callVi (As := [.long 271592, .int 9]) (st := []) (h := 0) E dX5_thingItem_57 2 rfl (k_X5_numberBehind hI 271592 9 v37 r38 v38 hc38) (gb_V (List.mem_cons_of_mem _ tw_543) (List.mem_cons_of_mem _ tw_544) (List.mem_cons_of_mem _ tw_545) (List.mem_cons_of_mem _ tw_325) tw_542) rfl rfl rfl dd_X5_numberBehind rfl (Nat.le_of_ble_eq_true rfl) s_M0 rfl ⟨by decide, by decide⟩ ⟨Nat.le_refl 0, Nat.le_refl 0⟩ (Nat.le_of_ble_eq_true rfl) ?_
      refine jx_istore (lv' := [(4, .int r38), (3, .int r37), (2, .int (v36 0 15)), (0, .ref (ad 0)), (1, .int x1)]) E dX5_thingItem_60 (by decide) rfl ?_
      refine jx_aload_n E dX5_thingItem_62 3 rfl ?_
      obtain ⟨⟨r39, v39⟩, hc39, hF⟩ := jx_bind hF
      try dsimp only at hF
      refine jx_callVl (As := []) (st := []) (h := 0) E dX5_thingItem_63 0 rfl (k_X5_word hI  v38 r39 v39 hc39) (gb_V (List.mem_cons_of_mem _ tw_526) (List.mem_cons_of_mem _ tw_527) (List.mem_cons_of_mem _ tw_528) (List.mem_cons_of_mem _ tw_325) tw_525) rfl rfl rfl dd_X5_word rfl (Nat.le_of_ble_eq_true rfl) s_M0 rfl ⟨by decide, by decide⟩ ⟨Nat.le_refl 0, Nat.le_refl 0⟩ (Nat.le_of_ble_eq_true rfl) ?_
      refine jx_ldc2 (x := 16819668) E dX5_thingItem_66 (List.mem_cons_of_mem _ tw_547) ?_
      refine jx_lcmp E dX5_thingItem_69 ?_
      refine jx_if_ne (tgt := 84) E dX5_thingItem_70 (by decide) (fun hc40 => ?_) (fun hc40 => ?_)
      · rw [if_neg hc40] at hF
        refine jx_iconst (x := 0) E dX5_thingItem_84 (by decide) ?_
        refine jx_istore (lv' := [(5, .int 0), (4, .int r38), (3, .int r37), (2, .int (v36 0 15)), (0, .ref (ad 0)), (1, .int x1)]) E dX5_thingItem_85 (by decide) rfl ?_
        refine jx_aload_n E dX5_thingItem_87 4 rfl ?_
        refine jx_geti (C := RX5) (T := TX5) (M := 21) (k := 16) E dX5_thingItem_88 (Nat.le_of_ble_eq_true rfl) s_M0 rfl iX5 (by decide) rfl (List.mem_cons_of_mem _ tw_513) rfl ?_
        refine jx_if_ne (tgt := 105) E dX5_thingItem_91 (by decide) (fun hc41 => ?_) (fun hc41 => ?_)
        · rw [if_neg hc41] at hF
          obtain rfl := Option.some.inj hF
          exact jx_vret E dX5_thingItem_105 rfl
        · rw [if_pos hc41] at hF
          refine jx_aload_n E dX5_thingItem_94 4 rfl ?_
          refine jx_iload_n E dX5_thingItem_95 3 rfl ?_
          refine jx_iload_n E dX5_thingItem_96 5 rfl ?_
          refine jx_iload_n E dX5_thingItem_97 2 rfl ?_
          refine jx_iload E dX5_thingItem_98 1 rfl ?_
          refine jx_iload E dX5_thingItem_100 0 rfl ?_
          obtain ⟨v42, hc42, hF⟩ := jx_bind hF
          try dsimp only at hF
          refine jx_callVv (As := [.int (v36 0 15), .int x1, .int r37, .int r38, .int 0]) (st := []) (h := 0) E dX5_thingItem_102 5 rfl (k_X5_builds hI (v36 0 15) x1 r37 r38 0 v39 v42 hc42) (gb_V (List.mem_cons_of_mem _ tw_357) (List.mem_cons_of_mem _ tw_358) (List.mem_cons_of_mem _ tw_359) (List.mem_cons_of_mem _ tw_325) tw_356) rfl rfl rfl dd_X5_builds rfl (Nat.le_of_ble_eq_true rfl) s_M0 rfl ⟨by decide, by decide⟩ ⟨Nat.le_refl 0, Nat.le_refl 0⟩ (Nat.le_of_ble_eq_true rfl) ?_
          obtain rfl := Option.some.inj hF
          exact jx_vret E dX5_thingItem_105 rfl
      · rw [if_pos hc40] at hF
        refine jx_aload_n E dX5_thingItem_73 3 rfl ?_
        refine jx_ldc2 (x := 16819668) E dX5_thingItem_74 (List.mem_cons_of_mem _ tw_547) ?_
        refine jx_iconst (x := 3) E dX5_thingItem_77 (by decide) ?_
        obtain ⟨⟨r43, v43⟩, hc43, hF⟩ := jx_bind hF
        try dsimp only at hF
        refine jx_callVi (As := [.long 16819668, .int 3]) (st := []) (h := 0) E dX5_thingItem_78 2 rfl (k_X5_numberBehind hI 16819668 3 v39 r43 v43 hc43) (gb_V (List.mem_cons_of_mem _ tw_543) (List.mem_cons_of_mem _ tw_544) (List.mem_cons_of_mem _ tw_545) (List.mem_cons_of_mem _ tw_325) tw_542) rfl rfl rfl dd_X5_numberBehind rfl (Nat.le_of_ble_eq_true rfl) s_M0 rfl ⟨by decide, by decide⟩ ⟨Nat.le_refl 0, Nat.le_refl 0⟩ (Nat.le_of_ble_eq_true rfl) ?_
        refine jx_goto (tgt := 85) E dX5_thingItem_81 (by decide) ?_
        refine jx_istore (lv' := [(5, .int r43), (4, .int r38), (3, .int r37), (2, .int (v36 0 15)), (0, .ref (ad 0)), (1, .int x1)]) E dX5_thingItem_85 (by decide) rfl ?_
        refine jx_aload_n E dX5_thingItem_87 4 rfl ?_
        refine jx_geti (C := RX5) (T := TX5) (M := 21) (k := 16) E dX5_thingItem_88 (Nat.le_of_ble_eq_true rfl) s_M0 rfl iX5 (by decide) rfl (List.mem_cons_of_mem _ tw_513) rfl ?_
        refine jx_if_ne (tgt := 105) E dX5_thingItem_91 (by decide) (fun hc44 => ?_) (fun hc44 => ?_)
        · rw [if_neg hc44] at hF
          obtain rfl := Option.some.inj hF
          exact jx_vret E dX5_thingItem_105 rfl
        · rw [if_pos hc44] at hF
          refine jx_aload_n E dX5_thingItem_94 4 rfl ?_
          refine jx_iload_n E dX5_thingItem_95 3 rfl ?_
          refine jx_iload_n E dX5_thingItem_96 5 rfl ?_
          refine jx_iload_n E dX5_thingItem_97 2 rfl ?_
          refine jx_iload E dX5_thingItem_98 1 rfl ?_
          refine jx_iload E dX5_thingItem_100 0 rfl ?_
          obtain ⟨v45, hc45, hF⟩ := jx_bind hF
          try dsimp only at hF
          refine jx_callVv (As := [.int (v36 0 15), .int x1, .int r37, .int r38, .int r43]) (st := []) (h := 0) E dX5_thingItem_102 5 rfl (k_X5_builds hI (v36 0 15) x1 r37 r38 r43 v43 v45 hc45) (gb_V (List.mem_cons_of_mem _ tw_357) (List.mem_cons_of_mem _ tw_358) (List.mem_cons_of_mem _ tw_359) (List.mem_cons_of_mem _ tw_325) tw_356) rfl rfl rfl dd_X5_builds rfl (Nat.le_of_ble_eq_true rfl) s_M0 rfl ⟨by decide, by decide⟩ ⟨Nat.le_refl 0, Nat.le_refl 0⟩ (Nat.le_of_ble_eq_true rfl) ?_
          obtain rfl := Option.some.inj hF
          exact jx_vret E dX5_thingItem_105 rfl
def f_X5_windowItem  (v : jx_V) : Option (jx_V) := (if 10 ≤ (v 1 1) then ((f_X5_needs 0 v).bind (fun v2 => ((f_X5_numberBehind 52 24 v2).bind (fun (r3, v3) => ((f_X5_numberBehind 12769452 9 v3).bind (fun (r4, v4) => ((f_X5_numberBehind 23609 3 v4).bind (fun (r5, v5) => ((f_X5_numberBehind 6642 3 v5).bind (fun (r6, v6) => (if (v6 0 16) = 0 then ((f_X5_newWindow r3 r4 r5 r6 v6).bind (fun (r8, v8) => (some v8))) else (some v6)))))))))))) else ((f_X5_needs 1 v).bind (fun v9 => ((f_X5_numberBehind 52 24 v9).bind (fun (r10, v10) => ((f_X5_numberBehind 12769452 9 v10).bind (fun (r11, v11) => ((f_X5_numberBehind 23609 3 v11).bind (fun (r12, v12) => ((f_X5_numberBehind 6642 3 v12).bind (fun (r13, v13) => (if (v13 0 16) = 0 then ((f_X5_newWindow r10 r11 r12 r13 v13).bind (fun (r15, v15) => (some v15))) else (some v13)))))))))))))
def rm_X5_windowItem : Room := { frames := 6, cells := 0, slots := 0, locals := 136 }
set_option maxHeartbeats 4000000 in
set_option maxRecDepth 100000 in
theorem k_X5_windowItem {l : Launch} {D : va_G} {cI cJ : ClassId} {ad : Nat → Nat} {A : Nat → Prop} (hI : jx_inj 13 ad A)  (v : jx_V) (v' : jx_V) (hF : f_X5_windowItem  v = some v') : jx_Cv l D vwCl 13 cI cJ ad shM A ex_M yX5_windowItem (Cond.code yX5_windowItem cX5_windowItem 6 (none) :: bigT) rm_X5_windowItem [.ref (ad 0)] v v' := by
  unfold f_X5_windowItem at hF
  refine jx_enterv bigT RX5 cX5_windowItem 6 (none) [(0, .ref (ad 0))] hI (ex_M_ok A) (by decide +kernel) rfl (Nat.le_of_ble_eq_true rfl) rfl rfl ?_
  intro p e s m args below meth c E
  have iX5 : ∀ w ∈ u_ws RX5 TX5 21, w ∈ (Cond.code yX5_windowItem cX5_windowItem 6 (none) :: bigT) := fun w h => List.mem_cons_of_mem _ (uw_X5 w h)
  refine jx_aload_n E dX5_windowItem_0 0 rfl ?_
  refine jx_aload_n E dX5_windowItem_1 0 rfl ?_
  refine jx_getr (C := RX5) (T := TX5) (M := 21) (k := 0) E dX5_windowItem_2 (Nat.le_of_ble_eq_true rfl) s_M0 rfl iX5 (by decide) rfl (List.mem_cons_of_mem _ tw_328) rfl ?_
  refine jx_iconst (x := 1) E dX5_windowItem_5 (by decide) ?_
  refine jx_iald (h := 1) (j := 1) E dX5_windowItem_6 (Nat.le_of_ble_eq_true rfl) s_M1 (by decide) (by decide) ?_
  refine jx_bipush (x := 10) E dX5_windowItem_7 (by decide) ?_
  refine jx_icmp_ge (tgt := 16) E dX5_windowItem_9 (by decide) (fun hc1 => ?_) (fun hc1 => ?_)
  · rw [if_pos hc1] at hF
    refine jx_iconst (x := 0) E dX5_windowItem_16 (by decide) ?_
    obtain ⟨v2, hc2, hF⟩ := jx_bind hF
    try dsimp only at hF
    refine jx_callVv (As := [.int 0]) (st := []) (h := 0) E dX5_windowItem_17 1 rfl (k_X5_needs hI 0 v v2 hc2) (gb_V (List.mem_cons_of_mem _ tw_522) (List.mem_cons_of_mem _ tw_523) (List.mem_cons_of_mem _ tw_524) (List.mem_cons_of_mem _ tw_325) tw_521) rfl rfl rfl dd_X5_needs rfl (Nat.le_of_ble_eq_true rfl) s_M0 rfl ⟨by decide, by decide⟩ ⟨Nat.le_refl 0, Nat.le_refl 0⟩ (Nat.le_of_ble_eq_true rfl) ?_
    refine jx_aload_n E dX5_windowItem_20 0 rfl ?_
    refine jx_ldc2 (x := 52) E dX5_windowItem_21 (List.mem_cons_of_mem _ tw_540) ?_
    refine jx_bipush (x := 24) E dX5_windowItem_24 (by decide) ?_
    obtain ⟨⟨r3, v3⟩, hc3, hF⟩ := jx_bind hF
    try dsimp only at hF
    refine jx_callVi (As := [.long 52, .int 24]) (st := []) (h := 0) E dX5_windowItem_26 2 rfl (k_X5_numberBehind hI 52 24 v2 r3 v3 hc3) (gb_V (List.mem_cons_of_mem _ tw_543) (List.mem_cons_of_mem _ tw_544) (List.mem_cons_of_mem _ tw_545) (List.mem_cons_of_mem _ tw_325) tw_542) rfl rfl rfl dd_X5_numberBehind rfl (Nat.le_of_ble_eq_true rfl) s_M0 rfl ⟨by decide, by decide⟩ ⟨Nat.le_refl 0, Nat.le_refl 0⟩ (Nat.le_of_ble_eq_true rfl) ?_
    refine jx_istore_n (lv' := [(1, .int r3), (0, .ref (ad 0))]) E dX5_windowItem_29 (by decide) rfl ?_
    refine jx_aload_n E dX5_windowItem_30 1 rfl ?_
    refine jx_ldc2 (x := 12769452) E dX5_windowItem_31 (List.mem_cons_of_mem _ tw_552) ?_
    refine jx_bipush (x := 9) E dX5_windowItem_34 (by decide) ?_
    obtain ⟨⟨r4, v4⟩, hc4, hF⟩ := jx_bind hF
    try dsimp only at hF
    refine jx_callVi (As := [.long 12769452, .int 9]) (st := []) (h := 0) E dX5_windowItem_36 2 rfl (k_X5_numberBehind hI 12769452 9 v3 r4 v4 hc4) (gb_V (List.mem_cons_of_mem _ tw_543) (List.mem_cons_of_mem _ tw_544) (List.mem_cons_of_mem _ tw_545) (List.mem_cons_of_mem _ tw_325) tw_542) rfl rfl rfl dd_X5_numberBehind rfl (Nat.le_of_ble_eq_true rfl) s_M0 rfl ⟨by decide, by decide⟩ ⟨Nat.le_refl 0, Nat.le_refl 0⟩ (Nat.le_of_ble_eq_true rfl) ?_
    refine jx_istore_n (lv' := [(2, .int r4), (1, .int r3), (0, .ref (ad 0))]) E dX5_windowItem_39 (by decide) rfl ?_
    refine jx_aload_n E dX5_windowItem_40 2 rfl ?_
    refine jx_ldc2 (x := 23609) E dX5_windowItem_41 (List.mem_cons_of_mem _ tw_553) ?_
    refine jx_iconst (x := 3) E dX5_windowItem_44 (by decide) ?_
    obtain ⟨⟨r5, v5⟩, hc5, hF⟩ := jx_bind hF
    try dsimp only at hF
    refine jx_callVi (As := [.long 23609, .int 3]) (st := []) (h := 0) E dX5_windowItem_45 2 rfl (k_X5_numberBehind hI 23609 3 v4 r5 v5 hc5) (gb_V (List.mem_cons_of_mem _ tw_543) (List.mem_cons_of_mem _ tw_544) (List.mem_cons_of_mem _ tw_545) (List.mem_cons_of_mem _ tw_325) tw_542) rfl rfl rfl dd_X5_numberBehind rfl (Nat.le_of_ble_eq_true rfl) s_M0 rfl ⟨by decide, by decide⟩ ⟨Nat.le_refl 0, Nat.le_refl 0⟩ (Nat.le_of_ble_eq_true rfl) ?_
    refine jx_istore_n (lv' := [(3, .int r5), (2, .int r4), (1, .int r3), (0, .ref (ad 0))]) E dX5_windowItem_48 (by decide) rfl ?_
    refine jx_aload_n E dX5_windowItem_49 3 rfl ?_
    refine jx_ldc2 (x := 6642) E dX5_windowItem_50 (List.mem_cons_of_mem _ tw_554) ?_
    refine jx_iconst (x := 3) E dX5_windowItem_53 (by decide) ?_
    obtain ⟨⟨r6, v6⟩, hc6, hF⟩ := jx_bind hF
    try dsimp only at hF
    refine jx_callVi (As := [.long 6642, .int 3]) (st := []) (h := 0) E dX5_windowItem_54 2 rfl (k_X5_numberBehind hI 6642 3 v5 r6 v6 hc6) (gb_V (List.mem_cons_of_mem _ tw_543) (List.mem_cons_of_mem _ tw_544) (List.mem_cons_of_mem _ tw_545) (List.mem_cons_of_mem _ tw_325) tw_542) rfl rfl rfl dd_X5_numberBehind rfl (Nat.le_of_ble_eq_true rfl) s_M0 rfl ⟨by decide, by decide⟩ ⟨Nat.le_refl 0, Nat.le_refl 0⟩ (Nat.le_of_ble_eq_true rfl) ?_
    refine jx_istore (lv' := [(4, .int r6), (3, .int r5), (2, .int r4), (1, .int r3), (0, .ref (ad 0))]) E dX5_windowItem_57 (by decide) rfl ?_
    refine jx_aload_n E dX5_windowItem_59 4 rfl ?_
    refine jx_geti (C := RX5) (T := TX5) (M := 21) (k := 16) E dX5_windowItem_60 (Nat.le_of_ble_eq_true rfl) s_M0 rfl iX5 (by decide) rfl (List.mem_cons_of_mem _ tw_513) rfl ?_
    refine jx_if_ne (tgt := 77) E dX5_windowItem_63 (by decide) (fun hc7 => ?_) (fun hc7 => ?_)
    · rw [if_neg hc7] at hF
      obtain rfl := Option.some.inj hF
      exact jx_vret E dX5_windowItem_77 rfl
    · rw [if_pos hc7] at hF
      refine jx_aload_n E dX5_windowItem_66 4 rfl ?_
      refine jx_iload_n E dX5_windowItem_67 3 rfl ?_
      refine jx_iload_n E dX5_windowItem_68 2 rfl ?_
      refine jx_iload_n E dX5_windowItem_69 1 rfl ?_
      refine jx_iload E dX5_windowItem_70 0 rfl ?_
      obtain ⟨⟨r8, v8⟩, hc8, hF⟩ := jx_bind hF
      try dsimp only at hF
      refine jx_callVi (As := [.int r3, .int r4, .int r5, .int r6]) (st := []) (h := 0) E dX5_windowItem_72 4 rfl (k_X5_newWindow hI r3 r4 r5 r6 v6 r8 v8 hc8) (gb_V (List.mem_cons_of_mem _ tw_392) (List.mem_cons_of_mem _ tw_393) (List.mem_cons_of_mem _ tw_394) (List.mem_cons_of_mem _ tw_325) tw_391) rfl rfl rfl dd_X5_newWindow rfl (Nat.le_of_ble_eq_true rfl) s_M0 rfl ⟨by decide, by decide⟩ ⟨Nat.le_refl 0, Nat.le_refl 0⟩ (Nat.le_of_ble_eq_true rfl) ?_
      refine jx_istore (lv' := [(5, .int r8), (4, .int r6), (3, .int r5), (2, .int r4), (1, .int r3), (0, .ref (ad 0))]) E dX5_windowItem_75 (by decide) rfl ?_
      obtain rfl := Option.some.inj hF
      exact jx_vret E dX5_windowItem_77 rfl
  · rw [if_neg hc1] at hF
    refine jx_iconst (x := 1) E dX5_windowItem_12 (by decide) ?_
    refine jx_goto (tgt := 17) E dX5_windowItem_13 (by decide) ?_
    obtain ⟨v9, hc9, hF⟩ := jx_bind hF
    try dsimp only at hF
    refine jx_callVv (As := [.int 1]) (st := []) (h := 0) E dX5_windowItem_17 1 rfl (k_X5_needs hI 1 v v9 hc9) (gb_V (List.mem_cons_of_mem _ tw_522) (List.mem_cons_of_mem _ tw_523) (List.mem_cons_of_mem _ tw_524) (List.mem_cons_of_mem _ tw_325) tw_521) rfl rfl rfl dd_X5_needs rfl (Nat.le_of_ble_eq_true rfl) s_M0 rfl ⟨by decide, by decide⟩ ⟨Nat.le_refl 0, Nat.le_refl 0⟩ (Nat.le_of_ble_eq_true rfl) ?_
    refine jx_aload_n E dX5_windowItem_20 0 rfl ?_
    refine jx_ldc2 (x := 52) E dX5_windowItem_21 (List.mem_cons_of_mem _ tw_540) ?_
    refine jx_bipush (x := 24) E dX5_windowItem_24 (by decide) ?_
    obtain ⟨⟨r10, v10⟩, hc10, hF⟩ := jx_bind hF
    try dsimp only at hF
    refine jx_callVi (As := [.long 52, .int 24]) (st := []) (h := 0) E dX5_windowItem_26 2 rfl (k_X5_numberBehind hI 52 24 v9 r10 v10 hc10) (gb_V (List.mem_cons_of_mem _ tw_543) (List.mem_cons_of_mem _ tw_544) (List.mem_cons_of_mem _ tw_545) (List.mem_cons_of_mem _ tw_325) tw_542) rfl rfl rfl dd_X5_numberBehind rfl (Nat.le_of_ble_eq_true rfl) s_M0 rfl ⟨by decide, by decide⟩ ⟨Nat.le_refl 0, Nat.le_refl 0⟩ (Nat.le_of_ble_eq_true rfl) ?_
    refine jx_istore_n (lv' := [(1, .int r10), (0, .ref (ad 0))]) E dX5_windowItem_29 (by decide) rfl ?_
    refine jx_aload_n E dX5_windowItem_30 1 rfl ?_
    refine jx_ldc2 (x := 12769452) E dX5_windowItem_31 (List.mem_cons_of_mem _ tw_552) ?_
    refine jx_bipush (x := 9) E dX5_windowItem_34 (by decide) ?_
    obtain ⟨⟨r11, v11⟩, hc11, hF⟩ := jx_bind hF
    try dsimp only at hF
    refine jx_callVi (As := [.long 12769452, .int 9]) (st := []) (h := 0) E dX5_windowItem_36 2 rfl (k_X5_numberBehind hI 12769452 9 v10 r11 v11 hc11) (gb_V (List.mem_cons_of_mem _ tw_543) (List.mem_cons_of_mem _ tw_544) (List.mem_cons_of_mem _ tw_545) (List.mem_cons_of_mem _ tw_325) tw_542) rfl rfl rfl dd_X5_numberBehind rfl (Nat.le_of_ble_eq_true rfl) s_M0 rfl ⟨by decide, by decide⟩ ⟨Nat.le_refl 0, Nat.le_refl 0⟩ (Nat.le_of_ble_eq_true rfl) ?_
    refine jx_istore_n (lv' := [(2, .int r11), (1, .int r10), (0, .ref (ad 0))]) E dX5_windowItem_39 (by decide) rfl ?_
    refine jx_aload_n E dX5_windowItem_40 2 rfl ?_
    refine jx_ldc2 (x := 23609) E dX5_windowItem_41 (List.mem_cons_of_mem _ tw_553) ?_
    refine jx_iconst (x := 3) E dX5_windowItem_44 (by decide) ?_
    obtain ⟨⟨r12, v12⟩, hc12, hF⟩ := jx_bind hF
    try dsimp only at hF
    refine jx_callVi (As := [.long 23609, .int 3]) (st := []) (h := 0) E dX5_windowItem_45 2 rfl (k_X5_numberBehind hI 23609 3 v11 r12 v12 hc12) (gb_V (List.mem_cons_of_mem _ tw_543) (List.mem_cons_of_mem _ tw_544) (List.mem_cons_of_mem _ tw_545) (List.mem_cons_of_mem _ tw_325) tw_542) rfl rfl rfl dd_X5_numberBehind rfl (Nat.le_of_ble_eq_true rfl) s_M0 rfl ⟨by decide, by decide⟩ ⟨Nat.le_refl 0, Nat.le_refl 0⟩ (Nat.le_of_ble_eq_true rfl) ?_
    refine jx_istore_n (lv' := [(3, .int r12), (2, .int r11), (1, .int r10), (0, .ref (ad 0))]) E dX5_windowItem_48 (by decide) rfl ?_
    refine jx_aload_n E dX5_windowItem_49 3 rfl ?_
    refine jx_ldc2 (x := 6642) E dX5_windowItem_50 (List.mem_cons_of_mem _ tw_554) ?_
    refine jx_iconst (x := 3) E dX5_windowItem_53 (by decide) ?_
    obtain ⟨⟨r13, v13⟩, hc13, hF⟩ := jx_bind hF
    try dsimp only at hF
    refine jx_callVi (As := [.long 6642, .int 3]) (st := []) (h := 0) E dX5_windowItem_54 2 rfl (k_X5_numberBehind hI 6642 3 v12 r13 v13 hc13) (gb_V (List.mem_cons_of_mem _ tw_543) (List.mem_cons_of_mem _ tw_544) (List.mem_cons_of_mem _ tw_545) (List.mem_cons_of_mem _ tw_325) tw_542) rfl rfl rfl dd_X5_numberBehind rfl (Nat.le_of_ble_eq_true rfl) s_M0 rfl ⟨by decide, by decide⟩ ⟨Nat.le_refl 0, Nat.le_refl 0⟩ (Nat.le_of_ble_eq_true rfl) ?_
    refine jx_istore (lv' := [(4, .int r13), (3, .int r12), (2, .int r11), (1, .int r10), (0, .ref (ad 0))]) E dX5_windowItem_57 (by decide) rfl ?_
    refine jx_aload_n E dX5_windowItem_59 4 rfl ?_
    refine jx_geti (C := RX5) (T := TX5) (M := 21) (k := 16) E dX5_windowItem_60 (Nat.le_of_ble_eq_true rfl) s_M0 rfl iX5 (by decide) rfl (List.mem_cons_of_mem _ tw_513) rfl ?_
    refine jx_if_ne (tgt := 77) E dX5_windowItem_63 (by decide) (fun hc14 => ?_) (fun hc14 => ?_)
    · rw [if_neg hc14] at hF
      obtain rfl := Option.some.inj hF
      exact jx_vret E dX5_windowItem_77 rfl
    · rw [if_pos hc14] at hF
      refine jx_aload_n E dX5_windowItem_66 4 rfl ?_
      refine jx_iload_n E dX5_windowItem_67 3 rfl ?_
      refine jx_iload_n E dX5_windowItem_68 2 rfl ?_
      refine jx_iload_n E dX5_windowItem_69 1 rfl ?_
      refine jx_iload E dX5_windowItem_70 0 rfl ?_
      obtain ⟨⟨r15, v15⟩, hc15, hF⟩ := jx_bind hF
      try dsimp only at hF
      refine jx_callVi (As := [.int r10, .int r11, .int r12, .int r13]) (st := []) (h := 0) E dX5_windowItem_72 4 rfl (k_X5_newWindow hI r10 r11 r12 r13 v13 r15 v15 hc15) (gb_V (List.mem_cons_of_mem _ tw_392) (List.mem_cons_of_mem _ tw_393) (List.mem_cons_of_mem _ tw_394) (List.mem_cons_of_mem _ tw_325) tw_391) rfl rfl rfl dd_X5_newWindow rfl (Nat.le_of_ble_eq_true rfl) s_M0 rfl ⟨by decide, by decide⟩ ⟨Nat.le_refl 0, Nat.le_refl 0⟩ (Nat.le_of_ble_eq_true rfl) ?_
      refine jx_istore (lv' := [(5, .int r15), (4, .int r13), (3, .int r12), (2, .int r11), (1, .int r10), (0, .ref (ad 0))]) E dX5_windowItem_75 (by decide) rfl ?_
      obtain rfl := Option.some.inj hF
      exact jx_vret E dX5_windowItem_77 rfl
def f_X5_priceItem  (v : jx_V) : Option (jx_V) := ((f_X5_needs 1 v).bind (fun v1 => ((f_X5_number 0 3 v1).bind (fun v2 => ((f_X5_number 0 99 v2).bind (fun v3 => (if (v3 0 16) = 0 then (if ((3 + (v2 0 15)) < 0 ∨ 181 ≤ Int32.toNatClampNeg (3 + (v2 0 15))) then none else (some (jx_up v3 1 (Int32.toNatClampNeg (3 + (v2 0 15))) (v3 0 15)))) else (some v3))))))))
def rm_X5_priceItem : Room := { frames := 5, cells := 0, slots := 0, locals := 113 }
set_option maxHeartbeats 4000000 in
set_option maxRecDepth 100000 in
theorem k_X5_priceItem {l : Launch} {D : va_G} {cI cJ : ClassId} {ad : Nat → Nat} {A : Nat → Prop} (hI : jx_inj 13 ad A)  (v : jx_V) (v' : jx_V) (hF : f_X5_priceItem  v = some v') : jx_Cv l D vwCl 13 cI cJ ad shM A ex_M yX5_priceItem (Cond.code yX5_priceItem cX5_priceItem 2 (none) :: bigT) rm_X5_priceItem [.ref (ad 0)] v v' := by
  unfold f_X5_priceItem at hF
  refine jx_enterv bigT RX5 cX5_priceItem 2 (none) [(0, .ref (ad 0))] hI (ex_M_ok A) (by decide +kernel) rfl (Nat.le_of_ble_eq_true rfl) rfl rfl ?_
  intro p e s m args below meth c E
  have iX5 : ∀ w ∈ u_ws RX5 TX5 21, w ∈ (Cond.code yX5_priceItem cX5_priceItem 2 (none) :: bigT) := fun w h => List.mem_cons_of_mem _ (uw_X5 w h)
  refine jx_aload_n E dX5_priceItem_0 0 rfl ?_
  refine jx_iconst (x := 1) E dX5_priceItem_1 (by decide) ?_
  obtain ⟨v1, hc1, hF⟩ := jx_bind hF
  try dsimp only at hF
  refine jx_callVv (As := [.int 1]) (st := []) (h := 0) E dX5_priceItem_2 1 rfl (k_X5_needs hI 1 v v1 hc1) (gb_V (List.mem_cons_of_mem _ tw_522) (List.mem_cons_of_mem _ tw_523) (List.mem_cons_of_mem _ tw_524) (List.mem_cons_of_mem _ tw_325) tw_521) rfl rfl rfl dd_X5_needs rfl (Nat.le_of_ble_eq_true rfl) s_M0 rfl ⟨by decide, by decide⟩ ⟨Nat.le_refl 0, Nat.le_refl 0⟩ (Nat.le_of_ble_eq_true rfl) ?_
  refine jx_aload_n E dX5_priceItem_5 0 rfl ?_
  refine jx_iconst (x := 0) E dX5_priceItem_6 (by decide) ?_
  refine jx_iconst (x := 3) E dX5_priceItem_7 (by decide) ?_
  obtain ⟨v2, hc2, hF⟩ := jx_bind hF
  try dsimp only at hF
  refine jx_callVv (As := [.int 0, .int 3]) (st := []) (h := 0) E dX5_priceItem_8 2 rfl (k_X5_number hI 0 3 v1 v2 hc2) (gb_V (List.mem_cons_of_mem _ tw_537) (List.mem_cons_of_mem _ tw_538) (List.mem_cons_of_mem _ tw_539) (List.mem_cons_of_mem _ tw_325) tw_536) rfl rfl rfl dd_X5_number rfl (Nat.le_of_ble_eq_true rfl) s_M0 rfl ⟨by decide, by decide⟩ ⟨Nat.le_refl 0, Nat.le_refl 0⟩ (Nat.le_of_ble_eq_true rfl) ?_
  refine jx_aload_n E dX5_priceItem_11 0 rfl ?_
  refine jx_geti (C := RX5) (T := TX5) (M := 21) (k := 15) E dX5_priceItem_12 (Nat.le_of_ble_eq_true rfl) s_M0 rfl iX5 (by decide) rfl (List.mem_cons_of_mem _ tw_520) rfl ?_
  refine jx_istore_n (lv' := [(1, .int (v2 0 15)), (0, .ref (ad 0))]) E dX5_priceItem_15 (by decide) rfl ?_
  refine jx_aload_n E dX5_priceItem_16 1 rfl ?_
  refine jx_iconst (x := 0) E dX5_priceItem_17 (by decide) ?_
  refine jx_bipush (x := 99) E dX5_priceItem_18 (by decide) ?_
  obtain ⟨v3, hc3, hF⟩ := jx_bind hF
  try dsimp only at hF
  refine jx_callVv (As := [.int 0, .int 99]) (st := []) (h := 0) E dX5_priceItem_20 2 rfl (k_X5_number hI 0 99 v2 v3 hc3) (gb_V (List.mem_cons_of_mem _ tw_537) (List.mem_cons_of_mem _ tw_538) (List.mem_cons_of_mem _ tw_539) (List.mem_cons_of_mem _ tw_325) tw_536) rfl rfl rfl dd_X5_number rfl (Nat.le_of_ble_eq_true rfl) s_M0 rfl ⟨by decide, by decide⟩ ⟨Nat.le_refl 0, Nat.le_refl 0⟩ (Nat.le_of_ble_eq_true rfl) ?_
  refine jx_aload_n E dX5_priceItem_23 1 rfl ?_
  refine jx_geti (C := RX5) (T := TX5) (M := 21) (k := 16) E dX5_priceItem_24 (Nat.le_of_ble_eq_true rfl) s_M0 rfl iX5 (by decide) rfl (List.mem_cons_of_mem _ tw_513) rfl ?_
  refine jx_if_ne (tgt := 42) E dX5_priceItem_27 (by decide) (fun hc4 => ?_) (fun hc4 => ?_)
  · rw [if_neg hc4] at hF
    obtain rfl := Option.some.inj hF
    exact jx_vret E dX5_priceItem_42 rfl
  · rw [if_pos hc4] at hF
    refine jx_aload_n E dX5_priceItem_30 1 rfl ?_
    refine jx_getr (C := RX5) (T := TX5) (M := 21) (k := 0) E dX5_priceItem_31 (Nat.le_of_ble_eq_true rfl) s_M0 rfl iX5 (by decide) rfl (List.mem_cons_of_mem _ tw_328) rfl ?_
    refine jx_iconst (x := 3) E dX5_priceItem_34 (by decide) ?_
    refine jx_iload_n E dX5_priceItem_35 0 rfl ?_
    refine jx_iadd E dX5_priceItem_36 ?_
    refine jx_aload_n E dX5_priceItem_37 1 rfl ?_
    refine jx_geti (C := RX5) (T := TX5) (M := 21) (k := 15) E dX5_priceItem_38 (Nat.le_of_ble_eq_true rfl) s_M0 rfl iX5 (by decide) rfl (List.mem_cons_of_mem _ tw_520) rfl ?_
    obtain ⟨hg5, hF⟩ := jx_guard hF
    refine jx_iast (h := 1) (j := (Int32.toNatClampNeg (3 + (v2 0 15)))) E dX5_priceItem_41 (Nat.le_of_ble_eq_true rfl) s_M1 hg5 rfl ?_
    obtain rfl := Option.some.inj hF
    exact jx_vret E dX5_priceItem_42 rfl
def f_X5_item  (v : jx_V) : Option (jx_V) := ((f_X5_kindHere v).bind (fun (r1, v1) => (if r1 < 0 then ((f_X5_word v1).bind (fun (r3, v3) => (if (lg_cmp r3 781652471) = 0 then ((f_X5_windowItem v3).bind (fun v28 => (some v28))) else ((f_X5_word v3).bind (fun (r5, v5) => (if (lg_cmp r5 17376357) = 0 then ((f_X5_priceItem v5).bind (fun v27 => (some v27))) else ((f_X5_word v5).bind (fun (r7, v7) => (if (lg_cmp r7 3544114) = 0 then ((f_X5_needs 1 v7).bind (fun v18 => (if (v18 0 16) = 0 then ((f_X5_lotTold 0 v18).bind (fun v23 => (if (v23 0 16) = 0 then ((f_X5_at (v23 0 15) 0 v23).bind (fun (r25, v25) => (if (r25 < 0 ∨ 181 ≤ Int32.toNatClampNeg r25) then none else (some (jx_up v25 1 (Int32.toNatClampNeg r25) (-1)))))) else (some v23)))) else (if (v18 0 16) = 0 then ((f_X5_at (v18 0 15) 0 v18).bind (fun (r21, v21) => (if (r21 < 0 ∨ 181 ≤ Int32.toNatClampNeg r21) then none else (some (jx_up v21 1 (Int32.toNatClampNeg r21) (-1)))))) else (some v18))))) else ((f_X5_needs 0 v7).bind (fun v9 => (if (v9 0 16) = 0 then ((f_X5_lotTold 0 v9).bind (fun v14 => (if (v14 0 16) = 0 then ((f_X5_at (v14 0 15) 0 v14).bind (fun (r16, v16) => (if (r16 < 0 ∨ 181 ≤ Int32.toNatClampNeg r16) then none else (some (jx_up v16 1 (Int32.toNatClampNeg r16) (-1)))))) else (some v14)))) else (if (v9 0 16) = 0 then ((f_X5_at (v9 0 15) 0 v9).bind (fun (r12, v12) => (if (r12 < 0 ∨ 181 ≤ Int32.toNatClampNeg r12) then none else (some (jx_up v12 1 (Int32.toNatClampNeg r12) (-1)))))) else (some v9)))))))))))))) else ((f_X5_thingItem r1 v1).bind (fun v29 => (some v29))))))
def rm_X5_item : Room := { frames := 7, cells := 0, slots := 0, locals := 161 }
set_option maxHeartbeats 4000000 in
set_option maxRecDepth 100000 in
theorem k_X5_item {l : Launch} {D : va_G} {cI cJ : ClassId} {ad : Nat → Nat} {A : Nat → Prop} (hI : jx_inj 13 ad A)  (v : jx_V) (v' : jx_V) (hF : f_X5_item  v = some v') : jx_Cv l D vwCl 13 cI cJ ad shM A ex_M yX5_item (Cond.code yX5_item cX5_item 2 (none) :: bigT) rm_X5_item [.ref (ad 0)] v v' := by
  unfold f_X5_item at hF
  refine jx_enterv bigT RX5 cX5_item 2 (none) [(0, .ref (ad 0))] hI (ex_M_ok A) (by decide +kernel) rfl (Nat.le_of_ble_eq_true rfl) rfl rfl ?_
  intro p e s m args below meth c E
  have iX5 : ∀ w ∈ u_ws RX5 TX5 21, w ∈ (Cond.code yX5_item cX5_item 2 (none) :: bigT) := fun w h => List.mem_cons_of_mem _ (uw_X5 w h)
  refine jx_aload_n E dX5_item_0 0 rfl ?_
  obtain ⟨⟨r1, v1⟩, hc1, hF⟩ := jx_bind hF
  try dsimp only at hF
  refine jx_callVi (As := []) (st := []) (h := 0) E dX5_item_1 0 rfl (k_X5_kindHere hI  v r1 v1 hc1) (gb_V (List.mem_cons_of_mem _ tw_556) (List.mem_cons_of_mem _ tw_557) (List.mem_cons_of_mem _ tw_558) (List.mem_cons_of_mem _ tw_325) tw_555) rfl rfl rfl dd_X5_kindHere rfl (Nat.le_of_ble_eq_true rfl) s_M0 rfl ⟨by decide, by decide⟩ ⟨Nat.le_refl 0, Nat.le_refl 0⟩ (Nat.le_of_ble_eq_true rfl) ?_
  refine jx_istore_n (lv' := [(1, .int r1), (0, .ref (ad 0))]) E dX5_item_4 (by decide) rfl ?_
  refine jx_iload_n E dX5_item_5 0 rfl ?_
  refine jx_if_lt (tgt := 17) E dX5_item_6 (by decide) (fun hc2 => ?_) (fun hc2 => ?_)
  · rw [if_pos hc2] at hF
    refine jx_aload_n E dX5_item_17 1 rfl ?_
    obtain ⟨⟨r3, v3⟩, hc3, hF⟩ := jx_bind hF
    try dsimp only at hF
    refine jx_callVl (As := []) (st := []) (h := 0) E dX5_item_18 0 rfl (k_X5_word hI  v1 r3 v3 hc3) (gb_V (List.mem_cons_of_mem _ tw_526) (List.mem_cons_of_mem _ tw_527) (List.mem_cons_of_mem _ tw_528) (List.mem_cons_of_mem _ tw_325) tw_525) rfl rfl rfl dd_X5_word rfl (Nat.le_of_ble_eq_true rfl) s_M0 rfl ⟨by decide, by decide⟩ ⟨Nat.le_refl 0, Nat.le_refl 0⟩ (Nat.le_of_ble_eq_true rfl) ?_
    refine jx_ldc2 (x := 781652471) E dX5_item_21 (List.mem_cons_of_mem _ tw_559) ?_
    refine jx_lcmp E dX5_item_24 ?_
    refine jx_if_ne (tgt := 35) E dX5_item_25 (by decide) (fun hc4 => ?_) (fun hc4 => ?_)
    · rw [if_neg hc4] at hF
      refine jx_aload_n E dX5_item_35 1 rfl ?_
      obtain ⟨⟨r5, v5⟩, hc5, hF⟩ := jx_bind hF
      try dsimp only at hF
      refine jx_callVl (As := []) (st := []) (h := 0) E dX5_item_36 0 rfl (k_X5_word hI  v3 r5 v5 hc5) (gb_V (List.mem_cons_of_mem _ tw_526) (List.mem_cons_of_mem _ tw_527) (List.mem_cons_of_mem _ tw_528) (List.mem_cons_of_mem _ tw_325) tw_525) rfl rfl rfl dd_X5_word rfl (Nat.le_of_ble_eq_true rfl) s_M0 rfl ⟨by decide, by decide⟩ ⟨Nat.le_refl 0, Nat.le_refl 0⟩ (Nat.le_of_ble_eq_true rfl) ?_
      refine jx_ldc2 (x := 17376357) E dX5_item_39 (List.mem_cons_of_mem _ tw_560) ?_
      refine jx_lcmp E dX5_item_42 ?_
      refine jx_if_ne (tgt := 53) E dX5_item_43 (by decide) (fun hc6 => ?_) (fun hc6 => ?_)
      · rw [if_neg hc6] at hF
        refine jx_aload_n E dX5_item_53 1 rfl ?_
        refine jx_aload_n E dX5_item_54 1 rfl ?_
        obtain ⟨⟨r7, v7⟩, hc7, hF⟩ := jx_bind hF
        try dsimp only at hF
        refine jx_callVl (As := []) (st := [.ref (ad 0)]) (h := 0) E dX5_item_55 0 rfl (k_X5_word hI  v5 r7 v7 hc7) (gb_V (List.mem_cons_of_mem _ tw_526) (List.mem_cons_of_mem _ tw_527) (List.mem_cons_of_mem _ tw_528) (List.mem_cons_of_mem _ tw_325) tw_525) rfl rfl rfl dd_X5_word rfl (Nat.le_of_ble_eq_true rfl) s_M0 rfl ⟨by decide, by decide⟩ ⟨Nat.le_refl 0, Nat.le_refl 0⟩ (Nat.le_of_ble_eq_true rfl) ?_
        refine jx_ldc2 (x := 3544114) E dX5_item_58 (List.mem_cons_of_mem _ tw_561) ?_
        refine jx_lcmp E dX5_item_61 ?_
        refine jx_if_ne (tgt := 69) E dX5_item_62 (by decide) (fun hc8 => ?_) (fun hc8 => ?_)
        · rw [if_neg hc8] at hF
          refine jx_iconst (x := 0) E dX5_item_69 (by decide) ?_
          obtain ⟨v9, hc9, hF⟩ := jx_bind hF
          try dsimp only at hF
          refine jx_callVv (As := [.int 0]) (st := []) (h := 0) E dX5_item_70 1 rfl (k_X5_needs hI 0 v7 v9 hc9) (gb_V (List.mem_cons_of_mem _ tw_522) (List.mem_cons_of_mem _ tw_523) (List.mem_cons_of_mem _ tw_524) (List.mem_cons_of_mem _ tw_325) tw_521) rfl rfl rfl dd_X5_needs rfl (Nat.le_of_ble_eq_true rfl) s_M0 rfl ⟨by decide, by decide⟩ ⟨Nat.le_refl 0, Nat.le_refl 0⟩ (Nat.le_of_ble_eq_true rfl) ?_
          refine jx_aload_n E dX5_item_73 1 rfl ?_
          refine jx_geti (C := RX5) (T := TX5) (M := 21) (k := 16) E dX5_item_74 (Nat.le_of_ble_eq_true rfl) s_M0 rfl iX5 (by decide) rfl (List.mem_cons_of_mem _ tw_513) rfl ?_
          refine jx_if_ne (tgt := 85) E dX5_item_77 (by decide) (fun hc10 => ?_) (fun hc10 => ?_)
          · rw [if_neg hc10] at hF
            refine jx_aload_n E dX5_item_85 1 rfl ?_
            refine jx_geti (C := RX5) (T := TX5) (M := 21) (k := 16) E dX5_item_86 (Nat.le_of_ble_eq_true rfl) s_M0 rfl iX5 (by decide) rfl (List.mem_cons_of_mem _ tw_513) rfl ?_
            refine jx_if_ne (tgt := 106) E dX5_item_89 (by decide) (fun hc11 => ?_) (fun hc11 => ?_)
            · rw [if_neg hc11] at hF
              obtain rfl := Option.some.inj hF
              exact jx_vret E dX5_item_106 rfl
            · rw [if_pos hc11] at hF
              refine jx_aload_n E dX5_item_92 1 rfl ?_
              refine jx_getr (C := RX5) (T := TX5) (M := 21) (k := 0) E dX5_item_93 (Nat.le_of_ble_eq_true rfl) s_M0 rfl iX5 (by decide) rfl (List.mem_cons_of_mem _ tw_328) rfl ?_
              refine jx_aload_n E dX5_item_96 1 rfl ?_
              refine jx_geti (C := RX5) (T := TX5) (M := 21) (k := 15) E dX5_item_97 (Nat.le_of_ble_eq_true rfl) s_M0 rfl iX5 (by decide) rfl (List.mem_cons_of_mem _ tw_520) rfl ?_
              refine jx_iconst (x := 0) E dX5_item_100 (by decide) ?_
              obtain ⟨⟨r12, v12⟩, hc12, hF⟩ := jx_bind hF
              try dsimp only at hF
              refine jx_callSi (As := [.int (v9 0 15), .int 0]) (st := [.ref (ad 1)]) E dX5_item_101 2 rfl (k_X5_at hI (v9 0 15) 0 v9 r12 v12 hc12) (gb_S (List.mem_cons_of_mem _ tw_332) (List.mem_cons_of_mem _ tw_333) (List.mem_cons_of_mem _ tw_325) tw_331) rfl rfl rfl dd_X5_at rfl ⟨by decide, by decide⟩ ⟨Nat.le_refl 0, Nat.le_refl 0⟩ (Nat.le_of_ble_eq_true rfl) ?_
              refine jx_iconst (x := -1) E dX5_item_104 (by decide) ?_
              obtain ⟨hg13, hF⟩ := jx_guard hF
              refine jx_iast (h := 1) (j := (Int32.toNatClampNeg r12)) E dX5_item_105 (Nat.le_of_ble_eq_true rfl) s_M1 hg13 rfl ?_
              obtain rfl := Option.some.inj hF
              exact jx_vret E dX5_item_106 rfl
          · rw [if_pos hc10] at hF
            refine jx_aload_n E dX5_item_80 1 rfl ?_
            refine jx_iconst (x := 0) E dX5_item_81 (by decide) ?_
            obtain ⟨v14, hc14, hF⟩ := jx_bind hF
            try dsimp only at hF
            refine jx_callVv (As := [.int 0]) (st := []) (h := 0) E dX5_item_82 1 rfl (k_X5_lotTold hI 0 v9 v14 hc14) (gb_V (List.mem_cons_of_mem _ tw_549) (List.mem_cons_of_mem _ tw_550) (List.mem_cons_of_mem _ tw_551) (List.mem_cons_of_mem _ tw_325) tw_548) rfl rfl rfl dd_X5_lotTold rfl (Nat.le_of_ble_eq_true rfl) s_M0 rfl ⟨by decide, by decide⟩ ⟨Nat.le_refl 0, Nat.le_refl 0⟩ (Nat.le_of_ble_eq_true rfl) ?_
            refine jx_aload_n E dX5_item_85 1 rfl ?_
            refine jx_geti (C := RX5) (T := TX5) (M := 21) (k := 16) E dX5_item_86 (Nat.le_of_ble_eq_true rfl) s_M0 rfl iX5 (by decide) rfl (List.mem_cons_of_mem _ tw_513) rfl ?_
            refine jx_if_ne (tgt := 106) E dX5_item_89 (by decide) (fun hc15 => ?_) (fun hc15 => ?_)
            · rw [if_neg hc15] at hF
              obtain rfl := Option.some.inj hF
              exact jx_vret E dX5_item_106 rfl
            · rw [if_pos hc15] at hF
              refine jx_aload_n E dX5_item_92 1 rfl ?_
              refine jx_getr (C := RX5) (T := TX5) (M := 21) (k := 0) E dX5_item_93 (Nat.le_of_ble_eq_true rfl) s_M0 rfl iX5 (by decide) rfl (List.mem_cons_of_mem _ tw_328) rfl ?_
              refine jx_aload_n E dX5_item_96 1 rfl ?_
              refine jx_geti (C := RX5) (T := TX5) (M := 21) (k := 15) E dX5_item_97 (Nat.le_of_ble_eq_true rfl) s_M0 rfl iX5 (by decide) rfl (List.mem_cons_of_mem _ tw_520) rfl ?_
              refine jx_iconst (x := 0) E dX5_item_100 (by decide) ?_
              obtain ⟨⟨r16, v16⟩, hc16, hF⟩ := jx_bind hF
              try dsimp only at hF
              refine jx_callSi (As := [.int (v14 0 15), .int 0]) (st := [.ref (ad 1)]) E dX5_item_101 2 rfl (k_X5_at hI (v14 0 15) 0 v14 r16 v16 hc16) (gb_S (List.mem_cons_of_mem _ tw_332) (List.mem_cons_of_mem _ tw_333) (List.mem_cons_of_mem _ tw_325) tw_331) rfl rfl rfl dd_X5_at rfl ⟨by decide, by decide⟩ ⟨Nat.le_refl 0, Nat.le_refl 0⟩ (Nat.le_of_ble_eq_true rfl) ?_
              refine jx_iconst (x := -1) E dX5_item_104 (by decide) ?_
              obtain ⟨hg17, hF⟩ := jx_guard hF
              refine jx_iast (h := 1) (j := (Int32.toNatClampNeg r16)) E dX5_item_105 (Nat.le_of_ble_eq_true rfl) s_M1 hg17 rfl ?_
              obtain rfl := Option.some.inj hF
              exact jx_vret E dX5_item_106 rfl
        · rw [if_pos hc8] at hF
          refine jx_iconst (x := 1) E dX5_item_65 (by decide) ?_
          refine jx_goto (tgt := 70) E dX5_item_66 (by decide) ?_
          obtain ⟨v18, hc18, hF⟩ := jx_bind hF
          try dsimp only at hF
          refine jx_callVv (As := [.int 1]) (st := []) (h := 0) E dX5_item_70 1 rfl (k_X5_needs hI 1 v7 v18 hc18) (gb_V (List.mem_cons_of_mem _ tw_522) (List.mem_cons_of_mem _ tw_523) (List.mem_cons_of_mem _ tw_524) (List.mem_cons_of_mem _ tw_325) tw_521) rfl rfl rfl dd_X5_needs rfl (Nat.le_of_ble_eq_true rfl) s_M0 rfl ⟨by decide, by decide⟩ ⟨Nat.le_refl 0, Nat.le_refl 0⟩ (Nat.le_of_ble_eq_true rfl) ?_
          refine jx_aload_n E dX5_item_73 1 rfl ?_
          refine jx_geti (C := RX5) (T := TX5) (M := 21) (k := 16) E dX5_item_74 (Nat.le_of_ble_eq_true rfl) s_M0 rfl iX5 (by decide) rfl (List.mem_cons_of_mem _ tw_513) rfl ?_
          refine jx_if_ne (tgt := 85) E dX5_item_77 (by decide) (fun hc19 => ?_) (fun hc19 => ?_)
          · rw [if_neg hc19] at hF
            refine jx_aload_n E dX5_item_85 1 rfl ?_
            refine jx_geti (C := RX5) (T := TX5) (M := 21) (k := 16) E dX5_item_86 (Nat.le_of_ble_eq_true rfl) s_M0 rfl iX5 (by decide) rfl (List.mem_cons_of_mem _ tw_513) rfl ?_
            refine jx_if_ne (tgt := 106) E dX5_item_89 (by decide) (fun hc20 => ?_) (fun hc20 => ?_)
            · rw [if_neg hc20] at hF
              obtain rfl := Option.some.inj hF
              exact jx_vret E dX5_item_106 rfl
            · rw [if_pos hc20] at hF
              refine jx_aload_n E dX5_item_92 1 rfl ?_
              refine jx_getr (C := RX5) (T := TX5) (M := 21) (k := 0) E dX5_item_93 (Nat.le_of_ble_eq_true rfl) s_M0 rfl iX5 (by decide) rfl (List.mem_cons_of_mem _ tw_328) rfl ?_
              refine jx_aload_n E dX5_item_96 1 rfl ?_
              refine jx_geti (C := RX5) (T := TX5) (M := 21) (k := 15) E dX5_item_97 (Nat.le_of_ble_eq_true rfl) s_M0 rfl iX5 (by decide) rfl (List.mem_cons_of_mem _ tw_520) rfl ?_
              refine jx_iconst (x := 0) E dX5_item_100 (by decide) ?_
              obtain ⟨⟨r21, v21⟩, hc21, hF⟩ := jx_bind hF
              try dsimp only at hF
              refine jx_callSi (As := [.int (v18 0 15), .int 0]) (st := [.ref (ad 1)]) E dX5_item_101 2 rfl (k_X5_at hI (v18 0 15) 0 v18 r21 v21 hc21) (gb_S (List.mem_cons_of_mem _ tw_332) (List.mem_cons_of_mem _ tw_333) (List.mem_cons_of_mem _ tw_325) tw_331) rfl rfl rfl dd_X5_at rfl ⟨by decide, by decide⟩ ⟨Nat.le_refl 0, Nat.le_refl 0⟩ (Nat.le_of_ble_eq_true rfl) ?_
              refine jx_iconst (x := -1) E dX5_item_104 (by decide) ?_
              obtain ⟨hg22, hF⟩ := jx_guard hF
              refine jx_iast (h := 1) (j := (Int32.toNatClampNeg r21)) E dX5_item_105 (Nat.le_of_ble_eq_true rfl) s_M1 hg22 rfl ?_
              obtain rfl := Option.some.inj hF
              exact jx_vret E dX5_item_106 rfl
          · rw [if_pos hc19] at hF
            refine jx_aload_n E dX5_item_80 1 rfl ?_
            refine jx_iconst (x := 0) E dX5_item_81 (by decide) ?_
            obtain ⟨v23, hc23, hF⟩ := jx_bind hF
            try dsimp only at hF
            refine jx_callVv (As := [.int 0]) (st := []) (h := 0) E dX5_item_82 1 rfl (k_X5_lotTold hI 0 v18 v23 hc23) (gb_V (List.mem_cons_of_mem _ tw_549) (List.mem_cons_of_mem _ tw_550) (List.mem_cons_of_mem _ tw_551) (List.mem_cons_of_mem _ tw_325) tw_548) rfl rfl rfl dd_X5_lotTold rfl (Nat.le_of_ble_eq_true rfl) s_M0 rfl ⟨by decide, by decide⟩ ⟨Nat.le_refl 0, Nat.le_refl 0⟩ (Nat.le_of_ble_eq_true rfl) ?_
            refine jx_aload_n E dX5_item_85 1 rfl ?_
            refine jx_geti (C := RX5) (T := TX5) (M := 21) (k := 16) E dX5_item_86 (Nat.le_of_ble_eq_true rfl) s_M0 rfl iX5 (by decide) rfl (List.mem_cons_of_mem _ tw_513) rfl ?_
            refine jx_if_ne (tgt := 106) E dX5_item_89 (by decide) (fun hc24 => ?_) (fun hc24 => ?_)
            · rw [if_neg hc24] at hF
              obtain rfl := Option.some.inj hF
              exact jx_vret E dX5_item_106 rfl
            · rw [if_pos hc24] at hF
              refine jx_aload_n E dX5_item_92 1 rfl ?_
              refine jx_getr (C := RX5) (T := TX5) (M := 21) (k := 0) E dX5_item_93 (Nat.le_of_ble_eq_true rfl) s_M0 rfl iX5 (by decide) rfl (List.mem_cons_of_mem _ tw_328) rfl ?_
              refine jx_aload_n E dX5_item_96 1 rfl ?_
              refine jx_geti (C := RX5) (T := TX5) (M := 21) (k := 15) E dX5_item_97 (Nat.le_of_ble_eq_true rfl) s_M0 rfl iX5 (by decide) rfl (List.mem_cons_of_mem _ tw_520) rfl ?_
              refine jx_iconst (x := 0) E dX5_item_100 (by decide) ?_
              obtain ⟨⟨r25, v25⟩, hc25, hF⟩ := jx_bind hF
              try dsimp only at hF
              refine jx_callSi (As := [.int (v23 0 15), .int 0]) (st := [.ref (ad 1)]) E dX5_item_101 2 rfl (k_X5_at hI (v23 0 15) 0 v23 r25 v25 hc25) (gb_S (List.mem_cons_of_mem _ tw_332) (List.mem_cons_of_mem _ tw_333) (List.mem_cons_of_mem _ tw_325) tw_331) rfl rfl rfl dd_X5_at rfl ⟨by decide, by decide⟩ ⟨Nat.le_refl 0, Nat.le_refl 0⟩ (Nat.le_of_ble_eq_true rfl) ?_
              refine jx_iconst (x := -1) E dX5_item_104 (by decide) ?_
              obtain ⟨hg26, hF⟩ := jx_guard hF
              refine jx_iast (h := 1) (j := (Int32.toNatClampNeg r25)) E dX5_item_105 (Nat.le_of_ble_eq_true rfl) s_M1 hg26 rfl ?_
              obtain rfl := Option.some.inj hF
              exact jx_vret E dX5_item_106 rfl
      · rw [if_pos hc6] at hF
        refine jx_aload_n E dX5_item_46 1 rfl ?_
        obtain ⟨v27, hc27, hF⟩ := jx_bind hF
        try dsimp only at hF
        refine jx_callVv (As := []) (st := []) (h := 0) E dX5_item_47 0 rfl (k_X5_priceItem hI  v5 v27 hc27) (gb_V (List.mem_cons_of_mem _ tw_563) (List.mem_cons_of_mem _ tw_564) (List.mem_cons_of_mem _ tw_565) (List.mem_cons_of_mem _ tw_325) tw_562) rfl rfl rfl dd_X5_priceItem rfl (Nat.le_of_ble_eq_true rfl) s_M0 rfl ⟨by decide, by decide⟩ ⟨Nat.le_refl 0, Nat.le_refl 0⟩ (Nat.le_of_ble_eq_true rfl) ?_
        refine jx_goto (tgt := 106) E dX5_item_50 (by decide) ?_
        obtain rfl := Option.some.inj hF
        exact jx_vret E dX5_item_106 rfl
    · rw [if_pos hc4] at hF
      refine jx_aload_n E dX5_item_28 1 rfl ?_
      obtain ⟨v28, hc28, hF⟩ := jx_bind hF
      try dsimp only at hF
      refine jx_callVv (As := []) (st := []) (h := 0) E dX5_item_29 0 rfl (k_X5_windowItem hI  v3 v28 hc28) (gb_V (List.mem_cons_of_mem _ tw_567) (List.mem_cons_of_mem _ tw_568) (List.mem_cons_of_mem _ tw_569) (List.mem_cons_of_mem _ tw_325) tw_566) rfl rfl rfl dd_X5_windowItem rfl (Nat.le_of_ble_eq_true rfl) s_M0 rfl ⟨by decide, by decide⟩ ⟨Nat.le_refl 0, Nat.le_refl 0⟩ (Nat.le_of_ble_eq_true rfl) ?_
      refine jx_goto (tgt := 106) E dX5_item_32 (by decide) ?_
      obtain rfl := Option.some.inj hF
      exact jx_vret E dX5_item_106 rfl
  · rw [if_neg hc2] at hF
    refine jx_aload_n E dX5_item_9 1 rfl ?_
    refine jx_iload_n E dX5_item_10 0 rfl ?_
    obtain ⟨v29, hc29, hF⟩ := jx_bind hF
    try dsimp only at hF
    refine jx_callVv (As := [.int r1]) (st := []) (h := 0) E dX5_item_11 1 rfl (k_X5_thingItem hI r1 v1 v29 hc29) (gb_V (List.mem_cons_of_mem _ tw_571) (List.mem_cons_of_mem _ tw_572) (List.mem_cons_of_mem _ tw_573) (List.mem_cons_of_mem _ tw_325) tw_570) rfl rfl rfl dd_X5_thingItem rfl (Nat.le_of_ble_eq_true rfl) s_M0 rfl ⟨by decide, by decide⟩ ⟨Nat.le_refl 0, Nat.le_refl 0⟩ (Nat.le_of_ble_eq_true rfl) ?_
    refine jx_goto (tgt := 106) E dX5_item_14 (by decide) ?_
    obtain rfl := Option.some.inj hF
    exact jx_vret E dX5_item_106 rfl
def f_X5_text_L  : Nat → Int32 → jx_V → Option (Int32 × jx_V)
  | 0, _, _ => none
  | n + 1, x1, v => (if (v 0 16) = 0 then (if (v 0 12) ≤ (v 0 13) then (if ((jx_up v 0 12 0) 0 16) = 0 then (some (x1, (jx_up v 0 12 0))) else ((f_X5_putsBack (jx_up v 0 12 0)).bind (fun v9 => (some (((-1) - (v9 0 13)), v9))))) else ((f_X5_byteAt (v 0 13) v).bind (fun (r10, v10) => (if r10 = 59 then ((f_X5_needs 1 v10).bind (fun v14 => ((f_X5_item v14).bind (fun v15 => (f_X5_text_L n (x1 + 1) v15))))) else ((f_X5_needs 0 v10).bind (fun v12 => ((f_X5_item v12).bind (fun v13 => (f_X5_text_L n (x1 + 1) v13))))))))) else (if ((jx_up v 0 12 0) 0 16) = 0 then (some (x1, (jx_up v 0 12 0))) else ((f_X5_putsBack (jx_up v 0 12 0)).bind (fun v6 => (some (((-1) - (v6 0 13)), v6))))))
def f_X5_text  (v : jx_V) : Option (Int32 × jx_V) := ((f_X5_puts v).bind (fun v1 => ((f_X5_token (jx_up (jx_up v1 0 14 0) 0 16 0)).bind (fun v2 => ((f_X5_item v2).bind (fun v3 => (f_X5_text_L 100000 1 v3)))))))
def rm_X5_text : Room := { frames := 8, cells := 0, slots := 0, locals := 182 }
set_option maxHeartbeats 4000000 in
set_option maxRecDepth 100000 in
theorem k_X5_text {l : Launch} {D : va_G} {cI cJ : ClassId} {ad : Nat → Nat} {A : Nat → Prop} (hI : jx_inj 13 ad A)  (v : jx_V) (r : Int32) (v' : jx_V) (hF : f_X5_text  v = some (r, v')) : jx_Ci l D vwCl 13 cI cJ ad shM A ex_M yX5_text (Cond.code yX5_text cX5_text 2 (some .int) :: bigT) rm_X5_text [.ref (ad 0)] v r v' := by
  unfold f_X5_text at hF
  refine jx_enteri bigT RX5 cX5_text 2 (some .int) [(0, .ref (ad 0))] hI (ex_M_ok A) (by decide +kernel) rfl (Nat.le_of_ble_eq_true rfl) rfl rfl ?_
  intro p e s m args below meth c E
  have iX5 : ∀ w ∈ u_ws RX5 TX5 21, w ∈ (Cond.code yX5_text cX5_text 2 (some .int) :: bigT) := fun w h => List.mem_cons_of_mem _ (uw_X5 w h)
  have key : ∀ n : Nat, (∀ (x1 : Int32) (v : jx_V), f_X5_text_L  n  x1 v = some (r, v') → jx_J p l e rm_X5_text s m args below meth c D vwCl 13 cI cJ ad shM A 0 0 2 (MQ below (va_Qi (fun (r1 : Int32) (_ : Unit) => r1 = r) (fun _ t => va_P D vwCl (jx_ws 13 cI cJ ad shM v') t.heap) A) args s 0 0 A) v 24 [(0, .ref (ad 0)), (1, .int x1)] []) := by
    intro n
    induction n with
    | zero =>
      exact (fun _ _ h => by cases h)
    | succ n ih =>
      intro x1 v hF
      rw [f_X5_text_L] at hF
      refine jx_aload_n E dX5_text_24 0 rfl ?_
      refine jx_geti (C := RX5) (T := TX5) (M := 21) (k := 16) E dX5_text_25 (Nat.le_of_ble_eq_true rfl) s_M0 rfl iX5 (by decide) rfl (List.mem_cons_of_mem _ tw_513) rfl ?_
      refine jx_if_ne (tgt := 74) E dX5_text_28 (by decide) (fun hc4 => ?_) (fun hc4 => ?_)
      · rw [if_neg hc4] at hF
        refine jx_aload_n E dX5_text_74 0 rfl ?_
        refine jx_iconst (x := 0) E dX5_text_75 (by decide) ?_
        refine jx_puti (C := RX5) (T := TX5) (M := 21) (k := 12) (ty := .int) E tyX5 dX5_text_76 (Nat.le_of_ble_eq_true rfl) s_M0 rfl iX5 (by decide) rfl (List.mem_cons_of_mem _ tw_495) tyX5_ok nmX5 rfl (by decide +kernel) rfl rfl rfl ?_
        refine jx_aload_n E dX5_text_79 0 rfl ?_
        refine jx_geti (C := RX5) (T := TX5) (M := 21) (k := 16) E dX5_text_80 (Nat.le_of_ble_eq_true rfl) s_M0 rfl iX5 (by decide) rfl (List.mem_cons_of_mem _ tw_513) rfl ?_
        refine jx_if_eq (tgt := 97) E dX5_text_83 (by decide) (fun hc5 => ?_) (fun hc5 => ?_)
        · rw [if_pos hc5] at hF
          refine jx_iload_n E dX5_text_97 1 rfl ?_
          obtain ⟨rfl, rfl⟩ := jx_out hF
          exact jx_iret E dX5_text_98 rfl
        · rw [if_neg hc5] at hF
          refine jx_aload_n E dX5_text_86 0 rfl ?_
          obtain ⟨v6, hc6, hF⟩ := jx_bind hF
          try dsimp only at hF
          refine jx_callVv (As := []) (st := []) (h := 0) E dX5_text_87 0 rfl (k_X5_putsBack hI  (jx_up v 0 12 0) v6 hc6) (gb_V (List.mem_cons_of_mem _ tw_462) (List.mem_cons_of_mem _ tw_463) (List.mem_cons_of_mem _ tw_464) (List.mem_cons_of_mem _ tw_325) tw_461) rfl rfl rfl dd_X5_putsBack rfl (Nat.le_of_ble_eq_true rfl) s_M0 rfl ⟨by decide, by decide⟩ ⟨Nat.le_refl 0, Nat.le_refl 0⟩ (Nat.le_of_ble_eq_true rfl) ?_
          refine jx_iconst (x := -1) E dX5_text_90 (by decide) ?_
          refine jx_aload_n E dX5_text_91 0 rfl ?_
          refine jx_geti (C := RX5) (T := TX5) (M := 21) (k := 13) E dX5_text_92 (Nat.le_of_ble_eq_true rfl) s_M0 rfl iX5 (by decide) rfl (List.mem_cons_of_mem _ tw_502) rfl ?_
          refine jx_isub E dX5_text_95 ?_
          obtain ⟨rfl, rfl⟩ := jx_out hF
          exact jx_iret E dX5_text_96 rfl
      · rw [if_pos hc4] at hF
        refine jx_aload_n E dX5_text_31 0 rfl ?_
        refine jx_geti (C := RX5) (T := TX5) (M := 21) (k := 13) E dX5_text_32 (Nat.le_of_ble_eq_true rfl) s_M0 rfl iX5 (by decide) rfl (List.mem_cons_of_mem _ tw_502) rfl ?_
        refine jx_aload_n E dX5_text_35 0 rfl ?_
        refine jx_geti (C := RX5) (T := TX5) (M := 21) (k := 12) E dX5_text_36 (Nat.le_of_ble_eq_true rfl) s_M0 rfl iX5 (by decide) rfl (List.mem_cons_of_mem _ tw_495) rfl ?_
        refine jx_icmp_ge (tgt := 74) E dX5_text_39 (by decide) (fun hc7 => ?_) (fun hc7 => ?_)
        · rw [if_pos hc7] at hF
          refine jx_aload_n E dX5_text_74 0 rfl ?_
          refine jx_iconst (x := 0) E dX5_text_75 (by decide) ?_
          refine jx_puti (C := RX5) (T := TX5) (M := 21) (k := 12) (ty := .int) E tyX5 dX5_text_76 (Nat.le_of_ble_eq_true rfl) s_M0 rfl iX5 (by decide) rfl (List.mem_cons_of_mem _ tw_495) tyX5_ok nmX5 rfl (by decide +kernel) rfl rfl rfl ?_
          refine jx_aload_n E dX5_text_79 0 rfl ?_
          refine jx_geti (C := RX5) (T := TX5) (M := 21) (k := 16) E dX5_text_80 (Nat.le_of_ble_eq_true rfl) s_M0 rfl iX5 (by decide) rfl (List.mem_cons_of_mem _ tw_513) rfl ?_
          refine jx_if_eq (tgt := 97) E dX5_text_83 (by decide) (fun hc8 => ?_) (fun hc8 => ?_)
          · rw [if_pos hc8] at hF
            refine jx_iload_n E dX5_text_97 1 rfl ?_
            obtain ⟨rfl, rfl⟩ := jx_out hF
            exact jx_iret E dX5_text_98 rfl
          · rw [if_neg hc8] at hF
            refine jx_aload_n E dX5_text_86 0 rfl ?_
            obtain ⟨v9, hc9, hF⟩ := jx_bind hF
            try dsimp only at hF
            refine jx_callVv (As := []) (st := []) (h := 0) E dX5_text_87 0 rfl (k_X5_putsBack hI  (jx_up v 0 12 0) v9 hc9) (gb_V (List.mem_cons_of_mem _ tw_462) (List.mem_cons_of_mem _ tw_463) (List.mem_cons_of_mem _ tw_464) (List.mem_cons_of_mem _ tw_325) tw_461) rfl rfl rfl dd_X5_putsBack rfl (Nat.le_of_ble_eq_true rfl) s_M0 rfl ⟨by decide, by decide⟩ ⟨Nat.le_refl 0, Nat.le_refl 0⟩ (Nat.le_of_ble_eq_true rfl) ?_
            refine jx_iconst (x := -1) E dX5_text_90 (by decide) ?_
            refine jx_aload_n E dX5_text_91 0 rfl ?_
            refine jx_geti (C := RX5) (T := TX5) (M := 21) (k := 13) E dX5_text_92 (Nat.le_of_ble_eq_true rfl) s_M0 rfl iX5 (by decide) rfl (List.mem_cons_of_mem _ tw_502) rfl ?_
            refine jx_isub E dX5_text_95 ?_
            obtain ⟨rfl, rfl⟩ := jx_out hF
            exact jx_iret E dX5_text_96 rfl
        · rw [if_neg hc7] at hF
          refine jx_aload_n E dX5_text_42 0 rfl ?_
          refine jx_aload_n E dX5_text_43 0 rfl ?_
          refine jx_aload_n E dX5_text_44 0 rfl ?_
          refine jx_geti (C := RX5) (T := TX5) (M := 21) (k := 13) E dX5_text_45 (Nat.le_of_ble_eq_true rfl) s_M0 rfl iX5 (by decide) rfl (List.mem_cons_of_mem _ tw_502) rfl ?_
          obtain ⟨⟨r10, v10⟩, hc10, hF⟩ := jx_bind hF
          try dsimp only at hF
          refine jx_callVi (As := [.int (v 0 13)]) (st := [.ref (ad 0)]) (h := 0) E dX5_text_48 1 rfl (k_X5_byteAt hI (v 0 13) v r10 v10 hc10) (gb_V (List.mem_cons_of_mem _ tw_504) (List.mem_cons_of_mem _ tw_505) (List.mem_cons_of_mem _ tw_506) (List.mem_cons_of_mem _ tw_325) tw_503) rfl rfl rfl dd_X5_byteAt rfl (Nat.le_of_ble_eq_true rfl) s_M0 rfl ⟨by decide, by decide⟩ ⟨Nat.le_refl 0, Nat.le_refl 0⟩ (Nat.le_of_ble_eq_true rfl) ?_
          refine jx_bipush (x := 59) E dX5_text_51 (by decide) ?_
          refine jx_icmp_ne (tgt := 60) E dX5_text_53 (by decide) (fun hc11 => ?_) (fun hc11 => ?_)
          · rw [if_neg hc11] at hF
            refine jx_iconst (x := 0) E dX5_text_60 (by decide) ?_
            obtain ⟨v12, hc12, hF⟩ := jx_bind hF
            try dsimp only at hF
            refine jx_callVv (As := [.int 0]) (st := []) (h := 0) E dX5_text_61 1 rfl (k_X5_needs hI 0 v10 v12 hc12) (gb_V (List.mem_cons_of_mem _ tw_522) (List.mem_cons_of_mem _ tw_523) (List.mem_cons_of_mem _ tw_524) (List.mem_cons_of_mem _ tw_325) tw_521) rfl rfl rfl dd_X5_needs rfl (Nat.le_of_ble_eq_true rfl) s_M0 rfl ⟨by decide, by decide⟩ ⟨Nat.le_refl 0, Nat.le_refl 0⟩ (Nat.le_of_ble_eq_true rfl) ?_
            refine jx_aload_n E dX5_text_64 0 rfl ?_
            obtain ⟨v13, hc13, hF⟩ := jx_bind hF
            try dsimp only at hF
            refine jx_callVv (As := []) (st := []) (h := 0) E dX5_text_65 0 rfl (k_X5_item hI  v12 v13 hc13) (gb_V (List.mem_cons_of_mem _ tw_575) (List.mem_cons_of_mem _ tw_576) (List.mem_cons_of_mem _ tw_577) (List.mem_cons_of_mem _ tw_325) tw_574) rfl rfl rfl dd_X5_item rfl (Nat.le_of_ble_eq_true rfl) s_M0 rfl ⟨by decide, by decide⟩ ⟨Nat.le_refl 0, Nat.le_refl 0⟩ (Nat.le_of_ble_eq_true rfl) ?_
            refine jx_iinc (y := (x1 + 1)) (lv' := [(1, .int (x1 + 1)), (0, .ref (ad 0))]) E dX5_text_68 1 rfl rfl (by decide) rfl ?_
            refine jx_goto (tgt := 24) E dX5_text_71 (by decide) ?_
            refine jx_sub [1, 0] rfl ?_
            exact ih (x1 + 1) v13 hF
          · rw [if_pos hc11] at hF
            refine jx_iconst (x := 1) E dX5_text_56 (by decide) ?_
            refine jx_goto (tgt := 61) E dX5_text_57 (by decide) ?_
            obtain ⟨v14, hc14, hF⟩ := jx_bind hF
            try dsimp only at hF
            refine jx_callVv (As := [.int 1]) (st := []) (h := 0) E dX5_text_61 1 rfl (k_X5_needs hI 1 v10 v14 hc14) (gb_V (List.mem_cons_of_mem _ tw_522) (List.mem_cons_of_mem _ tw_523) (List.mem_cons_of_mem _ tw_524) (List.mem_cons_of_mem _ tw_325) tw_521) rfl rfl rfl dd_X5_needs rfl (Nat.le_of_ble_eq_true rfl) s_M0 rfl ⟨by decide, by decide⟩ ⟨Nat.le_refl 0, Nat.le_refl 0⟩ (Nat.le_of_ble_eq_true rfl) ?_
            refine jx_aload_n E dX5_text_64 0 rfl ?_
            obtain ⟨v15, hc15, hF⟩ := jx_bind hF
            try dsimp only at hF
            refine jx_callVv (As := []) (st := []) (h := 0) E dX5_text_65 0 rfl (k_X5_item hI  v14 v15 hc15) (gb_V (List.mem_cons_of_mem _ tw_575) (List.mem_cons_of_mem _ tw_576) (List.mem_cons_of_mem _ tw_577) (List.mem_cons_of_mem _ tw_325) tw_574) rfl rfl rfl dd_X5_item rfl (Nat.le_of_ble_eq_true rfl) s_M0 rfl ⟨by decide, by decide⟩ ⟨Nat.le_refl 0, Nat.le_refl 0⟩ (Nat.le_of_ble_eq_true rfl) ?_
            refine jx_iinc (y := (x1 + 1)) (lv' := [(1, .int (x1 + 1)), (0, .ref (ad 0))]) E dX5_text_68 1 rfl rfl (by decide) rfl ?_
            refine jx_goto (tgt := 24) E dX5_text_71 (by decide) ?_
            refine jx_sub [1, 0] rfl ?_
            exact ih (x1 + 1) v15 hF
  refine jx_aload_n E dX5_text_0 0 rfl ?_
  obtain ⟨v1, hc1, hF⟩ := jx_bind hF
  try dsimp only at hF
  refine jx_callVv (As := []) (st := []) (h := 0) E dX5_text_1 0 rfl (k_X5_puts hI  v v1 hc1) (gb_V (List.mem_cons_of_mem _ tw_458) (List.mem_cons_of_mem _ tw_459) (List.mem_cons_of_mem _ tw_460) (List.mem_cons_of_mem _ tw_325) tw_457) rfl rfl rfl dd_X5_puts rfl (Nat.le_of_ble_eq_true rfl) s_M0 rfl ⟨by decide, by decide⟩ ⟨Nat.le_refl 0, Nat.le_refl 0⟩ (Nat.le_of_ble_eq_true rfl) ?_
  refine jx_aload_n E dX5_text_4 0 rfl ?_
  refine jx_iconst (x := 0) E dX5_text_5 (by decide) ?_
  refine jx_puti (C := RX5) (T := TX5) (M := 21) (k := 14) (ty := .int) E tyX5 dX5_text_6 (Nat.le_of_ble_eq_true rfl) s_M0 rfl iX5 (by decide) rfl (List.mem_cons_of_mem _ tw_501) tyX5_ok nmX5 rfl (by decide +kernel) rfl rfl rfl ?_
  refine jx_aload_n E dX5_text_9 0 rfl ?_
  refine jx_iconst (x := 0) E dX5_text_10 (by decide) ?_
  refine jx_puti (C := RX5) (T := TX5) (M := 21) (k := 16) (ty := .boolean) E tyX5 dX5_text_11 (Nat.le_of_ble_eq_true rfl) s_M0 rfl iX5 (by decide) rfl (List.mem_cons_of_mem _ tw_513) tyX5_ok nmX5 rfl (by decide +kernel) rfl rfl rfl ?_
  refine jx_aload_n E dX5_text_14 0 rfl ?_
  obtain ⟨v2, hc2, hF⟩ := jx_bind hF
  try dsimp only at hF
  refine jx_callVv (As := []) (st := []) (h := 0) E dX5_text_15 0 rfl (k_X5_token hI  (jx_up (jx_up v1 0 14 0) 0 16 0) v2 hc2) (gb_V (List.mem_cons_of_mem _ tw_515) (List.mem_cons_of_mem _ tw_516) (List.mem_cons_of_mem _ tw_517) (List.mem_cons_of_mem _ tw_325) tw_514) rfl rfl rfl dd_X5_token rfl (Nat.le_of_ble_eq_true rfl) s_M0 rfl ⟨by decide, by decide⟩ ⟨Nat.le_refl 0, Nat.le_refl 0⟩ (Nat.le_of_ble_eq_true rfl) ?_
  refine jx_iconst (x := 1) E dX5_text_18 (by decide) ?_
  refine jx_istore_n (lv' := [(1, .int 1), (0, .ref (ad 0))]) E dX5_text_19 (by decide) rfl ?_
  refine jx_aload_n E dX5_text_20 1 rfl ?_
  obtain ⟨v3, hc3, hF⟩ := jx_bind hF
  try dsimp only at hF
  refine jx_callVv (As := []) (st := []) (h := 0) E dX5_text_21 0 rfl (k_X5_item hI  v2 v3 hc3) (gb_V (List.mem_cons_of_mem _ tw_575) (List.mem_cons_of_mem _ tw_576) (List.mem_cons_of_mem _ tw_577) (List.mem_cons_of_mem _ tw_325) tw_574) rfl rfl rfl dd_X5_item rfl (Nat.le_of_ble_eq_true rfl) s_M0 rfl ⟨by decide, by decide⟩ ⟨Nat.le_refl 0, Nat.le_refl 0⟩ (Nat.le_of_ble_eq_true rfl) ?_
  refine jx_sub [1, 0] rfl ?_
  exact (key 100000) 1 v3 hF
def f_X5_hold (x1 : Int32) (x2 : Int32) (v : jx_V) : Option (Int32 × jx_V) := ((f_X5_in (Int32.toInt64 x1) 0 9 v).bind (fun (r1, v1) => (if r1 = 0 then ((f_X5_finds (-1000001) v1).bind (fun (r3, v3) => (some (r3, v3)))) else ((f_X5_in (Int32.toInt64 x2) (-1) 24 v1).bind (fun (r4, v4) => (if r4 = 0 then ((f_X5_finds (-1000001) v4).bind (fun (r7, v7) => (some (r7, v7)))) else (if ((171 + x1) < 0 ∨ 181 ≤ Int32.toNatClampNeg (171 + x1)) then none else (some (1, (jx_up v4 1 (Int32.toNatClampNeg (171 + x1)) x2))))))))))
def rm_X5_hold : Room := { frames := 1, cells := 0, slots := 0, locals := 25 }
set_option maxHeartbeats 4000000 in
set_option maxRecDepth 100000 in
theorem k_X5_hold {l : Launch} {D : va_G} {cI cJ : ClassId} {ad : Nat → Nat} {A : Nat → Prop} (hI : jx_inj 13 ad A) (x1 : Int32) (x2 : Int32) (v : jx_V) (r : Int32) (v' : jx_V) (hF : f_X5_hold x1 x2 v = some (r, v')) : jx_Ci l D vwCl 13 cI cJ ad shM A ex_M yX5_hold (Cond.code yX5_hold cX5_hold 3 (some .int) :: bigT) rm_X5_hold [.ref (ad 0), .int x1, .int x2] v r v' := by
  unfold f_X5_hold at hF
  refine jx_enteri bigT RX5 cX5_hold 3 (some .int) [(0, .ref (ad 0)), (1, .int x1), (2, .int x2)] hI (ex_M_ok A) (by decide +kernel) rfl (Nat.le_of_ble_eq_true rfl) rfl rfl ?_
  intro p e s m args below meth c E
  have iX5 : ∀ w ∈ u_ws RX5 TX5 21, w ∈ (Cond.code yX5_hold cX5_hold 3 (some .int) :: bigT) := fun w h => List.mem_cons_of_mem _ (uw_X5 w h)
  refine jx_iload_n E dX5_hold_0 1 rfl ?_
  refine jx_i2l E dX5_hold_1 ?_
  refine jx_lconst (x := 0) E dX5_hold_2 (by decide) ?_
  refine jx_ldc2 (x := 9) E dX5_hold_3 (List.mem_cons_of_mem _ tw_327) ?_
  obtain ⟨⟨r1, v1⟩, hc1, hF⟩ := jx_bind hF
  try dsimp only at hF
  refine jx_callSi (As := [.long (Int32.toInt64 x1), .long 0, .long 9]) (st := []) E dX5_hold_6 3 rfl (k_X5_in hI (Int32.toInt64 x1) 0 9 v r1 v1 hc1) (gb_S (List.mem_cons_of_mem _ tw_323) (List.mem_cons_of_mem _ tw_324) (List.mem_cons_of_mem _ tw_325) tw_322) rfl rfl rfl dd_X5_in rfl ⟨by decide, by decide⟩ ⟨Nat.le_refl 0, Nat.le_refl 0⟩ (Nat.le_of_ble_eq_true rfl) ?_
  refine jx_if_eq (tgt := 26) E dX5_hold_9 (by decide) (fun hc2 => ?_) (fun hc2 => ?_)
  · rw [if_pos hc2] at hF
    refine jx_aload_n E dX5_hold_26 0 rfl ?_
    refine jx_ldc (x := -1000001) E dX5_hold_27 (List.mem_cons_of_mem _ tw_320) ?_
    obtain ⟨⟨r3, v3⟩, hc3, hF⟩ := jx_bind hF
    try dsimp only at hF
    refine jx_callVi (As := [.int (-1000001)]) (st := []) (h := 0) E dX5_hold_29 1 rfl (k_X5_finds hI (-1000001) v1 r3 v3 hc3) (gb_V (List.mem_cons_of_mem _ tw_344) (List.mem_cons_of_mem _ tw_345) (List.mem_cons_of_mem _ tw_346) (List.mem_cons_of_mem _ tw_325) tw_343) rfl rfl rfl dd_X5_finds rfl (Nat.le_of_ble_eq_true rfl) s_M0 rfl ⟨by decide, by decide⟩ ⟨Nat.le_refl 0, Nat.le_refl 0⟩ (Nat.le_of_ble_eq_true rfl) ?_
    obtain ⟨rfl, rfl⟩ := jx_out hF
    exact jx_iret E dX5_hold_32 rfl
  · rw [if_neg hc2] at hF
    refine jx_iload_n E dX5_hold_12 2 rfl ?_
    refine jx_i2l E dX5_hold_13 ?_
    refine jx_ldc2 (x := -1) E dX5_hold_14 (List.mem_cons_of_mem _ tw_425) ?_
    refine jx_ldc2 (x := 24) E dX5_hold_17 (List.mem_cons_of_mem _ tw_321) ?_
    obtain ⟨⟨r4, v4⟩, hc4, hF⟩ := jx_bind hF
    try dsimp only at hF
    refine jx_callSi (As := [.long (Int32.toInt64 x2), .long (-1), .long 24]) (st := []) E dX5_hold_20 3 rfl (k_X5_in hI (Int32.toInt64 x2) (-1) 24 v1 r4 v4 hc4) (gb_S (List.mem_cons_of_mem _ tw_323) (List.mem_cons_of_mem _ tw_324) (List.mem_cons_of_mem _ tw_325) tw_322) rfl rfl rfl dd_X5_in rfl ⟨by decide, by decide⟩ ⟨Nat.le_refl 0, Nat.le_refl 0⟩ (Nat.le_of_ble_eq_true rfl) ?_
    refine jx_if_ne (tgt := 33) E dX5_hold_23 (by decide) (fun hc5 => ?_) (fun hc5 => ?_)
    · rw [if_neg hc5] at hF
      refine jx_aload_n E dX5_hold_33 0 rfl ?_
      refine jx_getr (C := RX5) (T := TX5) (M := 21) (k := 0) E dX5_hold_34 (Nat.le_of_ble_eq_true rfl) s_M0 rfl iX5 (by decide) rfl (List.mem_cons_of_mem _ tw_328) rfl ?_
      refine jx_sipush (x := 171) E dX5_hold_37 (by decide) ?_
      refine jx_iload_n E dX5_hold_40 1 rfl ?_
      refine jx_iadd E dX5_hold_41 ?_
      refine jx_iload_n E dX5_hold_42 2 rfl ?_
      obtain ⟨hg6, hF⟩ := jx_guard hF
      refine jx_iast (h := 1) (j := (Int32.toNatClampNeg (171 + x1))) E dX5_hold_43 (Nat.le_of_ble_eq_true rfl) s_M1 hg6 rfl ?_
      refine jx_iconst (x := 1) E dX5_hold_44 (by decide) ?_
      obtain ⟨rfl, rfl⟩ := jx_out hF
      exact jx_iret E dX5_hold_45 rfl
    · rw [if_pos hc5] at hF
      refine jx_aload_n E dX5_hold_26 0 rfl ?_
      refine jx_ldc (x := -1000001) E dX5_hold_27 (List.mem_cons_of_mem _ tw_320) ?_
      obtain ⟨⟨r7, v7⟩, hc7, hF⟩ := jx_bind hF
      try dsimp only at hF
      refine jx_callVi (As := [.int (-1000001)]) (st := []) (h := 0) E dX5_hold_29 1 rfl (k_X5_finds hI (-1000001) v4 r7 v7 hc7) (gb_V (List.mem_cons_of_mem _ tw_344) (List.mem_cons_of_mem _ tw_345) (List.mem_cons_of_mem _ tw_346) (List.mem_cons_of_mem _ tw_325) tw_343) rfl rfl rfl dd_X5_finds rfl (Nat.le_of_ble_eq_true rfl) s_M0 rfl ⟨by decide, by decide⟩ ⟨Nat.le_refl 0, Nat.le_refl 0⟩ (Nat.le_of_ble_eq_true rfl) ?_
      obtain ⟨rfl, rfl⟩ := jx_out hF
      exact jx_iret E dX5_hold_32 rfl
def f_X5_as (x1 : Int32) (x2 : Int32) (v : jx_V) : Option (Int32 × jx_V) := ((f_X5_in (Int32.toInt64 x1) 0 9 v).bind (fun (r1, v1) => (if r1 = 0 then ((f_X5_finds (-1000001) v1).bind (fun (r3, v3) => (some (r3, v3)))) else ((f_X5_in (Int32.toInt64 x2) 0 6 v1).bind (fun (r4, v4) => (if r4 = 0 then ((f_X5_finds (-1000001) v4).bind (fun (r63, v63) => (some (r63, v63)))) else (if ((171 + x1) < 0 ∨ 181 ≤ Int32.toNatClampNeg (171 + x1)) then none else (if (v4 1 (Int32.toNatClampNeg (171 + x1))) < 0 then ((f_X5_finds (-1000006) v4).bind (fun (r8, v8) => (some (r8, v8)))) else ((f_X5_isThing (v4 1 (Int32.toNatClampNeg (171 + x1))) v4).bind (fun (r9, v9) => (if r9 = 0 then ((f_X5_finds (-1000006) v9).bind (fun (r62, v62) => (some (r62, v62)))) else ((f_X5_its (v4 1 (Int32.toNatClampNeg (171 + x1))) 0 v9).bind (fun (r11, v11) => (if x2 = 0 then (if (1 : Int32) = 0 then ((f_X5_finds (-1000003) v11).bind (fun (r14, v14) => (some (r14, v14)))) else (some ((v4 1 (Int32.toNatClampNeg (171 + x1))), v11))) else (if r11 = x2 then (if (1 : Int32) = 0 then ((f_X5_finds (-1000003) v11).bind (fun (r17, v17) => (some (r17, v17)))) else (some ((v4 1 (Int32.toNatClampNeg (171 + x1))), v11))) else (if x2 = 1 then (if r11 = 3 then (if (1 : Int32) = 0 then ((f_X5_finds (-1000003) v11).bind (fun (r41, v41) => (some (r41, v41)))) else (some ((v4 1 (Int32.toNatClampNeg (171 + x1))), v11))) else (if x2 = 2 then (if r11 = 4 then (if (1 : Int32) = 0 then ((f_X5_finds (-1000003) v11).bind (fun (r53, v53) => (some (r53, v53)))) else (some ((v4 1 (Int32.toNatClampNeg (171 + x1))), v11))) else (if x2 = 5 then (if r11 = 6 then (if (1 : Int32) = 0 then ((f_X5_finds (-1000003) v11).bind (fun (r61, v61) => (some (r61, v61)))) else (some ((v4 1 (Int32.toNatClampNeg (171 + x1))), v11))) else (if (0 : Int32) = 0 then ((f_X5_finds (-1000003) v11).bind (fun (r59, v59) => (some (r59, v59)))) else (some ((v4 1 (Int32.toNatClampNeg (171 + x1))), v11)))) else (if (0 : Int32) = 0 then ((f_X5_finds (-1000003) v11).bind (fun (r56, v56) => (some (r56, v56)))) else (some ((v4 1 (Int32.toNatClampNeg (171 + x1))), v11))))) else (if x2 = 5 then (if r11 = 6 then (if (1 : Int32) = 0 then ((f_X5_finds (-1000003) v11).bind (fun (r50, v50) => (some (r50, v50)))) else (some ((v4 1 (Int32.toNatClampNeg (171 + x1))), v11))) else (if (0 : Int32) = 0 then ((f_X5_finds (-1000003) v11).bind (fun (r48, v48) => (some (r48, v48)))) else (some ((v4 1 (Int32.toNatClampNeg (171 + x1))), v11)))) else (if (0 : Int32) = 0 then ((f_X5_finds (-1000003) v11).bind (fun (r45, v45) => (some (r45, v45)))) else (some ((v4 1 (Int32.toNatClampNeg (171 + x1))), v11)))))) else (if x2 = 2 then (if r11 = 4 then (if (1 : Int32) = 0 then ((f_X5_finds (-1000003) v11).bind (fun (r30, v30) => (some (r30, v30)))) else (some ((v4 1 (Int32.toNatClampNeg (171 + x1))), v11))) else (if x2 = 5 then (if r11 = 6 then (if (1 : Int32) = 0 then ((f_X5_finds (-1000003) v11).bind (fun (r38, v38) => (some (r38, v38)))) else (some ((v4 1 (Int32.toNatClampNeg (171 + x1))), v11))) else (if (0 : Int32) = 0 then ((f_X5_finds (-1000003) v11).bind (fun (r36, v36) => (some (r36, v36)))) else (some ((v4 1 (Int32.toNatClampNeg (171 + x1))), v11)))) else (if (0 : Int32) = 0 then ((f_X5_finds (-1000003) v11).bind (fun (r33, v33) => (some (r33, v33)))) else (some ((v4 1 (Int32.toNatClampNeg (171 + x1))), v11))))) else (if x2 = 5 then (if r11 = 6 then (if (1 : Int32) = 0 then ((f_X5_finds (-1000003) v11).bind (fun (r27, v27) => (some (r27, v27)))) else (some ((v4 1 (Int32.toNatClampNeg (171 + x1))), v11))) else (if (0 : Int32) = 0 then ((f_X5_finds (-1000003) v11).bind (fun (r25, v25) => (some (r25, v25)))) else (some ((v4 1 (Int32.toNatClampNeg (171 + x1))), v11)))) else (if (0 : Int32) = 0 then ((f_X5_finds (-1000003) v11).bind (fun (r22, v22) => (some (r22, v22)))) else (some ((v4 1 (Int32.toNatClampNeg (171 + x1))), v11)))))))))))))))))))))
def rm_X5_as : Room := { frames := 3, cells := 0, slots := 0, locals := 64 }
set_option maxHeartbeats 4000000 in
set_option maxRecDepth 100000 in
theorem k_X5_as {l : Launch} {D : va_G} {cI cJ : ClassId} {ad : Nat → Nat} {A : Nat → Prop} (hI : jx_inj 13 ad A) (x1 : Int32) (x2 : Int32) (v : jx_V) (r : Int32) (v' : jx_V) (hF : f_X5_as x1 x2 v = some (r, v')) : jx_Ci l D vwCl 13 cI cJ ad shM A ex_M yX5_as (Cond.code yX5_as cX5_as 6 (some .int) :: bigT) rm_X5_as [.ref (ad 0), .int x1, .int x2] v r v' := by
  unfold f_X5_as at hF
  refine jx_enteri bigT RX5 cX5_as 6 (some .int) [(0, .ref (ad 0)), (1, .int x1), (2, .int x2)] hI (ex_M_ok A) (by decide +kernel) rfl (Nat.le_of_ble_eq_true rfl) rfl rfl ?_
  intro p e s m args below meth c E
  have iX5 : ∀ w ∈ u_ws RX5 TX5 21, w ∈ (Cond.code yX5_as cX5_as 6 (some .int) :: bigT) := fun w h => List.mem_cons_of_mem _ (uw_X5 w h)
  refine jx_iload_n E dX5_as_0 1 rfl ?_
  refine jx_i2l E dX5_as_1 ?_
  refine jx_lconst (x := 0) E dX5_as_2 (by decide) ?_
  refine jx_ldc2 (x := 9) E dX5_as_3 (List.mem_cons_of_mem _ tw_327) ?_
  obtain ⟨⟨r1, v1⟩, hc1, hF⟩ := jx_bind hF
  try dsimp only at hF
  refine jx_callSi (As := [.long (Int32.toInt64 x1), .long 0, .long 9]) (st := []) E dX5_as_6 3 rfl (k_X5_in hI (Int32.toInt64 x1) 0 9 v r1 v1 hc1) (gb_S (List.mem_cons_of_mem _ tw_323) (List.mem_cons_of_mem _ tw_324) (List.mem_cons_of_mem _ tw_325) tw_322) rfl rfl rfl dd_X5_in rfl ⟨by decide, by decide⟩ ⟨Nat.le_refl 0, Nat.le_refl 0⟩ (Nat.le_of_ble_eq_true rfl) ?_
  refine jx_if_eq (tgt := 24) E dX5_as_9 (by decide) (fun hc2 => ?_) (fun hc2 => ?_)
  · rw [if_pos hc2] at hF
    refine jx_aload_n E dX5_as_24 0 rfl ?_
    refine jx_ldc (x := -1000001) E dX5_as_25 (List.mem_cons_of_mem _ tw_320) ?_
    obtain ⟨⟨r3, v3⟩, hc3, hF⟩ := jx_bind hF
    try dsimp only at hF
    refine jx_callVi (As := [.int (-1000001)]) (st := []) (h := 0) E dX5_as_27 1 rfl (k_X5_finds hI (-1000001) v1 r3 v3 hc3) (gb_V (List.mem_cons_of_mem _ tw_344) (List.mem_cons_of_mem _ tw_345) (List.mem_cons_of_mem _ tw_346) (List.mem_cons_of_mem _ tw_325) tw_343) rfl rfl rfl dd_X5_finds rfl (Nat.le_of_ble_eq_true rfl) s_M0 rfl ⟨by decide, by decide⟩ ⟨Nat.le_refl 0, Nat.le_refl 0⟩ (Nat.le_of_ble_eq_true rfl) ?_
    obtain ⟨rfl, rfl⟩ := jx_out hF
    exact jx_iret E dX5_as_30 rfl
  · rw [if_neg hc2] at hF
    refine jx_iload_n E dX5_as_12 2 rfl ?_
    refine jx_i2l E dX5_as_13 ?_
    refine jx_lconst (x := 0) E dX5_as_14 (by decide) ?_
    refine jx_ldc2 (x := 6) E dX5_as_15 (List.mem_cons_of_mem _ tw_342) ?_
    obtain ⟨⟨r4, v4⟩, hc4, hF⟩ := jx_bind hF
    try dsimp only at hF
    refine jx_callSi (As := [.long (Int32.toInt64 x2), .long 0, .long 6]) (st := []) E dX5_as_18 3 rfl (k_X5_in hI (Int32.toInt64 x2) 0 6 v1 r4 v4 hc4) (gb_S (List.mem_cons_of_mem _ tw_323) (List.mem_cons_of_mem _ tw_324) (List.mem_cons_of_mem _ tw_325) tw_322) rfl rfl rfl dd_X5_in rfl ⟨by decide, by decide⟩ ⟨Nat.le_refl 0, Nat.le_refl 0⟩ (Nat.le_of_ble_eq_true rfl) ?_
    refine jx_if_ne (tgt := 31) E dX5_as_21 (by decide) (fun hc5 => ?_) (fun hc5 => ?_)
    · rw [if_neg hc5] at hF
      refine jx_aload_n E dX5_as_31 0 rfl ?_
      refine jx_getr (C := RX5) (T := TX5) (M := 21) (k := 0) E dX5_as_32 (Nat.le_of_ble_eq_true rfl) s_M0 rfl iX5 (by decide) rfl (List.mem_cons_of_mem _ tw_328) rfl ?_
      refine jx_sipush (x := 171) E dX5_as_35 (by decide) ?_
      refine jx_iload_n E dX5_as_38 1 rfl ?_
      refine jx_iadd E dX5_as_39 ?_
      obtain ⟨hg6, hF⟩ := jx_guard hF
      refine jx_iald (h := 1) (j := (Int32.toNatClampNeg (171 + x1))) E dX5_as_40 (Nat.le_of_ble_eq_true rfl) s_M1 hg6 rfl ?_
      refine jx_istore_n (lv' := [(3, .int (v4 1 (Int32.toNatClampNeg (171 + x1)))), (0, .ref (ad 0)), (1, .int x1), (2, .int x2)]) E dX5_as_41 (by decide) rfl ?_
      refine jx_iload_n E dX5_as_42 0 rfl ?_
      refine jx_if_lt (tgt := 54) E dX5_as_43 (by decide) (fun hc7 => ?_) (fun hc7 => ?_)
      · rw [if_pos hc7] at hF
        refine jx_aload_n E dX5_as_54 1 rfl ?_
        refine jx_ldcw (x := -1000006) E dX5_as_55 (List.mem_cons_of_mem _ tw_578) ?_
        obtain ⟨⟨r8, v8⟩, hc8, hF⟩ := jx_bind hF
        try dsimp only at hF
        refine jx_callVi (As := [.int (-1000006)]) (st := []) (h := 0) E dX5_as_58 1 rfl (k_X5_finds hI (-1000006) v4 r8 v8 hc8) (gb_V (List.mem_cons_of_mem _ tw_344) (List.mem_cons_of_mem _ tw_345) (List.mem_cons_of_mem _ tw_346) (List.mem_cons_of_mem _ tw_325) tw_343) rfl rfl rfl dd_X5_finds rfl (Nat.le_of_ble_eq_true rfl) s_M0 rfl ⟨by decide, by decide⟩ ⟨Nat.le_refl 0, Nat.le_refl 0⟩ (Nat.le_of_ble_eq_true rfl) ?_
        obtain ⟨rfl, rfl⟩ := jx_out hF
        exact jx_iret E dX5_as_61 rfl
      · rw [if_neg hc7] at hF
        refine jx_aload_n E dX5_as_46 1 rfl ?_
        refine jx_iload_n E dX5_as_47 0 rfl ?_
        obtain ⟨⟨r9, v9⟩, hc9, hF⟩ := jx_bind hF
        try dsimp only at hF
        refine jx_callVi (As := [.int (v4 1 (Int32.toNatClampNeg (171 + x1)))]) (st := []) (h := 0) E dX5_as_48 1 rfl (k_X5_isThing hI (v4 1 (Int32.toNatClampNeg (171 + x1))) v4 r9 v9 hc9) (gb_V (List.mem_cons_of_mem _ tw_339) (List.mem_cons_of_mem _ tw_340) (List.mem_cons_of_mem _ tw_341) (List.mem_cons_of_mem _ tw_325) tw_338) rfl rfl rfl dd_X5_isThing rfl (Nat.le_of_ble_eq_true rfl) s_M0 rfl ⟨by decide, by decide⟩ ⟨Nat.le_refl 0, Nat.le_refl 0⟩ (Nat.le_of_ble_eq_true rfl) ?_
        refine jx_if_ne (tgt := 62) E dX5_as_51 (by decide) (fun hc10 => ?_) (fun hc10 => ?_)
        · rw [if_neg hc10] at hF
          refine jx_aload_n E dX5_as_62 1 rfl ?_
          refine jx_iload_n E dX5_as_63 0 rfl ?_
          refine jx_iconst (x := 0) E dX5_as_64 (by decide) ?_
          obtain ⟨⟨r11, v11⟩, hc11, hF⟩ := jx_bind hF
          try dsimp only at hF
          refine jx_callVi (As := [.int (v4 1 (Int32.toNatClampNeg (171 + x1))), .int 0]) (st := []) (h := 0) E dX5_as_65 2 rfl (k_X5_its hI (v4 1 (Int32.toNatClampNeg (171 + x1))) 0 v9 r11 v11 hc11) (gb_V (List.mem_cons_of_mem _ tw_335) (List.mem_cons_of_mem _ tw_336) (List.mem_cons_of_mem _ tw_337) (List.mem_cons_of_mem _ tw_325) tw_334) rfl rfl rfl dd_X5_its rfl (Nat.le_of_ble_eq_true rfl) s_M0 rfl ⟨by decide, by decide⟩ ⟨Nat.le_refl 0, Nat.le_refl 0⟩ (Nat.le_of_ble_eq_true rfl) ?_
          refine jx_istore (lv' := [(4, .int r11), (3, .int (v4 1 (Int32.toNatClampNeg (171 + x1)))), (0, .ref (ad 0)), (1, .int x1), (2, .int x2)]) E dX5_as_68 (by decide) rfl ?_
          refine jx_iload_n E dX5_as_70 4 rfl ?_
          refine jx_if_eq (tgt := 114) E dX5_as_71 (by decide) (fun hc12 => ?_) (fun hc12 => ?_)
          · rw [if_pos hc12] at hF
            refine jx_iconst (x := 1) E dX5_as_114 (by decide) ?_
            refine jx_goto (tgt := 119) E dX5_as_115 (by decide) ?_
            refine jx_istore (lv' := [(5, .int 1), (4, .int r11), (3, .int (v4 1 (Int32.toNatClampNeg (171 + x1)))), (0, .ref (ad 0)), (1, .int x1), (2, .int x2)]) E dX5_as_119 (by decide) rfl ?_
            refine jx_iload E dX5_as_121 0 rfl ?_
            refine jx_if_eq (tgt := 130) E dX5_as_123 (by decide) (fun hc13 => ?_) (fun hc13 => ?_)
            · rw [if_pos hc13] at hF
              refine jx_aload_n E dX5_as_130 3 rfl ?_
              refine jx_ldcw (x := -1000003) E dX5_as_131 (List.mem_cons_of_mem _ tw_579) ?_
              obtain ⟨⟨r14, v14⟩, hc14, hF⟩ := jx_bind hF
              try dsimp only at hF
              refine jx_callVi (As := [.int (-1000003)]) (st := []) (h := 0) E dX5_as_134 1 rfl (k_X5_finds hI (-1000003) v11 r14 v14 hc14) (gb_V (List.mem_cons_of_mem _ tw_344) (List.mem_cons_of_mem _ tw_345) (List.mem_cons_of_mem _ tw_346) (List.mem_cons_of_mem _ tw_325) tw_343) rfl rfl rfl dd_X5_finds rfl (Nat.le_of_ble_eq_true rfl) s_M0 rfl ⟨by decide, by decide⟩ ⟨Nat.le_refl 0, Nat.le_refl 0⟩ (Nat.le_of_ble_eq_true rfl) ?_
              obtain ⟨rfl, rfl⟩ := jx_out hF
              exact jx_iret E dX5_as_137 rfl
            · rw [if_neg hc13] at hF
              refine jx_iload_n E dX5_as_126 2 rfl ?_
              refine jx_goto (tgt := 137) E dX5_as_127 (by decide) ?_
              obtain ⟨rfl, rfl⟩ := jx_out hF
              exact jx_iret E dX5_as_137 rfl
          · rw [if_neg hc12] at hF
            refine jx_iload E dX5_as_74 0 rfl ?_
            refine jx_iload_n E dX5_as_76 4 rfl ?_
            refine jx_icmp_eq (tgt := 114) E dX5_as_77 (by decide) (fun hc15 => ?_) (fun hc15 => ?_)
            · rw [if_pos hc15] at hF
              refine jx_iconst (x := 1) E dX5_as_114 (by decide) ?_
              refine jx_goto (tgt := 119) E dX5_as_115 (by decide) ?_
              refine jx_istore (lv' := [(5, .int 1), (4, .int r11), (3, .int (v4 1 (Int32.toNatClampNeg (171 + x1)))), (0, .ref (ad 0)), (1, .int x1), (2, .int x2)]) E dX5_as_119 (by decide) rfl ?_
              refine jx_iload E dX5_as_121 0 rfl ?_
              refine jx_if_eq (tgt := 130) E dX5_as_123 (by decide) (fun hc16 => ?_) (fun hc16 => ?_)
              · rw [if_pos hc16] at hF
                refine jx_aload_n E dX5_as_130 3 rfl ?_
                refine jx_ldcw (x := -1000003) E dX5_as_131 (List.mem_cons_of_mem _ tw_579) ?_
                obtain ⟨⟨r17, v17⟩, hc17, hF⟩ := jx_bind hF
                try dsimp only at hF
                refine jx_callVi (As := [.int (-1000003)]) (st := []) (h := 0) E dX5_as_134 1 rfl (k_X5_finds hI (-1000003) v11 r17 v17 hc17) (gb_V (List.mem_cons_of_mem _ tw_344) (List.mem_cons_of_mem _ tw_345) (List.mem_cons_of_mem _ tw_346) (List.mem_cons_of_mem _ tw_325) tw_343) rfl rfl rfl dd_X5_finds rfl (Nat.le_of_ble_eq_true rfl) s_M0 rfl ⟨by decide, by decide⟩ ⟨Nat.le_refl 0, Nat.le_refl 0⟩ (Nat.le_of_ble_eq_true rfl) ?_
                obtain ⟨rfl, rfl⟩ := jx_out hF
                exact jx_iret E dX5_as_137 rfl
              · rw [if_neg hc16] at hF
                refine jx_iload_n E dX5_as_126 2 rfl ?_
                refine jx_goto (tgt := 137) E dX5_as_127 (by decide) ?_
                obtain ⟨rfl, rfl⟩ := jx_out hF
                exact jx_iret E dX5_as_137 rfl
            · rw [if_neg hc15] at hF
              refine jx_iload_n E dX5_as_80 4 rfl ?_
              refine jx_iconst (x := 1) E dX5_as_81 (by decide) ?_
              refine jx_icmp_ne (tgt := 91) E dX5_as_82 (by decide) (fun hc18 => ?_) (fun hc18 => ?_)
              · rw [if_neg hc18] at hF
                refine jx_iload_n E dX5_as_91 4 rfl ?_
                refine jx_iconst (x := 2) E dX5_as_92 (by decide) ?_
                refine jx_icmp_ne (tgt := 102) E dX5_as_93 (by decide) (fun hc19 => ?_) (fun hc19 => ?_)
                · rw [if_neg hc19] at hF
                  refine jx_iload_n E dX5_as_102 4 rfl ?_
                  refine jx_iconst (x := 5) E dX5_as_103 (by decide) ?_
                  refine jx_icmp_ne (tgt := 118) E dX5_as_104 (by decide) (fun hc20 => ?_) (fun hc20 => ?_)
                  · rw [if_neg hc20] at hF
                    refine jx_iconst (x := 0) E dX5_as_118 (by decide) ?_
                    refine jx_istore (lv' := [(5, .int 0), (4, .int r11), (3, .int (v4 1 (Int32.toNatClampNeg (171 + x1)))), (0, .ref (ad 0)), (1, .int x1), (2, .int x2)]) E dX5_as_119 (by decide) rfl ?_
                    refine jx_iload E dX5_as_121 0 rfl ?_
                    refine jx_if_eq (tgt := 130) E dX5_as_123 (by decide) (fun hc21 => ?_) (fun hc21 => ?_)
                    · rw [if_pos hc21] at hF
                      refine jx_aload_n E dX5_as_130 3 rfl ?_
                      refine jx_ldcw (x := -1000003) E dX5_as_131 (List.mem_cons_of_mem _ tw_579) ?_
                      obtain ⟨⟨r22, v22⟩, hc22, hF⟩ := jx_bind hF
                      try dsimp only at hF
                      refine jx_callVi (As := [.int (-1000003)]) (st := []) (h := 0) E dX5_as_134 1 rfl (k_X5_finds hI (-1000003) v11 r22 v22 hc22) (gb_V (List.mem_cons_of_mem _ tw_344) (List.mem_cons_of_mem _ tw_345) (List.mem_cons_of_mem _ tw_346) (List.mem_cons_of_mem _ tw_325) tw_343) rfl rfl rfl dd_X5_finds rfl (Nat.le_of_ble_eq_true rfl) s_M0 rfl ⟨by decide, by decide⟩ ⟨Nat.le_refl 0, Nat.le_refl 0⟩ (Nat.le_of_ble_eq_true rfl) ?_
                      obtain ⟨rfl, rfl⟩ := jx_out hF
                      exact jx_iret E dX5_as_137 rfl
                    · rw [if_neg hc21] at hF
                      refine jx_iload_n E dX5_as_126 2 rfl ?_
                      refine jx_goto (tgt := 137) E dX5_as_127 (by decide) ?_
                      obtain ⟨rfl, rfl⟩ := jx_out hF
                      exact jx_iret E dX5_as_137 rfl
                  · rw [if_pos hc20] at hF
                    refine jx_iload E dX5_as_107 0 rfl ?_
                    refine jx_bipush (x := 6) E dX5_as_109 (by decide) ?_
                    refine jx_icmp_ne (tgt := 118) E dX5_as_111 (by decide) (fun hc23 => ?_) (fun hc23 => ?_)
                    · rw [if_neg hc23] at hF
                      refine jx_iconst (x := 0) E dX5_as_118 (by decide) ?_
                      refine jx_istore (lv' := [(5, .int 0), (4, .int r11), (3, .int (v4 1 (Int32.toNatClampNeg (171 + x1)))), (0, .ref (ad 0)), (1, .int x1), (2, .int x2)]) E dX5_as_119 (by decide) rfl ?_
                      refine jx_iload E dX5_as_121 0 rfl ?_
                      refine jx_if_eq (tgt := 130) E dX5_as_123 (by decide) (fun hc24 => ?_) (fun hc24 => ?_)
                      · rw [if_pos hc24] at hF
                        refine jx_aload_n E dX5_as_130 3 rfl ?_
                        refine jx_ldcw (x := -1000003) E dX5_as_131 (List.mem_cons_of_mem _ tw_579) ?_
                        obtain ⟨⟨r25, v25⟩, hc25, hF⟩ := jx_bind hF
                        try dsimp only at hF
                        refine jx_callVi (As := [.int (-1000003)]) (st := []) (h := 0) E dX5_as_134 1 rfl (k_X5_finds hI (-1000003) v11 r25 v25 hc25) (gb_V (List.mem_cons_of_mem _ tw_344) (List.mem_cons_of_mem _ tw_345) (List.mem_cons_of_mem _ tw_346) (List.mem_cons_of_mem _ tw_325) tw_343) rfl rfl rfl dd_X5_finds rfl (Nat.le_of_ble_eq_true rfl) s_M0 rfl ⟨by decide, by decide⟩ ⟨Nat.le_refl 0, Nat.le_refl 0⟩ (Nat.le_of_ble_eq_true rfl) ?_
                        obtain ⟨rfl, rfl⟩ := jx_out hF
                        exact jx_iret E dX5_as_137 rfl
                      · rw [if_neg hc24] at hF
                        refine jx_iload_n E dX5_as_126 2 rfl ?_
                        refine jx_goto (tgt := 137) E dX5_as_127 (by decide) ?_
                        obtain ⟨rfl, rfl⟩ := jx_out hF
                        exact jx_iret E dX5_as_137 rfl
                    · rw [if_pos hc23] at hF
                      refine jx_iconst (x := 1) E dX5_as_114 (by decide) ?_
                      refine jx_goto (tgt := 119) E dX5_as_115 (by decide) ?_
                      refine jx_istore (lv' := [(5, .int 1), (4, .int r11), (3, .int (v4 1 (Int32.toNatClampNeg (171 + x1)))), (0, .ref (ad 0)), (1, .int x1), (2, .int x2)]) E dX5_as_119 (by decide) rfl ?_
                      refine jx_iload E dX5_as_121 0 rfl ?_
                      refine jx_if_eq (tgt := 130) E dX5_as_123 (by decide) (fun hc26 => ?_) (fun hc26 => ?_)
                      · rw [if_pos hc26] at hF
                        refine jx_aload_n E dX5_as_130 3 rfl ?_
                        refine jx_ldcw (x := -1000003) E dX5_as_131 (List.mem_cons_of_mem _ tw_579) ?_
                        obtain ⟨⟨r27, v27⟩, hc27, hF⟩ := jx_bind hF
                        try dsimp only at hF
                        refine jx_callVi (As := [.int (-1000003)]) (st := []) (h := 0) E dX5_as_134 1 rfl (k_X5_finds hI (-1000003) v11 r27 v27 hc27) (gb_V (List.mem_cons_of_mem _ tw_344) (List.mem_cons_of_mem _ tw_345) (List.mem_cons_of_mem _ tw_346) (List.mem_cons_of_mem _ tw_325) tw_343) rfl rfl rfl dd_X5_finds rfl (Nat.le_of_ble_eq_true rfl) s_M0 rfl ⟨by decide, by decide⟩ ⟨Nat.le_refl 0, Nat.le_refl 0⟩ (Nat.le_of_ble_eq_true rfl) ?_
                        obtain ⟨rfl, rfl⟩ := jx_out hF
                        exact jx_iret E dX5_as_137 rfl
                      · rw [if_neg hc26] at hF
                        refine jx_iload_n E dX5_as_126 2 rfl ?_
                        refine jx_goto (tgt := 137) E dX5_as_127 (by decide) ?_
                        obtain ⟨rfl, rfl⟩ := jx_out hF
                        exact jx_iret E dX5_as_137 rfl
                · rw [if_pos hc19] at hF
                  refine jx_iload E dX5_as_96 0 rfl ?_
                  refine jx_iconst (x := 4) E dX5_as_98 (by decide) ?_
                  refine jx_icmp_eq (tgt := 114) E dX5_as_99 (by decide) (fun hc28 => ?_) (fun hc28 => ?_)
                  · rw [if_pos hc28] at hF
                    refine jx_iconst (x := 1) E dX5_as_114 (by decide) ?_
                    refine jx_goto (tgt := 119) E dX5_as_115 (by decide) ?_
                    refine jx_istore (lv' := [(5, .int 1), (4, .int r11), (3, .int (v4 1 (Int32.toNatClampNeg (171 + x1)))), (0, .ref (ad 0)), (1, .int x1), (2, .int x2)]) E dX5_as_119 (by decide) rfl ?_
                    refine jx_iload E dX5_as_121 0 rfl ?_
                    refine jx_if_eq (tgt := 130) E dX5_as_123 (by decide) (fun hc29 => ?_) (fun hc29 => ?_)
                    · rw [if_pos hc29] at hF
                      refine jx_aload_n E dX5_as_130 3 rfl ?_
                      refine jx_ldcw (x := -1000003) E dX5_as_131 (List.mem_cons_of_mem _ tw_579) ?_
                      obtain ⟨⟨r30, v30⟩, hc30, hF⟩ := jx_bind hF
                      try dsimp only at hF
                      refine jx_callVi (As := [.int (-1000003)]) (st := []) (h := 0) E dX5_as_134 1 rfl (k_X5_finds hI (-1000003) v11 r30 v30 hc30) (gb_V (List.mem_cons_of_mem _ tw_344) (List.mem_cons_of_mem _ tw_345) (List.mem_cons_of_mem _ tw_346) (List.mem_cons_of_mem _ tw_325) tw_343) rfl rfl rfl dd_X5_finds rfl (Nat.le_of_ble_eq_true rfl) s_M0 rfl ⟨by decide, by decide⟩ ⟨Nat.le_refl 0, Nat.le_refl 0⟩ (Nat.le_of_ble_eq_true rfl) ?_
                      obtain ⟨rfl, rfl⟩ := jx_out hF
                      exact jx_iret E dX5_as_137 rfl
                    · rw [if_neg hc29] at hF
                      refine jx_iload_n E dX5_as_126 2 rfl ?_
                      refine jx_goto (tgt := 137) E dX5_as_127 (by decide) ?_
                      obtain ⟨rfl, rfl⟩ := jx_out hF
                      exact jx_iret E dX5_as_137 rfl
                  · rw [if_neg hc28] at hF
                    refine jx_iload_n E dX5_as_102 4 rfl ?_
                    refine jx_iconst (x := 5) E dX5_as_103 (by decide) ?_
                    refine jx_icmp_ne (tgt := 118) E dX5_as_104 (by decide) (fun hc31 => ?_) (fun hc31 => ?_)
                    · rw [if_neg hc31] at hF
                      refine jx_iconst (x := 0) E dX5_as_118 (by decide) ?_
                      refine jx_istore (lv' := [(5, .int 0), (4, .int r11), (3, .int (v4 1 (Int32.toNatClampNeg (171 + x1)))), (0, .ref (ad 0)), (1, .int x1), (2, .int x2)]) E dX5_as_119 (by decide) rfl ?_
                      refine jx_iload E dX5_as_121 0 rfl ?_
                      refine jx_if_eq (tgt := 130) E dX5_as_123 (by decide) (fun hc32 => ?_) (fun hc32 => ?_)
                      · rw [if_pos hc32] at hF
                        refine jx_aload_n E dX5_as_130 3 rfl ?_
                        refine jx_ldcw (x := -1000003) E dX5_as_131 (List.mem_cons_of_mem _ tw_579) ?_
                        obtain ⟨⟨r33, v33⟩, hc33, hF⟩ := jx_bind hF
                        try dsimp only at hF
                        refine jx_callVi (As := [.int (-1000003)]) (st := []) (h := 0) E dX5_as_134 1 rfl (k_X5_finds hI (-1000003) v11 r33 v33 hc33) (gb_V (List.mem_cons_of_mem _ tw_344) (List.mem_cons_of_mem _ tw_345) (List.mem_cons_of_mem _ tw_346) (List.mem_cons_of_mem _ tw_325) tw_343) rfl rfl rfl dd_X5_finds rfl (Nat.le_of_ble_eq_true rfl) s_M0 rfl ⟨by decide, by decide⟩ ⟨Nat.le_refl 0, Nat.le_refl 0⟩ (Nat.le_of_ble_eq_true rfl) ?_
                        obtain ⟨rfl, rfl⟩ := jx_out hF
                        exact jx_iret E dX5_as_137 rfl
                      · rw [if_neg hc32] at hF
                        refine jx_iload_n E dX5_as_126 2 rfl ?_
                        refine jx_goto (tgt := 137) E dX5_as_127 (by decide) ?_
                        obtain ⟨rfl, rfl⟩ := jx_out hF
                        exact jx_iret E dX5_as_137 rfl
                    · rw [if_pos hc31] at hF
                      refine jx_iload E dX5_as_107 0 rfl ?_
                      refine jx_bipush (x := 6) E dX5_as_109 (by decide) ?_
                      refine jx_icmp_ne (tgt := 118) E dX5_as_111 (by decide) (fun hc34 => ?_) (fun hc34 => ?_)
                      · rw [if_neg hc34] at hF
                        refine jx_iconst (x := 0) E dX5_as_118 (by decide) ?_
                        refine jx_istore (lv' := [(5, .int 0), (4, .int r11), (3, .int (v4 1 (Int32.toNatClampNeg (171 + x1)))), (0, .ref (ad 0)), (1, .int x1), (2, .int x2)]) E dX5_as_119 (by decide) rfl ?_
                        refine jx_iload E dX5_as_121 0 rfl ?_
                        refine jx_if_eq (tgt := 130) E dX5_as_123 (by decide) (fun hc35 => ?_) (fun hc35 => ?_)
                        · rw [if_pos hc35] at hF
                          refine jx_aload_n E dX5_as_130 3 rfl ?_
                          refine jx_ldcw (x := -1000003) E dX5_as_131 (List.mem_cons_of_mem _ tw_579) ?_
                          obtain ⟨⟨r36, v36⟩, hc36, hF⟩ := jx_bind hF
                          try dsimp only at hF
                          refine jx_callVi (As := [.int (-1000003)]) (st := []) (h := 0) E dX5_as_134 1 rfl (k_X5_finds hI (-1000003) v11 r36 v36 hc36) (gb_V (List.mem_cons_of_mem _ tw_344) (List.mem_cons_of_mem _ tw_345) (List.mem_cons_of_mem _ tw_346) (List.mem_cons_of_mem _ tw_325) tw_343) rfl rfl rfl dd_X5_finds rfl (Nat.le_of_ble_eq_true rfl) s_M0 rfl ⟨by decide, by decide⟩ ⟨Nat.le_refl 0, Nat.le_refl 0⟩ (Nat.le_of_ble_eq_true rfl) ?_
                          obtain ⟨rfl, rfl⟩ := jx_out hF
                          exact jx_iret E dX5_as_137 rfl
                        · rw [if_neg hc35] at hF
                          refine jx_iload_n E dX5_as_126 2 rfl ?_
                          refine jx_goto (tgt := 137) E dX5_as_127 (by decide) ?_
                          obtain ⟨rfl, rfl⟩ := jx_out hF
                          exact jx_iret E dX5_as_137 rfl
                      · rw [if_pos hc34] at hF
                        refine jx_iconst (x := 1) E dX5_as_114 (by decide) ?_
                        refine jx_goto (tgt := 119) E dX5_as_115 (by decide) ?_
                        refine jx_istore (lv' := [(5, .int 1), (4, .int r11), (3, .int (v4 1 (Int32.toNatClampNeg (171 + x1)))), (0, .ref (ad 0)), (1, .int x1), (2, .int x2)]) E dX5_as_119 (by decide) rfl ?_
                        refine jx_iload E dX5_as_121 0 rfl ?_
                        refine jx_if_eq (tgt := 130) E dX5_as_123 (by decide) (fun hc37 => ?_) (fun hc37 => ?_)
                        · rw [if_pos hc37] at hF
                          refine jx_aload_n E dX5_as_130 3 rfl ?_
                          refine jx_ldcw (x := -1000003) E dX5_as_131 (List.mem_cons_of_mem _ tw_579) ?_
                          obtain ⟨⟨r38, v38⟩, hc38, hF⟩ := jx_bind hF
                          try dsimp only at hF
                          refine jx_callVi (As := [.int (-1000003)]) (st := []) (h := 0) E dX5_as_134 1 rfl (k_X5_finds hI (-1000003) v11 r38 v38 hc38) (gb_V (List.mem_cons_of_mem _ tw_344) (List.mem_cons_of_mem _ tw_345) (List.mem_cons_of_mem _ tw_346) (List.mem_cons_of_mem _ tw_325) tw_343) rfl rfl rfl dd_X5_finds rfl (Nat.le_of_ble_eq_true rfl) s_M0 rfl ⟨by decide, by decide⟩ ⟨Nat.le_refl 0, Nat.le_refl 0⟩ (Nat.le_of_ble_eq_true rfl) ?_
                          obtain ⟨rfl, rfl⟩ := jx_out hF
                          exact jx_iret E dX5_as_137 rfl
                        · rw [if_neg hc37] at hF
                          refine jx_iload_n E dX5_as_126 2 rfl ?_
                          refine jx_goto (tgt := 137) E dX5_as_127 (by decide) ?_
                          obtain ⟨rfl, rfl⟩ := jx_out hF
                          exact jx_iret E dX5_as_137 rfl
              · rw [if_pos hc18] at hF
                refine jx_iload E dX5_as_85 0 rfl ?_
                refine jx_iconst (x := 3) E dX5_as_87 (by decide) ?_
                refine jx_icmp_eq (tgt := 114) E dX5_as_88 (by decide) (fun hc39 => ?_) (fun hc39 => ?_)
                · rw [if_pos hc39] at hF
                  refine jx_iconst (x := 1) E dX5_as_114 (by decide) ?_
                  refine jx_goto (tgt := 119) E dX5_as_115 (by decide) ?_
                  refine jx_istore (lv' := [(5, .int 1), (4, .int r11), (3, .int (v4 1 (Int32.toNatClampNeg (171 + x1)))), (0, .ref (ad 0)), (1, .int x1), (2, .int x2)]) E dX5_as_119 (by decide) rfl ?_
                  refine jx_iload E dX5_as_121 0 rfl ?_
                  refine jx_if_eq (tgt := 130) E dX5_as_123 (by decide) (fun hc40 => ?_) (fun hc40 => ?_)
                  · rw [if_pos hc40] at hF
                    refine jx_aload_n E dX5_as_130 3 rfl ?_
                    refine jx_ldcw (x := -1000003) E dX5_as_131 (List.mem_cons_of_mem _ tw_579) ?_
                    obtain ⟨⟨r41, v41⟩, hc41, hF⟩ := jx_bind hF
                    try dsimp only at hF
                    refine jx_callVi (As := [.int (-1000003)]) (st := []) (h := 0) E dX5_as_134 1 rfl (k_X5_finds hI (-1000003) v11 r41 v41 hc41) (gb_V (List.mem_cons_of_mem _ tw_344) (List.mem_cons_of_mem _ tw_345) (List.mem_cons_of_mem _ tw_346) (List.mem_cons_of_mem _ tw_325) tw_343) rfl rfl rfl dd_X5_finds rfl (Nat.le_of_ble_eq_true rfl) s_M0 rfl ⟨by decide, by decide⟩ ⟨Nat.le_refl 0, Nat.le_refl 0⟩ (Nat.le_of_ble_eq_true rfl) ?_
                    obtain ⟨rfl, rfl⟩ := jx_out hF
                    exact jx_iret E dX5_as_137 rfl
                  · rw [if_neg hc40] at hF
                    refine jx_iload_n E dX5_as_126 2 rfl ?_
                    refine jx_goto (tgt := 137) E dX5_as_127 (by decide) ?_
                    obtain ⟨rfl, rfl⟩ := jx_out hF
                    exact jx_iret E dX5_as_137 rfl
                · rw [if_neg hc39] at hF
                  refine jx_iload_n E dX5_as_91 4 rfl ?_
                  refine jx_iconst (x := 2) E dX5_as_92 (by decide) ?_
                  refine jx_icmp_ne (tgt := 102) E dX5_as_93 (by decide) (fun hc42 => ?_) (fun hc42 => ?_)
                  · rw [if_neg hc42] at hF
                    refine jx_iload_n E dX5_as_102 4 rfl ?_
                    refine jx_iconst (x := 5) E dX5_as_103 (by decide) ?_
                    refine jx_icmp_ne (tgt := 118) E dX5_as_104 (by decide) (fun hc43 => ?_) (fun hc43 => ?_)
                    · rw [if_neg hc43] at hF
                      refine jx_iconst (x := 0) E dX5_as_118 (by decide) ?_
                      refine jx_istore (lv' := [(5, .int 0), (4, .int r11), (3, .int (v4 1 (Int32.toNatClampNeg (171 + x1)))), (0, .ref (ad 0)), (1, .int x1), (2, .int x2)]) E dX5_as_119 (by decide) rfl ?_
                      refine jx_iload E dX5_as_121 0 rfl ?_
                      refine jx_if_eq (tgt := 130) E dX5_as_123 (by decide) (fun hc44 => ?_) (fun hc44 => ?_)
                      · rw [if_pos hc44] at hF
                        refine jx_aload_n E dX5_as_130 3 rfl ?_
                        refine jx_ldcw (x := -1000003) E dX5_as_131 (List.mem_cons_of_mem _ tw_579) ?_
                        obtain ⟨⟨r45, v45⟩, hc45, hF⟩ := jx_bind hF
                        try dsimp only at hF
                        refine jx_callVi (As := [.int (-1000003)]) (st := []) (h := 0) E dX5_as_134 1 rfl (k_X5_finds hI (-1000003) v11 r45 v45 hc45) (gb_V (List.mem_cons_of_mem _ tw_344) (List.mem_cons_of_mem _ tw_345) (List.mem_cons_of_mem _ tw_346) (List.mem_cons_of_mem _ tw_325) tw_343) rfl rfl rfl dd_X5_finds rfl (Nat.le_of_ble_eq_true rfl) s_M0 rfl ⟨by decide, by decide⟩ ⟨Nat.le_refl 0, Nat.le_refl 0⟩ (Nat.le_of_ble_eq_true rfl) ?_
                        obtain ⟨rfl, rfl⟩ := jx_out hF
                        exact jx_iret E dX5_as_137 rfl
                      · rw [if_neg hc44] at hF
                        refine jx_iload_n E dX5_as_126 2 rfl ?_
                        refine jx_goto (tgt := 137) E dX5_as_127 (by decide) ?_
                        obtain ⟨rfl, rfl⟩ := jx_out hF
                        exact jx_iret E dX5_as_137 rfl
                    · rw [if_pos hc43] at hF
                      refine jx_iload E dX5_as_107 0 rfl ?_
                      refine jx_bipush (x := 6) E dX5_as_109 (by decide) ?_
                      refine jx_icmp_ne (tgt := 118) E dX5_as_111 (by decide) (fun hc46 => ?_) (fun hc46 => ?_)
                      · rw [if_neg hc46] at hF
                        refine jx_iconst (x := 0) E dX5_as_118 (by decide) ?_
                        refine jx_istore (lv' := [(5, .int 0), (4, .int r11), (3, .int (v4 1 (Int32.toNatClampNeg (171 + x1)))), (0, .ref (ad 0)), (1, .int x1), (2, .int x2)]) E dX5_as_119 (by decide) rfl ?_
                        refine jx_iload E dX5_as_121 0 rfl ?_
                        refine jx_if_eq (tgt := 130) E dX5_as_123 (by decide) (fun hc47 => ?_) (fun hc47 => ?_)
                        · rw [if_pos hc47] at hF
                          refine jx_aload_n E dX5_as_130 3 rfl ?_
                          refine jx_ldcw (x := -1000003) E dX5_as_131 (List.mem_cons_of_mem _ tw_579) ?_
                          obtain ⟨⟨r48, v48⟩, hc48, hF⟩ := jx_bind hF
                          try dsimp only at hF
                          refine jx_callVi (As := [.int (-1000003)]) (st := []) (h := 0) E dX5_as_134 1 rfl (k_X5_finds hI (-1000003) v11 r48 v48 hc48) (gb_V (List.mem_cons_of_mem _ tw_344) (List.mem_cons_of_mem _ tw_345) (List.mem_cons_of_mem _ tw_346) (List.mem_cons_of_mem _ tw_325) tw_343) rfl rfl rfl dd_X5_finds rfl (Nat.le_of_ble_eq_true rfl) s_M0 rfl ⟨by decide, by decide⟩ ⟨Nat.le_refl 0, Nat.le_refl 0⟩ (Nat.le_of_ble_eq_true rfl) ?_
                          obtain ⟨rfl, rfl⟩ := jx_out hF
                          exact jx_iret E dX5_as_137 rfl
                        · rw [if_neg hc47] at hF
                          refine jx_iload_n E dX5_as_126 2 rfl ?_
                          refine jx_goto (tgt := 137) E dX5_as_127 (by decide) ?_
                          obtain ⟨rfl, rfl⟩ := jx_out hF
                          exact jx_iret E dX5_as_137 rfl
                      · rw [if_pos hc46] at hF
                        refine jx_iconst (x := 1) E dX5_as_114 (by decide) ?_
                        refine jx_goto (tgt := 119) E dX5_as_115 (by decide) ?_
                        refine jx_istore (lv' := [(5, .int 1), (4, .int r11), (3, .int (v4 1 (Int32.toNatClampNeg (171 + x1)))), (0, .ref (ad 0)), (1, .int x1), (2, .int x2)]) E dX5_as_119 (by decide) rfl ?_
                        refine jx_iload E dX5_as_121 0 rfl ?_
                        refine jx_if_eq (tgt := 130) E dX5_as_123 (by decide) (fun hc49 => ?_) (fun hc49 => ?_)
                        · rw [if_pos hc49] at hF
                          refine jx_aload_n E dX5_as_130 3 rfl ?_
                          refine jx_ldcw (x := -1000003) E dX5_as_131 (List.mem_cons_of_mem _ tw_579) ?_
                          obtain ⟨⟨r50, v50⟩, hc50, hF⟩ := jx_bind hF
                          try dsimp only at hF
                          refine jx_callVi (As := [.int (-1000003)]) (st := []) (h := 0) E dX5_as_134 1 rfl (k_X5_finds hI (-1000003) v11 r50 v50 hc50) (gb_V (List.mem_cons_of_mem _ tw_344) (List.mem_cons_of_mem _ tw_345) (List.mem_cons_of_mem _ tw_346) (List.mem_cons_of_mem _ tw_325) tw_343) rfl rfl rfl dd_X5_finds rfl (Nat.le_of_ble_eq_true rfl) s_M0 rfl ⟨by decide, by decide⟩ ⟨Nat.le_refl 0, Nat.le_refl 0⟩ (Nat.le_of_ble_eq_true rfl) ?_
                          obtain ⟨rfl, rfl⟩ := jx_out hF
                          exact jx_iret E dX5_as_137 rfl
                        · rw [if_neg hc49] at hF
                          refine jx_iload_n E dX5_as_126 2 rfl ?_
                          refine jx_goto (tgt := 137) E dX5_as_127 (by decide) ?_
                          obtain ⟨rfl, rfl⟩ := jx_out hF
                          exact jx_iret E dX5_as_137 rfl
                  · rw [if_pos hc42] at hF
                    refine jx_iload E dX5_as_96 0 rfl ?_
                    refine jx_iconst (x := 4) E dX5_as_98 (by decide) ?_
                    refine jx_icmp_eq (tgt := 114) E dX5_as_99 (by decide) (fun hc51 => ?_) (fun hc51 => ?_)
                    · rw [if_pos hc51] at hF
                      refine jx_iconst (x := 1) E dX5_as_114 (by decide) ?_
                      refine jx_goto (tgt := 119) E dX5_as_115 (by decide) ?_
                      refine jx_istore (lv' := [(5, .int 1), (4, .int r11), (3, .int (v4 1 (Int32.toNatClampNeg (171 + x1)))), (0, .ref (ad 0)), (1, .int x1), (2, .int x2)]) E dX5_as_119 (by decide) rfl ?_
                      refine jx_iload E dX5_as_121 0 rfl ?_
                      refine jx_if_eq (tgt := 130) E dX5_as_123 (by decide) (fun hc52 => ?_) (fun hc52 => ?_)
                      · rw [if_pos hc52] at hF
                        refine jx_aload_n E dX5_as_130 3 rfl ?_
                        refine jx_ldcw (x := -1000003) E dX5_as_131 (List.mem_cons_of_mem _ tw_579) ?_
                        obtain ⟨⟨r53, v53⟩, hc53, hF⟩ := jx_bind hF
                        try dsimp only at hF
                        refine jx_callVi (As := [.int (-1000003)]) (st := []) (h := 0) E dX5_as_134 1 rfl (k_X5_finds hI (-1000003) v11 r53 v53 hc53) (gb_V (List.mem_cons_of_mem _ tw_344) (List.mem_cons_of_mem _ tw_345) (List.mem_cons_of_mem _ tw_346) (List.mem_cons_of_mem _ tw_325) tw_343) rfl rfl rfl dd_X5_finds rfl (Nat.le_of_ble_eq_true rfl) s_M0 rfl ⟨by decide, by decide⟩ ⟨Nat.le_refl 0, Nat.le_refl 0⟩ (Nat.le_of_ble_eq_true rfl) ?_
                        obtain ⟨rfl, rfl⟩ := jx_out hF
                        exact jx_iret E dX5_as_137 rfl
                      · rw [if_neg hc52] at hF
                        refine jx_iload_n E dX5_as_126 2 rfl ?_
                        refine jx_goto (tgt := 137) E dX5_as_127 (by decide) ?_
                        obtain ⟨rfl, rfl⟩ := jx_out hF
                        exact jx_iret E dX5_as_137 rfl
                    · rw [if_neg hc51] at hF
                      refine jx_iload_n E dX5_as_102 4 rfl ?_
                      refine jx_iconst (x := 5) E dX5_as_103 (by decide) ?_
                      refine jx_icmp_ne (tgt := 118) E dX5_as_104 (by decide) (fun hc54 => ?_) (fun hc54 => ?_)
                      · rw [if_neg hc54] at hF
                        refine jx_iconst (x := 0) E dX5_as_118 (by decide) ?_
                        refine jx_istore (lv' := [(5, .int 0), (4, .int r11), (3, .int (v4 1 (Int32.toNatClampNeg (171 + x1)))), (0, .ref (ad 0)), (1, .int x1), (2, .int x2)]) E dX5_as_119 (by decide) rfl ?_
                        refine jx_iload E dX5_as_121 0 rfl ?_
                        refine jx_if_eq (tgt := 130) E dX5_as_123 (by decide) (fun hc55 => ?_) (fun hc55 => ?_)
                        · rw [if_pos hc55] at hF
                          refine jx_aload_n E dX5_as_130 3 rfl ?_
                          refine jx_ldcw (x := -1000003) E dX5_as_131 (List.mem_cons_of_mem _ tw_579) ?_
                          obtain ⟨⟨r56, v56⟩, hc56, hF⟩ := jx_bind hF
                          try dsimp only at hF
                          refine jx_callVi (As := [.int (-1000003)]) (st := []) (h := 0) E dX5_as_134 1 rfl (k_X5_finds hI (-1000003) v11 r56 v56 hc56) (gb_V (List.mem_cons_of_mem _ tw_344) (List.mem_cons_of_mem _ tw_345) (List.mem_cons_of_mem _ tw_346) (List.mem_cons_of_mem _ tw_325) tw_343) rfl rfl rfl dd_X5_finds rfl (Nat.le_of_ble_eq_true rfl) s_M0 rfl ⟨by decide, by decide⟩ ⟨Nat.le_refl 0, Nat.le_refl 0⟩ (Nat.le_of_ble_eq_true rfl) ?_
                          obtain ⟨rfl, rfl⟩ := jx_out hF
                          exact jx_iret E dX5_as_137 rfl
                        · rw [if_neg hc55] at hF
                          refine jx_iload_n E dX5_as_126 2 rfl ?_
                          refine jx_goto (tgt := 137) E dX5_as_127 (by decide) ?_
                          obtain ⟨rfl, rfl⟩ := jx_out hF
                          exact jx_iret E dX5_as_137 rfl
                      · rw [if_pos hc54] at hF
                        refine jx_iload E dX5_as_107 0 rfl ?_
                        refine jx_bipush (x := 6) E dX5_as_109 (by decide) ?_
                        refine jx_icmp_ne (tgt := 118) E dX5_as_111 (by decide) (fun hc57 => ?_) (fun hc57 => ?_)
                        · rw [if_neg hc57] at hF
                          refine jx_iconst (x := 0) E dX5_as_118 (by decide) ?_
                          refine jx_istore (lv' := [(5, .int 0), (4, .int r11), (3, .int (v4 1 (Int32.toNatClampNeg (171 + x1)))), (0, .ref (ad 0)), (1, .int x1), (2, .int x2)]) E dX5_as_119 (by decide) rfl ?_
                          refine jx_iload E dX5_as_121 0 rfl ?_
                          refine jx_if_eq (tgt := 130) E dX5_as_123 (by decide) (fun hc58 => ?_) (fun hc58 => ?_)
                          · rw [if_pos hc58] at hF
                            refine jx_aload_n E dX5_as_130 3 rfl ?_
                            refine jx_ldcw (x := -1000003) E dX5_as_131 (List.mem_cons_of_mem _ tw_579) ?_
                            obtain ⟨⟨r59, v59⟩, hc59, hF⟩ := jx_bind hF
                            try dsimp only at hF
                            refine jx_callVi (As := [.int (-1000003)]) (st := []) (h := 0) E dX5_as_134 1 rfl (k_X5_finds hI (-1000003) v11 r59 v59 hc59) (gb_V (List.mem_cons_of_mem _ tw_344) (List.mem_cons_of_mem _ tw_345) (List.mem_cons_of_mem _ tw_346) (List.mem_cons_of_mem _ tw_325) tw_343) rfl rfl rfl dd_X5_finds rfl (Nat.le_of_ble_eq_true rfl) s_M0 rfl ⟨by decide, by decide⟩ ⟨Nat.le_refl 0, Nat.le_refl 0⟩ (Nat.le_of_ble_eq_true rfl) ?_
                            obtain ⟨rfl, rfl⟩ := jx_out hF
                            exact jx_iret E dX5_as_137 rfl
                          · rw [if_neg hc58] at hF
                            refine jx_iload_n E dX5_as_126 2 rfl ?_
                            refine jx_goto (tgt := 137) E dX5_as_127 (by decide) ?_
                            obtain ⟨rfl, rfl⟩ := jx_out hF
                            exact jx_iret E dX5_as_137 rfl
                        · rw [if_pos hc57] at hF
                          refine jx_iconst (x := 1) E dX5_as_114 (by decide) ?_
                          refine jx_goto (tgt := 119) E dX5_as_115 (by decide) ?_
                          refine jx_istore (lv' := [(5, .int 1), (4, .int r11), (3, .int (v4 1 (Int32.toNatClampNeg (171 + x1)))), (0, .ref (ad 0)), (1, .int x1), (2, .int x2)]) E dX5_as_119 (by decide) rfl ?_
                          refine jx_iload E dX5_as_121 0 rfl ?_
                          refine jx_if_eq (tgt := 130) E dX5_as_123 (by decide) (fun hc60 => ?_) (fun hc60 => ?_)
                          · rw [if_pos hc60] at hF
                            refine jx_aload_n E dX5_as_130 3 rfl ?_
                            refine jx_ldcw (x := -1000003) E dX5_as_131 (List.mem_cons_of_mem _ tw_579) ?_
                            obtain ⟨⟨r61, v61⟩, hc61, hF⟩ := jx_bind hF
                            try dsimp only at hF
                            refine jx_callVi (As := [.int (-1000003)]) (st := []) (h := 0) E dX5_as_134 1 rfl (k_X5_finds hI (-1000003) v11 r61 v61 hc61) (gb_V (List.mem_cons_of_mem _ tw_344) (List.mem_cons_of_mem _ tw_345) (List.mem_cons_of_mem _ tw_346) (List.mem_cons_of_mem _ tw_325) tw_343) rfl rfl rfl dd_X5_finds rfl (Nat.le_of_ble_eq_true rfl) s_M0 rfl ⟨by decide, by decide⟩ ⟨Nat.le_refl 0, Nat.le_refl 0⟩ (Nat.le_of_ble_eq_true rfl) ?_
                            obtain ⟨rfl, rfl⟩ := jx_out hF
                            exact jx_iret E dX5_as_137 rfl
                          · rw [if_neg hc60] at hF
                            refine jx_iload_n E dX5_as_126 2 rfl ?_
                            refine jx_goto (tgt := 137) E dX5_as_127 (by decide) ?_
                            obtain ⟨rfl, rfl⟩ := jx_out hF
                            exact jx_iret E dX5_as_137 rfl
        · rw [if_pos hc10] at hF
          refine jx_aload_n E dX5_as_54 1 rfl ?_
          refine jx_ldcw (x := -1000006) E dX5_as_55 (List.mem_cons_of_mem _ tw_578) ?_
          obtain ⟨⟨r62, v62⟩, hc62, hF⟩ := jx_bind hF
          try dsimp only at hF
          refine jx_callVi (As := [.int (-1000006)]) (st := []) (h := 0) E dX5_as_58 1 rfl (k_X5_finds hI (-1000006) v9 r62 v62 hc62) (gb_V (List.mem_cons_of_mem _ tw_344) (List.mem_cons_of_mem _ tw_345) (List.mem_cons_of_mem _ tw_346) (List.mem_cons_of_mem _ tw_325) tw_343) rfl rfl rfl dd_X5_finds rfl (Nat.le_of_ble_eq_true rfl) s_M0 rfl ⟨by decide, by decide⟩ ⟨Nat.le_refl 0, Nat.le_refl 0⟩ (Nat.le_of_ble_eq_true rfl) ?_
          obtain ⟨rfl, rfl⟩ := jx_out hF
          exact jx_iret E dX5_as_61 rfl
    · rw [if_pos hc5] at hF
      refine jx_aload_n E dX5_as_24 0 rfl ?_
      refine jx_ldc (x := -1000001) E dX5_as_25 (List.mem_cons_of_mem _ tw_320) ?_
      obtain ⟨⟨r63, v63⟩, hc63, hF⟩ := jx_bind hF
      try dsimp only at hF
      refine jx_callVi (As := [.int (-1000001)]) (st := []) (h := 0) E dX5_as_27 1 rfl (k_X5_finds hI (-1000001) v4 r63 v63 hc63) (gb_V (List.mem_cons_of_mem _ tw_344) (List.mem_cons_of_mem _ tw_345) (List.mem_cons_of_mem _ tw_346) (List.mem_cons_of_mem _ tw_325) tw_343) rfl rfl rfl dd_X5_finds rfl (Nat.le_of_ble_eq_true rfl) s_M0 rfl ⟨by decide, by decide⟩ ⟨Nat.le_refl 0, Nat.le_refl 0⟩ (Nat.le_of_ble_eq_true rfl) ?_
      obtain ⟨rfl, rfl⟩ := jx_out hF
      exact jx_iret E dX5_as_30 rfl
def f_X5_isOne (x0 : Int32) (v : jx_V) : Option (Int32 × jx_V) := ((f_X5_in (Int32.toInt64 x0) 0 3 v).bind (fun (r1, v1) => (if ¬ (r1 = 0 ∨ r1 = 1) then none else some (r1, v1))))
def rm_X5_isOne : Room := { frames := 1, cells := 0, slots := 0, locals := 25 }
set_option maxHeartbeats 4000000 in
set_option maxRecDepth 100000 in
theorem k_X5_isOne {l : Launch} {D : va_G} {cI cJ : ClassId} {ad : Nat → Nat} {A : Nat → Prop} (hI : jx_inj 13 ad A) (x0 : Int32) (v : jx_V) (r : Int32) (v' : jx_V) (hF : f_X5_isOne x0 v = some (r, v')) : jx_Ci l D vwCl 13 cI cJ ad shM A ex_M yX5_isOne (Cond.code yX5_isOne cX5_isOne 1 (some .boolean) :: bigT) rm_X5_isOne [.int x0] v r v' := by
  unfold f_X5_isOne at hF
  refine jx_enteri bigT RX5 cX5_isOne 1 (some .boolean) [(0, .int x0)] hI (ex_M_ok A) (by decide +kernel) rfl (Nat.le_of_ble_eq_true rfl) rfl rfl ?_
  intro p e s m args below meth c E
  refine jx_iload_n E dX5_isOne_0 0 rfl ?_
  refine jx_i2l E dX5_isOne_1 ?_
  refine jx_lconst (x := 0) E dX5_isOne_2 (by decide) ?_
  refine jx_ldc2 (x := 3) E dX5_isOne_3 (List.mem_cons_of_mem _ tw_326) ?_
  obtain ⟨⟨r1, v1⟩, hc1, hF⟩ := jx_bind hF
  try dsimp only at hF
  refine jx_callSi (As := [.long (Int32.toInt64 x0), .long 0, .long 3]) (st := []) E dX5_isOne_6 3 rfl (k_X5_in hI (Int32.toInt64 x0) 0 3 v r1 v1 hc1) (gb_S (List.mem_cons_of_mem _ tw_323) (List.mem_cons_of_mem _ tw_324) (List.mem_cons_of_mem _ tw_325) tw_322) rfl rfl rfl dd_X5_in rfl ⟨by decide, by decide⟩ ⟨Nat.le_refl 0, Nat.le_refl 0⟩ (Nat.le_of_ble_eq_true rfl) ?_
  obtain ⟨hg2, hF⟩ := jx_guard hF
  obtain ⟨rfl, rfl⟩ := jx_out hF
  exact jx_zret E dX5_isOne_9 rfl (Decidable.not_not.mp hg2)
def f_X5_sheet_L  : Nat → Int32 → Int32 → Int32 → Int32 → jx_V → Option (Int32 × jx_V)
  | 0, _, _, _, _, _ => none
  | n + 1, x1, x2, x3, x4, v => (if 40 ≤ x4 then (if (x1 < 0 ∨ 4 ≤ Int32.toNatClampNeg x1) then none else (some ((v 10 (Int32.toNatClampNeg x1)), v))) else (if (((40 * x1) + x4) < 0 ∨ 160 ≤ Int32.toNatClampNeg ((40 * x1) + x4)) then none else (f_X5_sheet_L n x1 x2 x3 (x4 + 1) (jx_up v 11 (Int32.toNatClampNeg ((40 * x1) + x4)) 0))))
def f_X5_sheet (x1 : Int32) (x2 : Int32) (x3 : Int32) (v : jx_V) : Option (Int32 × jx_V) := ((f_X5_isOne x1 v).bind (fun (r1, v1) => (if r1 = 0 then ((f_X5_finds (-1000001) v1).bind (fun (r3, v3) => (some (r3, v3)))) else (if x2 = 0 then (if 0 ≤ x3 then (if x3 ≤ 40 then (if (x1 < 0 ∨ 4 ≤ Int32.toNatClampNeg x1) then none else (if x2 = 0 then (if (x1 < 0 ∨ 4 ≤ Int32.toNatClampNeg x1) then none else (f_X5_sheet_L 100000 x1 x2 x3 0 (jx_up (jx_up v1 9 (Int32.toNatClampNeg x1) x2) 10 (Int32.toNatClampNeg x1) 0))) else (if (x1 < 0 ∨ 4 ≤ Int32.toNatClampNeg x1) then none else (f_X5_sheet_L 100000 x1 x2 x3 0 (jx_up (jx_up v1 9 (Int32.toNatClampNeg x1) x2) 10 (Int32.toNatClampNeg x1) x3))))) else ((f_X5_finds (-1000001) v1).bind (fun (r11, v11) => (some (r11, v11))))) else ((f_X5_finds (-1000007) v1).bind (fun (r12, v12) => (some (r12, v12))))) else (if x2 = 8 then (if 0 ≤ x3 then (if x3 ≤ 40 then (if (x1 < 0 ∨ 4 ≤ Int32.toNatClampNeg x1) then none else (if x2 = 0 then (if (x1 < 0 ∨ 4 ≤ Int32.toNatClampNeg x1) then none else (f_X5_sheet_L 100000 x1 x2 x3 0 (jx_up (jx_up v1 9 (Int32.toNatClampNeg x1) x2) 10 (Int32.toNatClampNeg x1) 0))) else (if (x1 < 0 ∨ 4 ≤ Int32.toNatClampNeg x1) then none else (f_X5_sheet_L 100000 x1 x2 x3 0 (jx_up (jx_up v1 9 (Int32.toNatClampNeg x1) x2) 10 (Int32.toNatClampNeg x1) x3))))) else ((f_X5_finds (-1000001) v1).bind (fun (r20, v20) => (some (r20, v20))))) else ((f_X5_finds (-1000007) v1).bind (fun (r21, v21) => (some (r21, v21))))) else (if x2 = 16 then (if 0 ≤ x3 then (if x3 ≤ 40 then (if (x1 < 0 ∨ 4 ≤ Int32.toNatClampNeg x1) then none else (if x2 = 0 then (if (x1 < 0 ∨ 4 ≤ Int32.toNatClampNeg x1) then none else (f_X5_sheet_L 100000 x1 x2 x3 0 (jx_up (jx_up v1 9 (Int32.toNatClampNeg x1) x2) 10 (Int32.toNatClampNeg x1) 0))) else (if (x1 < 0 ∨ 4 ≤ Int32.toNatClampNeg x1) then none else (f_X5_sheet_L 100000 x1 x2 x3 0 (jx_up (jx_up v1 9 (Int32.toNatClampNeg x1) x2) 10 (Int32.toNatClampNeg x1) x3))))) else ((f_X5_finds (-1000001) v1).bind (fun (r29, v29) => (some (r29, v29))))) else ((f_X5_finds (-1000007) v1).bind (fun (r30, v30) => (some (r30, v30))))) else (if x2 = 32 then (if 0 ≤ x3 then (if x3 ≤ 40 then (if (x1 < 0 ∨ 4 ≤ Int32.toNatClampNeg x1) then none else (if x2 = 0 then (if (x1 < 0 ∨ 4 ≤ Int32.toNatClampNeg x1) then none else (f_X5_sheet_L 100000 x1 x2 x3 0 (jx_up (jx_up v1 9 (Int32.toNatClampNeg x1) x2) 10 (Int32.toNatClampNeg x1) 0))) else (if (x1 < 0 ∨ 4 ≤ Int32.toNatClampNeg x1) then none else (f_X5_sheet_L 100000 x1 x2 x3 0 (jx_up (jx_up v1 9 (Int32.toNatClampNeg x1) x2) 10 (Int32.toNatClampNeg x1) x3))))) else ((f_X5_finds (-1000001) v1).bind (fun (r38, v38) => (some (r38, v38))))) else ((f_X5_finds (-1000007) v1).bind (fun (r39, v39) => (some (r39, v39))))) else ((f_X5_finds (-1000001) v1).bind (fun (r40, v40) => (some (r40, v40)))))))))))
def rm_X5_sheet : Room := { frames := 2, cells := 0, slots := 0, locals := 45 }
set_option maxHeartbeats 4000000 in
set_option maxRecDepth 100000 in
theorem k_X5_sheet {l : Launch} {D : va_G} {cI cJ : ClassId} {ad : Nat → Nat} {A : Nat → Prop} (hI : jx_inj 13 ad A) (x1 : Int32) (x2 : Int32) (x3 : Int32) (v : jx_V) (r : Int32) (v' : jx_V) (hF : f_X5_sheet x1 x2 x3 v = some (r, v')) : jx_Ci l D vwCl 13 cI cJ ad shM A ex_M yX5_sheet (Cond.code yX5_sheet cX5_sheet 5 (some .int) :: bigT) rm_X5_sheet [.ref (ad 0), .int x1, .int x2, .int x3] v r v' := by
  unfold f_X5_sheet at hF
  refine jx_enteri bigT RX5 cX5_sheet 5 (some .int) [(0, .ref (ad 0)), (1, .int x1), (2, .int x2), (3, .int x3)] hI (ex_M_ok A) (by decide +kernel) rfl (Nat.le_of_ble_eq_true rfl) rfl rfl ?_
  intro p e s m args below meth c E
  have iX5 : ∀ w ∈ u_ws RX5 TX5 21, w ∈ (Cond.code yX5_sheet cX5_sheet 5 (some .int) :: bigT) := fun w h => List.mem_cons_of_mem _ (uw_X5 w h)
  have key : ∀ n : Nat, (∀ (x1 : Int32) (x2 : Int32) (x3 : Int32) (x4 : Int32) (v : jx_V), f_X5_sheet_L  n  x1 x2 x3 x4 v = some (r, v') → jx_J p l e rm_X5_sheet s m args below meth c D vwCl 13 cI cJ ad shM A 0 0 5 (MQ below (va_Qi (fun (r1 : Int32) (_ : Unit) => r1 = r) (fun _ t => va_P D vwCl (jx_ws 13 cI cJ ad shM v') t.heap) A) args s 0 0 A) v 86 [(0, .ref (ad 0)), (1, .int x1), (2, .int x2), (3, .int x3), (4, .int x4)] []) := by
    intro n
    induction n with
    | zero =>
      exact (fun _ _ _ _ _ h => by cases h)
    | succ n ih =>
      intro x1 x2 x3 x4 v hF
      rw [f_X5_sheet_L] at hF
      refine jx_iload E dX5_sheet_86 4 rfl ?_
      refine jx_bipush (x := 40) E dX5_sheet_88 (by decide) ?_
      refine jx_icmp_ge (tgt := 112) E dX5_sheet_90 (by decide) (fun hc41 => ?_) (fun hc41 => ?_)
      · rw [if_pos hc41] at hF
        refine jx_aload_n E dX5_sheet_112 0 rfl ?_
        refine jx_getr (C := RX5) (T := TX5) (M := 21) (k := 18) E dX5_sheet_113 (Nat.le_of_ble_eq_true rfl) s_M0 rfl iX5 (by decide) rfl (List.mem_cons_of_mem _ tw_584) rfl ?_
        refine jx_iload_n E dX5_sheet_116 1 rfl ?_
        obtain ⟨hg42, hF⟩ := jx_guard hF
        refine jx_iald (h := 10) (j := (Int32.toNatClampNeg x1)) E dX5_sheet_117 (Nat.le_of_ble_eq_true rfl) s_M10 hg42 rfl ?_
        obtain ⟨rfl, rfl⟩ := jx_out hF
        exact jx_iret E dX5_sheet_118 rfl
      · rw [if_neg hc41] at hF
        refine jx_aload_n E dX5_sheet_93 0 rfl ?_
        refine jx_getr (C := RX5) (T := TX5) (M := 21) (k := 19) E dX5_sheet_94 (Nat.le_of_ble_eq_true rfl) s_M0 rfl iX5 (by decide) rfl (List.mem_cons_of_mem _ tw_586) rfl ?_
        refine jx_bipush (x := 40) E dX5_sheet_97 (by decide) ?_
        refine jx_iload_n E dX5_sheet_99 1 rfl ?_
        refine jx_imul E dX5_sheet_100 ?_
        refine jx_iload E dX5_sheet_101 4 rfl ?_
        refine jx_iadd E dX5_sheet_103 ?_
        refine jx_iconst (x := 0) E dX5_sheet_104 (by decide) ?_
        obtain ⟨hg43, hF⟩ := jx_guard hF
        refine jx_iast (h := 11) (j := (Int32.toNatClampNeg ((40 * x1) + x4))) E dX5_sheet_105 (Nat.le_of_ble_eq_true rfl) s_M11 hg43 rfl ?_
        refine jx_iinc (y := (x4 + 1)) (lv' := [(4, .int (x4 + 1)), (0, .ref (ad 0)), (1, .int x1), (2, .int x2), (3, .int x3)]) E dX5_sheet_106 4 rfl rfl (by decide) rfl ?_
        refine jx_goto (tgt := 86) E dX5_sheet_109 (by decide) ?_
        refine jx_sub [1, 2, 3, 4, 0] rfl ?_
        exact ih x1 x2 x3 (x4 + 1) (jx_up v 11 (Int32.toNatClampNeg ((40 * x1) + x4)) 0) hF
  refine jx_iload_n E dX5_sheet_0 1 rfl ?_
  obtain ⟨⟨r1, v1⟩, hc1, hF⟩ := jx_bind hF
  try dsimp only at hF
  refine jx_callSi (As := [.int x1]) (st := []) E dX5_sheet_1 1 rfl (k_X5_isOne hI x1 v r1 v1 hc1) (gb_S (List.mem_cons_of_mem _ tw_581) (List.mem_cons_of_mem _ tw_582) (List.mem_cons_of_mem _ tw_325) tw_580) rfl rfl rfl dd_X5_isOne rfl ⟨by decide, by decide⟩ ⟨Nat.le_refl 0, Nat.le_refl 0⟩ (Nat.le_of_ble_eq_true rfl) ?_
  refine jx_if_eq (tgt := 29) E dX5_sheet_4 (by decide) (fun hc2 => ?_) (fun hc2 => ?_)
  · rw [if_pos hc2] at hF
    refine jx_aload_n E dX5_sheet_29 0 rfl ?_
    refine jx_ldc (x := -1000001) E dX5_sheet_30 (List.mem_cons_of_mem _ tw_320) ?_
    obtain ⟨⟨r3, v3⟩, hc3, hF⟩ := jx_bind hF
    try dsimp only at hF
    refine jx_callVi (As := [.int (-1000001)]) (st := []) (h := 0) E dX5_sheet_32 1 rfl (k_X5_finds hI (-1000001) v1 r3 v3 hc3) (gb_V (List.mem_cons_of_mem _ tw_344) (List.mem_cons_of_mem _ tw_345) (List.mem_cons_of_mem _ tw_346) (List.mem_cons_of_mem _ tw_325) tw_343) rfl rfl rfl dd_X5_finds rfl (Nat.le_of_ble_eq_true rfl) s_M0 rfl ⟨by decide, by decide⟩ ⟨Nat.le_refl 0, Nat.le_refl 0⟩ (Nat.le_of_ble_eq_true rfl) ?_
    obtain ⟨rfl, rfl⟩ := jx_out hF
    exact jx_iret E dX5_sheet_35 rfl
  · rw [if_neg hc2] at hF
    refine jx_iload_n E dX5_sheet_7 2 rfl ?_
    refine jx_if_eq (tgt := 36) E dX5_sheet_8 (by decide) (fun hc4 => ?_) (fun hc4 => ?_)
    · rw [if_pos hc4] at hF
      refine jx_iload_n E dX5_sheet_36 3 rfl ?_
      refine jx_if_ge (tgt := 48) E dX5_sheet_37 (by decide) (fun hc5 => ?_) (fun hc5 => ?_)
      · rw [if_pos hc5] at hF
        refine jx_iload_n E dX5_sheet_48 3 rfl ?_
        refine jx_bipush (x := 40) E dX5_sheet_49 (by decide) ?_
        refine jx_icmp_le (tgt := 61) E dX5_sheet_51 (by decide) (fun hc6 => ?_) (fun hc6 => ?_)
        · rw [if_pos hc6] at hF
          refine jx_aload_n E dX5_sheet_61 0 rfl ?_
          refine jx_getr (C := RX5) (T := TX5) (M := 21) (k := 17) E dX5_sheet_62 (Nat.le_of_ble_eq_true rfl) s_M0 rfl iX5 (by decide) rfl (List.mem_cons_of_mem _ tw_583) rfl ?_
          refine jx_iload_n E dX5_sheet_65 1 rfl ?_
          refine jx_iload_n E dX5_sheet_66 2 rfl ?_
          obtain ⟨hg7, hF⟩ := jx_guard hF
          refine jx_iast (h := 9) (j := (Int32.toNatClampNeg x1)) E dX5_sheet_67 (Nat.le_of_ble_eq_true rfl) s_M9 hg7 rfl ?_
          refine jx_aload_n E dX5_sheet_68 0 rfl ?_
          refine jx_getr (C := RX5) (T := TX5) (M := 21) (k := 18) E dX5_sheet_69 (Nat.le_of_ble_eq_true rfl) s_M0 rfl iX5 (by decide) rfl (List.mem_cons_of_mem _ tw_584) rfl ?_
          refine jx_iload_n E dX5_sheet_72 1 rfl ?_
          refine jx_iload_n E dX5_sheet_73 2 rfl ?_
          refine jx_if_ne (tgt := 81) E dX5_sheet_74 (by decide) (fun hc8 => ?_) (fun hc8 => ?_)
          · rw [if_neg hc8] at hF
            refine jx_iload_n E dX5_sheet_81 3 rfl ?_
            obtain ⟨hg9, hF⟩ := jx_guard hF
            refine jx_iast (h := 10) (j := (Int32.toNatClampNeg x1)) E dX5_sheet_82 (Nat.le_of_ble_eq_true rfl) s_M10 hg9 rfl ?_
            refine jx_iconst (x := 0) E dX5_sheet_83 (by decide) ?_
            refine jx_istore (lv' := [(4, .int 0), (0, .ref (ad 0)), (1, .int x1), (2, .int x2), (3, .int x3)]) E dX5_sheet_84 (by decide) rfl ?_
            refine jx_sub [1, 2, 3, 4, 0] rfl ?_
            exact (key 100000) x1 x2 x3 0 (jx_up (jx_up v1 9 (Int32.toNatClampNeg x1) x2) 10 (Int32.toNatClampNeg x1) x3) hF
          · rw [if_pos hc8] at hF
            refine jx_iconst (x := 0) E dX5_sheet_77 (by decide) ?_
            refine jx_goto (tgt := 82) E dX5_sheet_78 (by decide) ?_
            obtain ⟨hg10, hF⟩ := jx_guard hF
            refine jx_iast (h := 10) (j := (Int32.toNatClampNeg x1)) E dX5_sheet_82 (Nat.le_of_ble_eq_true rfl) s_M10 hg10 rfl ?_
            refine jx_iconst (x := 0) E dX5_sheet_83 (by decide) ?_
            refine jx_istore (lv' := [(4, .int 0), (0, .ref (ad 0)), (1, .int x1), (2, .int x2), (3, .int x3)]) E dX5_sheet_84 (by decide) rfl ?_
            refine jx_sub [1, 2, 3, 4, 0] rfl ?_
            exact (key 100000) x1 x2 x3 0 (jx_up (jx_up v1 9 (Int32.toNatClampNeg x1) x2) 10 (Int32.toNatClampNeg x1) 0) hF
        · rw [if_neg hc6] at hF
          refine jx_aload_n E dX5_sheet_54 0 rfl ?_
          refine jx_ldc (x := -1000001) E dX5_sheet_55 (List.mem_cons_of_mem _ tw_320) ?_
          obtain ⟨⟨r11, v11⟩, hc11, hF⟩ := jx_bind hF
          try dsimp only at hF
          refine jx_callVi (As := [.int (-1000001)]) (st := []) (h := 0) E dX5_sheet_57 1 rfl (k_X5_finds hI (-1000001) v1 r11 v11 hc11) (gb_V (List.mem_cons_of_mem _ tw_344) (List.mem_cons_of_mem _ tw_345) (List.mem_cons_of_mem _ tw_346) (List.mem_cons_of_mem _ tw_325) tw_343) rfl rfl rfl dd_X5_finds rfl (Nat.le_of_ble_eq_true rfl) s_M0 rfl ⟨by decide, by decide⟩ ⟨Nat.le_refl 0, Nat.le_refl 0⟩ (Nat.le_of_ble_eq_true rfl) ?_
          obtain ⟨rfl, rfl⟩ := jx_out hF
          exact jx_iret E dX5_sheet_60 rfl
      · rw [if_neg hc5] at hF
        refine jx_aload_n E dX5_sheet_40 0 rfl ?_
        refine jx_ldcw (x := -1000007) E dX5_sheet_41 (List.mem_cons_of_mem _ tw_585) ?_
        obtain ⟨⟨r12, v12⟩, hc12, hF⟩ := jx_bind hF
        try dsimp only at hF
        refine jx_callVi (As := [.int (-1000007)]) (st := []) (h := 0) E dX5_sheet_44 1 rfl (k_X5_finds hI (-1000007) v1 r12 v12 hc12) (gb_V (List.mem_cons_of_mem _ tw_344) (List.mem_cons_of_mem _ tw_345) (List.mem_cons_of_mem _ tw_346) (List.mem_cons_of_mem _ tw_325) tw_343) rfl rfl rfl dd_X5_finds rfl (Nat.le_of_ble_eq_true rfl) s_M0 rfl ⟨by decide, by decide⟩ ⟨Nat.le_refl 0, Nat.le_refl 0⟩ (Nat.le_of_ble_eq_true rfl) ?_
        obtain ⟨rfl, rfl⟩ := jx_out hF
        exact jx_iret E dX5_sheet_47 rfl
    · rw [if_neg hc4] at hF
      refine jx_iload_n E dX5_sheet_11 2 rfl ?_
      refine jx_bipush (x := 8) E dX5_sheet_12 (by decide) ?_
      refine jx_icmp_eq (tgt := 36) E dX5_sheet_14 (by decide) (fun hc13 => ?_) (fun hc13 => ?_)
      · rw [if_pos hc13] at hF
        refine jx_iload_n E dX5_sheet_36 3 rfl ?_
        refine jx_if_ge (tgt := 48) E dX5_sheet_37 (by decide) (fun hc14 => ?_) (fun hc14 => ?_)
        · rw [if_pos hc14] at hF
          refine jx_iload_n E dX5_sheet_48 3 rfl ?_
          refine jx_bipush (x := 40) E dX5_sheet_49 (by decide) ?_
          refine jx_icmp_le (tgt := 61) E dX5_sheet_51 (by decide) (fun hc15 => ?_) (fun hc15 => ?_)
          · rw [if_pos hc15] at hF
            refine jx_aload_n E dX5_sheet_61 0 rfl ?_
            refine jx_getr (C := RX5) (T := TX5) (M := 21) (k := 17) E dX5_sheet_62 (Nat.le_of_ble_eq_true rfl) s_M0 rfl iX5 (by decide) rfl (List.mem_cons_of_mem _ tw_583) rfl ?_
            refine jx_iload_n E dX5_sheet_65 1 rfl ?_
            refine jx_iload_n E dX5_sheet_66 2 rfl ?_
            obtain ⟨hg16, hF⟩ := jx_guard hF
            refine jx_iast (h := 9) (j := (Int32.toNatClampNeg x1)) E dX5_sheet_67 (Nat.le_of_ble_eq_true rfl) s_M9 hg16 rfl ?_
            refine jx_aload_n E dX5_sheet_68 0 rfl ?_
            refine jx_getr (C := RX5) (T := TX5) (M := 21) (k := 18) E dX5_sheet_69 (Nat.le_of_ble_eq_true rfl) s_M0 rfl iX5 (by decide) rfl (List.mem_cons_of_mem _ tw_584) rfl ?_
            refine jx_iload_n E dX5_sheet_72 1 rfl ?_
            refine jx_iload_n E dX5_sheet_73 2 rfl ?_
            refine jx_if_ne (tgt := 81) E dX5_sheet_74 (by decide) (fun hc17 => ?_) (fun hc17 => ?_)
            · rw [if_neg hc17] at hF
              refine jx_iload_n E dX5_sheet_81 3 rfl ?_
              obtain ⟨hg18, hF⟩ := jx_guard hF
              refine jx_iast (h := 10) (j := (Int32.toNatClampNeg x1)) E dX5_sheet_82 (Nat.le_of_ble_eq_true rfl) s_M10 hg18 rfl ?_
              refine jx_iconst (x := 0) E dX5_sheet_83 (by decide) ?_
              refine jx_istore (lv' := [(4, .int 0), (0, .ref (ad 0)), (1, .int x1), (2, .int x2), (3, .int x3)]) E dX5_sheet_84 (by decide) rfl ?_
              refine jx_sub [1, 2, 3, 4, 0] rfl ?_
              exact (key 100000) x1 x2 x3 0 (jx_up (jx_up v1 9 (Int32.toNatClampNeg x1) x2) 10 (Int32.toNatClampNeg x1) x3) hF
            · rw [if_pos hc17] at hF
              refine jx_iconst (x := 0) E dX5_sheet_77 (by decide) ?_
              refine jx_goto (tgt := 82) E dX5_sheet_78 (by decide) ?_
              obtain ⟨hg19, hF⟩ := jx_guard hF
              refine jx_iast (h := 10) (j := (Int32.toNatClampNeg x1)) E dX5_sheet_82 (Nat.le_of_ble_eq_true rfl) s_M10 hg19 rfl ?_
              refine jx_iconst (x := 0) E dX5_sheet_83 (by decide) ?_
              refine jx_istore (lv' := [(4, .int 0), (0, .ref (ad 0)), (1, .int x1), (2, .int x2), (3, .int x3)]) E dX5_sheet_84 (by decide) rfl ?_
              refine jx_sub [1, 2, 3, 4, 0] rfl ?_
              exact (key 100000) x1 x2 x3 0 (jx_up (jx_up v1 9 (Int32.toNatClampNeg x1) x2) 10 (Int32.toNatClampNeg x1) 0) hF
          · rw [if_neg hc15] at hF
            refine jx_aload_n E dX5_sheet_54 0 rfl ?_
            refine jx_ldc (x := -1000001) E dX5_sheet_55 (List.mem_cons_of_mem _ tw_320) ?_
            obtain ⟨⟨r20, v20⟩, hc20, hF⟩ := jx_bind hF
            try dsimp only at hF
            refine jx_callVi (As := [.int (-1000001)]) (st := []) (h := 0) E dX5_sheet_57 1 rfl (k_X5_finds hI (-1000001) v1 r20 v20 hc20) (gb_V (List.mem_cons_of_mem _ tw_344) (List.mem_cons_of_mem _ tw_345) (List.mem_cons_of_mem _ tw_346) (List.mem_cons_of_mem _ tw_325) tw_343) rfl rfl rfl dd_X5_finds rfl (Nat.le_of_ble_eq_true rfl) s_M0 rfl ⟨by decide, by decide⟩ ⟨Nat.le_refl 0, Nat.le_refl 0⟩ (Nat.le_of_ble_eq_true rfl) ?_
            obtain ⟨rfl, rfl⟩ := jx_out hF
            exact jx_iret E dX5_sheet_60 rfl
        · rw [if_neg hc14] at hF
          refine jx_aload_n E dX5_sheet_40 0 rfl ?_
          refine jx_ldcw (x := -1000007) E dX5_sheet_41 (List.mem_cons_of_mem _ tw_585) ?_
          obtain ⟨⟨r21, v21⟩, hc21, hF⟩ := jx_bind hF
          try dsimp only at hF
          refine jx_callVi (As := [.int (-1000007)]) (st := []) (h := 0) E dX5_sheet_44 1 rfl (k_X5_finds hI (-1000007) v1 r21 v21 hc21) (gb_V (List.mem_cons_of_mem _ tw_344) (List.mem_cons_of_mem _ tw_345) (List.mem_cons_of_mem _ tw_346) (List.mem_cons_of_mem _ tw_325) tw_343) rfl rfl rfl dd_X5_finds rfl (Nat.le_of_ble_eq_true rfl) s_M0 rfl ⟨by decide, by decide⟩ ⟨Nat.le_refl 0, Nat.le_refl 0⟩ (Nat.le_of_ble_eq_true rfl) ?_
          obtain ⟨rfl, rfl⟩ := jx_out hF
          exact jx_iret E dX5_sheet_47 rfl
      · rw [if_neg hc13] at hF
        refine jx_iload_n E dX5_sheet_17 2 rfl ?_
        refine jx_bipush (x := 16) E dX5_sheet_18 (by decide) ?_
        refine jx_icmp_eq (tgt := 36) E dX5_sheet_20 (by decide) (fun hc22 => ?_) (fun hc22 => ?_)
        · rw [if_pos hc22] at hF
          refine jx_iload_n E dX5_sheet_36 3 rfl ?_
          refine jx_if_ge (tgt := 48) E dX5_sheet_37 (by decide) (fun hc23 => ?_) (fun hc23 => ?_)
          · rw [if_pos hc23] at hF
            refine jx_iload_n E dX5_sheet_48 3 rfl ?_
            refine jx_bipush (x := 40) E dX5_sheet_49 (by decide) ?_
            refine jx_icmp_le (tgt := 61) E dX5_sheet_51 (by decide) (fun hc24 => ?_) (fun hc24 => ?_)
            · rw [if_pos hc24] at hF
              refine jx_aload_n E dX5_sheet_61 0 rfl ?_
              refine jx_getr (C := RX5) (T := TX5) (M := 21) (k := 17) E dX5_sheet_62 (Nat.le_of_ble_eq_true rfl) s_M0 rfl iX5 (by decide) rfl (List.mem_cons_of_mem _ tw_583) rfl ?_
              refine jx_iload_n E dX5_sheet_65 1 rfl ?_
              refine jx_iload_n E dX5_sheet_66 2 rfl ?_
              obtain ⟨hg25, hF⟩ := jx_guard hF
              refine jx_iast (h := 9) (j := (Int32.toNatClampNeg x1)) E dX5_sheet_67 (Nat.le_of_ble_eq_true rfl) s_M9 hg25 rfl ?_
              refine jx_aload_n E dX5_sheet_68 0 rfl ?_
              refine jx_getr (C := RX5) (T := TX5) (M := 21) (k := 18) E dX5_sheet_69 (Nat.le_of_ble_eq_true rfl) s_M0 rfl iX5 (by decide) rfl (List.mem_cons_of_mem _ tw_584) rfl ?_
              refine jx_iload_n E dX5_sheet_72 1 rfl ?_
              refine jx_iload_n E dX5_sheet_73 2 rfl ?_
              refine jx_if_ne (tgt := 81) E dX5_sheet_74 (by decide) (fun hc26 => ?_) (fun hc26 => ?_)
              · rw [if_neg hc26] at hF
                refine jx_iload_n E dX5_sheet_81 3 rfl ?_
                obtain ⟨hg27, hF⟩ := jx_guard hF
                refine jx_iast (h := 10) (j := (Int32.toNatClampNeg x1)) E dX5_sheet_82 (Nat.le_of_ble_eq_true rfl) s_M10 hg27 rfl ?_
                refine jx_iconst (x := 0) E dX5_sheet_83 (by decide) ?_
                refine jx_istore (lv' := [(4, .int 0), (0, .ref (ad 0)), (1, .int x1), (2, .int x2), (3, .int x3)]) E dX5_sheet_84 (by decide) rfl ?_
                refine jx_sub [1, 2, 3, 4, 0] rfl ?_
                exact (key 100000) x1 x2 x3 0 (jx_up (jx_up v1 9 (Int32.toNatClampNeg x1) x2) 10 (Int32.toNatClampNeg x1) x3) hF
              · rw [if_pos hc26] at hF
                refine jx_iconst (x := 0) E dX5_sheet_77 (by decide) ?_
                refine jx_goto (tgt := 82) E dX5_sheet_78 (by decide) ?_
                obtain ⟨hg28, hF⟩ := jx_guard hF
                refine jx_iast (h := 10) (j := (Int32.toNatClampNeg x1)) E dX5_sheet_82 (Nat.le_of_ble_eq_true rfl) s_M10 hg28 rfl ?_
                refine jx_iconst (x := 0) E dX5_sheet_83 (by decide) ?_
                refine jx_istore (lv' := [(4, .int 0), (0, .ref (ad 0)), (1, .int x1), (2, .int x2), (3, .int x3)]) E dX5_sheet_84 (by decide) rfl ?_
                refine jx_sub [1, 2, 3, 4, 0] rfl ?_
                exact (key 100000) x1 x2 x3 0 (jx_up (jx_up v1 9 (Int32.toNatClampNeg x1) x2) 10 (Int32.toNatClampNeg x1) 0) hF
            · rw [if_neg hc24] at hF
              refine jx_aload_n E dX5_sheet_54 0 rfl ?_
              refine jx_ldc (x := -1000001) E dX5_sheet_55 (List.mem_cons_of_mem _ tw_320) ?_
              obtain ⟨⟨r29, v29⟩, hc29, hF⟩ := jx_bind hF
              try dsimp only at hF
              refine jx_callVi (As := [.int (-1000001)]) (st := []) (h := 0) E dX5_sheet_57 1 rfl (k_X5_finds hI (-1000001) v1 r29 v29 hc29) (gb_V (List.mem_cons_of_mem _ tw_344) (List.mem_cons_of_mem _ tw_345) (List.mem_cons_of_mem _ tw_346) (List.mem_cons_of_mem _ tw_325) tw_343) rfl rfl rfl dd_X5_finds rfl (Nat.le_of_ble_eq_true rfl) s_M0 rfl ⟨by decide, by decide⟩ ⟨Nat.le_refl 0, Nat.le_refl 0⟩ (Nat.le_of_ble_eq_true rfl) ?_
              obtain ⟨rfl, rfl⟩ := jx_out hF
              exact jx_iret E dX5_sheet_60 rfl
          · rw [if_neg hc23] at hF
            refine jx_aload_n E dX5_sheet_40 0 rfl ?_
            refine jx_ldcw (x := -1000007) E dX5_sheet_41 (List.mem_cons_of_mem _ tw_585) ?_
            obtain ⟨⟨r30, v30⟩, hc30, hF⟩ := jx_bind hF
            try dsimp only at hF
            refine jx_callVi (As := [.int (-1000007)]) (st := []) (h := 0) E dX5_sheet_44 1 rfl (k_X5_finds hI (-1000007) v1 r30 v30 hc30) (gb_V (List.mem_cons_of_mem _ tw_344) (List.mem_cons_of_mem _ tw_345) (List.mem_cons_of_mem _ tw_346) (List.mem_cons_of_mem _ tw_325) tw_343) rfl rfl rfl dd_X5_finds rfl (Nat.le_of_ble_eq_true rfl) s_M0 rfl ⟨by decide, by decide⟩ ⟨Nat.le_refl 0, Nat.le_refl 0⟩ (Nat.le_of_ble_eq_true rfl) ?_
            obtain ⟨rfl, rfl⟩ := jx_out hF
            exact jx_iret E dX5_sheet_47 rfl
        · rw [if_neg hc22] at hF
          refine jx_iload_n E dX5_sheet_23 2 rfl ?_
          refine jx_bipush (x := 32) E dX5_sheet_24 (by decide) ?_
          refine jx_icmp_eq (tgt := 36) E dX5_sheet_26 (by decide) (fun hc31 => ?_) (fun hc31 => ?_)
          · rw [if_pos hc31] at hF
            refine jx_iload_n E dX5_sheet_36 3 rfl ?_
            refine jx_if_ge (tgt := 48) E dX5_sheet_37 (by decide) (fun hc32 => ?_) (fun hc32 => ?_)
            · rw [if_pos hc32] at hF
              refine jx_iload_n E dX5_sheet_48 3 rfl ?_
              refine jx_bipush (x := 40) E dX5_sheet_49 (by decide) ?_
              refine jx_icmp_le (tgt := 61) E dX5_sheet_51 (by decide) (fun hc33 => ?_) (fun hc33 => ?_)
              · rw [if_pos hc33] at hF
                refine jx_aload_n E dX5_sheet_61 0 rfl ?_
                refine jx_getr (C := RX5) (T := TX5) (M := 21) (k := 17) E dX5_sheet_62 (Nat.le_of_ble_eq_true rfl) s_M0 rfl iX5 (by decide) rfl (List.mem_cons_of_mem _ tw_583) rfl ?_
                refine jx_iload_n E dX5_sheet_65 1 rfl ?_
                refine jx_iload_n E dX5_sheet_66 2 rfl ?_
                obtain ⟨hg34, hF⟩ := jx_guard hF
                refine jx_iast (h := 9) (j := (Int32.toNatClampNeg x1)) E dX5_sheet_67 (Nat.le_of_ble_eq_true rfl) s_M9 hg34 rfl ?_
                refine jx_aload_n E dX5_sheet_68 0 rfl ?_
                refine jx_getr (C := RX5) (T := TX5) (M := 21) (k := 18) E dX5_sheet_69 (Nat.le_of_ble_eq_true rfl) s_M0 rfl iX5 (by decide) rfl (List.mem_cons_of_mem _ tw_584) rfl ?_
                refine jx_iload_n E dX5_sheet_72 1 rfl ?_
                refine jx_iload_n E dX5_sheet_73 2 rfl ?_
                refine jx_if_ne (tgt := 81) E dX5_sheet_74 (by decide) (fun hc35 => ?_) (fun hc35 => ?_)
                · rw [if_neg hc35] at hF
                  refine jx_iload_n E dX5_sheet_81 3 rfl ?_
                  obtain ⟨hg36, hF⟩ := jx_guard hF
                  refine jx_iast (h := 10) (j := (Int32.toNatClampNeg x1)) E dX5_sheet_82 (Nat.le_of_ble_eq_true rfl) s_M10 hg36 rfl ?_
                  refine jx_iconst (x := 0) E dX5_sheet_83 (by decide) ?_
                  refine jx_istore (lv' := [(4, .int 0), (0, .ref (ad 0)), (1, .int x1), (2, .int x2), (3, .int x3)]) E dX5_sheet_84 (by decide) rfl ?_
                  refine jx_sub [1, 2, 3, 4, 0] rfl ?_
                  exact (key 100000) x1 x2 x3 0 (jx_up (jx_up v1 9 (Int32.toNatClampNeg x1) x2) 10 (Int32.toNatClampNeg x1) x3) hF
                · rw [if_pos hc35] at hF
                  refine jx_iconst (x := 0) E dX5_sheet_77 (by decide) ?_
                  refine jx_goto (tgt := 82) E dX5_sheet_78 (by decide) ?_
                  obtain ⟨hg37, hF⟩ := jx_guard hF
                  refine jx_iast (h := 10) (j := (Int32.toNatClampNeg x1)) E dX5_sheet_82 (Nat.le_of_ble_eq_true rfl) s_M10 hg37 rfl ?_
                  refine jx_iconst (x := 0) E dX5_sheet_83 (by decide) ?_
                  refine jx_istore (lv' := [(4, .int 0), (0, .ref (ad 0)), (1, .int x1), (2, .int x2), (3, .int x3)]) E dX5_sheet_84 (by decide) rfl ?_
                  refine jx_sub [1, 2, 3, 4, 0] rfl ?_
                  exact (key 100000) x1 x2 x3 0 (jx_up (jx_up v1 9 (Int32.toNatClampNeg x1) x2) 10 (Int32.toNatClampNeg x1) 0) hF
              · rw [if_neg hc33] at hF
                refine jx_aload_n E dX5_sheet_54 0 rfl ?_
                refine jx_ldc (x := -1000001) E dX5_sheet_55 (List.mem_cons_of_mem _ tw_320) ?_
                obtain ⟨⟨r38, v38⟩, hc38, hF⟩ := jx_bind hF
                try dsimp only at hF
                refine jx_callVi (As := [.int (-1000001)]) (st := []) (h := 0) E dX5_sheet_57 1 rfl (k_X5_finds hI (-1000001) v1 r38 v38 hc38) (gb_V (List.mem_cons_of_mem _ tw_344) (List.mem_cons_of_mem _ tw_345) (List.mem_cons_of_mem _ tw_346) (List.mem_cons_of_mem _ tw_325) tw_343) rfl rfl rfl dd_X5_finds rfl (Nat.le_of_ble_eq_true rfl) s_M0 rfl ⟨by decide, by decide⟩ ⟨Nat.le_refl 0, Nat.le_refl 0⟩ (Nat.le_of_ble_eq_true rfl) ?_
                obtain ⟨rfl, rfl⟩ := jx_out hF
                exact jx_iret E dX5_sheet_60 rfl
            · rw [if_neg hc32] at hF
              refine jx_aload_n E dX5_sheet_40 0 rfl ?_
              refine jx_ldcw (x := -1000007) E dX5_sheet_41 (List.mem_cons_of_mem _ tw_585) ?_
              obtain ⟨⟨r39, v39⟩, hc39, hF⟩ := jx_bind hF
              try dsimp only at hF
              refine jx_callVi (As := [.int (-1000007)]) (st := []) (h := 0) E dX5_sheet_44 1 rfl (k_X5_finds hI (-1000007) v1 r39 v39 hc39) (gb_V (List.mem_cons_of_mem _ tw_344) (List.mem_cons_of_mem _ tw_345) (List.mem_cons_of_mem _ tw_346) (List.mem_cons_of_mem _ tw_325) tw_343) rfl rfl rfl dd_X5_finds rfl (Nat.le_of_ble_eq_true rfl) s_M0 rfl ⟨by decide, by decide⟩ ⟨Nat.le_refl 0, Nat.le_refl 0⟩ (Nat.le_of_ble_eq_true rfl) ?_
              obtain ⟨rfl, rfl⟩ := jx_out hF
              exact jx_iret E dX5_sheet_47 rfl
          · rw [if_neg hc31] at hF
            refine jx_aload_n E dX5_sheet_29 0 rfl ?_
            refine jx_ldc (x := -1000001) E dX5_sheet_30 (List.mem_cons_of_mem _ tw_320) ?_
            obtain ⟨⟨r40, v40⟩, hc40, hF⟩ := jx_bind hF
            try dsimp only at hF
            refine jx_callVi (As := [.int (-1000001)]) (st := []) (h := 0) E dX5_sheet_32 1 rfl (k_X5_finds hI (-1000001) v1 r40 v40 hc40) (gb_V (List.mem_cons_of_mem _ tw_344) (List.mem_cons_of_mem _ tw_345) (List.mem_cons_of_mem _ tw_346) (List.mem_cons_of_mem _ tw_325) tw_343) rfl rfl rfl dd_X5_finds rfl (Nat.le_of_ble_eq_true rfl) s_M0 rfl ⟨by decide, by decide⟩ ⟨Nat.le_refl 0, Nat.le_refl 0⟩ (Nat.le_of_ble_eq_true rfl) ?_
            obtain ⟨rfl, rfl⟩ := jx_out hF
            exact jx_iret E dX5_sheet_35 rfl
def f_X5_narrowed (x0 : Int32) (x1 : Int32) (v : jx_V) : Option (Int32 × jx_V) := (if x0 = 8 then (some ((Int32.toInt8 x1).toInt32, v)) else (if x0 = 16 then (some ((Int32.toInt16 x1).toInt32, v)) else (some (x1, v))))
def rm_X5_narrowed : Room := { frames := 0, cells := 0, slots := 0, locals := 0 }
set_option maxHeartbeats 4000000 in
set_option maxRecDepth 100000 in
theorem k_X5_narrowed {l : Launch} {D : va_G} {cI cJ : ClassId} {ad : Nat → Nat} {A : Nat → Prop} (hI : jx_inj 13 ad A) (x0 : Int32) (x1 : Int32) (v : jx_V) (r : Int32) (v' : jx_V) (hF : f_X5_narrowed x0 x1 v = some (r, v')) : jx_Ci l D vwCl 13 cI cJ ad shM A ex_M yX5_narrowed (Cond.code yX5_narrowed cX5_narrowed 2 (some .int) :: bigT) rm_X5_narrowed [.int x0, .int x1] v r v' := by
  unfold f_X5_narrowed at hF
  refine jx_enteri bigT RX5 cX5_narrowed 2 (some .int) [(0, .int x0), (1, .int x1)] hI (ex_M_ok A) (by decide +kernel) rfl (Nat.le_of_ble_eq_true rfl) rfl rfl ?_
  intro p e s m args below meth c E
  refine jx_iload_n E dX5_narrowed_0 0 rfl ?_
  refine jx_bipush (x := 8) E dX5_narrowed_1 (by decide) ?_
  refine jx_icmp_ne (tgt := 11) E dX5_narrowed_3 (by decide) (fun hc1 => ?_) (fun hc1 => ?_)
  · rw [if_neg hc1] at hF
    refine jx_iload_n E dX5_narrowed_11 0 rfl ?_
    refine jx_bipush (x := 16) E dX5_narrowed_12 (by decide) ?_
    refine jx_icmp_ne (tgt := 22) E dX5_narrowed_14 (by decide) (fun hc2 => ?_) (fun hc2 => ?_)
    · rw [if_neg hc2] at hF
      refine jx_iload_n E dX5_narrowed_22 1 rfl ?_
      obtain ⟨rfl, rfl⟩ := jx_out hF
      exact jx_iret E dX5_narrowed_23 rfl
    · rw [if_pos hc2] at hF
      refine jx_iload_n E dX5_narrowed_17 1 rfl ?_
      refine jx_i2s E dX5_narrowed_18 ?_
      refine jx_goto (tgt := 23) E dX5_narrowed_19 (by decide) ?_
      obtain ⟨rfl, rfl⟩ := jx_out hF
      exact jx_iret E dX5_narrowed_23 rfl
  · rw [if_pos hc1] at hF
    refine jx_iload_n E dX5_narrowed_6 1 rfl ?_
    refine jx_i2b E dX5_narrowed_7 ?_
    refine jx_goto (tgt := 23) E dX5_narrowed_8 (by decide) ?_
    obtain ⟨rfl, rfl⟩ := jx_out hF
    exact jx_iret E dX5_narrowed_23 rfl
def f_X5_wrong (x1 : Int32) (v : jx_V) : Option (Int32 × jx_V) := ((f_X5_isOne x1 v).bind (fun (r1, v1) => (if r1 = 0 then (some ((-1000001), v1)) else (if (x1 < 0 ∨ 4 ≤ Int32.toNatClampNeg x1) then none else (if (v1 9 (Int32.toNatClampNeg x1)) = 0 then (some ((-1000006), v1)) else (some (0, v1)))))))
def rm_X5_wrong : Room := { frames := 2, cells := 0, slots := 0, locals := 45 }
set_option maxHeartbeats 4000000 in
set_option maxRecDepth 100000 in
theorem k_X5_wrong {l : Launch} {D : va_G} {cI cJ : ClassId} {ad : Nat → Nat} {A : Nat → Prop} (hI : jx_inj 13 ad A) (x1 : Int32) (v : jx_V) (r : Int32) (v' : jx_V) (hF : f_X5_wrong x1 v = some (r, v')) : jx_Ci l D vwCl 13 cI cJ ad shM A ex_M yX5_wrong (Cond.code yX5_wrong cX5_wrong 2 (some .int) :: bigT) rm_X5_wrong [.ref (ad 0), .int x1] v r v' := by
  unfold f_X5_wrong at hF
  refine jx_enteri bigT RX5 cX5_wrong 2 (some .int) [(0, .ref (ad 0)), (1, .int x1)] hI (ex_M_ok A) (by decide +kernel) rfl (Nat.le_of_ble_eq_true rfl) rfl rfl ?_
  intro p e s m args below meth c E
  have iX5 : ∀ w ∈ u_ws RX5 TX5 21, w ∈ (Cond.code yX5_wrong cX5_wrong 2 (some .int) :: bigT) := fun w h => List.mem_cons_of_mem _ (uw_X5 w h)
  refine jx_iload_n E dX5_wrong_0 1 rfl ?_
  obtain ⟨⟨r1, v1⟩, hc1, hF⟩ := jx_bind hF
  try dsimp only at hF
  refine jx_callSi (As := [.int x1]) (st := []) E dX5_wrong_1 1 rfl (k_X5_isOne hI x1 v r1 v1 hc1) (gb_S (List.mem_cons_of_mem _ tw_581) (List.mem_cons_of_mem _ tw_582) (List.mem_cons_of_mem _ tw_325) tw_580) rfl rfl rfl dd_X5_isOne rfl ⟨by decide, by decide⟩ ⟨Nat.le_refl 0, Nat.le_refl 0⟩ (Nat.le_of_ble_eq_true rfl) ?_
  refine jx_if_ne (tgt := 12) E dX5_wrong_4 (by decide) (fun hc2 => ?_) (fun hc2 => ?_)
  · rw [if_neg hc2] at hF
    refine jx_aload_n E dX5_wrong_12 0 rfl ?_
    refine jx_getr (C := RX5) (T := TX5) (M := 21) (k := 17) E dX5_wrong_13 (Nat.le_of_ble_eq_true rfl) s_M0 rfl iX5 (by decide) rfl (List.mem_cons_of_mem _ tw_583) rfl ?_
    refine jx_iload_n E dX5_wrong_16 1 rfl ?_
    obtain ⟨hg3, hF⟩ := jx_guard hF
    refine jx_iald (h := 9) (j := (Int32.toNatClampNeg x1)) E dX5_wrong_17 (Nat.le_of_ble_eq_true rfl) s_M9 hg3 rfl ?_
    refine jx_if_ne (tgt := 27) E dX5_wrong_18 (by decide) (fun hc4 => ?_) (fun hc4 => ?_)
    · rw [if_neg hc4] at hF
      refine jx_iconst (x := 0) E dX5_wrong_27 (by decide) ?_
      obtain ⟨rfl, rfl⟩ := jx_out hF
      exact jx_iret E dX5_wrong_28 rfl
    · rw [if_pos hc4] at hF
      refine jx_ldcw (x := -1000006) E dX5_wrong_21 (List.mem_cons_of_mem _ tw_578) ?_
      refine jx_goto (tgt := 28) E dX5_wrong_24 (by decide) ?_
      obtain ⟨rfl, rfl⟩ := jx_out hF
      exact jx_iret E dX5_wrong_28 rfl
  · rw [if_pos hc2] at hF
    refine jx_ldc (x := -1000001) E dX5_wrong_7 (List.mem_cons_of_mem _ tw_320) ?_
    refine jx_goto (tgt := 28) E dX5_wrong_9 (by decide) ?_
    obtain ⟨rfl, rfl⟩ := jx_out hF
    exact jx_iret E dX5_wrong_28 rfl
def f_X5_write (x1 : Int32) (x2 : Int32) (x3 : Int32) (v : jx_V) : Option (Int32 × jx_V) := ((f_X5_wrong x1 v).bind (fun (r1, v1) => (if r1 = 0 then (if (x1 < 0 ∨ 4 ≤ Int32.toNatClampNeg x1) then none else ((f_X5_in (Int32.toInt64 x2) 0 (Int32.toInt64 ((v1 10 (Int32.toNatClampNeg x1)) - 1)) v1).bind (fun (r4, v4) => (if r4 = 0 then ((f_X5_finds (-1000001) v4).bind (fun (r9, v9) => (some (r9, v9)))) else (if (x1 < 0 ∨ 4 ≤ Int32.toNatClampNeg x1) then none else ((f_X5_narrowed (v4 9 (Int32.toNatClampNeg x1)) x3 v4).bind (fun (r7, v7) => (if (((40 * x1) + x2) < 0 ∨ 160 ≤ Int32.toNatClampNeg ((40 * x1) + x2)) then none else (some (1, (jx_up v7 11 (Int32.toNatClampNeg ((40 * x1) + x2)) r7))))))))))) else ((f_X5_finds r1 v1).bind (fun (r10, v10) => (some (r10, v10)))))))
def rm_X5_write : Room := { frames := 3, cells := 0, slots := 0, locals := 66 }
set_option maxHeartbeats 4000000 in
set_option maxRecDepth 100000 in
theorem k_X5_write {l : Launch} {D : va_G} {cI cJ : ClassId} {ad : Nat → Nat} {A : Nat → Prop} (hI : jx_inj 13 ad A) (x1 : Int32) (x2 : Int32) (x3 : Int32) (v : jx_V) (r : Int32) (v' : jx_V) (hF : f_X5_write x1 x2 x3 v = some (r, v')) : jx_Ci l D vwCl 13 cI cJ ad shM A ex_M yX5_write (Cond.code yX5_write cX5_write 5 (some .int) :: bigT) rm_X5_write [.ref (ad 0), .int x1, .int x2, .int x3] v r v' := by
  unfold f_X5_write at hF
  refine jx_enteri bigT RX5 cX5_write 5 (some .int) [(0, .ref (ad 0)), (1, .int x1), (2, .int x2), (3, .int x3)] hI (ex_M_ok A) (by decide +kernel) rfl (Nat.le_of_ble_eq_true rfl) rfl rfl ?_
  intro p e s m args below meth c E
  have iX5 : ∀ w ∈ u_ws RX5 TX5 21, w ∈ (Cond.code yX5_write cX5_write 5 (some .int) :: bigT) := fun w h => List.mem_cons_of_mem _ (uw_X5 w h)
  refine jx_aload_n E dX5_write_0 0 rfl ?_
  refine jx_iload_n E dX5_write_1 1 rfl ?_
  obtain ⟨⟨r1, v1⟩, hc1, hF⟩ := jx_bind hF
  try dsimp only at hF
  refine jx_callVi (As := [.int x1]) (st := []) (h := 0) E dX5_write_2 1 rfl (k_X5_wrong hI x1 v r1 v1 hc1) (gb_V (List.mem_cons_of_mem _ tw_588) (List.mem_cons_of_mem _ tw_589) (List.mem_cons_of_mem _ tw_590) (List.mem_cons_of_mem _ tw_325) tw_587) rfl rfl rfl dd_X5_wrong rfl (Nat.le_of_ble_eq_true rfl) s_M0 rfl ⟨by decide, by decide⟩ ⟨Nat.le_refl 0, Nat.le_refl 0⟩ (Nat.le_of_ble_eq_true rfl) ?_
  refine jx_istore (lv' := [(4, .int r1), (0, .ref (ad 0)), (1, .int x1), (2, .int x2), (3, .int x3)]) E dX5_write_5 (by decide) rfl ?_
  refine jx_iload E dX5_write_7 0 rfl ?_
  refine jx_if_eq (tgt := 19) E dX5_write_9 (by decide) (fun hc2 => ?_) (fun hc2 => ?_)
  · rw [if_pos hc2] at hF
    refine jx_iload_n E dX5_write_19 3 rfl ?_
    refine jx_i2l E dX5_write_20 ?_
    refine jx_lconst (x := 0) E dX5_write_21 (by decide) ?_
    refine jx_aload_n E dX5_write_22 1 rfl ?_
    refine jx_getr (C := RX5) (T := TX5) (M := 21) (k := 18) E dX5_write_23 (Nat.le_of_ble_eq_true rfl) s_M0 rfl iX5 (by decide) rfl (List.mem_cons_of_mem _ tw_584) rfl ?_
    refine jx_iload_n E dX5_write_26 2 rfl ?_
    obtain ⟨hg3, hF⟩ := jx_guard hF
    refine jx_iald (h := 10) (j := (Int32.toNatClampNeg x1)) E dX5_write_27 (Nat.le_of_ble_eq_true rfl) s_M10 hg3 rfl ?_
    refine jx_iconst (x := 1) E dX5_write_28 (by decide) ?_
    refine jx_isub E dX5_write_29 ?_
    refine jx_i2l E dX5_write_30 ?_
    obtain ⟨⟨r4, v4⟩, hc4, hF⟩ := jx_bind hF
    try dsimp only at hF
    refine jx_callSi (As := [.long (Int32.toInt64 x2), .long 0, .long (Int32.toInt64 ((v1 10 (Int32.toNatClampNeg x1)) - 1))]) (st := []) E dX5_write_31 3 rfl (k_X5_in hI (Int32.toInt64 x2) 0 (Int32.toInt64 ((v1 10 (Int32.toNatClampNeg x1)) - 1)) v1 r4 v4 hc4) (gb_S (List.mem_cons_of_mem _ tw_323) (List.mem_cons_of_mem _ tw_324) (List.mem_cons_of_mem _ tw_325) tw_322) rfl rfl rfl dd_X5_in rfl ⟨by decide, by decide⟩ ⟨Nat.le_refl 0, Nat.le_refl 0⟩ (Nat.le_of_ble_eq_true rfl) ?_
    refine jx_if_ne (tgt := 44) E dX5_write_34 (by decide) (fun hc5 => ?_) (fun hc5 => ?_)
    · rw [if_neg hc5] at hF
      refine jx_aload_n E dX5_write_44 1 rfl ?_
      refine jx_getr (C := RX5) (T := TX5) (M := 21) (k := 19) E dX5_write_45 (Nat.le_of_ble_eq_true rfl) s_M0 rfl iX5 (by decide) rfl (List.mem_cons_of_mem _ tw_586) rfl ?_
      refine jx_bipush (x := 40) E dX5_write_48 (by decide) ?_
      refine jx_iload_n E dX5_write_50 2 rfl ?_
      refine jx_imul E dX5_write_51 ?_
      refine jx_iload_n E dX5_write_52 3 rfl ?_
      refine jx_iadd E dX5_write_53 ?_
      refine jx_aload_n E dX5_write_54 1 rfl ?_
      refine jx_getr (C := RX5) (T := TX5) (M := 21) (k := 17) E dX5_write_55 (Nat.le_of_ble_eq_true rfl) s_M0 rfl iX5 (by decide) rfl (List.mem_cons_of_mem _ tw_583) rfl ?_
      refine jx_iload_n E dX5_write_58 2 rfl ?_
      obtain ⟨hg6, hF⟩ := jx_guard hF
      refine jx_iald (h := 9) (j := (Int32.toNatClampNeg x1)) E dX5_write_59 (Nat.le_of_ble_eq_true rfl) s_M9 hg6 rfl ?_
      refine jx_iload_n E dX5_write_60 4 rfl ?_
      obtain ⟨⟨r7, v7⟩, hc7, hF⟩ := jx_bind hF
      try dsimp only at hF
      refine jx_callSi (As := [.int (v4 9 (Int32.toNatClampNeg x1)), .int x3]) (st := [.int ((40 * x1) + x2), .ref (ad 11)]) E dX5_write_61 2 rfl (k_X5_narrowed hI (v4 9 (Int32.toNatClampNeg x1)) x3 v4 r7 v7 hc7) (gb_S (List.mem_cons_of_mem _ tw_592) (List.mem_cons_of_mem _ tw_593) (List.mem_cons_of_mem _ tw_325) tw_591) rfl rfl rfl dd_X5_narrowed rfl ⟨by decide, by decide⟩ ⟨Nat.le_refl 0, Nat.le_refl 0⟩ (Nat.le_of_ble_eq_true rfl) ?_
      obtain ⟨hg8, hF⟩ := jx_guard hF
      refine jx_iast (h := 11) (j := (Int32.toNatClampNeg ((40 * x1) + x2))) E dX5_write_64 (Nat.le_of_ble_eq_true rfl) s_M11 hg8 rfl ?_
      refine jx_iconst (x := 1) E dX5_write_65 (by decide) ?_
      obtain ⟨rfl, rfl⟩ := jx_out hF
      exact jx_iret E dX5_write_66 rfl
    · rw [if_pos hc5] at hF
      refine jx_aload_n E dX5_write_37 1 rfl ?_
      refine jx_ldc (x := -1000001) E dX5_write_38 (List.mem_cons_of_mem _ tw_320) ?_
      obtain ⟨⟨r9, v9⟩, hc9, hF⟩ := jx_bind hF
      try dsimp only at hF
      refine jx_callVi (As := [.int (-1000001)]) (st := []) (h := 0) E dX5_write_40 1 rfl (k_X5_finds hI (-1000001) v4 r9 v9 hc9) (gb_V (List.mem_cons_of_mem _ tw_344) (List.mem_cons_of_mem _ tw_345) (List.mem_cons_of_mem _ tw_346) (List.mem_cons_of_mem _ tw_325) tw_343) rfl rfl rfl dd_X5_finds rfl (Nat.le_of_ble_eq_true rfl) s_M0 rfl ⟨by decide, by decide⟩ ⟨Nat.le_refl 0, Nat.le_refl 0⟩ (Nat.le_of_ble_eq_true rfl) ?_
      obtain ⟨rfl, rfl⟩ := jx_out hF
      exact jx_iret E dX5_write_43 rfl
  · rw [if_neg hc2] at hF
    refine jx_aload_n E dX5_write_12 1 rfl ?_
    refine jx_iload E dX5_write_13 0 rfl ?_
    obtain ⟨⟨r10, v10⟩, hc10, hF⟩ := jx_bind hF
    try dsimp only at hF
    refine jx_callVi (As := [.int r1]) (st := []) (h := 0) E dX5_write_15 1 rfl (k_X5_finds hI r1 v1 r10 v10 hc10) (gb_V (List.mem_cons_of_mem _ tw_344) (List.mem_cons_of_mem _ tw_345) (List.mem_cons_of_mem _ tw_346) (List.mem_cons_of_mem _ tw_325) tw_343) rfl rfl rfl dd_X5_finds rfl (Nat.le_of_ble_eq_true rfl) s_M0 rfl ⟨by decide, by decide⟩ ⟨Nat.le_refl 0, Nat.le_refl 0⟩ (Nat.le_of_ble_eq_true rfl) ?_
    obtain ⟨rfl, rfl⟩ := jx_out hF
    exact jx_iret E dX5_write_18 rfl
def f_X5_copy_L  : Nat → Nat → Int32 → Int32 → Int32 → Int32 → Int32 → Int32 → jx_V → Option (Int32 × jx_V)
  | 0, _, _, _, _, _, _, _, _ => none
  | n + 1, tag, x1, x2, x3, x4, x5, x6, v => (if tag = 0 then (if x5 ≤ x6 then (f_X5_copy_L n 1 x1 x2 x3 x4 x5 0 v) else (if ((((40 * x1) + x2) + x6) < 0 ∨ 160 ≤ Int32.toNatClampNeg (((40 * x1) + x2) + x6)) then none else (if (x6 < 0 ∨ 40 ≤ Int32.toNatClampNeg x6) then none else (f_X5_copy_L n 0 x1 x2 x3 x4 x5 (x6 + 1) (jx_up v 12 (Int32.toNatClampNeg x6) (v 11 (Int32.toNatClampNeg (((40 * x1) + x2) + x6)))))))) else (if tag = 1 then (if x5 ≤ x6 then (some (x5, v)) else (if (x6 < 0 ∨ 40 ≤ Int32.toNatClampNeg x6) then none else (if ((((40 * x3) + x4) + x6) < 0 ∨ 160 ≤ Int32.toNatClampNeg (((40 * x3) + x4) + x6)) then none else (f_X5_copy_L n 1 x1 x2 x3 x4 x5 (x6 + 1) (jx_up v 11 (Int32.toNatClampNeg (((40 * x3) + x4) + x6)) (v 12 (Int32.toNatClampNeg x6))))))) else none))
def f_X5_copy (x1 : Int32) (x2 : Int32) (x3 : Int32) (x4 : Int32) (x5 : Int32) (v : jx_V) : Option (Int32 × jx_V) := ((f_X5_isOne x1 v).bind (fun (r1, v1) => (if r1 = 0 then ((f_X5_finds (-1000001) v1).bind (fun (r3, v3) => (some (r3, v3)))) else ((f_X5_isOne x3 v1).bind (fun (r4, v4) => (if r4 = 0 then ((f_X5_finds (-1000001) v4).bind (fun (r28, v28) => (some (r28, v28)))) else (if (x1 < 0 ∨ 4 ≤ Int32.toNatClampNeg x1) then none else (if (v4 9 (Int32.toNatClampNeg x1)) = 0 then ((f_X5_finds (-1000006) v4).bind (fun (r8, v8) => (some (r8, v8)))) else (if (x3 < 0 ∨ 4 ≤ Int32.toNatClampNeg x3) then none else (if (v4 9 (Int32.toNatClampNeg x3)) = 0 then ((f_X5_finds (-1000006) v4).bind (fun (r27, v27) => (some (r27, v27)))) else (if (x1 < 0 ∨ 4 ≤ Int32.toNatClampNeg x1) then none else (if (x3 < 0 ∨ 4 ≤ Int32.toNatClampNeg x3) then none else (if (v4 9 (Int32.toNatClampNeg x1)) = (v4 9 (Int32.toNatClampNeg x3)) then (if x2 < 0 then ((f_X5_finds (-1000001) v4).bind (fun (r15, v15) => (some (r15, v15)))) else (if x4 < 0 then ((f_X5_finds (-1000001) v4).bind (fun (r17, v17) => (some (r17, v17)))) else (if x5 < 0 then ((f_X5_finds (-1000001) v4).bind (fun (r19, v19) => (some (r19, v19)))) else (if (x1 < 0 ∨ 4 ≤ Int32.toNatClampNeg x1) then none else (if ((v4 10 (Int32.toNatClampNeg x1)) - x2) < x5 then ((f_X5_finds (-1000001) v4).bind (fun (r22, v22) => (some (r22, v22)))) else (if (x3 < 0 ∨ 4 ≤ Int32.toNatClampNeg x3) then none else (if x5 ≤ ((v4 10 (Int32.toNatClampNeg x3)) - x4) then (f_X5_copy_L 100000 0 x1 x2 x3 x4 x5 0 v4) else ((f_X5_finds (-1000001) v4).bind (fun (r25, v25) => (some (r25, v25))))))))))) else ((f_X5_finds (-1000003) v4).bind (fun (r26, v26) => (some (r26, v26)))))))))))))))))
def rm_X5_copy : Room := { frames := 2, cells := 0, slots := 0, locals := 45 }
set_option maxHeartbeats 4000000 in
set_option maxRecDepth 100000 in
theorem k_X5_copy {l : Launch} {D : va_G} {cI cJ : ClassId} {ad : Nat → Nat} {A : Nat → Prop} (hI : jx_inj 13 ad A) (x1 : Int32) (x2 : Int32) (x3 : Int32) (x4 : Int32) (x5 : Int32) (v : jx_V) (r : Int32) (v' : jx_V) (hF : f_X5_copy x1 x2 x3 x4 x5 v = some (r, v')) : jx_Ci l D vwCl 13 cI cJ ad shM A ex_M yX5_copy (Cond.code yX5_copy cX5_copy 7 (some .int) :: bigT) rm_X5_copy [.ref (ad 0), .int x1, .int x2, .int x3, .int x4, .int x5] v r v' := by
  unfold f_X5_copy at hF
  refine jx_enteri bigT RX5 cX5_copy 7 (some .int) [(0, .ref (ad 0)), (1, .int x1), (2, .int x2), (3, .int x3), (4, .int x4), (5, .int x5)] hI (ex_M_ok A) (by decide +kernel) rfl (Nat.le_of_ble_eq_true rfl) rfl rfl ?_
  intro p e s m args below meth c E
  have iX5 : ∀ w ∈ u_ws RX5 TX5 21, w ∈ (Cond.code yX5_copy cX5_copy 7 (some .int) :: bigT) := fun w h => List.mem_cons_of_mem _ (uw_X5 w h)
  have key : ∀ n : Nat, (∀ (x1 : Int32) (x2 : Int32) (x3 : Int32) (x4 : Int32) (x5 : Int32) (x6 : Int32) (v : jx_V), f_X5_copy_L  n 0 x1 x2 x3 x4 x5 x6 v = some (r, v') → jx_J p l e rm_X5_copy s m args below meth c D vwCl 13 cI cJ ad shM A 0 0 7 (MQ below (va_Qi (fun (r1 : Int32) (_ : Unit) => r1 = r) (fun _ t => va_P D vwCl (jx_ws 13 cI cJ ad shM v') t.heap) A) args s 0 0 A) v 121 [(0, .ref (ad 0)), (1, .int x1), (2, .int x2), (3, .int x3), (4, .int x4), (5, .int x5), (6, .int x6)] []) ∧ (∀ (x1 : Int32) (x2 : Int32) (x3 : Int32) (x4 : Int32) (x5 : Int32) (x6 : Int32) (v : jx_V), f_X5_copy_L  n 1 x1 x2 x3 x4 x5 x6 v = some (r, v') → jx_J p l e rm_X5_copy s m args below meth c D vwCl 13 cI cJ ad shM A 0 0 7 (MQ below (va_Qi (fun (r1 : Int32) (_ : Unit) => r1 = r) (fun _ t => va_P D vwCl (jx_ws 13 cI cJ ad shM v') t.heap) A) args s 0 0 A) v 158 [(0, .ref (ad 0)), (1, .int x1), (2, .int x2), (3, .int x3), (4, .int x4), (5, .int x5), (6, .int x6)] []) := by
    intro n
    induction n with
    | zero =>
      exact ⟨(fun _ _ _ _ _ _ _ h => by cases h), (fun _ _ _ _ _ _ _ h => by cases h)⟩
    | succ n ih =>
      refine ⟨?_, ?_⟩
      · intro x1 x2 x3 x4 x5 x6 v hF
        rw [f_X5_copy_L] at hF
        rw [if_pos rfl] at hF
        refine jx_iload E dX5_copy_121 6 rfl ?_
        refine jx_iload E dX5_copy_123 5 rfl ?_
        refine jx_icmp_ge (tgt := 155) E dX5_copy_125 (by decide) (fun hc29 => ?_) (fun hc29 => ?_)
        · rw [if_pos hc29] at hF
          refine jx_iconst (x := 0) E dX5_copy_155 (by decide) ?_
          refine jx_istore (lv' := [(6, .int 0), (0, .ref (ad 0)), (1, .int x1), (2, .int x2), (3, .int x3), (4, .int x4), (5, .int x5)]) E dX5_copy_156 (by decide) rfl ?_
          refine jx_sub [1, 2, 3, 4, 5, 6, 0] rfl ?_
          exact ih.2 x1 x2 x3 x4 x5 0 v hF
        · rw [if_neg hc29] at hF
          refine jx_aload_n E dX5_copy_128 0 rfl ?_
          refine jx_getr (C := RX5) (T := TX5) (M := 21) (k := 20) E dX5_copy_129 (Nat.le_of_ble_eq_true rfl) s_M0 rfl iX5 (by decide) rfl (List.mem_cons_of_mem _ tw_594) rfl ?_
          refine jx_iload E dX5_copy_132 6 rfl ?_
          refine jx_aload_n E dX5_copy_134 0 rfl ?_
          refine jx_getr (C := RX5) (T := TX5) (M := 21) (k := 19) E dX5_copy_135 (Nat.le_of_ble_eq_true rfl) s_M0 rfl iX5 (by decide) rfl (List.mem_cons_of_mem _ tw_586) rfl ?_
          refine jx_bipush (x := 40) E dX5_copy_138 (by decide) ?_
          refine jx_iload_n E dX5_copy_140 1 rfl ?_
          refine jx_imul E dX5_copy_141 ?_
          refine jx_iload_n E dX5_copy_142 2 rfl ?_
          refine jx_iadd E dX5_copy_143 ?_
          refine jx_iload E dX5_copy_144 6 rfl ?_
          refine jx_iadd E dX5_copy_146 ?_
          obtain ⟨hg30, hF⟩ := jx_guard hF
          refine jx_iald (h := 11) (j := (Int32.toNatClampNeg (((40 * x1) + x2) + x6))) E dX5_copy_147 (Nat.le_of_ble_eq_true rfl) s_M11 hg30 rfl ?_
          obtain ⟨hg31, hF⟩ := jx_guard hF
          refine jx_iast (h := 12) (j := (Int32.toNatClampNeg x6)) E dX5_copy_148 (Nat.le_of_ble_eq_true rfl) s_M12 hg31 rfl ?_
          refine jx_iinc (y := (x6 + 1)) (lv' := [(6, .int (x6 + 1)), (0, .ref (ad 0)), (1, .int x1), (2, .int x2), (3, .int x3), (4, .int x4), (5, .int x5)]) E dX5_copy_149 6 rfl rfl (by decide) rfl ?_
          refine jx_goto (tgt := 121) E dX5_copy_152 (by decide) ?_
          refine jx_sub [1, 2, 3, 4, 5, 6, 0] rfl ?_
          exact ih.1 x1 x2 x3 x4 x5 (x6 + 1) (jx_up v 12 (Int32.toNatClampNeg x6) (v 11 (Int32.toNatClampNeg (((40 * x1) + x2) + x6)))) hF
      · intro x1 x2 x3 x4 x5 x6 v hF
        rw [f_X5_copy_L] at hF
        rw [if_neg (by decide), if_pos rfl] at hF
        refine jx_iload E dX5_copy_158 6 rfl ?_
        refine jx_iload E dX5_copy_160 5 rfl ?_
        refine jx_icmp_ge (tgt := 193) E dX5_copy_162 (by decide) (fun hc32 => ?_) (fun hc32 => ?_)
        · rw [if_pos hc32] at hF
          refine jx_iload E dX5_copy_193 5 rfl ?_
          obtain ⟨rfl, rfl⟩ := jx_out hF
          exact jx_iret E dX5_copy_195 rfl
        · rw [if_neg hc32] at hF
          refine jx_aload_n E dX5_copy_165 0 rfl ?_
          refine jx_getr (C := RX5) (T := TX5) (M := 21) (k := 19) E dX5_copy_166 (Nat.le_of_ble_eq_true rfl) s_M0 rfl iX5 (by decide) rfl (List.mem_cons_of_mem _ tw_586) rfl ?_
          refine jx_bipush (x := 40) E dX5_copy_169 (by decide) ?_
          refine jx_iload_n E dX5_copy_171 3 rfl ?_
          refine jx_imul E dX5_copy_172 ?_
          refine jx_iload E dX5_copy_173 4 rfl ?_
          refine jx_iadd E dX5_copy_175 ?_
          refine jx_iload E dX5_copy_176 6 rfl ?_
          refine jx_iadd E dX5_copy_178 ?_
          refine jx_aload_n E dX5_copy_179 0 rfl ?_
          refine jx_getr (C := RX5) (T := TX5) (M := 21) (k := 20) E dX5_copy_180 (Nat.le_of_ble_eq_true rfl) s_M0 rfl iX5 (by decide) rfl (List.mem_cons_of_mem _ tw_594) rfl ?_
          refine jx_iload E dX5_copy_183 6 rfl ?_
          obtain ⟨hg33, hF⟩ := jx_guard hF
          refine jx_iald (h := 12) (j := (Int32.toNatClampNeg x6)) E dX5_copy_185 (Nat.le_of_ble_eq_true rfl) s_M12 hg33 rfl ?_
          obtain ⟨hg34, hF⟩ := jx_guard hF
          refine jx_iast (h := 11) (j := (Int32.toNatClampNeg (((40 * x3) + x4) + x6))) E dX5_copy_186 (Nat.le_of_ble_eq_true rfl) s_M11 hg34 rfl ?_
          refine jx_iinc (y := (x6 + 1)) (lv' := [(6, .int (x6 + 1)), (0, .ref (ad 0)), (1, .int x1), (2, .int x2), (3, .int x3), (4, .int x4), (5, .int x5)]) E dX5_copy_187 6 rfl rfl (by decide) rfl ?_
          refine jx_goto (tgt := 158) E dX5_copy_190 (by decide) ?_
          refine jx_sub [1, 2, 3, 4, 5, 6, 0] rfl ?_
          exact ih.2 x1 x2 x3 x4 x5 (x6 + 1) (jx_up v 11 (Int32.toNatClampNeg (((40 * x3) + x4) + x6)) (v 12 (Int32.toNatClampNeg x6))) hF
  refine jx_iload_n E dX5_copy_0 1 rfl ?_
  obtain ⟨⟨r1, v1⟩, hc1, hF⟩ := jx_bind hF
  try dsimp only at hF
  refine jx_callSi (As := [.int x1]) (st := []) E dX5_copy_1 1 rfl (k_X5_isOne hI x1 v r1 v1 hc1) (gb_S (List.mem_cons_of_mem _ tw_581) (List.mem_cons_of_mem _ tw_582) (List.mem_cons_of_mem _ tw_325) tw_580) rfl rfl rfl dd_X5_isOne rfl ⟨by decide, by decide⟩ ⟨Nat.le_refl 0, Nat.le_refl 0⟩ (Nat.le_of_ble_eq_true rfl) ?_
  refine jx_if_eq (tgt := 14) E dX5_copy_4 (by decide) (fun hc2 => ?_) (fun hc2 => ?_)
  · rw [if_pos hc2] at hF
    refine jx_aload_n E dX5_copy_14 0 rfl ?_
    refine jx_ldc (x := -1000001) E dX5_copy_15 (List.mem_cons_of_mem _ tw_320) ?_
    obtain ⟨⟨r3, v3⟩, hc3, hF⟩ := jx_bind hF
    try dsimp only at hF
    refine jx_callVi (As := [.int (-1000001)]) (st := []) (h := 0) E dX5_copy_17 1 rfl (k_X5_finds hI (-1000001) v1 r3 v3 hc3) (gb_V (List.mem_cons_of_mem _ tw_344) (List.mem_cons_of_mem _ tw_345) (List.mem_cons_of_mem _ tw_346) (List.mem_cons_of_mem _ tw_325) tw_343) rfl rfl rfl dd_X5_finds rfl (Nat.le_of_ble_eq_true rfl) s_M0 rfl ⟨by decide, by decide⟩ ⟨Nat.le_refl 0, Nat.le_refl 0⟩ (Nat.le_of_ble_eq_true rfl) ?_
    obtain ⟨rfl, rfl⟩ := jx_out hF
    exact jx_iret E dX5_copy_20 rfl
  · rw [if_neg hc2] at hF
    refine jx_iload_n E dX5_copy_7 3 rfl ?_
    obtain ⟨⟨r4, v4⟩, hc4, hF⟩ := jx_bind hF
    try dsimp only at hF
    refine jx_callSi (As := [.int x3]) (st := []) E dX5_copy_8 1 rfl (k_X5_isOne hI x3 v1 r4 v4 hc4) (gb_S (List.mem_cons_of_mem _ tw_581) (List.mem_cons_of_mem _ tw_582) (List.mem_cons_of_mem _ tw_325) tw_580) rfl rfl rfl dd_X5_isOne rfl ⟨by decide, by decide⟩ ⟨Nat.le_refl 0, Nat.le_refl 0⟩ (Nat.le_of_ble_eq_true rfl) ?_
    refine jx_if_ne (tgt := 21) E dX5_copy_11 (by decide) (fun hc5 => ?_) (fun hc5 => ?_)
    · rw [if_neg hc5] at hF
      refine jx_aload_n E dX5_copy_21 0 rfl ?_
      refine jx_getr (C := RX5) (T := TX5) (M := 21) (k := 17) E dX5_copy_22 (Nat.le_of_ble_eq_true rfl) s_M0 rfl iX5 (by decide) rfl (List.mem_cons_of_mem _ tw_583) rfl ?_
      refine jx_iload_n E dX5_copy_25 1 rfl ?_
      obtain ⟨hg6, hF⟩ := jx_guard hF
      refine jx_iald (h := 9) (j := (Int32.toNatClampNeg x1)) E dX5_copy_26 (Nat.le_of_ble_eq_true rfl) s_M9 hg6 rfl ?_
      refine jx_if_eq (tgt := 39) E dX5_copy_27 (by decide) (fun hc7 => ?_) (fun hc7 => ?_)
      · rw [if_pos hc7] at hF
        refine jx_aload_n E dX5_copy_39 0 rfl ?_
        refine jx_ldcw (x := -1000006) E dX5_copy_40 (List.mem_cons_of_mem _ tw_578) ?_
        obtain ⟨⟨r8, v8⟩, hc8, hF⟩ := jx_bind hF
        try dsimp only at hF
        refine jx_callVi (As := [.int (-1000006)]) (st := []) (h := 0) E dX5_copy_43 1 rfl (k_X5_finds hI (-1000006) v4 r8 v8 hc8) (gb_V (List.mem_cons_of_mem _ tw_344) (List.mem_cons_of_mem _ tw_345) (List.mem_cons_of_mem _ tw_346) (List.mem_cons_of_mem _ tw_325) tw_343) rfl rfl rfl dd_X5_finds rfl (Nat.le_of_ble_eq_true rfl) s_M0 rfl ⟨by decide, by decide⟩ ⟨Nat.le_refl 0, Nat.le_refl 0⟩ (Nat.le_of_ble_eq_true rfl) ?_
        obtain ⟨rfl, rfl⟩ := jx_out hF
        exact jx_iret E dX5_copy_46 rfl
      · rw [if_neg hc7] at hF
        refine jx_aload_n E dX5_copy_30 0 rfl ?_
        refine jx_getr (C := RX5) (T := TX5) (M := 21) (k := 17) E dX5_copy_31 (Nat.le_of_ble_eq_true rfl) s_M0 rfl iX5 (by decide) rfl (List.mem_cons_of_mem _ tw_583) rfl ?_
        refine jx_iload_n E dX5_copy_34 3 rfl ?_
        obtain ⟨hg9, hF⟩ := jx_guard hF
        refine jx_iald (h := 9) (j := (Int32.toNatClampNeg x3)) E dX5_copy_35 (Nat.le_of_ble_eq_true rfl) s_M9 hg9 rfl ?_
        refine jx_if_ne (tgt := 47) E dX5_copy_36 (by decide) (fun hc10 => ?_) (fun hc10 => ?_)
        · rw [if_neg hc10] at hF
          refine jx_aload_n E dX5_copy_47 0 rfl ?_
          refine jx_getr (C := RX5) (T := TX5) (M := 21) (k := 17) E dX5_copy_48 (Nat.le_of_ble_eq_true rfl) s_M0 rfl iX5 (by decide) rfl (List.mem_cons_of_mem _ tw_583) rfl ?_
          refine jx_iload_n E dX5_copy_51 1 rfl ?_
          obtain ⟨hg11, hF⟩ := jx_guard hF
          refine jx_iald (h := 9) (j := (Int32.toNatClampNeg x1)) E dX5_copy_52 (Nat.le_of_ble_eq_true rfl) s_M9 hg11 rfl ?_
          refine jx_aload_n E dX5_copy_53 0 rfl ?_
          refine jx_getr (C := RX5) (T := TX5) (M := 21) (k := 17) E dX5_copy_54 (Nat.le_of_ble_eq_true rfl) s_M0 rfl iX5 (by decide) rfl (List.mem_cons_of_mem _ tw_583) rfl ?_
          refine jx_iload_n E dX5_copy_57 3 rfl ?_
          obtain ⟨hg12, hF⟩ := jx_guard hF
          refine jx_iald (h := 9) (j := (Int32.toNatClampNeg x3)) E dX5_copy_58 (Nat.le_of_ble_eq_true rfl) s_M9 hg12 rfl ?_
          refine jx_icmp_eq (tgt := 70) E dX5_copy_59 (by decide) (fun hc13 => ?_) (fun hc13 => ?_)
          · rw [if_pos hc13] at hF
            refine jx_iload_n E dX5_copy_70 2 rfl ?_
            refine jx_if_lt (tgt := 111) E dX5_copy_71 (by decide) (fun hc14 => ?_) (fun hc14 => ?_)
            · rw [if_pos hc14] at hF
              refine jx_aload_n E dX5_copy_111 0 rfl ?_
              refine jx_ldc (x := -1000001) E dX5_copy_112 (List.mem_cons_of_mem _ tw_320) ?_
              obtain ⟨⟨r15, v15⟩, hc15, hF⟩ := jx_bind hF
              try dsimp only at hF
              refine jx_callVi (As := [.int (-1000001)]) (st := []) (h := 0) E dX5_copy_114 1 rfl (k_X5_finds hI (-1000001) v4 r15 v15 hc15) (gb_V (List.mem_cons_of_mem _ tw_344) (List.mem_cons_of_mem _ tw_345) (List.mem_cons_of_mem _ tw_346) (List.mem_cons_of_mem _ tw_325) tw_343) rfl rfl rfl dd_X5_finds rfl (Nat.le_of_ble_eq_true rfl) s_M0 rfl ⟨by decide, by decide⟩ ⟨Nat.le_refl 0, Nat.le_refl 0⟩ (Nat.le_of_ble_eq_true rfl) ?_
              obtain ⟨rfl, rfl⟩ := jx_out hF
              exact jx_iret E dX5_copy_117 rfl
            · rw [if_neg hc14] at hF
              refine jx_iload E dX5_copy_74 4 rfl ?_
              refine jx_if_lt (tgt := 111) E dX5_copy_76 (by decide) (fun hc16 => ?_) (fun hc16 => ?_)
              · rw [if_pos hc16] at hF
                refine jx_aload_n E dX5_copy_111 0 rfl ?_
                refine jx_ldc (x := -1000001) E dX5_copy_112 (List.mem_cons_of_mem _ tw_320) ?_
                obtain ⟨⟨r17, v17⟩, hc17, hF⟩ := jx_bind hF
                try dsimp only at hF
                refine jx_callVi (As := [.int (-1000001)]) (st := []) (h := 0) E dX5_copy_114 1 rfl (k_X5_finds hI (-1000001) v4 r17 v17 hc17) (gb_V (List.mem_cons_of_mem _ tw_344) (List.mem_cons_of_mem _ tw_345) (List.mem_cons_of_mem _ tw_346) (List.mem_cons_of_mem _ tw_325) tw_343) rfl rfl rfl dd_X5_finds rfl (Nat.le_of_ble_eq_true rfl) s_M0 rfl ⟨by decide, by decide⟩ ⟨Nat.le_refl 0, Nat.le_refl 0⟩ (Nat.le_of_ble_eq_true rfl) ?_
                obtain ⟨rfl, rfl⟩ := jx_out hF
                exact jx_iret E dX5_copy_117 rfl
              · rw [if_neg hc16] at hF
                refine jx_iload E dX5_copy_79 5 rfl ?_
                refine jx_if_lt (tgt := 111) E dX5_copy_81 (by decide) (fun hc18 => ?_) (fun hc18 => ?_)
                · rw [if_pos hc18] at hF
                  refine jx_aload_n E dX5_copy_111 0 rfl ?_
                  refine jx_ldc (x := -1000001) E dX5_copy_112 (List.mem_cons_of_mem _ tw_320) ?_
                  obtain ⟨⟨r19, v19⟩, hc19, hF⟩ := jx_bind hF
                  try dsimp only at hF
                  refine jx_callVi (As := [.int (-1000001)]) (st := []) (h := 0) E dX5_copy_114 1 rfl (k_X5_finds hI (-1000001) v4 r19 v19 hc19) (gb_V (List.mem_cons_of_mem _ tw_344) (List.mem_cons_of_mem _ tw_345) (List.mem_cons_of_mem _ tw_346) (List.mem_cons_of_mem _ tw_325) tw_343) rfl rfl rfl dd_X5_finds rfl (Nat.le_of_ble_eq_true rfl) s_M0 rfl ⟨by decide, by decide⟩ ⟨Nat.le_refl 0, Nat.le_refl 0⟩ (Nat.le_of_ble_eq_true rfl) ?_
                  obtain ⟨rfl, rfl⟩ := jx_out hF
                  exact jx_iret E dX5_copy_117 rfl
                · rw [if_neg hc18] at hF
                  refine jx_iload E dX5_copy_84 5 rfl ?_
                  refine jx_aload_n E dX5_copy_86 0 rfl ?_
                  refine jx_getr (C := RX5) (T := TX5) (M := 21) (k := 18) E dX5_copy_87 (Nat.le_of_ble_eq_true rfl) s_M0 rfl iX5 (by decide) rfl (List.mem_cons_of_mem _ tw_584) rfl ?_
                  refine jx_iload_n E dX5_copy_90 1 rfl ?_
                  obtain ⟨hg20, hF⟩ := jx_guard hF
                  refine jx_iald (h := 10) (j := (Int32.toNatClampNeg x1)) E dX5_copy_91 (Nat.le_of_ble_eq_true rfl) s_M10 hg20 rfl ?_
                  refine jx_iload_n E dX5_copy_92 2 rfl ?_
                  refine jx_isub E dX5_copy_93 ?_
                  refine jx_icmp_gt (tgt := 111) E dX5_copy_94 (by decide) (fun hc21 => ?_) (fun hc21 => ?_)
                  · rw [if_pos hc21] at hF
                    refine jx_aload_n E dX5_copy_111 0 rfl ?_
                    refine jx_ldc (x := -1000001) E dX5_copy_112 (List.mem_cons_of_mem _ tw_320) ?_
                    obtain ⟨⟨r22, v22⟩, hc22, hF⟩ := jx_bind hF
                    try dsimp only at hF
                    refine jx_callVi (As := [.int (-1000001)]) (st := []) (h := 0) E dX5_copy_114 1 rfl (k_X5_finds hI (-1000001) v4 r22 v22 hc22) (gb_V (List.mem_cons_of_mem _ tw_344) (List.mem_cons_of_mem _ tw_345) (List.mem_cons_of_mem _ tw_346) (List.mem_cons_of_mem _ tw_325) tw_343) rfl rfl rfl dd_X5_finds rfl (Nat.le_of_ble_eq_true rfl) s_M0 rfl ⟨by decide, by decide⟩ ⟨Nat.le_refl 0, Nat.le_refl 0⟩ (Nat.le_of_ble_eq_true rfl) ?_
                    obtain ⟨rfl, rfl⟩ := jx_out hF
                    exact jx_iret E dX5_copy_117 rfl
                  · rw [if_neg hc21] at hF
                    refine jx_iload E dX5_copy_97 5 rfl ?_
                    refine jx_aload_n E dX5_copy_99 0 rfl ?_
                    refine jx_getr (C := RX5) (T := TX5) (M := 21) (k := 18) E dX5_copy_100 (Nat.le_of_ble_eq_true rfl) s_M0 rfl iX5 (by decide) rfl (List.mem_cons_of_mem _ tw_584) rfl ?_
                    refine jx_iload_n E dX5_copy_103 3 rfl ?_
                    obtain ⟨hg23, hF⟩ := jx_guard hF
                    refine jx_iald (h := 10) (j := (Int32.toNatClampNeg x3)) E dX5_copy_104 (Nat.le_of_ble_eq_true rfl) s_M10 hg23 rfl ?_
                    refine jx_iload E dX5_copy_105 4 rfl ?_
                    refine jx_isub E dX5_copy_107 ?_
                    refine jx_icmp_le (tgt := 118) E dX5_copy_108 (by decide) (fun hc24 => ?_) (fun hc24 => ?_)
                    · rw [if_pos hc24] at hF
                      refine jx_iconst (x := 0) E dX5_copy_118 (by decide) ?_
                      refine jx_istore (lv' := [(6, .int 0), (0, .ref (ad 0)), (1, .int x1), (2, .int x2), (3, .int x3), (4, .int x4), (5, .int x5)]) E dX5_copy_119 (by decide) rfl ?_
                      refine jx_sub [1, 2, 3, 4, 5, 6, 0] rfl ?_
                      exact (key 100000).1 x1 x2 x3 x4 x5 0 v4 hF
                    · rw [if_neg hc24] at hF
                      refine jx_aload_n E dX5_copy_111 0 rfl ?_
                      refine jx_ldc (x := -1000001) E dX5_copy_112 (List.mem_cons_of_mem _ tw_320) ?_
                      obtain ⟨⟨r25, v25⟩, hc25, hF⟩ := jx_bind hF
                      try dsimp only at hF
                      refine jx_callVi (As := [.int (-1000001)]) (st := []) (h := 0) E dX5_copy_114 1 rfl (k_X5_finds hI (-1000001) v4 r25 v25 hc25) (gb_V (List.mem_cons_of_mem _ tw_344) (List.mem_cons_of_mem _ tw_345) (List.mem_cons_of_mem _ tw_346) (List.mem_cons_of_mem _ tw_325) tw_343) rfl rfl rfl dd_X5_finds rfl (Nat.le_of_ble_eq_true rfl) s_M0 rfl ⟨by decide, by decide⟩ ⟨Nat.le_refl 0, Nat.le_refl 0⟩ (Nat.le_of_ble_eq_true rfl) ?_
                      obtain ⟨rfl, rfl⟩ := jx_out hF
                      exact jx_iret E dX5_copy_117 rfl
          · rw [if_neg hc13] at hF
            refine jx_aload_n E dX5_copy_62 0 rfl ?_
            refine jx_ldcw (x := -1000003) E dX5_copy_63 (List.mem_cons_of_mem _ tw_579) ?_
            obtain ⟨⟨r26, v26⟩, hc26, hF⟩ := jx_bind hF
            try dsimp only at hF
            refine jx_callVi (As := [.int (-1000003)]) (st := []) (h := 0) E dX5_copy_66 1 rfl (k_X5_finds hI (-1000003) v4 r26 v26 hc26) (gb_V (List.mem_cons_of_mem _ tw_344) (List.mem_cons_of_mem _ tw_345) (List.mem_cons_of_mem _ tw_346) (List.mem_cons_of_mem _ tw_325) tw_343) rfl rfl rfl dd_X5_finds rfl (Nat.le_of_ble_eq_true rfl) s_M0 rfl ⟨by decide, by decide⟩ ⟨Nat.le_refl 0, Nat.le_refl 0⟩ (Nat.le_of_ble_eq_true rfl) ?_
            obtain ⟨rfl, rfl⟩ := jx_out hF
            exact jx_iret E dX5_copy_69 rfl
        · rw [if_pos hc10] at hF
          refine jx_aload_n E dX5_copy_39 0 rfl ?_
          refine jx_ldcw (x := -1000006) E dX5_copy_40 (List.mem_cons_of_mem _ tw_578) ?_
          obtain ⟨⟨r27, v27⟩, hc27, hF⟩ := jx_bind hF
          try dsimp only at hF
          refine jx_callVi (As := [.int (-1000006)]) (st := []) (h := 0) E dX5_copy_43 1 rfl (k_X5_finds hI (-1000006) v4 r27 v27 hc27) (gb_V (List.mem_cons_of_mem _ tw_344) (List.mem_cons_of_mem _ tw_345) (List.mem_cons_of_mem _ tw_346) (List.mem_cons_of_mem _ tw_325) tw_343) rfl rfl rfl dd_X5_finds rfl (Nat.le_of_ble_eq_true rfl) s_M0 rfl ⟨by decide, by decide⟩ ⟨Nat.le_refl 0, Nat.le_refl 0⟩ (Nat.le_of_ble_eq_true rfl) ?_
          obtain ⟨rfl, rfl⟩ := jx_out hF
          exact jx_iret E dX5_copy_46 rfl
    · rw [if_pos hc5] at hF
      refine jx_aload_n E dX5_copy_14 0 rfl ?_
      refine jx_ldc (x := -1000001) E dX5_copy_15 (List.mem_cons_of_mem _ tw_320) ?_
      obtain ⟨⟨r28, v28⟩, hc28, hF⟩ := jx_bind hF
      try dsimp only at hF
      refine jx_callVi (As := [.int (-1000001)]) (st := []) (h := 0) E dX5_copy_17 1 rfl (k_X5_finds hI (-1000001) v4 r28 v28 hc28) (gb_V (List.mem_cons_of_mem _ tw_344) (List.mem_cons_of_mem _ tw_345) (List.mem_cons_of_mem _ tw_346) (List.mem_cons_of_mem _ tw_325) tw_343) rfl rfl rfl dd_X5_finds rfl (Nat.le_of_ble_eq_true rfl) s_M0 rfl ⟨by decide, by decide⟩ ⟨Nat.le_refl 0, Nat.le_refl 0⟩ (Nat.le_of_ble_eq_true rfl) ?_
      obtain ⟨rfl, rfl⟩ := jx_out hF
      exact jx_iret E dX5_copy_20 rfl
def f_X5_load_L  : Nat → Int32 → Int32 → Int32 → Int32 → Int32 → jx_V → Option (Int32 × jx_V)
  | 0, _, _, _, _, _, _ => none
  | n + 1, x1, x2, x3, x4, x5, v => (if (x1 < 0 ∨ 4 ≤ Int32.toNatClampNeg x1) then none else (if (v 10 (Int32.toNatClampNeg x1)) ≤ x5 then (some (x4, v)) else (if 25 ≤ (x2 + x5) then (some (x4, v)) else (if (((40 * x1) + x5) < 0 ∨ 160 ≤ Int32.toNatClampNeg ((40 * x1) + x5)) then none else ((f_X5_isHeight (v 11 (Int32.toNatClampNeg ((40 * x1) + x5))) v).bind (fun (r11, v11) => (if r11 = 0 then (some (x4, v11)) else ((f_X5_isThing (x2 + x5) v11).bind (fun (r13, v13) => (if r13 = 0 then (f_X5_load_L n x1 x2 x3 x4 (x5 + 1) v13) else ((f_X5_at (x2 + x5) 2 v13).bind (fun (r15, v15) => (if (((40 * x1) + x5) < 0 ∨ 160 ≤ Int32.toNatClampNeg ((40 * x1) + x5)) then none else (if (r15 < 0 ∨ 181 ≤ Int32.toNatClampNeg r15) then none else (f_X5_load_L n x1 x2 x3 (x4 + 1) (x5 + 1) (jx_up v15 1 (Int32.toNatClampNeg r15) (v15 11 (Int32.toNatClampNeg ((40 * x1) + x5)))))))))))))))))))
def f_X5_load (x1 : Int32) (x2 : Int32) (v : jx_V) : Option (Int32 × jx_V) := ((f_X5_wrong x1 v).bind (fun (r1, v1) => (if r1 = 0 then ((f_X5_isLot x2 v1).bind (fun (r3, v3) => (if r3 = 0 then ((f_X5_finds (-1000001) v3).bind (fun (r5, v5) => (some (r5, v5)))) else (f_X5_load_L 100000 x1 x2 r1 0 0 v3)))) else ((f_X5_finds r1 v1).bind (fun (r6, v6) => (some (r6, v6)))))))
def rm_X5_load : Room := { frames := 3, cells := 0, slots := 0, locals := 66 }
set_option maxHeartbeats 4000000 in
set_option maxRecDepth 100000 in
theorem k_X5_load {l : Launch} {D : va_G} {cI cJ : ClassId} {ad : Nat → Nat} {A : Nat → Prop} (hI : jx_inj 13 ad A) (x1 : Int32) (x2 : Int32) (v : jx_V) (r : Int32) (v' : jx_V) (hF : f_X5_load x1 x2 v = some (r, v')) : jx_Ci l D vwCl 13 cI cJ ad shM A ex_M yX5_load (Cond.code yX5_load cX5_load 6 (some .int) :: bigT) rm_X5_load [.ref (ad 0), .int x1, .int x2] v r v' := by
  unfold f_X5_load at hF
  refine jx_enteri bigT RX5 cX5_load 6 (some .int) [(0, .ref (ad 0)), (1, .int x1), (2, .int x2)] hI (ex_M_ok A) (by decide +kernel) rfl (Nat.le_of_ble_eq_true rfl) rfl rfl ?_
  intro p e s m args below meth c E
  have iX5 : ∀ w ∈ u_ws RX5 TX5 21, w ∈ (Cond.code yX5_load cX5_load 6 (some .int) :: bigT) := fun w h => List.mem_cons_of_mem _ (uw_X5 w h)
  have key : ∀ n : Nat, (∀ (x1 : Int32) (x2 : Int32) (x3 : Int32) (x4 : Int32) (x5 : Int32) (v : jx_V), f_X5_load_L  n  x1 x2 x3 x4 x5 v = some (r, v') → jx_J p l e rm_X5_load s m args below meth c D vwCl 13 cI cJ ad shM A 0 0 6 (MQ below (va_Qi (fun (r1 : Int32) (_ : Unit) => r1 = r) (fun _ t => va_P D vwCl (jx_ws 13 cI cJ ad shM v') t.heap) A) args s 0 0 A) v 36 [(0, .ref (ad 0)), (1, .int x1), (2, .int x2), (3, .int x3), (4, .int x4), (5, .int x5)] []) := by
    intro n
    induction n with
    | zero =>
      exact (fun _ _ _ _ _ _ h => by cases h)
    | succ n ih =>
      intro x1 x2 x3 x4 x5 v hF
      rw [f_X5_load_L] at hF
      refine jx_iload E dX5_load_36 5 rfl ?_
      refine jx_aload_n E dX5_load_38 0 rfl ?_
      refine jx_getr (C := RX5) (T := TX5) (M := 21) (k := 18) E dX5_load_39 (Nat.le_of_ble_eq_true rfl) s_M0 rfl iX5 (by decide) rfl (List.mem_cons_of_mem _ tw_584) rfl ?_
      refine jx_iload_n E dX5_load_42 1 rfl ?_
      obtain ⟨hg7, hF⟩ := jx_guard hF
      refine jx_iald (h := 10) (j := (Int32.toNatClampNeg x1)) E dX5_load_43 (Nat.le_of_ble_eq_true rfl) s_M10 hg7 rfl ?_
      refine jx_icmp_ge (tgt := 119) E dX5_load_44 (by decide) (fun hc8 => ?_) (fun hc8 => ?_)
      · rw [if_pos hc8] at hF
        refine jx_iload E dX5_load_119 4 rfl ?_
        obtain ⟨rfl, rfl⟩ := jx_out hF
        exact jx_iret E dX5_load_121 rfl
      · rw [if_neg hc8] at hF
        refine jx_iload_n E dX5_load_47 2 rfl ?_
        refine jx_iload E dX5_load_48 5 rfl ?_
        refine jx_iadd E dX5_load_50 ?_
        refine jx_bipush (x := 25) E dX5_load_51 (by decide) ?_
        refine jx_icmp_ge (tgt := 119) E dX5_load_53 (by decide) (fun hc9 => ?_) (fun hc9 => ?_)
        · rw [if_pos hc9] at hF
          refine jx_iload E dX5_load_119 4 rfl ?_
          obtain ⟨rfl, rfl⟩ := jx_out hF
          exact jx_iret E dX5_load_121 rfl
        · rw [if_neg hc9] at hF
          refine jx_aload_n E dX5_load_56 0 rfl ?_
          refine jx_getr (C := RX5) (T := TX5) (M := 21) (k := 19) E dX5_load_57 (Nat.le_of_ble_eq_true rfl) s_M0 rfl iX5 (by decide) rfl (List.mem_cons_of_mem _ tw_586) rfl ?_
          refine jx_bipush (x := 40) E dX5_load_60 (by decide) ?_
          refine jx_iload_n E dX5_load_62 1 rfl ?_
          refine jx_imul E dX5_load_63 ?_
          refine jx_iload E dX5_load_64 5 rfl ?_
          refine jx_iadd E dX5_load_66 ?_
          obtain ⟨hg10, hF⟩ := jx_guard hF
          refine jx_iald (h := 11) (j := (Int32.toNatClampNeg ((40 * x1) + x5))) E dX5_load_67 (Nat.le_of_ble_eq_true rfl) s_M11 hg10 rfl ?_
          obtain ⟨⟨r11, v11⟩, hc11, hF⟩ := jx_bind hF
          try dsimp only at hF
          refine jx_callSi (As := [.int (v 11 (Int32.toNatClampNeg ((40 * x1) + x5)))]) (st := []) E dX5_load_68 1 rfl (k_X5_isHeight hI (v 11 (Int32.toNatClampNeg ((40 * x1) + x5))) v r11 v11 hc11) (gb_S (List.mem_cons_of_mem _ tw_354) (List.mem_cons_of_mem _ tw_355) (List.mem_cons_of_mem _ tw_325) tw_353) rfl rfl rfl dd_X5_isHeight rfl ⟨by decide, by decide⟩ ⟨Nat.le_refl 0, Nat.le_refl 0⟩ (Nat.le_of_ble_eq_true rfl) ?_
          refine jx_if_eq (tgt := 119) E dX5_load_71 (by decide) (fun hc12 => ?_) (fun hc12 => ?_)
          · rw [if_pos hc12] at hF
            refine jx_iload E dX5_load_119 4 rfl ?_
            obtain ⟨rfl, rfl⟩ := jx_out hF
            exact jx_iret E dX5_load_121 rfl
          · rw [if_neg hc12] at hF
            refine jx_aload_n E dX5_load_74 0 rfl ?_
            refine jx_iload_n E dX5_load_75 2 rfl ?_
            refine jx_iload E dX5_load_76 5 rfl ?_
            refine jx_iadd E dX5_load_78 ?_
            obtain ⟨⟨r13, v13⟩, hc13, hF⟩ := jx_bind hF
            try dsimp only at hF
            refine jx_callVi (As := [.int (x2 + x5)]) (st := []) (h := 0) E dX5_load_79 1 rfl (k_X5_isThing hI (x2 + x5) v11 r13 v13 hc13) (gb_V (List.mem_cons_of_mem _ tw_339) (List.mem_cons_of_mem _ tw_340) (List.mem_cons_of_mem _ tw_341) (List.mem_cons_of_mem _ tw_325) tw_338) rfl rfl rfl dd_X5_isThing rfl (Nat.le_of_ble_eq_true rfl) s_M0 rfl ⟨by decide, by decide⟩ ⟨Nat.le_refl 0, Nat.le_refl 0⟩ (Nat.le_of_ble_eq_true rfl) ?_
            refine jx_if_eq (tgt := 113) E dX5_load_82 (by decide) (fun hc14 => ?_) (fun hc14 => ?_)
            · rw [if_pos hc14] at hF
              refine jx_iinc (y := (x5 + 1)) (lv' := [(5, .int (x5 + 1)), (0, .ref (ad 0)), (1, .int x1), (2, .int x2), (3, .int x3), (4, .int x4)]) E dX5_load_113 5 rfl rfl (by decide) rfl ?_
              refine jx_goto (tgt := 36) E dX5_load_116 (by decide) ?_
              refine jx_sub [1, 2, 3, 4, 5, 0] rfl ?_
              exact ih x1 x2 x3 x4 (x5 + 1) v13 hF
            · rw [if_neg hc14] at hF
              refine jx_aload_n E dX5_load_85 0 rfl ?_
              refine jx_getr (C := RX5) (T := TX5) (M := 21) (k := 0) E dX5_load_86 (Nat.le_of_ble_eq_true rfl) s_M0 rfl iX5 (by decide) rfl (List.mem_cons_of_mem _ tw_328) rfl ?_
              refine jx_iload_n E dX5_load_89 2 rfl ?_
              refine jx_iload E dX5_load_90 5 rfl ?_
              refine jx_iadd E dX5_load_92 ?_
              refine jx_iconst (x := 2) E dX5_load_93 (by decide) ?_
              obtain ⟨⟨r15, v15⟩, hc15, hF⟩ := jx_bind hF
              try dsimp only at hF
              refine jx_callSi (As := [.int (x2 + x5), .int 2]) (st := [.ref (ad 1)]) E dX5_load_94 2 rfl (k_X5_at hI (x2 + x5) 2 v13 r15 v15 hc15) (gb_S (List.mem_cons_of_mem _ tw_332) (List.mem_cons_of_mem _ tw_333) (List.mem_cons_of_mem _ tw_325) tw_331) rfl rfl rfl dd_X5_at rfl ⟨by decide, by decide⟩ ⟨Nat.le_refl 0, Nat.le_refl 0⟩ (Nat.le_of_ble_eq_true rfl) ?_
              refine jx_aload_n E dX5_load_97 0 rfl ?_
              refine jx_getr (C := RX5) (T := TX5) (M := 21) (k := 19) E dX5_load_98 (Nat.le_of_ble_eq_true rfl) s_M0 rfl iX5 (by decide) rfl (List.mem_cons_of_mem _ tw_586) rfl ?_
              refine jx_bipush (x := 40) E dX5_load_101 (by decide) ?_
              refine jx_iload_n E dX5_load_103 1 rfl ?_
              refine jx_imul E dX5_load_104 ?_
              refine jx_iload E dX5_load_105 5 rfl ?_
              refine jx_iadd E dX5_load_107 ?_
              obtain ⟨hg16, hF⟩ := jx_guard hF
              refine jx_iald (h := 11) (j := (Int32.toNatClampNeg ((40 * x1) + x5))) E dX5_load_108 (Nat.le_of_ble_eq_true rfl) s_M11 hg16 rfl ?_
              obtain ⟨hg17, hF⟩ := jx_guard hF
              refine jx_iast (h := 1) (j := (Int32.toNatClampNeg r15)) E dX5_load_109 (Nat.le_of_ble_eq_true rfl) s_M1 hg17 rfl ?_
              refine jx_iinc (y := (x4 + 1)) (lv' := [(4, .int (x4 + 1)), (0, .ref (ad 0)), (1, .int x1), (2, .int x2), (3, .int x3), (5, .int x5)]) E dX5_load_110 4 rfl rfl (by decide) rfl ?_
              refine jx_iinc (y := (x5 + 1)) (lv' := [(5, .int (x5 + 1)), (4, .int (x4 + 1)), (0, .ref (ad 0)), (1, .int x1), (2, .int x2), (3, .int x3)]) E dX5_load_113 5 rfl rfl (by decide) rfl ?_
              refine jx_goto (tgt := 36) E dX5_load_116 (by decide) ?_
              refine jx_sub [2, 3, 4, 5, 1, 0] rfl ?_
              exact ih x1 x2 x3 (x4 + 1) (x5 + 1) (jx_up v15 1 (Int32.toNatClampNeg r15) (v15 11 (Int32.toNatClampNeg ((40 * x1) + x5)))) hF
  refine jx_aload_n E dX5_load_0 0 rfl ?_
  refine jx_iload_n E dX5_load_1 1 rfl ?_
  obtain ⟨⟨r1, v1⟩, hc1, hF⟩ := jx_bind hF
  try dsimp only at hF
  refine jx_callVi (As := [.int x1]) (st := []) (h := 0) E dX5_load_2 1 rfl (k_X5_wrong hI x1 v r1 v1 hc1) (gb_V (List.mem_cons_of_mem _ tw_588) (List.mem_cons_of_mem _ tw_589) (List.mem_cons_of_mem _ tw_590) (List.mem_cons_of_mem _ tw_325) tw_587) rfl rfl rfl dd_X5_wrong rfl (Nat.le_of_ble_eq_true rfl) s_M0 rfl ⟨by decide, by decide⟩ ⟨Nat.le_refl 0, Nat.le_refl 0⟩ (Nat.le_of_ble_eq_true rfl) ?_
  refine jx_istore_n (lv' := [(3, .int r1), (0, .ref (ad 0)), (1, .int x1), (2, .int x2)]) E dX5_load_5 (by decide) rfl ?_
  refine jx_iload_n E dX5_load_6 0 rfl ?_
  refine jx_if_eq (tgt := 16) E dX5_load_7 (by decide) (fun hc2 => ?_) (fun hc2 => ?_)
  · rw [if_pos hc2] at hF
    refine jx_iload_n E dX5_load_16 3 rfl ?_
    obtain ⟨⟨r3, v3⟩, hc3, hF⟩ := jx_bind hF
    try dsimp only at hF
    refine jx_callSi (As := [.int x2]) (st := []) E dX5_load_17 1 rfl (k_X5_isLot hI x2 v1 r3 v3 hc3) (gb_S (List.mem_cons_of_mem _ tw_348) (List.mem_cons_of_mem _ tw_349) (List.mem_cons_of_mem _ tw_325) tw_347) rfl rfl rfl dd_X5_isLot rfl ⟨by decide, by decide⟩ ⟨Nat.le_refl 0, Nat.le_refl 0⟩ (Nat.le_of_ble_eq_true rfl) ?_
    refine jx_if_ne (tgt := 30) E dX5_load_20 (by decide) (fun hc4 => ?_) (fun hc4 => ?_)
    · rw [if_neg hc4] at hF
      refine jx_iconst (x := 0) E dX5_load_30 (by decide) ?_
      refine jx_istore (lv' := [(4, .int 0), (3, .int r1), (0, .ref (ad 0)), (1, .int x1), (2, .int x2)]) E dX5_load_31 (by decide) rfl ?_
      refine jx_iconst (x := 0) E dX5_load_33 (by decide) ?_
      refine jx_istore (lv' := [(5, .int 0), (4, .int 0), (3, .int r1), (0, .ref (ad 0)), (1, .int x1), (2, .int x2)]) E dX5_load_34 (by decide) rfl ?_
      refine jx_sub [3, 4, 5, 2, 1, 0] rfl ?_
      exact (key 100000) x1 x2 r1 0 0 v3 hF
    · rw [if_pos hc4] at hF
      refine jx_aload_n E dX5_load_23 1 rfl ?_
      refine jx_ldc (x := -1000001) E dX5_load_24 (List.mem_cons_of_mem _ tw_320) ?_
      obtain ⟨⟨r5, v5⟩, hc5, hF⟩ := jx_bind hF
      try dsimp only at hF
      refine jx_callVi (As := [.int (-1000001)]) (st := []) (h := 0) E dX5_load_26 1 rfl (k_X5_finds hI (-1000001) v3 r5 v5 hc5) (gb_V (List.mem_cons_of_mem _ tw_344) (List.mem_cons_of_mem _ tw_345) (List.mem_cons_of_mem _ tw_346) (List.mem_cons_of_mem _ tw_325) tw_343) rfl rfl rfl dd_X5_finds rfl (Nat.le_of_ble_eq_true rfl) s_M0 rfl ⟨by decide, by decide⟩ ⟨Nat.le_refl 0, Nat.le_refl 0⟩ (Nat.le_of_ble_eq_true rfl) ?_
      obtain ⟨rfl, rfl⟩ := jx_out hF
      exact jx_iret E dX5_load_29 rfl
  · rw [if_neg hc2] at hF
    refine jx_aload_n E dX5_load_10 1 rfl ?_
    refine jx_iload_n E dX5_load_11 0 rfl ?_
    obtain ⟨⟨r6, v6⟩, hc6, hF⟩ := jx_bind hF
    try dsimp only at hF
    refine jx_callVi (As := [.int r1]) (st := []) (h := 0) E dX5_load_12 1 rfl (k_X5_finds hI r1 v1 r6 v6 hc6) (gb_V (List.mem_cons_of_mem _ tw_344) (List.mem_cons_of_mem _ tw_345) (List.mem_cons_of_mem _ tw_346) (List.mem_cons_of_mem _ tw_325) tw_343) rfl rfl rfl dd_X5_finds rfl (Nat.le_of_ble_eq_true rfl) s_M0 rfl ⟨by decide, by decide⟩ ⟨Nat.le_refl 0, Nat.le_refl 0⟩ (Nat.le_of_ble_eq_true rfl) ?_
    obtain ⟨rfl, rfl⟩ := jx_out hF
    exact jx_iret E dX5_load_15 rfl
def f_X5_judge_L  : Nat → Int32 → Int32 → Int32 → Int32 → jx_V → Option (Int32 × jx_V)
  | 0, _, _, _, _, _ => none
  | n + 1, x1, x2, x3, x4, v => (if (x1 < 0 ∨ 4 ≤ Int32.toNatClampNeg x1) then none else (if (v 10 (Int32.toNatClampNeg x1)) ≤ x4 then (if (x1 < 0 ∨ 4 ≤ Int32.toNatClampNeg x1) then none else (if x4 = (v 10 (Int32.toNatClampNeg x1)) then (if x4 = 4 then (some (0, v)) else (some ((1 + x4), v))) else (some ((1 + x4), v)))) else (if 4 ≤ x4 then (if (x1 < 0 ∨ 4 ≤ Int32.toNatClampNeg x1) then none else (if x4 = (v 10 (Int32.toNatClampNeg x1)) then (if x4 = 4 then (some (0, v)) else (some ((1 + x4), v))) else (some ((1 + x4), v)))) else (if (((40 * x1) + x4) < 0 ∨ 160 ≤ Int32.toNatClampNeg ((40 * x1) + x4)) then none else ((f_X5_seen x2 (x4 + 1) v).bind (fun (r17, v17) => (if (v 11 (Int32.toNatClampNeg ((40 * x1) + x4))) = r17 then (f_X5_judge_L n x1 x2 x3 (x4 + 1) v17) else (if (x1 < 0 ∨ 4 ≤ Int32.toNatClampNeg x1) then none else (if x4 = (v17 10 (Int32.toNatClampNeg x1)) then (if x4 = 4 then (some (0, v17)) else (some ((1 + x4), v17))) else (some ((1 + x4), v17)))))))))))
def f_X5_judge (x1 : Int32) (x2 : Int32) (v : jx_V) : Option (Int32 × jx_V) := ((f_X5_wrong x1 v).bind (fun (r1, v1) => (if r1 = 0 then ((f_X5_isWindow x2 v1).bind (fun (r3, v3) => (if r3 = 0 then ((f_X5_finds (-1000001) v3).bind (fun (r5, v5) => (some (r5, v5)))) else (f_X5_judge_L 100000 x1 x2 r1 0 v3)))) else ((f_X5_finds r1 v1).bind (fun (r6, v6) => (some (r6, v6)))))))
def rm_X5_judge : Room := { frames := 4, cells := 0, slots := 0, locals := 98 }
set_option maxHeartbeats 4000000 in
set_option maxRecDepth 100000 in
theorem k_X5_judge {l : Launch} {D : va_G} {cI cJ : ClassId} {ad : Nat → Nat} {A : Nat → Prop} (hI : jx_inj 13 ad A) (x1 : Int32) (x2 : Int32) (v : jx_V) (r : Int32) (v' : jx_V) (hF : f_X5_judge x1 x2 v = some (r, v')) : jx_Ci l D vwCl 13 cI cJ ad shM A ex_M yX5_judge (Cond.code yX5_judge cX5_judge 5 (some .int) :: bigT) rm_X5_judge [.ref (ad 0), .int x1, .int x2] v r v' := by
  unfold f_X5_judge at hF
  refine jx_enteri bigT RX5 cX5_judge 5 (some .int) [(0, .ref (ad 0)), (1, .int x1), (2, .int x2)] hI (ex_M_ok A) (by decide +kernel) rfl (Nat.le_of_ble_eq_true rfl) rfl rfl ?_
  intro p e s m args below meth c E
  have iX5 : ∀ w ∈ u_ws RX5 TX5 21, w ∈ (Cond.code yX5_judge cX5_judge 5 (some .int) :: bigT) := fun w h => List.mem_cons_of_mem _ (uw_X5 w h)
  have key : ∀ n : Nat, (∀ (x1 : Int32) (x2 : Int32) (x3 : Int32) (x4 : Int32) (v : jx_V), f_X5_judge_L  n  x1 x2 x3 x4 v = some (r, v') → jx_J p l e rm_X5_judge s m args below meth c D vwCl 13 cI cJ ad shM A 0 0 5 (MQ below (va_Qi (fun (r1 : Int32) (_ : Unit) => r1 = r) (fun _ t => va_P D vwCl (jx_ws 13 cI cJ ad shM v') t.heap) A) args s 0 0 A) v 34 [(0, .ref (ad 0)), (1, .int x1), (2, .int x2), (3, .int x3), (4, .int x4)] []) := by
    intro n
    induction n with
    | zero =>
      exact (fun _ _ _ _ _ h => by cases h)
    | succ n ih =>
      intro x1 x2 x3 x4 v hF
      rw [f_X5_judge_L] at hF
      refine jx_iload E dX5_judge_34 4 rfl ?_
      refine jx_aload_n E dX5_judge_36 0 rfl ?_
      refine jx_getr (C := RX5) (T := TX5) (M := 21) (k := 18) E dX5_judge_37 (Nat.le_of_ble_eq_true rfl) s_M0 rfl iX5 (by decide) rfl (List.mem_cons_of_mem _ tw_584) rfl ?_
      refine jx_iload_n E dX5_judge_40 1 rfl ?_
      obtain ⟨hg7, hF⟩ := jx_guard hF
      refine jx_iald (h := 10) (j := (Int32.toNatClampNeg x1)) E dX5_judge_41 (Nat.le_of_ble_eq_true rfl) s_M10 hg7 rfl ?_
      refine jx_icmp_ge (tgt := 81) E dX5_judge_42 (by decide) (fun hc8 => ?_) (fun hc8 => ?_)
      · rw [if_pos hc8] at hF
        refine jx_iload E dX5_judge_81 4 rfl ?_
        refine jx_aload_n E dX5_judge_83 0 rfl ?_
        refine jx_getr (C := RX5) (T := TX5) (M := 21) (k := 18) E dX5_judge_84 (Nat.le_of_ble_eq_true rfl) s_M0 rfl iX5 (by decide) rfl (List.mem_cons_of_mem _ tw_584) rfl ?_
        refine jx_iload_n E dX5_judge_87 1 rfl ?_
        obtain ⟨hg9, hF⟩ := jx_guard hF
        refine jx_iald (h := 10) (j := (Int32.toNatClampNeg x1)) E dX5_judge_88 (Nat.le_of_ble_eq_true rfl) s_M10 hg9 rfl ?_
        refine jx_icmp_ne (tgt := 102) E dX5_judge_89 (by decide) (fun hc10 => ?_) (fun hc10 => ?_)
        · rw [if_neg hc10] at hF
          refine jx_iconst (x := 1) E dX5_judge_102 (by decide) ?_
          refine jx_iload E dX5_judge_103 4 rfl ?_
          refine jx_iadd E dX5_judge_105 ?_
          obtain ⟨rfl, rfl⟩ := jx_out hF
          exact jx_iret E dX5_judge_106 rfl
        · rw [if_pos hc10] at hF
          refine jx_iload E dX5_judge_92 4 rfl ?_
          refine jx_iconst (x := 4) E dX5_judge_94 (by decide) ?_
          refine jx_icmp_ne (tgt := 102) E dX5_judge_95 (by decide) (fun hc11 => ?_) (fun hc11 => ?_)
          · rw [if_neg hc11] at hF
            refine jx_iconst (x := 1) E dX5_judge_102 (by decide) ?_
            refine jx_iload E dX5_judge_103 4 rfl ?_
            refine jx_iadd E dX5_judge_105 ?_
            obtain ⟨rfl, rfl⟩ := jx_out hF
            exact jx_iret E dX5_judge_106 rfl
          · rw [if_pos hc11] at hF
            refine jx_iconst (x := 0) E dX5_judge_98 (by decide) ?_
            refine jx_goto (tgt := 106) E dX5_judge_99 (by decide) ?_
            obtain ⟨rfl, rfl⟩ := jx_out hF
            exact jx_iret E dX5_judge_106 rfl
      · rw [if_neg hc8] at hF
        refine jx_iload E dX5_judge_45 4 rfl ?_
        refine jx_iconst (x := 4) E dX5_judge_47 (by decide) ?_
        refine jx_icmp_ge (tgt := 81) E dX5_judge_48 (by decide) (fun hc12 => ?_) (fun hc12 => ?_)
        · rw [if_pos hc12] at hF
          refine jx_iload E dX5_judge_81 4 rfl ?_
          refine jx_aload_n E dX5_judge_83 0 rfl ?_
          refine jx_getr (C := RX5) (T := TX5) (M := 21) (k := 18) E dX5_judge_84 (Nat.le_of_ble_eq_true rfl) s_M0 rfl iX5 (by decide) rfl (List.mem_cons_of_mem _ tw_584) rfl ?_
          refine jx_iload_n E dX5_judge_87 1 rfl ?_
          obtain ⟨hg13, hF⟩ := jx_guard hF
          refine jx_iald (h := 10) (j := (Int32.toNatClampNeg x1)) E dX5_judge_88 (Nat.le_of_ble_eq_true rfl) s_M10 hg13 rfl ?_
          refine jx_icmp_ne (tgt := 102) E dX5_judge_89 (by decide) (fun hc14 => ?_) (fun hc14 => ?_)
          · rw [if_neg hc14] at hF
            refine jx_iconst (x := 1) E dX5_judge_102 (by decide) ?_
            refine jx_iload E dX5_judge_103 4 rfl ?_
            refine jx_iadd E dX5_judge_105 ?_
            obtain ⟨rfl, rfl⟩ := jx_out hF
            exact jx_iret E dX5_judge_106 rfl
          · rw [if_pos hc14] at hF
            refine jx_iload E dX5_judge_92 4 rfl ?_
            refine jx_iconst (x := 4) E dX5_judge_94 (by decide) ?_
            refine jx_icmp_ne (tgt := 102) E dX5_judge_95 (by decide) (fun hc15 => ?_) (fun hc15 => ?_)
            · rw [if_neg hc15] at hF
              refine jx_iconst (x := 1) E dX5_judge_102 (by decide) ?_
              refine jx_iload E dX5_judge_103 4 rfl ?_
              refine jx_iadd E dX5_judge_105 ?_
              obtain ⟨rfl, rfl⟩ := jx_out hF
              exact jx_iret E dX5_judge_106 rfl
            · rw [if_pos hc15] at hF
              refine jx_iconst (x := 0) E dX5_judge_98 (by decide) ?_
              refine jx_goto (tgt := 106) E dX5_judge_99 (by decide) ?_
              obtain ⟨rfl, rfl⟩ := jx_out hF
              exact jx_iret E dX5_judge_106 rfl
        · rw [if_neg hc12] at hF
          refine jx_aload_n E dX5_judge_51 0 rfl ?_
          refine jx_getr (C := RX5) (T := TX5) (M := 21) (k := 19) E dX5_judge_52 (Nat.le_of_ble_eq_true rfl) s_M0 rfl iX5 (by decide) rfl (List.mem_cons_of_mem _ tw_586) rfl ?_
          refine jx_bipush (x := 40) E dX5_judge_55 (by decide) ?_
          refine jx_iload_n E dX5_judge_57 1 rfl ?_
          refine jx_imul E dX5_judge_58 ?_
          refine jx_iload E dX5_judge_59 4 rfl ?_
          refine jx_iadd E dX5_judge_61 ?_
          obtain ⟨hg16, hF⟩ := jx_guard hF
          refine jx_iald (h := 11) (j := (Int32.toNatClampNeg ((40 * x1) + x4))) E dX5_judge_62 (Nat.le_of_ble_eq_true rfl) s_M11 hg16 rfl ?_
          refine jx_aload_n E dX5_judge_63 0 rfl ?_
          refine jx_iload_n E dX5_judge_64 2 rfl ?_
          refine jx_iload E dX5_judge_65 4 rfl ?_
          refine jx_iconst (x := 1) E dX5_judge_67 (by decide) ?_
          refine jx_iadd E dX5_judge_68 ?_
          obtain ⟨⟨r17, v17⟩, hc17, hF⟩ := jx_bind hF
          try dsimp only at hF
          refine jx_callVi (As := [.int x2, .int (x4 + 1)]) (st := [.int (v 11 (Int32.toNatClampNeg ((40 * x1) + x4)))]) (h := 0) E dX5_judge_69 2 rfl (k_X5_seen hI x2 (x4 + 1) v r17 v17 hc17) (gb_V (List.mem_cons_of_mem _ tw_414) (List.mem_cons_of_mem _ tw_415) (List.mem_cons_of_mem _ tw_416) (List.mem_cons_of_mem _ tw_325) tw_413) rfl rfl rfl dd_X5_seen rfl (Nat.le_of_ble_eq_true rfl) s_M0 rfl ⟨by decide, by decide⟩ ⟨Nat.le_refl 0, Nat.le_refl 0⟩ (Nat.le_of_ble_eq_true rfl) ?_
          refine jx_icmp_ne (tgt := 81) E dX5_judge_72 (by decide) (fun hc18 => ?_) (fun hc18 => ?_)
          · rw [if_neg hc18] at hF
            refine jx_iload E dX5_judge_81 4 rfl ?_
            refine jx_aload_n E dX5_judge_83 0 rfl ?_
            refine jx_getr (C := RX5) (T := TX5) (M := 21) (k := 18) E dX5_judge_84 (Nat.le_of_ble_eq_true rfl) s_M0 rfl iX5 (by decide) rfl (List.mem_cons_of_mem _ tw_584) rfl ?_
            refine jx_iload_n E dX5_judge_87 1 rfl ?_
            obtain ⟨hg19, hF⟩ := jx_guard hF
            refine jx_iald (h := 10) (j := (Int32.toNatClampNeg x1)) E dX5_judge_88 (Nat.le_of_ble_eq_true rfl) s_M10 hg19 rfl ?_
            refine jx_icmp_ne (tgt := 102) E dX5_judge_89 (by decide) (fun hc20 => ?_) (fun hc20 => ?_)
            · rw [if_neg hc20] at hF
              refine jx_iconst (x := 1) E dX5_judge_102 (by decide) ?_
              refine jx_iload E dX5_judge_103 4 rfl ?_
              refine jx_iadd E dX5_judge_105 ?_
              obtain ⟨rfl, rfl⟩ := jx_out hF
              exact jx_iret E dX5_judge_106 rfl
            · rw [if_pos hc20] at hF
              refine jx_iload E dX5_judge_92 4 rfl ?_
              refine jx_iconst (x := 4) E dX5_judge_94 (by decide) ?_
              refine jx_icmp_ne (tgt := 102) E dX5_judge_95 (by decide) (fun hc21 => ?_) (fun hc21 => ?_)
              · rw [if_neg hc21] at hF
                refine jx_iconst (x := 1) E dX5_judge_102 (by decide) ?_
                refine jx_iload E dX5_judge_103 4 rfl ?_
                refine jx_iadd E dX5_judge_105 ?_
                obtain ⟨rfl, rfl⟩ := jx_out hF
                exact jx_iret E dX5_judge_106 rfl
              · rw [if_pos hc21] at hF
                refine jx_iconst (x := 0) E dX5_judge_98 (by decide) ?_
                refine jx_goto (tgt := 106) E dX5_judge_99 (by decide) ?_
                obtain ⟨rfl, rfl⟩ := jx_out hF
                exact jx_iret E dX5_judge_106 rfl
          · rw [if_pos hc18] at hF
            refine jx_iinc (y := (x4 + 1)) (lv' := [(4, .int (x4 + 1)), (0, .ref (ad 0)), (1, .int x1), (2, .int x2), (3, .int x3)]) E dX5_judge_75 4 rfl rfl (by decide) rfl ?_
            refine jx_goto (tgt := 34) E dX5_judge_78 (by decide) ?_
            refine jx_sub [1, 2, 3, 4, 0] rfl ?_
            exact ih x1 x2 x3 (x4 + 1) v17 hF
  refine jx_aload_n E dX5_judge_0 0 rfl ?_
  refine jx_iload_n E dX5_judge_1 1 rfl ?_
  obtain ⟨⟨r1, v1⟩, hc1, hF⟩ := jx_bind hF
  try dsimp only at hF
  refine jx_callVi (As := [.int x1]) (st := []) (h := 0) E dX5_judge_2 1 rfl (k_X5_wrong hI x1 v r1 v1 hc1) (gb_V (List.mem_cons_of_mem _ tw_588) (List.mem_cons_of_mem _ tw_589) (List.mem_cons_of_mem _ tw_590) (List.mem_cons_of_mem _ tw_325) tw_587) rfl rfl rfl dd_X5_wrong rfl (Nat.le_of_ble_eq_true rfl) s_M0 rfl ⟨by decide, by decide⟩ ⟨Nat.le_refl 0, Nat.le_refl 0⟩ (Nat.le_of_ble_eq_true rfl) ?_
  refine jx_istore_n (lv' := [(3, .int r1), (0, .ref (ad 0)), (1, .int x1), (2, .int x2)]) E dX5_judge_5 (by decide) rfl ?_
  refine jx_iload_n E dX5_judge_6 0 rfl ?_
  refine jx_if_eq (tgt := 16) E dX5_judge_7 (by decide) (fun hc2 => ?_) (fun hc2 => ?_)
  · rw [if_pos hc2] at hF
    refine jx_aload_n E dX5_judge_16 1 rfl ?_
    refine jx_iload_n E dX5_judge_17 3 rfl ?_
    obtain ⟨⟨r3, v3⟩, hc3, hF⟩ := jx_bind hF
    try dsimp only at hF
    refine jx_callVi (As := [.int x2]) (st := []) (h := 0) E dX5_judge_18 1 rfl (k_X5_isWindow hI x2 v1 r3 v3 hc3) (gb_V (List.mem_cons_of_mem _ tw_397) (List.mem_cons_of_mem _ tw_398) (List.mem_cons_of_mem _ tw_399) (List.mem_cons_of_mem _ tw_325) tw_396) rfl rfl rfl dd_X5_isWindow rfl (Nat.le_of_ble_eq_true rfl) s_M0 rfl ⟨by decide, by decide⟩ ⟨Nat.le_refl 0, Nat.le_refl 0⟩ (Nat.le_of_ble_eq_true rfl) ?_
    refine jx_if_ne (tgt := 31) E dX5_judge_21 (by decide) (fun hc4 => ?_) (fun hc4 => ?_)
    · rw [if_neg hc4] at hF
      refine jx_iconst (x := 0) E dX5_judge_31 (by decide) ?_
      refine jx_istore (lv' := [(4, .int 0), (3, .int r1), (0, .ref (ad 0)), (1, .int x1), (2, .int x2)]) E dX5_judge_32 (by decide) rfl ?_
      refine jx_sub [2, 3, 4, 1, 0] rfl ?_
      exact (key 100000) x1 x2 r1 0 v3 hF
    · rw [if_pos hc4] at hF
      refine jx_aload_n E dX5_judge_24 1 rfl ?_
      refine jx_ldc (x := -1000001) E dX5_judge_25 (List.mem_cons_of_mem _ tw_320) ?_
      obtain ⟨⟨r5, v5⟩, hc5, hF⟩ := jx_bind hF
      try dsimp only at hF
      refine jx_callVi (As := [.int (-1000001)]) (st := []) (h := 0) E dX5_judge_27 1 rfl (k_X5_finds hI (-1000001) v3 r5 v5 hc5) (gb_V (List.mem_cons_of_mem _ tw_344) (List.mem_cons_of_mem _ tw_345) (List.mem_cons_of_mem _ tw_346) (List.mem_cons_of_mem _ tw_325) tw_343) rfl rfl rfl dd_X5_finds rfl (Nat.le_of_ble_eq_true rfl) s_M0 rfl ⟨by decide, by decide⟩ ⟨Nat.le_refl 0, Nat.le_refl 0⟩ (Nat.le_of_ble_eq_true rfl) ?_
      obtain ⟨rfl, rfl⟩ := jx_out hF
      exact jx_iret E dX5_judge_30 rfl
  · rw [if_neg hc2] at hF
    refine jx_aload_n E dX5_judge_10 1 rfl ?_
    refine jx_iload_n E dX5_judge_11 0 rfl ?_
    obtain ⟨⟨r6, v6⟩, hc6, hF⟩ := jx_bind hF
    try dsimp only at hF
    refine jx_callVi (As := [.int r1]) (st := []) (h := 0) E dX5_judge_12 1 rfl (k_X5_finds hI r1 v1 r6 v6 hc6) (gb_V (List.mem_cons_of_mem _ tw_344) (List.mem_cons_of_mem _ tw_345) (List.mem_cons_of_mem _ tw_346) (List.mem_cons_of_mem _ tw_325) tw_343) rfl rfl rfl dd_X5_finds rfl (Nat.le_of_ble_eq_true rfl) s_M0 rfl ⟨by decide, by decide⟩ ⟨Nat.le_refl 0, Nat.le_refl 0⟩ (Nat.le_of_ble_eq_true rfl) ?_
    obtain ⟨rfl, rfl⟩ := jx_out hF
    exact jx_iret E dX5_judge_15 rfl
def f_X5_image_L  : Nat → Int32 → jx_V → Option (Int32 × jx_V)
  | 0, _, _ => none
  | n + 1, x1, v => (if 181 ≤ x1 then (some (1, (jx_up v 0 4 1))) else (if (x1 < 0 ∨ 181 ≤ Int32.toNatClampNeg x1) then none else (if (x1 < 0 ∨ 181 ≤ Int32.toNatClampNeg x1) then none else (f_X5_image_L n (x1 + 1) (jx_up v 2 (Int32.toNatClampNeg x1) (v 1 (Int32.toNatClampNeg x1)))))))
def f_X5_image  (v : jx_V) : Option (Int32 × jx_V) := (f_X5_image_L 100000 0 v)
def rm_X5_image : Room := { frames := 0, cells := 0, slots := 0, locals := 0 }
set_option maxHeartbeats 4000000 in
set_option maxRecDepth 100000 in
theorem k_X5_image {l : Launch} {D : va_G} {cI cJ : ClassId} {ad : Nat → Nat} {A : Nat → Prop} (hI : jx_inj 13 ad A)  (v : jx_V) (r : Int32) (v' : jx_V) (hF : f_X5_image  v = some (r, v')) : jx_Ci l D vwCl 13 cI cJ ad shM A ex_M yX5_image (Cond.code yX5_image cX5_image 2 (some .int) :: bigT) rm_X5_image [.ref (ad 0)] v r v' := by
  unfold f_X5_image at hF
  refine jx_enteri bigT RX5 cX5_image 2 (some .int) [(0, .ref (ad 0))] hI (ex_M_ok A) (by decide +kernel) rfl (Nat.le_of_ble_eq_true rfl) rfl rfl ?_
  intro p e s m args below meth c E
  have iX5 : ∀ w ∈ u_ws RX5 TX5 21, w ∈ (Cond.code yX5_image cX5_image 2 (some .int) :: bigT) := fun w h => List.mem_cons_of_mem _ (uw_X5 w h)
  have key : ∀ n : Nat, (∀ (x1 : Int32) (v : jx_V), f_X5_image_L  n  x1 v = some (r, v') → jx_J p l e rm_X5_image s m args below meth c D vwCl 13 cI cJ ad shM A 0 0 2 (MQ below (va_Qi (fun (r1 : Int32) (_ : Unit) => r1 = r) (fun _ t => va_P D vwCl (jx_ws 13 cI cJ ad shM v') t.heap) A) args s 0 0 A) v 2 [(0, .ref (ad 0)), (1, .int x1)] []) := by
    intro n
    induction n with
    | zero =>
      exact (fun _ _ h => by cases h)
    | succ n ih =>
      intro x1 v hF
      rw [f_X5_image_L] at hF
      refine jx_iload_n E dX5_image_2 1 rfl ?_
      refine jx_sipush (x := 181) E dX5_image_3 (by decide) ?_
      refine jx_icmp_ge (tgt := 27) E dX5_image_6 (by decide) (fun hc1 => ?_) (fun hc1 => ?_)
      · rw [if_pos hc1] at hF
        refine jx_aload_n E dX5_image_27 0 rfl ?_
        refine jx_iconst (x := 1) E dX5_image_28 (by decide) ?_
        refine jx_puti (C := RX5) (T := TX5) (M := 21) (k := 4) (ty := .boolean) E tyX5 dX5_image_29 (Nat.le_of_ble_eq_true rfl) s_M0 rfl iX5 (by decide) rfl (List.mem_cons_of_mem _ tw_595) tyX5_ok nmX5 rfl (by decide +kernel) rfl rfl rfl ?_
        refine jx_iconst (x := 1) E dX5_image_32 (by decide) ?_
        obtain ⟨rfl, rfl⟩ := jx_out hF
        exact jx_iret E dX5_image_33 rfl
      · rw [if_neg hc1] at hF
        refine jx_aload_n E dX5_image_9 0 rfl ?_
        refine jx_getr (C := RX5) (T := TX5) (M := 21) (k := 1) E dX5_image_10 (Nat.le_of_ble_eq_true rfl) s_M0 rfl iX5 (by decide) rfl (List.mem_cons_of_mem _ tw_596) rfl ?_
        refine jx_iload_n E dX5_image_13 1 rfl ?_
        refine jx_aload_n E dX5_image_14 0 rfl ?_
        refine jx_getr (C := RX5) (T := TX5) (M := 21) (k := 0) E dX5_image_15 (Nat.le_of_ble_eq_true rfl) s_M0 rfl iX5 (by decide) rfl (List.mem_cons_of_mem _ tw_328) rfl ?_
        refine jx_iload_n E dX5_image_18 1 rfl ?_
        obtain ⟨hg2, hF⟩ := jx_guard hF
        refine jx_iald (h := 1) (j := (Int32.toNatClampNeg x1)) E dX5_image_19 (Nat.le_of_ble_eq_true rfl) s_M1 hg2 rfl ?_
        obtain ⟨hg3, hF⟩ := jx_guard hF
        refine jx_iast (h := 2) (j := (Int32.toNatClampNeg x1)) E dX5_image_20 (Nat.le_of_ble_eq_true rfl) s_M2 hg3 rfl ?_
        refine jx_iinc (y := (x1 + 1)) (lv' := [(1, .int (x1 + 1)), (0, .ref (ad 0))]) E dX5_image_21 1 rfl rfl (by decide) rfl ?_
        refine jx_goto (tgt := 2) E dX5_image_24 (by decide) ?_
        refine jx_sub [1, 0] rfl ?_
        exact ih (x1 + 1) (jx_up v 2 (Int32.toNatClampNeg x1) (v 1 (Int32.toNatClampNeg x1))) hF
  refine jx_iconst (x := 0) E dX5_image_0 (by decide) ?_
  refine jx_istore_n (lv' := [(1, .int 0), (0, .ref (ad 0))]) E dX5_image_1 (by decide) rfl ?_
  refine jx_sub [1, 0] rfl ?_
  exact (key 100000) 0 v hF
def f_X5_undo_L  : Nat → Int32 → jx_V → Option (Int32 × jx_V)
  | 0, _, _ => none
  | n + 1, x1, v => (if 181 ≤ x1 then (some ((v 1 0), v)) else (if (x1 < 0 ∨ 181 ≤ Int32.toNatClampNeg x1) then none else (if (x1 < 0 ∨ 181 ≤ Int32.toNatClampNeg x1) then none else (f_X5_undo_L n (x1 + 1) (jx_up v 1 (Int32.toNatClampNeg x1) (v 2 (Int32.toNatClampNeg x1)))))))
def f_X5_undo  (v : jx_V) : Option (Int32 × jx_V) := (if (v 0 4) = 0 then ((f_X5_finds (-1000004) v).bind (fun (r2, v2) => (some (r2, v2)))) else (f_X5_undo_L 100000 0 v))
def rm_X5_undo : Room := { frames := 1, cells := 0, slots := 0, locals := 21 }
set_option maxHeartbeats 4000000 in
set_option maxRecDepth 100000 in
theorem k_X5_undo {l : Launch} {D : va_G} {cI cJ : ClassId} {ad : Nat → Nat} {A : Nat → Prop} (hI : jx_inj 13 ad A)  (v : jx_V) (r : Int32) (v' : jx_V) (hF : f_X5_undo  v = some (r, v')) : jx_Ci l D vwCl 13 cI cJ ad shM A ex_M yX5_undo (Cond.code yX5_undo cX5_undo 2 (some .int) :: bigT) rm_X5_undo [.ref (ad 0)] v r v' := by
  unfold f_X5_undo at hF
  refine jx_enteri bigT RX5 cX5_undo 2 (some .int) [(0, .ref (ad 0))] hI (ex_M_ok A) (by decide +kernel) rfl (Nat.le_of_ble_eq_true rfl) rfl rfl ?_
  intro p e s m args below meth c E
  have iX5 : ∀ w ∈ u_ws RX5 TX5 21, w ∈ (Cond.code yX5_undo cX5_undo 2 (some .int) :: bigT) := fun w h => List.mem_cons_of_mem _ (uw_X5 w h)
  have key : ∀ n : Nat, (∀ (x1 : Int32) (v : jx_V), f_X5_undo_L  n  x1 v = some (r, v') → jx_J p l e rm_X5_undo s m args below meth c D vwCl 13 cI cJ ad shM A 0 0 2 (MQ below (va_Qi (fun (r1 : Int32) (_ : Unit) => r1 = r) (fun _ t => va_P D vwCl (jx_ws 13 cI cJ ad shM v') t.heap) A) args s 0 0 A) v 16 [(0, .ref (ad 0)), (1, .int x1)] []) := by
    intro n
    induction n with
    | zero =>
      exact (fun _ _ h => by cases h)
    | succ n ih =>
      intro x1 v hF
      rw [f_X5_undo_L] at hF
      refine jx_iload_n E dX5_undo_16 1 rfl ?_
      refine jx_sipush (x := 181) E dX5_undo_17 (by decide) ?_
      refine jx_icmp_ge (tgt := 41) E dX5_undo_20 (by decide) (fun hc3 => ?_) (fun hc3 => ?_)
      · rw [if_pos hc3] at hF
        refine jx_aload_n E dX5_undo_41 0 rfl ?_
        refine jx_getr (C := RX5) (T := TX5) (M := 21) (k := 0) E dX5_undo_42 (Nat.le_of_ble_eq_true rfl) s_M0 rfl iX5 (by decide) rfl (List.mem_cons_of_mem _ tw_328) rfl ?_
        refine jx_iconst (x := 0) E dX5_undo_45 (by decide) ?_
        refine jx_iald (h := 1) (j := 0) E dX5_undo_46 (Nat.le_of_ble_eq_true rfl) s_M1 (by decide) (by decide) ?_
        obtain ⟨rfl, rfl⟩ := jx_out hF
        exact jx_iret E dX5_undo_47 rfl
      · rw [if_neg hc3] at hF
        refine jx_aload_n E dX5_undo_23 0 rfl ?_
        refine jx_getr (C := RX5) (T := TX5) (M := 21) (k := 0) E dX5_undo_24 (Nat.le_of_ble_eq_true rfl) s_M0 rfl iX5 (by decide) rfl (List.mem_cons_of_mem _ tw_328) rfl ?_
        refine jx_iload_n E dX5_undo_27 1 rfl ?_
        refine jx_aload_n E dX5_undo_28 0 rfl ?_
        refine jx_getr (C := RX5) (T := TX5) (M := 21) (k := 1) E dX5_undo_29 (Nat.le_of_ble_eq_true rfl) s_M0 rfl iX5 (by decide) rfl (List.mem_cons_of_mem _ tw_596) rfl ?_
        refine jx_iload_n E dX5_undo_32 1 rfl ?_
        obtain ⟨hg4, hF⟩ := jx_guard hF
        refine jx_iald (h := 2) (j := (Int32.toNatClampNeg x1)) E dX5_undo_33 (Nat.le_of_ble_eq_true rfl) s_M2 hg4 rfl ?_
        obtain ⟨hg5, hF⟩ := jx_guard hF
        refine jx_iast (h := 1) (j := (Int32.toNatClampNeg x1)) E dX5_undo_34 (Nat.le_of_ble_eq_true rfl) s_M1 hg5 rfl ?_
        refine jx_iinc (y := (x1 + 1)) (lv' := [(1, .int (x1 + 1)), (0, .ref (ad 0))]) E dX5_undo_35 1 rfl rfl (by decide) rfl ?_
        refine jx_goto (tgt := 16) E dX5_undo_38 (by decide) ?_
        refine jx_sub [1, 0] rfl ?_
        exact ih (x1 + 1) (jx_up v 1 (Int32.toNatClampNeg x1) (v 2 (Int32.toNatClampNeg x1))) hF
  refine jx_aload_n E dX5_undo_0 0 rfl ?_
  refine jx_geti (C := RX5) (T := TX5) (M := 21) (k := 4) E dX5_undo_1 (Nat.le_of_ble_eq_true rfl) s_M0 rfl iX5 (by decide) rfl (List.mem_cons_of_mem _ tw_595) rfl ?_
  refine jx_if_ne (tgt := 14) E dX5_undo_4 (by decide) (fun hc1 => ?_) (fun hc1 => ?_)
  · rw [if_neg hc1] at hF
    refine jx_iconst (x := 0) E dX5_undo_14 (by decide) ?_
    refine jx_istore_n (lv' := [(1, .int 0), (0, .ref (ad 0))]) E dX5_undo_15 (by decide) rfl ?_
    refine jx_sub [1, 0] rfl ?_
    exact (key 100000) 0 v hF
  · rw [if_pos hc1] at hF
    refine jx_aload_n E dX5_undo_7 0 rfl ?_
    refine jx_ldc (x := -1000004) E dX5_undo_8 (List.mem_cons_of_mem _ tw_365) ?_
    obtain ⟨⟨r2, v2⟩, hc2, hF⟩ := jx_bind hF
    try dsimp only at hF
    refine jx_callVi (As := [.int (-1000004)]) (st := []) (h := 0) E dX5_undo_10 1 rfl (k_X5_finds hI (-1000004) v r2 v2 hc2) (gb_V (List.mem_cons_of_mem _ tw_344) (List.mem_cons_of_mem _ tw_345) (List.mem_cons_of_mem _ tw_346) (List.mem_cons_of_mem _ tw_325) tw_343) rfl rfl rfl dd_X5_finds rfl (Nat.le_of_ble_eq_true rfl) s_M0 rfl ⟨by decide, by decide⟩ ⟨Nat.le_refl 0, Nat.le_refl 0⟩ (Nat.le_of_ble_eq_true rfl) ?_
    obtain ⟨rfl, rfl⟩ := jx_out hF
    exact jx_iret E dX5_undo_13 rfl
def f_X5_tear  (v : jx_V) : Option (Int32 × jx_V) := (if (v 0 4) = 0 then (some (0, (jx_up v 0 4 0))) else (some (1, (jx_up v 0 4 0))))
def rm_X5_tear : Room := { frames := 0, cells := 0, slots := 0, locals := 0 }
set_option maxHeartbeats 4000000 in
set_option maxRecDepth 100000 in
theorem k_X5_tear {l : Launch} {D : va_G} {cI cJ : ClassId} {ad : Nat → Nat} {A : Nat → Prop} (hI : jx_inj 13 ad A)  (v : jx_V) (r : Int32) (v' : jx_V) (hF : f_X5_tear  v = some (r, v')) : jx_Ci l D vwCl 13 cI cJ ad shM A ex_M yX5_tear (Cond.code yX5_tear cX5_tear 2 (some .int) :: bigT) rm_X5_tear [.ref (ad 0)] v r v' := by
  unfold f_X5_tear at hF
  refine jx_enteri bigT RX5 cX5_tear 2 (some .int) [(0, .ref (ad 0))] hI (ex_M_ok A) (by decide +kernel) rfl (Nat.le_of_ble_eq_true rfl) rfl rfl ?_
  intro p e s m args below meth c E
  have iX5 : ∀ w ∈ u_ws RX5 TX5 21, w ∈ (Cond.code yX5_tear cX5_tear 2 (some .int) :: bigT) := fun w h => List.mem_cons_of_mem _ (uw_X5 w h)
  refine jx_aload_n E dX5_tear_0 0 rfl ?_
  refine jx_geti (C := RX5) (T := TX5) (M := 21) (k := 4) E dX5_tear_1 (Nat.le_of_ble_eq_true rfl) s_M0 rfl iX5 (by decide) rfl (List.mem_cons_of_mem _ tw_595) rfl ?_
  refine jx_if_eq (tgt := 11) E dX5_tear_4 (by decide) (fun hc1 => ?_) (fun hc1 => ?_)
  · rw [if_pos hc1] at hF
    refine jx_iconst (x := 0) E dX5_tear_11 (by decide) ?_
    refine jx_istore_n (lv' := [(1, .int 0), (0, .ref (ad 0))]) E dX5_tear_12 (by decide) rfl ?_
    refine jx_aload_n E dX5_tear_13 1 rfl ?_
    refine jx_iconst (x := 0) E dX5_tear_14 (by decide) ?_
    refine jx_puti (C := RX5) (T := TX5) (M := 21) (k := 4) (ty := .boolean) E tyX5 dX5_tear_15 (Nat.le_of_ble_eq_true rfl) s_M0 rfl iX5 (by decide) rfl (List.mem_cons_of_mem _ tw_595) tyX5_ok nmX5 rfl (by decide +kernel) rfl rfl rfl ?_
    refine jx_iload_n E dX5_tear_18 0 rfl ?_
    obtain ⟨rfl, rfl⟩ := jx_out hF
    exact jx_iret E dX5_tear_19 rfl
  · rw [if_neg hc1] at hF
    refine jx_iconst (x := 1) E dX5_tear_7 (by decide) ?_
    refine jx_goto (tgt := 12) E dX5_tear_8 (by decide) ?_
    refine jx_istore_n (lv' := [(1, .int 1), (0, .ref (ad 0))]) E dX5_tear_12 (by decide) rfl ?_
    refine jx_aload_n E dX5_tear_13 1 rfl ?_
    refine jx_iconst (x := 0) E dX5_tear_14 (by decide) ?_
    refine jx_puti (C := RX5) (T := TX5) (M := 21) (k := 4) (ty := .boolean) E tyX5 dX5_tear_15 (Nat.le_of_ble_eq_true rfl) s_M0 rfl iX5 (by decide) rfl (List.mem_cons_of_mem _ tw_595) tyX5_ok nmX5 rfl (by decide +kernel) rfl rfl rfl ?_
    refine jx_iload_n E dX5_tear_18 0 rfl ?_
    obtain ⟨rfl, rfl⟩ := jx_out hF
    exact jx_iret E dX5_tear_19 rfl
def f_X5_heights_L  : Nat → Int32 → Int32 → jx_V → Option (Int32 × jx_V)
  | 0, _, _, _ => none
  | n + 1, x1, x2, v => (if 25 ≤ x2 then (some (x1, v)) else ((f_X5_isThing x2 v).bind (fun (r2, v2) => (if r2 = 0 then (f_X5_heights_L n (x1 + 0) (x2 + 1) v2) else ((f_X5_its x2 2 v2).bind (fun (r4, v4) => (f_X5_heights_L n (x1 + r4) (x2 + 1) v4)))))))
def f_X5_heights  (v : jx_V) : Option (Int32 × jx_V) := (f_X5_heights_L 100000 0 0 v)
def rm_X5_heights : Room := { frames := 3, cells := 0, slots := 0, locals := 64 }
set_option maxHeartbeats 4000000 in
set_option maxRecDepth 100000 in
theorem k_X5_heights {l : Launch} {D : va_G} {cI cJ : ClassId} {ad : Nat → Nat} {A : Nat → Prop} (hI : jx_inj 13 ad A)  (v : jx_V) (r : Int32) (v' : jx_V) (hF : f_X5_heights  v = some (r, v')) : jx_Ci l D vwCl 13 cI cJ ad shM A ex_M yX5_heights (Cond.code yX5_heights cX5_heights 3 (some .int) :: bigT) rm_X5_heights [.ref (ad 0)] v r v' := by
  unfold f_X5_heights at hF
  refine jx_enteri bigT RX5 cX5_heights 3 (some .int) [(0, .ref (ad 0))] hI (ex_M_ok A) (by decide +kernel) rfl (Nat.le_of_ble_eq_true rfl) rfl rfl ?_
  intro p e s m args below meth c E
  have key : ∀ n : Nat, (∀ (x1 : Int32) (x2 : Int32) (v : jx_V), f_X5_heights_L  n  x1 x2 v = some (r, v') → jx_J p l e rm_X5_heights s m args below meth c D vwCl 13 cI cJ ad shM A 0 0 3 (MQ below (va_Qi (fun (r1 : Int32) (_ : Unit) => r1 = r) (fun _ t => va_P D vwCl (jx_ws 13 cI cJ ad shM v') t.heap) A) args s 0 0 A) v 4 [(0, .ref (ad 0)), (1, .int x1), (2, .int x2)] []) := by
    intro n
    induction n with
    | zero =>
      exact (fun _ _ _ h => by cases h)
    | succ n ih =>
      intro x1 x2 v hF
      rw [f_X5_heights_L] at hF
      refine jx_iload_n E dX5_heights_4 2 rfl ?_
      refine jx_bipush (x := 25) E dX5_heights_5 (by decide) ?_
      refine jx_icmp_ge (tgt := 37) E dX5_heights_7 (by decide) (fun hc1 => ?_) (fun hc1 => ?_)
      · rw [if_pos hc1] at hF
        refine jx_iload_n E dX5_heights_37 1 rfl ?_
        obtain ⟨rfl, rfl⟩ := jx_out hF
        exact jx_iret E dX5_heights_38 rfl
      · rw [if_neg hc1] at hF
        refine jx_iload_n E dX5_heights_10 1 rfl ?_
        refine jx_aload_n E dX5_heights_11 0 rfl ?_
        refine jx_iload_n E dX5_heights_12 2 rfl ?_
        obtain ⟨⟨r2, v2⟩, hc2, hF⟩ := jx_bind hF
        try dsimp only at hF
        refine jx_callVi (As := [.int x2]) (st := [.int x1]) (h := 0) E dX5_heights_13 1 rfl (k_X5_isThing hI x2 v r2 v2 hc2) (gb_V (List.mem_cons_of_mem _ tw_339) (List.mem_cons_of_mem _ tw_340) (List.mem_cons_of_mem _ tw_341) (List.mem_cons_of_mem _ tw_325) tw_338) rfl rfl rfl dd_X5_isThing rfl (Nat.le_of_ble_eq_true rfl) s_M0 rfl ⟨by decide, by decide⟩ ⟨Nat.le_refl 0, Nat.le_refl 0⟩ (Nat.le_of_ble_eq_true rfl) ?_
        refine jx_if_eq (tgt := 28) E dX5_heights_16 (by decide) (fun hc3 => ?_) (fun hc3 => ?_)
        · rw [if_pos hc3] at hF
          refine jx_iconst (x := 0) E dX5_heights_28 (by decide) ?_
          refine jx_iadd E dX5_heights_29 ?_
          refine jx_istore_n (lv' := [(1, .int (x1 + 0)), (0, .ref (ad 0)), (2, .int x2)]) E dX5_heights_30 (by decide) rfl ?_
          refine jx_iinc (y := (x2 + 1)) (lv' := [(2, .int (x2 + 1)), (1, .int (x1 + 0)), (0, .ref (ad 0))]) E dX5_heights_31 2 rfl rfl (by decide) rfl ?_
          refine jx_goto (tgt := 4) E dX5_heights_34 (by decide) ?_
          refine jx_sub [2, 1, 0] rfl ?_
          exact ih (x1 + 0) (x2 + 1) v2 hF
        · rw [if_neg hc3] at hF
          refine jx_aload_n E dX5_heights_19 0 rfl ?_
          refine jx_iload_n E dX5_heights_20 2 rfl ?_
          refine jx_iconst (x := 2) E dX5_heights_21 (by decide) ?_
          obtain ⟨⟨r4, v4⟩, hc4, hF⟩ := jx_bind hF
          try dsimp only at hF
          refine jx_callVi (As := [.int x2, .int 2]) (st := [.int x1]) (h := 0) E dX5_heights_22 2 rfl (k_X5_its hI x2 2 v2 r4 v4 hc4) (gb_V (List.mem_cons_of_mem _ tw_335) (List.mem_cons_of_mem _ tw_336) (List.mem_cons_of_mem _ tw_337) (List.mem_cons_of_mem _ tw_325) tw_334) rfl rfl rfl dd_X5_its rfl (Nat.le_of_ble_eq_true rfl) s_M0 rfl ⟨by decide, by decide⟩ ⟨Nat.le_refl 0, Nat.le_refl 0⟩ (Nat.le_of_ble_eq_true rfl) ?_
          refine jx_goto (tgt := 29) E dX5_heights_25 (by decide) ?_
          refine jx_iadd E dX5_heights_29 ?_
          refine jx_istore_n (lv' := [(1, .int (x1 + r4)), (0, .ref (ad 0)), (2, .int x2)]) E dX5_heights_30 (by decide) rfl ?_
          refine jx_iinc (y := (x2 + 1)) (lv' := [(2, .int (x2 + 1)), (1, .int (x1 + r4)), (0, .ref (ad 0))]) E dX5_heights_31 2 rfl rfl (by decide) rfl ?_
          refine jx_goto (tgt := 4) E dX5_heights_34 (by decide) ?_
          refine jx_sub [2, 1, 0] rfl ?_
          exact ih (x1 + r4) (x2 + 1) v4 hF
  refine jx_iconst (x := 0) E dX5_heights_0 (by decide) ?_
  refine jx_istore_n (lv' := [(1, .int 0), (0, .ref (ad 0))]) E dX5_heights_1 (by decide) rfl ?_
  refine jx_iconst (x := 0) E dX5_heights_2 (by decide) ?_
  refine jx_istore_n (lv' := [(2, .int 0), (1, .int 0), (0, .ref (ad 0))]) E dX5_heights_3 (by decide) rfl ?_
  refine jx_sub [2, 1, 0] rfl ?_
  exact (key 100000) 0 0 v hF
def f_X5_contracts_L  : Nat → Int32 → Int32 → jx_V → Option (Int32 × jx_V)
  | 0, _, _, _ => none
  | n + 1, x1, x2, v => (if (v 1 1) ≤ x2 then (some (x1, v)) else ((f_X5_told x2 4 v).bind (fun (r2, v2) => (if 0 ≤ r2 then (f_X5_contracts_L n (x1 + 1) (x2 + 1) v2) else (f_X5_contracts_L n (x1 + 0) (x2 + 1) v2)))))
def f_X5_contracts  (v : jx_V) : Option (Int32 × jx_V) := (f_X5_contracts_L 100000 0 0 v)
def rm_X5_contracts : Room := { frames := 2, cells := 0, slots := 0, locals := 43 }
set_option maxHeartbeats 4000000 in
set_option maxRecDepth 100000 in
theorem k_X5_contracts {l : Launch} {D : va_G} {cI cJ : ClassId} {ad : Nat → Nat} {A : Nat → Prop} (hI : jx_inj 13 ad A)  (v : jx_V) (r : Int32) (v' : jx_V) (hF : f_X5_contracts  v = some (r, v')) : jx_Ci l D vwCl 13 cI cJ ad shM A ex_M yX5_contracts (Cond.code yX5_contracts cX5_contracts 3 (some .int) :: bigT) rm_X5_contracts [.ref (ad 0)] v r v' := by
  unfold f_X5_contracts at hF
  refine jx_enteri bigT RX5 cX5_contracts 3 (some .int) [(0, .ref (ad 0))] hI (ex_M_ok A) (by decide +kernel) rfl (Nat.le_of_ble_eq_true rfl) rfl rfl ?_
  intro p e s m args below meth c E
  have iX5 : ∀ w ∈ u_ws RX5 TX5 21, w ∈ (Cond.code yX5_contracts cX5_contracts 3 (some .int) :: bigT) := fun w h => List.mem_cons_of_mem _ (uw_X5 w h)
  have key : ∀ n : Nat, (∀ (x1 : Int32) (x2 : Int32) (v : jx_V), f_X5_contracts_L  n  x1 x2 v = some (r, v') → jx_J p l e rm_X5_contracts s m args below meth c D vwCl 13 cI cJ ad shM A 0 0 3 (MQ below (va_Qi (fun (r1 : Int32) (_ : Unit) => r1 = r) (fun _ t => va_P D vwCl (jx_ws 13 cI cJ ad shM v') t.heap) A) args s 0 0 A) v 4 [(0, .ref (ad 0)), (1, .int x1), (2, .int x2)] []) := by
    intro n
    induction n with
    | zero =>
      exact (fun _ _ _ h => by cases h)
    | succ n ih =>
      intro x1 x2 v hF
      rw [f_X5_contracts_L] at hF
      refine jx_iload_n E dX5_contracts_4 2 rfl ?_
      refine jx_aload_n E dX5_contracts_5 0 rfl ?_
      refine jx_getr (C := RX5) (T := TX5) (M := 21) (k := 0) E dX5_contracts_6 (Nat.le_of_ble_eq_true rfl) s_M0 rfl iX5 (by decide) rfl (List.mem_cons_of_mem _ tw_328) rfl ?_
      refine jx_iconst (x := 1) E dX5_contracts_9 (by decide) ?_
      refine jx_iald (h := 1) (j := 1) E dX5_contracts_10 (Nat.le_of_ble_eq_true rfl) s_M1 (by decide) (by decide) ?_
      refine jx_icmp_ge (tgt := 37) E dX5_contracts_11 (by decide) (fun hc1 => ?_) (fun hc1 => ?_)
      · rw [if_pos hc1] at hF
        refine jx_iload_n E dX5_contracts_37 1 rfl ?_
        obtain ⟨rfl, rfl⟩ := jx_out hF
        exact jx_iret E dX5_contracts_38 rfl
      · rw [if_neg hc1] at hF
        refine jx_iload_n E dX5_contracts_14 1 rfl ?_
        refine jx_aload_n E dX5_contracts_15 0 rfl ?_
        refine jx_iload_n E dX5_contracts_16 2 rfl ?_
        refine jx_iconst (x := 4) E dX5_contracts_17 (by decide) ?_
        obtain ⟨⟨r2, v2⟩, hc2, hF⟩ := jx_bind hF
        try dsimp only at hF
        refine jx_callVi (As := [.int x2, .int 4]) (st := [.int x1]) (h := 0) E dX5_contracts_18 2 rfl (k_X5_told hI x2 4 v r2 v2 hc2) (gb_V (List.mem_cons_of_mem _ tw_402) (List.mem_cons_of_mem _ tw_403) (List.mem_cons_of_mem _ tw_404) (List.mem_cons_of_mem _ tw_325) tw_401) rfl rfl rfl dd_X5_told rfl (Nat.le_of_ble_eq_true rfl) s_M0 rfl ⟨by decide, by decide⟩ ⟨Nat.le_refl 0, Nat.le_refl 0⟩ (Nat.le_of_ble_eq_true rfl) ?_
        refine jx_if_ge (tgt := 28) E dX5_contracts_21 (by decide) (fun hc3 => ?_) (fun hc3 => ?_)
        · rw [if_pos hc3] at hF
          refine jx_iconst (x := 1) E dX5_contracts_28 (by decide) ?_
          refine jx_iadd E dX5_contracts_29 ?_
          refine jx_istore_n (lv' := [(1, .int (x1 + 1)), (0, .ref (ad 0)), (2, .int x2)]) E dX5_contracts_30 (by decide) rfl ?_
          refine jx_iinc (y := (x2 + 1)) (lv' := [(2, .int (x2 + 1)), (1, .int (x1 + 1)), (0, .ref (ad 0))]) E dX5_contracts_31 2 rfl rfl (by decide) rfl ?_
          refine jx_goto (tgt := 4) E dX5_contracts_34 (by decide) ?_
          refine jx_sub [2, 1, 0] rfl ?_
          exact ih (x1 + 1) (x2 + 1) v2 hF
        · rw [if_neg hc3] at hF
          refine jx_iconst (x := 0) E dX5_contracts_24 (by decide) ?_
          refine jx_goto (tgt := 29) E dX5_contracts_25 (by decide) ?_
          refine jx_iadd E dX5_contracts_29 ?_
          refine jx_istore_n (lv' := [(1, .int (x1 + 0)), (0, .ref (ad 0)), (2, .int x2)]) E dX5_contracts_30 (by decide) rfl ?_
          refine jx_iinc (y := (x2 + 1)) (lv' := [(2, .int (x2 + 1)), (1, .int (x1 + 0)), (0, .ref (ad 0))]) E dX5_contracts_31 2 rfl rfl (by decide) rfl ?_
          refine jx_goto (tgt := 4) E dX5_contracts_34 (by decide) ?_
          refine jx_sub [2, 1, 0] rfl ?_
          exact ih (x1 + 0) (x2 + 1) v2 hF
  refine jx_iconst (x := 0) E dX5_contracts_0 (by decide) ?_
  refine jx_istore_n (lv' := [(1, .int 0), (0, .ref (ad 0))]) E dX5_contracts_1 (by decide) rfl ?_
  refine jx_iconst (x := 0) E dX5_contracts_2 (by decide) ?_
  refine jx_istore_n (lv' := [(2, .int 0), (1, .int 0), (0, .ref (ad 0))]) E dX5_contracts_3 (by decide) rfl ?_
  refine jx_sub [2, 1, 0] rfl ?_
  exact (key 100000) 0 0 v hF
def f_X5_held_L  : Nat → Int32 → Int32 → jx_V → Option (Int32 × jx_V)
  | 0, _, _, _ => none
  | n + 1, x1, x2, v => (if 10 ≤ x2 then (some (x1, v)) else (if ((171 + x2) < 0 ∨ 181 ≤ Int32.toNatClampNeg (171 + x2)) then none else (if 0 ≤ (v 1 (Int32.toNatClampNeg (171 + x2))) then (f_X5_held_L n (x1 + 1) (x2 + 1) v) else (f_X5_held_L n (x1 + 0) (x2 + 1) v))))
def f_X5_held  (v : jx_V) : Option (Int32 × jx_V) := (f_X5_held_L 100000 0 0 v)
def rm_X5_held : Room := { frames := 0, cells := 0, slots := 0, locals := 0 }
set_option maxHeartbeats 4000000 in
set_option maxRecDepth 100000 in
theorem k_X5_held {l : Launch} {D : va_G} {cI cJ : ClassId} {ad : Nat → Nat} {A : Nat → Prop} (hI : jx_inj 13 ad A)  (v : jx_V) (r : Int32) (v' : jx_V) (hF : f_X5_held  v = some (r, v')) : jx_Ci l D vwCl 13 cI cJ ad shM A ex_M yX5_held (Cond.code yX5_held cX5_held 3 (some .int) :: bigT) rm_X5_held [.ref (ad 0)] v r v' := by
  unfold f_X5_held at hF
  refine jx_enteri bigT RX5 cX5_held 3 (some .int) [(0, .ref (ad 0))] hI (ex_M_ok A) (by decide +kernel) rfl (Nat.le_of_ble_eq_true rfl) rfl rfl ?_
  intro p e s m args below meth c E
  have iX5 : ∀ w ∈ u_ws RX5 TX5 21, w ∈ (Cond.code yX5_held cX5_held 3 (some .int) :: bigT) := fun w h => List.mem_cons_of_mem _ (uw_X5 w h)
  have key : ∀ n : Nat, (∀ (x1 : Int32) (x2 : Int32) (v : jx_V), f_X5_held_L  n  x1 x2 v = some (r, v') → jx_J p l e rm_X5_held s m args below meth c D vwCl 13 cI cJ ad shM A 0 0 3 (MQ below (va_Qi (fun (r1 : Int32) (_ : Unit) => r1 = r) (fun _ t => va_P D vwCl (jx_ws 13 cI cJ ad shM v') t.heap) A) args s 0 0 A) v 4 [(0, .ref (ad 0)), (1, .int x1), (2, .int x2)] []) := by
    intro n
    induction n with
    | zero =>
      exact (fun _ _ _ h => by cases h)
    | succ n ih =>
      intro x1 x2 v hF
      rw [f_X5_held_L] at hF
      refine jx_iload_n E dX5_held_4 2 rfl ?_
      refine jx_bipush (x := 10) E dX5_held_5 (by decide) ?_
      refine jx_icmp_ge (tgt := 37) E dX5_held_7 (by decide) (fun hc1 => ?_) (fun hc1 => ?_)
      · rw [if_pos hc1] at hF
        refine jx_iload_n E dX5_held_37 1 rfl ?_
        obtain ⟨rfl, rfl⟩ := jx_out hF
        exact jx_iret E dX5_held_38 rfl
      · rw [if_neg hc1] at hF
        refine jx_iload_n E dX5_held_10 1 rfl ?_
        refine jx_aload_n E dX5_held_11 0 rfl ?_
        refine jx_getr (C := RX5) (T := TX5) (M := 21) (k := 0) E dX5_held_12 (Nat.le_of_ble_eq_true rfl) s_M0 rfl iX5 (by decide) rfl (List.mem_cons_of_mem _ tw_328) rfl ?_
        refine jx_sipush (x := 171) E dX5_held_15 (by decide) ?_
        refine jx_iload_n E dX5_held_18 2 rfl ?_
        refine jx_iadd E dX5_held_19 ?_
        obtain ⟨hg2, hF⟩ := jx_guard hF
        refine jx_iald (h := 1) (j := (Int32.toNatClampNeg (171 + x2))) E dX5_held_20 (Nat.le_of_ble_eq_true rfl) s_M1 hg2 rfl ?_
        refine jx_if_ge (tgt := 28) E dX5_held_21 (by decide) (fun hc3 => ?_) (fun hc3 => ?_)
        · rw [if_pos hc3] at hF
          refine jx_iconst (x := 1) E dX5_held_28 (by decide) ?_
          refine jx_iadd E dX5_held_29 ?_
          refine jx_istore_n (lv' := [(1, .int (x1 + 1)), (0, .ref (ad 0)), (2, .int x2)]) E dX5_held_30 (by decide) rfl ?_
          refine jx_iinc (y := (x2 + 1)) (lv' := [(2, .int (x2 + 1)), (1, .int (x1 + 1)), (0, .ref (ad 0))]) E dX5_held_31 2 rfl rfl (by decide) rfl ?_
          refine jx_goto (tgt := 4) E dX5_held_34 (by decide) ?_
          refine jx_sub [2, 1, 0] rfl ?_
          exact ih (x1 + 1) (x2 + 1) v hF
        · rw [if_neg hc3] at hF
          refine jx_iconst (x := 0) E dX5_held_24 (by decide) ?_
          refine jx_goto (tgt := 29) E dX5_held_25 (by decide) ?_
          refine jx_iadd E dX5_held_29 ?_
          refine jx_istore_n (lv' := [(1, .int (x1 + 0)), (0, .ref (ad 0)), (2, .int x2)]) E dX5_held_30 (by decide) rfl ?_
          refine jx_iinc (y := (x2 + 1)) (lv' := [(2, .int (x2 + 1)), (1, .int (x1 + 0)), (0, .ref (ad 0))]) E dX5_held_31 2 rfl rfl (by decide) rfl ?_
          refine jx_goto (tgt := 4) E dX5_held_34 (by decide) ?_
          refine jx_sub [2, 1, 0] rfl ?_
          exact ih (x1 + 0) (x2 + 1) v hF
  refine jx_iconst (x := 0) E dX5_held_0 (by decide) ?_
  refine jx_istore_n (lv' := [(1, .int 0), (0, .ref (ad 0))]) E dX5_held_1 (by decide) rfl ?_
  refine jx_iconst (x := 0) E dX5_held_2 (by decide) ?_
  refine jx_istore_n (lv' := [(2, .int 0), (1, .int 0), (0, .ref (ad 0))]) E dX5_held_3 (by decide) rfl ?_
  refine jx_sub [2, 1, 0] rfl ?_
  exact (key 100000) 0 0 v hF
def f_X5_count (x1 : Int32) (v : jx_V) : Option (Int32 × jx_V) := (if x1 = 0 then (some ((v 1 0), v)) else (if x1 = 1 then ((f_X5_things v).bind (fun (r3, v3) => (some (r3, v3)))) else (if x1 = 2 then (some ((v 1 1), v)) else (if x1 = 3 then ((f_X5_heights v).bind (fun (r6, v6) => (some (r6, v6)))) else (if x1 = 4 then ((f_X5_contracts v).bind (fun (r8, v8) => (some (r8, v8)))) else (if x1 = 5 then (some ((v 0 12), v)) else (if x1 = 6 then (some ((v 1 2), v)) else (if x1 = 7 then ((f_X5_held v).bind (fun (r12, v12) => (some (r12, v12)))) else ((f_X5_finds (-1000001) v).bind (fun (r13, v13) => (some (r13, v13))))))))))))
def rm_X5_count : Room := { frames := 4, cells := 0, slots := 0, locals := 86 }
set_option maxHeartbeats 4000000 in
set_option maxRecDepth 100000 in
theorem k_X5_count {l : Launch} {D : va_G} {cI cJ : ClassId} {ad : Nat → Nat} {A : Nat → Prop} (hI : jx_inj 13 ad A) (x1 : Int32) (v : jx_V) (r : Int32) (v' : jx_V) (hF : f_X5_count x1 v = some (r, v')) : jx_Ci l D vwCl 13 cI cJ ad shM A ex_M yX5_count (Cond.code yX5_count cX5_count 2 (some .int) :: bigT) rm_X5_count [.ref (ad 0), .int x1] v r v' := by
  unfold f_X5_count at hF
  refine jx_enteri bigT RX5 cX5_count 2 (some .int) [(0, .ref (ad 0)), (1, .int x1)] hI (ex_M_ok A) (by decide +kernel) rfl (Nat.le_of_ble_eq_true rfl) rfl rfl ?_
  intro p e s m args below meth c E
  have iX5 : ∀ w ∈ u_ws RX5 TX5 21, w ∈ (Cond.code yX5_count cX5_count 2 (some .int) :: bigT) := fun w h => List.mem_cons_of_mem _ (uw_X5 w h)
  refine jx_iload_n E dX5_count_0 1 rfl ?_
  by_cases hc1 : x1 = 0
  · rw [if_pos hc1] at hF
    refine jx_tableIn (tgt := 48) (z := 0) E dX5_count_1 hc1 (by decide) (by decide) rfl (by decide) ?_
    refine jx_aload_n E dX5_count_48 0 rfl ?_
    refine jx_getr (C := RX5) (T := TX5) (M := 21) (k := 0) E dX5_count_49 (Nat.le_of_ble_eq_true rfl) s_M0 rfl iX5 (by decide) rfl (List.mem_cons_of_mem _ tw_328) rfl ?_
    refine jx_iconst (x := 0) E dX5_count_52 (by decide) ?_
    refine jx_iald (h := 1) (j := 0) E dX5_count_53 (Nat.le_of_ble_eq_true rfl) s_M1 (by decide) (by decide) ?_
    obtain ⟨rfl, rfl⟩ := jx_out hF
    exact jx_iret E dX5_count_54 rfl
  rw [if_neg hc1] at hF
  by_cases hc2 : x1 = 1
  · rw [if_pos hc2] at hF
    refine jx_tableIn (tgt := 55) (z := 1) E dX5_count_1 hc2 (by decide) (by decide) rfl (by decide) ?_
    refine jx_aload_n E dX5_count_55 0 rfl ?_
    obtain ⟨⟨r3, v3⟩, hc3, hF⟩ := jx_bind hF
    try dsimp only at hF
    refine jx_callVi (As := []) (st := []) (h := 0) E dX5_count_56 0 rfl (k_X5_things hI  v r3 v3 hc3) (gb_V (List.mem_cons_of_mem _ tw_361) (List.mem_cons_of_mem _ tw_362) (List.mem_cons_of_mem _ tw_363) (List.mem_cons_of_mem _ tw_325) tw_360) rfl rfl rfl dd_X5_things rfl (Nat.le_of_ble_eq_true rfl) s_M0 rfl ⟨by decide, by decide⟩ ⟨Nat.le_refl 0, Nat.le_refl 0⟩ (Nat.le_of_ble_eq_true rfl) ?_
    obtain ⟨rfl, rfl⟩ := jx_out hF
    exact jx_iret E dX5_count_59 rfl
  rw [if_neg hc2] at hF
  by_cases hc4 : x1 = 2
  · rw [if_pos hc4] at hF
    refine jx_tableIn (tgt := 60) (z := 2) E dX5_count_1 hc4 (by decide) (by decide) rfl (by decide) ?_
    refine jx_aload_n E dX5_count_60 0 rfl ?_
    refine jx_getr (C := RX5) (T := TX5) (M := 21) (k := 0) E dX5_count_61 (Nat.le_of_ble_eq_true rfl) s_M0 rfl iX5 (by decide) rfl (List.mem_cons_of_mem _ tw_328) rfl ?_
    refine jx_iconst (x := 1) E dX5_count_64 (by decide) ?_
    refine jx_iald (h := 1) (j := 1) E dX5_count_65 (Nat.le_of_ble_eq_true rfl) s_M1 (by decide) (by decide) ?_
    obtain ⟨rfl, rfl⟩ := jx_out hF
    exact jx_iret E dX5_count_66 rfl
  rw [if_neg hc4] at hF
  by_cases hc5 : x1 = 3
  · rw [if_pos hc5] at hF
    refine jx_tableIn (tgt := 67) (z := 3) E dX5_count_1 hc5 (by decide) (by decide) rfl (by decide) ?_
    refine jx_aload_n E dX5_count_67 0 rfl ?_
    obtain ⟨⟨r6, v6⟩, hc6, hF⟩ := jx_bind hF
    try dsimp only at hF
    refine jx_callVi (As := []) (st := []) (h := 0) E dX5_count_68 0 rfl (k_X5_heights hI  v r6 v6 hc6) (gb_V (List.mem_cons_of_mem _ tw_598) (List.mem_cons_of_mem _ tw_599) (List.mem_cons_of_mem _ tw_600) (List.mem_cons_of_mem _ tw_325) tw_597) rfl rfl rfl dd_X5_heights rfl (Nat.le_of_ble_eq_true rfl) s_M0 rfl ⟨by decide, by decide⟩ ⟨Nat.le_refl 0, Nat.le_refl 0⟩ (Nat.le_of_ble_eq_true rfl) ?_
    obtain ⟨rfl, rfl⟩ := jx_out hF
    exact jx_iret E dX5_count_71 rfl
  rw [if_neg hc5] at hF
  by_cases hc7 : x1 = 4
  · rw [if_pos hc7] at hF
    refine jx_tableIn (tgt := 72) (z := 4) E dX5_count_1 hc7 (by decide) (by decide) rfl (by decide) ?_
    refine jx_aload_n E dX5_count_72 0 rfl ?_
    obtain ⟨⟨r8, v8⟩, hc8, hF⟩ := jx_bind hF
    try dsimp only at hF
    refine jx_callVi (As := []) (st := []) (h := 0) E dX5_count_73 0 rfl (k_X5_contracts hI  v r8 v8 hc8) (gb_V (List.mem_cons_of_mem _ tw_602) (List.mem_cons_of_mem _ tw_603) (List.mem_cons_of_mem _ tw_604) (List.mem_cons_of_mem _ tw_325) tw_601) rfl rfl rfl dd_X5_contracts rfl (Nat.le_of_ble_eq_true rfl) s_M0 rfl ⟨by decide, by decide⟩ ⟨Nat.le_refl 0, Nat.le_refl 0⟩ (Nat.le_of_ble_eq_true rfl) ?_
    obtain ⟨rfl, rfl⟩ := jx_out hF
    exact jx_iret E dX5_count_76 rfl
  rw [if_neg hc7] at hF
  by_cases hc9 : x1 = 5
  · rw [if_pos hc9] at hF
    refine jx_tableIn (tgt := 77) (z := 5) E dX5_count_1 hc9 (by decide) (by decide) rfl (by decide) ?_
    refine jx_aload_n E dX5_count_77 0 rfl ?_
    refine jx_geti (C := RX5) (T := TX5) (M := 21) (k := 12) E dX5_count_78 (Nat.le_of_ble_eq_true rfl) s_M0 rfl iX5 (by decide) rfl (List.mem_cons_of_mem _ tw_495) rfl ?_
    obtain ⟨rfl, rfl⟩ := jx_out hF
    exact jx_iret E dX5_count_81 rfl
  rw [if_neg hc9] at hF
  by_cases hc10 : x1 = 6
  · rw [if_pos hc10] at hF
    refine jx_tableIn (tgt := 82) (z := 6) E dX5_count_1 hc10 (by decide) (by decide) rfl (by decide) ?_
    refine jx_aload_n E dX5_count_82 0 rfl ?_
    refine jx_getr (C := RX5) (T := TX5) (M := 21) (k := 0) E dX5_count_83 (Nat.le_of_ble_eq_true rfl) s_M0 rfl iX5 (by decide) rfl (List.mem_cons_of_mem _ tw_328) rfl ?_
    refine jx_iconst (x := 2) E dX5_count_86 (by decide) ?_
    refine jx_iald (h := 1) (j := 2) E dX5_count_87 (Nat.le_of_ble_eq_true rfl) s_M1 (by decide) (by decide) ?_
    obtain ⟨rfl, rfl⟩ := jx_out hF
    exact jx_iret E dX5_count_88 rfl
  rw [if_neg hc10] at hF
  by_cases hc11 : x1 = 7
  · rw [if_pos hc11] at hF
    refine jx_tableIn (tgt := 89) (z := 7) E dX5_count_1 hc11 (by decide) (by decide) rfl (by decide) ?_
    refine jx_aload_n E dX5_count_89 0 rfl ?_
    obtain ⟨⟨r12, v12⟩, hc12, hF⟩ := jx_bind hF
    try dsimp only at hF
    refine jx_callVi (As := []) (st := []) (h := 0) E dX5_count_90 0 rfl (k_X5_held hI  v r12 v12 hc12) (gb_V (List.mem_cons_of_mem _ tw_606) (List.mem_cons_of_mem _ tw_607) (List.mem_cons_of_mem _ tw_608) (List.mem_cons_of_mem _ tw_325) tw_605) rfl rfl rfl dd_X5_held rfl (Nat.le_of_ble_eq_true rfl) s_M0 rfl ⟨by decide, by decide⟩ ⟨Nat.le_refl 0, Nat.le_refl 0⟩ (Nat.le_of_ble_eq_true rfl) ?_
    obtain ⟨rfl, rfl⟩ := jx_out hF
    exact jx_iret E dX5_count_93 rfl
  rw [if_neg hc11] at hF
  refine jx_tableOut (tgt := 94) E dX5_count_1 (by have hz1 := jx_ne hc1 (k := 0) (by decide); have hz2 := jx_ne hc2 (k := 1) (by decide); have hz4 := jx_ne hc4 (k := 2) (by decide); have hz5 := jx_ne hc5 (k := 3) (by decide); have hz7 := jx_ne hc7 (k := 4) (by decide); have hz9 := jx_ne hc9 (k := 5) (by decide); have hz10 := jx_ne hc10 (k := 6) (by decide); have hz11 := jx_ne hc11 (k := 7) (by decide); omega) (by decide) ?_
  refine jx_aload_n E dX5_count_94 0 rfl ?_
  refine jx_ldc (x := -1000001) E dX5_count_95 (List.mem_cons_of_mem _ tw_320) ?_
  obtain ⟨⟨r13, v13⟩, hc13, hF⟩ := jx_bind hF
  try dsimp only at hF
  refine jx_callVi (As := [.int (-1000001)]) (st := []) (h := 0) E dX5_count_97 1 rfl (k_X5_finds hI (-1000001) v r13 v13 hc13) (gb_V (List.mem_cons_of_mem _ tw_344) (List.mem_cons_of_mem _ tw_345) (List.mem_cons_of_mem _ tw_346) (List.mem_cons_of_mem _ tw_325) tw_343) rfl rfl rfl dd_X5_finds rfl (Nat.le_of_ble_eq_true rfl) s_M0 rfl ⟨by decide, by decide⟩ ⟨Nat.le_refl 0, Nat.le_refl 0⟩ (Nat.le_of_ble_eq_true rfl) ?_
  obtain ⟨rfl, rfl⟩ := jx_out hF
  exact jx_iret E dX5_count_100 rfl
def f_X5_status_L  : Nat → Int32 → Int32 → Int32 → jx_V → Option (Int32 × jx_V)
  | 0, _, _, _, _ => none
  | n + 1, x1, x2, x3, v => (if 7 ≤ x3 then (some (x2, v)) else (if x1 < 0 then (if (x3 < 0 ∨ 7 ≤ Int32.toNatClampNeg x3) then none else (f_X5_status_L n x1 (x2 + (v 4 (Int32.toNatClampNeg x3))) (x3 + 1) v)) else (if x3 = x1 then (if (x3 < 0 ∨ 7 ≤ Int32.toNatClampNeg x3) then none else (f_X5_status_L n x1 (x2 + (v 4 (Int32.toNatClampNeg x3))) (x3 + 1) v)) else (f_X5_status_L n x1 (x2 + 0) (x3 + 1) v))))
def f_X5_status (x1 : Int32) (v : jx_V) : Option (Int32 × jx_V) := ((f_X5_in (Int32.toInt64 x1) (-1) 6 v).bind (fun (r1, v1) => (if r1 = 0 then ((f_X5_finds (-1000001) v1).bind (fun (r3, v3) => (some (r3, v3)))) else (f_X5_status_L 100000 x1 0 0 v1))))
def rm_X5_status : Room := { frames := 1, cells := 0, slots := 0, locals := 25 }
set_option maxHeartbeats 4000000 in
set_option maxRecDepth 100000 in
theorem k_X5_status {l : Launch} {D : va_G} {cI cJ : ClassId} {ad : Nat → Nat} {A : Nat → Prop} (hI : jx_inj 13 ad A) (x1 : Int32) (v : jx_V) (r : Int32) (v' : jx_V) (hF : f_X5_status x1 v = some (r, v')) : jx_Ci l D vwCl 13 cI cJ ad shM A ex_M yX5_status (Cond.code yX5_status cX5_status 4 (some .int) :: bigT) rm_X5_status [.ref (ad 0), .int x1] v r v' := by
  unfold f_X5_status at hF
  refine jx_enteri bigT RX5 cX5_status 4 (some .int) [(0, .ref (ad 0)), (1, .int x1)] hI (ex_M_ok A) (by decide +kernel) rfl (Nat.le_of_ble_eq_true rfl) rfl rfl ?_
  intro p e s m args below meth c E
  have iX5 : ∀ w ∈ u_ws RX5 TX5 21, w ∈ (Cond.code yX5_status cX5_status 4 (some .int) :: bigT) := fun w h => List.mem_cons_of_mem _ (uw_X5 w h)
  have key : ∀ n : Nat, (∀ (x1 : Int32) (x2 : Int32) (x3 : Int32) (v : jx_V), f_X5_status_L  n  x1 x2 x3 v = some (r, v') → jx_J p l e rm_X5_status s m args below meth c D vwCl 13 cI cJ ad shM A 0 0 4 (MQ below (va_Qi (fun (r1 : Int32) (_ : Unit) => r1 = r) (fun _ t => va_P D vwCl (jx_ws 13 cI cJ ad shM v') t.heap) A) args s 0 0 A) v 25 [(0, .ref (ad 0)), (1, .int x1), (2, .int x2), (3, .int x3)] []) := by
    intro n
    induction n with
    | zero =>
      exact (fun _ _ _ _ h => by cases h)
    | succ n ih =>
      intro x1 x2 x3 v hF
      rw [f_X5_status_L] at hF
      refine jx_iload_n E dX5_status_25 3 rfl ?_
      refine jx_bipush (x := 7) E dX5_status_26 (by decide) ?_
      refine jx_icmp_ge (tgt := 59) E dX5_status_28 (by decide) (fun hc4 => ?_) (fun hc4 => ?_)
      · rw [if_pos hc4] at hF
        refine jx_iload_n E dX5_status_59 2 rfl ?_
        obtain ⟨rfl, rfl⟩ := jx_out hF
        exact jx_iret E dX5_status_60 rfl
      · rw [if_neg hc4] at hF
        refine jx_iload_n E dX5_status_31 2 rfl ?_
        refine jx_iload_n E dX5_status_32 1 rfl ?_
        refine jx_if_lt (tgt := 41) E dX5_status_33 (by decide) (fun hc5 => ?_) (fun hc5 => ?_)
        · rw [if_pos hc5] at hF
          refine jx_aload_n E dX5_status_41 0 rfl ?_
          refine jx_getr (C := RX5) (T := TX5) (M := 21) (k := 3) E dX5_status_42 (Nat.le_of_ble_eq_true rfl) s_M0 rfl iX5 (by decide) rfl (List.mem_cons_of_mem _ tw_319) rfl ?_
          refine jx_iload_n E dX5_status_45 3 rfl ?_
          obtain ⟨hg6, hF⟩ := jx_guard hF
          refine jx_iald (h := 4) (j := (Int32.toNatClampNeg x3)) E dX5_status_46 (Nat.le_of_ble_eq_true rfl) s_M4 hg6 rfl ?_
          refine jx_goto (tgt := 51) E dX5_status_47 (by decide) ?_
          refine jx_iadd E dX5_status_51 ?_
          refine jx_istore_n (lv' := [(2, .int (x2 + (v 4 (Int32.toNatClampNeg x3)))), (0, .ref (ad 0)), (1, .int x1), (3, .int x3)]) E dX5_status_52 (by decide) rfl ?_
          refine jx_iinc (y := (x3 + 1)) (lv' := [(3, .int (x3 + 1)), (2, .int (x2 + (v 4 (Int32.toNatClampNeg x3)))), (0, .ref (ad 0)), (1, .int x1)]) E dX5_status_53 3 rfl rfl (by decide) rfl ?_
          refine jx_goto (tgt := 25) E dX5_status_56 (by decide) ?_
          refine jx_sub [2, 3, 1, 0] rfl ?_
          exact ih x1 (x2 + (v 4 (Int32.toNatClampNeg x3))) (x3 + 1) v hF
        · rw [if_neg hc5] at hF
          refine jx_iload_n E dX5_status_36 3 rfl ?_
          refine jx_iload_n E dX5_status_37 1 rfl ?_
          refine jx_icmp_ne (tgt := 50) E dX5_status_38 (by decide) (fun hc7 => ?_) (fun hc7 => ?_)
          · rw [if_neg hc7] at hF
            refine jx_iconst (x := 0) E dX5_status_50 (by decide) ?_
            refine jx_iadd E dX5_status_51 ?_
            refine jx_istore_n (lv' := [(2, .int (x2 + 0)), (0, .ref (ad 0)), (1, .int x1), (3, .int x3)]) E dX5_status_52 (by decide) rfl ?_
            refine jx_iinc (y := (x3 + 1)) (lv' := [(3, .int (x3 + 1)), (2, .int (x2 + 0)), (0, .ref (ad 0)), (1, .int x1)]) E dX5_status_53 3 rfl rfl (by decide) rfl ?_
            refine jx_goto (tgt := 25) E dX5_status_56 (by decide) ?_
            refine jx_sub [2, 3, 1, 0] rfl ?_
            exact ih x1 (x2 + 0) (x3 + 1) v hF
          · rw [if_pos hc7] at hF
            refine jx_aload_n E dX5_status_41 0 rfl ?_
            refine jx_getr (C := RX5) (T := TX5) (M := 21) (k := 3) E dX5_status_42 (Nat.le_of_ble_eq_true rfl) s_M0 rfl iX5 (by decide) rfl (List.mem_cons_of_mem _ tw_319) rfl ?_
            refine jx_iload_n E dX5_status_45 3 rfl ?_
            obtain ⟨hg8, hF⟩ := jx_guard hF
            refine jx_iald (h := 4) (j := (Int32.toNatClampNeg x3)) E dX5_status_46 (Nat.le_of_ble_eq_true rfl) s_M4 hg8 rfl ?_
            refine jx_goto (tgt := 51) E dX5_status_47 (by decide) ?_
            refine jx_iadd E dX5_status_51 ?_
            refine jx_istore_n (lv' := [(2, .int (x2 + (v 4 (Int32.toNatClampNeg x3)))), (0, .ref (ad 0)), (1, .int x1), (3, .int x3)]) E dX5_status_52 (by decide) rfl ?_
            refine jx_iinc (y := (x3 + 1)) (lv' := [(3, .int (x3 + 1)), (2, .int (x2 + (v 4 (Int32.toNatClampNeg x3)))), (0, .ref (ad 0)), (1, .int x1)]) E dX5_status_53 3 rfl rfl (by decide) rfl ?_
            refine jx_goto (tgt := 25) E dX5_status_56 (by decide) ?_
            refine jx_sub [2, 3, 1, 0] rfl ?_
            exact ih x1 (x2 + (v 4 (Int32.toNatClampNeg x3))) (x3 + 1) v hF
  refine jx_iload_n E dX5_status_0 1 rfl ?_
  refine jx_i2l E dX5_status_1 ?_
  refine jx_ldc2 (x := -1) E dX5_status_2 (List.mem_cons_of_mem _ tw_425) ?_
  refine jx_ldc2 (x := 6) E dX5_status_5 (List.mem_cons_of_mem _ tw_342) ?_
  obtain ⟨⟨r1, v1⟩, hc1, hF⟩ := jx_bind hF
  try dsimp only at hF
  refine jx_callSi (As := [.long (Int32.toInt64 x1), .long (-1), .long 6]) (st := []) E dX5_status_8 3 rfl (k_X5_in hI (Int32.toInt64 x1) (-1) 6 v r1 v1 hc1) (gb_S (List.mem_cons_of_mem _ tw_323) (List.mem_cons_of_mem _ tw_324) (List.mem_cons_of_mem _ tw_325) tw_322) rfl rfl rfl dd_X5_in rfl ⟨by decide, by decide⟩ ⟨Nat.le_refl 0, Nat.le_refl 0⟩ (Nat.le_of_ble_eq_true rfl) ?_
  refine jx_if_ne (tgt := 21) E dX5_status_11 (by decide) (fun hc2 => ?_) (fun hc2 => ?_)
  · rw [if_neg hc2] at hF
    refine jx_iconst (x := 0) E dX5_status_21 (by decide) ?_
    refine jx_istore_n (lv' := [(2, .int 0), (0, .ref (ad 0)), (1, .int x1)]) E dX5_status_22 (by decide) rfl ?_
    refine jx_iconst (x := 0) E dX5_status_23 (by decide) ?_
    refine jx_istore_n (lv' := [(3, .int 0), (2, .int 0), (0, .ref (ad 0)), (1, .int x1)]) E dX5_status_24 (by decide) rfl ?_
    refine jx_sub [2, 3, 1, 0] rfl ?_
    exact (key 100000) x1 0 0 v1 hF
  · rw [if_pos hc2] at hF
    refine jx_aload_n E dX5_status_14 0 rfl ?_
    refine jx_ldc (x := -1000001) E dX5_status_15 (List.mem_cons_of_mem _ tw_320) ?_
    obtain ⟨⟨r3, v3⟩, hc3, hF⟩ := jx_bind hF
    try dsimp only at hF
    refine jx_callVi (As := [.int (-1000001)]) (st := []) (h := 0) E dX5_status_17 1 rfl (k_X5_finds hI (-1000001) v1 r3 v3 hc3) (gb_V (List.mem_cons_of_mem _ tw_344) (List.mem_cons_of_mem _ tw_345) (List.mem_cons_of_mem _ tw_346) (List.mem_cons_of_mem _ tw_325) tw_343) rfl rfl rfl dd_X5_finds rfl (Nat.le_of_ble_eq_true rfl) s_M0 rfl ⟨by decide, by decide⟩ ⟨Nat.le_refl 0, Nat.le_refl 0⟩ (Nat.le_of_ble_eq_true rfl) ?_
    obtain ⟨rfl, rfl⟩ := jx_out hF
    exact jx_iret E dX5_status_20 rfl
