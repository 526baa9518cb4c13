def f_X5_change (x1 : Int32) (x2 : Int32) (x3 : Int32) (v : jx_V) : Option (Int32 × jx_V) := ((f_X5_in (Int32.toInt64 x2) 0 3 v).bind (fun (r1, v1) => (if r1 = 0 then (if (-1000001 : Int32) = 0 then ((f_X5_its x1 x2 v1).bind (fun (r4, v4) => ((f_X5_at x1 x2 v4).bind (fun (r5, v5) => (if (r5 < 0 ∨ 181 ≤ Int32.toNatClampNeg r5) then none else (some (r4, (jx_up v5 1 (Int32.toNatClampNeg r5) x3)))))))) else ((f_X5_finds (-1000001) v1).bind (fun (r7, v7) => (some (r7, v7))))) else (if x2 = 0 then ((f_X5_in (Int32.toInt64 x3) 0 6 v1).bind (fun (r36, v36) => (if r36 = 0 then (if (-1000001 : Int32) = 0 then ((f_X5_its x1 x2 v36).bind (fun (r45, v45) => ((f_X5_at x1 x2 v45).bind (fun (r46, v46) => (if (r46 < 0 ∨ 181 ≤ Int32.toNatClampNeg r46) then none else (some (r45, (jx_up v46 1 (Int32.toNatClampNeg r46) x3)))))))) else ((f_X5_finds (-1000001) v36).bind (fun (r48, v48) => (some (r48, v48))))) else ((f_X5_lotWrong x1 v36).bind (fun (r38, v38) => (if r38 = 0 then ((f_X5_its x1 x2 v38).bind (fun (r40, v40) => ((f_X5_at x1 x2 v40).bind (fun (r41, v41) => (if (r41 < 0 ∨ 181 ≤ Int32.toNatClampNeg r41) then none else (some (r40, (jx_up v41 1 (Int32.toNatClampNeg r41) x3)))))))) else ((f_X5_finds r38 v38).bind (fun (r43, v43) => (some (r43, v43)))))))))) else (if x2 = 2 then ((f_X5_in (Int32.toInt64 x3) 0 9 v1).bind (fun (r23, v23) => (if r23 = 0 then (if (-1000001 : Int32) = 0 then ((f_X5_its x1 x2 v23).bind (fun (r32, v32) => ((f_X5_at x1 x2 v32).bind (fun (r33, v33) => (if (r33 < 0 ∨ 181 ≤ Int32.toNatClampNeg r33) then none else (some (r32, (jx_up v33 1 (Int32.toNatClampNeg r33) x3)))))))) else ((f_X5_finds (-1000001) v23).bind (fun (r35, v35) => (some (r35, v35))))) else ((f_X5_lotWrong x1 v23).bind (fun (r25, v25) => (if r25 = 0 then ((f_X5_its x1 x2 v25).bind (fun (r27, v27) => ((f_X5_at x1 x2 v27).bind (fun (r28, v28) => (if (r28 < 0 ∨ 181 ≤ Int32.toNatClampNeg r28) then none else (some (r27, (jx_up v28 1 (Int32.toNatClampNeg r28) x3)))))))) else ((f_X5_finds r25 v25).bind (fun (r30, v30) => (some (r30, v30)))))))))) else ((f_X5_in (Int32.toInt64 x3) 0 3 v1).bind (fun (r10, v10) => (if r10 = 0 then (if (-1000001 : Int32) = 0 then ((f_X5_its x1 x2 v10).bind (fun (r19, v19) => ((f_X5_at x1 x2 v19).bind (fun (r20, v20) => (if (r20 < 0 ∨ 181 ≤ Int32.toNatClampNeg r20) then none else (some (r19, (jx_up v20 1 (Int32.toNatClampNeg r20) x3)))))))) else ((f_X5_finds (-1000001) v10).bind (fun (r22, v22) => (some (r22, v22))))) else ((f_X5_lotWrong x1 v10).bind (fun (r12, v12) => (if r12 = 0 then ((f_X5_its x1 x2 v12).bind (fun (r14, v14) => ((f_X5_at x1 x2 v14).bind (fun (r15, v15) => (if (r15 < 0 ∨ 181 ≤ Int32.toNatClampNeg r15) then none else (some (r14, (jx_up v15 1 (Int32.toNatClampNeg r15) x3)))))))) else ((f_X5_finds r12 v12).bind (fun (r17, v17) => (some (r17, v17)))))))))))))))
def rm_X5_change : Room := { frames := 4, cells := 0, slots := 0, locals := 85 }
set_option maxHeartbeats 4000000 in
set_option maxRecDepth 100000 in
theorem k_X5_change {l : Launch} {D : va_G} {cI cJ : ClassId} {ad : Nat → Nat} {A : Nat → Prop} (hI : jx_inj 13 ad A) (x1 : Int32) (x2 : Int32) (x3 : Int32) (v : jx_V) (r : Int32) (v' : jx_V) (hF : f_X5_change x1 x2 x3 v = some (r, v')) : jx_Ci l D vwCl 13 cI cJ ad shM A ex_M yX5_change (Cond.code yX5_change cX5_change 6 (some .int) :: bigT) rm_X5_change [.ref (ad 0), .int x1, .int x2, .int x3] v r v' := by
  unfold f_X5_change at hF
  refine jx_enteri bigT RX5 cX5_change 6 (some .int) [(0, .ref (ad 0)), (1, .int x1), (2, .int x2), (3, .int x3)] hI (ex_M_ok A) (by decide +kernel) rfl (Nat.le_of_ble_eq_true rfl) rfl rfl ?_
  intro p e s m args below meth c E
  have iX5 : ∀ w ∈ u_ws RX5 TX5 21, w ∈ (Cond.code yX5_change cX5_change 6 (some .int) :: bigT) := fun w h => List.mem_cons_of_mem _ (uw_X5 w h)
  refine jx_iload_n E dX5_change_0 2 rfl ?_
  refine jx_i2l E dX5_change_1 ?_
  refine jx_lconst (x := 0) E dX5_change_2 (by decide) ?_
  refine jx_ldc2 (x := 3) E dX5_change_3 (List.mem_cons_of_mem _ tw_326) ?_
  obtain ⟨⟨r1, v1⟩, hc1, hF⟩ := jx_bind hF
  try dsimp only at hF
  refine jx_callSi (As := [.long (Int32.toInt64 x2), .long 0, .long 3]) (st := []) E dX5_change_6 3 rfl (k_X5_in hI (Int32.toInt64 x2) 0 3 v r1 v1 hc1) (gb_S (List.mem_cons_of_mem _ tw_323) (List.mem_cons_of_mem _ tw_324) (List.mem_cons_of_mem _ tw_325) tw_322) rfl rfl rfl dd_X5_in rfl ⟨by decide, by decide⟩ ⟨Nat.le_refl 0, Nat.le_refl 0⟩ (Nat.le_of_ble_eq_true rfl) ?_
  refine jx_if_eq (tgt := 45) E dX5_change_9 (by decide) (fun hc2 => ?_) (fun hc2 => ?_)
  · rw [if_pos hc2] at hF
    refine jx_ldc (x := -1000001) E dX5_change_45 (List.mem_cons_of_mem _ tw_320) ?_
    refine jx_goto (tgt := 55) E dX5_change_47 (by decide) ?_
    refine jx_istore (lv' := [(4, .int (-1000001)), (0, .ref (ad 0)), (1, .int x1), (2, .int x2), (3, .int x3)]) E dX5_change_55 (by decide) rfl ?_
    refine jx_iload E dX5_change_57 0 rfl ?_
    refine jx_if_eq (tgt := 69) E dX5_change_59 (by decide) (fun hc3 => ?_) (fun hc3 => ?_)
    · rw [if_pos hc3] at hF
      refine jx_aload_n E dX5_change_69 1 rfl ?_
      refine jx_iload_n E dX5_change_70 2 rfl ?_
      refine jx_iload_n E dX5_change_71 3 rfl ?_
      obtain ⟨⟨r4, v4⟩, hc4, hF⟩ := jx_bind hF
      try dsimp only at hF
      refine jx_callVi (As := [.int x1, .int x2]) (st := []) (h := 0) E dX5_change_72 2 rfl (k_X5_its hI x1 x2 v1 r4 v4 hc4) (gb_V (List.mem_cons_of_mem _ tw_335) (List.mem_cons_of_mem _ tw_336) (List.mem_cons_of_mem _ tw_337) (List.mem_cons_of_mem _ tw_325) tw_334) rfl rfl rfl dd_X5_its rfl (Nat.le_of_ble_eq_true rfl) s_M0 rfl ⟨by decide, by decide⟩ ⟨Nat.le_refl 0, Nat.le_refl 0⟩ (Nat.le_of_ble_eq_true rfl) ?_
      refine jx_istore (lv' := [(5, .int r4), (4, .int (-1000001)), (0, .ref (ad 0)), (1, .int x1), (2, .int x2), (3, .int x3)]) E dX5_change_75 (by decide) rfl ?_
      refine jx_aload_n E dX5_change_77 2 rfl ?_
      refine jx_getr (C := RX5) (T := TX5) (M := 21) (k := 0) E dX5_change_78 (Nat.le_of_ble_eq_true rfl) s_M0 rfl iX5 (by decide) rfl (List.mem_cons_of_mem _ tw_328) rfl ?_
      refine jx_iload_n E dX5_change_81 3 rfl ?_
      refine jx_iload_n E dX5_change_82 4 rfl ?_
      obtain ⟨⟨r5, v5⟩, hc5, hF⟩ := jx_bind hF
      try dsimp only at hF
      refine jx_callSi (As := [.int x1, .int x2]) (st := [.ref (ad 1)]) E dX5_change_83 2 rfl (k_X5_at hI x1 x2 v4 r5 v5 hc5) (gb_S (List.mem_cons_of_mem _ tw_332) (List.mem_cons_of_mem _ tw_333) (List.mem_cons_of_mem _ tw_325) tw_331) rfl rfl rfl dd_X5_at rfl ⟨by decide, by decide⟩ ⟨Nat.le_refl 0, Nat.le_refl 0⟩ (Nat.le_of_ble_eq_true rfl) ?_
      refine jx_iload_n E dX5_change_86 5 rfl ?_
      obtain ⟨hg6, hF⟩ := jx_guard hF
      refine jx_iast (h := 1) (j := (Int32.toNatClampNeg r5)) E dX5_change_87 (Nat.le_of_ble_eq_true rfl) s_M1 hg6 rfl ?_
      refine jx_iload E dX5_change_88 0 rfl ?_
      obtain ⟨rfl, rfl⟩ := jx_out hF
      exact jx_iret E dX5_change_90 rfl
    · rw [if_neg hc3] at hF
      refine jx_aload_n E dX5_change_62 1 rfl ?_
      refine jx_iload E dX5_change_63 0 rfl ?_
      obtain ⟨⟨r7, v7⟩, hc7, hF⟩ := jx_bind hF
      try dsimp only at hF
      refine jx_callVi (As := [.int (-1000001)]) (st := []) (h := 0) E dX5_change_65 1 rfl (k_X5_finds hI (-1000001) v1 r7 v7 hc7) (gb_V (List.mem_cons_of_mem _ tw_344) (List.mem_cons_of_mem _ tw_345) (List.mem_cons_of_mem _ tw_346) (List.mem_cons_of_mem _ tw_325) tw_343) rfl rfl rfl dd_X5_finds rfl (Nat.le_of_ble_eq_true rfl) s_M0 rfl ⟨by decide, by decide⟩ ⟨Nat.le_refl 0, Nat.le_refl 0⟩ (Nat.le_of_ble_eq_true rfl) ?_
      obtain ⟨rfl, rfl⟩ := jx_out hF
      exact jx_iret E dX5_change_68 rfl
  · rw [if_neg hc2] at hF
    refine jx_iload_n E dX5_change_12 3 rfl ?_
    refine jx_i2l E dX5_change_13 ?_
    refine jx_lconst (x := 0) E dX5_change_14 (by decide) ?_
    refine jx_iload_n E dX5_change_15 2 rfl ?_
    refine jx_if_ne (tgt := 25) E dX5_change_16 (by decide) (fun hc8 => ?_) (fun hc8 => ?_)
    · rw [if_neg hc8] at hF
      refine jx_iload_n E dX5_change_25 2 rfl ?_
      refine jx_iconst (x := 2) E dX5_change_26 (by decide) ?_
      refine jx_icmp_ne (tgt := 36) E dX5_change_27 (by decide) (fun hc9 => ?_) (fun hc9 => ?_)
      · rw [if_neg hc9] at hF
        refine jx_ldc2 (x := 3) E dX5_change_36 (List.mem_cons_of_mem _ tw_326) ?_
        obtain ⟨⟨r10, v10⟩, hc10, hF⟩ := jx_bind hF
        try dsimp only at hF
        refine jx_callSi (As := [.long (Int32.toInt64 x3), .long 0, .long 3]) (st := []) E dX5_change_39 3 rfl (k_X5_in hI (Int32.toInt64 x3) 0 3 v1 r10 v10 hc10) (gb_S (List.mem_cons_of_mem _ tw_323) (List.mem_cons_of_mem _ tw_324) (List.mem_cons_of_mem _ tw_325) tw_322) rfl rfl rfl dd_X5_in rfl ⟨by decide, by decide⟩ ⟨Nat.le_refl 0, Nat.le_refl 0⟩ (Nat.le_of_ble_eq_true rfl) ?_
        refine jx_if_ne (tgt := 50) E dX5_change_42 (by decide) (fun hc11 => ?_) (fun hc11 => ?_)
        · rw [if_neg hc11] at hF
          refine jx_aload_n E dX5_change_50 0 rfl ?_
          refine jx_iload_n E dX5_change_51 1 rfl ?_
          obtain ⟨⟨r12, v12⟩, hc12, hF⟩ := jx_bind hF
          try dsimp only at hF
          refine jx_callVi (As := [.int x1]) (st := []) (h := 0) E dX5_change_52 1 rfl (k_X5_lotWrong hI x1 v10 r12 v12 hc12) (gb_V (List.mem_cons_of_mem _ tw_367) (List.mem_cons_of_mem _ tw_368) (List.mem_cons_of_mem _ tw_369) (List.mem_cons_of_mem _ tw_325) tw_366) rfl rfl rfl dd_X5_lotWrong rfl (Nat.le_of_ble_eq_true rfl) s_M0 rfl ⟨by decide, by decide⟩ ⟨Nat.le_refl 0, Nat.le_refl 0⟩ (Nat.le_of_ble_eq_true rfl) ?_
          refine jx_istore (lv' := [(4, .int r12), (0, .ref (ad 0)), (1, .int x1), (2, .int x2), (3, .int x3)]) E dX5_change_55 (by decide) rfl ?_
          refine jx_iload E dX5_change_57 0 rfl ?_
          refine jx_if_eq (tgt := 69) E dX5_change_59 (by decide) (fun hc13 => ?_) (fun hc13 => ?_)
          · rw [if_pos hc13] at hF
            refine jx_aload_n E dX5_change_69 1 rfl ?_
            refine jx_iload_n E dX5_change_70 2 rfl ?_
            refine jx_iload_n E dX5_change_71 3 rfl ?_
            obtain ⟨⟨r14, v14⟩, hc14, hF⟩ := jx_bind hF
            try dsimp only at hF
            refine jx_callVi (As := [.int x1, .int x2]) (st := []) (h := 0) E dX5_change_72 2 rfl (k_X5_its hI x1 x2 v12 r14 v14 hc14) (gb_V (List.mem_cons_of_mem _ tw_335) (List.mem_cons_of_mem _ tw_336) (List.mem_cons_of_mem _ tw_337) (List.mem_cons_of_mem _ tw_325) tw_334) rfl rfl rfl dd_X5_its rfl (Nat.le_of_ble_eq_true rfl) s_M0 rfl ⟨by decide, by decide⟩ ⟨Nat.le_refl 0, Nat.le_refl 0⟩ (Nat.le_of_ble_eq_true rfl) ?_
            refine jx_istore (lv' := [(5, .int r14), (4, .int r12), (0, .ref (ad 0)), (1, .int x1), (2, .int x2), (3, .int x3)]) E dX5_change_75 (by decide) rfl ?_
            refine jx_aload_n E dX5_change_77 2 rfl ?_
            refine jx_getr (C := RX5) (T := TX5) (M := 21) (k := 0) E dX5_change_78 (Nat.le_of_ble_eq_true rfl) s_M0 rfl iX5 (by decide) rfl (List.mem_cons_of_mem _ tw_328) rfl ?_
            refine jx_iload_n E dX5_change_81 3 rfl ?_
            refine jx_iload_n E dX5_change_82 4 rfl ?_
            obtain ⟨⟨r15, v15⟩, hc15, hF⟩ := jx_bind hF
            try dsimp only at hF
            refine jx_callSi (As := [.int x1, .int x2]) (st := [.ref (ad 1)]) E dX5_change_83 2 rfl (k_X5_at hI x1 x2 v14 r15 v15 hc15) (gb_S (List.mem_cons_of_mem _ tw_332) (List.mem_cons_of_mem _ tw_333) (List.mem_cons_of_mem _ tw_325) tw_331) rfl rfl rfl dd_X5_at rfl ⟨by decide, by decide⟩ ⟨Nat.le_refl 0, Nat.le_refl 0⟩ (Nat.le_of_ble_eq_true rfl) ?_
            refine jx_iload_n E dX5_change_86 5 rfl ?_
            obtain ⟨hg16, hF⟩ := jx_guard hF
            refine jx_iast (h := 1) (j := (Int32.toNatClampNeg r15)) E dX5_change_87 (Nat.le_of_ble_eq_true rfl) s_M1 hg16 rfl ?_
            refine jx_iload E dX5_change_88 0 rfl ?_
            obtain ⟨rfl, rfl⟩ := jx_out hF
            exact jx_iret E dX5_change_90 rfl
          · rw [if_neg hc13] at hF
            refine jx_aload_n E dX5_change_62 1 rfl ?_
            refine jx_iload E dX5_change_63 0 rfl ?_
            obtain ⟨⟨r17, v17⟩, hc17, hF⟩ := jx_bind hF
            try dsimp only at hF
            refine jx_callVi (As := [.int r12]) (st := []) (h := 0) E dX5_change_65 1 rfl (k_X5_finds hI r12 v12 r17 v17 hc17) (gb_V (List.mem_cons_of_mem _ tw_344) (List.mem_cons_of_mem _ tw_345) (List.mem_cons_of_mem _ tw_346) (List.mem_cons_of_mem _ tw_325) tw_343) rfl rfl rfl dd_X5_finds rfl (Nat.le_of_ble_eq_true rfl) s_M0 rfl ⟨by decide, by decide⟩ ⟨Nat.le_refl 0, Nat.le_refl 0⟩ (Nat.le_of_ble_eq_true rfl) ?_
            obtain ⟨rfl, rfl⟩ := jx_out hF
            exact jx_iret E dX5_change_68 rfl
        · rw [if_pos hc11] at hF
          refine jx_ldc (x := -1000001) E dX5_change_45 (List.mem_cons_of_mem _ tw_320) ?_
          refine jx_goto (tgt := 55) E dX5_change_47 (by decide) ?_
          refine jx_istore (lv' := [(4, .int (-1000001)), (0, .ref (ad 0)), (1, .int x1), (2, .int x2), (3, .int x3)]) E dX5_change_55 (by decide) rfl ?_
          refine jx_iload E dX5_change_57 0 rfl ?_
          refine jx_if_eq (tgt := 69) E dX5_change_59 (by decide) (fun hc18 => ?_) (fun hc18 => ?_)
          · rw [if_pos hc18] at hF
            refine jx_aload_n E dX5_change_69 1 rfl ?_
            refine jx_iload_n E dX5_change_70 2 rfl ?_
            refine jx_iload_n E dX5_change_71 3 rfl ?_
            obtain ⟨⟨r19, v19⟩, hc19, hF⟩ := jx_bind hF
            try dsimp only at hF
            refine jx_callVi (As := [.int x1, .int x2]) (st := []) (h := 0) E dX5_change_72 2 rfl (k_X5_its hI x1 x2 v10 r19 v19 hc19) (gb_V (List.mem_cons_of_mem _ tw_335) (List.mem_cons_of_mem _ tw_336) (List.mem_cons_of_mem _ tw_337) (List.mem_cons_of_mem _ tw_325) tw_334) rfl rfl rfl dd_X5_its rfl (Nat.le_of_ble_eq_true rfl) s_M0 rfl ⟨by decide, by decide⟩ ⟨Nat.le_refl 0, Nat.le_refl 0⟩ (Nat.le_of_ble_eq_true rfl) ?_
            refine jx_istore (lv' := [(5, .int r19), (4, .int (-1000001)), (0, .ref (ad 0)), (1, .int x1), (2, .int x2), (3, .int x3)]) E dX5_change_75 (by decide) rfl ?_
            refine jx_aload_n E dX5_change_77 2 rfl ?_
            refine jx_getr (C := RX5) (T := TX5) (M := 21) (k := 0) E dX5_change_78 (Nat.le_of_ble_eq_true rfl) s_M0 rfl iX5 (by decide) rfl (List.mem_cons_of_mem _ tw_328) rfl ?_
            refine jx_iload_n E dX5_change_81 3 rfl ?_
            refine jx_iload_n E dX5_change_82 4 rfl ?_
            obtain ⟨⟨r20, v20⟩, hc20, hF⟩ := jx_bind hF
            try dsimp only at hF
            refine jx_callSi (As := [.int x1, .int x2]) (st := [.ref (ad 1)]) E dX5_change_83 2 rfl (k_X5_at hI x1 x2 v19 r20 v20 hc20) (gb_S (List.mem_cons_of_mem _ tw_332) (List.mem_cons_of_mem _ tw_333) (List.mem_cons_of_mem _ tw_325) tw_331) rfl rfl rfl dd_X5_at rfl ⟨by decide, by decide⟩ ⟨Nat.le_refl 0, Nat.le_refl 0⟩ (Nat.le_of_ble_eq_true rfl) ?_
            refine jx_iload_n E dX5_change_86 5 rfl ?_
            obtain ⟨hg21, hF⟩ := jx_guard hF
            refine jx_iast (h := 1) (j := (Int32.toNatClampNeg r20)) E dX5_change_87 (Nat.le_of_ble_eq_true rfl) s_M1 hg21 rfl ?_
            refine jx_iload E dX5_change_88 0 rfl ?_
            obtain ⟨rfl, rfl⟩ := jx_out hF
            exact jx_iret E dX5_change_90 rfl
          · rw [if_neg hc18] at hF
            refine jx_aload_n E dX5_change_62 1 rfl ?_
            refine jx_iload E dX5_change_63 0 rfl ?_
            obtain ⟨⟨r22, v22⟩, hc22, hF⟩ := jx_bind hF
            try dsimp only at hF
            refine jx_callVi (As := [.int (-1000001)]) (st := []) (h := 0) E dX5_change_65 1 rfl (k_X5_finds hI (-1000001) v10 r22 v22 hc22) (gb_V (List.mem_cons_of_mem _ tw_344) (List.mem_cons_of_mem _ tw_345) (List.mem_cons_of_mem _ tw_346) (List.mem_cons_of_mem _ tw_325) tw_343) rfl rfl rfl dd_X5_finds rfl (Nat.le_of_ble_eq_true rfl) s_M0 rfl ⟨by decide, by decide⟩ ⟨Nat.le_refl 0, Nat.le_refl 0⟩ (Nat.le_of_ble_eq_true rfl) ?_
            obtain ⟨rfl, rfl⟩ := jx_out hF
            exact jx_iret E dX5_change_68 rfl
      · rw [if_pos hc9] at hF
        refine jx_ldc2 (x := 9) E dX5_change_30 (List.mem_cons_of_mem _ tw_327) ?_
        refine jx_goto (tgt := 39) E dX5_change_33 (by decide) ?_
        obtain ⟨⟨r23, v23⟩, hc23, hF⟩ := jx_bind hF
        try dsimp only at hF
        refine jx_callSi (As := [.long (Int32.toInt64 x3), .long 0, .long 9]) (st := []) E dX5_change_39 3 rfl (k_X5_in hI (Int32.toInt64 x3) 0 9 v1 r23 v23 hc23) (gb_S (List.mem_cons_of_mem _ tw_323) (List.mem_cons_of_mem _ tw_324) (List.mem_cons_of_mem _ tw_325) tw_322) rfl rfl rfl dd_X5_in rfl ⟨by decide, by decide⟩ ⟨Nat.le_refl 0, Nat.le_refl 0⟩ (Nat.le_of_ble_eq_true rfl) ?_
        refine jx_if_ne (tgt := 50) E dX5_change_42 (by decide) (fun hc24 => ?_) (fun hc24 => ?_)
        · rw [if_neg hc24] at hF
          refine jx_aload_n E dX5_change_50 0 rfl ?_
          refine jx_iload_n E dX5_change_51 1 rfl ?_
          obtain ⟨⟨r25, v25⟩, hc25, hF⟩ := jx_bind hF
          try dsimp only at hF
          refine jx_callVi (As := [.int x1]) (st := []) (h := 0) E dX5_change_52 1 rfl (k_X5_lotWrong hI x1 v23 r25 v25 hc25) (gb_V (List.mem_cons_of_mem _ tw_367) (List.mem_cons_of_mem _ tw_368) (List.mem_cons_of_mem _ tw_369) (List.mem_cons_of_mem _ tw_325) tw_366) rfl rfl rfl dd_X5_lotWrong rfl (Nat.le_of_ble_eq_true rfl) s_M0 rfl ⟨by decide, by decide⟩ ⟨Nat.le_refl 0, Nat.le_refl 0⟩ (Nat.le_of_ble_eq_true rfl) ?_
          refine jx_istore (lv' := [(4, .int r25), (0, .ref (ad 0)), (1, .int x1), (2, .int x2), (3, .int x3)]) E dX5_change_55 (by decide) rfl ?_
          refine jx_iload E dX5_change_57 0 rfl ?_
          refine jx_if_eq (tgt := 69) E dX5_change_59 (by decide) (fun hc26 => ?_) (fun hc26 => ?_)
          · rw [if_pos hc26] at hF
            refine jx_aload_n E dX5_change_69 1 rfl ?_
            refine jx_iload_n E dX5_change_70 2 rfl ?_
            refine jx_iload_n E dX5_change_71 3 rfl ?_
            obtain ⟨⟨r27, v27⟩, hc27, hF⟩ := jx_bind hF
            try dsimp only at hF
            refine jx_callVi (As := [.int x1, .int x2]) (st := []) (h := 0) E dX5_change_72 2 rfl (k_X5_its hI x1 x2 v25 r27 v27 hc27) (gb_V (List.mem_cons_of_mem _ tw_335) (List.mem_cons_of_mem _ tw_336) (List.mem_cons_of_mem _ tw_337) (List.mem_cons_of_mem _ tw_325) tw_334) rfl rfl rfl dd_X5_its rfl (Nat.le_of_ble_eq_true rfl) s_M0 rfl ⟨by decide, by decide⟩ ⟨Nat.le_refl 0, Nat.le_refl 0⟩ (Nat.le_of_ble_eq_true rfl) ?_
            refine jx_istore (lv' := [(5, .int r27), (4, .int r25), (0, .ref (ad 0)), (1, .int x1), (2, .int x2), (3, .int x3)]) E dX5_change_75 (by decide) rfl ?_
            refine jx_aload_n E dX5_change_77 2 rfl ?_
            refine jx_getr (C := RX5) (T := TX5) (M := 21) (k := 0) E dX5_change_78 (Nat.le_of_ble_eq_true rfl) s_M0 rfl iX5 (by decide) rfl (List.mem_cons_of_mem _ tw_328) rfl ?_
            refine jx_iload_n E dX5_change_81 3 rfl ?_
            refine jx_iload_n E dX5_change_82 4 rfl ?_
            obtain ⟨⟨r28, v28⟩, hc28, hF⟩ := jx_bind hF
            try dsimp only at hF
            refine jx_callSi (As := [.int x1, .int x2]) (st := [.ref (ad 1)]) E dX5_change_83 2 rfl (k_X5_at hI x1 x2 v27 r28 v28 hc28) (gb_S (List.mem_cons_of_mem _ tw_332) (List.mem_cons_of_mem _ tw_333) (List.mem_cons_of_mem _ tw_325) tw_331) rfl rfl rfl dd_X5_at rfl ⟨by decide, by decide⟩ ⟨Nat.le_refl 0, Nat.le_refl 0⟩ (Nat.le_of_ble_eq_true rfl) ?_
            refine jx_iload_n E dX5_change_86 5 rfl ?_
            obtain ⟨hg29, hF⟩ := jx_guard hF
            refine jx_iast (h := 1) (j := (Int32.toNatClampNeg r28)) E dX5_change_87 (Nat.le_of_ble_eq_true rfl) s_M1 hg29 rfl ?_
            refine jx_iload E dX5_change_88 0 rfl ?_
            obtain ⟨rfl, rfl⟩ := jx_out hF
            exact jx_iret E dX5_change_90 rfl
          · rw [if_neg hc26] at hF
            refine jx_aload_n E dX5_change_62 1 rfl ?_
            refine jx_iload E dX5_change_63 0 rfl ?_
            obtain ⟨⟨r30, v30⟩, hc30, hF⟩ := jx_bind hF
            try dsimp only at hF
            refine jx_callVi (As := [.int r25]) (st := []) (h := 0) E dX5_change_65 1 rfl (k_X5_finds hI r25 v25 r30 v30 hc30) (gb_V (List.mem_cons_of_mem _ tw_344) (List.mem_cons_of_mem _ tw_345) (List.mem_cons_of_mem _ tw_346) (List.mem_cons_of_mem _ tw_325) tw_343) rfl rfl rfl dd_X5_finds rfl (Nat.le_of_ble_eq_true rfl) s_M0 rfl ⟨by decide, by decide⟩ ⟨Nat.le_refl 0, Nat.le_refl 0⟩ (Nat.le_of_ble_eq_true rfl) ?_
            obtain ⟨rfl, rfl⟩ := jx_out hF
            exact jx_iret E dX5_change_68 rfl
        · rw [if_pos hc24] at hF
          refine jx_ldc (x := -1000001) E dX5_change_45 (List.mem_cons_of_mem _ tw_320) ?_
          refine jx_goto (tgt := 55) E dX5_change_47 (by decide) ?_
          refine jx_istore (lv' := [(4, .int (-1000001)), (0, .ref (ad 0)), (1, .int x1), (2, .int x2), (3, .int x3)]) E dX5_change_55 (by decide) rfl ?_
          refine jx_iload E dX5_change_57 0 rfl ?_
          refine jx_if_eq (tgt := 69) E dX5_change_59 (by decide) (fun hc31 => ?_) (fun hc31 => ?_)
          · rw [if_pos hc31] at hF
            refine jx_aload_n E dX5_change_69 1 rfl ?_
            refine jx_iload_n E dX5_change_70 2 rfl ?_
            refine jx_iload_n E dX5_change_71 3 rfl ?_
            obtain ⟨⟨r32, v32⟩, hc32, hF⟩ := jx_bind hF
            try dsimp only at hF
            refine jx_callVi (As := [.int x1, .int x2]) (st := []) (h := 0) E dX5_change_72 2 rfl (k_X5_its hI x1 x2 v23 r32 v32 hc32) (gb_V (List.mem_cons_of_mem _ tw_335) (List.mem_cons_of_mem _ tw_336) (List.mem_cons_of_mem _ tw_337) (List.mem_cons_of_mem _ tw_325) tw_334) rfl rfl rfl dd_X5_its rfl (Nat.le_of_ble_eq_true rfl) s_M0 rfl ⟨by decide, by decide⟩ ⟨Nat.le_refl 0, Nat.le_refl 0⟩ (Nat.le_of_ble_eq_true rfl) ?_
            refine jx_istore (lv' := [(5, .int r32), (4, .int (-1000001)), (0, .ref (ad 0)), (1, .int x1), (2, .int x2), (3, .int x3)]) E dX5_change_75 (by decide) rfl ?_
            refine jx_aload_n E dX5_change_77 2 rfl ?_
            refine jx_getr (C := RX5) (T := TX5) (M := 21) (k := 0) E dX5_change_78 (Nat.le_of_ble_eq_true rfl) s_M0 rfl iX5 (by decide) rfl (List.mem_cons_of_mem _ tw_328) rfl ?_
            refine jx_iload_n E dX5_change_81 3 rfl ?_
            refine jx_iload_n E dX5_change_82 4 rfl ?_
            obtain ⟨⟨r33, v33⟩, hc33, hF⟩ := jx_bind hF
            try dsimp only at hF
            refine jx_callSi (As := [.int x1, .int x2]) (st := [.ref (ad 1)]) E dX5_change_83 2 rfl (k_X5_at hI x1 x2 v32 r33 v33 hc33) (gb_S (List.mem_cons_of_mem _ tw_332) (List.mem_cons_of_mem _ tw_333) (List.mem_cons_of_mem _ tw_325) tw_331) rfl rfl rfl dd_X5_at rfl ⟨by decide, by decide⟩ ⟨Nat.le_refl 0, Nat.le_refl 0⟩ (Nat.le_of_ble_eq_true rfl) ?_
            refine jx_iload_n E dX5_change_86 5 rfl ?_
            obtain ⟨hg34, hF⟩ := jx_guard hF
            refine jx_iast (h := 1) (j := (Int32.toNatClampNeg r33)) E dX5_change_87 (Nat.le_of_ble_eq_true rfl) s_M1 hg34 rfl ?_
            refine jx_iload E dX5_change_88 0 rfl ?_
            obtain ⟨rfl, rfl⟩ := jx_out hF
            exact jx_iret E dX5_change_90 rfl
          · rw [if_neg hc31] at hF
            refine jx_aload_n E dX5_change_62 1 rfl ?_
            refine jx_iload E dX5_change_63 0 rfl ?_
            obtain ⟨⟨r35, v35⟩, hc35, hF⟩ := jx_bind hF
            try dsimp only at hF
            refine jx_callVi (As := [.int (-1000001)]) (st := []) (h := 0) E dX5_change_65 1 rfl (k_X5_finds hI (-1000001) v23 r35 v35 hc35) (gb_V (List.mem_cons_of_mem _ tw_344) (List.mem_cons_of_mem _ tw_345) (List.mem_cons_of_mem _ tw_346) (List.mem_cons_of_mem _ tw_325) tw_343) rfl rfl rfl dd_X5_finds rfl (Nat.le_of_ble_eq_true rfl) s_M0 rfl ⟨by decide, by decide⟩ ⟨Nat.le_refl 0, Nat.le_refl 0⟩ (Nat.le_of_ble_eq_true rfl) ?_
            obtain ⟨rfl, rfl⟩ := jx_out hF
            exact jx_iret E dX5_change_68 rfl
    · rw [if_pos hc8] at hF
      refine jx_ldc2 (x := 6) E dX5_change_19 (List.mem_cons_of_mem _ tw_342) ?_
      refine jx_goto (tgt := 39) E dX5_change_22 (by decide) ?_
      obtain ⟨⟨r36, v36⟩, hc36, hF⟩ := jx_bind hF
      try dsimp only at hF
      refine jx_callSi (As := [.long (Int32.toInt64 x3), .long 0, .long 6]) (st := []) E dX5_change_39 3 rfl (k_X5_in hI (Int32.toInt64 x3) 0 6 v1 r36 v36 hc36) (gb_S (List.mem_cons_of_mem _ tw_323) (List.mem_cons_of_mem _ tw_324) (List.mem_cons_of_mem _ tw_325) tw_322) rfl rfl rfl dd_X5_in rfl ⟨by decide, by decide⟩ ⟨Nat.le_refl 0, Nat.le_refl 0⟩ (Nat.le_of_ble_eq_true rfl) ?_
      refine jx_if_ne (tgt := 50) E dX5_change_42 (by decide) (fun hc37 => ?_) (fun hc37 => ?_)
      · rw [if_neg hc37] at hF
        refine jx_aload_n E dX5_change_50 0 rfl ?_
        refine jx_iload_n E dX5_change_51 1 rfl ?_
        obtain ⟨⟨r38, v38⟩, hc38, hF⟩ := jx_bind hF
        try dsimp only at hF
        refine jx_callVi (As := [.int x1]) (st := []) (h := 0) E dX5_change_52 1 rfl (k_X5_lotWrong hI x1 v36 r38 v38 hc38) (gb_V (List.mem_cons_of_mem _ tw_367) (List.mem_cons_of_mem _ tw_368) (List.mem_cons_of_mem _ tw_369) (List.mem_cons_of_mem _ tw_325) tw_366) rfl rfl rfl dd_X5_lotWrong rfl (Nat.le_of_ble_eq_true rfl) s_M0 rfl ⟨by decide, by decide⟩ ⟨Nat.le_refl 0, Nat.le_refl 0⟩ (Nat.le_of_ble_eq_true rfl) ?_
        refine jx_istore (lv' := [(4, .int r38), (0, .ref (ad 0)), (1, .int x1), (2, .int x2), (3, .int x3)]) E dX5_change_55 (by decide) rfl ?_
        refine jx_iload E dX5_change_57 0 rfl ?_
        refine jx_if_eq (tgt := 69) E dX5_change_59 (by decide) (fun hc39 => ?_) (fun hc39 => ?_)
        · rw [if_pos hc39] at hF
          refine jx_aload_n E dX5_change_69 1 rfl ?_
          refine jx_iload_n E dX5_change_70 2 rfl ?_
          refine jx_iload_n E dX5_change_71 3 rfl ?_
          obtain ⟨⟨r40, v40⟩, hc40, hF⟩ := jx_bind hF
          try dsimp only at hF
          refine jx_callVi (As := [.int x1, .int x2]) (st := []) (h := 0) E dX5_change_72 2 rfl (k_X5_its hI x1 x2 v38 r40 v40 hc40) (gb_V (List.mem_cons_of_mem _ tw_335) (List.mem_cons_of_mem _ tw_336) (List.mem_cons_of_mem _ tw_337) (List.mem_cons_of_mem _ tw_325) tw_334) rfl rfl rfl dd_X5_its rfl (Nat.le_of_ble_eq_true rfl) s_M0 rfl ⟨by decide, by decide⟩ ⟨Nat.le_refl 0, Nat.le_refl 0⟩ (Nat.le_of_ble_eq_true rfl) ?_
          refine jx_istore (lv' := [(5, .int r40), (4, .int r38), (0, .ref (ad 0)), (1, .int x1), (2, .int x2), (3, .int x3)]) E dX5_change_75 (by decide) rfl ?_
          refine jx_aload_n E dX5_change_77 2 rfl ?_
          refine jx_getr (C := RX5) (T := TX5) (M := 21) (k := 0) E dX5_change_78 (Nat.le_of_ble_eq_true rfl) s_M0 rfl iX5 (by decide) rfl (List.mem_cons_of_mem _ tw_328) rfl ?_
          refine jx_iload_n E dX5_change_81 3 rfl ?_
          refine jx_iload_n E dX5_change_82 4 rfl ?_
          obtain ⟨⟨r41, v41⟩, hc41, hF⟩ := jx_bind hF
          try dsimp only at hF
          refine jx_callSi (As := [.int x1, .int x2]) (st := [.ref (ad 1)]) E dX5_change_83 2 rfl (k_X5_at hI x1 x2 v40 r41 v41 hc41) (gb_S (List.mem_cons_of_mem _ tw_332) (List.mem_cons_of_mem _ tw_333) (List.mem_cons_of_mem _ tw_325) tw_331) rfl rfl rfl dd_X5_at rfl ⟨by decide, by decide⟩ ⟨Nat.le_refl 0, Nat.le_refl 0⟩ (Nat.le_of_ble_eq_true rfl) ?_
          refine jx_iload_n E dX5_change_86 5 rfl ?_
          obtain ⟨hg42, hF⟩ := jx_guard hF
          refine jx_iast (h := 1) (j := (Int32.toNatClampNeg r41)) E dX5_change_87 (Nat.le_of_ble_eq_true rfl) s_M1 hg42 rfl ?_
          refine jx_iload E dX5_change_88 0 rfl ?_
          obtain ⟨rfl, rfl⟩ := jx_out hF
          exact jx_iret E dX5_change_90 rfl
        · rw [if_neg hc39] at hF
          refine jx_aload_n E dX5_change_62 1 rfl ?_
          refine jx_iload E dX5_change_63 0 rfl ?_
          obtain ⟨⟨r43, v43⟩, hc43, hF⟩ := jx_bind hF
          try dsimp only at hF
          refine jx_callVi (As := [.int r38]) (st := []) (h := 0) E dX5_change_65 1 rfl (k_X5_finds hI r38 v38 r43 v43 hc43) (gb_V (List.mem_cons_of_mem _ tw_344) (List.mem_cons_of_mem _ tw_345) (List.mem_cons_of_mem _ tw_346) (List.mem_cons_of_mem _ tw_325) tw_343) rfl rfl rfl dd_X5_finds rfl (Nat.le_of_ble_eq_true rfl) s_M0 rfl ⟨by decide, by decide⟩ ⟨Nat.le_refl 0, Nat.le_refl 0⟩ (Nat.le_of_ble_eq_true rfl) ?_
          obtain ⟨rfl, rfl⟩ := jx_out hF
          exact jx_iret E dX5_change_68 rfl
      · rw [if_pos hc37] at hF
        refine jx_ldc (x := -1000001) E dX5_change_45 (List.mem_cons_of_mem _ tw_320) ?_
        refine jx_goto (tgt := 55) E dX5_change_47 (by decide) ?_
        refine jx_istore (lv' := [(4, .int (-1000001)), (0, .ref (ad 0)), (1, .int x1), (2, .int x2), (3, .int x3)]) E dX5_change_55 (by decide) rfl ?_
        refine jx_iload E dX5_change_57 0 rfl ?_
        refine jx_if_eq (tgt := 69) E dX5_change_59 (by decide) (fun hc44 => ?_) (fun hc44 => ?_)
        · rw [if_pos hc44] at hF
          refine jx_aload_n E dX5_change_69 1 rfl ?_
          refine jx_iload_n E dX5_change_70 2 rfl ?_
          refine jx_iload_n E dX5_change_71 3 rfl ?_
          obtain ⟨⟨r45, v45⟩, hc45, hF⟩ := jx_bind hF
          try dsimp only at hF
          refine jx_callVi (As := [.int x1, .int x2]) (st := []) (h := 0) E dX5_change_72 2 rfl (k_X5_its hI x1 x2 v36 r45 v45 hc45) (gb_V (List.mem_cons_of_mem _ tw_335) (List.mem_cons_of_mem _ tw_336) (List.mem_cons_of_mem _ tw_337) (List.mem_cons_of_mem _ tw_325) tw_334) rfl rfl rfl dd_X5_its rfl (Nat.le_of_ble_eq_true rfl) s_M0 rfl ⟨by decide, by decide⟩ ⟨Nat.le_refl 0, Nat.le_refl 0⟩ (Nat.le_of_ble_eq_true rfl) ?_
          refine jx_istore (lv' := [(5, .int r45), (4, .int (-1000001)), (0, .ref (ad 0)), (1, .int x1), (2, .int x2), (3, .int x3)]) E dX5_change_75 (by decide) rfl ?_
          refine jx_aload_n E dX5_change_77 2 rfl ?_
          refine jx_getr (C := RX5) (T := TX5) (M := 21) (k := 0) E dX5_change_78 (Nat.le_of_ble_eq_true rfl) s_M0 rfl iX5 (by decide) rfl (List.mem_cons_of_mem _ tw_328) rfl ?_
          refine jx_iload_n E dX5_change_81 3 rfl ?_
          refine jx_iload_n E dX5_change_82 4 rfl ?_
          obtain ⟨⟨r46, v46⟩, hc46, hF⟩ := jx_bind hF
          try dsimp only at hF
          refine jx_callSi (As := [.int x1, .int x2]) (st := [.ref (ad 1)]) E dX5_change_83 2 rfl (k_X5_at hI x1 x2 v45 r46 v46 hc46) (gb_S (List.mem_cons_of_mem _ tw_332) (List.mem_cons_of_mem _ tw_333) (List.mem_cons_of_mem _ tw_325) tw_331) rfl rfl rfl dd_X5_at rfl ⟨by decide, by decide⟩ ⟨Nat.le_refl 0, Nat.le_refl 0⟩ (Nat.le_of_ble_eq_true rfl) ?_
          refine jx_iload_n E dX5_change_86 5 rfl ?_
          obtain ⟨hg47, hF⟩ := jx_guard hF
          refine jx_iast (h := 1) (j := (Int32.toNatClampNeg r46)) E dX5_change_87 (Nat.le_of_ble_eq_true rfl) s_M1 hg47 rfl ?_
          refine jx_iload E dX5_change_88 0 rfl ?_
          obtain ⟨rfl, rfl⟩ := jx_out hF
          exact jx_iret E dX5_change_90 rfl
        · rw [if_neg hc44] at hF
          refine jx_aload_n E dX5_change_62 1 rfl ?_
          refine jx_iload E dX5_change_63 0 rfl ?_
          obtain ⟨⟨r48, v48⟩, hc48, hF⟩ := jx_bind hF
          try dsimp only at hF
          refine jx_callVi (As := [.int (-1000001)]) (st := []) (h := 0) E dX5_change_65 1 rfl (k_X5_finds hI (-1000001) v36 r48 v48 hc48) (gb_V (List.mem_cons_of_mem _ tw_344) (List.mem_cons_of_mem _ tw_345) (List.mem_cons_of_mem _ tw_346) (List.mem_cons_of_mem _ tw_325) tw_343) rfl rfl rfl dd_X5_finds rfl (Nat.le_of_ble_eq_true rfl) s_M0 rfl ⟨by decide, by decide⟩ ⟨Nat.le_refl 0, Nat.le_refl 0⟩ (Nat.le_of_ble_eq_true rfl) ?_
          obtain ⟨rfl, rfl⟩ := jx_out hF
          exact jx_iret E dX5_change_68 rfl
def f_X5_price (x1 : Int32) (x2 : Int32) (v : jx_V) : Option (Int32 × jx_V) := ((f_X5_in (Int32.toInt64 x1) 0 3 v).bind (fun (r1, v1) => (if r1 = 0 then ((f_X5_finds (-1000001) v1).bind (fun (r3, v3) => (some (r3, v3)))) else ((f_X5_in (Int32.toInt64 x2) 0 99 v1).bind (fun (r4, v4) => (if r4 = 0 then ((f_X5_finds (-1000001) v4).bind (fun (r8, v8) => (some (r8, v8)))) else (if ((3 + x1) < 0 ∨ 181 ≤ Int32.toNatClampNeg (3 + x1)) then none else (if ((3 + x1) < 0 ∨ 181 ≤ Int32.toNatClampNeg (3 + x1)) then none else (some ((v4 1 (Int32.toNatClampNeg (3 + x1))), (jx_up v4 1 (Int32.toNatClampNeg (3 + x1)) x2)))))))))))
def rm_X5_price : Room := { frames := 1, cells := 0, slots := 0, locals := 25 }
set_option maxHeartbeats 4000000 in
set_option maxRecDepth 100000 in
theorem k_X5_price {l : Launch} {D : va_G} {cI cJ : ClassId} {ad : Nat → Nat} {A : Nat → Prop} (hI : jx_inj 13 ad A) (x1 : Int32) (x2 : Int32) (v : jx_V) (r : Int32) (v' : jx_V) (hF : f_X5_price x1 x2 v = some (r, v')) : jx_Ci l D vwCl 13 cI cJ ad shM A ex_M yX5_price (Cond.code yX5_price cX5_price 4 (some .int) :: bigT) rm_X5_price [.ref (ad 0), .int x1, .int x2] v r v' := by
  unfold f_X5_price at hF
  refine jx_enteri bigT RX5 cX5_price 4 (some .int) [(0, .ref (ad 0)), (1, .int x1), (2, .int x2)] hI (ex_M_ok A) (by decide +kernel) rfl (Nat.le_of_ble_eq_true rfl) rfl rfl ?_
  intro p e s m args below meth c E
  have iX5 : ∀ w ∈ u_ws RX5 TX5 21, w ∈ (Cond.code yX5_price cX5_price 4 (some .int) :: bigT) := fun w h => List.mem_cons_of_mem _ (uw_X5 w h)
  refine jx_iload_n E dX5_price_0 1 rfl ?_
  refine jx_i2l E dX5_price_1 ?_
  refine jx_lconst (x := 0) E dX5_price_2 (by decide) ?_
  refine jx_ldc2 (x := 3) E dX5_price_3 (List.mem_cons_of_mem _ tw_326) ?_
  obtain ⟨⟨r1, v1⟩, hc1, hF⟩ := jx_bind hF
  try dsimp only at hF
  refine jx_callSi (As := [.long (Int32.toInt64 x1), .long 0, .long 3]) (st := []) E dX5_price_6 3 rfl (k_X5_in hI (Int32.toInt64 x1) 0 3 v r1 v1 hc1) (gb_S (List.mem_cons_of_mem _ tw_323) (List.mem_cons_of_mem _ tw_324) (List.mem_cons_of_mem _ tw_325) tw_322) rfl rfl rfl dd_X5_in rfl ⟨by decide, by decide⟩ ⟨Nat.le_refl 0, Nat.le_refl 0⟩ (Nat.le_of_ble_eq_true rfl) ?_
  refine jx_if_eq (tgt := 24) E dX5_price_9 (by decide) (fun hc2 => ?_) (fun hc2 => ?_)
  · rw [if_pos hc2] at hF
    refine jx_aload_n E dX5_price_24 0 rfl ?_
    refine jx_ldc (x := -1000001) E dX5_price_25 (List.mem_cons_of_mem _ tw_320) ?_
    obtain ⟨⟨r3, v3⟩, hc3, hF⟩ := jx_bind hF
    try dsimp only at hF
    refine jx_callVi (As := [.int (-1000001)]) (st := []) (h := 0) E dX5_price_27 1 rfl (k_X5_finds hI (-1000001) v1 r3 v3 hc3) (gb_V (List.mem_cons_of_mem _ tw_344) (List.mem_cons_of_mem _ tw_345) (List.mem_cons_of_mem _ tw_346) (List.mem_cons_of_mem _ tw_325) tw_343) rfl rfl rfl dd_X5_finds rfl (Nat.le_of_ble_eq_true rfl) s_M0 rfl ⟨by decide, by decide⟩ ⟨Nat.le_refl 0, Nat.le_refl 0⟩ (Nat.le_of_ble_eq_true rfl) ?_
    obtain ⟨rfl, rfl⟩ := jx_out hF
    exact jx_iret E dX5_price_30 rfl
  · rw [if_neg hc2] at hF
    refine jx_iload_n E dX5_price_12 2 rfl ?_
    refine jx_i2l E dX5_price_13 ?_
    refine jx_lconst (x := 0) E dX5_price_14 (by decide) ?_
    refine jx_ldc2 (x := 99) E dX5_price_15 (List.mem_cons_of_mem _ tw_387) ?_
    obtain ⟨⟨r4, v4⟩, hc4, hF⟩ := jx_bind hF
    try dsimp only at hF
    refine jx_callSi (As := [.long (Int32.toInt64 x2), .long 0, .long 99]) (st := []) E dX5_price_18 3 rfl (k_X5_in hI (Int32.toInt64 x2) 0 99 v1 r4 v4 hc4) (gb_S (List.mem_cons_of_mem _ tw_323) (List.mem_cons_of_mem _ tw_324) (List.mem_cons_of_mem _ tw_325) tw_322) rfl rfl rfl dd_X5_in rfl ⟨by decide, by decide⟩ ⟨Nat.le_refl 0, Nat.le_refl 0⟩ (Nat.le_of_ble_eq_true rfl) ?_
    refine jx_if_ne (tgt := 31) E dX5_price_21 (by decide) (fun hc5 => ?_) (fun hc5 => ?_)
    · rw [if_neg hc5] at hF
      refine jx_aload_n E dX5_price_31 0 rfl ?_
      refine jx_getr (C := RX5) (T := TX5) (M := 21) (k := 0) E dX5_price_32 (Nat.le_of_ble_eq_true rfl) s_M0 rfl iX5 (by decide) rfl (List.mem_cons_of_mem _ tw_328) rfl ?_
      refine jx_iconst (x := 3) E dX5_price_35 (by decide) ?_
      refine jx_iload_n E dX5_price_36 1 rfl ?_
      refine jx_iadd E dX5_price_37 ?_
      obtain ⟨hg6, hF⟩ := jx_guard hF
      refine jx_iald (h := 1) (j := (Int32.toNatClampNeg (3 + x1))) E dX5_price_38 (Nat.le_of_ble_eq_true rfl) s_M1 hg6 rfl ?_
      refine jx_istore_n (lv' := [(3, .int (v4 1 (Int32.toNatClampNeg (3 + x1)))), (0, .ref (ad 0)), (1, .int x1), (2, .int x2)]) E dX5_price_39 (by decide) rfl ?_
      refine jx_aload_n E dX5_price_40 1 rfl ?_
      refine jx_getr (C := RX5) (T := TX5) (M := 21) (k := 0) E dX5_price_41 (Nat.le_of_ble_eq_true rfl) s_M0 rfl iX5 (by decide) rfl (List.mem_cons_of_mem _ tw_328) rfl ?_
      refine jx_iconst (x := 3) E dX5_price_44 (by decide) ?_
      refine jx_iload_n E dX5_price_45 2 rfl ?_
      refine jx_iadd E dX5_price_46 ?_
      refine jx_iload_n E dX5_price_47 3 rfl ?_
      obtain ⟨hg7, hF⟩ := jx_guard hF
      refine jx_iast (h := 1) (j := (Int32.toNatClampNeg (3 + x1))) E dX5_price_48 (Nat.le_of_ble_eq_true rfl) s_M1 hg7 rfl ?_
      refine jx_iload_n E dX5_price_49 0 rfl ?_
      obtain ⟨rfl, rfl⟩ := jx_out hF
      exact jx_iret E dX5_price_50 rfl
    · rw [if_pos hc5] at hF
      refine jx_aload_n E dX5_price_24 0 rfl ?_
      refine jx_ldc (x := -1000001) E dX5_price_25 (List.mem_cons_of_mem _ tw_320) ?_
      obtain ⟨⟨r8, v8⟩, hc8, hF⟩ := jx_bind hF
      try dsimp only at hF
      refine jx_callVi (As := [.int (-1000001)]) (st := []) (h := 0) E dX5_price_27 1 rfl (k_X5_finds hI (-1000001) v4 r8 v8 hc8) (gb_V (List.mem_cons_of_mem _ tw_344) (List.mem_cons_of_mem _ tw_345) (List.mem_cons_of_mem _ tw_346) (List.mem_cons_of_mem _ tw_325) tw_343) rfl rfl rfl dd_X5_finds rfl (Nat.le_of_ble_eq_true rfl) s_M0 rfl ⟨by decide, by decide⟩ ⟨Nat.le_refl 0, Nat.le_refl 0⟩ (Nat.le_of_ble_eq_true rfl) ?_
      obtain ⟨rfl, rfl⟩ := jx_out hF
      exact jx_iret E dX5_price_30 rfl
def f_X5_where (x0 : Int32) (x1 : Int32) (v : jx_V) : Option (Int32 × jx_V) := (some (((111 + (6 * x0)) + x1), v))
def rm_X5_where : Room := { frames := 0, cells := 0, slots := 0, locals := 0 }
set_option maxHeartbeats 4000000 in
set_option maxRecDepth 100000 in
theorem k_X5_where {l : Launch} {D : va_G} {cI cJ : ClassId} {ad : Nat → Nat} {A : Nat → Prop} (hI : jx_inj 13 ad A) (x0 : Int32) (x1 : Int32) (v : jx_V) (r : Int32) (v' : jx_V) (hF : f_X5_where x0 x1 v = some (r, v')) : jx_Ci l D vwCl 13 cI cJ ad shM A ex_M yX5_where (Cond.code yX5_where cX5_where 2 (some .int) :: bigT) rm_X5_where [.int x0, .int x1] v r v' := by
  unfold f_X5_where at hF
  refine jx_enteri bigT RX5 cX5_where 2 (some .int) [(0, .int x0), (1, .int x1)] hI (ex_M_ok A) (by decide +kernel) rfl (Nat.le_of_ble_eq_true rfl) rfl rfl ?_
  intro p e s m args below meth c E
  refine jx_bipush (x := 111) E dX5_where_0 (by decide) ?_
  refine jx_bipush (x := 6) E dX5_where_2 (by decide) ?_
  refine jx_iload_n E dX5_where_4 0 rfl ?_
  refine jx_imul E dX5_where_5 ?_
  refine jx_iadd E dX5_where_6 ?_
  refine jx_iload_n E dX5_where_7 1 rfl ?_
  refine jx_iadd E dX5_where_8 ?_
  obtain ⟨rfl, rfl⟩ := jx_out hF
  exact jx_iret E dX5_where_9 rfl
def f_X5_told (x1 : Int32) (x2 : Int32) (v : jx_V) : Option (Int32 × jx_V) := ((f_X5_where x1 x2 v).bind (fun (r1, v1) => (if (r1 < 0 ∨ 181 ≤ Int32.toNatClampNeg r1) then none else (some ((v1 1 (Int32.toNatClampNeg r1)), v1)))))
def rm_X5_told : Room := { frames := 1, cells := 0, slots := 0, locals := 21 }
set_option maxHeartbeats 4000000 in
set_option maxRecDepth 100000 in
theorem k_X5_told {l : Launch} {D : va_G} {cI cJ : ClassId} {ad : Nat → Nat} {A : Nat → Prop} (hI : jx_inj 13 ad A) (x1 : Int32) (x2 : Int32) (v : jx_V) (r : Int32) (v' : jx_V) (hF : f_X5_told x1 x2 v = some (r, v')) : jx_Ci l D vwCl 13 cI cJ ad shM A ex_M yX5_told (Cond.code yX5_told cX5_told 3 (some .int) :: bigT) rm_X5_told [.ref (ad 0), .int x1, .int x2] v r v' := by
  unfold f_X5_told at hF
  refine jx_enteri bigT RX5 cX5_told 3 (some .int) [(0, .ref (ad 0)), (1, .int x1), (2, .int x2)] hI (ex_M_ok A) (by decide +kernel) rfl (Nat.le_of_ble_eq_true rfl) rfl rfl ?_
  intro p e s m args below meth c E
  have iX5 : ∀ w ∈ u_ws RX5 TX5 21, w ∈ (Cond.code yX5_told cX5_told 3 (some .int) :: bigT) := fun w h => List.mem_cons_of_mem _ (uw_X5 w h)
  refine jx_aload_n E dX5_told_0 0 rfl ?_
  refine jx_getr (C := RX5) (T := TX5) (M := 21) (k := 0) E dX5_told_1 (Nat.le_of_ble_eq_true rfl) s_M0 rfl iX5 (by decide) rfl (List.mem_cons_of_mem _ tw_328) rfl ?_
  refine jx_iload_n E dX5_told_4 1 rfl ?_
  refine jx_iload_n E dX5_told_5 2 rfl ?_
  obtain ⟨⟨r1, v1⟩, hc1, hF⟩ := jx_bind hF
  try dsimp only at hF
  refine jx_callSi (As := [.int x1, .int x2]) (st := [.ref (ad 1)]) E dX5_told_6 2 rfl (k_X5_where hI x1 x2 v r1 v1 hc1) (gb_S (List.mem_cons_of_mem _ tw_389) (List.mem_cons_of_mem _ tw_390) (List.mem_cons_of_mem _ tw_325) tw_388) rfl rfl rfl dd_X5_where rfl ⟨by decide, by decide⟩ ⟨Nat.le_refl 0, Nat.le_refl 0⟩ (Nat.le_of_ble_eq_true rfl) ?_
  obtain ⟨hg2, hF⟩ := jx_guard hF
  refine jx_iald (h := 1) (j := (Int32.toNatClampNeg r1)) E dX5_told_9 (Nat.le_of_ble_eq_true rfl) s_M1 hg2 rfl ?_
  obtain ⟨rfl, rfl⟩ := jx_out hF
  exact jx_iret E dX5_told_10 rfl
def f_X5_newWindow (x1 : Int32) (x2 : Int32) (x3 : Int32) (x4 : Int32) (v : jx_V) : Option (Int32 × jx_V) := ((f_X5_where (v 1 1) 0 v).bind (fun (r1, v1) => (if (r1 < 0 ∨ 181 ≤ Int32.toNatClampNeg r1) then none else ((f_X5_where (v 1 1) 1 (jx_up v1 1 (Int32.toNatClampNeg r1) x1)).bind (fun (r3, v3) => (if (r3 < 0 ∨ 181 ≤ Int32.toNatClampNeg r3) then none else ((f_X5_where (v 1 1) 2 (jx_up v3 1 (Int32.toNatClampNeg r3) x2)).bind (fun (r5, v5) => (if (r5 < 0 ∨ 181 ≤ Int32.toNatClampNeg r5) then none else ((f_X5_where (v 1 1) 3 (jx_up v5 1 (Int32.toNatClampNeg r5) x3)).bind (fun (r7, v7) => (if (r7 < 0 ∨ 181 ≤ Int32.toNatClampNeg r7) then none else ((f_X5_where (v 1 1) 4 (jx_up v7 1 (Int32.toNatClampNeg r7) x4)).bind (fun (r9, v9) => (if (r9 < 0 ∨ 181 ≤ Int32.toNatClampNeg r9) then none else ((f_X5_where (v 1 1) 5 (jx_up v9 1 (Int32.toNatClampNeg r9) (-1))).bind (fun (r11, v11) => (if (r11 < 0 ∨ 181 ≤ Int32.toNatClampNeg r11) then none else (some ((v 1 1), (jx_up (jx_up v11 1 (Int32.toNatClampNeg r11) 0) 1 1 (((jx_up v11 1 (Int32.toNatClampNeg r11) 0) 1 1) + 1))))))))))))))))))))))
def rm_X5_newWindow : Room := { frames := 1, cells := 0, slots := 0, locals := 21 }
set_option maxHeartbeats 4000000 in
set_option maxRecDepth 100000 in
theorem k_X5_newWindow {l : Launch} {D : va_G} {cI cJ : ClassId} {ad : Nat → Nat} {A : Nat → Prop} (hI : jx_inj 13 ad A) (x1 : Int32) (x2 : Int32) (x3 : Int32) (x4 : Int32) (v : jx_V) (r : Int32) (v' : jx_V) (hF : f_X5_newWindow x1 x2 x3 x4 v = some (r, v')) : jx_Ci l D vwCl 13 cI cJ ad shM A ex_M yX5_newWindow (Cond.code yX5_newWindow cX5_newWindow 6 (some .int) :: bigT) rm_X5_newWindow [.ref (ad 0), .int x1, .int x2, .int x3, .int x4] v r v' := by
  unfold f_X5_newWindow at hF
  refine jx_enteri bigT RX5 cX5_newWindow 6 (some .int) [(0, .ref (ad 0)), (1, .int x1), (2, .int x2), (3, .int x3), (4, .int x4)] hI (ex_M_ok A) (by decide +kernel) rfl (Nat.le_of_ble_eq_true rfl) rfl rfl ?_
  intro p e s m args below meth c E
  have iX5 : ∀ w ∈ u_ws RX5 TX5 21, w ∈ (Cond.code yX5_newWindow cX5_newWindow 6 (some .int) :: bigT) := fun w h => List.mem_cons_of_mem _ (uw_X5 w h)
  refine jx_aload_n E dX5_newWindow_0 0 rfl ?_
  refine jx_getr (C := RX5) (T := TX5) (M := 21) (k := 0) E dX5_newWindow_1 (Nat.le_of_ble_eq_true rfl) s_M0 rfl iX5 (by decide) rfl (List.mem_cons_of_mem _ tw_328) rfl ?_
  refine jx_iconst (x := 1) E dX5_newWindow_4 (by decide) ?_
  refine jx_iald (h := 1) (j := 1) E dX5_newWindow_5 (Nat.le_of_ble_eq_true rfl) s_M1 (by decide) (by decide) ?_
  refine jx_istore (lv' := [(5, .int (v 1 1)), (0, .ref (ad 0)), (1, .int x1), (2, .int x2), (3, .int x3), (4, .int x4)]) E dX5_newWindow_6 (by decide) rfl ?_
  refine jx_aload_n E dX5_newWindow_8 1 rfl ?_
  refine jx_getr (C := RX5) (T := TX5) (M := 21) (k := 0) E dX5_newWindow_9 (Nat.le_of_ble_eq_true rfl) s_M0 rfl iX5 (by decide) rfl (List.mem_cons_of_mem _ tw_328) rfl ?_
  refine jx_iload E dX5_newWindow_12 0 rfl ?_
  refine jx_iconst (x := 0) E dX5_newWindow_14 (by decide) ?_
  obtain ⟨⟨r1, v1⟩, hc1, hF⟩ := jx_bind hF
  try dsimp only at hF
  refine jx_callSi (As := [.int (v 1 1), .int 0]) (st := [.ref (ad 1)]) E dX5_newWindow_15 2 rfl (k_X5_where hI (v 1 1) 0 v r1 v1 hc1) (gb_S (List.mem_cons_of_mem _ tw_389) (List.mem_cons_of_mem _ tw_390) (List.mem_cons_of_mem _ tw_325) tw_388) rfl rfl rfl dd_X5_where rfl ⟨by decide, by decide⟩ ⟨Nat.le_refl 0, Nat.le_refl 0⟩ (Nat.le_of_ble_eq_true rfl) ?_
  refine jx_iload_n E dX5_newWindow_18 2 rfl ?_
  obtain ⟨hg2, hF⟩ := jx_guard hF
  refine jx_iast (h := 1) (j := (Int32.toNatClampNeg r1)) E dX5_newWindow_19 (Nat.le_of_ble_eq_true rfl) s_M1 hg2 rfl ?_
  refine jx_aload_n E dX5_newWindow_20 1 rfl ?_
  refine jx_getr (C := RX5) (T := TX5) (M := 21) (k := 0) E dX5_newWindow_21 (Nat.le_of_ble_eq_true rfl) s_M0 rfl iX5 (by decide) rfl (List.mem_cons_of_mem _ tw_328) rfl ?_
  refine jx_iload E dX5_newWindow_24 0 rfl ?_
  refine jx_iconst (x := 1) E dX5_newWindow_26 (by decide) ?_
  obtain ⟨⟨r3, v3⟩, hc3, hF⟩ := jx_bind hF
  try dsimp only at hF
  refine jx_callSi (As := [.int (v 1 1), .int 1]) (st := [.ref (ad 1)]) E dX5_newWindow_27 2 rfl (k_X5_where hI (v 1 1) 1 (jx_up v1 1 (Int32.toNatClampNeg r1) x1) r3 v3 hc3) (gb_S (List.mem_cons_of_mem _ tw_389) (List.mem_cons_of_mem _ tw_390) (List.mem_cons_of_mem _ tw_325) tw_388) rfl rfl rfl dd_X5_where rfl ⟨by decide, by decide⟩ ⟨Nat.le_refl 0, Nat.le_refl 0⟩ (Nat.le_of_ble_eq_true rfl) ?_
  refine jx_iload_n E dX5_newWindow_30 3 rfl ?_
  obtain ⟨hg4, hF⟩ := jx_guard hF
  refine jx_iast (h := 1) (j := (Int32.toNatClampNeg r3)) E dX5_newWindow_31 (Nat.le_of_ble_eq_true rfl) s_M1 hg4 rfl ?_
  refine jx_aload_n E dX5_newWindow_32 1 rfl ?_
  refine jx_getr (C := RX5) (T := TX5) (M := 21) (k := 0) E dX5_newWindow_33 (Nat.le_of_ble_eq_true rfl) s_M0 rfl iX5 (by decide) rfl (List.mem_cons_of_mem _ tw_328) rfl ?_
  refine jx_iload E dX5_newWindow_36 0 rfl ?_
  refine jx_iconst (x := 2) E dX5_newWindow_38 (by decide) ?_
  obtain ⟨⟨r5, v5⟩, hc5, hF⟩ := jx_bind hF
  try dsimp only at hF
  refine jx_callSi (As := [.int (v 1 1), .int 2]) (st := [.ref (ad 1)]) E dX5_newWindow_39 2 rfl (k_X5_where hI (v 1 1) 2 (jx_up v3 1 (Int32.toNatClampNeg r3) x2) r5 v5 hc5) (gb_S (List.mem_cons_of_mem _ tw_389) (List.mem_cons_of_mem _ tw_390) (List.mem_cons_of_mem _ tw_325) tw_388) rfl rfl rfl dd_X5_where rfl ⟨by decide, by decide⟩ ⟨Nat.le_refl 0, Nat.le_refl 0⟩ (Nat.le_of_ble_eq_true rfl) ?_
  refine jx_iload_n E dX5_newWindow_42 4 rfl ?_
  obtain ⟨hg6, hF⟩ := jx_guard hF
  refine jx_iast (h := 1) (j := (Int32.toNatClampNeg r5)) E dX5_newWindow_43 (Nat.le_of_ble_eq_true rfl) s_M1 hg6 rfl ?_
  refine jx_aload_n E dX5_newWindow_44 1 rfl ?_
  refine jx_getr (C := RX5) (T := TX5) (M := 21) (k := 0) E dX5_newWindow_45 (Nat.le_of_ble_eq_true rfl) s_M0 rfl iX5 (by decide) rfl (List.mem_cons_of_mem _ tw_328) rfl ?_
  refine jx_iload E dX5_newWindow_48 0 rfl ?_
  refine jx_iconst (x := 3) E dX5_newWindow_50 (by decide) ?_
  obtain ⟨⟨r7, v7⟩, hc7, hF⟩ := jx_bind hF
  try dsimp only at hF
  refine jx_callSi (As := [.int (v 1 1), .int 3]) (st := [.ref (ad 1)]) E dX5_newWindow_51 2 rfl (k_X5_where hI (v 1 1) 3 (jx_up v5 1 (Int32.toNatClampNeg r5) x3) r7 v7 hc7) (gb_S (List.mem_cons_of_mem _ tw_389) (List.mem_cons_of_mem _ tw_390) (List.mem_cons_of_mem _ tw_325) tw_388) rfl rfl rfl dd_X5_where rfl ⟨by decide, by decide⟩ ⟨Nat.le_refl 0, Nat.le_refl 0⟩ (Nat.le_of_ble_eq_true rfl) ?_
  refine jx_iload E dX5_newWindow_54 5 rfl ?_
  obtain ⟨hg8, hF⟩ := jx_guard hF
  refine jx_iast (h := 1) (j := (Int32.toNatClampNeg r7)) E dX5_newWindow_56 (Nat.le_of_ble_eq_true rfl) s_M1 hg8 rfl ?_
  refine jx_aload_n E dX5_newWindow_57 1 rfl ?_
  refine jx_getr (C := RX5) (T := TX5) (M := 21) (k := 0) E dX5_newWindow_58 (Nat.le_of_ble_eq_true rfl) s_M0 rfl iX5 (by decide) rfl (List.mem_cons_of_mem _ tw_328) rfl ?_
  refine jx_iload E dX5_newWindow_61 0 rfl ?_
  refine jx_iconst (x := 4) E dX5_newWindow_63 (by decide) ?_
  obtain ⟨⟨r9, v9⟩, hc9, hF⟩ := jx_bind hF
  try dsimp only at hF
  refine jx_callSi (As := [.int (v 1 1), .int 4]) (st := [.ref (ad 1)]) E dX5_newWindow_64 2 rfl (k_X5_where hI (v 1 1) 4 (jx_up v7 1 (Int32.toNatClampNeg r7) x4) r9 v9 hc9) (gb_S (List.mem_cons_of_mem _ tw_389) (List.mem_cons_of_mem _ tw_390) (List.mem_cons_of_mem _ tw_325) tw_388) rfl rfl rfl dd_X5_where rfl ⟨by decide, by decide⟩ ⟨Nat.le_refl 0, Nat.le_refl 0⟩ (Nat.le_of_ble_eq_true rfl) ?_
  refine jx_iconst (x := -1) E dX5_newWindow_67 (by decide) ?_
  obtain ⟨hg10, hF⟩ := jx_guard hF
  refine jx_iast (h := 1) (j := (Int32.toNatClampNeg r9)) E dX5_newWindow_68 (Nat.le_of_ble_eq_true rfl) s_M1 hg10 rfl ?_
  refine jx_aload_n E dX5_newWindow_69 1 rfl ?_
  refine jx_getr (C := RX5) (T := TX5) (M := 21) (k := 0) E dX5_newWindow_70 (Nat.le_of_ble_eq_true rfl) s_M0 rfl iX5 (by decide) rfl (List.mem_cons_of_mem _ tw_328) rfl ?_
  refine jx_iload E dX5_newWindow_73 0 rfl ?_
  refine jx_iconst (x := 5) E dX5_newWindow_75 (by decide) ?_
  obtain ⟨⟨r11, v11⟩, hc11, hF⟩ := jx_bind hF
  try dsimp only at hF
  refine jx_callSi (As := [.int (v 1 1), .int 5]) (st := [.ref (ad 1)]) E dX5_newWindow_76 2 rfl (k_X5_where hI (v 1 1) 5 (jx_up v9 1 (Int32.toNatClampNeg r9) (-1)) r11 v11 hc11) (gb_S (List.mem_cons_of_mem _ tw_389) (List.mem_cons_of_mem _ tw_390) (List.mem_cons_of_mem _ tw_325) tw_388) rfl rfl rfl dd_X5_where rfl ⟨by decide, by decide⟩ ⟨Nat.le_refl 0, Nat.le_refl 0⟩ (Nat.le_of_ble_eq_true rfl) ?_
  refine jx_iconst (x := 0) E dX5_newWindow_79 (by decide) ?_
  obtain ⟨hg12, hF⟩ := jx_guard hF
  refine jx_iast (h := 1) (j := (Int32.toNatClampNeg r11)) E dX5_newWindow_80 (Nat.le_of_ble_eq_true rfl) s_M1 hg12 rfl ?_
  refine jx_aload_n E dX5_newWindow_81 1 rfl ?_
  refine jx_getr (C := RX5) (T := TX5) (M := 21) (k := 0) E dX5_newWindow_82 (Nat.le_of_ble_eq_true rfl) s_M0 rfl iX5 (by decide) rfl (List.mem_cons_of_mem _ tw_328) rfl ?_
  refine jx_iconst (x := 1) E dX5_newWindow_85 (by decide) ?_
  refine jx_dup2 E dX5_newWindow_86 rfl rfl ?_
  refine jx_iald (h := 1) (j := 1) E dX5_newWindow_87 (Nat.le_of_ble_eq_true rfl) s_M1 (by decide) (by decide) ?_
  refine jx_iconst (x := 1) E dX5_newWindow_88 (by decide) ?_
  refine jx_iadd E dX5_newWindow_89 ?_
  refine jx_iast (h := 1) (j := 1) E dX5_newWindow_90 (Nat.le_of_ble_eq_true rfl) s_M1 (by decide) (by decide) ?_
  refine jx_iload E dX5_newWindow_91 0 rfl ?_
  obtain ⟨rfl, rfl⟩ := jx_out hF
  exact jx_iret E dX5_newWindow_93 rfl
def f_X5_window (x1 : Int32) (x2 : Int32) (x3 : Int32) (x4 : Int32) (v : jx_V) : Option (Int32 × jx_V) := ((f_X5_isLot x1 v).bind (fun (r1, v1) => (if r1 = 0 then ((f_X5_finds (-1000001) v1).bind (fun (r3, v3) => (some (r3, v3)))) else ((f_X5_isHeight x2 v1).bind (fun (r4, v4) => (if r4 = 0 then ((f_X5_finds (-1000001) v4).bind (fun (r6, v6) => (some (r6, v6)))) else ((f_X5_in (Int32.toInt64 x3) 0 3 v4).bind (fun (r7, v7) => (if r7 = 0 then ((f_X5_finds (-1000001) v7).bind (fun (r9, v9) => (some (r9, v9)))) else ((f_X5_isOwner x4 v7).bind (fun (r10, v10) => (if r10 = 0 then ((f_X5_finds (-1000001) v10).bind (fun (r15, v15) => (some (r15, v15)))) else (if (v10 1 1) = 10 then ((f_X5_finds (-1000002) v10).bind (fun (r14, v14) => (some (r14, v14)))) else ((f_X5_newWindow x1 x2 x3 x4 v10).bind (fun (r13, v13) => (some (r13, v13)))))))))))))))))
def rm_X5_window : Room := { frames := 2, cells := 0, slots := 0, locals := 46 }
set_option maxHeartbeats 4000000 in
set_option maxRecDepth 100000 in
theorem k_X5_window {l : Launch} {D : va_G} {cI cJ : ClassId} {ad : Nat → Nat} {A : Nat → Prop} (hI : jx_inj 13 ad A) (x1 : Int32) (x2 : Int32) (x3 : Int32) (x4 : Int32) (v : jx_V) (r : Int32) (v' : jx_V) (hF : f_X5_window x1 x2 x3 x4 v = some (r, v')) : jx_Ci l D vwCl 13 cI cJ ad shM A ex_M yX5_window (Cond.code yX5_window cX5_window 5 (some .int) :: bigT) rm_X5_window [.ref (ad 0), .int x1, .int x2, .int x3, .int x4] v r v' := by
  unfold f_X5_window at hF
  refine jx_enteri bigT RX5 cX5_window 5 (some .int) [(0, .ref (ad 0)), (1, .int x1), (2, .int x2), (3, .int x3), (4, .int x4)] hI (ex_M_ok A) (by decide +kernel) rfl (Nat.le_of_ble_eq_true rfl) rfl rfl ?_
  intro p e s m args below meth c E
  have iX5 : ∀ w ∈ u_ws RX5 TX5 21, w ∈ (Cond.code yX5_window cX5_window 5 (some .int) :: bigT) := fun w h => List.mem_cons_of_mem _ (uw_X5 w h)
  refine jx_iload_n E dX5_window_0 1 rfl ?_
  obtain ⟨⟨r1, v1⟩, hc1, hF⟩ := jx_bind hF
  try dsimp only at hF
  refine jx_callSi (As := [.int x1]) (st := []) E dX5_window_1 1 rfl (k_X5_isLot hI x1 v r1 v1 hc1) (gb_S (List.mem_cons_of_mem _ tw_348) (List.mem_cons_of_mem _ tw_349) (List.mem_cons_of_mem _ tw_325) tw_347) rfl rfl rfl dd_X5_isLot rfl ⟨by decide, by decide⟩ ⟨Nat.le_refl 0, Nat.le_refl 0⟩ (Nat.le_of_ble_eq_true rfl) ?_
  refine jx_if_eq (tgt := 34) E dX5_window_4 (by decide) (fun hc2 => ?_) (fun hc2 => ?_)
  · rw [if_pos hc2] at hF
    refine jx_aload_n E dX5_window_34 0 rfl ?_
    refine jx_ldc (x := -1000001) E dX5_window_35 (List.mem_cons_of_mem _ tw_320) ?_
    obtain ⟨⟨r3, v3⟩, hc3, hF⟩ := jx_bind hF
    try dsimp only at hF
    refine jx_callVi (As := [.int (-1000001)]) (st := []) (h := 0) E dX5_window_37 1 rfl (k_X5_finds hI (-1000001) v1 r3 v3 hc3) (gb_V (List.mem_cons_of_mem _ tw_344) (List.mem_cons_of_mem _ tw_345) (List.mem_cons_of_mem _ tw_346) (List.mem_cons_of_mem _ tw_325) tw_343) rfl rfl rfl dd_X5_finds rfl (Nat.le_of_ble_eq_true rfl) s_M0 rfl ⟨by decide, by decide⟩ ⟨Nat.le_refl 0, Nat.le_refl 0⟩ (Nat.le_of_ble_eq_true rfl) ?_
    obtain ⟨rfl, rfl⟩ := jx_out hF
    exact jx_iret E dX5_window_40 rfl
  · rw [if_neg hc2] at hF
    refine jx_iload_n E dX5_window_7 2 rfl ?_
    obtain ⟨⟨r4, v4⟩, hc4, hF⟩ := jx_bind hF
    try dsimp only at hF
    refine jx_callSi (As := [.int x2]) (st := []) E dX5_window_8 1 rfl (k_X5_isHeight hI x2 v1 r4 v4 hc4) (gb_S (List.mem_cons_of_mem _ tw_354) (List.mem_cons_of_mem _ tw_355) (List.mem_cons_of_mem _ tw_325) tw_353) rfl rfl rfl dd_X5_isHeight rfl ⟨by decide, by decide⟩ ⟨Nat.le_refl 0, Nat.le_refl 0⟩ (Nat.le_of_ble_eq_true rfl) ?_
    refine jx_if_eq (tgt := 34) E dX5_window_11 (by decide) (fun hc5 => ?_) (fun hc5 => ?_)
    · rw [if_pos hc5] at hF
      refine jx_aload_n E dX5_window_34 0 rfl ?_
      refine jx_ldc (x := -1000001) E dX5_window_35 (List.mem_cons_of_mem _ tw_320) ?_
      obtain ⟨⟨r6, v6⟩, hc6, hF⟩ := jx_bind hF
      try dsimp only at hF
      refine jx_callVi (As := [.int (-1000001)]) (st := []) (h := 0) E dX5_window_37 1 rfl (k_X5_finds hI (-1000001) v4 r6 v6 hc6) (gb_V (List.mem_cons_of_mem _ tw_344) (List.mem_cons_of_mem _ tw_345) (List.mem_cons_of_mem _ tw_346) (List.mem_cons_of_mem _ tw_325) tw_343) rfl rfl rfl dd_X5_finds rfl (Nat.le_of_ble_eq_true rfl) s_M0 rfl ⟨by decide, by decide⟩ ⟨Nat.le_refl 0, Nat.le_refl 0⟩ (Nat.le_of_ble_eq_true rfl) ?_
      obtain ⟨rfl, rfl⟩ := jx_out hF
      exact jx_iret E dX5_window_40 rfl
    · rw [if_neg hc5] at hF
      refine jx_iload_n E dX5_window_14 3 rfl ?_
      refine jx_i2l E dX5_window_15 ?_
      refine jx_lconst (x := 0) E dX5_window_16 (by decide) ?_
      refine jx_ldc2 (x := 3) E dX5_window_17 (List.mem_cons_of_mem _ tw_326) ?_
      obtain ⟨⟨r7, v7⟩, hc7, hF⟩ := jx_bind hF
      try dsimp only at hF
      refine jx_callSi (As := [.long (Int32.toInt64 x3), .long 0, .long 3]) (st := []) E dX5_window_20 3 rfl (k_X5_in hI (Int32.toInt64 x3) 0 3 v4 r7 v7 hc7) (gb_S (List.mem_cons_of_mem _ tw_323) (List.mem_cons_of_mem _ tw_324) (List.mem_cons_of_mem _ tw_325) tw_322) rfl rfl rfl dd_X5_in rfl ⟨by decide, by decide⟩ ⟨Nat.le_refl 0, Nat.le_refl 0⟩ (Nat.le_of_ble_eq_true rfl) ?_
      refine jx_if_eq (tgt := 34) E dX5_window_23 (by decide) (fun hc8 => ?_) (fun hc8 => ?_)
      · rw [if_pos hc8] at hF
        refine jx_aload_n E dX5_window_34 0 rfl ?_
        refine jx_ldc (x := -1000001) E dX5_window_35 (List.mem_cons_of_mem _ tw_320) ?_
        obtain ⟨⟨r9, v9⟩, hc9, hF⟩ := jx_bind hF
        try dsimp only at hF
        refine jx_callVi (As := [.int (-1000001)]) (st := []) (h := 0) E dX5_window_37 1 rfl (k_X5_finds hI (-1000001) v7 r9 v9 hc9) (gb_V (List.mem_cons_of_mem _ tw_344) (List.mem_cons_of_mem _ tw_345) (List.mem_cons_of_mem _ tw_346) (List.mem_cons_of_mem _ tw_325) tw_343) rfl rfl rfl dd_X5_finds rfl (Nat.le_of_ble_eq_true rfl) s_M0 rfl ⟨by decide, by decide⟩ ⟨Nat.le_refl 0, Nat.le_refl 0⟩ (Nat.le_of_ble_eq_true rfl) ?_
        obtain ⟨rfl, rfl⟩ := jx_out hF
        exact jx_iret E dX5_window_40 rfl
      · rw [if_neg hc8] at hF
        refine jx_iload E dX5_window_26 4 rfl ?_
        obtain ⟨⟨r10, v10⟩, hc10, hF⟩ := jx_bind hF
        try dsimp only at hF
        refine jx_callSi (As := [.int x4]) (st := []) E dX5_window_28 1 rfl (k_X5_isOwner hI x4 v7 r10 v10 hc10) (gb_S (List.mem_cons_of_mem _ tw_351) (List.mem_cons_of_mem _ tw_352) (List.mem_cons_of_mem _ tw_325) tw_350) rfl rfl rfl dd_X5_isOwner rfl ⟨by decide, by decide⟩ ⟨Nat.le_refl 0, Nat.le_refl 0⟩ (Nat.le_of_ble_eq_true rfl) ?_
        refine jx_if_ne (tgt := 41) E dX5_window_31 (by decide) (fun hc11 => ?_) (fun hc11 => ?_)
        · rw [if_neg hc11] at hF
          refine jx_aload_n E dX5_window_41 0 rfl ?_
          refine jx_getr (C := RX5) (T := TX5) (M := 21) (k := 0) E dX5_window_42 (Nat.le_of_ble_eq_true rfl) s_M0 rfl iX5 (by decide) rfl (List.mem_cons_of_mem _ tw_328) rfl ?_
          refine jx_iconst (x := 1) E dX5_window_45 (by decide) ?_
          refine jx_iald (h := 1) (j := 1) E dX5_window_46 (Nat.le_of_ble_eq_true rfl) s_M1 (by decide) (by decide) ?_
          refine jx_bipush (x := 10) E dX5_window_47 (by decide) ?_
          refine jx_icmp_ne (tgt := 61) E dX5_window_49 (by decide) (fun hc12 => ?_) (fun hc12 => ?_)
          · rw [if_neg hc12] at hF
            refine jx_aload_n E dX5_window_61 0 rfl ?_
            refine jx_iload_n E dX5_window_62 1 rfl ?_
            refine jx_iload_n E dX5_window_63 2 rfl ?_
            refine jx_iload_n E dX5_window_64 3 rfl ?_
            refine jx_iload E dX5_window_65 4 rfl ?_
            obtain ⟨⟨r13, v13⟩, hc13, hF⟩ := jx_bind hF
            try dsimp only at hF
            refine jx_callVi (As := [.int x1, .int x2, .int x3, .int x4]) (st := []) (h := 0) E dX5_window_67 4 rfl (k_X5_newWindow hI x1 x2 x3 x4 v10 r13 v13 hc13) (gb_V (List.mem_cons_of_mem _ tw_392) (List.mem_cons_of_mem _ tw_393) (List.mem_cons_of_mem _ tw_394) (List.mem_cons_of_mem _ tw_325) tw_391) rfl rfl rfl dd_X5_newWindow rfl (Nat.le_of_ble_eq_true rfl) s_M0 rfl ⟨by decide, by decide⟩ ⟨Nat.le_refl 0, Nat.le_refl 0⟩ (Nat.le_of_ble_eq_true rfl) ?_
            obtain ⟨rfl, rfl⟩ := jx_out hF
            exact jx_iret E dX5_window_70 rfl
          · rw [if_pos hc12] at hF
            refine jx_aload_n E dX5_window_52 0 rfl ?_
            refine jx_ldc (x := -1000002) E dX5_window_53 (List.mem_cons_of_mem _ tw_395) ?_
            obtain ⟨⟨r14, v14⟩, hc14, hF⟩ := jx_bind hF
            try dsimp only at hF
            refine jx_callVi (As := [.int (-1000002)]) (st := []) (h := 0) E dX5_window_55 1 rfl (k_X5_finds hI (-1000002) v10 r14 v14 hc14) (gb_V (List.mem_cons_of_mem _ tw_344) (List.mem_cons_of_mem _ tw_345) (List.mem_cons_of_mem _ tw_346) (List.mem_cons_of_mem _ tw_325) tw_343) rfl rfl rfl dd_X5_finds rfl (Nat.le_of_ble_eq_true rfl) s_M0 rfl ⟨by decide, by decide⟩ ⟨Nat.le_refl 0, Nat.le_refl 0⟩ (Nat.le_of_ble_eq_true rfl) ?_
            refine jx_goto (tgt := 70) E dX5_window_58 (by decide) ?_
            obtain ⟨rfl, rfl⟩ := jx_out hF
            exact jx_iret E dX5_window_70 rfl
        · rw [if_pos hc11] at hF
          refine jx_aload_n E dX5_window_34 0 rfl ?_
          refine jx_ldc (x := -1000001) E dX5_window_35 (List.mem_cons_of_mem _ tw_320) ?_
          obtain ⟨⟨r15, v15⟩, hc15, hF⟩ := jx_bind hF
          try dsimp only at hF
          refine jx_callVi (As := [.int (-1000001)]) (st := []) (h := 0) E dX5_window_37 1 rfl (k_X5_finds hI (-1000001) v10 r15 v15 hc15) (gb_V (List.mem_cons_of_mem _ tw_344) (List.mem_cons_of_mem _ tw_345) (List.mem_cons_of_mem _ tw_346) (List.mem_cons_of_mem _ tw_325) tw_343) rfl rfl rfl dd_X5_finds rfl (Nat.le_of_ble_eq_true rfl) s_M0 rfl ⟨by decide, by decide⟩ ⟨Nat.le_refl 0, Nat.le_refl 0⟩ (Nat.le_of_ble_eq_true rfl) ?_
          obtain ⟨rfl, rfl⟩ := jx_out hF
          exact jx_iret E dX5_window_40 rfl
def f_X5_windowOf (x1 : Int32) (x2 : Int32) (v : jx_V) : Option (Int32 × jx_V) := ((f_X5_isWindow x1 v).bind (fun (r1, v1) => (if r1 = 0 then ((f_X5_finds (-1000001) v1).bind (fun (r3, v3) => (some (r3, v3)))) else ((f_X5_in (Int32.toInt64 x2) 0 5 v1).bind (fun (r4, v4) => (if r4 = 0 then ((f_X5_finds (-1000001) v4).bind (fun (r6, v6) => (some (r6, v6)))) else ((f_X5_told x1 x2 v4).bind (fun (r7, v7) => (some (r7, v7))))))))))
def rm_X5_windowOf : Room := { frames := 2, cells := 0, slots := 0, locals := 46 }
set_option maxHeartbeats 4000000 in
set_option maxRecDepth 100000 in
theorem k_X5_windowOf {l : Launch} {D : va_G} {cI cJ : ClassId} {ad : Nat → Nat} {A : Nat → Prop} (hI : jx_inj 13 ad A) (x1 : Int32) (x2 : Int32) (v : jx_V) (r : Int32) (v' : jx_V) (hF : f_X5_windowOf x1 x2 v = some (r, v')) : jx_Ci l D vwCl 13 cI cJ ad shM A ex_M yX5_windowOf (Cond.code yX5_windowOf cX5_windowOf 3 (some .int) :: bigT) rm_X5_windowOf [.ref (ad 0), .int x1, .int x2] v r v' := by
  unfold f_X5_windowOf at hF
  refine jx_enteri bigT RX5 cX5_windowOf 3 (some .int) [(0, .ref (ad 0)), (1, .int x1), (2, .int x2)] hI (ex_M_ok A) (by decide +kernel) rfl (Nat.le_of_ble_eq_true rfl) rfl rfl ?_
  intro p e s m args below meth c E
  refine jx_aload_n E dX5_windowOf_0 0 rfl ?_
  refine jx_iload_n E dX5_windowOf_1 1 rfl ?_
  obtain ⟨⟨r1, v1⟩, hc1, hF⟩ := jx_bind hF
  try dsimp only at hF
  refine jx_callVi (As := [.int x1]) (st := []) (h := 0) E dX5_windowOf_2 1 rfl (k_X5_isWindow hI x1 v r1 v1 hc1) (gb_V (List.mem_cons_of_mem _ tw_397) (List.mem_cons_of_mem _ tw_398) (List.mem_cons_of_mem _ tw_399) (List.mem_cons_of_mem _ tw_325) tw_396) rfl rfl rfl dd_X5_isWindow rfl (Nat.le_of_ble_eq_true rfl) s_M0 rfl ⟨by decide, by decide⟩ ⟨Nat.le_refl 0, Nat.le_refl 0⟩ (Nat.le_of_ble_eq_true rfl) ?_
  refine jx_if_eq (tgt := 29) E dX5_windowOf_5 (by decide) (fun hc2 => ?_) (fun hc2 => ?_)
  · rw [if_pos hc2] at hF
    refine jx_aload_n E dX5_windowOf_29 0 rfl ?_
    refine jx_ldc (x := -1000001) E dX5_windowOf_30 (List.mem_cons_of_mem _ tw_320) ?_
    obtain ⟨⟨r3, v3⟩, hc3, hF⟩ := jx_bind hF
    try dsimp only at hF
    refine jx_callVi (As := [.int (-1000001)]) (st := []) (h := 0) E dX5_windowOf_32 1 rfl (k_X5_finds hI (-1000001) v1 r3 v3 hc3) (gb_V (List.mem_cons_of_mem _ tw_344) (List.mem_cons_of_mem _ tw_345) (List.mem_cons_of_mem _ tw_346) (List.mem_cons_of_mem _ tw_325) tw_343) rfl rfl rfl dd_X5_finds rfl (Nat.le_of_ble_eq_true rfl) s_M0 rfl ⟨by decide, by decide⟩ ⟨Nat.le_refl 0, Nat.le_refl 0⟩ (Nat.le_of_ble_eq_true rfl) ?_
    obtain ⟨rfl, rfl⟩ := jx_out hF
    exact jx_iret E dX5_windowOf_35 rfl
  · rw [if_neg hc2] at hF
    refine jx_iload_n E dX5_windowOf_8 2 rfl ?_
    refine jx_i2l E dX5_windowOf_9 ?_
    refine jx_lconst (x := 0) E dX5_windowOf_10 (by decide) ?_
    refine jx_ldc2 (x := 5) E dX5_windowOf_11 (List.mem_cons_of_mem _ tw_400) ?_
    obtain ⟨⟨r4, v4⟩, hc4, hF⟩ := jx_bind hF
    try dsimp only at hF
    refine jx_callSi (As := [.long (Int32.toInt64 x2), .long 0, .long 5]) (st := []) E dX5_windowOf_14 3 rfl (k_X5_in hI (Int32.toInt64 x2) 0 5 v1 r4 v4 hc4) (gb_S (List.mem_cons_of_mem _ tw_323) (List.mem_cons_of_mem _ tw_324) (List.mem_cons_of_mem _ tw_325) tw_322) rfl rfl rfl dd_X5_in rfl ⟨by decide, by decide⟩ ⟨Nat.le_refl 0, Nat.le_refl 0⟩ (Nat.le_of_ble_eq_true rfl) ?_
    refine jx_if_eq (tgt := 29) E dX5_windowOf_17 (by decide) (fun hc5 => ?_) (fun hc5 => ?_)
    · rw [if_pos hc5] at hF
      refine jx_aload_n E dX5_windowOf_29 0 rfl ?_
      refine jx_ldc (x := -1000001) E dX5_windowOf_30 (List.mem_cons_of_mem _ tw_320) ?_
      obtain ⟨⟨r6, v6⟩, hc6, hF⟩ := jx_bind hF
      try dsimp only at hF
      refine jx_callVi (As := [.int (-1000001)]) (st := []) (h := 0) E dX5_windowOf_32 1 rfl (k_X5_finds hI (-1000001) v4 r6 v6 hc6) (gb_V (List.mem_cons_of_mem _ tw_344) (List.mem_cons_of_mem _ tw_345) (List.mem_cons_of_mem _ tw_346) (List.mem_cons_of_mem _ tw_325) tw_343) rfl rfl rfl dd_X5_finds rfl (Nat.le_of_ble_eq_true rfl) s_M0 rfl ⟨by decide, by decide⟩ ⟨Nat.le_refl 0, Nat.le_refl 0⟩ (Nat.le_of_ble_eq_true rfl) ?_
      obtain ⟨rfl, rfl⟩ := jx_out hF
      exact jx_iret E dX5_windowOf_35 rfl
    · rw [if_neg hc5] at hF
      refine jx_aload_n E dX5_windowOf_20 0 rfl ?_
      refine jx_iload_n E dX5_windowOf_21 1 rfl ?_
      refine jx_iload_n E dX5_windowOf_22 2 rfl ?_
      obtain ⟨⟨r7, v7⟩, hc7, hF⟩ := jx_bind hF
      try dsimp only at hF
      refine jx_callVi (As := [.int x1, .int x2]) (st := []) (h := 0) E dX5_windowOf_23 2 rfl (k_X5_told hI x1 x2 v4 r7 v7 hc7) (gb_V (List.mem_cons_of_mem _ tw_402) (List.mem_cons_of_mem _ tw_403) (List.mem_cons_of_mem _ tw_404) (List.mem_cons_of_mem _ tw_325) tw_401) rfl rfl rfl dd_X5_told rfl (Nat.le_of_ble_eq_true rfl) s_M0 rfl ⟨by decide, by decide⟩ ⟨Nat.le_refl 0, Nat.le_refl 0⟩ (Nat.le_of_ble_eq_true rfl) ?_
      refine jx_goto (tgt := 35) E dX5_windowOf_26 (by decide) ?_
      obtain ⟨rfl, rfl⟩ := jx_out hF
      exact jx_iret E dX5_windowOf_35 rfl
def f_X5_turn (x1 : Int32) (x2 : Int32) (x3 : Int32) (v : jx_V) : Option (Int32 × jx_V) := ((f_X5_isWindow x1 v).bind (fun (r1, v1) => (if r1 = 0 then ((f_X5_finds (-1000001) v1).bind (fun (r3, v3) => (some (r3, v3)))) else ((f_X5_in (Int32.toInt64 x2) 1 3 v1).bind (fun (r4, v4) => (if r4 = 0 then ((f_X5_finds (-1000001) v4).bind (fun (r6, v6) => (some (r6, v6)))) else (if x2 = 1 then ((f_X5_in (Int32.toInt64 x3) 0 9 v4).bind (fun (r14, v14) => (if r14 = 0 then ((f_X5_finds (-1000001) v14).bind (fun (r19, v19) => (some (r19, v19)))) else ((f_X5_told x1 x2 v14).bind (fun (r16, v16) => ((f_X5_where x1 x2 v16).bind (fun (r17, v17) => (if (r17 < 0 ∨ 181 ≤ Int32.toNatClampNeg r17) then none else (some (r16, (jx_up v17 1 (Int32.toNatClampNeg r17) x3))))))))))) else ((f_X5_in (Int32.toInt64 x3) 0 3 v4).bind (fun (r8, v8) => (if r8 = 0 then ((f_X5_finds (-1000001) v8).bind (fun (r13, v13) => (some (r13, v13)))) else ((f_X5_told x1 x2 v8).bind (fun (r10, v10) => ((f_X5_where x1 x2 v10).bind (fun (r11, v11) => (if (r11 < 0 ∨ 181 ≤ Int32.toNatClampNeg r11) then none else (some (r10, (jx_up v11 1 (Int32.toNatClampNeg r11) x3))))))))))))))))))
def rm_X5_turn : Room := { frames := 2, cells := 0, slots := 0, locals := 46 }
set_option maxHeartbeats 4000000 in
set_option maxRecDepth 100000 in
theorem k_X5_turn {l : Launch} {D : va_G} {cI cJ : ClassId} {ad : Nat → Nat} {A : Nat → Prop} (hI : jx_inj 13 ad A) (x1 : Int32) (x2 : Int32) (x3 : Int32) (v : jx_V) (r : Int32) (v' : jx_V) (hF : f_X5_turn x1 x2 x3 v = some (r, v')) : jx_Ci l D vwCl 13 cI cJ ad shM A ex_M yX5_turn (Cond.code yX5_turn cX5_turn 5 (some .int) :: bigT) rm_X5_turn [.ref (ad 0), .int x1, .int x2, .int x3] v r v' := by
  unfold f_X5_turn at hF
  refine jx_enteri bigT RX5 cX5_turn 5 (some .int) [(0, .ref (ad 0)), (1, .int x1), (2, .int x2), (3, .int x3)] hI (ex_M_ok A) (by decide +kernel) rfl (Nat.le_of_ble_eq_true rfl) rfl rfl ?_
  intro p e s m args below meth c E
  have iX5 : ∀ w ∈ u_ws RX5 TX5 21, w ∈ (Cond.code yX5_turn cX5_turn 5 (some .int) :: bigT) := fun w h => List.mem_cons_of_mem _ (uw_X5 w h)
  refine jx_aload_n E dX5_turn_0 0 rfl ?_
  refine jx_iload_n E dX5_turn_1 1 rfl ?_
  obtain ⟨⟨r1, v1⟩, hc1, hF⟩ := jx_bind hF
  try dsimp only at hF
  refine jx_callVi (As := [.int x1]) (st := []) (h := 0) E dX5_turn_2 1 rfl (k_X5_isWindow hI x1 v r1 v1 hc1) (gb_V (List.mem_cons_of_mem _ tw_397) (List.mem_cons_of_mem _ tw_398) (List.mem_cons_of_mem _ tw_399) (List.mem_cons_of_mem _ tw_325) tw_396) rfl rfl rfl dd_X5_isWindow rfl (Nat.le_of_ble_eq_true rfl) s_M0 rfl ⟨by decide, by decide⟩ ⟨Nat.le_refl 0, Nat.le_refl 0⟩ (Nat.le_of_ble_eq_true rfl) ?_
  refine jx_if_eq (tgt := 43) E dX5_turn_5 (by decide) (fun hc2 => ?_) (fun hc2 => ?_)
  · rw [if_pos hc2] at hF
    refine jx_aload_n E dX5_turn_43 0 rfl ?_
    refine jx_ldc (x := -1000001) E dX5_turn_44 (List.mem_cons_of_mem _ tw_320) ?_
    obtain ⟨⟨r3, v3⟩, hc3, hF⟩ := jx_bind hF
    try dsimp only at hF
    refine jx_callVi (As := [.int (-1000001)]) (st := []) (h := 0) E dX5_turn_46 1 rfl (k_X5_finds hI (-1000001) v1 r3 v3 hc3) (gb_V (List.mem_cons_of_mem _ tw_344) (List.mem_cons_of_mem _ tw_345) (List.mem_cons_of_mem _ tw_346) (List.mem_cons_of_mem _ tw_325) tw_343) rfl rfl rfl dd_X5_finds rfl (Nat.le_of_ble_eq_true rfl) s_M0 rfl ⟨by decide, by decide⟩ ⟨Nat.le_refl 0, Nat.le_refl 0⟩ (Nat.le_of_ble_eq_true rfl) ?_
    obtain ⟨rfl, rfl⟩ := jx_out hF
    exact jx_iret E dX5_turn_49 rfl
  · rw [if_neg hc2] at hF
    refine jx_iload_n E dX5_turn_8 2 rfl ?_
    refine jx_i2l E dX5_turn_9 ?_
    refine jx_lconst (x := 1) E dX5_turn_10 (by decide) ?_
    refine jx_ldc2 (x := 3) E dX5_turn_11 (List.mem_cons_of_mem _ tw_326) ?_
    obtain ⟨⟨r4, v4⟩, hc4, hF⟩ := jx_bind hF
    try dsimp only at hF
    refine jx_callSi (As := [.long (Int32.toInt64 x2), .long 1, .long 3]) (st := []) E dX5_turn_14 3 rfl (k_X5_in hI (Int32.toInt64 x2) 1 3 v1 r4 v4 hc4) (gb_S (List.mem_cons_of_mem _ tw_323) (List.mem_cons_of_mem _ tw_324) (List.mem_cons_of_mem _ tw_325) tw_322) rfl rfl rfl dd_X5_in rfl ⟨by decide, by decide⟩ ⟨Nat.le_refl 0, Nat.le_refl 0⟩ (Nat.le_of_ble_eq_true rfl) ?_
    refine jx_if_eq (tgt := 43) E dX5_turn_17 (by decide) (fun hc5 => ?_) (fun hc5 => ?_)
    · rw [if_pos hc5] at hF
      refine jx_aload_n E dX5_turn_43 0 rfl ?_
      refine jx_ldc (x := -1000001) E dX5_turn_44 (List.mem_cons_of_mem _ tw_320) ?_
      obtain ⟨⟨r6, v6⟩, hc6, hF⟩ := jx_bind hF
      try dsimp only at hF
      refine jx_callVi (As := [.int (-1000001)]) (st := []) (h := 0) E dX5_turn_46 1 rfl (k_X5_finds hI (-1000001) v4 r6 v6 hc6) (gb_V (List.mem_cons_of_mem _ tw_344) (List.mem_cons_of_mem _ tw_345) (List.mem_cons_of_mem _ tw_346) (List.mem_cons_of_mem _ tw_325) tw_343) rfl rfl rfl dd_X5_finds rfl (Nat.le_of_ble_eq_true rfl) s_M0 rfl ⟨by decide, by decide⟩ ⟨Nat.le_refl 0, Nat.le_refl 0⟩ (Nat.le_of_ble_eq_true rfl) ?_
      obtain ⟨rfl, rfl⟩ := jx_out hF
      exact jx_iret E dX5_turn_49 rfl
    · rw [if_neg hc5] at hF
      refine jx_iload_n E dX5_turn_20 3 rfl ?_
      refine jx_i2l E dX5_turn_21 ?_
      refine jx_lconst (x := 0) E dX5_turn_22 (by decide) ?_
      refine jx_iload_n E dX5_turn_23 2 rfl ?_
      refine jx_iconst (x := 1) E dX5_turn_24 (by decide) ?_
      refine jx_icmp_ne (tgt := 34) E dX5_turn_25 (by decide) (fun hc7 => ?_) (fun hc7 => ?_)
      · rw [if_neg hc7] at hF
        refine jx_ldc2 (x := 3) E dX5_turn_34 (List.mem_cons_of_mem _ tw_326) ?_
        obtain ⟨⟨r8, v8⟩, hc8, hF⟩ := jx_bind hF
        try dsimp only at hF
        refine jx_callSi (As := [.long (Int32.toInt64 x3), .long 0, .long 3]) (st := []) E dX5_turn_37 3 rfl (k_X5_in hI (Int32.toInt64 x3) 0 3 v4 r8 v8 hc8) (gb_S (List.mem_cons_of_mem _ tw_323) (List.mem_cons_of_mem _ tw_324) (List.mem_cons_of_mem _ tw_325) tw_322) rfl rfl rfl dd_X5_in rfl ⟨by decide, by decide⟩ ⟨Nat.le_refl 0, Nat.le_refl 0⟩ (Nat.le_of_ble_eq_true rfl) ?_
        refine jx_if_ne (tgt := 50) E dX5_turn_40 (by decide) (fun hc9 => ?_) (fun hc9 => ?_)
        · rw [if_neg hc9] at hF
          refine jx_aload_n E dX5_turn_50 0 rfl ?_
          refine jx_iload_n E dX5_turn_51 1 rfl ?_
          refine jx_iload_n E dX5_turn_52 2 rfl ?_
          obtain ⟨⟨r10, v10⟩, hc10, hF⟩ := jx_bind hF
          try dsimp only at hF
          refine jx_callVi (As := [.int x1, .int x2]) (st := []) (h := 0) E dX5_turn_53 2 rfl (k_X5_told hI x1 x2 v8 r10 v10 hc10) (gb_V (List.mem_cons_of_mem _ tw_402) (List.mem_cons_of_mem _ tw_403) (List.mem_cons_of_mem _ tw_404) (List.mem_cons_of_mem _ tw_325) tw_401) rfl rfl rfl dd_X5_told rfl (Nat.le_of_ble_eq_true rfl) s_M0 rfl ⟨by decide, by decide⟩ ⟨Nat.le_refl 0, Nat.le_refl 0⟩ (Nat.le_of_ble_eq_true rfl) ?_
          refine jx_istore (lv' := [(4, .int r10), (0, .ref (ad 0)), (1, .int x1), (2, .int x2), (3, .int x3)]) E dX5_turn_56 (by decide) rfl ?_
          refine jx_aload_n E dX5_turn_58 1 rfl ?_
          refine jx_getr (C := RX5) (T := TX5) (M := 21) (k := 0) E dX5_turn_59 (Nat.le_of_ble_eq_true rfl) s_M0 rfl iX5 (by decide) rfl (List.mem_cons_of_mem _ tw_328) rfl ?_
          refine jx_iload_n E dX5_turn_62 2 rfl ?_
          refine jx_iload_n E dX5_turn_63 3 rfl ?_
          obtain ⟨⟨r11, v11⟩, hc11, hF⟩ := jx_bind hF
          try dsimp only at hF
          refine jx_callSi (As := [.int x1, .int x2]) (st := [.ref (ad 1)]) E dX5_turn_64 2 rfl (k_X5_where hI x1 x2 v10 r11 v11 hc11) (gb_S (List.mem_cons_of_mem _ tw_389) (List.mem_cons_of_mem _ tw_390) (List.mem_cons_of_mem _ tw_325) tw_388) rfl rfl rfl dd_X5_where rfl ⟨by decide, by decide⟩ ⟨Nat.le_refl 0, Nat.le_refl 0⟩ (Nat.le_of_ble_eq_true rfl) ?_
          refine jx_iload_n E dX5_turn_67 4 rfl ?_
          obtain ⟨hg12, hF⟩ := jx_guard hF
          refine jx_iast (h := 1) (j := (Int32.toNatClampNeg r11)) E dX5_turn_68 (Nat.le_of_ble_eq_true rfl) s_M1 hg12 rfl ?_
          refine jx_iload E dX5_turn_69 0 rfl ?_
          obtain ⟨rfl, rfl⟩ := jx_out hF
          exact jx_iret E dX5_turn_71 rfl
        · rw [if_pos hc9] at hF
          refine jx_aload_n E dX5_turn_43 0 rfl ?_
          refine jx_ldc (x := -1000001) E dX5_turn_44 (List.mem_cons_of_mem _ tw_320) ?_
          obtain ⟨⟨r13, v13⟩, hc13, hF⟩ := jx_bind hF
          try dsimp only at hF
          refine jx_callVi (As := [.int (-1000001)]) (st := []) (h := 0) E dX5_turn_46 1 rfl (k_X5_finds hI (-1000001) v8 r13 v13 hc13) (gb_V (List.mem_cons_of_mem _ tw_344) (List.mem_cons_of_mem _ tw_345) (List.mem_cons_of_mem _ tw_346) (List.mem_cons_of_mem _ tw_325) tw_343) rfl rfl rfl dd_X5_finds rfl (Nat.le_of_ble_eq_true rfl) s_M0 rfl ⟨by decide, by decide⟩ ⟨Nat.le_refl 0, Nat.le_refl 0⟩ (Nat.le_of_ble_eq_true rfl) ?_
          obtain ⟨rfl, rfl⟩ := jx_out hF
          exact jx_iret E dX5_turn_49 rfl
      · rw [if_pos hc7] at hF
        refine jx_ldc2 (x := 9) E dX5_turn_28 (List.mem_cons_of_mem _ tw_327) ?_
        refine jx_goto (tgt := 37) E dX5_turn_31 (by decide) ?_
        obtain ⟨⟨r14, v14⟩, hc14, hF⟩ := jx_bind hF
        try dsimp only at hF
        refine jx_callSi (As := [.long (Int32.toInt64 x3), .long 0, .long 9]) (st := []) E dX5_turn_37 3 rfl (k_X5_in hI (Int32.toInt64 x3) 0 9 v4 r14 v14 hc14) (gb_S (List.mem_cons_of_mem _ tw_323) (List.mem_cons_of_mem _ tw_324) (List.mem_cons_of_mem _ tw_325) tw_322) rfl rfl rfl dd_X5_in rfl ⟨by decide, by decide⟩ ⟨Nat.le_refl 0, Nat.le_refl 0⟩ (Nat.le_of_ble_eq_true rfl) ?_
        refine jx_if_ne (tgt := 50) E dX5_turn_40 (by decide) (fun hc15 => ?_) (fun hc15 => ?_)
        · rw [if_neg hc15] at hF
          refine jx_aload_n E dX5_turn_50 0 rfl ?_
          refine jx_iload_n E dX5_turn_51 1 rfl ?_
          refine jx_iload_n E dX5_turn_52 2 rfl ?_
          obtain ⟨⟨r16, v16⟩, hc16, hF⟩ := jx_bind hF
          try dsimp only at hF
          refine jx_callVi (As := [.int x1, .int x2]) (st := []) (h := 0) E dX5_turn_53 2 rfl (k_X5_told hI x1 x2 v14 r16 v16 hc16) (gb_V (List.mem_cons_of_mem _ tw_402) (List.mem_cons_of_mem _ tw_403) (List.mem_cons_of_mem _ tw_404) (List.mem_cons_of_mem _ tw_325) tw_401) rfl rfl rfl dd_X5_told rfl (Nat.le_of_ble_eq_true rfl) s_M0 rfl ⟨by decide, by decide⟩ ⟨Nat.le_refl 0, Nat.le_refl 0⟩ (Nat.le_of_ble_eq_true rfl) ?_
          refine jx_istore (lv' := [(4, .int r16), (0, .ref (ad 0)), (1, .int x1), (2, .int x2), (3, .int x3)]) E dX5_turn_56 (by decide) rfl ?_
          refine jx_aload_n E dX5_turn_58 1 rfl ?_
          refine jx_getr (C := RX5) (T := TX5) (M := 21) (k := 0) E dX5_turn_59 (Nat.le_of_ble_eq_true rfl) s_M0 rfl iX5 (by decide) rfl (List.mem_cons_of_mem _ tw_328) rfl ?_
          refine jx_iload_n E dX5_turn_62 2 rfl ?_
          refine jx_iload_n E dX5_turn_63 3 rfl ?_
          obtain ⟨⟨r17, v17⟩, hc17, hF⟩ := jx_bind hF
          try dsimp only at hF
          refine jx_callSi (As := [.int x1, .int x2]) (st := [.ref (ad 1)]) E dX5_turn_64 2 rfl (k_X5_where hI x1 x2 v16 r17 v17 hc17) (gb_S (List.mem_cons_of_mem _ tw_389) (List.mem_cons_of_mem _ tw_390) (List.mem_cons_of_mem _ tw_325) tw_388) rfl rfl rfl dd_X5_where rfl ⟨by decide, by decide⟩ ⟨Nat.le_refl 0, Nat.le_refl 0⟩ (Nat.le_of_ble_eq_true rfl) ?_
          refine jx_iload_n E dX5_turn_67 4 rfl ?_
          obtain ⟨hg18, hF⟩ := jx_guard hF
          refine jx_iast (h := 1) (j := (Int32.toNatClampNeg r17)) E dX5_turn_68 (Nat.le_of_ble_eq_true rfl) s_M1 hg18 rfl ?_
          refine jx_iload E dX5_turn_69 0 rfl ?_
          obtain ⟨rfl, rfl⟩ := jx_out hF
          exact jx_iret E dX5_turn_71 rfl
        · rw [if_pos hc15] at hF
          refine jx_aload_n E dX5_turn_43 0 rfl ?_
          refine jx_ldc (x := -1000001) E dX5_turn_44 (List.mem_cons_of_mem _ tw_320) ?_
          obtain ⟨⟨r19, v19⟩, hc19, hF⟩ := jx_bind hF
          try dsimp only at hF
          refine jx_callVi (As := [.int (-1000001)]) (st := []) (h := 0) E dX5_turn_46 1 rfl (k_X5_finds hI (-1000001) v14 r19 v19 hc19) (gb_V (List.mem_cons_of_mem _ tw_344) (List.mem_cons_of_mem _ tw_345) (List.mem_cons_of_mem _ tw_346) (List.mem_cons_of_mem _ tw_325) tw_343) rfl rfl rfl dd_X5_finds rfl (Nat.le_of_ble_eq_true rfl) s_M0 rfl ⟨by decide, by decide⟩ ⟨Nat.le_refl 0, Nat.le_refl 0⟩ (Nat.le_of_ble_eq_true rfl) ?_
          obtain ⟨rfl, rfl⟩ := jx_out hF
          exact jx_iret E dX5_turn_49 rfl
def f_X5_lotAt (x0 : Int32) (x1 : Int32) (x2 : Int32) (v : jx_V) : Option (Int32 × jx_V) := (if x1 = 0 then (if x1 = 1 then ((f_X5_in (Int32.toInt64 ((x0 / 5) + (0 - x2))) 0 4 v).bind (fun (r41, v41) => (if r41 = 0 then (some ((-1), v41)) else ((f_X5_in (Int32.toInt64 ((x0 - x0 / 5 * 5) + x2)) 0 4 v41).bind (fun (r43, v43) => (if r43 = 0 then (some ((-1), v43)) else (some (((5 * ((x0 / 5) + (0 - x2))) + ((x0 - x0 / 5 * 5) + x2)), v43)))))))) else (if x1 = 3 then ((f_X5_in (Int32.toInt64 ((x0 / 5) + (0 - x2))) 0 4 v).bind (fun (r37, v37) => (if r37 = 0 then (some ((-1), v37)) else ((f_X5_in (Int32.toInt64 ((x0 - x0 / 5 * 5) + (0 - x2))) 0 4 v37).bind (fun (r39, v39) => (if r39 = 0 then (some ((-1), v39)) else (some (((5 * ((x0 / 5) + (0 - x2))) + ((x0 - x0 / 5 * 5) + (0 - x2))), v39)))))))) else ((f_X5_in (Int32.toInt64 ((x0 / 5) + (0 - x2))) 0 4 v).bind (fun (r33, v33) => (if r33 = 0 then (some ((-1), v33)) else ((f_X5_in (Int32.toInt64 ((x0 - x0 / 5 * 5) + 0)) 0 4 v33).bind (fun (r35, v35) => (if r35 = 0 then (some ((-1), v35)) else (some (((5 * ((x0 / 5) + (0 - x2))) + ((x0 - x0 / 5 * 5) + 0)), v35)))))))))) else (if x1 = 2 then (if x1 = 1 then ((f_X5_in (Int32.toInt64 ((x0 / 5) + x2)) 0 4 v).bind (fun (r27, v27) => (if r27 = 0 then (some ((-1), v27)) else ((f_X5_in (Int32.toInt64 ((x0 - x0 / 5 * 5) + x2)) 0 4 v27).bind (fun (r29, v29) => (if r29 = 0 then (some ((-1), v29)) else (some (((5 * ((x0 / 5) + x2)) + ((x0 - x0 / 5 * 5) + x2)), v29)))))))) else (if x1 = 3 then ((f_X5_in (Int32.toInt64 ((x0 / 5) + x2)) 0 4 v).bind (fun (r23, v23) => (if r23 = 0 then (some ((-1), v23)) else ((f_X5_in (Int32.toInt64 ((x0 - x0 / 5 * 5) + (0 - x2))) 0 4 v23).bind (fun (r25, v25) => (if r25 = 0 then (some ((-1), v25)) else (some (((5 * ((x0 / 5) + x2)) + ((x0 - x0 / 5 * 5) + (0 - x2))), v25)))))))) else ((f_X5_in (Int32.toInt64 ((x0 / 5) + x2)) 0 4 v).bind (fun (r19, v19) => (if r19 = 0 then (some ((-1), v19)) else ((f_X5_in (Int32.toInt64 ((x0 - x0 / 5 * 5) + 0)) 0 4 v19).bind (fun (r21, v21) => (if r21 = 0 then (some ((-1), v21)) else (some (((5 * ((x0 / 5) + x2)) + ((x0 - x0 / 5 * 5) + 0)), v21)))))))))) else (if x1 = 1 then ((f_X5_in (Int32.toInt64 ((x0 / 5) + 0)) 0 4 v).bind (fun (r13, v13) => (if r13 = 0 then (some ((-1), v13)) else ((f_X5_in (Int32.toInt64 ((x0 - x0 / 5 * 5) + x2)) 0 4 v13).bind (fun (r15, v15) => (if r15 = 0 then (some ((-1), v15)) else (some (((5 * ((x0 / 5) + 0)) + ((x0 - x0 / 5 * 5) + x2)), v15)))))))) else (if x1 = 3 then ((f_X5_in (Int32.toInt64 ((x0 / 5) + 0)) 0 4 v).bind (fun (r9, v9) => (if r9 = 0 then (some ((-1), v9)) else ((f_X5_in (Int32.toInt64 ((x0 - x0 / 5 * 5) + (0 - x2))) 0 4 v9).bind (fun (r11, v11) => (if r11 = 0 then (some ((-1), v11)) else (some (((5 * ((x0 / 5) + 0)) + ((x0 - x0 / 5 * 5) + (0 - x2))), v11)))))))) else ((f_X5_in (Int32.toInt64 ((x0 / 5) + 0)) 0 4 v).bind (fun (r5, v5) => (if r5 = 0 then (some ((-1), v5)) else ((f_X5_in (Int32.toInt64 ((x0 - x0 / 5 * 5) + 0)) 0 4 v5).bind (fun (r7, v7) => (if r7 = 0 then (some ((-1), v7)) else (some (((5 * ((x0 / 5) + 0)) + ((x0 - x0 / 5 * 5) + 0)), v7))))))))))))
def rm_X5_lotAt : Room := { frames := 1, cells := 0, slots := 0, locals := 25 }
set_option maxHeartbeats 4000000 in
set_option maxRecDepth 100000 in
theorem k_X5_lotAt {l : Launch} {D : va_G} {cI cJ : ClassId} {ad : Nat → Nat} {A : Nat → Prop} (hI : jx_inj 13 ad A) (x0 : Int32) (x1 : Int32) (x2 : Int32) (v : jx_V) (r : Int32) (v' : jx_V) (hF : f_X5_lotAt x0 x1 x2 v = some (r, v')) : jx_Ci l D vwCl 13 cI cJ ad shM A ex_M yX5_lotAt (Cond.code yX5_lotAt cX5_lotAt 5 (some .int) :: bigT) rm_X5_lotAt [.int x0, .int x1, .int x2] v r v' := by
  unfold f_X5_lotAt at hF
  refine jx_enteri bigT RX5 cX5_lotAt 5 (some .int) [(0, .int x0), (1, .int x1), (2, .int x2)] hI (ex_M_ok A) (by decide +kernel) rfl (Nat.le_of_ble_eq_true rfl) rfl rfl ?_
  intro p e s m args below meth c E
  refine jx_iload_n E dX5_lotAt_0 0 rfl ?_
  refine jx_iconst (x := 5) E dX5_lotAt_1 (by decide) ?_
  refine jx_idiv E dX5_lotAt_2 (by decide) ?_
  refine jx_iload_n E dX5_lotAt_3 1 rfl ?_
  refine jx_if_ne (tgt := 13) E dX5_lotAt_4 (by decide) (fun hc1 => ?_) (fun hc1 => ?_)
  · rw [if_neg hc1] at hF
    refine jx_iload_n E dX5_lotAt_13 1 rfl ?_
    refine jx_iconst (x := 2) E dX5_lotAt_14 (by decide) ?_
    refine jx_icmp_ne (tgt := 22) E dX5_lotAt_15 (by decide) (fun hc2 => ?_) (fun hc2 => ?_)
    · rw [if_neg hc2] at hF
      refine jx_iconst (x := 0) E dX5_lotAt_22 (by decide) ?_
      refine jx_iadd E dX5_lotAt_23 ?_
      refine jx_istore_n (lv' := [(3, .int ((x0 / 5) + 0)), (0, .int x0), (1, .int x1), (2, .int x2)]) E dX5_lotAt_24 (by decide) rfl ?_
      refine jx_iload_n E dX5_lotAt_25 1 rfl ?_
      refine jx_iconst (x := 5) E dX5_lotAt_26 (by decide) ?_
      refine jx_irem E dX5_lotAt_27 (by decide) ?_
      refine jx_iload_n E dX5_lotAt_28 2 rfl ?_
      refine jx_iconst (x := 1) E dX5_lotAt_29 (by decide) ?_
      refine jx_icmp_ne (tgt := 37) E dX5_lotAt_30 (by decide) (fun hc3 => ?_) (fun hc3 => ?_)
      · rw [if_neg hc3] at hF
        refine jx_iload_n E dX5_lotAt_37 2 rfl ?_
        refine jx_iconst (x := 3) E dX5_lotAt_38 (by decide) ?_
        refine jx_icmp_ne (tgt := 48) E dX5_lotAt_39 (by decide) (fun hc4 => ?_) (fun hc4 => ?_)
        · rw [if_neg hc4] at hF
          refine jx_iconst (x := 0) E dX5_lotAt_48 (by decide) ?_
          refine jx_iadd E dX5_lotAt_49 ?_
          refine jx_istore (lv' := [(4, .int ((x0 - x0 / 5 * 5) + 0)), (3, .int ((x0 / 5) + 0)), (0, .int x0), (1, .int x1), (2, .int x2)]) E dX5_lotAt_50 (by decide) rfl ?_
          refine jx_iload_n E dX5_lotAt_52 1 rfl ?_
          refine jx_i2l E dX5_lotAt_53 ?_
          refine jx_lconst (x := 0) E dX5_lotAt_54 (by decide) ?_
          refine jx_ldc2 (x := 4) E dX5_lotAt_55 (List.mem_cons_of_mem _ tw_405) ?_
          obtain ⟨⟨r5, v5⟩, hc5, hF⟩ := jx_bind hF
          try dsimp only at hF
          refine jx_callSi (As := [.long (Int32.toInt64 ((x0 / 5) + 0)), .long 0, .long 4]) (st := []) E dX5_lotAt_58 3 rfl (k_X5_in hI (Int32.toInt64 ((x0 / 5) + 0)) 0 4 v r5 v5 hc5) (gb_S (List.mem_cons_of_mem _ tw_323) (List.mem_cons_of_mem _ tw_324) (List.mem_cons_of_mem _ tw_325) tw_322) rfl rfl rfl dd_X5_in rfl ⟨by decide, by decide⟩ ⟨Nat.le_refl 0, Nat.le_refl 0⟩ (Nat.le_of_ble_eq_true rfl) ?_
          refine jx_if_eq (tgt := 86) E dX5_lotAt_61 (by decide) (fun hc6 => ?_) (fun hc6 => ?_)
          · rw [if_pos hc6] at hF
            refine jx_iconst (x := -1) E dX5_lotAt_86 (by decide) ?_
            obtain ⟨rfl, rfl⟩ := jx_out hF
            exact jx_iret E dX5_lotAt_87 rfl
          · rw [if_neg hc6] at hF
            refine jx_iload E dX5_lotAt_64 0 rfl ?_
            refine jx_i2l E dX5_lotAt_66 ?_
            refine jx_lconst (x := 0) E dX5_lotAt_67 (by decide) ?_
            refine jx_ldc2 (x := 4) E dX5_lotAt_68 (List.mem_cons_of_mem _ tw_405) ?_
            obtain ⟨⟨r7, v7⟩, hc7, hF⟩ := jx_bind hF
            try dsimp only at hF
            refine jx_callSi (As := [.long (Int32.toInt64 ((x0 - x0 / 5 * 5) + 0)), .long 0, .long 4]) (st := []) E dX5_lotAt_71 3 rfl (k_X5_in hI (Int32.toInt64 ((x0 - x0 / 5 * 5) + 0)) 0 4 v5 r7 v7 hc7) (gb_S (List.mem_cons_of_mem _ tw_323) (List.mem_cons_of_mem _ tw_324) (List.mem_cons_of_mem _ tw_325) tw_322) rfl rfl rfl dd_X5_in rfl ⟨by decide, by decide⟩ ⟨Nat.le_refl 0, Nat.le_refl 0⟩ (Nat.le_of_ble_eq_true rfl) ?_
            refine jx_if_eq (tgt := 86) E dX5_lotAt_74 (by decide) (fun hc8 => ?_) (fun hc8 => ?_)
            · rw [if_pos hc8] at hF
              refine jx_iconst (x := -1) E dX5_lotAt_86 (by decide) ?_
              obtain ⟨rfl, rfl⟩ := jx_out hF
              exact jx_iret E dX5_lotAt_87 rfl
            · rw [if_neg hc8] at hF
              refine jx_iconst (x := 5) E dX5_lotAt_77 (by decide) ?_
              refine jx_iload_n E dX5_lotAt_78 1 rfl ?_
              refine jx_imul E dX5_lotAt_79 ?_
              refine jx_iload E dX5_lotAt_80 0 rfl ?_
              refine jx_iadd E dX5_lotAt_82 ?_
              refine jx_goto (tgt := 87) E dX5_lotAt_83 (by decide) ?_
              obtain ⟨rfl, rfl⟩ := jx_out hF
              exact jx_iret E dX5_lotAt_87 rfl
        · rw [if_pos hc4] at hF
          refine jx_iconst (x := 0) E dX5_lotAt_42 (by decide) ?_
          refine jx_iload_n E dX5_lotAt_43 3 rfl ?_
          refine jx_isub E dX5_lotAt_44 ?_
          refine jx_goto (tgt := 49) E dX5_lotAt_45 (by decide) ?_
          refine jx_iadd E dX5_lotAt_49 ?_
          refine jx_istore (lv' := [(4, .int ((x0 - x0 / 5 * 5) + (0 - x2))), (3, .int ((x0 / 5) + 0)), (0, .int x0), (1, .int x1), (2, .int x2)]) E dX5_lotAt_50 (by decide) rfl ?_
          refine jx_iload_n E dX5_lotAt_52 1 rfl ?_
          refine jx_i2l E dX5_lotAt_53 ?_
          refine jx_lconst (x := 0) E dX5_lotAt_54 (by decide) ?_
          refine jx_ldc2 (x := 4) E dX5_lotAt_55 (List.mem_cons_of_mem _ tw_405) ?_
          obtain ⟨⟨r9, v9⟩, hc9, hF⟩ := jx_bind hF
          try dsimp only at hF
          refine jx_callSi (As := [.long (Int32.toInt64 ((x0 / 5) + 0)), .long 0, .long 4]) (st := []) E dX5_lotAt_58 3 rfl (k_X5_in hI (Int32.toInt64 ((x0 / 5) + 0)) 0 4 v r9 v9 hc9) (gb_S (List.mem_cons_of_mem _ tw_323) (List.mem_cons_of_mem _ tw_324) (List.mem_cons_of_mem _ tw_325) tw_322) rfl rfl rfl dd_X5_in rfl ⟨by decide, by decide⟩ ⟨Nat.le_refl 0, Nat.le_refl 0⟩ (Nat.le_of_ble_eq_true rfl) ?_
          refine jx_if_eq (tgt := 86) E dX5_lotAt_61 (by decide) (fun hc10 => ?_) (fun hc10 => ?_)
          · rw [if_pos hc10] at hF
            refine jx_iconst (x := -1) E dX5_lotAt_86 (by decide) ?_
            obtain ⟨rfl, rfl⟩ := jx_out hF
            exact jx_iret E dX5_lotAt_87 rfl
          · rw [if_neg hc10] at hF
            refine jx_iload E dX5_lotAt_64 0 rfl ?_
            refine jx_i2l E dX5_lotAt_66 ?_
            refine jx_lconst (x := 0) E dX5_lotAt_67 (by decide) ?_
            refine jx_ldc2 (x := 4) E dX5_lotAt_68 (List.mem_cons_of_mem _ tw_405) ?_
            obtain ⟨⟨r11, v11⟩, hc11, hF⟩ := jx_bind hF
            try dsimp only at hF
            refine jx_callSi (As := [.long (Int32.toInt64 ((x0 - x0 / 5 * 5) + (0 - x2))), .long 0, .long 4]) (st := []) E dX5_lotAt_71 3 rfl (k_X5_in hI (Int32.toInt64 ((x0 - x0 / 5 * 5) + (0 - x2))) 0 4 v9 r11 v11 hc11) (gb_S (List.mem_cons_of_mem _ tw_323) (List.mem_cons_of_mem _ tw_324) (List.mem_cons_of_mem _ tw_325) tw_322) rfl rfl rfl dd_X5_in rfl ⟨by decide, by decide⟩ ⟨Nat.le_refl 0, Nat.le_refl 0⟩ (Nat.le_of_ble_eq_true rfl) ?_
            refine jx_if_eq (tgt := 86) E dX5_lotAt_74 (by decide) (fun hc12 => ?_) (fun hc12 => ?_)
            · rw [if_pos hc12] at hF
              refine jx_iconst (x := -1) E dX5_lotAt_86 (by decide) ?_
              obtain ⟨rfl, rfl⟩ := jx_out hF
              exact jx_iret E dX5_lotAt_87 rfl
            · rw [if_neg hc12] at hF
              refine jx_iconst (x := 5) E dX5_lotAt_77 (by decide) ?_
              refine jx_iload_n E dX5_lotAt_78 1 rfl ?_
              refine jx_imul E dX5_lotAt_79 ?_
              refine jx_iload E dX5_lotAt_80 0 rfl ?_
              refine jx_iadd E dX5_lotAt_82 ?_
              refine jx_goto (tgt := 87) E dX5_lotAt_83 (by decide) ?_
              obtain ⟨rfl, rfl⟩ := jx_out hF
              exact jx_iret E dX5_lotAt_87 rfl
      · rw [if_pos hc3] at hF
        refine jx_iload_n E dX5_lotAt_33 3 rfl ?_
        refine jx_goto (tgt := 49) E dX5_lotAt_34 (by decide) ?_
        refine jx_iadd E dX5_lotAt_49 ?_
        refine jx_istore (lv' := [(4, .int ((x0 - x0 / 5 * 5) + x2)), (3, .int ((x0 / 5) + 0)), (0, .int x0), (1, .int x1), (2, .int x2)]) E dX5_lotAt_50 (by decide) rfl ?_
        refine jx_iload_n E dX5_lotAt_52 1 rfl ?_
        refine jx_i2l E dX5_lotAt_53 ?_
        refine jx_lconst (x := 0) E dX5_lotAt_54 (by decide) ?_
        refine jx_ldc2 (x := 4) E dX5_lotAt_55 (List.mem_cons_of_mem _ tw_405) ?_
        obtain ⟨⟨r13, v13⟩, hc13, hF⟩ := jx_bind hF
        try dsimp only at hF
        refine jx_callSi (As := [.long (Int32.toInt64 ((x0 / 5) + 0)), .long 0, .long 4]) (st := []) E dX5_lotAt_58 3 rfl (k_X5_in hI (Int32.toInt64 ((x0 / 5) + 0)) 0 4 v r13 v13 hc13) (gb_S (List.mem_cons_of_mem _ tw_323) (List.mem_cons_of_mem _ tw_324) (List.mem_cons_of_mem _ tw_325) tw_322) rfl rfl rfl dd_X5_in rfl ⟨by decide, by decide⟩ ⟨Nat.le_refl 0, Nat.le_refl 0⟩ (Nat.le_of_ble_eq_true rfl) ?_
        refine jx_if_eq (tgt := 86) E dX5_lotAt_61 (by decide) (fun hc14 => ?_) (fun hc14 => ?_)
        · rw [if_pos hc14] at hF
          refine jx_iconst (x := -1) E dX5_lotAt_86 (by decide) ?_
          obtain ⟨rfl, rfl⟩ := jx_out hF
          exact jx_iret E dX5_lotAt_87 rfl
        · rw [if_neg hc14] at hF
          refine jx_iload E dX5_lotAt_64 0 rfl ?_
          refine jx_i2l E dX5_lotAt_66 ?_
          refine jx_lconst (x := 0) E dX5_lotAt_67 (by decide) ?_
          refine jx_ldc2 (x := 4) E dX5_lotAt_68 (List.mem_cons_of_mem _ tw_405) ?_
          obtain ⟨⟨r15, v15⟩, hc15, hF⟩ := jx_bind hF
          try dsimp only at hF
          refine jx_callSi (As := [.long (Int32.toInt64 ((x0 - x0 / 5 * 5) + x2)), .long 0, .long 4]) (st := []) E dX5_lotAt_71 3 rfl (k_X5_in hI (Int32.toInt64 ((x0 - x0 / 5 * 5) + x2)) 0 4 v13 r15 v15 hc15) (gb_S (List.mem_cons_of_mem _ tw_323) (List.mem_cons_of_mem _ tw_324) (List.mem_cons_of_mem _ tw_325) tw_322) rfl rfl rfl dd_X5_in rfl ⟨by decide, by decide⟩ ⟨Nat.le_refl 0, Nat.le_refl 0⟩ (Nat.le_of_ble_eq_true rfl) ?_
          refine jx_if_eq (tgt := 86) E dX5_lotAt_74 (by decide) (fun hc16 => ?_) (fun hc16 => ?_)
          · rw [if_pos hc16] at hF
            refine jx_iconst (x := -1) E dX5_lotAt_86 (by decide) ?_
            obtain ⟨rfl, rfl⟩ := jx_out hF
            exact jx_iret E dX5_lotAt_87 rfl
          · rw [if_neg hc16] at hF
            refine jx_iconst (x := 5) E dX5_lotAt_77 (by decide) ?_
            refine jx_iload_n E dX5_lotAt_78 1 rfl ?_
            refine jx_imul E dX5_lotAt_79 ?_
            refine jx_iload E dX5_lotAt_80 0 rfl ?_
            refine jx_iadd E dX5_lotAt_82 ?_
            refine jx_goto (tgt := 87) E dX5_lotAt_83 (by decide) ?_
            obtain ⟨rfl, rfl⟩ := jx_out hF
            exact jx_iret E dX5_lotAt_87 rfl
    · rw [if_pos hc2] at hF
      refine jx_iload_n E dX5_lotAt_18 2 rfl ?_
      refine jx_goto (tgt := 23) E dX5_lotAt_19 (by decide) ?_
      refine jx_iadd E dX5_lotAt_23 ?_
      refine jx_istore_n (lv' := [(3, .int ((x0 / 5) + x2)), (0, .int x0), (1, .int x1), (2, .int x2)]) E dX5_lotAt_24 (by decide) rfl ?_
      refine jx_iload_n E dX5_lotAt_25 1 rfl ?_
      refine jx_iconst (x := 5) E dX5_lotAt_26 (by decide) ?_
      refine jx_irem E dX5_lotAt_27 (by decide) ?_
      refine jx_iload_n E dX5_lotAt_28 2 rfl ?_
      refine jx_iconst (x := 1) E dX5_lotAt_29 (by decide) ?_
      refine jx_icmp_ne (tgt := 37) E dX5_lotAt_30 (by decide) (fun hc17 => ?_) (fun hc17 => ?_)
      · rw [if_neg hc17] at hF
        refine jx_iload_n E dX5_lotAt_37 2 rfl ?_
        refine jx_iconst (x := 3) E dX5_lotAt_38 (by decide) ?_
        refine jx_icmp_ne (tgt := 48) E dX5_lotAt_39 (by decide) (fun hc18 => ?_) (fun hc18 => ?_)
        · rw [if_neg hc18] at hF
          refine jx_iconst (x := 0) E dX5_lotAt_48 (by decide) ?_
          refine jx_iadd E dX5_lotAt_49 ?_
          refine jx_istore (lv' := [(4, .int ((x0 - x0 / 5 * 5) + 0)), (3, .int ((x0 / 5) + x2)), (0, .int x0), (1, .int x1), (2, .int x2)]) E dX5_lotAt_50 (by decide) rfl ?_
          refine jx_iload_n E dX5_lotAt_52 1 rfl ?_
          refine jx_i2l E dX5_lotAt_53 ?_
          refine jx_lconst (x := 0) E dX5_lotAt_54 (by decide) ?_
          refine jx_ldc2 (x := 4) E dX5_lotAt_55 (List.mem_cons_of_mem _ tw_405) ?_
          obtain ⟨⟨r19, v19⟩, hc19, hF⟩ := jx_bind hF
          try dsimp only at hF
          refine jx_callSi (As := [.long (Int32.toInt64 ((x0 / 5) + x2)), .long 0, .long 4]) (st := []) E dX5_lotAt_58 3 rfl (k_X5_in hI (Int32.toInt64 ((x0 / 5) + x2)) 0 4 v r19 v19 hc19) (gb_S (List.mem_cons_of_mem _ tw_323) (List.mem_cons_of_mem _ tw_324) (List.mem_cons_of_mem _ tw_325) tw_322) rfl rfl rfl dd_X5_in rfl ⟨by decide, by decide⟩ ⟨Nat.le_refl 0, Nat.le_refl 0⟩ (Nat.le_of_ble_eq_true rfl) ?_
          refine jx_if_eq (tgt := 86) E dX5_lotAt_61 (by decide) (fun hc20 => ?_) (fun hc20 => ?_)
          · rw [if_pos hc20] at hF
            refine jx_iconst (x := -1) E dX5_lotAt_86 (by decide) ?_
            obtain ⟨rfl, rfl⟩ := jx_out hF
            exact jx_iret E dX5_lotAt_87 rfl
          · rw [if_neg hc20] at hF
            refine jx_iload E dX5_lotAt_64 0 rfl ?_
            refine jx_i2l E dX5_lotAt_66 ?_
            refine jx_lconst (x := 0) E dX5_lotAt_67 (by decide) ?_
            refine jx_ldc2 (x := 4) E dX5_lotAt_68 (List.mem_cons_of_mem _ tw_405) ?_
            obtain ⟨⟨r21, v21⟩, hc21, hF⟩ := jx_bind hF
            try dsimp only at hF
            refine jx_callSi (As := [.long (Int32.toInt64 ((x0 - x0 / 5 * 5) + 0)), .long 0, .long 4]) (st := []) E dX5_lotAt_71 3 rfl (k_X5_in hI (Int32.toInt64 ((x0 - x0 / 5 * 5) + 0)) 0 4 v19 r21 v21 hc21) (gb_S (List.mem_cons_of_mem _ tw_323) (List.mem_cons_of_mem _ tw_324) (List.mem_cons_of_mem _ tw_325) tw_322) rfl rfl rfl dd_X5_in rfl ⟨by decide, by decide⟩ ⟨Nat.le_refl 0, Nat.le_refl 0⟩ (Nat.le_of_ble_eq_true rfl) ?_
            refine jx_if_eq (tgt := 86) E dX5_lotAt_74 (by decide) (fun hc22 => ?_) (fun hc22 => ?_)
            · rw [if_pos hc22] at hF
              refine jx_iconst (x := -1) E dX5_lotAt_86 (by decide) ?_
              obtain ⟨rfl, rfl⟩ := jx_out hF
              exact jx_iret E dX5_lotAt_87 rfl
            · rw [if_neg hc22] at hF
              refine jx_iconst (x := 5) E dX5_lotAt_77 (by decide) ?_
              refine jx_iload_n E dX5_lotAt_78 1 rfl ?_
              refine jx_imul E dX5_lotAt_79 ?_
              refine jx_iload E dX5_lotAt_80 0 rfl ?_
              refine jx_iadd E dX5_lotAt_82 ?_
              refine jx_goto (tgt := 87) E dX5_lotAt_83 (by decide) ?_
              obtain ⟨rfl, rfl⟩ := jx_out hF
              exact jx_iret E dX5_lotAt_87 rfl
        · rw [if_pos hc18] at hF
          refine jx_iconst (x := 0) E dX5_lotAt_42 (by decide) ?_
          refine jx_iload_n E dX5_lotAt_43 3 rfl ?_
          refine jx_isub E dX5_lotAt_44 ?_
          refine jx_goto (tgt := 49) E dX5_lotAt_45 (by decide) ?_
          refine jx_iadd E dX5_lotAt_49 ?_
          refine jx_istore (lv' := [(4, .int ((x0 - x0 / 5 * 5) + (0 - x2))), (3, .int ((x0 / 5) + x2)), (0, .int x0), (1, .int x1), (2, .int x2)]) E dX5_lotAt_50 (by decide) rfl ?_
          refine jx_iload_n E dX5_lotAt_52 1 rfl ?_
          refine jx_i2l E dX5_lotAt_53 ?_
          refine jx_lconst (x := 0) E dX5_lotAt_54 (by decide) ?_
          refine jx_ldc2 (x := 4) E dX5_lotAt_55 (List.mem_cons_of_mem _ tw_405) ?_
          obtain ⟨⟨r23, v23⟩, hc23, hF⟩ := jx_bind hF
          try dsimp only at hF
          refine jx_callSi (As := [.long (Int32.toInt64 ((x0 / 5) + x2)), .long 0, .long 4]) (st := []) E dX5_lotAt_58 3 rfl (k_X5_in hI (Int32.toInt64 ((x0 / 5) + x2)) 0 4 v r23 v23 hc23) (gb_S (List.mem_cons_of_mem _ tw_323) (List.mem_cons_of_mem _ tw_324) (List.mem_cons_of_mem _ tw_325) tw_322) rfl rfl rfl dd_X5_in rfl ⟨by decide, by decide⟩ ⟨Nat.le_refl 0, Nat.le_refl 0⟩ (Nat.le_of_ble_eq_true rfl) ?_
          refine jx_if_eq (tgt := 86) E dX5_lotAt_61 (by decide) (fun hc24 => ?_) (fun hc24 => ?_)
          · rw [if_pos hc24] at hF
            refine jx_iconst (x := -1) E dX5_lotAt_86 (by decide) ?_
            obtain ⟨rfl, rfl⟩ := jx_out hF
            exact jx_iret E dX5_lotAt_87 rfl
          · rw [if_neg hc24] at hF
            refine jx_iload E dX5_lotAt_64 0 rfl ?_
            refine jx_i2l E dX5_lotAt_66 ?_
            refine jx_lconst (x := 0) E dX5_lotAt_67 (by decide) ?_
            refine jx_ldc2 (x := 4) E dX5_lotAt_68 (List.mem_cons_of_mem _ tw_405) ?_
            obtain ⟨⟨r25, v25⟩, hc25, hF⟩ := jx_bind hF
            try dsimp only at hF
            refine jx_callSi (As := [.long (Int32.toInt64 ((x0 - x0 / 5 * 5) + (0 - x2))), .long 0, .long 4]) (st := []) E dX5_lotAt_71 3 rfl (k_X5_in hI (Int32.toInt64 ((x0 - x0 / 5 * 5) + (0 - x2))) 0 4 v23 r25 v25 hc25) (gb_S (List.mem_cons_of_mem _ tw_323) (List.mem_cons_of_mem _ tw_324) (List.mem_cons_of_mem _ tw_325) tw_322) rfl rfl rfl dd_X5_in rfl ⟨by decide, by decide⟩ ⟨Nat.le_refl 0, Nat.le_refl 0⟩ (Nat.le_of_ble_eq_true rfl) ?_
            refine jx_if_eq (tgt := 86) E dX5_lotAt_74 (by decide) (fun hc26 => ?_) (fun hc26 => ?_)
            · rw [if_pos hc26] at hF
              refine jx_iconst (x := -1) E dX5_lotAt_86 (by decide) ?_
              obtain ⟨rfl, rfl⟩ := jx_out hF
              exact jx_iret E dX5_lotAt_87 rfl
            · rw [if_neg hc26] at hF
              refine jx_iconst (x := 5) E dX5_lotAt_77 (by decide) ?_
              refine jx_iload_n E dX5_lotAt_78 1 rfl ?_
              refine jx_imul E dX5_lotAt_79 ?_
              refine jx_iload E dX5_lotAt_80 0 rfl ?_
              refine jx_iadd E dX5_lotAt_82 ?_
              refine jx_goto (tgt := 87) E dX5_lotAt_83 (by decide) ?_
              obtain ⟨rfl, rfl⟩ := jx_out hF
              exact jx_iret E dX5_lotAt_87 rfl
      · rw [if_pos hc17] at hF
        refine jx_iload_n E dX5_lotAt_33 3 rfl ?_
        refine jx_goto (tgt := 49) E dX5_lotAt_34 (by decide) ?_
        refine jx_iadd E dX5_lotAt_49 ?_
        refine jx_istore (lv' := [(4, .int ((x0 - x0 / 5 * 5) + x2)), (3, .int ((x0 / 5) + x2)), (0, .int x0), (1, .int x1), (2, .int x2)]) E dX5_lotAt_50 (by decide) rfl ?_
        refine jx_iload_n E dX5_lotAt_52 1 rfl ?_
        refine jx_i2l E dX5_lotAt_53 ?_
        refine jx_lconst (x := 0) E dX5_lotAt_54 (by decide) ?_
        refine jx_ldc2 (x := 4) E dX5_lotAt_55 (List.mem_cons_of_mem _ tw_405) ?_
        obtain ⟨⟨r27, v27⟩, hc27, hF⟩ := jx_bind hF
        try dsimp only at hF
        refine jx_callSi (As := [.long (Int32.toInt64 ((x0 / 5) + x2)), .long 0, .long 4]) (st := []) E dX5_lotAt_58 3 rfl (k_X5_in hI (Int32.toInt64 ((x0 / 5) + x2)) 0 4 v r27 v27 hc27) (gb_S (List.mem_cons_of_mem _ tw_323) (List.mem_cons_of_mem _ tw_324) (List.mem_cons_of_mem _ tw_325) tw_322) rfl rfl rfl dd_X5_in rfl ⟨by decide, by decide⟩ ⟨Nat.le_refl 0, Nat.le_refl 0⟩ (Nat.le_of_ble_eq_true rfl) ?_
        refine jx_if_eq (tgt := 86) E dX5_lotAt_61 (by decide) (fun hc28 => ?_) (fun hc28 => ?_)
        · rw [if_pos hc28] at hF
          refine jx_iconst (x := -1) E dX5_lotAt_86 (by decide) ?_
          obtain ⟨rfl, rfl⟩ := jx_out hF
          exact jx_iret E dX5_lotAt_87 rfl
        · rw [if_neg hc28] at hF
          refine jx_iload E dX5_lotAt_64 0 rfl ?_
          refine jx_i2l E dX5_lotAt_66 ?_
          refine jx_lconst (x := 0) E dX5_lotAt_67 (by decide) ?_
          refine jx_ldc2 (x := 4) E dX5_lotAt_68 (List.mem_cons_of_mem _ tw_405) ?_
          obtain ⟨⟨r29, v29⟩, hc29, hF⟩ := jx_bind hF
          try dsimp only at hF
          refine jx_callSi (As := [.long (Int32.toInt64 ((x0 - x0 / 5 * 5) + x2)), .long 0, .long 4]) (st := []) E dX5_lotAt_71 3 rfl (k_X5_in hI (Int32.toInt64 ((x0 - x0 / 5 * 5) + x2)) 0 4 v27 r29 v29 hc29) (gb_S (List.mem_cons_of_mem _ tw_323) (List.mem_cons_of_mem _ tw_324) (List.mem_cons_of_mem _ tw_325) tw_322) rfl rfl rfl dd_X5_in rfl ⟨by decide, by decide⟩ ⟨Nat.le_refl 0, Nat.le_refl 0⟩ (Nat.le_of_ble_eq_true rfl) ?_
          refine jx_if_eq (tgt := 86) E dX5_lotAt_74 (by decide) (fun hc30 => ?_) (fun hc30 => ?_)
          · rw [if_pos hc30] at hF
            refine jx_iconst (x := -1) E dX5_lotAt_86 (by decide) ?_
            obtain ⟨rfl, rfl⟩ := jx_out hF
            exact jx_iret E dX5_lotAt_87 rfl
          · rw [if_neg hc30] at hF
            refine jx_iconst (x := 5) E dX5_lotAt_77 (by decide) ?_
            refine jx_iload_n E dX5_lotAt_78 1 rfl ?_
            refine jx_imul E dX5_lotAt_79 ?_
            refine jx_iload E dX5_lotAt_80 0 rfl ?_
            refine jx_iadd E dX5_lotAt_82 ?_
            refine jx_goto (tgt := 87) E dX5_lotAt_83 (by decide) ?_
            obtain ⟨rfl, rfl⟩ := jx_out hF
            exact jx_iret E dX5_lotAt_87 rfl
  · rw [if_pos hc1] at hF
    refine jx_iconst (x := 0) E dX5_lotAt_7 (by decide) ?_
    refine jx_iload_n E dX5_lotAt_8 2 rfl ?_
    refine jx_isub E dX5_lotAt_9 ?_
    refine jx_goto (tgt := 23) E dX5_lotAt_10 (by decide) ?_
    refine jx_iadd E dX5_lotAt_23 ?_
    refine jx_istore_n (lv' := [(3, .int ((x0 / 5) + (0 - x2))), (0, .int x0), (1, .int x1), (2, .int x2)]) E dX5_lotAt_24 (by decide) rfl ?_
    refine jx_iload_n E dX5_lotAt_25 1 rfl ?_
    refine jx_iconst (x := 5) E dX5_lotAt_26 (by decide) ?_
    refine jx_irem E dX5_lotAt_27 (by decide) ?_
    refine jx_iload_n E dX5_lotAt_28 2 rfl ?_
    refine jx_iconst (x := 1) E dX5_lotAt_29 (by decide) ?_
    refine jx_icmp_ne (tgt := 37) E dX5_lotAt_30 (by decide) (fun hc31 => ?_) (fun hc31 => ?_)
    · rw [if_neg hc31] at hF
      refine jx_iload_n E dX5_lotAt_37 2 rfl ?_
      refine jx_iconst (x := 3) E dX5_lotAt_38 (by decide) ?_
      refine jx_icmp_ne (tgt := 48) E dX5_lotAt_39 (by decide) (fun hc32 => ?_) (fun hc32 => ?_)
      · rw [if_neg hc32] at hF
        refine jx_iconst (x := 0) E dX5_lotAt_48 (by decide) ?_
        refine jx_iadd E dX5_lotAt_49 ?_
        refine jx_istore (lv' := [(4, .int ((x0 - x0 / 5 * 5) + 0)), (3, .int ((x0 / 5) + (0 - x2))), (0, .int x0), (1, .int x1), (2, .int x2)]) E dX5_lotAt_50 (by decide) rfl ?_
        refine jx_iload_n E dX5_lotAt_52 1 rfl ?_
        refine jx_i2l E dX5_lotAt_53 ?_
        refine jx_lconst (x := 0) E dX5_lotAt_54 (by decide) ?_
        refine jx_ldc2 (x := 4) E dX5_lotAt_55 (List.mem_cons_of_mem _ tw_405) ?_
        obtain ⟨⟨r33, v33⟩, hc33, hF⟩ := jx_bind hF
        try dsimp only at hF
        refine jx_callSi (As := [.long (Int32.toInt64 ((x0 / 5) + (0 - x2))), .long 0, .long 4]) (st := []) E dX5_lotAt_58 3 rfl (k_X5_in hI (Int32.toInt64 ((x0 / 5) + (0 - x2))) 0 4 v r33 v33 hc33) (gb_S (List.mem_cons_of_mem _ tw_323) (List.mem_cons_of_mem _ tw_324) (List.mem_cons_of_mem _ tw_325) tw_322) rfl rfl rfl dd_X5_in rfl ⟨by decide, by decide⟩ ⟨Nat.le_refl 0, Nat.le_refl 0⟩ (Nat.le_of_ble_eq_true rfl) ?_
        refine jx_if_eq (tgt := 86) E dX5_lotAt_61 (by decide) (fun hc34 => ?_) (fun hc34 => ?_)
        · rw [if_pos hc34] at hF
          refine jx_iconst (x := -1) E dX5_lotAt_86 (by decide) ?_
          obtain ⟨rfl, rfl⟩ := jx_out hF
          exact jx_iret E dX5_lotAt_87 rfl
        · rw [if_neg hc34] at hF
          refine jx_iload E dX5_lotAt_64 0 rfl ?_
          refine jx_i2l E dX5_lotAt_66 ?_
          refine jx_lconst (x := 0) E dX5_lotAt_67 (by decide) ?_
          refine jx_ldc2 (x := 4) E dX5_lotAt_68 (List.mem_cons_of_mem _ tw_405) ?_
          obtain ⟨⟨r35, v35⟩, hc35, hF⟩ := jx_bind hF
          try dsimp only at hF
          refine jx_callSi (As := [.long (Int32.toInt64 ((x0 - x0 / 5 * 5) + 0)), .long 0, .long 4]) (st := []) E dX5_lotAt_71 3 rfl (k_X5_in hI (Int32.toInt64 ((x0 - x0 / 5 * 5) + 0)) 0 4 v33 r35 v35 hc35) (gb_S (List.mem_cons_of_mem _ tw_323) (List.mem_cons_of_mem _ tw_324) (List.mem_cons_of_mem _ tw_325) tw_322) rfl rfl rfl dd_X5_in rfl ⟨by decide, by decide⟩ ⟨Nat.le_refl 0, Nat.le_refl 0⟩ (Nat.le_of_ble_eq_true rfl) ?_
          refine jx_if_eq (tgt := 86) E dX5_lotAt_74 (by decide) (fun hc36 => ?_) (fun hc36 => ?_)
          · rw [if_pos hc36] at hF
            refine jx_iconst (x := -1) E dX5_lotAt_86 (by decide) ?_
            obtain ⟨rfl, rfl⟩ := jx_out hF
            exact jx_iret E dX5_lotAt_87 rfl
          · rw [if_neg hc36] at hF
            refine jx_iconst (x := 5) E dX5_lotAt_77 (by decide) ?_
            refine jx_iload_n E dX5_lotAt_78 1 rfl ?_
            refine jx_imul E dX5_lotAt_79 ?_
            refine jx_iload E dX5_lotAt_80 0 rfl ?_
            refine jx_iadd E dX5_lotAt_82 ?_
            refine jx_goto (tgt := 87) E dX5_lotAt_83 (by decide) ?_
            obtain ⟨rfl, rfl⟩ := jx_out hF
            exact jx_iret E dX5_lotAt_87 rfl
      · rw [if_pos hc32] at hF
        refine jx_iconst (x := 0) E dX5_lotAt_42 (by decide) ?_
        refine jx_iload_n E dX5_lotAt_43 3 rfl ?_
        refine jx_isub E dX5_lotAt_44 ?_
        refine jx_goto (tgt := 49) E dX5_lotAt_45 (by decide) ?_
        refine jx_iadd E dX5_lotAt_49 ?_
        refine jx_istore (lv' := [(4, .int ((x0 - x0 / 5 * 5) + (0 - x2))), (3, .int ((x0 / 5) + (0 - x2))), (0, .int x0), (1, .int x1), (2, .int x2)]) E dX5_lotAt_50 (by decide) rfl ?_
        refine jx_iload_n E dX5_lotAt_52 1 rfl ?_
        refine jx_i2l E dX5_lotAt_53 ?_
        refine jx_lconst (x := 0) E dX5_lotAt_54 (by decide) ?_
        refine jx_ldc2 (x := 4) E dX5_lotAt_55 (List.mem_cons_of_mem _ tw_405) ?_
        obtain ⟨⟨r37, v37⟩, hc37, hF⟩ := jx_bind hF
        try dsimp only at hF
        refine jx_callSi (As := [.long (Int32.toInt64 ((x0 / 5) + (0 - x2))), .long 0, .long 4]) (st := []) E dX5_lotAt_58 3 rfl (k_X5_in hI (Int32.toInt64 ((x0 / 5) + (0 - x2))) 0 4 v r37 v37 hc37) (gb_S (List.mem_cons_of_mem _ tw_323) (List.mem_cons_of_mem _ tw_324) (List.mem_cons_of_mem _ tw_325) tw_322) rfl rfl rfl dd_X5_in rfl ⟨by decide, by decide⟩ ⟨Nat.le_refl 0, Nat.le_refl 0⟩ (Nat.le_of_ble_eq_true rfl) ?_
        refine jx_if_eq (tgt := 86) E dX5_lotAt_61 (by decide) (fun hc38 => ?_) (fun hc38 => ?_)
        · rw [if_pos hc38] at hF
          refine jx_iconst (x := -1) E dX5_lotAt_86 (by decide) ?_
          obtain ⟨rfl, rfl⟩ := jx_out hF
          exact jx_iret E dX5_lotAt_87 rfl
        · rw [if_neg hc38] at hF
          refine jx_iload E dX5_lotAt_64 0 rfl ?_
          refine jx_i2l E dX5_lotAt_66 ?_
          refine jx_lconst (x := 0) E dX5_lotAt_67 (by decide) ?_
          refine jx_ldc2 (x := 4) E dX5_lotAt_68 (List.mem_cons_of_mem _ tw_405) ?_
          obtain ⟨⟨r39, v39⟩, hc39, hF⟩ := jx_bind hF
          try dsimp only at hF
          refine jx_callSi (As := [.long (Int32.toInt64 ((x0 - x0 / 5 * 5) + (0 - x2))), .long 0, .long 4]) (st := []) E dX5_lotAt_71 3 rfl (k_X5_in hI (Int32.toInt64 ((x0 - x0 / 5 * 5) + (0 - x2))) 0 4 v37 r39 v39 hc39) (gb_S (List.mem_cons_of_mem _ tw_323) (List.mem_cons_of_mem _ tw_324) (List.mem_cons_of_mem _ tw_325) tw_322) rfl rfl rfl dd_X5_in rfl ⟨by decide, by decide⟩ ⟨Nat.le_refl 0, Nat.le_refl 0⟩ (Nat.le_of_ble_eq_true rfl) ?_
          refine jx_if_eq (tgt := 86) E dX5_lotAt_74 (by decide) (fun hc40 => ?_) (fun hc40 => ?_)
          · rw [if_pos hc40] at hF
            refine jx_iconst (x := -1) E dX5_lotAt_86 (by decide) ?_
            obtain ⟨rfl, rfl⟩ := jx_out hF
            exact jx_iret E dX5_lotAt_87 rfl
          · rw [if_neg hc40] at hF
            refine jx_iconst (x := 5) E dX5_lotAt_77 (by decide) ?_
            refine jx_iload_n E dX5_lotAt_78 1 rfl ?_
            refine jx_imul E dX5_lotAt_79 ?_
            refine jx_iload E dX5_lotAt_80 0 rfl ?_
            refine jx_iadd E dX5_lotAt_82 ?_
            refine jx_goto (tgt := 87) E dX5_lotAt_83 (by decide) ?_
            obtain ⟨rfl, rfl⟩ := jx_out hF
            exact jx_iret E dX5_lotAt_87 rfl
    · rw [if_pos hc31] at hF
      refine jx_iload_n E dX5_lotAt_33 3 rfl ?_
      refine jx_goto (tgt := 49) E dX5_lotAt_34 (by decide) ?_
      refine jx_iadd E dX5_lotAt_49 ?_
      refine jx_istore (lv' := [(4, .int ((x0 - x0 / 5 * 5) + x2)), (3, .int ((x0 / 5) + (0 - x2))), (0, .int x0), (1, .int x1), (2, .int x2)]) E dX5_lotAt_50 (by decide) rfl ?_
      refine jx_iload_n E dX5_lotAt_52 1 rfl ?_
      refine jx_i2l E dX5_lotAt_53 ?_
      refine jx_lconst (x := 0) E dX5_lotAt_54 (by decide) ?_
      refine jx_ldc2 (x := 4) E dX5_lotAt_55 (List.mem_cons_of_mem _ tw_405) ?_
      obtain ⟨⟨r41, v41⟩, hc41, hF⟩ := jx_bind hF
      try dsimp only at hF
      refine jx_callSi (As := [.long (Int32.toInt64 ((x0 / 5) + (0 - x2))), .long 0, .long 4]) (st := []) E dX5_lotAt_58 3 rfl (k_X5_in hI (Int32.toInt64 ((x0 / 5) + (0 - x2))) 0 4 v r41 v41 hc41) (gb_S (List.mem_cons_of_mem _ tw_323) (List.mem_cons_of_mem _ tw_324) (List.mem_cons_of_mem _ tw_325) tw_322) rfl rfl rfl dd_X5_in rfl ⟨by decide, by decide⟩ ⟨Nat.le_refl 0, Nat.le_refl 0⟩ (Nat.le_of_ble_eq_true rfl) ?_
      refine jx_if_eq (tgt := 86) E dX5_lotAt_61 (by decide) (fun hc42 => ?_) (fun hc42 => ?_)
      · rw [if_pos hc42] at hF
        refine jx_iconst (x := -1) E dX5_lotAt_86 (by decide) ?_
        obtain ⟨rfl, rfl⟩ := jx_out hF
        exact jx_iret E dX5_lotAt_87 rfl
      · rw [if_neg hc42] at hF
        refine jx_iload E dX5_lotAt_64 0 rfl ?_
        refine jx_i2l E dX5_lotAt_66 ?_
        refine jx_lconst (x := 0) E dX5_lotAt_67 (by decide) ?_
        refine jx_ldc2 (x := 4) E dX5_lotAt_68 (List.mem_cons_of_mem _ tw_405) ?_
        obtain ⟨⟨r43, v43⟩, hc43, hF⟩ := jx_bind hF
        try dsimp only at hF
        refine jx_callSi (As := [.long (Int32.toInt64 ((x0 - x0 / 5 * 5) + x2)), .long 0, .long 4]) (st := []) E dX5_lotAt_71 3 rfl (k_X5_in hI (Int32.toInt64 ((x0 - x0 / 5 * 5) + x2)) 0 4 v41 r43 v43 hc43) (gb_S (List.mem_cons_of_mem _ tw_323) (List.mem_cons_of_mem _ tw_324) (List.mem_cons_of_mem _ tw_325) tw_322) rfl rfl rfl dd_X5_in rfl ⟨by decide, by decide⟩ ⟨Nat.le_refl 0, Nat.le_refl 0⟩ (Nat.le_of_ble_eq_true rfl) ?_
        refine jx_if_eq (tgt := 86) E dX5_lotAt_74 (by decide) (fun hc44 => ?_) (fun hc44 => ?_)
        · rw [if_pos hc44] at hF
          refine jx_iconst (x := -1) E dX5_lotAt_86 (by decide) ?_
          obtain ⟨rfl, rfl⟩ := jx_out hF
          exact jx_iret E dX5_lotAt_87 rfl
        · rw [if_neg hc44] at hF
          refine jx_iconst (x := 5) E dX5_lotAt_77 (by decide) ?_
          refine jx_iload_n E dX5_lotAt_78 1 rfl ?_
          refine jx_imul E dX5_lotAt_79 ?_
          refine jx_iload E dX5_lotAt_80 0 rfl ?_
          refine jx_iadd E dX5_lotAt_82 ?_
          refine jx_goto (tgt := 87) E dX5_lotAt_83 (by decide) ?_
          obtain ⟨rfl, rfl⟩ := jx_out hF
          exact jx_iret E dX5_lotAt_87 rfl
