def f_X5_change (x1 : Int32) (x2 : Int32) (x3 : Int32) (v : jx_V) : Option (Int32 × jx_V) := ((f_X5_in (Int32.toInt64 x2) 0 3 v).bind (fun (r1, v1) => (if r1 = 0 then (if (-1000001 : Int32) = 0 then ((f_X5_its x1 x2 v1).bind (fun (r4, v4) => ((f_X5_at x1 x2 v4).bind (fun (r5, v5) => (if (r5 < 0 ∨ 181 ≤ Int32.toNatClampNeg r5) then none else (some (r4, (jx_up v5 1 (Int32.toNatClampNeg r5) x3)))))))) else ((f_X5_finds (-1000001) v1).bind (fun (r7, v7) => (some (r7, v7))))) else (if x2 = 0 then ((f_X5_in (Int32.toInt64 x3) 0 6 v1).bind (fun (r36, v36) => (if r36 = 0 then (if (-1000001 : Int32) = 0 then ((f_X5_its x1 x2 v36).bind (fun (r45, v45) => ((f_X5_at x1 x2 v45).bind (fun (r46, v46) => (if (r46 < 0 ∨ 181 ≤ Int32.toNatClampNeg r46) then none else (some (r45, (jx_up v46 1 (Int32.toNatClampNeg r46) x3)))))))) else ((f_X5_finds (-1000001) v36).bind (fun (r48, v48) => (some (r48, v48))))) else ((f_X5_lotWrong x1 v36).bind (fun (r38, v38) => (if r38 = 0 then ((f_X5_its x1 x2 v38).bind (fun (r40, v40) => ((f_X5_at x1 x2 v40).bind (fun (r41, v41) => (if (r41 < 0 ∨ 181 ≤ Int32.toNatClampNeg r41) then none else (some (r40, (jx_up v41 1 (Int32.toNatClampNeg r41) x3)))))))) else ((f_X5_finds r38 v38).bind (fun (r43, v43) => (some (r43, v43)))))))))) else (if x2 = 2 then ((f_X5_in (Int32.toInt64 x3) 0 9 v1).bind (fun (r23, v23) => (if r23 = 0 then (if (-1000001 : Int32) = 0 then ((f_X5_its x1 x2 v23).bind (fun (r32, v32) => ((f_X5_at x1 x2 v32).bind (fun (r33, v33) => (if (r33 < 0 ∨ 181 ≤ Int32.toNatClampNeg r33) then none else (some (r32, (jx_up v33 1 (Int32.toNatClampNeg r33) x3)))))))) else ((f_X5_finds (-1000001) v23).bind (fun (r35, v35) => (some (r35, v35))))) else ((f_X5_lotWrong x1 v23).bind (fun (r25, v25) => (if r25 = 0 then ((f_X5_its x1 x2 v25).bind (fun (r27, v27) => ((f_X5_at x1 x2 v27).bind (fun (r28, v28) => (if (r28 < 0 ∨ 181 ≤ Int32.toNatClampNeg r28) then none else (some (r27, (jx_up v28 1 (Int32.toNatClampNeg r28) x3)))))))) else ((f_X5_finds r25 v25).bind (fun (r30, v30) => (some (r30, v30)))))))))) else ((f_X5_in (Int32.toInt64 x3) 0 3 v1).bind (fun (r10, v10) => (if r10 = 0 then (if (-1000001 : Int32) = 0 then ((f_X5_its x1 x2 v10).bind (fun (r19, v19) => ((f_X5_at x1 x2 v19).bind (fun (r20, v20) => (if (r20 < 0 ∨ 181 ≤ Int32.toNatClampNeg r20) then none else (some (r19, (jx_up v20 1 (Int32.toNatClampNeg r20) x3)))))))) else ((f_X5_finds (-1000001) v10).bind (fun (r22, v22) => (some (r22, v22))))) else ((f_X5_lotWrong x1 v10).bind (fun (r12, v12) => (if r12 = 0 then ((f_X5_its x1 x2 v12).bind (fun (r14, v14) => ((f_X5_at x1 x2 v14).bind (fun (r15, v15) => (if (r15 < 0 ∨ 181 ≤ Int32.toNatClampNeg r15) then none else (some (r14, (jx_up v15 1 (Int32.toNatClampNeg r15) x3)))))))) else ((f_X5_finds r12 v12).bind (fun (r17, v17) => (some (r17, v17)))))))))))))))
def rm_X5_change : Room := { frames := 4, cells := 0, slots := 0, locals := 85 }
set_option maxHeartbeats 4000000 in
set_option maxRecDepth 100000 in
theorem k_X5_change {l : Launch} {D : va_G} {cI cJ : ClassId} {ad : Nat → Nat} {A : Nat → Prop} (hI : jx_inj 13 ad A) (x1 : Int32) (x2 : Int32) (x3 : Int32) (v : jx_V) (r : Int32) (v' : jx_V) (hF : f_X5_change x1 x2 x3 v = some (r, v')) : jx_Ci l D vwCl 13 cI cJ ad shM A ex_M yX5_change (Cond.code yX5_change cX5_change 6 (some .int) :: bigT) rm_X5_change [.ref (ad 0), .int x1, .int x2, .int x3] v r v' := by
  unfold f_X5_change at hF
  refine jx_enteri bigT RX5 cX5_change 6 (some .int) [(0, .ref (ad 0)), (1, .int x1), (2, .int x2), (3, .int x3)] hI (ex_M_ok A) (by decide +kernel) rfl (Nat.le_of_ble_eq_true rfl) rfl rfl ?_
  intro p e s m args below meth c E
  have iX5 : ∀ w ∈ u_ws RX5 TX5 21, w ∈ (Cond.code yX5_change cX5_change 6 (some .int) :: bigT) := fun w h => List.mem_cons_of_mem _ (uw_X5 w h)
  refine jx_iload_n E dX5_change_0 2 rfl ?_
  refine jx_i2l E dX5_change_1 ?_
  refine jx_lconst (x := 0) E dX5_change_2 (by decide) ?_
  refine jx_ldc2 (x := 3) E dX5_change_3 (List.mem_cons_of_mem _ tw_326) ?_
  obtain ⟨⟨r1, v1⟩, hc1, hF⟩ := jx_bind hF
  try dsimp only at hF
  refine jx_callSi (As := [.long (Int32.toInt64 x2), .long 0, .long 3]) (st := []) E dX5_change_6 3 rfl (k_X5_in hI (Int32.toInt64 x2) 0 3 v r1 v1 hc1) (gb_S (List.mem_cons_of_mem _ tw_323) (List.mem_cons_of_mem _ tw_324) (List.mem_cons_of_mem _ tw_325) tw_322) rfl rfl rfl dd_X5_in rfl ⟨by decide, by decide⟩ ⟨Nat.le_refl 0, Nat.le_refl 0⟩ (Nat.le_of_ble_eq_true rfl) ?_
  refine jx_if_eq (tgt := 45) E dX5_change_9 (by decide) (fun hc2 => ?_) (fun hc2 => ?_)
  · rw [if_pos hc2] at hF
    refine jx_ldc (x := -1000001) E dX5_change_45 (List.mem_cons_of_mem _ tw_320) ?_
    refine jx_goto (tgt := 55) E dX5_change_47 (by decide) ?_
    refine jx_istore (lv' := [(4, .int (-1000001)), (0, .ref (ad 0)), (1, .int x1), (2, .int x2), (3, .int x3)]) E dX5_change_55 (by decide) rfl ?_
    refine jx_iload E dX5_change_57 0 rfl ?_
    refine jx_if_eq (tgt := 69) E dX5_change_59 (by decide) (fun hc3 => ?_) (fun hc3 => ?_)
    · rw [if_pos hc3] at hF
      refine jx_aload_n E dX5_change_69 1 rfl ?_
      refine jx_iload_n E dX5_change_70 2 rfl ?_
      refine jx_iload_n E dX5_change_71 3 rfl ?_
      obtain ⟨⟨r4, v4⟩, hc4, hF⟩ := jx_bind hF
      try dsimp only at hF
      refine jx_callVi (As := [.int x1, .int x2]) (st := []) (h := 0) E dX5_change_72 2 rfl (k_X5_its hI x1 x2 v1 r4 v4 hc4) (gb_V (List.mem_cons_of_mem _ tw_335) (List.mem_cons_of_mem _ tw_336) (List.mem_cons_of_mem _ tw_337) (List.mem_cons_of_mem _ tw_325) tw_334) rfl rfl rfl dd_X5_its rfl (Nat.le_of_ble_eq_true rfl) s_M0 rfl ⟨by decide, by decide⟩ ⟨Nat.le_refl 0, Nat.le_refl 0⟩ (Nat.le_of_ble_eq_true rfl) ?_
      refine jx_istore (lv' := [(5, .int r4), (4, .int (-1000001)), (0, .ref (ad 0)), (1, .int x1), (2, .int x2), (3, .int x3)]) E dX5_change_75 (by decide) rfl ?_
      refine jx_aload_n E dX5_change_77 2 rfl ?_
      refine jx_getr (C := RX5) (T := TX5) (M := 21) (k := 0) E dX5_change_78 (Nat.le_of_ble_eq_true rfl) s_M0 rfl iX5 (by decide) rfl (List.mem_cons_of_mem _ tw_328) rfl ?_
      refine jx_iload_n E dX5_change_81 3 rfl ?_
      refine jx_iload_n E dX5_change_82 4 rfl ?_
      obtain ⟨⟨r5, v5⟩, hc5, hF⟩ := jx_bind hF
      try dsimp only at hF
      refine jx_callSi (As := [.int x1, .int x2]) (st := [.ref (ad 1)]) E dX5_change_83 2 rfl (k_X5_at hI x1 x2 v4 r5 v5 hc5) (gb_S (List.mem_cons_of_mem _ tw_332) (List.mem_cons_of_mem _ tw_333) (List.mem_cons_of_mem _ tw_325) tw_331) rfl rfl rfl dd_X5_at rfl ⟨by decide, by decide⟩ ⟨Nat.le_refl 0, Nat.le_refl 0⟩ (Nat.le_of_ble_eq_true rfl) ?_
      refine jx_iload_n E dX5_change_86 5 rfl ?_
      obtain ⟨hg6, hF⟩ := jx_guard hF
      refine jx_iast (h := 1) (j := (Int32.toNatClampNeg r5)) E dX5_change_87 (Nat.le_of_ble_eq_true rfl) s_M1 hg6 rfl ?_
      refine jx_iload E dX5_change_88 0 rfl ?_
      obtain ⟨rfl, rfl⟩ := jx_out hF
      exact jx_iret E dX5_change_90 rfl
    · rw [if_neg hc3] at hF
      refine jx_aload_n E dX5_change_62 1 rfl ?_
      refine jx_iload E dX5_change_63 0 rfl ?_
      obtain ⟨⟨r7, v7⟩, hc7, hF⟩ := jx_bind hF
      try dsimp only at hF
      refine jx_callVi (As := [.int (-1000001)]) (st := []) (h := 0) E dX5_change_65 1 rfl (k_X5_finds hI (-1000001) v1 r7 v7 hc7) (gb_V (List.mem_cons_of_mem _ tw_344) (List.mem_cons_of_mem _ tw_345) (List.mem_cons_of_mem _ tw_346) (List.mem_cons_of_mem _ tw_325) tw_343) rfl rfl rfl dd_X5_finds rfl (Nat.le_of_ble_eq_true rfl) s_M0 rfl ⟨by decide, by decide⟩ ⟨Nat.le_refl 0, Nat.le_refl 0⟩ (Nat.le_of_ble_eq_true rfl) ?_
      obtain ⟨rfl, rfl⟩ := jx_out hF
      exact jx_iret E dX5_change_68 rfl
  · rw [if_neg hc2] at hF
    refine jx_iload_n E dX5_change_12 3 rfl ?_
    refine jx_i2l E dX5_change_13 ?_
    refine jx_lconst (x := 0) E dX5_change_14 (by decide) ?_
    refine jx_iload_n E dX5_change_15 2 rfl ?_
    refine jx_if_ne (tgt := 25) E dX5_change_16 (by decide) (fun hc8 => ?_) (fun hc8 => ?_)
    · rw [if_neg hc8] at hF
      refine jx_iload_n E dX5_change_25 2 rfl ?_
      refine jx_iconst (x := 2) E dX5_change_26 (by decide) ?_
      refine jx_icmp_ne (tgt := 36) E dX5_change_27 (by decide) (fun hc9 => ?_) (fun hc9 => ?_)
      · rw [if_neg hc9] at hF
        refine jx_ldc2 (x := 3) E dX5_change_36 (List.mem_cons_of_mem _ tw_326) ?_
        obtain ⟨⟨r10, v10⟩, hc10, hF⟩ := jx_bind hF
        try dsimp only at hF
        refine jx_callSi (As := [.long (Int32.toInt64 x3), .long 0, .long 3]) (st := []) E dX5_change_39 3 rfl (k_X5_in hI (Int32.toInt64 x3) 0 3 v1 r10 v10 hc10) (gb_S (List.mem_cons_of_mem _ tw_323) (List.mem_cons_of_mem _ tw_324) (List.mem_cons_of_mem _ tw_325) tw_322) rfl rfl rfl dd_X5_in rfl ⟨by decide, by decide⟩ ⟨Nat.le_refl 0, Nat.le_refl 0⟩ (Nat.le_of_ble_eq_true rfl) ?_
        refine jx_if_ne (tgt := 50) E dX5_change_42 (by decide) (fun hc11 => ?_) (fun hc11 => ?_)
        · rw [if_neg hc11] at hF
          refine jx_aload_n E dX5_change_50 0 rfl ?_
          refine jx_iload_n E dX5_change_51 1 rfl ?_
          obtain ⟨⟨r12, v12⟩, hc12, hF⟩ := jx_bind hF
          try dsimp only at hF
          refine jx_callVi (As := [.int x1]) (st := []) (h := 0) E dX5_change_52 1 rfl (k_X5_lotWrong hI x1 v10 r12 v12 hc12) (gb_V (List.mem_cons_of_mem _ tw_367) (List.mem_cons_of_mem _ tw_368) (List.mem_cons_of_mem _ tw_369) (List.mem_cons_of_mem _ tw_325) tw_366) rfl rfl rfl dd_X5_lotWrong rfl (Nat.le_of_ble_eq_true rfl) s_M0 rfl ⟨by decide, by decide⟩ ⟨Nat.le_refl 0, Nat.le_refl 0⟩ (Nat.le_of_ble_eq_true rfl) ?_
          refine jx_istore (lv' := [(4, .int r12), (0, .ref (ad 0)), (1, .int x1), (2, .int x2), (3, .int x3)]) E dX5_change_55 (by decide) rfl ?_
          refine jx_iload E dX5_change_57 0 rfl ?_
          refine jx_if_eq (tgt := 69) E dX5_change_59 (by decide) (fun hc13 => ?_) (fun hc13 => ?_)
          · rw [if_pos hc13] at hF
            refine jx_aload_n E dX5_change_69 1 rfl ?_
            refine jx_iload_n E dX5_change_70 2 rfl ?_
            refine jx_iload_n E dX5_change_71 3 rfl ?_
            obtain ⟨⟨r14, v14⟩, hc14, hF⟩ := jx_bind hF
            try dsimp only at hF
            refine jx_callVi (As := [.int x1, .int x2]) (st := []) (h := 0) E dX5_change_72 2 rfl (k_X5_its hI x1 x2 v12 r14 v14 hc14) (gb_V (List.mem_cons_of_mem _ tw_335) (List.mem_cons_of_mem _ tw_336) (List.mem_cons_of_mem _ tw_337) (List.mem_cons_of_mem _ tw_325) tw_334) rfl rfl rfl dd_X5_its rfl (Nat.le_of_ble_eq_true rfl) s_M0 rfl ⟨by decide, by decide⟩ ⟨Nat.le_refl 0, Nat.le_refl 0⟩ (Nat.le_of_ble_eq_true rfl) ?_
            refine jx_istore (lv' := [(5, .int r14), (4, .int r12), (0, .ref (ad 0)), (1, .int x1), (2, .int x2), (3, .int x3)]) E dX5_change_75 (by decide) rfl ?_
            refine jx_aload_n E dX5_change_77 2 rfl ?_
            refine jx_getr (C := RX5) (T := TX5) (M := 21) (k := 0) E dX5_change_78 (Nat.le_of_ble_eq_true rfl) s_M0 rfl iX5 (by decide) rfl (List.mem_cons_of_mem _ tw_328) rfl ?_
            refine jx_iload_n E dX5_change_81 3 rfl ?_
            refine jx_iload_n E dX5_change_82 4 rfl ?_
            obtain ⟨⟨r15, v15⟩, hc15, hF⟩ := jx_bind hF
            try dsimp only at hF
            refine jx_callSi (As := [.int x1, .int x2]) (st := [.ref (ad 1)]) E dX5_change_83 2 rfl (k_X5_at hI x1 x2 v14 r15 v15 hc15) (gb_S (List.mem_cons_of_mem _ tw_332) (List.mem_cons_of_mem _ tw_333) (List.mem_cons_of_mem _ tw_325) tw_331) rfl rfl rfl dd_X5_at rfl ⟨by decide, by decide⟩ ⟨Nat.le_refl 0, Nat.le_refl 0⟩ (Nat.le_of_ble_eq_true rfl) ?_
            refine jx_iload_n E dX5_change_86 5 rfl ?_
            obtain ⟨hg16, hF⟩ := jx_guard hF
            refine jx_iast (h := 1) (j := (Int32.toNatClampNeg r15)) E dX5_change_87 (Nat.le_of_ble_eq_true rfl) s_M1 hg16 rfl ?_
            refine jx_iload E dX5_change_88 0 rfl ?_
            obtain ⟨rfl, rfl⟩ := jx_out hF
            exact jx_iret E dX5_change_90 rfl
          · rw [if_neg hc13] at hF
            refine jx_aload_n E dX5_change_62 1 rfl ?_
            refine jx_iload E dX5_change_63 0 rfl ?_
            obtain ⟨⟨r17, v17⟩, hc17, hF⟩ := jx_bind hF
            try dsimp only at hF
            refine jx_callVi (As := [.int r12]) (st := []) (h := 0) E dX5_change_65 1 rfl (k_X5_finds hI r12 v12 r17 v17 hc17) (gb_V (List.mem_cons_of_mem _ tw_344) (List.mem_cons_of_mem _ tw_345) (List.mem_cons_of_mem _ tw_346) (List.mem_cons_of_mem _ tw_325) tw_343) rfl rfl rfl dd_X5_finds rfl (Nat.le_of_ble_eq_true rfl) s_M0 rfl ⟨by decide, by decide⟩ ⟨Nat.le_refl 0, Nat.le_refl 0⟩ (Nat.le_of_ble_eq_true rfl) ?_
            obtain ⟨rfl, rfl⟩ := jx_out hF
            exact jx_iret E dX5_change_68 rfl
        · rw [if_pos hc11] at hF
          refine jx_ldc (x := -1000001) E dX5_change_45 (List.mem_cons_of_mem _ tw_320) ?_
          refine jx_goto (tgt := 55) E dX5_change_47 (by decide) ?_
          refine jx_istore (lv' := [(4, .int (-1000001)), (0, .ref (ad 0)), (1, .int x1), (2, .int x2), (3, .int x3)]) E dX5_change_55 (by decide) rfl ?_
          refine jx_iload E dX5_change_57 0 rfl ?_
          refine jx_if_eq (tgt := 69) E dX5_change_59 (by decide) (fun hc18 => ?_) (fun hc18 => ?_)
          · rw [if_pos hc18] at hF
            refine jx_aload_n E dX5_change_69 1 rfl ?_
            refine jx_iload_n E dX5_change_70 2 rfl ?_
            refine jx_iload_n E dX5_change_71 3 rfl ?_
            obtain ⟨⟨r19, v19⟩, hc19, hF⟩ := jx_bind hF
            try dsimp only at hF
            refine jx_callVi (As := [.int x1, .int x2]) (st := []) (h := 0) E dX5_change_72 2 rfl (k_X5_its hI x1 x2 v10 r19 v19 hc19) (gb_V (List.mem_cons_of_mem _ tw_335) (List.mem_cons_of_mem _ tw_336) (List.mem_cons_of_mem _ tw_337) (List.mem_cons_of_mem _ tw_325) tw_334) rfl rfl rfl dd_X5_its rfl (Nat.le_of_ble_eq_true rfl) s_M0 rfl ⟨by decide, by decide⟩ ⟨Nat.le_refl 0, Nat.le_refl 0⟩ (Nat.le_of_ble_eq_true rfl) ?_
            refine jx_istore (lv' := [(5, .int r19), (4, .int (-1000001)), (0, .ref (ad 0)), (1, .int x1), (2, .int x2), (3, .int x3)]) E dX5_change_75 (by decide) rfl ?_
            refine jx_aload_n E dX5_change_77 2 rfl ?_
            refine jx_getr (C := RX5) (T := TX5) (M := 21) (k := 0) E dX5_change_78 (Nat.le_of_ble_eq_true rfl) s_M0 rfl iX5 (by decide) rfl (List.mem_cons_of_mem _ tw_328) rfl ?_
            refine jx_iload_n E dX5_change_81 3 rfl ?_
            refine jx_iload_n E dX5_change_82 4 rfl ?_
            obtain ⟨⟨r20, v20⟩, hc20, hF⟩ := jx_bind hF
            try dsimp only at hF
            refine jx_callSi (As := [.int x1, .int x2]) (st := [.ref (ad 1)]) E dX5_change_83 2 rfl (k_X5_at hI x1 x2 v19 r20 v20 hc20) (gb_S (List.mem_cons_of_mem _ tw_332) (List.mem_cons_of_mem _ tw_333) (List.mem_cons_of_mem _ tw_325) tw_331) rfl rfl rfl dd_X5_at rfl ⟨by decide, by decide⟩ ⟨Nat.le_refl 0, Nat.le_refl 0⟩ (Nat.le_of_ble_eq_true rfl) ?_
            refine jx_iload_n E dX5_change_86 5 rfl ?_
            obtain ⟨hg21, hF⟩ := jx_guard hF
            refine jx_iast (h := 1) (j := (Int32.toNatClampNeg r20)) E dX5_change_87 (Nat.le_of_ble_eq_true rfl) s_M1 hg21 rfl ?_
            refine jx_iload E dX5_change_88 0 rfl ?_
            obtain ⟨rfl, rfl⟩ := jx_out hF
            exact jx_iret E dX5_change_90 rfl
          · rw [if_neg hc18] at hF
            refine jx_aload_n E dX5_change_62 1 rfl ?_
            refine jx_iload E dX5_change_63 0 rfl ?_
            obtain ⟨⟨r22, v22⟩, hc22, hF⟩ := jx_bind hF
            try dsimp only at hF
            refine jx_callVi (As := [.int (-1000001)]) (st := []) (h := 0) E dX5_change_65 1 rfl (k_X5_finds hI (-1000001) v10 r22 v22 hc22) (gb_V (List.mem_cons_of_mem _ tw_344) (List.mem_cons_of_mem _ tw_345) (List.mem_cons_of_mem _ tw_346) (List.mem_cons_of_mem _ tw_325) tw_343) rfl rfl rfl dd_X5_finds rfl (Nat.le_of_ble_eq_true rfl) s_M0 rfl ⟨by decide, by decide⟩ ⟨Nat.le_refl 0, Nat.le_refl 0⟩ (Nat.le_of_ble_eq_true rfl) ?_
            obtain ⟨rfl, rfl⟩ := jx_out hF
            exact jx_iret E dX5_change_68 rfl
      · rw [if_pos hc9] at hF
        refine jx_ldc2 (x := 9) E dX5_change_30 (List.mem_cons_of_mem _ tw_327) ?_
        refine jx_goto (tgt := 39) E dX5_change_33 (by decide) ?_
        obtain ⟨⟨r23, v23⟩, hc23, hF⟩ := jx_bind hF
        try dsimp only at hF
        refine jx_callSi (As := [.long (Int32.toInt64 x3), .long 0, .long 9]) (st := []) E dX5_change_39 3 rfl (k_X5_in hI (Int32.toInt64 x3) 0 9 v1 r23 v23 hc23) (gb_S (List.mem_cons_of_mem _ tw_323) (List.mem_cons_of_mem _ tw_324) (List.mem_cons_of_mem _ tw_325) tw_322) rfl rfl rfl dd_X5_in rfl ⟨by decide, by decide⟩ ⟨Nat.le_refl 0, Nat.le_refl 0⟩ (Nat.le_of_ble_eq_true rfl) ?_
        refine jx_if_ne (tgt := 50) E dX5_change_42 (by decide) (fun hc24 => ?_) (fun hc24 => ?_)
        · rw [if_neg hc24] at hF
          refine jx_aload_n E dX5_change_50 0 rfl ?_
          refine jx_iload_n E dX5_change_51 1 rfl ?_
          obtain ⟨⟨r25, v25⟩, hc25, hF⟩ := jx_bind hF
          try dsimp only at hF
          refine jx_callVi (As := [.int x1]) (st := []) (h := 0) E dX5_change_52 1 rfl (k_X5_lotWrong hI x1 v23 r25 v25 hc25) (gb_V (List.mem_cons_of_mem _ tw_367) (List.mem_cons_of_mem _ tw_368) (List.mem_cons_of_mem _ tw_369) (List.mem_cons_of_mem _ tw_325) tw_366) rfl rfl rfl dd_X5_lotWrong rfl (Nat.le_of_ble_eq_true rfl) s_M0 rfl ⟨by decide, by decide⟩ ⟨Nat.le_refl 0, Nat.le_refl 0⟩ (Nat.le_of_ble_eq_true rfl) ?_
          refine jx_istore (lv' := [(4, .int r25), (0, .ref (ad 0)), (1, .int x1), (2, .int x2), (3, .int x3)]) E dX5_change_55 (by decide) rfl ?_
          refine jx_iload E dX5_change_57 0 rfl ?_
          refine jx_if_eq (tgt := 69) E dX5_change_59 (by decide) (fun hc26 => ?_) (fun hc26 => ?_)
          · rw [if_pos hc26] at hF
            refine jx_aload_n E dX5_change_69 1 rfl ?_
            refine jx_iload_n E dX5_change_70 2 rfl ?_
            refine jx_iload_n E dX5_change_71 3 rfl ?_
            obtain ⟨⟨r27, v27⟩, hc27, hF⟩ := jx_bind hF
            try dsimp only at hF
            refine jx_callVi (As := [.int x1, .int x2]) (st := []) (h := 0) E dX5_change_72 2 rfl (k_X5_its hI x1 x2 v25 r27 v27 hc27) (gb_V (List.mem_cons_of_mem _ tw_335) (List.mem_cons_of_mem _ tw_336) (List.mem_cons_of_mem _ tw_337) (List.mem_cons_of_mem _ tw_325) tw_334) rfl rfl rfl dd_X5_its rfl (Nat.le_of_ble_eq_true rfl) s_M0 rfl ⟨by decide, by decide⟩ ⟨Nat.le_refl 0, Nat.le_refl 0⟩ (Nat.le_of_ble_eq_true rfl) ?_
            refine jx_istore (lv' := [(5, .int r27), (4, .int r25), (0, .ref (ad 0)), (1, .int x1), (2, .int x2), (3, .int x3)]) E dX5_change_75 (by decide) rfl ?_
            refine jx_aload_n E dX5_change_77 2 rfl ?_
            refine jx_getr (C := RX5) (T := TX5) (M := 21) (k := 0) E dX5_change_78 (Nat.le_of_ble_eq_true rfl) s_M0 rfl iX5 (by decide) rfl (List.mem_cons_of_mem _ tw_328) rfl ?_
            refine jx_iload_n E dX5_change_81 3 rfl ?_
            refine jx_iload_n E dX5_change_82 4 rfl ?_
            obtain ⟨⟨r28, v28⟩, hc28, hF⟩ := jx_bind hF
            try dsimp only at hF
            refine jx_callSi (As := [.int x1, .int x2]) (st := [.ref (ad 1)]) E dX5_change_83 2 rfl (k_X5_at hI x1 x2 v27 r28 v28 hc28) (gb_S (List.mem_cons_of_mem _ tw_332) (List.mem_cons_of_mem _ tw_333) (List.mem_cons_of_mem _ tw_325) tw_331) rfl rfl rfl dd_X5_at rfl ⟨by decide, by decide⟩ ⟨Nat.le_refl 0, Nat.le_refl 0⟩ (Nat.le_of_ble_eq_true rfl) ?_
            refine jx_iload_n E dX5_change_86 5 rfl ?_
            obtain ⟨hg29, hF⟩ := jx_guard hF
            refine jx_iast (h := 1) (j := (Int32.toNatClampNeg r28)) E dX5_change_87 (Nat.le_of_ble_eq_true rfl) s_M1 hg29 rfl ?_
            refine jx_iload E dX5_change_88 0 rfl ?_
            obtain ⟨rfl, rfl⟩ := jx_out hF
            exact jx_iret E dX5_change_90 rfl
          · rw [if_neg hc26] at hF
            refine jx_aload_n E dX5_change_62 1 rfl ?_
            refine jx_iload E dX5_change_63 0 rfl ?_
            obtain ⟨⟨r30, v30⟩, hc30, hF⟩ := jx_bind hF
            try dsimp only at hF
            refine jx_callVi (As := [.int r25]) (st := []) (h := 0) E dX5_change_65 1 rfl (k_X5_finds hI r25 v25 r30 v30 hc30) (gb_V (List.mem_cons_of_mem _ tw_344) (List.mem_cons_of_mem _ tw_345) (List.mem_cons_of_mem _ tw_346) (List.mem_cons_of_mem _ tw_325) tw_343) rfl rfl rfl dd_X5_finds rfl (Nat.le_of_ble_eq_true rfl) s_M0 rfl ⟨by decide, by decide⟩ ⟨Nat.le_refl 0, Nat.le_refl 0⟩ (Nat.le_of_ble_eq_true rfl) ?_
            obtain ⟨rfl, rfl⟩ := jx_out hF
            exact jx_iret E dX5_change_68 rfl
        · rw [if_pos hc24] at hF
          refine jx_ldc (x := -1000001) E dX5_change_45 (List.mem_cons_of_mem _ tw_320) ?_
          refine jx_goto (tgt := 55) E dX5_change_47 (by decide) ?_
          refine jx_istore (lv' := [(4, .int (-1000001)), (0, .ref (ad 0)), (1, .int x1), (2, .int x2), (3, .int x3)]) E dX5_change_55 (by decide) rfl ?_
          refine jx_iload E dX5_change_57 0 rfl ?_
          refine jx_if_eq (tgt := 69) E dX5_change_59 (by decide) (fun hc31 => ?_) (fun hc31 => ?_)
          · rw [if_pos hc31] at hF
            refine jx_aload_n E dX5_change_69 1 rfl ?_
            refine jx_iload_n E dX5_change_70 2 rfl ?_
            refine jx_iload_n E dX5_change_71 3 rfl ?_
            obtain ⟨⟨r32, v32⟩, hc32, hF⟩ := jx_bind hF
            try dsimp only at hF
            refine jx_callVi (As := [.int x1, .int x2]) (st := []) (h := 0) E dX5_change_72 2 rfl (k_X5_its hI x1 x2 v23 r32 v32 hc32) (gb_V (List.mem_cons_of_mem _ tw_335) (List.mem_cons_of_mem _ tw_336) (List.mem_cons_of_mem _ tw_337) (List.mem_cons_of_mem _ tw_325) tw_334) rfl rfl rfl dd_X5_its rfl (Nat.le_of_ble_eq_true rfl) s_M0 rfl ⟨by decide, by decide⟩ ⟨Nat.le_refl 0, Nat.le_refl 0⟩ (Nat.le_of_ble_eq_true rfl) ?_
            refine jx_istore (lv' := [(5, .int r32), (4, .int (-1000001)), (0, .ref (ad 0)), (1, .int x1), (2, .int x2), (3, .int x3)]) E dX5_change_75 (by decide) rfl ?_
            refine jx_aload_n E dX5_change_77 2 rfl ?_
            refine jx_getr (C := RX5) (T := TX5) (M := 21) (k := 0) E dX5_change_78 (Nat.le_of_ble_eq_true rfl) s_M0 rfl iX5 (by decide) rfl (List.mem_cons_of_mem _ tw_328) rfl ?_
            refine jx_iload_n E dX5_change_81 3 rfl ?_
            refine jx_iload_n E dX5_change_82 4 rfl ?_
            obtain ⟨⟨r33, v33⟩, hc33, hF⟩ := jx_bind hF
            try dsimp only at hF
            refine jx_callSi (As := [.int x1, .int x2]) (st := [.ref (ad 1)]) E dX5_change_83 2 rfl (k_X5_at hI x1 x2 v32 r33 v33 hc33) (gb_S (List.mem_cons_of_mem _ tw_332) (List.mem_cons_of_mem _ tw_333) (List.mem_cons_of_mem _ tw_325) tw_331) rfl rfl rfl dd_X5_at rfl ⟨by decide, by decide⟩ ⟨Nat.le_refl 0, Nat.le_refl 0⟩ (Nat.le_of_ble_eq_true rfl) ?_
            refine jx_iload_n E dX5_change_86 5 rfl ?_
            obtain ⟨hg34, hF⟩ := jx_guard hF
            refine jx_iast (h := 1) (j := (Int32.toNatClampNeg r33)) E dX5_change_87 (Nat.le_of_ble_eq_true rfl) s_M1 hg34 rfl ?_
            refine jx_iload E dX5_change_88 0 rfl ?_
            obtain ⟨rfl, rfl⟩ := jx_out hF
            exact jx_iret E dX5_change_90 rfl
          · rw [if_neg hc31] at hF
            refine jx_aload_n E dX5_change_62 1 rfl ?_
            refine jx_iload E dX5_change_63 0 rfl ?_
            obtain ⟨⟨r35, v35⟩, hc35, hF⟩ := jx_bind hF
            try dsimp only at hF
            refine jx_callVi (As := [.int (-1000001)]) (st := []) (h := 0) E dX5_change_65 1 rfl (k_X5_finds hI (-1000001) v23 r35 v35 hc35) (gb_V (List.mem_cons_of_mem _ tw_344) (List.mem_cons_of_mem _ tw_345) (List.mem_cons_of_mem _ tw_346) (List.mem_cons_of_mem _ tw_325) tw_343) rfl rfl rfl dd_X5_finds rfl (Nat.le_of_ble_eq_true rfl) s_M0 rfl ⟨by decide, by decide⟩ ⟨Nat.le_refl 0, Nat.le_refl 0⟩ (Nat.le_of_ble_eq_true rfl) ?_
            obtain ⟨rfl, rfl⟩ := jx_out hF
            exact jx_iret E dX5_change_68 rfl
    · rw [if_pos hc8] at hF
      refine jx_ldc2 (x := 6) E dX5_change_19 (List.mem_cons_of_mem _ tw_342) ?_
      refine jx_goto (tgt := 39) E dX5_change_22 (by decide) ?_
      obtain ⟨⟨r36, v36⟩, hc36, hF⟩ := jx_bind hF
      try dsimp only at hF
      refine jx_callSi (As := [.long (Int32.toInt64 x3), .long 0, .long 6]) (st := []) E dX5_change_39 3 rfl (k_X5_in hI (Int32.toInt64 x3) 0 6 v1 r36 v36 hc36) (gb_S (List.mem_cons_of_mem _ tw_323) (List.mem_cons_of_mem _ tw_324) (List.mem_cons_of_mem _ tw_325) tw_322) rfl rfl rfl dd_X5_in rfl ⟨by decide, by decide⟩ ⟨Nat.le_refl 0, Nat.le_refl 0⟩ (Nat.le_of_ble_eq_true rfl) ?_
      refine jx_if_ne (tgt := 50) E dX5_change_42 (by decide) (fun hc37 => ?_) (fun hc37 => ?_)
      · rw [if_neg hc37] at hF
        refine jx_aload_n E dX5_change_50 0 rfl ?_
        refine jx_iload_n E dX5_change_51 1 rfl ?_
        obtain ⟨⟨r38, v38⟩, hc38, hF⟩ := jx_bind hF
        try dsimp only at hF
        refine jx_callVi (As := [.int x1]) (st := []) (h := 0) E dX5_change_52 1 rfl (k_X5_lotWrong hI x1 v36 r38 v38 hc38) (gb_V (List.mem_cons_of_mem _ tw_367) (List.mem_cons_of_mem _ tw_368) (List.mem_cons_of_mem _ tw_369) (List.mem_cons_of_mem _ tw_325) tw_366) rfl rfl rfl dd_X5_lotWrong rfl (Nat.le_of_ble_eq_true rfl) s_M0 rfl ⟨by decide, by decide⟩ ⟨Nat.le_refl 0, Nat.le_refl 0⟩ (Nat.le_of_ble_eq_true rfl) ?_
        refine jx_istore (lv' := [(4, .int r38), (0, .ref (ad 0)), (1, .int x1), (2, .int x2), (3, .int x3)]) E dX5_change_55 (by decide) rfl ?_
        refine jx_iload E dX5_change_57 0 rfl ?_
        refine jx_if_eq (tgt := 69) E dX5_change_59 (by decide) (fun hc39 => ?_) (fun hc39 => ?_)
        · rw [if_pos hc39] at hF
          refine jx_aload_n E dX5_change_69 1 rfl ?_
          refine jx_iload_n E dX5_change_70 2 rfl ?_
          refine jx_iload_n E dX5_change_71 3 rfl ?_
          obtain ⟨⟨r40, v40⟩, hc40, hF⟩ := jx_bind hF
          try dsimp only at hF
          refine jx_callVi (As := [.int x1, .int x2]) (st := []) (h := 0) E dX5_change_72 2 rfl (k_X5_its hI x1 x2 v38 r40 v40 hc40) (gb_V (List.mem_cons_of_mem _ tw_335) (List.mem_cons_of_mem _ tw_336) (List.mem_cons_of_mem _ tw_337) (List.mem_cons_of_mem _ tw_325) tw_334) rfl rfl rfl dd_X5_its rfl (Nat.le_of_ble_eq_true rfl) s_M0 rfl ⟨by decide, by decide⟩ ⟨Nat.le_refl 0, Nat.le_refl 0⟩ (Nat.le_of_ble_eq_true rfl) ?_
          refine jx_istore (lv' := [(5, .int r40), (4, .int r38), (0, .ref (ad 0)), (1, .int x1), (2, .int x2), (3, .int x3)]) E dX5_change_75 (by decide) rfl ?_
          refine jx_aload_n E dX5_change_77 2 rfl ?_
          refine jx_getr (C := RX5) (T := TX5) (M := 21) (k := 0) E dX5_change_78 (Nat.le_of_ble_eq_true rfl) s_M0 rfl iX5 (by decide) rfl (List.mem_cons_of_mem _ tw_328) rfl ?_
          refine jx_iload_n E dX5_change_81 3 rfl ?_
          refine jx_iload_n E dX5_change_82 4 rfl ?_
          obtain ⟨⟨r41, v41⟩, hc41, hF⟩ := jx_bind hF
          try dsimp only at hF
          refine jx_callSi (As := [.int x1, .int x2]) (st := [.ref (ad 1)]) E dX5_change_83 2 rfl (k_X5_at hI x1 x2 v40 r41 v41 hc41) (gb_S (List.mem_cons_of_mem _ tw_332) (List.mem_cons_of_mem _ tw_333) (List.mem_cons_of_mem _ tw_325) tw_331) rfl rfl rfl dd_X5_at rfl ⟨by decide, by decide⟩ ⟨Nat.le_refl 0, Nat.le_refl 0⟩ (Nat.le_of_ble_eq_true rfl) ?_
          refine jx_iload_n E dX5_change_86 5 rfl ?_
          obtain ⟨hg42, hF⟩ := jx_guard hF
          refine jx_iast (h := 1) (j := (Int32.toNatClampNeg r41)) E dX5_change_87 (Nat.le_of_ble_eq_true rfl) s_M1 hg42 rfl ?_
          refine jx_iload E dX5_change_88 0 rfl ?_
          obtain ⟨rfl, rfl⟩ := jx_out hF
          exact jx_iret E dX5_change_90 rfl
        · rw [if_neg hc39] at hF
          refine jx_aload_n E dX5_change_62 1 rfl ?_
          refine jx_iload E dX5_change_63 0 rfl ?_
          obtain ⟨⟨r43, v43⟩, hc43, hF⟩ := jx_bind hF
          try dsimp only at hF
          refine jx_callVi (As := [.int r38]) (st := []) (h := 0) E dX5_change_65 1 rfl (k_X5_finds hI r38 v38 r43 v43 hc43) (gb_V (List.mem_cons_of_mem _ tw_344) (List.mem_cons_of_mem _ tw_345) (List.mem_cons_of_mem _ tw_346) (List.mem_cons_of_mem _ tw_325) tw_343) rfl rfl rfl dd_X5_finds rfl (Nat.le_of_ble_eq_true rfl) s_M0 rfl ⟨by decide, by decide⟩ ⟨Nat.le_refl 0, Nat.le_refl 0⟩ (Nat.le_of_ble_eq_true rfl) ?_
          obtain ⟨rfl, rfl⟩ := jx_out hF
          exact jx_iret E dX5_change_68 rfl
      · rw [if_pos hc37] at hF
        refine jx_ldc (x := -1000001) E dX5_change_45 (List.mem_cons_of_mem _ tw_320) ?_
        refine jx_goto (tgt := 55) E dX5_change_47 (by decide) ?_
        refine jx_istore (lv' := [(4, .int (-1000001)), (0, .ref (ad 0)), (1, .int x1), (2, .int x2), (3, .int x3)]) E dX5_change_55 (by decide) rfl ?_
        refine jx_iload E dX5_change_57 0 rfl ?_
        refine jx_if_eq (tgt := 69) E dX5_change_59 (by decide) (fun hc44 => ?_) (fun hc44 => ?_)
        · rw [if_pos hc44] at hF
          refine jx_aload_n E dX5_change_69 1 rfl ?_
          refine jx_iload_n E dX5_change_70 2 rfl ?_
          refine jx_iload_n E dX5_change_71 3 rfl ?_
          obtain ⟨⟨r45, v45⟩, hc45, hF⟩ := jx_bind hF
          try dsimp only at hF
          refine jx_callVi (As := [.int x1, .int x2]) (st := []) (h := 0) E dX5_change_72 2 rfl (k_X5_its hI x1 x2 v36 r45 v45 hc45) (gb_V (List.mem_cons_of_mem _ tw_335) (List.mem_cons_of_mem _ tw_336) (List.mem_cons_of_mem _ tw_337) (List.mem_cons_of_mem _ tw_325) tw_334) rfl rfl rfl dd_X5_its rfl (Nat.le_of_ble_eq_true rfl) s_M0 rfl ⟨by decide, by decide⟩ ⟨Nat.le_refl 0, Nat.le_refl 0⟩ (Nat.le_of_ble_eq_true rfl) ?_
          refine jx_istore (lv' := [(5, .int r45), (4, .int (-1000001)), (0, .ref (ad 0)), (1, .int x1), (2, .int x2), (3, .int x3)]) E dX5_change_75 (by decide) rfl ?_
          refine jx_aload_n E dX5_change_77 2 rfl ?_
          refine jx_getr (C := RX5) (T := TX5) (M := 21) (k := 0) E dX5_change_78 (Nat.le_of_ble_eq_true rfl) s_M0 rfl iX5 (by decide) rfl (List.mem_cons_of_mem _ tw_328) rfl ?_
          refine jx_iload_n E dX5_change_81 3 rfl ?_
          refine jx_iload_n E dX5_change_82 4 rfl ?_
          obtain ⟨⟨r46, v46⟩, hc46, hF⟩ := jx_bind hF
          try dsimp only at hF
          refine jx_callSi (As := [.int x1, .int x2]) (st := [.ref (ad 1)]) E dX5_change_83 2 rfl (k_X5_at hI x1 x2 v45 r46 v46 hc46) (gb_S (List.mem_cons_of_mem _ tw_332) (List.mem_cons_of_mem _ tw_333) (List.mem_cons_of_mem _ tw_325) tw_331) rfl rfl rfl dd_X5_at rfl ⟨by decide, by decide⟩ ⟨Nat.le_refl 0, Nat.le_refl 0⟩ (Nat.le_of_ble_eq_true rfl) ?_
          refine jx_iload_n E dX5_change_86 5 rfl ?_
          obtain ⟨hg47, hF⟩ := jx_guard hF
          refine jx_iast (h := 1) (j := (Int32.toNatClampNeg r46)) E dX5_change_87 (Nat.le_of_ble_eq_true rfl) s_M1 hg47 rfl ?_
          refine jx_iload E dX5_change_88 0 rfl ?_
          obtain ⟨rfl, rfl⟩ := jx_out hF
          exact jx_iret E dX5_change_90 rfl
        · rw [if_neg hc44] at hF
          refine jx_aload_n E dX5_change_62 1 rfl ?_
          refine jx_iload E dX5_change_63 0 rfl ?_
          obtain ⟨⟨r48, v48⟩, hc48, hF⟩ := jx_bind hF
          try dsimp only at hF
          refine jx_callVi (As := [.int (-1000001)]) (st := []) (h := 0) E dX5_change_65 1 rfl (k_X5_finds hI (-1000001) v36 r48 v48 hc48) (gb_V (List.mem_cons_of_mem _ tw_344) (List.mem_cons_of_mem _ tw_345) (List.mem_cons_of_mem _ tw_346) (List.mem_cons_of_mem _ tw_325) tw_343) rfl rfl rfl dd_X5_finds rfl (Nat.le_of_ble_eq_true rfl) s_M0 rfl ⟨by decide, by decide⟩ ⟨Nat.le_refl 0, Nat.le_refl 0⟩ (Nat.le_of_ble_eq_true rfl) ?_
          obtain ⟨rfl, rfl⟩ := jx_out hF
          exact jx_iret E dX5_change_68 rfl
def f_X5_price (x1 : Int32) (x2 : Int32) (v : jx_V) : Option (Int32 × jx_V) := ((f_X5_in (Int32.toInt64 x1) 0 3 v).bind (fun (r1, v1) => (if r1 = 0 then ((f_X5_finds (-1000001) v1).bind (fun (r3, v3) => (some (r3, v3)))) else ((f_X5_in (Int32.toInt64 x2) 0 99 v1).bind (fun (r4, v4) => (if r4 = 0 then ((f_X5_finds (-1000001) v4).bind (fun (r8, v8) => (some (r8, v8)))) else (if ((3 + x1) < 0 ∨ 181 ≤ Int32.toNatClampNeg (3 + x1)) then none else (if ((3 + x1) < 0 ∨ 181 ≤ Int32.toNatClampNeg (3 + x1)) then none else (some ((v4 1 (Int32.toNatClampNeg (3 + x1))), (jx_up v4 1 (Int32.toNatClampNeg (3 + x1)) x2)))))))))))
def rm_X5_price : Room := { frames := 1, cells := 0, slots := 0, locals := 25 }
set_option maxHeartbeats 4000000 in
set_option maxRecDepth 100000 in
theorem k_X5_price {l : Launch} {D : va_G} {cI cJ : ClassId} {ad : Nat → Nat} {A : Nat → Prop} (hI : jx_inj 13 ad A) (x1 : Int32) (x2 : Int32) (v : jx_V) (r : Int32) (v' : jx_V) (hF : f_X5_price x1 x2 v = some (r, v')) : jx_Ci l D vwCl 13 cI cJ ad shM A ex_M yX5_price (Cond.code yX5_price cX5_price 4 (some .int) :: bigT) rm_X5_price [.ref (ad 0), .int x1, .int x2] v r v' := by
  unfold f_X5_price at hF
  refine jx_enteri bigT RX5 cX5_price 4 (some .int) [(0, .ref (ad 0)), (1, .int x1), (2, .int x2)] hI (ex_M_ok A) (by decide +kernel) rfl (Nat.le_of_ble_eq_true rfl) rfl rfl ?_
  intro p e s m args below meth c E
  have iX5 : ∀ w ∈ u_ws RX5 TX5 21, w ∈ (Cond.code yX5_price cX5_price 4 (some .int) :: bigT) := fun w h => List.mem_cons_of_mem _ (uw_X5 w h)
  refine jx_iload_n E dX5_price_0 1 rfl ?_
  refine jx_i2l E dX5_price_1 ?_
  refine jx_lconst (x := 0) E dX5_price_2 (by decide) ?_
  refine jx_ldc2 (x := 3) E dX5_price_3 (List.mem_cons_of_mem _ tw_326) ?_
  obtain ⟨⟨r1, v1⟩, hc1, hF⟩ := jx_bind hF
  try dsimp only at hF
  refine jx_callSi (As := [.long (Int32.toInt64 x1), .long 0, .long 3]) (st := []) E dX5_price_6 3 rfl (k_X5_in hI (Int32.toInt64 x1) 0 3 v r1 v1 hc1) (gb_S (List.mem_cons_of_mem _ tw_323) (List.mem_cons_of_mem _ tw_324) (List.mem_cons_of_mem _ tw_325) tw_322) rfl rfl rfl dd_X5_in rfl ⟨by decide, by decide⟩ ⟨Nat.le_refl 0, Nat.le_refl 0⟩ (Nat.le_of_ble_eq_true rfl) ?_
  refine jx_if_eq (tgt := 24) E dX5_price_9 (by decide) (fun hc2 => ?_) (fun hc2 => ?_)
  · rw [if_pos hc2] at hF
    refine jx_aload_n E dX5_price_24 0 rfl ?_
    refine jx_ldc (x := -1000001) E dX5_price_25 (List.mem_cons_of_mem _ tw_320) ?_
    obtain ⟨⟨r3, v3⟩, hc3, hF⟩ := jx_bind hF
    try dsimp only at hF
    refine jx_callVi (As := [.int (-1000001)]) (st := []) (h := 0) E dX5_price_27 1 rfl (k_X5_finds hI (-1000001) v1 r3 v3 hc3) (gb_V (List.mem_cons_of_mem _ tw_344) (List.mem_cons_of_mem _ tw_345) (List.mem_cons_of_mem _ tw_346) (List.mem_cons_of_mem _ tw_325) tw_343) rfl rfl rfl dd_X5_finds rfl (Nat.le_of_ble_eq_true rfl) s_M0 rfl ⟨by decide, by decide⟩ ⟨Nat.le_refl 0, Nat.le_refl 0⟩ (Nat.le_of_ble_eq_true rfl) ?_
    obtain ⟨rfl, rfl⟩ := jx_out hF
    exact jx_iret E dX5_price_30 rfl
  · rw [if_neg hc2] at hF
    refine jx_iload_n E dX5_price_12 2 rfl ?_
    refine jx_i2l E dX5_price_13 ?_
    refine jx_lconst (x := 0) E dX5_price_14 (by decide) ?_
    refine jx_ldc2 (x := 99) E dX5_price_15 (List.mem_cons_of_mem _ tw_387) ?_
    obtain ⟨⟨r4, v4⟩, hc4, hF⟩ := jx_bind hF
    try dsimp only at hF
    refine jx_callSi (As := [.long (Int32.toInt64 x2), .long 0, .long 99]) (st := []) E dX5_price_18 3 rfl (k_X5_in hI (Int32.toInt64 x2) 0 99 v1 r4 v4 hc4) (gb_S (List.mem_cons_of_mem _ tw_323) (List.mem_cons_of_mem _ tw_324) (List.mem_cons_of_mem _ tw_325) tw_322) rfl rfl rfl dd_X5_in rfl ⟨by decide, by decide⟩ ⟨Nat.le_refl 0, Nat.le_refl 0⟩ (Nat.le_of_ble_eq_true rfl) ?_
    refine jx_if_ne (tgt := 31) E dX5_price_21 (by decide) (fun hc5 => ?_) (fun hc5 => ?_)
    · rw [if_neg hc5] at hF
      refine jx_aload_n E dX5_price_31 0 rfl ?_
      refine jx_getr (C := RX5) (T := TX5) (M := 21) (k := 0) E dX5_price_32 (Nat.le_of_ble_eq_true rfl) s_M0 rfl iX5 (by decide) rfl (List.mem_cons_of_mem _ tw_328) rfl ?_
      refine jx_iconst (x := 3) E dX5_price_35 (by decide) ?_
      refine jx_iload_n E dX5_price_36 1 rfl ?_
      refine jx_iadd E dX5_price_37 ?_
      obtain ⟨hg6, hF⟩ := jx_guard hF
      refine jx_iald (h := 1) (j := (Int32.toNatClampNeg (3 + x1))) E dX5_price_38 (Nat.le_of_ble_eq_true rfl) s_M1 hg6 rfl ?_
      refine jx_istore_n (lv' := [(3, .int (v4 1 (Int32.toNatClampNeg (3 + x1)))), (0, .ref (ad 0)), (1, .int x1), (2, .int x2)]) E dX5_price_39 (by decide) rfl ?_
      refine jx_aload_n E dX5_price_40 1 rfl ?_
      refine jx_getr (C := RX5) (T := TX5) (M := 21) (k := 0) E dX5_price_41 (Nat.le_of_ble_eq_true rfl) s_M0 rfl iX5 (by decide) rfl (List.mem_cons_of_mem _ tw_328) rfl ?_
      refine jx_iconst (x := 3) E dX5_price_44 (by decide) ?_
      refine jx_iload_n E dX5_price_45 2 rfl ?_
      refine jx_iadd E dX5_price_46 ?_
      refine jx_iload_n E dX5_price_47 3 rfl ?_
      obtain ⟨hg7, hF⟩ := jx_guard hF
      refine jx_iast (h := 1) (j := (Int32.toNatClampNeg (3 + x1))) E dX5_price_48 (Nat.le_of_ble_eq_true rfl) s_M1 hg7 rfl ?_
      refine jx_iload_n E dX5_price_49 0 rfl ?_
      obtain ⟨rfl, rfl⟩ := jx_out hF
      exact jx_iret E dX5_price_50 rfl
    · rw [if_pos hc5] at hF
      refine jx_aload_n E dX5_price_24 0 rfl ?_
      refine jx_ldc (x := -1000001) E dX5_price_25 (List.mem_cons_of_mem _ tw_320) ?_
      obtain ⟨⟨r8, v8⟩, hc8, hF⟩ := jx_bind hF
      try dsimp only at hF
      refine jx_callVi (As := [.int (-1000001)]) (st := []) (h := 0) E dX5_price_27 1 rfl (k_X5_finds hI (-1000001) v4 r8 v8 hc8) (gb_V (List.mem_cons_of_mem _ tw_344) (List.mem_cons_of_mem _ tw_345) (List.mem_cons_of_mem _ tw_346) (List.mem_cons_of_mem _ tw_325) tw_343) rfl rfl rfl dd_X5_finds rfl (Nat.le_of_ble_eq_true rfl) s_M0 rfl ⟨by decide, by decide⟩ ⟨Nat.le_refl 0, Nat.le_refl 0⟩ (Nat.le_of_ble_eq_true rfl) ?_
      obtain ⟨rfl, rfl⟩ := jx_out hF
      exact jx_iret E dX5_price_30 rfl
def f_X5_where (x0 : Int32) (x1 : Int32) (v : jx_V) : Option (Int32 × jx_V) := (some (((111 + (6 * x0)) + x1), v))
def rm_X5_where : Room := { frames := 0, cells := 0, slots := 0, locals := 0 }
set_option maxHeartbeats 4000000 in
set_option maxRecDepth 100000 in
theorem k_X5_where {l : Launch} {D : va_G} {cI cJ : ClassId} {ad : Nat → Nat} {A : Nat → Prop} (hI : jx_inj 13 ad A) (x0 : Int32) (x1 : Int32) (v : jx_V) (r : Int32) (v' : jx_V) (hF : f_X5_where x0 x1 v = some (r, v')) : jx_Ci l D vwCl 13 cI cJ ad shM A ex_M yX5_where (Cond.code yX5_where cX5_where 2 (some .int) :: bigT) rm_X5_where [.int x0, .int x1] v r v' := by
  unfold f_X5_where at hF
  refine jx_enteri bigT RX5 cX5_where 2 (some .int) [(0, .int x0), (1, .int x1)] hI (ex_M_ok A) (by decide +kernel) rfl (Nat.le_of_ble_eq_true rfl) rfl rfl ?_
  intro p e s m args below meth c E
  refine jx_bipush (x := 111) E dX5_where_0 (by decide) ?_
  refine jx_bipush (x := 6) E dX5_where_2 (by decide) ?_
  refine jx_iload_n E dX5_where_4 0 rfl ?_
  refine jx_imul E dX5_where_5 ?_
  refine jx_iadd E dX5_where_6 ?_
  refine jx_iload_n E dX5_where_7 1 rfl ?_
  refine jx_iadd E dX5_where_8 ?_
  obtain ⟨rfl, rfl⟩ := jx_out hF
  exact jx_iret E dX5_where_9 rfl
def f_X5_told (x1 : Int32) (x2 : Int32) (v : jx_V) : Option (Int32 × jx_V) := ((f_X5_where x1 x2 v).bind (fun (r1, v1) => (if (r1 < 0 ∨ 181 ≤ Int32.toNatClampNeg r1) then none else (some ((v1 1 (Int32.toNatClampNeg r1)), v1)))))
def rm_X5_told : Room := { frames := 1, cells := 0, slots := 0, locals := 21 }
set_option maxHeartbeats 4000000 in
set_option maxRecDepth 100000 in
theorem k_X5_told {l : Launch} {D : va_G} {cI cJ : ClassId} {ad : Nat → Nat} {A : Nat → Prop} (hI : jx_inj 13 ad A) (x1 : Int32) (x2 : Int32) (v : jx_V) (r : Int32) (v' : jx_V) (hF : f_X5_told x1 x2 v = some (r, v')) : jx_Ci l D vwCl 13 cI cJ ad shM A ex_M yX5_told (Cond.code yX5_told cX5_told 3 (some .int) :: bigT) rm_X5_told [.ref (ad 0), .int x1, .int x2] v r v' := by
  unfold f_X5_told at hF
  refine jx_enteri bigT RX5 cX5_told 3 (some .int) [(0, .ref (ad 0)), (1, .int x1), (2, .int x2)] hI (ex_M_ok A) (by decide +kernel) rfl (Nat.le_of_ble_eq_true rfl) rfl rfl ?_
  intro p e s m args below meth c E
  have iX5 : ∀ w ∈ u_ws RX5 TX5 21, w ∈ (Cond.code yX5_told cX5_told 3 (some .int) :: bigT) := fun w h => List.mem_cons_of_mem _ (uw_X5 w h)
  refine jx_aload_n E dX5_told_0 0 rfl ?_
  refine jx_getr (C := RX5) (T := TX5) (M := 21) (k := 0) E dX5_told_1 (Nat.le_of_ble_eq_true rfl) s_M0 rfl iX5 (by decide) rfl (List.mem_cons_of_mem _ tw_328) rfl ?_
  refine jx_iload_n E dX5_told_4 1 rfl ?_
  refine jx_iload_n E dX5_told_5 2 rfl ?_
  obtain ⟨⟨r1, v1⟩, hc1, hF⟩ := jx_bind hF
  try dsimp only at hF
  refine jx_callSi (As := [.int x1, .int x2]) (st := [.ref (ad 1)]) E dX5_told_6 2 rfl (k_X5_where hI x1 x2 v r1 v1 hc1) (gb_S (List.mem_cons_of_mem _ tw_389) (List.mem_cons_of_mem _ tw_390) (List.mem_cons_of_mem _ tw_325) tw_388) rfl rfl rfl dd_X5_where rfl ⟨by decide, by decide⟩ ⟨Nat.le_refl 0, Nat.le_refl 0⟩ (Nat.le_of_ble_eq_true rfl) ?_
  obtain ⟨hg2, hF⟩ := jx_guard hF
  refine jx_iald (h := 1) (j := (Int32.toNatClampNeg r1)) E dX5_told_9 (Nat.le_of_ble_eq_true rfl) s_M1 hg2 rfl ?_
  obtain ⟨rfl, rfl⟩ := jx_out hF
  exact jx_iret E dX5_told_10 rfl
def f_X5_newWindow (x1 : Int32) (x2 : Int32) (x3 : Int32) (x4 : Int32) (v : jx_V) : Option (Int32 × jx_V) := ((f_X5_where (v 1 1) 0 v).bind (fun (r1, v1) => (if (r1 < 0 ∨ 181 ≤ Int32.toNatClampNeg r1) then none else ((f_X5_where (v 1 1) 1 (jx_up v1 1 (Int32.toNatClampNeg r1) x1)).bind (fun (r3, v3) => (if (r3 < 0 ∨ 181 ≤ Int32.toNatClampNeg r3) then none else ((f_X5_where (v 1 1) 2 (jx_up v3 1 (Int32.toNatClampNeg r3) x2)).bind (fun (r5, v5) => (if (r5 < 0 ∨ 181 ≤ Int32.toNatClampNeg r5) then none else ((f_X5_where (v 1 1) 3 (jx_up v5 1 (Int32.toNatClampNeg r5) x3)).bind (fun (r7, v7) => (if (r7 < 0 ∨ 181 ≤ Int32.toNatClampNeg r7) then none else ((f_X5_where (v 1 1) 4 (jx_up v7 1 (Int32.toNatClampNeg r7) x4)).bind (fun (r9, v9) => (if (r9 < 0 ∨ 181 ≤ Int32.toNatClampNeg r9) then none else ((f_X5_where (v 1 1) 5 (jx_up v9 1 (Int32.toNatClampNeg r9) (-1))).bind (fun (r11, v11) => (if (r11 < 0 ∨ 181 ≤ Int32.toNatClampNeg r11) then none else (some ((v 1 1), (jx_up (jx_up v11 1 (Int32.toNatClampNeg r11) 0) 1 1 (((jx_up v11 1 (Int32.toNatClampNeg r11) 0) 1 1) + 1))))))))))))))))))))))
def rm_X5_newWindow : Room := { frames := 1, cells := 0, slots := 0, locals := 21 }
set_option maxHeartbeats 4000000 in
set_option maxRecDepth 100000 in
theorem k_X5_newWindow {l : Launch} {D : va_G} {cI cJ : ClassId} {ad : Nat → Nat} {A : Nat → Prop} (hI : jx_inj 13 ad A) (x1 : Int32) (x2 : Int32) (x3 : Int32) (x4 : Int32) (v : jx_V) (r : Int32) (v' : jx_V) (hF : f_X5_newWindow x1 x2 x3 x4 v = some (r, v')) : jx_Ci l D vwCl 13 cI cJ ad shM A ex_M yX5_newWindow (Cond.code yX5_newWindow cX5_newWindow 6 (some .int) :: bigT) rm_X5_newWindow [.ref (ad 0), .int x1, .int x2, .int x3, .int x4] v r v' := by
  unfold f_X5_newWindow at hF
  refine jx_enteri bigT RX5 cX5_newWindow 6 (some .int) [(0, .ref (ad 0)), (1, .int x1), (2, .int x2), (3, .int x3), (4, .int x4)] hI (ex_M_ok A) (by decide +kernel) rfl (Nat.le_of_ble_eq_true rfl) rfl rfl ?_
  intro p e s m args below meth c E
  have iX5 : ∀ w ∈ u_ws RX5 TX5 21, w ∈ (Cond.code yX5_newWindow cX5_newWindow 6 (some .int) :: bigT) := fun w h => List.mem_cons_of_mem _ (uw_X5 w h)
  refine jx_aload_n E dX5_newWindow_0 0 rfl ?_
  refine jx_getr (C := RX5) (T := TX5) (M := 21) (k := 0) E dX5_newWindow_1 (Nat.le_of_ble_eq_true rfl) s_M0 rfl iX5 (by decide) rfl (List.mem_cons_of_mem _ tw_328) rfl ?_
  refine jx_iconst (x := 1) E dX5_newWindow_4 (by decide) ?_
  refine jx_iald (h := 1) (j := 1) E dX5_newWindow_5 (Nat.le_of_ble_eq_true rfl) s_M1 (by decide) (by decide) ?_
  refine jx_istore (lv' := [(5, .int (v 1 1)), (0, .ref (ad 0)), (1, .int x1), (2, .int x2), (3, .int x3), (4, .int x4)]) E dX5_newWindow_6 (by decide) rfl ?_
  refine jx_aload_n E dX5_newWindow_8 1 rfl ?_
  refine jx_getr (C := RX5) (T := TX5) (M := 21) (k := 0) E dX5_newWindow_9 (Nat.le_of_ble_eq_true rfl) s_M0 rfl iX5 (by decide) rfl (List.mem_cons_of_mem _ tw_328) rfl ?_
  refine jx_iload E dX5_newWindow_12 0 rfl ?_
  refine jx_iconst (x := 0) E dX5_newWindow_14 (by decide) ?_
  obtain ⟨⟨r1, v1⟩, hc1, hF⟩ := jx_bind hF
  try dsimp only at hF
  refine jx_callSi (As := [.int (v 1 1), .int 0]) (st := [.ref (ad 1)]) E dX5_newWindow_15 2 rfl (k_X5_where hI (v 1 1) 0 v r1 v1 hc1) (gb_S (List.mem_cons_of_mem _ tw_389) (List.mem_cons_of_mem _ tw_390) (List.mem_cons_of_mem _ tw_325) tw_388) rfl rfl rfl dd_X5_where rfl ⟨by decide, by decide⟩ ⟨Nat.le_refl 0, Nat.le_refl 0⟩ (Nat.le_of_ble_eq_true rfl) ?_
  refine jx_iload_n E dX5_newWindow_18 2 rfl ?_
  obtain ⟨hg2, hF⟩ := jx_guard hF
  refine jx_iast (h := 1) (j := (Int32.toNatClampNeg r1)) E dX5_newWindow_19 (Nat.le_of_ble_eq_true rfl) s_M1 hg2 rfl ?_
  refine jx_aload_n E dX5_newWindow_20 1 rfl ?_
  refine jx_getr (C := RX5) (T := TX5) (M := 21) (k := 0) E dX5_newWindow_21 (Nat.le_of_ble_eq_true rfl) s_M0 rfl iX5 (by decide) rfl (List.mem_cons_of_mem _ tw_328) rfl ?_
  refine jx_iload E dX5_newWindow_24 0 rfl ?_
  refine jx_iconst (x := 1) E dX5_newWindow_26 (by decide) ?_
  obtain ⟨⟨r3, v3⟩, hc3, hF⟩ := jx_bind hF
  try dsimp only at hF
  refine jx_callSi (As := [.int (v 1 1), .int 1]) (st := [.ref (ad 1)]) E dX5_newWindow_27 2 rfl (k_X5_where hI (v 1 1) 1 (jx_up v1 1 (Int32.toNatClampNeg r1) x1) r3 v3 hc3) (gb_S (List.mem_cons_of_mem _ tw_389) (List.mem_cons_of_mem _ tw_390) (List.mem_cons_of_mem _ tw_325) tw_388) rfl rfl rfl dd_X5_where rfl ⟨by decide, by decide⟩ ⟨Nat.le_refl 0, Nat.le_refl 0⟩ (Nat.le_of_ble_eq_true rfl) ?_
  refine jx_iload_n E dX5_newWindow_30 3 rfl ?_
  obtain ⟨hg4, hF⟩ := jx_guard hF
  refine jx_iast (h := 1) (j := (Int32.toNatClampNeg r3)) E dX5_newWindow_31 (Nat.le_of_ble_eq_true rfl) s_M1 hg4 rfl ?_
  refine jx_aload_n E dX5_newWindow_32 1 rfl ?_
  refine jx_getr (C := RX5) (T := TX5) (M := 21) (k := 0) E dX5_newWindow_33 (Nat.le_of_ble_eq_true rfl) s_M0 rfl iX5 (by decide) rfl (List.mem_cons_of_mem _ tw_328) rfl ?_
  refine jx_iload E dX5_newWindow_36 0 rfl ?_
  refine jx_iconst (x := 2) E dX5_newWindow_38 (by decide) ?_
  obtain ⟨⟨r5, v5⟩, hc5, hF⟩ := jx_bind hF
  try dsimp only at hF
  refine jx_callSi (As := [.int (v 1 1), .int 2]) (st := [.ref (ad 1)]) E dX5_newWindow_39 2 rfl (k_X5_where hI (v 1 1) 2 (jx_up v3 1 (Int32.toNatClampNeg r3) x2) r5 v5 hc5) (gb_S (List.mem_cons_of_mem _ tw_389) (List.mem_cons_of_mem _ tw_390) (List.mem_cons_of_mem _ tw_325) tw_388) rfl rfl rfl dd_X5_where rfl ⟨by decide, by decide⟩ ⟨Nat.le_refl 0, Nat.le_refl 0⟩ (Nat.le_of_ble_eq_true rfl) ?_
  refine jx_iload_n E dX5_newWindow_42 4 rfl ?_
  obtain ⟨hg6, hF⟩ := jx_guard hF
  refine jx_iast (h := 1) (j := (Int32.toNatClampNeg r5)) E dX5_newWindow_43 (Nat.le_of_ble_eq_true rfl) s_M1 hg6 rfl ?_
  refine jx_aload_n E dX5_newWindow_44 1 rfl ?_
  refine jx_getr (C := RX5) (T := TX5) (M := 21) (k := 0) E dX5_newWindow_45 (Nat.le_of_ble_eq_true rfl) s_M0 rfl iX5 (by decide) rfl (List.mem_cons_of_mem _ tw_328) rfl ?_
  refine jx_iload E dX5_newWindow_48 0 rfl ?_
  refine jx_iconst (x := 3) E dX5_newWindow_50 (by decide) ?_
  obtain ⟨⟨r7, v7⟩, hc7, hF⟩ := jx_bind hF
  try dsimp only at hF
  refine jx_callSi (As := [.int (v 1 1), .int 3]) (st := [.ref (ad 1)]) E dX5_newWindow_51 2 rfl (k_X5_where hI (v 1 1) 3 (jx_up v5 1 (Int32.toNatClampNeg r5) x3) r7 v7 hc7) (gb_S (List.mem_cons_of_mem _ tw_389) (List.mem_cons_of_mem _ tw_390) (List.mem_cons_of_mem _ tw_325) tw_388) rfl rfl rfl dd_X5_where rfl ⟨by decide, by decide⟩ ⟨Nat.le_refl 0, Nat.le_refl 0⟩ (Nat.le_of_ble_eq_true rfl) ?_
  refine jx_iload E dX5_newWindow_54 5 rfl ?_
  obtain ⟨hg8, hF⟩ := jx_guard hF
  refine jx_iast (h := 1) (j := (Int32.toNatClampNeg r7)) E dX5_newWindow_56 (Nat.le_of_ble_eq_true rfl) s_M1 hg8 rfl ?_
  refine jx_aload_n E dX5_newWindow_57 1 rfl ?_
  refine jx_getr (C := RX5) (T := TX5) (M := 21) (k := 0) E dX5_newWindow_58 (Nat.le_of_ble_eq_true rfl) s_M0 rfl iX5 (by decide) rfl (List.mem_cons_of_mem _ tw_328) rfl ?_
  refine jx_iload E dX5_newWindow_61 0 rfl ?_
  refine jx_iconst (x := 4) E dX5_newWindow_63 (by decide) ?_
  obtain ⟨⟨r9, v9⟩, hc9, hF⟩ := jx_bind hF
  try dsimp only at hF
  refine jx_callSi (As := [.int (v 1 1), .int 4]) (st := [.ref (ad 1)]) E dX5_newWindow_64 2 rfl (k_X5_where hI (v 1 1) 4 (jx_up v7 1 (Int32.toNatClampNeg r7) x4) r9 v9 hc9) (gb_S (List.mem_cons_of_mem _ tw_389) (List.mem_cons_of_mem _ tw_390) (List.mem_cons_of_mem _ tw_325) tw_388) rfl rfl rfl dd_X5_where rfl ⟨by decide, by decide⟩ ⟨Nat.le_refl 0, Nat.le_refl 0⟩ (Nat.le_of_ble_eq_true rfl) ?_
  refine jx_iconst (x := -1) E dX5_newWindow_67 (by decide) ?_
  obtain ⟨hg10, hF⟩ := jx_guard hF
  refine jx_iast (h := 1) (j := (Int32.toNatClampNeg r9)) E dX5_newWindow_68 (Nat.le_of_ble_eq_true rfl) s_M1 hg10 rfl ?_
  refine jx_aload_n E dX5_newWindow_69 1 rfl ?_
  refine jx_getr (C := RX5) (T := TX5) (M := 21) (k := 0) E dX5_newWindow_70 (Nat.le_of_ble_eq_true rfl) s_M0 rfl iX5 (by decide) rfl (List.mem_cons_of_mem _ tw_328) rfl ?_
  refine jx_iload E dX5_newWindow_73 0 rfl ?_
  refine jx_iconst (x := 5) E dX5_newWindow_75 (by decide) ?_
  obtain ⟨⟨r11, v11⟩, hc11, hF⟩ := jx_bind hF
  try dsimp only at hF
  refine jx_callSi (As := [.int (v 1 1), .int 5]) (st := [.ref (ad 1)]) E dX5_newWindow_76 2 rfl (k_X5_where hI (v 1 1) 5 (jx_up v9 1 (Int32.toNatClampNeg r9) (-1)) r11 v11 hc11) (gb_S (List.mem_cons_of_mem _ tw_389) (List.mem_cons_of_mem _ tw_390) (List.mem_cons_of_mem _ tw_325) tw_388) rfl rfl rfl dd_X5_where rfl ⟨by decide, by decide⟩ ⟨Nat.le_refl 0, Nat.le_refl 0⟩ (Nat.le_of_ble_eq_true rfl) ?_
  refine jx_iconst (x := 0) E dX5_newWindow_79 (by decide) ?_
  obtain ⟨hg12, hF⟩ := jx_guard hF
  refine jx_iast (h := 1) (j := (Int32.toNatClampNeg r11)) E dX5_newWindow_80 (Nat.le_of_ble_eq_true rfl) s_M1 hg12 rfl ?_
  refine jx_aload_n E dX5_newWindow_81 1 rfl ?_
  refine jx_getr (C := RX5) (T := TX5) (M := 21) (k := 0) E dX5_newWindow_82 (Nat.le_of_ble_eq_true rfl) s_M0 rfl iX5 (by decide) rfl (List.mem_cons_of_mem _ tw_328) rfl ?_
  refine jx_iconst (x := 1) E dX5_newWindow_85 (by decide) ?_
  refine jx_dup2 E dX5_newWindow_86 rfl rfl ?_
  refine jx_iald (h := 1) (j := 1) E dX5_newWindow_87 (Nat.le_of_ble_eq_true rfl) s_M1 (by decide) (by decide) ?_
  refine jx_iconst (x := 1) E dX5_newWindow_88 (by decide) ?_
  refine jx_iadd E dX5_newWindow_89 ?_
  refine jx_iast (h := 1) (j := 1) E dX5_newWindow_90 (Nat.le_of_ble_eq_true rfl) s_M1 (by decide) (by decide) ?_
  refine jx_iload E dX5_newWindow_91 0 rfl ?_
  obtain ⟨rfl, rfl⟩ := jx_out hF
  exact jx_iret E dX5_newWindow_93 rfl
def f_X5_window (x1 : Int32) (x2 : Int32) (x3 : Int32) (x4 : Int32) (v : jx_V) : Option (Int32 × jx_V) := ((f_X5_isLot x1 v).bind (fun (r1, v1) => (if r1 = 0 then ((f_X5_finds (-1000001) v1).bind (fun (r3, v3) => (some (r3, v3)))) else ((f_X5_isHeight x2 v1).bind (fun (r4, v4) => (if r4 = 0 then ((f_X5_finds (-1000001) v4).bind (fun (r6, v6) => (some (r6, v6)))) else ((f_X5_in (Int32.toInt64 x3) 0 3 v4).bind (fun (r7, v7) => (if r7 = 0 then ((f_X5_finds (-1000001) v7).bind (fun (r9, v9) => (some (r9, v9)))) else ((f_X5_isOwner x4 v7).bind (fun (r10, v10) => (if r10 = 0 then ((f_X5_finds (-1000001) v10).bind (fun (r15, v15) => (some (r15, v15)))) else (if (v10 1 1) = 10 then ((f_X5_finds (-1000002) v10).bind (fun (r14, v14) => (some (r14, v14)))) else ((f_X5_newWindow x1 x2 x3 x4 v10).bind (fun (r13, v13) => (some (r13, v13)))))))))))))))))
def rm_X5_window : Room := { frames := 2, cells := 0, slots := 0, locals := 46 }
set_option maxHeartbeats 4000000 in
set_option maxRecDepth 100000 in
theorem k_X5_window {l : Launch} {D : va_G} {cI cJ : ClassId} {ad : Nat → Nat} {A : Nat → Prop} (hI : jx_inj 13 ad A) (x1 : Int32) (x2 : Int32) (x3 : Int32) (x4 : Int32) (v : jx_V) (r : Int32) (v' : jx_V) (hF : f_X5_window x1 x2 x3 x4 v = some (r, v')) : jx_Ci l D vwCl 13 cI cJ ad shM A ex_M yX5_window (Cond.code yX5_window cX5_window 5 (some .int) :: bigT) rm_X5_window [.ref (ad 0), .int x1, .int x2, .int x3, .int x4] v r v' := by
  unfold f_X5_window at hF
  refine jx_enteri bigT RX5 cX5_window 5 (some .int) [(0, .ref (ad 0)), (1, .int x1), (2, .int x2), (3, .int x3), (4, .int x4)] hI (ex_M_ok A) (by decide +kernel) rfl (Nat.le_of_ble_eq_true rfl) rfl rfl ?_
  intro p e s m args below meth c E
  have iX5 : ∀ w ∈ u_ws RX5 TX5 21, w ∈ (Cond.code yX5_window cX5_window 5 (some .int) :: bigT) := fun w h => List.mem_cons_of_mem _ (uw_X5 w h)
  refine jx_iload_n E dX5_window_0 1 rfl ?_
  obtain ⟨⟨r1, v1⟩, hc1, hF⟩ := jx_bind hF
  try dsimp only at hF
  refine jx_callSi (As := [.int x1]) (st := []) E dX5_window_1 1 rfl (k_X5_isLot hI x1 v r1 v1 hc1) (gb_S (List.mem_cons_of_mem _ tw_348) (List.mem_cons_of_mem _ tw_349) (List.mem_cons_of_mem _ tw_325) tw_347) rfl rfl rfl dd_X5_isLot rfl ⟨by decide, by decide⟩ ⟨Nat.le_refl 0, Nat.le_refl 0⟩ (Nat.le_of_ble_eq_true rfl) ?_
  refine jx_if_eq (tgt := 34) E dX5_window_4 (by decide) (fun hc2 => ?_) (fun hc2 => ?_)
  · rw [if_pos hc2] at hF
    refine jx_aload_n E dX5_window_34 0 rfl ?_
    refine jx_ldc (x := -1000001) E dX5_window_35 (List.mem_cons_of_mem _ tw_320) ?_
    obtain ⟨⟨r3, v3⟩, hc3, hF⟩ := jx_bind hF
    try dsimp only at hF
    refine jx_callVi (As := [.int (-1000001)]) (st := []) (h := 0) E dX5_window_37 1 rfl (k_X5_finds hI (-1000001) v1 r3 v3 hc3) (gb_V (List.mem_cons_of_mem _ tw_344) (List.mem_cons_of_mem _ tw_345) (List.mem_cons_of_mem _ tw_346) (List.mem_cons_of_mem _ tw_325) tw_343) rfl rfl rfl dd_X5_finds rfl (Nat.le_of_ble_eq_true rfl) s_M0 rfl ⟨by decide, by decide⟩ ⟨Nat.le_refl 0, Nat.le_refl 0⟩ (Nat.le_of_ble_eq_true rfl) ?_
    obtain ⟨rfl, rfl⟩ := jx_out hF
    exact jx_iret E dX5_window_40 rfl
  · rw [if_neg hc2] at hF
    refine jx_iload_n E dX5_window_7 2 rfl ?_
    obtain ⟨⟨r4, v4⟩, hc4, hF⟩ := jx_bind hF
    try dsimp only at hF
    refine jx_callSi (As := [.int x2]) (st := []) E dX5_window_8 1 rfl (k_X5_isHeight hI x2 v1 r4 v4 hc4) (gb_S (List.mem_cons_of_mem _ tw_354) (List.mem_cons_of_mem _ tw_355) (List.mem_cons_of_mem _ tw_325) tw_353) rfl rfl rfl dd_X5_isHeight rfl ⟨by decide, by decide⟩ ⟨Nat.le_refl 0, Nat.le_refl 0⟩ (Nat.le_of_ble_eq_true rfl) ?_
    refine jx_if_eq (tgt := 34) E dX5_window_11 (by decide) (fun hc5 => ?_) (fun hc5 => ?_)
    · rw [if_pos hc5] at hF
      refine jx_aload_n E dX5_window_34 0 rfl ?_
      refine jx_ldc (x := -1000001) E dX5_window_35 (List.mem_cons_of_mem _ tw_320) ?_
      obtain ⟨⟨r6, v6⟩, hc6, hF⟩ := jx_bind hF
      try dsimp only at hF
      refine jx_callVi (As := [.int (-1000001)]) (st := []) (h := 0) E dX5_window_37 1 rfl (k_X5_finds hI (-1000001) v4 r6 v6 hc6) (gb_V (List.mem_cons_of_mem _ tw_344) (List.mem_cons_of_mem _ tw_345) (List.mem_cons_of_mem _ tw_346) (List.mem_cons_of_mem _ tw_325) tw_343) rfl rfl rfl dd_X5_finds rfl (Nat.le_of_ble_eq_true rfl) s_M0 rfl ⟨by decide, by decide⟩ ⟨Nat.le_refl 0, Nat.le_refl 0⟩ (Nat.le_of_ble_eq_true rfl) ?_
      obtain ⟨rfl, rfl⟩ := jx_out hF
      exact jx_iret E dX5_window_40 rfl
    · rw [if_neg hc5] at hF
      refine jx_iload_n E dX5_window_14 3 rfl ?_
      refine jx_i2l E dX5_window_15 ?_
      refine jx_lconst (x := 0) E dX5_window_16 (by decide) ?_
      refine jx_ldc2 (x := 3) E dX5_window_17 (List.mem_cons_of_mem _ tw_326) ?_
      obtain ⟨⟨r7, v7⟩, hc7, hF⟩ := jx_bind hF
      try dsimp only at hF
      refine jx_callSi (As := [.long (Int32.toInt64 x3), .long 0, .long 3]) (st := []) E dX5_window_20 3 rfl (k_X5_in hI (Int32.toInt64 x3) 0 3 v4 r7 v7 hc7) (gb_S (List.mem_cons_of_mem _ tw_323) (List.mem_cons_of_mem _ tw_324) (List.mem_cons_of_mem _ tw_325) tw_322) rfl rfl rfl dd_X5_in rfl ⟨by decide, by decide⟩ ⟨Nat.le_refl 0, Nat.le_refl 0⟩ (Nat.le_of_ble_eq_true rfl) ?_
      refine jx_if_eq (tgt := 34) E dX5_window_23 (by decide) (fun hc8 => ?_) (fun hc8 => ?_)
      · rw [if_pos hc8] at hF
        refine jx_aload_n E dX5_window_34 0 rfl ?_
        refine jx_ldc (x := -1000001) E dX5_window_35 (List.mem_cons_of_mem _ tw_320) ?_
        obtain ⟨⟨r9, v9⟩, hc9, hF⟩ := jx_bind hF
        try dsimp only at hF
        refine jx_callVi (As := [.int (-1000001)]) (st := []) (h := 0) E dX5_window_37 1 rfl (k_X5_finds hI (-1000001) v7 r9 v9 hc9) (gb_V (List.mem_cons_of_mem _ tw_344) (List.mem_cons_of_mem _ tw_345) (List.mem_cons_of_mem _ tw_346) (List.mem_cons_of_mem _ tw_325) tw_343) rfl rfl rfl dd_X5_finds rfl (Nat.le_of_ble_eq_true rfl) s_M0 rfl ⟨by decide, by decide⟩ ⟨Nat.le_refl 0, Nat.le_refl 0⟩ (Nat.le_of_ble_eq_true rfl) ?_
        obtain ⟨rfl, rfl⟩ := jx_out hF
        exact jx_iret E dX5_window_40 rfl
      · rw [if_neg hc8] at hF
        refine jx_iload E dX5_window_26 4 rfl ?_
        obtain ⟨⟨r10, v10⟩, hc10, hF⟩ := jx_bind hF
        try dsimp only at hF
        refine jx_callSi (As := [.int x4]) (st := []) E dX5_window_28 1 rfl (k_X5_isOwner hI x4 v7 r10 v10 hc10) (gb_S (List.mem_cons_of_mem _ tw_351) (List.mem_cons_of_mem _ tw_352) (List.mem_cons_of_mem _ tw_325) tw_350) rfl rfl rfl dd_X5_isOwner rfl ⟨by decide, by decide⟩ ⟨Nat.le_refl 0, Nat.le_refl 0⟩ (Nat.le_of_ble_eq_true rfl) ?_
        refine jx_if_ne (tgt := 41) E dX5_window_31 (by decide) (fun hc11 => ?_) (fun hc11 => ?_)
        · rw [if_neg hc11] at hF
          refine jx_aload_n E dX5_window_41 0 rfl ?_
          refine jx_getr (C := RX5) (T := TX5) (M := 21) (k := 0) E dX5_window_42 (Nat.le_of_ble_eq_true rfl) s_M0 rfl iX5 (by decide) rfl (List.mem_cons_of_mem _ tw_328) rfl ?_
          refine jx_iconst (x := 1) E dX5_window_45 (by decide) ?_
          refine jx_iald (h := 1) (j := 1) E dX5_window_46 (Nat.le_of_ble_eq_true rfl) s_M1 (by decide) (by decide) ?_
          refine jx_bipush (x := 10) E dX5_window_47 (by decide) ?_
          refine jx_icmp_ne (tgt := 61) E dX5_window_49 (by decide) (fun hc12 => ?_) (fun hc12 => ?_)
          · rw [if_neg hc12] at hF
            refine jx_aload_n E dX5_window_61 0 rfl ?_
            refine jx_iload_n E dX5_window_62 1 rfl ?_
            refine jx_iload_n E dX5_window_63 2 rfl ?_
            refine jx_iload_n E dX5_window_64 3 rfl ?_
            refine jx_iload E dX5_window_65 4 rfl ?_
            obtain ⟨⟨r13, v13⟩, hc13, hF⟩ := jx_bind hF
            try dsimp only at hF
            refine jx_callVi (As := [.int x1, .int x2, .int x3, .int x4]) (st := []) (h := 0) E dX5_window_67 4 rfl (k_X5_newWindow hI x1 x2 x3 x4 v10 r13 v13 hc13) (gb_V (List.mem_cons_of_mem _ tw_392) (List.mem_cons_of_mem _ tw_393) (List.mem_cons_of_mem _ tw_394) (List.mem_cons_of_mem _ tw_325) tw_391) rfl rfl rfl dd_X5_newWindow rfl (Nat.le_of_ble_eq_true rfl) s_M0 rfl ⟨by decide, by decide⟩ ⟨Nat.le_refl 0, Nat.le_refl 0⟩ (Nat.le_of_ble_eq_true rfl) ?_
            obtain ⟨rfl, rfl⟩ := jx_out hF
            exact jx_iret E dX5_window_70 rfl
          · rw [if_pos hc12] at hF
            refine jx_aload_n E dX5_window_52 0 rfl ?_
            refine jx_ldc (x := -1000002) E dX5_window_53 (List.mem_cons_of_mem _ tw_395) ?_
            obtain ⟨⟨r14, v14⟩, hc14, hF⟩ := jx_bind hF
            try dsimp only at hF
            refine jx_callVi (As := [.int (-1000002)]) (st := []) (h := 0) E dX5_window_55 1 rfl (k_X5_finds hI (-1000002) v10 r14 v14 hc14) (gb_V (List.mem_cons_of_mem _ tw_344) (List.mem_cons_of_mem _ tw_345) (List.mem_cons_of_mem _ tw_346) (List.mem_cons_of_mem _ tw_325) tw_343) rfl rfl rfl dd_X5_finds rfl (Nat.le_of_ble_eq_true rfl) s_M0 rfl ⟨by decide, by decide⟩ ⟨Nat.le_refl 0, Nat.le_refl 0⟩ (Nat.le_of_ble_eq_true rfl) ?_
            refine jx_goto (tgt := 70) E dX5_window_58 (by decide) ?_
            obtain ⟨rfl, rfl⟩ := jx_out hF
            exact jx_iret E dX5_window_70 rfl
        · rw [if_pos hc11] at hF
          refine jx_aload_n E dX5_window_34 0 rfl ?_
          refine jx_ldc (x := -1000001) E dX5_window_35 (List.mem_cons_of_mem _ tw_320) ?_
          obtain ⟨⟨r15, v15⟩, hc15, hF⟩ := jx_bind hF
          try dsimp only at hF
          refine jx_callVi (As := [.int (-1000001)]) (st := []) (h := 0) E dX5_window_37 1 rfl (k_X5_finds hI (-1000001) v10 r15 v15 hc15) (gb_V (List.mem_cons_of_mem _ tw_344) (List.mem_cons_of_mem _ tw_345) (List.mem_cons_of_mem _ tw_346) (List.mem_cons_of_mem _ tw_325) tw_343) rfl rfl rfl dd_X5_finds rfl (Nat.le_of_ble_eq_true rfl) s_M0 rfl ⟨by decide, by decide⟩ ⟨Nat.le_refl 0, Nat.le_refl 0⟩ (Nat.le_of_ble_eq_true rfl) ?_
          obtain ⟨rfl, rfl⟩ := jx_out hF
          exact jx_iret E dX5_window_40 rfl
def f_X5_windowOf (x1 : Int32) (x2 : Int32) (v : jx_V) : Option (Int32 × jx_V) := ((f_X5_isWindow x1 v).bind (fun (r1, v1) => (if r1 = 0 then ((f_X5_finds (-1000001) v1).bind (fun (r3, v3) => (some (r3, v3)))) else ((f_X5_in (Int32.toInt64 x2) 0 5 v1).bind (fun (r4, v4) => (if r4 = 0 then ((f_X5_finds (-1000001) v4).bind (fun (r6, v6) => (some (r6, v6)))) else ((f_X5_told x1 x2 v4).bind (fun (r7, v7) => (some (r7, v7))))))))))
def rm_X5_windowOf : Room := { frames := 2, cells := 0, slots := 0, locals := 46 }
set_option maxHeartbeats 4000000 in
set_option maxRecDepth 100000 in
theorem k_X5_windowOf {l : Launch} {D : va_G} {cI cJ : ClassId} {ad : Nat → Nat} {A : Nat → Prop} (hI : jx_inj 13 ad A) (x1 : Int32) (x2 : Int32) (v : jx_V) (r : Int32) (v' : jx_V) (hF : f_X5_windowOf x1 x2 v = some (r, v')) : jx_Ci l D vwCl 13 cI cJ ad shM A ex_M yX5_windowOf (Cond.code yX5_windowOf cX5_windowOf 3 (some .int) :: bigT) rm_X5_windowOf [.ref (ad 0), .int x1, .int x2] v r v' := by
  unfold f_X5_windowOf at hF
  refine jx_enteri bigT RX5 cX5_windowOf 3 (some .int) [(0, .ref (ad 0)), (1, .int x1), (2, .int x2)] hI (ex_M_ok A) (by decide +kernel) rfl (Nat.le_of_ble_eq_true rfl) rfl rfl ?_
  intro p e s m args below meth c E
  refine jx_aload_n E dX5_windowOf_0 0 rfl ?_
  refine jx_iload_n E dX5_windowOf_1 1 rfl ?_
  obtain ⟨⟨r1, v1⟩, hc1, hF⟩ := jx_bind hF
  try dsimp only at hF
  refine jx_callVi (As := [.int x1]) (st := []) (h := 0) E dX5_windowOf_2 1 rfl (k_X5_isWindow hI x1 v r1 v1 hc1) (gb_V (List.mem_cons_of_mem _ tw_397) (List.mem_cons_of_mem _ tw_398) (List.mem_cons_of_mem _ tw_399) (List.mem_cons_of_mem _ tw_325) tw_396) rfl rfl rfl dd_X5_isWindow rfl (Nat.le_of_ble_eq_true rfl) s_M0 rfl ⟨by decide, by decide⟩ ⟨Nat.le_refl 0, Nat.le_refl 0⟩ (Nat.le_of_ble_eq_true rfl) ?_
  refine jx_if_eq (tgt := 29) E dX5_windowOf_5 (by decide) (fun hc2 => ?_) (fun hc2 => ?_)
  · rw [if_pos hc2] at hF
    refine jx_aload_n E dX5_windowOf_29 0 rfl ?_
    refine jx_ldc (x := -1000001) E dX5_windowOf_30 (List.mem_cons_of_mem _ tw_320) ?_
    obtain ⟨⟨r3, v3⟩, hc3, hF⟩ := jx_bind hF
    try dsimp only at hF
    refine jx_callVi (As := [.int (-1000001)]) (st := []) (h := 0) E dX5_windowOf_32 1 rfl (k_X5_finds hI (-1000001) v1 r3 v3 hc3) (gb_V (List.mem_cons_of_mem _ tw_344) (List.mem_cons_of_mem _ tw_345) (List.mem_cons_of_mem _ tw_346) (List.mem_cons_of_mem _ tw_325) tw_343) rfl rfl rfl dd_X5_finds rfl (Nat.le_of_ble_eq_true rfl) s_M0 rfl ⟨by decide, by decide⟩ ⟨Nat.le_refl 0, Nat.le_refl 0⟩ (Nat.le_of_ble_eq_true rfl) ?_
    obtain ⟨rfl, rfl⟩ := jx_out hF
    exact jx_iret E dX5_windowOf_35 rfl
  · rw [if_neg hc2] at hF
    refine jx_iload_n E dX5_windowOf_8 2 rfl ?_
    refine jx_i2l E dX5_windowOf_9 ?_
    refine jx_lconst (x := 0) E dX5_windowOf_10 (by decide) ?_
    refine jx_ldc2 (x := 5) E dX5_windowOf_11 (List.mem_cons_of_mem _ tw_400) ?_
    obtain ⟨⟨r4, v4⟩, hc4, hF⟩ := jx_bind hF
    try dsimp only at hF
    refine jx_callSi (As := [.long (Int32.toInt64 x2), .long 0, .long 5]) (st := []) E dX5_windowOf_14 3 rfl (k_X5_in hI (Int32.toInt64 x2) 0 5 v1 r4 v4 hc4) (gb_S (List.mem_cons_of_mem _ tw_323) (List.mem_cons_of_mem _ tw_324) (List.mem_cons_of_mem _ tw_325) tw_322) rfl rfl rfl dd_X5_in rfl ⟨by decide, by decide⟩ ⟨Nat.le_refl 0, Nat.le_refl 0⟩ (Nat.le_of_ble_eq_true rfl) ?_
    refine jx_if_eq (tgt := 29) E dX5_windowOf_17 (by decide) (fun hc5 => ?_) (fun hc5 => ?_)
    · rw [if_pos hc5] at hF
      refine jx_aload_n E dX5_windowOf_29 0 rfl ?_
      refine jx_ldc (x := -1000001) E dX5_windowOf_30 (List.mem_cons_of_mem _ tw_320) ?_
      obtain ⟨⟨r6, v6⟩, hc6, hF⟩ := jx_bind hF
      try dsimp only at hF
      refine jx_callVi (As := [.int (-1000001)]) (st := []) (h := 0) E dX5_windowOf_32 1 rfl (k_X5_finds hI (-1000001) v4 r6 v6 hc6) (gb_V (List.mem_cons_of_mem _ tw_344) (List.mem_cons_of_mem _ tw_345) (List.mem_cons_of_mem _ tw_346) (List.mem_cons_of_mem _ tw_325) tw_343) rfl rfl rfl dd_X5_finds rfl (Nat.le_of_ble_eq_true rfl) s_M0 rfl ⟨by decide, by decide⟩ ⟨Nat.le_refl 0, Nat.le_refl 0⟩ (Nat.le_of_ble_eq_true rfl) ?_
      obtain ⟨rfl, rfl⟩ := jx_out hF
      exact jx_iret E dX5_windowOf_35 rfl
    · rw [if_neg hc5] at hF
      refine jx_aload_n E dX5_windowOf_20 0 rfl ?_
      refine jx_iload_n E dX5_windowOf_21 1 rfl ?_
      refine jx_iload_n E dX5_windowOf_22 2 rfl ?_
      obtain ⟨⟨r7, v7⟩, hc7, hF⟩ := jx_bind hF
      try dsimp only at hF
      refine jx_callVi (As := [.int x1, .int x2]) (st := []) (h := 0) E dX5_windowOf_23 2 rfl (k_X5_told hI x1 x2 v4 r7 v7 hc7) (gb_V (List.mem_cons_of_mem _ tw_402) (List.mem_cons_of_mem _ tw_403) (List.mem_cons_of_mem _ tw_404) (List.mem_cons_of_mem _ tw_325) tw_401) rfl rfl rfl dd_X5_told rfl (Nat.le_of_ble_eq_true rfl) s_M0 rfl ⟨by decide, by decide⟩ ⟨Nat.le_refl 0, Nat.le_refl 0⟩ (Nat.le_of_ble_eq_true rfl) ?_
      refine jx_goto (tgt := 35) E dX5_windowOf_26 (by decide) ?_
      obtain ⟨rfl, rfl⟩ := jx_out hF
      exact jx_iret E dX5_windowOf_35 rfl
def f_X5_turn (x1 : Int32) (x2 : Int32) (x3 : Int32) (v : jx_V) : Option (Int32 × jx_V) := ((f_X5_isWindow x1 v).bind (fun (r1, v1) => (if r1 = 0 then ((f_X5_finds (-1000001) v1).bind (fun (r3, v3) => (some (r3, v3)))) else ((f_X5_in (Int32.toInt64 x2) 1 3 v1).bind (fun (r4, v4) => (if r4 = 0 then ((f_X5_finds (-1000001) v4).bind (fun (r6, v6) => (some (r6, v6)))) else (if x2 = 1 then ((f_X5_in (Int32.toInt64 x3) 0 9 v4).bind (fun (r14, v14) => (if r14 = 0 then ((f_X5_finds (-1000001) v14).bind (fun (r19, v19) => (some (r19, v19)))) else ((f_X5_told x1 x2 v14).bind (fun (r16, v16) => ((f_X5_where x1 x2 v16).bind (fun (r17, v17) => (if (r17 < 0 ∨ 181 ≤ Int32.toNatClampNeg r17) then none else (some (r16, (jx_up v17 1 (Int32.toNatClampNeg r17) x3))))))))))) else ((f_X5_in (Int32.toInt64 x3) 0 3 v4).bind (fun (r8, v8) => (if r8 = 0 then ((f_X5_finds (-1000001) v8).bind (fun (r13, v13) => (some (r13, v13)))) else ((f_X5_told x1 x2 v8).bind (fun (r10, v10) => ((f_X5_where x1 x2 v10).bind (fun (r11, v11) => (if (r11 < 0 ∨ 181 ≤ Int32.toNatClampNeg r11) then none else (some (r10, (jx_up v11 1 (Int32.toNatClampNeg r11) x3))))))))))))))))))
def rm_X5_turn : Room := { frames := 2, cells := 0, slots := 0, locals := 46 }
set_option maxHeartbeats 4000000 in
set_option maxRecDepth 100000 in
theorem k_X5_turn {l : Launch} {D : va_G} {cI cJ : ClassId} {ad : Nat → Nat} {A : Nat → Prop} (hI : jx_inj 13 ad A) (x1 : Int32) (x2 : Int32) (x3 : Int32) (v : jx_V) (r : Int32) (v' : jx_V) (hF : f_X5_turn x1 x2 x3 v = some (r, v')) : jx_Ci l D vwCl 13 cI cJ ad shM A ex_M yX5_turn (Cond.code yX5_turn cX5_turn 5 (some .int) :: bigT) rm_X5_turn [.ref (ad 0), .int x1, .int x2, .int x3] v r v' := by
  unfold f_X5_turn at hF
  refine jx_enteri bigT RX5 cX5_turn 5 (some .int) [(0, .ref (ad 0)), (1, .int x1), (2, .int x2), (3, .int x3)] hI (ex_M_ok A) (by decide +kernel) rfl (Nat.le_of_ble_eq_true rfl) rfl rfl ?_
  intro p e s m args below meth c E
  have iX5 : ∀ w ∈ u_ws RX5 TX5 21, w ∈ (Cond.code yX5_turn cX5_turn 5 (some .int) :: bigT) := fun w h => List.mem_cons_of_mem _ (uw_X5 w h)
  refine jx_aload_n E dX5_turn_0 0 rfl ?_
  refine jx_iload_n E dX5_turn_1 1 rfl ?_
  obtain ⟨⟨r1, v1⟩, hc1, hF⟩ := jx_bind hF
  try dsimp only at hF
  refine jx_callVi (As := [.int x1]) (st := []) (h := 0) E dX5_turn_2 1 rfl (k_X5_isWindow hI x1 v r1 v1 hc1) (gb_V (List.mem_cons_of_mem _ tw_397) (List.mem_cons_of_mem _ tw_398) (List.mem_cons_of_mem _ tw_399) (List.mem_cons_of_mem _ tw_325) tw_396) rfl rfl rfl dd_X5_isWindow rfl (Nat.le_of_ble_eq_true rfl) s_M0 rfl ⟨by decide, by decide⟩ ⟨Nat.le_refl 0, Nat.le_refl 0⟩ (Nat.le_of_ble_eq_true rfl) ?_
  refine jx_if_eq (tgt := 43) E dX5_turn_5 (by decide) (fun hc2 => ?_) (fun hc2 => ?_)
  · rw [if_pos hc2] at hF
    refine jx_aload_n E dX5_turn_43 0 rfl ?_
    refine jx_ldc (x := -1000001) E dX5_turn_44 (List.mem_cons_of_mem _ tw_320) ?_
    obtain ⟨⟨r3, v3⟩, hc3, hF⟩ := jx_bind hF
    try dsimp only at hF
    refine jx_callVi (As := [.int (-1000001)]) (st := []) (h := 0) E dX5_turn_46 1 rfl (k_X5_finds hI (-1000001) v1 r3 v3 hc3) (gb_V (List.mem_cons_of_mem _ tw_344) (List.mem_cons_of_mem _ tw_345) (List.mem_cons_of_mem _ tw_346) (List.mem_cons_of_mem _ tw_325) tw_343) rfl rfl rfl dd_X5_finds rfl (Nat.le_of_ble_eq_true rfl) s_M0 rfl ⟨by decide, by decide⟩ ⟨Nat.le_refl 0, Nat.le_refl 0⟩ (Nat.le_of_ble_eq_true rfl) ?_
    obtain ⟨rfl, rfl⟩ := jx_out hF
    exact jx_iret E dX5_turn_49 rfl
  · rw [if_neg hc2] at hF
    refine jx_iload_n E dX5_turn_8 2 rfl ?_
    refine jx_i2l E dX5_turn_9 ?_
    refine jx_lconst (x := 1) E dX5_turn_10 (by decide) ?_
    refine jx_ldc2 (x := 3) E dX5_turn_11 (List.mem_cons_of_mem _ tw_326) ?_
    obtain ⟨⟨r4, v4⟩, hc4, hF⟩ := jx_bind hF
    try dsimp only at hF
    refine jx_callSi (As := [.long (Int32.toInt64 x2), .long 1, .long 3]) (st := []) E dX5_turn_14 3 rfl (k_X5_in hI (Int32.toInt64 x2) 1 3 v1 r4 v4 hc4) (gb_S (List.mem_cons_of_mem _ tw_323) (List.mem_cons_of_mem _ tw_324) (List.mem_cons_of_mem _ tw_325) tw_322) rfl rfl rfl dd_X5_in rfl ⟨by decide, by decide⟩ ⟨Nat.le_refl 0, Nat.le_refl 0⟩ (Nat.le_of_ble_eq_true rfl) ?_
    refine jx_if_eq (tgt := 43) E dX5_turn_17 (by decide) (fun hc5 => ?_) (fun hc5 => ?_)
    · rw [if_pos hc5] at hF
      refine jx_aload_n E dX5_turn_43 0 rfl ?_
      refine jx_ldc (x := -1000001) E dX5_turn_44 (List.mem_cons_of_mem _ tw_320) ?_
      obtain ⟨⟨r6, v6⟩, hc6, hF⟩ := jx_bind hF
      try dsimp only at hF
      refine jx_callVi (As := [.int (-1000001)]) (st := []) (h := 0) E dX5_turn_46 1 rfl (k_X5_finds hI (-1000001) v4 r6 v6 hc6) (gb_V (List.mem_cons_of_mem _ tw_344) (List.mem_cons_of_mem _ tw_345) (List.mem_cons_of_mem _ tw_346) (List.mem_cons_of_mem _ tw_325) tw_343) rfl rfl rfl dd_X5_finds rfl (Nat.le_of_ble_eq_true rfl) s_M0 rfl ⟨by decide, by decide⟩ ⟨Nat.le_refl 0, Nat.le_refl 0⟩ (Nat.le_of_ble_eq_true rfl) ?_
      obtain ⟨rfl, rfl⟩ := jx_out hF
      exact jx_iret E dX5_turn_49 rfl
    · rw [if_neg hc5] at hF
      refine jx_iload_n E dX5_turn_20 3 rfl ?_
      refine jx_i2l E dX5_turn_21 ?_
      refine jx_lconst (x := 0) E dX5_turn_22 (by decide) ?_
      refine jx_iload_n E dX5_turn_23 2 rfl ?_
      refine jx_iconst (x := 1) E dX5_turn_24 (by decide) ?_
      refine jx_icmp_ne (tgt := 34) E dX5_turn_25 (by decide) (fun hc7 => ?_) (fun hc7 => ?_)
      · rw [if_neg hc7] at hF
        refine jx_ldc2 (x := 3) E dX5_turn_34 (List.mem_cons_of_mem _ tw_326) ?_
        obtain ⟨⟨r8, v8⟩, hc8, hF⟩ := jx_bind hF
        try dsimp only at hF
        refine jx_callSi (As := [.long (Int32.toInt64 x3), .long 0, .long 3]) (st := []) E dX5_turn_37 3 rfl (k_X5_in hI (Int32.toInt64 x3) 0 3 v4 r8 v8 hc8) (gb_S (List.mem_cons_of_mem _ tw_323) (List.mem_cons_of_mem _ tw_324) (List.mem_cons_of_mem _ tw_325) tw_322) rfl rfl rfl dd_X5_in rfl ⟨by decide, by decide⟩ ⟨Nat.le_refl 0, Nat.le_refl 0⟩ (Nat.le_of_ble_eq_true rfl) ?_
        refine jx_if_ne (tgt := 50) E dX5_turn_40 (by decide) (fun hc9 => ?_) (fun hc9 => ?_)
        · rw [if_neg hc9] at hF
          refine jx_aload_n E dX5_turn_50 0 rfl ?_
          refine jx_iload_n E dX5_turn_51 1 rfl ?_
          refine jx_iload_n E dX5_turn_52 2 rfl ?_
          obtain ⟨⟨r10, v10⟩, hc10, hF⟩ := jx_bind hF
          try dsimp only at hF
          refine jx_callVi (As := [.int x1, .int x2]) (st := []) (h := 0) E dX5_turn_53 2 rfl (k_X5_told hI x1 x2 v8 r10 v10 hc10) (gb_V (List.mem_cons_of_mem _ tw_402) (List.mem_cons_of_mem _ tw_403) (List.mem_cons_of_mem _ tw_404) (List.mem_cons_of_mem _ tw_325) tw_401) rfl rfl rfl dd_X5_told rfl (Nat.le_of_ble_eq_true rfl) s_M0 rfl ⟨by decide, by decide⟩ ⟨Nat.le_refl 0, Nat.le_refl 0⟩ (Nat.le_of_ble_eq_true rfl) ?_
          refine jx_istore (lv' := [(4, .int r10), (0, .ref (ad 0)), (1, .int x1), (2, .int x2), (3, .int x3)]) E dX5_turn_56 (by decide) rfl ?_
          refine jx_aload_n E dX5_turn_58 1 rfl ?_
          refine jx_getr (C := RX5) (T := TX5) (M := 21) (k := 0) E dX5_turn_59 (Nat.le_of_ble_eq_true rfl) s_M0 rfl iX5 (by decide) rfl (List.mem_cons_of_mem _ tw_328) rfl ?_
          refine jx_iload_n E dX5_turn_62 2 rfl ?_
          refine jx_iload_n E dX5_turn_63 3 rfl ?_
          obtain ⟨⟨r11, v11⟩, hc11, hF⟩ := jx_bind hF
          try dsimp only at hF
          refine jx_callSi (As := [.int x1, .int x2]) (st := [.ref (ad 1)]) E dX5_turn_64 2 rfl (k_X5_where hI x1 x2 v10 r11 v11 hc11) (gb_S (List.mem_cons_of_mem _ tw_389) (List.mem_cons_of_mem _ tw_390) (List.mem_cons_of_mem _ tw_325) tw_388) rfl rfl rfl dd_X5_where rfl ⟨by decide, by decide⟩ ⟨Nat.le_refl 0, Nat.le_refl 0⟩ (Nat.le_of_ble_eq_true rfl) ?_
          refine jx_iload_n E dX5_turn_67 4 rfl ?_
          obtain ⟨hg12, hF⟩ := jx_guard hF
          refine jx_iast (h := 1) (j := (Int32.toNatClampNeg r11)) E dX5_turn_68 (Nat.le_of_ble_eq_true rfl) s_M1 hg12 rfl ?_
          refine jx_iload E dX5_turn_69 0 rfl ?_
          obtain ⟨rfl, rfl⟩ := jx_out hF
          exact jx_iret E dX5_turn_71 rfl
        · rw [if_pos hc9] at hF
          refine jx_aload_n E dX5_turn_43 0 rfl ?_
          refine jx_ldc (x := -1000001) E dX5_turn_44 (List.mem_cons_of_mem _ tw_320) ?_
          obtain ⟨⟨r13, v13⟩, hc13, hF⟩ := jx_bind hF
          try dsimp only at hF
          refine jx_callVi (As := [.int (-1000001)]) (st := []) (h := 0) E dX5_turn_46 1 rfl (k_X5_finds hI (-1000001) v8 r13 v13 hc13) (gb_V (List.mem_cons_of_mem _ tw_344) (List.mem_cons_of_mem _ tw_345) (List.mem_cons_of_mem _ tw_346) (List.mem_cons_of_mem _ tw_325) tw_343) rfl rfl rfl dd_X5_finds rfl (Nat.le_of_ble_eq_true rfl) s_M0 rfl ⟨by decide, by decide⟩ ⟨Nat.le_refl 0, Nat.le_refl 0⟩ (Nat.le_of_ble_eq_true rfl) ?_
          obtain ⟨rfl, rfl⟩ := jx_out hF
          exact jx_iret E dX5_turn_49 rfl
      · rw [if_pos hc7] at hF
        refine jx_ldc2 (x := 9) E dX5_turn_28 (List.mem_cons_of_mem _ tw_327) ?_
        refine jx_goto (tgt := 37) E dX5_turn_31 (by decide) ?_
        obtain ⟨⟨r14, v14⟩, hc14, hF⟩ := jx_bind hF
        try dsimp only at hF
        refine jx_callSi (As := [.long (Int32.toInt64 x3), .long 0, .long 9]) (st := []) E dX5_turn_37 3 rfl (k_X5_in hI (Int32.toInt64 x3) 0 9 v4 r14 v14 hc14) (gb_S (List.mem_cons_of_mem _ tw_323) (List.mem_cons_of_mem _ tw_324) (List.mem_cons_of_mem _ tw_325) tw_322) rfl rfl rfl dd_X5_in rfl ⟨by decide, by decide⟩ ⟨Nat.le_refl 0, Nat.le_refl 0⟩ (Nat.le_of_ble_eq_true rfl) ?_
        refine jx_if_ne (tgt := 50) E dX5_turn_40 (by decide) (fun hc15 => ?_) (fun hc15 => ?_)
        · rw [if_neg hc15] at hF
          refine jx_aload_n E dX5_turn_50 0 rfl ?_
          refine jx_iload_n E dX5_turn_51 1 rfl ?_
          refine jx_iload_n E dX5_turn_52 2 rfl ?_
          obtain ⟨⟨r16, v16⟩, hc16, hF⟩ := jx_bind hF
          try dsimp only at hF
          refine jx_callVi (As := [.int x1, .int x2]) (st := []) (h := 0) E dX5_turn_53 2 rfl (k_X5_told hI x1 x2 v14 r16 v16 hc16) (gb_V (List.mem_cons_of_mem _ tw_402) (List.mem_cons_of_mem _ tw_403) (List.mem_cons_of_mem _ tw_404) (List.mem_cons_of_mem _ tw_325) tw_401) rfl rfl rfl dd_X5_told rfl (Nat.le_of_ble_eq_true rfl) s_M0 rfl ⟨by decide, by decide⟩ ⟨Nat.le_refl 0, Nat.le_refl 0⟩ (Nat.le_of_ble_eq_true rfl) ?_
          refine jx_istore (lv' := [(4, .int r16), (0, .ref (ad 0)), (1, .int x1), (2, .int x2), (3, .int x3)]) E dX5_turn_56 (by decide) rfl ?_
          refine jx_aload_n E dX5_turn_58 1 rfl ?_
          refine jx_getr (C := RX5) (T := TX5) (M := 21) (k := 0) E dX5_turn_59 (Nat.le_of_ble_eq_true rfl) s_M0 rfl iX5 (by decide) rfl (List.mem_cons_of_mem _ tw_328) rfl ?_
          refine jx_iload_n E dX5_turn_62 2 rfl ?_
          refine jx_iload_n E dX5_turn_63 3 rfl ?_
          obtain ⟨⟨r17, v17⟩, hc17, hF⟩ := jx_bind hF
          try dsimp only at hF
          refine jx_callSi (As := [.int x1, .int x2]) (st := [.ref (ad 1)]) E dX5_turn_64 2 rfl (k_X5_where hI x1 x2 v16 r17 v17 hc17) (gb_S (List.mem_cons_of_mem _ tw_389) (List.mem_cons_of_mem _ tw_390) (List.mem_cons_of_mem _ tw_325) tw_388) rfl rfl rfl dd_X5_where rfl ⟨by decide, by decide⟩ ⟨Nat.le_refl 0, Nat.le_refl 0⟩ (Nat.le_of_ble_eq_true rfl) ?_
          refine jx_iload_n E dX5_turn_67 4 rfl ?_
          obtain ⟨hg18, hF⟩ := jx_guard hF
          refine jx_iast (h := 1) (j := (Int32.toNatClampNeg r17)) E dX5_turn_68 (Nat.le_of_ble_eq_true rfl) s_M1 hg18 rfl ?_
          refine jx_iload E dX5_turn_69 0 rfl ?_
          obtain ⟨rfl, rfl⟩ := jx_out hF
          exact jx_iret E dX5_turn_71 rfl
        · rw [if_pos hc15] at hF
          refine jx_aload_n E dX5_turn_43 0 rfl ?_
          refine jx_ldc (x := -1000001) E dX5_turn_44 (List.mem_cons_of_mem _ tw_320) ?_
          obtain ⟨⟨r19, v19⟩, hc19, hF⟩ := jx_bind hF
          try dsimp only at hF
          refine jx_callVi (As := [.int (-1000001)]) (st := []) (h := 0) E dX5_turn_46 1 rfl (k_X5_finds hI (-1000001) v14 r19 v19 hc19) (gb_V (List.mem_cons_of_mem _ tw_344) (List.mem_cons_of_mem _ tw_345) (List.mem_cons_of_mem _ tw_346) (List.mem_cons_of_mem _ tw_325) tw_343) rfl rfl rfl dd_X5_finds rfl (Nat.le_of_ble_eq_true rfl) s_M0 rfl ⟨by decide, by decide⟩ ⟨Nat.le_refl 0, Nat.le_refl 0⟩ (Nat.le_of_ble_eq_true rfl) ?_
          obtain ⟨rfl, rfl⟩ := jx_out hF
          exact jx_iret E dX5_turn_49 rfl
def f_X5_lotAt (x0 : Int32) (x1 : Int32) (x2 : Int32) (v : jx_V) : Option (Int32 × jx_V) := (if x1 = 0 then (if x1 = 1 then ((f_X5_in (Int32.toInt64 ((x0 / 5) + (0 - x2))) 0 4 v).bind (fun (r41, v41) => (if r41 = 0 then (some ((-1), v41)) else ((f_X5_in (Int32.toInt64 ((x0 - x0 / 5 * 5) + x2)) 0 4 v41).bind (fun (r43, v43) => (if r43 = 0 then (some ((-1), v43)) else (some (((5 * ((x0 / 5) + (0 - x2))) + ((x0 - x0 / 5 * 5) + x2)), v43)))))))) else (if x1 = 3 then ((f_X5_in (Int32.toInt64 ((x0 / 5) + (0 - x2))) 0 4 v).bind (fun (r37, v37) => (if r37 = 0 then (some ((-1), v37)) else ((f_X5_in (Int32.toInt64 ((x0 - x0 / 5 * 5) + (0 - x2))) 0 4 v37).bind (fun (r39, v39) => (if r39 = 0 then (some ((-1), v39)) else (some (((5 * ((x0 / 5) + (0 - x2))) + ((x0 - x0 / 5 * 5) + (0 - x2))), v39)))))))) else ((f_X5_in (Int32.toInt64 ((x0 / 5) + (0 - x2))) 0 4 v).bind (fun (r33, v33) => (if r33 = 0 then (some ((-1), v33)) else ((f_X5_in (Int32.toInt64 ((x0 - x0 / 5 * 5) + 0)) 0 4 v33).bind (fun (r35, v35) => (if r35 = 0 then (some ((-1), v35)) else (some (((5 * ((x0 / 5) + (0 - x2))) + ((x0 - x0 / 5 * 5) + 0)), v35)))))))))) else (if x1 = 2 then (if x1 = 1 then ((f_X5_in (Int32.toInt64 ((x0 / 5) + x2)) 0 4 v).bind (fun (r27, v27) => (if r27 = 0 then (some ((-1), v27)) else ((f_X5_in (Int32.toInt64 ((x0 - x0 / 5 * 5) + x2)) 0 4 v27).bind (fun (r29, v29) => (if r29 = 0 then (some ((-1), v29)) else (some (((5 * ((x0 / 5) + x2)) + ((x0 - x0 / 5 * 5) + x2)), v29)))))))) else (if x1 = 3 then ((f_X5_in (Int32.toInt64 ((x0 / 5) + x2)) 0 4 v).bind (fun (r23, v23) => (if r23 = 0 then (some ((-1), v23)) else ((f_X5_in (Int32.toInt64 ((x0 - x0 / 5 * 5) + (0 - x2))) 0 4 v23).bind (fun (r25, v25) => (if r25 = 0 then (some ((-1), v25)) else (some (((5 * ((x0 / 5) + x2)) + ((x0 - x0 / 5 * 5) + (0 - x2))), v25)))))))) else ((f_X5_in (Int32.toInt64 ((x0 / 5) + x2)) 0 4 v).bind (fun (r19, v19) => (if r19 = 0 then (some ((-1), v19)) else ((f_X5_in (Int32.toInt64 ((x0 - x0 / 5 * 5) + 0)) 0 4 v19).bind (fun (r21, v21) => (if r21 = 0 then (some ((-1), v21)) else (some (((5 * ((x0 / 5) + x2)) + ((x0 - x0 / 5 * 5) + 0)), v21)))))))))) else (if x1 = 1 then ((f_X5_in (Int32.toInt64 ((x0 / 5) + 0)) 0 4 v).bind (fun (r13, v13) => (if r13 = 0 then (some ((-1), v13)) else ((f_X5_in (Int32.toInt64 ((x0 - x0 / 5 * 5) + x2)) 0 4 v13).bind (fun (r15, v15) => (if r15 = 0 then (some ((-1), v15)) else (some (((5 * ((x0 / 5) + 0)) + ((x0 - x0 / 5 * 5) + x2)), v15)))))))) else (if x1 = 3 then ((f_X5_in (Int32.toInt64 ((x0 / 5) + 0)) 0 4 v).bind (fun (r9, v9) => (if r9 = 0 then (some ((-1), v9)) else ((f_X5_in (Int32.toInt64 ((x0 - x0 / 5 * 5) + (0 - x2))) 0 4 v9).bind (fun (r11, v11) => (if r11 = 0 then (some ((-1), v11)) else (some (((5 * ((x0 / 5) + 0)) + ((x0 - x0 / 5 * 5) + (0 - x2))), v11)))))))) else ((f_X5_in (Int32.toInt64 ((x0 / 5) + 0)) 0 4 v).bind (fun (r5, v5) => (if r5 = 0 then (some ((-1), v5)) else ((f_X5_in (Int32.toInt64 ((x0 - x0 / 5 * 5) + 0)) 0 4 v5).bind (fun (r7, v7) => (if r7 = 0 then (some ((-1), v7)) else (some (((5 * ((x0 / 5) + 0)) + ((x0 - x0 / 5 * 5) + 0)), v7))))))))))))
def rm_X5_lotAt : Room := { frames := 1, cells := 0, slots := 0, locals := 25 }
set_option maxHeartbeats 4000000 in
set_option maxRecDepth 100000 in
theorem k_X5_lotAt {l : Launch} {D : va_G} {cI cJ : ClassId} {ad : Nat → Nat} {A : Nat → Prop} (hI : jx_inj 13 ad A) (x0 : Int32) (x1 : Int32) (x2 : Int32) (v : jx_V) (r : Int32) (v' : jx_V) (hF : f_X5_lotAt x0 x1 x2 v = some (r, v')) : jx_Ci l D vwCl 13 cI cJ ad shM A ex_M yX5_lotAt (Cond.code yX5_lotAt cX5_lotAt 5 (some .int) :: bigT) rm_X5_lotAt [.int x0, .int x1, .int x2] v r v' := by
  unfold f_X5_lotAt at hF
  refine jx_enteri bigT RX5 cX5_lotAt 5 (some .int) [(0, .int x0), (1, .int x1), (2, .int x2)] hI (ex_M_ok A) (by decide +kernel) rfl (Nat.le_of_ble_eq_true rfl) rfl rfl ?_
  intro p e s m args below meth c E
  refine jx_iload_n E dX5_lotAt_0 0 rfl ?_
  refine jx_iconst (x := 5) E dX5_lotAt_1 (by decide) ?_
  refine jx_idiv E dX5_lotAt_2 (by decide) ?_
  refine jx_iload_n E dX5_lotAt_3 1 rfl ?_
  refine jx_if_ne (tgt := 13) E dX5_lotAt_4 (by decide) (fun hc1 => ?_) (fun hc1 => ?_)
  · rw [if_neg hc1] at hF
    refine jx_iload_n E dX5_lotAt_13 1 rfl ?_
    refine jx_iconst (x := 2) E dX5_lotAt_14 (by decide) ?_
    refine jx_icmp_ne (tgt := 22) E dX5_lotAt_15 (by decide) (fun hc2 => ?_) (fun hc2 => ?_)
    · rw [if_neg hc2] at hF
      refine jx_iconst (x := 0) E dX5_lotAt_22 (by decide) ?_
      refine jx_iadd E dX5_lotAt_23 ?_
      refine jx_istore_n (lv' := [(3, .int ((x0 / 5) + 0)), (0, .int x0), (1, .int x1), (2, .int x2)]) E dX5_lotAt_24 (by decide) rfl ?_
      refine jx_iload_n E dX5_lotAt_25 1 rfl ?_
      refine jx_iconst (x := 5) E dX5_lotAt_26 (by decide) ?_
      refine jx_irem E dX5_lotAt_27 (by decide) ?_
      refine jx_iload_n E dX5_lotAt_28 2 rfl ?_
      refine jx_iconst (x := 1) E dX5_lotAt_29 (by decide) ?_
      refine jx_icmp_ne (tgt := 37) E dX5_lotAt_30 (by decide) (fun hc3 => ?_) (fun hc3 => ?_)
      · rw [if_neg hc3] at hF
        refine jx_iload_n E dX5_lotAt_37 2 rfl ?_
        refine jx_iconst (x := 3) E dX5_lotAt_38 (by decide) ?_
        refine jx_icmp_ne (tgt := 48) E dX5_lotAt_39 (by decide) (fun hc4 => ?_) (fun hc4 => ?_)
        · rw [if_neg hc4] at hF
          refine jx_iconst (x := 0) E dX5_lotAt_48 (by decide) ?_
          refine jx_iadd E dX5_lotAt_49 ?_
          refine jx_istore (lv' := [(4, .int ((x0 - x0 / 5 * 5) + 0)), (3, .int ((x0 / 5) + 0)), (0, .int x0), (1, .int x1), (2, .int x2)]) E dX5_lotAt_50 (by decide) rfl ?_
          refine jx_iload_n E dX5_lotAt_52 1 rfl ?_
          refine jx_i2l E dX5_lotAt_53 ?_
          refine jx_lconst (x := 0) E dX5_lotAt_54 (by decide) ?_
          refine jx_ldc2 (x := 4) E dX5_lotAt_55 (List.mem_cons_of_mem _ tw_405) ?_
          obtain ⟨⟨r5, v5⟩, hc5, hF⟩ := jx_bind hF
          try dsimp only at hF
          refine jx_callSi (As := [.long (Int32.toInt64 ((x0 / 5) + 0)), .long 0, .long 4]) (st := []) E dX5_lotAt_58 3 rfl (k_X5_in hI (Int32.toInt64 ((x0 / 5) + 0)) 0 4 v r5 v5 hc5) (gb_S (List.mem_cons_of_mem _ tw_323) (List.mem_cons_of_mem _ tw_324) (List.mem_cons_of_mem _ tw_325) tw_322) rfl rfl rfl dd_X5_in rfl ⟨by decide, by decide⟩ ⟨Nat.le_refl 0, Nat.le_refl 0⟩ (Nat.le_of_ble_eq_true rfl) ?_
          refine jx_if_eq (tgt := 86) E dX5_lotAt_61 (by decide) (fun hc6 => ?_) (fun hc6 => ?_)
          · rw [if_pos hc6] at hF
            refine jx_iconst (x := -1) E dX5_lotAt_86 (by decide) ?_
            obtain ⟨rfl, rfl⟩ := jx_out hF
            exact jx_iret E dX5_lotAt_87 rfl
          · rw [if_neg hc6] at hF
            refine jx_iload E dX5_lotAt_64 0 rfl ?_
            refine jx_i2l E dX5_lotAt_66 ?_
            refine jx_lconst (x := 0) E dX5_lotAt_67 (by decide) ?_
            refine jx_ldc2 (x := 4) E dX5_lotAt_68 (List.mem_cons_of_mem _ tw_405) ?_
            obtain ⟨⟨r7, v7⟩, hc7, hF⟩ := jx_bind hF
            try dsimp only at hF
            refine jx_callSi (As := [.long (Int32.toInt64 ((x0 - x0 / 5 * 5) + 0)), .long 0, .long 4]) (st := []) E dX5_lotAt_71 3 rfl (k_X5_in hI (Int32.toInt64 ((x0 - x0 / 5 * 5) + 0)) 0 4 v5 r7 v7 hc7) (gb_S (List.mem_cons_of_mem _ tw_323) (List.mem_cons_of_mem _ tw_324) (List.mem_cons_of_mem _ tw_325) tw_322) rfl rfl rfl dd_X5_in rfl ⟨by decide, by decide⟩ ⟨Nat.le_refl 0, Nat.le_refl 0⟩ (Nat.le_of_ble_eq_true rfl) ?_
            refine jx_if_eq (tgt := 86) E dX5_lotAt_74 (by decide) (fun hc8 => ?_) (fun hc8 => ?_)
            · rw [if_pos hc8] at hF
              refine jx_iconst (x := -1) E dX5_lotAt_86 (by decide) ?_
              obtain ⟨rfl, rfl⟩ := jx_out hF
              exact jx_iret E dX5_lotAt_87 rfl
            · rw [if_neg hc8] at hF
              refine jx_iconst (x := 5) E dX5_lotAt_77 (by decide) ?_
              refine jx_iload_n E dX5_lotAt_78 1 rfl ?_
              refine jx_imul E dX5_lotAt_79 ?_
              refine jx_iload E dX5_lotAt_80 0 rfl ?_
              refine jx_iadd E dX5_lotAt_82 ?_
              refine jx_goto (tgt := 87) E dX5_lotAt_83 (by decide) ?_
              obtain ⟨rfl, rfl⟩ := jx_out hF
              exact jx_iret E dX5_lotAt_87 rfl
        · rw [if_pos hc4] at hF
          refine jx_iconst (x := 0) E dX5_lotAt_42 (by decide) ?_
          refine jx_iload_n E dX5_lotAt_43 3 rfl ?_
          refine jx_isub E dX5_lotAt_44 ?_
          refine jx_goto (tgt := 49) E dX5_lotAt_45 (by decide) ?_
          refine jx_iadd E dX5_lotAt_49 ?_
          refine jx_istore (lv' := [(4, .int ((x0 - x0 / 5 * 5) + (0 - x2))), (3, .int ((x0 / 5) + 0)), (0, .int x0), (1, .int x1), (2, .int x2)]) E dX5_lotAt_50 (by decide) rfl ?_
          refine jx_iload_n E dX5_lotAt_52 1 rfl ?_
          refine jx_i2l E dX5_lotAt_53 ?_
          refine jx_lconst (x := 0) E dX5_lotAt_54 (by decide) ?_
          refine jx_ldc2 (x := 4) E dX5_lotAt_55 (List.mem_cons_of_mem _ tw_405) ?_
          obtain ⟨⟨r9, v9⟩, hc9, hF⟩ := jx_bind hF
          try dsimp only at hF
          refine jx_callSi (As := [.long (Int32.toInt64 ((x0 / 5) + 0)), .long 0, .long 4]) (st := []) E dX5_lotAt_58 3 rfl (k_X5_in hI (Int32.toInt64 ((x0 / 5) + 0)) 0 4 v r9 v9 hc9) (gb_S (List.mem_cons_of_mem _ tw_323) (List.mem_cons_of_mem _ tw_324) (List.mem_cons_of_mem _ tw_325) tw_322) rfl rfl rfl dd_X5_in rfl ⟨by decide, by decide⟩ ⟨Nat.le_refl 0, Nat.le_refl 0⟩ (Nat.le_of_ble_eq_true rfl) ?_
          refine jx_if_eq (tgt := 86) E dX5_lotAt_61 (by decide) (fun hc10 => ?_) (fun hc10 => ?_)
          · rw [if_pos hc10] at hF
            refine jx_iconst (x := -1) E dX5_lotAt_86 (by decide) ?_
            obtain ⟨rfl, rfl⟩ := jx_out hF
            exact jx_iret E dX5_lotAt_87 rfl
          · rw [if_neg hc10] at hF
            refine jx_iload E dX5_lotAt_64 0 rfl ?_
            refine jx_i2l E dX5_lotAt_66 ?_
            refine jx_lconst (x := 0) E dX5_lotAt_67 (by decide) ?_
            refine jx_ldc2 (x := 4) E dX5_lotAt_68 (List.mem_cons_of_mem _ tw_405) ?_
            obtain ⟨⟨r11, v11⟩, hc11, hF⟩ := jx_bind hF
            try dsimp only at hF
            refine jx_callSi (As := [.long (Int32.toInt64 ((x0 - x0 / 5 * 5) + (0 - x2))), .long 0, .long 4]) (st := []) E dX5_lotAt_71 3 rfl (k_X5_in hI (Int32.toInt64 ((x0 - x0 / 5 * 5) + (0 - x2))) 0 4 v9 r11 v11 hc11) (gb_S (List.mem_cons_of_mem _ tw_323) (List.mem_cons_of_mem _ tw_324) (List.mem_cons_of_mem _ tw_325) tw_322) rfl rfl rfl dd_X5_in rfl ⟨by decide, by decide⟩ ⟨Nat.le_refl 0, Nat.le_refl 0⟩ (Nat.le_of_ble_eq_true rfl) ?_
            refine jx_if_eq (tgt := 86) E dX5_lotAt_74 (by decide) (fun hc12 => ?_) (fun hc12 => ?_)
            · rw [if_pos hc12] at hF
              refine jx_iconst (x := -1) E dX5_lotAt_86 (by decide) ?_
              obtain ⟨rfl, rfl⟩ := jx_out hF
              exact jx_iret E dX5_lotAt_87 rfl
            · rw [if_neg hc12] at hF
              refine jx_iconst (x := 5) E dX5_lotAt_77 (by decide) ?_
              refine jx_iload_n E dX5_lotAt_78 1 rfl ?_
              refine jx_imul E dX5_lotAt_79 ?_
              refine jx_iload E dX5_lotAt_80 0 rfl ?_
              refine jx_iadd E dX5_lotAt_82 ?_
              refine jx_goto (tgt := 87) E dX5_lotAt_83 (by decide) ?_
              obtain ⟨rfl, rfl⟩ := jx_out hF
              exact jx_iret E dX5_lotAt_87 rfl
      · rw [if_pos hc3] at hF
        refine jx_iload_n E dX5_lotAt_33 3 rfl ?_
        refine jx_goto (tgt := 49) E dX5_lotAt_34 (by decide) ?_
        refine jx_iadd E dX5_lotAt_49 ?_
        refine jx_istore (lv' := [(4, .int ((x0 - x0 / 5 * 5) + x2)), (3, .int ((x0 / 5) + 0)), (0, .int x0), (1, .int x1), (2, .int x2)]) E dX5_lotAt_50 (by decide) rfl ?_
        refine jx_iload_n E dX5_lotAt_52 1 rfl ?_
        refine jx_i2l E dX5_lotAt_53 ?_
        refine jx_lconst (x := 0) E dX5_lotAt_54 (by decide) ?_
        refine jx_ldc2 (x := 4) E dX5_lotAt_55 (List.mem_cons_of_mem _ tw_405) ?_
        obtain ⟨⟨r13, v13⟩, hc13, hF⟩ := jx_bind hF
        try dsimp only at hF
        refine jx_callSi (As := [.long (Int32.toInt64 ((x0 / 5) + 0)), .long 0, .long 4]) (st := []) E dX5_lotAt_58 3 rfl (k_X5_in hI (Int32.toInt64 ((x0 / 5) + 0)) 0 4 v r13 v13 hc13) (gb_S (List.mem_cons_of_mem _ tw_323) (List.mem_cons_of_mem _ tw_324) (List.mem_cons_of_mem _ tw_325) tw_322) rfl rfl rfl dd_X5_in rfl ⟨by decide, by decide⟩ ⟨Nat.le_refl 0, Nat.le_refl 0⟩ (Nat.le_of_ble_eq_true rfl) ?_
        refine jx_if_eq (tgt := 86) E dX5_lotAt_61 (by decide) (fun hc14 => ?_) (fun hc14 => ?_)
        · rw [if_pos hc14] at hF
          refine jx_iconst (x := -1) E dX5_lotAt_86 (by decide) ?_
          obtain ⟨rfl, rfl⟩ := jx_out hF
          exact jx_iret E dX5_lotAt_87 rfl
        · rw [if_neg hc14] at hF
          refine jx_iload E dX5_lotAt_64 0 rfl ?_
          refine jx_i2l E dX5_lotAt_66 ?_
          refine jx_lconst (x := 0) E dX5_lotAt_67 (by decide) ?_
          refine jx_ldc2 (x := 4) E dX5_lotAt_68 (List.mem_cons_of_mem _ tw_405) ?_
          obtain ⟨⟨r15, v15⟩, hc15, hF⟩ := jx_bind hF
          try dsimp only at hF
          refine jx_callSi (As := [.long (Int32.toInt64 ((x0 - x0 / 5 * 5) + x2)), .long 0, .long 4]) (st := []) E dX5_lotAt_71 3 rfl (k_X5_in hI (Int32.toInt64 ((x0 - x0 / 5 * 5) + x2)) 0 4 v13 r15 v15 hc15) (gb_S (List.mem_cons_of_mem _ tw_323) (List.mem_cons_of_mem _ tw_324) (List.mem_cons_of_mem _ tw_325) tw_322) rfl rfl rfl dd_X5_in rfl ⟨by decide, by decide⟩ ⟨Nat.le_refl 0, Nat.le_refl 0⟩ (Nat.le_of_ble_eq_true rfl) ?_
          refine jx_if_eq (tgt := 86) E dX5_lotAt_74 (by decide) (fun hc16 => ?_) (fun hc16 => ?_)
          · rw [if_pos hc16] at hF
            refine jx_iconst (x := -1) E dX5_lotAt_86 (by decide) ?_
            obtain ⟨rfl, rfl⟩ := jx_out hF
            exact jx_iret E dX5_lotAt_87 rfl
          · rw [if_neg hc16] at hF
            refine jx_iconst (x := 5) E dX5_lotAt_77 (by decide) ?_
            refine jx_iload_n E dX5_lotAt_78 1 rfl ?_
            refine jx_imul E dX5_lotAt_79 ?_
            refine jx_iload E dX5_lotAt_80 0 rfl ?_
            refine jx_iadd E dX5_lotAt_82 ?_
            refine jx_goto (tgt := 87) E dX5_lotAt_83 (by decide) ?_
            obtain ⟨rfl, rfl⟩ := jx_out hF
            exact jx_iret E dX5_lotAt_87 rfl
    · rw [if_pos hc2] at hF
      refine jx_iload_n E dX5_lotAt_18 2 rfl ?_
      refine jx_goto (tgt := 23) E dX5_lotAt_19 (by decide) ?_
      refine jx_iadd E dX5_lotAt_23 ?_
      refine jx_istore_n (lv' := [(3, .int ((x0 / 5) + x2)), (0, .int x0), (1, .int x1), (2, .int x2)]) E dX5_lotAt_24 (by decide) rfl ?_
      refine jx_iload_n E dX5_lotAt_25 1 rfl ?_
      refine jx_iconst (x := 5) E dX5_lotAt_26 (by decide) ?_
      refine jx_irem E dX5_lotAt_27 (by decide) ?_
      refine jx_iload_n E dX5_lotAt_28 2 rfl ?_
      refine jx_iconst (x := 1) E dX5_lotAt_29 (by decide) ?_
      refine jx_icmp_ne (tgt := 37) E dX5_lotAt_30 (by decide) (fun hc17 => ?_) (fun hc17 => ?_)
      · rw [if_neg hc17] at hF
        refine jx_iload_n E dX5_lotAt_37 2 rfl ?_
        refine jx_iconst (x := 3) E dX5_lotAt_38 (by decide) ?_
        refine jx_icmp_ne (tgt := 48) E dX5_lotAt_39 (by decide) (fun hc18 => ?_) (fun hc18 => ?_)
        · rw [if_neg hc18] at hF
          refine jx_iconst (x := 0) E dX5_lotAt_48 (by decide) ?_
          refine jx_iadd E dX5_lotAt_49 ?_
          refine jx_istore (lv' := [(4, .int ((x0 - x0 / 5 * 5) + 0)), (3, .int ((x0 / 5) + x2)), (0, .int x0), (1, .int x1), (2, .int x2)]) E dX5_lotAt_50 (by decide) rfl ?_
          refine jx_iload_n E dX5_lotAt_52 1 rfl ?_
          refine jx_i2l E dX5_lotAt_53 ?_
          refine jx_lconst (x := 0) E dX5_lotAt_54 (by decide) ?_
          refine jx_ldc2 (x := 4) E dX5_lotAt_55 (List.mem_cons_of_mem _ tw_405) ?_
          obtain ⟨⟨r19, v19⟩, hc19, hF⟩ := jx_bind hF
          try dsimp only at hF
          refine jx_callSi (As := [.long (Int32.toInt64 ((x0 / 5) + x2)), .long 0, .long 4]) (st := []) E dX5_lotAt_58 3 rfl (k_X5_in hI (Int32.toInt64 ((x0 / 5) + x2)) 0 4 v r19 v19 hc19) (gb_S (List.mem_cons_of_mem _ tw_323) (List.mem_cons_of_mem _ tw_324) (List.mem_cons_of_mem _ tw_325) tw_322) rfl rfl rfl dd_X5_in rfl ⟨by decide, by decide⟩ ⟨Nat.le_refl 0, Nat.le_refl 0⟩ (Nat.le_of_ble_eq_true rfl) ?_
          refine jx_if_eq (tgt := 86) E dX5_lotAt_61 (by decide) (fun hc20 => ?_) (fun hc20 => ?_)
          · rw [if_pos hc20] at hF
            refine jx_iconst (x := -1) E dX5_lotAt_86 (by decide) ?_
            obtain ⟨rfl, rfl⟩ := jx_out hF
            exact jx_iret E dX5_lotAt_87 rfl
          · rw [if_neg hc20] at hF
            refine jx_iload E dX5_lotAt_64 0 rfl ?_
            refine jx_i2l E dX5_lotAt_66 ?_
            refine jx_lconst (x := 0) E dX5_lotAt_67 (by decide) ?_
            refine jx_ldc2 (x := 4) E dX5_lotAt_68 (List.mem_cons_of_mem _ tw_405) ?_
            obtain ⟨⟨r21, v21⟩, hc21, hF⟩ := jx_bind hF
            try dsimp only at hF
            refine jx_callSi (As := [.long (Int32.toInt64 ((x0 - x0 / 5 * 5) + 0)), .long 0, .long 4]) (st := []) E dX5_lotAt_71 3 rfl (k_X5_in hI (Int32.toInt64 ((x0 - x0 / 5 * 5) + 0)) 0 4 v19 r21 v21 hc21) (gb_S (List.mem_cons_of_mem _ tw_323) (List.mem_cons_of_mem _ tw_324) (List.mem_cons_of_mem _ tw_325) tw_322) rfl rfl rfl dd_X5_in rfl ⟨by decide, by decide⟩ ⟨Nat.le_refl 0, Nat.le_refl 0⟩ (Nat.le_of_ble_eq_true rfl) ?_
            refine jx_if_eq (tgt := 86) E dX5_lotAt_74 (by decide) (fun hc22 => ?_) (fun hc22 => ?_)
            · rw [if_pos hc22] at hF
              refine jx_iconst (x := -1) E dX5_lotAt_86 (by decide) ?_
              obtain ⟨rfl, rfl⟩ := jx_out hF
              exact jx_iret E dX5_lotAt_87 rfl
            · rw [if_neg hc22] at hF
              refine jx_iconst (x := 5) E dX5_lotAt_77 (by decide) ?_
              refine jx_iload_n E dX5_lotAt_78 1 rfl ?_
              refine jx_imul E dX5_lotAt_79 ?_
              refine jx_iload E dX5_lotAt_80 0 rfl ?_
              refine jx_iadd E dX5_lotAt_82 ?_
              refine jx_goto (tgt := 87) E dX5_lotAt_83 (by decide) ?_
              obtain ⟨rfl, rfl⟩ := jx_out hF
              exact jx_iret E dX5_lotAt_87 rfl
        · rw [if_pos hc18] at hF
          refine jx_iconst (x := 0) E dX5_lotAt_42 (by decide) ?_
          refine jx_iload_n E dX5_lotAt_43 3 rfl ?_
          refine jx_isub E dX5_lotAt_44 ?_
          refine jx_goto (tgt := 49) E dX5_lotAt_45 (by decide) ?_
          refine jx_iadd E dX5_lotAt_49 ?_
          refine jx_istore (lv' := [(4, .int ((x0 - x0 / 5 * 5) + (0 - x2))), (3, .int ((x0 / 5) + x2)), (0, .int x0), (1, .int x1), (2, .int x2)]) E dX5_lotAt_50 (by decide) rfl ?_
          refine jx_iload_n E dX5_lotAt_52 1 rfl ?_
          refine jx_i2l E dX5_lotAt_53 ?_
          refine jx_lconst (x := 0) E dX5_lotAt_54 (by decide) ?_
          refine jx_ldc2 (x := 4) E dX5_lotAt_55 (List.mem_cons_of_mem _ tw_405) ?_
          obtain ⟨⟨r23, v23⟩, hc23, hF⟩ := jx_bind hF
          try dsimp only at hF
          refine jx_callSi (As := [.long (Int32.toInt64 ((x0 / 5) + x2)), .long 0, .long 4]) (st := []) E dX5_lotAt_58 3 rfl (k_X5_in hI (Int32.toInt64 ((x0 / 5) + x2)) 0 4 v r23 v23 hc23) (gb_S (List.mem_cons_of_mem _ tw_323) (List.mem_cons_of_mem _ tw_324) (List.mem_cons_of_mem _ tw_325) tw_322) rfl rfl rfl dd_X5_in rfl ⟨by decide, by decide⟩ ⟨Nat.le_refl 0, Nat.le_refl 0⟩ (Nat.le_of_ble_eq_true rfl) ?_
          refine jx_if_eq (tgt := 86) E dX5_lotAt_61 (by decide) (fun hc24 => ?_) (fun hc24 => ?_)
          · rw [if_pos hc24] at hF
            refine jx_iconst (x := -1) E dX5_lotAt_86 (by decide) ?_
            obtain ⟨rfl, rfl⟩ := jx_out hF
            exact jx_iret E dX5_lotAt_87 rfl
          · rw [if_neg hc24] at hF
            refine jx_iload E dX5_lotAt_64 0 rfl ?_
            refine jx_i2l E dX5_lotAt_66 ?_
            refine jx_lconst (x := 0) E dX5_lotAt_67 (by decide) ?_
            refine jx_ldc2 (x := 4) E dX5_lotAt_68 (List.mem_cons_of_mem _ tw_405) ?_
            obtain ⟨⟨r25, v25⟩, hc25, hF⟩ := jx_bind hF
            try dsimp only at hF
            refine jx_callSi (As := [.long (Int32.toInt64 ((x0 - x0 / 5 * 5) + (0 - x2))), .long 0, .long 4]) (st := []) E dX5_lotAt_71 3 rfl (k_X5_in hI (Int32.toInt64 ((x0 - x0 / 5 * 5) + (0 - x2))) 0 4 v23 r25 v25 hc25) (gb_S (List.mem_cons_of_mem _ tw_323) (List.mem_cons_of_mem _ tw_324) (List.mem_cons_of_mem _ tw_325) tw_322) rfl rfl rfl dd_X5_in rfl ⟨by decide, by decide⟩ ⟨Nat.le_refl 0, Nat.le_refl 0⟩ (Nat.le_of_ble_eq_true rfl) ?_
            refine jx_if_eq (tgt := 86) E dX5_lotAt_74 (by decide) (fun hc26 => ?_) (fun hc26 => ?_)
            · rw [if_pos hc26] at hF
              refine jx_iconst (x := -1) E dX5_lotAt_86 (by decide) ?_
              obtain ⟨rfl, rfl⟩ := jx_out hF
              exact jx_iret E dX5_lotAt_87 rfl
            · rw [if_neg hc26] at hF
              refine jx_iconst (x := 5) E dX5_lotAt_77 (by decide) ?_
              refine jx_iload_n E dX5_lotAt_78 1 rfl ?_
              refine jx_imul E dX5_lotAt_79 ?_
              refine jx_iload E dX5_lotAt_80 0 rfl ?_
              refine jx_iadd E dX5_lotAt_82 ?_
              refine jx_goto (tgt := 87) E dX5_lotAt_83 (by decide) ?_
              obtain ⟨rfl, rfl⟩ := jx_out hF
              exact jx_iret E dX5_lotAt_87 rfl
      · rw [if_pos hc17] at hF
        refine jx_iload_n E dX5_lotAt_33 3 rfl ?_
        refine jx_goto (tgt := 49) E dX5_lotAt_34 (by decide) ?_
        refine jx_iadd E dX5_lotAt_49 ?_
        refine jx_istore (lv' := [(4, .int ((x0 - x0 / 5 * 5) + x2)), (3, .int ((x0 / 5) + x2)), (0, .int x0), (1, .int x1), (2, .int x2)]) E dX5_lotAt_50 (by decide) rfl ?_
        refine jx_iload_n E dX5_lotAt_52 1 rfl ?_
        refine jx_i2l E dX5_lotAt_53 ?_
        refine jx_lconst (x := 0) E dX5_lotAt_54 (by decide) ?_
        refine jx_ldc2 (x := 4) E dX5_lotAt_55 (List.mem_cons_of_mem _ tw_405) ?_
        obtain ⟨⟨r27, v27⟩, hc27, hF⟩ := jx_bind hF
        try dsimp only at hF
        refine jx_callSi (As := [.long (Int32.toInt64 ((x0 / 5) + x2)), .long 0, .long 4]) (st := []) E dX5_lotAt_58 3 rfl (k_X5_in hI (Int32.toInt64 ((x0 / 5) + x2)) 0 4 v r27 v27 hc27) (gb_S (List.mem_cons_of_mem _ tw_323) (List.mem_cons_of_mem _ tw_324) (List.mem_cons_of_mem _ tw_325) tw_322) rfl rfl rfl dd_X5_in rfl ⟨by decide, by decide⟩ ⟨Nat.le_refl 0, Nat.le_refl 0⟩ (Nat.le_of_ble_eq_true rfl) ?_
        refine jx_if_eq (tgt := 86) E dX5_lotAt_61 (by decide) (fun hc28 => ?_) (fun hc28 => ?_)
        · rw [if_pos hc28] at hF
          refine jx_iconst (x := -1) E dX5_lotAt_86 (by decide) ?_
          obtain ⟨rfl, rfl⟩ := jx_out hF
          exact jx_iret E dX5_lotAt_87 rfl
        · rw [if_neg hc28] at hF
          refine jx_iload E dX5_lotAt_64 0 rfl ?_
          refine jx_i2l E dX5_lotAt_66 ?_
          refine jx_lconst (x := 0) E dX5_lotAt_67 (by decide) ?_
          refine jx_ldc2 (x := 4) E dX5_lotAt_68 (List.mem_cons_of_mem _ tw_405) ?_
          obtain ⟨⟨r29, v29⟩, hc29, hF⟩ := jx_bind hF
          try dsimp only at hF
          refine jx_callSi (As := [.long (Int32.toInt64 ((x0 - x0 / 5 * 5) + x2)), .long 0, .long 4]) (st := []) E dX5_lotAt_71 3 rfl (k_X5_in hI (Int32.toInt64 ((x0 - x0 / 5 * 5) + x2)) 0 4 v27 r29 v29 hc29) (gb_S (List.mem_cons_of_mem _ tw_323) (List.mem_cons_of_mem _ tw_324) (List.mem_cons_of_mem _ tw_325) tw_322) rfl rfl rfl dd_X5_in rfl ⟨by decide, by decide⟩ ⟨Nat.le_refl 0, Nat.le_refl 0⟩ (Nat.le_of_ble_eq_true rfl) ?_
          refine jx_if_eq (tgt := 86) E dX5_lotAt_74 (by decide) (fun hc30 => ?_) (fun hc30 => ?_)
          · rw [if_pos hc30] at hF
            refine jx_iconst (x := -1) E dX5_lotAt_86 (by decide) ?_
            obtain ⟨rfl, rfl⟩ := jx_out hF
            exact jx_iret E dX5_lotAt_87 rfl
          · rw [if_neg hc30] at hF
            refine jx_iconst (x := 5) E dX5_lotAt_77 (by decide) ?_
            refine jx_iload_n E dX5_lotAt_78 1 rfl ?_
            refine jx_imul E dX5_lotAt_79 ?_
            refine jx_iload E dX5_lotAt_80 0 rfl ?_
            refine jx_iadd E dX5_lotAt_82 ?_
            refine jx_goto (tgt := 87) E dX5_lotAt_83 (by decide) ?_
            obtain ⟨rfl, rfl⟩ := jx_out hF
            exact jx_iret E dX5_lotAt_87 rfl
  · rw [if_pos hc1] at hF
    refine jx_iconst (x := 0) E dX5_lotAt_7 (by decide) ?_
    refine jx_iload_n E dX5_lotAt_8 2 rfl ?_
    refine jx_isub E dX5_lotAt_9 ?_
    refine jx_goto (tgt := 23) E dX5_lotAt_10 (by decide) ?_
    refine jx_iadd E dX5_lotAt_23 ?_
    refine jx_istore_n (lv' := [(3, .int ((x0 / 5) + (0 - x2))), (0, .int x0), (1, .int x1), (2, .int x2)]) E dX5_lotAt_24 (by decide) rfl ?_
    refine jx_iload_n E dX5_lotAt_25 1 rfl ?_
    refine jx_iconst (x := 5) E dX5_lotAt_26 (by decide) ?_
    refine jx_irem E dX5_lotAt_27 (by decide) ?_
    refine jx_iload_n E dX5_lotAt_28 2 rfl ?_
    refine jx_iconst (x := 1) E dX5_lotAt_29 (by decide) ?_
    refine jx_icmp_ne (tgt := 37) E dX5_lotAt_30 (by decide) (fun hc31 => ?_) (fun hc31 => ?_)
    · rw [if_neg hc31] at hF
      refine jx_iload_n E dX5_lotAt_37 2 rfl ?_
      refine jx_iconst (x := 3) E dX5_lotAt_38 (by decide) ?_
      refine jx_icmp_ne (tgt := 48) E dX5_lotAt_39 (by decide) (fun hc32 => ?_) (fun hc32 => ?_)
      · rw [if_neg hc32] at hF
        refine jx_iconst (x := 0) E dX5_lotAt_48 (by decide) ?_
        refine jx_iadd E dX5_lotAt_49 ?_
        refine jx_istore (lv' := [(4, .int ((x0 - x0 / 5 * 5) + 0)), (3, .int ((x0 / 5) + (0 - x2))), (0, .int x0), (1, .int x1), (2, .int x2)]) E dX5_lotAt_50 (by decide) rfl ?_
        refine jx_iload_n E dX5_lotAt_52 1 rfl ?_
        refine jx_i2l E dX5_lotAt_53 ?_
        refine jx_lconst (x := 0) E dX5_lotAt_54 (by decide) ?_
        refine jx_ldc2 (x := 4) E dX5_lotAt_55 (List.mem_cons_of_mem _ tw_405) ?_
        obtain ⟨⟨r33, v33⟩, hc33, hF⟩ := jx_bind hF
        try dsimp only at hF
        refine jx_callSi (As := [.long (Int32.toInt64 ((x0 / 5) + (0 - x2))), .long 0, .long 4]) (st := []) E dX5_lotAt_58 3 rfl (k_X5_in hI (Int32.toInt64 ((x0 / 5) + (0 - x2))) 0 4 v r33 v33 hc33) (gb_S (List.mem_cons_of_mem _ tw_323) (List.mem_cons_of_mem _ tw_324) (List.mem_cons_of_mem _ tw_325) tw_322) rfl rfl rfl dd_X5_in rfl ⟨by decide, by decide⟩ ⟨Nat.le_refl 0, Nat.le_refl 0⟩ (Nat.le_of_ble_eq_true rfl) ?_
        refine jx_if_eq (tgt := 86) E dX5_lotAt_61 (by decide) (fun hc34 => ?_) (fun hc34 => ?_)
        · rw [if_pos hc34] at hF
          refine jx_iconst (x := -1) E dX5_lotAt_86 (by decide) ?_
          obtain ⟨rfl, rfl⟩ := jx_out hF
          exact jx_iret E dX5_lotAt_87 rfl
        · rw [if_neg hc34] at hF
          refine jx_iload E dX5_lotAt_64 0 rfl ?_
          refine jx_i2l E dX5_lotAt_66 ?_
          refine jx_lconst (x := 0) E dX5_lotAt_67 (by decide) ?_
          refine jx_ldc2 (x := 4) E dX5_lotAt_68 (List.mem_cons_of_mem _ tw_405) ?_
          obtain ⟨⟨r35, v35⟩, hc35, hF⟩ := jx_bind hF
          try dsimp only at hF
          refine jx_callSi (As := [.long (Int32.toInt64 ((x0 - x0 / 5 * 5) + 0)), .long 0, .long 4]) (st := []) E dX5_lotAt_71 3 rfl (k_X5_in hI (Int32.toInt64 ((x0 - x0 / 5 * 5) + 0)) 0 4 v33 r35 v35 hc35) (gb_S (List.mem_cons_of_mem _ tw_323) (List.mem_cons_of_mem _ tw_324) (List.mem_cons_of_mem _ tw_325) tw_322) rfl rfl rfl dd_X5_in rfl ⟨by decide, by decide⟩ ⟨Nat.le_refl 0, Nat.le_refl 0⟩ (Nat.le_of_ble_eq_true rfl) ?_
          refine jx_if_eq (tgt := 86) E dX5_lotAt_74 (by decide) (fun hc36 => ?_) (fun hc36 => ?_)
          · rw [if_pos hc36] at hF
            refine jx_iconst (x := -1) E dX5_lotAt_86 (by decide) ?_
            obtain ⟨rfl, rfl⟩ := jx_out hF
            exact jx_iret E dX5_lotAt_87 rfl
          · rw [if_neg hc36] at hF
            refine jx_iconst (x := 5) E dX5_lotAt_77 (by decide) ?_
            refine jx_iload_n E dX5_lotAt_78 1 rfl ?_
            refine jx_imul E dX5_lotAt_79 ?_
            refine jx_iload E dX5_lotAt_80 0 rfl ?_
            refine jx_iadd E dX5_lotAt_82 ?_
            refine jx_goto (tgt := 87) E dX5_lotAt_83 (by decide) ?_
            obtain ⟨rfl, rfl⟩ := jx_out hF
            exact jx_iret E dX5_lotAt_87 rfl
      · rw [if_pos hc32] at hF
        refine jx_iconst (x := 0) E dX5_lotAt_42 (by decide) ?_
        refine jx_iload_n E dX5_lotAt_43 3 rfl ?_
        refine jx_isub E dX5_lotAt_44 ?_
        refine jx_goto (tgt := 49) E dX5_lotAt_45 (by decide) ?_
        refine jx_iadd E dX5_lotAt_49 ?_
        refine jx_istore (lv' := [(4, .int ((x0 - x0 / 5 * 5) + (0 - x2))), (3, .int ((x0 / 5) + (0 - x2))), (0, .int x0), (1, .int x1), (2, .int x2)]) E dX5_lotAt_50 (by decide) rfl ?_
        refine jx_iload_n E dX5_lotAt_52 1 rfl ?_
        refine jx_i2l E dX5_lotAt_53 ?_
        refine jx_lconst (x := 0) E dX5_lotAt_54 (by decide) ?_
        refine jx_ldc2 (x := 4) E dX5_lotAt_55 (List.mem_cons_of_mem _ tw_405) ?_
        obtain ⟨⟨r37, v37⟩, hc37, hF⟩ := jx_bind hF
        try dsimp only at hF
        refine jx_callSi (As := [.long (Int32.toInt64 ((x0 / 5) + (0 - x2))), .long 0, .long 4]) (st := []) E dX5_lotAt_58 3 rfl (k_X5_in hI (Int32.toInt64 ((x0 / 5) + (0 - x2))) 0 4 v r37 v37 hc37) (gb_S (List.mem_cons_of_mem _ tw_323) (List.mem_cons_of_mem _ tw_324) (List.mem_cons_of_mem _ tw_325) tw_322) rfl rfl rfl dd_X5_in rfl ⟨by decide, by decide⟩ ⟨Nat.le_refl 0, Nat.le_refl 0⟩ (Nat.le_of_ble_eq_true rfl) ?_
        refine jx_if_eq (tgt := 86) E dX5_lotAt_61 (by decide) (fun hc38 => ?_) (fun hc38 => ?_)
        · rw [if_pos hc38] at hF
          refine jx_iconst (x := -1) E dX5_lotAt_86 (by decide) ?_
          obtain ⟨rfl, rfl⟩ := jx_out hF
          exact jx_iret E dX5_lotAt_87 rfl
        · rw [if_neg hc38] at hF
          refine jx_iload E dX5_lotAt_64 0 rfl ?_
          refine jx_i2l E dX5_lotAt_66 ?_
          refine jx_lconst (x := 0) E dX5_lotAt_67 (by decide) ?_
          refine jx_ldc2 (x := 4) E dX5_lotAt_68 (List.mem_cons_of_mem _ tw_405) ?_
          obtain ⟨⟨r39, v39⟩, hc39, hF⟩ := jx_bind hF
          try dsimp only at hF
          refine jx_callSi (As := [.long (Int32.toInt64 ((x0 - x0 / 5 * 5) + (0 - x2))), .long 0, .long 4]) (st := []) E dX5_lotAt_71 3 rfl (k_X5_in hI (Int32.toInt64 ((x0 - x0 / 5 * 5) + (0 - x2))) 0 4 v37 r39 v39 hc39) (gb_S (List.mem_cons_of_mem _ tw_323) (List.mem_cons_of_mem _ tw_324) (List.mem_cons_of_mem _ tw_325) tw_322) rfl rfl rfl dd_X5_in rfl ⟨by decide, by decide⟩ ⟨Nat.le_refl 0, Nat.le_refl 0⟩ (Nat.le_of_ble_eq_true rfl) ?_
          refine jx_if_eq (tgt := 86) E dX5_lotAt_74 (by decide) (fun hc40 => ?_) (fun hc40 => ?_)
          · rw [if_pos hc40] at hF
            refine jx_iconst (x := -1) E dX5_lotAt_86 (by decide) ?_
            obtain ⟨rfl, rfl⟩ := jx_out hF
            exact jx_iret E dX5_lotAt_87 rfl
          · rw [if_neg hc40] at hF
            refine jx_iconst (x := 5) E dX5_lotAt_77 (by decide) ?_
            refine jx_iload_n E dX5_lotAt_78 1 rfl ?_
            refine jx_imul E dX5_lotAt_79 ?_
            refine jx_iload E dX5_lotAt_80 0 rfl ?_
            refine jx_iadd E dX5_lotAt_82 ?_
            refine jx_goto (tgt := 87) E dX5_lotAt_83 (by decide) ?_
            obtain ⟨rfl, rfl⟩ := jx_out hF
            exact jx_iret E dX5_lotAt_87 rfl
    · rw [if_pos hc31] at hF
      refine jx_iload_n E dX5_lotAt_33 3 rfl ?_
      refine jx_goto (tgt := 49) E dX5_lotAt_34 (by decide) ?_
      refine jx_iadd E dX5_lotAt_49 ?_
      refine jx_istore (lv' := [(4, .int ((x0 - x0 / 5 * 5) + x2)), (3, .int ((x0 / 5) + (0 - x2))), (0, .int x0), (1, .int x1), (2, .int x2)]) E dX5_lotAt_50 (by decide) rfl ?_
      refine jx_iload_n E dX5_lotAt_52 1 rfl ?_
      refine jx_i2l E dX5_lotAt_53 ?_
      refine jx_lconst (x := 0) E dX5_lotAt_54 (by decide) ?_
      refine jx_ldc2 (x := 4) E dX5_lotAt_55 (List.mem_cons_of_mem _ tw_405) ?_
      obtain ⟨⟨r41, v41⟩, hc41, hF⟩ := jx_bind hF
      try dsimp only at hF
      refine jx_callSi (As := [.long (Int32.toInt64 ((x0 / 5) + (0 - x2))), .long 0, .long 4]) (st := []) E dX5_lotAt_58 3 rfl (k_X5_in hI (Int32.toInt64 ((x0 / 5) + (0 - x2))) 0 4 v r41 v41 hc41) (gb_S (List.mem_cons_of_mem _ tw_323) (List.mem_cons_of_mem _ tw_324) (List.mem_cons_of_mem _ tw_325) tw_322) rfl rfl rfl dd_X5_in rfl ⟨by decide, by decide⟩ ⟨Nat.le_refl 0, Nat.le_refl 0⟩ (Nat.le_of_ble_eq_true rfl) ?_
      refine jx_if_eq (tgt := 86) E dX5_lotAt_61 (by decide) (fun hc42 => ?_) (fun hc42 => ?_)
      · rw [if_pos hc42] at hF
        refine jx_iconst (x := -1) E dX5_lotAt_86 (by decide) ?_
        obtain ⟨rfl, rfl⟩ := jx_out hF
        exact jx_iret E dX5_lotAt_87 rfl
      · rw [if_neg hc42] at hF
        refine jx_iload E dX5_lotAt_64 0 rfl ?_
        refine jx_i2l E dX5_lotAt_66 ?_
        refine jx_lconst (x := 0) E dX5_lotAt_67 (by decide) ?_
        refine jx_ldc2 (x := 4) E dX5_lotAt_68 (List.mem_cons_of_mem _ tw_405) ?_
        obtain ⟨⟨r43, v43⟩, hc43, hF⟩ := jx_bind hF
        try dsimp only at hF
        refine jx_callSi (As := [.long (Int32.toInt64 ((x0 - x0 / 5 * 5) + x2)), .long 0, .long 4]) (st := []) E dX5_lotAt_71 3 rfl (k_X5_in hI (Int32.toInt64 ((x0 - x0 / 5 * 5) + x2)) 0 4 v41 r43 v43 hc43) (gb_S (List.mem_cons_of_mem _ tw_323) (List.mem_cons_of_mem _ tw_324) (List.mem_cons_of_mem _ tw_325) tw_322) rfl rfl rfl dd_X5_in rfl ⟨by decide, by decide⟩ ⟨Nat.le_refl 0, Nat.le_refl 0⟩ (Nat.le_of_ble_eq_true rfl) ?_
        refine jx_if_eq (tgt := 86) E dX5_lotAt_74 (by decide) (fun hc44 => ?_) (fun hc44 => ?_)
        · rw [if_pos hc44] at hF
          refine jx_iconst (x := -1) E dX5_lotAt_86 (by decide) ?_
          obtain ⟨rfl, rfl⟩ := jx_out hF
          exact jx_iret E dX5_lotAt_87 rfl
        · rw [if_neg hc44] at hF
          refine jx_iconst (x := 5) E dX5_lotAt_77 (by decide) ?_
          refine jx_iload_n E dX5_lotAt_78 1 rfl ?_
          refine jx_imul E dX5_lotAt_79 ?_
          refine jx_iload E dX5_lotAt_80 0 rfl ?_
          refine jx_iadd E dX5_lotAt_82 ?_
          refine jx_goto (tgt := 87) E dX5_lotAt_83 (by decide) ?_
          obtain ⟨rfl, rfl⟩ := jx_out hF
          exact jx_iret E dX5_lotAt_87 rfl
def f_X5_seen_L  : Nat → Nat → Int32 → Int32 → Int32 → Int32 → Int32 → Int32 → Int32 → Int32 → Int32 → jx_V → Option (Int32 × jx_V)
  | 0, _, _, _, _, _, _, _, _, _, _, _ => none
  | n + 1, tag, x1, x2, x3, x4, x5, x6, x7, x8, x9, v => (if tag = 0 then (if x5 ≤ x7 then (some (x6, v)) else (f_X5_seen_L n 1 x1 x2 x3 x4 x5 x6 x7 1 1 v)) else (if tag = 1 then (if x2 ≤ x9 then (if x8 = 0 then (f_X5_seen_L n 0 x1 x2 x3 x4 x5 (x6 ||| 0) (x7 + 1) 0 0 v) else (f_X5_seen_L n 0 x1 x2 x3 x4 x5 (x6 ||| (1 <<< (x7 &&& 31))) (x7 + 1) 0 0 v)) else ((f_X5_told x1 0 v).bind (fun (r12, v12) => ((f_X5_told x1 2 v12).bind (fun (r13, v13) => ((f_X5_lotAt r12 r13 x9 v13).bind (fun (r14, v14) => (if x8 = 0 then (f_X5_seen_L n 1 x1 x2 x3 x4 x5 x6 x7 0 (x9 + 1) v14) else ((f_X5_isThing r14 v14).bind (fun (r16, v16) => (if r16 = 0 then (f_X5_seen_L n 1 x1 x2 x3 x4 x5 x6 x7 1 (x9 + 1) v16) else ((f_X5_stands r14 v16).bind (fun (r18, v18) => (if (((2 * x7) - (2 * x3)) * x9) ≤ ((((2 * r18) - (2 * x3)) - 1) * x2) then (f_X5_seen_L n 1 x1 x2 x3 x4 x5 x6 x7 0 (x9 + 1) v18) else (f_X5_seen_L n 1 x1 x2 x3 x4 x5 x6 x7 1 (x9 + 1) v18))))))))))))))) else none))
def f_X5_seen (x1 : Int32) (x2 : Int32) (v : jx_V) : Option (Int32 × jx_V) := ((f_X5_told x1 1 v).bind (fun (r1, v1) => ((f_X5_told x1 0 v1).bind (fun (r2, v2) => ((f_X5_told x1 2 v2).bind (fun (r3, v3) => ((f_X5_lotAt r2 r3 x2 v3).bind (fun (r4, v4) => (if r4 < 0 then (f_X5_seen_L 100000 0 x1 x2 r1 r4 0 0 0 0 0 v4) else ((f_X5_isThing r4 v4).bind (fun (r6, v6) => (if r6 = 0 then (f_X5_seen_L 100000 0 x1 x2 r1 r4 0 0 0 0 0 v6) else ((f_X5_stands r4 v6).bind (fun (r8, v8) => (f_X5_seen_L 100000 0 x1 x2 r1 r4 r8 0 0 0 0 v8)))))))))))))))
def rm_X5_seen : Room := { frames := 3, cells := 0, slots := 0, locals := 68 }
set_option maxHeartbeats 4000000 in
set_option maxRecDepth 100000 in
theorem k_X5_seen {l : Launch} {D : va_G} {cI cJ : ClassId} {ad : Nat → Nat} {A : Nat → Prop} (hI : jx_inj 13 ad A) (x1 : Int32) (x2 : Int32) (v : jx_V) (r : Int32) (v' : jx_V) (hF : f_X5_seen x1 x2 v = some (r, v')) : jx_Ci l D vwCl 13 cI cJ ad shM A ex_M yX5_seen (Cond.code yX5_seen cX5_seen 11 (some .int) :: bigT) rm_X5_seen [.ref (ad 0), .int x1, .int x2] v r v' := by
  unfold f_X5_seen at hF
  refine jx_enteri bigT RX5 cX5_seen 11 (some .int) [(0, .ref (ad 0)), (1, .int x1), (2, .int x2)] hI (ex_M_ok A) (by decide +kernel) rfl (Nat.le_of_ble_eq_true rfl) rfl rfl ?_
  intro p e s m args below meth c E
  have key : ∀ n : Nat, (∀ (x1 : Int32) (x2 : Int32) (x3 : Int32) (x4 : Int32) (x5 : Int32) (x6 : Int32) (x7 : Int32) (v : jx_V), f_X5_seen_L  n 0 x1 x2 x3 x4 x5 x6 x7 0 0 v = some (r, v') → jx_J p l e rm_X5_seen s m args below meth c D vwCl 13 cI cJ ad shM A 0 0 11 (MQ below (va_Qi (fun (r1 : Int32) (_ : Unit) => r1 = r) (fun _ t => va_P D vwCl (jx_ws 13 cI cJ ad shM v') t.heap) A) args s 0 0 A) v 57 [(0, .ref (ad 0)), (1, .int x1), (2, .int x2), (3, .int x3), (4, .int x4), (5, .int x5), (6, .int x6), (7, .int x7)] []) ∧ (∀ (x1 : Int32) (x2 : Int32) (x3 : Int32) (x4 : Int32) (x5 : Int32) (x6 : Int32) (x7 : Int32) (x8 : Int32) (x9 : Int32) (v : jx_V), f_X5_seen_L  n 1 x1 x2 x3 x4 x5 x6 x7 x8 x9 v = some (r, v') → jx_J p l e rm_X5_seen s m args below meth c D vwCl 13 cI cJ ad shM A 0 0 11 (MQ below (va_Qi (fun (r1 : Int32) (_ : Unit) => r1 = r) (fun _ t => va_P D vwCl (jx_ws 13 cI cJ ad shM v') t.heap) A) args s 0 0 A) v 70 [(0, .ref (ad 0)), (1, .int x1), (2, .int x2), (3, .int x3), (4, .int x4), (5, .int x5), (6, .int x6), (7, .int x7), (8, .int x8), (9, .int x9)] []) := by
    intro n
    induction n with
    | zero =>
      exact ⟨(fun _ _ _ _ _ _ _ _ h => by cases h), (fun _ _ _ _ _ _ _ _ _ _ h => by cases h)⟩
    | succ n ih =>
      refine ⟨?_, ?_⟩
      · intro x1 x2 x3 x4 x5 x6 x7 v hF
        rw [f_X5_seen_L] at hF
        rw [if_pos rfl] at hF
        refine jx_iload E dX5_seen_57 7 rfl ?_
        refine jx_iload E dX5_seen_59 5 rfl ?_
        refine jx_icmp_ge (tgt := 176) E dX5_seen_61 (by decide) (fun hc9 => ?_) (fun hc9 => ?_)
        · rw [if_pos hc9] at hF
          refine jx_iload E dX5_seen_176 6 rfl ?_
          obtain ⟨rfl, rfl⟩ := jx_out hF
          exact jx_iret E dX5_seen_178 rfl
        · rw [if_neg hc9] at hF
          refine jx_iconst (x := 1) E dX5_seen_64 (by decide) ?_
          refine jx_istore (lv' := [(8, .int 1), (0, .ref (ad 0)), (1, .int x1), (2, .int x2), (3, .int x3), (4, .int x4), (5, .int x5), (6, .int x6), (7, .int x7)]) E dX5_seen_65 (by decide) rfl ?_
          refine jx_iconst (x := 1) E dX5_seen_67 (by decide) ?_
          refine jx_istore (lv' := [(9, .int 1), (8, .int 1), (0, .ref (ad 0)), (1, .int x1), (2, .int x2), (3, .int x3), (4, .int x4), (5, .int x5), (6, .int x6), (7, .int x7)]) E dX5_seen_68 (by decide) rfl ?_
          refine jx_sub [2, 3, 4, 5, 6, 7, 8, 9, 1, 0] rfl ?_
          exact ih.2 x1 x2 x3 x4 x5 x6 x7 1 1 v hF
      · intro x1 x2 x3 x4 x5 x6 x7 x8 x9 v hF
        rw [f_X5_seen_L] at hF
        rw [if_neg (by decide), if_pos rfl] at hF
        refine jx_iload E dX5_seen_70 9 rfl ?_
        refine jx_iload_n E dX5_seen_72 2 rfl ?_
        refine jx_icmp_ge (tgt := 152) E dX5_seen_73 (by decide) (fun hc10 => ?_) (fun hc10 => ?_)
        · rw [if_pos hc10] at hF
          refine jx_iload E dX5_seen_152 6 rfl ?_
          refine jx_iload E dX5_seen_154 8 rfl ?_
          refine jx_if_eq (tgt := 166) E dX5_seen_156 (by decide) (fun hc11 => ?_) (fun hc11 => ?_)
          · rw [if_pos hc11] at hF
            refine jx_iconst (x := 0) E dX5_seen_166 (by decide) ?_
            refine jx_ior E dX5_seen_167 ?_
            refine jx_istore (lv' := [(6, .int (x6 ||| 0)), (0, .ref (ad 0)), (1, .int x1), (2, .int x2), (3, .int x3), (4, .int x4), (5, .int x5), (7, .int x7), (8, .int x8), (9, .int x9)]) E dX5_seen_168 (by decide) rfl ?_
            refine jx_iinc (y := (x7 + 1)) (lv' := [(7, .int (x7 + 1)), (6, .int (x6 ||| 0)), (0, .ref (ad 0)), (1, .int x1), (2, .int x2), (3, .int x3), (4, .int x4), (5, .int x5), (8, .int x8), (9, .int x9)]) E dX5_seen_170 7 rfl rfl (by decide) rfl ?_
            refine jx_goto (tgt := 57) E dX5_seen_173 (by decide) ?_
            refine jx_sub [2, 3, 4, 5, 6, 7, 1, 0] rfl ?_
            exact ih.1 x1 x2 x3 x4 x5 (x6 ||| 0) (x7 + 1) v hF
          · rw [if_neg hc11] at hF
            refine jx_iconst (x := 1) E dX5_seen_159 (by decide) ?_
            refine jx_iload E dX5_seen_160 7 rfl ?_
            refine jx_ishl E dX5_seen_162 ?_
            refine jx_goto (tgt := 167) E dX5_seen_163 (by decide) ?_
            refine jx_ior E dX5_seen_167 ?_
            refine jx_istore (lv' := [(6, .int (x6 ||| (1 <<< (x7 &&& 31)))), (0, .ref (ad 0)), (1, .int x1), (2, .int x2), (3, .int x3), (4, .int x4), (5, .int x5), (7, .int x7), (8, .int x8), (9, .int x9)]) E dX5_seen_168 (by decide) rfl ?_
            refine jx_iinc (y := (x7 + 1)) (lv' := [(7, .int (x7 + 1)), (6, .int (x6 ||| (1 <<< (x7 &&& 31)))), (0, .ref (ad 0)), (1, .int x1), (2, .int x2), (3, .int x3), (4, .int x4), (5, .int x5), (8, .int x8), (9, .int x9)]) E dX5_seen_170 7 rfl rfl (by decide) rfl ?_
            refine jx_goto (tgt := 57) E dX5_seen_173 (by decide) ?_
            refine jx_sub [2, 3, 4, 5, 6, 7, 1, 0] rfl ?_
            exact ih.1 x1 x2 x3 x4 x5 (x6 ||| (1 <<< (x7 &&& 31))) (x7 + 1) v hF
        · rw [if_neg hc10] at hF
          refine jx_aload_n E dX5_seen_76 0 rfl ?_
          refine jx_iload_n E dX5_seen_77 1 rfl ?_
          refine jx_iconst (x := 0) E dX5_seen_78 (by decide) ?_
          obtain ⟨⟨r12, v12⟩, hc12, hF⟩ := jx_bind hF
          try dsimp only at hF
          refine jx_callVi (As := [.int x1, .int 0]) (st := []) (h := 0) E dX5_seen_79 2 rfl (k_X5_told hI x1 0 v r12 v12 hc12) (gb_V (List.mem_cons_of_mem _ tw_402) (List.mem_cons_of_mem _ tw_403) (List.mem_cons_of_mem _ tw_404) (List.mem_cons_of_mem _ tw_325) tw_401) rfl rfl rfl dd_X5_told rfl (Nat.le_of_ble_eq_true rfl) s_M0 rfl ⟨by decide, by decide⟩ ⟨Nat.le_refl 0, Nat.le_refl 0⟩ (Nat.le_of_ble_eq_true rfl) ?_
          refine jx_aload_n E dX5_seen_82 0 rfl ?_
          refine jx_iload_n E dX5_seen_83 1 rfl ?_
          refine jx_iconst (x := 2) E dX5_seen_84 (by decide) ?_
          obtain ⟨⟨r13, v13⟩, hc13, hF⟩ := jx_bind hF
          try dsimp only at hF
          refine jx_callVi (As := [.int x1, .int 2]) (st := [.int r12]) (h := 0) E dX5_seen_85 2 rfl (k_X5_told hI x1 2 v12 r13 v13 hc13) (gb_V (List.mem_cons_of_mem _ tw_402) (List.mem_cons_of_mem _ tw_403) (List.mem_cons_of_mem _ tw_404) (List.mem_cons_of_mem _ tw_325) tw_401) rfl rfl rfl dd_X5_told rfl (Nat.le_of_ble_eq_true rfl) s_M0 rfl ⟨by decide, by decide⟩ ⟨Nat.le_refl 0, Nat.le_refl 0⟩ (Nat.le_of_ble_eq_true rfl) ?_
          refine jx_iload E dX5_seen_88 9 rfl ?_
          obtain ⟨⟨r14, v14⟩, hc14, hF⟩ := jx_bind hF
          try dsimp only at hF
          refine jx_callSi (As := [.int r12, .int r13, .int x9]) (st := []) E dX5_seen_90 3 rfl (k_X5_lotAt hI r12 r13 x9 v13 r14 v14 hc14) (gb_S (List.mem_cons_of_mem _ tw_407) (List.mem_cons_of_mem _ tw_408) (List.mem_cons_of_mem _ tw_325) tw_406) rfl rfl rfl dd_X5_lotAt rfl ⟨by decide, by decide⟩ ⟨Nat.le_refl 0, Nat.le_refl 0⟩ (Nat.le_of_ble_eq_true rfl) ?_
          refine jx_istore (lv' := [(10, .int r14), (0, .ref (ad 0)), (1, .int x1), (2, .int x2), (3, .int x3), (4, .int x4), (5, .int x5), (6, .int x6), (7, .int x7), (8, .int x8), (9, .int x9)]) E dX5_seen_93 (by decide) rfl ?_
          refine jx_iload E dX5_seen_95 9 rfl ?_
          refine jx_if_eq (tgt := 143) E dX5_seen_97 (by decide) (fun hc15 => ?_) (fun hc15 => ?_)
          · rw [if_pos hc15] at hF
            refine jx_iconst (x := 0) E dX5_seen_143 (by decide) ?_
            refine jx_istore (lv' := [(8, .int 0), (10, .int r14), (0, .ref (ad 0)), (1, .int x1), (2, .int x2), (3, .int x3), (4, .int x4), (5, .int x5), (6, .int x6), (7, .int x7), (9, .int x9)]) E dX5_seen_144 (by decide) rfl ?_
            refine jx_iinc (y := (x9 + 1)) (lv' := [(9, .int (x9 + 1)), (8, .int 0), (10, .int r14), (0, .ref (ad 0)), (1, .int x1), (2, .int x2), (3, .int x3), (4, .int x4), (5, .int x5), (6, .int x6), (7, .int x7)]) E dX5_seen_146 10 rfl rfl (by decide) rfl ?_
            refine jx_goto (tgt := 70) E dX5_seen_149 (by decide) ?_
            refine jx_sub [3, 4, 5, 6, 7, 8, 9, 10, 1, 0] rfl ?_
            exact ih.2 x1 x2 x3 x4 x5 x6 x7 0 (x9 + 1) v14 hF
          · rw [if_neg hc15] at hF
            refine jx_aload_n E dX5_seen_100 1 rfl ?_
            refine jx_iload E dX5_seen_101 0 rfl ?_
            obtain ⟨⟨r16, v16⟩, hc16, hF⟩ := jx_bind hF
            try dsimp only at hF
            refine jx_callVi (As := [.int r14]) (st := []) (h := 0) E dX5_seen_103 1 rfl (k_X5_isThing hI r14 v14 r16 v16 hc16) (gb_V (List.mem_cons_of_mem _ tw_339) (List.mem_cons_of_mem _ tw_340) (List.mem_cons_of_mem _ tw_341) (List.mem_cons_of_mem _ tw_325) tw_338) rfl rfl rfl dd_X5_isThing rfl (Nat.le_of_ble_eq_true rfl) s_M0 rfl ⟨by decide, by decide⟩ ⟨Nat.le_refl 0, Nat.le_refl 0⟩ (Nat.le_of_ble_eq_true rfl) ?_
            refine jx_if_eq (tgt := 139) E dX5_seen_106 (by decide) (fun hc17 => ?_) (fun hc17 => ?_)
            · rw [if_pos hc17] at hF
              refine jx_iconst (x := 1) E dX5_seen_139 (by decide) ?_
              refine jx_goto (tgt := 144) E dX5_seen_140 (by decide) ?_
              refine jx_istore (lv' := [(8, .int 1), (10, .int r14), (0, .ref (ad 0)), (1, .int x1), (2, .int x2), (3, .int x3), (4, .int x4), (5, .int x5), (6, .int x6), (7, .int x7), (9, .int x9)]) E dX5_seen_144 (by decide) rfl ?_
              refine jx_iinc (y := (x9 + 1)) (lv' := [(9, .int (x9 + 1)), (8, .int 1), (10, .int r14), (0, .ref (ad 0)), (1, .int x1), (2, .int x2), (3, .int x3), (4, .int x4), (5, .int x5), (6, .int x6), (7, .int x7)]) E dX5_seen_146 10 rfl rfl (by decide) rfl ?_
              refine jx_goto (tgt := 70) E dX5_seen_149 (by decide) ?_
              refine jx_sub [3, 4, 5, 6, 7, 8, 9, 10, 1, 0] rfl ?_
              exact ih.2 x1 x2 x3 x4 x5 x6 x7 1 (x9 + 1) v16 hF
            · rw [if_neg hc17] at hF
              refine jx_iconst (x := 2) E dX5_seen_109 (by decide) ?_
              refine jx_iload E dX5_seen_110 8 rfl ?_
              refine jx_imul E dX5_seen_112 ?_
              refine jx_iconst (x := 2) E dX5_seen_113 (by decide) ?_
              refine jx_iload_n E dX5_seen_114 4 rfl ?_
              refine jx_imul E dX5_seen_115 ?_
              refine jx_isub E dX5_seen_116 ?_
              refine jx_iload E dX5_seen_117 10 rfl ?_
              refine jx_imul E dX5_seen_119 ?_
              refine jx_iconst (x := 2) E dX5_seen_120 (by decide) ?_
              refine jx_aload_n E dX5_seen_121 1 rfl ?_
              refine jx_iload E dX5_seen_122 0 rfl ?_
              obtain ⟨⟨r18, v18⟩, hc18, hF⟩ := jx_bind hF
              try dsimp only at hF
              refine jx_callVi (As := [.int r14]) (st := [.int 2, .int (((2 * x7) - (2 * x3)) * x9)]) (h := 0) E dX5_seen_124 1 rfl (k_X5_stands hI r14 v16 r18 v18 hc18) (gb_V (List.mem_cons_of_mem _ tw_384) (List.mem_cons_of_mem _ tw_385) (List.mem_cons_of_mem _ tw_386) (List.mem_cons_of_mem _ tw_325) tw_383) rfl rfl rfl dd_X5_stands rfl (Nat.le_of_ble_eq_true rfl) s_M0 rfl ⟨by decide, by decide⟩ ⟨Nat.le_refl 0, Nat.le_refl 0⟩ (Nat.le_of_ble_eq_true rfl) ?_
              refine jx_imul E dX5_seen_127 ?_
              refine jx_iconst (x := 2) E dX5_seen_128 (by decide) ?_
              refine jx_iload_n E dX5_seen_129 4 rfl ?_
              refine jx_imul E dX5_seen_130 ?_
              refine jx_isub E dX5_seen_131 ?_
              refine jx_iconst (x := 1) E dX5_seen_132 (by decide) ?_
              refine jx_isub E dX5_seen_133 ?_
              refine jx_iload_n E dX5_seen_134 3 rfl ?_
              refine jx_imul E dX5_seen_135 ?_
              refine jx_icmp_le (tgt := 143) E dX5_seen_136 (by decide) (fun hc19 => ?_) (fun hc19 => ?_)
              · rw [if_pos hc19] at hF
                refine jx_iconst (x := 0) E dX5_seen_143 (by decide) ?_
                refine jx_istore (lv' := [(8, .int 0), (10, .int r14), (0, .ref (ad 0)), (1, .int x1), (2, .int x2), (3, .int x3), (4, .int x4), (5, .int x5), (6, .int x6), (7, .int x7), (9, .int x9)]) E dX5_seen_144 (by decide) rfl ?_
                refine jx_iinc (y := (x9 + 1)) (lv' := [(9, .int (x9 + 1)), (8, .int 0), (10, .int r14), (0, .ref (ad 0)), (1, .int x1), (2, .int x2), (3, .int x3), (4, .int x4), (5, .int x5), (6, .int x6), (7, .int x7)]) E dX5_seen_146 10 rfl rfl (by decide) rfl ?_
                refine jx_goto (tgt := 70) E dX5_seen_149 (by decide) ?_
                refine jx_sub [3, 4, 5, 6, 7, 8, 9, 10, 1, 0] rfl ?_
                exact ih.2 x1 x2 x3 x4 x5 x6 x7 0 (x9 + 1) v18 hF
              · rw [if_neg hc19] at hF
                refine jx_iconst (x := 1) E dX5_seen_139 (by decide) ?_
                refine jx_goto (tgt := 144) E dX5_seen_140 (by decide) ?_
                refine jx_istore (lv' := [(8, .int 1), (10, .int r14), (0, .ref (ad 0)), (1, .int x1), (2, .int x2), (3, .int x3), (4, .int x4), (5, .int x5), (6, .int x6), (7, .int x7), (9, .int x9)]) E dX5_seen_144 (by decide) rfl ?_
                refine jx_iinc (y := (x9 + 1)) (lv' := [(9, .int (x9 + 1)), (8, .int 1), (10, .int r14), (0, .ref (ad 0)), (1, .int x1), (2, .int x2), (3, .int x3), (4, .int x4), (5, .int x5), (6, .int x6), (7, .int x7)]) E dX5_seen_146 10 rfl rfl (by decide) rfl ?_
                refine jx_goto (tgt := 70) E dX5_seen_149 (by decide) ?_
                refine jx_sub [3, 4, 5, 6, 7, 8, 9, 10, 1, 0] rfl ?_
                exact ih.2 x1 x2 x3 x4 x5 x6 x7 1 (x9 + 1) v18 hF
  refine jx_aload_n E dX5_seen_0 0 rfl ?_
  refine jx_iload_n E dX5_seen_1 1 rfl ?_
  refine jx_iconst (x := 1) E dX5_seen_2 (by decide) ?_
  obtain ⟨⟨r1, v1⟩, hc1, hF⟩ := jx_bind hF
  try dsimp only at hF
  refine jx_callVi (As := [.int x1, .int 1]) (st := []) (h := 0) E dX5_seen_3 2 rfl (k_X5_told hI x1 1 v r1 v1 hc1) (gb_V (List.mem_cons_of_mem _ tw_402) (List.mem_cons_of_mem _ tw_403) (List.mem_cons_of_mem _ tw_404) (List.mem_cons_of_mem _ tw_325) tw_401) rfl rfl rfl dd_X5_told rfl (Nat.le_of_ble_eq_true rfl) s_M0 rfl ⟨by decide, by decide⟩ ⟨Nat.le_refl 0, Nat.le_refl 0⟩ (Nat.le_of_ble_eq_true rfl) ?_
  refine jx_istore_n (lv' := [(3, .int r1), (0, .ref (ad 0)), (1, .int x1), (2, .int x2)]) E dX5_seen_6 (by decide) rfl ?_
  refine jx_aload_n E dX5_seen_7 1 rfl ?_
  refine jx_iload_n E dX5_seen_8 2 rfl ?_
  refine jx_iconst (x := 0) E dX5_seen_9 (by decide) ?_
  obtain ⟨⟨r2, v2⟩, hc2, hF⟩ := jx_bind hF
  try dsimp only at hF
  refine jx_callVi (As := [.int x1, .int 0]) (st := []) (h := 0) E dX5_seen_10 2 rfl (k_X5_told hI x1 0 v1 r2 v2 hc2) (gb_V (List.mem_cons_of_mem _ tw_402) (List.mem_cons_of_mem _ tw_403) (List.mem_cons_of_mem _ tw_404) (List.mem_cons_of_mem _ tw_325) tw_401) rfl rfl rfl dd_X5_told rfl (Nat.le_of_ble_eq_true rfl) s_M0 rfl ⟨by decide, by decide⟩ ⟨Nat.le_refl 0, Nat.le_refl 0⟩ (Nat.le_of_ble_eq_true rfl) ?_
  refine jx_aload_n E dX5_seen_13 1 rfl ?_
  refine jx_iload_n E dX5_seen_14 2 rfl ?_
  refine jx_iconst (x := 2) E dX5_seen_15 (by decide) ?_
  obtain ⟨⟨r3, v3⟩, hc3, hF⟩ := jx_bind hF
  try dsimp only at hF
  refine jx_callVi (As := [.int x1, .int 2]) (st := [.int r2]) (h := 0) E dX5_seen_16 2 rfl (k_X5_told hI x1 2 v2 r3 v3 hc3) (gb_V (List.mem_cons_of_mem _ tw_402) (List.mem_cons_of_mem _ tw_403) (List.mem_cons_of_mem _ tw_404) (List.mem_cons_of_mem _ tw_325) tw_401) rfl rfl rfl dd_X5_told rfl (Nat.le_of_ble_eq_true rfl) s_M0 rfl ⟨by decide, by decide⟩ ⟨Nat.le_refl 0, Nat.le_refl 0⟩ (Nat.le_of_ble_eq_true rfl) ?_
  refine jx_iload_n E dX5_seen_19 3 rfl ?_
  obtain ⟨⟨r4, v4⟩, hc4, hF⟩ := jx_bind hF
  try dsimp only at hF
  refine jx_callSi (As := [.int r2, .int r3, .int x2]) (st := []) E dX5_seen_20 3 rfl (k_X5_lotAt hI r2 r3 x2 v3 r4 v4 hc4) (gb_S (List.mem_cons_of_mem _ tw_407) (List.mem_cons_of_mem _ tw_408) (List.mem_cons_of_mem _ tw_325) tw_406) rfl rfl rfl dd_X5_lotAt rfl ⟨by decide, by decide⟩ ⟨Nat.le_refl 0, Nat.le_refl 0⟩ (Nat.le_of_ble_eq_true rfl) ?_
  refine jx_istore (lv' := [(4, .int r4), (3, .int r1), (0, .ref (ad 0)), (1, .int x1), (2, .int x2)]) E dX5_seen_23 (by decide) rfl ?_
  refine jx_iload E dX5_seen_25 0 rfl ?_
  refine jx_if_lt (tgt := 48) E dX5_seen_27 (by decide) (fun hc5 => ?_) (fun hc5 => ?_)
  · rw [if_pos hc5] at hF
    refine jx_iconst (x := 0) E dX5_seen_48 (by decide) ?_
    refine jx_istore (lv' := [(5, .int 0), (4, .int r4), (3, .int r1), (0, .ref (ad 0)), (1, .int x1), (2, .int x2)]) E dX5_seen_49 (by decide) rfl ?_
    refine jx_iconst (x := 0) E dX5_seen_51 (by decide) ?_
    refine jx_istore (lv' := [(6, .int 0), (5, .int 0), (4, .int r4), (3, .int r1), (0, .ref (ad 0)), (1, .int x1), (2, .int x2)]) E dX5_seen_52 (by decide) rfl ?_
    refine jx_iconst (x := 0) E dX5_seen_54 (by decide) ?_
    refine jx_istore (lv' := [(7, .int 0), (6, .int 0), (5, .int 0), (4, .int r4), (3, .int r1), (0, .ref (ad 0)), (1, .int x1), (2, .int x2)]) E dX5_seen_55 (by decide) rfl ?_
    refine jx_sub [5, 6, 7, 4, 3, 2, 1, 0] rfl ?_
    exact (key 100000).1 x1 x2 r1 r4 0 0 0 v4 hF
  · rw [if_neg hc5] at hF
    refine jx_aload_n E dX5_seen_30 2 rfl ?_
    refine jx_iload E dX5_seen_31 0 rfl ?_
    obtain ⟨⟨r6, v6⟩, hc6, hF⟩ := jx_bind hF
    try dsimp only at hF
    refine jx_callVi (As := [.int r4]) (st := []) (h := 0) E dX5_seen_33 1 rfl (k_X5_isThing hI r4 v4 r6 v6 hc6) (gb_V (List.mem_cons_of_mem _ tw_339) (List.mem_cons_of_mem _ tw_340) (List.mem_cons_of_mem _ tw_341) (List.mem_cons_of_mem _ tw_325) tw_338) rfl rfl rfl dd_X5_isThing rfl (Nat.le_of_ble_eq_true rfl) s_M0 rfl ⟨by decide, by decide⟩ ⟨Nat.le_refl 0, Nat.le_refl 0⟩ (Nat.le_of_ble_eq_true rfl) ?_
    refine jx_if_eq (tgt := 48) E dX5_seen_36 (by decide) (fun hc7 => ?_) (fun hc7 => ?_)
    · rw [if_pos hc7] at hF
      refine jx_iconst (x := 0) E dX5_seen_48 (by decide) ?_
      refine jx_istore (lv' := [(5, .int 0), (4, .int r4), (3, .int r1), (0, .ref (ad 0)), (1, .int x1), (2, .int x2)]) E dX5_seen_49 (by decide) rfl ?_
      refine jx_iconst (x := 0) E dX5_seen_51 (by decide) ?_
      refine jx_istore (lv' := [(6, .int 0), (5, .int 0), (4, .int r4), (3, .int r1), (0, .ref (ad 0)), (1, .int x1), (2, .int x2)]) E dX5_seen_52 (by decide) rfl ?_
      refine jx_iconst (x := 0) E dX5_seen_54 (by decide) ?_
      refine jx_istore (lv' := [(7, .int 0), (6, .int 0), (5, .int 0), (4, .int r4), (3, .int r1), (0, .ref (ad 0)), (1, .int x1), (2, .int x2)]) E dX5_seen_55 (by decide) rfl ?_
      refine jx_sub [5, 6, 7, 4, 3, 2, 1, 0] rfl ?_
      exact (key 100000).1 x1 x2 r1 r4 0 0 0 v6 hF
    · rw [if_neg hc7] at hF
      refine jx_aload_n E dX5_seen_39 2 rfl ?_
      refine jx_iload E dX5_seen_40 0 rfl ?_
      obtain ⟨⟨r8, v8⟩, hc8, hF⟩ := jx_bind hF
      try dsimp only at hF
      refine jx_callVi (As := [.int r4]) (st := []) (h := 0) E dX5_seen_42 1 rfl (k_X5_stands hI r4 v6 r8 v8 hc8) (gb_V (List.mem_cons_of_mem _ tw_384) (List.mem_cons_of_mem _ tw_385) (List.mem_cons_of_mem _ tw_386) (List.mem_cons_of_mem _ tw_325) tw_383) rfl rfl rfl dd_X5_stands rfl (Nat.le_of_ble_eq_true rfl) s_M0 rfl ⟨by decide, by decide⟩ ⟨Nat.le_refl 0, Nat.le_refl 0⟩ (Nat.le_of_ble_eq_true rfl) ?_
      refine jx_goto (tgt := 49) E dX5_seen_45 (by decide) ?_
      refine jx_istore (lv' := [(5, .int r8), (4, .int r4), (3, .int r1), (0, .ref (ad 0)), (1, .int x1), (2, .int x2)]) E dX5_seen_49 (by decide) rfl ?_
      refine jx_iconst (x := 0) E dX5_seen_51 (by decide) ?_
      refine jx_istore (lv' := [(6, .int 0), (5, .int r8), (4, .int r4), (3, .int r1), (0, .ref (ad 0)), (1, .int x1), (2, .int x2)]) E dX5_seen_52 (by decide) rfl ?_
      refine jx_iconst (x := 0) E dX5_seen_54 (by decide) ?_
      refine jx_istore (lv' := [(7, .int 0), (6, .int 0), (5, .int r8), (4, .int r4), (3, .int r1), (0, .ref (ad 0)), (1, .int x1), (2, .int x2)]) E dX5_seen_55 (by decide) rfl ?_
      refine jx_sub [5, 6, 7, 4, 3, 2, 1, 0] rfl ?_
      exact (key 100000).1 x1 x2 r1 r4 r8 0 0 v8 hF
def f_X5_looks_L  : Nat → Nat → Int32 → Int32 → Int32 → jx_V → Option (jx_V)
  | 0, _, _, _, _, _ => none
  | n + 1, tag, x1, x2, x3, v => (if tag = 0 then (if 4 ≤ x2 then ((f_X5_told x1 3 (jx_up (jx_up (jx_up v 0 6 0) 0 7 0) 0 8 0)).bind (fun (r2, v2) => (f_X5_looks_L n 1 x1 r2 1 v2))) else (if (x2 < 0 ∨ 4 ≤ Int32.toNatClampNeg x2) then none else (f_X5_looks_L n 0 x1 (x2 + 1) 0 (jx_up v 5 (Int32.toNatClampNeg x2) 0)))) else (if tag = 1 then (if 5 ≤ x3 then (some v) else ((f_X5_seen x1 x3 v).bind (fun (r5, v5) => ((f_X5_ones r5 v5).bind (fun (r6, v6) => (if r6 ≤ 0 then (f_X5_looks_L n 1 x1 x2 (x3 + 1) v6) else ((f_X5_told x1 0 v6).bind (fun (r8, v8) => ((f_X5_told x1 2 v8).bind (fun (r9, v9) => ((f_X5_lotAt r8 r9 x3 v9).bind (fun (r10, v10) => ((f_X5_its r10 1 v10).bind (fun (r11, v11) => (if (r11 < 0 ∨ 4 ≤ Int32.toNatClampNeg r11) then none else (if (r11 < 0 ∨ 4 ≤ Int32.toNatClampNeg r11) then none else (if r11 = x2 then (f_X5_looks_L n 1 x1 x2 (x3 + 1) (jx_up (jx_up (jx_up v11 5 (Int32.toNatClampNeg r11) ((v11 5 (Int32.toNatClampNeg r11)) + r6)) 0 6 (((jx_up v11 5 (Int32.toNatClampNeg r11) ((v11 5 (Int32.toNatClampNeg r11)) + r6)) 0 6) + r6)) 0 8 (((jx_up (jx_up v11 5 (Int32.toNatClampNeg r11) ((v11 5 (Int32.toNatClampNeg r11)) + r6)) 0 6 (((jx_up v11 5 (Int32.toNatClampNeg r11) ((v11 5 (Int32.toNatClampNeg r11)) + r6)) 0 6) + r6)) 0 8) ||| (1 <<< (r10 &&& 31))))) else ((f_X5_priceOf r10 (jx_up (jx_up (jx_up v11 5 (Int32.toNatClampNeg r11) ((v11 5 (Int32.toNatClampNeg r11)) + r6)) 0 6 (((jx_up v11 5 (Int32.toNatClampNeg r11) ((v11 5 (Int32.toNatClampNeg r11)) + r6)) 0 6) + r6)) 0 8 (((jx_up (jx_up v11 5 (Int32.toNatClampNeg r11) ((v11 5 (Int32.toNatClampNeg r11)) + r6)) 0 6 (((jx_up v11 5 (Int32.toNatClampNeg r11) ((v11 5 (Int32.toNatClampNeg r11)) + r6)) 0 6) + r6)) 0 8) ||| (1 <<< (r10 &&& 31))))).bind (fun (r15, v15) => (if (r11 < 0 ∨ 4 ≤ Int32.toNatClampNeg r11) then none else (if (r11 < 0 ∨ 4 ≤ Int32.toNatClampNeg r11) then none else (if (x2 < 0 ∨ 4 ≤ Int32.toNatClampNeg x2) then none else (if (x2 < 0 ∨ 4 ≤ Int32.toNatClampNeg x2) then none else (f_X5_looks_L n 1 x1 x2 (x3 + 1) (jx_up (jx_up (jx_up v15 0 7 ((v15 0 7) + (r6 * r15))) 6 (Int32.toNatClampNeg r11) (((jx_up v15 0 7 ((v15 0 7) + (r6 * r15))) 6 (Int32.toNatClampNeg r11)) + (r6 * r15))) 6 (Int32.toNatClampNeg x2) (((jx_up (jx_up v15 0 7 ((v15 0 7) + (r6 * r15))) 6 (Int32.toNatClampNeg r11) (((jx_up v15 0 7 ((v15 0 7) + (r6 * r15))) 6 (Int32.toNatClampNeg r11)) + (r6 * r15))) 6 (Int32.toNatClampNeg x2)) - (r6 * r15))))))))))))))))))))))))))) else none))
def f_X5_looks (x1 : Int32) (v : jx_V) : Option (jx_V) := (f_X5_looks_L 100000 0 x1 0 0 v)
def rm_X5_looks : Room := { frames := 4, cells := 0, slots := 0, locals := 98 }
set_option maxHeartbeats 4000000 in
set_option maxRecDepth 100000 in
theorem k_X5_looks {l : Launch} {D : va_G} {cI cJ : ClassId} {ad : Nat → Nat} {A : Nat → Prop} (hI : jx_inj 13 ad A) (x1 : Int32) (v : jx_V) (v' : jx_V) (hF : f_X5_looks x1 v = some v') : jx_Cv l D vwCl 13 cI cJ ad shM A ex_M yX5_looks (Cond.code yX5_looks cX5_looks 8 (none) :: bigT) rm_X5_looks [.ref (ad 0), .int x1] v v' := by
  unfold f_X5_looks at hF
  refine jx_enterv bigT RX5 cX5_looks 8 (none) [(0, .ref (ad 0)), (1, .int x1)] hI (ex_M_ok A) (by decide +kernel) rfl (Nat.le_of_ble_eq_true rfl) rfl rfl ?_
  intro p e s m args below meth c E
  have iX5 : ∀ w ∈ u_ws RX5 TX5 21, w ∈ (Cond.code yX5_looks cX5_looks 8 (none) :: bigT) := fun w h => List.mem_cons_of_mem _ (uw_X5 w h)
  have key : ∀ n : Nat, (∀ (x1 : Int32) (x2 : Int32) (v : jx_V), f_X5_looks_L  n 0 x1 x2 0 v = some v' → jx_J p l e rm_X5_looks s m args below meth c D vwCl 13 cI cJ ad shM A 0 0 8 (MQ below (va_Qv (fun (_ : Unit) => True) (fun _ t => va_P D vwCl (jx_ws 13 cI cJ ad shM v') t.heap) A) args s 0 0 A) v 2 [(0, .ref (ad 0)), (1, .int x1), (2, .int x2)] []) ∧ (∀ (x1 : Int32) (x2 : Int32) (x3 : Int32) (v : jx_V), f_X5_looks_L  n 1 x1 x2 x3 v = some v' → jx_J p l e rm_X5_looks s m args below meth c D vwCl 13 cI cJ ad shM A 0 0 8 (MQ below (va_Qv (fun (_ : Unit) => True) (fun _ t => va_P D vwCl (jx_ws 13 cI cJ ad shM v') t.heap) A) args s 0 0 A) v 44 [(0, .ref (ad 0)), (1, .int x1), (2, .int x2), (3, .int x3)] []) := by
    intro n
    induction n with
    | zero =>
      exact ⟨(fun _ _ _ h => by cases h), (fun _ _ _ _ h => by cases h)⟩
    | succ n ih =>
      refine ⟨?_, ?_⟩
      · intro x1 x2 v hF
        rw [f_X5_looks_L] at hF
        rw [if_pos rfl] at hF
        refine jx_iload_n E dX5_looks_2 2 rfl ?_
        refine jx_iconst (x := 4) E dX5_looks_3 (by decide) ?_
        refine jx_icmp_ge (tgt := 20) E dX5_looks_4 (by decide) (fun hc1 => ?_) (fun hc1 => ?_)
        · rw [if_pos hc1] at hF
          refine jx_aload_n E dX5_looks_20 0 rfl ?_
          refine jx_iconst (x := 0) E dX5_looks_21 (by decide) ?_
          refine jx_puti (C := RX5) (T := TX5) (M := 21) (k := 6) (ty := .int) E tyX5 dX5_looks_22 (Nat.le_of_ble_eq_true rfl) s_M0 rfl iX5 (by decide) rfl (List.mem_cons_of_mem _ tw_409) tyX5_ok nmX5 rfl (by decide +kernel) rfl rfl rfl ?_
          refine jx_aload_n E dX5_looks_25 0 rfl ?_
          refine jx_iconst (x := 0) E dX5_looks_26 (by decide) ?_
          refine jx_puti (C := RX5) (T := TX5) (M := 21) (k := 7) (ty := .int) E tyX5 dX5_looks_27 (Nat.le_of_ble_eq_true rfl) s_M0 rfl iX5 (by decide) rfl (List.mem_cons_of_mem _ tw_410) tyX5_ok nmX5 rfl (by decide +kernel) rfl rfl rfl ?_
          refine jx_aload_n E dX5_looks_30 0 rfl ?_
          refine jx_iconst (x := 0) E dX5_looks_31 (by decide) ?_
          refine jx_puti (C := RX5) (T := TX5) (M := 21) (k := 8) (ty := .int) E tyX5 dX5_looks_32 (Nat.le_of_ble_eq_true rfl) s_M0 rfl iX5 (by decide) rfl (List.mem_cons_of_mem _ tw_411) tyX5_ok nmX5 rfl (by decide +kernel) rfl rfl rfl ?_
          refine jx_aload_n E dX5_looks_35 0 rfl ?_
          refine jx_iload_n E dX5_looks_36 1 rfl ?_
          refine jx_iconst (x := 3) E dX5_looks_37 (by decide) ?_
          obtain ⟨⟨r2, v2⟩, hc2, hF⟩ := jx_bind hF
          try dsimp only at hF
          refine jx_callVi (As := [.int x1, .int 3]) (st := []) (h := 0) E dX5_looks_38 2 rfl (k_X5_told hI x1 3 (jx_up (jx_up (jx_up v 0 6 0) 0 7 0) 0 8 0) r2 v2 hc2) (gb_V (List.mem_cons_of_mem _ tw_402) (List.mem_cons_of_mem _ tw_403) (List.mem_cons_of_mem _ tw_404) (List.mem_cons_of_mem _ tw_325) tw_401) rfl rfl rfl dd_X5_told rfl (Nat.le_of_ble_eq_true rfl) s_M0 rfl ⟨by decide, by decide⟩ ⟨Nat.le_refl 0, Nat.le_refl 0⟩ (Nat.le_of_ble_eq_true rfl) ?_
          refine jx_istore_n (lv' := [(2, .int r2), (0, .ref (ad 0)), (1, .int x1)]) E dX5_looks_41 (by decide) rfl ?_
          refine jx_iconst (x := 1) E dX5_looks_42 (by decide) ?_
          refine jx_istore_n (lv' := [(3, .int 1), (2, .int r2), (0, .ref (ad 0)), (1, .int x1)]) E dX5_looks_43 (by decide) rfl ?_
          refine jx_sub [2, 3, 1, 0] rfl ?_
          exact ih.2 x1 r2 1 v2 hF
        · rw [if_neg hc1] at hF
          refine jx_aload_n E dX5_looks_7 0 rfl ?_
          refine jx_getr (C := RX5) (T := TX5) (M := 21) (k := 5) E dX5_looks_8 (Nat.le_of_ble_eq_true rfl) s_M0 rfl iX5 (by decide) rfl (List.mem_cons_of_mem _ tw_412) rfl ?_
          refine jx_iload_n E dX5_looks_11 2 rfl ?_
          refine jx_iconst (x := 0) E dX5_looks_12 (by decide) ?_
          obtain ⟨hg3, hF⟩ := jx_guard hF
          refine jx_iast (h := 5) (j := (Int32.toNatClampNeg x2)) E dX5_looks_13 (Nat.le_of_ble_eq_true rfl) s_M5 hg3 rfl ?_
          refine jx_iinc (y := (x2 + 1)) (lv' := [(2, .int (x2 + 1)), (0, .ref (ad 0)), (1, .int x1)]) E dX5_looks_14 2 rfl rfl (by decide) rfl ?_
          refine jx_goto (tgt := 2) E dX5_looks_17 (by decide) ?_
          refine jx_sub [1, 2, 0] rfl ?_
          exact ih.1 x1 (x2 + 1) (jx_up v 5 (Int32.toNatClampNeg x2) 0) hF
      · intro x1 x2 x3 v hF
        rw [f_X5_looks_L] at hF
        rw [if_neg (by decide), if_pos rfl] at hF
        refine jx_iload_n E dX5_looks_44 3 rfl ?_
        refine jx_iconst (x := 5) E dX5_looks_45 (by decide) ?_
        refine jx_icmp_ge (tgt := 185) E dX5_looks_46 (by decide) (fun hc4 => ?_) (fun hc4 => ?_)
        · rw [if_pos hc4] at hF
          obtain rfl := Option.some.inj hF
          exact jx_vret E dX5_looks_185 rfl
        · rw [if_neg hc4] at hF
          refine jx_aload_n E dX5_looks_49 0 rfl ?_
          refine jx_iload_n E dX5_looks_50 1 rfl ?_
          refine jx_iload_n E dX5_looks_51 3 rfl ?_
          obtain ⟨⟨r5, v5⟩, hc5, hF⟩ := jx_bind hF
          try dsimp only at hF
          refine jx_callVi (As := [.int x1, .int x3]) (st := []) (h := 0) E dX5_looks_52 2 rfl (k_X5_seen hI x1 x3 v r5 v5 hc5) (gb_V (List.mem_cons_of_mem _ tw_414) (List.mem_cons_of_mem _ tw_415) (List.mem_cons_of_mem _ tw_416) (List.mem_cons_of_mem _ tw_325) tw_413) rfl rfl rfl dd_X5_seen rfl (Nat.le_of_ble_eq_true rfl) s_M0 rfl ⟨by decide, by decide⟩ ⟨Nat.le_refl 0, Nat.le_refl 0⟩ (Nat.le_of_ble_eq_true rfl) ?_
          obtain ⟨⟨r6, v6⟩, hc6, hF⟩ := jx_bind hF
          try dsimp only at hF
          refine jx_callSi (As := [.int r5]) (st := []) E dX5_looks_55 1 rfl (k_X5_ones hI r5 v5 r6 v6 hc6) (gb_S (List.mem_cons_of_mem _ tw_418) (List.mem_cons_of_mem _ tw_419) (List.mem_cons_of_mem _ tw_325) tw_417) rfl rfl rfl dd_X5_ones rfl ⟨by decide, by decide⟩ ⟨Nat.le_refl 0, Nat.le_refl 0⟩ (Nat.le_of_ble_eq_true rfl) ?_
          refine jx_istore (lv' := [(4, .int r6), (0, .ref (ad 0)), (1, .int x1), (2, .int x2), (3, .int x3)]) E dX5_looks_58 (by decide) rfl ?_
          refine jx_iload E dX5_looks_60 0 rfl ?_
          refine jx_if_le (tgt := 179) E dX5_looks_62 (by decide) (fun hc7 => ?_) (fun hc7 => ?_)
          · rw [if_pos hc7] at hF
            refine jx_iinc (y := (x3 + 1)) (lv' := [(3, .int (x3 + 1)), (4, .int r6), (0, .ref (ad 0)), (1, .int x1), (2, .int x2)]) E dX5_looks_179 4 rfl rfl (by decide) rfl ?_
            refine jx_goto (tgt := 44) E dX5_looks_182 (by decide) ?_
            refine jx_sub [2, 3, 4, 0] rfl ?_
            exact ih.2 x1 x2 (x3 + 1) v6 hF
          · rw [if_neg hc7] at hF
            refine jx_aload_n E dX5_looks_65 1 rfl ?_
            refine jx_iload_n E dX5_looks_66 2 rfl ?_
            refine jx_iconst (x := 0) E dX5_looks_67 (by decide) ?_
            obtain ⟨⟨r8, v8⟩, hc8, hF⟩ := jx_bind hF
            try dsimp only at hF
            refine jx_callVi (As := [.int x1, .int 0]) (st := []) (h := 0) E dX5_looks_68 2 rfl (k_X5_told hI x1 0 v6 r8 v8 hc8) (gb_V (List.mem_cons_of_mem _ tw_402) (List.mem_cons_of_mem _ tw_403) (List.mem_cons_of_mem _ tw_404) (List.mem_cons_of_mem _ tw_325) tw_401) rfl rfl rfl dd_X5_told rfl (Nat.le_of_ble_eq_true rfl) s_M0 rfl ⟨by decide, by decide⟩ ⟨Nat.le_refl 0, Nat.le_refl 0⟩ (Nat.le_of_ble_eq_true rfl) ?_
            refine jx_aload_n E dX5_looks_71 1 rfl ?_
            refine jx_iload_n E dX5_looks_72 2 rfl ?_
            refine jx_iconst (x := 2) E dX5_looks_73 (by decide) ?_
            obtain ⟨⟨r9, v9⟩, hc9, hF⟩ := jx_bind hF
            try dsimp only at hF
            refine jx_callVi (As := [.int x1, .int 2]) (st := [.int r8]) (h := 0) E dX5_looks_74 2 rfl (k_X5_told hI x1 2 v8 r9 v9 hc9) (gb_V (List.mem_cons_of_mem _ tw_402) (List.mem_cons_of_mem _ tw_403) (List.mem_cons_of_mem _ tw_404) (List.mem_cons_of_mem _ tw_325) tw_401) rfl rfl rfl dd_X5_told rfl (Nat.le_of_ble_eq_true rfl) s_M0 rfl ⟨by decide, by decide⟩ ⟨Nat.le_refl 0, Nat.le_refl 0⟩ (Nat.le_of_ble_eq_true rfl) ?_
            refine jx_iload_n E dX5_looks_77 4 rfl ?_
            obtain ⟨⟨r10, v10⟩, hc10, hF⟩ := jx_bind hF
            try dsimp only at hF
            refine jx_callSi (As := [.int r8, .int r9, .int x3]) (st := []) E dX5_looks_78 3 rfl (k_X5_lotAt hI r8 r9 x3 v9 r10 v10 hc10) (gb_S (List.mem_cons_of_mem _ tw_407) (List.mem_cons_of_mem _ tw_408) (List.mem_cons_of_mem _ tw_325) tw_406) rfl rfl rfl dd_X5_lotAt rfl ⟨by decide, by decide⟩ ⟨Nat.le_refl 0, Nat.le_refl 0⟩ (Nat.le_of_ble_eq_true rfl) ?_
            refine jx_istore (lv' := [(5, .int r10), (4, .int r6), (0, .ref (ad 0)), (1, .int x1), (2, .int x2), (3, .int x3)]) E dX5_looks_81 (by decide) rfl ?_
            refine jx_aload_n E dX5_looks_83 2 rfl ?_
            refine jx_iload E dX5_looks_84 0 rfl ?_
            refine jx_iconst (x := 1) E dX5_looks_86 (by decide) ?_
            obtain ⟨⟨r11, v11⟩, hc11, hF⟩ := jx_bind hF
            try dsimp only at hF
            refine jx_callVi (As := [.int r10, .int 1]) (st := []) (h := 0) E dX5_looks_87 2 rfl (k_X5_its hI r10 1 v10 r11 v11 hc11) (gb_V (List.mem_cons_of_mem _ tw_335) (List.mem_cons_of_mem _ tw_336) (List.mem_cons_of_mem _ tw_337) (List.mem_cons_of_mem _ tw_325) tw_334) rfl rfl rfl dd_X5_its rfl (Nat.le_of_ble_eq_true rfl) s_M0 rfl ⟨by decide, by decide⟩ ⟨Nat.le_refl 0, Nat.le_refl 0⟩ (Nat.le_of_ble_eq_true rfl) ?_
            refine jx_istore (lv' := [(6, .int r11), (5, .int r10), (4, .int r6), (0, .ref (ad 0)), (1, .int x1), (2, .int x2), (3, .int x3)]) E dX5_looks_90 (by decide) rfl ?_
            refine jx_aload_n E dX5_looks_92 3 rfl ?_
            refine jx_getr (C := RX5) (T := TX5) (M := 21) (k := 5) E dX5_looks_93 (Nat.le_of_ble_eq_true rfl) s_M0 rfl iX5 (by decide) rfl (List.mem_cons_of_mem _ tw_412) rfl ?_
            refine jx_iload E dX5_looks_96 0 rfl ?_
            refine jx_dup2 E dX5_looks_98 rfl rfl ?_
            obtain ⟨hg12, hF⟩ := jx_guard hF
            refine jx_iald (h := 5) (j := (Int32.toNatClampNeg r11)) E dX5_looks_99 (Nat.le_of_ble_eq_true rfl) s_M5 hg12 rfl ?_
            refine jx_iload E dX5_looks_100 2 rfl ?_
            refine jx_iadd E dX5_looks_102 ?_
            obtain ⟨hg13, hF⟩ := jx_guard hF
            refine jx_iast (h := 5) (j := (Int32.toNatClampNeg r11)) E dX5_looks_103 (Nat.le_of_ble_eq_true rfl) s_M5 hg13 rfl ?_
            refine jx_aload_n E dX5_looks_104 3 rfl ?_
            refine jx_dup E dX5_looks_105 rfl ?_
            refine jx_geti (C := RX5) (T := TX5) (M := 21) (k := 6) E dX5_looks_106 (Nat.le_of_ble_eq_true rfl) s_M0 rfl iX5 (by decide) rfl (List.mem_cons_of_mem _ tw_409) rfl ?_
            refine jx_iload E dX5_looks_109 2 rfl ?_
            refine jx_iadd E dX5_looks_111 ?_
            refine jx_puti (C := RX5) (T := TX5) (M := 21) (k := 6) (ty := .int) E tyX5 dX5_looks_112 (Nat.le_of_ble_eq_true rfl) s_M0 rfl iX5 (by decide) rfl (List.mem_cons_of_mem _ tw_409) tyX5_ok nmX5 rfl (by decide +kernel) rfl rfl rfl ?_
            refine jx_aload_n E dX5_looks_115 3 rfl ?_
            refine jx_dup E dX5_looks_116 rfl ?_
            refine jx_geti (C := RX5) (T := TX5) (M := 21) (k := 8) E dX5_looks_117 (Nat.le_of_ble_eq_true rfl) s_M0 rfl iX5 (by decide) rfl (List.mem_cons_of_mem _ tw_411) rfl ?_
            refine jx_iconst (x := 1) E dX5_looks_120 (by decide) ?_
            refine jx_iload E dX5_looks_121 1 rfl ?_
            refine jx_ishl E dX5_looks_123 ?_
            refine jx_ior E dX5_looks_124 ?_
            refine jx_puti (C := RX5) (T := TX5) (M := 21) (k := 8) (ty := .int) E tyX5 dX5_looks_125 (Nat.le_of_ble_eq_true rfl) s_M0 rfl iX5 (by decide) rfl (List.mem_cons_of_mem _ tw_411) tyX5_ok nmX5 rfl (by decide +kernel) rfl rfl rfl ?_
            refine jx_iload E dX5_looks_128 0 rfl ?_
            refine jx_iload_n E dX5_looks_130 5 rfl ?_
            refine jx_icmp_eq (tgt := 179) E dX5_looks_131 (by decide) (fun hc14 => ?_) (fun hc14 => ?_)
            · rw [if_pos hc14] at hF
              refine jx_iinc (y := (x3 + 1)) (lv' := [(3, .int (x3 + 1)), (6, .int r11), (5, .int r10), (4, .int r6), (0, .ref (ad 0)), (1, .int x1), (2, .int x2)]) E dX5_looks_179 6 rfl rfl (by decide) rfl ?_
              refine jx_goto (tgt := 44) E dX5_looks_182 (by decide) ?_
              refine jx_sub [4, 5, 6, 0] rfl ?_
              exact ih.2 x1 x2 (x3 + 1) (jx_up (jx_up (jx_up v11 5 (Int32.toNatClampNeg r11) ((v11 5 (Int32.toNatClampNeg r11)) + r6)) 0 6 (((jx_up v11 5 (Int32.toNatClampNeg r11) ((v11 5 (Int32.toNatClampNeg r11)) + r6)) 0 6) + r6)) 0 8 (((jx_up (jx_up v11 5 (Int32.toNatClampNeg r11) ((v11 5 (Int32.toNatClampNeg r11)) + r6)) 0 6 (((jx_up v11 5 (Int32.toNatClampNeg r11) ((v11 5 (Int32.toNatClampNeg r11)) + r6)) 0 6) + r6)) 0 8) ||| (1 <<< (r10 &&& 31)))) hF
            · rw [if_neg hc14] at hF
              refine jx_iload E dX5_looks_134 2 rfl ?_
              refine jx_aload_n E dX5_looks_136 3 rfl ?_
              refine jx_iload E dX5_looks_137 1 rfl ?_
              obtain ⟨⟨r15, v15⟩, hc15, hF⟩ := jx_bind hF
              try dsimp only at hF
              refine jx_callVi (As := [.int r10]) (st := [.int r6]) (h := 0) E dX5_looks_139 1 rfl (k_X5_priceOf hI r10 (jx_up (jx_up (jx_up v11 5 (Int32.toNatClampNeg r11) ((v11 5 (Int32.toNatClampNeg r11)) + r6)) 0 6 (((jx_up v11 5 (Int32.toNatClampNeg r11) ((v11 5 (Int32.toNatClampNeg r11)) + r6)) 0 6) + r6)) 0 8 (((jx_up (jx_up v11 5 (Int32.toNatClampNeg r11) ((v11 5 (Int32.toNatClampNeg r11)) + r6)) 0 6 (((jx_up v11 5 (Int32.toNatClampNeg r11) ((v11 5 (Int32.toNatClampNeg r11)) + r6)) 0 6) + r6)) 0 8) ||| (1 <<< (r10 &&& 31)))) r15 v15 hc15) (gb_V (List.mem_cons_of_mem _ tw_380) (List.mem_cons_of_mem _ tw_381) (List.mem_cons_of_mem _ tw_382) (List.mem_cons_of_mem _ tw_325) tw_379) rfl rfl rfl dd_X5_priceOf rfl (Nat.le_of_ble_eq_true rfl) s_M0 rfl ⟨by decide, by decide⟩ ⟨Nat.le_refl 0, Nat.le_refl 0⟩ (Nat.le_of_ble_eq_true rfl) ?_
              refine jx_imul E dX5_looks_142 ?_
              refine jx_istore (lv' := [(7, .int (r6 * r15)), (6, .int r11), (5, .int r10), (4, .int r6), (0, .ref (ad 0)), (1, .int x1), (2, .int x2), (3, .int x3)]) E dX5_looks_143 (by decide) rfl ?_
              refine jx_aload_n E dX5_looks_145 4 rfl ?_
              refine jx_dup E dX5_looks_146 rfl ?_
              refine jx_geti (C := RX5) (T := TX5) (M := 21) (k := 7) E dX5_looks_147 (Nat.le_of_ble_eq_true rfl) s_M0 rfl iX5 (by decide) rfl (List.mem_cons_of_mem _ tw_410) rfl ?_
              refine jx_iload E dX5_looks_150 0 rfl ?_
              refine jx_iadd E dX5_looks_152 ?_
              refine jx_puti (C := RX5) (T := TX5) (M := 21) (k := 7) (ty := .int) E tyX5 dX5_looks_153 (Nat.le_of_ble_eq_true rfl) s_M0 rfl iX5 (by decide) rfl (List.mem_cons_of_mem _ tw_410) tyX5_ok nmX5 rfl (by decide +kernel) rfl rfl rfl ?_
              refine jx_aload_n E dX5_looks_156 4 rfl ?_
              refine jx_getr (C := RX5) (T := TX5) (M := 21) (k := 9) E dX5_looks_157 (Nat.le_of_ble_eq_true rfl) s_M0 rfl iX5 (by decide) rfl (List.mem_cons_of_mem _ tw_420) rfl ?_
              refine jx_iload E dX5_looks_160 1 rfl ?_
              refine jx_dup2 E dX5_looks_162 rfl rfl ?_
              obtain ⟨hg16, hF⟩ := jx_guard hF
              refine jx_iald (h := 6) (j := (Int32.toNatClampNeg r11)) E dX5_looks_163 (Nat.le_of_ble_eq_true rfl) s_M6 hg16 rfl ?_
              refine jx_iload E dX5_looks_164 0 rfl ?_
              refine jx_iadd E dX5_looks_166 ?_
              obtain ⟨hg17, hF⟩ := jx_guard hF
              refine jx_iast (h := 6) (j := (Int32.toNatClampNeg r11)) E dX5_looks_167 (Nat.le_of_ble_eq_true rfl) s_M6 hg17 rfl ?_
              refine jx_aload_n E dX5_looks_168 4 rfl ?_
              refine jx_getr (C := RX5) (T := TX5) (M := 21) (k := 9) E dX5_looks_169 (Nat.le_of_ble_eq_true rfl) s_M0 rfl iX5 (by decide) rfl (List.mem_cons_of_mem _ tw_420) rfl ?_
              refine jx_iload_n E dX5_looks_172 6 rfl ?_
              refine jx_dup2 E dX5_looks_173 rfl rfl ?_
              obtain ⟨hg18, hF⟩ := jx_guard hF
              refine jx_iald (h := 6) (j := (Int32.toNatClampNeg x2)) E dX5_looks_174 (Nat.le_of_ble_eq_true rfl) s_M6 hg18 rfl ?_
              refine jx_iload E dX5_looks_175 0 rfl ?_
              refine jx_isub E dX5_looks_177 ?_
              obtain ⟨hg19, hF⟩ := jx_guard hF
              refine jx_iast (h := 6) (j := (Int32.toNatClampNeg x2)) E dX5_looks_178 (Nat.le_of_ble_eq_true rfl) s_M6 hg19 rfl ?_
              refine jx_iinc (y := (x3 + 1)) (lv' := [(3, .int (x3 + 1)), (7, .int (r6 * r15)), (6, .int r11), (5, .int r10), (4, .int r6), (0, .ref (ad 0)), (1, .int x1), (2, .int x2)]) E dX5_looks_179 7 rfl rfl (by decide) rfl ?_
              refine jx_goto (tgt := 44) E dX5_looks_182 (by decide) ?_
              refine jx_sub [5, 6, 7, 0] rfl ?_
              exact ih.2 x1 x2 (x3 + 1) (jx_up (jx_up (jx_up v15 0 7 ((v15 0 7) + (r6 * r15))) 6 (Int32.toNatClampNeg r11) (((jx_up v15 0 7 ((v15 0 7) + (r6 * r15))) 6 (Int32.toNatClampNeg r11)) + (r6 * r15))) 6 (Int32.toNatClampNeg x2) (((jx_up (jx_up v15 0 7 ((v15 0 7) + (r6 * r15))) 6 (Int32.toNatClampNeg r11) (((jx_up v15 0 7 ((v15 0 7) + (r6 * r15))) 6 (Int32.toNatClampNeg r11)) + (r6 * r15))) 6 (Int32.toNatClampNeg x2)) - (r6 * r15))) hF
  refine jx_iconst (x := 0) E dX5_looks_0 (by decide) ?_
  refine jx_istore_n (lv' := [(2, .int 0), (0, .ref (ad 0)), (1, .int x1)]) E dX5_looks_1 (by decide) rfl ?_
  refine jx_sub [1, 2, 0] rfl ?_
  exact (key 100000).1 x1 0 v hF
def f_X5_isBroken (x1 : Int32) (v : jx_V) : Option (Int32 × jx_V) := ((f_X5_looks x1 v).bind (fun v1 => ((f_X5_told x1 4 v1).bind (fun (r2, v2) => (if r2 < 0 then (some (0, v2)) else (if (r2 < 0 ∨ 4 ≤ Int32.toNatClampNeg r2) then none else ((f_X5_told x1 5 v2).bind (fun (r5, v5) => (if r5 ≤ (v2 5 (Int32.toNatClampNeg r2)) then (some (0, v5)) else (some (1, v5)))))))))))
def rm_X5_isBroken : Room := { frames := 5, cells := 0, slots := 0, locals := 125 }
set_option maxHeartbeats 4000000 in
set_option maxRecDepth 100000 in
theorem k_X5_isBroken {l : Launch} {D : va_G} {cI cJ : ClassId} {ad : Nat → Nat} {A : Nat → Prop} (hI : jx_inj 13 ad A) (x1 : Int32) (v : jx_V) (r : Int32) (v' : jx_V) (hF : f_X5_isBroken x1 v = some (r, v')) : jx_Ci l D vwCl 13 cI cJ ad shM A ex_M yX5_isBroken (Cond.code yX5_isBroken cX5_isBroken 3 (some .boolean) :: bigT) rm_X5_isBroken [.ref (ad 0), .int x1] v r v' := by
  unfold f_X5_isBroken at hF
  refine jx_enteri bigT RX5 cX5_isBroken 3 (some .boolean) [(0, .ref (ad 0)), (1, .int x1)] hI (ex_M_ok A) (by decide +kernel) rfl (Nat.le_of_ble_eq_true rfl) rfl rfl ?_
  intro p e s m args below meth c E
  have iX5 : ∀ w ∈ u_ws RX5 TX5 21, w ∈ (Cond.code yX5_isBroken cX5_isBroken 3 (some .boolean) :: bigT) := fun w h => List.mem_cons_of_mem _ (uw_X5 w h)
  refine jx_aload_n E dX5_isBroken_0 0 rfl ?_
  refine jx_iload_n E dX5_isBroken_1 1 rfl ?_
  obtain ⟨v1, hc1, hF⟩ := jx_bind hF
  try dsimp only at hF
  refine jx_callVv (As := [.int x1]) (st := []) (h := 0) E dX5_isBroken_2 1 rfl (k_X5_looks hI x1 v v1 hc1) (gb_V (List.mem_cons_of_mem _ tw_422) (List.mem_cons_of_mem _ tw_423) (List.mem_cons_of_mem _ tw_424) (List.mem_cons_of_mem _ tw_325) tw_421) rfl rfl rfl dd_X5_looks rfl (Nat.le_of_ble_eq_true rfl) s_M0 rfl ⟨by decide, by decide⟩ ⟨Nat.le_refl 0, Nat.le_refl 0⟩ (Nat.le_of_ble_eq_true rfl) ?_
  refine jx_aload_n E dX5_isBroken_5 0 rfl ?_
  refine jx_iload_n E dX5_isBroken_6 1 rfl ?_
  refine jx_iconst (x := 4) E dX5_isBroken_7 (by decide) ?_
  obtain ⟨⟨r2, v2⟩, hc2, hF⟩ := jx_bind hF
  try dsimp only at hF
  refine jx_callVi (As := [.int x1, .int 4]) (st := []) (h := 0) E dX5_isBroken_8 2 rfl (k_X5_told hI x1 4 v1 r2 v2 hc2) (gb_V (List.mem_cons_of_mem _ tw_402) (List.mem_cons_of_mem _ tw_403) (List.mem_cons_of_mem _ tw_404) (List.mem_cons_of_mem _ tw_325) tw_401) rfl rfl rfl dd_X5_told rfl (Nat.le_of_ble_eq_true rfl) s_M0 rfl ⟨by decide, by decide⟩ ⟨Nat.le_refl 0, Nat.le_refl 0⟩ (Nat.le_of_ble_eq_true rfl) ?_
  refine jx_istore_n (lv' := [(2, .int r2), (0, .ref (ad 0)), (1, .int x1)]) E dX5_isBroken_11 (by decide) rfl ?_
  refine jx_iload_n E dX5_isBroken_12 0 rfl ?_
  refine jx_if_lt (tgt := 35) E dX5_isBroken_13 (by decide) (fun hc3 => ?_) (fun hc3 => ?_)
  · rw [if_pos hc3] at hF
    refine jx_iconst (x := 0) E dX5_isBroken_35 (by decide) ?_
    obtain ⟨rfl, rfl⟩ := jx_out hF
    exact jx_zret E dX5_isBroken_36 rfl (Or.inl rfl)
  · rw [if_neg hc3] at hF
    refine jx_aload_n E dX5_isBroken_16 1 rfl ?_
    refine jx_getr (C := RX5) (T := TX5) (M := 21) (k := 5) E dX5_isBroken_17 (Nat.le_of_ble_eq_true rfl) s_M0 rfl iX5 (by decide) rfl (List.mem_cons_of_mem _ tw_412) rfl ?_
    refine jx_iload_n E dX5_isBroken_20 0 rfl ?_
    obtain ⟨hg4, hF⟩ := jx_guard hF
    refine jx_iald (h := 5) (j := (Int32.toNatClampNeg r2)) E dX5_isBroken_21 (Nat.le_of_ble_eq_true rfl) s_M5 hg4 rfl ?_
    refine jx_aload_n E dX5_isBroken_22 1 rfl ?_
    refine jx_iload_n E dX5_isBroken_23 2 rfl ?_
    refine jx_iconst (x := 5) E dX5_isBroken_24 (by decide) ?_
    obtain ⟨⟨r5, v5⟩, hc5, hF⟩ := jx_bind hF
    try dsimp only at hF
    refine jx_callVi (As := [.int x1, .int 5]) (st := [.int (v2 5 (Int32.toNatClampNeg r2))]) (h := 0) E dX5_isBroken_25 2 rfl (k_X5_told hI x1 5 v2 r5 v5 hc5) (gb_V (List.mem_cons_of_mem _ tw_402) (List.mem_cons_of_mem _ tw_403) (List.mem_cons_of_mem _ tw_404) (List.mem_cons_of_mem _ tw_325) tw_401) rfl rfl rfl dd_X5_told rfl (Nat.le_of_ble_eq_true rfl) s_M0 rfl ⟨by decide, by decide⟩ ⟨Nat.le_refl 0, Nat.le_refl 0⟩ (Nat.le_of_ble_eq_true rfl) ?_
    refine jx_icmp_ge (tgt := 35) E dX5_isBroken_28 (by decide) (fun hc6 => ?_) (fun hc6 => ?_)
    · rw [if_pos hc6] at hF
      refine jx_iconst (x := 0) E dX5_isBroken_35 (by decide) ?_
      obtain ⟨rfl, rfl⟩ := jx_out hF
      exact jx_zret E dX5_isBroken_36 rfl (Or.inl rfl)
    · rw [if_neg hc6] at hF
      refine jx_iconst (x := 1) E dX5_isBroken_31 (by decide) ?_
      refine jx_goto (tgt := 36) E dX5_isBroken_32 (by decide) ?_
      obtain ⟨rfl, rfl⟩ := jx_out hF
      exact jx_zret E dX5_isBroken_36 rfl (Or.inr rfl)
def f_X5_contract (x1 : Int32) (x2 : Int32) (x3 : Int32) (v : jx_V) : Option (Int32 × jx_V) := ((f_X5_isWindow x1 v).bind (fun (r1, v1) => (if r1 = 0 then ((f_X5_finds (-1000001) v1).bind (fun (r3, v3) => (some (r3, v3)))) else ((f_X5_in (Int32.toInt64 x2) (-1) 3 v1).bind (fun (r4, v4) => (if r4 = 0 then ((f_X5_finds (-1000001) v4).bind (fun (r6, v6) => (some (r6, v6)))) else ((f_X5_in (Int32.toInt64 x3) 0 36 v4).bind (fun (r7, v7) => (if r7 = 0 then ((f_X5_finds (-1000001) v7).bind (fun (r19, v19) => (some (r19, v19)))) else ((f_X5_where x1 4 v7).bind (fun (r9, v9) => (if (r9 < 0 ∨ 181 ≤ Int32.toNatClampNeg r9) then none else ((f_X5_where x1 5 (jx_up v9 1 (Int32.toNatClampNeg r9) x2)).bind (fun (r11, v11) => (if 0 ≤ x2 then (if (r11 < 0 ∨ 181 ≤ Int32.toNatClampNeg r11) then none else ((f_X5_isBroken x1 (jx_up v11 1 (Int32.toNatClampNeg r11) x3)).bind (fun (r14, v14) => (if r14 = 0 then (some (0, v14)) else (some (1, v14)))))) else (if (r11 < 0 ∨ 181 ≤ Int32.toNatClampNeg r11) then none else ((f_X5_isBroken x1 (jx_up v11 1 (Int32.toNatClampNeg r11) 0)).bind (fun (r17, v17) => (if r17 = 0 then (some (0, v17)) else (some (1, v17)))))))))))))))))))))
def rm_X5_contract : Room := { frames := 6, cells := 0, slots := 0, locals := 147 }
set_option maxHeartbeats 4000000 in
set_option maxRecDepth 100000 in
theorem k_X5_contract {l : Launch} {D : va_G} {cI cJ : ClassId} {ad : Nat → Nat} {A : Nat → Prop} (hI : jx_inj 13 ad A) (x1 : Int32) (x2 : Int32) (x3 : Int32) (v : jx_V) (r : Int32) (v' : jx_V) (hF : f_X5_contract x1 x2 x3 v = some (r, v')) : jx_Ci l D vwCl 13 cI cJ ad shM A ex_M yX5_contract (Cond.code yX5_contract cX5_contract 4 (some .int) :: bigT) rm_X5_contract [.ref (ad 0), .int x1, .int x2, .int x3] v r v' := by
  unfold f_X5_contract at hF
  refine jx_enteri bigT RX5 cX5_contract 4 (some .int) [(0, .ref (ad 0)), (1, .int x1), (2, .int x2), (3, .int x3)] hI (ex_M_ok A) (by decide +kernel) rfl (Nat.le_of_ble_eq_true rfl) rfl rfl ?_
  intro p e s m args below meth c E
  have iX5 : ∀ w ∈ u_ws RX5 TX5 21, w ∈ (Cond.code yX5_contract cX5_contract 4 (some .int) :: bigT) := fun w h => List.mem_cons_of_mem _ (uw_X5 w h)
  refine jx_aload_n E dX5_contract_0 0 rfl ?_
  refine jx_iload_n E dX5_contract_1 1 rfl ?_
  obtain ⟨⟨r1, v1⟩, hc1, hF⟩ := jx_bind hF
  try dsimp only at hF
  refine jx_callVi (As := [.int x1]) (st := []) (h := 0) E dX5_contract_2 1 rfl (k_X5_isWindow hI x1 v r1 v1 hc1) (gb_V (List.mem_cons_of_mem _ tw_397) (List.mem_cons_of_mem _ tw_398) (List.mem_cons_of_mem _ tw_399) (List.mem_cons_of_mem _ tw_325) tw_396) rfl rfl rfl dd_X5_isWindow rfl (Nat.le_of_ble_eq_true rfl) s_M0 rfl ⟨by decide, by decide⟩ ⟨Nat.le_refl 0, Nat.le_refl 0⟩ (Nat.le_of_ble_eq_true rfl) ?_
  refine jx_if_eq (tgt := 34) E dX5_contract_5 (by decide) (fun hc2 => ?_) (fun hc2 => ?_)
  · rw [if_pos hc2] at hF
    refine jx_aload_n E dX5_contract_34 0 rfl ?_
    refine jx_ldc (x := -1000001) E dX5_contract_35 (List.mem_cons_of_mem _ tw_320) ?_
    obtain ⟨⟨r3, v3⟩, hc3, hF⟩ := jx_bind hF
    try dsimp only at hF
    refine jx_callVi (As := [.int (-1000001)]) (st := []) (h := 0) E dX5_contract_37 1 rfl (k_X5_finds hI (-1000001) v1 r3 v3 hc3) (gb_V (List.mem_cons_of_mem _ tw_344) (List.mem_cons_of_mem _ tw_345) (List.mem_cons_of_mem _ tw_346) (List.mem_cons_of_mem _ tw_325) tw_343) rfl rfl rfl dd_X5_finds rfl (Nat.le_of_ble_eq_true rfl) s_M0 rfl ⟨by decide, by decide⟩ ⟨Nat.le_refl 0, Nat.le_refl 0⟩ (Nat.le_of_ble_eq_true rfl) ?_
    obtain ⟨rfl, rfl⟩ := jx_out hF
    exact jx_iret E dX5_contract_40 rfl
  · rw [if_neg hc2] at hF
    refine jx_iload_n E dX5_contract_8 2 rfl ?_
    refine jx_i2l E dX5_contract_9 ?_
    refine jx_ldc2 (x := -1) E dX5_contract_10 (List.mem_cons_of_mem _ tw_425) ?_
    refine jx_ldc2 (x := 3) E dX5_contract_13 (List.mem_cons_of_mem _ tw_326) ?_
    obtain ⟨⟨r4, v4⟩, hc4, hF⟩ := jx_bind hF
    try dsimp only at hF
    refine jx_callSi (As := [.long (Int32.toInt64 x2), .long (-1), .long 3]) (st := []) E dX5_contract_16 3 rfl (k_X5_in hI (Int32.toInt64 x2) (-1) 3 v1 r4 v4 hc4) (gb_S (List.mem_cons_of_mem _ tw_323) (List.mem_cons_of_mem _ tw_324) (List.mem_cons_of_mem _ tw_325) tw_322) rfl rfl rfl dd_X5_in rfl ⟨by decide, by decide⟩ ⟨Nat.le_refl 0, Nat.le_refl 0⟩ (Nat.le_of_ble_eq_true rfl) ?_
    refine jx_if_eq (tgt := 34) E dX5_contract_19 (by decide) (fun hc5 => ?_) (fun hc5 => ?_)
    · rw [if_pos hc5] at hF
      refine jx_aload_n E dX5_contract_34 0 rfl ?_
      refine jx_ldc (x := -1000001) E dX5_contract_35 (List.mem_cons_of_mem _ tw_320) ?_
      obtain ⟨⟨r6, v6⟩, hc6, hF⟩ := jx_bind hF
      try dsimp only at hF
      refine jx_callVi (As := [.int (-1000001)]) (st := []) (h := 0) E dX5_contract_37 1 rfl (k_X5_finds hI (-1000001) v4 r6 v6 hc6) (gb_V (List.mem_cons_of_mem _ tw_344) (List.mem_cons_of_mem _ tw_345) (List.mem_cons_of_mem _ tw_346) (List.mem_cons_of_mem _ tw_325) tw_343) rfl rfl rfl dd_X5_finds rfl (Nat.le_of_ble_eq_true rfl) s_M0 rfl ⟨by decide, by decide⟩ ⟨Nat.le_refl 0, Nat.le_refl 0⟩ (Nat.le_of_ble_eq_true rfl) ?_
      obtain ⟨rfl, rfl⟩ := jx_out hF
      exact jx_iret E dX5_contract_40 rfl
    · rw [if_neg hc5] at hF
      refine jx_iload_n E dX5_contract_22 3 rfl ?_
      refine jx_i2l E dX5_contract_23 ?_
      refine jx_lconst (x := 0) E dX5_contract_24 (by decide) ?_
      refine jx_ldc2 (x := 36) E dX5_contract_25 (List.mem_cons_of_mem _ tw_426) ?_
      obtain ⟨⟨r7, v7⟩, hc7, hF⟩ := jx_bind hF
      try dsimp only at hF
      refine jx_callSi (As := [.long (Int32.toInt64 x3), .long 0, .long 36]) (st := []) E dX5_contract_28 3 rfl (k_X5_in hI (Int32.toInt64 x3) 0 36 v4 r7 v7 hc7) (gb_S (List.mem_cons_of_mem _ tw_323) (List.mem_cons_of_mem _ tw_324) (List.mem_cons_of_mem _ tw_325) tw_322) rfl rfl rfl dd_X5_in rfl ⟨by decide, by decide⟩ ⟨Nat.le_refl 0, Nat.le_refl 0⟩ (Nat.le_of_ble_eq_true rfl) ?_
      refine jx_if_ne (tgt := 41) E dX5_contract_31 (by decide) (fun hc8 => ?_) (fun hc8 => ?_)
      · rw [if_neg hc8] at hF
        refine jx_aload_n E dX5_contract_41 0 rfl ?_
        refine jx_getr (C := RX5) (T := TX5) (M := 21) (k := 0) E dX5_contract_42 (Nat.le_of_ble_eq_true rfl) s_M0 rfl iX5 (by decide) rfl (List.mem_cons_of_mem _ tw_328) rfl ?_
        refine jx_iload_n E dX5_contract_45 1 rfl ?_
        refine jx_iconst (x := 4) E dX5_contract_46 (by decide) ?_
        obtain ⟨⟨r9, v9⟩, hc9, hF⟩ := jx_bind hF
        try dsimp only at hF
        refine jx_callSi (As := [.int x1, .int 4]) (st := [.ref (ad 1)]) E dX5_contract_47 2 rfl (k_X5_where hI x1 4 v7 r9 v9 hc9) (gb_S (List.mem_cons_of_mem _ tw_389) (List.mem_cons_of_mem _ tw_390) (List.mem_cons_of_mem _ tw_325) tw_388) rfl rfl rfl dd_X5_where rfl ⟨by decide, by decide⟩ ⟨Nat.le_refl 0, Nat.le_refl 0⟩ (Nat.le_of_ble_eq_true rfl) ?_
        refine jx_iload_n E dX5_contract_50 2 rfl ?_
        obtain ⟨hg10, hF⟩ := jx_guard hF
        refine jx_iast (h := 1) (j := (Int32.toNatClampNeg r9)) E dX5_contract_51 (Nat.le_of_ble_eq_true rfl) s_M1 hg10 rfl ?_
        refine jx_aload_n E dX5_contract_52 0 rfl ?_
        refine jx_getr (C := RX5) (T := TX5) (M := 21) (k := 0) E dX5_contract_53 (Nat.le_of_ble_eq_true rfl) s_M0 rfl iX5 (by decide) rfl (List.mem_cons_of_mem _ tw_328) rfl ?_
        refine jx_iload_n E dX5_contract_56 1 rfl ?_
        refine jx_iconst (x := 5) E dX5_contract_57 (by decide) ?_
        obtain ⟨⟨r11, v11⟩, hc11, hF⟩ := jx_bind hF
        try dsimp only at hF
        refine jx_callSi (As := [.int x1, .int 5]) (st := [.ref (ad 1)]) E dX5_contract_58 2 rfl (k_X5_where hI x1 5 (jx_up v9 1 (Int32.toNatClampNeg r9) x2) r11 v11 hc11) (gb_S (List.mem_cons_of_mem _ tw_389) (List.mem_cons_of_mem _ tw_390) (List.mem_cons_of_mem _ tw_325) tw_388) rfl rfl rfl dd_X5_where rfl ⟨by decide, by decide⟩ ⟨Nat.le_refl 0, Nat.le_refl 0⟩ (Nat.le_of_ble_eq_true rfl) ?_
        refine jx_iload_n E dX5_contract_61 2 rfl ?_
        refine jx_if_ge (tgt := 69) E dX5_contract_62 (by decide) (fun hc12 => ?_) (fun hc12 => ?_)
        · rw [if_pos hc12] at hF
          refine jx_iload_n E dX5_contract_69 3 rfl ?_
          obtain ⟨hg13, hF⟩ := jx_guard hF
          refine jx_iast (h := 1) (j := (Int32.toNatClampNeg r11)) E dX5_contract_70 (Nat.le_of_ble_eq_true rfl) s_M1 hg13 rfl ?_
          refine jx_aload_n E dX5_contract_71 0 rfl ?_
          refine jx_iload_n E dX5_contract_72 1 rfl ?_
          obtain ⟨⟨r14, v14⟩, hc14, hF⟩ := jx_bind hF
          try dsimp only at hF
          refine jx_callVi (As := [.int x1]) (st := []) (h := 0) E dX5_contract_73 1 rfl (k_X5_isBroken hI x1 (jx_up v11 1 (Int32.toNatClampNeg r11) x3) r14 v14 hc14) (gb_V (List.mem_cons_of_mem _ tw_428) (List.mem_cons_of_mem _ tw_429) (List.mem_cons_of_mem _ tw_430) (List.mem_cons_of_mem _ tw_325) tw_427) rfl rfl rfl dd_X5_isBroken rfl (Nat.le_of_ble_eq_true rfl) s_M0 rfl ⟨by decide, by decide⟩ ⟨Nat.le_refl 0, Nat.le_refl 0⟩ (Nat.le_of_ble_eq_true rfl) ?_
          refine jx_if_eq (tgt := 83) E dX5_contract_76 (by decide) (fun hc15 => ?_) (fun hc15 => ?_)
          · rw [if_pos hc15] at hF
            refine jx_iconst (x := 0) E dX5_contract_83 (by decide) ?_
            obtain ⟨rfl, rfl⟩ := jx_out hF
            exact jx_iret E dX5_contract_84 rfl
          · rw [if_neg hc15] at hF
            refine jx_iconst (x := 1) E dX5_contract_79 (by decide) ?_
            refine jx_goto (tgt := 84) E dX5_contract_80 (by decide) ?_
            obtain ⟨rfl, rfl⟩ := jx_out hF
            exact jx_iret E dX5_contract_84 rfl
        · rw [if_neg hc12] at hF
          refine jx_iconst (x := 0) E dX5_contract_65 (by decide) ?_
          refine jx_goto (tgt := 70) E dX5_contract_66 (by decide) ?_
          obtain ⟨hg16, hF⟩ := jx_guard hF
          refine jx_iast (h := 1) (j := (Int32.toNatClampNeg r11)) E dX5_contract_70 (Nat.le_of_ble_eq_true rfl) s_M1 hg16 rfl ?_
          refine jx_aload_n E dX5_contract_71 0 rfl ?_
          refine jx_iload_n E dX5_contract_72 1 rfl ?_
          obtain ⟨⟨r17, v17⟩, hc17, hF⟩ := jx_bind hF
          try dsimp only at hF
          refine jx_callVi (As := [.int x1]) (st := []) (h := 0) E dX5_contract_73 1 rfl (k_X5_isBroken hI x1 (jx_up v11 1 (Int32.toNatClampNeg r11) 0) r17 v17 hc17) (gb_V (List.mem_cons_of_mem _ tw_428) (List.mem_cons_of_mem _ tw_429) (List.mem_cons_of_mem _ tw_430) (List.mem_cons_of_mem _ tw_325) tw_427) rfl rfl rfl dd_X5_isBroken rfl (Nat.le_of_ble_eq_true rfl) s_M0 rfl ⟨by decide, by decide⟩ ⟨Nat.le_refl 0, Nat.le_refl 0⟩ (Nat.le_of_ble_eq_true rfl) ?_
          refine jx_if_eq (tgt := 83) E dX5_contract_76 (by decide) (fun hc18 => ?_) (fun hc18 => ?_)
          · rw [if_pos hc18] at hF
            refine jx_iconst (x := 0) E dX5_contract_83 (by decide) ?_
            obtain ⟨rfl, rfl⟩ := jx_out hF
            exact jx_iret E dX5_contract_84 rfl
          · rw [if_neg hc18] at hF
            refine jx_iconst (x := 1) E dX5_contract_79 (by decide) ?_
            refine jx_goto (tgt := 84) E dX5_contract_80 (by decide) ?_
            obtain ⟨rfl, rfl⟩ := jx_out hF
            exact jx_iret E dX5_contract_84 rfl
      · rw [if_pos hc8] at hF
        refine jx_aload_n E dX5_contract_34 0 rfl ?_
        refine jx_ldc (x := -1000001) E dX5_contract_35 (List.mem_cons_of_mem _ tw_320) ?_
        obtain ⟨⟨r19, v19⟩, hc19, hF⟩ := jx_bind hF
        try dsimp only at hF
        refine jx_callVi (As := [.int (-1000001)]) (st := []) (h := 0) E dX5_contract_37 1 rfl (k_X5_finds hI (-1000001) v7 r19 v19 hc19) (gb_V (List.mem_cons_of_mem _ tw_344) (List.mem_cons_of_mem _ tw_345) (List.mem_cons_of_mem _ tw_346) (List.mem_cons_of_mem _ tw_325) tw_343) rfl rfl rfl dd_X5_finds rfl (Nat.le_of_ble_eq_true rfl) s_M0 rfl ⟨by decide, by decide⟩ ⟨Nat.le_refl 0, Nat.le_refl 0⟩ (Nat.le_of_ble_eq_true rfl) ?_
        obtain ⟨rfl, rfl⟩ := jx_out hF
        exact jx_iret E dX5_contract_40 rfl
def f_X5_purse (x1 : Int32) (v : jx_V) : Option (Int32 × jx_V) := ((f_X5_isOwner x1 v).bind (fun (r1, v1) => (if r1 = 0 then ((f_X5_finds (-1000001) v1).bind (fun (r3, v3) => (some (r3, v3)))) else (if ((7 + x1) < 0 ∨ 181 ≤ Int32.toNatClampNeg (7 + x1)) then none else (some ((v1 1 (Int32.toNatClampNeg (7 + x1))), v1))))))
def rm_X5_purse : Room := { frames := 2, cells := 0, slots := 0, locals := 45 }
set_option maxHeartbeats 4000000 in
set_option maxRecDepth 100000 in
theorem k_X5_purse {l : Launch} {D : va_G} {cI cJ : ClassId} {ad : Nat → Nat} {A : Nat → Prop} (hI : jx_inj 13 ad A) (x1 : Int32) (v : jx_V) (r : Int32) (v' : jx_V) (hF : f_X5_purse x1 v = some (r, v')) : jx_Ci l D vwCl 13 cI cJ ad shM A ex_M yX5_purse (Cond.code yX5_purse cX5_purse 2 (some .int) :: bigT) rm_X5_purse [.ref (ad 0), .int x1] v r v' := by
  unfold f_X5_purse at hF
  refine jx_enteri bigT RX5 cX5_purse 2 (some .int) [(0, .ref (ad 0)), (1, .int x1)] hI (ex_M_ok A) (by decide +kernel) rfl (Nat.le_of_ble_eq_true rfl) rfl rfl ?_
  intro p e s m args below meth c E
  have iX5 : ∀ w ∈ u_ws RX5 TX5 21, w ∈ (Cond.code yX5_purse cX5_purse 2 (some .int) :: bigT) := fun w h => List.mem_cons_of_mem _ (uw_X5 w h)
  refine jx_iload_n E dX5_purse_0 1 rfl ?_
  obtain ⟨⟨r1, v1⟩, hc1, hF⟩ := jx_bind hF
  try dsimp only at hF
  refine jx_callSi (As := [.int x1]) (st := []) E dX5_purse_1 1 rfl (k_X5_isOwner hI x1 v r1 v1 hc1) (gb_S (List.mem_cons_of_mem _ tw_351) (List.mem_cons_of_mem _ tw_352) (List.mem_cons_of_mem _ tw_325) tw_350) rfl rfl rfl dd_X5_isOwner rfl ⟨by decide, by decide⟩ ⟨Nat.le_refl 0, Nat.le_refl 0⟩ (Nat.le_of_ble_eq_true rfl) ?_
  refine jx_if_eq (tgt := 19) E dX5_purse_4 (by decide) (fun hc2 => ?_) (fun hc2 => ?_)
  · rw [if_pos hc2] at hF
    refine jx_aload_n E dX5_purse_19 0 rfl ?_
    refine jx_ldc (x := -1000001) E dX5_purse_20 (List.mem_cons_of_mem _ tw_320) ?_
    obtain ⟨⟨r3, v3⟩, hc3, hF⟩ := jx_bind hF
    try dsimp only at hF
    refine jx_callVi (As := [.int (-1000001)]) (st := []) (h := 0) E dX5_purse_22 1 rfl (k_X5_finds hI (-1000001) v1 r3 v3 hc3) (gb_V (List.mem_cons_of_mem _ tw_344) (List.mem_cons_of_mem _ tw_345) (List.mem_cons_of_mem _ tw_346) (List.mem_cons_of_mem _ tw_325) tw_343) rfl rfl rfl dd_X5_finds rfl (Nat.le_of_ble_eq_true rfl) s_M0 rfl ⟨by decide, by decide⟩ ⟨Nat.le_refl 0, Nat.le_refl 0⟩ (Nat.le_of_ble_eq_true rfl) ?_
    obtain ⟨rfl, rfl⟩ := jx_out hF
    exact jx_iret E dX5_purse_25 rfl
  · rw [if_neg hc2] at hF
    refine jx_aload_n E dX5_purse_7 0 rfl ?_
    refine jx_getr (C := RX5) (T := TX5) (M := 21) (k := 0) E dX5_purse_8 (Nat.le_of_ble_eq_true rfl) s_M0 rfl iX5 (by decide) rfl (List.mem_cons_of_mem _ tw_328) rfl ?_
    refine jx_bipush (x := 7) E dX5_purse_11 (by decide) ?_
    refine jx_iload_n E dX5_purse_13 1 rfl ?_
    refine jx_iadd E dX5_purse_14 ?_
    obtain ⟨hg4, hF⟩ := jx_guard hF
    refine jx_iald (h := 1) (j := (Int32.toNatClampNeg (7 + x1))) E dX5_purse_15 (Nat.le_of_ble_eq_true rfl) s_M1 hg4 rfl ?_
    refine jx_goto (tgt := 25) E dX5_purse_16 (by decide) ?_
    obtain ⟨rfl, rfl⟩ := jx_out hF
    exact jx_iret E dX5_purse_25 rfl
def f_X5_sees (x1 : Int32) (x2 : Int32) (v : jx_V) : Option (Int32 × jx_V) := ((f_X5_isWindow x1 v).bind (fun (r1, v1) => (if r1 = 0 then ((f_X5_finds (-1000001) v1).bind (fun (r3, v3) => (some (r3, v3)))) else ((f_X5_in (Int32.toInt64 x2) 1 4 v1).bind (fun (r4, v4) => (if r4 = 0 then ((f_X5_finds (-1000001) v4).bind (fun (r6, v6) => (some (r6, v6)))) else ((f_X5_seen x1 x2 v4).bind (fun (r7, v7) => (some (r7, v7))))))))))
def rm_X5_sees : Room := { frames := 4, cells := 0, slots := 0, locals := 98 }
set_option maxHeartbeats 4000000 in
set_option maxRecDepth 100000 in
theorem k_X5_sees {l : Launch} {D : va_G} {cI cJ : ClassId} {ad : Nat → Nat} {A : Nat → Prop} (hI : jx_inj 13 ad A) (x1 : Int32) (x2 : Int32) (v : jx_V) (r : Int32) (v' : jx_V) (hF : f_X5_sees x1 x2 v = some (r, v')) : jx_Ci l D vwCl 13 cI cJ ad shM A ex_M yX5_sees (Cond.code yX5_sees cX5_sees 3 (some .int) :: bigT) rm_X5_sees [.ref (ad 0), .int x1, .int x2] v r v' := by
  unfold f_X5_sees at hF
  refine jx_enteri bigT RX5 cX5_sees 3 (some .int) [(0, .ref (ad 0)), (1, .int x1), (2, .int x2)] hI (ex_M_ok A) (by decide +kernel) rfl (Nat.le_of_ble_eq_true rfl) rfl rfl ?_
  intro p e s m args below meth c E
  refine jx_aload_n E dX5_sees_0 0 rfl ?_
  refine jx_iload_n E dX5_sees_1 1 rfl ?_
  obtain ⟨⟨r1, v1⟩, hc1, hF⟩ := jx_bind hF
  try dsimp only at hF
  refine jx_callVi (As := [.int x1]) (st := []) (h := 0) E dX5_sees_2 1 rfl (k_X5_isWindow hI x1 v r1 v1 hc1) (gb_V (List.mem_cons_of_mem _ tw_397) (List.mem_cons_of_mem _ tw_398) (List.mem_cons_of_mem _ tw_399) (List.mem_cons_of_mem _ tw_325) tw_396) rfl rfl rfl dd_X5_isWindow rfl (Nat.le_of_ble_eq_true rfl) s_M0 rfl ⟨by decide, by decide⟩ ⟨Nat.le_refl 0, Nat.le_refl 0⟩ (Nat.le_of_ble_eq_true rfl) ?_
  refine jx_if_eq (tgt := 29) E dX5_sees_5 (by decide) (fun hc2 => ?_) (fun hc2 => ?_)
  · rw [if_pos hc2] at hF
    refine jx_aload_n E dX5_sees_29 0 rfl ?_
    refine jx_ldc (x := -1000001) E dX5_sees_30 (List.mem_cons_of_mem _ tw_320) ?_
    obtain ⟨⟨r3, v3⟩, hc3, hF⟩ := jx_bind hF
    try dsimp only at hF
    refine jx_callVi (As := [.int (-1000001)]) (st := []) (h := 0) E dX5_sees_32 1 rfl (k_X5_finds hI (-1000001) v1 r3 v3 hc3) (gb_V (List.mem_cons_of_mem _ tw_344) (List.mem_cons_of_mem _ tw_345) (List.mem_cons_of_mem _ tw_346) (List.mem_cons_of_mem _ tw_325) tw_343) rfl rfl rfl dd_X5_finds rfl (Nat.le_of_ble_eq_true rfl) s_M0 rfl ⟨by decide, by decide⟩ ⟨Nat.le_refl 0, Nat.le_refl 0⟩ (Nat.le_of_ble_eq_true rfl) ?_
    obtain ⟨rfl, rfl⟩ := jx_out hF
    exact jx_iret E dX5_sees_35 rfl
  · rw [if_neg hc2] at hF
    refine jx_iload_n E dX5_sees_8 2 rfl ?_
    refine jx_i2l E dX5_sees_9 ?_
    refine jx_lconst (x := 1) E dX5_sees_10 (by decide) ?_
    refine jx_ldc2 (x := 4) E dX5_sees_11 (List.mem_cons_of_mem _ tw_405) ?_
    obtain ⟨⟨r4, v4⟩, hc4, hF⟩ := jx_bind hF
    try dsimp only at hF
    refine jx_callSi (As := [.long (Int32.toInt64 x2), .long 1, .long 4]) (st := []) E dX5_sees_14 3 rfl (k_X5_in hI (Int32.toInt64 x2) 1 4 v1 r4 v4 hc4) (gb_S (List.mem_cons_of_mem _ tw_323) (List.mem_cons_of_mem _ tw_324) (List.mem_cons_of_mem _ tw_325) tw_322) rfl rfl rfl dd_X5_in rfl ⟨by decide, by decide⟩ ⟨Nat.le_refl 0, Nat.le_refl 0⟩ (Nat.le_of_ble_eq_true rfl) ?_
    refine jx_if_eq (tgt := 29) E dX5_sees_17 (by decide) (fun hc5 => ?_) (fun hc5 => ?_)
    · rw [if_pos hc5] at hF
      refine jx_aload_n E dX5_sees_29 0 rfl ?_
      refine jx_ldc (x := -1000001) E dX5_sees_30 (List.mem_cons_of_mem _ tw_320) ?_
      obtain ⟨⟨r6, v6⟩, hc6, hF⟩ := jx_bind hF
      try dsimp only at hF
      refine jx_callVi (As := [.int (-1000001)]) (st := []) (h := 0) E dX5_sees_32 1 rfl (k_X5_finds hI (-1000001) v4 r6 v6 hc6) (gb_V (List.mem_cons_of_mem _ tw_344) (List.mem_cons_of_mem _ tw_345) (List.mem_cons_of_mem _ tw_346) (List.mem_cons_of_mem _ tw_325) tw_343) rfl rfl rfl dd_X5_finds rfl (Nat.le_of_ble_eq_true rfl) s_M0 rfl ⟨by decide, by decide⟩ ⟨Nat.le_refl 0, Nat.le_refl 0⟩ (Nat.le_of_ble_eq_true rfl) ?_
      obtain ⟨rfl, rfl⟩ := jx_out hF
      exact jx_iret E dX5_sees_35 rfl
    · rw [if_neg hc5] at hF
      refine jx_aload_n E dX5_sees_20 0 rfl ?_
      refine jx_iload_n E dX5_sees_21 1 rfl ?_
      refine jx_iload_n E dX5_sees_22 2 rfl ?_
      obtain ⟨⟨r7, v7⟩, hc7, hF⟩ := jx_bind hF
      try dsimp only at hF
      refine jx_callVi (As := [.int x1, .int x2]) (st := []) (h := 0) E dX5_sees_23 2 rfl (k_X5_seen hI x1 x2 v4 r7 v7 hc7) (gb_V (List.mem_cons_of_mem _ tw_414) (List.mem_cons_of_mem _ tw_415) (List.mem_cons_of_mem _ tw_416) (List.mem_cons_of_mem _ tw_325) tw_413) rfl rfl rfl dd_X5_seen rfl (Nat.le_of_ble_eq_true rfl) s_M0 rfl ⟨by decide, by decide⟩ ⟨Nat.le_refl 0, Nat.le_refl 0⟩ (Nat.le_of_ble_eq_true rfl) ?_
      refine jx_goto (tgt := 35) E dX5_sees_26 (by decide) ?_
      obtain ⟨rfl, rfl⟩ := jx_out hF
      exact jx_iret E dX5_sees_35 rfl
def f_X5_view (x1 : Int32) (v : jx_V) : Option (Int32 × jx_V) := ((f_X5_isWindow x1 v).bind (fun (r1, v1) => (if r1 = 0 then ((f_X5_finds (-1000001) v1).bind (fun (r4, v4) => (some (r4, v4)))) else ((f_X5_looks x1 v1).bind (fun v3 => (some ((v3 0 6), v3)))))))
def rm_X5_view : Room := { frames := 5, cells := 0, slots := 0, locals := 125 }
set_option maxHeartbeats 4000000 in
set_option maxRecDepth 100000 in
theorem k_X5_view {l : Launch} {D : va_G} {cI cJ : ClassId} {ad : Nat → Nat} {A : Nat → Prop} (hI : jx_inj 13 ad A) (x1 : Int32) (v : jx_V) (r : Int32) (v' : jx_V) (hF : f_X5_view x1 v = some (r, v')) : jx_Ci l D vwCl 13 cI cJ ad shM A ex_M yX5_view (Cond.code yX5_view cX5_view 2 (some .int) :: bigT) rm_X5_view [.ref (ad 0), .int x1] v r v' := by
  unfold f_X5_view at hF
  refine jx_enteri bigT RX5 cX5_view 2 (some .int) [(0, .ref (ad 0)), (1, .int x1)] hI (ex_M_ok A) (by decide +kernel) rfl (Nat.le_of_ble_eq_true rfl) rfl rfl ?_
  intro p e s m args below meth c E
  have iX5 : ∀ w ∈ u_ws RX5 TX5 21, w ∈ (Cond.code yX5_view cX5_view 2 (some .int) :: bigT) := fun w h => List.mem_cons_of_mem _ (uw_X5 w h)
  refine jx_aload_n E dX5_view_0 0 rfl ?_
  refine jx_iload_n E dX5_view_1 1 rfl ?_
  obtain ⟨⟨r1, v1⟩, hc1, hF⟩ := jx_bind hF
  try dsimp only at hF
  refine jx_callVi (As := [.int x1]) (st := []) (h := 0) E dX5_view_2 1 rfl (k_X5_isWindow hI x1 v r1 v1 hc1) (gb_V (List.mem_cons_of_mem _ tw_397) (List.mem_cons_of_mem _ tw_398) (List.mem_cons_of_mem _ tw_399) (List.mem_cons_of_mem _ tw_325) tw_396) rfl rfl rfl dd_X5_isWindow rfl (Nat.le_of_ble_eq_true rfl) s_M0 rfl ⟨by decide, by decide⟩ ⟨Nat.le_refl 0, Nat.le_refl 0⟩ (Nat.le_of_ble_eq_true rfl) ?_
  refine jx_if_ne (tgt := 15) E dX5_view_5 (by decide) (fun hc2 => ?_) (fun hc2 => ?_)
  · rw [if_neg hc2] at hF
    refine jx_aload_n E dX5_view_15 0 rfl ?_
    refine jx_iload_n E dX5_view_16 1 rfl ?_
    obtain ⟨v3, hc3, hF⟩ := jx_bind hF
    try dsimp only at hF
    refine jx_callVv (As := [.int x1]) (st := []) (h := 0) E dX5_view_17 1 rfl (k_X5_looks hI x1 v1 v3 hc3) (gb_V (List.mem_cons_of_mem _ tw_422) (List.mem_cons_of_mem _ tw_423) (List.mem_cons_of_mem _ tw_424) (List.mem_cons_of_mem _ tw_325) tw_421) rfl rfl rfl dd_X5_looks rfl (Nat.le_of_ble_eq_true rfl) s_M0 rfl ⟨by decide, by decide⟩ ⟨Nat.le_refl 0, Nat.le_refl 0⟩ (Nat.le_of_ble_eq_true rfl) ?_
    refine jx_aload_n E dX5_view_20 0 rfl ?_
    refine jx_geti (C := RX5) (T := TX5) (M := 21) (k := 6) E dX5_view_21 (Nat.le_of_ble_eq_true rfl) s_M0 rfl iX5 (by decide) rfl (List.mem_cons_of_mem _ tw_409) rfl ?_
    obtain ⟨rfl, rfl⟩ := jx_out hF
    exact jx_iret E dX5_view_24 rfl
  · rw [if_pos hc2] at hF
    refine jx_aload_n E dX5_view_8 0 rfl ?_
    refine jx_ldc (x := -1000001) E dX5_view_9 (List.mem_cons_of_mem _ tw_320) ?_
    obtain ⟨⟨r4, v4⟩, hc4, hF⟩ := jx_bind hF
    try dsimp only at hF
    refine jx_callVi (As := [.int (-1000001)]) (st := []) (h := 0) E dX5_view_11 1 rfl (k_X5_finds hI (-1000001) v1 r4 v4 hc4) (gb_V (List.mem_cons_of_mem _ tw_344) (List.mem_cons_of_mem _ tw_345) (List.mem_cons_of_mem _ tw_346) (List.mem_cons_of_mem _ tw_325) tw_343) rfl rfl rfl dd_X5_finds rfl (Nat.le_of_ble_eq_true rfl) s_M0 rfl ⟨by decide, by decide⟩ ⟨Nat.le_refl 0, Nat.le_refl 0⟩ (Nat.le_of_ble_eq_true rfl) ?_
    obtain ⟨rfl, rfl⟩ := jx_out hF
    exact jx_iret E dX5_view_14 rfl
def f_X5_share (x1 : Int32) (x2 : Int32) (v : jx_V) : Option (Int32 × jx_V) := ((f_X5_isWindow x1 v).bind (fun (r1, v1) => (if r1 = 0 then ((f_X5_finds (-1000001) v1).bind (fun (r3, v3) => (some (r3, v3)))) else ((f_X5_isOwner x2 v1).bind (fun (r4, v4) => (if r4 = 0 then ((f_X5_finds (-1000001) v4).bind (fun (r8, v8) => (some (r8, v8)))) else ((f_X5_looks x1 v4).bind (fun v6 => (if (x2 < 0 ∨ 4 ≤ Int32.toNatClampNeg x2) then none else (some ((v6 5 (Int32.toNatClampNeg x2)), v6)))))))))))
def rm_X5_share : Room := { frames := 5, cells := 0, slots := 0, locals := 125 }
set_option maxHeartbeats 4000000 in
set_option maxRecDepth 100000 in
theorem k_X5_share {l : Launch} {D : va_G} {cI cJ : ClassId} {ad : Nat → Nat} {A : Nat → Prop} (hI : jx_inj 13 ad A) (x1 : Int32) (x2 : Int32) (v : jx_V) (r : Int32) (v' : jx_V) (hF : f_X5_share x1 x2 v = some (r, v')) : jx_Ci l D vwCl 13 cI cJ ad shM A ex_M yX5_share (Cond.code yX5_share cX5_share 3 (some .int) :: bigT) rm_X5_share [.ref (ad 0), .int x1, .int x2] v r v' := by
  unfold f_X5_share at hF
  refine jx_enteri bigT RX5 cX5_share 3 (some .int) [(0, .ref (ad 0)), (1, .int x1), (2, .int x2)] hI (ex_M_ok A) (by decide +kernel) rfl (Nat.le_of_ble_eq_true rfl) rfl rfl ?_
  intro p e s m args below meth c E
  have iX5 : ∀ w ∈ u_ws RX5 TX5 21, w ∈ (Cond.code yX5_share cX5_share 3 (some .int) :: bigT) := fun w h => List.mem_cons_of_mem _ (uw_X5 w h)
  refine jx_aload_n E dX5_share_0 0 rfl ?_
  refine jx_iload_n E dX5_share_1 1 rfl ?_
  obtain ⟨⟨r1, v1⟩, hc1, hF⟩ := jx_bind hF
  try dsimp only at hF
  refine jx_callVi (As := [.int x1]) (st := []) (h := 0) E dX5_share_2 1 rfl (k_X5_isWindow hI x1 v r1 v1 hc1) (gb_V (List.mem_cons_of_mem _ tw_397) (List.mem_cons_of_mem _ tw_398) (List.mem_cons_of_mem _ tw_399) (List.mem_cons_of_mem _ tw_325) tw_396) rfl rfl rfl dd_X5_isWindow rfl (Nat.le_of_ble_eq_true rfl) s_M0 rfl ⟨by decide, by decide⟩ ⟨Nat.le_refl 0, Nat.le_refl 0⟩ (Nat.le_of_ble_eq_true rfl) ?_
  refine jx_if_eq (tgt := 15) E dX5_share_5 (by decide) (fun hc2 => ?_) (fun hc2 => ?_)
  · rw [if_pos hc2] at hF
    refine jx_aload_n E dX5_share_15 0 rfl ?_
    refine jx_ldc (x := -1000001) E dX5_share_16 (List.mem_cons_of_mem _ tw_320) ?_
    obtain ⟨⟨r3, v3⟩, hc3, hF⟩ := jx_bind hF
    try dsimp only at hF
    refine jx_callVi (As := [.int (-1000001)]) (st := []) (h := 0) E dX5_share_18 1 rfl (k_X5_finds hI (-1000001) v1 r3 v3 hc3) (gb_V (List.mem_cons_of_mem _ tw_344) (List.mem_cons_of_mem _ tw_345) (List.mem_cons_of_mem _ tw_346) (List.mem_cons_of_mem _ tw_325) tw_343) rfl rfl rfl dd_X5_finds rfl (Nat.le_of_ble_eq_true rfl) s_M0 rfl ⟨by decide, by decide⟩ ⟨Nat.le_refl 0, Nat.le_refl 0⟩ (Nat.le_of_ble_eq_true rfl) ?_
    obtain ⟨rfl, rfl⟩ := jx_out hF
    exact jx_iret E dX5_share_21 rfl
  · rw [if_neg hc2] at hF
    refine jx_iload_n E dX5_share_8 2 rfl ?_
    obtain ⟨⟨r4, v4⟩, hc4, hF⟩ := jx_bind hF
    try dsimp only at hF
    refine jx_callSi (As := [.int x2]) (st := []) E dX5_share_9 1 rfl (k_X5_isOwner hI x2 v1 r4 v4 hc4) (gb_S (List.mem_cons_of_mem _ tw_351) (List.mem_cons_of_mem _ tw_352) (List.mem_cons_of_mem _ tw_325) tw_350) rfl rfl rfl dd_X5_isOwner rfl ⟨by decide, by decide⟩ ⟨Nat.le_refl 0, Nat.le_refl 0⟩ (Nat.le_of_ble_eq_true rfl) ?_
    refine jx_if_ne (tgt := 22) E dX5_share_12 (by decide) (fun hc5 => ?_) (fun hc5 => ?_)
    · rw [if_neg hc5] at hF
      refine jx_aload_n E dX5_share_22 0 rfl ?_
      refine jx_iload_n E dX5_share_23 1 rfl ?_
      obtain ⟨v6, hc6, hF⟩ := jx_bind hF
      try dsimp only at hF
      refine jx_callVv (As := [.int x1]) (st := []) (h := 0) E dX5_share_24 1 rfl (k_X5_looks hI x1 v4 v6 hc6) (gb_V (List.mem_cons_of_mem _ tw_422) (List.mem_cons_of_mem _ tw_423) (List.mem_cons_of_mem _ tw_424) (List.mem_cons_of_mem _ tw_325) tw_421) rfl rfl rfl dd_X5_looks rfl (Nat.le_of_ble_eq_true rfl) s_M0 rfl ⟨by decide, by decide⟩ ⟨Nat.le_refl 0, Nat.le_refl 0⟩ (Nat.le_of_ble_eq_true rfl) ?_
      refine jx_aload_n E dX5_share_27 0 rfl ?_
      refine jx_getr (C := RX5) (T := TX5) (M := 21) (k := 5) E dX5_share_28 (Nat.le_of_ble_eq_true rfl) s_M0 rfl iX5 (by decide) rfl (List.mem_cons_of_mem _ tw_412) rfl ?_
      refine jx_iload_n E dX5_share_31 2 rfl ?_
      obtain ⟨hg7, hF⟩ := jx_guard hF
      refine jx_iald (h := 5) (j := (Int32.toNatClampNeg x2)) E dX5_share_32 (Nat.le_of_ble_eq_true rfl) s_M5 hg7 rfl ?_
      obtain ⟨rfl, rfl⟩ := jx_out hF
      exact jx_iret E dX5_share_33 rfl
    · rw [if_pos hc5] at hF
      refine jx_aload_n E dX5_share_15 0 rfl ?_
      refine jx_ldc (x := -1000001) E dX5_share_16 (List.mem_cons_of_mem _ tw_320) ?_
      obtain ⟨⟨r8, v8⟩, hc8, hF⟩ := jx_bind hF
      try dsimp only at hF
      refine jx_callVi (As := [.int (-1000001)]) (st := []) (h := 0) E dX5_share_18 1 rfl (k_X5_finds hI (-1000001) v4 r8 v8 hc8) (gb_V (List.mem_cons_of_mem _ tw_344) (List.mem_cons_of_mem _ tw_345) (List.mem_cons_of_mem _ tw_346) (List.mem_cons_of_mem _ tw_325) tw_343) rfl rfl rfl dd_X5_finds rfl (Nat.le_of_ble_eq_true rfl) s_M0 rfl ⟨by decide, by decide⟩ ⟨Nat.le_refl 0, Nat.le_refl 0⟩ (Nat.le_of_ble_eq_true rfl) ?_
      obtain ⟨rfl, rfl⟩ := jx_out hF
      exact jx_iret E dX5_share_21 rfl
def f_X5_lots (x1 : Int32) (v : jx_V) : Option (Int32 × jx_V) := ((f_X5_isWindow x1 v).bind (fun (r1, v1) => (if r1 = 0 then ((f_X5_finds (-1000001) v1).bind (fun (r4, v4) => (some (r4, v4)))) else ((f_X5_looks x1 v1).bind (fun v3 => (some ((v3 0 8), v3)))))))
def rm_X5_lots : Room := { frames := 5, cells := 0, slots := 0, locals := 125 }
set_option maxHeartbeats 4000000 in
set_option maxRecDepth 100000 in
theorem k_X5_lots {l : Launch} {D : va_G} {cI cJ : ClassId} {ad : Nat → Nat} {A : Nat → Prop} (hI : jx_inj 13 ad A) (x1 : Int32) (v : jx_V) (r : Int32) (v' : jx_V) (hF : f_X5_lots x1 v = some (r, v')) : jx_Ci l D vwCl 13 cI cJ ad shM A ex_M yX5_lots (Cond.code yX5_lots cX5_lots 2 (some .int) :: bigT) rm_X5_lots [.ref (ad 0), .int x1] v r v' := by
  unfold f_X5_lots at hF
  refine jx_enteri bigT RX5 cX5_lots 2 (some .int) [(0, .ref (ad 0)), (1, .int x1)] hI (ex_M_ok A) (by decide +kernel) rfl (Nat.le_of_ble_eq_true rfl) rfl rfl ?_
  intro p e s m args below meth c E
  have iX5 : ∀ w ∈ u_ws RX5 TX5 21, w ∈ (Cond.code yX5_lots cX5_lots 2 (some .int) :: bigT) := fun w h => List.mem_cons_of_mem _ (uw_X5 w h)
  refine jx_aload_n E dX5_lots_0 0 rfl ?_
  refine jx_iload_n E dX5_lots_1 1 rfl ?_
  obtain ⟨⟨r1, v1⟩, hc1, hF⟩ := jx_bind hF
  try dsimp only at hF
  refine jx_callVi (As := [.int x1]) (st := []) (h := 0) E dX5_lots_2 1 rfl (k_X5_isWindow hI x1 v r1 v1 hc1) (gb_V (List.mem_cons_of_mem _ tw_397) (List.mem_cons_of_mem _ tw_398) (List.mem_cons_of_mem _ tw_399) (List.mem_cons_of_mem _ tw_325) tw_396) rfl rfl rfl dd_X5_isWindow rfl (Nat.le_of_ble_eq_true rfl) s_M0 rfl ⟨by decide, by decide⟩ ⟨Nat.le_refl 0, Nat.le_refl 0⟩ (Nat.le_of_ble_eq_true rfl) ?_
  refine jx_if_ne (tgt := 15) E dX5_lots_5 (by decide) (fun hc2 => ?_) (fun hc2 => ?_)
  · rw [if_neg hc2] at hF
    refine jx_aload_n E dX5_lots_15 0 rfl ?_
    refine jx_iload_n E dX5_lots_16 1 rfl ?_
    obtain ⟨v3, hc3, hF⟩ := jx_bind hF
    try dsimp only at hF
    refine jx_callVv (As := [.int x1]) (st := []) (h := 0) E dX5_lots_17 1 rfl (k_X5_looks hI x1 v1 v3 hc3) (gb_V (List.mem_cons_of_mem _ tw_422) (List.mem_cons_of_mem _ tw_423) (List.mem_cons_of_mem _ tw_424) (List.mem_cons_of_mem _ tw_325) tw_421) rfl rfl rfl dd_X5_looks rfl (Nat.le_of_ble_eq_true rfl) s_M0 rfl ⟨by decide, by decide⟩ ⟨Nat.le_refl 0, Nat.le_refl 0⟩ (Nat.le_of_ble_eq_true rfl) ?_
    refine jx_aload_n E dX5_lots_20 0 rfl ?_
    refine jx_geti (C := RX5) (T := TX5) (M := 21) (k := 8) E dX5_lots_21 (Nat.le_of_ble_eq_true rfl) s_M0 rfl iX5 (by decide) rfl (List.mem_cons_of_mem _ tw_411) rfl ?_
    obtain ⟨rfl, rfl⟩ := jx_out hF
    exact jx_iret E dX5_lots_24 rfl
  · rw [if_pos hc2] at hF
    refine jx_aload_n E dX5_lots_8 0 rfl ?_
    refine jx_ldc (x := -1000001) E dX5_lots_9 (List.mem_cons_of_mem _ tw_320) ?_
    obtain ⟨⟨r4, v4⟩, hc4, hF⟩ := jx_bind hF
    try dsimp only at hF
    refine jx_callVi (As := [.int (-1000001)]) (st := []) (h := 0) E dX5_lots_11 1 rfl (k_X5_finds hI (-1000001) v1 r4 v4 hc4) (gb_V (List.mem_cons_of_mem _ tw_344) (List.mem_cons_of_mem _ tw_345) (List.mem_cons_of_mem _ tw_346) (List.mem_cons_of_mem _ tw_325) tw_343) rfl rfl rfl dd_X5_finds rfl (Nat.le_of_ble_eq_true rfl) s_M0 rfl ⟨by decide, by decide⟩ ⟨Nat.le_refl 0, Nat.le_refl 0⟩ (Nat.le_of_ble_eq_true rfl) ?_
    obtain ⟨rfl, rfl⟩ := jx_out hF
    exact jx_iret E dX5_lots_14 rfl
def f_X5_watched_L  : Nat → Int32 → Int32 → Int32 → jx_V → Option (Int32 × jx_V)
  | 0, _, _, _, _ => none
  | n + 1, x1, x2, x3, v => (if (v 1 1) ≤ x3 then (some (x2, v)) else ((f_X5_looks x3 v).bind (fun v5 => (f_X5_watched_L n x1 (x2 ||| ((((v5 0 8) >>> (x1 &&& 31)) &&& 1) <<< (x3 &&& 31))) (x3 + 1) v5))))
def f_X5_watched (x1 : Int32) (v : jx_V) : Option (Int32 × jx_V) := ((f_X5_isLot x1 v).bind (fun (r1, v1) => (if r1 = 0 then ((f_X5_finds (-1000001) v1).bind (fun (r3, v3) => (some (r3, v3)))) else (f_X5_watched_L 100000 x1 0 0 v1))))
def rm_X5_watched : Room := { frames := 5, cells := 0, slots := 0, locals := 125 }
set_option maxHeartbeats 4000000 in
set_option maxRecDepth 100000 in
theorem k_X5_watched {l : Launch} {D : va_G} {cI cJ : ClassId} {ad : Nat → Nat} {A : Nat → Prop} (hI : jx_inj 13 ad A) (x1 : Int32) (v : jx_V) (r : Int32) (v' : jx_V) (hF : f_X5_watched x1 v = some (r, v')) : jx_Ci l D vwCl 13 cI cJ ad shM A ex_M yX5_watched (Cond.code yX5_watched cX5_watched 4 (some .int) :: bigT) rm_X5_watched [.ref (ad 0), .int x1] v r v' := by
  unfold f_X5_watched at hF
  refine jx_enteri bigT RX5 cX5_watched 4 (some .int) [(0, .ref (ad 0)), (1, .int x1)] hI (ex_M_ok A) (by decide +kernel) rfl (Nat.le_of_ble_eq_true rfl) rfl rfl ?_
  intro p e s m args below meth c E
  have iX5 : ∀ w ∈ u_ws RX5 TX5 21, w ∈ (Cond.code yX5_watched cX5_watched 4 (some .int) :: bigT) := fun w h => List.mem_cons_of_mem _ (uw_X5 w h)
  have key : ∀ n : Nat, (∀ (x1 : Int32) (x2 : Int32) (x3 : Int32) (v : jx_V), f_X5_watched_L  n  x1 x2 x3 v = some (r, v') → jx_J p l e rm_X5_watched s m args below meth c D vwCl 13 cI cJ ad shM A 0 0 4 (MQ below (va_Qi (fun (r1 : Int32) (_ : Unit) => r1 = r) (fun _ t => va_P D vwCl (jx_ws 13 cI cJ ad shM v') t.heap) A) args s 0 0 A) v 18 [(0, .ref (ad 0)), (1, .int x1), (2, .int x2), (3, .int x3)] []) := by
    intro n
    induction n with
    | zero =>
      exact (fun _ _ _ _ h => by cases h)
    | succ n ih =>
      intro x1 x2 x3 v hF
      rw [f_X5_watched_L] at hF
      refine jx_iload_n E dX5_watched_18 3 rfl ?_
      refine jx_aload_n E dX5_watched_19 0 rfl ?_
      refine jx_getr (C := RX5) (T := TX5) (M := 21) (k := 0) E dX5_watched_20 (Nat.le_of_ble_eq_true rfl) s_M0 rfl iX5 (by decide) rfl (List.mem_cons_of_mem _ tw_328) rfl ?_
      refine jx_iconst (x := 1) E dX5_watched_23 (by decide) ?_
      refine jx_iald (h := 1) (j := 1) E dX5_watched_24 (Nat.le_of_ble_eq_true rfl) s_M1 (by decide) (by decide) ?_
      refine jx_icmp_ge (tgt := 52) E dX5_watched_25 (by decide) (fun hc4 => ?_) (fun hc4 => ?_)
      · rw [if_pos hc4] at hF
        refine jx_iload_n E dX5_watched_52 2 rfl ?_
        obtain ⟨rfl, rfl⟩ := jx_out hF
        exact jx_iret E dX5_watched_53 rfl
      · rw [if_neg hc4] at hF
        refine jx_aload_n E dX5_watched_28 0 rfl ?_
        refine jx_iload_n E dX5_watched_29 3 rfl ?_
        obtain ⟨v5, hc5, hF⟩ := jx_bind hF
        try dsimp only at hF
        refine jx_callVv (As := [.int x3]) (st := []) (h := 0) E dX5_watched_30 1 rfl (k_X5_looks hI x3 v v5 hc5) (gb_V (List.mem_cons_of_mem _ tw_422) (List.mem_cons_of_mem _ tw_423) (List.mem_cons_of_mem _ tw_424) (List.mem_cons_of_mem _ tw_325) tw_421) rfl rfl rfl dd_X5_looks rfl (Nat.le_of_ble_eq_true rfl) s_M0 rfl ⟨by decide, by decide⟩ ⟨Nat.le_refl 0, Nat.le_refl 0⟩ (Nat.le_of_ble_eq_true rfl) ?_
        refine jx_iload_n E dX5_watched_33 2 rfl ?_
        refine jx_aload_n E dX5_watched_34 0 rfl ?_
        refine jx_geti (C := RX5) (T := TX5) (M := 21) (k := 8) E dX5_watched_35 (Nat.le_of_ble_eq_true rfl) s_M0 rfl iX5 (by decide) rfl (List.mem_cons_of_mem _ tw_411) rfl ?_
        refine jx_iload_n E dX5_watched_38 1 rfl ?_
        refine jx_ishr E dX5_watched_39 ?_
        refine jx_iconst (x := 1) E dX5_watched_40 (by decide) ?_
        refine jx_iand E dX5_watched_41 ?_
        refine jx_iload_n E dX5_watched_42 3 rfl ?_
        refine jx_ishl E dX5_watched_43 ?_
        refine jx_ior E dX5_watched_44 ?_
        refine jx_istore_n (lv' := [(2, .int (x2 ||| ((((v5 0 8) >>> (x1 &&& 31)) &&& 1) <<< (x3 &&& 31)))), (0, .ref (ad 0)), (1, .int x1), (3, .int x3)]) E dX5_watched_45 (by decide) rfl ?_
        refine jx_iinc (y := (x3 + 1)) (lv' := [(3, .int (x3 + 1)), (2, .int (x2 ||| ((((v5 0 8) >>> (x1 &&& 31)) &&& 1) <<< (x3 &&& 31)))), (0, .ref (ad 0)), (1, .int x1)]) E dX5_watched_46 3 rfl rfl (by decide) rfl ?_
        refine jx_goto (tgt := 18) E dX5_watched_49 (by decide) ?_
        refine jx_sub [2, 3, 1, 0] rfl ?_
        exact ih x1 (x2 ||| ((((v5 0 8) >>> (x1 &&& 31)) &&& 1) <<< (x3 &&& 31))) (x3 + 1) v5 hF
  refine jx_iload_n E dX5_watched_0 1 rfl ?_
  obtain ⟨⟨r1, v1⟩, hc1, hF⟩ := jx_bind hF
  try dsimp only at hF
  refine jx_callSi (As := [.int x1]) (st := []) E dX5_watched_1 1 rfl (k_X5_isLot hI x1 v r1 v1 hc1) (gb_S (List.mem_cons_of_mem _ tw_348) (List.mem_cons_of_mem _ tw_349) (List.mem_cons_of_mem _ tw_325) tw_347) rfl rfl rfl dd_X5_isLot rfl ⟨by decide, by decide⟩ ⟨Nat.le_refl 0, Nat.le_refl 0⟩ (Nat.le_of_ble_eq_true rfl) ?_
  refine jx_if_ne (tgt := 14) E dX5_watched_4 (by decide) (fun hc2 => ?_) (fun hc2 => ?_)
  · rw [if_neg hc2] at hF
    refine jx_iconst (x := 0) E dX5_watched_14 (by decide) ?_
    refine jx_istore_n (lv' := [(2, .int 0), (0, .ref (ad 0)), (1, .int x1)]) E dX5_watched_15 (by decide) rfl ?_
    refine jx_iconst (x := 0) E dX5_watched_16 (by decide) ?_
    refine jx_istore_n (lv' := [(3, .int 0), (2, .int 0), (0, .ref (ad 0)), (1, .int x1)]) E dX5_watched_17 (by decide) rfl ?_
    refine jx_sub [2, 3, 1, 0] rfl ?_
    exact (key 100000) x1 0 0 v1 hF
  · rw [if_pos hc2] at hF
    refine jx_aload_n E dX5_watched_7 0 rfl ?_
    refine jx_ldc (x := -1000001) E dX5_watched_8 (List.mem_cons_of_mem _ tw_320) ?_
    obtain ⟨⟨r3, v3⟩, hc3, hF⟩ := jx_bind hF
    try dsimp only at hF
    refine jx_callVi (As := [.int (-1000001)]) (st := []) (h := 0) E dX5_watched_10 1 rfl (k_X5_finds hI (-1000001) v1 r3 v3 hc3) (gb_V (List.mem_cons_of_mem _ tw_344) (List.mem_cons_of_mem _ tw_345) (List.mem_cons_of_mem _ tw_346) (List.mem_cons_of_mem _ tw_325) tw_343) rfl rfl rfl dd_X5_finds rfl (Nat.le_of_ble_eq_true rfl) s_M0 rfl ⟨by decide, by decide⟩ ⟨Nat.le_refl 0, Nat.le_refl 0⟩ (Nat.le_of_ble_eq_true rfl) ?_
    obtain ⟨rfl, rfl⟩ := jx_out hF
    exact jx_iret E dX5_watched_13 rfl
def f_X5_rent (x1 : Int32) (v : jx_V) : Option (Int32 × jx_V) := ((f_X5_isWindow x1 v).bind (fun (r1, v1) => (if r1 = 0 then ((f_X5_finds (-1000001) v1).bind (fun (r4, v4) => (some (r4, v4)))) else ((f_X5_looks x1 v1).bind (fun v3 => (some ((v3 0 7), v3)))))))
def rm_X5_rent : Room := { frames := 5, cells := 0, slots := 0, locals := 125 }
set_option maxHeartbeats 4000000 in
set_option maxRecDepth 100000 in
theorem k_X5_rent {l : Launch} {D : va_G} {cI cJ : ClassId} {ad : Nat → Nat} {A : Nat → Prop} (hI : jx_inj 13 ad A) (x1 : Int32) (v : jx_V) (r : Int32) (v' : jx_V) (hF : f_X5_rent x1 v = some (r, v')) : jx_Ci l D vwCl 13 cI cJ ad shM A ex_M yX5_rent (Cond.code yX5_rent cX5_rent 2 (some .int) :: bigT) rm_X5_rent [.ref (ad 0), .int x1] v r v' := by
  unfold f_X5_rent at hF
  refine jx_enteri bigT RX5 cX5_rent 2 (some .int) [(0, .ref (ad 0)), (1, .int x1)] hI (ex_M_ok A) (by decide +kernel) rfl (Nat.le_of_ble_eq_true rfl) rfl rfl ?_
  intro p e s m args below meth c E
  have iX5 : ∀ w ∈ u_ws RX5 TX5 21, w ∈ (Cond.code yX5_rent cX5_rent 2 (some .int) :: bigT) := fun w h => List.mem_cons_of_mem _ (uw_X5 w h)
  refine jx_aload_n E dX5_rent_0 0 rfl ?_
  refine jx_iload_n E dX5_rent_1 1 rfl ?_
  obtain ⟨⟨r1, v1⟩, hc1, hF⟩ := jx_bind hF
  try dsimp only at hF
  refine jx_callVi (As := [.int x1]) (st := []) (h := 0) E dX5_rent_2 1 rfl (k_X5_isWindow hI x1 v r1 v1 hc1) (gb_V (List.mem_cons_of_mem _ tw_397) (List.mem_cons_of_mem _ tw_398) (List.mem_cons_of_mem _ tw_399) (List.mem_cons_of_mem _ tw_325) tw_396) rfl rfl rfl dd_X5_isWindow rfl (Nat.le_of_ble_eq_true rfl) s_M0 rfl ⟨by decide, by decide⟩ ⟨Nat.le_refl 0, Nat.le_refl 0⟩ (Nat.le_of_ble_eq_true rfl) ?_
  refine jx_if_ne (tgt := 15) E dX5_rent_5 (by decide) (fun hc2 => ?_) (fun hc2 => ?_)
  · rw [if_neg hc2] at hF
    refine jx_aload_n E dX5_rent_15 0 rfl ?_
    refine jx_iload_n E dX5_rent_16 1 rfl ?_
    obtain ⟨v3, hc3, hF⟩ := jx_bind hF
    try dsimp only at hF
    refine jx_callVv (As := [.int x1]) (st := []) (h := 0) E dX5_rent_17 1 rfl (k_X5_looks hI x1 v1 v3 hc3) (gb_V (List.mem_cons_of_mem _ tw_422) (List.mem_cons_of_mem _ tw_423) (List.mem_cons_of_mem _ tw_424) (List.mem_cons_of_mem _ tw_325) tw_421) rfl rfl rfl dd_X5_looks rfl (Nat.le_of_ble_eq_true rfl) s_M0 rfl ⟨by decide, by decide⟩ ⟨Nat.le_refl 0, Nat.le_refl 0⟩ (Nat.le_of_ble_eq_true rfl) ?_
    refine jx_aload_n E dX5_rent_20 0 rfl ?_
    refine jx_geti (C := RX5) (T := TX5) (M := 21) (k := 7) E dX5_rent_21 (Nat.le_of_ble_eq_true rfl) s_M0 rfl iX5 (by decide) rfl (List.mem_cons_of_mem _ tw_410) rfl ?_
    obtain ⟨rfl, rfl⟩ := jx_out hF
    exact jx_iret E dX5_rent_24 rfl
  · rw [if_pos hc2] at hF
    refine jx_aload_n E dX5_rent_8 0 rfl ?_
    refine jx_ldc (x := -1000001) E dX5_rent_9 (List.mem_cons_of_mem _ tw_320) ?_
    obtain ⟨⟨r4, v4⟩, hc4, hF⟩ := jx_bind hF
    try dsimp only at hF
    refine jx_callVi (As := [.int (-1000001)]) (st := []) (h := 0) E dX5_rent_11 1 rfl (k_X5_finds hI (-1000001) v1 r4 v4 hc4) (gb_V (List.mem_cons_of_mem _ tw_344) (List.mem_cons_of_mem _ tw_345) (List.mem_cons_of_mem _ tw_346) (List.mem_cons_of_mem _ tw_325) tw_343) rfl rfl rfl dd_X5_finds rfl (Nat.le_of_ble_eq_true rfl) s_M0 rfl ⟨by decide, by decide⟩ ⟨Nat.le_refl 0, Nat.le_refl 0⟩ (Nat.le_of_ble_eq_true rfl) ?_
    obtain ⟨rfl, rfl⟩ := jx_out hF
    exact jx_iret E dX5_rent_14 rfl
def f_X5_findGains_L  : Nat → Nat → Int32 → Int32 → jx_V → Option (Int32 × jx_V)
  | 0, _, _, _, _ => none
  | n + 1, tag, x1, x2, v => (if tag = 0 then (if 4 ≤ x1 then (f_X5_findGains_L n 1 0 0 v) else (if (x1 < 0 ∨ 4 ≤ Int32.toNatClampNeg x1) then none else (f_X5_findGains_L n 0 (x1 + 1) 0 (jx_up v 6 (Int32.toNatClampNeg x1) 0)))) else (if tag = 1 then (if (v 1 1) ≤ x2 then (some (x1, v)) else ((f_X5_looks x2 v).bind (fun v4 => (f_X5_findGains_L n 1 (x1 + (v4 0 7)) (x2 + 1) v4)))) else none))
def f_X5_findGains  (v : jx_V) : Option (Int32 × jx_V) := (f_X5_findGains_L 100000 0 0 0 v)
def rm_X5_findGains : Room := { frames := 5, cells := 0, slots := 0, locals := 125 }
set_option maxHeartbeats 4000000 in
set_option maxRecDepth 100000 in
theorem k_X5_findGains {l : Launch} {D : va_G} {cI cJ : ClassId} {ad : Nat → Nat} {A : Nat → Prop} (hI : jx_inj 13 ad A)  (v : jx_V) (r : Int32) (v' : jx_V) (hF : f_X5_findGains  v = some (r, v')) : jx_Ci l D vwCl 13 cI cJ ad shM A ex_M yX5_findGains (Cond.code yX5_findGains cX5_findGains 3 (some .int) :: bigT) rm_X5_findGains [.ref (ad 0)] v r v' := by
  unfold f_X5_findGains at hF
  refine jx_enteri bigT RX5 cX5_findGains 3 (some .int) [(0, .ref (ad 0))] hI (ex_M_ok A) (by decide +kernel) rfl (Nat.le_of_ble_eq_true rfl) rfl rfl ?_
  intro p e s m args below meth c E
  have iX5 : ∀ w ∈ u_ws RX5 TX5 21, w ∈ (Cond.code yX5_findGains cX5_findGains 3 (some .int) :: bigT) := fun w h => List.mem_cons_of_mem _ (uw_X5 w h)
  have key : ∀ n : Nat, (∀ (x1 : Int32) (v : jx_V), f_X5_findGains_L  n 0 x1 0 v = some (r, v') → jx_J p l e rm_X5_findGains s m args below meth c D vwCl 13 cI cJ ad shM A 0 0 3 (MQ below (va_Qi (fun (r1 : Int32) (_ : Unit) => r1 = r) (fun _ t => va_P D vwCl (jx_ws 13 cI cJ ad shM v') t.heap) A) args s 0 0 A) v 2 [(0, .ref (ad 0)), (1, .int x1)] []) ∧ (∀ (x1 : Int32) (x2 : Int32) (v : jx_V), f_X5_findGains_L  n 1 x1 x2 v = some (r, v') → jx_J p l e rm_X5_findGains s m args below meth c D vwCl 13 cI cJ ad shM A 0 0 3 (MQ below (va_Qi (fun (r1 : Int32) (_ : Unit) => r1 = r) (fun _ t => va_P D vwCl (jx_ws 13 cI cJ ad shM v') t.heap) A) args s 0 0 A) v 24 [(0, .ref (ad 0)), (1, .int x1), (2, .int x2)] []) := by
    intro n
    induction n with
    | zero =>
      exact ⟨(fun _ _ h => by cases h), (fun _ _ _ h => by cases h)⟩
    | succ n ih =>
      refine ⟨?_, ?_⟩
      · intro x1 v hF
        rw [f_X5_findGains_L] at hF
        rw [if_pos rfl] at hF
        refine jx_iload_n E dX5_findGains_2 1 rfl ?_
        refine jx_iconst (x := 4) E dX5_findGains_3 (by decide) ?_
        refine jx_icmp_ge (tgt := 20) E dX5_findGains_4 (by decide) (fun hc1 => ?_) (fun hc1 => ?_)
        · rw [if_pos hc1] at hF
          refine jx_iconst (x := 0) E dX5_findGains_20 (by decide) ?_
          refine jx_istore_n (lv' := [(1, .int 0), (0, .ref (ad 0))]) E dX5_findGains_21 (by decide) rfl ?_
          refine jx_iconst (x := 0) E dX5_findGains_22 (by decide) ?_
          refine jx_istore_n (lv' := [(2, .int 0), (1, .int 0), (0, .ref (ad 0))]) E dX5_findGains_23 (by decide) rfl ?_
          refine jx_sub [2, 1, 0] rfl ?_
          exact ih.2 0 0 v hF
        · rw [if_neg hc1] at hF
          refine jx_aload_n E dX5_findGains_7 0 rfl ?_
          refine jx_getr (C := RX5) (T := TX5) (M := 21) (k := 9) E dX5_findGains_8 (Nat.le_of_ble_eq_true rfl) s_M0 rfl iX5 (by decide) rfl (List.mem_cons_of_mem _ tw_420) rfl ?_
          refine jx_iload_n E dX5_findGains_11 1 rfl ?_
          refine jx_iconst (x := 0) E dX5_findGains_12 (by decide) ?_
          obtain ⟨hg2, hF⟩ := jx_guard hF
          refine jx_iast (h := 6) (j := (Int32.toNatClampNeg x1)) E dX5_findGains_13 (Nat.le_of_ble_eq_true rfl) s_M6 hg2 rfl ?_
          refine jx_iinc (y := (x1 + 1)) (lv' := [(1, .int (x1 + 1)), (0, .ref (ad 0))]) E dX5_findGains_14 1 rfl rfl (by decide) rfl ?_
          refine jx_goto (tgt := 2) E dX5_findGains_17 (by decide) ?_
          refine jx_sub [1, 0] rfl ?_
          exact ih.1 (x1 + 1) (jx_up v 6 (Int32.toNatClampNeg x1) 0) hF
      · intro x1 x2 v hF
        rw [f_X5_findGains_L] at hF
        rw [if_neg (by decide), if_pos rfl] at hF
        refine jx_iload_n E dX5_findGains_24 2 rfl ?_
        refine jx_aload_n E dX5_findGains_25 0 rfl ?_
        refine jx_getr (C := RX5) (T := TX5) (M := 21) (k := 0) E dX5_findGains_26 (Nat.le_of_ble_eq_true rfl) s_M0 rfl iX5 (by decide) rfl (List.mem_cons_of_mem _ tw_328) rfl ?_
        refine jx_iconst (x := 1) E dX5_findGains_29 (by decide) ?_
        refine jx_iald (h := 1) (j := 1) E dX5_findGains_30 (Nat.le_of_ble_eq_true rfl) s_M1 (by decide) (by decide) ?_
        refine jx_icmp_ge (tgt := 52) E dX5_findGains_31 (by decide) (fun hc3 => ?_) (fun hc3 => ?_)
        · rw [if_pos hc3] at hF
          refine jx_iload_n E dX5_findGains_52 1 rfl ?_
          obtain ⟨rfl, rfl⟩ := jx_out hF
          exact jx_iret E dX5_findGains_53 rfl
        · rw [if_neg hc3] at hF
          refine jx_aload_n E dX5_findGains_34 0 rfl ?_
          refine jx_iload_n E dX5_findGains_35 2 rfl ?_
          obtain ⟨v4, hc4, hF⟩ := jx_bind hF
          try dsimp only at hF
          refine jx_callVv (As := [.int x2]) (st := []) (h := 0) E dX5_findGains_36 1 rfl (k_X5_looks hI x2 v v4 hc4) (gb_V (List.mem_cons_of_mem _ tw_422) (List.mem_cons_of_mem _ tw_423) (List.mem_cons_of_mem _ tw_424) (List.mem_cons_of_mem _ tw_325) tw_421) rfl rfl rfl dd_X5_looks rfl (Nat.le_of_ble_eq_true rfl) s_M0 rfl ⟨by decide, by decide⟩ ⟨Nat.le_refl 0, Nat.le_refl 0⟩ (Nat.le_of_ble_eq_true rfl) ?_
          refine jx_iload_n E dX5_findGains_39 1 rfl ?_
          refine jx_aload_n E dX5_findGains_40 0 rfl ?_
          refine jx_geti (C := RX5) (T := TX5) (M := 21) (k := 7) E dX5_findGains_41 (Nat.le_of_ble_eq_true rfl) s_M0 rfl iX5 (by decide) rfl (List.mem_cons_of_mem _ tw_410) rfl ?_
          refine jx_iadd E dX5_findGains_44 ?_
          refine jx_istore_n (lv' := [(1, .int (x1 + (v4 0 7))), (0, .ref (ad 0)), (2, .int x2)]) E dX5_findGains_45 (by decide) rfl ?_
          refine jx_iinc (y := (x2 + 1)) (lv' := [(2, .int (x2 + 1)), (1, .int (x1 + (v4 0 7))), (0, .ref (ad 0))]) E dX5_findGains_46 2 rfl rfl (by decide) rfl ?_
          refine jx_goto (tgt := 24) E dX5_findGains_49 (by decide) ?_
          refine jx_sub [2, 1, 0] rfl ?_
          exact ih.2 (x1 + (v4 0 7)) (x2 + 1) v4 hF
  refine jx_iconst (x := 0) E dX5_findGains_0 (by decide) ?_
  refine jx_istore_n (lv' := [(1, .int 0), (0, .ref (ad 0))]) E dX5_findGains_1 (by decide) rfl ?_
  refine jx_sub [1, 0] rfl ?_
  exact (key 100000).1 0 v hF
def f_X5_gainOf (x1 : Int32) (v : jx_V) : Option (Int32 × jx_V) := ((f_X5_findGains v).bind (fun (r1, v1) => (if (x1 < 0 ∨ 4 ≤ Int32.toNatClampNeg x1) then none else (some ((v1 6 (Int32.toNatClampNeg x1)), v1)))))
def rm_X5_gainOf : Room := { frames := 6, cells := 0, slots := 0, locals := 147 }
set_option maxHeartbeats 4000000 in
set_option maxRecDepth 100000 in
theorem k_X5_gainOf {l : Launch} {D : va_G} {cI cJ : ClassId} {ad : Nat → Nat} {A : Nat → Prop} (hI : jx_inj 13 ad A) (x1 : Int32) (v : jx_V) (r : Int32) (v' : jx_V) (hF : f_X5_gainOf x1 v = some (r, v')) : jx_Ci l D vwCl 13 cI cJ ad shM A ex_M yX5_gainOf (Cond.code yX5_gainOf cX5_gainOf 3 (some .int) :: bigT) rm_X5_gainOf [.ref (ad 0), .int x1] v r v' := by
  unfold f_X5_gainOf at hF
  refine jx_enteri bigT RX5 cX5_gainOf 3 (some .int) [(0, .ref (ad 0)), (1, .int x1)] hI (ex_M_ok A) (by decide +kernel) rfl (Nat.le_of_ble_eq_true rfl) rfl rfl ?_
  intro p e s m args below meth c E
  have iX5 : ∀ w ∈ u_ws RX5 TX5 21, w ∈ (Cond.code yX5_gainOf cX5_gainOf 3 (some .int) :: bigT) := fun w h => List.mem_cons_of_mem _ (uw_X5 w h)
  refine jx_aload_n E dX5_gainOf_0 0 rfl ?_
  obtain ⟨⟨r1, v1⟩, hc1, hF⟩ := jx_bind hF
  try dsimp only at hF
  refine jx_callVi (As := []) (st := []) (h := 0) E dX5_gainOf_1 0 rfl (k_X5_findGains hI  v r1 v1 hc1) (gb_V (List.mem_cons_of_mem _ tw_432) (List.mem_cons_of_mem _ tw_433) (List.mem_cons_of_mem _ tw_434) (List.mem_cons_of_mem _ tw_325) tw_431) rfl rfl rfl dd_X5_findGains rfl (Nat.le_of_ble_eq_true rfl) s_M0 rfl ⟨by decide, by decide⟩ ⟨Nat.le_refl 0, Nat.le_refl 0⟩ (Nat.le_of_ble_eq_true rfl) ?_
  refine jx_istore_n (lv' := [(2, .int r1), (0, .ref (ad 0)), (1, .int x1)]) E dX5_gainOf_4 (by decide) rfl ?_
  refine jx_aload_n E dX5_gainOf_5 1 rfl ?_
  refine jx_getr (C := RX5) (T := TX5) (M := 21) (k := 9) E dX5_gainOf_6 (Nat.le_of_ble_eq_true rfl) s_M0 rfl iX5 (by decide) rfl (List.mem_cons_of_mem _ tw_420) rfl ?_
  refine jx_iload_n E dX5_gainOf_9 2 rfl ?_
  obtain ⟨hg2, hF⟩ := jx_guard hF
  refine jx_iald (h := 6) (j := (Int32.toNatClampNeg x1)) E dX5_gainOf_10 (Nat.le_of_ble_eq_true rfl) s_M6 hg2 rfl ?_
  obtain ⟨rfl, rfl⟩ := jx_out hF
  exact jx_iret E dX5_gainOf_11 rfl
def f_X5_gain (x1 : Int32) (v : jx_V) : Option (Int32 × jx_V) := ((f_X5_isOwner x1 v).bind (fun (r1, v1) => (if r1 = 0 then ((f_X5_finds (-1000001) v1).bind (fun (r3, v3) => (some (r3, v3)))) else ((f_X5_gainOf x1 v1).bind (fun (r4, v4) => (some (r4, v4)))))))
def rm_X5_gain : Room := { frames := 7, cells := 0, slots := 0, locals := 169 }
set_option maxHeartbeats 4000000 in
set_option maxRecDepth 100000 in
theorem k_X5_gain {l : Launch} {D : va_G} {cI cJ : ClassId} {ad : Nat → Nat} {A : Nat → Prop} (hI : jx_inj 13 ad A) (x1 : Int32) (v : jx_V) (r : Int32) (v' : jx_V) (hF : f_X5_gain x1 v = some (r, v')) : jx_Ci l D vwCl 13 cI cJ ad shM A ex_M yX5_gain (Cond.code yX5_gain cX5_gain 2 (some .int) :: bigT) rm_X5_gain [.ref (ad 0), .int x1] v r v' := by
  unfold f_X5_gain at hF
  refine jx_enteri bigT RX5 cX5_gain 2 (some .int) [(0, .ref (ad 0)), (1, .int x1)] hI (ex_M_ok A) (by decide +kernel) rfl (Nat.le_of_ble_eq_true rfl) rfl rfl ?_
  intro p e s m args below meth c E
  refine jx_iload_n E dX5_gain_0 1 rfl ?_
  obtain ⟨⟨r1, v1⟩, hc1, hF⟩ := jx_bind hF
  try dsimp only at hF
  refine jx_callSi (As := [.int x1]) (st := []) E dX5_gain_1 1 rfl (k_X5_isOwner hI x1 v r1 v1 hc1) (gb_S (List.mem_cons_of_mem _ tw_351) (List.mem_cons_of_mem _ tw_352) (List.mem_cons_of_mem _ tw_325) tw_350) rfl rfl rfl dd_X5_isOwner rfl ⟨by decide, by decide⟩ ⟨Nat.le_refl 0, Nat.le_refl 0⟩ (Nat.le_of_ble_eq_true rfl) ?_
  refine jx_if_eq (tgt := 15) E dX5_gain_4 (by decide) (fun hc2 => ?_) (fun hc2 => ?_)
  · rw [if_pos hc2] at hF
    refine jx_aload_n E dX5_gain_15 0 rfl ?_
    refine jx_ldc (x := -1000001) E dX5_gain_16 (List.mem_cons_of_mem _ tw_320) ?_
    obtain ⟨⟨r3, v3⟩, hc3, hF⟩ := jx_bind hF
    try dsimp only at hF
    refine jx_callVi (As := [.int (-1000001)]) (st := []) (h := 0) E dX5_gain_18 1 rfl (k_X5_finds hI (-1000001) v1 r3 v3 hc3) (gb_V (List.mem_cons_of_mem _ tw_344) (List.mem_cons_of_mem _ tw_345) (List.mem_cons_of_mem _ tw_346) (List.mem_cons_of_mem _ tw_325) tw_343) rfl rfl rfl dd_X5_finds rfl (Nat.le_of_ble_eq_true rfl) s_M0 rfl ⟨by decide, by decide⟩ ⟨Nat.le_refl 0, Nat.le_refl 0⟩ (Nat.le_of_ble_eq_true rfl) ?_
    obtain ⟨rfl, rfl⟩ := jx_out hF
    exact jx_iret E dX5_gain_21 rfl
  · rw [if_neg hc2] at hF
    refine jx_aload_n E dX5_gain_7 0 rfl ?_
    refine jx_iload_n E dX5_gain_8 1 rfl ?_
    obtain ⟨⟨r4, v4⟩, hc4, hF⟩ := jx_bind hF
    try dsimp only at hF
    refine jx_callVi (As := [.int x1]) (st := []) (h := 0) E dX5_gain_9 1 rfl (k_X5_gainOf hI x1 v1 r4 v4 hc4) (gb_V (List.mem_cons_of_mem _ tw_436) (List.mem_cons_of_mem _ tw_437) (List.mem_cons_of_mem _ tw_438) (List.mem_cons_of_mem _ tw_325) tw_435) rfl rfl rfl dd_X5_gainOf rfl (Nat.le_of_ble_eq_true rfl) s_M0 rfl ⟨by decide, by decide⟩ ⟨Nat.le_refl 0, Nat.le_refl 0⟩ (Nat.le_of_ble_eq_true rfl) ?_
    refine jx_goto (tgt := 21) E dX5_gain_12 (by decide) ?_
    obtain ⟨rfl, rfl⟩ := jx_out hF
    exact jx_iret E dX5_gain_21 rfl
def f_X5_brokenSet_L  : Nat → Int32 → Int32 → jx_V → Option (Int32 × jx_V)
  | 0, _, _, _ => none
  | n + 1, x1, x2, v => (if (v 1 1) ≤ x2 then (some (x1, v)) else ((f_X5_isBroken x2 v).bind (fun (r2, v2) => (if r2 = 0 then (f_X5_brokenSet_L n (x1 ||| 0) (x2 + 1) v2) else (f_X5_brokenSet_L n (x1 ||| (1 <<< (x2 &&& 31))) (x2 + 1) v2)))))
def f_X5_brokenSet  (v : jx_V) : Option (Int32 × jx_V) := (f_X5_brokenSet_L 100000 0 0 v)
def rm_X5_brokenSet : Room := { frames := 6, cells := 0, slots := 0, locals := 147 }
set_option maxHeartbeats 4000000 in
set_option maxRecDepth 100000 in
theorem k_X5_brokenSet {l : Launch} {D : va_G} {cI cJ : ClassId} {ad : Nat → Nat} {A : Nat → Prop} (hI : jx_inj 13 ad A)  (v : jx_V) (r : Int32) (v' : jx_V) (hF : f_X5_brokenSet  v = some (r, v')) : jx_Ci l D vwCl 13 cI cJ ad shM A ex_M yX5_brokenSet (Cond.code yX5_brokenSet cX5_brokenSet 3 (some .int) :: bigT) rm_X5_brokenSet [.ref (ad 0)] v r v' := by
  unfold f_X5_brokenSet at hF
  refine jx_enteri bigT RX5 cX5_brokenSet 3 (some .int) [(0, .ref (ad 0))] hI (ex_M_ok A) (by decide +kernel) rfl (Nat.le_of_ble_eq_true rfl) rfl rfl ?_
  intro p e s m args below meth c E
  have iX5 : ∀ w ∈ u_ws RX5 TX5 21, w ∈ (Cond.code yX5_brokenSet cX5_brokenSet 3 (some .int) :: bigT) := fun w h => List.mem_cons_of_mem _ (uw_X5 w h)
  have key : ∀ n : Nat, (∀ (x1 : Int32) (x2 : Int32) (v : jx_V), f_X5_brokenSet_L  n  x1 x2 v = some (r, v') → jx_J p l e rm_X5_brokenSet s m args below meth c D vwCl 13 cI cJ ad shM A 0 0 3 (MQ below (va_Qi (fun (r1 : Int32) (_ : Unit) => r1 = r) (fun _ t => va_P D vwCl (jx_ws 13 cI cJ ad shM v') t.heap) A) args s 0 0 A) v 4 [(0, .ref (ad 0)), (1, .int x1), (2, .int x2)] []) := by
    intro n
    induction n with
    | zero =>
      exact (fun _ _ _ h => by cases h)
    | succ n ih =>
      intro x1 x2 v hF
      rw [f_X5_brokenSet_L] at hF
      refine jx_iload_n E dX5_brokenSet_4 2 rfl ?_
      refine jx_aload_n E dX5_brokenSet_5 0 rfl ?_
      refine jx_getr (C := RX5) (T := TX5) (M := 21) (k := 0) E dX5_brokenSet_6 (Nat.le_of_ble_eq_true rfl) s_M0 rfl iX5 (by decide) rfl (List.mem_cons_of_mem _ tw_328) rfl ?_
      refine jx_iconst (x := 1) E dX5_brokenSet_9 (by decide) ?_
      refine jx_iald (h := 1) (j := 1) E dX5_brokenSet_10 (Nat.le_of_ble_eq_true rfl) s_M1 (by decide) (by decide) ?_
      refine jx_icmp_ge (tgt := 38) E dX5_brokenSet_11 (by decide) (fun hc1 => ?_) (fun hc1 => ?_)
      · rw [if_pos hc1] at hF
        refine jx_iload_n E dX5_brokenSet_38 1 rfl ?_
        obtain ⟨rfl, rfl⟩ := jx_out hF
        exact jx_iret E dX5_brokenSet_39 rfl
      · rw [if_neg hc1] at hF
        refine jx_iload_n E dX5_brokenSet_14 1 rfl ?_
        refine jx_aload_n E dX5_brokenSet_15 0 rfl ?_
        refine jx_iload_n E dX5_brokenSet_16 2 rfl ?_
        obtain ⟨⟨r2, v2⟩, hc2, hF⟩ := jx_bind hF
        try dsimp only at hF
        refine jx_callVi (As := [.int x2]) (st := [.int x1]) (h := 0) E dX5_brokenSet_17 1 rfl (k_X5_isBroken hI x2 v r2 v2 hc2) (gb_V (List.mem_cons_of_mem _ tw_428) (List.mem_cons_of_mem _ tw_429) (List.mem_cons_of_mem _ tw_430) (List.mem_cons_of_mem _ tw_325) tw_427) rfl rfl rfl dd_X5_isBroken rfl (Nat.le_of_ble_eq_true rfl) s_M0 rfl ⟨by decide, by decide⟩ ⟨Nat.le_refl 0, Nat.le_refl 0⟩ (Nat.le_of_ble_eq_true rfl) ?_
        refine jx_if_eq (tgt := 29) E dX5_brokenSet_20 (by decide) (fun hc3 => ?_) (fun hc3 => ?_)
        · rw [if_pos hc3] at hF
          refine jx_iconst (x := 0) E dX5_brokenSet_29 (by decide) ?_
          refine jx_ior E dX5_brokenSet_30 ?_
          refine jx_istore_n (lv' := [(1, .int (x1 ||| 0)), (0, .ref (ad 0)), (2, .int x2)]) E dX5_brokenSet_31 (by decide) rfl ?_
          refine jx_iinc (y := (x2 + 1)) (lv' := [(2, .int (x2 + 1)), (1, .int (x1 ||| 0)), (0, .ref (ad 0))]) E dX5_brokenSet_32 2 rfl rfl (by decide) rfl ?_
          refine jx_goto (tgt := 4) E dX5_brokenSet_35 (by decide) ?_
          refine jx_sub [2, 1, 0] rfl ?_
          exact ih (x1 ||| 0) (x2 + 1) v2 hF
        · rw [if_neg hc3] at hF
          refine jx_iconst (x := 1) E dX5_brokenSet_23 (by decide) ?_
          refine jx_iload_n E dX5_brokenSet_24 2 rfl ?_
          refine jx_ishl E dX5_brokenSet_25 ?_
          refine jx_goto (tgt := 30) E dX5_brokenSet_26 (by decide) ?_
          refine jx_ior E dX5_brokenSet_30 ?_
          refine jx_istore_n (lv' := [(1, .int (x1 ||| (1 <<< (x2 &&& 31)))), (0, .ref (ad 0)), (2, .int x2)]) E dX5_brokenSet_31 (by decide) rfl ?_
          refine jx_iinc (y := (x2 + 1)) (lv' := [(2, .int (x2 + 1)), (1, .int (x1 ||| (1 <<< (x2 &&& 31)))), (0, .ref (ad 0))]) E dX5_brokenSet_32 2 rfl rfl (by decide) rfl ?_
          refine jx_goto (tgt := 4) E dX5_brokenSet_35 (by decide) ?_
          refine jx_sub [2, 1, 0] rfl ?_
          exact ih (x1 ||| (1 <<< (x2 &&& 31))) (x2 + 1) v2 hF
  refine jx_iconst (x := 0) E dX5_brokenSet_0 (by decide) ?_
  refine jx_istore_n (lv' := [(1, .int 0), (0, .ref (ad 0))]) E dX5_brokenSet_1 (by decide) rfl ?_
  refine jx_iconst (x := 0) E dX5_brokenSet_2 (by decide) ?_
  refine jx_istore_n (lv' := [(2, .int 0), (1, .int 0), (0, .ref (ad 0))]) E dX5_brokenSet_3 (by decide) rfl ?_
  refine jx_sub [2, 1, 0] rfl ?_
  exact (key 100000) 0 0 v hF
def f_X5_broken  (v : jx_V) : Option (Int32 × jx_V) := ((f_X5_brokenSet v).bind (fun (r1, v1) => (some (r1, v1))))
def rm_X5_broken : Room := { frames := 7, cells := 0, slots := 0, locals := 169 }
set_option maxHeartbeats 4000000 in
set_option maxRecDepth 100000 in
theorem k_X5_broken {l : Launch} {D : va_G} {cI cJ : ClassId} {ad : Nat → Nat} {A : Nat → Prop} (hI : jx_inj 13 ad A)  (v : jx_V) (r : Int32) (v' : jx_V) (hF : f_X5_broken  v = some (r, v')) : jx_Ci l D vwCl 13 cI cJ ad shM A ex_M yX5_broken (Cond.code yX5_broken cX5_broken 1 (some .int) :: bigT) rm_X5_broken [.ref (ad 0)] v r v' := by
  unfold f_X5_broken at hF
  refine jx_enteri bigT RX5 cX5_broken 1 (some .int) [(0, .ref (ad 0))] hI (ex_M_ok A) (by decide +kernel) rfl (Nat.le_of_ble_eq_true rfl) rfl rfl ?_
  intro p e s m args below meth c E
  refine jx_aload_n E dX5_broken_0 0 rfl ?_
  obtain ⟨⟨r1, v1⟩, hc1, hF⟩ := jx_bind hF
  try dsimp only at hF
  refine jx_callVi (As := []) (st := []) (h := 0) E dX5_broken_1 0 rfl (k_X5_brokenSet hI  v r1 v1 hc1) (gb_V (List.mem_cons_of_mem _ tw_440) (List.mem_cons_of_mem _ tw_441) (List.mem_cons_of_mem _ tw_442) (List.mem_cons_of_mem _ tw_325) tw_439) rfl rfl rfl dd_X5_brokenSet rfl (Nat.le_of_ble_eq_true rfl) s_M0 rfl ⟨by decide, by decide⟩ ⟨Nat.le_refl 0, Nat.le_refl 0⟩ (Nat.le_of_ble_eq_true rfl) ?_
  obtain ⟨rfl, rfl⟩ := jx_out hF
  exact jx_iret E dX5_broken_4 rfl
def f_X5_month_L  : Nat → Nat → Int32 → Int32 → jx_V → Option (Int32 × jx_V)
  | 0, _, _, _, _ => none
  | n + 1, tag, x1, x2, v => (if tag = 0 then (if 4 ≤ x2 then (f_X5_month_L n 1 x1 0 v) else (if ((7 + x2) < 0 ∨ 181 ≤ Int32.toNatClampNeg (7 + x2)) then none else (if (x2 < 0 ∨ 4 ≤ Int32.toNatClampNeg x2) then none else (if ((7 + x2) < 0 ∨ 181 ≤ Int32.toNatClampNeg (7 + x2)) then none else (f_X5_month_L n 0 x1 (x2 + 1) (jx_up v 1 (Int32.toNatClampNeg (7 + x2)) ((v 1 (Int32.toNatClampNeg (7 + x2))) + (v 6 (Int32.toNatClampNeg x2))))))))) else (if tag = 1 then (if 25 ≤ x2 then (some (x1, (jx_up v 1 0 ((v 1 0) + 1)))) else ((f_X5_its x2 2 v).bind (fun (r7, v7) => ((f_X5_isThing x2 v7).bind (fun (r8, v8) => (if r8 = 0 then ((f_X5_at x2 2 v8).bind (fun (r10, v10) => (if 9 ≤ (r7 + 0) then (if (r10 < 0 ∨ 181 ≤ Int32.toNatClampNeg r10) then none else (f_X5_month_L n 1 x1 (x2 + 1) (jx_up v10 1 (Int32.toNatClampNeg r10) 9))) else (if (r10 < 0 ∨ 181 ≤ Int32.toNatClampNeg r10) then none else (f_X5_month_L n 1 x1 (x2 + 1) (jx_up v10 1 (Int32.toNatClampNeg r10) (r7 + 0))))))) else ((f_X5_grows x2 v8).bind (fun (r14, v14) => ((f_X5_at x2 2 v14).bind (fun (r15, v15) => (if 9 ≤ (r7 + r14) then (if (r15 < 0 ∨ 181 ≤ Int32.toNatClampNeg r15) then none else (f_X5_month_L n 1 x1 (x2 + 1) (jx_up v15 1 (Int32.toNatClampNeg r15) 9))) else (if (r15 < 0 ∨ 181 ≤ Int32.toNatClampNeg r15) then none else (f_X5_month_L n 1 x1 (x2 + 1) (jx_up v15 1 (Int32.toNatClampNeg r15) (r7 + r14))))))))))))))) else none))
def f_X5_month  (v : jx_V) : Option (Int32 × jx_V) := ((f_X5_findGains v).bind (fun (r1, v1) => (f_X5_month_L 100000 0 r1 0 v1)))
def rm_X5_month : Room := { frames := 6, cells := 0, slots := 0, locals := 147 }
set_option maxHeartbeats 4000000 in
set_option maxRecDepth 100000 in
theorem k_X5_month {l : Launch} {D : va_G} {cI cJ : ClassId} {ad : Nat → Nat} {A : Nat → Prop} (hI : jx_inj 13 ad A)  (v : jx_V) (r : Int32) (v' : jx_V) (hF : f_X5_month  v = some (r, v')) : jx_Ci l D vwCl 13 cI cJ ad shM A ex_M yX5_month (Cond.code yX5_month cX5_month 4 (some .int) :: bigT) rm_X5_month [.ref (ad 0)] v r v' := by
  unfold f_X5_month at hF
  refine jx_enteri bigT RX5 cX5_month 4 (some .int) [(0, .ref (ad 0))] hI (ex_M_ok A) (by decide +kernel) rfl (Nat.le_of_ble_eq_true rfl) rfl rfl ?_
  intro p e s m args below meth c E
  have iX5 : ∀ w ∈ u_ws RX5 TX5 21, w ∈ (Cond.code yX5_month cX5_month 4 (some .int) :: bigT) := fun w h => List.mem_cons_of_mem _ (uw_X5 w h)
  have key : ∀ n : Nat, (∀ (x1 : Int32) (x2 : Int32) (v : jx_V), f_X5_month_L  n 0 x1 x2 v = some (r, v') → jx_J p l e rm_X5_month s m args below meth c D vwCl 13 cI cJ ad shM A 0 0 4 (MQ below (va_Qi (fun (r1 : Int32) (_ : Unit) => r1 = r) (fun _ t => va_P D vwCl (jx_ws 13 cI cJ ad shM v') t.heap) A) args s 0 0 A) v 7 [(0, .ref (ad 0)), (1, .int x1), (2, .int x2)] []) ∧ (∀ (x1 : Int32) (x2 : Int32) (v : jx_V), f_X5_month_L  n 1 x1 x2 v = some (r, v') → jx_J p l e rm_X5_month s m args below meth c D vwCl 13 cI cJ ad shM A 0 0 4 (MQ below (va_Qi (fun (r1 : Int32) (_ : Unit) => r1 = r) (fun _ t => va_P D vwCl (jx_ws 13 cI cJ ad shM v') t.heap) A) args s 0 0 A) v 38 [(0, .ref (ad 0)), (1, .int x1), (2, .int x2)] []) := by
    intro n
    induction n with
    | zero =>
      exact ⟨(fun _ _ _ h => by cases h), (fun _ _ _ h => by cases h)⟩
    | succ n ih =>
      refine ⟨?_, ?_⟩
      · intro x1 x2 v hF
        rw [f_X5_month_L] at hF
        rw [if_pos rfl] at hF
        refine jx_iload_n E dX5_month_7 2 rfl ?_
        refine jx_iconst (x := 4) E dX5_month_8 (by decide) ?_
        refine jx_icmp_ge (tgt := 36) E dX5_month_9 (by decide) (fun hc2 => ?_) (fun hc2 => ?_)
        · rw [if_pos hc2] at hF
          refine jx_iconst (x := 0) E dX5_month_36 (by decide) ?_
          refine jx_istore_n (lv' := [(2, .int 0), (0, .ref (ad 0)), (1, .int x1)]) E dX5_month_37 (by decide) rfl ?_
          refine jx_sub [1, 2, 0] rfl ?_
          exact ih.2 x1 0 v hF
        · rw [if_neg hc2] at hF
          refine jx_aload_n E dX5_month_12 0 rfl ?_
          refine jx_getr (C := RX5) (T := TX5) (M := 21) (k := 0) E dX5_month_13 (Nat.le_of_ble_eq_true rfl) s_M0 rfl iX5 (by decide) rfl (List.mem_cons_of_mem _ tw_328) rfl ?_
          refine jx_bipush (x := 7) E dX5_month_16 (by decide) ?_
          refine jx_iload_n E dX5_month_18 2 rfl ?_
          refine jx_iadd E dX5_month_19 ?_
          refine jx_dup2 E dX5_month_20 rfl rfl ?_
          obtain ⟨hg3, hF⟩ := jx_guard hF
          refine jx_iald (h := 1) (j := (Int32.toNatClampNeg (7 + x2))) E dX5_month_21 (Nat.le_of_ble_eq_true rfl) s_M1 hg3 rfl ?_
          refine jx_aload_n E dX5_month_22 0 rfl ?_
          refine jx_getr (C := RX5) (T := TX5) (M := 21) (k := 9) E dX5_month_23 (Nat.le_of_ble_eq_true rfl) s_M0 rfl iX5 (by decide) rfl (List.mem_cons_of_mem _ tw_420) rfl ?_
          refine jx_iload_n E dX5_month_26 2 rfl ?_
          obtain ⟨hg4, hF⟩ := jx_guard hF
          refine jx_iald (h := 6) (j := (Int32.toNatClampNeg x2)) E dX5_month_27 (Nat.le_of_ble_eq_true rfl) s_M6 hg4 rfl ?_
          refine jx_iadd E dX5_month_28 ?_
          obtain ⟨hg5, hF⟩ := jx_guard hF
          refine jx_iast (h := 1) (j := (Int32.toNatClampNeg (7 + x2))) E dX5_month_29 (Nat.le_of_ble_eq_true rfl) s_M1 hg5 rfl ?_
          refine jx_iinc (y := (x2 + 1)) (lv' := [(2, .int (x2 + 1)), (0, .ref (ad 0)), (1, .int x1)]) E dX5_month_30 2 rfl rfl (by decide) rfl ?_
          refine jx_goto (tgt := 7) E dX5_month_33 (by decide) ?_
          refine jx_sub [1, 2, 0] rfl ?_
          exact ih.1 x1 (x2 + 1) (jx_up v 1 (Int32.toNatClampNeg (7 + x2)) ((v 1 (Int32.toNatClampNeg (7 + x2))) + (v 6 (Int32.toNatClampNeg x2)))) hF
      · intro x1 x2 v hF
        rw [f_X5_month_L] at hF
        rw [if_neg (by decide), if_pos rfl] at hF
        refine jx_iload_n E dX5_month_38 2 rfl ?_
        refine jx_bipush (x := 25) E dX5_month_39 (by decide) ?_
        refine jx_icmp_ge (tgt := 97) E dX5_month_41 (by decide) (fun hc6 => ?_) (fun hc6 => ?_)
        · rw [if_pos hc6] at hF
          refine jx_aload_n E dX5_month_97 0 rfl ?_
          refine jx_getr (C := RX5) (T := TX5) (M := 21) (k := 0) E dX5_month_98 (Nat.le_of_ble_eq_true rfl) s_M0 rfl iX5 (by decide) rfl (List.mem_cons_of_mem _ tw_328) rfl ?_
          refine jx_iconst (x := 0) E dX5_month_101 (by decide) ?_
          refine jx_dup2 E dX5_month_102 rfl rfl ?_
          refine jx_iald (h := 1) (j := 0) E dX5_month_103 (Nat.le_of_ble_eq_true rfl) s_M1 (by decide) (by decide) ?_
          refine jx_iconst (x := 1) E dX5_month_104 (by decide) ?_
          refine jx_iadd E dX5_month_105 ?_
          refine jx_iast (h := 1) (j := 0) E dX5_month_106 (Nat.le_of_ble_eq_true rfl) s_M1 (by decide) (by decide) ?_
          refine jx_iload_n E dX5_month_107 1 rfl ?_
          obtain ⟨rfl, rfl⟩ := jx_out hF
          exact jx_iret E dX5_month_108 rfl
        · rw [if_neg hc6] at hF
          refine jx_aload_n E dX5_month_44 0 rfl ?_
          refine jx_iload_n E dX5_month_45 2 rfl ?_
          refine jx_iconst (x := 2) E dX5_month_46 (by decide) ?_
          obtain ⟨⟨r7, v7⟩, hc7, hF⟩ := jx_bind hF
          try dsimp only at hF
          refine jx_callVi (As := [.int x2, .int 2]) (st := []) (h := 0) E dX5_month_47 2 rfl (k_X5_its hI x2 2 v r7 v7 hc7) (gb_V (List.mem_cons_of_mem _ tw_335) (List.mem_cons_of_mem _ tw_336) (List.mem_cons_of_mem _ tw_337) (List.mem_cons_of_mem _ tw_325) tw_334) rfl rfl rfl dd_X5_its rfl (Nat.le_of_ble_eq_true rfl) s_M0 rfl ⟨by decide, by decide⟩ ⟨Nat.le_refl 0, Nat.le_refl 0⟩ (Nat.le_of_ble_eq_true rfl) ?_
          refine jx_aload_n E dX5_month_50 0 rfl ?_
          refine jx_iload_n E dX5_month_51 2 rfl ?_
          obtain ⟨⟨r8, v8⟩, hc8, hF⟩ := jx_bind hF
          try dsimp only at hF
          refine jx_callVi (As := [.int x2]) (st := [.int r7]) (h := 0) E dX5_month_52 1 rfl (k_X5_isThing hI x2 v7 r8 v8 hc8) (gb_V (List.mem_cons_of_mem _ tw_339) (List.mem_cons_of_mem _ tw_340) (List.mem_cons_of_mem _ tw_341) (List.mem_cons_of_mem _ tw_325) tw_338) rfl rfl rfl dd_X5_isThing rfl (Nat.le_of_ble_eq_true rfl) s_M0 rfl ⟨by decide, by decide⟩ ⟨Nat.le_refl 0, Nat.le_refl 0⟩ (Nat.le_of_ble_eq_true rfl) ?_
          refine jx_if_eq (tgt := 66) E dX5_month_55 (by decide) (fun hc9 => ?_) (fun hc9 => ?_)
          · rw [if_pos hc9] at hF
            refine jx_iconst (x := 0) E dX5_month_66 (by decide) ?_
            refine jx_iadd E dX5_month_67 ?_
            refine jx_istore_n (lv' := [(3, .int (r7 + 0)), (0, .ref (ad 0)), (1, .int x1), (2, .int x2)]) E dX5_month_68 (by decide) rfl ?_
            refine jx_aload_n E dX5_month_69 1 rfl ?_
            refine jx_getr (C := RX5) (T := TX5) (M := 21) (k := 0) E dX5_month_70 (Nat.le_of_ble_eq_true rfl) s_M0 rfl iX5 (by decide) rfl (List.mem_cons_of_mem _ tw_328) rfl ?_
            refine jx_iload_n E dX5_month_73 3 rfl ?_
            refine jx_iconst (x := 2) E dX5_month_74 (by decide) ?_
            obtain ⟨⟨r10, v10⟩, hc10, hF⟩ := jx_bind hF
            try dsimp only at hF
            refine jx_callSi (As := [.int x2, .int 2]) (st := [.ref (ad 1)]) E dX5_month_75 2 rfl (k_X5_at hI x2 2 v8 r10 v10 hc10) (gb_S (List.mem_cons_of_mem _ tw_332) (List.mem_cons_of_mem _ tw_333) (List.mem_cons_of_mem _ tw_325) tw_331) rfl rfl rfl dd_X5_at rfl ⟨by decide, by decide⟩ ⟨Nat.le_refl 0, Nat.le_refl 0⟩ (Nat.le_of_ble_eq_true rfl) ?_
            refine jx_iload_n E dX5_month_78 0 rfl ?_
            refine jx_bipush (x := 9) E dX5_month_79 (by decide) ?_
            refine jx_icmp_ge (tgt := 88) E dX5_month_81 (by decide) (fun hc11 => ?_) (fun hc11 => ?_)
            · rw [if_pos hc11] at hF
              refine jx_bipush (x := 9) E dX5_month_88 (by decide) ?_
              obtain ⟨hg12, hF⟩ := jx_guard hF
              refine jx_iast (h := 1) (j := (Int32.toNatClampNeg r10)) E dX5_month_90 (Nat.le_of_ble_eq_true rfl) s_M1 hg12 rfl ?_
              refine jx_iinc (y := (x2 + 1)) (lv' := [(2, .int (x2 + 1)), (3, .int (r7 + 0)), (0, .ref (ad 0)), (1, .int x1)]) E dX5_month_91 3 rfl rfl (by decide) rfl ?_
              refine jx_goto (tgt := 38) E dX5_month_94 (by decide) ?_
              refine jx_sub [2, 3, 0] rfl ?_
              exact ih.2 x1 (x2 + 1) (jx_up v10 1 (Int32.toNatClampNeg r10) 9) hF
            · rw [if_neg hc11] at hF
              refine jx_iload_n E dX5_month_84 0 rfl ?_
              refine jx_goto (tgt := 90) E dX5_month_85 (by decide) ?_
              obtain ⟨hg13, hF⟩ := jx_guard hF
              refine jx_iast (h := 1) (j := (Int32.toNatClampNeg r10)) E dX5_month_90 (Nat.le_of_ble_eq_true rfl) s_M1 hg13 rfl ?_
              refine jx_iinc (y := (x2 + 1)) (lv' := [(2, .int (x2 + 1)), (3, .int (r7 + 0)), (0, .ref (ad 0)), (1, .int x1)]) E dX5_month_91 3 rfl rfl (by decide) rfl ?_
              refine jx_goto (tgt := 38) E dX5_month_94 (by decide) ?_
              refine jx_sub [2, 3, 0] rfl ?_
              exact ih.2 x1 (x2 + 1) (jx_up v10 1 (Int32.toNatClampNeg r10) (r7 + 0)) hF
          · rw [if_neg hc9] at hF
            refine jx_aload_n E dX5_month_58 0 rfl ?_
            refine jx_iload_n E dX5_month_59 2 rfl ?_
            obtain ⟨⟨r14, v14⟩, hc14, hF⟩ := jx_bind hF
            try dsimp only at hF
            refine jx_callVi (As := [.int x2]) (st := [.int r7]) (h := 0) E dX5_month_60 1 rfl (k_X5_grows hI x2 v8 r14 v14 hc14) (gb_V (List.mem_cons_of_mem _ tw_376) (List.mem_cons_of_mem _ tw_377) (List.mem_cons_of_mem _ tw_378) (List.mem_cons_of_mem _ tw_325) tw_375) rfl rfl rfl dd_X5_grows rfl (Nat.le_of_ble_eq_true rfl) s_M0 rfl ⟨by decide, by decide⟩ ⟨Nat.le_refl 0, Nat.le_refl 0⟩ (Nat.le_of_ble_eq_true rfl) ?_
            refine jx_goto (tgt := 67) E dX5_month_63 (by decide) ?_
            refine jx_iadd E dX5_month_67 ?_
            refine jx_istore_n (lv' := [(3, .int (r7 + r14)), (0, .ref (ad 0)), (1, .int x1), (2, .int x2)]) E dX5_month_68 (by decide) rfl ?_
            refine jx_aload_n E dX5_month_69 1 rfl ?_
            refine jx_getr (C := RX5) (T := TX5) (M := 21) (k := 0) E dX5_month_70 (Nat.le_of_ble_eq_true rfl) s_M0 rfl iX5 (by decide) rfl (List.mem_cons_of_mem _ tw_328) rfl ?_
            refine jx_iload_n E dX5_month_73 3 rfl ?_
            refine jx_iconst (x := 2) E dX5_month_74 (by decide) ?_
            obtain ⟨⟨r15, v15⟩, hc15, hF⟩ := jx_bind hF
            try dsimp only at hF
            refine jx_callSi (As := [.int x2, .int 2]) (st := [.ref (ad 1)]) E dX5_month_75 2 rfl (k_X5_at hI x2 2 v14 r15 v15 hc15) (gb_S (List.mem_cons_of_mem _ tw_332) (List.mem_cons_of_mem _ tw_333) (List.mem_cons_of_mem _ tw_325) tw_331) rfl rfl rfl dd_X5_at rfl ⟨by decide, by decide⟩ ⟨Nat.le_refl 0, Nat.le_refl 0⟩ (Nat.le_of_ble_eq_true rfl) ?_
            refine jx_iload_n E dX5_month_78 0 rfl ?_
            refine jx_bipush (x := 9) E dX5_month_79 (by decide) ?_
            refine jx_icmp_ge (tgt := 88) E dX5_month_81 (by decide) (fun hc16 => ?_) (fun hc16 => ?_)
            · rw [if_pos hc16] at hF
              refine jx_bipush (x := 9) E dX5_month_88 (by decide) ?_
              obtain ⟨hg17, hF⟩ := jx_guard hF
              refine jx_iast (h := 1) (j := (Int32.toNatClampNeg r15)) E dX5_month_90 (Nat.le_of_ble_eq_true rfl) s_M1 hg17 rfl ?_
              refine jx_iinc (y := (x2 + 1)) (lv' := [(2, .int (x2 + 1)), (3, .int (r7 + r14)), (0, .ref (ad 0)), (1, .int x1)]) E dX5_month_91 3 rfl rfl (by decide) rfl ?_
              refine jx_goto (tgt := 38) E dX5_month_94 (by decide) ?_
              refine jx_sub [2, 3, 0] rfl ?_
              exact ih.2 x1 (x2 + 1) (jx_up v15 1 (Int32.toNatClampNeg r15) 9) hF
            · rw [if_neg hc16] at hF
              refine jx_iload_n E dX5_month_84 0 rfl ?_
              refine jx_goto (tgt := 90) E dX5_month_85 (by decide) ?_
              obtain ⟨hg18, hF⟩ := jx_guard hF
              refine jx_iast (h := 1) (j := (Int32.toNatClampNeg r15)) E dX5_month_90 (Nat.le_of_ble_eq_true rfl) s_M1 hg18 rfl ?_
              refine jx_iinc (y := (x2 + 1)) (lv' := [(2, .int (x2 + 1)), (3, .int (r7 + r14)), (0, .ref (ad 0)), (1, .int x1)]) E dX5_month_91 3 rfl rfl (by decide) rfl ?_
              refine jx_goto (tgt := 38) E dX5_month_94 (by decide) ?_
              refine jx_sub [2, 3, 0] rfl ?_
              exact ih.2 x1 (x2 + 1) (jx_up v15 1 (Int32.toNatClampNeg r15) (r7 + r14)) hF
  refine jx_aload_n E dX5_month_0 0 rfl ?_
  obtain ⟨⟨r1, v1⟩, hc1, hF⟩ := jx_bind hF
  try dsimp only at hF
  refine jx_callVi (As := []) (st := []) (h := 0) E dX5_month_1 0 rfl (k_X5_findGains hI  v r1 v1 hc1) (gb_V (List.mem_cons_of_mem _ tw_432) (List.mem_cons_of_mem _ tw_433) (List.mem_cons_of_mem _ tw_434) (List.mem_cons_of_mem _ tw_325) tw_431) rfl rfl rfl dd_X5_findGains rfl (Nat.le_of_ble_eq_true rfl) s_M0 rfl ⟨by decide, by decide⟩ ⟨Nat.le_refl 0, Nat.le_refl 0⟩ (Nat.le_of_ble_eq_true rfl) ?_
  refine jx_istore_n (lv' := [(1, .int r1), (0, .ref (ad 0))]) E dX5_month_4 (by decide) rfl ?_
  refine jx_iconst (x := 0) E dX5_month_5 (by decide) ?_
  refine jx_istore_n (lv' := [(2, .int 0), (1, .int r1), (0, .ref (ad 0))]) E dX5_month_6 (by decide) rfl ?_
  refine jx_sub [2, 1, 0] rfl ?_
  exact (key 100000).1 r1 0 v1 hF
def f_X5_monthsGo_L  : Nat → Int32 → Int32 → Int32 → jx_V → Option (Int32 × jx_V)
  | 0, _, _, _, _ => none
  | n + 1, x1, x2, x3, v => (if x1 ≤ x3 then (some (x2, v)) else ((f_X5_month v).bind (fun (r2, v2) => (f_X5_monthsGo_L n x1 (x2 + r2) (x3 + 1) v2))))
def f_X5_monthsGo (x1 : Int32) (v : jx_V) : Option (Int32 × jx_V) := (f_X5_monthsGo_L 100000 x1 0 0 v)
def rm_X5_monthsGo : Room := { frames := 7, cells := 0, slots := 0, locals := 170 }
set_option maxHeartbeats 4000000 in
set_option maxRecDepth 100000 in
theorem k_X5_monthsGo {l : Launch} {D : va_G} {cI cJ : ClassId} {ad : Nat → Nat} {A : Nat → Prop} (hI : jx_inj 13 ad A) (x1 : Int32) (v : jx_V) (r : Int32) (v' : jx_V) (hF : f_X5_monthsGo x1 v = some (r, v')) : jx_Ci l D vwCl 13 cI cJ ad shM A ex_M yX5_monthsGo (Cond.code yX5_monthsGo cX5_monthsGo 4 (some .int) :: bigT) rm_X5_monthsGo [.ref (ad 0), .int x1] v r v' := by
  unfold f_X5_monthsGo at hF
  refine jx_enteri bigT RX5 cX5_monthsGo 4 (some .int) [(0, .ref (ad 0)), (1, .int x1)] hI (ex_M_ok A) (by decide +kernel) rfl (Nat.le_of_ble_eq_true rfl) rfl rfl ?_
  intro p e s m args below meth c E
  have key : ∀ n : Nat, (∀ (x1 : Int32) (x2 : Int32) (x3 : Int32) (v : jx_V), f_X5_monthsGo_L  n  x1 x2 x3 v = some (r, v') → jx_J p l e rm_X5_monthsGo s m args below meth c D vwCl 13 cI cJ ad shM A 0 0 4 (MQ below (va_Qi (fun (r1 : Int32) (_ : Unit) => r1 = r) (fun _ t => va_P D vwCl (jx_ws 13 cI cJ ad shM v') t.heap) A) args s 0 0 A) v 4 [(0, .ref (ad 0)), (1, .int x1), (2, .int x2), (3, .int x3)] []) := by
    intro n
    induction n with
    | zero =>
      exact (fun _ _ _ _ h => by cases h)
    | succ n ih =>
      intro x1 x2 x3 v hF
      rw [f_X5_monthsGo_L] at hF
      refine jx_iload_n E dX5_monthsGo_4 3 rfl ?_
      refine jx_iload_n E dX5_monthsGo_5 1 rfl ?_
      refine jx_icmp_ge (tgt := 22) E dX5_monthsGo_6 (by decide) (fun hc1 => ?_) (fun hc1 => ?_)
      · rw [if_pos hc1] at hF
        refine jx_iload_n E dX5_monthsGo_22 2 rfl ?_
        obtain ⟨rfl, rfl⟩ := jx_out hF
        exact jx_iret E dX5_monthsGo_23 rfl
      · rw [if_neg hc1] at hF
        refine jx_iload_n E dX5_monthsGo_9 2 rfl ?_
        refine jx_aload_n E dX5_monthsGo_10 0 rfl ?_
        obtain ⟨⟨r2, v2⟩, hc2, hF⟩ := jx_bind hF
        try dsimp only at hF
        refine jx_callVi (As := []) (st := [.int x2]) (h := 0) E dX5_monthsGo_11 0 rfl (k_X5_month hI  v r2 v2 hc2) (gb_V (List.mem_cons_of_mem _ tw_444) (List.mem_cons_of_mem _ tw_445) (List.mem_cons_of_mem _ tw_446) (List.mem_cons_of_mem _ tw_325) tw_443) rfl rfl rfl dd_X5_month rfl (Nat.le_of_ble_eq_true rfl) s_M0 rfl ⟨by decide, by decide⟩ ⟨Nat.le_refl 0, Nat.le_refl 0⟩ (Nat.le_of_ble_eq_true rfl) ?_
        refine jx_iadd E dX5_monthsGo_14 ?_
        refine jx_istore_n (lv' := [(2, .int (x2 + r2)), (0, .ref (ad 0)), (1, .int x1), (3, .int x3)]) E dX5_monthsGo_15 (by decide) rfl ?_
        refine jx_iinc (y := (x3 + 1)) (lv' := [(3, .int (x3 + 1)), (2, .int (x2 + r2)), (0, .ref (ad 0)), (1, .int x1)]) E dX5_monthsGo_16 3 rfl rfl (by decide) rfl ?_
        refine jx_goto (tgt := 4) E dX5_monthsGo_19 (by decide) ?_
        refine jx_sub [2, 3, 1, 0] rfl ?_
        exact ih x1 (x2 + r2) (x3 + 1) v2 hF
  refine jx_iconst (x := 0) E dX5_monthsGo_0 (by decide) ?_
  refine jx_istore_n (lv' := [(2, .int 0), (0, .ref (ad 0)), (1, .int x1)]) E dX5_monthsGo_1 (by decide) rfl ?_
  refine jx_iconst (x := 0) E dX5_monthsGo_2 (by decide) ?_
  refine jx_istore_n (lv' := [(3, .int 0), (2, .int 0), (0, .ref (ad 0)), (1, .int x1)]) E dX5_monthsGo_3 (by decide) rfl ?_
  refine jx_sub [2, 3, 1, 0] rfl ?_
  exact (key 100000) x1 0 0 v hF
def f_X5_isTooLate (x1 : Int32) (v : jx_V) : Option (Int32 × jx_V) := (if ((v 1 0) + x1) ≤ 999 then (some (0, v)) else (some (1, v)))
def rm_X5_isTooLate : Room := { frames := 0, cells := 0, slots := 0, locals := 0 }
set_option maxHeartbeats 4000000 in
set_option maxRecDepth 100000 in
theorem k_X5_isTooLate {l : Launch} {D : va_G} {cI cJ : ClassId} {ad : Nat → Nat} {A : Nat → Prop} (hI : jx_inj 13 ad A) (x1 : Int32) (v : jx_V) (r : Int32) (v' : jx_V) (hF : f_X5_isTooLate x1 v = some (r, v')) : jx_Ci l D vwCl 13 cI cJ ad shM A ex_M yX5_isTooLate (Cond.code yX5_isTooLate cX5_isTooLate 2 (some .boolean) :: bigT) rm_X5_isTooLate [.ref (ad 0), .int x1] v r v' := by
  unfold f_X5_isTooLate at hF
  refine jx_enteri bigT RX5 cX5_isTooLate 2 (some .boolean) [(0, .ref (ad 0)), (1, .int x1)] hI (ex_M_ok A) (by decide +kernel) rfl (Nat.le_of_ble_eq_true rfl) rfl rfl ?_
  intro p e s m args below meth c E
  have iX5 : ∀ w ∈ u_ws RX5 TX5 21, w ∈ (Cond.code yX5_isTooLate cX5_isTooLate 2 (some .boolean) :: bigT) := fun w h => List.mem_cons_of_mem _ (uw_X5 w h)
  refine jx_aload_n E dX5_isTooLate_0 0 rfl ?_
  refine jx_getr (C := RX5) (T := TX5) (M := 21) (k := 0) E dX5_isTooLate_1 (Nat.le_of_ble_eq_true rfl) s_M0 rfl iX5 (by decide) rfl (List.mem_cons_of_mem _ tw_328) rfl ?_
  refine jx_iconst (x := 0) E dX5_isTooLate_4 (by decide) ?_
  refine jx_iald (h := 1) (j := 0) E dX5_isTooLate_5 (Nat.le_of_ble_eq_true rfl) s_M1 (by decide) (by decide) ?_
  refine jx_iload_n E dX5_isTooLate_6 1 rfl ?_
  refine jx_iadd E dX5_isTooLate_7 ?_
  refine jx_sipush (x := 999) E dX5_isTooLate_8 (by decide) ?_
  refine jx_icmp_le (tgt := 18) E dX5_isTooLate_11 (by decide) (fun hc1 => ?_) (fun hc1 => ?_)
  · rw [if_pos hc1] at hF
    refine jx_iconst (x := 0) E dX5_isTooLate_18 (by decide) ?_
    obtain ⟨rfl, rfl⟩ := jx_out hF
    exact jx_zret E dX5_isTooLate_19 rfl (Or.inl rfl)
  · rw [if_neg hc1] at hF
    refine jx_iconst (x := 1) E dX5_isTooLate_14 (by decide) ?_
    refine jx_goto (tgt := 19) E dX5_isTooLate_15 (by decide) ?_
    obtain ⟨rfl, rfl⟩ := jx_out hF
    exact jx_zret E dX5_isTooLate_19 rfl (Or.inr rfl)
def f_X5_months (x1 : Int32) (v : jx_V) : Option (Int32 × jx_V) := ((f_X5_in (Int32.toInt64 x1) 1 60 v).bind (fun (r1, v1) => (if r1 = 0 then ((f_X5_finds (-1000001) v1).bind (fun (r7, v7) => (some (r7, v7)))) else ((f_X5_isTooLate x1 v1).bind (fun (r3, v3) => (if r3 = 0 then ((f_X5_monthsGo x1 v3).bind (fun (r5, v5) => (some (r5, v5)))) else ((f_X5_finds (-1000005) v3).bind (fun (r6, v6) => (some (r6, v6))))))))))
def rm_X5_months : Room := { frames := 8, cells := 0, slots := 0, locals := 193 }
set_option maxHeartbeats 4000000 in
set_option maxRecDepth 100000 in
theorem k_X5_months {l : Launch} {D : va_G} {cI cJ : ClassId} {ad : Nat → Nat} {A : Nat → Prop} (hI : jx_inj 13 ad A) (x1 : Int32) (v : jx_V) (r : Int32) (v' : jx_V) (hF : f_X5_months x1 v = some (r, v')) : jx_Ci l D vwCl 13 cI cJ ad shM A ex_M yX5_months (Cond.code yX5_months cX5_months 2 (some .int) :: bigT) rm_X5_months [.ref (ad 0), .int x1] v r v' := by
  unfold f_X5_months at hF
  refine jx_enteri bigT RX5 cX5_months 2 (some .int) [(0, .ref (ad 0)), (1, .int x1)] hI (ex_M_ok A) (by decide +kernel) rfl (Nat.le_of_ble_eq_true rfl) rfl rfl ?_
  intro p e s m args below meth c E
  refine jx_iload_n E dX5_months_0 1 rfl ?_
  refine jx_i2l E dX5_months_1 ?_
  refine jx_lconst (x := 1) E dX5_months_2 (by decide) ?_
  refine jx_ldc2 (x := 60) E dX5_months_3 (List.mem_cons_of_mem _ tw_447) ?_
  obtain ⟨⟨r1, v1⟩, hc1, hF⟩ := jx_bind hF
  try dsimp only at hF
  refine jx_callSi (As := [.long (Int32.toInt64 x1), .long 1, .long 60]) (st := []) E dX5_months_6 3 rfl (k_X5_in hI (Int32.toInt64 x1) 1 60 v r1 v1 hc1) (gb_S (List.mem_cons_of_mem _ tw_323) (List.mem_cons_of_mem _ tw_324) (List.mem_cons_of_mem _ tw_325) tw_322) rfl rfl rfl dd_X5_in rfl ⟨by decide, by decide⟩ ⟨Nat.le_refl 0, Nat.le_refl 0⟩ (Nat.le_of_ble_eq_true rfl) ?_
  refine jx_if_ne (tgt := 19) E dX5_months_9 (by decide) (fun hc2 => ?_) (fun hc2 => ?_)
  · rw [if_neg hc2] at hF
    refine jx_aload_n E dX5_months_19 0 rfl ?_
    refine jx_iload_n E dX5_months_20 1 rfl ?_
    obtain ⟨⟨r3, v3⟩, hc3, hF⟩ := jx_bind hF
    try dsimp only at hF
    refine jx_callVi (As := [.int x1]) (st := []) (h := 0) E dX5_months_21 1 rfl (k_X5_isTooLate hI x1 v1 r3 v3 hc3) (gb_V (List.mem_cons_of_mem _ tw_449) (List.mem_cons_of_mem _ tw_450) (List.mem_cons_of_mem _ tw_451) (List.mem_cons_of_mem _ tw_325) tw_448) rfl rfl rfl dd_X5_isTooLate rfl (Nat.le_of_ble_eq_true rfl) s_M0 rfl ⟨by decide, by decide⟩ ⟨Nat.le_refl 0, Nat.le_refl 0⟩ (Nat.le_of_ble_eq_true rfl) ?_
    refine jx_if_eq (tgt := 36) E dX5_months_24 (by decide) (fun hc4 => ?_) (fun hc4 => ?_)
    · rw [if_pos hc4] at hF
      refine jx_aload_n E dX5_months_36 0 rfl ?_
      refine jx_iload_n E dX5_months_37 1 rfl ?_
      obtain ⟨⟨r5, v5⟩, hc5, hF⟩ := jx_bind hF
      try dsimp only at hF
      refine jx_callVi (As := [.int x1]) (st := []) (h := 0) E dX5_months_38 1 rfl (k_X5_monthsGo hI x1 v3 r5 v5 hc5) (gb_V (List.mem_cons_of_mem _ tw_453) (List.mem_cons_of_mem _ tw_454) (List.mem_cons_of_mem _ tw_455) (List.mem_cons_of_mem _ tw_325) tw_452) rfl rfl rfl dd_X5_monthsGo rfl (Nat.le_of_ble_eq_true rfl) s_M0 rfl ⟨by decide, by decide⟩ ⟨Nat.le_refl 0, Nat.le_refl 0⟩ (Nat.le_of_ble_eq_true rfl) ?_
      obtain ⟨rfl, rfl⟩ := jx_out hF
      exact jx_iret E dX5_months_41 rfl
    · rw [if_neg hc4] at hF
      refine jx_aload_n E dX5_months_27 0 rfl ?_
      refine jx_ldc (x := -1000005) E dX5_months_28 (List.mem_cons_of_mem _ tw_364) ?_
      obtain ⟨⟨r6, v6⟩, hc6, hF⟩ := jx_bind hF
      try dsimp only at hF
      refine jx_callVi (As := [.int (-1000005)]) (st := []) (h := 0) E dX5_months_30 1 rfl (k_X5_finds hI (-1000005) v3 r6 v6 hc6) (gb_V (List.mem_cons_of_mem _ tw_344) (List.mem_cons_of_mem _ tw_345) (List.mem_cons_of_mem _ tw_346) (List.mem_cons_of_mem _ tw_325) tw_343) rfl rfl rfl dd_X5_finds rfl (Nat.le_of_ble_eq_true rfl) s_M0 rfl ⟨by decide, by decide⟩ ⟨Nat.le_refl 0, Nat.le_refl 0⟩ (Nat.le_of_ble_eq_true rfl) ?_
      refine jx_goto (tgt := 41) E dX5_months_33 (by decide) ?_
      obtain ⟨rfl, rfl⟩ := jx_out hF
      exact jx_iret E dX5_months_41 rfl
  · rw [if_pos hc2] at hF
    refine jx_aload_n E dX5_months_12 0 rfl ?_
    refine jx_ldc (x := -1000001) E dX5_months_13 (List.mem_cons_of_mem _ tw_320) ?_
    obtain ⟨⟨r7, v7⟩, hc7, hF⟩ := jx_bind hF
    try dsimp only at hF
    refine jx_callVi (As := [.int (-1000001)]) (st := []) (h := 0) E dX5_months_15 1 rfl (k_X5_finds hI (-1000001) v1 r7 v7 hc7) (gb_V (List.mem_cons_of_mem _ tw_344) (List.mem_cons_of_mem _ tw_345) (List.mem_cons_of_mem _ tw_346) (List.mem_cons_of_mem _ tw_325) tw_343) rfl rfl rfl dd_X5_finds rfl (Nat.le_of_ble_eq_true rfl) s_M0 rfl ⟨by decide, by decide⟩ ⟨Nat.le_refl 0, Nat.le_refl 0⟩ (Nat.le_of_ble_eq_true rfl) ?_
    obtain ⟨rfl, rfl⟩ := jx_out hF
    exact jx_iret E dX5_months_18 rfl
def f_X5_allViews_L  : Nat → Int32 → Int32 → jx_V → Option (Int32 × jx_V)
  | 0, _, _, _ => none
  | n + 1, x1, x2, v => (if (v 1 1) ≤ x2 then (some (x1, v)) else ((f_X5_looks x2 v).bind (fun v2 => (f_X5_allViews_L n (x1 + (v2 0 6)) (x2 + 1) v2))))
def f_X5_allViews  (v : jx_V) : Option (Int32 × jx_V) := (f_X5_allViews_L 100000 0 0 v)
def rm_X5_allViews : Room := { frames := 5, cells := 0, slots := 0, locals := 125 }
set_option maxHeartbeats 4000000 in
set_option maxRecDepth 100000 in
theorem k_X5_allViews {l : Launch} {D : va_G} {cI cJ : ClassId} {ad : Nat → Nat} {A : Nat → Prop} (hI : jx_inj 13 ad A)  (v : jx_V) (r : Int32) (v' : jx_V) (hF : f_X5_allViews  v = some (r, v')) : jx_Ci l D vwCl 13 cI cJ ad shM A ex_M yX5_allViews (Cond.code yX5_allViews cX5_allViews 3 (some .int) :: bigT) rm_X5_allViews [.ref (ad 0)] v r v' := by
  unfold f_X5_allViews at hF
  refine jx_enteri bigT RX5 cX5_allViews 3 (some .int) [(0, .ref (ad 0))] hI (ex_M_ok A) (by decide +kernel) rfl (Nat.le_of_ble_eq_true rfl) rfl rfl ?_
  intro p e s m args below meth c E
  have iX5 : ∀ w ∈ u_ws RX5 TX5 21, w ∈ (Cond.code yX5_allViews cX5_allViews 3 (some .int) :: bigT) := fun w h => List.mem_cons_of_mem _ (uw_X5 w h)
  have key : ∀ n : Nat, (∀ (x1 : Int32) (x2 : Int32) (v : jx_V), f_X5_allViews_L  n  x1 x2 v = some (r, v') → jx_J p l e rm_X5_allViews s m args below meth c D vwCl 13 cI cJ ad shM A 0 0 3 (MQ below (va_Qi (fun (r1 : Int32) (_ : Unit) => r1 = r) (fun _ t => va_P D vwCl (jx_ws 13 cI cJ ad shM v') t.heap) A) args s 0 0 A) v 4 [(0, .ref (ad 0)), (1, .int x1), (2, .int x2)] []) := by
    intro n
    induction n with
    | zero =>
      exact (fun _ _ _ h => by cases h)
    | succ n ih =>
      intro x1 x2 v hF
      rw [f_X5_allViews_L] at hF
      refine jx_iload_n E dX5_allViews_4 2 rfl ?_
      refine jx_aload_n E dX5_allViews_5 0 rfl ?_
      refine jx_getr (C := RX5) (T := TX5) (M := 21) (k := 0) E dX5_allViews_6 (Nat.le_of_ble_eq_true rfl) s_M0 rfl iX5 (by decide) rfl (List.mem_cons_of_mem _ tw_328) rfl ?_
      refine jx_iconst (x := 1) E dX5_allViews_9 (by decide) ?_
      refine jx_iald (h := 1) (j := 1) E dX5_allViews_10 (Nat.le_of_ble_eq_true rfl) s_M1 (by decide) (by decide) ?_
      refine jx_icmp_ge (tgt := 32) E dX5_allViews_11 (by decide) (fun hc1 => ?_) (fun hc1 => ?_)
      · rw [if_pos hc1] at hF
        refine jx_iload_n E dX5_allViews_32 1 rfl ?_
        obtain ⟨rfl, rfl⟩ := jx_out hF
        exact jx_iret E dX5_allViews_33 rfl
      · rw [if_neg hc1] at hF
        refine jx_aload_n E dX5_allViews_14 0 rfl ?_
        refine jx_iload_n E dX5_allViews_15 2 rfl ?_
        obtain ⟨v2, hc2, hF⟩ := jx_bind hF
        try dsimp only at hF
        refine jx_callVv (As := [.int x2]) (st := []) (h := 0) E dX5_allViews_16 1 rfl (k_X5_looks hI x2 v v2 hc2) (gb_V (List.mem_cons_of_mem _ tw_422) (List.mem_cons_of_mem _ tw_423) (List.mem_cons_of_mem _ tw_424) (List.mem_cons_of_mem _ tw_325) tw_421) rfl rfl rfl dd_X5_looks rfl (Nat.le_of_ble_eq_true rfl) s_M0 rfl ⟨by decide, by decide⟩ ⟨Nat.le_refl 0, Nat.le_refl 0⟩ (Nat.le_of_ble_eq_true rfl) ?_
        refine jx_iload_n E dX5_allViews_19 1 rfl ?_
        refine jx_aload_n E dX5_allViews_20 0 rfl ?_
        refine jx_geti (C := RX5) (T := TX5) (M := 21) (k := 6) E dX5_allViews_21 (Nat.le_of_ble_eq_true rfl) s_M0 rfl iX5 (by decide) rfl (List.mem_cons_of_mem _ tw_409) rfl ?_
        refine jx_iadd E dX5_allViews_24 ?_
        refine jx_istore_n (lv' := [(1, .int (x1 + (v2 0 6))), (0, .ref (ad 0)), (2, .int x2)]) E dX5_allViews_25 (by decide) rfl ?_
        refine jx_iinc (y := (x2 + 1)) (lv' := [(2, .int (x2 + 1)), (1, .int (x1 + (v2 0 6))), (0, .ref (ad 0))]) E dX5_allViews_26 2 rfl rfl (by decide) rfl ?_
        refine jx_goto (tgt := 4) E dX5_allViews_29 (by decide) ?_
        refine jx_sub [2, 1, 0] rfl ?_
        exact ih (x1 + (v2 0 6)) (x2 + 1) v2 hF
  refine jx_iconst (x := 0) E dX5_allViews_0 (by decide) ?_
  refine jx_istore_n (lv' := [(1, .int 0), (0, .ref (ad 0))]) E dX5_allViews_1 (by decide) rfl ?_
  refine jx_iconst (x := 0) E dX5_allViews_2 (by decide) ?_
  refine jx_istore_n (lv' := [(2, .int 0), (1, .int 0), (0, .ref (ad 0))]) E dX5_allViews_3 (by decide) rfl ?_
  refine jx_sub [2, 1, 0] rfl ?_
  exact (key 100000) 0 0 v hF
def f_X5_ahead (x1 : Int32) (x2 : Int32) (v : jx_V) : Option (Int32 × jx_V) := ((f_X5_in (Int32.toInt64 x1) 0 120 v).bind (fun (r1, v1) => (if r1 = 0 then ((f_X5_finds (-1000001) v1).bind (fun (r3, v3) => (some (r3, v3)))) else ((f_X5_in (Int32.toInt64 x2) 0 6 v1).bind (fun (r4, v4) => (if r4 = 0 then ((f_X5_finds (-1000001) v4).bind (fun (r21, v21) => (some (r21, v21)))) else ((f_X5_isTooLate x1 v4).bind (fun (r6, v6) => (if r6 = 0 then ((f_X5_puts v6).bind (fun v8 => ((f_X5_monthsGo x1 v8).bind (fun (r9, v9) => (if x2 = 0 then ((f_X5_putsBack v9).bind (fun v19 => (some (r9, v19)))) else (if x2 = 1 then ((f_X5_brokenSet v9).bind (fun (r17, v17) => ((f_X5_putsBack v17).bind (fun v18 => (some (r17, v18)))))) else (if x2 = 2 then ((f_X5_allViews v9).bind (fun (r15, v15) => ((f_X5_putsBack v15).bind (fun v16 => (some (r15, v16)))))) else (if (((7 + x2) - 3) < 0 ∨ 181 ≤ Int32.toNatClampNeg ((7 + x2) - 3)) then none else ((f_X5_putsBack v9).bind (fun v14 => (some ((v9 1 (Int32.toNatClampNeg ((7 + x2) - 3))), v14)))))))))))) else ((f_X5_finds (-1000005) v6).bind (fun (r20, v20) => (some (r20, v20)))))))))))))
def rm_X5_ahead : Room := { frames := 8, cells := 0, slots := 0, locals := 193 }
set_option maxHeartbeats 4000000 in
set_option maxRecDepth 100000 in
theorem k_X5_ahead {l : Launch} {D : va_G} {cI cJ : ClassId} {ad : Nat → Nat} {A : Nat → Prop} (hI : jx_inj 13 ad A) (x1 : Int32) (x2 : Int32) (v : jx_V) (r : Int32) (v' : jx_V) (hF : f_X5_ahead x1 x2 v = some (r, v')) : jx_Ci l D vwCl 13 cI cJ ad shM A ex_M yX5_ahead (Cond.code yX5_ahead cX5_ahead 5 (some .int) :: bigT) rm_X5_ahead [.ref (ad 0), .int x1, .int x2] v r v' := by
  unfold f_X5_ahead at hF
  refine jx_enteri bigT RX5 cX5_ahead 5 (some .int) [(0, .ref (ad 0)), (1, .int x1), (2, .int x2)] hI (ex_M_ok A) (by decide +kernel) rfl (Nat.le_of_ble_eq_true rfl) rfl rfl ?_
  intro p e s m args below meth c E
  have iX5 : ∀ w ∈ u_ws RX5 TX5 21, w ∈ (Cond.code yX5_ahead cX5_ahead 5 (some .int) :: bigT) := fun w h => List.mem_cons_of_mem _ (uw_X5 w h)
  refine jx_iload_n E dX5_ahead_0 1 rfl ?_
  refine jx_i2l E dX5_ahead_1 ?_
  refine jx_lconst (x := 0) E dX5_ahead_2 (by decide) ?_
  refine jx_ldc2 (x := 120) E dX5_ahead_3 (List.mem_cons_of_mem _ tw_456) ?_
  obtain ⟨⟨r1, v1⟩, hc1, hF⟩ := jx_bind hF
  try dsimp only at hF
  refine jx_callSi (As := [.long (Int32.toInt64 x1), .long 0, .long 120]) (st := []) E dX5_ahead_6 3 rfl (k_X5_in hI (Int32.toInt64 x1) 0 120 v r1 v1 hc1) (gb_S (List.mem_cons_of_mem _ tw_323) (List.mem_cons_of_mem _ tw_324) (List.mem_cons_of_mem _ tw_325) tw_322) rfl rfl rfl dd_X5_in rfl ⟨by decide, by decide⟩ ⟨Nat.le_refl 0, Nat.le_refl 0⟩ (Nat.le_of_ble_eq_true rfl) ?_
  refine jx_if_eq (tgt := 24) E dX5_ahead_9 (by decide) (fun hc2 => ?_) (fun hc2 => ?_)
  · rw [if_pos hc2] at hF
    refine jx_aload_n E dX5_ahead_24 0 rfl ?_
    refine jx_ldc (x := -1000001) E dX5_ahead_25 (List.mem_cons_of_mem _ tw_320) ?_
    obtain ⟨⟨r3, v3⟩, hc3, hF⟩ := jx_bind hF
    try dsimp only at hF
    refine jx_callVi (As := [.int (-1000001)]) (st := []) (h := 0) E dX5_ahead_27 1 rfl (k_X5_finds hI (-1000001) v1 r3 v3 hc3) (gb_V (List.mem_cons_of_mem _ tw_344) (List.mem_cons_of_mem _ tw_345) (List.mem_cons_of_mem _ tw_346) (List.mem_cons_of_mem _ tw_325) tw_343) rfl rfl rfl dd_X5_finds rfl (Nat.le_of_ble_eq_true rfl) s_M0 rfl ⟨by decide, by decide⟩ ⟨Nat.le_refl 0, Nat.le_refl 0⟩ (Nat.le_of_ble_eq_true rfl) ?_
    obtain ⟨rfl, rfl⟩ := jx_out hF
    exact jx_iret E dX5_ahead_30 rfl
  · rw [if_neg hc2] at hF
    refine jx_iload_n E dX5_ahead_12 2 rfl ?_
    refine jx_i2l E dX5_ahead_13 ?_
    refine jx_lconst (x := 0) E dX5_ahead_14 (by decide) ?_
    refine jx_ldc2 (x := 6) E dX5_ahead_15 (List.mem_cons_of_mem _ tw_342) ?_
    obtain ⟨⟨r4, v4⟩, hc4, hF⟩ := jx_bind hF
    try dsimp only at hF
    refine jx_callSi (As := [.long (Int32.toInt64 x2), .long 0, .long 6]) (st := []) E dX5_ahead_18 3 rfl (k_X5_in hI (Int32.toInt64 x2) 0 6 v1 r4 v4 hc4) (gb_S (List.mem_cons_of_mem _ tw_323) (List.mem_cons_of_mem _ tw_324) (List.mem_cons_of_mem _ tw_325) tw_322) rfl rfl rfl dd_X5_in rfl ⟨by decide, by decide⟩ ⟨Nat.le_refl 0, Nat.le_refl 0⟩ (Nat.le_of_ble_eq_true rfl) ?_
    refine jx_if_ne (tgt := 31) E dX5_ahead_21 (by decide) (fun hc5 => ?_) (fun hc5 => ?_)
    · rw [if_neg hc5] at hF
      refine jx_aload_n E dX5_ahead_31 0 rfl ?_
      refine jx_iload_n E dX5_ahead_32 1 rfl ?_
      obtain ⟨⟨r6, v6⟩, hc6, hF⟩ := jx_bind hF
      try dsimp only at hF
      refine jx_callVi (As := [.int x1]) (st := []) (h := 0) E dX5_ahead_33 1 rfl (k_X5_isTooLate hI x1 v4 r6 v6 hc6) (gb_V (List.mem_cons_of_mem _ tw_449) (List.mem_cons_of_mem _ tw_450) (List.mem_cons_of_mem _ tw_451) (List.mem_cons_of_mem _ tw_325) tw_448) rfl rfl rfl dd_X5_isTooLate rfl (Nat.le_of_ble_eq_true rfl) s_M0 rfl ⟨by decide, by decide⟩ ⟨Nat.le_refl 0, Nat.le_refl 0⟩ (Nat.le_of_ble_eq_true rfl) ?_
      refine jx_if_eq (tgt := 46) E dX5_ahead_36 (by decide) (fun hc7 => ?_) (fun hc7 => ?_)
      · rw [if_pos hc7] at hF
        refine jx_aload_n E dX5_ahead_46 0 rfl ?_
        obtain ⟨v8, hc8, hF⟩ := jx_bind hF
        try dsimp only at hF
        refine jx_callVv (As := []) (st := []) (h := 0) E dX5_ahead_47 0 rfl (k_X5_puts hI  v6 v8 hc8) (gb_V (List.mem_cons_of_mem _ tw_458) (List.mem_cons_of_mem _ tw_459) (List.mem_cons_of_mem _ tw_460) (List.mem_cons_of_mem _ tw_325) tw_457) rfl rfl rfl dd_X5_puts rfl (Nat.le_of_ble_eq_true rfl) s_M0 rfl ⟨by decide, by decide⟩ ⟨Nat.le_refl 0, Nat.le_refl 0⟩ (Nat.le_of_ble_eq_true rfl) ?_
        refine jx_aload_n E dX5_ahead_50 0 rfl ?_
        refine jx_iload_n E dX5_ahead_51 1 rfl ?_
        obtain ⟨⟨r9, v9⟩, hc9, hF⟩ := jx_bind hF
        try dsimp only at hF
        refine jx_callVi (As := [.int x1]) (st := []) (h := 0) E dX5_ahead_52 1 rfl (k_X5_monthsGo hI x1 v8 r9 v9 hc9) (gb_V (List.mem_cons_of_mem _ tw_453) (List.mem_cons_of_mem _ tw_454) (List.mem_cons_of_mem _ tw_455) (List.mem_cons_of_mem _ tw_325) tw_452) rfl rfl rfl dd_X5_monthsGo rfl (Nat.le_of_ble_eq_true rfl) s_M0 rfl ⟨by decide, by decide⟩ ⟨Nat.le_refl 0, Nat.le_refl 0⟩ (Nat.le_of_ble_eq_true rfl) ?_
        refine jx_istore_n (lv' := [(3, .int r9), (0, .ref (ad 0)), (1, .int x1), (2, .int x2)]) E dX5_ahead_55 (by decide) rfl ?_
        refine jx_iload_n E dX5_ahead_56 3 rfl ?_
        refine jx_if_ne (tgt := 64) E dX5_ahead_57 (by decide) (fun hc10 => ?_) (fun hc10 => ?_)
        · rw [if_neg hc10] at hF
          refine jx_iload_n E dX5_ahead_64 3 rfl ?_
          refine jx_iconst (x := 1) E dX5_ahead_65 (by decide) ?_
          refine jx_icmp_ne (tgt := 76) E dX5_ahead_66 (by decide) (fun hc11 => ?_) (fun hc11 => ?_)
          · rw [if_neg hc11] at hF
            refine jx_iload_n E dX5_ahead_76 3 rfl ?_
            refine jx_iconst (x := 2) E dX5_ahead_77 (by decide) ?_
            refine jx_icmp_ne (tgt := 88) E dX5_ahead_78 (by decide) (fun hc12 => ?_) (fun hc12 => ?_)
            · rw [if_neg hc12] at hF
              refine jx_aload_n E dX5_ahead_88 1 rfl ?_
              refine jx_getr (C := RX5) (T := TX5) (M := 21) (k := 0) E dX5_ahead_89 (Nat.le_of_ble_eq_true rfl) s_M0 rfl iX5 (by decide) rfl (List.mem_cons_of_mem _ tw_328) rfl ?_
              refine jx_bipush (x := 7) E dX5_ahead_92 (by decide) ?_
              refine jx_iload_n E dX5_ahead_94 3 rfl ?_
              refine jx_iadd E dX5_ahead_95 ?_
              refine jx_iconst (x := 3) E dX5_ahead_96 (by decide) ?_
              refine jx_isub E dX5_ahead_97 ?_
              obtain ⟨hg13, hF⟩ := jx_guard hF
              refine jx_iald (h := 1) (j := (Int32.toNatClampNeg ((7 + x2) - 3))) E dX5_ahead_98 (Nat.le_of_ble_eq_true rfl) s_M1 hg13 rfl ?_
              refine jx_istore (lv' := [(4, .int (v9 1 (Int32.toNatClampNeg ((7 + x2) - 3)))), (3, .int r9), (0, .ref (ad 0)), (1, .int x1), (2, .int x2)]) E dX5_ahead_99 (by decide) rfl ?_
              refine jx_aload_n E dX5_ahead_101 2 rfl ?_
              obtain ⟨v14, hc14, hF⟩ := jx_bind hF
              try dsimp only at hF
              refine jx_callVv (As := []) (st := []) (h := 0) E dX5_ahead_102 0 rfl (k_X5_putsBack hI  v9 v14 hc14) (gb_V (List.mem_cons_of_mem _ tw_462) (List.mem_cons_of_mem _ tw_463) (List.mem_cons_of_mem _ tw_464) (List.mem_cons_of_mem _ tw_325) tw_461) rfl rfl rfl dd_X5_putsBack rfl (Nat.le_of_ble_eq_true rfl) s_M0 rfl ⟨by decide, by decide⟩ ⟨Nat.le_refl 0, Nat.le_refl 0⟩ (Nat.le_of_ble_eq_true rfl) ?_
              refine jx_iload E dX5_ahead_105 0 rfl ?_
              obtain ⟨rfl, rfl⟩ := jx_out hF
              exact jx_iret E dX5_ahead_107 rfl
            · rw [if_pos hc12] at hF
              refine jx_aload_n E dX5_ahead_81 1 rfl ?_
              obtain ⟨⟨r15, v15⟩, hc15, hF⟩ := jx_bind hF
              try dsimp only at hF
              refine jx_callVi (As := []) (st := []) (h := 0) E dX5_ahead_82 0 rfl (k_X5_allViews hI  v9 r15 v15 hc15) (gb_V (List.mem_cons_of_mem _ tw_466) (List.mem_cons_of_mem _ tw_467) (List.mem_cons_of_mem _ tw_468) (List.mem_cons_of_mem _ tw_325) tw_465) rfl rfl rfl dd_X5_allViews rfl (Nat.le_of_ble_eq_true rfl) s_M0 rfl ⟨by decide, by decide⟩ ⟨Nat.le_refl 0, Nat.le_refl 0⟩ (Nat.le_of_ble_eq_true rfl) ?_
              refine jx_goto (tgt := 99) E dX5_ahead_85 (by decide) ?_
              refine jx_istore (lv' := [(4, .int r15), (3, .int r9), (0, .ref (ad 0)), (1, .int x1), (2, .int x2)]) E dX5_ahead_99 (by decide) rfl ?_
              refine jx_aload_n E dX5_ahead_101 2 rfl ?_
              obtain ⟨v16, hc16, hF⟩ := jx_bind hF
              try dsimp only at hF
              refine jx_callVv (As := []) (st := []) (h := 0) E dX5_ahead_102 0 rfl (k_X5_putsBack hI  v15 v16 hc16) (gb_V (List.mem_cons_of_mem _ tw_462) (List.mem_cons_of_mem _ tw_463) (List.mem_cons_of_mem _ tw_464) (List.mem_cons_of_mem _ tw_325) tw_461) rfl rfl rfl dd_X5_putsBack rfl (Nat.le_of_ble_eq_true rfl) s_M0 rfl ⟨by decide, by decide⟩ ⟨Nat.le_refl 0, Nat.le_refl 0⟩ (Nat.le_of_ble_eq_true rfl) ?_
              refine jx_iload E dX5_ahead_105 0 rfl ?_
              obtain ⟨rfl, rfl⟩ := jx_out hF
              exact jx_iret E dX5_ahead_107 rfl
          · rw [if_pos hc11] at hF
            refine jx_aload_n E dX5_ahead_69 1 rfl ?_
            obtain ⟨⟨r17, v17⟩, hc17, hF⟩ := jx_bind hF
            try dsimp only at hF
            refine jx_callVi (As := []) (st := []) (h := 0) E dX5_ahead_70 0 rfl (k_X5_brokenSet hI  v9 r17 v17 hc17) (gb_V (List.mem_cons_of_mem _ tw_440) (List.mem_cons_of_mem _ tw_441) (List.mem_cons_of_mem _ tw_442) (List.mem_cons_of_mem _ tw_325) tw_439) rfl rfl rfl dd_X5_brokenSet rfl (Nat.le_of_ble_eq_true rfl) s_M0 rfl ⟨by decide, by decide⟩ ⟨Nat.le_refl 0, Nat.le_refl 0⟩ (Nat.le_of_ble_eq_true rfl) ?_
            refine jx_goto (tgt := 99) E dX5_ahead_73 (by decide) ?_
            refine jx_istore (lv' := [(4, .int r17), (3, .int r9), (0, .ref (ad 0)), (1, .int x1), (2, .int x2)]) E dX5_ahead_99 (by decide) rfl ?_
            refine jx_aload_n E dX5_ahead_101 2 rfl ?_
            obtain ⟨v18, hc18, hF⟩ := jx_bind hF
            try dsimp only at hF
            refine jx_callVv (As := []) (st := []) (h := 0) E dX5_ahead_102 0 rfl (k_X5_putsBack hI  v17 v18 hc18) (gb_V (List.mem_cons_of_mem _ tw_462) (List.mem_cons_of_mem _ tw_463) (List.mem_cons_of_mem _ tw_464) (List.mem_cons_of_mem _ tw_325) tw_461) rfl rfl rfl dd_X5_putsBack rfl (Nat.le_of_ble_eq_true rfl) s_M0 rfl ⟨by decide, by decide⟩ ⟨Nat.le_refl 0, Nat.le_refl 0⟩ (Nat.le_of_ble_eq_true rfl) ?_
            refine jx_iload E dX5_ahead_105 0 rfl ?_
            obtain ⟨rfl, rfl⟩ := jx_out hF
            exact jx_iret E dX5_ahead_107 rfl
        · rw [if_pos hc10] at hF
          refine jx_iload_n E dX5_ahead_60 0 rfl ?_
          refine jx_goto (tgt := 99) E dX5_ahead_61 (by decide) ?_
          refine jx_istore (lv' := [(4, .int r9), (3, .int r9), (0, .ref (ad 0)), (1, .int x1), (2, .int x2)]) E dX5_ahead_99 (by decide) rfl ?_
          refine jx_aload_n E dX5_ahead_101 2 rfl ?_
          obtain ⟨v19, hc19, hF⟩ := jx_bind hF
          try dsimp only at hF
          refine jx_callVv (As := []) (st := []) (h := 0) E dX5_ahead_102 0 rfl (k_X5_putsBack hI  v9 v19 hc19) (gb_V (List.mem_cons_of_mem _ tw_462) (List.mem_cons_of_mem _ tw_463) (List.mem_cons_of_mem _ tw_464) (List.mem_cons_of_mem _ tw_325) tw_461) rfl rfl rfl dd_X5_putsBack rfl (Nat.le_of_ble_eq_true rfl) s_M0 rfl ⟨by decide, by decide⟩ ⟨Nat.le_refl 0, Nat.le_refl 0⟩ (Nat.le_of_ble_eq_true rfl) ?_
          refine jx_iload E dX5_ahead_105 0 rfl ?_
          obtain ⟨rfl, rfl⟩ := jx_out hF
          exact jx_iret E dX5_ahead_107 rfl
      · rw [if_neg hc7] at hF
        refine jx_aload_n E dX5_ahead_39 0 rfl ?_
        refine jx_ldc (x := -1000005) E dX5_ahead_40 (List.mem_cons_of_mem _ tw_364) ?_
        obtain ⟨⟨r20, v20⟩, hc20, hF⟩ := jx_bind hF
        try dsimp only at hF
        refine jx_callVi (As := [.int (-1000005)]) (st := []) (h := 0) E dX5_ahead_42 1 rfl (k_X5_finds hI (-1000005) v6 r20 v20 hc20) (gb_V (List.mem_cons_of_mem _ tw_344) (List.mem_cons_of_mem _ tw_345) (List.mem_cons_of_mem _ tw_346) (List.mem_cons_of_mem _ tw_325) tw_343) rfl rfl rfl dd_X5_finds rfl (Nat.le_of_ble_eq_true rfl) s_M0 rfl ⟨by decide, by decide⟩ ⟨Nat.le_refl 0, Nat.le_refl 0⟩ (Nat.le_of_ble_eq_true rfl) ?_
        obtain ⟨rfl, rfl⟩ := jx_out hF
        exact jx_iret E dX5_ahead_45 rfl
    · rw [if_pos hc5] at hF
      refine jx_aload_n E dX5_ahead_24 0 rfl ?_
      refine jx_ldc (x := -1000001) E dX5_ahead_25 (List.mem_cons_of_mem _ tw_320) ?_
      obtain ⟨⟨r21, v21⟩, hc21, hF⟩ := jx_bind hF
      try dsimp only at hF
      refine jx_callVi (As := [.int (-1000001)]) (st := []) (h := 0) E dX5_ahead_27 1 rfl (k_X5_finds hI (-1000001) v4 r21 v21 hc21) (gb_V (List.mem_cons_of_mem _ tw_344) (List.mem_cons_of_mem _ tw_345) (List.mem_cons_of_mem _ tw_346) (List.mem_cons_of_mem _ tw_325) tw_343) rfl rfl rfl dd_X5_finds rfl (Nat.le_of_ble_eq_true rfl) s_M0 rfl ⟨by decide, by decide⟩ ⟨Nat.le_refl 0, Nat.le_refl 0⟩ (Nat.le_of_ble_eq_true rfl) ?_
      obtain ⟨rfl, rfl⟩ := jx_out hF
      exact jx_iret E dX5_ahead_30 rfl
def f_X5_breaks_L  : Nat → Int32 → Int32 → jx_V → Option (Int32 × jx_V)
  | 0, _, _, _ => none
  | n + 1, x1, x2, v => (if 121 ≤ x2 then ((f_X5_putsBack v).bind (fun v3 => (some (x2, v3)))) else ((f_X5_isBroken x1 v).bind (fun (r4, v4) => (if r4 = 0 then ((f_X5_month v4).bind (fun (r7, v7) => (f_X5_breaks_L n x1 (x2 + 1) v7))) else ((f_X5_putsBack v4).bind (fun v6 => (some (x2, v6))))))))
def f_X5_breaks (x1 : Int32) (v : jx_V) : Option (Int32 × jx_V) := ((f_X5_puts v).bind (fun v1 => (f_X5_breaks_L 100000 x1 0 v1)))
def rm_X5_breaks : Room := { frames := 7, cells := 0, slots := 0, locals := 170 }
set_option maxHeartbeats 4000000 in
set_option maxRecDepth 100000 in
theorem k_X5_breaks {l : Launch} {D : va_G} {cI cJ : ClassId} {ad : Nat → Nat} {A : Nat → Prop} (hI : jx_inj 13 ad A) (x1 : Int32) (v : jx_V) (r : Int32) (v' : jx_V) (hF : f_X5_breaks x1 v = some (r, v')) : jx_Ci l D vwCl 13 cI cJ ad shM A ex_M yX5_breaks (Cond.code yX5_breaks cX5_breaks 4 (some .int) :: bigT) rm_X5_breaks [.ref (ad 0), .int x1] v r v' := by
  unfold f_X5_breaks at hF
  refine jx_enteri bigT RX5 cX5_breaks 4 (some .int) [(0, .ref (ad 0)), (1, .int x1)] hI (ex_M_ok A) (by decide +kernel) rfl (Nat.le_of_ble_eq_true rfl) rfl rfl ?_
  intro p e s m args below meth c E
  have key : ∀ n : Nat, (∀ (x1 : Int32) (x2 : Int32) (v : jx_V), f_X5_breaks_L  n  x1 x2 v = some (r, v') → jx_J p l e rm_X5_breaks s m args below meth c D vwCl 13 cI cJ ad shM A 0 0 4 (MQ below (va_Qi (fun (r1 : Int32) (_ : Unit) => r1 = r) (fun _ t => va_P D vwCl (jx_ws 13 cI cJ ad shM v') t.heap) A) args s 0 0 A) v 6 [(0, .ref (ad 0)), (1, .int x1), (2, .int x2)] []) := by
    intro n
    induction n with
    | zero =>
      exact (fun _ _ _ h => by cases h)
    | succ n ih =>
      intro x1 x2 v hF
      rw [f_X5_breaks_L] at hF
      refine jx_iload_n E dX5_breaks_6 2 rfl ?_
      refine jx_bipush (x := 121) E dX5_breaks_7 (by decide) ?_
      refine jx_icmp_ge (tgt := 31) E dX5_breaks_9 (by decide) (fun hc2 => ?_) (fun hc2 => ?_)
      · rw [if_pos hc2] at hF
        refine jx_aload_n E dX5_breaks_31 0 rfl ?_
        obtain ⟨v3, hc3, hF⟩ := jx_bind hF
        try dsimp only at hF
        refine jx_callVv (As := []) (st := []) (h := 0) E dX5_breaks_32 0 rfl (k_X5_putsBack hI  v v3 hc3) (gb_V (List.mem_cons_of_mem _ tw_462) (List.mem_cons_of_mem _ tw_463) (List.mem_cons_of_mem _ tw_464) (List.mem_cons_of_mem _ tw_325) tw_461) rfl rfl rfl dd_X5_putsBack rfl (Nat.le_of_ble_eq_true rfl) s_M0 rfl ⟨by decide, by decide⟩ ⟨Nat.le_refl 0, Nat.le_refl 0⟩ (Nat.le_of_ble_eq_true rfl) ?_
        refine jx_iload_n E dX5_breaks_35 2 rfl ?_
        obtain ⟨rfl, rfl⟩ := jx_out hF
        exact jx_iret E dX5_breaks_36 rfl
      · rw [if_neg hc2] at hF
        refine jx_aload_n E dX5_breaks_12 0 rfl ?_
        refine jx_iload_n E dX5_breaks_13 1 rfl ?_
        obtain ⟨⟨r4, v4⟩, hc4, hF⟩ := jx_bind hF
        try dsimp only at hF
        refine jx_callVi (As := [.int x1]) (st := []) (h := 0) E dX5_breaks_14 1 rfl (k_X5_isBroken hI x1 v r4 v4 hc4) (gb_V (List.mem_cons_of_mem _ tw_428) (List.mem_cons_of_mem _ tw_429) (List.mem_cons_of_mem _ tw_430) (List.mem_cons_of_mem _ tw_325) tw_427) rfl rfl rfl dd_X5_isBroken rfl (Nat.le_of_ble_eq_true rfl) s_M0 rfl ⟨by decide, by decide⟩ ⟨Nat.le_refl 0, Nat.le_refl 0⟩ (Nat.le_of_ble_eq_true rfl) ?_
        refine jx_if_ne (tgt := 31) E dX5_breaks_17 (by decide) (fun hc5 => ?_) (fun hc5 => ?_)
        · rw [if_neg hc5] at hF
          refine jx_aload_n E dX5_breaks_31 0 rfl ?_
          obtain ⟨v6, hc6, hF⟩ := jx_bind hF
          try dsimp only at hF
          refine jx_callVv (As := []) (st := []) (h := 0) E dX5_breaks_32 0 rfl (k_X5_putsBack hI  v4 v6 hc6) (gb_V (List.mem_cons_of_mem _ tw_462) (List.mem_cons_of_mem _ tw_463) (List.mem_cons_of_mem _ tw_464) (List.mem_cons_of_mem _ tw_325) tw_461) rfl rfl rfl dd_X5_putsBack rfl (Nat.le_of_ble_eq_true rfl) s_M0 rfl ⟨by decide, by decide⟩ ⟨Nat.le_refl 0, Nat.le_refl 0⟩ (Nat.le_of_ble_eq_true rfl) ?_
          refine jx_iload_n E dX5_breaks_35 2 rfl ?_
          obtain ⟨rfl, rfl⟩ := jx_out hF
          exact jx_iret E dX5_breaks_36 rfl
        · rw [if_pos hc5] at hF
          refine jx_aload_n E dX5_breaks_20 0 rfl ?_
          obtain ⟨⟨r7, v7⟩, hc7, hF⟩ := jx_bind hF
          try dsimp only at hF
          refine jx_callVi (As := []) (st := []) (h := 0) E dX5_breaks_21 0 rfl (k_X5_month hI  v4 r7 v7 hc7) (gb_V (List.mem_cons_of_mem _ tw_444) (List.mem_cons_of_mem _ tw_445) (List.mem_cons_of_mem _ tw_446) (List.mem_cons_of_mem _ tw_325) tw_443) rfl rfl rfl dd_X5_month rfl (Nat.le_of_ble_eq_true rfl) s_M0 rfl ⟨by decide, by decide⟩ ⟨Nat.le_refl 0, Nat.le_refl 0⟩ (Nat.le_of_ble_eq_true rfl) ?_
          refine jx_istore_n (lv' := [(3, .int r7), (0, .ref (ad 0)), (1, .int x1), (2, .int x2)]) E dX5_breaks_24 (by decide) rfl ?_
          refine jx_iinc (y := (x2 + 1)) (lv' := [(2, .int (x2 + 1)), (3, .int r7), (0, .ref (ad 0)), (1, .int x1)]) E dX5_breaks_25 3 rfl rfl (by decide) rfl ?_
          refine jx_goto (tgt := 6) E dX5_breaks_28 (by decide) ?_
          refine jx_sub [2, 3, 0] rfl ?_
          exact ih x1 (x2 + 1) v7 hF
  refine jx_aload_n E dX5_breaks_0 0 rfl ?_
  obtain ⟨v1, hc1, hF⟩ := jx_bind hF
  try dsimp only at hF
  refine jx_callVv (As := []) (st := []) (h := 0) E dX5_breaks_1 0 rfl (k_X5_puts hI  v v1 hc1) (gb_V (List.mem_cons_of_mem _ tw_458) (List.mem_cons_of_mem _ tw_459) (List.mem_cons_of_mem _ tw_460) (List.mem_cons_of_mem _ tw_325) tw_457) rfl rfl rfl dd_X5_puts rfl (Nat.le_of_ble_eq_true rfl) s_M0 rfl ⟨by decide, by decide⟩ ⟨Nat.le_refl 0, Nat.le_refl 0⟩ (Nat.le_of_ble_eq_true rfl) ?_
  refine jx_iconst (x := 0) E dX5_breaks_4 (by decide) ?_
  refine jx_istore_n (lv' := [(2, .int 0), (0, .ref (ad 0)), (1, .int x1)]) E dX5_breaks_5 (by decide) rfl ?_
  refine jx_sub [1, 2, 0] rfl ?_
  exact (key 100000) x1 0 v1 hF
def f_X5_isLate (x1 : Int32) (v : jx_V) : Option (Int32 × jx_V) := ((f_X5_told x1 4 v).bind (fun (r1, v1) => (if r1 < 0 then (some (1, v1)) else ((f_X5_isTooLate 120 v1).bind (fun (r3, v3) => (if r3 = 0 then (some (0, v3)) else (some (1, v3))))))))
def rm_X5_isLate : Room := { frames := 2, cells := 0, slots := 0, locals := 43 }
set_option maxHeartbeats 4000000 in
set_option maxRecDepth 100000 in
theorem k_X5_isLate {l : Launch} {D : va_G} {cI cJ : ClassId} {ad : Nat → Nat} {A : Nat → Prop} (hI : jx_inj 13 ad A) (x1 : Int32) (v : jx_V) (r : Int32) (v' : jx_V) (hF : f_X5_isLate x1 v = some (r, v')) : jx_Ci l D vwCl 13 cI cJ ad shM A ex_M yX5_isLate (Cond.code yX5_isLate cX5_isLate 2 (some .boolean) :: bigT) rm_X5_isLate [.ref (ad 0), .int x1] v r v' := by
  unfold f_X5_isLate at hF
  refine jx_enteri bigT RX5 cX5_isLate 2 (some .boolean) [(0, .ref (ad 0)), (1, .int x1)] hI (ex_M_ok A) (by decide +kernel) rfl (Nat.le_of_ble_eq_true rfl) rfl rfl ?_
  intro p e s m args below meth c E
  refine jx_aload_n E dX5_isLate_0 0 rfl ?_
  refine jx_iload_n E dX5_isLate_1 1 rfl ?_
  refine jx_iconst (x := 4) E dX5_isLate_2 (by decide) ?_
  obtain ⟨⟨r1, v1⟩, hc1, hF⟩ := jx_bind hF
  try dsimp only at hF
  refine jx_callVi (As := [.int x1, .int 4]) (st := []) (h := 0) E dX5_isLate_3 2 rfl (k_X5_told hI x1 4 v r1 v1 hc1) (gb_V (List.mem_cons_of_mem _ tw_402) (List.mem_cons_of_mem _ tw_403) (List.mem_cons_of_mem _ tw_404) (List.mem_cons_of_mem _ tw_325) tw_401) rfl rfl rfl dd_X5_told rfl (Nat.le_of_ble_eq_true rfl) s_M0 rfl ⟨by decide, by decide⟩ ⟨Nat.le_refl 0, Nat.le_refl 0⟩ (Nat.le_of_ble_eq_true rfl) ?_
  refine jx_if_lt (tgt := 18) E dX5_isLate_6 (by decide) (fun hc2 => ?_) (fun hc2 => ?_)
  · rw [if_pos hc2] at hF
    refine jx_iconst (x := 1) E dX5_isLate_18 (by decide) ?_
    refine jx_goto (tgt := 23) E dX5_isLate_19 (by decide) ?_
    obtain ⟨rfl, rfl⟩ := jx_out hF
    exact jx_zret E dX5_isLate_23 rfl (Or.inr rfl)
  · rw [if_neg hc2] at hF
    refine jx_aload_n E dX5_isLate_9 0 rfl ?_
    refine jx_bipush (x := 120) E dX5_isLate_10 (by decide) ?_
    obtain ⟨⟨r3, v3⟩, hc3, hF⟩ := jx_bind hF
    try dsimp only at hF
    refine jx_callVi (As := [.int 120]) (st := []) (h := 0) E dX5_isLate_12 1 rfl (k_X5_isTooLate hI 120 v1 r3 v3 hc3) (gb_V (List.mem_cons_of_mem _ tw_449) (List.mem_cons_of_mem _ tw_450) (List.mem_cons_of_mem _ tw_451) (List.mem_cons_of_mem _ tw_325) tw_448) rfl rfl rfl dd_X5_isTooLate rfl (Nat.le_of_ble_eq_true rfl) s_M0 rfl ⟨by decide, by decide⟩ ⟨Nat.le_refl 0, Nat.le_refl 0⟩ (Nat.le_of_ble_eq_true rfl) ?_
    refine jx_if_eq (tgt := 22) E dX5_isLate_15 (by decide) (fun hc4 => ?_) (fun hc4 => ?_)
    · rw [if_pos hc4] at hF
      refine jx_iconst (x := 0) E dX5_isLate_22 (by decide) ?_
      obtain ⟨rfl, rfl⟩ := jx_out hF
      exact jx_zret E dX5_isLate_23 rfl (Or.inl rfl)
    · rw [if_neg hc4] at hF
      refine jx_iconst (x := 1) E dX5_isLate_18 (by decide) ?_
      refine jx_goto (tgt := 23) E dX5_isLate_19 (by decide) ?_
      obtain ⟨rfl, rfl⟩ := jx_out hF
      exact jx_zret E dX5_isLate_23 rfl (Or.inr rfl)
def f_X5_breach (x1 : Int32) (v : jx_V) : Option (Int32 × jx_V) := ((f_X5_isWindow x1 v).bind (fun (r1, v1) => (if r1 = 0 then ((f_X5_finds (-1000001) v1).bind (fun (r9, v9) => (some (r9, v9)))) else ((f_X5_isLate x1 v1).bind (fun (r3, v3) => (if r3 = 0 then ((f_X5_breaks x1 v3).bind (fun (r5, v5) => (if r5 ≤ 120 then (some (r5, v5)) else ((f_X5_finds (-1000004) v5).bind (fun (r7, v7) => (some (r7, v7))))))) else ((f_X5_finds (-1000005) v3).bind (fun (r8, v8) => (some (r8, v8))))))))))
def rm_X5_breach : Room := { frames := 8, cells := 0, slots := 0, locals := 193 }
set_option maxHeartbeats 4000000 in
set_option maxRecDepth 100000 in
theorem k_X5_breach {l : Launch} {D : va_G} {cI cJ : ClassId} {ad : Nat → Nat} {A : Nat → Prop} (hI : jx_inj 13 ad A) (x1 : Int32) (v : jx_V) (r : Int32) (v' : jx_V) (hF : f_X5_breach x1 v = some (r, v')) : jx_Ci l D vwCl 13 cI cJ ad shM A ex_M yX5_breach (Cond.code yX5_breach cX5_breach 3 (some .int) :: bigT) rm_X5_breach [.ref (ad 0), .int x1] v r v' := by
  unfold f_X5_breach at hF
  refine jx_enteri bigT RX5 cX5_breach 3 (some .int) [(0, .ref (ad 0)), (1, .int x1)] hI (ex_M_ok A) (by decide +kernel) rfl (Nat.le_of_ble_eq_true rfl) rfl rfl ?_
  intro p e s m args below meth c E
  refine jx_aload_n E dX5_breach_0 0 rfl ?_
  refine jx_iload_n E dX5_breach_1 1 rfl ?_
  obtain ⟨⟨r1, v1⟩, hc1, hF⟩ := jx_bind hF
  try dsimp only at hF
  refine jx_callVi (As := [.int x1]) (st := []) (h := 0) E dX5_breach_2 1 rfl (k_X5_isWindow hI x1 v r1 v1 hc1) (gb_V (List.mem_cons_of_mem _ tw_397) (List.mem_cons_of_mem _ tw_398) (List.mem_cons_of_mem _ tw_399) (List.mem_cons_of_mem _ tw_325) tw_396) rfl rfl rfl dd_X5_isWindow rfl (Nat.le_of_ble_eq_true rfl) s_M0 rfl ⟨by decide, by decide⟩ ⟨Nat.le_refl 0, Nat.le_refl 0⟩ (Nat.le_of_ble_eq_true rfl) ?_
  refine jx_if_ne (tgt := 15) E dX5_breach_5 (by decide) (fun hc2 => ?_) (fun hc2 => ?_)
  · rw [if_neg hc2] at hF
    refine jx_aload_n E dX5_breach_15 0 rfl ?_
    refine jx_iload_n E dX5_breach_16 1 rfl ?_
    obtain ⟨⟨r3, v3⟩, hc3, hF⟩ := jx_bind hF
    try dsimp only at hF
    refine jx_callVi (As := [.int x1]) (st := []) (h := 0) E dX5_breach_17 1 rfl (k_X5_isLate hI x1 v1 r3 v3 hc3) (gb_V (List.mem_cons_of_mem _ tw_470) (List.mem_cons_of_mem _ tw_471) (List.mem_cons_of_mem _ tw_472) (List.mem_cons_of_mem _ tw_325) tw_469) rfl rfl rfl dd_X5_isLate rfl (Nat.le_of_ble_eq_true rfl) s_M0 rfl ⟨by decide, by decide⟩ ⟨Nat.le_refl 0, Nat.le_refl 0⟩ (Nat.le_of_ble_eq_true rfl) ?_
    refine jx_if_eq (tgt := 30) E dX5_breach_20 (by decide) (fun hc4 => ?_) (fun hc4 => ?_)
    · rw [if_pos hc4] at hF
      refine jx_aload_n E dX5_breach_30 0 rfl ?_
      refine jx_iload_n E dX5_breach_31 1 rfl ?_
      obtain ⟨⟨r5, v5⟩, hc5, hF⟩ := jx_bind hF
      try dsimp only at hF
      refine jx_callVi (As := [.int x1]) (st := []) (h := 0) E dX5_breach_32 1 rfl (k_X5_breaks hI x1 v3 r5 v5 hc5) (gb_V (List.mem_cons_of_mem _ tw_474) (List.mem_cons_of_mem _ tw_475) (List.mem_cons_of_mem _ tw_476) (List.mem_cons_of_mem _ tw_325) tw_473) rfl rfl rfl dd_X5_breaks rfl (Nat.le_of_ble_eq_true rfl) s_M0 rfl ⟨by decide, by decide⟩ ⟨Nat.le_refl 0, Nat.le_refl 0⟩ (Nat.le_of_ble_eq_true rfl) ?_
      refine jx_istore_n (lv' := [(2, .int r5), (0, .ref (ad 0)), (1, .int x1)]) E dX5_breach_35 (by decide) rfl ?_
      refine jx_iload_n E dX5_breach_36 0 rfl ?_
      refine jx_bipush (x := 120) E dX5_breach_37 (by decide) ?_
      refine jx_icmp_le (tgt := 51) E dX5_breach_39 (by decide) (fun hc6 => ?_) (fun hc6 => ?_)
      · rw [if_pos hc6] at hF
        refine jx_iload_n E dX5_breach_51 0 rfl ?_
        obtain ⟨rfl, rfl⟩ := jx_out hF
        exact jx_iret E dX5_breach_52 rfl
      · rw [if_neg hc6] at hF
        refine jx_aload_n E dX5_breach_42 1 rfl ?_
        refine jx_ldc (x := -1000004) E dX5_breach_43 (List.mem_cons_of_mem _ tw_365) ?_
        obtain ⟨⟨r7, v7⟩, hc7, hF⟩ := jx_bind hF
        try dsimp only at hF
        refine jx_callVi (As := [.int (-1000004)]) (st := []) (h := 0) E dX5_breach_45 1 rfl (k_X5_finds hI (-1000004) v5 r7 v7 hc7) (gb_V (List.mem_cons_of_mem _ tw_344) (List.mem_cons_of_mem _ tw_345) (List.mem_cons_of_mem _ tw_346) (List.mem_cons_of_mem _ tw_325) tw_343) rfl rfl rfl dd_X5_finds rfl (Nat.le_of_ble_eq_true rfl) s_M0 rfl ⟨by decide, by decide⟩ ⟨Nat.le_refl 0, Nat.le_refl 0⟩ (Nat.le_of_ble_eq_true rfl) ?_
        refine jx_goto (tgt := 52) E dX5_breach_48 (by decide) ?_
        obtain ⟨rfl, rfl⟩ := jx_out hF
        exact jx_iret E dX5_breach_52 rfl
    · rw [if_neg hc4] at hF
      refine jx_aload_n E dX5_breach_23 0 rfl ?_
      refine jx_ldc (x := -1000005) E dX5_breach_24 (List.mem_cons_of_mem _ tw_364) ?_
      obtain ⟨⟨r8, v8⟩, hc8, hF⟩ := jx_bind hF
      try dsimp only at hF
      refine jx_callVi (As := [.int (-1000005)]) (st := []) (h := 0) E dX5_breach_26 1 rfl (k_X5_finds hI (-1000005) v3 r8 v8 hc8) (gb_V (List.mem_cons_of_mem _ tw_344) (List.mem_cons_of_mem _ tw_345) (List.mem_cons_of_mem _ tw_346) (List.mem_cons_of_mem _ tw_325) tw_343) rfl rfl rfl dd_X5_finds rfl (Nat.le_of_ble_eq_true rfl) s_M0 rfl ⟨by decide, by decide⟩ ⟨Nat.le_refl 0, Nat.le_refl 0⟩ (Nat.le_of_ble_eq_true rfl) ?_
      obtain ⟨rfl, rfl⟩ := jx_out hF
      exact jx_iret E dX5_breach_29 rfl
  · rw [if_pos hc2] at hF
    refine jx_aload_n E dX5_breach_8 0 rfl ?_
    refine jx_ldc (x := -1000001) E dX5_breach_9 (List.mem_cons_of_mem _ tw_320) ?_
    obtain ⟨⟨r9, v9⟩, hc9, hF⟩ := jx_bind hF
    try dsimp only at hF
    refine jx_callVi (As := [.int (-1000001)]) (st := []) (h := 0) E dX5_breach_11 1 rfl (k_X5_finds hI (-1000001) v1 r9 v9 hc9) (gb_V (List.mem_cons_of_mem _ tw_344) (List.mem_cons_of_mem _ tw_345) (List.mem_cons_of_mem _ tw_346) (List.mem_cons_of_mem _ tw_325) tw_343) rfl rfl rfl dd_X5_finds rfl (Nat.le_of_ble_eq_true rfl) s_M0 rfl ⟨by decide, by decide⟩ ⟨Nat.le_refl 0, Nat.le_refl 0⟩ (Nat.le_of_ble_eq_true rfl) ?_
    obtain ⟨rfl, rfl⟩ := jx_out hF
    exact jx_iret E dX5_breach_14 rfl
def f_X5_blame_L  : Nat → Int32 → Int32 → Int32 → Int32 → jx_V → Option (Int32 × jx_V)
  | 0, _, _, _, _, _ => none
  | n + 1, x1, x2, x3, x4, v => (if 25 ≤ x4 then (if 0 ≤ x3 then (some (x3, v)) else ((f_X5_finds (-1000004) v).bind (fun (r13, v13) => (some (r13, v13))))) else (if 0 ≤ x3 then (if 0 ≤ x3 then (some (x3, v)) else ((f_X5_finds (-1000004) v).bind (fun (r16, v16) => (some (r16, v16))))) else ((f_X5_isThing x4 v).bind (fun (r17, v17) => (if r17 = 0 then (f_X5_blame_L n x1 x2 x3 (x4 + 1) v17) else ((f_X5_at x4 0 v17).bind (fun (r19, v19) => (if (r19 < 0 ∨ 181 ≤ Int32.toNatClampNeg r19) then none else ((f_X5_monthsGo x2 (jx_up v19 1 (Int32.toNatClampNeg r19) (-1))).bind (fun (r21, v21) => ((f_X5_isBroken x1 v21).bind (fun (r22, v22) => (if r22 = 0 then ((f_X5_putsBack v22).bind (fun v24 => (f_X5_blame_L n x1 x2 x4 (x4 + 1) v24))) else ((f_X5_putsBack v22).bind (fun v25 => (f_X5_blame_L n x1 x2 (-1) (x4 + 1) v25))))))))))))))))
def f_X5_blame (x1 : Int32) (v : jx_V) : Option (Int32 × jx_V) := ((f_X5_isWindow x1 v).bind (fun (r1, v1) => (if r1 = 0 then ((f_X5_finds (-1000001) v1).bind (fun (r10, v10) => (some (r10, v10)))) else ((f_X5_isLate x1 v1).bind (fun (r3, v3) => (if r3 = 0 then ((f_X5_breaks x1 v3).bind (fun (r5, v5) => (if r5 ≤ 120 then ((f_X5_puts v5).bind (fun v7 => (f_X5_blame_L 100000 x1 r5 (-1) 0 v7))) else ((f_X5_finds (-1000004) v5).bind (fun (r8, v8) => (some (r8, v8))))))) else ((f_X5_finds (-1000005) v3).bind (fun (r9, v9) => (some (r9, v9))))))))))
def rm_X5_blame : Room := { frames := 8, cells := 0, slots := 0, locals := 193 }
set_option maxHeartbeats 4000000 in
set_option maxRecDepth 100000 in
theorem k_X5_blame {l : Launch} {D : va_G} {cI cJ : ClassId} {ad : Nat → Nat} {A : Nat → Prop} (hI : jx_inj 13 ad A) (x1 : Int32) (v : jx_V) (r : Int32) (v' : jx_V) (hF : f_X5_blame x1 v = some (r, v')) : jx_Ci l D vwCl 13 cI cJ ad shM A ex_M yX5_blame (Cond.code yX5_blame cX5_blame 6 (some .int) :: bigT) rm_X5_blame [.ref (ad 0), .int x1] v r v' := by
  unfold f_X5_blame at hF
  refine jx_enteri bigT RX5 cX5_blame 6 (some .int) [(0, .ref (ad 0)), (1, .int x1)] hI (ex_M_ok A) (by decide +kernel) rfl (Nat.le_of_ble_eq_true rfl) rfl rfl ?_
  intro p e s m args below meth c E
  have iX5 : ∀ w ∈ u_ws RX5 TX5 21, w ∈ (Cond.code yX5_blame cX5_blame 6 (some .int) :: bigT) := fun w h => List.mem_cons_of_mem _ (uw_X5 w h)
  have key : ∀ n : Nat, (∀ (x1 : Int32) (x2 : Int32) (x3 : Int32) (x4 : Int32) (v : jx_V), f_X5_blame_L  n  x1 x2 x3 x4 v = some (r, v') → jx_J p l e rm_X5_blame s m args below meth c D vwCl 13 cI cJ ad shM A 0 0 6 (MQ below (va_Qi (fun (r1 : Int32) (_ : Unit) => r1 = r) (fun _ t => va_P D vwCl (jx_ws 13 cI cJ ad shM v') t.heap) A) args s 0 0 A) v 58 [(0, .ref (ad 0)), (1, .int x1), (2, .int x2), (3, .int x3), (4, .int x4)] []) := by
    intro n
    induction n with
    | zero =>
      exact (fun _ _ _ _ _ h => by cases h)
    | succ n ih =>
      intro x1 x2 x3 x4 v hF
      rw [f_X5_blame_L] at hF
      refine jx_iload E dX5_blame_58 4 rfl ?_
      refine jx_bipush (x := 25) E dX5_blame_60 (by decide) ?_
      refine jx_icmp_ge (tgt := 122) E dX5_blame_62 (by decide) (fun hc11 => ?_) (fun hc11 => ?_)
      · rw [if_pos hc11] at hF
        refine jx_iload_n E dX5_blame_122 3 rfl ?_
        refine jx_if_ge (tgt := 135) E dX5_blame_123 (by decide) (fun hc12 => ?_) (fun hc12 => ?_)
        · rw [if_pos hc12] at hF
          refine jx_iload_n E dX5_blame_135 3 rfl ?_
          obtain ⟨rfl, rfl⟩ := jx_out hF
          exact jx_iret E dX5_blame_136 rfl
        · rw [if_neg hc12] at hF
          refine jx_aload_n E dX5_blame_126 0 rfl ?_
          refine jx_ldc (x := -1000004) E dX5_blame_127 (List.mem_cons_of_mem _ tw_365) ?_
          obtain ⟨⟨r13, v13⟩, hc13, hF⟩ := jx_bind hF
          try dsimp only at hF
          refine jx_callVi (As := [.int (-1000004)]) (st := []) (h := 0) E dX5_blame_129 1 rfl (k_X5_finds hI (-1000004) v r13 v13 hc13) (gb_V (List.mem_cons_of_mem _ tw_344) (List.mem_cons_of_mem _ tw_345) (List.mem_cons_of_mem _ tw_346) (List.mem_cons_of_mem _ tw_325) tw_343) rfl rfl rfl dd_X5_finds rfl (Nat.le_of_ble_eq_true rfl) s_M0 rfl ⟨by decide, by decide⟩ ⟨Nat.le_refl 0, Nat.le_refl 0⟩ (Nat.le_of_ble_eq_true rfl) ?_
          refine jx_goto (tgt := 136) E dX5_blame_132 (by decide) ?_
          obtain ⟨rfl, rfl⟩ := jx_out hF
          exact jx_iret E dX5_blame_136 rfl
      · rw [if_neg hc11] at hF
        refine jx_iload_n E dX5_blame_65 3 rfl ?_
        refine jx_if_ge (tgt := 122) E dX5_blame_66 (by decide) (fun hc14 => ?_) (fun hc14 => ?_)
        · rw [if_pos hc14] at hF
          refine jx_iload_n E dX5_blame_122 3 rfl ?_
          refine jx_if_ge (tgt := 135) E dX5_blame_123 (by decide) (fun hc15 => ?_) (fun hc15 => ?_)
          · rw [if_pos hc15] at hF
            refine jx_iload_n E dX5_blame_135 3 rfl ?_
            obtain ⟨rfl, rfl⟩ := jx_out hF
            exact jx_iret E dX5_blame_136 rfl
          · rw [if_neg hc15] at hF
            refine jx_aload_n E dX5_blame_126 0 rfl ?_
            refine jx_ldc (x := -1000004) E dX5_blame_127 (List.mem_cons_of_mem _ tw_365) ?_
            obtain ⟨⟨r16, v16⟩, hc16, hF⟩ := jx_bind hF
            try dsimp only at hF
            refine jx_callVi (As := [.int (-1000004)]) (st := []) (h := 0) E dX5_blame_129 1 rfl (k_X5_finds hI (-1000004) v r16 v16 hc16) (gb_V (List.mem_cons_of_mem _ tw_344) (List.mem_cons_of_mem _ tw_345) (List.mem_cons_of_mem _ tw_346) (List.mem_cons_of_mem _ tw_325) tw_343) rfl rfl rfl dd_X5_finds rfl (Nat.le_of_ble_eq_true rfl) s_M0 rfl ⟨by decide, by decide⟩ ⟨Nat.le_refl 0, Nat.le_refl 0⟩ (Nat.le_of_ble_eq_true rfl) ?_
            refine jx_goto (tgt := 136) E dX5_blame_132 (by decide) ?_
            obtain ⟨rfl, rfl⟩ := jx_out hF
            exact jx_iret E dX5_blame_136 rfl
        · rw [if_neg hc14] at hF
          refine jx_aload_n E dX5_blame_69 0 rfl ?_
          refine jx_iload E dX5_blame_70 4 rfl ?_
          obtain ⟨⟨r17, v17⟩, hc17, hF⟩ := jx_bind hF
          try dsimp only at hF
          refine jx_callVi (As := [.int x4]) (st := []) (h := 0) E dX5_blame_72 1 rfl (k_X5_isThing hI x4 v r17 v17 hc17) (gb_V (List.mem_cons_of_mem _ tw_339) (List.mem_cons_of_mem _ tw_340) (List.mem_cons_of_mem _ tw_341) (List.mem_cons_of_mem _ tw_325) tw_338) rfl rfl rfl dd_X5_isThing rfl (Nat.le_of_ble_eq_true rfl) s_M0 rfl ⟨by decide, by decide⟩ ⟨Nat.le_refl 0, Nat.le_refl 0⟩ (Nat.le_of_ble_eq_true rfl) ?_
          refine jx_if_eq (tgt := 116) E dX5_blame_75 (by decide) (fun hc18 => ?_) (fun hc18 => ?_)
          · rw [if_pos hc18] at hF
            refine jx_iinc (y := (x4 + 1)) (lv' := [(4, .int (x4 + 1)), (0, .ref (ad 0)), (1, .int x1), (2, .int x2), (3, .int x3)]) E dX5_blame_116 4 rfl rfl (by decide) rfl ?_
            refine jx_goto (tgt := 58) E dX5_blame_119 (by decide) ?_
            refine jx_sub [1, 2, 3, 4, 0] rfl ?_
            exact ih x1 x2 x3 (x4 + 1) v17 hF
          · rw [if_neg hc18] at hF
            refine jx_aload_n E dX5_blame_78 0 rfl ?_
            refine jx_getr (C := RX5) (T := TX5) (M := 21) (k := 0) E dX5_blame_79 (Nat.le_of_ble_eq_true rfl) s_M0 rfl iX5 (by decide) rfl (List.mem_cons_of_mem _ tw_328) rfl ?_
            refine jx_iload E dX5_blame_82 4 rfl ?_
            refine jx_iconst (x := 0) E dX5_blame_84 (by decide) ?_
            obtain ⟨⟨r19, v19⟩, hc19, hF⟩ := jx_bind hF
            try dsimp only at hF
            refine jx_callSi (As := [.int x4, .int 0]) (st := [.ref (ad 1)]) E dX5_blame_85 2 rfl (k_X5_at hI x4 0 v17 r19 v19 hc19) (gb_S (List.mem_cons_of_mem _ tw_332) (List.mem_cons_of_mem _ tw_333) (List.mem_cons_of_mem _ tw_325) tw_331) rfl rfl rfl dd_X5_at rfl ⟨by decide, by decide⟩ ⟨Nat.le_refl 0, Nat.le_refl 0⟩ (Nat.le_of_ble_eq_true rfl) ?_
            refine jx_iconst (x := -1) E dX5_blame_88 (by decide) ?_
            obtain ⟨hg20, hF⟩ := jx_guard hF
            refine jx_iast (h := 1) (j := (Int32.toNatClampNeg r19)) E dX5_blame_89 (Nat.le_of_ble_eq_true rfl) s_M1 hg20 rfl ?_
            refine jx_aload_n E dX5_blame_90 0 rfl ?_
            refine jx_iload_n E dX5_blame_91 2 rfl ?_
            obtain ⟨⟨r21, v21⟩, hc21, hF⟩ := jx_bind hF
            try dsimp only at hF
            refine jx_callVi (As := [.int x2]) (st := []) (h := 0) E dX5_blame_92 1 rfl (k_X5_monthsGo hI x2 (jx_up v19 1 (Int32.toNatClampNeg r19) (-1)) r21 v21 hc21) (gb_V (List.mem_cons_of_mem _ tw_453) (List.mem_cons_of_mem _ tw_454) (List.mem_cons_of_mem _ tw_455) (List.mem_cons_of_mem _ tw_325) tw_452) rfl rfl rfl dd_X5_monthsGo rfl (Nat.le_of_ble_eq_true rfl) s_M0 rfl ⟨by decide, by decide⟩ ⟨Nat.le_refl 0, Nat.le_refl 0⟩ (Nat.le_of_ble_eq_true rfl) ?_
            refine jx_istore (lv' := [(5, .int r21), (0, .ref (ad 0)), (1, .int x1), (2, .int x2), (3, .int x3), (4, .int x4)]) E dX5_blame_95 (by decide) rfl ?_
            refine jx_aload_n E dX5_blame_97 1 rfl ?_
            refine jx_iload_n E dX5_blame_98 2 rfl ?_
            obtain ⟨⟨r22, v22⟩, hc22, hF⟩ := jx_bind hF
            try dsimp only at hF
            refine jx_callVi (As := [.int x1]) (st := []) (h := 0) E dX5_blame_99 1 rfl (k_X5_isBroken hI x1 v21 r22 v22 hc22) (gb_V (List.mem_cons_of_mem _ tw_428) (List.mem_cons_of_mem _ tw_429) (List.mem_cons_of_mem _ tw_430) (List.mem_cons_of_mem _ tw_325) tw_427) rfl rfl rfl dd_X5_isBroken rfl (Nat.le_of_ble_eq_true rfl) s_M0 rfl ⟨by decide, by decide⟩ ⟨Nat.le_refl 0, Nat.le_refl 0⟩ (Nat.le_of_ble_eq_true rfl) ?_
            refine jx_if_eq (tgt := 109) E dX5_blame_102 (by decide) (fun hc23 => ?_) (fun hc23 => ?_)
            · rw [if_pos hc23] at hF
              refine jx_iload E dX5_blame_109 5 rfl ?_
              refine jx_istore_n (lv' := [(3, .int x4), (5, .int r21), (0, .ref (ad 0)), (1, .int x1), (2, .int x2), (4, .int x4)]) E dX5_blame_111 (by decide) rfl ?_
              refine jx_aload_n E dX5_blame_112 2 rfl ?_
              obtain ⟨v24, hc24, hF⟩ := jx_bind hF
              try dsimp only at hF
              refine jx_callVv (As := []) (st := []) (h := 0) E dX5_blame_113 0 rfl (k_X5_putsBack hI  v22 v24 hc24) (gb_V (List.mem_cons_of_mem _ tw_462) (List.mem_cons_of_mem _ tw_463) (List.mem_cons_of_mem _ tw_464) (List.mem_cons_of_mem _ tw_325) tw_461) rfl rfl rfl dd_X5_putsBack rfl (Nat.le_of_ble_eq_true rfl) s_M0 rfl ⟨by decide, by decide⟩ ⟨Nat.le_refl 0, Nat.le_refl 0⟩ (Nat.le_of_ble_eq_true rfl) ?_
              refine jx_iinc (y := (x4 + 1)) (lv' := [(4, .int (x4 + 1)), (3, .int x4), (5, .int r21), (0, .ref (ad 0)), (1, .int x1), (2, .int x2)]) E dX5_blame_116 5 rfl rfl (by decide) rfl ?_
              refine jx_goto (tgt := 58) E dX5_blame_119 (by decide) ?_
              refine jx_sub [3, 4, 5, 1, 0] rfl ?_
              exact ih x1 x2 x4 (x4 + 1) v24 hF
            · rw [if_neg hc23] at hF
              refine jx_iconst (x := -1) E dX5_blame_105 (by decide) ?_
              refine jx_goto (tgt := 111) E dX5_blame_106 (by decide) ?_
              refine jx_istore_n (lv' := [(3, .int (-1)), (5, .int r21), (0, .ref (ad 0)), (1, .int x1), (2, .int x2), (4, .int x4)]) E dX5_blame_111 (by decide) rfl ?_
              refine jx_aload_n E dX5_blame_112 2 rfl ?_
              obtain ⟨v25, hc25, hF⟩ := jx_bind hF
              try dsimp only at hF
              refine jx_callVv (As := []) (st := []) (h := 0) E dX5_blame_113 0 rfl (k_X5_putsBack hI  v22 v25 hc25) (gb_V (List.mem_cons_of_mem _ tw_462) (List.mem_cons_of_mem _ tw_463) (List.mem_cons_of_mem _ tw_464) (List.mem_cons_of_mem _ tw_325) tw_461) rfl rfl rfl dd_X5_putsBack rfl (Nat.le_of_ble_eq_true rfl) s_M0 rfl ⟨by decide, by decide⟩ ⟨Nat.le_refl 0, Nat.le_refl 0⟩ (Nat.le_of_ble_eq_true rfl) ?_
              refine jx_iinc (y := (x4 + 1)) (lv' := [(4, .int (x4 + 1)), (3, .int (-1)), (5, .int r21), (0, .ref (ad 0)), (1, .int x1), (2, .int x2)]) E dX5_blame_116 5 rfl rfl (by decide) rfl ?_
              refine jx_goto (tgt := 58) E dX5_blame_119 (by decide) ?_
              refine jx_sub [3, 4, 5, 1, 0] rfl ?_
              exact ih x1 x2 (-1) (x4 + 1) v25 hF
  refine jx_aload_n E dX5_blame_0 0 rfl ?_
  refine jx_iload_n E dX5_blame_1 1 rfl ?_
  obtain ⟨⟨r1, v1⟩, hc1, hF⟩ := jx_bind hF
  try dsimp only at hF
  refine jx_callVi (As := [.int x1]) (st := []) (h := 0) E dX5_blame_2 1 rfl (k_X5_isWindow hI x1 v r1 v1 hc1) (gb_V (List.mem_cons_of_mem _ tw_397) (List.mem_cons_of_mem _ tw_398) (List.mem_cons_of_mem _ tw_399) (List.mem_cons_of_mem _ tw_325) tw_396) rfl rfl rfl dd_X5_isWindow rfl (Nat.le_of_ble_eq_true rfl) s_M0 rfl ⟨by decide, by decide⟩ ⟨Nat.le_refl 0, Nat.le_refl 0⟩ (Nat.le_of_ble_eq_true rfl) ?_
  refine jx_if_ne (tgt := 15) E dX5_blame_5 (by decide) (fun hc2 => ?_) (fun hc2 => ?_)
  · rw [if_neg hc2] at hF
    refine jx_aload_n E dX5_blame_15 0 rfl ?_
    refine jx_iload_n E dX5_blame_16 1 rfl ?_
    obtain ⟨⟨r3, v3⟩, hc3, hF⟩ := jx_bind hF
    try dsimp only at hF
    refine jx_callVi (As := [.int x1]) (st := []) (h := 0) E dX5_blame_17 1 rfl (k_X5_isLate hI x1 v1 r3 v3 hc3) (gb_V (List.mem_cons_of_mem _ tw_470) (List.mem_cons_of_mem _ tw_471) (List.mem_cons_of_mem _ tw_472) (List.mem_cons_of_mem _ tw_325) tw_469) rfl rfl rfl dd_X5_isLate rfl (Nat.le_of_ble_eq_true rfl) s_M0 rfl ⟨by decide, by decide⟩ ⟨Nat.le_refl 0, Nat.le_refl 0⟩ (Nat.le_of_ble_eq_true rfl) ?_
    refine jx_if_eq (tgt := 30) E dX5_blame_20 (by decide) (fun hc4 => ?_) (fun hc4 => ?_)
    · rw [if_pos hc4] at hF
      refine jx_aload_n E dX5_blame_30 0 rfl ?_
      refine jx_iload_n E dX5_blame_31 1 rfl ?_
      obtain ⟨⟨r5, v5⟩, hc5, hF⟩ := jx_bind hF
      try dsimp only at hF
      refine jx_callVi (As := [.int x1]) (st := []) (h := 0) E dX5_blame_32 1 rfl (k_X5_breaks hI x1 v3 r5 v5 hc5) (gb_V (List.mem_cons_of_mem _ tw_474) (List.mem_cons_of_mem _ tw_475) (List.mem_cons_of_mem _ tw_476) (List.mem_cons_of_mem _ tw_325) tw_473) rfl rfl rfl dd_X5_breaks rfl (Nat.le_of_ble_eq_true rfl) s_M0 rfl ⟨by decide, by decide⟩ ⟨Nat.le_refl 0, Nat.le_refl 0⟩ (Nat.le_of_ble_eq_true rfl) ?_
      refine jx_istore_n (lv' := [(2, .int r5), (0, .ref (ad 0)), (1, .int x1)]) E dX5_blame_35 (by decide) rfl ?_
      refine jx_iload_n E dX5_blame_36 0 rfl ?_
      refine jx_bipush (x := 120) E dX5_blame_37 (by decide) ?_
      refine jx_icmp_le (tgt := 49) E dX5_blame_39 (by decide) (fun hc6 => ?_) (fun hc6 => ?_)
      · rw [if_pos hc6] at hF
        refine jx_aload_n E dX5_blame_49 1 rfl ?_
        obtain ⟨v7, hc7, hF⟩ := jx_bind hF
        try dsimp only at hF
        refine jx_callVv (As := []) (st := []) (h := 0) E dX5_blame_50 0 rfl (k_X5_puts hI  v5 v7 hc7) (gb_V (List.mem_cons_of_mem _ tw_458) (List.mem_cons_of_mem _ tw_459) (List.mem_cons_of_mem _ tw_460) (List.mem_cons_of_mem _ tw_325) tw_457) rfl rfl rfl dd_X5_puts rfl (Nat.le_of_ble_eq_true rfl) s_M0 rfl ⟨by decide, by decide⟩ ⟨Nat.le_refl 0, Nat.le_refl 0⟩ (Nat.le_of_ble_eq_true rfl) ?_
        refine jx_iconst (x := -1) E dX5_blame_53 (by decide) ?_
        refine jx_istore_n (lv' := [(3, .int (-1)), (2, .int r5), (0, .ref (ad 0)), (1, .int x1)]) E dX5_blame_54 (by decide) rfl ?_
        refine jx_iconst (x := 0) E dX5_blame_55 (by decide) ?_
        refine jx_istore (lv' := [(4, .int 0), (3, .int (-1)), (2, .int r5), (0, .ref (ad 0)), (1, .int x1)]) E dX5_blame_56 (by decide) rfl ?_
        refine jx_sub [3, 4, 2, 1, 0] rfl ?_
        exact (key 100000) x1 r5 (-1) 0 v7 hF
      · rw [if_neg hc6] at hF
        refine jx_aload_n E dX5_blame_42 1 rfl ?_
        refine jx_ldc (x := -1000004) E dX5_blame_43 (List.mem_cons_of_mem _ tw_365) ?_
        obtain ⟨⟨r8, v8⟩, hc8, hF⟩ := jx_bind hF
        try dsimp only at hF
        refine jx_callVi (As := [.int (-1000004)]) (st := []) (h := 0) E dX5_blame_45 1 rfl (k_X5_finds hI (-1000004) v5 r8 v8 hc8) (gb_V (List.mem_cons_of_mem _ tw_344) (List.mem_cons_of_mem _ tw_345) (List.mem_cons_of_mem _ tw_346) (List.mem_cons_of_mem _ tw_325) tw_343) rfl rfl rfl dd_X5_finds rfl (Nat.le_of_ble_eq_true rfl) s_M0 rfl ⟨by decide, by decide⟩ ⟨Nat.le_refl 0, Nat.le_refl 0⟩ (Nat.le_of_ble_eq_true rfl) ?_
        obtain ⟨rfl, rfl⟩ := jx_out hF
        exact jx_iret E dX5_blame_48 rfl
    · rw [if_neg hc4] at hF
      refine jx_aload_n E dX5_blame_23 0 rfl ?_
      refine jx_ldc (x := -1000005) E dX5_blame_24 (List.mem_cons_of_mem _ tw_364) ?_
      obtain ⟨⟨r9, v9⟩, hc9, hF⟩ := jx_bind hF
      try dsimp only at hF
      refine jx_callVi (As := [.int (-1000005)]) (st := []) (h := 0) E dX5_blame_26 1 rfl (k_X5_finds hI (-1000005) v3 r9 v9 hc9) (gb_V (List.mem_cons_of_mem _ tw_344) (List.mem_cons_of_mem _ tw_345) (List.mem_cons_of_mem _ tw_346) (List.mem_cons_of_mem _ tw_325) tw_343) rfl rfl rfl dd_X5_finds rfl (Nat.le_of_ble_eq_true rfl) s_M0 rfl ⟨by decide, by decide⟩ ⟨Nat.le_refl 0, Nat.le_refl 0⟩ (Nat.le_of_ble_eq_true rfl) ?_
      obtain ⟨rfl, rfl⟩ := jx_out hF
      exact jx_iret E dX5_blame_29 rfl
  · rw [if_pos hc2] at hF
    refine jx_aload_n E dX5_blame_8 0 rfl ?_
    refine jx_ldc (x := -1000001) E dX5_blame_9 (List.mem_cons_of_mem _ tw_320) ?_
    obtain ⟨⟨r10, v10⟩, hc10, hF⟩ := jx_bind hF
    try dsimp only at hF
    refine jx_callVi (As := [.int (-1000001)]) (st := []) (h := 0) E dX5_blame_11 1 rfl (k_X5_finds hI (-1000001) v1 r10 v10 hc10) (gb_V (List.mem_cons_of_mem _ tw_344) (List.mem_cons_of_mem _ tw_345) (List.mem_cons_of_mem _ tw_346) (List.mem_cons_of_mem _ tw_325) tw_343) rfl rfl rfl dd_X5_finds rfl (Nat.le_of_ble_eq_true rfl) s_M0 rfl ⟨by decide, by decide⟩ ⟨Nat.le_refl 0, Nat.le_refl 0⟩ (Nat.le_of_ble_eq_true rfl) ?_
    obtain ⟨rfl, rfl⟩ := jx_out hF
    exact jx_iret E dX5_blame_14 rfl
def f_X5_bestPart_L  : Nat → Int32 → Int32 → Int32 → Int32 → Int32 → Int32 → Int32 → jx_V → Option (Int32 × jx_V)
  | 0, _, _, _, _, _, _, _, _ => none
  | n + 1, x1, x2, x3, x4, x5, x6, x7, v => (if x3 < x7 then ((f_X5_at x1 x2 v).bind (fun (r3, v3) => (if (r3 < 0 ∨ 181 ≤ Int32.toNatClampNeg r3) then none else (some (x5, (jx_up v3 1 (Int32.toNatClampNeg r3) x4)))))) else ((f_X5_at x1 x2 v).bind (fun (r5, v5) => (if (r5 < 0 ∨ 181 ≤ Int32.toNatClampNeg r5) then none else ((f_X5_its x1 1 (jx_up v5 1 (Int32.toNatClampNeg r5) x7)).bind (fun (r7, v7) => ((f_X5_gainOf r7 v7).bind (fun (r8, v8) => (if x5 < 0 then (f_X5_bestPart_L n x1 x2 x3 x4 x7 r8 (x7 + 1) v8) else (if r8 ≤ x6 then (f_X5_bestPart_L n x1 x2 x3 x4 x5 x6 (x7 + 1) v8) else (f_X5_bestPart_L n x1 x2 x3 x4 x7 r8 (x7 + 1) v8)))))))))))
def f_X5_bestPart (x1 : Int32) (x2 : Int32) (x3 : Int32) (v : jx_V) : Option (Int32 × jx_V) := ((f_X5_its x1 x2 v).bind (fun (r1, v1) => (f_X5_bestPart_L 100000 x1 x2 x3 r1 (-1) 0 0 v1)))
def rm_X5_bestPart : Room := { frames := 7, cells := 0, slots := 0, locals := 169 }
set_option maxHeartbeats 4000000 in
set_option maxRecDepth 100000 in
theorem k_X5_bestPart {l : Launch} {D : va_G} {cI cJ : ClassId} {ad : Nat → Nat} {A : Nat → Prop} (hI : jx_inj 13 ad A) (x1 : Int32) (x2 : Int32) (x3 : Int32) (v : jx_V) (r : Int32) (v' : jx_V) (hF : f_X5_bestPart x1 x2 x3 v = some (r, v')) : jx_Ci l D vwCl 13 cI cJ ad shM A ex_M yX5_bestPart (Cond.code yX5_bestPart cX5_bestPart 9 (some .int) :: bigT) rm_X5_bestPart [.ref (ad 0), .int x1, .int x2, .int x3] v r v' := by
  unfold f_X5_bestPart at hF
  refine jx_enteri bigT RX5 cX5_bestPart 9 (some .int) [(0, .ref (ad 0)), (1, .int x1), (2, .int x2), (3, .int x3)] hI (ex_M_ok A) (by decide +kernel) rfl (Nat.le_of_ble_eq_true rfl) rfl rfl ?_
  intro p e s m args below meth c E
  have iX5 : ∀ w ∈ u_ws RX5 TX5 21, w ∈ (Cond.code yX5_bestPart cX5_bestPart 9 (some .int) :: bigT) := fun w h => List.mem_cons_of_mem _ (uw_X5 w h)
  have key : ∀ n : Nat, (∀ (x1 : Int32) (x2 : Int32) (x3 : Int32) (x4 : Int32) (x5 : Int32) (x6 : Int32) (x7 : Int32) (v : jx_V), f_X5_bestPart_L  n  x1 x2 x3 x4 x5 x6 x7 v = some (r, v') → jx_J p l e rm_X5_bestPart s m args below meth c D vwCl 13 cI cJ ad shM A 0 0 9 (MQ below (va_Qi (fun (r1 : Int32) (_ : Unit) => r1 = r) (fun _ t => va_P D vwCl (jx_ws 13 cI cJ ad shM v') t.heap) A) args s 0 0 A) v 17 [(0, .ref (ad 0)), (1, .int x1), (2, .int x2), (3, .int x3), (4, .int x4), (5, .int x5), (6, .int x6), (7, .int x7)] []) := by
    intro n
    induction n with
    | zero =>
      exact (fun _ _ _ _ _ _ _ _ h => by cases h)
    | succ n ih =>
      intro x1 x2 x3 x4 x5 x6 x7 v hF
      rw [f_X5_bestPart_L] at hF
      refine jx_iload E dX5_bestPart_17 7 rfl ?_
      refine jx_iload_n E dX5_bestPart_19 3 rfl ?_
      refine jx_icmp_gt (tgt := 73) E dX5_bestPart_20 (by decide) (fun hc2 => ?_) (fun hc2 => ?_)
      · rw [if_pos hc2] at hF
        refine jx_aload_n E dX5_bestPart_73 0 rfl ?_
        refine jx_getr (C := RX5) (T := TX5) (M := 21) (k := 0) E dX5_bestPart_74 (Nat.le_of_ble_eq_true rfl) s_M0 rfl iX5 (by decide) rfl (List.mem_cons_of_mem _ tw_328) rfl ?_
        refine jx_iload_n E dX5_bestPart_77 1 rfl ?_
        refine jx_iload_n E dX5_bestPart_78 2 rfl ?_
        obtain ⟨⟨r3, v3⟩, hc3, hF⟩ := jx_bind hF
        try dsimp only at hF
        refine jx_callSi (As := [.int x1, .int x2]) (st := [.ref (ad 1)]) E dX5_bestPart_79 2 rfl (k_X5_at hI x1 x2 v r3 v3 hc3) (gb_S (List.mem_cons_of_mem _ tw_332) (List.mem_cons_of_mem _ tw_333) (List.mem_cons_of_mem _ tw_325) tw_331) rfl rfl rfl dd_X5_at rfl ⟨by decide, by decide⟩ ⟨Nat.le_refl 0, Nat.le_refl 0⟩ (Nat.le_of_ble_eq_true rfl) ?_
        refine jx_iload E dX5_bestPart_82 4 rfl ?_
        obtain ⟨hg4, hF⟩ := jx_guard hF
        refine jx_iast (h := 1) (j := (Int32.toNatClampNeg r3)) E dX5_bestPart_84 (Nat.le_of_ble_eq_true rfl) s_M1 hg4 rfl ?_
        refine jx_iload E dX5_bestPart_85 5 rfl ?_
        obtain ⟨rfl, rfl⟩ := jx_out hF
        exact jx_iret E dX5_bestPart_87 rfl
      · rw [if_neg hc2] at hF
        refine jx_aload_n E dX5_bestPart_23 0 rfl ?_
        refine jx_getr (C := RX5) (T := TX5) (M := 21) (k := 0) E dX5_bestPart_24 (Nat.le_of_ble_eq_true rfl) s_M0 rfl iX5 (by decide) rfl (List.mem_cons_of_mem _ tw_328) rfl ?_
        refine jx_iload_n E dX5_bestPart_27 1 rfl ?_
        refine jx_iload_n E dX5_bestPart_28 2 rfl ?_
        obtain ⟨⟨r5, v5⟩, hc5, hF⟩ := jx_bind hF
        try dsimp only at hF
        refine jx_callSi (As := [.int x1, .int x2]) (st := [.ref (ad 1)]) E dX5_bestPart_29 2 rfl (k_X5_at hI x1 x2 v r5 v5 hc5) (gb_S (List.mem_cons_of_mem _ tw_332) (List.mem_cons_of_mem _ tw_333) (List.mem_cons_of_mem _ tw_325) tw_331) rfl rfl rfl dd_X5_at rfl ⟨by decide, by decide⟩ ⟨Nat.le_refl 0, Nat.le_refl 0⟩ (Nat.le_of_ble_eq_true rfl) ?_
        refine jx_iload E dX5_bestPart_32 7 rfl ?_
        obtain ⟨hg6, hF⟩ := jx_guard hF
        refine jx_iast (h := 1) (j := (Int32.toNatClampNeg r5)) E dX5_bestPart_34 (Nat.le_of_ble_eq_true rfl) s_M1 hg6 rfl ?_
        refine jx_aload_n E dX5_bestPart_35 0 rfl ?_
        refine jx_aload_n E dX5_bestPart_36 0 rfl ?_
        refine jx_iload_n E dX5_bestPart_37 1 rfl ?_
        refine jx_iconst (x := 1) E dX5_bestPart_38 (by decide) ?_
        obtain ⟨⟨r7, v7⟩, hc7, hF⟩ := jx_bind hF
        try dsimp only at hF
        refine jx_callVi (As := [.int x1, .int 1]) (st := [.ref (ad 0)]) (h := 0) E dX5_bestPart_39 2 rfl (k_X5_its hI x1 1 (jx_up v5 1 (Int32.toNatClampNeg r5) x7) r7 v7 hc7) (gb_V (List.mem_cons_of_mem _ tw_335) (List.mem_cons_of_mem _ tw_336) (List.mem_cons_of_mem _ tw_337) (List.mem_cons_of_mem _ tw_325) tw_334) rfl rfl rfl dd_X5_its rfl (Nat.le_of_ble_eq_true rfl) s_M0 rfl ⟨by decide, by decide⟩ ⟨Nat.le_refl 0, Nat.le_refl 0⟩ (Nat.le_of_ble_eq_true rfl) ?_
        obtain ⟨⟨r8, v8⟩, hc8, hF⟩ := jx_bind hF
        try dsimp only at hF
        refine jx_callVi (As := [.int r7]) (st := []) (h := 0) E dX5_bestPart_42 1 rfl (k_X5_gainOf hI r7 v7 r8 v8 hc8) (gb_V (List.mem_cons_of_mem _ tw_436) (List.mem_cons_of_mem _ tw_437) (List.mem_cons_of_mem _ tw_438) (List.mem_cons_of_mem _ tw_325) tw_435) rfl rfl rfl dd_X5_gainOf rfl (Nat.le_of_ble_eq_true rfl) s_M0 rfl ⟨by decide, by decide⟩ ⟨Nat.le_refl 0, Nat.le_refl 0⟩ (Nat.le_of_ble_eq_true rfl) ?_
        refine jx_istore (lv' := [(8, .int r8), (0, .ref (ad 0)), (1, .int x1), (2, .int x2), (3, .int x3), (4, .int x4), (5, .int x5), (6, .int x6), (7, .int x7)]) E dX5_bestPart_45 (by decide) rfl ?_
        refine jx_iload E dX5_bestPart_47 6 rfl ?_
        refine jx_if_lt (tgt := 59) E dX5_bestPart_49 (by decide) (fun hc9 => ?_) (fun hc9 => ?_)
        · rw [if_pos hc9] at hF
          refine jx_iload E dX5_bestPart_59 8 rfl ?_
          refine jx_istore (lv' := [(5, .int x7), (8, .int r8), (0, .ref (ad 0)), (1, .int x1), (2, .int x2), (3, .int x3), (4, .int x4), (6, .int x6), (7, .int x7)]) E dX5_bestPart_61 (by decide) rfl ?_
          refine jx_iload E dX5_bestPart_63 1 rfl ?_
          refine jx_istore (lv' := [(6, .int r8), (5, .int x7), (8, .int r8), (0, .ref (ad 0)), (1, .int x1), (2, .int x2), (3, .int x3), (4, .int x4), (7, .int x7)]) E dX5_bestPart_65 (by decide) rfl ?_
          refine jx_iinc (y := (x7 + 1)) (lv' := [(7, .int (x7 + 1)), (6, .int r8), (5, .int x7), (8, .int r8), (0, .ref (ad 0)), (1, .int x1), (2, .int x2), (3, .int x3), (4, .int x4)]) E dX5_bestPart_67 8 rfl rfl (by decide) rfl ?_
          refine jx_goto (tgt := 17) E dX5_bestPart_70 (by decide) ?_
          refine jx_sub [4, 5, 6, 7, 8, 2, 1, 0] rfl ?_
          exact ih x1 x2 x3 x4 x7 r8 (x7 + 1) v8 hF
        · rw [if_neg hc9] at hF
          refine jx_iload E dX5_bestPart_52 0 rfl ?_
          refine jx_iload E dX5_bestPart_54 7 rfl ?_
          refine jx_icmp_le (tgt := 67) E dX5_bestPart_56 (by decide) (fun hc10 => ?_) (fun hc10 => ?_)
          · rw [if_pos hc10] at hF
            refine jx_iinc (y := (x7 + 1)) (lv' := [(7, .int (x7 + 1)), (8, .int r8), (0, .ref (ad 0)), (1, .int x1), (2, .int x2), (3, .int x3), (4, .int x4), (5, .int x5), (6, .int x6)]) E dX5_bestPart_67 8 rfl rfl (by decide) rfl ?_
            refine jx_goto (tgt := 17) E dX5_bestPart_70 (by decide) ?_
            refine jx_sub [2, 3, 4, 5, 6, 7, 8, 0] rfl ?_
            exact ih x1 x2 x3 x4 x5 x6 (x7 + 1) v8 hF
          · rw [if_neg hc10] at hF
            refine jx_iload E dX5_bestPart_59 8 rfl ?_
            refine jx_istore (lv' := [(5, .int x7), (8, .int r8), (0, .ref (ad 0)), (1, .int x1), (2, .int x2), (3, .int x3), (4, .int x4), (6, .int x6), (7, .int x7)]) E dX5_bestPart_61 (by decide) rfl ?_
            refine jx_iload E dX5_bestPart_63 1 rfl ?_
            refine jx_istore (lv' := [(6, .int r8), (5, .int x7), (8, .int r8), (0, .ref (ad 0)), (1, .int x1), (2, .int x2), (3, .int x3), (4, .int x4), (7, .int x7)]) E dX5_bestPart_65 (by decide) rfl ?_
            refine jx_iinc (y := (x7 + 1)) (lv' := [(7, .int (x7 + 1)), (6, .int r8), (5, .int x7), (8, .int r8), (0, .ref (ad 0)), (1, .int x1), (2, .int x2), (3, .int x3), (4, .int x4)]) E dX5_bestPart_67 8 rfl rfl (by decide) rfl ?_
            refine jx_goto (tgt := 17) E dX5_bestPart_70 (by decide) ?_
            refine jx_sub [4, 5, 6, 7, 8, 2, 1, 0] rfl ?_
            exact ih x1 x2 x3 x4 x7 r8 (x7 + 1) v8 hF
  refine jx_aload_n E dX5_bestPart_0 0 rfl ?_
  refine jx_iload_n E dX5_bestPart_1 1 rfl ?_
  refine jx_iload_n E dX5_bestPart_2 2 rfl ?_
  obtain ⟨⟨r1, v1⟩, hc1, hF⟩ := jx_bind hF
  try dsimp only at hF
  refine jx_callVi (As := [.int x1, .int x2]) (st := []) (h := 0) E dX5_bestPart_3 2 rfl (k_X5_its hI x1 x2 v r1 v1 hc1) (gb_V (List.mem_cons_of_mem _ tw_335) (List.mem_cons_of_mem _ tw_336) (List.mem_cons_of_mem _ tw_337) (List.mem_cons_of_mem _ tw_325) tw_334) rfl rfl rfl dd_X5_its rfl (Nat.le_of_ble_eq_true rfl) s_M0 rfl ⟨by decide, by decide⟩ ⟨Nat.le_refl 0, Nat.le_refl 0⟩ (Nat.le_of_ble_eq_true rfl) ?_
  refine jx_istore (lv' := [(4, .int r1), (0, .ref (ad 0)), (1, .int x1), (2, .int x2), (3, .int x3)]) E dX5_bestPart_6 (by decide) rfl ?_
  refine jx_iconst (x := -1) E dX5_bestPart_8 (by decide) ?_
  refine jx_istore (lv' := [(5, .int (-1)), (4, .int r1), (0, .ref (ad 0)), (1, .int x1), (2, .int x2), (3, .int x3)]) E dX5_bestPart_9 (by decide) rfl ?_
  refine jx_iconst (x := 0) E dX5_bestPart_11 (by decide) ?_
  refine jx_istore (lv' := [(6, .int 0), (5, .int (-1)), (4, .int r1), (0, .ref (ad 0)), (1, .int x1), (2, .int x2), (3, .int x3)]) E dX5_bestPart_12 (by decide) rfl ?_
  refine jx_iconst (x := 0) E dX5_bestPart_14 (by decide) ?_
  refine jx_istore (lv' := [(7, .int 0), (6, .int 0), (5, .int (-1)), (4, .int r1), (0, .ref (ad 0)), (1, .int x1), (2, .int x2), (3, .int x3)]) E dX5_bestPart_15 (by decide) rfl ?_
  refine jx_sub [4, 5, 6, 7, 3, 2, 1, 0] rfl ?_
  exact (key 100000) x1 x2 x3 r1 (-1) 0 0 v1 hF
def f_X5_paint (x1 : Int32) (v : jx_V) : Option (Int32 × jx_V) := ((f_X5_lotWrong x1 v).bind (fun (r1, v1) => (if r1 = 0 then ((f_X5_bestPart x1 3 3 v1).bind (fun (r3, v3) => (some (r3, v3)))) else ((f_X5_finds r1 v1).bind (fun (r4, v4) => (some (r4, v4)))))))
def rm_X5_paint : Room := { frames := 8, cells := 0, slots := 0, locals := 197 }
set_option maxHeartbeats 4000000 in
set_option maxRecDepth 100000 in
theorem k_X5_paint {l : Launch} {D : va_G} {cI cJ : ClassId} {ad : Nat → Nat} {A : Nat → Prop} (hI : jx_inj 13 ad A) (x1 : Int32) (v : jx_V) (r : Int32) (v' : jx_V) (hF : f_X5_paint x1 v = some (r, v')) : jx_Ci l D vwCl 13 cI cJ ad shM A ex_M yX5_paint (Cond.code yX5_paint cX5_paint 3 (some .int) :: bigT) rm_X5_paint [.ref (ad 0), .int x1] v r v' := by
  unfold f_X5_paint at hF
  refine jx_enteri bigT RX5 cX5_paint 3 (some .int) [(0, .ref (ad 0)), (1, .int x1)] hI (ex_M_ok A) (by decide +kernel) rfl (Nat.le_of_ble_eq_true rfl) rfl rfl ?_
  intro p e s m args below meth c E
  refine jx_aload_n E dX5_paint_0 0 rfl ?_
  refine jx_iload_n E dX5_paint_1 1 rfl ?_
  obtain ⟨⟨r1, v1⟩, hc1, hF⟩ := jx_bind hF
  try dsimp only at hF
  refine jx_callVi (As := [.int x1]) (st := []) (h := 0) E dX5_paint_2 1 rfl (k_X5_lotWrong hI x1 v r1 v1 hc1) (gb_V (List.mem_cons_of_mem _ tw_367) (List.mem_cons_of_mem _ tw_368) (List.mem_cons_of_mem _ tw_369) (List.mem_cons_of_mem _ tw_325) tw_366) rfl rfl rfl dd_X5_lotWrong rfl (Nat.le_of_ble_eq_true rfl) s_M0 rfl ⟨by decide, by decide⟩ ⟨Nat.le_refl 0, Nat.le_refl 0⟩ (Nat.le_of_ble_eq_true rfl) ?_
  refine jx_istore_n (lv' := [(2, .int r1), (0, .ref (ad 0)), (1, .int x1)]) E dX5_paint_5 (by decide) rfl ?_
  refine jx_iload_n E dX5_paint_6 0 rfl ?_
  refine jx_if_eq (tgt := 18) E dX5_paint_7 (by decide) (fun hc2 => ?_) (fun hc2 => ?_)
  · rw [if_pos hc2] at hF
    refine jx_aload_n E dX5_paint_18 1 rfl ?_
    refine jx_iload_n E dX5_paint_19 2 rfl ?_
    refine jx_iconst (x := 3) E dX5_paint_20 (by decide) ?_
    refine jx_iconst (x := 3) E dX5_paint_21 (by decide) ?_
    obtain ⟨⟨r3, v3⟩, hc3, hF⟩ := jx_bind hF
    try dsimp only at hF
    refine jx_callVi (As := [.int x1, .int 3, .int 3]) (st := []) (h := 0) E dX5_paint_22 3 rfl (k_X5_bestPart hI x1 3 3 v1 r3 v3 hc3) (gb_V (List.mem_cons_of_mem _ tw_478) (List.mem_cons_of_mem _ tw_479) (List.mem_cons_of_mem _ tw_480) (List.mem_cons_of_mem _ tw_325) tw_477) rfl rfl rfl dd_X5_bestPart rfl (Nat.le_of_ble_eq_true rfl) s_M0 rfl ⟨by decide, by decide⟩ ⟨Nat.le_refl 0, Nat.le_refl 0⟩ (Nat.le_of_ble_eq_true rfl) ?_
    obtain ⟨rfl, rfl⟩ := jx_out hF
    exact jx_iret E dX5_paint_25 rfl
  · rw [if_neg hc2] at hF
    refine jx_aload_n E dX5_paint_10 1 rfl ?_
    refine jx_iload_n E dX5_paint_11 0 rfl ?_
    obtain ⟨⟨r4, v4⟩, hc4, hF⟩ := jx_bind hF
    try dsimp only at hF
    refine jx_callVi (As := [.int r1]) (st := []) (h := 0) E dX5_paint_12 1 rfl (k_X5_finds hI r1 v1 r4 v4 hc4) (gb_V (List.mem_cons_of_mem _ tw_344) (List.mem_cons_of_mem _ tw_345) (List.mem_cons_of_mem _ tw_346) (List.mem_cons_of_mem _ tw_325) tw_343) rfl rfl rfl dd_X5_finds rfl (Nat.le_of_ble_eq_true rfl) s_M0 rfl ⟨by decide, by decide⟩ ⟨Nat.le_refl 0, Nat.le_refl 0⟩ (Nat.le_of_ble_eq_true rfl) ?_
    refine jx_goto (tgt := 25) E dX5_paint_15 (by decide) ?_
    obtain ⟨rfl, rfl⟩ := jx_out hF
    exact jx_iret E dX5_paint_25 rfl
def f_X5_height (x1 : Int32) (v : jx_V) : Option (Int32 × jx_V) := ((f_X5_lotWrong x1 v).bind (fun (r1, v1) => (if r1 = 0 then ((f_X5_bestPart x1 2 9 v1).bind (fun (r3, v3) => (some (r3, v3)))) else ((f_X5_finds r1 v1).bind (fun (r4, v4) => (some (r4, v4)))))))
def rm_X5_height : Room := { frames := 8, cells := 0, slots := 0, locals := 197 }
set_option maxHeartbeats 4000000 in
set_option maxRecDepth 100000 in
theorem k_X5_height {l : Launch} {D : va_G} {cI cJ : ClassId} {ad : Nat → Nat} {A : Nat → Prop} (hI : jx_inj 13 ad A) (x1 : Int32) (v : jx_V) (r : Int32) (v' : jx_V) (hF : f_X5_height x1 v = some (r, v')) : jx_Ci l D vwCl 13 cI cJ ad shM A ex_M yX5_height (Cond.code yX5_height cX5_height 3 (some .int) :: bigT) rm_X5_height [.ref (ad 0), .int x1] v r v' := by
  unfold f_X5_height at hF
  refine jx_enteri bigT RX5 cX5_height 3 (some .int) [(0, .ref (ad 0)), (1, .int x1)] hI (ex_M_ok A) (by decide +kernel) rfl (Nat.le_of_ble_eq_true rfl) rfl rfl ?_
  intro p e s m args below meth c E
  refine jx_aload_n E dX5_height_0 0 rfl ?_
  refine jx_iload_n E dX5_height_1 1 rfl ?_
  obtain ⟨⟨r1, v1⟩, hc1, hF⟩ := jx_bind hF
  try dsimp only at hF
  refine jx_callVi (As := [.int x1]) (st := []) (h := 0) E dX5_height_2 1 rfl (k_X5_lotWrong hI x1 v r1 v1 hc1) (gb_V (List.mem_cons_of_mem _ tw_367) (List.mem_cons_of_mem _ tw_368) (List.mem_cons_of_mem _ tw_369) (List.mem_cons_of_mem _ tw_325) tw_366) rfl rfl rfl dd_X5_lotWrong rfl (Nat.le_of_ble_eq_true rfl) s_M0 rfl ⟨by decide, by decide⟩ ⟨Nat.le_refl 0, Nat.le_refl 0⟩ (Nat.le_of_ble_eq_true rfl) ?_
  refine jx_istore_n (lv' := [(2, .int r1), (0, .ref (ad 0)), (1, .int x1)]) E dX5_height_5 (by decide) rfl ?_
  refine jx_iload_n E dX5_height_6 0 rfl ?_
  refine jx_if_eq (tgt := 18) E dX5_height_7 (by decide) (fun hc2 => ?_) (fun hc2 => ?_)
  · rw [if_pos hc2] at hF
    refine jx_aload_n E dX5_height_18 1 rfl ?_
    refine jx_iload_n E dX5_height_19 2 rfl ?_
    refine jx_iconst (x := 2) E dX5_height_20 (by decide) ?_
    refine jx_bipush (x := 9) E dX5_height_21 (by decide) ?_
    obtain ⟨⟨r3, v3⟩, hc3, hF⟩ := jx_bind hF
    try dsimp only at hF
    refine jx_callVi (As := [.int x1, .int 2, .int 9]) (st := []) (h := 0) E dX5_height_23 3 rfl (k_X5_bestPart hI x1 2 9 v1 r3 v3 hc3) (gb_V (List.mem_cons_of_mem _ tw_478) (List.mem_cons_of_mem _ tw_479) (List.mem_cons_of_mem _ tw_480) (List.mem_cons_of_mem _ tw_325) tw_477) rfl rfl rfl dd_X5_bestPart rfl (Nat.le_of_ble_eq_true rfl) s_M0 rfl ⟨by decide, by decide⟩ ⟨Nat.le_refl 0, Nat.le_refl 0⟩ (Nat.le_of_ble_eq_true rfl) ?_
    obtain ⟨rfl, rfl⟩ := jx_out hF
    exact jx_iret E dX5_height_26 rfl
  · rw [if_neg hc2] at hF
    refine jx_aload_n E dX5_height_10 1 rfl ?_
    refine jx_iload_n E dX5_height_11 0 rfl ?_
    obtain ⟨⟨r4, v4⟩, hc4, hF⟩ := jx_bind hF
    try dsimp only at hF
    refine jx_callVi (As := [.int r1]) (st := []) (h := 0) E dX5_height_12 1 rfl (k_X5_finds hI r1 v1 r4 v4 hc4) (gb_V (List.mem_cons_of_mem _ tw_344) (List.mem_cons_of_mem _ tw_345) (List.mem_cons_of_mem _ tw_346) (List.mem_cons_of_mem _ tw_325) tw_343) rfl rfl rfl dd_X5_finds rfl (Nat.le_of_ble_eq_true rfl) s_M0 rfl ⟨by decide, by decide⟩ ⟨Nat.le_refl 0, Nat.le_refl 0⟩ (Nat.le_of_ble_eq_true rfl) ?_
    refine jx_goto (tgt := 26) E dX5_height_15 (by decide) ?_
    obtain ⟨rfl, rfl⟩ := jx_out hF
    exact jx_iret E dX5_height_26 rfl
def f_X5_storey (x1 : Int32) (x2 : Int32) (v : jx_V) : Option (Int32 × jx_V) := ((f_X5_isOwner x2 v).bind (fun (r1, v1) => (if r1 = 0 then (if (-1000001 : Int32) = 0 then ((f_X5_its x1 2 v1).bind (fun (r18, v18) => (if r18 = 9 then ((f_X5_finds (-1000005) v18).bind (fun (r28, v28) => (some (r28, v28)))) else ((f_X5_gainOf x2 v18).bind (fun (r20, v20) => ((f_X5_at x1 2 v20).bind (fun (r21, v21) => (if (r21 < 0 ∨ 181 ≤ Int32.toNatClampNeg r21) then none else (if (r21 < 0 ∨ 181 ≤ Int32.toNatClampNeg r21) then none else ((f_X5_gainOf x2 (jx_up v21 1 (Int32.toNatClampNeg r21) ((v21 1 (Int32.toNatClampNeg r21)) + 1))).bind (fun (r24, v24) => ((f_X5_at x1 2 v24).bind (fun (r25, v25) => (if (r25 < 0 ∨ 181 ≤ Int32.toNatClampNeg r25) then none else (if (r25 < 0 ∨ 181 ≤ Int32.toNatClampNeg r25) then none else (some ((r24 - r20), (jx_up v25 1 (Int32.toNatClampNeg r25) ((v25 1 (Int32.toNatClampNeg r25)) - 1))))))))))))))))))) else ((f_X5_finds (-1000001) v1).bind (fun (r29, v29) => (some (r29, v29))))) else ((f_X5_lotWrong x1 v1).bind (fun (r3, v3) => (if r3 = 0 then ((f_X5_its x1 2 v3).bind (fun (r5, v5) => (if r5 = 9 then ((f_X5_finds (-1000005) v5).bind (fun (r15, v15) => (some (r15, v15)))) else ((f_X5_gainOf x2 v5).bind (fun (r7, v7) => ((f_X5_at x1 2 v7).bind (fun (r8, v8) => (if (r8 < 0 ∨ 181 ≤ Int32.toNatClampNeg r8) then none else (if (r8 < 0 ∨ 181 ≤ Int32.toNatClampNeg r8) then none else ((f_X5_gainOf x2 (jx_up v8 1 (Int32.toNatClampNeg r8) ((v8 1 (Int32.toNatClampNeg r8)) + 1))).bind (fun (r11, v11) => ((f_X5_at x1 2 v11).bind (fun (r12, v12) => (if (r12 < 0 ∨ 181 ≤ Int32.toNatClampNeg r12) then none else (if (r12 < 0 ∨ 181 ≤ Int32.toNatClampNeg r12) then none else (some ((r11 - r7), (jx_up v12 1 (Int32.toNatClampNeg r12) ((v12 1 (Int32.toNatClampNeg r12)) - 1))))))))))))))))))) else ((f_X5_finds r3 v3).bind (fun (r16, v16) => (some (r16, v16))))))))))
def rm_X5_storey : Room := { frames := 7, cells := 0, slots := 0, locals := 169 }
set_option maxHeartbeats 4000000 in
set_option maxRecDepth 100000 in
theorem k_X5_storey {l : Launch} {D : va_G} {cI cJ : ClassId} {ad : Nat → Nat} {A : Nat → Prop} (hI : jx_inj 13 ad A) (x1 : Int32) (x2 : Int32) (v : jx_V) (r : Int32) (v' : jx_V) (hF : f_X5_storey x1 x2 v = some (r, v')) : jx_Ci l D vwCl 13 cI cJ ad shM A ex_M yX5_storey (Cond.code yX5_storey cX5_storey 6 (some .int) :: bigT) rm_X5_storey [.ref (ad 0), .int x1, .int x2] v r v' := by
  unfold f_X5_storey at hF
  refine jx_enteri bigT RX5 cX5_storey 6 (some .int) [(0, .ref (ad 0)), (1, .int x1), (2, .int x2)] hI (ex_M_ok A) (by decide +kernel) rfl (Nat.le_of_ble_eq_true rfl) rfl rfl ?_
  intro p e s m args below meth c E
  have iX5 : ∀ w ∈ u_ws RX5 TX5 21, w ∈ (Cond.code yX5_storey cX5_storey 6 (some .int) :: bigT) := fun w h => List.mem_cons_of_mem _ (uw_X5 w h)
  refine jx_iload_n E dX5_storey_0 2 rfl ?_
  obtain ⟨⟨r1, v1⟩, hc1, hF⟩ := jx_bind hF
  try dsimp only at hF
  refine jx_callSi (As := [.int x2]) (st := []) E dX5_storey_1 1 rfl (k_X5_isOwner hI x2 v r1 v1 hc1) (gb_S (List.mem_cons_of_mem _ tw_351) (List.mem_cons_of_mem _ tw_352) (List.mem_cons_of_mem _ tw_325) tw_350) rfl rfl rfl dd_X5_isOwner rfl ⟨by decide, by decide⟩ ⟨Nat.le_refl 0, Nat.le_refl 0⟩ (Nat.le_of_ble_eq_true rfl) ?_
  refine jx_if_ne (tgt := 12) E dX5_storey_4 (by decide) (fun hc2 => ?_) (fun hc2 => ?_)
  · rw [if_neg hc2] at hF
    refine jx_aload_n E dX5_storey_12 0 rfl ?_
    refine jx_iload_n E dX5_storey_13 1 rfl ?_
    obtain ⟨⟨r3, v3⟩, hc3, hF⟩ := jx_bind hF
    try dsimp only at hF
    refine jx_callVi (As := [.int x1]) (st := []) (h := 0) E dX5_storey_14 1 rfl (k_X5_lotWrong hI x1 v1 r3 v3 hc3) (gb_V (List.mem_cons_of_mem _ tw_367) (List.mem_cons_of_mem _ tw_368) (List.mem_cons_of_mem _ tw_369) (List.mem_cons_of_mem _ tw_325) tw_366) rfl rfl rfl dd_X5_lotWrong rfl (Nat.le_of_ble_eq_true rfl) s_M0 rfl ⟨by decide, by decide⟩ ⟨Nat.le_refl 0, Nat.le_refl 0⟩ (Nat.le_of_ble_eq_true rfl) ?_
    refine jx_istore_n (lv' := [(3, .int r3), (0, .ref (ad 0)), (1, .int x1), (2, .int x2)]) E dX5_storey_17 (by decide) rfl ?_
    refine jx_iload_n E dX5_storey_18 0 rfl ?_
    refine jx_if_eq (tgt := 28) E dX5_storey_19 (by decide) (fun hc4 => ?_) (fun hc4 => ?_)
    · rw [if_pos hc4] at hF
      refine jx_aload_n E dX5_storey_28 1 rfl ?_
      refine jx_iload_n E dX5_storey_29 2 rfl ?_
      refine jx_iconst (x := 2) E dX5_storey_30 (by decide) ?_
      obtain ⟨⟨r5, v5⟩, hc5, hF⟩ := jx_bind hF
      try dsimp only at hF
      refine jx_callVi (As := [.int x1, .int 2]) (st := []) (h := 0) E dX5_storey_31 2 rfl (k_X5_its hI x1 2 v3 r5 v5 hc5) (gb_V (List.mem_cons_of_mem _ tw_335) (List.mem_cons_of_mem _ tw_336) (List.mem_cons_of_mem _ tw_337) (List.mem_cons_of_mem _ tw_325) tw_334) rfl rfl rfl dd_X5_its rfl (Nat.le_of_ble_eq_true rfl) s_M0 rfl ⟨by decide, by decide⟩ ⟨Nat.le_refl 0, Nat.le_refl 0⟩ (Nat.le_of_ble_eq_true rfl) ?_
      refine jx_bipush (x := 9) E dX5_storey_34 (by decide) ?_
      refine jx_icmp_ne (tgt := 46) E dX5_storey_36 (by decide) (fun hc6 => ?_) (fun hc6 => ?_)
      · rw [if_neg hc6] at hF
        refine jx_aload_n E dX5_storey_46 1 rfl ?_
        refine jx_iload_n E dX5_storey_47 3 rfl ?_
        obtain ⟨⟨r7, v7⟩, hc7, hF⟩ := jx_bind hF
        try dsimp only at hF
        refine jx_callVi (As := [.int x2]) (st := []) (h := 0) E dX5_storey_48 1 rfl (k_X5_gainOf hI x2 v5 r7 v7 hc7) (gb_V (List.mem_cons_of_mem _ tw_436) (List.mem_cons_of_mem _ tw_437) (List.mem_cons_of_mem _ tw_438) (List.mem_cons_of_mem _ tw_325) tw_435) rfl rfl rfl dd_X5_gainOf rfl (Nat.le_of_ble_eq_true rfl) s_M0 rfl ⟨by decide, by decide⟩ ⟨Nat.le_refl 0, Nat.le_refl 0⟩ (Nat.le_of_ble_eq_true rfl) ?_
        refine jx_istore (lv' := [(4, .int r7), (3, .int r3), (0, .ref (ad 0)), (1, .int x1), (2, .int x2)]) E dX5_storey_51 (by decide) rfl ?_
        refine jx_aload_n E dX5_storey_53 2 rfl ?_
        refine jx_getr (C := RX5) (T := TX5) (M := 21) (k := 0) E dX5_storey_54 (Nat.le_of_ble_eq_true rfl) s_M0 rfl iX5 (by decide) rfl (List.mem_cons_of_mem _ tw_328) rfl ?_
        refine jx_iload_n E dX5_storey_57 3 rfl ?_
        refine jx_iconst (x := 2) E dX5_storey_58 (by decide) ?_
        obtain ⟨⟨r8, v8⟩, hc8, hF⟩ := jx_bind hF
        try dsimp only at hF
        refine jx_callSi (As := [.int x1, .int 2]) (st := [.ref (ad 1)]) E dX5_storey_59 2 rfl (k_X5_at hI x1 2 v7 r8 v8 hc8) (gb_S (List.mem_cons_of_mem _ tw_332) (List.mem_cons_of_mem _ tw_333) (List.mem_cons_of_mem _ tw_325) tw_331) rfl rfl rfl dd_X5_at rfl ⟨by decide, by decide⟩ ⟨Nat.le_refl 0, Nat.le_refl 0⟩ (Nat.le_of_ble_eq_true rfl) ?_
        refine jx_dup2 E dX5_storey_62 rfl rfl ?_
        obtain ⟨hg9, hF⟩ := jx_guard hF
        refine jx_iald (h := 1) (j := (Int32.toNatClampNeg r8)) E dX5_storey_63 (Nat.le_of_ble_eq_true rfl) s_M1 hg9 rfl ?_
        refine jx_iconst (x := 1) E dX5_storey_64 (by decide) ?_
        refine jx_iadd E dX5_storey_65 ?_
        obtain ⟨hg10, hF⟩ := jx_guard hF
        refine jx_iast (h := 1) (j := (Int32.toNatClampNeg r8)) E dX5_storey_66 (Nat.le_of_ble_eq_true rfl) s_M1 hg10 rfl ?_
        refine jx_aload_n E dX5_storey_67 2 rfl ?_
        refine jx_iload_n E dX5_storey_68 4 rfl ?_
        obtain ⟨⟨r11, v11⟩, hc11, hF⟩ := jx_bind hF
        try dsimp only at hF
        refine jx_callVi (As := [.int x2]) (st := []) (h := 0) E dX5_storey_69 1 rfl (k_X5_gainOf hI x2 (jx_up v8 1 (Int32.toNatClampNeg r8) ((v8 1 (Int32.toNatClampNeg r8)) + 1)) r11 v11 hc11) (gb_V (List.mem_cons_of_mem _ tw_436) (List.mem_cons_of_mem _ tw_437) (List.mem_cons_of_mem _ tw_438) (List.mem_cons_of_mem _ tw_325) tw_435) rfl rfl rfl dd_X5_gainOf rfl (Nat.le_of_ble_eq_true rfl) s_M0 rfl ⟨by decide, by decide⟩ ⟨Nat.le_refl 0, Nat.le_refl 0⟩ (Nat.le_of_ble_eq_true rfl) ?_
        refine jx_istore (lv' := [(5, .int r11), (4, .int r7), (3, .int r3), (0, .ref (ad 0)), (1, .int x1), (2, .int x2)]) E dX5_storey_72 (by decide) rfl ?_
        refine jx_aload_n E dX5_storey_74 3 rfl ?_
        refine jx_getr (C := RX5) (T := TX5) (M := 21) (k := 0) E dX5_storey_75 (Nat.le_of_ble_eq_true rfl) s_M0 rfl iX5 (by decide) rfl (List.mem_cons_of_mem _ tw_328) rfl ?_
        refine jx_iload_n E dX5_storey_78 4 rfl ?_
        refine jx_iconst (x := 2) E dX5_storey_79 (by decide) ?_
        obtain ⟨⟨r12, v12⟩, hc12, hF⟩ := jx_bind hF
        try dsimp only at hF
        refine jx_callSi (As := [.int x1, .int 2]) (st := [.ref (ad 1)]) E dX5_storey_80 2 rfl (k_X5_at hI x1 2 v11 r12 v12 hc12) (gb_S (List.mem_cons_of_mem _ tw_332) (List.mem_cons_of_mem _ tw_333) (List.mem_cons_of_mem _ tw_325) tw_331) rfl rfl rfl dd_X5_at rfl ⟨by decide, by decide⟩ ⟨Nat.le_refl 0, Nat.le_refl 0⟩ (Nat.le_of_ble_eq_true rfl) ?_
        refine jx_dup2 E dX5_storey_83 rfl rfl ?_
        obtain ⟨hg13, hF⟩ := jx_guard hF
        refine jx_iald (h := 1) (j := (Int32.toNatClampNeg r12)) E dX5_storey_84 (Nat.le_of_ble_eq_true rfl) s_M1 hg13 rfl ?_
        refine jx_iconst (x := 1) E dX5_storey_85 (by decide) ?_
        refine jx_isub E dX5_storey_86 ?_
        obtain ⟨hg14, hF⟩ := jx_guard hF
        refine jx_iast (h := 1) (j := (Int32.toNatClampNeg r12)) E dX5_storey_87 (Nat.le_of_ble_eq_true rfl) s_M1 hg14 rfl ?_
        refine jx_iload E dX5_storey_88 0 rfl ?_
        refine jx_iload E dX5_storey_90 1 rfl ?_
        refine jx_isub E dX5_storey_92 ?_
        obtain ⟨rfl, rfl⟩ := jx_out hF
        exact jx_iret E dX5_storey_93 rfl
      · rw [if_pos hc6] at hF
        refine jx_aload_n E dX5_storey_39 1 rfl ?_
        refine jx_ldc (x := -1000005) E dX5_storey_40 (List.mem_cons_of_mem _ tw_364) ?_
        obtain ⟨⟨r15, v15⟩, hc15, hF⟩ := jx_bind hF
        try dsimp only at hF
        refine jx_callVi (As := [.int (-1000005)]) (st := []) (h := 0) E dX5_storey_42 1 rfl (k_X5_finds hI (-1000005) v5 r15 v15 hc15) (gb_V (List.mem_cons_of_mem _ tw_344) (List.mem_cons_of_mem _ tw_345) (List.mem_cons_of_mem _ tw_346) (List.mem_cons_of_mem _ tw_325) tw_343) rfl rfl rfl dd_X5_finds rfl (Nat.le_of_ble_eq_true rfl) s_M0 rfl ⟨by decide, by decide⟩ ⟨Nat.le_refl 0, Nat.le_refl 0⟩ (Nat.le_of_ble_eq_true rfl) ?_
        obtain ⟨rfl, rfl⟩ := jx_out hF
        exact jx_iret E dX5_storey_45 rfl
    · rw [if_neg hc4] at hF
      refine jx_aload_n E dX5_storey_22 1 rfl ?_
      refine jx_iload_n E dX5_storey_23 0 rfl ?_
      obtain ⟨⟨r16, v16⟩, hc16, hF⟩ := jx_bind hF
      try dsimp only at hF
      refine jx_callVi (As := [.int r3]) (st := []) (h := 0) E dX5_storey_24 1 rfl (k_X5_finds hI r3 v3 r16 v16 hc16) (gb_V (List.mem_cons_of_mem _ tw_344) (List.mem_cons_of_mem _ tw_345) (List.mem_cons_of_mem _ tw_346) (List.mem_cons_of_mem _ tw_325) tw_343) rfl rfl rfl dd_X5_finds rfl (Nat.le_of_ble_eq_true rfl) s_M0 rfl ⟨by decide, by decide⟩ ⟨Nat.le_refl 0, Nat.le_refl 0⟩ (Nat.le_of_ble_eq_true rfl) ?_
      obtain ⟨rfl, rfl⟩ := jx_out hF
      exact jx_iret E dX5_storey_27 rfl
  · rw [if_pos hc2] at hF
    refine jx_ldc (x := -1000001) E dX5_storey_7 (List.mem_cons_of_mem _ tw_320) ?_
    refine jx_goto (tgt := 17) E dX5_storey_9 (by decide) ?_
    refine jx_istore_n (lv' := [(3, .int (-1000001)), (0, .ref (ad 0)), (1, .int x1), (2, .int x2)]) E dX5_storey_17 (by decide) rfl ?_
    refine jx_iload_n E dX5_storey_18 0 rfl ?_
    refine jx_if_eq (tgt := 28) E dX5_storey_19 (by decide) (fun hc17 => ?_) (fun hc17 => ?_)
    · rw [if_pos hc17] at hF
      refine jx_aload_n E dX5_storey_28 1 rfl ?_
      refine jx_iload_n E dX5_storey_29 2 rfl ?_
      refine jx_iconst (x := 2) E dX5_storey_30 (by decide) ?_
      obtain ⟨⟨r18, v18⟩, hc18, hF⟩ := jx_bind hF
      try dsimp only at hF
      refine jx_callVi (As := [.int x1, .int 2]) (st := []) (h := 0) E dX5_storey_31 2 rfl (k_X5_its hI x1 2 v1 r18 v18 hc18) (gb_V (List.mem_cons_of_mem _ tw_335) (List.mem_cons_of_mem _ tw_336) (List.mem_cons_of_mem _ tw_337) (List.mem_cons_of_mem _ tw_325) tw_334) rfl rfl rfl dd_X5_its rfl (Nat.le_of_ble_eq_true rfl) s_M0 rfl ⟨by decide, by decide⟩ ⟨Nat.le_refl 0, Nat.le_refl 0⟩ (Nat.le_of_ble_eq_true rfl) ?_
      refine jx_bipush (x := 9) E dX5_storey_34 (by decide) ?_
      refine jx_icmp_ne (tgt := 46) E dX5_storey_36 (by decide) (fun hc19 => ?_) (fun hc19 => ?_)
      · rw [if_neg hc19] at hF
        refine jx_aload_n E dX5_storey_46 1 rfl ?_
        refine jx_iload_n E dX5_storey_47 3 rfl ?_
        obtain ⟨⟨r20, v20⟩, hc20, hF⟩ := jx_bind hF
        try dsimp only at hF
        refine jx_callVi (As := [.int x2]) (st := []) (h := 0) E dX5_storey_48 1 rfl (k_X5_gainOf hI x2 v18 r20 v20 hc20) (gb_V (List.mem_cons_of_mem _ tw_436) (List.mem_cons_of_mem _ tw_437) (List.mem_cons_of_mem _ tw_438) (List.mem_cons_of_mem _ tw_325) tw_435) rfl rfl rfl dd_X5_gainOf rfl (Nat.le_of_ble_eq_true rfl) s_M0 rfl ⟨by decide, by decide⟩ ⟨Nat.le_refl 0, Nat.le_refl 0⟩ (Nat.le_of_ble_eq_true rfl) ?_
        refine jx_istore (lv' := [(4, .int r20), (3, .int (-1000001)), (0, .ref (ad 0)), (1, .int x1), (2, .int x2)]) E dX5_storey_51 (by decide) rfl ?_
        refine jx_aload_n E dX5_storey_53 2 rfl ?_
        refine jx_getr (C := RX5) (T := TX5) (M := 21) (k := 0) E dX5_storey_54 (Nat.le_of_ble_eq_true rfl) s_M0 rfl iX5 (by decide) rfl (List.mem_cons_of_mem _ tw_328) rfl ?_
        refine jx_iload_n E dX5_storey_57 3 rfl ?_
        refine jx_iconst (x := 2) E dX5_storey_58 (by decide) ?_
        obtain ⟨⟨r21, v21⟩, hc21, hF⟩ := jx_bind hF
        try dsimp only at hF
        refine jx_callSi (As := [.int x1, .int 2]) (st := [.ref (ad 1)]) E dX5_storey_59 2 rfl (k_X5_at hI x1 2 v20 r21 v21 hc21) (gb_S (List.mem_cons_of_mem _ tw_332) (List.mem_cons_of_mem _ tw_333) (List.mem_cons_of_mem _ tw_325) tw_331) rfl rfl rfl dd_X5_at rfl ⟨by decide, by decide⟩ ⟨Nat.le_refl 0, Nat.le_refl 0⟩ (Nat.le_of_ble_eq_true rfl) ?_
        refine jx_dup2 E dX5_storey_62 rfl rfl ?_
        obtain ⟨hg22, hF⟩ := jx_guard hF
        refine jx_iald (h := 1) (j := (Int32.toNatClampNeg r21)) E dX5_storey_63 (Nat.le_of_ble_eq_true rfl) s_M1 hg22 rfl ?_
        refine jx_iconst (x := 1) E dX5_storey_64 (by decide) ?_
        refine jx_iadd E dX5_storey_65 ?_
        obtain ⟨hg23, hF⟩ := jx_guard hF
        refine jx_iast (h := 1) (j := (Int32.toNatClampNeg r21)) E dX5_storey_66 (Nat.le_of_ble_eq_true rfl) s_M1 hg23 rfl ?_
        refine jx_aload_n E dX5_storey_67 2 rfl ?_
        refine jx_iload_n E dX5_storey_68 4 rfl ?_
        obtain ⟨⟨r24, v24⟩, hc24, hF⟩ := jx_bind hF
        try dsimp only at hF
        refine jx_callVi (As := [.int x2]) (st := []) (h := 0) E dX5_storey_69 1 rfl (k_X5_gainOf hI x2 (jx_up v21 1 (Int32.toNatClampNeg r21) ((v21 1 (Int32.toNatClampNeg r21)) + 1)) r24 v24 hc24) (gb_V (List.mem_cons_of_mem _ tw_436) (List.mem_cons_of_mem _ tw_437) (List.mem_cons_of_mem _ tw_438) (List.mem_cons_of_mem _ tw_325) tw_435) rfl rfl rfl dd_X5_gainOf rfl (Nat.le_of_ble_eq_true rfl) s_M0 rfl ⟨by decide, by decide⟩ ⟨Nat.le_refl 0, Nat.le_refl 0⟩ (Nat.le_of_ble_eq_true rfl) ?_
        refine jx_istore (lv' := [(5, .int r24), (4, .int r20), (3, .int (-1000001)), (0, .ref (ad 0)), (1, .int x1), (2, .int x2)]) E dX5_storey_72 (by decide) rfl ?_
        refine jx_aload_n E dX5_storey_74 3 rfl ?_
        refine jx_getr (C := RX5) (T := TX5) (M := 21) (k := 0) E dX5_storey_75 (Nat.le_of_ble_eq_true rfl) s_M0 rfl iX5 (by decide) rfl (List.mem_cons_of_mem _ tw_328) rfl ?_
        refine jx_iload_n E dX5_storey_78 4 rfl ?_
        refine jx_iconst (x := 2) E dX5_storey_79 (by decide) ?_
        obtain ⟨⟨r25, v25⟩, hc25, hF⟩ := jx_bind hF
        try dsimp only at hF
        refine jx_callSi (As := [.int x1, .int 2]) (st := [.ref (ad 1)]) E dX5_storey_80 2 rfl (k_X5_at hI x1 2 v24 r25 v25 hc25) (gb_S (List.mem_cons_of_mem _ tw_332) (List.mem_cons_of_mem _ tw_333) (List.mem_cons_of_mem _ tw_325) tw_331) rfl rfl rfl dd_X5_at rfl ⟨by decide, by decide⟩ ⟨Nat.le_refl 0, Nat.le_refl 0⟩ (Nat.le_of_ble_eq_true rfl) ?_
        refine jx_dup2 E dX5_storey_83 rfl rfl ?_
        obtain ⟨hg26, hF⟩ := jx_guard hF
        refine jx_iald (h := 1) (j := (Int32.toNatClampNeg r25)) E dX5_storey_84 (Nat.le_of_ble_eq_true rfl) s_M1 hg26 rfl ?_
        refine jx_iconst (x := 1) E dX5_storey_85 (by decide) ?_
        refine jx_isub E dX5_storey_86 ?_
        obtain ⟨hg27, hF⟩ := jx_guard hF
        refine jx_iast (h := 1) (j := (Int32.toNatClampNeg r25)) E dX5_storey_87 (Nat.le_of_ble_eq_true rfl) s_M1 hg27 rfl ?_
        refine jx_iload E dX5_storey_88 0 rfl ?_
        refine jx_iload E dX5_storey_90 1 rfl ?_
        refine jx_isub E dX5_storey_92 ?_
        obtain ⟨rfl, rfl⟩ := jx_out hF
        exact jx_iret E dX5_storey_93 rfl
      · rw [if_pos hc19] at hF
        refine jx_aload_n E dX5_storey_39 1 rfl ?_
        refine jx_ldc (x := -1000005) E dX5_storey_40 (List.mem_cons_of_mem _ tw_364) ?_
        obtain ⟨⟨r28, v28⟩, hc28, hF⟩ := jx_bind hF
        try dsimp only at hF
        refine jx_callVi (As := [.int (-1000005)]) (st := []) (h := 0) E dX5_storey_42 1 rfl (k_X5_finds hI (-1000005) v18 r28 v28 hc28) (gb_V (List.mem_cons_of_mem _ tw_344) (List.mem_cons_of_mem _ tw_345) (List.mem_cons_of_mem _ tw_346) (List.mem_cons_of_mem _ tw_325) tw_343) rfl rfl rfl dd_X5_finds rfl (Nat.le_of_ble_eq_true rfl) s_M0 rfl ⟨by decide, by decide⟩ ⟨Nat.le_refl 0, Nat.le_refl 0⟩ (Nat.le_of_ble_eq_true rfl) ?_
        obtain ⟨rfl, rfl⟩ := jx_out hF
        exact jx_iret E dX5_storey_45 rfl
    · rw [if_neg hc17] at hF
      refine jx_aload_n E dX5_storey_22 1 rfl ?_
      refine jx_iload_n E dX5_storey_23 0 rfl ?_
      obtain ⟨⟨r29, v29⟩, hc29, hF⟩ := jx_bind hF
      try dsimp only at hF
      refine jx_callVi (As := [.int (-1000001)]) (st := []) (h := 0) E dX5_storey_24 1 rfl (k_X5_finds hI (-1000001) v1 r29 v29 hc29) (gb_V (List.mem_cons_of_mem _ tw_344) (List.mem_cons_of_mem _ tw_345) (List.mem_cons_of_mem _ tw_346) (List.mem_cons_of_mem _ tw_325) tw_343) rfl rfl rfl dd_X5_finds rfl (Nat.le_of_ble_eq_true rfl) s_M0 rfl ⟨by decide, by decide⟩ ⟨Nat.le_refl 0, Nat.le_refl 0⟩ (Nat.le_of_ble_eq_true rfl) ?_
      obtain ⟨rfl, rfl⟩ := jx_out hF
      exact jx_iret E dX5_storey_27 rfl
def f_X5_allowed_L  : Nat → Int32 → Int32 → Int32 → Int32 → Int32 → Int32 → jx_V → Option (Int32 × jx_V)
  | 0, _, _, _, _, _, _, _ => none
  | n + 1, x1, x2, x3, x4, x5, x6, v => (if 10 ≤ x6 then ((f_X5_at x1 2 v).bind (fun (r10, v10) => (if (r10 < 0 ∨ 181 ≤ Int32.toNatClampNeg r10) then none else (some (x5, (jx_up v10 1 (Int32.toNatClampNeg r10) x3)))))) else ((f_X5_at x1 2 v).bind (fun (r12, v12) => (if (r12 < 0 ∨ 181 ≤ Int32.toNatClampNeg r12) then none else ((f_X5_brokenSet (jx_up v12 1 (Int32.toNatClampNeg r12) x6)).bind (fun (r14, v14) => ((f_X5_ones r14 v14).bind (fun (r15, v15) => (if x4 < r15 then (f_X5_allowed_L n x1 x2 x3 x4 x5 (x6 + 1) v15) else (f_X5_allowed_L n x1 x2 x3 x4 x6 (x6 + 1) v15))))))))))
def f_X5_allowed (x1 : Int32) (v : jx_V) : Option (Int32 × jx_V) := ((f_X5_lotWrong x1 v).bind (fun (r1, v1) => (if r1 = 0 then ((f_X5_its x1 2 v1).bind (fun (r3, v3) => ((f_X5_at x1 2 v3).bind (fun (r4, v4) => (if (r4 < 0 ∨ 181 ≤ Int32.toNatClampNeg r4) then none else ((f_X5_brokenSet (jx_up v4 1 (Int32.toNatClampNeg r4) 0)).bind (fun (r6, v6) => ((f_X5_ones r6 v6).bind (fun (r7, v7) => (f_X5_allowed_L 100000 x1 r1 r3 r7 0 1 v7)))))))))) else ((f_X5_finds r1 v1).bind (fun (r8, v8) => (some (r8, v8)))))))
def rm_X5_allowed : Room := { frames := 7, cells := 0, slots := 0, locals := 169 }
set_option maxHeartbeats 4000000 in
set_option maxRecDepth 100000 in
theorem k_X5_allowed {l : Launch} {D : va_G} {cI cJ : ClassId} {ad : Nat → Nat} {A : Nat → Prop} (hI : jx_inj 13 ad A) (x1 : Int32) (v : jx_V) (r : Int32) (v' : jx_V) (hF : f_X5_allowed x1 v = some (r, v')) : jx_Ci l D vwCl 13 cI cJ ad shM A ex_M yX5_allowed (Cond.code yX5_allowed cX5_allowed 7 (some .int) :: bigT) rm_X5_allowed [.ref (ad 0), .int x1] v r v' := by
  unfold f_X5_allowed at hF
  refine jx_enteri bigT RX5 cX5_allowed 7 (some .int) [(0, .ref (ad 0)), (1, .int x1)] hI (ex_M_ok A) (by decide +kernel) rfl (Nat.le_of_ble_eq_true rfl) rfl rfl ?_
  intro p e s m args below meth c E
  have iX5 : ∀ w ∈ u_ws RX5 TX5 21, w ∈ (Cond.code yX5_allowed cX5_allowed 7 (some .int) :: bigT) := fun w h => List.mem_cons_of_mem _ (uw_X5 w h)
  have key : ∀ n : Nat, (∀ (x1 : Int32) (x2 : Int32) (x3 : Int32) (x4 : Int32) (x5 : Int32) (x6 : Int32) (v : jx_V), f_X5_allowed_L  n  x1 x2 x3 x4 x5 x6 v = some (r, v') → jx_J p l e rm_X5_allowed s m args below meth c D vwCl 13 cI cJ ad shM A 0 0 7 (MQ below (va_Qi (fun (r1 : Int32) (_ : Unit) => r1 = r) (fun _ t => va_P D vwCl (jx_ws 13 cI cJ ad shM v') t.heap) A) args s 0 0 A) v 49 [(0, .ref (ad 0)), (1, .int x1), (2, .int x2), (3, .int x3), (4, .int x4), (5, .int x5), (6, .int x6)] []) := by
    intro n
    induction n with
    | zero =>
      exact (fun _ _ _ _ _ _ _ h => by cases h)
    | succ n ih =>
      intro x1 x2 x3 x4 x5 x6 v hF
      rw [f_X5_allowed_L] at hF
      refine jx_iload E dX5_allowed_49 6 rfl ?_
      refine jx_bipush (x := 10) E dX5_allowed_51 (by decide) ?_
      refine jx_icmp_ge (tgt := 95) E dX5_allowed_53 (by decide) (fun hc9 => ?_) (fun hc9 => ?_)
      · rw [if_pos hc9] at hF
        refine jx_aload_n E dX5_allowed_95 0 rfl ?_
        refine jx_getr (C := RX5) (T := TX5) (M := 21) (k := 0) E dX5_allowed_96 (Nat.le_of_ble_eq_true rfl) s_M0 rfl iX5 (by decide) rfl (List.mem_cons_of_mem _ tw_328) rfl ?_
        refine jx_iload_n E dX5_allowed_99 1 rfl ?_
        refine jx_iconst (x := 2) E dX5_allowed_100 (by decide) ?_
        obtain ⟨⟨r10, v10⟩, hc10, hF⟩ := jx_bind hF
        try dsimp only at hF
        refine jx_callSi (As := [.int x1, .int 2]) (st := [.ref (ad 1)]) E dX5_allowed_101 2 rfl (k_X5_at hI x1 2 v r10 v10 hc10) (gb_S (List.mem_cons_of_mem _ tw_332) (List.mem_cons_of_mem _ tw_333) (List.mem_cons_of_mem _ tw_325) tw_331) rfl rfl rfl dd_X5_at rfl ⟨by decide, by decide⟩ ⟨Nat.le_refl 0, Nat.le_refl 0⟩ (Nat.le_of_ble_eq_true rfl) ?_
        refine jx_iload_n E dX5_allowed_104 3 rfl ?_
        obtain ⟨hg11, hF⟩ := jx_guard hF
        refine jx_iast (h := 1) (j := (Int32.toNatClampNeg r10)) E dX5_allowed_105 (Nat.le_of_ble_eq_true rfl) s_M1 hg11 rfl ?_
        refine jx_iload E dX5_allowed_106 5 rfl ?_
        obtain ⟨rfl, rfl⟩ := jx_out hF
        exact jx_iret E dX5_allowed_108 rfl
      · rw [if_neg hc9] at hF
        refine jx_aload_n E dX5_allowed_56 0 rfl ?_
        refine jx_getr (C := RX5) (T := TX5) (M := 21) (k := 0) E dX5_allowed_57 (Nat.le_of_ble_eq_true rfl) s_M0 rfl iX5 (by decide) rfl (List.mem_cons_of_mem _ tw_328) rfl ?_
        refine jx_iload_n E dX5_allowed_60 1 rfl ?_
        refine jx_iconst (x := 2) E dX5_allowed_61 (by decide) ?_
        obtain ⟨⟨r12, v12⟩, hc12, hF⟩ := jx_bind hF
        try dsimp only at hF
        refine jx_callSi (As := [.int x1, .int 2]) (st := [.ref (ad 1)]) E dX5_allowed_62 2 rfl (k_X5_at hI x1 2 v r12 v12 hc12) (gb_S (List.mem_cons_of_mem _ tw_332) (List.mem_cons_of_mem _ tw_333) (List.mem_cons_of_mem _ tw_325) tw_331) rfl rfl rfl dd_X5_at rfl ⟨by decide, by decide⟩ ⟨Nat.le_refl 0, Nat.le_refl 0⟩ (Nat.le_of_ble_eq_true rfl) ?_
        refine jx_iload E dX5_allowed_65 6 rfl ?_
        obtain ⟨hg13, hF⟩ := jx_guard hF
        refine jx_iast (h := 1) (j := (Int32.toNatClampNeg r12)) E dX5_allowed_67 (Nat.le_of_ble_eq_true rfl) s_M1 hg13 rfl ?_
        refine jx_aload_n E dX5_allowed_68 0 rfl ?_
        obtain ⟨⟨r14, v14⟩, hc14, hF⟩ := jx_bind hF
        try dsimp only at hF
        refine jx_callVi (As := []) (st := []) (h := 0) E dX5_allowed_69 0 rfl (k_X5_brokenSet hI  (jx_up v12 1 (Int32.toNatClampNeg r12) x6) r14 v14 hc14) (gb_V (List.mem_cons_of_mem _ tw_440) (List.mem_cons_of_mem _ tw_441) (List.mem_cons_of_mem _ tw_442) (List.mem_cons_of_mem _ tw_325) tw_439) rfl rfl rfl dd_X5_brokenSet rfl (Nat.le_of_ble_eq_true rfl) s_M0 rfl ⟨by decide, by decide⟩ ⟨Nat.le_refl 0, Nat.le_refl 0⟩ (Nat.le_of_ble_eq_true rfl) ?_
        obtain ⟨⟨r15, v15⟩, hc15, hF⟩ := jx_bind hF
        try dsimp only at hF
        refine jx_callSi (As := [.int r14]) (st := []) E dX5_allowed_72 1 rfl (k_X5_ones hI r14 v14 r15 v15 hc15) (gb_S (List.mem_cons_of_mem _ tw_418) (List.mem_cons_of_mem _ tw_419) (List.mem_cons_of_mem _ tw_325) tw_417) rfl rfl rfl dd_X5_ones rfl ⟨by decide, by decide⟩ ⟨Nat.le_refl 0, Nat.le_refl 0⟩ (Nat.le_of_ble_eq_true rfl) ?_
        refine jx_iload E dX5_allowed_75 4 rfl ?_
        refine jx_icmp_gt (tgt := 85) E dX5_allowed_77 (by decide) (fun hc16 => ?_) (fun hc16 => ?_)
        · rw [if_pos hc16] at hF
          refine jx_iload E dX5_allowed_85 5 rfl ?_
          refine jx_istore (lv' := [(5, .int x5), (0, .ref (ad 0)), (1, .int x1), (2, .int x2), (3, .int x3), (4, .int x4), (6, .int x6)]) E dX5_allowed_87 (by decide) rfl ?_
          refine jx_iinc (y := (x6 + 1)) (lv' := [(6, .int (x6 + 1)), (5, .int x5), (0, .ref (ad 0)), (1, .int x1), (2, .int x2), (3, .int x3), (4, .int x4)]) E dX5_allowed_89 6 rfl rfl (by decide) rfl ?_
          refine jx_goto (tgt := 49) E dX5_allowed_92 (by decide) ?_
          refine jx_sub [2, 3, 4, 5, 6, 1, 0] rfl ?_
          exact ih x1 x2 x3 x4 x5 (x6 + 1) v15 hF
        · rw [if_neg hc16] at hF
          refine jx_iload E dX5_allowed_80 6 rfl ?_
          refine jx_goto (tgt := 87) E dX5_allowed_82 (by decide) ?_
          refine jx_istore (lv' := [(5, .int x6), (0, .ref (ad 0)), (1, .int x1), (2, .int x2), (3, .int x3), (4, .int x4), (6, .int x6)]) E dX5_allowed_87 (by decide) rfl ?_
          refine jx_iinc (y := (x6 + 1)) (lv' := [(6, .int (x6 + 1)), (5, .int x6), (0, .ref (ad 0)), (1, .int x1), (2, .int x2), (3, .int x3), (4, .int x4)]) E dX5_allowed_89 6 rfl rfl (by decide) rfl ?_
          refine jx_goto (tgt := 49) E dX5_allowed_92 (by decide) ?_
          refine jx_sub [2, 3, 4, 5, 6, 1, 0] rfl ?_
          exact ih x1 x2 x3 x4 x6 (x6 + 1) v15 hF
  refine jx_aload_n E dX5_allowed_0 0 rfl ?_
  refine jx_iload_n E dX5_allowed_1 1 rfl ?_
  obtain ⟨⟨r1, v1⟩, hc1, hF⟩ := jx_bind hF
  try dsimp only at hF
  refine jx_callVi (As := [.int x1]) (st := []) (h := 0) E dX5_allowed_2 1 rfl (k_X5_lotWrong hI x1 v r1 v1 hc1) (gb_V (List.mem_cons_of_mem _ tw_367) (List.mem_cons_of_mem _ tw_368) (List.mem_cons_of_mem _ tw_369) (List.mem_cons_of_mem _ tw_325) tw_366) rfl rfl rfl dd_X5_lotWrong rfl (Nat.le_of_ble_eq_true rfl) s_M0 rfl ⟨by decide, by decide⟩ ⟨Nat.le_refl 0, Nat.le_refl 0⟩ (Nat.le_of_ble_eq_true rfl) ?_
  refine jx_istore_n (lv' := [(2, .int r1), (0, .ref (ad 0)), (1, .int x1)]) E dX5_allowed_5 (by decide) rfl ?_
  refine jx_iload_n E dX5_allowed_6 0 rfl ?_
  refine jx_if_eq (tgt := 16) E dX5_allowed_7 (by decide) (fun hc2 => ?_) (fun hc2 => ?_)
  · rw [if_pos hc2] at hF
    refine jx_aload_n E dX5_allowed_16 1 rfl ?_
    refine jx_iload_n E dX5_allowed_17 2 rfl ?_
    refine jx_iconst (x := 2) E dX5_allowed_18 (by decide) ?_
    obtain ⟨⟨r3, v3⟩, hc3, hF⟩ := jx_bind hF
    try dsimp only at hF
    refine jx_callVi (As := [.int x1, .int 2]) (st := []) (h := 0) E dX5_allowed_19 2 rfl (k_X5_its hI x1 2 v1 r3 v3 hc3) (gb_V (List.mem_cons_of_mem _ tw_335) (List.mem_cons_of_mem _ tw_336) (List.mem_cons_of_mem _ tw_337) (List.mem_cons_of_mem _ tw_325) tw_334) rfl rfl rfl dd_X5_its rfl (Nat.le_of_ble_eq_true rfl) s_M0 rfl ⟨by decide, by decide⟩ ⟨Nat.le_refl 0, Nat.le_refl 0⟩ (Nat.le_of_ble_eq_true rfl) ?_
    refine jx_istore_n (lv' := [(3, .int r3), (2, .int r1), (0, .ref (ad 0)), (1, .int x1)]) E dX5_allowed_22 (by decide) rfl ?_
    refine jx_aload_n E dX5_allowed_23 2 rfl ?_
    refine jx_getr (C := RX5) (T := TX5) (M := 21) (k := 0) E dX5_allowed_24 (Nat.le_of_ble_eq_true rfl) s_M0 rfl iX5 (by decide) rfl (List.mem_cons_of_mem _ tw_328) rfl ?_
    refine jx_iload_n E dX5_allowed_27 3 rfl ?_
    refine jx_iconst (x := 2) E dX5_allowed_28 (by decide) ?_
    obtain ⟨⟨r4, v4⟩, hc4, hF⟩ := jx_bind hF
    try dsimp only at hF
    refine jx_callSi (As := [.int x1, .int 2]) (st := [.ref (ad 1)]) E dX5_allowed_29 2 rfl (k_X5_at hI x1 2 v3 r4 v4 hc4) (gb_S (List.mem_cons_of_mem _ tw_332) (List.mem_cons_of_mem _ tw_333) (List.mem_cons_of_mem _ tw_325) tw_331) rfl rfl rfl dd_X5_at rfl ⟨by decide, by decide⟩ ⟨Nat.le_refl 0, Nat.le_refl 0⟩ (Nat.le_of_ble_eq_true rfl) ?_
    refine jx_iconst (x := 0) E dX5_allowed_32 (by decide) ?_
    obtain ⟨hg5, hF⟩ := jx_guard hF
    refine jx_iast (h := 1) (j := (Int32.toNatClampNeg r4)) E dX5_allowed_33 (Nat.le_of_ble_eq_true rfl) s_M1 hg5 rfl ?_
    refine jx_aload_n E dX5_allowed_34 2 rfl ?_
    obtain ⟨⟨r6, v6⟩, hc6, hF⟩ := jx_bind hF
    try dsimp only at hF
    refine jx_callVi (As := []) (st := []) (h := 0) E dX5_allowed_35 0 rfl (k_X5_brokenSet hI  (jx_up v4 1 (Int32.toNatClampNeg r4) 0) r6 v6 hc6) (gb_V (List.mem_cons_of_mem _ tw_440) (List.mem_cons_of_mem _ tw_441) (List.mem_cons_of_mem _ tw_442) (List.mem_cons_of_mem _ tw_325) tw_439) rfl rfl rfl dd_X5_brokenSet rfl (Nat.le_of_ble_eq_true rfl) s_M0 rfl ⟨by decide, by decide⟩ ⟨Nat.le_refl 0, Nat.le_refl 0⟩ (Nat.le_of_ble_eq_true rfl) ?_
    obtain ⟨⟨r7, v7⟩, hc7, hF⟩ := jx_bind hF
    try dsimp only at hF
    refine jx_callSi (As := [.int r6]) (st := []) E dX5_allowed_38 1 rfl (k_X5_ones hI r6 v6 r7 v7 hc7) (gb_S (List.mem_cons_of_mem _ tw_418) (List.mem_cons_of_mem _ tw_419) (List.mem_cons_of_mem _ tw_325) tw_417) rfl rfl rfl dd_X5_ones rfl ⟨by decide, by decide⟩ ⟨Nat.le_refl 0, Nat.le_refl 0⟩ (Nat.le_of_ble_eq_true rfl) ?_
    refine jx_istore (lv' := [(4, .int r7), (3, .int r3), (2, .int r1), (0, .ref (ad 0)), (1, .int x1)]) E dX5_allowed_41 (by decide) rfl ?_
    refine jx_iconst (x := 0) E dX5_allowed_43 (by decide) ?_
    refine jx_istore (lv' := [(5, .int 0), (4, .int r7), (3, .int r3), (2, .int r1), (0, .ref (ad 0)), (1, .int x1)]) E dX5_allowed_44 (by decide) rfl ?_
    refine jx_iconst (x := 1) E dX5_allowed_46 (by decide) ?_
    refine jx_istore (lv' := [(6, .int 1), (5, .int 0), (4, .int r7), (3, .int r3), (2, .int r1), (0, .ref (ad 0)), (1, .int x1)]) E dX5_allowed_47 (by decide) rfl ?_
    refine jx_sub [5, 6, 4, 3, 2, 1, 0] rfl ?_
    exact (key 100000) x1 r1 r3 r7 0 1 v7 hF
  · rw [if_neg hc2] at hF
    refine jx_aload_n E dX5_allowed_10 1 rfl ?_
    refine jx_iload_n E dX5_allowed_11 0 rfl ?_
    obtain ⟨⟨r8, v8⟩, hc8, hF⟩ := jx_bind hF
    try dsimp only at hF
    refine jx_callVi (As := [.int r1]) (st := []) (h := 0) E dX5_allowed_12 1 rfl (k_X5_finds hI r1 v1 r8 v8 hc8) (gb_V (List.mem_cons_of_mem _ tw_344) (List.mem_cons_of_mem _ tw_345) (List.mem_cons_of_mem _ tw_346) (List.mem_cons_of_mem _ tw_325) tw_343) rfl rfl rfl dd_X5_finds rfl (Nat.le_of_ble_eq_true rfl) s_M0 rfl ⟨by decide, by decide⟩ ⟨Nat.le_refl 0, Nat.le_refl 0⟩ (Nat.le_of_ble_eq_true rfl) ?_
    obtain ⟨rfl, rfl⟩ := jx_out hF
    exact jx_iret E dX5_allowed_15 rfl
def f_X5_viewOf (x1 : Int32) (v : jx_V) : Option (Int32 × jx_V) := ((f_X5_looks x1 v).bind (fun v1 => (some ((v1 0 6), v1))))
def rm_X5_viewOf : Room := { frames := 5, cells := 0, slots := 0, locals := 125 }
set_option maxHeartbeats 4000000 in
set_option maxRecDepth 100000 in
theorem k_X5_viewOf {l : Launch} {D : va_G} {cI cJ : ClassId} {ad : Nat → Nat} {A : Nat → Prop} (hI : jx_inj 13 ad A) (x1 : Int32) (v : jx_V) (r : Int32) (v' : jx_V) (hF : f_X5_viewOf x1 v = some (r, v')) : jx_Ci l D vwCl 13 cI cJ ad shM A ex_M yX5_viewOf (Cond.code yX5_viewOf cX5_viewOf 2 (some .int) :: bigT) rm_X5_viewOf [.ref (ad 0), .int x1] v r v' := by
  unfold f_X5_viewOf at hF
  refine jx_enteri bigT RX5 cX5_viewOf 2 (some .int) [(0, .ref (ad 0)), (1, .int x1)] hI (ex_M_ok A) (by decide +kernel) rfl (Nat.le_of_ble_eq_true rfl) rfl rfl ?_
  intro p e s m args below meth c E
  have iX5 : ∀ w ∈ u_ws RX5 TX5 21, w ∈ (Cond.code yX5_viewOf cX5_viewOf 2 (some .int) :: bigT) := fun w h => List.mem_cons_of_mem _ (uw_X5 w h)
  refine jx_aload_n E dX5_viewOf_0 0 rfl ?_
  refine jx_iload_n E dX5_viewOf_1 1 rfl ?_
  obtain ⟨v1, hc1, hF⟩ := jx_bind hF
  try dsimp only at hF
  refine jx_callVv (As := [.int x1]) (st := []) (h := 0) E dX5_viewOf_2 1 rfl (k_X5_looks hI x1 v v1 hc1) (gb_V (List.mem_cons_of_mem _ tw_422) (List.mem_cons_of_mem _ tw_423) (List.mem_cons_of_mem _ tw_424) (List.mem_cons_of_mem _ tw_325) tw_421) rfl rfl rfl dd_X5_looks rfl (Nat.le_of_ble_eq_true rfl) s_M0 rfl ⟨by decide, by decide⟩ ⟨Nat.le_refl 0, Nat.le_refl 0⟩ (Nat.le_of_ble_eq_true rfl) ?_
  refine jx_aload_n E dX5_viewOf_5 0 rfl ?_
  refine jx_geti (C := RX5) (T := TX5) (M := 21) (k := 6) E dX5_viewOf_6 (Nat.le_of_ble_eq_true rfl) s_M0 rfl iX5 (by decide) rfl (List.mem_cons_of_mem _ tw_409) rfl ?_
  obtain ⟨rfl, rfl⟩ := jx_out hF
  exact jx_iret E dX5_viewOf_9 rfl
def f_X5_opens_L  : Nat → Int32 → Int32 → Int32 → Int32 → Int32 → jx_V → Option (Int32 × jx_V)
  | 0, _, _, _, _, _, _ => none
  | n + 1, x1, x2, x3, x4, x5, v => (if (v 1 1) ≤ x5 then (some (x4, v)) else ((f_X5_viewOf x5 v).bind (fun (r6, v6) => ((f_X5_at x1 0 v6).bind (fun (r7, v7) => (if (r7 < 0 ∨ 181 ≤ Int32.toNatClampNeg r7) then none else ((f_X5_viewOf x5 (jx_up v7 1 (Int32.toNatClampNeg r7) (-1))).bind (fun (r9, v9) => (if r9 ≤ r6 then ((f_X5_at x1 0 v9).bind (fun (r11, v11) => (if (r11 < 0 ∨ 181 ≤ Int32.toNatClampNeg r11) then none else (f_X5_opens_L n x1 x2 x3 (x4 ||| 0) (x5 + 1) (jx_up v11 1 (Int32.toNatClampNeg r11) x3))))) else ((f_X5_at x1 0 v9).bind (fun (r13, v13) => (if (r13 < 0 ∨ 181 ≤ Int32.toNatClampNeg r13) then none else (f_X5_opens_L n x1 x2 x3 (x4 ||| (1 <<< (x5 &&& 31))) (x5 + 1) (jx_up v13 1 (Int32.toNatClampNeg r13) x3))))))))))))))
def f_X5_opens (x1 : Int32) (v : jx_V) : Option (Int32 × jx_V) := ((f_X5_lotWrong x1 v).bind (fun (r1, v1) => (if r1 = 0 then ((f_X5_its x1 0 v1).bind (fun (r3, v3) => (f_X5_opens_L 100000 x1 r1 r3 0 0 v3))) else ((f_X5_finds r1 v1).bind (fun (r4, v4) => (some (r4, v4)))))))
def rm_X5_opens : Room := { frames := 6, cells := 0, slots := 0, locals := 146 }
set_option maxHeartbeats 4000000 in
set_option maxRecDepth 100000 in
theorem k_X5_opens {l : Launch} {D : va_G} {cI cJ : ClassId} {ad : Nat → Nat} {A : Nat → Prop} (hI : jx_inj 13 ad A) (x1 : Int32) (v : jx_V) (r : Int32) (v' : jx_V) (hF : f_X5_opens x1 v = some (r, v')) : jx_Ci l D vwCl 13 cI cJ ad shM A ex_M yX5_opens (Cond.code yX5_opens cX5_opens 7 (some .int) :: bigT) rm_X5_opens [.ref (ad 0), .int x1] v r v' := by
  unfold f_X5_opens at hF
  refine jx_enteri bigT RX5 cX5_opens 7 (some .int) [(0, .ref (ad 0)), (1, .int x1)] hI (ex_M_ok A) (by decide +kernel) rfl (Nat.le_of_ble_eq_true rfl) rfl rfl ?_
  intro p e s m args below meth c E
  have iX5 : ∀ w ∈ u_ws RX5 TX5 21, w ∈ (Cond.code yX5_opens cX5_opens 7 (some .int) :: bigT) := fun w h => List.mem_cons_of_mem _ (uw_X5 w h)
  have key : ∀ n : Nat, (∀ (x1 : Int32) (x2 : Int32) (x3 : Int32) (x4 : Int32) (x5 : Int32) (v : jx_V), f_X5_opens_L  n  x1 x2 x3 x4 x5 v = some (r, v') → jx_J p l e rm_X5_opens s m args below meth c D vwCl 13 cI cJ ad shM A 0 0 7 (MQ below (va_Qi (fun (r1 : Int32) (_ : Unit) => r1 = r) (fun _ t => va_P D vwCl (jx_ws 13 cI cJ ad shM v') t.heap) A) args s 0 0 A) v 29 [(0, .ref (ad 0)), (1, .int x1), (2, .int x2), (3, .int x3), (4, .int x4), (5, .int x5)] []) := by
    intro n
    induction n with
    | zero =>
      exact (fun _ _ _ _ _ _ h => by cases h)
    | succ n ih =>
      intro x1 x2 x3 x4 x5 v hF
      rw [f_X5_opens_L] at hF
      refine jx_iload E dX5_opens_29 5 rfl ?_
      refine jx_aload_n E dX5_opens_31 0 rfl ?_
      refine jx_getr (C := RX5) (T := TX5) (M := 21) (k := 0) E dX5_opens_32 (Nat.le_of_ble_eq_true rfl) s_M0 rfl iX5 (by decide) rfl (List.mem_cons_of_mem _ tw_328) rfl ?_
      refine jx_iconst (x := 1) E dX5_opens_35 (by decide) ?_
      refine jx_iald (h := 1) (j := 1) E dX5_opens_36 (Nat.le_of_ble_eq_true rfl) s_M1 (by decide) (by decide) ?_
      refine jx_icmp_ge (tgt := 100) E dX5_opens_37 (by decide) (fun hc5 => ?_) (fun hc5 => ?_)
      · rw [if_pos hc5] at hF
        refine jx_iload E dX5_opens_100 4 rfl ?_
        obtain ⟨rfl, rfl⟩ := jx_out hF
        exact jx_iret E dX5_opens_102 rfl
      · rw [if_neg hc5] at hF
        refine jx_aload_n E dX5_opens_40 0 rfl ?_
        refine jx_iload E dX5_opens_41 5 rfl ?_
        obtain ⟨⟨r6, v6⟩, hc6, hF⟩ := jx_bind hF
        try dsimp only at hF
        refine jx_callVi (As := [.int x5]) (st := []) (h := 0) E dX5_opens_43 1 rfl (k_X5_viewOf hI x5 v r6 v6 hc6) (gb_V (List.mem_cons_of_mem _ tw_482) (List.mem_cons_of_mem _ tw_483) (List.mem_cons_of_mem _ tw_484) (List.mem_cons_of_mem _ tw_325) tw_481) rfl rfl rfl dd_X5_viewOf rfl (Nat.le_of_ble_eq_true rfl) s_M0 rfl ⟨by decide, by decide⟩ ⟨Nat.le_refl 0, Nat.le_refl 0⟩ (Nat.le_of_ble_eq_true rfl) ?_
        refine jx_istore (lv' := [(6, .int r6), (0, .ref (ad 0)), (1, .int x1), (2, .int x2), (3, .int x3), (4, .int x4), (5, .int x5)]) E dX5_opens_46 (by decide) rfl ?_
        refine jx_aload_n E dX5_opens_48 1 rfl ?_
        refine jx_getr (C := RX5) (T := TX5) (M := 21) (k := 0) E dX5_opens_49 (Nat.le_of_ble_eq_true rfl) s_M0 rfl iX5 (by decide) rfl (List.mem_cons_of_mem _ tw_328) rfl ?_
        refine jx_iload_n E dX5_opens_52 2 rfl ?_
        refine jx_iconst (x := 0) E dX5_opens_53 (by decide) ?_
        obtain ⟨⟨r7, v7⟩, hc7, hF⟩ := jx_bind hF
        try dsimp only at hF
        refine jx_callSi (As := [.int x1, .int 0]) (st := [.ref (ad 1)]) E dX5_opens_54 2 rfl (k_X5_at hI x1 0 v6 r7 v7 hc7) (gb_S (List.mem_cons_of_mem _ tw_332) (List.mem_cons_of_mem _ tw_333) (List.mem_cons_of_mem _ tw_325) tw_331) rfl rfl rfl dd_X5_at rfl ⟨by decide, by decide⟩ ⟨Nat.le_refl 0, Nat.le_refl 0⟩ (Nat.le_of_ble_eq_true rfl) ?_
        refine jx_iconst (x := -1) E dX5_opens_57 (by decide) ?_
        obtain ⟨hg8, hF⟩ := jx_guard hF
        refine jx_iast (h := 1) (j := (Int32.toNatClampNeg r7)) E dX5_opens_58 (Nat.le_of_ble_eq_true rfl) s_M1 hg8 rfl ?_
        refine jx_iload E dX5_opens_59 5 rfl ?_
        refine jx_aload_n E dX5_opens_61 1 rfl ?_
        refine jx_iload E dX5_opens_62 6 rfl ?_
        obtain ⟨⟨r9, v9⟩, hc9, hF⟩ := jx_bind hF
        try dsimp only at hF
        refine jx_callVi (As := [.int x5]) (st := [.int x4]) (h := 0) E dX5_opens_64 1 rfl (k_X5_viewOf hI x5 (jx_up v7 1 (Int32.toNatClampNeg r7) (-1)) r9 v9 hc9) (gb_V (List.mem_cons_of_mem _ tw_482) (List.mem_cons_of_mem _ tw_483) (List.mem_cons_of_mem _ tw_484) (List.mem_cons_of_mem _ tw_325) tw_481) rfl rfl rfl dd_X5_viewOf rfl (Nat.le_of_ble_eq_true rfl) s_M0 rfl ⟨by decide, by decide⟩ ⟨Nat.le_refl 0, Nat.le_refl 0⟩ (Nat.le_of_ble_eq_true rfl) ?_
        refine jx_iload E dX5_opens_67 0 rfl ?_
        refine jx_icmp_le (tgt := 79) E dX5_opens_69 (by decide) (fun hc10 => ?_) (fun hc10 => ?_)
        · rw [if_pos hc10] at hF
          refine jx_iconst (x := 0) E dX5_opens_79 (by decide) ?_
          refine jx_ior E dX5_opens_80 ?_
          refine jx_istore (lv' := [(4, .int (x4 ||| 0)), (6, .int r6), (0, .ref (ad 0)), (1, .int x1), (2, .int x2), (3, .int x3), (5, .int x5)]) E dX5_opens_81 (by decide) rfl ?_
          refine jx_aload_n E dX5_opens_83 2 rfl ?_
          refine jx_getr (C := RX5) (T := TX5) (M := 21) (k := 0) E dX5_opens_84 (Nat.le_of_ble_eq_true rfl) s_M0 rfl iX5 (by decide) rfl (List.mem_cons_of_mem _ tw_328) rfl ?_
          refine jx_iload_n E dX5_opens_87 3 rfl ?_
          refine jx_iconst (x := 0) E dX5_opens_88 (by decide) ?_
          obtain ⟨⟨r11, v11⟩, hc11, hF⟩ := jx_bind hF
          try dsimp only at hF
          refine jx_callSi (As := [.int x1, .int 0]) (st := [.ref (ad 1)]) E dX5_opens_89 2 rfl (k_X5_at hI x1 0 v9 r11 v11 hc11) (gb_S (List.mem_cons_of_mem _ tw_332) (List.mem_cons_of_mem _ tw_333) (List.mem_cons_of_mem _ tw_325) tw_331) rfl rfl rfl dd_X5_at rfl ⟨by decide, by decide⟩ ⟨Nat.le_refl 0, Nat.le_refl 0⟩ (Nat.le_of_ble_eq_true rfl) ?_
          refine jx_iload_n E dX5_opens_92 5 rfl ?_
          obtain ⟨hg12, hF⟩ := jx_guard hF
          refine jx_iast (h := 1) (j := (Int32.toNatClampNeg r11)) E dX5_opens_93 (Nat.le_of_ble_eq_true rfl) s_M1 hg12 rfl ?_
          refine jx_iinc (y := (x5 + 1)) (lv' := [(5, .int (x5 + 1)), (4, .int (x4 ||| 0)), (6, .int r6), (0, .ref (ad 0)), (1, .int x1), (2, .int x2), (3, .int x3)]) E dX5_opens_94 6 rfl rfl (by decide) rfl ?_
          refine jx_goto (tgt := 29) E dX5_opens_97 (by decide) ?_
          refine jx_sub [3, 4, 5, 6, 1, 0] rfl ?_
          exact ih x1 x2 x3 (x4 ||| 0) (x5 + 1) (jx_up v11 1 (Int32.toNatClampNeg r11) x3) hF
        · rw [if_neg hc10] at hF
          refine jx_iconst (x := 1) E dX5_opens_72 (by decide) ?_
          refine jx_iload E dX5_opens_73 6 rfl ?_
          refine jx_ishl E dX5_opens_75 ?_
          refine jx_goto (tgt := 80) E dX5_opens_76 (by decide) ?_
          refine jx_ior E dX5_opens_80 ?_
          refine jx_istore (lv' := [(4, .int (x4 ||| (1 <<< (x5 &&& 31)))), (6, .int r6), (0, .ref (ad 0)), (1, .int x1), (2, .int x2), (3, .int x3), (5, .int x5)]) E dX5_opens_81 (by decide) rfl ?_
          refine jx_aload_n E dX5_opens_83 2 rfl ?_
          refine jx_getr (C := RX5) (T := TX5) (M := 21) (k := 0) E dX5_opens_84 (Nat.le_of_ble_eq_true rfl) s_M0 rfl iX5 (by decide) rfl (List.mem_cons_of_mem _ tw_328) rfl ?_
          refine jx_iload_n E dX5_opens_87 3 rfl ?_
          refine jx_iconst (x := 0) E dX5_opens_88 (by decide) ?_
          obtain ⟨⟨r13, v13⟩, hc13, hF⟩ := jx_bind hF
          try dsimp only at hF
          refine jx_callSi (As := [.int x1, .int 0]) (st := [.ref (ad 1)]) E dX5_opens_89 2 rfl (k_X5_at hI x1 0 v9 r13 v13 hc13) (gb_S (List.mem_cons_of_mem _ tw_332) (List.mem_cons_of_mem _ tw_333) (List.mem_cons_of_mem _ tw_325) tw_331) rfl rfl rfl dd_X5_at rfl ⟨by decide, by decide⟩ ⟨Nat.le_refl 0, Nat.le_refl 0⟩ (Nat.le_of_ble_eq_true rfl) ?_
          refine jx_iload_n E dX5_opens_92 5 rfl ?_
          obtain ⟨hg14, hF⟩ := jx_guard hF
          refine jx_iast (h := 1) (j := (Int32.toNatClampNeg r13)) E dX5_opens_93 (Nat.le_of_ble_eq_true rfl) s_M1 hg14 rfl ?_
          refine jx_iinc (y := (x5 + 1)) (lv' := [(5, .int (x5 + 1)), (4, .int (x4 ||| (1 <<< (x5 &&& 31)))), (6, .int r6), (0, .ref (ad 0)), (1, .int x1), (2, .int x2), (3, .int x3)]) E dX5_opens_94 6 rfl rfl (by decide) rfl ?_
          refine jx_goto (tgt := 29) E dX5_opens_97 (by decide) ?_
          refine jx_sub [3, 4, 5, 6, 1, 0] rfl ?_
          exact ih x1 x2 x3 (x4 ||| (1 <<< (x5 &&& 31))) (x5 + 1) (jx_up v13 1 (Int32.toNatClampNeg r13) x3) hF
  refine jx_aload_n E dX5_opens_0 0 rfl ?_
  refine jx_iload_n E dX5_opens_1 1 rfl ?_
  obtain ⟨⟨r1, v1⟩, hc1, hF⟩ := jx_bind hF
  try dsimp only at hF
  refine jx_callVi (As := [.int x1]) (st := []) (h := 0) E dX5_opens_2 1 rfl (k_X5_lotWrong hI x1 v r1 v1 hc1) (gb_V (List.mem_cons_of_mem _ tw_367) (List.mem_cons_of_mem _ tw_368) (List.mem_cons_of_mem _ tw_369) (List.mem_cons_of_mem _ tw_325) tw_366) rfl rfl rfl dd_X5_lotWrong rfl (Nat.le_of_ble_eq_true rfl) s_M0 rfl ⟨by decide, by decide⟩ ⟨Nat.le_refl 0, Nat.le_refl 0⟩ (Nat.le_of_ble_eq_true rfl) ?_
  refine jx_istore_n (lv' := [(2, .int r1), (0, .ref (ad 0)), (1, .int x1)]) E dX5_opens_5 (by decide) rfl ?_
  refine jx_iload_n E dX5_opens_6 0 rfl ?_
  refine jx_if_eq (tgt := 16) E dX5_opens_7 (by decide) (fun hc2 => ?_) (fun hc2 => ?_)
  · rw [if_pos hc2] at hF
    refine jx_aload_n E dX5_opens_16 1 rfl ?_
    refine jx_iload_n E dX5_opens_17 2 rfl ?_
    refine jx_iconst (x := 0) E dX5_opens_18 (by decide) ?_
    obtain ⟨⟨r3, v3⟩, hc3, hF⟩ := jx_bind hF
    try dsimp only at hF
    refine jx_callVi (As := [.int x1, .int 0]) (st := []) (h := 0) E dX5_opens_19 2 rfl (k_X5_its hI x1 0 v1 r3 v3 hc3) (gb_V (List.mem_cons_of_mem _ tw_335) (List.mem_cons_of_mem _ tw_336) (List.mem_cons_of_mem _ tw_337) (List.mem_cons_of_mem _ tw_325) tw_334) rfl rfl rfl dd_X5_its rfl (Nat.le_of_ble_eq_true rfl) s_M0 rfl ⟨by decide, by decide⟩ ⟨Nat.le_refl 0, Nat.le_refl 0⟩ (Nat.le_of_ble_eq_true rfl) ?_
    refine jx_istore_n (lv' := [(3, .int r3), (2, .int r1), (0, .ref (ad 0)), (1, .int x1)]) E dX5_opens_22 (by decide) rfl ?_
    refine jx_iconst (x := 0) E dX5_opens_23 (by decide) ?_
    refine jx_istore (lv' := [(4, .int 0), (3, .int r3), (2, .int r1), (0, .ref (ad 0)), (1, .int x1)]) E dX5_opens_24 (by decide) rfl ?_
    refine jx_iconst (x := 0) E dX5_opens_26 (by decide) ?_
    refine jx_istore (lv' := [(5, .int 0), (4, .int 0), (3, .int r3), (2, .int r1), (0, .ref (ad 0)), (1, .int x1)]) E dX5_opens_27 (by decide) rfl ?_
    refine jx_sub [4, 5, 3, 2, 1, 0] rfl ?_
    exact (key 100000) x1 r1 r3 0 0 v3 hF
  · rw [if_neg hc2] at hF
    refine jx_aload_n E dX5_opens_10 1 rfl ?_
    refine jx_iload_n E dX5_opens_11 0 rfl ?_
    obtain ⟨⟨r4, v4⟩, hc4, hF⟩ := jx_bind hF
    try dsimp only at hF
    refine jx_callVi (As := [.int r1]) (st := []) (h := 0) E dX5_opens_12 1 rfl (k_X5_finds hI r1 v1 r4 v4 hc4) (gb_V (List.mem_cons_of_mem _ tw_344) (List.mem_cons_of_mem _ tw_345) (List.mem_cons_of_mem _ tw_346) (List.mem_cons_of_mem _ tw_325) tw_343) rfl rfl rfl dd_X5_finds rfl (Nat.le_of_ble_eq_true rfl) s_M0 rfl ⟨by decide, by decide⟩ ⟨Nat.le_refl 0, Nat.le_refl 0⟩ (Nat.le_of_ble_eq_true rfl) ?_
    obtain ⟨rfl, rfl⟩ := jx_out hF
    exact jx_iret E dX5_opens_15 rfl
def f_X5_level_L  : Nat → Int32 → Int32 → Int32 → Int32 → Int32 → jx_V → Option (Int32 × jx_V)
  | 0, _, _, _, _, _, _ => none
  | n + 1, x1, x2, x3, x4, x5, v => (if 10 ≤ x5 then ((f_X5_where x1 1 v).bind (fun (r6, v6) => (if (r6 < 0 ∨ 181 ≤ Int32.toNatClampNeg r6) then none else (some (x3, (jx_up v6 1 (Int32.toNatClampNeg r6) x2)))))) else ((f_X5_where x1 1 v).bind (fun (r8, v8) => (if (r8 < 0 ∨ 181 ≤ Int32.toNatClampNeg r8) then none else ((f_X5_viewOf x1 (jx_up v8 1 (Int32.toNatClampNeg r8) x5)).bind (fun (r10, v10) => (if r10 ≤ x4 then (if r10 ≤ x4 then (f_X5_level_L n x1 x2 x3 x4 (x5 + 1) v10) else (f_X5_level_L n x1 x2 x3 r10 (x5 + 1) v10)) else (if r10 ≤ x4 then (f_X5_level_L n x1 x2 x5 x4 (x5 + 1) v10) else (f_X5_level_L n x1 x2 x5 r10 (x5 + 1) v10)))))))))
def f_X5_level (x1 : Int32) (v : jx_V) : Option (Int32 × jx_V) := ((f_X5_isWindow x1 v).bind (fun (r1, v1) => (if r1 = 0 then ((f_X5_finds (-1000001) v1).bind (fun (r4, v4) => (some (r4, v4)))) else ((f_X5_told x1 1 v1).bind (fun (r3, v3) => (f_X5_level_L 100000 x1 r3 0 (-1) 0 v3))))))
def rm_X5_level : Room := { frames := 6, cells := 0, slots := 0, locals := 146 }
set_option maxHeartbeats 4000000 in
set_option maxRecDepth 100000 in
theorem k_X5_level {l : Launch} {D : va_G} {cI cJ : ClassId} {ad : Nat → Nat} {A : Nat → Prop} (hI : jx_inj 13 ad A) (x1 : Int32) (v : jx_V) (r : Int32) (v' : jx_V) (hF : f_X5_level x1 v = some (r, v')) : jx_Ci l D vwCl 13 cI cJ ad shM A ex_M yX5_level (Cond.code yX5_level cX5_level 7 (some .int) :: bigT) rm_X5_level [.ref (ad 0), .int x1] v r v' := by
  unfold f_X5_level at hF
  refine jx_enteri bigT RX5 cX5_level 7 (some .int) [(0, .ref (ad 0)), (1, .int x1)] hI (ex_M_ok A) (by decide +kernel) rfl (Nat.le_of_ble_eq_true rfl) rfl rfl ?_
  intro p e s m args below meth c E
  have iX5 : ∀ w ∈ u_ws RX5 TX5 21, w ∈ (Cond.code yX5_level cX5_level 7 (some .int) :: bigT) := fun w h => List.mem_cons_of_mem _ (uw_X5 w h)
  have key : ∀ n : Nat, (∀ (x1 : Int32) (x2 : Int32) (x3 : Int32) (x4 : Int32) (x5 : Int32) (v : jx_V), f_X5_level_L  n  x1 x2 x3 x4 x5 v = some (r, v') → jx_J p l e rm_X5_level s m args below meth c D vwCl 13 cI cJ ad shM A 0 0 7 (MQ below (va_Qi (fun (r1 : Int32) (_ : Unit) => r1 = r) (fun _ t => va_P D vwCl (jx_ws 13 cI cJ ad shM v') t.heap) A) args s 0 0 A) v 30 [(0, .ref (ad 0)), (1, .int x1), (2, .int x2), (3, .int x3), (4, .int x4), (5, .int x5)] []) := by
    intro n
    induction n with
    | zero =>
      exact (fun _ _ _ _ _ _ h => by cases h)
    | succ n ih =>
      intro x1 x2 x3 x4 x5 v hF
      rw [f_X5_level_L] at hF
      refine jx_iload E dX5_level_30 5 rfl ?_
      refine jx_bipush (x := 10) E dX5_level_32 (by decide) ?_
      refine jx_icmp_ge (tgt := 92) E dX5_level_34 (by decide) (fun hc5 => ?_) (fun hc5 => ?_)
      · rw [if_pos hc5] at hF
        refine jx_aload_n E dX5_level_92 0 rfl ?_
        refine jx_getr (C := RX5) (T := TX5) (M := 21) (k := 0) E dX5_level_93 (Nat.le_of_ble_eq_true rfl) s_M0 rfl iX5 (by decide) rfl (List.mem_cons_of_mem _ tw_328) rfl ?_
        refine jx_iload_n E dX5_level_96 1 rfl ?_
        refine jx_iconst (x := 1) E dX5_level_97 (by decide) ?_
        obtain ⟨⟨r6, v6⟩, hc6, hF⟩ := jx_bind hF
        try dsimp only at hF
        refine jx_callSi (As := [.int x1, .int 1]) (st := [.ref (ad 1)]) E dX5_level_98 2 rfl (k_X5_where hI x1 1 v r6 v6 hc6) (gb_S (List.mem_cons_of_mem _ tw_389) (List.mem_cons_of_mem _ tw_390) (List.mem_cons_of_mem _ tw_325) tw_388) rfl rfl rfl dd_X5_where rfl ⟨by decide, by decide⟩ ⟨Nat.le_refl 0, Nat.le_refl 0⟩ (Nat.le_of_ble_eq_true rfl) ?_
        refine jx_iload_n E dX5_level_101 2 rfl ?_
        obtain ⟨hg7, hF⟩ := jx_guard hF
        refine jx_iast (h := 1) (j := (Int32.toNatClampNeg r6)) E dX5_level_102 (Nat.le_of_ble_eq_true rfl) s_M1 hg7 rfl ?_
        refine jx_iload_n E dX5_level_103 3 rfl ?_
        obtain ⟨rfl, rfl⟩ := jx_out hF
        exact jx_iret E dX5_level_104 rfl
      · rw [if_neg hc5] at hF
        refine jx_aload_n E dX5_level_37 0 rfl ?_
        refine jx_getr (C := RX5) (T := TX5) (M := 21) (k := 0) E dX5_level_38 (Nat.le_of_ble_eq_true rfl) s_M0 rfl iX5 (by decide) rfl (List.mem_cons_of_mem _ tw_328) rfl ?_
        refine jx_iload_n E dX5_level_41 1 rfl ?_
        refine jx_iconst (x := 1) E dX5_level_42 (by decide) ?_
        obtain ⟨⟨r8, v8⟩, hc8, hF⟩ := jx_bind hF
        try dsimp only at hF
        refine jx_callSi (As := [.int x1, .int 1]) (st := [.ref (ad 1)]) E dX5_level_43 2 rfl (k_X5_where hI x1 1 v r8 v8 hc8) (gb_S (List.mem_cons_of_mem _ tw_389) (List.mem_cons_of_mem _ tw_390) (List.mem_cons_of_mem _ tw_325) tw_388) rfl rfl rfl dd_X5_where rfl ⟨by decide, by decide⟩ ⟨Nat.le_refl 0, Nat.le_refl 0⟩ (Nat.le_of_ble_eq_true rfl) ?_
        refine jx_iload E dX5_level_46 5 rfl ?_
        obtain ⟨hg9, hF⟩ := jx_guard hF
        refine jx_iast (h := 1) (j := (Int32.toNatClampNeg r8)) E dX5_level_48 (Nat.le_of_ble_eq_true rfl) s_M1 hg9 rfl ?_
        refine jx_aload_n E dX5_level_49 0 rfl ?_
        refine jx_iload_n E dX5_level_50 1 rfl ?_
        obtain ⟨⟨r10, v10⟩, hc10, hF⟩ := jx_bind hF
        try dsimp only at hF
        refine jx_callVi (As := [.int x1]) (st := []) (h := 0) E dX5_level_51 1 rfl (k_X5_viewOf hI x1 (jx_up v8 1 (Int32.toNatClampNeg r8) x5) r10 v10 hc10) (gb_V (List.mem_cons_of_mem _ tw_482) (List.mem_cons_of_mem _ tw_483) (List.mem_cons_of_mem _ tw_484) (List.mem_cons_of_mem _ tw_325) tw_481) rfl rfl rfl dd_X5_viewOf rfl (Nat.le_of_ble_eq_true rfl) s_M0 rfl ⟨by decide, by decide⟩ ⟨Nat.le_refl 0, Nat.le_refl 0⟩ (Nat.le_of_ble_eq_true rfl) ?_
        refine jx_istore (lv' := [(6, .int r10), (0, .ref (ad 0)), (1, .int x1), (2, .int x2), (3, .int x3), (4, .int x4), (5, .int x5)]) E dX5_level_54 (by decide) rfl ?_
        refine jx_iload E dX5_level_56 0 rfl ?_
        refine jx_iload E dX5_level_58 5 rfl ?_
        refine jx_icmp_le (tgt := 68) E dX5_level_60 (by decide) (fun hc11 => ?_) (fun hc11 => ?_)
        · rw [if_pos hc11] at hF
          refine jx_iload_n E dX5_level_68 4 rfl ?_
          refine jx_istore_n (lv' := [(3, .int x3), (6, .int r10), (0, .ref (ad 0)), (1, .int x1), (2, .int x2), (4, .int x4), (5, .int x5)]) E dX5_level_69 (by decide) rfl ?_
          refine jx_iload E dX5_level_70 1 rfl ?_
          refine jx_iload E dX5_level_72 5 rfl ?_
          refine jx_icmp_le (tgt := 82) E dX5_level_74 (by decide) (fun hc12 => ?_) (fun hc12 => ?_)
          · rw [if_pos hc12] at hF
            refine jx_iload E dX5_level_82 5 rfl ?_
            refine jx_istore (lv' := [(4, .int x4), (3, .int x3), (6, .int r10), (0, .ref (ad 0)), (1, .int x1), (2, .int x2), (5, .int x5)]) E dX5_level_84 (by decide) rfl ?_
            refine jx_iinc (y := (x5 + 1)) (lv' := [(5, .int (x5 + 1)), (4, .int x4), (3, .int x3), (6, .int r10), (0, .ref (ad 0)), (1, .int x1), (2, .int x2)]) E dX5_level_86 6 rfl rfl (by decide) rfl ?_
            refine jx_goto (tgt := 30) E dX5_level_89 (by decide) ?_
            refine jx_sub [4, 5, 6, 2, 1, 0] rfl ?_
            exact ih x1 x2 x3 x4 (x5 + 1) v10 hF
          · rw [if_neg hc12] at hF
            refine jx_iload E dX5_level_77 1 rfl ?_
            refine jx_goto (tgt := 84) E dX5_level_79 (by decide) ?_
            refine jx_istore (lv' := [(4, .int r10), (3, .int x3), (6, .int r10), (0, .ref (ad 0)), (1, .int x1), (2, .int x2), (5, .int x5)]) E dX5_level_84 (by decide) rfl ?_
            refine jx_iinc (y := (x5 + 1)) (lv' := [(5, .int (x5 + 1)), (4, .int r10), (3, .int x3), (6, .int r10), (0, .ref (ad 0)), (1, .int x1), (2, .int x2)]) E dX5_level_86 6 rfl rfl (by decide) rfl ?_
            refine jx_goto (tgt := 30) E dX5_level_89 (by decide) ?_
            refine jx_sub [4, 5, 6, 2, 1, 0] rfl ?_
            exact ih x1 x2 x3 r10 (x5 + 1) v10 hF
        · rw [if_neg hc11] at hF
          refine jx_iload E dX5_level_63 6 rfl ?_
          refine jx_goto (tgt := 69) E dX5_level_65 (by decide) ?_
          refine jx_istore_n (lv' := [(3, .int x5), (6, .int r10), (0, .ref (ad 0)), (1, .int x1), (2, .int x2), (4, .int x4), (5, .int x5)]) E dX5_level_69 (by decide) rfl ?_
          refine jx_iload E dX5_level_70 1 rfl ?_
          refine jx_iload E dX5_level_72 5 rfl ?_
          refine jx_icmp_le (tgt := 82) E dX5_level_74 (by decide) (fun hc13 => ?_) (fun hc13 => ?_)
          · rw [if_pos hc13] at hF
            refine jx_iload E dX5_level_82 5 rfl ?_
            refine jx_istore (lv' := [(4, .int x4), (3, .int x5), (6, .int r10), (0, .ref (ad 0)), (1, .int x1), (2, .int x2), (5, .int x5)]) E dX5_level_84 (by decide) rfl ?_
            refine jx_iinc (y := (x5 + 1)) (lv' := [(5, .int (x5 + 1)), (4, .int x4), (3, .int x5), (6, .int r10), (0, .ref (ad 0)), (1, .int x1), (2, .int x2)]) E dX5_level_86 6 rfl rfl (by decide) rfl ?_
            refine jx_goto (tgt := 30) E dX5_level_89 (by decide) ?_
            refine jx_sub [4, 5, 6, 2, 1, 0] rfl ?_
            exact ih x1 x2 x5 x4 (x5 + 1) v10 hF
          · rw [if_neg hc13] at hF
            refine jx_iload E dX5_level_77 1 rfl ?_
            refine jx_goto (tgt := 84) E dX5_level_79 (by decide) ?_
            refine jx_istore (lv' := [(4, .int r10), (3, .int x5), (6, .int r10), (0, .ref (ad 0)), (1, .int x1), (2, .int x2), (5, .int x5)]) E dX5_level_84 (by decide) rfl ?_
            refine jx_iinc (y := (x5 + 1)) (lv' := [(5, .int (x5 + 1)), (4, .int r10), (3, .int x5), (6, .int r10), (0, .ref (ad 0)), (1, .int x1), (2, .int x2)]) E dX5_level_86 6 rfl rfl (by decide) rfl ?_
            refine jx_goto (tgt := 30) E dX5_level_89 (by decide) ?_
            refine jx_sub [4, 5, 6, 2, 1, 0] rfl ?_
            exact ih x1 x2 x5 r10 (x5 + 1) v10 hF
  refine jx_aload_n E dX5_level_0 0 rfl ?_
  refine jx_iload_n E dX5_level_1 1 rfl ?_
  obtain ⟨⟨r1, v1⟩, hc1, hF⟩ := jx_bind hF
  try dsimp only at hF
  refine jx_callVi (As := [.int x1]) (st := []) (h := 0) E dX5_level_2 1 rfl (k_X5_isWindow hI x1 v r1 v1 hc1) (gb_V (List.mem_cons_of_mem _ tw_397) (List.mem_cons_of_mem _ tw_398) (List.mem_cons_of_mem _ tw_399) (List.mem_cons_of_mem _ tw_325) tw_396) rfl rfl rfl dd_X5_isWindow rfl (Nat.le_of_ble_eq_true rfl) s_M0 rfl ⟨by decide, by decide⟩ ⟨Nat.le_refl 0, Nat.le_refl 0⟩ (Nat.le_of_ble_eq_true rfl) ?_
  refine jx_if_ne (tgt := 15) E dX5_level_5 (by decide) (fun hc2 => ?_) (fun hc2 => ?_)
  · rw [if_neg hc2] at hF
    refine jx_aload_n E dX5_level_15 0 rfl ?_
    refine jx_iload_n E dX5_level_16 1 rfl ?_
    refine jx_iconst (x := 1) E dX5_level_17 (by decide) ?_
    obtain ⟨⟨r3, v3⟩, hc3, hF⟩ := jx_bind hF
    try dsimp only at hF
    refine jx_callVi (As := [.int x1, .int 1]) (st := []) (h := 0) E dX5_level_18 2 rfl (k_X5_told hI x1 1 v1 r3 v3 hc3) (gb_V (List.mem_cons_of_mem _ tw_402) (List.mem_cons_of_mem _ tw_403) (List.mem_cons_of_mem _ tw_404) (List.mem_cons_of_mem _ tw_325) tw_401) rfl rfl rfl dd_X5_told rfl (Nat.le_of_ble_eq_true rfl) s_M0 rfl ⟨by decide, by decide⟩ ⟨Nat.le_refl 0, Nat.le_refl 0⟩ (Nat.le_of_ble_eq_true rfl) ?_
    refine jx_istore_n (lv' := [(2, .int r3), (0, .ref (ad 0)), (1, .int x1)]) E dX5_level_21 (by decide) rfl ?_
    refine jx_iconst (x := 0) E dX5_level_22 (by decide) ?_
    refine jx_istore_n (lv' := [(3, .int 0), (2, .int r3), (0, .ref (ad 0)), (1, .int x1)]) E dX5_level_23 (by decide) rfl ?_
    refine jx_iconst (x := -1) E dX5_level_24 (by decide) ?_
    refine jx_istore (lv' := [(4, .int (-1)), (3, .int 0), (2, .int r3), (0, .ref (ad 0)), (1, .int x1)]) E dX5_level_25 (by decide) rfl ?_
    refine jx_iconst (x := 0) E dX5_level_27 (by decide) ?_
    refine jx_istore (lv' := [(5, .int 0), (4, .int (-1)), (3, .int 0), (2, .int r3), (0, .ref (ad 0)), (1, .int x1)]) E dX5_level_28 (by decide) rfl ?_
    refine jx_sub [4, 5, 3, 2, 1, 0] rfl ?_
    exact (key 100000) x1 r3 0 (-1) 0 v3 hF
  · rw [if_pos hc2] at hF
    refine jx_aload_n E dX5_level_8 0 rfl ?_
    refine jx_ldc (x := -1000001) E dX5_level_9 (List.mem_cons_of_mem _ tw_320) ?_
    obtain ⟨⟨r4, v4⟩, hc4, hF⟩ := jx_bind hF
    try dsimp only at hF
    refine jx_callVi (As := [.int (-1000001)]) (st := []) (h := 0) E dX5_level_11 1 rfl (k_X5_finds hI (-1000001) v1 r4 v4 hc4) (gb_V (List.mem_cons_of_mem _ tw_344) (List.mem_cons_of_mem _ tw_345) (List.mem_cons_of_mem _ tw_346) (List.mem_cons_of_mem _ tw_325) tw_343) rfl rfl rfl dd_X5_finds rfl (Nat.le_of_ble_eq_true rfl) s_M0 rfl ⟨by decide, by decide⟩ ⟨Nat.le_refl 0, Nat.le_refl 0⟩ (Nat.le_of_ble_eq_true rfl) ?_
    obtain ⟨rfl, rfl⟩ := jx_out hF
    exact jx_iret E dX5_level_14 rfl
def f_X5_cheapest_L  : Nat → Int32 → Int32 → Int32 → Int32 → Int32 → jx_V → Option (Int32 × jx_V)
  | 0, _, _, _, _, _, _ => none
  | n + 1, x1, x2, x3, x4, x5, v => (if 4 ≤ x5 then ((f_X5_where x1 2 v).bind (fun (r6, v6) => (if (r6 < 0 ∨ 181 ≤ Int32.toNatClampNeg r6) then none else (some (x3, (jx_up v6 1 (Int32.toNatClampNeg r6) x2)))))) else ((f_X5_where x1 2 v).bind (fun (r8, v8) => (if (r8 < 0 ∨ 181 ≤ Int32.toNatClampNeg r8) then none else ((f_X5_looks x1 (jx_up v8 1 (Int32.toNatClampNeg r8) x5)).bind (fun v10 => (if x3 < 0 then (f_X5_cheapest_L n x1 x2 x5 (v10 0 7) (x5 + 1) v10) else (if x4 ≤ (v10 0 7) then (f_X5_cheapest_L n x1 x2 x3 x4 (x5 + 1) v10) else (f_X5_cheapest_L n x1 x2 x5 (v10 0 7) (x5 + 1) v10)))))))))
def f_X5_cheapest (x1 : Int32) (v : jx_V) : Option (Int32 × jx_V) := ((f_X5_isWindow x1 v).bind (fun (r1, v1) => (if r1 = 0 then ((f_X5_finds (-1000001) v1).bind (fun (r4, v4) => (some (r4, v4)))) else ((f_X5_told x1 2 v1).bind (fun (r3, v3) => (f_X5_cheapest_L 100000 x1 r3 (-1) 0 0 v3))))))
def rm_X5_cheapest : Room := { frames := 5, cells := 0, slots := 0, locals := 125 }
set_option maxHeartbeats 4000000 in
set_option maxRecDepth 100000 in
theorem k_X5_cheapest {l : Launch} {D : va_G} {cI cJ : ClassId} {ad : Nat → Nat} {A : Nat → Prop} (hI : jx_inj 13 ad A) (x1 : Int32) (v : jx_V) (r : Int32) (v' : jx_V) (hF : f_X5_cheapest x1 v = some (r, v')) : jx_Ci l D vwCl 13 cI cJ ad shM A ex_M yX5_cheapest (Cond.code yX5_cheapest cX5_cheapest 6 (some .int) :: bigT) rm_X5_cheapest [.ref (ad 0), .int x1] v r v' := by
  unfold f_X5_cheapest at hF
  refine jx_enteri bigT RX5 cX5_cheapest 6 (some .int) [(0, .ref (ad 0)), (1, .int x1)] hI (ex_M_ok A) (by decide +kernel) rfl (Nat.le_of_ble_eq_true rfl) rfl rfl ?_
  intro p e s m args below meth c E
  have iX5 : ∀ w ∈ u_ws RX5 TX5 21, w ∈ (Cond.code yX5_cheapest cX5_cheapest 6 (some .int) :: bigT) := fun w h => List.mem_cons_of_mem _ (uw_X5 w h)
  have key : ∀ n : Nat, (∀ (x1 : Int32) (x2 : Int32) (x3 : Int32) (x4 : Int32) (x5 : Int32) (v : jx_V), f_X5_cheapest_L  n  x1 x2 x3 x4 x5 v = some (r, v') → jx_J p l e rm_X5_cheapest s m args below meth c D vwCl 13 cI cJ ad shM A 0 0 6 (MQ below (va_Qi (fun (r1 : Int32) (_ : Unit) => r1 = r) (fun _ t => va_P D vwCl (jx_ws 13 cI cJ ad shM v') t.heap) A) args s 0 0 A) v 30 [(0, .ref (ad 0)), (1, .int x1), (2, .int x2), (3, .int x3), (4, .int x4), (5, .int x5)] []) := by
    intro n
    induction n with
    | zero =>
      exact (fun _ _ _ _ _ _ h => by cases h)
    | succ n ih =>
      intro x1 x2 x3 x4 x5 v hF
      rw [f_X5_cheapest_L] at hF
      refine jx_iload E dX5_cheapest_30 5 rfl ?_
      refine jx_iconst (x := 4) E dX5_cheapest_32 (by decide) ?_
      refine jx_icmp_ge (tgt := 81) E dX5_cheapest_33 (by decide) (fun hc5 => ?_) (fun hc5 => ?_)
      · rw [if_pos hc5] at hF
        refine jx_aload_n E dX5_cheapest_81 0 rfl ?_
        refine jx_getr (C := RX5) (T := TX5) (M := 21) (k := 0) E dX5_cheapest_82 (Nat.le_of_ble_eq_true rfl) s_M0 rfl iX5 (by decide) rfl (List.mem_cons_of_mem _ tw_328) rfl ?_
        refine jx_iload_n E dX5_cheapest_85 1 rfl ?_
        refine jx_iconst (x := 2) E dX5_cheapest_86 (by decide) ?_
        obtain ⟨⟨r6, v6⟩, hc6, hF⟩ := jx_bind hF
        try dsimp only at hF
        refine jx_callSi (As := [.int x1, .int 2]) (st := [.ref (ad 1)]) E dX5_cheapest_87 2 rfl (k_X5_where hI x1 2 v r6 v6 hc6) (gb_S (List.mem_cons_of_mem _ tw_389) (List.mem_cons_of_mem _ tw_390) (List.mem_cons_of_mem _ tw_325) tw_388) rfl rfl rfl dd_X5_where rfl ⟨by decide, by decide⟩ ⟨Nat.le_refl 0, Nat.le_refl 0⟩ (Nat.le_of_ble_eq_true rfl) ?_
        refine jx_iload_n E dX5_cheapest_90 2 rfl ?_
        obtain ⟨hg7, hF⟩ := jx_guard hF
        refine jx_iast (h := 1) (j := (Int32.toNatClampNeg r6)) E dX5_cheapest_91 (Nat.le_of_ble_eq_true rfl) s_M1 hg7 rfl ?_
        refine jx_iload_n E dX5_cheapest_92 3 rfl ?_
        obtain ⟨rfl, rfl⟩ := jx_out hF
        exact jx_iret E dX5_cheapest_93 rfl
      · rw [if_neg hc5] at hF
        refine jx_aload_n E dX5_cheapest_36 0 rfl ?_
        refine jx_getr (C := RX5) (T := TX5) (M := 21) (k := 0) E dX5_cheapest_37 (Nat.le_of_ble_eq_true rfl) s_M0 rfl iX5 (by decide) rfl (List.mem_cons_of_mem _ tw_328) rfl ?_
        refine jx_iload_n E dX5_cheapest_40 1 rfl ?_
        refine jx_iconst (x := 2) E dX5_cheapest_41 (by decide) ?_
        obtain ⟨⟨r8, v8⟩, hc8, hF⟩ := jx_bind hF
        try dsimp only at hF
        refine jx_callSi (As := [.int x1, .int 2]) (st := [.ref (ad 1)]) E dX5_cheapest_42 2 rfl (k_X5_where hI x1 2 v r8 v8 hc8) (gb_S (List.mem_cons_of_mem _ tw_389) (List.mem_cons_of_mem _ tw_390) (List.mem_cons_of_mem _ tw_325) tw_388) rfl rfl rfl dd_X5_where rfl ⟨by decide, by decide⟩ ⟨Nat.le_refl 0, Nat.le_refl 0⟩ (Nat.le_of_ble_eq_true rfl) ?_
        refine jx_iload E dX5_cheapest_45 5 rfl ?_
        obtain ⟨hg9, hF⟩ := jx_guard hF
        refine jx_iast (h := 1) (j := (Int32.toNatClampNeg r8)) E dX5_cheapest_47 (Nat.le_of_ble_eq_true rfl) s_M1 hg9 rfl ?_
        refine jx_aload_n E dX5_cheapest_48 0 rfl ?_
        refine jx_iload_n E dX5_cheapest_49 1 rfl ?_
        obtain ⟨v10, hc10, hF⟩ := jx_bind hF
        try dsimp only at hF
        refine jx_callVv (As := [.int x1]) (st := []) (h := 0) E dX5_cheapest_50 1 rfl (k_X5_looks hI x1 (jx_up v8 1 (Int32.toNatClampNeg r8) x5) v10 hc10) (gb_V (List.mem_cons_of_mem _ tw_422) (List.mem_cons_of_mem _ tw_423) (List.mem_cons_of_mem _ tw_424) (List.mem_cons_of_mem _ tw_325) tw_421) rfl rfl rfl dd_X5_looks rfl (Nat.le_of_ble_eq_true rfl) s_M0 rfl ⟨by decide, by decide⟩ ⟨Nat.le_refl 0, Nat.le_refl 0⟩ (Nat.le_of_ble_eq_true rfl) ?_
        refine jx_iload_n E dX5_cheapest_53 3 rfl ?_
        refine jx_if_lt (tgt := 66) E dX5_cheapest_54 (by decide) (fun hc11 => ?_) (fun hc11 => ?_)
        · rw [if_pos hc11] at hF
          refine jx_iload E dX5_cheapest_66 5 rfl ?_
          refine jx_istore_n (lv' := [(3, .int x5), (0, .ref (ad 0)), (1, .int x1), (2, .int x2), (4, .int x4), (5, .int x5)]) E dX5_cheapest_68 (by decide) rfl ?_
          refine jx_aload_n E dX5_cheapest_69 1 rfl ?_
          refine jx_geti (C := RX5) (T := TX5) (M := 21) (k := 7) E dX5_cheapest_70 (Nat.le_of_ble_eq_true rfl) s_M0 rfl iX5 (by decide) rfl (List.mem_cons_of_mem _ tw_410) rfl ?_
          refine jx_istore (lv' := [(4, .int (v10 0 7)), (3, .int x5), (0, .ref (ad 0)), (1, .int x1), (2, .int x2), (5, .int x5)]) E dX5_cheapest_73 (by decide) rfl ?_
          refine jx_iinc (y := (x5 + 1)) (lv' := [(5, .int (x5 + 1)), (4, .int (v10 0 7)), (3, .int x5), (0, .ref (ad 0)), (1, .int x1), (2, .int x2)]) E dX5_cheapest_75 5 rfl rfl (by decide) rfl ?_
          refine jx_goto (tgt := 30) E dX5_cheapest_78 (by decide) ?_
          refine jx_sub [3, 4, 5, 2, 1, 0] rfl ?_
          exact ih x1 x2 x5 (v10 0 7) (x5 + 1) v10 hF
        · rw [if_neg hc11] at hF
          refine jx_aload_n E dX5_cheapest_57 0 rfl ?_
          refine jx_geti (C := RX5) (T := TX5) (M := 21) (k := 7) E dX5_cheapest_58 (Nat.le_of_ble_eq_true rfl) s_M0 rfl iX5 (by decide) rfl (List.mem_cons_of_mem _ tw_410) rfl ?_
          refine jx_iload E dX5_cheapest_61 4 rfl ?_
          refine jx_icmp_ge (tgt := 75) E dX5_cheapest_63 (by decide) (fun hc12 => ?_) (fun hc12 => ?_)
          · rw [if_pos hc12] at hF
            refine jx_iinc (y := (x5 + 1)) (lv' := [(5, .int (x5 + 1)), (0, .ref (ad 0)), (1, .int x1), (2, .int x2), (3, .int x3), (4, .int x4)]) E dX5_cheapest_75 5 rfl rfl (by decide) rfl ?_
            refine jx_goto (tgt := 30) E dX5_cheapest_78 (by decide) ?_
            refine jx_sub [1, 2, 3, 4, 5, 0] rfl ?_
            exact ih x1 x2 x3 x4 (x5 + 1) v10 hF
          · rw [if_neg hc12] at hF
            refine jx_iload E dX5_cheapest_66 5 rfl ?_
            refine jx_istore_n (lv' := [(3, .int x5), (0, .ref (ad 0)), (1, .int x1), (2, .int x2), (4, .int x4), (5, .int x5)]) E dX5_cheapest_68 (by decide) rfl ?_
            refine jx_aload_n E dX5_cheapest_69 1 rfl ?_
            refine jx_geti (C := RX5) (T := TX5) (M := 21) (k := 7) E dX5_cheapest_70 (Nat.le_of_ble_eq_true rfl) s_M0 rfl iX5 (by decide) rfl (List.mem_cons_of_mem _ tw_410) rfl ?_
            refine jx_istore (lv' := [(4, .int (v10 0 7)), (3, .int x5), (0, .ref (ad 0)), (1, .int x1), (2, .int x2), (5, .int x5)]) E dX5_cheapest_73 (by decide) rfl ?_
            refine jx_iinc (y := (x5 + 1)) (lv' := [(5, .int (x5 + 1)), (4, .int (v10 0 7)), (3, .int x5), (0, .ref (ad 0)), (1, .int x1), (2, .int x2)]) E dX5_cheapest_75 5 rfl rfl (by decide) rfl ?_
            refine jx_goto (tgt := 30) E dX5_cheapest_78 (by decide) ?_
            refine jx_sub [3, 4, 5, 2, 1, 0] rfl ?_
            exact ih x1 x2 x5 (v10 0 7) (x5 + 1) v10 hF
  refine jx_aload_n E dX5_cheapest_0 0 rfl ?_
  refine jx_iload_n E dX5_cheapest_1 1 rfl ?_
  obtain ⟨⟨r1, v1⟩, hc1, hF⟩ := jx_bind hF
  try dsimp only at hF
  refine jx_callVi (As := [.int x1]) (st := []) (h := 0) E dX5_cheapest_2 1 rfl (k_X5_isWindow hI x1 v r1 v1 hc1) (gb_V (List.mem_cons_of_mem _ tw_397) (List.mem_cons_of_mem _ tw_398) (List.mem_cons_of_mem _ tw_399) (List.mem_cons_of_mem _ tw_325) tw_396) rfl rfl rfl dd_X5_isWindow rfl (Nat.le_of_ble_eq_true rfl) s_M0 rfl ⟨by decide, by decide⟩ ⟨Nat.le_refl 0, Nat.le_refl 0⟩ (Nat.le_of_ble_eq_true rfl) ?_
  refine jx_if_ne (tgt := 15) E dX5_cheapest_5 (by decide) (fun hc2 => ?_) (fun hc2 => ?_)
  · rw [if_neg hc2] at hF
    refine jx_aload_n E dX5_cheapest_15 0 rfl ?_
    refine jx_iload_n E dX5_cheapest_16 1 rfl ?_
    refine jx_iconst (x := 2) E dX5_cheapest_17 (by decide) ?_
    obtain ⟨⟨r3, v3⟩, hc3, hF⟩ := jx_bind hF
    try dsimp only at hF
    refine jx_callVi (As := [.int x1, .int 2]) (st := []) (h := 0) E dX5_cheapest_18 2 rfl (k_X5_told hI x1 2 v1 r3 v3 hc3) (gb_V (List.mem_cons_of_mem _ tw_402) (List.mem_cons_of_mem _ tw_403) (List.mem_cons_of_mem _ tw_404) (List.mem_cons_of_mem _ tw_325) tw_401) rfl rfl rfl dd_X5_told rfl (Nat.le_of_ble_eq_true rfl) s_M0 rfl ⟨by decide, by decide⟩ ⟨Nat.le_refl 0, Nat.le_refl 0⟩ (Nat.le_of_ble_eq_true rfl) ?_
    refine jx_istore_n (lv' := [(2, .int r3), (0, .ref (ad 0)), (1, .int x1)]) E dX5_cheapest_21 (by decide) rfl ?_
    refine jx_iconst (x := -1) E dX5_cheapest_22 (by decide) ?_
    refine jx_istore_n (lv' := [(3, .int (-1)), (2, .int r3), (0, .ref (ad 0)), (1, .int x1)]) E dX5_cheapest_23 (by decide) rfl ?_
    refine jx_iconst (x := 0) E dX5_cheapest_24 (by decide) ?_
    refine jx_istore (lv' := [(4, .int 0), (3, .int (-1)), (2, .int r3), (0, .ref (ad 0)), (1, .int x1)]) E dX5_cheapest_25 (by decide) rfl ?_
    refine jx_iconst (x := 0) E dX5_cheapest_27 (by decide) ?_
    refine jx_istore (lv' := [(5, .int 0), (4, .int 0), (3, .int (-1)), (2, .int r3), (0, .ref (ad 0)), (1, .int x1)]) E dX5_cheapest_28 (by decide) rfl ?_
    refine jx_sub [4, 5, 3, 2, 1, 0] rfl ?_
    exact (key 100000) x1 r3 (-1) 0 0 v3 hF
  · rw [if_pos hc2] at hF
    refine jx_aload_n E dX5_cheapest_8 0 rfl ?_
    refine jx_ldc (x := -1000001) E dX5_cheapest_9 (List.mem_cons_of_mem _ tw_320) ?_
    obtain ⟨⟨r4, v4⟩, hc4, hF⟩ := jx_bind hF
    try dsimp only at hF
    refine jx_callVi (As := [.int (-1000001)]) (st := []) (h := 0) E dX5_cheapest_11 1 rfl (k_X5_finds hI (-1000001) v1 r4 v4 hc4) (gb_V (List.mem_cons_of_mem _ tw_344) (List.mem_cons_of_mem _ tw_345) (List.mem_cons_of_mem _ tw_346) (List.mem_cons_of_mem _ tw_325) tw_343) rfl rfl rfl dd_X5_finds rfl (Nat.le_of_ble_eq_true rfl) s_M0 rfl ⟨by decide, by decide⟩ ⟨Nat.le_refl 0, Nat.le_refl 0⟩ (Nat.le_of_ble_eq_true rfl) ?_
    obtain ⟨rfl, rfl⟩ := jx_out hF
    exact jx_iret E dX5_cheapest_14 rfl
def f_X5_site_L  : Nat → Int32 → Int32 → Int32 → Int32 → Int32 → Int32 → jx_V → Option (Int32 × jx_V)
  | 0, _, _, _, _, _, _, _ => none
  | n + 1, x1, x2, x3, x4, x5, x6, v => (if 25 ≤ x6 then (if 0 ≤ x4 then (some (x4, v)) else ((f_X5_finds (-1000004) v).bind (fun (r13, v13) => (some (r13, v13))))) else ((f_X5_isThing x6 v).bind (fun (r14, v14) => (if r14 = 0 then ((f_X5_builds x6 x1 x2 x3 0 v14).bind (fun v16 => ((f_X5_gainOf x2 v16).bind (fun (r17, v17) => ((f_X5_putsBack v17).bind (fun v18 => (if x4 < 0 then (f_X5_site_L n x1 x2 x3 x6 r17 (x6 + 1) v18) else (if r17 ≤ x5 then (f_X5_site_L n x1 x2 x3 x4 x5 (x6 + 1) v18) else (f_X5_site_L n x1 x2 x3 x6 r17 (x6 + 1) v18))))))))) else (f_X5_site_L n x1 x2 x3 x4 x5 (x6 + 1) v14)))))
def f_X5_site (x1 : Int32) (x2 : Int32) (x3 : Int32) (v : jx_V) : Option (Int32 × jx_V) := ((f_X5_in (Int32.toInt64 x1) 0 6 v).bind (fun (r1, v1) => (if r1 = 0 then ((f_X5_finds (-1000001) v1).bind (fun (r3, v3) => (some (r3, v3)))) else ((f_X5_isOwner x2 v1).bind (fun (r4, v4) => (if r4 = 0 then ((f_X5_finds (-1000001) v4).bind (fun (r6, v6) => (some (r6, v6)))) else ((f_X5_isHeight x3 v4).bind (fun (r7, v7) => (if r7 = 0 then ((f_X5_finds (-1000001) v7).bind (fun (r10, v10) => (some (r10, v10)))) else ((f_X5_puts v7).bind (fun v9 => (f_X5_site_L 100000 x1 x2 x3 (-1) 0 0 v9))))))))))))
def rm_X5_site : Room := { frames := 7, cells := 0, slots := 0, locals := 169 }
set_option maxHeartbeats 4000000 in
set_option maxRecDepth 100000 in
theorem k_X5_site {l : Launch} {D : va_G} {cI cJ : ClassId} {ad : Nat → Nat} {A : Nat → Prop} (hI : jx_inj 13 ad A) (x1 : Int32) (x2 : Int32) (x3 : Int32) (v : jx_V) (r : Int32) (v' : jx_V) (hF : f_X5_site x1 x2 x3 v = some (r, v')) : jx_Ci l D vwCl 13 cI cJ ad shM A ex_M yX5_site (Cond.code yX5_site cX5_site 8 (some .int) :: bigT) rm_X5_site [.ref (ad 0), .int x1, .int x2, .int x3] v r v' := by
  unfold f_X5_site at hF
  refine jx_enteri bigT RX5 cX5_site 8 (some .int) [(0, .ref (ad 0)), (1, .int x1), (2, .int x2), (3, .int x3)] hI (ex_M_ok A) (by decide +kernel) rfl (Nat.le_of_ble_eq_true rfl) rfl rfl ?_
  intro p e s m args below meth c E
  have key : ∀ n : Nat, (∀ (x1 : Int32) (x2 : Int32) (x3 : Int32) (x4 : Int32) (x5 : Int32) (x6 : Int32) (v : jx_V), f_X5_site_L  n  x1 x2 x3 x4 x5 x6 v = some (r, v') → jx_J p l e rm_X5_site s m args below meth c D vwCl 13 cI cJ ad shM A 0 0 8 (MQ below (va_Qi (fun (r1 : Int32) (_ : Unit) => r1 = r) (fun _ t => va_P D vwCl (jx_ws 13 cI cJ ad shM v') t.heap) A) args s 0 0 A) v 46 [(0, .ref (ad 0)), (1, .int x1), (2, .int x2), (3, .int x3), (4, .int x4), (5, .int x5), (6, .int x6)] []) := by
    intro n
    induction n with
    | zero =>
      exact (fun _ _ _ _ _ _ _ h => by cases h)
    | succ n ih =>
      intro x1 x2 x3 x4 x5 x6 v hF
      rw [f_X5_site_L] at hF
      refine jx_iload E dX5_site_46 6 rfl ?_
      refine jx_bipush (x := 25) E dX5_site_48 (by decide) ?_
      refine jx_icmp_ge (tgt := 109) E dX5_site_50 (by decide) (fun hc11 => ?_) (fun hc11 => ?_)
      · rw [if_pos hc11] at hF
        refine jx_iload E dX5_site_109 4 rfl ?_
        refine jx_if_ge (tgt := 123) E dX5_site_111 (by decide) (fun hc12 => ?_) (fun hc12 => ?_)
        · rw [if_pos hc12] at hF
          refine jx_iload E dX5_site_123 4 rfl ?_
          obtain ⟨rfl, rfl⟩ := jx_out hF
          exact jx_iret E dX5_site_125 rfl
        · rw [if_neg hc12] at hF
          refine jx_aload_n E dX5_site_114 0 rfl ?_
          refine jx_ldc (x := -1000004) E dX5_site_115 (List.mem_cons_of_mem _ tw_365) ?_
          obtain ⟨⟨r13, v13⟩, hc13, hF⟩ := jx_bind hF
          try dsimp only at hF
          refine jx_callVi (As := [.int (-1000004)]) (st := []) (h := 0) E dX5_site_117 1 rfl (k_X5_finds hI (-1000004) v r13 v13 hc13) (gb_V (List.mem_cons_of_mem _ tw_344) (List.mem_cons_of_mem _ tw_345) (List.mem_cons_of_mem _ tw_346) (List.mem_cons_of_mem _ tw_325) tw_343) rfl rfl rfl dd_X5_finds rfl (Nat.le_of_ble_eq_true rfl) s_M0 rfl ⟨by decide, by decide⟩ ⟨Nat.le_refl 0, Nat.le_refl 0⟩ (Nat.le_of_ble_eq_true rfl) ?_
          refine jx_goto (tgt := 125) E dX5_site_120 (by decide) ?_
          obtain ⟨rfl, rfl⟩ := jx_out hF
          exact jx_iret E dX5_site_125 rfl
      · rw [if_neg hc11] at hF
        refine jx_aload_n E dX5_site_53 0 rfl ?_
        refine jx_iload E dX5_site_54 6 rfl ?_
        obtain ⟨⟨r14, v14⟩, hc14, hF⟩ := jx_bind hF
        try dsimp only at hF
        refine jx_callVi (As := [.int x6]) (st := []) (h := 0) E dX5_site_56 1 rfl (k_X5_isThing hI x6 v r14 v14 hc14) (gb_V (List.mem_cons_of_mem _ tw_339) (List.mem_cons_of_mem _ tw_340) (List.mem_cons_of_mem _ tw_341) (List.mem_cons_of_mem _ tw_325) tw_338) rfl rfl rfl dd_X5_isThing rfl (Nat.le_of_ble_eq_true rfl) s_M0 rfl ⟨by decide, by decide⟩ ⟨Nat.le_refl 0, Nat.le_refl 0⟩ (Nat.le_of_ble_eq_true rfl) ?_
        refine jx_if_ne (tgt := 103) E dX5_site_59 (by decide) (fun hc15 => ?_) (fun hc15 => ?_)
        · rw [if_neg hc15] at hF
          refine jx_iinc (y := (x6 + 1)) (lv' := [(6, .int (x6 + 1)), (0, .ref (ad 0)), (1, .int x1), (2, .int x2), (3, .int x3), (4, .int x4), (5, .int x5)]) E dX5_site_103 6 rfl rfl (by decide) rfl ?_
          refine jx_goto (tgt := 46) E dX5_site_106 (by decide) ?_
          refine jx_sub [1, 2, 3, 4, 5, 6, 0] rfl ?_
          exact ih x1 x2 x3 x4 x5 (x6 + 1) v14 hF
        · rw [if_pos hc15] at hF
          refine jx_aload_n E dX5_site_62 0 rfl ?_
          refine jx_iload E dX5_site_63 6 rfl ?_
          refine jx_iload_n E dX5_site_65 1 rfl ?_
          refine jx_iload_n E dX5_site_66 2 rfl ?_
          refine jx_iload_n E dX5_site_67 3 rfl ?_
          refine jx_iconst (x := 0) E dX5_site_68 (by decide) ?_
          obtain ⟨v16, hc16, hF⟩ := jx_bind hF
          try dsimp only at hF
          refine jx_callVv (As := [.int x6, .int x1, .int x2, .int x3, .int 0]) (st := []) (h := 0) E dX5_site_69 5 rfl (k_X5_builds hI x6 x1 x2 x3 0 v14 v16 hc16) (gb_V (List.mem_cons_of_mem _ tw_357) (List.mem_cons_of_mem _ tw_358) (List.mem_cons_of_mem _ tw_359) (List.mem_cons_of_mem _ tw_325) tw_356) rfl rfl rfl dd_X5_builds rfl (Nat.le_of_ble_eq_true rfl) s_M0 rfl ⟨by decide, by decide⟩ ⟨Nat.le_refl 0, Nat.le_refl 0⟩ (Nat.le_of_ble_eq_true rfl) ?_
          refine jx_aload_n E dX5_site_72 0 rfl ?_
          refine jx_iload_n E dX5_site_73 2 rfl ?_
          obtain ⟨⟨r17, v17⟩, hc17, hF⟩ := jx_bind hF
          try dsimp only at hF
          refine jx_callVi (As := [.int x2]) (st := []) (h := 0) E dX5_site_74 1 rfl (k_X5_gainOf hI x2 v16 r17 v17 hc17) (gb_V (List.mem_cons_of_mem _ tw_436) (List.mem_cons_of_mem _ tw_437) (List.mem_cons_of_mem _ tw_438) (List.mem_cons_of_mem _ tw_325) tw_435) rfl rfl rfl dd_X5_gainOf rfl (Nat.le_of_ble_eq_true rfl) s_M0 rfl ⟨by decide, by decide⟩ ⟨Nat.le_refl 0, Nat.le_refl 0⟩ (Nat.le_of_ble_eq_true rfl) ?_
          refine jx_istore (lv' := [(7, .int r17), (0, .ref (ad 0)), (1, .int x1), (2, .int x2), (3, .int x3), (4, .int x4), (5, .int x5), (6, .int x6)]) E dX5_site_77 (by decide) rfl ?_
          refine jx_aload_n E dX5_site_79 1 rfl ?_
          obtain ⟨v18, hc18, hF⟩ := jx_bind hF
          try dsimp only at hF
          refine jx_callVv (As := []) (st := []) (h := 0) E dX5_site_80 0 rfl (k_X5_putsBack hI  v17 v18 hc18) (gb_V (List.mem_cons_of_mem _ tw_462) (List.mem_cons_of_mem _ tw_463) (List.mem_cons_of_mem _ tw_464) (List.mem_cons_of_mem _ tw_325) tw_461) rfl rfl rfl dd_X5_putsBack rfl (Nat.le_of_ble_eq_true rfl) s_M0 rfl ⟨by decide, by decide⟩ ⟨Nat.le_refl 0, Nat.le_refl 0⟩ (Nat.le_of_ble_eq_true rfl) ?_
          refine jx_iload E dX5_site_83 5 rfl ?_
          refine jx_if_lt (tgt := 95) E dX5_site_85 (by decide) (fun hc19 => ?_) (fun hc19 => ?_)
          · rw [if_pos hc19] at hF
            refine jx_iload E dX5_site_95 7 rfl ?_
            refine jx_istore (lv' := [(4, .int x6), (7, .int r17), (0, .ref (ad 0)), (1, .int x1), (2, .int x2), (3, .int x3), (5, .int x5), (6, .int x6)]) E dX5_site_97 (by decide) rfl ?_
            refine jx_iload E dX5_site_99 1 rfl ?_
            refine jx_istore (lv' := [(5, .int r17), (4, .int x6), (7, .int r17), (0, .ref (ad 0)), (1, .int x1), (2, .int x2), (3, .int x3), (6, .int x6)]) E dX5_site_101 (by decide) rfl ?_
            refine jx_iinc (y := (x6 + 1)) (lv' := [(6, .int (x6 + 1)), (5, .int r17), (4, .int x6), (7, .int r17), (0, .ref (ad 0)), (1, .int x1), (2, .int x2), (3, .int x3)]) E dX5_site_103 7 rfl rfl (by decide) rfl ?_
            refine jx_goto (tgt := 46) E dX5_site_106 (by decide) ?_
            refine jx_sub [4, 5, 6, 7, 2, 1, 0] rfl ?_
            exact ih x1 x2 x3 x6 r17 (x6 + 1) v18 hF
          · rw [if_neg hc19] at hF
            refine jx_iload E dX5_site_88 0 rfl ?_
            refine jx_iload E dX5_site_90 6 rfl ?_
            refine jx_icmp_le (tgt := 103) E dX5_site_92 (by decide) (fun hc20 => ?_) (fun hc20 => ?_)
            · rw [if_pos hc20] at hF
              refine jx_iinc (y := (x6 + 1)) (lv' := [(6, .int (x6 + 1)), (7, .int r17), (0, .ref (ad 0)), (1, .int x1), (2, .int x2), (3, .int x3), (4, .int x4), (5, .int x5)]) E dX5_site_103 7 rfl rfl (by decide) rfl ?_
              refine jx_goto (tgt := 46) E dX5_site_106 (by decide) ?_
              refine jx_sub [2, 3, 4, 5, 6, 7, 0] rfl ?_
              exact ih x1 x2 x3 x4 x5 (x6 + 1) v18 hF
            · rw [if_neg hc20] at hF
              refine jx_iload E dX5_site_95 7 rfl ?_
              refine jx_istore (lv' := [(4, .int x6), (7, .int r17), (0, .ref (ad 0)), (1, .int x1), (2, .int x2), (3, .int x3), (5, .int x5), (6, .int x6)]) E dX5_site_97 (by decide) rfl ?_
              refine jx_iload E dX5_site_99 1 rfl ?_
              refine jx_istore (lv' := [(5, .int r17), (4, .int x6), (7, .int r17), (0, .ref (ad 0)), (1, .int x1), (2, .int x2), (3, .int x3), (6, .int x6)]) E dX5_site_101 (by decide) rfl ?_
              refine jx_iinc (y := (x6 + 1)) (lv' := [(6, .int (x6 + 1)), (5, .int r17), (4, .int x6), (7, .int r17), (0, .ref (ad 0)), (1, .int x1), (2, .int x2), (3, .int x3)]) E dX5_site_103 7 rfl rfl (by decide) rfl ?_
              refine jx_goto (tgt := 46) E dX5_site_106 (by decide) ?_
              refine jx_sub [4, 5, 6, 7, 2, 1, 0] rfl ?_
              exact ih x1 x2 x3 x6 r17 (x6 + 1) v18 hF
  refine jx_iload_n E dX5_site_0 1 rfl ?_
  refine jx_i2l E dX5_site_1 ?_
  refine jx_lconst (x := 0) E dX5_site_2 (by decide) ?_
  refine jx_ldc2 (x := 6) E dX5_site_3 (List.mem_cons_of_mem _ tw_342) ?_
  obtain ⟨⟨r1, v1⟩, hc1, hF⟩ := jx_bind hF
  try dsimp only at hF
  refine jx_callSi (As := [.long (Int32.toInt64 x1), .long 0, .long 6]) (st := []) E dX5_site_6 3 rfl (k_X5_in hI (Int32.toInt64 x1) 0 6 v r1 v1 hc1) (gb_S (List.mem_cons_of_mem _ tw_323) (List.mem_cons_of_mem _ tw_324) (List.mem_cons_of_mem _ tw_325) tw_322) rfl rfl rfl dd_X5_in rfl ⟨by decide, by decide⟩ ⟨Nat.le_refl 0, Nat.le_refl 0⟩ (Nat.le_of_ble_eq_true rfl) ?_
  refine jx_if_eq (tgt := 26) E dX5_site_9 (by decide) (fun hc2 => ?_) (fun hc2 => ?_)
  · rw [if_pos hc2] at hF
    refine jx_aload_n E dX5_site_26 0 rfl ?_
    refine jx_ldc (x := -1000001) E dX5_site_27 (List.mem_cons_of_mem _ tw_320) ?_
    obtain ⟨⟨r3, v3⟩, hc3, hF⟩ := jx_bind hF
    try dsimp only at hF
    refine jx_callVi (As := [.int (-1000001)]) (st := []) (h := 0) E dX5_site_29 1 rfl (k_X5_finds hI (-1000001) v1 r3 v3 hc3) (gb_V (List.mem_cons_of_mem _ tw_344) (List.mem_cons_of_mem _ tw_345) (List.mem_cons_of_mem _ tw_346) (List.mem_cons_of_mem _ tw_325) tw_343) rfl rfl rfl dd_X5_finds rfl (Nat.le_of_ble_eq_true rfl) s_M0 rfl ⟨by decide, by decide⟩ ⟨Nat.le_refl 0, Nat.le_refl 0⟩ (Nat.le_of_ble_eq_true rfl) ?_
    obtain ⟨rfl, rfl⟩ := jx_out hF
    exact jx_iret E dX5_site_32 rfl
  · rw [if_neg hc2] at hF
    refine jx_iload_n E dX5_site_12 2 rfl ?_
    obtain ⟨⟨r4, v4⟩, hc4, hF⟩ := jx_bind hF
    try dsimp only at hF
    refine jx_callSi (As := [.int x2]) (st := []) E dX5_site_13 1 rfl (k_X5_isOwner hI x2 v1 r4 v4 hc4) (gb_S (List.mem_cons_of_mem _ tw_351) (List.mem_cons_of_mem _ tw_352) (List.mem_cons_of_mem _ tw_325) tw_350) rfl rfl rfl dd_X5_isOwner rfl ⟨by decide, by decide⟩ ⟨Nat.le_refl 0, Nat.le_refl 0⟩ (Nat.le_of_ble_eq_true rfl) ?_
    refine jx_if_eq (tgt := 26) E dX5_site_16 (by decide) (fun hc5 => ?_) (fun hc5 => ?_)
    · rw [if_pos hc5] at hF
      refine jx_aload_n E dX5_site_26 0 rfl ?_
      refine jx_ldc (x := -1000001) E dX5_site_27 (List.mem_cons_of_mem _ tw_320) ?_
      obtain ⟨⟨r6, v6⟩, hc6, hF⟩ := jx_bind hF
      try dsimp only at hF
      refine jx_callVi (As := [.int (-1000001)]) (st := []) (h := 0) E dX5_site_29 1 rfl (k_X5_finds hI (-1000001) v4 r6 v6 hc6) (gb_V (List.mem_cons_of_mem _ tw_344) (List.mem_cons_of_mem _ tw_345) (List.mem_cons_of_mem _ tw_346) (List.mem_cons_of_mem _ tw_325) tw_343) rfl rfl rfl dd_X5_finds rfl (Nat.le_of_ble_eq_true rfl) s_M0 rfl ⟨by decide, by decide⟩ ⟨Nat.le_refl 0, Nat.le_refl 0⟩ (Nat.le_of_ble_eq_true rfl) ?_
      obtain ⟨rfl, rfl⟩ := jx_out hF
      exact jx_iret E dX5_site_32 rfl
    · rw [if_neg hc5] at hF
      refine jx_iload_n E dX5_site_19 3 rfl ?_
      obtain ⟨⟨r7, v7⟩, hc7, hF⟩ := jx_bind hF
      try dsimp only at hF
      refine jx_callSi (As := [.int x3]) (st := []) E dX5_site_20 1 rfl (k_X5_isHeight hI x3 v4 r7 v7 hc7) (gb_S (List.mem_cons_of_mem _ tw_354) (List.mem_cons_of_mem _ tw_355) (List.mem_cons_of_mem _ tw_325) tw_353) rfl rfl rfl dd_X5_isHeight rfl ⟨by decide, by decide⟩ ⟨Nat.le_refl 0, Nat.le_refl 0⟩ (Nat.le_of_ble_eq_true rfl) ?_
      refine jx_if_ne (tgt := 33) E dX5_site_23 (by decide) (fun hc8 => ?_) (fun hc8 => ?_)
      · rw [if_neg hc8] at hF
        refine jx_iconst (x := -1) E dX5_site_33 (by decide) ?_
        refine jx_istore (lv' := [(4, .int (-1)), (0, .ref (ad 0)), (1, .int x1), (2, .int x2), (3, .int x3)]) E dX5_site_34 (by decide) rfl ?_
        refine jx_iconst (x := 0) E dX5_site_36 (by decide) ?_
        refine jx_istore (lv' := [(5, .int 0), (4, .int (-1)), (0, .ref (ad 0)), (1, .int x1), (2, .int x2), (3, .int x3)]) E dX5_site_37 (by decide) rfl ?_
        refine jx_aload_n E dX5_site_39 2 rfl ?_
        obtain ⟨v9, hc9, hF⟩ := jx_bind hF
        try dsimp only at hF
        refine jx_callVv (As := []) (st := []) (h := 0) E dX5_site_40 0 rfl (k_X5_puts hI  v7 v9 hc9) (gb_V (List.mem_cons_of_mem _ tw_458) (List.mem_cons_of_mem _ tw_459) (List.mem_cons_of_mem _ tw_460) (List.mem_cons_of_mem _ tw_325) tw_457) rfl rfl rfl dd_X5_puts rfl (Nat.le_of_ble_eq_true rfl) s_M0 rfl ⟨by decide, by decide⟩ ⟨Nat.le_refl 0, Nat.le_refl 0⟩ (Nat.le_of_ble_eq_true rfl) ?_
        refine jx_iconst (x := 0) E dX5_site_43 (by decide) ?_
        refine jx_istore (lv' := [(6, .int 0), (5, .int 0), (4, .int (-1)), (0, .ref (ad 0)), (1, .int x1), (2, .int x2), (3, .int x3)]) E dX5_site_44 (by decide) rfl ?_
        refine jx_sub [3, 4, 5, 6, 2, 1, 0] rfl ?_
        exact (key 100000) x1 x2 x3 (-1) 0 0 v9 hF
      · rw [if_pos hc8] at hF
        refine jx_aload_n E dX5_site_26 0 rfl ?_
        refine jx_ldc (x := -1000001) E dX5_site_27 (List.mem_cons_of_mem _ tw_320) ?_
        obtain ⟨⟨r10, v10⟩, hc10, hF⟩ := jx_bind hF
        try dsimp only at hF
        refine jx_callVi (As := [.int (-1000001)]) (st := []) (h := 0) E dX5_site_29 1 rfl (k_X5_finds hI (-1000001) v7 r10 v10 hc10) (gb_V (List.mem_cons_of_mem _ tw_344) (List.mem_cons_of_mem _ tw_345) (List.mem_cons_of_mem _ tw_346) (List.mem_cons_of_mem _ tw_325) tw_343) rfl rfl rfl dd_X5_finds rfl (Nat.le_of_ble_eq_true rfl) s_M0 rfl ⟨by decide, by decide⟩ ⟨Nat.le_refl 0, Nat.le_refl 0⟩ (Nat.le_of_ble_eq_true rfl) ?_
        obtain ⟨rfl, rfl⟩ := jx_out hF
        exact jx_iret E dX5_site_32 rfl
def f_X5_worst_L  : Nat → Int32 → Int32 → Int32 → Int32 → Int32 → jx_V → Option (Int32 × jx_V)
  | 0, _, _, _, _, _, _ => none
  | n + 1, x1, x2, x3, x4, x5, v => (if 12 ≤ x5 then (some (x3, (jx_up v 1 0 x2))) else ((f_X5_gainOf x1 (jx_up v 1 0 (x2 + x5))).bind (fun (r9, v9) => (if x4 ≤ r9 then (if x4 ≤ r9 then (f_X5_worst_L n x1 x2 x3 x4 (x5 + 1) v9) else (f_X5_worst_L n x1 x2 x3 r9 (x5 + 1) v9)) else (if x4 ≤ r9 then (f_X5_worst_L n x1 x2 x5 x4 (x5 + 1) v9) else (f_X5_worst_L n x1 x2 x5 r9 (x5 + 1) v9))))))
def f_X5_worst (x1 : Int32) (v : jx_V) : Option (Int32 × jx_V) := ((f_X5_isOwner x1 v).bind (fun (r1, v1) => (if r1 = 0 then ((f_X5_finds (-1000001) v1).bind (fun (r7, v7) => (some (r7, v7)))) else ((f_X5_isTooLate 11 v1).bind (fun (r3, v3) => (if r3 = 0 then ((f_X5_gainOf x1 v3).bind (fun (r5, v5) => (f_X5_worst_L 100000 x1 (v3 1 0) 0 r5 1 v5))) else ((f_X5_finds (-1000005) v3).bind (fun (r6, v6) => (some (r6, v6))))))))))
def rm_X5_worst : Room := { frames := 7, cells := 0, slots := 0, locals := 169 }
set_option maxHeartbeats 4000000 in
set_option maxRecDepth 100000 in
theorem k_X5_worst {l : Launch} {D : va_G} {cI cJ : ClassId} {ad : Nat → Nat} {A : Nat → Prop} (hI : jx_inj 13 ad A) (x1 : Int32) (v : jx_V) (r : Int32) (v' : jx_V) (hF : f_X5_worst x1 v = some (r, v')) : jx_Ci l D vwCl 13 cI cJ ad shM A ex_M yX5_worst (Cond.code yX5_worst cX5_worst 7 (some .int) :: bigT) rm_X5_worst [.ref (ad 0), .int x1] v r v' := by
  unfold f_X5_worst at hF
  refine jx_enteri bigT RX5 cX5_worst 7 (some .int) [(0, .ref (ad 0)), (1, .int x1)] hI (ex_M_ok A) (by decide +kernel) rfl (Nat.le_of_ble_eq_true rfl) rfl rfl ?_
  intro p e s m args below meth c E
  have iX5 : ∀ w ∈ u_ws RX5 TX5 21, w ∈ (Cond.code yX5_worst cX5_worst 7 (some .int) :: bigT) := fun w h => List.mem_cons_of_mem _ (uw_X5 w h)
  have key : ∀ n : Nat, (∀ (x1 : Int32) (x2 : Int32) (x3 : Int32) (x4 : Int32) (x5 : Int32) (v : jx_V), f_X5_worst_L  n  x1 x2 x3 x4 x5 v = some (r, v') → jx_J p l e rm_X5_worst s m args below meth c D vwCl 13 cI cJ ad shM A 0 0 7 (MQ below (va_Qi (fun (r1 : Int32) (_ : Unit) => r1 = r) (fun _ t => va_P D vwCl (jx_ws 13 cI cJ ad shM v') t.heap) A) args s 0 0 A) v 49 [(0, .ref (ad 0)), (1, .int x1), (2, .int x2), (3, .int x3), (4, .int x4), (5, .int x5)] []) := by
    intro n
    induction n with
    | zero =>
      exact (fun _ _ _ _ _ _ h => by cases h)
    | succ n ih =>
      intro x1 x2 x3 x4 x5 v hF
      rw [f_X5_worst_L] at hF
      refine jx_iload E dX5_worst_49 5 rfl ?_
      refine jx_bipush (x := 12) E dX5_worst_51 (by decide) ?_
      refine jx_icmp_ge (tgt := 109) E dX5_worst_53 (by decide) (fun hc8 => ?_) (fun hc8 => ?_)
      · rw [if_pos hc8] at hF
        refine jx_aload_n E dX5_worst_109 0 rfl ?_
        refine jx_getr (C := RX5) (T := TX5) (M := 21) (k := 0) E dX5_worst_110 (Nat.le_of_ble_eq_true rfl) s_M0 rfl iX5 (by decide) rfl (List.mem_cons_of_mem _ tw_328) rfl ?_
        refine jx_iconst (x := 0) E dX5_worst_113 (by decide) ?_
        refine jx_iload_n E dX5_worst_114 2 rfl ?_
        refine jx_iast (h := 1) (j := 0) E dX5_worst_115 (Nat.le_of_ble_eq_true rfl) s_M1 (by decide) (by decide) ?_
        refine jx_iload_n E dX5_worst_116 3 rfl ?_
        obtain ⟨rfl, rfl⟩ := jx_out hF
        exact jx_iret E dX5_worst_117 rfl
      · rw [if_neg hc8] at hF
        refine jx_aload_n E dX5_worst_56 0 rfl ?_
        refine jx_getr (C := RX5) (T := TX5) (M := 21) (k := 0) E dX5_worst_57 (Nat.le_of_ble_eq_true rfl) s_M0 rfl iX5 (by decide) rfl (List.mem_cons_of_mem _ tw_328) rfl ?_
        refine jx_iconst (x := 0) E dX5_worst_60 (by decide) ?_
        refine jx_iload_n E dX5_worst_61 2 rfl ?_
        refine jx_iload E dX5_worst_62 5 rfl ?_
        refine jx_iadd E dX5_worst_64 ?_
        refine jx_iast (h := 1) (j := 0) E dX5_worst_65 (Nat.le_of_ble_eq_true rfl) s_M1 (by decide) (by decide) ?_
        refine jx_aload_n E dX5_worst_66 0 rfl ?_
        refine jx_iload_n E dX5_worst_67 1 rfl ?_
        obtain ⟨⟨r9, v9⟩, hc9, hF⟩ := jx_bind hF
        try dsimp only at hF
        refine jx_callVi (As := [.int x1]) (st := []) (h := 0) E dX5_worst_68 1 rfl (k_X5_gainOf hI x1 (jx_up v 1 0 (x2 + x5)) r9 v9 hc9) (gb_V (List.mem_cons_of_mem _ tw_436) (List.mem_cons_of_mem _ tw_437) (List.mem_cons_of_mem _ tw_438) (List.mem_cons_of_mem _ tw_325) tw_435) rfl rfl rfl dd_X5_gainOf rfl (Nat.le_of_ble_eq_true rfl) s_M0 rfl ⟨by decide, by decide⟩ ⟨Nat.le_refl 0, Nat.le_refl 0⟩ (Nat.le_of_ble_eq_true rfl) ?_
        refine jx_istore (lv' := [(6, .int r9), (0, .ref (ad 0)), (1, .int x1), (2, .int x2), (3, .int x3), (4, .int x4), (5, .int x5)]) E dX5_worst_71 (by decide) rfl ?_
        refine jx_iload E dX5_worst_73 0 rfl ?_
        refine jx_iload E dX5_worst_75 5 rfl ?_
        refine jx_icmp_ge (tgt := 85) E dX5_worst_77 (by decide) (fun hc10 => ?_) (fun hc10 => ?_)
        · rw [if_pos hc10] at hF
          refine jx_iload_n E dX5_worst_85 4 rfl ?_
          refine jx_istore_n (lv' := [(3, .int x3), (6, .int r9), (0, .ref (ad 0)), (1, .int x1), (2, .int x2), (4, .int x4), (5, .int x5)]) E dX5_worst_86 (by decide) rfl ?_
          refine jx_iload E dX5_worst_87 1 rfl ?_
          refine jx_iload E dX5_worst_89 5 rfl ?_
          refine jx_icmp_ge (tgt := 99) E dX5_worst_91 (by decide) (fun hc11 => ?_) (fun hc11 => ?_)
          · rw [if_pos hc11] at hF
            refine jx_iload E dX5_worst_99 5 rfl ?_
            refine jx_istore (lv' := [(4, .int x4), (3, .int x3), (6, .int r9), (0, .ref (ad 0)), (1, .int x1), (2, .int x2), (5, .int x5)]) E dX5_worst_101 (by decide) rfl ?_
            refine jx_iinc (y := (x5 + 1)) (lv' := [(5, .int (x5 + 1)), (4, .int x4), (3, .int x3), (6, .int r9), (0, .ref (ad 0)), (1, .int x1), (2, .int x2)]) E dX5_worst_103 6 rfl rfl (by decide) rfl ?_
            refine jx_goto (tgt := 49) E dX5_worst_106 (by decide) ?_
            refine jx_sub [4, 5, 6, 2, 1, 0] rfl ?_
            exact ih x1 x2 x3 x4 (x5 + 1) v9 hF
          · rw [if_neg hc11] at hF
            refine jx_iload E dX5_worst_94 1 rfl ?_
            refine jx_goto (tgt := 101) E dX5_worst_96 (by decide) ?_
            refine jx_istore (lv' := [(4, .int r9), (3, .int x3), (6, .int r9), (0, .ref (ad 0)), (1, .int x1), (2, .int x2), (5, .int x5)]) E dX5_worst_101 (by decide) rfl ?_
            refine jx_iinc (y := (x5 + 1)) (lv' := [(5, .int (x5 + 1)), (4, .int r9), (3, .int x3), (6, .int r9), (0, .ref (ad 0)), (1, .int x1), (2, .int x2)]) E dX5_worst_103 6 rfl rfl (by decide) rfl ?_
            refine jx_goto (tgt := 49) E dX5_worst_106 (by decide) ?_
            refine jx_sub [4, 5, 6, 2, 1, 0] rfl ?_
            exact ih x1 x2 x3 r9 (x5 + 1) v9 hF
        · rw [if_neg hc10] at hF
          refine jx_iload E dX5_worst_80 6 rfl ?_
          refine jx_goto (tgt := 86) E dX5_worst_82 (by decide) ?_
          refine jx_istore_n (lv' := [(3, .int x5), (6, .int r9), (0, .ref (ad 0)), (1, .int x1), (2, .int x2), (4, .int x4), (5, .int x5)]) E dX5_worst_86 (by decide) rfl ?_
          refine jx_iload E dX5_worst_87 1 rfl ?_
          refine jx_iload E dX5_worst_89 5 rfl ?_
          refine jx_icmp_ge (tgt := 99) E dX5_worst_91 (by decide) (fun hc12 => ?_) (fun hc12 => ?_)
          · rw [if_pos hc12] at hF
            refine jx_iload E dX5_worst_99 5 rfl ?_
            refine jx_istore (lv' := [(4, .int x4), (3, .int x5), (6, .int r9), (0, .ref (ad 0)), (1, .int x1), (2, .int x2), (5, .int x5)]) E dX5_worst_101 (by decide) rfl ?_
            refine jx_iinc (y := (x5 + 1)) (lv' := [(5, .int (x5 + 1)), (4, .int x4), (3, .int x5), (6, .int r9), (0, .ref (ad 0)), (1, .int x1), (2, .int x2)]) E dX5_worst_103 6 rfl rfl (by decide) rfl ?_
            refine jx_goto (tgt := 49) E dX5_worst_106 (by decide) ?_
            refine jx_sub [4, 5, 6, 2, 1, 0] rfl ?_
            exact ih x1 x2 x5 x4 (x5 + 1) v9 hF
          · rw [if_neg hc12] at hF
            refine jx_iload E dX5_worst_94 1 rfl ?_
            refine jx_goto (tgt := 101) E dX5_worst_96 (by decide) ?_
            refine jx_istore (lv' := [(4, .int r9), (3, .int x5), (6, .int r9), (0, .ref (ad 0)), (1, .int x1), (2, .int x2), (5, .int x5)]) E dX5_worst_101 (by decide) rfl ?_
            refine jx_iinc (y := (x5 + 1)) (lv' := [(5, .int (x5 + 1)), (4, .int r9), (3, .int x5), (6, .int r9), (0, .ref (ad 0)), (1, .int x1), (2, .int x2)]) E dX5_worst_103 6 rfl rfl (by decide) rfl ?_
            refine jx_goto (tgt := 49) E dX5_worst_106 (by decide) ?_
            refine jx_sub [4, 5, 6, 2, 1, 0] rfl ?_
            exact ih x1 x2 x5 r9 (x5 + 1) v9 hF
  refine jx_iload_n E dX5_worst_0 1 rfl ?_
  obtain ⟨⟨r1, v1⟩, hc1, hF⟩ := jx_bind hF
  try dsimp only at hF
  refine jx_callSi (As := [.int x1]) (st := []) E dX5_worst_1 1 rfl (k_X5_isOwner hI x1 v r1 v1 hc1) (gb_S (List.mem_cons_of_mem _ tw_351) (List.mem_cons_of_mem _ tw_352) (List.mem_cons_of_mem _ tw_325) tw_350) rfl rfl rfl dd_X5_isOwner rfl ⟨by decide, by decide⟩ ⟨Nat.le_refl 0, Nat.le_refl 0⟩ (Nat.le_of_ble_eq_true rfl) ?_
  refine jx_if_ne (tgt := 14) E dX5_worst_4 (by decide) (fun hc2 => ?_) (fun hc2 => ?_)
  · rw [if_neg hc2] at hF
    refine jx_aload_n E dX5_worst_14 0 rfl ?_
    refine jx_bipush (x := 11) E dX5_worst_15 (by decide) ?_
    obtain ⟨⟨r3, v3⟩, hc3, hF⟩ := jx_bind hF
    try dsimp only at hF
    refine jx_callVi (As := [.int 11]) (st := []) (h := 0) E dX5_worst_17 1 rfl (k_X5_isTooLate hI 11 v1 r3 v3 hc3) (gb_V (List.mem_cons_of_mem _ tw_449) (List.mem_cons_of_mem _ tw_450) (List.mem_cons_of_mem _ tw_451) (List.mem_cons_of_mem _ tw_325) tw_448) rfl rfl rfl dd_X5_isTooLate rfl (Nat.le_of_ble_eq_true rfl) s_M0 rfl ⟨by decide, by decide⟩ ⟨Nat.le_refl 0, Nat.le_refl 0⟩ (Nat.le_of_ble_eq_true rfl) ?_
    refine jx_if_eq (tgt := 30) E dX5_worst_20 (by decide) (fun hc4 => ?_) (fun hc4 => ?_)
    · rw [if_pos hc4] at hF
      refine jx_aload_n E dX5_worst_30 0 rfl ?_
      refine jx_getr (C := RX5) (T := TX5) (M := 21) (k := 0) E dX5_worst_31 (Nat.le_of_ble_eq_true rfl) s_M0 rfl iX5 (by decide) rfl (List.mem_cons_of_mem _ tw_328) rfl ?_
      refine jx_iconst (x := 0) E dX5_worst_34 (by decide) ?_
      refine jx_iald (h := 1) (j := 0) E dX5_worst_35 (Nat.le_of_ble_eq_true rfl) s_M1 (by decide) (by decide) ?_
      refine jx_istore_n (lv' := [(2, .int (v3 1 0)), (0, .ref (ad 0)), (1, .int x1)]) E dX5_worst_36 (by decide) rfl ?_
      refine jx_iconst (x := 0) E dX5_worst_37 (by decide) ?_
      refine jx_istore_n (lv' := [(3, .int 0), (2, .int (v3 1 0)), (0, .ref (ad 0)), (1, .int x1)]) E dX5_worst_38 (by decide) rfl ?_
      refine jx_aload_n E dX5_worst_39 2 rfl ?_
      refine jx_iload_n E dX5_worst_40 3 rfl ?_
      obtain ⟨⟨r5, v5⟩, hc5, hF⟩ := jx_bind hF
      try dsimp only at hF
      refine jx_callVi (As := [.int x1]) (st := []) (h := 0) E dX5_worst_41 1 rfl (k_X5_gainOf hI x1 v3 r5 v5 hc5) (gb_V (List.mem_cons_of_mem _ tw_436) (List.mem_cons_of_mem _ tw_437) (List.mem_cons_of_mem _ tw_438) (List.mem_cons_of_mem _ tw_325) tw_435) rfl rfl rfl dd_X5_gainOf rfl (Nat.le_of_ble_eq_true rfl) s_M0 rfl ⟨by decide, by decide⟩ ⟨Nat.le_refl 0, Nat.le_refl 0⟩ (Nat.le_of_ble_eq_true rfl) ?_
      refine jx_istore (lv' := [(4, .int r5), (3, .int 0), (2, .int (v3 1 0)), (0, .ref (ad 0)), (1, .int x1)]) E dX5_worst_44 (by decide) rfl ?_
      refine jx_iconst (x := 1) E dX5_worst_46 (by decide) ?_
      refine jx_istore (lv' := [(5, .int 1), (4, .int r5), (3, .int 0), (2, .int (v3 1 0)), (0, .ref (ad 0)), (1, .int x1)]) E dX5_worst_47 (by decide) rfl ?_
      refine jx_sub [4, 5, 3, 2, 1, 0] rfl ?_
      exact (key 100000) x1 (v3 1 0) 0 r5 1 v5 hF
    · rw [if_neg hc4] at hF
      refine jx_aload_n E dX5_worst_23 0 rfl ?_
      refine jx_ldc (x := -1000005) E dX5_worst_24 (List.mem_cons_of_mem _ tw_364) ?_
      obtain ⟨⟨r6, v6⟩, hc6, hF⟩ := jx_bind hF
      try dsimp only at hF
      refine jx_callVi (As := [.int (-1000005)]) (st := []) (h := 0) E dX5_worst_26 1 rfl (k_X5_finds hI (-1000005) v3 r6 v6 hc6) (gb_V (List.mem_cons_of_mem _ tw_344) (List.mem_cons_of_mem _ tw_345) (List.mem_cons_of_mem _ tw_346) (List.mem_cons_of_mem _ tw_325) tw_343) rfl rfl rfl dd_X5_finds rfl (Nat.le_of_ble_eq_true rfl) s_M0 rfl ⟨by decide, by decide⟩ ⟨Nat.le_refl 0, Nat.le_refl 0⟩ (Nat.le_of_ble_eq_true rfl) ?_
      obtain ⟨rfl, rfl⟩ := jx_out hF
      exact jx_iret E dX5_worst_29 rfl
  · rw [if_pos hc2] at hF
    refine jx_aload_n E dX5_worst_7 0 rfl ?_
    refine jx_ldc (x := -1000001) E dX5_worst_8 (List.mem_cons_of_mem _ tw_320) ?_
    obtain ⟨⟨r7, v7⟩, hc7, hF⟩ := jx_bind hF
    try dsimp only at hF
    refine jx_callVi (As := [.int (-1000001)]) (st := []) (h := 0) E dX5_worst_10 1 rfl (k_X5_finds hI (-1000001) v1 r7 v7 hc7) (gb_V (List.mem_cons_of_mem _ tw_344) (List.mem_cons_of_mem _ tw_345) (List.mem_cons_of_mem _ tw_346) (List.mem_cons_of_mem _ tw_325) tw_343) rfl rfl rfl dd_X5_finds rfl (Nat.le_of_ble_eq_true rfl) s_M0 rfl ⟨by decide, by decide⟩ ⟨Nat.le_refl 0, Nat.le_refl 0⟩ (Nat.le_of_ble_eq_true rfl) ?_
    obtain ⟨rfl, rfl⟩ := jx_out hF
    exact jx_iret E dX5_worst_13 rfl
def f_X5_isLowered (x1 : Int32) (x2 : Int32) (v : jx_V) : Option (Int32 × jx_V) := ((f_X5_isThing x1 v).bind (fun (r1, v1) => (if r1 = 0 then (some (0, v1)) else ((f_X5_its x1 1 v1).bind (fun (r3, v3) => (if r3 = x2 then ((f_X5_its x1 2 v3).bind (fun (r5, v5) => (if r5 ≤ 0 then (some (0, v5)) else (some (1, v5))))) else (some (0, v3))))))))
def rm_X5_isLowered : Room := { frames := 3, cells := 0, slots := 0, locals := 64 }
set_option maxHeartbeats 4000000 in
set_option maxRecDepth 100000 in
theorem k_X5_isLowered {l : Launch} {D : va_G} {cI cJ : ClassId} {ad : Nat → Nat} {A : Nat → Prop} (hI : jx_inj 13 ad A) (x1 : Int32) (x2 : Int32) (v : jx_V) (r : Int32) (v' : jx_V) (hF : f_X5_isLowered x1 x2 v = some (r, v')) : jx_Ci l D vwCl 13 cI cJ ad shM A ex_M yX5_isLowered (Cond.code yX5_isLowered cX5_isLowered 3 (some .boolean) :: bigT) rm_X5_isLowered [.ref (ad 0), .int x1, .int x2] v r v' := by
  unfold f_X5_isLowered at hF
  refine jx_enteri bigT RX5 cX5_isLowered 3 (some .boolean) [(0, .ref (ad 0)), (1, .int x1), (2, .int x2)] hI (ex_M_ok A) (by decide +kernel) rfl (Nat.le_of_ble_eq_true rfl) rfl rfl ?_
  intro p e s m args below meth c E
  refine jx_aload_n E dX5_isLowered_0 0 rfl ?_
  refine jx_iload_n E dX5_isLowered_1 1 rfl ?_
  obtain ⟨⟨r1, v1⟩, hc1, hF⟩ := jx_bind hF
  try dsimp only at hF
  refine jx_callVi (As := [.int x1]) (st := []) (h := 0) E dX5_isLowered_2 1 rfl (k_X5_isThing hI x1 v r1 v1 hc1) (gb_V (List.mem_cons_of_mem _ tw_339) (List.mem_cons_of_mem _ tw_340) (List.mem_cons_of_mem _ tw_341) (List.mem_cons_of_mem _ tw_325) tw_338) rfl rfl rfl dd_X5_isThing rfl (Nat.le_of_ble_eq_true rfl) s_M0 rfl ⟨by decide, by decide⟩ ⟨Nat.le_refl 0, Nat.le_refl 0⟩ (Nat.le_of_ble_eq_true rfl) ?_
  refine jx_if_eq (tgt := 31) E dX5_isLowered_5 (by decide) (fun hc2 => ?_) (fun hc2 => ?_)
  · rw [if_pos hc2] at hF
    refine jx_iconst (x := 0) E dX5_isLowered_31 (by decide) ?_
    obtain ⟨rfl, rfl⟩ := jx_out hF
    exact jx_zret E dX5_isLowered_32 rfl (Or.inl rfl)
  · rw [if_neg hc2] at hF
    refine jx_aload_n E dX5_isLowered_8 0 rfl ?_
    refine jx_iload_n E dX5_isLowered_9 1 rfl ?_
    refine jx_iconst (x := 1) E dX5_isLowered_10 (by decide) ?_
    obtain ⟨⟨r3, v3⟩, hc3, hF⟩ := jx_bind hF
    try dsimp only at hF
    refine jx_callVi (As := [.int x1, .int 1]) (st := []) (h := 0) E dX5_isLowered_11 2 rfl (k_X5_its hI x1 1 v1 r3 v3 hc3) (gb_V (List.mem_cons_of_mem _ tw_335) (List.mem_cons_of_mem _ tw_336) (List.mem_cons_of_mem _ tw_337) (List.mem_cons_of_mem _ tw_325) tw_334) rfl rfl rfl dd_X5_its rfl (Nat.le_of_ble_eq_true rfl) s_M0 rfl ⟨by decide, by decide⟩ ⟨Nat.le_refl 0, Nat.le_refl 0⟩ (Nat.le_of_ble_eq_true rfl) ?_
    refine jx_iload_n E dX5_isLowered_14 2 rfl ?_
    refine jx_icmp_ne (tgt := 31) E dX5_isLowered_15 (by decide) (fun hc4 => ?_) (fun hc4 => ?_)
    · rw [if_neg hc4] at hF
      refine jx_iconst (x := 0) E dX5_isLowered_31 (by decide) ?_
      obtain ⟨rfl, rfl⟩ := jx_out hF
      exact jx_zret E dX5_isLowered_32 rfl (Or.inl rfl)
    · rw [if_pos hc4] at hF
      refine jx_aload_n E dX5_isLowered_18 0 rfl ?_
      refine jx_iload_n E dX5_isLowered_19 1 rfl ?_
      refine jx_iconst (x := 2) E dX5_isLowered_20 (by decide) ?_
      obtain ⟨⟨r5, v5⟩, hc5, hF⟩ := jx_bind hF
      try dsimp only at hF
      refine jx_callVi (As := [.int x1, .int 2]) (st := []) (h := 0) E dX5_isLowered_21 2 rfl (k_X5_its hI x1 2 v3 r5 v5 hc5) (gb_V (List.mem_cons_of_mem _ tw_335) (List.mem_cons_of_mem _ tw_336) (List.mem_cons_of_mem _ tw_337) (List.mem_cons_of_mem _ tw_325) tw_334) rfl rfl rfl dd_X5_its rfl (Nat.le_of_ble_eq_true rfl) s_M0 rfl ⟨by decide, by decide⟩ ⟨Nat.le_refl 0, Nat.le_refl 0⟩ (Nat.le_of_ble_eq_true rfl) ?_
      refine jx_if_le (tgt := 31) E dX5_isLowered_24 (by decide) (fun hc6 => ?_) (fun hc6 => ?_)
      · rw [if_pos hc6] at hF
        refine jx_iconst (x := 0) E dX5_isLowered_31 (by decide) ?_
        obtain ⟨rfl, rfl⟩ := jx_out hF
        exact jx_zret E dX5_isLowered_32 rfl (Or.inl rfl)
      · rw [if_neg hc6] at hF
        refine jx_iconst (x := 1) E dX5_isLowered_27 (by decide) ?_
        refine jx_goto (tgt := 32) E dX5_isLowered_28 (by decide) ?_
        obtain ⟨rfl, rfl⟩ := jx_out hF
        exact jx_zret E dX5_isLowered_32 rfl (Or.inr rfl)
def f_X5_trade_L  : Nat → Nat → Int32 → Int32 → Int32 → Int32 → Int32 → Int32 → Int32 → jx_V → Option (Int32 × jx_V)
  | 0, _, _, _, _, _, _, _, _, _ => none
  | n + 1, tag, x1, x2, x3, x4, x5, x6, x7, v => (if tag = 0 then (if 25 ≤ x6 then (if 0 ≤ x5 then (some (x5, v)) else ((f_X5_finds (-1000004) v).bind (fun (r13, v13) => (some (r13, v13))))) else (if 0 ≤ x5 then (if 0 ≤ x5 then (some (x5, v)) else ((f_X5_finds (-1000004) v).bind (fun (r16, v16) => (some (r16, v16))))) else (f_X5_trade_L n 1 x1 x2 x3 x4 x5 x6 0 v))) else (if tag = 1 then (if 25 ≤ x7 then (f_X5_trade_L n 0 x1 x2 x3 x4 x5 (x6 + 1) 0 v) else (if 0 ≤ x5 then (f_X5_trade_L n 0 x1 x2 x3 x4 x5 (x6 + 1) 0 v) else ((f_X5_isLowered x6 x1 v).bind (fun (r19, v19) => (if r19 = 0 then (f_X5_trade_L n 1 x1 x2 x3 x4 x5 x6 (x7 + 1) v19) else ((f_X5_isLowered x7 x2 v19).bind (fun (r21, v21) => (if r21 = 0 then (f_X5_trade_L n 1 x1 x2 x3 x4 x5 x6 (x7 + 1) v21) else ((f_X5_at x6 2 v21).bind (fun (r23, v23) => (if (r23 < 0 ∨ 181 ≤ Int32.toNatClampNeg r23) then none else (if (r23 < 0 ∨ 181 ≤ Int32.toNatClampNeg r23) then none else ((f_X5_at x7 2 (jx_up v23 1 (Int32.toNatClampNeg r23) ((v23 1 (Int32.toNatClampNeg r23)) - 1))).bind (fun (r26, v26) => (if (r26 < 0 ∨ 181 ≤ Int32.toNatClampNeg r26) then none else (if (r26 < 0 ∨ 181 ≤ Int32.toNatClampNeg r26) then none else ((f_X5_gainOf x1 (jx_up v26 1 (Int32.toNatClampNeg r26) ((v26 1 (Int32.toNatClampNeg r26)) - 1))).bind (fun (r29, v29) => (if r29 ≤ x3 then ((f_X5_at x6 2 v29).bind (fun (r31, v31) => (if (r31 < 0 ∨ 181 ≤ Int32.toNatClampNeg r31) then none else (if (r31 < 0 ∨ 181 ≤ Int32.toNatClampNeg r31) then none else ((f_X5_at x7 2 (jx_up v31 1 (Int32.toNatClampNeg r31) ((v31 1 (Int32.toNatClampNeg r31)) + 1))).bind (fun (r34, v34) => (if (r34 < 0 ∨ 181 ≤ Int32.toNatClampNeg r34) then none else (if (r34 < 0 ∨ 181 ≤ Int32.toNatClampNeg r34) then none else (f_X5_trade_L n 1 x1 x2 x3 x4 (-1) x6 (x7 + 1) (jx_up v34 1 (Int32.toNatClampNeg r34) ((v34 1 (Int32.toNatClampNeg r34)) + 1))))))))))) else (if (x2 < 0 ∨ 4 ≤ Int32.toNatClampNeg x2) then none else (if (v29 6 (Int32.toNatClampNeg x2)) ≤ x4 then ((f_X5_at x6 2 v29).bind (fun (r39, v39) => (if (r39 < 0 ∨ 181 ≤ Int32.toNatClampNeg r39) then none else (if (r39 < 0 ∨ 181 ≤ Int32.toNatClampNeg r39) then none else ((f_X5_at x7 2 (jx_up v39 1 (Int32.toNatClampNeg r39) ((v39 1 (Int32.toNatClampNeg r39)) + 1))).bind (fun (r42, v42) => (if (r42 < 0 ∨ 181 ≤ Int32.toNatClampNeg r42) then none else (if (r42 < 0 ∨ 181 ≤ Int32.toNatClampNeg r42) then none else (f_X5_trade_L n 1 x1 x2 x3 x4 (-1) x6 (x7 + 1) (jx_up v42 1 (Int32.toNatClampNeg r42) ((v42 1 (Int32.toNatClampNeg r42)) + 1))))))))))) else ((f_X5_at x6 2 v29).bind (fun (r45, v45) => (if (r45 < 0 ∨ 181 ≤ Int32.toNatClampNeg r45) then none else (if (r45 < 0 ∨ 181 ≤ Int32.toNatClampNeg r45) then none else ((f_X5_at x7 2 (jx_up v45 1 (Int32.toNatClampNeg r45) ((v45 1 (Int32.toNatClampNeg r45)) + 1))).bind (fun (r48, v48) => (if (r48 < 0 ∨ 181 ≤ Int32.toNatClampNeg r48) then none else (if (r48 < 0 ∨ 181 ≤ Int32.toNatClampNeg r48) then none else (f_X5_trade_L n 1 x1 x2 x3 x4 ((100 * x6) + x7) x6 (x7 + 1) (jx_up v48 1 (Int32.toNatClampNeg r48) ((v48 1 (Int32.toNatClampNeg r48)) + 1)))))))))))))))))))))))))))))))) else none))
def f_X5_trade (x1 : Int32) (x2 : Int32) (v : jx_V) : Option (Int32 × jx_V) := ((f_X5_isOwner x1 v).bind (fun (r1, v1) => (if r1 = 0 then ((f_X5_finds (-1000001) v1).bind (fun (r3, v3) => (some (r3, v3)))) else ((f_X5_isOwner x2 v1).bind (fun (r4, v4) => (if r4 = 0 then ((f_X5_finds (-1000001) v4).bind (fun (r6, v6) => (some (r6, v6)))) else (if x1 = x2 then ((f_X5_finds (-1000001) v4).bind (fun (r10, v10) => (some (r10, v10)))) else ((f_X5_gainOf x1 v4).bind (fun (r8, v8) => (if (x2 < 0 ∨ 4 ≤ Int32.toNatClampNeg x2) then none else (f_X5_trade_L 100000 0 x1 x2 r8 (v8 6 (Int32.toNatClampNeg x2)) (-1) 0 0 v8)))))))))))
def rm_X5_trade : Room := { frames := 7, cells := 0, slots := 0, locals := 169 }
set_option maxHeartbeats 4000000 in
set_option maxRecDepth 100000 in
theorem k_X5_trade {l : Launch} {D : va_G} {cI cJ : ClassId} {ad : Nat → Nat} {A : Nat → Prop} (hI : jx_inj 13 ad A) (x1 : Int32) (x2 : Int32) (v : jx_V) (r : Int32) (v' : jx_V) (hF : f_X5_trade x1 x2 v = some (r, v')) : jx_Ci l D vwCl 13 cI cJ ad shM A ex_M yX5_trade (Cond.code yX5_trade cX5_trade 8 (some .int) :: bigT) rm_X5_trade [.ref (ad 0), .int x1, .int x2] v r v' := by
  unfold f_X5_trade at hF
  refine jx_enteri bigT RX5 cX5_trade 8 (some .int) [(0, .ref (ad 0)), (1, .int x1), (2, .int x2)] hI (ex_M_ok A) (by decide +kernel) rfl (Nat.le_of_ble_eq_true rfl) rfl rfl ?_
  intro p e s m args below meth c E
  have iX5 : ∀ w ∈ u_ws RX5 TX5 21, w ∈ (Cond.code yX5_trade cX5_trade 8 (some .int) :: bigT) := fun w h => List.mem_cons_of_mem _ (uw_X5 w h)
  have key : ∀ n : Nat, (∀ (x1 : Int32) (x2 : Int32) (x3 : Int32) (x4 : Int32) (x5 : Int32) (x6 : Int32) (v : jx_V), f_X5_trade_L  n 0 x1 x2 x3 x4 x5 x6 0 v = some (r, v') → jx_J p l e rm_X5_trade s m args below meth c D vwCl 13 cI cJ ad shM A 0 0 8 (MQ below (va_Qi (fun (r1 : Int32) (_ : Unit) => r1 = r) (fun _ t => va_P D vwCl (jx_ws 13 cI cJ ad shM v') t.heap) A) args s 0 0 A) v 46 [(0, .ref (ad 0)), (1, .int x1), (2, .int x2), (3, .int x3), (4, .int x4), (5, .int x5), (6, .int x6)] []) ∧ (∀ (x1 : Int32) (x2 : Int32) (x3 : Int32) (x4 : Int32) (x5 : Int32) (x6 : Int32) (x7 : Int32) (v : jx_V), f_X5_trade_L  n 1 x1 x2 x3 x4 x5 x6 x7 v = some (r, v') → jx_J p l e rm_X5_trade s m args below meth c D vwCl 13 cI cJ ad shM A 0 0 8 (MQ below (va_Qi (fun (r1 : Int32) (_ : Unit) => r1 = r) (fun _ t => va_P D vwCl (jx_ws 13 cI cJ ad shM v') t.heap) A) args s 0 0 A) v 61 [(0, .ref (ad 0)), (1, .int x1), (2, .int x2), (3, .int x3), (4, .int x4), (5, .int x5), (6, .int x6), (7, .int x7)] []) := by
    intro n
    induction n with
    | zero =>
      exact ⟨(fun _ _ _ _ _ _ _ h => by cases h), (fun _ _ _ _ _ _ _ _ h => by cases h)⟩
    | succ n ih =>
      refine ⟨?_, ?_⟩
      · intro x1 x2 x3 x4 x5 x6 v hF
        rw [f_X5_trade_L] at hF
        rw [if_pos rfl] at hF
        refine jx_iload E dX5_trade_46 6 rfl ?_
        refine jx_bipush (x := 25) E dX5_trade_48 (by decide) ?_
        refine jx_icmp_ge (tgt := 199) E dX5_trade_50 (by decide) (fun hc11 => ?_) (fun hc11 => ?_)
        · rw [if_pos hc11] at hF
          refine jx_iload E dX5_trade_199 5 rfl ?_
          refine jx_if_ge (tgt := 213) E dX5_trade_201 (by decide) (fun hc12 => ?_) (fun hc12 => ?_)
          · rw [if_pos hc12] at hF
            refine jx_iload E dX5_trade_213 5 rfl ?_
            obtain ⟨rfl, rfl⟩ := jx_out hF
            exact jx_iret E dX5_trade_215 rfl
          · rw [if_neg hc12] at hF
            refine jx_aload_n E dX5_trade_204 0 rfl ?_
            refine jx_ldc (x := -1000004) E dX5_trade_205 (List.mem_cons_of_mem _ tw_365) ?_
            obtain ⟨⟨r13, v13⟩, hc13, hF⟩ := jx_bind hF
            try dsimp only at hF
            refine jx_callVi (As := [.int (-1000004)]) (st := []) (h := 0) E dX5_trade_207 1 rfl (k_X5_finds hI (-1000004) v r13 v13 hc13) (gb_V (List.mem_cons_of_mem _ tw_344) (List.mem_cons_of_mem _ tw_345) (List.mem_cons_of_mem _ tw_346) (List.mem_cons_of_mem _ tw_325) tw_343) rfl rfl rfl dd_X5_finds rfl (Nat.le_of_ble_eq_true rfl) s_M0 rfl ⟨by decide, by decide⟩ ⟨Nat.le_refl 0, Nat.le_refl 0⟩ (Nat.le_of_ble_eq_true rfl) ?_
            refine jx_goto (tgt := 215) E dX5_trade_210 (by decide) ?_
            obtain ⟨rfl, rfl⟩ := jx_out hF
            exact jx_iret E dX5_trade_215 rfl
        · rw [if_neg hc11] at hF
          refine jx_iload E dX5_trade_53 5 rfl ?_
          refine jx_if_ge (tgt := 199) E dX5_trade_55 (by decide) (fun hc14 => ?_) (fun hc14 => ?_)
          · rw [if_pos hc14] at hF
            refine jx_iload E dX5_trade_199 5 rfl ?_
            refine jx_if_ge (tgt := 213) E dX5_trade_201 (by decide) (fun hc15 => ?_) (fun hc15 => ?_)
            · rw [if_pos hc15] at hF
              refine jx_iload E dX5_trade_213 5 rfl ?_
              obtain ⟨rfl, rfl⟩ := jx_out hF
              exact jx_iret E dX5_trade_215 rfl
            · rw [if_neg hc15] at hF
              refine jx_aload_n E dX5_trade_204 0 rfl ?_
              refine jx_ldc (x := -1000004) E dX5_trade_205 (List.mem_cons_of_mem _ tw_365) ?_
              obtain ⟨⟨r16, v16⟩, hc16, hF⟩ := jx_bind hF
              try dsimp only at hF
              refine jx_callVi (As := [.int (-1000004)]) (st := []) (h := 0) E dX5_trade_207 1 rfl (k_X5_finds hI (-1000004) v r16 v16 hc16) (gb_V (List.mem_cons_of_mem _ tw_344) (List.mem_cons_of_mem _ tw_345) (List.mem_cons_of_mem _ tw_346) (List.mem_cons_of_mem _ tw_325) tw_343) rfl rfl rfl dd_X5_finds rfl (Nat.le_of_ble_eq_true rfl) s_M0 rfl ⟨by decide, by decide⟩ ⟨Nat.le_refl 0, Nat.le_refl 0⟩ (Nat.le_of_ble_eq_true rfl) ?_
              refine jx_goto (tgt := 215) E dX5_trade_210 (by decide) ?_
              obtain ⟨rfl, rfl⟩ := jx_out hF
              exact jx_iret E dX5_trade_215 rfl
          · rw [if_neg hc14] at hF
            refine jx_iconst (x := 0) E dX5_trade_58 (by decide) ?_
            refine jx_istore (lv' := [(7, .int 0), (0, .ref (ad 0)), (1, .int x1), (2, .int x2), (3, .int x3), (4, .int x4), (5, .int x5), (6, .int x6)]) E dX5_trade_59 (by decide) rfl ?_
            refine jx_sub [1, 2, 3, 4, 5, 6, 7, 0] rfl ?_
            exact ih.2 x1 x2 x3 x4 x5 x6 0 v hF
      · intro x1 x2 x3 x4 x5 x6 x7 v hF
        rw [f_X5_trade_L] at hF
        rw [if_neg (by decide), if_pos rfl] at hF
        refine jx_iload E dX5_trade_61 7 rfl ?_
        refine jx_bipush (x := 25) E dX5_trade_63 (by decide) ?_
        refine jx_icmp_ge (tgt := 193) E dX5_trade_65 (by decide) (fun hc17 => ?_) (fun hc17 => ?_)
        · rw [if_pos hc17] at hF
          refine jx_iinc (y := (x6 + 1)) (lv' := [(6, .int (x6 + 1)), (0, .ref (ad 0)), (1, .int x1), (2, .int x2), (3, .int x3), (4, .int x4), (5, .int x5), (7, .int x7)]) E dX5_trade_193 6 rfl rfl (by decide) rfl ?_
          refine jx_goto (tgt := 46) E dX5_trade_196 (by decide) ?_
          refine jx_sub [1, 2, 3, 4, 5, 6, 0] rfl ?_
          exact ih.1 x1 x2 x3 x4 x5 (x6 + 1) v hF
        · rw [if_neg hc17] at hF
          refine jx_iload E dX5_trade_68 5 rfl ?_
          refine jx_if_ge (tgt := 193) E dX5_trade_70 (by decide) (fun hc18 => ?_) (fun hc18 => ?_)
          · rw [if_pos hc18] at hF
            refine jx_iinc (y := (x6 + 1)) (lv' := [(6, .int (x6 + 1)), (0, .ref (ad 0)), (1, .int x1), (2, .int x2), (3, .int x3), (4, .int x4), (5, .int x5), (7, .int x7)]) E dX5_trade_193 6 rfl rfl (by decide) rfl ?_
            refine jx_goto (tgt := 46) E dX5_trade_196 (by decide) ?_
            refine jx_sub [1, 2, 3, 4, 5, 6, 0] rfl ?_
            exact ih.1 x1 x2 x3 x4 x5 (x6 + 1) v hF
          · rw [if_neg hc18] at hF
            refine jx_aload_n E dX5_trade_73 0 rfl ?_
            refine jx_iload E dX5_trade_74 6 rfl ?_
            refine jx_iload_n E dX5_trade_76 1 rfl ?_
            obtain ⟨⟨r19, v19⟩, hc19, hF⟩ := jx_bind hF
            try dsimp only at hF
            refine jx_callVi (As := [.int x6, .int x1]) (st := []) (h := 0) E dX5_trade_77 2 rfl (k_X5_isLowered hI x6 x1 v r19 v19 hc19) (gb_V (List.mem_cons_of_mem _ tw_486) (List.mem_cons_of_mem _ tw_487) (List.mem_cons_of_mem _ tw_488) (List.mem_cons_of_mem _ tw_325) tw_485) rfl rfl rfl dd_X5_isLowered rfl (Nat.le_of_ble_eq_true rfl) s_M0 rfl ⟨by decide, by decide⟩ ⟨Nat.le_refl 0, Nat.le_refl 0⟩ (Nat.le_of_ble_eq_true rfl) ?_
            refine jx_if_eq (tgt := 187) E dX5_trade_80 (by decide) (fun hc20 => ?_) (fun hc20 => ?_)
            · rw [if_pos hc20] at hF
              refine jx_iinc (y := (x7 + 1)) (lv' := [(7, .int (x7 + 1)), (0, .ref (ad 0)), (1, .int x1), (2, .int x2), (3, .int x3), (4, .int x4), (5, .int x5), (6, .int x6)]) E dX5_trade_187 7 rfl rfl (by decide) rfl ?_
              refine jx_goto (tgt := 61) E dX5_trade_190 (by decide) ?_
              refine jx_sub [1, 2, 3, 4, 5, 6, 7, 0] rfl ?_
              exact ih.2 x1 x2 x3 x4 x5 x6 (x7 + 1) v19 hF
            · rw [if_neg hc20] at hF
              refine jx_aload_n E dX5_trade_83 0 rfl ?_
              refine jx_iload E dX5_trade_84 7 rfl ?_
              refine jx_iload_n E dX5_trade_86 2 rfl ?_
              obtain ⟨⟨r21, v21⟩, hc21, hF⟩ := jx_bind hF
              try dsimp only at hF
              refine jx_callVi (As := [.int x7, .int x2]) (st := []) (h := 0) E dX5_trade_87 2 rfl (k_X5_isLowered hI x7 x2 v19 r21 v21 hc21) (gb_V (List.mem_cons_of_mem _ tw_486) (List.mem_cons_of_mem _ tw_487) (List.mem_cons_of_mem _ tw_488) (List.mem_cons_of_mem _ tw_325) tw_485) rfl rfl rfl dd_X5_isLowered rfl (Nat.le_of_ble_eq_true rfl) s_M0 rfl ⟨by decide, by decide⟩ ⟨Nat.le_refl 0, Nat.le_refl 0⟩ (Nat.le_of_ble_eq_true rfl) ?_
              refine jx_if_eq (tgt := 187) E dX5_trade_90 (by decide) (fun hc22 => ?_) (fun hc22 => ?_)
              · rw [if_pos hc22] at hF
                refine jx_iinc (y := (x7 + 1)) (lv' := [(7, .int (x7 + 1)), (0, .ref (ad 0)), (1, .int x1), (2, .int x2), (3, .int x3), (4, .int x4), (5, .int x5), (6, .int x6)]) E dX5_trade_187 7 rfl rfl (by decide) rfl ?_
                refine jx_goto (tgt := 61) E dX5_trade_190 (by decide) ?_
                refine jx_sub [1, 2, 3, 4, 5, 6, 7, 0] rfl ?_
                exact ih.2 x1 x2 x3 x4 x5 x6 (x7 + 1) v21 hF
              · rw [if_neg hc22] at hF
                refine jx_aload_n E dX5_trade_93 0 rfl ?_
                refine jx_getr (C := RX5) (T := TX5) (M := 21) (k := 0) E dX5_trade_94 (Nat.le_of_ble_eq_true rfl) s_M0 rfl iX5 (by decide) rfl (List.mem_cons_of_mem _ tw_328) rfl ?_
                refine jx_iload E dX5_trade_97 6 rfl ?_
                refine jx_iconst (x := 2) E dX5_trade_99 (by decide) ?_
                obtain ⟨⟨r23, v23⟩, hc23, hF⟩ := jx_bind hF
                try dsimp only at hF
                refine jx_callSi (As := [.int x6, .int 2]) (st := [.ref (ad 1)]) E dX5_trade_100 2 rfl (k_X5_at hI x6 2 v21 r23 v23 hc23) (gb_S (List.mem_cons_of_mem _ tw_332) (List.mem_cons_of_mem _ tw_333) (List.mem_cons_of_mem _ tw_325) tw_331) rfl rfl rfl dd_X5_at rfl ⟨by decide, by decide⟩ ⟨Nat.le_refl 0, Nat.le_refl 0⟩ (Nat.le_of_ble_eq_true rfl) ?_
                refine jx_dup2 E dX5_trade_103 rfl rfl ?_
                obtain ⟨hg24, hF⟩ := jx_guard hF
                refine jx_iald (h := 1) (j := (Int32.toNatClampNeg r23)) E dX5_trade_104 (Nat.le_of_ble_eq_true rfl) s_M1 hg24 rfl ?_
                refine jx_iconst (x := 1) E dX5_trade_105 (by decide) ?_
                refine jx_isub E dX5_trade_106 ?_
                obtain ⟨hg25, hF⟩ := jx_guard hF
                refine jx_iast (h := 1) (j := (Int32.toNatClampNeg r23)) E dX5_trade_107 (Nat.le_of_ble_eq_true rfl) s_M1 hg25 rfl ?_
                refine jx_aload_n E dX5_trade_108 0 rfl ?_
                refine jx_getr (C := RX5) (T := TX5) (M := 21) (k := 0) E dX5_trade_109 (Nat.le_of_ble_eq_true rfl) s_M0 rfl iX5 (by decide) rfl (List.mem_cons_of_mem _ tw_328) rfl ?_
                refine jx_iload E dX5_trade_112 7 rfl ?_
                refine jx_iconst (x := 2) E dX5_trade_114 (by decide) ?_
                obtain ⟨⟨r26, v26⟩, hc26, hF⟩ := jx_bind hF
                try dsimp only at hF
                refine jx_callSi (As := [.int x7, .int 2]) (st := [.ref (ad 1)]) E dX5_trade_115 2 rfl (k_X5_at hI x7 2 (jx_up v23 1 (Int32.toNatClampNeg r23) ((v23 1 (Int32.toNatClampNeg r23)) - 1)) r26 v26 hc26) (gb_S (List.mem_cons_of_mem _ tw_332) (List.mem_cons_of_mem _ tw_333) (List.mem_cons_of_mem _ tw_325) tw_331) rfl rfl rfl dd_X5_at rfl ⟨by decide, by decide⟩ ⟨Nat.le_refl 0, Nat.le_refl 0⟩ (Nat.le_of_ble_eq_true rfl) ?_
                refine jx_dup2 E dX5_trade_118 rfl rfl ?_
                obtain ⟨hg27, hF⟩ := jx_guard hF
                refine jx_iald (h := 1) (j := (Int32.toNatClampNeg r26)) E dX5_trade_119 (Nat.le_of_ble_eq_true rfl) s_M1 hg27 rfl ?_
                refine jx_iconst (x := 1) E dX5_trade_120 (by decide) ?_
                refine jx_isub E dX5_trade_121 ?_
                obtain ⟨hg28, hF⟩ := jx_guard hF
                refine jx_iast (h := 1) (j := (Int32.toNatClampNeg r26)) E dX5_trade_122 (Nat.le_of_ble_eq_true rfl) s_M1 hg28 rfl ?_
                refine jx_aload_n E dX5_trade_123 0 rfl ?_
                refine jx_iload_n E dX5_trade_124 1 rfl ?_
                obtain ⟨⟨r29, v29⟩, hc29, hF⟩ := jx_bind hF
                try dsimp only at hF
                refine jx_callVi (As := [.int x1]) (st := []) (h := 0) E dX5_trade_125 1 rfl (k_X5_gainOf hI x1 (jx_up v26 1 (Int32.toNatClampNeg r26) ((v26 1 (Int32.toNatClampNeg r26)) - 1)) r29 v29 hc29) (gb_V (List.mem_cons_of_mem _ tw_436) (List.mem_cons_of_mem _ tw_437) (List.mem_cons_of_mem _ tw_438) (List.mem_cons_of_mem _ tw_325) tw_435) rfl rfl rfl dd_X5_gainOf rfl (Nat.le_of_ble_eq_true rfl) s_M0 rfl ⟨by decide, by decide⟩ ⟨Nat.le_refl 0, Nat.le_refl 0⟩ (Nat.le_of_ble_eq_true rfl) ?_
                refine jx_iload_n E dX5_trade_128 3 rfl ?_
                refine jx_icmp_le (tgt := 154) E dX5_trade_129 (by decide) (fun hc30 => ?_) (fun hc30 => ?_)
                · rw [if_pos hc30] at hF
                  refine jx_iconst (x := -1) E dX5_trade_154 (by decide) ?_
                  refine jx_istore (lv' := [(5, .int (-1)), (0, .ref (ad 0)), (1, .int x1), (2, .int x2), (3, .int x3), (4, .int x4), (6, .int x6), (7, .int x7)]) E dX5_trade_155 (by decide) rfl ?_
                  refine jx_aload_n E dX5_trade_157 1 rfl ?_
                  refine jx_getr (C := RX5) (T := TX5) (M := 21) (k := 0) E dX5_trade_158 (Nat.le_of_ble_eq_true rfl) s_M0 rfl iX5 (by decide) rfl (List.mem_cons_of_mem _ tw_328) rfl ?_
                  refine jx_iload E dX5_trade_161 6 rfl ?_
                  refine jx_iconst (x := 2) E dX5_trade_163 (by decide) ?_
                  obtain ⟨⟨r31, v31⟩, hc31, hF⟩ := jx_bind hF
                  try dsimp only at hF
                  refine jx_callSi (As := [.int x6, .int 2]) (st := [.ref (ad 1)]) E dX5_trade_164 2 rfl (k_X5_at hI x6 2 v29 r31 v31 hc31) (gb_S (List.mem_cons_of_mem _ tw_332) (List.mem_cons_of_mem _ tw_333) (List.mem_cons_of_mem _ tw_325) tw_331) rfl rfl rfl dd_X5_at rfl ⟨by decide, by decide⟩ ⟨Nat.le_refl 0, Nat.le_refl 0⟩ (Nat.le_of_ble_eq_true rfl) ?_
                  refine jx_dup2 E dX5_trade_167 rfl rfl ?_
                  obtain ⟨hg32, hF⟩ := jx_guard hF
                  refine jx_iald (h := 1) (j := (Int32.toNatClampNeg r31)) E dX5_trade_168 (Nat.le_of_ble_eq_true rfl) s_M1 hg32 rfl ?_
                  refine jx_iconst (x := 1) E dX5_trade_169 (by decide) ?_
                  refine jx_iadd E dX5_trade_170 ?_
                  obtain ⟨hg33, hF⟩ := jx_guard hF
                  refine jx_iast (h := 1) (j := (Int32.toNatClampNeg r31)) E dX5_trade_171 (Nat.le_of_ble_eq_true rfl) s_M1 hg33 rfl ?_
                  refine jx_aload_n E dX5_trade_172 1 rfl ?_
                  refine jx_getr (C := RX5) (T := TX5) (M := 21) (k := 0) E dX5_trade_173 (Nat.le_of_ble_eq_true rfl) s_M0 rfl iX5 (by decide) rfl (List.mem_cons_of_mem _ tw_328) rfl ?_
                  refine jx_iload E dX5_trade_176 7 rfl ?_
                  refine jx_iconst (x := 2) E dX5_trade_178 (by decide) ?_
                  obtain ⟨⟨r34, v34⟩, hc34, hF⟩ := jx_bind hF
                  try dsimp only at hF
                  refine jx_callSi (As := [.int x7, .int 2]) (st := [.ref (ad 1)]) E dX5_trade_179 2 rfl (k_X5_at hI x7 2 (jx_up v31 1 (Int32.toNatClampNeg r31) ((v31 1 (Int32.toNatClampNeg r31)) + 1)) r34 v34 hc34) (gb_S (List.mem_cons_of_mem _ tw_332) (List.mem_cons_of_mem _ tw_333) (List.mem_cons_of_mem _ tw_325) tw_331) rfl rfl rfl dd_X5_at rfl ⟨by decide, by decide⟩ ⟨Nat.le_refl 0, Nat.le_refl 0⟩ (Nat.le_of_ble_eq_true rfl) ?_
                  refine jx_dup2 E dX5_trade_182 rfl rfl ?_
                  obtain ⟨hg35, hF⟩ := jx_guard hF
                  refine jx_iald (h := 1) (j := (Int32.toNatClampNeg r34)) E dX5_trade_183 (Nat.le_of_ble_eq_true rfl) s_M1 hg35 rfl ?_
                  refine jx_iconst (x := 1) E dX5_trade_184 (by decide) ?_
                  refine jx_iadd E dX5_trade_185 ?_
                  obtain ⟨hg36, hF⟩ := jx_guard hF
                  refine jx_iast (h := 1) (j := (Int32.toNatClampNeg r34)) E dX5_trade_186 (Nat.le_of_ble_eq_true rfl) s_M1 hg36 rfl ?_
                  refine jx_iinc (y := (x7 + 1)) (lv' := [(7, .int (x7 + 1)), (5, .int (-1)), (0, .ref (ad 0)), (1, .int x1), (2, .int x2), (3, .int x3), (4, .int x4), (6, .int x6)]) E dX5_trade_187 7 rfl rfl (by decide) rfl ?_
                  refine jx_goto (tgt := 61) E dX5_trade_190 (by decide) ?_
                  refine jx_sub [2, 3, 4, 5, 6, 1, 7, 0] rfl ?_
                  exact ih.2 x1 x2 x3 x4 (-1) x6 (x7 + 1) (jx_up v34 1 (Int32.toNatClampNeg r34) ((v34 1 (Int32.toNatClampNeg r34)) + 1)) hF
                · rw [if_neg hc30] at hF
                  refine jx_aload_n E dX5_trade_132 0 rfl ?_
                  refine jx_getr (C := RX5) (T := TX5) (M := 21) (k := 9) E dX5_trade_133 (Nat.le_of_ble_eq_true rfl) s_M0 rfl iX5 (by decide) rfl (List.mem_cons_of_mem _ tw_420) rfl ?_
                  refine jx_iload_n E dX5_trade_136 2 rfl ?_
                  obtain ⟨hg37, hF⟩ := jx_guard hF
                  refine jx_iald (h := 6) (j := (Int32.toNatClampNeg x2)) E dX5_trade_137 (Nat.le_of_ble_eq_true rfl) s_M6 hg37 rfl ?_
                  refine jx_iload E dX5_trade_138 4 rfl ?_
                  refine jx_icmp_le (tgt := 154) E dX5_trade_140 (by decide) (fun hc38 => ?_) (fun hc38 => ?_)
                  · rw [if_pos hc38] at hF
                    refine jx_iconst (x := -1) E dX5_trade_154 (by decide) ?_
                    refine jx_istore (lv' := [(5, .int (-1)), (0, .ref (ad 0)), (1, .int x1), (2, .int x2), (3, .int x3), (4, .int x4), (6, .int x6), (7, .int x7)]) E dX5_trade_155 (by decide) rfl ?_
                    refine jx_aload_n E dX5_trade_157 1 rfl ?_
                    refine jx_getr (C := RX5) (T := TX5) (M := 21) (k := 0) E dX5_trade_158 (Nat.le_of_ble_eq_true rfl) s_M0 rfl iX5 (by decide) rfl (List.mem_cons_of_mem _ tw_328) rfl ?_
                    refine jx_iload E dX5_trade_161 6 rfl ?_
                    refine jx_iconst (x := 2) E dX5_trade_163 (by decide) ?_
                    obtain ⟨⟨r39, v39⟩, hc39, hF⟩ := jx_bind hF
                    try dsimp only at hF
                    refine jx_callSi (As := [.int x6, .int 2]) (st := [.ref (ad 1)]) E dX5_trade_164 2 rfl (k_X5_at hI x6 2 v29 r39 v39 hc39) (gb_S (List.mem_cons_of_mem _ tw_332) (List.mem_cons_of_mem _ tw_333) (List.mem_cons_of_mem _ tw_325) tw_331) rfl rfl rfl dd_X5_at rfl ⟨by decide, by decide⟩ ⟨Nat.le_refl 0, Nat.le_refl 0⟩ (Nat.le_of_ble_eq_true rfl) ?_
                    refine jx_dup2 E dX5_trade_167 rfl rfl ?_
                    obtain ⟨hg40, hF⟩ := jx_guard hF
                    refine jx_iald (h := 1) (j := (Int32.toNatClampNeg r39)) E dX5_trade_168 (Nat.le_of_ble_eq_true rfl) s_M1 hg40 rfl ?_
                    refine jx_iconst (x := 1) E dX5_trade_169 (by decide) ?_
                    refine jx_iadd E dX5_trade_170 ?_
                    obtain ⟨hg41, hF⟩ := jx_guard hF
                    refine jx_iast (h := 1) (j := (Int32.toNatClampNeg r39)) E dX5_trade_171 (Nat.le_of_ble_eq_true rfl) s_M1 hg41 rfl ?_
                    refine jx_aload_n E dX5_trade_172 1 rfl ?_
                    refine jx_getr (C := RX5) (T := TX5) (M := 21) (k := 0) E dX5_trade_173 (Nat.le_of_ble_eq_true rfl) s_M0 rfl iX5 (by decide) rfl (List.mem_cons_of_mem _ tw_328) rfl ?_
                    refine jx_iload E dX5_trade_176 7 rfl ?_
                    refine jx_iconst (x := 2) E dX5_trade_178 (by decide) ?_
                    obtain ⟨⟨r42, v42⟩, hc42, hF⟩ := jx_bind hF
                    try dsimp only at hF
                    refine jx_callSi (As := [.int x7, .int 2]) (st := [.ref (ad 1)]) E dX5_trade_179 2 rfl (k_X5_at hI x7 2 (jx_up v39 1 (Int32.toNatClampNeg r39) ((v39 1 (Int32.toNatClampNeg r39)) + 1)) r42 v42 hc42) (gb_S (List.mem_cons_of_mem _ tw_332) (List.mem_cons_of_mem _ tw_333) (List.mem_cons_of_mem _ tw_325) tw_331) rfl rfl rfl dd_X5_at rfl ⟨by decide, by decide⟩ ⟨Nat.le_refl 0, Nat.le_refl 0⟩ (Nat.le_of_ble_eq_true rfl) ?_
                    refine jx_dup2 E dX5_trade_182 rfl rfl ?_
                    obtain ⟨hg43, hF⟩ := jx_guard hF
                    refine jx_iald (h := 1) (j := (Int32.toNatClampNeg r42)) E dX5_trade_183 (Nat.le_of_ble_eq_true rfl) s_M1 hg43 rfl ?_
                    refine jx_iconst (x := 1) E dX5_trade_184 (by decide) ?_
                    refine jx_iadd E dX5_trade_185 ?_
                    obtain ⟨hg44, hF⟩ := jx_guard hF
                    refine jx_iast (h := 1) (j := (Int32.toNatClampNeg r42)) E dX5_trade_186 (Nat.le_of_ble_eq_true rfl) s_M1 hg44 rfl ?_
                    refine jx_iinc (y := (x7 + 1)) (lv' := [(7, .int (x7 + 1)), (5, .int (-1)), (0, .ref (ad 0)), (1, .int x1), (2, .int x2), (3, .int x3), (4, .int x4), (6, .int x6)]) E dX5_trade_187 7 rfl rfl (by decide) rfl ?_
                    refine jx_goto (tgt := 61) E dX5_trade_190 (by decide) ?_
                    refine jx_sub [2, 3, 4, 5, 6, 1, 7, 0] rfl ?_
                    exact ih.2 x1 x2 x3 x4 (-1) x6 (x7 + 1) (jx_up v42 1 (Int32.toNatClampNeg r42) ((v42 1 (Int32.toNatClampNeg r42)) + 1)) hF
                  · rw [if_neg hc38] at hF
                    refine jx_bipush (x := 100) E dX5_trade_143 (by decide) ?_
                    refine jx_iload E dX5_trade_145 6 rfl ?_
                    refine jx_imul E dX5_trade_147 ?_
                    refine jx_iload E dX5_trade_148 7 rfl ?_
                    refine jx_iadd E dX5_trade_150 ?_
                    refine jx_goto (tgt := 155) E dX5_trade_151 (by decide) ?_
                    refine jx_istore (lv' := [(5, .int ((100 * x6) + x7)), (0, .ref (ad 0)), (1, .int x1), (2, .int x2), (3, .int x3), (4, .int x4), (6, .int x6), (7, .int x7)]) E dX5_trade_155 (by decide) rfl ?_
                    refine jx_aload_n E dX5_trade_157 1 rfl ?_
                    refine jx_getr (C := RX5) (T := TX5) (M := 21) (k := 0) E dX5_trade_158 (Nat.le_of_ble_eq_true rfl) s_M0 rfl iX5 (by decide) rfl (List.mem_cons_of_mem _ tw_328) rfl ?_
                    refine jx_iload E dX5_trade_161 6 rfl ?_
                    refine jx_iconst (x := 2) E dX5_trade_163 (by decide) ?_
                    obtain ⟨⟨r45, v45⟩, hc45, hF⟩ := jx_bind hF
                    try dsimp only at hF
                    refine jx_callSi (As := [.int x6, .int 2]) (st := [.ref (ad 1)]) E dX5_trade_164 2 rfl (k_X5_at hI x6 2 v29 r45 v45 hc45) (gb_S (List.mem_cons_of_mem _ tw_332) (List.mem_cons_of_mem _ tw_333) (List.mem_cons_of_mem _ tw_325) tw_331) rfl rfl rfl dd_X5_at rfl ⟨by decide, by decide⟩ ⟨Nat.le_refl 0, Nat.le_refl 0⟩ (Nat.le_of_ble_eq_true rfl) ?_
                    refine jx_dup2 E dX5_trade_167 rfl rfl ?_
                    obtain ⟨hg46, hF⟩ := jx_guard hF
                    refine jx_iald (h := 1) (j := (Int32.toNatClampNeg r45)) E dX5_trade_168 (Nat.le_of_ble_eq_true rfl) s_M1 hg46 rfl ?_
                    refine jx_iconst (x := 1) E dX5_trade_169 (by decide) ?_
                    refine jx_iadd E dX5_trade_170 ?_
                    obtain ⟨hg47, hF⟩ := jx_guard hF
                    refine jx_iast (h := 1) (j := (Int32.toNatClampNeg r45)) E dX5_trade_171 (Nat.le_of_ble_eq_true rfl) s_M1 hg47 rfl ?_
                    refine jx_aload_n E dX5_trade_172 1 rfl ?_
                    refine jx_getr (C := RX5) (T := TX5) (M := 21) (k := 0) E dX5_trade_173 (Nat.le_of_ble_eq_true rfl) s_M0 rfl iX5 (by decide) rfl (List.mem_cons_of_mem _ tw_328) rfl ?_
                    refine jx_iload E dX5_trade_176 7 rfl ?_
                    refine jx_iconst (x := 2) E dX5_trade_178 (by decide) ?_
                    obtain ⟨⟨r48, v48⟩, hc48, hF⟩ := jx_bind hF
                    try dsimp only at hF
                    refine jx_callSi (As := [.int x7, .int 2]) (st := [.ref (ad 1)]) E dX5_trade_179 2 rfl (k_X5_at hI x7 2 (jx_up v45 1 (Int32.toNatClampNeg r45) ((v45 1 (Int32.toNatClampNeg r45)) + 1)) r48 v48 hc48) (gb_S (List.mem_cons_of_mem _ tw_332) (List.mem_cons_of_mem _ tw_333) (List.mem_cons_of_mem _ tw_325) tw_331) rfl rfl rfl dd_X5_at rfl ⟨by decide, by decide⟩ ⟨Nat.le_refl 0, Nat.le_refl 0⟩ (Nat.le_of_ble_eq_true rfl) ?_
                    refine jx_dup2 E dX5_trade_182 rfl rfl ?_
                    obtain ⟨hg49, hF⟩ := jx_guard hF
                    refine jx_iald (h := 1) (j := (Int32.toNatClampNeg r48)) E dX5_trade_183 (Nat.le_of_ble_eq_true rfl) s_M1 hg49 rfl ?_
                    refine jx_iconst (x := 1) E dX5_trade_184 (by decide) ?_
                    refine jx_iadd E dX5_trade_185 ?_
                    obtain ⟨hg50, hF⟩ := jx_guard hF
                    refine jx_iast (h := 1) (j := (Int32.toNatClampNeg r48)) E dX5_trade_186 (Nat.le_of_ble_eq_true rfl) s_M1 hg50 rfl ?_
                    refine jx_iinc (y := (x7 + 1)) (lv' := [(7, .int (x7 + 1)), (5, .int ((100 * x6) + x7)), (0, .ref (ad 0)), (1, .int x1), (2, .int x2), (3, .int x3), (4, .int x4), (6, .int x6)]) E dX5_trade_187 7 rfl rfl (by decide) rfl ?_
                    refine jx_goto (tgt := 61) E dX5_trade_190 (by decide) ?_
                    refine jx_sub [2, 3, 4, 5, 6, 1, 7, 0] rfl ?_
                    exact ih.2 x1 x2 x3 x4 ((100 * x6) + x7) x6 (x7 + 1) (jx_up v48 1 (Int32.toNatClampNeg r48) ((v48 1 (Int32.toNatClampNeg r48)) + 1)) hF
  refine jx_iload_n E dX5_trade_0 1 rfl ?_
  obtain ⟨⟨r1, v1⟩, hc1, hF⟩ := jx_bind hF
  try dsimp only at hF
  refine jx_callSi (As := [.int x1]) (st := []) E dX5_trade_1 1 rfl (k_X5_isOwner hI x1 v r1 v1 hc1) (gb_S (List.mem_cons_of_mem _ tw_351) (List.mem_cons_of_mem _ tw_352) (List.mem_cons_of_mem _ tw_325) tw_350) rfl rfl rfl dd_X5_isOwner rfl ⟨by decide, by decide⟩ ⟨Nat.le_refl 0, Nat.le_refl 0⟩ (Nat.le_of_ble_eq_true rfl) ?_
  refine jx_if_eq (tgt := 19) E dX5_trade_4 (by decide) (fun hc2 => ?_) (fun hc2 => ?_)
  · rw [if_pos hc2] at hF
    refine jx_aload_n E dX5_trade_19 0 rfl ?_
    refine jx_ldc (x := -1000001) E dX5_trade_20 (List.mem_cons_of_mem _ tw_320) ?_
    obtain ⟨⟨r3, v3⟩, hc3, hF⟩ := jx_bind hF
    try dsimp only at hF
    refine jx_callVi (As := [.int (-1000001)]) (st := []) (h := 0) E dX5_trade_22 1 rfl (k_X5_finds hI (-1000001) v1 r3 v3 hc3) (gb_V (List.mem_cons_of_mem _ tw_344) (List.mem_cons_of_mem _ tw_345) (List.mem_cons_of_mem _ tw_346) (List.mem_cons_of_mem _ tw_325) tw_343) rfl rfl rfl dd_X5_finds rfl (Nat.le_of_ble_eq_true rfl) s_M0 rfl ⟨by decide, by decide⟩ ⟨Nat.le_refl 0, Nat.le_refl 0⟩ (Nat.le_of_ble_eq_true rfl) ?_
    obtain ⟨rfl, rfl⟩ := jx_out hF
    exact jx_iret E dX5_trade_25 rfl
  · rw [if_neg hc2] at hF
    refine jx_iload_n E dX5_trade_7 2 rfl ?_
    obtain ⟨⟨r4, v4⟩, hc4, hF⟩ := jx_bind hF
    try dsimp only at hF
    refine jx_callSi (As := [.int x2]) (st := []) E dX5_trade_8 1 rfl (k_X5_isOwner hI x2 v1 r4 v4 hc4) (gb_S (List.mem_cons_of_mem _ tw_351) (List.mem_cons_of_mem _ tw_352) (List.mem_cons_of_mem _ tw_325) tw_350) rfl rfl rfl dd_X5_isOwner rfl ⟨by decide, by decide⟩ ⟨Nat.le_refl 0, Nat.le_refl 0⟩ (Nat.le_of_ble_eq_true rfl) ?_
    refine jx_if_eq (tgt := 19) E dX5_trade_11 (by decide) (fun hc5 => ?_) (fun hc5 => ?_)
    · rw [if_pos hc5] at hF
      refine jx_aload_n E dX5_trade_19 0 rfl ?_
      refine jx_ldc (x := -1000001) E dX5_trade_20 (List.mem_cons_of_mem _ tw_320) ?_
      obtain ⟨⟨r6, v6⟩, hc6, hF⟩ := jx_bind hF
      try dsimp only at hF
      refine jx_callVi (As := [.int (-1000001)]) (st := []) (h := 0) E dX5_trade_22 1 rfl (k_X5_finds hI (-1000001) v4 r6 v6 hc6) (gb_V (List.mem_cons_of_mem _ tw_344) (List.mem_cons_of_mem _ tw_345) (List.mem_cons_of_mem _ tw_346) (List.mem_cons_of_mem _ tw_325) tw_343) rfl rfl rfl dd_X5_finds rfl (Nat.le_of_ble_eq_true rfl) s_M0 rfl ⟨by decide, by decide⟩ ⟨Nat.le_refl 0, Nat.le_refl 0⟩ (Nat.le_of_ble_eq_true rfl) ?_
      obtain ⟨rfl, rfl⟩ := jx_out hF
      exact jx_iret E dX5_trade_25 rfl
    · rw [if_neg hc5] at hF
      refine jx_iload_n E dX5_trade_14 1 rfl ?_
      refine jx_iload_n E dX5_trade_15 2 rfl ?_
      refine jx_icmp_ne (tgt := 26) E dX5_trade_16 (by decide) (fun hc7 => ?_) (fun hc7 => ?_)
      · rw [if_neg hc7] at hF
        refine jx_aload_n E dX5_trade_26 0 rfl ?_
        refine jx_iload_n E dX5_trade_27 1 rfl ?_
        obtain ⟨⟨r8, v8⟩, hc8, hF⟩ := jx_bind hF
        try dsimp only at hF
        refine jx_callVi (As := [.int x1]) (st := []) (h := 0) E dX5_trade_28 1 rfl (k_X5_gainOf hI x1 v4 r8 v8 hc8) (gb_V (List.mem_cons_of_mem _ tw_436) (List.mem_cons_of_mem _ tw_437) (List.mem_cons_of_mem _ tw_438) (List.mem_cons_of_mem _ tw_325) tw_435) rfl rfl rfl dd_X5_gainOf rfl (Nat.le_of_ble_eq_true rfl) s_M0 rfl ⟨by decide, by decide⟩ ⟨Nat.le_refl 0, Nat.le_refl 0⟩ (Nat.le_of_ble_eq_true rfl) ?_
        refine jx_istore_n (lv' := [(3, .int r8), (0, .ref (ad 0)), (1, .int x1), (2, .int x2)]) E dX5_trade_31 (by decide) rfl ?_
        refine jx_aload_n E dX5_trade_32 1 rfl ?_
        refine jx_getr (C := RX5) (T := TX5) (M := 21) (k := 9) E dX5_trade_33 (Nat.le_of_ble_eq_true rfl) s_M0 rfl iX5 (by decide) rfl (List.mem_cons_of_mem _ tw_420) rfl ?_
        refine jx_iload_n E dX5_trade_36 3 rfl ?_
        obtain ⟨hg9, hF⟩ := jx_guard hF
        refine jx_iald (h := 6) (j := (Int32.toNatClampNeg x2)) E dX5_trade_37 (Nat.le_of_ble_eq_true rfl) s_M6 hg9 rfl ?_
        refine jx_istore (lv' := [(4, .int (v8 6 (Int32.toNatClampNeg x2))), (3, .int r8), (0, .ref (ad 0)), (1, .int x1), (2, .int x2)]) E dX5_trade_38 (by decide) rfl ?_
        refine jx_iconst (x := -1) E dX5_trade_40 (by decide) ?_
        refine jx_istore (lv' := [(5, .int (-1)), (4, .int (v8 6 (Int32.toNatClampNeg x2))), (3, .int r8), (0, .ref (ad 0)), (1, .int x1), (2, .int x2)]) E dX5_trade_41 (by decide) rfl ?_
        refine jx_iconst (x := 0) E dX5_trade_43 (by decide) ?_
        refine jx_istore (lv' := [(6, .int 0), (5, .int (-1)), (4, .int (v8 6 (Int32.toNatClampNeg x2))), (3, .int r8), (0, .ref (ad 0)), (1, .int x1), (2, .int x2)]) E dX5_trade_44 (by decide) rfl ?_
        refine jx_sub [4, 5, 6, 3, 2, 1, 0] rfl ?_
        exact (key 100000).1 x1 x2 r8 (v8 6 (Int32.toNatClampNeg x2)) (-1) 0 v8 hF
      · rw [if_pos hc7] at hF
        refine jx_aload_n E dX5_trade_19 0 rfl ?_
        refine jx_ldc (x := -1000001) E dX5_trade_20 (List.mem_cons_of_mem _ tw_320) ?_
        obtain ⟨⟨r10, v10⟩, hc10, hF⟩ := jx_bind hF
        try dsimp only at hF
        refine jx_callVi (As := [.int (-1000001)]) (st := []) (h := 0) E dX5_trade_22 1 rfl (k_X5_finds hI (-1000001) v4 r10 v10 hc10) (gb_V (List.mem_cons_of_mem _ tw_344) (List.mem_cons_of_mem _ tw_345) (List.mem_cons_of_mem _ tw_346) (List.mem_cons_of_mem _ tw_325) tw_343) rfl rfl rfl dd_X5_finds rfl (Nat.le_of_ble_eq_true rfl) s_M0 rfl ⟨by decide, by decide⟩ ⟨Nat.le_refl 0, Nat.le_refl 0⟩ (Nat.le_of_ble_eq_true rfl) ?_
        obtain ⟨rfl, rfl⟩ := jx_out hF
        exact jx_iret E dX5_trade_25 rfl
def f_X5_swap_L  : Nat → Nat → Int32 → Int32 → Int32 → Int32 → Int32 → Int32 → jx_V → Option (Int32 × jx_V)
  | 0, _, _, _, _, _, _, _, _ => none
  | n + 1, tag, x1, x2, x3, x4, x5, x6, v => (if tag = 0 then (if 4 ≤ x5 then ((f_X5_puts v).bind (fun v25 => (f_X5_swap_L n 1 x1 x2 x3 x4 0 0 v25))) else (if (x5 < 0 ∨ 4 ≤ Int32.toNatClampNeg x5) then none else (if (x5 < 0 ∨ 4 ≤ Int32.toNatClampNeg x5) then none else (f_X5_swap_L n 0 x1 x2 x3 x4 (x5 + 1) 0 (jx_up v 7 (Int32.toNatClampNeg x5) (v 6 (Int32.toNatClampNeg x5))))))) else (if tag = 1 then (if 4 ≤ x5 then ((f_X5_findGains v).bind (fun (r29, v29) => ((f_X5_putsBack v29).bind (fun v30 => (f_X5_swap_L n 2 x1 x2 x3 r29 0 0 v30))))) else ((f_X5_at x1 x5 v).bind (fun (r31, v31) => ((f_X5_at x2 x5 v31).bind (fun (r32, v32) => (if (r32 < 0 ∨ 181 ≤ Int32.toNatClampNeg r32) then none else (if (r31 < 0 ∨ 181 ≤ Int32.toNatClampNeg r31) then none else ((f_X5_at x2 x5 (jx_up v32 1 (Int32.toNatClampNeg r31) (v32 3 (Int32.toNatClampNeg r32)))).bind (fun (r35, v35) => ((f_X5_at x1 x5 v35).bind (fun (r36, v36) => (if (r36 < 0 ∨ 181 ≤ Int32.toNatClampNeg r36) then none else (if (r35 < 0 ∨ 181 ≤ Int32.toNatClampNeg r35) then none else (f_X5_swap_L n 1 x1 x2 x3 x4 (x5 + 1) 0 (jx_up v36 1 (Int32.toNatClampNeg r35) (v36 3 (Int32.toNatClampNeg r36))))))))))))))))) else (if tag = 2 then (if 4 ≤ x6 then (some (x5, v)) else (if (x6 < 0 ∨ 4 ≤ Int32.toNatClampNeg x6) then none else (if (x6 < 0 ∨ 4 ≤ Int32.toNatClampNeg x6) then none else (if (v 6 (Int32.toNatClampNeg x6)) ≤ (v 7 (Int32.toNatClampNeg x6)) then (if (x6 < 0 ∨ 4 ≤ Int32.toNatClampNeg x6) then none else (if (x6 < 0 ∨ 4 ≤ Int32.toNatClampNeg x6) then none else (if (v 7 (Int32.toNatClampNeg x6)) ≤ (v 6 (Int32.toNatClampNeg x6)) then (f_X5_swap_L n 2 x1 x2 x3 x4 (x5 + 0) (x6 + 1) v) else (f_X5_swap_L n 2 x1 x2 x3 x4 (x5 + (-1)) (x6 + 1) v)))) else (f_X5_swap_L n 2 x1 x2 x3 x4 (x5 + 1) (x6 + 1) v))))) else none)))
def f_X5_swap (x1 : Int32) (x2 : Int32) (v : jx_V) : Option (Int32 × jx_V) := ((f_X5_isLot x1 v).bind (fun (r1, v1) => (if r1 = 0 then (if (-1000001 : Int32) = 0 then ((f_X5_findGains v1).bind (fun (r4, v4) => (f_X5_swap_L 100000 0 x1 x2 (-1000001) r4 0 0 v4))) else ((f_X5_finds (-1000001) v1).bind (fun (r5, v5) => (some (r5, v5))))) else ((f_X5_isLot x2 v1).bind (fun (r6, v6) => (if r6 = 0 then (if (-1000001 : Int32) = 0 then ((f_X5_findGains v6).bind (fun (r22, v22) => (f_X5_swap_L 100000 0 x1 x2 (-1000001) r22 0 0 v22))) else ((f_X5_finds (-1000001) v6).bind (fun (r23, v23) => (some (r23, v23))))) else ((f_X5_isThing x1 v6).bind (fun (r8, v8) => (if r8 = 0 then (if (-1000004 : Int32) = 0 then ((f_X5_findGains v8).bind (fun (r11, v11) => (f_X5_swap_L 100000 0 x1 x2 (-1000004) r11 0 0 v11))) else ((f_X5_finds (-1000004) v8).bind (fun (r12, v12) => (some (r12, v12))))) else ((f_X5_isThing x2 v8).bind (fun (r13, v13) => (if r13 = 0 then (if (-1000004 : Int32) = 0 then ((f_X5_findGains v13).bind (fun (r19, v19) => (f_X5_swap_L 100000 0 x1 x2 (-1000004) r19 0 0 v19))) else ((f_X5_finds (-1000004) v13).bind (fun (r20, v20) => (some (r20, v20))))) else (if (0 : Int32) = 0 then ((f_X5_findGains v13).bind (fun (r16, v16) => (f_X5_swap_L 100000 0 x1 x2 0 r16 0 0 v16))) else ((f_X5_finds 0 v13).bind (fun (r17, v17) => (some (r17, v17)))))))))))))))))
def rm_X5_swap : Room := { frames := 6, cells := 0, slots := 0, locals := 147 }
set_option maxHeartbeats 4000000 in
set_option maxRecDepth 100000 in
theorem k_X5_swap {l : Launch} {D : va_G} {cI cJ : ClassId} {ad : Nat → Nat} {A : Nat → Prop} (hI : jx_inj 13 ad A) (x1 : Int32) (x2 : Int32) (v : jx_V) (r : Int32) (v' : jx_V) (hF : f_X5_swap x1 x2 v = some (r, v')) : jx_Ci l D vwCl 13 cI cJ ad shM A ex_M yX5_swap (Cond.code yX5_swap cX5_swap 7 (some .int) :: bigT) rm_X5_swap [.ref (ad 0), .int x1, .int x2] v r v' := by
  unfold f_X5_swap at hF
  refine jx_enteri bigT RX5 cX5_swap 7 (some .int) [(0, .ref (ad 0)), (1, .int x1), (2, .int x2)] hI (ex_M_ok A) (by decide +kernel) rfl (Nat.le_of_ble_eq_true rfl) rfl rfl ?_
  intro p e s m args below meth c E
  have iX5 : ∀ w ∈ u_ws RX5 TX5 21, w ∈ (Cond.code yX5_swap cX5_swap 7 (some .int) :: bigT) := fun w h => List.mem_cons_of_mem _ (uw_X5 w h)
  have key : ∀ n : Nat, (∀ (x1 : Int32) (x2 : Int32) (x3 : Int32) (x4 : Int32) (x5 : Int32) (v : jx_V), f_X5_swap_L  n 0 x1 x2 x3 x4 x5 0 v = some (r, v') → jx_J p l e rm_X5_swap s m args below meth c D vwCl 13 cI cJ ad shM A 0 0 7 (MQ below (va_Qi (fun (r1 : Int32) (_ : Unit) => r1 = r) (fun _ t => va_P D vwCl (jx_ws 13 cI cJ ad shM v') t.heap) A) args s 0 0 A) v 61 [(0, .ref (ad 0)), (1, .int x1), (2, .int x2), (3, .int x3), (4, .int x4), (5, .int x5)] []) ∧ (∀ (x1 : Int32) (x2 : Int32) (x3 : Int32) (x4 : Int32) (x5 : Int32) (v : jx_V), f_X5_swap_L  n 1 x1 x2 x3 x4 x5 0 v = some (r, v') → jx_J p l e rm_X5_swap s m args below meth c D vwCl 13 cI cJ ad shM A 0 0 7 (MQ below (va_Qi (fun (r1 : Int32) (_ : Unit) => r1 = r) (fun _ t => va_P D vwCl (jx_ws 13 cI cJ ad shM v') t.heap) A) args s 0 0 A) v 94 [(0, .ref (ad 0)), (1, .int x1), (2, .int x2), (3, .int x3), (4, .int x4), (5, .int x5)] []) ∧ (∀ (x1 : Int32) (x2 : Int32) (x3 : Int32) (x4 : Int32) (x5 : Int32) (x6 : Int32) (v : jx_V), f_X5_swap_L  n 2 x1 x2 x3 x4 x5 x6 v = some (r, v') → jx_J p l e rm_X5_swap s m args below meth c D vwCl 13 cI cJ ad shM A 0 0 7 (MQ below (va_Qi (fun (r1 : Int32) (_ : Unit) => r1 = r) (fun _ t => va_P D vwCl (jx_ws 13 cI cJ ad shM v') t.heap) A) args s 0 0 A) v 166 [(0, .ref (ad 0)), (1, .int x1), (2, .int x2), (3, .int x3), (4, .int x4), (5, .int x5), (6, .int x6)] []) := by
    intro n
    induction n with
    | zero =>
      exact ⟨(fun _ _ _ _ _ _ h => by cases h), (fun _ _ _ _ _ _ h => by cases h), (fun _ _ _ _ _ _ _ h => by cases h)⟩
    | succ n ih =>
      refine ⟨?_, ?_, ?_⟩
      · intro x1 x2 x3 x4 x5 v hF
        rw [f_X5_swap_L] at hF
        rw [if_pos rfl] at hF
        refine jx_iload E dX5_swap_61 5 rfl ?_
        refine jx_iconst (x := 4) E dX5_swap_63 (by decide) ?_
        refine jx_icmp_ge (tgt := 87) E dX5_swap_64 (by decide) (fun hc24 => ?_) (fun hc24 => ?_)
        · rw [if_pos hc24] at hF
          refine jx_aload_n E dX5_swap_87 0 rfl ?_
          obtain ⟨v25, hc25, hF⟩ := jx_bind hF
          try dsimp only at hF
          refine jx_callVv (As := []) (st := []) (h := 0) E dX5_swap_88 0 rfl (k_X5_puts hI  v v25 hc25) (gb_V (List.mem_cons_of_mem _ tw_458) (List.mem_cons_of_mem _ tw_459) (List.mem_cons_of_mem _ tw_460) (List.mem_cons_of_mem _ tw_325) tw_457) rfl rfl rfl dd_X5_puts rfl (Nat.le_of_ble_eq_true rfl) s_M0 rfl ⟨by decide, by decide⟩ ⟨Nat.le_refl 0, Nat.le_refl 0⟩ (Nat.le_of_ble_eq_true rfl) ?_
          refine jx_iconst (x := 0) E dX5_swap_91 (by decide) ?_
          refine jx_istore (lv' := [(5, .int 0), (0, .ref (ad 0)), (1, .int x1), (2, .int x2), (3, .int x3), (4, .int x4)]) E dX5_swap_92 (by decide) rfl ?_
          refine jx_sub [1, 2, 3, 4, 5, 0] rfl ?_
          exact ih.2.1 x1 x2 x3 x4 0 v25 hF
        · rw [if_neg hc24] at hF
          refine jx_aload_n E dX5_swap_67 0 rfl ?_
          refine jx_getr (C := RX5) (T := TX5) (M := 21) (k := 10) E dX5_swap_68 (Nat.le_of_ble_eq_true rfl) s_M0 rfl iX5 (by decide) rfl (List.mem_cons_of_mem _ tw_489) rfl ?_
          refine jx_iload E dX5_swap_71 5 rfl ?_
          refine jx_aload_n E dX5_swap_73 0 rfl ?_
          refine jx_getr (C := RX5) (T := TX5) (M := 21) (k := 9) E dX5_swap_74 (Nat.le_of_ble_eq_true rfl) s_M0 rfl iX5 (by decide) rfl (List.mem_cons_of_mem _ tw_420) rfl ?_
          refine jx_iload E dX5_swap_77 5 rfl ?_
          obtain ⟨hg26, hF⟩ := jx_guard hF
          refine jx_iald (h := 6) (j := (Int32.toNatClampNeg x5)) E dX5_swap_79 (Nat.le_of_ble_eq_true rfl) s_M6 hg26 rfl ?_
          obtain ⟨hg27, hF⟩ := jx_guard hF
          refine jx_iast (h := 7) (j := (Int32.toNatClampNeg x5)) E dX5_swap_80 (Nat.le_of_ble_eq_true rfl) s_M7 hg27 rfl ?_
          refine jx_iinc (y := (x5 + 1)) (lv' := [(5, .int (x5 + 1)), (0, .ref (ad 0)), (1, .int x1), (2, .int x2), (3, .int x3), (4, .int x4)]) E dX5_swap_81 5 rfl rfl (by decide) rfl ?_
          refine jx_goto (tgt := 61) E dX5_swap_84 (by decide) ?_
          refine jx_sub [1, 2, 3, 4, 5, 0] rfl ?_
          exact ih.1 x1 x2 x3 x4 (x5 + 1) (jx_up v 7 (Int32.toNatClampNeg x5) (v 6 (Int32.toNatClampNeg x5))) hF
      · intro x1 x2 x3 x4 x5 v hF
        rw [f_X5_swap_L] at hF
        rw [if_neg (by decide), if_pos rfl] at hF
        refine jx_iload E dX5_swap_94 5 rfl ?_
        refine jx_iconst (x := 4) E dX5_swap_96 (by decide) ?_
        refine jx_icmp_ge (tgt := 150) E dX5_swap_97 (by decide) (fun hc28 => ?_) (fun hc28 => ?_)
        · rw [if_pos hc28] at hF
          refine jx_aload_n E dX5_swap_150 0 rfl ?_
          obtain ⟨⟨r29, v29⟩, hc29, hF⟩ := jx_bind hF
          try dsimp only at hF
          refine jx_callVi (As := []) (st := []) (h := 0) E dX5_swap_151 0 rfl (k_X5_findGains hI  v r29 v29 hc29) (gb_V (List.mem_cons_of_mem _ tw_432) (List.mem_cons_of_mem _ tw_433) (List.mem_cons_of_mem _ tw_434) (List.mem_cons_of_mem _ tw_325) tw_431) rfl rfl rfl dd_X5_findGains rfl (Nat.le_of_ble_eq_true rfl) s_M0 rfl ⟨by decide, by decide⟩ ⟨Nat.le_refl 0, Nat.le_refl 0⟩ (Nat.le_of_ble_eq_true rfl) ?_
          refine jx_istore (lv' := [(4, .int r29), (0, .ref (ad 0)), (1, .int x1), (2, .int x2), (3, .int x3), (5, .int x5)]) E dX5_swap_154 (by decide) rfl ?_
          refine jx_aload_n E dX5_swap_156 1 rfl ?_
          obtain ⟨v30, hc30, hF⟩ := jx_bind hF
          try dsimp only at hF
          refine jx_callVv (As := []) (st := []) (h := 0) E dX5_swap_157 0 rfl (k_X5_putsBack hI  v29 v30 hc30) (gb_V (List.mem_cons_of_mem _ tw_462) (List.mem_cons_of_mem _ tw_463) (List.mem_cons_of_mem _ tw_464) (List.mem_cons_of_mem _ tw_325) tw_461) rfl rfl rfl dd_X5_putsBack rfl (Nat.le_of_ble_eq_true rfl) s_M0 rfl ⟨by decide, by decide⟩ ⟨Nat.le_refl 0, Nat.le_refl 0⟩ (Nat.le_of_ble_eq_true rfl) ?_
          refine jx_iconst (x := 0) E dX5_swap_160 (by decide) ?_
          refine jx_istore (lv' := [(5, .int 0), (4, .int r29), (0, .ref (ad 0)), (1, .int x1), (2, .int x2), (3, .int x3)]) E dX5_swap_161 (by decide) rfl ?_
          refine jx_iconst (x := 0) E dX5_swap_163 (by decide) ?_
          refine jx_istore (lv' := [(6, .int 0), (5, .int 0), (4, .int r29), (0, .ref (ad 0)), (1, .int x1), (2, .int x2), (3, .int x3)]) E dX5_swap_164 (by decide) rfl ?_
          refine jx_sub [3, 4, 5, 6, 2, 1, 0] rfl ?_
          exact ih.2.2 x1 x2 x3 r29 0 0 v30 hF
        · rw [if_neg hc28] at hF
          refine jx_aload_n E dX5_swap_100 0 rfl ?_
          refine jx_getr (C := RX5) (T := TX5) (M := 21) (k := 0) E dX5_swap_101 (Nat.le_of_ble_eq_true rfl) s_M0 rfl iX5 (by decide) rfl (List.mem_cons_of_mem _ tw_328) rfl ?_
          refine jx_iload_n E dX5_swap_104 1 rfl ?_
          refine jx_iload E dX5_swap_105 5 rfl ?_
          obtain ⟨⟨r31, v31⟩, hc31, hF⟩ := jx_bind hF
          try dsimp only at hF
          refine jx_callSi (As := [.int x1, .int x5]) (st := [.ref (ad 1)]) E dX5_swap_107 2 rfl (k_X5_at hI x1 x5 v r31 v31 hc31) (gb_S (List.mem_cons_of_mem _ tw_332) (List.mem_cons_of_mem _ tw_333) (List.mem_cons_of_mem _ tw_325) tw_331) rfl rfl rfl dd_X5_at rfl ⟨by decide, by decide⟩ ⟨Nat.le_refl 0, Nat.le_refl 0⟩ (Nat.le_of_ble_eq_true rfl) ?_
          refine jx_aload_n E dX5_swap_110 0 rfl ?_
          refine jx_getr (C := RX5) (T := TX5) (M := 21) (k := 2) E dX5_swap_111 (Nat.le_of_ble_eq_true rfl) s_M0 rfl iX5 (by decide) rfl (List.mem_cons_of_mem _ tw_330) rfl ?_
          refine jx_iload_n E dX5_swap_114 2 rfl ?_
          refine jx_iload E dX5_swap_115 5 rfl ?_
          obtain ⟨⟨r32, v32⟩, hc32, hF⟩ := jx_bind hF
          try dsimp only at hF
          refine jx_callSi (As := [.int x2, .int x5]) (st := [.ref (ad 3), .int r31, .ref (ad 1)]) E dX5_swap_117 2 rfl (k_X5_at hI x2 x5 v31 r32 v32 hc32) (gb_S (List.mem_cons_of_mem _ tw_332) (List.mem_cons_of_mem _ tw_333) (List.mem_cons_of_mem _ tw_325) tw_331) rfl rfl rfl dd_X5_at rfl ⟨by decide, by decide⟩ ⟨Nat.le_refl 0, Nat.le_refl 0⟩ (Nat.le_of_ble_eq_true rfl) ?_
          obtain ⟨hg33, hF⟩ := jx_guard hF
          refine jx_iald (h := 3) (j := (Int32.toNatClampNeg r32)) E dX5_swap_120 (Nat.le_of_ble_eq_true rfl) s_M3 hg33 rfl ?_
          obtain ⟨hg34, hF⟩ := jx_guard hF
          refine jx_iast (h := 1) (j := (Int32.toNatClampNeg r31)) E dX5_swap_121 (Nat.le_of_ble_eq_true rfl) s_M1 hg34 rfl ?_
          refine jx_aload_n E dX5_swap_122 0 rfl ?_
          refine jx_getr (C := RX5) (T := TX5) (M := 21) (k := 0) E dX5_swap_123 (Nat.le_of_ble_eq_true rfl) s_M0 rfl iX5 (by decide) rfl (List.mem_cons_of_mem _ tw_328) rfl ?_
          refine jx_iload_n E dX5_swap_126 2 rfl ?_
          refine jx_iload E dX5_swap_127 5 rfl ?_
          obtain ⟨⟨r35, v35⟩, hc35, hF⟩ := jx_bind hF
          try dsimp only at hF
          refine jx_callSi (As := [.int x2, .int x5]) (st := [.ref (ad 1)]) E dX5_swap_129 2 rfl (k_X5_at hI x2 x5 (jx_up v32 1 (Int32.toNatClampNeg r31) (v32 3 (Int32.toNatClampNeg r32))) r35 v35 hc35) (gb_S (List.mem_cons_of_mem _ tw_332) (List.mem_cons_of_mem _ tw_333) (List.mem_cons_of_mem _ tw_325) tw_331) rfl rfl rfl dd_X5_at rfl ⟨by decide, by decide⟩ ⟨Nat.le_refl 0, Nat.le_refl 0⟩ (Nat.le_of_ble_eq_true rfl) ?_
          refine jx_aload_n E dX5_swap_132 0 rfl ?_
          refine jx_getr (C := RX5) (T := TX5) (M := 21) (k := 2) E dX5_swap_133 (Nat.le_of_ble_eq_true rfl) s_M0 rfl iX5 (by decide) rfl (List.mem_cons_of_mem _ tw_330) rfl ?_
          refine jx_iload_n E dX5_swap_136 1 rfl ?_
          refine jx_iload E dX5_swap_137 5 rfl ?_
          obtain ⟨⟨r36, v36⟩, hc36, hF⟩ := jx_bind hF
          try dsimp only at hF
          refine jx_callSi (As := [.int x1, .int x5]) (st := [.ref (ad 3), .int r35, .ref (ad 1)]) E dX5_swap_139 2 rfl (k_X5_at hI x1 x5 v35 r36 v36 hc36) (gb_S (List.mem_cons_of_mem _ tw_332) (List.mem_cons_of_mem _ tw_333) (List.mem_cons_of_mem _ tw_325) tw_331) rfl rfl rfl dd_X5_at rfl ⟨by decide, by decide⟩ ⟨Nat.le_refl 0, Nat.le_refl 0⟩ (Nat.le_of_ble_eq_true rfl) ?_
          obtain ⟨hg37, hF⟩ := jx_guard hF
          refine jx_iald (h := 3) (j := (Int32.toNatClampNeg r36)) E dX5_swap_142 (Nat.le_of_ble_eq_true rfl) s_M3 hg37 rfl ?_
          obtain ⟨hg38, hF⟩ := jx_guard hF
          refine jx_iast (h := 1) (j := (Int32.toNatClampNeg r35)) E dX5_swap_143 (Nat.le_of_ble_eq_true rfl) s_M1 hg38 rfl ?_
          refine jx_iinc (y := (x5 + 1)) (lv' := [(5, .int (x5 + 1)), (0, .ref (ad 0)), (1, .int x1), (2, .int x2), (3, .int x3), (4, .int x4)]) E dX5_swap_144 5 rfl rfl (by decide) rfl ?_
          refine jx_goto (tgt := 94) E dX5_swap_147 (by decide) ?_
          refine jx_sub [1, 2, 3, 4, 5, 0] rfl ?_
          exact ih.2.1 x1 x2 x3 x4 (x5 + 1) (jx_up v36 1 (Int32.toNatClampNeg r35) (v36 3 (Int32.toNatClampNeg r36))) hF
      · intro x1 x2 x3 x4 x5 x6 v hF
        rw [f_X5_swap_L] at hF
        rw [if_neg (by decide), if_neg (by decide), if_pos rfl] at hF
        refine jx_iload E dX5_swap_166 6 rfl ?_
        refine jx_iconst (x := 4) E dX5_swap_168 (by decide) ?_
        refine jx_icmp_ge (tgt := 226) E dX5_swap_169 (by decide) (fun hc39 => ?_) (fun hc39 => ?_)
        · rw [if_pos hc39] at hF
          refine jx_iload E dX5_swap_226 5 rfl ?_
          obtain ⟨rfl, rfl⟩ := jx_out hF
          exact jx_iret E dX5_swap_228 rfl
        · rw [if_neg hc39] at hF
          refine jx_iload E dX5_swap_172 5 rfl ?_
          refine jx_aload_n E dX5_swap_174 0 rfl ?_
          refine jx_getr (C := RX5) (T := TX5) (M := 21) (k := 9) E dX5_swap_175 (Nat.le_of_ble_eq_true rfl) s_M0 rfl iX5 (by decide) rfl (List.mem_cons_of_mem _ tw_420) rfl ?_
          refine jx_iload E dX5_swap_178 6 rfl ?_
          obtain ⟨hg40, hF⟩ := jx_guard hF
          refine jx_iald (h := 6) (j := (Int32.toNatClampNeg x6)) E dX5_swap_180 (Nat.le_of_ble_eq_true rfl) s_M6 hg40 rfl ?_
          refine jx_aload_n E dX5_swap_181 0 rfl ?_
          refine jx_getr (C := RX5) (T := TX5) (M := 21) (k := 10) E dX5_swap_182 (Nat.le_of_ble_eq_true rfl) s_M0 rfl iX5 (by decide) rfl (List.mem_cons_of_mem _ tw_489) rfl ?_
          refine jx_iload E dX5_swap_185 6 rfl ?_
          obtain ⟨hg41, hF⟩ := jx_guard hF
          refine jx_iald (h := 7) (j := (Int32.toNatClampNeg x6)) E dX5_swap_187 (Nat.le_of_ble_eq_true rfl) s_M7 hg41 rfl ?_
          refine jx_icmp_le (tgt := 195) E dX5_swap_188 (by decide) (fun hc42 => ?_) (fun hc42 => ?_)
          · rw [if_pos hc42] at hF
            refine jx_aload_n E dX5_swap_195 0 rfl ?_
            refine jx_getr (C := RX5) (T := TX5) (M := 21) (k := 9) E dX5_swap_196 (Nat.le_of_ble_eq_true rfl) s_M0 rfl iX5 (by decide) rfl (List.mem_cons_of_mem _ tw_420) rfl ?_
            refine jx_iload E dX5_swap_199 6 rfl ?_
            obtain ⟨hg43, hF⟩ := jx_guard hF
            refine jx_iald (h := 6) (j := (Int32.toNatClampNeg x6)) E dX5_swap_201 (Nat.le_of_ble_eq_true rfl) s_M6 hg43 rfl ?_
            refine jx_aload_n E dX5_swap_202 0 rfl ?_
            refine jx_getr (C := RX5) (T := TX5) (M := 21) (k := 10) E dX5_swap_203 (Nat.le_of_ble_eq_true rfl) s_M0 rfl iX5 (by decide) rfl (List.mem_cons_of_mem _ tw_489) rfl ?_
            refine jx_iload E dX5_swap_206 6 rfl ?_
            obtain ⟨hg44, hF⟩ := jx_guard hF
            refine jx_iald (h := 7) (j := (Int32.toNatClampNeg x6)) E dX5_swap_208 (Nat.le_of_ble_eq_true rfl) s_M7 hg44 rfl ?_
            refine jx_icmp_ge (tgt := 216) E dX5_swap_209 (by decide) (fun hc45 => ?_) (fun hc45 => ?_)
            · rw [if_pos hc45] at hF
              refine jx_iconst (x := 0) E dX5_swap_216 (by decide) ?_
              refine jx_iadd E dX5_swap_217 ?_
              refine jx_istore (lv' := [(5, .int (x5 + 0)), (0, .ref (ad 0)), (1, .int x1), (2, .int x2), (3, .int x3), (4, .int x4), (6, .int x6)]) E dX5_swap_218 (by decide) rfl ?_
              refine jx_iinc (y := (x6 + 1)) (lv' := [(6, .int (x6 + 1)), (5, .int (x5 + 0)), (0, .ref (ad 0)), (1, .int x1), (2, .int x2), (3, .int x3), (4, .int x4)]) E dX5_swap_220 6 rfl rfl (by decide) rfl ?_
              refine jx_goto (tgt := 166) E dX5_swap_223 (by decide) ?_
              refine jx_sub [2, 3, 4, 5, 6, 1, 0] rfl ?_
              exact ih.2.2 x1 x2 x3 x4 (x5 + 0) (x6 + 1) v hF
            · rw [if_neg hc45] at hF
              refine jx_iconst (x := -1) E dX5_swap_212 (by decide) ?_
              refine jx_goto (tgt := 217) E dX5_swap_213 (by decide) ?_
              refine jx_iadd E dX5_swap_217 ?_
              refine jx_istore (lv' := [(5, .int (x5 + (-1))), (0, .ref (ad 0)), (1, .int x1), (2, .int x2), (3, .int x3), (4, .int x4), (6, .int x6)]) E dX5_swap_218 (by decide) rfl ?_
              refine jx_iinc (y := (x6 + 1)) (lv' := [(6, .int (x6 + 1)), (5, .int (x5 + (-1))), (0, .ref (ad 0)), (1, .int x1), (2, .int x2), (3, .int x3), (4, .int x4)]) E dX5_swap_220 6 rfl rfl (by decide) rfl ?_
              refine jx_goto (tgt := 166) E dX5_swap_223 (by decide) ?_
              refine jx_sub [2, 3, 4, 5, 6, 1, 0] rfl ?_
              exact ih.2.2 x1 x2 x3 x4 (x5 + (-1)) (x6 + 1) v hF
          · rw [if_neg hc42] at hF
            refine jx_iconst (x := 1) E dX5_swap_191 (by decide) ?_
            refine jx_goto (tgt := 217) E dX5_swap_192 (by decide) ?_
            refine jx_iadd E dX5_swap_217 ?_
            refine jx_istore (lv' := [(5, .int (x5 + 1)), (0, .ref (ad 0)), (1, .int x1), (2, .int x2), (3, .int x3), (4, .int x4), (6, .int x6)]) E dX5_swap_218 (by decide) rfl ?_
            refine jx_iinc (y := (x6 + 1)) (lv' := [(6, .int (x6 + 1)), (5, .int (x5 + 1)), (0, .ref (ad 0)), (1, .int x1), (2, .int x2), (3, .int x3), (4, .int x4)]) E dX5_swap_220 6 rfl rfl (by decide) rfl ?_
            refine jx_goto (tgt := 166) E dX5_swap_223 (by decide) ?_
            refine jx_sub [2, 3, 4, 5, 6, 1, 0] rfl ?_
            exact ih.2.2 x1 x2 x3 x4 (x5 + 1) (x6 + 1) v hF
  refine jx_iload_n E dX5_swap_0 1 rfl ?_
  obtain ⟨⟨r1, v1⟩, hc1, hF⟩ := jx_bind hF
  try dsimp only at hF
  refine jx_callSi (As := [.int x1]) (st := []) E dX5_swap_1 1 rfl (k_X5_isLot hI x1 v r1 v1 hc1) (gb_S (List.mem_cons_of_mem _ tw_348) (List.mem_cons_of_mem _ tw_349) (List.mem_cons_of_mem _ tw_325) tw_347) rfl rfl rfl dd_X5_isLot rfl ⟨by decide, by decide⟩ ⟨Nat.le_refl 0, Nat.le_refl 0⟩ (Nat.le_of_ble_eq_true rfl) ?_
  refine jx_if_eq (tgt := 14) E dX5_swap_4 (by decide) (fun hc2 => ?_) (fun hc2 => ?_)
  · rw [if_pos hc2] at hF
    refine jx_ldc (x := -1000001) E dX5_swap_14 (List.mem_cons_of_mem _ tw_320) ?_
    refine jx_goto (tgt := 41) E dX5_swap_16 (by decide) ?_
    refine jx_istore_n (lv' := [(3, .int (-1000001)), (0, .ref (ad 0)), (1, .int x1), (2, .int x2)]) E dX5_swap_41 (by decide) rfl ?_
    refine jx_iload_n E dX5_swap_42 0 rfl ?_
    refine jx_if_eq (tgt := 52) E dX5_swap_43 (by decide) (fun hc3 => ?_) (fun hc3 => ?_)
    · rw [if_pos hc3] at hF
      refine jx_aload_n E dX5_swap_52 1 rfl ?_
      obtain ⟨⟨r4, v4⟩, hc4, hF⟩ := jx_bind hF
      try dsimp only at hF
      refine jx_callVi (As := []) (st := []) (h := 0) E dX5_swap_53 0 rfl (k_X5_findGains hI  v1 r4 v4 hc4) (gb_V (List.mem_cons_of_mem _ tw_432) (List.mem_cons_of_mem _ tw_433) (List.mem_cons_of_mem _ tw_434) (List.mem_cons_of_mem _ tw_325) tw_431) rfl rfl rfl dd_X5_findGains rfl (Nat.le_of_ble_eq_true rfl) s_M0 rfl ⟨by decide, by decide⟩ ⟨Nat.le_refl 0, Nat.le_refl 0⟩ (Nat.le_of_ble_eq_true rfl) ?_
      refine jx_istore (lv' := [(4, .int r4), (3, .int (-1000001)), (0, .ref (ad 0)), (1, .int x1), (2, .int x2)]) E dX5_swap_56 (by decide) rfl ?_
      refine jx_iconst (x := 0) E dX5_swap_58 (by decide) ?_
      refine jx_istore (lv' := [(5, .int 0), (4, .int r4), (3, .int (-1000001)), (0, .ref (ad 0)), (1, .int x1), (2, .int x2)]) E dX5_swap_59 (by decide) rfl ?_
      refine jx_sub [3, 4, 5, 2, 1, 0] rfl ?_
      exact (key 100000).1 x1 x2 (-1000001) r4 0 v4 hF
    · rw [if_neg hc3] at hF
      refine jx_aload_n E dX5_swap_46 1 rfl ?_
      refine jx_iload_n E dX5_swap_47 0 rfl ?_
      obtain ⟨⟨r5, v5⟩, hc5, hF⟩ := jx_bind hF
      try dsimp only at hF
      refine jx_callVi (As := [.int (-1000001)]) (st := []) (h := 0) E dX5_swap_48 1 rfl (k_X5_finds hI (-1000001) v1 r5 v5 hc5) (gb_V (List.mem_cons_of_mem _ tw_344) (List.mem_cons_of_mem _ tw_345) (List.mem_cons_of_mem _ tw_346) (List.mem_cons_of_mem _ tw_325) tw_343) rfl rfl rfl dd_X5_finds rfl (Nat.le_of_ble_eq_true rfl) s_M0 rfl ⟨by decide, by decide⟩ ⟨Nat.le_refl 0, Nat.le_refl 0⟩ (Nat.le_of_ble_eq_true rfl) ?_
      obtain ⟨rfl, rfl⟩ := jx_out hF
      exact jx_iret E dX5_swap_51 rfl
  · rw [if_neg hc2] at hF
    refine jx_iload_n E dX5_swap_7 2 rfl ?_
    obtain ⟨⟨r6, v6⟩, hc6, hF⟩ := jx_bind hF
    try dsimp only at hF
    refine jx_callSi (As := [.int x2]) (st := []) E dX5_swap_8 1 rfl (k_X5_isLot hI x2 v1 r6 v6 hc6) (gb_S (List.mem_cons_of_mem _ tw_348) (List.mem_cons_of_mem _ tw_349) (List.mem_cons_of_mem _ tw_325) tw_347) rfl rfl rfl dd_X5_isLot rfl ⟨by decide, by decide⟩ ⟨Nat.le_refl 0, Nat.le_refl 0⟩ (Nat.le_of_ble_eq_true rfl) ?_
    refine jx_if_ne (tgt := 19) E dX5_swap_11 (by decide) (fun hc7 => ?_) (fun hc7 => ?_)
    · rw [if_neg hc7] at hF
      refine jx_aload_n E dX5_swap_19 0 rfl ?_
      refine jx_iload_n E dX5_swap_20 1 rfl ?_
      obtain ⟨⟨r8, v8⟩, hc8, hF⟩ := jx_bind hF
      try dsimp only at hF
      refine jx_callVi (As := [.int x1]) (st := []) (h := 0) E dX5_swap_21 1 rfl (k_X5_isThing hI x1 v6 r8 v8 hc8) (gb_V (List.mem_cons_of_mem _ tw_339) (List.mem_cons_of_mem _ tw_340) (List.mem_cons_of_mem _ tw_341) (List.mem_cons_of_mem _ tw_325) tw_338) rfl rfl rfl dd_X5_isThing rfl (Nat.le_of_ble_eq_true rfl) s_M0 rfl ⟨by decide, by decide⟩ ⟨Nat.le_refl 0, Nat.le_refl 0⟩ (Nat.le_of_ble_eq_true rfl) ?_
      refine jx_if_eq (tgt := 35) E dX5_swap_24 (by decide) (fun hc9 => ?_) (fun hc9 => ?_)
      · rw [if_pos hc9] at hF
        refine jx_ldc (x := -1000004) E dX5_swap_35 (List.mem_cons_of_mem _ tw_365) ?_
        refine jx_goto (tgt := 41) E dX5_swap_37 (by decide) ?_
        refine jx_istore_n (lv' := [(3, .int (-1000004)), (0, .ref (ad 0)), (1, .int x1), (2, .int x2)]) E dX5_swap_41 (by decide) rfl ?_
        refine jx_iload_n E dX5_swap_42 0 rfl ?_
        refine jx_if_eq (tgt := 52) E dX5_swap_43 (by decide) (fun hc10 => ?_) (fun hc10 => ?_)
        · rw [if_pos hc10] at hF
          refine jx_aload_n E dX5_swap_52 1 rfl ?_
          obtain ⟨⟨r11, v11⟩, hc11, hF⟩ := jx_bind hF
          try dsimp only at hF
          refine jx_callVi (As := []) (st := []) (h := 0) E dX5_swap_53 0 rfl (k_X5_findGains hI  v8 r11 v11 hc11) (gb_V (List.mem_cons_of_mem _ tw_432) (List.mem_cons_of_mem _ tw_433) (List.mem_cons_of_mem _ tw_434) (List.mem_cons_of_mem _ tw_325) tw_431) rfl rfl rfl dd_X5_findGains rfl (Nat.le_of_ble_eq_true rfl) s_M0 rfl ⟨by decide, by decide⟩ ⟨Nat.le_refl 0, Nat.le_refl 0⟩ (Nat.le_of_ble_eq_true rfl) ?_
          refine jx_istore (lv' := [(4, .int r11), (3, .int (-1000004)), (0, .ref (ad 0)), (1, .int x1), (2, .int x2)]) E dX5_swap_56 (by decide) rfl ?_
          refine jx_iconst (x := 0) E dX5_swap_58 (by decide) ?_
          refine jx_istore (lv' := [(5, .int 0), (4, .int r11), (3, .int (-1000004)), (0, .ref (ad 0)), (1, .int x1), (2, .int x2)]) E dX5_swap_59 (by decide) rfl ?_
          refine jx_sub [3, 4, 5, 2, 1, 0] rfl ?_
          exact (key 100000).1 x1 x2 (-1000004) r11 0 v11 hF
        · rw [if_neg hc10] at hF
          refine jx_aload_n E dX5_swap_46 1 rfl ?_
          refine jx_iload_n E dX5_swap_47 0 rfl ?_
          obtain ⟨⟨r12, v12⟩, hc12, hF⟩ := jx_bind hF
          try dsimp only at hF
          refine jx_callVi (As := [.int (-1000004)]) (st := []) (h := 0) E dX5_swap_48 1 rfl (k_X5_finds hI (-1000004) v8 r12 v12 hc12) (gb_V (List.mem_cons_of_mem _ tw_344) (List.mem_cons_of_mem _ tw_345) (List.mem_cons_of_mem _ tw_346) (List.mem_cons_of_mem _ tw_325) tw_343) rfl rfl rfl dd_X5_finds rfl (Nat.le_of_ble_eq_true rfl) s_M0 rfl ⟨by decide, by decide⟩ ⟨Nat.le_refl 0, Nat.le_refl 0⟩ (Nat.le_of_ble_eq_true rfl) ?_
          obtain ⟨rfl, rfl⟩ := jx_out hF
          exact jx_iret E dX5_swap_51 rfl
      · rw [if_neg hc9] at hF
        refine jx_aload_n E dX5_swap_27 0 rfl ?_
        refine jx_iload_n E dX5_swap_28 2 rfl ?_
        obtain ⟨⟨r13, v13⟩, hc13, hF⟩ := jx_bind hF
        try dsimp only at hF
        refine jx_callVi (As := [.int x2]) (st := []) (h := 0) E dX5_swap_29 1 rfl (k_X5_isThing hI x2 v8 r13 v13 hc13) (gb_V (List.mem_cons_of_mem _ tw_339) (List.mem_cons_of_mem _ tw_340) (List.mem_cons_of_mem _ tw_341) (List.mem_cons_of_mem _ tw_325) tw_338) rfl rfl rfl dd_X5_isThing rfl (Nat.le_of_ble_eq_true rfl) s_M0 rfl ⟨by decide, by decide⟩ ⟨Nat.le_refl 0, Nat.le_refl 0⟩ (Nat.le_of_ble_eq_true rfl) ?_
        refine jx_if_ne (tgt := 40) E dX5_swap_32 (by decide) (fun hc14 => ?_) (fun hc14 => ?_)
        · rw [if_neg hc14] at hF
          refine jx_iconst (x := 0) E dX5_swap_40 (by decide) ?_
          refine jx_istore_n (lv' := [(3, .int 0), (0, .ref (ad 0)), (1, .int x1), (2, .int x2)]) E dX5_swap_41 (by decide) rfl ?_
          refine jx_iload_n E dX5_swap_42 0 rfl ?_
          refine jx_if_eq (tgt := 52) E dX5_swap_43 (by decide) (fun hc15 => ?_) (fun hc15 => ?_)
          · rw [if_pos hc15] at hF
            refine jx_aload_n E dX5_swap_52 1 rfl ?_
            obtain ⟨⟨r16, v16⟩, hc16, hF⟩ := jx_bind hF
            try dsimp only at hF
            refine jx_callVi (As := []) (st := []) (h := 0) E dX5_swap_53 0 rfl (k_X5_findGains hI  v13 r16 v16 hc16) (gb_V (List.mem_cons_of_mem _ tw_432) (List.mem_cons_of_mem _ tw_433) (List.mem_cons_of_mem _ tw_434) (List.mem_cons_of_mem _ tw_325) tw_431) rfl rfl rfl dd_X5_findGains rfl (Nat.le_of_ble_eq_true rfl) s_M0 rfl ⟨by decide, by decide⟩ ⟨Nat.le_refl 0, Nat.le_refl 0⟩ (Nat.le_of_ble_eq_true rfl) ?_
            refine jx_istore (lv' := [(4, .int r16), (3, .int 0), (0, .ref (ad 0)), (1, .int x1), (2, .int x2)]) E dX5_swap_56 (by decide) rfl ?_
            refine jx_iconst (x := 0) E dX5_swap_58 (by decide) ?_
            refine jx_istore (lv' := [(5, .int 0), (4, .int r16), (3, .int 0), (0, .ref (ad 0)), (1, .int x1), (2, .int x2)]) E dX5_swap_59 (by decide) rfl ?_
            refine jx_sub [3, 4, 5, 2, 1, 0] rfl ?_
            exact (key 100000).1 x1 x2 0 r16 0 v16 hF
          · rw [if_neg hc15] at hF
            refine jx_aload_n E dX5_swap_46 1 rfl ?_
            refine jx_iload_n E dX5_swap_47 0 rfl ?_
            obtain ⟨⟨r17, v17⟩, hc17, hF⟩ := jx_bind hF
            try dsimp only at hF
            refine jx_callVi (As := [.int 0]) (st := []) (h := 0) E dX5_swap_48 1 rfl (k_X5_finds hI 0 v13 r17 v17 hc17) (gb_V (List.mem_cons_of_mem _ tw_344) (List.mem_cons_of_mem _ tw_345) (List.mem_cons_of_mem _ tw_346) (List.mem_cons_of_mem _ tw_325) tw_343) rfl rfl rfl dd_X5_finds rfl (Nat.le_of_ble_eq_true rfl) s_M0 rfl ⟨by decide, by decide⟩ ⟨Nat.le_refl 0, Nat.le_refl 0⟩ (Nat.le_of_ble_eq_true rfl) ?_
            obtain ⟨rfl, rfl⟩ := jx_out hF
            exact jx_iret E dX5_swap_51 rfl
        · rw [if_pos hc14] at hF
          refine jx_ldc (x := -1000004) E dX5_swap_35 (List.mem_cons_of_mem _ tw_365) ?_
          refine jx_goto (tgt := 41) E dX5_swap_37 (by decide) ?_
          refine jx_istore_n (lv' := [(3, .int (-1000004)), (0, .ref (ad 0)), (1, .int x1), (2, .int x2)]) E dX5_swap_41 (by decide) rfl ?_
          refine jx_iload_n E dX5_swap_42 0 rfl ?_
          refine jx_if_eq (tgt := 52) E dX5_swap_43 (by decide) (fun hc18 => ?_) (fun hc18 => ?_)
          · rw [if_pos hc18] at hF
            refine jx_aload_n E dX5_swap_52 1 rfl ?_
            obtain ⟨⟨r19, v19⟩, hc19, hF⟩ := jx_bind hF
            try dsimp only at hF
            refine jx_callVi (As := []) (st := []) (h := 0) E dX5_swap_53 0 rfl (k_X5_findGains hI  v13 r19 v19 hc19) (gb_V (List.mem_cons_of_mem _ tw_432) (List.mem_cons_of_mem _ tw_433) (List.mem_cons_of_mem _ tw_434) (List.mem_cons_of_mem _ tw_325) tw_431) rfl rfl rfl dd_X5_findGains rfl (Nat.le_of_ble_eq_true rfl) s_M0 rfl ⟨by decide, by decide⟩ ⟨Nat.le_refl 0, Nat.le_refl 0⟩ (Nat.le_of_ble_eq_true rfl) ?_
            refine jx_istore (lv' := [(4, .int r19), (3, .int (-1000004)), (0, .ref (ad 0)), (1, .int x1), (2, .int x2)]) E dX5_swap_56 (by decide) rfl ?_
            refine jx_iconst (x := 0) E dX5_swap_58 (by decide) ?_
            refine jx_istore (lv' := [(5, .int 0), (4, .int r19), (3, .int (-1000004)), (0, .ref (ad 0)), (1, .int x1), (2, .int x2)]) E dX5_swap_59 (by decide) rfl ?_
            refine jx_sub [3, 4, 5, 2, 1, 0] rfl ?_
            exact (key 100000).1 x1 x2 (-1000004) r19 0 v19 hF
          · rw [if_neg hc18] at hF
            refine jx_aload_n E dX5_swap_46 1 rfl ?_
            refine jx_iload_n E dX5_swap_47 0 rfl ?_
            obtain ⟨⟨r20, v20⟩, hc20, hF⟩ := jx_bind hF
            try dsimp only at hF
            refine jx_callVi (As := [.int (-1000004)]) (st := []) (h := 0) E dX5_swap_48 1 rfl (k_X5_finds hI (-1000004) v13 r20 v20 hc20) (gb_V (List.mem_cons_of_mem _ tw_344) (List.mem_cons_of_mem _ tw_345) (List.mem_cons_of_mem _ tw_346) (List.mem_cons_of_mem _ tw_325) tw_343) rfl rfl rfl dd_X5_finds rfl (Nat.le_of_ble_eq_true rfl) s_M0 rfl ⟨by decide, by decide⟩ ⟨Nat.le_refl 0, Nat.le_refl 0⟩ (Nat.le_of_ble_eq_true rfl) ?_
            obtain ⟨rfl, rfl⟩ := jx_out hF
            exact jx_iret E dX5_swap_51 rfl
    · rw [if_pos hc7] at hF
      refine jx_ldc (x := -1000001) E dX5_swap_14 (List.mem_cons_of_mem _ tw_320) ?_
      refine jx_goto (tgt := 41) E dX5_swap_16 (by decide) ?_
      refine jx_istore_n (lv' := [(3, .int (-1000001)), (0, .ref (ad 0)), (1, .int x1), (2, .int x2)]) E dX5_swap_41 (by decide) rfl ?_
      refine jx_iload_n E dX5_swap_42 0 rfl ?_
      refine jx_if_eq (tgt := 52) E dX5_swap_43 (by decide) (fun hc21 => ?_) (fun hc21 => ?_)
      · rw [if_pos hc21] at hF
        refine jx_aload_n E dX5_swap_52 1 rfl ?_
        obtain ⟨⟨r22, v22⟩, hc22, hF⟩ := jx_bind hF
        try dsimp only at hF
        refine jx_callVi (As := []) (st := []) (h := 0) E dX5_swap_53 0 rfl (k_X5_findGains hI  v6 r22 v22 hc22) (gb_V (List.mem_cons_of_mem _ tw_432) (List.mem_cons_of_mem _ tw_433) (List.mem_cons_of_mem _ tw_434) (List.mem_cons_of_mem _ tw_325) tw_431) rfl rfl rfl dd_X5_findGains rfl (Nat.le_of_ble_eq_true rfl) s_M0 rfl ⟨by decide, by decide⟩ ⟨Nat.le_refl 0, Nat.le_refl 0⟩ (Nat.le_of_ble_eq_true rfl) ?_
        refine jx_istore (lv' := [(4, .int r22), (3, .int (-1000001)), (0, .ref (ad 0)), (1, .int x1), (2, .int x2)]) E dX5_swap_56 (by decide) rfl ?_
        refine jx_iconst (x := 0) E dX5_swap_58 (by decide) ?_
        refine jx_istore (lv' := [(5, .int 0), (4, .int r22), (3, .int (-1000001)), (0, .ref (ad 0)), (1, .int x1), (2, .int x2)]) E dX5_swap_59 (by decide) rfl ?_
        refine jx_sub [3, 4, 5, 2, 1, 0] rfl ?_
        exact (key 100000).1 x1 x2 (-1000001) r22 0 v22 hF
      · rw [if_neg hc21] at hF
        refine jx_aload_n E dX5_swap_46 1 rfl ?_
        refine jx_iload_n E dX5_swap_47 0 rfl ?_
        obtain ⟨⟨r23, v23⟩, hc23, hF⟩ := jx_bind hF
        try dsimp only at hF
        refine jx_callVi (As := [.int (-1000001)]) (st := []) (h := 0) E dX5_swap_48 1 rfl (k_X5_finds hI (-1000001) v6 r23 v23 hc23) (gb_V (List.mem_cons_of_mem _ tw_344) (List.mem_cons_of_mem _ tw_345) (List.mem_cons_of_mem _ tw_346) (List.mem_cons_of_mem _ tw_325) tw_343) rfl rfl rfl dd_X5_finds rfl (Nat.le_of_ble_eq_true rfl) s_M0 rfl ⟨by decide, by decide⟩ ⟨Nat.le_refl 0, Nat.le_refl 0⟩ (Nat.le_of_ble_eq_true rfl) ?_
        obtain ⟨rfl, rfl⟩ := jx_out hF
        exact jx_iret E dX5_swap_51 rfl
