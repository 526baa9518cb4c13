def f_X5_as (x1 : Int32) (x2 : Int32) (v : jx_V) : Option (Int32 × jx_V) := ((f_X5_in (Int32.toInt64 x1) 0 9 v).bind (fun (r1, v1) => (if r1 = 0 then ((f_X5_finds (-1000001) v1).bind (fun (r3, v3) => (some (r3, v3)))) else ((f_X5_in (Int32.toInt64 x2) 0 6 v1).bind (fun (r4, v4) => (if r4 = 0 then ((f_X5_finds (-1000001) v4).bind (fun (r63, v63) => (some (r63, v63)))) else (if ((171 + x1) < 0 ∨ 181 ≤ Int32.toNatClampNeg (171 + x1)) then none else (if (v4 1 (Int32.toNatClampNeg (171 + x1))) < 0 then ((f_X5_finds (-1000006) v4).bind (fun (r8, v8) => (some (r8, v8)))) else ((f_X5_isThing (v4 1 (Int32.toNatClampNeg (171 + x1))) v4).bind (fun (r9, v9) => (if r9 = 0 then ((f_X5_finds (-1000006) v9).bind (fun (r62, v62) => (some (r62, v62)))) else ((f_X5_its (v4 1 (Int32.toNatClampNeg (171 + x1))) 0 v9).bind (fun (r11, v11) => (if x2 = 0 then (if (1 : Int32) = 0 then ((f_X5_finds (-1000003) v11).bind (fun (r14, v14) => (some (r14, v14)))) else (some ((v4 1 (Int32.toNatClampNeg (171 + x1))), v11))) else (if r11 = x2 then (if (1 : Int32) = 0 then ((f_X5_finds (-1000003) v11).bind (fun (r17, v17) => (some (r17, v17)))) else (some ((v4 1 (Int32.toNatClampNeg (171 + x1))), v11))) else (if x2 = 1 then (if r11 = 3 then (if (1 : Int32) = 0 then ((f_X5_finds (-1000003) v11).bind (fun (r41, v41) => (some (r41, v41)))) else (some ((v4 1 (Int32.toNatClampNeg (171 + x1))), v11))) else (if x2 = 2 then (if r11 = 4 then (if (1 : Int32) = 0 then ((f_X5_finds (-1000003) v11).bind (fun (r53, v53) => (some (r53, v53)))) else (some ((v4 1 (Int32.toNatClampNeg (171 + x1))), v11))) else (if x2 = 5 then (if r11 = 6 then (if (1 : Int32) = 0 then ((f_X5_finds (-1000003) v11).bind (fun (r61, v61) => (some (r61, v61)))) else (some ((v4 1 (Int32.toNatClampNeg (171 + x1))), v11))) else (if (0 : Int32) = 0 then ((f_X5_finds (-1000003) v11).bind (fun (r59, v59) => (some (r59, v59)))) else (some ((v4 1 (Int32.toNatClampNeg (171 + x1))), v11)))) else (if (0 : Int32) = 0 then ((f_X5_finds (-1000003) v11).bind (fun (r56, v56) => (some (r56, v56)))) else (some ((v4 1 (Int32.toNatClampNeg (171 + x1))), v11))))) else (if x2 = 5 then (if r11 = 6 then (if (1 : Int32) = 0 then ((f_X5_finds (-1000003) v11).bind (fun (r50, v50) => (some (r50, v50)))) else (some ((v4 1 (Int32.toNatClampNeg (171 + x1))), v11))) else (if (0 : Int32) = 0 then ((f_X5_finds (-1000003) v11).bind (fun (r48, v48) => (some (r48, v48)))) else (some ((v4 1 (Int32.toNatClampNeg (171 + x1))), v11)))) else (if (0 : Int32) = 0 then ((f_X5_finds (-1000003) v11).bind (fun (r45, v45) => (some (r45, v45)))) else (some ((v4 1 (Int32.toNatClampNeg (171 + x1))), v11)))))) else (if x2 = 2 then (if r11 = 4 then (if (1 : Int32) = 0 then ((f_X5_finds (-1000003) v11).bind (fun (r30, v30) => (some (r30, v30)))) else (some ((v4 1 (Int32.toNatClampNeg (171 + x1))), v11))) else (if x2 = 5 then (if r11 = 6 then (if (1 : Int32) = 0 then ((f_X5_finds (-1000003) v11).bind (fun (r38, v38) => (some (r38, v38)))) else (some ((v4 1 (Int32.toNatClampNeg (171 + x1))), v11))) else (if (0 : Int32) = 0 then ((f_X5_finds (-1000003) v11).bind (fun (r36, v36) => (some (r36, v36)))) else (some ((v4 1 (Int32.toNatClampNeg (171 + x1))), v11)))) else (if (0 : Int32) = 0 then ((f_X5_finds (-1000003) v11).bind (fun (r33, v33) => (some (r33, v33)))) else (some ((v4 1 (Int32.toNatClampNeg (171 + x1))), v11))))) else (if x2 = 5 then (if r11 = 6 then (if (1 : Int32) = 0 then ((f_X5_finds (-1000003) v11).bind (fun (r27, v27) => (some (r27, v27)))) else (some ((v4 1 (Int32.toNatClampNeg (171 + x1))), v11))) else (if (0 : Int32) = 0 then ((f_X5_finds (-1000003) v11).bind (fun (r25, v25) => (some (r25, v25)))) else (some ((v4 1 (Int32.toNatClampNeg (171 + x1))), v11)))) else (if (0 : Int32) = 0 then ((f_X5_finds (-1000003) v11).bind (fun (r22, v22) => (some (r22, v22)))) else (some ((v4 1 (Int32.toNatClampNeg (171 + x1))), v11)))))))))))))))))))))
def rm_X5_as : Room := { frames := 3, cells := 0, slots := 0, locals := 64 }
set_option maxHeartbeats 4000000 in
set_option maxRecDepth 100000 in
theorem k_X5_as {l : Launch} {D : va_G} {cI cJ : ClassId} {ad : Nat → Nat} {A : Nat → Prop} (hI : jx_inj 13 ad A) (x1 : Int32) (x2 : Int32) (v : jx_V) (r : Int32) (v' : jx_V) (hF : f_X5_as x1 x2 v = some (r, v')) : jx_Ci l D vwCl 13 cI cJ ad shM A ex_M yX5_as (Cond.code yX5_as cX5_as 6 (some .int) :: bigT) rm_X5_as [.ref (ad 0), .int x1, .int x2] v r v' := by
  unfold f_X5_as at hF
  refine jx_enteri bigT RX5 cX5_as 6 (some .int) [(0, .ref (ad 0)), (1, .int x1), (2, .int x2)] hI (ex_M_ok A) (by decide +kernel) rfl (Nat.le_of_ble_eq_true rfl) rfl rfl ?_
  intro p e s m args below meth c E
  have iX5 : ∀ w ∈ u_ws RX5 TX5 21, w ∈ (Cond.code yX5_as cX5_as 6 (some .int) :: bigT) := fun w h => List.mem_cons_of_mem _ (uw_X5 w h)
  refine jx_iload_n E dX5_as_0 1 rfl ?_
  refine jx_i2l E dX5_as_1 ?_
  refine jx_lconst (x := 0) E dX5_as_2 (by decide) ?_
  refine jx_ldc2 (x := 9) E dX5_as_3 (List.mem_cons_of_mem _ tw_327) ?_
  obtain ⟨⟨r1, v1⟩, hc1, hF⟩ := jx_bind hF
  try dsimp only at hF
  refine jx_callSi (As := [.long (Int32.toInt64 x1), .long 0, .long 9]) (st := []) E dX5_as_6 3 rfl (k_X5_in hI (Int32.toInt64 x1) 0 9 v r1 v1 hc1) (gb_S (List.mem_cons_of_mem _ tw_323) (List.mem_cons_of_mem _ tw_324) (List.mem_cons_of_mem _ tw_325) tw_322) rfl rfl rfl dd_X5_in rfl ⟨by decide, by decide⟩ ⟨Nat.le_refl 0, Nat.le_refl 0⟩ (Nat.le_of_ble_eq_true rfl) ?_
  refine jx_if_eq (tgt := 24) E dX5_as_9 (by decide) (fun hc2 => ?_) (fun hc2 => ?_)
  · rw [if_pos hc2] at hF
    refine jx_aload_n E dX5_as_24 0 rfl ?_
    refine jx_ldc (x := -1000001) E dX5_as_25 (List.mem_cons_of_mem _ tw_320) ?_
    obtain ⟨⟨r3, v3⟩, hc3, hF⟩ := jx_bind hF
    try dsimp only at hF
    refine jx_callVi (As := [.int (-1000001)]) (st := []) (h := 0) E dX5_as_27 1 rfl (k_X5_finds hI (-1000001) v1 r3 v3 hc3) (gb_V (List.mem_cons_of_mem _ tw_344) (List.mem_cons_of_mem _ tw_345) (List.mem_cons_of_mem _ tw_346) (List.mem_cons_of_mem _ tw_325) tw_343) rfl rfl rfl dd_X5_finds rfl (Nat.le_of_ble_eq_true rfl) s_M0 rfl ⟨by decide, by decide⟩ ⟨Nat.le_refl 0, Nat.le_refl 0⟩ (Nat.le_of_ble_eq_true rfl) ?_
    obtain ⟨rfl, rfl⟩ := jx_out hF
    exact jx_iret E dX5_as_30 rfl
  · rw [if_neg hc2] at hF
    refine jx_iload_n E dX5_as_12 2 rfl ?_
    refine jx_i2l E dX5_as_13 ?_
    refine jx_lconst (x := 0) E dX5_as_14 (by decide) ?_
    refine jx_ldc2 (x := 6) E dX5_as_15 (List.mem_cons_of_mem _ tw_342) ?_
    obtain ⟨⟨r4, v4⟩, hc4, hF⟩ := jx_bind hF
    try dsimp only at hF
    refine jx_callSi (As := [.long (Int32.toInt64 x2), .long 0, .long 6]) (st := []) E dX5_as_18 3 rfl (k_X5_in hI (Int32.toInt64 x2) 0 6 v1 r4 v4 hc4) (gb_S (List.mem_cons_of_mem _ tw_323) (List.mem_cons_of_mem _ tw_324) (List.mem_cons_of_mem _ tw_325) tw_322) rfl rfl rfl dd_X5_in rfl ⟨by decide, by decide⟩ ⟨Nat.le_refl 0, Nat.le_refl 0⟩ (Nat.le_of_ble_eq_true rfl) ?_
    refine jx_if_ne (tgt := 31) E dX5_as_21 (by decide) (fun hc5 => ?_) (fun hc5 => ?_)
    · rw [if_neg hc5] at hF
      refine jx_aload_n E dX5_as_31 0 rfl ?_
      refine jx_getr (C := RX5) (T := TX5) (M := 21) (k := 0) E dX5_as_32 (Nat.le_of_ble_eq_true rfl) s_M0 rfl iX5 (by decide) rfl (List.mem_cons_of_mem _ tw_328) rfl ?_
      refine jx_sipush (x := 171) E dX5_as_35 (by decide) ?_
      refine jx_iload_n E dX5_as_38 1 rfl ?_
      refine jx_iadd E dX5_as_39 ?_
      obtain ⟨hg6, hF⟩ := jx_guard hF
      refine jx_iald (h := 1) (j := (Int32.toNatClampNeg (171 + x1))) E dX5_as_40 (Nat.le_of_ble_eq_true rfl) s_M1 hg6 rfl ?_
      refine jx_istore_n (lv' := [(3, .int (v4 1 (Int32.toNatClampNeg (171 + x1)))), (0, .ref (ad 0)), (1, .int x1), (2, .int x2)]) E dX5_as_41 (by decide) rfl ?_
      refine jx_iload_n E dX5_as_42 0 rfl ?_
      refine jx_if_lt (tgt := 54) E dX5_as_43 (by decide) (fun hc7 => ?_) (fun hc7 => ?_)
      · rw [if_pos hc7] at hF
        refine jx_aload_n E dX5_as_54 1 rfl ?_
        refine jx_ldcw (x := -1000006) E dX5_as_55 (List.mem_cons_of_mem _ tw_578) ?_
        obtain ⟨⟨r8, v8⟩, hc8, hF⟩ := jx_bind hF
        try dsimp only at hF
        refine jx_callVi (As := [.int (-1000006)]) (st := []) (h := 0) E dX5_as_58 1 rfl (k_X5_finds hI (-1000006) v4 r8 v8 hc8) (gb_V (List.mem_cons_of_mem _ tw_344) (List.mem_cons_of_mem _ tw_345) (List.mem_cons_of_mem _ tw_346) (List.mem_cons_of_mem _ tw_325) tw_343) rfl rfl rfl dd_X5_finds rfl (Nat.le_of_ble_eq_true rfl) s_M0 rfl ⟨by decide, by decide⟩ ⟨Nat.le_refl 0, Nat.le_refl 0⟩ (Nat.le_of_ble_eq_true rfl) ?_
        obtain ⟨rfl, rfl⟩ := jx_out hF
        exact jx_iret E dX5_as_61 rfl
      · rw [if_neg hc7] at hF
        refine jx_aload_n E dX5_as_46 1 rfl ?_
        refine jx_iload_n E dX5_as_47 0 rfl ?_
        obtain ⟨⟨r9, v9⟩, hc9, hF⟩ := jx_bind hF
        try dsimp only at hF
        refine jx_callVi (As := [.int (v4 1 (Int32.toNatClampNeg (171 + x1)))]) (st := []) (h := 0) E dX5_as_48 1 rfl (k_X5_isThing hI (v4 1 (Int32.toNatClampNeg (171 + x1))) v4 r9 v9 hc9) (gb_V (List.mem_cons_of_mem _ tw_339) (List.mem_cons_of_mem _ tw_340) (List.mem_cons_of_mem _ tw_341) (List.mem_cons_of_mem _ tw_325) tw_338) rfl rfl rfl dd_X5_isThing rfl (Nat.le_of_ble_eq_true rfl) s_M0 rfl ⟨by decide, by decide⟩ ⟨Nat.le_refl 0, Nat.le_refl 0⟩ (Nat.le_of_ble_eq_true rfl) ?_
        refine jx_if_ne (tgt := 62) E dX5_as_51 (by decide) (fun hc10 => ?_) (fun hc10 => ?_)
        · rw [if_neg hc10] at hF
          refine jx_aload_n E dX5_as_62 1 rfl ?_
          refine jx_iload_n E dX5_as_63 0 rfl ?_
          refine jx_iconst (x := 0) E dX5_as_64 (by decide) ?_
          obtain ⟨⟨r11, v11⟩, hc11, hF⟩ := jx_bind hF
          try dsimp only at hF
          refine jx_callVi (As := [.int (v4 1 (Int32.toNatClampNeg (171 + x1))), .int 0]) (st := []) (h := 0) E dX5_as_65 2 rfl (k_X5_its hI (v4 1 (Int32.toNatClampNeg (171 + x1))) 0 v9 r11 v11 hc11) (gb_V (List.mem_cons_of_mem _ tw_335) (List.mem_cons_of_mem _ tw_336) (List.mem_cons_of_mem _ tw_337) (List.mem_cons_of_mem _ tw_325) tw_334) rfl rfl rfl dd_X5_its rfl (Nat.le_of_ble_eq_true rfl) s_M0 rfl ⟨by decide, by decide⟩ ⟨Nat.le_refl 0, Nat.le_refl 0⟩ (Nat.le_of_ble_eq_true rfl) ?_
          refine jx_istore (lv' := [(4, .int r11), (3, .int (v4 1 (Int32.toNatClampNeg (171 + x1)))), (0, .ref (ad 0)), (1, .int x1), (2, .int x2)]) E dX5_as_68 (by decide) rfl ?_
          refine jx_iload_n E dX5_as_70 4 rfl ?_
          refine jx_if_eq (tgt := 114) E dX5_as_71 (by decide) (fun hc12 => ?_) (fun hc12 => ?_)
          · rw [if_pos hc12] at hF
            refine jx_iconst (x := 1) E dX5_as_114 (by decide) ?_
            refine jx_goto (tgt := 119) E dX5_as_115 (by decide) ?_
            refine jx_istore (lv' := [(5, .int 1), (4, .int r11), (3, .int (v4 1 (Int32.toNatClampNeg (171 + x1)))), (0, .ref (ad 0)), (1, .int x1), (2, .int x2)]) E dX5_as_119 (by decide) rfl ?_
            refine jx_iload E dX5_as_121 0 rfl ?_
            refine jx_if_eq (tgt := 130) E dX5_as_123 (by decide) (fun hc13 => ?_) (fun hc13 => ?_)
            · rw [if_pos hc13] at hF
              refine jx_aload_n E dX5_as_130 3 rfl ?_
              refine jx_ldcw (x := -1000003) E dX5_as_131 (List.mem_cons_of_mem _ tw_579) ?_
              obtain ⟨⟨r14, v14⟩, hc14, hF⟩ := jx_bind hF
              try dsimp only at hF
              refine jx_callVi (As := [.int (-1000003)]) (st := []) (h := 0) E dX5_as_134 1 rfl (k_X5_finds hI (-1000003) v11 r14 v14 hc14) (gb_V (List.mem_cons_of_mem _ tw_344) (List.mem_cons_of_mem _ tw_345) (List.mem_cons_of_mem _ tw_346) (List.mem_cons_of_mem _ tw_325) tw_343) rfl rfl rfl dd_X5_finds rfl (Nat.le_of_ble_eq_true rfl) s_M0 rfl ⟨by decide, by decide⟩ ⟨Nat.le_refl 0, Nat.le_refl 0⟩ (Nat.le_of_ble_eq_true rfl) ?_
              obtain ⟨rfl, rfl⟩ := jx_out hF
              exact jx_iret E dX5_as_137 rfl
            · rw [if_neg hc13] at hF
              refine jx_iload_n E dX5_as_126 2 rfl ?_
              refine jx_goto (tgt := 137) E dX5_as_127 (by decide) ?_
              obtain ⟨rfl, rfl⟩ := jx_out hF
              exact jx_iret E dX5_as_137 rfl
          · rw [if_neg hc12] at hF
            refine jx_iload E dX5_as_74 0 rfl ?_
            refine jx_iload_n E dX5_as_76 4 rfl ?_
            refine jx_icmp_eq (tgt := 114) E dX5_as_77 (by decide) (fun hc15 => ?_) (fun hc15 => ?_)
            · rw [if_pos hc15] at hF
              refine jx_iconst (x := 1) E dX5_as_114 (by decide) ?_
              refine jx_goto (tgt := 119) E dX5_as_115 (by decide) ?_
              refine jx_istore (lv' := [(5, .int 1), (4, .int r11), (3, .int (v4 1 (Int32.toNatClampNeg (171 + x1)))), (0, .ref (ad 0)), (1, .int x1), (2, .int x2)]) E dX5_as_119 (by decide) rfl ?_
              refine jx_iload E dX5_as_121 0 rfl ?_
              refine jx_if_eq (tgt := 130) E dX5_as_123 (by decide) (fun hc16 => ?_) (fun hc16 => ?_)
              · rw [if_pos hc16] at hF
                refine jx_aload_n E dX5_as_130 3 rfl ?_
                refine jx_ldcw (x := -1000003) E dX5_as_131 (List.mem_cons_of_mem _ tw_579) ?_
                obtain ⟨⟨r17, v17⟩, hc17, hF⟩ := jx_bind hF
                try dsimp only at hF
                refine jx_callVi (As := [.int (-1000003)]) (st := []) (h := 0) E dX5_as_134 1 rfl (k_X5_finds hI (-1000003) v11 r17 v17 hc17) (gb_V (List.mem_cons_of_mem _ tw_344) (List.mem_cons_of_mem _ tw_345) (List.mem_cons_of_mem _ tw_346) (List.mem_cons_of_mem _ tw_325) tw_343) rfl rfl rfl dd_X5_finds rfl (Nat.le_of_ble_eq_true rfl) s_M0 rfl ⟨by decide, by decide⟩ ⟨Nat.le_refl 0, Nat.le_refl 0⟩ (Nat.le_of_ble_eq_true rfl) ?_
                obtain ⟨rfl, rfl⟩ := jx_out hF
                exact jx_iret E dX5_as_137 rfl
              · rw [if_neg hc16] at hF
                refine jx_iload_n E dX5_as_126 2 rfl ?_
                refine jx_goto (tgt := 137) E dX5_as_127 (by decide) ?_
                obtain ⟨rfl, rfl⟩ := jx_out hF
                exact jx_iret E dX5_as_137 rfl
            · rw [if_neg hc15] at hF
              refine jx_iload_n E dX5_as_80 4 rfl ?_
              refine jx_iconst (x := 1) E dX5_as_81 (by decide) ?_
              refine jx_icmp_ne (tgt := 91) E dX5_as_82 (by decide) (fun hc18 => ?_) (fun hc18 => ?_)
              · rw [if_neg hc18] at hF
                refine jx_iload_n E dX5_as_91 4 rfl ?_
                refine jx_iconst (x := 2) E dX5_as_92 (by decide) ?_
                refine jx_icmp_ne (tgt := 102) E dX5_as_93 (by decide) (fun hc19 => ?_) (fun hc19 => ?_)
                · rw [if_neg hc19] at hF
                  refine jx_iload_n E dX5_as_102 4 rfl ?_
                  refine jx_iconst (x := 5) E dX5_as_103 (by decide) ?_
                  refine jx_icmp_ne (tgt := 118) E dX5_as_104 (by decide) (fun hc20 => ?_) (fun hc20 => ?_)
                  · rw [if_neg hc20] at hF
                    refine jx_iconst (x := 0) E dX5_as_118 (by decide) ?_
                    refine jx_istore (lv' := [(5, .int 0), (4, .int r11), (3, .int (v4 1 (Int32.toNatClampNeg (171 + x1)))), (0, .ref (ad 0)), (1, .int x1), (2, .int x2)]) E dX5_as_119 (by decide) rfl ?_
                    refine jx_iload E dX5_as_121 0 rfl ?_
                    refine jx_if_eq (tgt := 130) E dX5_as_123 (by decide) (fun hc21 => ?_) (fun hc21 => ?_)
                    · rw [if_pos hc21] at hF
                      refine jx_aload_n E dX5_as_130 3 rfl ?_
                      refine jx_ldcw (x := -1000003) E dX5_as_131 (List.mem_cons_of_mem _ tw_579) ?_
                      obtain ⟨⟨r22, v22⟩, hc22, hF⟩ := jx_bind hF
                      try dsimp only at hF
                      refine jx_callVi (As := [.int (-1000003)]) (st := []) (h := 0) E dX5_as_134 1 rfl (k_X5_finds hI (-1000003) v11 r22 v22 hc22) (gb_V (List.mem_cons_of_mem _ tw_344) (List.mem_cons_of_mem _ tw_345) (List.mem_cons_of_mem _ tw_346) (List.mem_cons_of_mem _ tw_325) tw_343) rfl rfl rfl dd_X5_finds rfl (Nat.le_of_ble_eq_true rfl) s_M0 rfl ⟨by decide, by decide⟩ ⟨Nat.le_refl 0, Nat.le_refl 0⟩ (Nat.le_of_ble_eq_true rfl) ?_
                      obtain ⟨rfl, rfl⟩ := jx_out hF
                      exact jx_iret E dX5_as_137 rfl
                    · rw [if_neg hc21] at hF
                      refine jx_iload_n E dX5_as_126 2 rfl ?_
                      refine jx_goto (tgt := 137) E dX5_as_127 (by decide) ?_
                      obtain ⟨rfl, rfl⟩ := jx_out hF
                      exact jx_iret E dX5_as_137 rfl
                  · rw [if_pos hc20] at hF
                    refine jx_iload E dX5_as_107 0 rfl ?_
                    refine jx_bipush (x := 6) E dX5_as_109 (by decide) ?_
                    refine jx_icmp_ne (tgt := 118) E dX5_as_111 (by decide) (fun hc23 => ?_) (fun hc23 => ?_)
                    · rw [if_neg hc23] at hF
                      refine jx_iconst (x := 0) E dX5_as_118 (by decide) ?_
                      refine jx_istore (lv' := [(5, .int 0), (4, .int r11), (3, .int (v4 1 (Int32.toNatClampNeg (171 + x1)))), (0, .ref (ad 0)), (1, .int x1), (2, .int x2)]) E dX5_as_119 (by decide) rfl ?_
                      refine jx_iload E dX5_as_121 0 rfl ?_
                      refine jx_if_eq (tgt := 130) E dX5_as_123 (by decide) (fun hc24 => ?_) (fun hc24 => ?_)
                      · rw [if_pos hc24] at hF
                        refine jx_aload_n E dX5_as_130 3 rfl ?_
                        refine jx_ldcw (x := -1000003) E dX5_as_131 (List.mem_cons_of_mem _ tw_579) ?_
                        obtain ⟨⟨r25, v25⟩, hc25, hF⟩ := jx_bind hF
                        try dsimp only at hF
                        refine jx_callVi (As := [.int (-1000003)]) (st := []) (h := 0) E dX5_as_134 1 rfl (k_X5_finds hI (-1000003) v11 r25 v25 hc25) (gb_V (List.mem_cons_of_mem _ tw_344) (List.mem_cons_of_mem _ tw_345) (List.mem_cons_of_mem _ tw_346) (List.mem_cons_of_mem _ tw_325) tw_343) rfl rfl rfl dd_X5_finds rfl (Nat.le_of_ble_eq_true rfl) s_M0 rfl ⟨by decide, by decide⟩ ⟨Nat.le_refl 0, Nat.le_refl 0⟩ (Nat.le_of_ble_eq_true rfl) ?_
                        obtain ⟨rfl, rfl⟩ := jx_out hF
                        exact jx_iret E dX5_as_137 rfl
                      · rw [if_neg hc24] at hF
                        refine jx_iload_n E dX5_as_126 2 rfl ?_
                        refine jx_goto (tgt := 137) E dX5_as_127 (by decide) ?_
                        obtain ⟨rfl, rfl⟩ := jx_out hF
                        exact jx_iret E dX5_as_137 rfl
                    · rw [if_pos hc23] at hF
                      refine jx_iconst (x := 1) E dX5_as_114 (by decide) ?_
                      refine jx_goto (tgt := 119) E dX5_as_115 (by decide) ?_
                      refine jx_istore (lv' := [(5, .int 1), (4, .int r11), (3, .int (v4 1 (Int32.toNatClampNeg (171 + x1)))), (0, .ref (ad 0)), (1, .int x1), (2, .int x2)]) E dX5_as_119 (by decide) rfl ?_
                      refine jx_iload E dX5_as_121 0 rfl ?_
                      refine jx_if_eq (tgt := 130) E dX5_as_123 (by decide) (fun hc26 => ?_) (fun hc26 => ?_)
                      · rw [if_pos hc26] at hF
                        refine jx_aload_n E dX5_as_130 3 rfl ?_
                        refine jx_ldcw (x := -1000003) E dX5_as_131 (List.mem_cons_of_mem _ tw_579) ?_
                        obtain ⟨⟨r27, v27⟩, hc27, hF⟩ := jx_bind hF
                        try dsimp only at hF
                        refine jx_callVi (As := [.int (-1000003)]) (st := []) (h := 0) E dX5_as_134 1 rfl (k_X5_finds hI (-1000003) v11 r27 v27 hc27) (gb_V (List.mem_cons_of_mem _ tw_344) (List.mem_cons_of_mem _ tw_345) (List.mem_cons_of_mem _ tw_346) (List.mem_cons_of_mem _ tw_325) tw_343) rfl rfl rfl dd_X5_finds rfl (Nat.le_of_ble_eq_true rfl) s_M0 rfl ⟨by decide, by decide⟩ ⟨Nat.le_refl 0, Nat.le_refl 0⟩ (Nat.le_of_ble_eq_true rfl) ?_
                        obtain ⟨rfl, rfl⟩ := jx_out hF
                        exact jx_iret E dX5_as_137 rfl
                      · rw [if_neg hc26] at hF
                        refine jx_iload_n E dX5_as_126 2 rfl ?_
                        refine jx_goto (tgt := 137) E dX5_as_127 (by decide) ?_
                        obtain ⟨rfl, rfl⟩ := jx_out hF
                        exact jx_iret E dX5_as_137 rfl
                · rw [if_pos hc19] at hF
                  refine jx_iload E dX5_as_96 0 rfl ?_
                  refine jx_iconst (x := 4) E dX5_as_98 (by decide) ?_
                  refine jx_icmp_eq (tgt := 114) E dX5_as_99 (by decide) (fun hc28 => ?_) (fun hc28 => ?_)
                  · rw [if_pos hc28] at hF
                    refine jx_iconst (x := 1) E dX5_as_114 (by decide) ?_
                    refine jx_goto (tgt := 119) E dX5_as_115 (by decide) ?_
                    refine jx_istore (lv' := [(5, .int 1), (4, .int r11), (3, .int (v4 1 (Int32.toNatClampNeg (171 + x1)))), (0, .ref (ad 0)), (1, .int x1), (2, .int x2)]) E dX5_as_119 (by decide) rfl ?_
                    refine jx_iload E dX5_as_121 0 rfl ?_
                    refine jx_if_eq (tgt := 130) E dX5_as_123 (by decide) (fun hc29 => ?_) (fun hc29 => ?_)
                    · rw [if_pos hc29] at hF
                      refine jx_aload_n E dX5_as_130 3 rfl ?_
                      refine jx_ldcw (x := -1000003) E dX5_as_131 (List.mem_cons_of_mem _ tw_579) ?_
                      obtain ⟨⟨r30, v30⟩, hc30, hF⟩ := jx_bind hF
                      try dsimp only at hF
                      refine jx_callVi (As := [.int (-1000003)]) (st := []) (h := 0) E dX5_as_134 1 rfl (k_X5_finds hI (-1000003) v11 r30 v30 hc30) (gb_V (List.mem_cons_of_mem _ tw_344) (List.mem_cons_of_mem _ tw_345) (List.mem_cons_of_mem _ tw_346) (List.mem_cons_of_mem _ tw_325) tw_343) rfl rfl rfl dd_X5_finds rfl (Nat.le_of_ble_eq_true rfl) s_M0 rfl ⟨by decide, by decide⟩ ⟨Nat.le_refl 0, Nat.le_refl 0⟩ (Nat.le_of_ble_eq_true rfl) ?_
                      obtain ⟨rfl, rfl⟩ := jx_out hF
                      exact jx_iret E dX5_as_137 rfl
                    · rw [if_neg hc29] at hF
                      refine jx_iload_n E dX5_as_126 2 rfl ?_
                      refine jx_goto (tgt := 137) E dX5_as_127 (by decide) ?_
                      obtain ⟨rfl, rfl⟩ := jx_out hF
                      exact jx_iret E dX5_as_137 rfl
                  · rw [if_neg hc28] at hF
                    refine jx_iload_n E dX5_as_102 4 rfl ?_
                    refine jx_iconst (x := 5) E dX5_as_103 (by decide) ?_
                    refine jx_icmp_ne (tgt := 118) E dX5_as_104 (by decide) (fun hc31 => ?_) (fun hc31 => ?_)
                    · rw [if_neg hc31] at hF
                      refine jx_iconst (x := 0) E dX5_as_118 (by decide) ?_
                      refine jx_istore (lv' := [(5, .int 0), (4, .int r11), (3, .int (v4 1 (Int32.toNatClampNeg (171 + x1)))), (0, .ref (ad 0)), (1, .int x1), (2, .int x2)]) E dX5_as_119 (by decide) rfl ?_
                      refine jx_iload E dX5_as_121 0 rfl ?_
                      refine jx_if_eq (tgt := 130) E dX5_as_123 (by decide) (fun hc32 => ?_) (fun hc32 => ?_)
                      · rw [if_pos hc32] at hF
                        refine jx_aload_n E dX5_as_130 3 rfl ?_
                        refine jx_ldcw (x := -1000003) E dX5_as_131 (List.mem_cons_of_mem _ tw_579) ?_
                        obtain ⟨⟨r33, v33⟩, hc33, hF⟩ := jx_bind hF
                        try dsimp only at hF
                        refine jx_callVi (As := [.int (-1000003)]) (st := []) (h := 0) E dX5_as_134 1 rfl (k_X5_finds hI (-1000003) v11 r33 v33 hc33) (gb_V (List.mem_cons_of_mem _ tw_344) (List.mem_cons_of_mem _ tw_345) (List.mem_cons_of_mem _ tw_346) (List.mem_cons_of_mem _ tw_325) tw_343) rfl rfl rfl dd_X5_finds rfl (Nat.le_of_ble_eq_true rfl) s_M0 rfl ⟨by decide, by decide⟩ ⟨Nat.le_refl 0, Nat.le_refl 0⟩ (Nat.le_of_ble_eq_true rfl) ?_
                        obtain ⟨rfl, rfl⟩ := jx_out hF
                        exact jx_iret E dX5_as_137 rfl
                      · rw [if_neg hc32] at hF
                        refine jx_iload_n E dX5_as_126 2 rfl ?_
                        refine jx_goto (tgt := 137) E dX5_as_127 (by decide) ?_
                        obtain ⟨rfl, rfl⟩ := jx_out hF
                        exact jx_iret E dX5_as_137 rfl
                    · rw [if_pos hc31] at hF
                      refine jx_iload E dX5_as_107 0 rfl ?_
                      refine jx_bipush (x := 6) E dX5_as_109 (by decide) ?_
                      refine jx_icmp_ne (tgt := 118) E dX5_as_111 (by decide) (fun hc34 => ?_) (fun hc34 => ?_)
                      · rw [if_neg hc34] at hF
                        refine jx_iconst (x := 0) E dX5_as_118 (by decide) ?_
                        refine jx_istore (lv' := [(5, .int 0), (4, .int r11), (3, .int (v4 1 (Int32.toNatClampNeg (171 + x1)))), (0, .ref (ad 0)), (1, .int x1), (2, .int x2)]) E dX5_as_119 (by decide) rfl ?_
                        refine jx_iload E dX5_as_121 0 rfl ?_
                        refine jx_if_eq (tgt := 130) E dX5_as_123 (by decide) (fun hc35 => ?_) (fun hc35 => ?_)
                        · rw [if_pos hc35] at hF
                          refine jx_aload_n E dX5_as_130 3 rfl ?_
                          refine jx_ldcw (x := -1000003) E dX5_as_131 (List.mem_cons_of_mem _ tw_579) ?_
                          obtain ⟨⟨r36, v36⟩, hc36, hF⟩ := jx_bind hF
                          try dsimp only at hF
                          refine jx_callVi (As := [.int (-1000003)]) (st := []) (h := 0) E dX5_as_134 1 rfl (k_X5_finds hI (-1000003) v11 r36 v36 hc36) (gb_V (List.mem_cons_of_mem _ tw_344) (List.mem_cons_of_mem _ tw_345) (List.mem_cons_of_mem _ tw_346) (List.mem_cons_of_mem _ tw_325) tw_343) rfl rfl rfl dd_X5_finds rfl (Nat.le_of_ble_eq_true rfl) s_M0 rfl ⟨by decide, by decide⟩ ⟨Nat.le_refl 0, Nat.le_refl 0⟩ (Nat.le_of_ble_eq_true rfl) ?_
                          obtain ⟨rfl, rfl⟩ := jx_out hF
                          exact jx_iret E dX5_as_137 rfl
                        · rw [if_neg hc35] at hF
                          refine jx_iload_n E dX5_as_126 2 rfl ?_
                          refine jx_goto (tgt := 137) E dX5_as_127 (by decide) ?_
                          obtain ⟨rfl, rfl⟩ := jx_out hF
                          exact jx_iret E dX5_as_137 rfl
                      · rw [if_pos hc34] at hF
                        refine jx_iconst (x := 1) E dX5_as_114 (by decide) ?_
                        refine jx_goto (tgt := 119) E dX5_as_115 (by decide) ?_
                        refine jx_istore (lv' := [(5, .int 1), (4, .int r11), (3, .int (v4 1 (Int32.toNatClampNeg (171 + x1)))), (0, .ref (ad 0)), (1, .int x1), (2, .int x2)]) E dX5_as_119 (by decide) rfl ?_
                        refine jx_iload E dX5_as_121 0 rfl ?_
                        refine jx_if_eq (tgt := 130) E dX5_as_123 (by decide) (fun hc37 => ?_) (fun hc37 => ?_)
                        · rw [if_pos hc37] at hF
                          refine jx_aload_n E dX5_as_130 3 rfl ?_
                          refine jx_ldcw (x := -1000003) E dX5_as_131 (List.mem_cons_of_mem _ tw_579) ?_
                          obtain ⟨⟨r38, v38⟩, hc38, hF⟩ := jx_bind hF
                          try dsimp only at hF
                          refine jx_callVi (As := [.int (-1000003)]) (st := []) (h := 0) E dX5_as_134 1 rfl (k_X5_finds hI (-1000003) v11 r38 v38 hc38) (gb_V (List.mem_cons_of_mem _ tw_344) (List.mem_cons_of_mem _ tw_345) (List.mem_cons_of_mem _ tw_346) (List.mem_cons_of_mem _ tw_325) tw_343) rfl rfl rfl dd_X5_finds rfl (Nat.le_of_ble_eq_true rfl) s_M0 rfl ⟨by decide, by decide⟩ ⟨Nat.le_refl 0, Nat.le_refl 0⟩ (Nat.le_of_ble_eq_true rfl) ?_
                          obtain ⟨rfl, rfl⟩ := jx_out hF
                          exact jx_iret E dX5_as_137 rfl
                        · rw [if_neg hc37] at hF
                          refine jx_iload_n E dX5_as_126 2 rfl ?_
                          refine jx_goto (tgt := 137) E dX5_as_127 (by decide) ?_
                          obtain ⟨rfl, rfl⟩ := jx_out hF
                          exact jx_iret E dX5_as_137 rfl
              · rw [if_pos hc18] at hF
                refine jx_iload E dX5_as_85 0 rfl ?_
                refine jx_iconst (x := 3) E dX5_as_87 (by decide) ?_
                refine jx_icmp_eq (tgt := 114) E dX5_as_88 (by decide) (fun hc39 => ?_) (fun hc39 => ?_)
                · rw [if_pos hc39] at hF
                  refine jx_iconst (x := 1) E dX5_as_114 (by decide) ?_
                  refine jx_goto (tgt := 119) E dX5_as_115 (by decide) ?_
                  refine jx_istore (lv' := [(5, .int 1), (4, .int r11), (3, .int (v4 1 (Int32.toNatClampNeg (171 + x1)))), (0, .ref (ad 0)), (1, .int x1), (2, .int x2)]) E dX5_as_119 (by decide) rfl ?_
                  refine jx_iload E dX5_as_121 0 rfl ?_
                  refine jx_if_eq (tgt := 130) E dX5_as_123 (by decide) (fun hc40 => ?_) (fun hc40 => ?_)
                  · rw [if_pos hc40] at hF
                    refine jx_aload_n E dX5_as_130 3 rfl ?_
                    refine jx_ldcw (x := -1000003) E dX5_as_131 (List.mem_cons_of_mem _ tw_579) ?_
                    obtain ⟨⟨r41, v41⟩, hc41, hF⟩ := jx_bind hF
                    try dsimp only at hF
                    refine jx_callVi (As := [.int (-1000003)]) (st := []) (h := 0) E dX5_as_134 1 rfl (k_X5_finds hI (-1000003) v11 r41 v41 hc41) (gb_V (List.mem_cons_of_mem _ tw_344) (List.mem_cons_of_mem _ tw_345) (List.mem_cons_of_mem _ tw_346) (List.mem_cons_of_mem _ tw_325) tw_343) rfl rfl rfl dd_X5_finds rfl (Nat.le_of_ble_eq_true rfl) s_M0 rfl ⟨by decide, by decide⟩ ⟨Nat.le_refl 0, Nat.le_refl 0⟩ (Nat.le_of_ble_eq_true rfl) ?_
                    obtain ⟨rfl, rfl⟩ := jx_out hF
                    exact jx_iret E dX5_as_137 rfl
                  · rw [if_neg hc40] at hF
                    refine jx_iload_n E dX5_as_126 2 rfl ?_
                    refine jx_goto (tgt := 137) E dX5_as_127 (by decide) ?_
                    obtain ⟨rfl, rfl⟩ := jx_out hF
                    exact jx_iret E dX5_as_137 rfl
                · rw [if_neg hc39] at hF
                  refine jx_iload_n E dX5_as_91 4 rfl ?_
                  refine jx_iconst (x := 2) E dX5_as_92 (by decide) ?_
                  refine jx_icmp_ne (tgt := 102) E dX5_as_93 (by decide) (fun hc42 => ?_) (fun hc42 => ?_)
                  · rw [if_neg hc42] at hF
                    refine jx_iload_n E dX5_as_102 4 rfl ?_
                    refine jx_iconst (x := 5) E dX5_as_103 (by decide) ?_
                    refine jx_icmp_ne (tgt := 118) E dX5_as_104 (by decide) (fun hc43 => ?_) (fun hc43 => ?_)
                    · rw [if_neg hc43] at hF
                      refine jx_iconst (x := 0) E dX5_as_118 (by decide) ?_
                      refine jx_istore (lv' := [(5, .int 0), (4, .int r11), (3, .int (v4 1 (Int32.toNatClampNeg (171 + x1)))), (0, .ref (ad 0)), (1, .int x1), (2, .int x2)]) E dX5_as_119 (by decide) rfl ?_
                      refine jx_iload E dX5_as_121 0 rfl ?_
                      refine jx_if_eq (tgt := 130) E dX5_as_123 (by decide) (fun hc44 => ?_) (fun hc44 => ?_)
                      · rw [if_pos hc44] at hF
                        refine jx_aload_n E dX5_as_130 3 rfl ?_
                        refine jx_ldcw (x := -1000003) E dX5_as_131 (List.mem_cons_of_mem _ tw_579) ?_
                        obtain ⟨⟨r45, v45⟩, hc45, hF⟩ := jx_bind hF
                        try dsimp only at hF
                        refine jx_callVi (As := [.int (-1000003)]) (st := []) (h := 0) E dX5_as_134 1 rfl (k_X5_finds hI (-1000003) v11 r45 v45 hc45) (gb_V (List.mem_cons_of_mem _ tw_344) (List.mem_cons_of_mem _ tw_345) (List.mem_cons_of_mem _ tw_346) (List.mem_cons_of_mem _ tw_325) tw_343) rfl rfl rfl dd_X5_finds rfl (Nat.le_of_ble_eq_true rfl) s_M0 rfl ⟨by decide, by decide⟩ ⟨Nat.le_refl 0, Nat.le_refl 0⟩ (Nat.le_of_ble_eq_true rfl) ?_
                        obtain ⟨rfl, rfl⟩ := jx_out hF
                        exact jx_iret E dX5_as_137 rfl
                      · rw [if_neg hc44] at hF
                        refine jx_iload_n E dX5_as_126 2 rfl ?_
                        refine jx_goto (tgt := 137) E dX5_as_127 (by decide) ?_
                        obtain ⟨rfl, rfl⟩ := jx_out hF
                        exact jx_iret E dX5_as_137 rfl
                    · rw [if_pos hc43] at hF
                      refine jx_iload E dX5_as_107 0 rfl ?_
                      refine jx_bipush (x := 6) E dX5_as_109 (by decide) ?_
                      refine jx_icmp_ne (tgt := 118) E dX5_as_111 (by decide) (fun hc46 => ?_) (fun hc46 => ?_)
                      · rw [if_neg hc46] at hF
                        refine jx_iconst (x := 0) E dX5_as_118 (by decide) ?_
                        refine jx_istore (lv' := [(5, .int 0), (4, .int r11), (3, .int (v4 1 (Int32.toNatClampNeg (171 + x1)))), (0, .ref (ad 0)), (1, .int x1), (2, .int x2)]) E dX5_as_119 (by decide) rfl ?_
                        refine jx_iload E dX5_as_121 0 rfl ?_
                        refine jx_if_eq (tgt := 130) E dX5_as_123 (by decide) (fun hc47 => ?_) (fun hc47 => ?_)
                        · rw [if_pos hc47] at hF
                          refine jx_aload_n E dX5_as_130 3 rfl ?_
                          refine jx_ldcw (x := -1000003) E dX5_as_131 (List.mem_cons_of_mem _ tw_579) ?_
                          obtain ⟨⟨r48, v48⟩, hc48, hF⟩ := jx_bind hF
                          try dsimp only at hF
                          refine jx_callVi (As := [.int (-1000003)]) (st := []) (h := 0) E dX5_as_134 1 rfl (k_X5_finds hI (-1000003) v11 r48 v48 hc48) (gb_V (List.mem_cons_of_mem _ tw_344) (List.mem_cons_of_mem _ tw_345) (List.mem_cons_of_mem _ tw_346) (List.mem_cons_of_mem _ tw_325) tw_343) rfl rfl rfl dd_X5_finds rfl (Nat.le_of_ble_eq_true rfl) s_M0 rfl ⟨by decide, by decide⟩ ⟨Nat.le_refl 0, Nat.le_refl 0⟩ (Nat.le_of_ble_eq_true rfl) ?_
                          obtain ⟨rfl, rfl⟩ := jx_out hF
                          exact jx_iret E dX5_as_137 rfl
                        · rw [if_neg hc47] at hF
                          refine jx_iload_n E dX5_as_126 2 rfl ?_
                          refine jx_goto (tgt := 137) E dX5_as_127 (by decide) ?_
                          obtain ⟨rfl, rfl⟩ := jx_out hF
                          exact jx_iret E dX5_as_137 rfl
                      · rw [if_pos hc46] at hF
                        refine jx_iconst (x := 1) E dX5_as_114 (by decide) ?_
                        refine jx_goto (tgt := 119) E dX5_as_115 (by decide) ?_
                        refine jx_istore (lv' := [(5, .int 1), (4, .int r11), (3, .int (v4 1 (Int32.toNatClampNeg (171 + x1)))), (0, .ref (ad 0)), (1, .int x1), (2, .int x2)]) E dX5_as_119 (by decide) rfl ?_
                        refine jx_iload E dX5_as_121 0 rfl ?_
                        refine jx_if_eq (tgt := 130) E dX5_as_123 (by decide) (fun hc49 => ?_) (fun hc49 => ?_)
                        · rw [if_pos hc49] at hF
                          refine jx_aload_n E dX5_as_130 3 rfl ?_
                          refine jx_ldcw (x := -1000003) E dX5_as_131 (List.mem_cons_of_mem _ tw_579) ?_
                          obtain ⟨⟨r50, v50⟩, hc50, hF⟩ := jx_bind hF
                          try dsimp only at hF
                          refine jx_callVi (As := [.int (-1000003)]) (st := []) (h := 0) E dX5_as_134 1 rfl (k_X5_finds hI (-1000003) v11 r50 v50 hc50) (gb_V (List.mem_cons_of_mem _ tw_344) (List.mem_cons_of_mem _ tw_345) (List.mem_cons_of_mem _ tw_346) (List.mem_cons_of_mem _ tw_325) tw_343) rfl rfl rfl dd_X5_finds rfl (Nat.le_of_ble_eq_true rfl) s_M0 rfl ⟨by decide, by decide⟩ ⟨Nat.le_refl 0, Nat.le_refl 0⟩ (Nat.le_of_ble_eq_true rfl) ?_
                          obtain ⟨rfl, rfl⟩ := jx_out hF
                          exact jx_iret E dX5_as_137 rfl
                        · rw [if_neg hc49] at hF
                          refine jx_iload_n E dX5_as_126 2 rfl ?_
                          refine jx_goto (tgt := 137) E dX5_as_127 (by decide) ?_
                          obtain ⟨rfl, rfl⟩ := jx_out hF
                          exact jx_iret E dX5_as_137 rfl
                  · rw [if_pos hc42] at hF
                    refine jx_iload E dX5_as_96 0 rfl ?_
                    refine jx_iconst (x := 4) E dX5_as_98 (by decide) ?_
                    refine jx_icmp_eq (tgt := 114) E dX5_as_99 (by decide) (fun hc51 => ?_) (fun hc51 => ?_)
                    · rw [if_pos hc51] at hF
                      refine jx_iconst (x := 1) E dX5_as_114 (by decide) ?_
                      refine jx_goto (tgt := 119) E dX5_as_115 (by decide) ?_
                      refine jx_istore (lv' := [(5, .int 1), (4, .int r11), (3, .int (v4 1 (Int32.toNatClampNeg (171 + x1)))), (0, .ref (ad 0)), (1, .int x1), (2, .int x2)]) E dX5_as_119 (by decide) rfl ?_
                      refine jx_iload E dX5_as_121 0 rfl ?_
                      refine jx_if_eq (tgt := 130) E dX5_as_123 (by decide) (fun hc52 => ?_) (fun hc52 => ?_)
                      · rw [if_pos hc52] at hF
                        refine jx_aload_n E dX5_as_130 3 rfl ?_
                        refine jx_ldcw (x := -1000003) E dX5_as_131 (List.mem_cons_of_mem _ tw_579) ?_
                        obtain ⟨⟨r53, v53⟩, hc53, hF⟩ := jx_bind hF
                        try dsimp only at hF
                        refine jx_callVi (As := [.int (-1000003)]) (st := []) (h := 0) E dX5_as_134 1 rfl (k_X5_finds hI (-1000003) v11 r53 v53 hc53) (gb_V (List.mem_cons_of_mem _ tw_344) (List.mem_cons_of_mem _ tw_345) (List.mem_cons_of_mem _ tw_346) (List.mem_cons_of_mem _ tw_325) tw_343) rfl rfl rfl dd_X5_finds rfl (Nat.le_of_ble_eq_true rfl) s_M0 rfl ⟨by decide, by decide⟩ ⟨Nat.le_refl 0, Nat.le_refl 0⟩ (Nat.le_of_ble_eq_true rfl) ?_
                        obtain ⟨rfl, rfl⟩ := jx_out hF
                        exact jx_iret E dX5_as_137 rfl
                      · rw [if_neg hc52] at hF
                        refine jx_iload_n E dX5_as_126 2 rfl ?_
                        refine jx_goto (tgt := 137) E dX5_as_127 (by decide) ?_
                        obtain ⟨rfl, rfl⟩ := jx_out hF
                        exact jx_iret E dX5_as_137 rfl
                    · rw [if_neg hc51] at hF
                      refine jx_iload_n E dX5_as_102 4 rfl ?_
                      refine jx_iconst (x := 5) E dX5_as_103 (by decide) ?_
                      refine jx_icmp_ne (tgt := 118) E dX5_as_104 (by decide) (fun hc54 => ?_) (fun hc54 => ?_)
                      · rw [if_neg hc54] at hF
                        refine jx_iconst (x := 0) E dX5_as_118 (by decide) ?_
                        refine jx_istore (lv' := [(5, .int 0), (4, .int r11), (3, .int (v4 1 (Int32.toNatClampNeg (171 + x1)))), (0, .ref (ad 0)), (1, .int x1), (2, .int x2)]) E dX5_as_119 (by decide) rfl ?_
                        refine jx_iload E dX5_as_121 0 rfl ?_
                        refine jx_if_eq (tgt := 130) E dX5_as_123 (by decide) (fun hc55 => ?_) (fun hc55 => ?_)
                        · rw [if_pos hc55] at hF
                          refine jx_aload_n E dX5_as_130 3 rfl ?_
                          refine jx_ldcw (x := -1000003) E dX5_as_131 (List.mem_cons_of_mem _ tw_579) ?_
                          obtain ⟨⟨r56, v56⟩, hc56, hF⟩ := jx_bind hF
                          try dsimp only at hF
                          refine jx_callVi (As := [.int (-1000003)]) (st := []) (h := 0) E dX5_as_134 1 rfl (k_X5_finds hI (-1000003) v11 r56 v56 hc56) (gb_V (List.mem_cons_of_mem _ tw_344) (List.mem_cons_of_mem _ tw_345) (List.mem_cons_of_mem _ tw_346) (List.mem_cons_of_mem _ tw_325) tw_343) rfl rfl rfl dd_X5_finds rfl (Nat.le_of_ble_eq_true rfl) s_M0 rfl ⟨by decide, by decide⟩ ⟨Nat.le_refl 0, Nat.le_refl 0⟩ (Nat.le_of_ble_eq_true rfl) ?_
                          obtain ⟨rfl, rfl⟩ := jx_out hF
                          exact jx_iret E dX5_as_137 rfl
                        · rw [if_neg hc55] at hF
                          refine jx_iload_n E dX5_as_126 2 rfl ?_
                          refine jx_goto (tgt := 137) E dX5_as_127 (by decide) ?_
                          obtain ⟨rfl, rfl⟩ := jx_out hF
                          exact jx_iret E dX5_as_137 rfl
                      · rw [if_pos hc54] at hF
                        refine jx_iload E dX5_as_107 0 rfl ?_
                        refine jx_bipush (x := 6) E dX5_as_109 (by decide) ?_
                        refine jx_icmp_ne (tgt := 118) E dX5_as_111 (by decide) (fun hc57 => ?_) (fun hc57 => ?_)
                        · rw [if_neg hc57] at hF
                          refine jx_iconst (x := 0) E dX5_as_118 (by decide) ?_
                          refine jx_istore (lv' := [(5, .int 0), (4, .int r11), (3, .int (v4 1 (Int32.toNatClampNeg (171 + x1)))), (0, .ref (ad 0)), (1, .int x1), (2, .int x2)]) E dX5_as_119 (by decide) rfl ?_
                          refine jx_iload E dX5_as_121 0 rfl ?_
                          refine jx_if_eq (tgt := 130) E dX5_as_123 (by decide) (fun hc58 => ?_) (fun hc58 => ?_)
                          · rw [if_pos hc58] at hF
                            refine jx_aload_n E dX5_as_130 3 rfl ?_
                            refine jx_ldcw (x := -1000003) E dX5_as_131 (List.mem_cons_of_mem _ tw_579) ?_
                            obtain ⟨⟨r59, v59⟩, hc59, hF⟩ := jx_bind hF
                            try dsimp only at hF
                            refine jx_callVi (As := [.int (-1000003)]) (st := []) (h := 0) E dX5_as_134 1 rfl (k_X5_finds hI (-1000003) v11 r59 v59 hc59) (gb_V (List.mem_cons_of_mem _ tw_344) (List.mem_cons_of_mem _ tw_345) (List.mem_cons_of_mem _ tw_346) (List.mem_cons_of_mem _ tw_325) tw_343) rfl rfl rfl dd_X5_finds rfl (Nat.le_of_ble_eq_true rfl) s_M0 rfl ⟨by decide, by decide⟩ ⟨Nat.le_refl 0, Nat.le_refl 0⟩ (Nat.le_of_ble_eq_true rfl) ?_
                            obtain ⟨rfl, rfl⟩ := jx_out hF
                            exact jx_iret E dX5_as_137 rfl
                          · rw [if_neg hc58] at hF
                            refine jx_iload_n E dX5_as_126 2 rfl ?_
                            refine jx_goto (tgt := 137) E dX5_as_127 (by decide) ?_
                            obtain ⟨rfl, rfl⟩ := jx_out hF
                            exact jx_iret E dX5_as_137 rfl
                        · rw [if_pos hc57] at hF
                          refine jx_iconst (x := 1) E dX5_as_114 (by decide) ?_
                          refine jx_goto (tgt := 119) E dX5_as_115 (by decide) ?_
                          refine jx_istore (lv' := [(5, .int 1), (4, .int r11), (3, .int (v4 1 (Int32.toNatClampNeg (171 + x1)))), (0, .ref (ad 0)), (1, .int x1), (2, .int x2)]) E dX5_as_119 (by decide) rfl ?_
                          refine jx_iload E dX5_as_121 0 rfl ?_
                          refine jx_if_eq (tgt := 130) E dX5_as_123 (by decide) (fun hc60 => ?_) (fun hc60 => ?_)
                          · rw [if_pos hc60] at hF
                            refine jx_aload_n E dX5_as_130 3 rfl ?_
                            refine jx_ldcw (x := -1000003) E dX5_as_131 (List.mem_cons_of_mem _ tw_579) ?_
                            obtain ⟨⟨r61, v61⟩, hc61, hF⟩ := jx_bind hF
                            try dsimp only at hF
                            refine jx_callVi (As := [.int (-1000003)]) (st := []) (h := 0) E dX5_as_134 1 rfl (k_X5_finds hI (-1000003) v11 r61 v61 hc61) (gb_V (List.mem_cons_of_mem _ tw_344) (List.mem_cons_of_mem _ tw_345) (List.mem_cons_of_mem _ tw_346) (List.mem_cons_of_mem _ tw_325) tw_343) rfl rfl rfl dd_X5_finds rfl (Nat.le_of_ble_eq_true rfl) s_M0 rfl ⟨by decide, by decide⟩ ⟨Nat.le_refl 0, Nat.le_refl 0⟩ (Nat.le_of_ble_eq_true rfl) ?_
                            obtain ⟨rfl, rfl⟩ := jx_out hF
                            exact jx_iret E dX5_as_137 rfl
                          · rw [if_neg hc60] at hF
                            refine jx_iload_n E dX5_as_126 2 rfl ?_
                            refine jx_goto (tgt := 137) E dX5_as_127 (by decide) ?_
                            obtain ⟨rfl, rfl⟩ := jx_out hF
                            exact jx_iret E dX5_as_137 rfl
        · rw [if_pos hc10] at hF
          refine jx_aload_n E dX5_as_54 1 rfl ?_
          refine jx_ldcw (x := -1000006) E dX5_as_55 (List.mem_cons_of_mem _ tw_578) ?_
          obtain ⟨⟨r62, v62⟩, hc62, hF⟩ := jx_bind hF
          try dsimp only at hF
          refine jx_callVi (As := [.int (-1000006)]) (st := []) (h := 0) E dX5_as_58 1 rfl (k_X5_finds hI (-1000006) v9 r62 v62 hc62) (gb_V (List.mem_cons_of_mem _ tw_344) (List.mem_cons_of_mem _ tw_345) (List.mem_cons_of_mem _ tw_346) (List.mem_cons_of_mem _ tw_325) tw_343) rfl rfl rfl dd_X5_finds rfl (Nat.le_of_ble_eq_true rfl) s_M0 rfl ⟨by decide, by decide⟩ ⟨Nat.le_refl 0, Nat.le_refl 0⟩ (Nat.le_of_ble_eq_true rfl) ?_
          obtain ⟨rfl, rfl⟩ := jx_out hF
          exact jx_iret E dX5_as_61 rfl
    · rw [if_pos hc5] at hF
      refine jx_aload_n E dX5_as_24 0 rfl ?_
      refine jx_ldc (x := -1000001) E dX5_as_25 (List.mem_cons_of_mem _ tw_320) ?_
      obtain ⟨⟨r63, v63⟩, hc63, hF⟩ := jx_bind hF
      try dsimp only at hF
      refine jx_callVi (As := [.int (-1000001)]) (st := []) (h := 0) E dX5_as_27 1 rfl (k_X5_finds hI (-1000001) v4 r63 v63 hc63) (gb_V (List.mem_cons_of_mem _ tw_344) (List.mem_cons_of_mem _ tw_345) (List.mem_cons_of_mem _ tw_346) (List.mem_cons_of_mem _ tw_325) tw_343) rfl rfl rfl dd_X5_finds rfl (Nat.le_of_ble_eq_true rfl) s_M0 rfl ⟨by decide, by decide⟩ ⟨Nat.le_refl 0, Nat.le_refl 0⟩ (Nat.le_of_ble_eq_true rfl) ?_
      obtain ⟨rfl, rfl⟩ := jx_out hF
      exact jx_iret E dX5_as_30 rfl
def f_X5_isOne (x0 : Int32) (v : jx_V) : Option (Int32 × jx_V) := ((f_X5_in (Int32.toInt64 x0) 0 3 v).bind (fun (r1, v1) => (if ¬ (r1 = 0 ∨ r1 = 1) then none else some (r1, v1))))
def rm_X5_isOne : Room := { frames := 1, cells := 0, slots := 0, locals := 25 }
set_option maxHeartbeats 4000000 in
set_option maxRecDepth 100000 in
theorem k_X5_isOne {l : Launch} {D : va_G} {cI cJ : ClassId} {ad : Nat → Nat} {A : Nat → Prop} (hI : jx_inj 13 ad A) (x0 : Int32) (v : jx_V) (r : Int32) (v' : jx_V) (hF : f_X5_isOne x0 v = some (r, v')) : jx_Ci l D vwCl 13 cI cJ ad shM A ex_M yX5_isOne (Cond.code yX5_isOne cX5_isOne 1 (some .boolean) :: bigT) rm_X5_isOne [.int x0] v r v' := by
  unfold f_X5_isOne at hF
  refine jx_enteri bigT RX5 cX5_isOne 1 (some .boolean) [(0, .int x0)] hI (ex_M_ok A) (by decide +kernel) rfl (Nat.le_of_ble_eq_true rfl) rfl rfl ?_
  intro p e s m args below meth c E
  refine jx_iload_n E dX5_isOne_0 0 rfl ?_
  refine jx_i2l E dX5_isOne_1 ?_
  refine jx_lconst (x := 0) E dX5_isOne_2 (by decide) ?_
  refine jx_ldc2 (x := 3) E dX5_isOne_3 (List.mem_cons_of_mem _ tw_326) ?_
  obtain ⟨⟨r1, v1⟩, hc1, hF⟩ := jx_bind hF
  try dsimp only at hF
  refine jx_callSi (As := [.long (Int32.toInt64 x0), .long 0, .long 3]) (st := []) E dX5_isOne_6 3 rfl (k_X5_in hI (Int32.toInt64 x0) 0 3 v r1 v1 hc1) (gb_S (List.mem_cons_of_mem _ tw_323) (List.mem_cons_of_mem _ tw_324) (List.mem_cons_of_mem _ tw_325) tw_322) rfl rfl rfl dd_X5_in rfl ⟨by decide, by decide⟩ ⟨Nat.le_refl 0, Nat.le_refl 0⟩ (Nat.le_of_ble_eq_true rfl) ?_
  obtain ⟨hg2, hF⟩ := jx_guard hF
  obtain ⟨rfl, rfl⟩ := jx_out hF
  exact jx_zret E dX5_isOne_9 rfl (Decidable.not_not.mp hg2)
def f_X5_sheet_L  : Nat → Int32 → Int32 → Int32 → Int32 → jx_V → Option (Int32 × jx_V)
  | 0, _, _, _, _, _ => none
  | n + 1, x1, x2, x3, x4, v => (if 40 ≤ x4 then (if (x1 < 0 ∨ 4 ≤ Int32.toNatClampNeg x1) then none else (some ((v 10 (Int32.toNatClampNeg x1)), v))) else (if (((40 * x1) + x4) < 0 ∨ 160 ≤ Int32.toNatClampNeg ((40 * x1) + x4)) then none else (f_X5_sheet_L n x1 x2 x3 (x4 + 1) (jx_up v 11 (Int32.toNatClampNeg ((40 * x1) + x4)) 0))))
def f_X5_sheet (x1 : Int32) (x2 : Int32) (x3 : Int32) (v : jx_V) : Option (Int32 × jx_V) := ((f_X5_isOne x1 v).bind (fun (r1, v1) => (if r1 = 0 then ((f_X5_finds (-1000001) v1).bind (fun (r3, v3) => (some (r3, v3)))) else (if x2 = 0 then (if 0 ≤ x3 then (if x3 ≤ 40 then (if (x1 < 0 ∨ 4 ≤ Int32.toNatClampNeg x1) then none else (if x2 = 0 then (if (x1 < 0 ∨ 4 ≤ Int32.toNatClampNeg x1) then none else (f_X5_sheet_L 100000 x1 x2 x3 0 (jx_up (jx_up v1 9 (Int32.toNatClampNeg x1) x2) 10 (Int32.toNatClampNeg x1) 0))) else (if (x1 < 0 ∨ 4 ≤ Int32.toNatClampNeg x1) then none else (f_X5_sheet_L 100000 x1 x2 x3 0 (jx_up (jx_up v1 9 (Int32.toNatClampNeg x1) x2) 10 (Int32.toNatClampNeg x1) x3))))) else ((f_X5_finds (-1000001) v1).bind (fun (r11, v11) => (some (r11, v11))))) else ((f_X5_finds (-1000007) v1).bind (fun (r12, v12) => (some (r12, v12))))) else (if x2 = 8 then (if 0 ≤ x3 then (if x3 ≤ 40 then (if (x1 < 0 ∨ 4 ≤ Int32.toNatClampNeg x1) then none else (if x2 = 0 then (if (x1 < 0 ∨ 4 ≤ Int32.toNatClampNeg x1) then none else (f_X5_sheet_L 100000 x1 x2 x3 0 (jx_up (jx_up v1 9 (Int32.toNatClampNeg x1) x2) 10 (Int32.toNatClampNeg x1) 0))) else (if (x1 < 0 ∨ 4 ≤ Int32.toNatClampNeg x1) then none else (f_X5_sheet_L 100000 x1 x2 x3 0 (jx_up (jx_up v1 9 (Int32.toNatClampNeg x1) x2) 10 (Int32.toNatClampNeg x1) x3))))) else ((f_X5_finds (-1000001) v1).bind (fun (r20, v20) => (some (r20, v20))))) else ((f_X5_finds (-1000007) v1).bind (fun (r21, v21) => (some (r21, v21))))) else (if x2 = 16 then (if 0 ≤ x3 then (if x3 ≤ 40 then (if (x1 < 0 ∨ 4 ≤ Int32.toNatClampNeg x1) then none else (if x2 = 0 then (if (x1 < 0 ∨ 4 ≤ Int32.toNatClampNeg x1) then none else (f_X5_sheet_L 100000 x1 x2 x3 0 (jx_up (jx_up v1 9 (Int32.toNatClampNeg x1) x2) 10 (Int32.toNatClampNeg x1) 0))) else (if (x1 < 0 ∨ 4 ≤ Int32.toNatClampNeg x1) then none else (f_X5_sheet_L 100000 x1 x2 x3 0 (jx_up (jx_up v1 9 (Int32.toNatClampNeg x1) x2) 10 (Int32.toNatClampNeg x1) x3))))) else ((f_X5_finds (-1000001) v1).bind (fun (r29, v29) => (some (r29, v29))))) else ((f_X5_finds (-1000007) v1).bind (fun (r30, v30) => (some (r30, v30))))) else (if x2 = 32 then (if 0 ≤ x3 then (if x3 ≤ 40 then (if (x1 < 0 ∨ 4 ≤ Int32.toNatClampNeg x1) then none else (if x2 = 0 then (if (x1 < 0 ∨ 4 ≤ Int32.toNatClampNeg x1) then none else (f_X5_sheet_L 100000 x1 x2 x3 0 (jx_up (jx_up v1 9 (Int32.toNatClampNeg x1) x2) 10 (Int32.toNatClampNeg x1) 0))) else (if (x1 < 0 ∨ 4 ≤ Int32.toNatClampNeg x1) then none else (f_X5_sheet_L 100000 x1 x2 x3 0 (jx_up (jx_up v1 9 (Int32.toNatClampNeg x1) x2) 10 (Int32.toNatClampNeg x1) x3))))) else ((f_X5_finds (-1000001) v1).bind (fun (r38, v38) => (some (r38, v38))))) else ((f_X5_finds (-1000007) v1).bind (fun (r39, v39) => (some (r39, v39))))) else ((f_X5_finds (-1000001) v1).bind (fun (r40, v40) => (some (r40, v40)))))))))))
def rm_X5_sheet : Room := { frames := 2, cells := 0, slots := 0, locals := 45 }
set_option maxHeartbeats 4000000 in
set_option maxRecDepth 100000 in
theorem k_X5_sheet {l : Launch} {D : va_G} {cI cJ : ClassId} {ad : Nat → Nat} {A : Nat → Prop} (hI : jx_inj 13 ad A) (x1 : Int32) (x2 : Int32) (x3 : Int32) (v : jx_V) (r : Int32) (v' : jx_V) (hF : f_X5_sheet x1 x2 x3 v = some (r, v')) : jx_Ci l D vwCl 13 cI cJ ad shM A ex_M yX5_sheet (Cond.code yX5_sheet cX5_sheet 5 (some .int) :: bigT) rm_X5_sheet [.ref (ad 0), .int x1, .int x2, .int x3] v r v' := by
  unfold f_X5_sheet at hF
  refine jx_enteri bigT RX5 cX5_sheet 5 (some .int) [(0, .ref (ad 0)), (1, .int x1), (2, .int x2), (3, .int x3)] hI (ex_M_ok A) (by decide +kernel) rfl (Nat.le_of_ble_eq_true rfl) rfl rfl ?_
  intro p e s m args below meth c E
  have iX5 : ∀ w ∈ u_ws RX5 TX5 21, w ∈ (Cond.code yX5_sheet cX5_sheet 5 (some .int) :: bigT) := fun w h => List.mem_cons_of_mem _ (uw_X5 w h)
  have key : ∀ n : Nat, (∀ (x1 : Int32) (x2 : Int32) (x3 : Int32) (x4 : Int32) (v : jx_V), f_X5_sheet_L  n  x1 x2 x3 x4 v = some (r, v') → jx_J p l e rm_X5_sheet s m args below meth c D vwCl 13 cI cJ ad shM A 0 0 5 (MQ below (va_Qi (fun (r1 : Int32) (_ : Unit) => r1 = r) (fun _ t => va_P D vwCl (jx_ws 13 cI cJ ad shM v') t.heap) A) args s 0 0 A) v 86 [(0, .ref (ad 0)), (1, .int x1), (2, .int x2), (3, .int x3), (4, .int x4)] []) := by
    intro n
    induction n with
    | zero =>
      exact (fun _ _ _ _ _ h => by cases h)
    | succ n ih =>
      intro x1 x2 x3 x4 v hF
      rw [f_X5_sheet_L] at hF
      refine jx_iload E dX5_sheet_86 4 rfl ?_
      refine jx_bipush (x := 40) E dX5_sheet_88 (by decide) ?_
      refine jx_icmp_ge (tgt := 112) E dX5_sheet_90 (by decide) (fun hc41 => ?_) (fun hc41 => ?_)
      · rw [if_pos hc41] at hF
        refine jx_aload_n E dX5_sheet_112 0 rfl ?_
        refine jx_getr (C := RX5) (T := TX5) (M := 21) (k := 18) E dX5_sheet_113 (Nat.le_of_ble_eq_true rfl) s_M0 rfl iX5 (by decide) rfl (List.mem_cons_of_mem _ tw_584) rfl ?_
        refine jx_iload_n E dX5_sheet_116 1 rfl ?_
        obtain ⟨hg42, hF⟩ := jx_guard hF
        refine jx_iald (h := 10) (j := (Int32.toNatClampNeg x1)) E dX5_sheet_117 (Nat.le_of_ble_eq_true rfl) s_M10 hg42 rfl ?_
        obtain ⟨rfl, rfl⟩ := jx_out hF
        exact jx_iret E dX5_sheet_118 rfl
      · rw [if_neg hc41] at hF
        refine jx_aload_n E dX5_sheet_93 0 rfl ?_
        refine jx_getr (C := RX5) (T := TX5) (M := 21) (k := 19) E dX5_sheet_94 (Nat.le_of_ble_eq_true rfl) s_M0 rfl iX5 (by decide) rfl (List.mem_cons_of_mem _ tw_586) rfl ?_
        refine jx_bipush (x := 40) E dX5_sheet_97 (by decide) ?_
        refine jx_iload_n E dX5_sheet_99 1 rfl ?_
        refine jx_imul E dX5_sheet_100 ?_
        refine jx_iload E dX5_sheet_101 4 rfl ?_
        refine jx_iadd E dX5_sheet_103 ?_
        refine jx_iconst (x := 0) E dX5_sheet_104 (by decide) ?_
        obtain ⟨hg43, hF⟩ := jx_guard hF
        refine jx_iast (h := 11) (j := (Int32.toNatClampNeg ((40 * x1) + x4))) E dX5_sheet_105 (Nat.le_of_ble_eq_true rfl) s_M11 hg43 rfl ?_
        refine jx_iinc (y := (x4 + 1)) (lv' := [(4, .int (x4 + 1)), (0, .ref (ad 0)), (1, .int x1), (2, .int x2), (3, .int x3)]) E dX5_sheet_106 4 rfl rfl (by decide) rfl ?_
        refine jx_goto (tgt := 86) E dX5_sheet_109 (by decide) ?_
        refine jx_sub [1, 2, 3, 4, 0] rfl ?_
        exact ih x1 x2 x3 (x4 + 1) (jx_up v 11 (Int32.toNatClampNeg ((40 * x1) + x4)) 0) hF
  refine jx_iload_n E dX5_sheet_0 1 rfl ?_
  obtain ⟨⟨r1, v1⟩, hc1, hF⟩ := jx_bind hF
  try dsimp only at hF
  refine jx_callSi (As := [.int x1]) (st := []) E dX5_sheet_1 1 rfl (k_X5_isOne hI x1 v r1 v1 hc1) (gb_S (List.mem_cons_of_mem _ tw_581) (List.mem_cons_of_mem _ tw_582) (List.mem_cons_of_mem _ tw_325) tw_580) rfl rfl rfl dd_X5_isOne rfl ⟨by decide, by decide⟩ ⟨Nat.le_refl 0, Nat.le_refl 0⟩ (Nat.le_of_ble_eq_true rfl) ?_
  refine jx_if_eq (tgt := 29) E dX5_sheet_4 (by decide) (fun hc2 => ?_) (fun hc2 => ?_)
  · rw [if_pos hc2] at hF
    refine jx_aload_n E dX5_sheet_29 0 rfl ?_
    refine jx_ldc (x := -1000001) E dX5_sheet_30 (List.mem_cons_of_mem _ tw_320) ?_
    obtain ⟨⟨r3, v3⟩, hc3, hF⟩ := jx_bind hF
    try dsimp only at hF
    refine jx_callVi (As := [.int (-1000001)]) (st := []) (h := 0) E dX5_sheet_32 1 rfl (k_X5_finds hI (-1000001) v1 r3 v3 hc3) (gb_V (List.mem_cons_of_mem _ tw_344) (List.mem_cons_of_mem _ tw_345) (List.mem_cons_of_mem _ tw_346) (List.mem_cons_of_mem _ tw_325) tw_343) rfl rfl rfl dd_X5_finds rfl (Nat.le_of_ble_eq_true rfl) s_M0 rfl ⟨by decide, by decide⟩ ⟨Nat.le_refl 0, Nat.le_refl 0⟩ (Nat.le_of_ble_eq_true rfl) ?_
    obtain ⟨rfl, rfl⟩ := jx_out hF
    exact jx_iret E dX5_sheet_35 rfl
  · rw [if_neg hc2] at hF
    refine jx_iload_n E dX5_sheet_7 2 rfl ?_
    refine jx_if_eq (tgt := 36) E dX5_sheet_8 (by decide) (fun hc4 => ?_) (fun hc4 => ?_)
    · rw [if_pos hc4] at hF
      refine jx_iload_n E dX5_sheet_36 3 rfl ?_
      refine jx_if_ge (tgt := 48) E dX5_sheet_37 (by decide) (fun hc5 => ?_) (fun hc5 => ?_)
      · rw [if_pos hc5] at hF
        refine jx_iload_n E dX5_sheet_48 3 rfl ?_
        refine jx_bipush (x := 40) E dX5_sheet_49 (by decide) ?_
        refine jx_icmp_le (tgt := 61) E dX5_sheet_51 (by decide) (fun hc6 => ?_) (fun hc6 => ?_)
        · rw [if_pos hc6] at hF
          refine jx_aload_n E dX5_sheet_61 0 rfl ?_
          refine jx_getr (C := RX5) (T := TX5) (M := 21) (k := 17) E dX5_sheet_62 (Nat.le_of_ble_eq_true rfl) s_M0 rfl iX5 (by decide) rfl (List.mem_cons_of_mem _ tw_583) rfl ?_
          refine jx_iload_n E dX5_sheet_65 1 rfl ?_
          refine jx_iload_n E dX5_sheet_66 2 rfl ?_
          obtain ⟨hg7, hF⟩ := jx_guard hF
          refine jx_iast (h := 9) (j := (Int32.toNatClampNeg x1)) E dX5_sheet_67 (Nat.le_of_ble_eq_true rfl) s_M9 hg7 rfl ?_
          refine jx_aload_n E dX5_sheet_68 0 rfl ?_
          refine jx_getr (C := RX5) (T := TX5) (M := 21) (k := 18) E dX5_sheet_69 (Nat.le_of_ble_eq_true rfl) s_M0 rfl iX5 (by decide) rfl (List.mem_cons_of_mem _ tw_584) rfl ?_
          refine jx_iload_n E dX5_sheet_72 1 rfl ?_
          refine jx_iload_n E dX5_sheet_73 2 rfl ?_
          refine jx_if_ne (tgt := 81) E dX5_sheet_74 (by decide) (fun hc8 => ?_) (fun hc8 => ?_)
          · rw [if_neg hc8] at hF
            refine jx_iload_n E dX5_sheet_81 3 rfl ?_
            obtain ⟨hg9, hF⟩ := jx_guard hF
            refine jx_iast (h := 10) (j := (Int32.toNatClampNeg x1)) E dX5_sheet_82 (Nat.le_of_ble_eq_true rfl) s_M10 hg9 rfl ?_
            refine jx_iconst (x := 0) E dX5_sheet_83 (by decide) ?_
            refine jx_istore (lv' := [(4, .int 0), (0, .ref (ad 0)), (1, .int x1), (2, .int x2), (3, .int x3)]) E dX5_sheet_84 (by decide) rfl ?_
            refine jx_sub [1, 2, 3, 4, 0] rfl ?_
            exact (key 100000) x1 x2 x3 0 (jx_up (jx_up v1 9 (Int32.toNatClampNeg x1) x2) 10 (Int32.toNatClampNeg x1) x3) hF
          · rw [if_pos hc8] at hF
            refine jx_iconst (x := 0) E dX5_sheet_77 (by decide) ?_
            refine jx_goto (tgt := 82) E dX5_sheet_78 (by decide) ?_
            obtain ⟨hg10, hF⟩ := jx_guard hF
            refine jx_iast (h := 10) (j := (Int32.toNatClampNeg x1)) E dX5_sheet_82 (Nat.le_of_ble_eq_true rfl) s_M10 hg10 rfl ?_
            refine jx_iconst (x := 0) E dX5_sheet_83 (by decide) ?_
            refine jx_istore (lv' := [(4, .int 0), (0, .ref (ad 0)), (1, .int x1), (2, .int x2), (3, .int x3)]) E dX5_sheet_84 (by decide) rfl ?_
            refine jx_sub [1, 2, 3, 4, 0] rfl ?_
            exact (key 100000) x1 x2 x3 0 (jx_up (jx_up v1 9 (Int32.toNatClampNeg x1) x2) 10 (Int32.toNatClampNeg x1) 0) hF
        · rw [if_neg hc6] at hF
          refine jx_aload_n E dX5_sheet_54 0 rfl ?_
          refine jx_ldc (x := -1000001) E dX5_sheet_55 (List.mem_cons_of_mem _ tw_320) ?_
          obtain ⟨⟨r11, v11⟩, hc11, hF⟩ := jx_bind hF
          try dsimp only at hF
          refine jx_callVi (As := [.int (-1000001)]) (st := []) (h := 0) E dX5_sheet_57 1 rfl (k_X5_finds hI (-1000001) v1 r11 v11 hc11) (gb_V (List.mem_cons_of_mem _ tw_344) (List.mem_cons_of_mem _ tw_345) (List.mem_cons_of_mem _ tw_346) (List.mem_cons_of_mem _ tw_325) tw_343) rfl rfl rfl dd_X5_finds rfl (Nat.le_of_ble_eq_true rfl) s_M0 rfl ⟨by decide, by decide⟩ ⟨Nat.le_refl 0, Nat.le_refl 0⟩ (Nat.le_of_ble_eq_true rfl) ?_
          obtain ⟨rfl, rfl⟩ := jx_out hF
          exact jx_iret E dX5_sheet_60 rfl
      · rw [if_neg hc5] at hF
        refine jx_aload_n E dX5_sheet_40 0 rfl ?_
        refine jx_ldcw (x := -1000007) E dX5_sheet_41 (List.mem_cons_of_mem _ tw_585) ?_
        obtain ⟨⟨r12, v12⟩, hc12, hF⟩ := jx_bind hF
        try dsimp only at hF
        refine jx_callVi (As := [.int (-1000007)]) (st := []) (h := 0) E dX5_sheet_44 1 rfl (k_X5_finds hI (-1000007) v1 r12 v12 hc12) (gb_V (List.mem_cons_of_mem _ tw_344) (List.mem_cons_of_mem _ tw_345) (List.mem_cons_of_mem _ tw_346) (List.mem_cons_of_mem _ tw_325) tw_343) rfl rfl rfl dd_X5_finds rfl (Nat.le_of_ble_eq_true rfl) s_M0 rfl ⟨by decide, by decide⟩ ⟨Nat.le_refl 0, Nat.le_refl 0⟩ (Nat.le_of_ble_eq_true rfl) ?_
        obtain ⟨rfl, rfl⟩ := jx_out hF
        exact jx_iret E dX5_sheet_47 rfl
    · rw [if_neg hc4] at hF
      refine jx_iload_n E dX5_sheet_11 2 rfl ?_
      refine jx_bipush (x := 8) E dX5_sheet_12 (by decide) ?_
      refine jx_icmp_eq (tgt := 36) E dX5_sheet_14 (by decide) (fun hc13 => ?_) (fun hc13 => ?_)
      · rw [if_pos hc13] at hF
        refine jx_iload_n E dX5_sheet_36 3 rfl ?_
        refine jx_if_ge (tgt := 48) E dX5_sheet_37 (by decide) (fun hc14 => ?_) (fun hc14 => ?_)
        · rw [if_pos hc14] at hF
          refine jx_iload_n E dX5_sheet_48 3 rfl ?_
          refine jx_bipush (x := 40) E dX5_sheet_49 (by decide) ?_
          refine jx_icmp_le (tgt := 61) E dX5_sheet_51 (by decide) (fun hc15 => ?_) (fun hc15 => ?_)
          · rw [if_pos hc15] at hF
            refine jx_aload_n E dX5_sheet_61 0 rfl ?_
            refine jx_getr (C := RX5) (T := TX5) (M := 21) (k := 17) E dX5_sheet_62 (Nat.le_of_ble_eq_true rfl) s_M0 rfl iX5 (by decide) rfl (List.mem_cons_of_mem _ tw_583) rfl ?_
            refine jx_iload_n E dX5_sheet_65 1 rfl ?_
            refine jx_iload_n E dX5_sheet_66 2 rfl ?_
            obtain ⟨hg16, hF⟩ := jx_guard hF
            refine jx_iast (h := 9) (j := (Int32.toNatClampNeg x1)) E dX5_sheet_67 (Nat.le_of_ble_eq_true rfl) s_M9 hg16 rfl ?_
            refine jx_aload_n E dX5_sheet_68 0 rfl ?_
            refine jx_getr (C := RX5) (T := TX5) (M := 21) (k := 18) E dX5_sheet_69 (Nat.le_of_ble_eq_true rfl) s_M0 rfl iX5 (by decide) rfl (List.mem_cons_of_mem _ tw_584) rfl ?_
            refine jx_iload_n E dX5_sheet_72 1 rfl ?_
            refine jx_iload_n E dX5_sheet_73 2 rfl ?_
            refine jx_if_ne (tgt := 81) E dX5_sheet_74 (by decide) (fun hc17 => ?_) (fun hc17 => ?_)
            · rw [if_neg hc17] at hF
              refine jx_iload_n E dX5_sheet_81 3 rfl ?_
              obtain ⟨hg18, hF⟩ := jx_guard hF
              refine jx_iast (h := 10) (j := (Int32.toNatClampNeg x1)) E dX5_sheet_82 (Nat.le_of_ble_eq_true rfl) s_M10 hg18 rfl ?_
              refine jx_iconst (x := 0) E dX5_sheet_83 (by decide) ?_
              refine jx_istore (lv' := [(4, .int 0), (0, .ref (ad 0)), (1, .int x1), (2, .int x2), (3, .int x3)]) E dX5_sheet_84 (by decide) rfl ?_
              refine jx_sub [1, 2, 3, 4, 0] rfl ?_
              exact (key 100000) x1 x2 x3 0 (jx_up (jx_up v1 9 (Int32.toNatClampNeg x1) x2) 10 (Int32.toNatClampNeg x1) x3) hF
            · rw [if_pos hc17] at hF
              refine jx_iconst (x := 0) E dX5_sheet_77 (by decide) ?_
              refine jx_goto (tgt := 82) E dX5_sheet_78 (by decide) ?_
              obtain ⟨hg19, hF⟩ := jx_guard hF
              refine jx_iast (h := 10) (j := (Int32.toNatClampNeg x1)) E dX5_sheet_82 (Nat.le_of_ble_eq_true rfl) s_M10 hg19 rfl ?_
              refine jx_iconst (x := 0) E dX5_sheet_83 (by decide) ?_
              refine jx_istore (lv' := [(4, .int 0), (0, .ref (ad 0)), (1, .int x1), (2, .int x2), (3, .int x3)]) E dX5_sheet_84 (by decide) rfl ?_
              refine jx_sub [1, 2, 3, 4, 0] rfl ?_
              exact (key 100000) x1 x2 x3 0 (jx_up (jx_up v1 9 (Int32.toNatClampNeg x1) x2) 10 (Int32.toNatClampNeg x1) 0) hF
          · rw [if_neg hc15] at hF
            refine jx_aload_n E dX5_sheet_54 0 rfl ?_
            refine jx_ldc (x := -1000001) E dX5_sheet_55 (List.mem_cons_of_mem _ tw_320) ?_
            obtain ⟨⟨r20, v20⟩, hc20, hF⟩ := jx_bind hF
            try dsimp only at hF
            refine jx_callVi (As := [.int (-1000001)]) (st := []) (h := 0) E dX5_sheet_57 1 rfl (k_X5_finds hI (-1000001) v1 r20 v20 hc20) (gb_V (List.mem_cons_of_mem _ tw_344) (List.mem_cons_of_mem _ tw_345) (List.mem_cons_of_mem _ tw_346) (List.mem_cons_of_mem _ tw_325) tw_343) rfl rfl rfl dd_X5_finds rfl (Nat.le_of_ble_eq_true rfl) s_M0 rfl ⟨by decide, by decide⟩ ⟨Nat.le_refl 0, Nat.le_refl 0⟩ (Nat.le_of_ble_eq_true rfl) ?_
            obtain ⟨rfl, rfl⟩ := jx_out hF
            exact jx_iret E dX5_sheet_60 rfl
        · rw [if_neg hc14] at hF
          refine jx_aload_n E dX5_sheet_40 0 rfl ?_
          refine jx_ldcw (x := -1000007) E dX5_sheet_41 (List.mem_cons_of_mem _ tw_585) ?_
          obtain ⟨⟨r21, v21⟩, hc21, hF⟩ := jx_bind hF
          try dsimp only at hF
          refine jx_callVi (As := [.int (-1000007)]) (st := []) (h := 0) E dX5_sheet_44 1 rfl (k_X5_finds hI (-1000007) v1 r21 v21 hc21) (gb_V (List.mem_cons_of_mem _ tw_344) (List.mem_cons_of_mem _ tw_345) (List.mem_cons_of_mem _ tw_346) (List.mem_cons_of_mem _ tw_325) tw_343) rfl rfl rfl dd_X5_finds rfl (Nat.le_of_ble_eq_true rfl) s_M0 rfl ⟨by decide, by decide⟩ ⟨Nat.le_refl 0, Nat.le_refl 0⟩ (Nat.le_of_ble_eq_true rfl) ?_
          obtain ⟨rfl, rfl⟩ := jx_out hF
          exact jx_iret E dX5_sheet_47 rfl
      · rw [if_neg hc13] at hF
        refine jx_iload_n E dX5_sheet_17 2 rfl ?_
        refine jx_bipush (x := 16) E dX5_sheet_18 (by decide) ?_
        refine jx_icmp_eq (tgt := 36) E dX5_sheet_20 (by decide) (fun hc22 => ?_) (fun hc22 => ?_)
        · rw [if_pos hc22] at hF
          refine jx_iload_n E dX5_sheet_36 3 rfl ?_
          refine jx_if_ge (tgt := 48) E dX5_sheet_37 (by decide) (fun hc23 => ?_) (fun hc23 => ?_)
          · rw [if_pos hc23] at hF
            refine jx_iload_n E dX5_sheet_48 3 rfl ?_
            refine jx_bipush (x := 40) E dX5_sheet_49 (by decide) ?_
            refine jx_icmp_le (tgt := 61) E dX5_sheet_51 (by decide) (fun hc24 => ?_) (fun hc24 => ?_)
            · rw [if_pos hc24] at hF
              refine jx_aload_n E dX5_sheet_61 0 rfl ?_
              refine jx_getr (C := RX5) (T := TX5) (M := 21) (k := 17) E dX5_sheet_62 (Nat.le_of_ble_eq_true rfl) s_M0 rfl iX5 (by decide) rfl (List.mem_cons_of_mem _ tw_583) rfl ?_
              refine jx_iload_n E dX5_sheet_65 1 rfl ?_
              refine jx_iload_n E dX5_sheet_66 2 rfl ?_
              obtain ⟨hg25, hF⟩ := jx_guard hF
              refine jx_iast (h := 9) (j := (Int32.toNatClampNeg x1)) E dX5_sheet_67 (Nat.le_of_ble_eq_true rfl) s_M9 hg25 rfl ?_
              refine jx_aload_n E dX5_sheet_68 0 rfl ?_
              refine jx_getr (C := RX5) (T := TX5) (M := 21) (k := 18) E dX5_sheet_69 (Nat.le_of_ble_eq_true rfl) s_M0 rfl iX5 (by decide) rfl (List.mem_cons_of_mem _ tw_584) rfl ?_
              refine jx_iload_n E dX5_sheet_72 1 rfl ?_
              refine jx_iload_n E dX5_sheet_73 2 rfl ?_
              refine jx_if_ne (tgt := 81) E dX5_sheet_74 (by decide) (fun hc26 => ?_) (fun hc26 => ?_)
              · rw [if_neg hc26] at hF
                refine jx_iload_n E dX5_sheet_81 3 rfl ?_
                obtain ⟨hg27, hF⟩ := jx_guard hF
                refine jx_iast (h := 10) (j := (Int32.toNatClampNeg x1)) E dX5_sheet_82 (Nat.le_of_ble_eq_true rfl) s_M10 hg27 rfl ?_
                refine jx_iconst (x := 0) E dX5_sheet_83 (by decide) ?_
                refine jx_istore (lv' := [(4, .int 0), (0, .ref (ad 0)), (1, .int x1), (2, .int x2), (3, .int x3)]) E dX5_sheet_84 (by decide) rfl ?_
                refine jx_sub [1, 2, 3, 4, 0] rfl ?_
                exact (key 100000) x1 x2 x3 0 (jx_up (jx_up v1 9 (Int32.toNatClampNeg x1) x2) 10 (Int32.toNatClampNeg x1) x3) hF
              · rw [if_pos hc26] at hF
                refine jx_iconst (x := 0) E dX5_sheet_77 (by decide) ?_
                refine jx_goto (tgt := 82) E dX5_sheet_78 (by decide) ?_
                obtain ⟨hg28, hF⟩ := jx_guard hF
                refine jx_iast (h := 10) (j := (Int32.toNatClampNeg x1)) E dX5_sheet_82 (Nat.le_of_ble_eq_true rfl) s_M10 hg28 rfl ?_
                refine jx_iconst (x := 0) E dX5_sheet_83 (by decide) ?_
                refine jx_istore (lv' := [(4, .int 0), (0, .ref (ad 0)), (1, .int x1), (2, .int x2), (3, .int x3)]) E dX5_sheet_84 (by decide) rfl ?_
                refine jx_sub [1, 2, 3, 4, 0] rfl ?_
                exact (key 100000) x1 x2 x3 0 (jx_up (jx_up v1 9 (Int32.toNatClampNeg x1) x2) 10 (Int32.toNatClampNeg x1) 0) hF
            · rw [if_neg hc24] at hF
              refine jx_aload_n E dX5_sheet_54 0 rfl ?_
              refine jx_ldc (x := -1000001) E dX5_sheet_55 (List.mem_cons_of_mem _ tw_320) ?_
              obtain ⟨⟨r29, v29⟩, hc29, hF⟩ := jx_bind hF
              try dsimp only at hF
              refine jx_callVi (As := [.int (-1000001)]) (st := []) (h := 0) E dX5_sheet_57 1 rfl (k_X5_finds hI (-1000001) v1 r29 v29 hc29) (gb_V (List.mem_cons_of_mem _ tw_344) (List.mem_cons_of_mem _ tw_345) (List.mem_cons_of_mem _ tw_346) (List.mem_cons_of_mem _ tw_325) tw_343) rfl rfl rfl dd_X5_finds rfl (Nat.le_of_ble_eq_true rfl) s_M0 rfl ⟨by decide, by decide⟩ ⟨Nat.le_refl 0, Nat.le_refl 0⟩ (Nat.le_of_ble_eq_true rfl) ?_
              obtain ⟨rfl, rfl⟩ := jx_out hF
              exact jx_iret E dX5_sheet_60 rfl
          · rw [if_neg hc23] at hF
            refine jx_aload_n E dX5_sheet_40 0 rfl ?_
            refine jx_ldcw (x := -1000007) E dX5_sheet_41 (List.mem_cons_of_mem _ tw_585) ?_
            obtain ⟨⟨r30, v30⟩, hc30, hF⟩ := jx_bind hF
            try dsimp only at hF
            refine jx_callVi (As := [.int (-1000007)]) (st := []) (h := 0) E dX5_sheet_44 1 rfl (k_X5_finds hI (-1000007) v1 r30 v30 hc30) (gb_V (List.mem_cons_of_mem _ tw_344) (List.mem_cons_of_mem _ tw_345) (List.mem_cons_of_mem _ tw_346) (List.mem_cons_of_mem _ tw_325) tw_343) rfl rfl rfl dd_X5_finds rfl (Nat.le_of_ble_eq_true rfl) s_M0 rfl ⟨by decide, by decide⟩ ⟨Nat.le_refl 0, Nat.le_refl 0⟩ (Nat.le_of_ble_eq_true rfl) ?_
            obtain ⟨rfl, rfl⟩ := jx_out hF
            exact jx_iret E dX5_sheet_47 rfl
        · rw [if_neg hc22] at hF
          refine jx_iload_n E dX5_sheet_23 2 rfl ?_
          refine jx_bipush (x := 32) E dX5_sheet_24 (by decide) ?_
          refine jx_icmp_eq (tgt := 36) E dX5_sheet_26 (by decide) (fun hc31 => ?_) (fun hc31 => ?_)
          · rw [if_pos hc31] at hF
            refine jx_iload_n E dX5_sheet_36 3 rfl ?_
            refine jx_if_ge (tgt := 48) E dX5_sheet_37 (by decide) (fun hc32 => ?_) (fun hc32 => ?_)
            · rw [if_pos hc32] at hF
              refine jx_iload_n E dX5_sheet_48 3 rfl ?_
              refine jx_bipush (x := 40) E dX5_sheet_49 (by decide) ?_
              refine jx_icmp_le (tgt := 61) E dX5_sheet_51 (by decide) (fun hc33 => ?_) (fun hc33 => ?_)
              · rw [if_pos hc33] at hF
                refine jx_aload_n E dX5_sheet_61 0 rfl ?_
                refine jx_getr (C := RX5) (T := TX5) (M := 21) (k := 17) E dX5_sheet_62 (Nat.le_of_ble_eq_true rfl) s_M0 rfl iX5 (by decide) rfl (List.mem_cons_of_mem _ tw_583) rfl ?_
                refine jx_iload_n E dX5_sheet_65 1 rfl ?_
                refine jx_iload_n E dX5_sheet_66 2 rfl ?_
                obtain ⟨hg34, hF⟩ := jx_guard hF
                refine jx_iast (h := 9) (j := (Int32.toNatClampNeg x1)) E dX5_sheet_67 (Nat.le_of_ble_eq_true rfl) s_M9 hg34 rfl ?_
                refine jx_aload_n E dX5_sheet_68 0 rfl ?_
                refine jx_getr (C := RX5) (T := TX5) (M := 21) (k := 18) E dX5_sheet_69 (Nat.le_of_ble_eq_true rfl) s_M0 rfl iX5 (by decide) rfl (List.mem_cons_of_mem _ tw_584) rfl ?_
                refine jx_iload_n E dX5_sheet_72 1 rfl ?_
                refine jx_iload_n E dX5_sheet_73 2 rfl ?_
                refine jx_if_ne (tgt := 81) E dX5_sheet_74 (by decide) (fun hc35 => ?_) (fun hc35 => ?_)
                · rw [if_neg hc35] at hF
                  refine jx_iload_n E dX5_sheet_81 3 rfl ?_
                  obtain ⟨hg36, hF⟩ := jx_guard hF
                  refine jx_iast (h := 10) (j := (Int32.toNatClampNeg x1)) E dX5_sheet_82 (Nat.le_of_ble_eq_true rfl) s_M10 hg36 rfl ?_
                  refine jx_iconst (x := 0) E dX5_sheet_83 (by decide) ?_
                  refine jx_istore (lv' := [(4, .int 0), (0, .ref (ad 0)), (1, .int x1), (2, .int x2), (3, .int x3)]) E dX5_sheet_84 (by decide) rfl ?_
                  refine jx_sub [1, 2, 3, 4, 0] rfl ?_
                  exact (key 100000) x1 x2 x3 0 (jx_up (jx_up v1 9 (Int32.toNatClampNeg x1) x2) 10 (Int32.toNatClampNeg x1) x3) hF
                · rw [if_pos hc35] at hF
                  refine jx_iconst (x := 0) E dX5_sheet_77 (by decide) ?_
                  refine jx_goto (tgt := 82) E dX5_sheet_78 (by decide) ?_
                  obtain ⟨hg37, hF⟩ := jx_guard hF
                  refine jx_iast (h := 10) (j := (Int32.toNatClampNeg x1)) E dX5_sheet_82 (Nat.le_of_ble_eq_true rfl) s_M10 hg37 rfl ?_
                  refine jx_iconst (x := 0) E dX5_sheet_83 (by decide) ?_
                  refine jx_istore (lv' := [(4, .int 0), (0, .ref (ad 0)), (1, .int x1), (2, .int x2), (3, .int x3)]) E dX5_sheet_84 (by decide) rfl ?_
                  refine jx_sub [1, 2, 3, 4, 0] rfl ?_
                  exact (key 100000) x1 x2 x3 0 (jx_up (jx_up v1 9 (Int32.toNatClampNeg x1) x2) 10 (Int32.toNatClampNeg x1) 0) hF
              · rw [if_neg hc33] at hF
                refine jx_aload_n E dX5_sheet_54 0 rfl ?_
                refine jx_ldc (x := -1000001) E dX5_sheet_55 (List.mem_cons_of_mem _ tw_320) ?_
                obtain ⟨⟨r38, v38⟩, hc38, hF⟩ := jx_bind hF
                try dsimp only at hF
                refine jx_callVi (As := [.int (-1000001)]) (st := []) (h := 0) E dX5_sheet_57 1 rfl (k_X5_finds hI (-1000001) v1 r38 v38 hc38) (gb_V (List.mem_cons_of_mem _ tw_344) (List.mem_cons_of_mem _ tw_345) (List.mem_cons_of_mem _ tw_346) (List.mem_cons_of_mem _ tw_325) tw_343) rfl rfl rfl dd_X5_finds rfl (Nat.le_of_ble_eq_true rfl) s_M0 rfl ⟨by decide, by decide⟩ ⟨Nat.le_refl 0, Nat.le_refl 0⟩ (Nat.le_of_ble_eq_true rfl) ?_
                obtain ⟨rfl, rfl⟩ := jx_out hF
                exact jx_iret E dX5_sheet_60 rfl
            · rw [if_neg hc32] at hF
              refine jx_aload_n E dX5_sheet_40 0 rfl ?_
              refine jx_ldcw (x := -1000007) E dX5_sheet_41 (List.mem_cons_of_mem _ tw_585) ?_
              obtain ⟨⟨r39, v39⟩, hc39, hF⟩ := jx_bind hF
              try dsimp only at hF
              refine jx_callVi (As := [.int (-1000007)]) (st := []) (h := 0) E dX5_sheet_44 1 rfl (k_X5_finds hI (-1000007) v1 r39 v39 hc39) (gb_V (List.mem_cons_of_mem _ tw_344) (List.mem_cons_of_mem _ tw_345) (List.mem_cons_of_mem _ tw_346) (List.mem_cons_of_mem _ tw_325) tw_343) rfl rfl rfl dd_X5_finds rfl (Nat.le_of_ble_eq_true rfl) s_M0 rfl ⟨by decide, by decide⟩ ⟨Nat.le_refl 0, Nat.le_refl 0⟩ (Nat.le_of_ble_eq_true rfl) ?_
              obtain ⟨rfl, rfl⟩ := jx_out hF
              exact jx_iret E dX5_sheet_47 rfl
          · rw [if_neg hc31] at hF
            refine jx_aload_n E dX5_sheet_29 0 rfl ?_
            refine jx_ldc (x := -1000001) E dX5_sheet_30 (List.mem_cons_of_mem _ tw_320) ?_
            obtain ⟨⟨r40, v40⟩, hc40, hF⟩ := jx_bind hF
            try dsimp only at hF
            refine jx_callVi (As := [.int (-1000001)]) (st := []) (h := 0) E dX5_sheet_32 1 rfl (k_X5_finds hI (-1000001) v1 r40 v40 hc40) (gb_V (List.mem_cons_of_mem _ tw_344) (List.mem_cons_of_mem _ tw_345) (List.mem_cons_of_mem _ tw_346) (List.mem_cons_of_mem _ tw_325) tw_343) rfl rfl rfl dd_X5_finds rfl (Nat.le_of_ble_eq_true rfl) s_M0 rfl ⟨by decide, by decide⟩ ⟨Nat.le_refl 0, Nat.le_refl 0⟩ (Nat.le_of_ble_eq_true rfl) ?_
            obtain ⟨rfl, rfl⟩ := jx_out hF
            exact jx_iret E dX5_sheet_35 rfl
def f_X5_narrowed (x0 : Int32) (x1 : Int32) (v : jx_V) : Option (Int32 × jx_V) := (if x0 = 8 then (some ((Int32.toInt8 x1).toInt32, v)) else (if x0 = 16 then (some ((Int32.toInt16 x1).toInt32, v)) else (some (x1, v))))
def rm_X5_narrowed : Room := { frames := 0, cells := 0, slots := 0, locals := 0 }
set_option maxHeartbeats 4000000 in
set_option maxRecDepth 100000 in
theorem k_X5_narrowed {l : Launch} {D : va_G} {cI cJ : ClassId} {ad : Nat → Nat} {A : Nat → Prop} (hI : jx_inj 13 ad A) (x0 : Int32) (x1 : Int32) (v : jx_V) (r : Int32) (v' : jx_V) (hF : f_X5_narrowed x0 x1 v = some (r, v')) : jx_Ci l D vwCl 13 cI cJ ad shM A ex_M yX5_narrowed (Cond.code yX5_narrowed cX5_narrowed 2 (some .int) :: bigT) rm_X5_narrowed [.int x0, .int x1] v r v' := by
  unfold f_X5_narrowed at hF
  refine jx_enteri bigT RX5 cX5_narrowed 2 (some .int) [(0, .int x0), (1, .int x1)] hI (ex_M_ok A) (by decide +kernel) rfl (Nat.le_of_ble_eq_true rfl) rfl rfl ?_
  intro p e s m args below meth c E
  refine jx_iload_n E dX5_narrowed_0 0 rfl ?_
  refine jx_bipush (x := 8) E dX5_narrowed_1 (by decide) ?_
  refine jx_icmp_ne (tgt := 11) E dX5_narrowed_3 (by decide) (fun hc1 => ?_) (fun hc1 => ?_)
  · rw [if_neg hc1] at hF
    refine jx_iload_n E dX5_narrowed_11 0 rfl ?_
    refine jx_bipush (x := 16) E dX5_narrowed_12 (by decide) ?_
    refine jx_icmp_ne (tgt := 22) E dX5_narrowed_14 (by decide) (fun hc2 => ?_) (fun hc2 => ?_)
    · rw [if_neg hc2] at hF
      refine jx_iload_n E dX5_narrowed_22 1 rfl ?_
      obtain ⟨rfl, rfl⟩ := jx_out hF
      exact jx_iret E dX5_narrowed_23 rfl
    · rw [if_pos hc2] at hF
      refine jx_iload_n E dX5_narrowed_17 1 rfl ?_
      refine jx_i2s E dX5_narrowed_18 ?_
      refine jx_goto (tgt := 23) E dX5_narrowed_19 (by decide) ?_
      obtain ⟨rfl, rfl⟩ := jx_out hF
      exact jx_iret E dX5_narrowed_23 rfl
  · rw [if_pos hc1] at hF
    refine jx_iload_n E dX5_narrowed_6 1 rfl ?_
    refine jx_i2b E dX5_narrowed_7 ?_
    refine jx_goto (tgt := 23) E dX5_narrowed_8 (by decide) ?_
    obtain ⟨rfl, rfl⟩ := jx_out hF
    exact jx_iret E dX5_narrowed_23 rfl
def f_X5_wrong (x1 : Int32) (v : jx_V) : Option (Int32 × jx_V) := ((f_X5_isOne x1 v).bind (fun (r1, v1) => (if r1 = 0 then (some ((-1000001), v1)) else (if (x1 < 0 ∨ 4 ≤ Int32.toNatClampNeg x1) then none else (if (v1 9 (Int32.toNatClampNeg x1)) = 0 then (some ((-1000006), v1)) else (some (0, v1)))))))
def rm_X5_wrong : Room := { frames := 2, cells := 0, slots := 0, locals := 45 }
set_option maxHeartbeats 4000000 in
set_option maxRecDepth 100000 in
theorem k_X5_wrong {l : Launch} {D : va_G} {cI cJ : ClassId} {ad : Nat → Nat} {A : Nat → Prop} (hI : jx_inj 13 ad A) (x1 : Int32) (v : jx_V) (r : Int32) (v' : jx_V) (hF : f_X5_wrong x1 v = some (r, v')) : jx_Ci l D vwCl 13 cI cJ ad shM A ex_M yX5_wrong (Cond.code yX5_wrong cX5_wrong 2 (some .int) :: bigT) rm_X5_wrong [.ref (ad 0), .int x1] v r v' := by
  unfold f_X5_wrong at hF
  refine jx_enteri bigT RX5 cX5_wrong 2 (some .int) [(0, .ref (ad 0)), (1, .int x1)] hI (ex_M_ok A) (by decide +kernel) rfl (Nat.le_of_ble_eq_true rfl) rfl rfl ?_
  intro p e s m args below meth c E
  have iX5 : ∀ w ∈ u_ws RX5 TX5 21, w ∈ (Cond.code yX5_wrong cX5_wrong 2 (some .int) :: bigT) := fun w h => List.mem_cons_of_mem _ (uw_X5 w h)
  refine jx_iload_n E dX5_wrong_0 1 rfl ?_
  obtain ⟨⟨r1, v1⟩, hc1, hF⟩ := jx_bind hF
  try dsimp only at hF
  refine jx_callSi (As := [.int x1]) (st := []) E dX5_wrong_1 1 rfl (k_X5_isOne hI x1 v r1 v1 hc1) (gb_S (List.mem_cons_of_mem _ tw_581) (List.mem_cons_of_mem _ tw_582) (List.mem_cons_of_mem _ tw_325) tw_580) rfl rfl rfl dd_X5_isOne rfl ⟨by decide, by decide⟩ ⟨Nat.le_refl 0, Nat.le_refl 0⟩ (Nat.le_of_ble_eq_true rfl) ?_
  refine jx_if_ne (tgt := 12) E dX5_wrong_4 (by decide) (fun hc2 => ?_) (fun hc2 => ?_)
  · rw [if_neg hc2] at hF
    refine jx_aload_n E dX5_wrong_12 0 rfl ?_
    refine jx_getr (C := RX5) (T := TX5) (M := 21) (k := 17) E dX5_wrong_13 (Nat.le_of_ble_eq_true rfl) s_M0 rfl iX5 (by decide) rfl (List.mem_cons_of_mem _ tw_583) rfl ?_
    refine jx_iload_n E dX5_wrong_16 1 rfl ?_
    obtain ⟨hg3, hF⟩ := jx_guard hF
    refine jx_iald (h := 9) (j := (Int32.toNatClampNeg x1)) E dX5_wrong_17 (Nat.le_of_ble_eq_true rfl) s_M9 hg3 rfl ?_
    refine jx_if_ne (tgt := 27) E dX5_wrong_18 (by decide) (fun hc4 => ?_) (fun hc4 => ?_)
    · rw [if_neg hc4] at hF
      refine jx_iconst (x := 0) E dX5_wrong_27 (by decide) ?_
      obtain ⟨rfl, rfl⟩ := jx_out hF
      exact jx_iret E dX5_wrong_28 rfl
    · rw [if_pos hc4] at hF
      refine jx_ldcw (x := -1000006) E dX5_wrong_21 (List.mem_cons_of_mem _ tw_578) ?_
      refine jx_goto (tgt := 28) E dX5_wrong_24 (by decide) ?_
      obtain ⟨rfl, rfl⟩ := jx_out hF
      exact jx_iret E dX5_wrong_28 rfl
  · rw [if_pos hc2] at hF
    refine jx_ldc (x := -1000001) E dX5_wrong_7 (List.mem_cons_of_mem _ tw_320) ?_
    refine jx_goto (tgt := 28) E dX5_wrong_9 (by decide) ?_
    obtain ⟨rfl, rfl⟩ := jx_out hF
    exact jx_iret E dX5_wrong_28 rfl
def f_X5_write (x1 : Int32) (x2 : Int32) (x3 : Int32) (v : jx_V) : Option (Int32 × jx_V) := ((f_X5_wrong x1 v).bind (fun (r1, v1) => (if r1 = 0 then (if (x1 < 0 ∨ 4 ≤ Int32.toNatClampNeg x1) then none else ((f_X5_in (Int32.toInt64 x2) 0 (Int32.toInt64 ((v1 10 (Int32.toNatClampNeg x1)) - 1)) v1).bind (fun (r4, v4) => (if r4 = 0 then ((f_X5_finds (-1000001) v4).bind (fun (r9, v9) => (some (r9, v9)))) else (if (x1 < 0 ∨ 4 ≤ Int32.toNatClampNeg x1) then none else ((f_X5_narrowed (v4 9 (Int32.toNatClampNeg x1)) x3 v4).bind (fun (r7, v7) => (if (((40 * x1) + x2) < 0 ∨ 160 ≤ Int32.toNatClampNeg ((40 * x1) + x2)) then none else (some (1, (jx_up v7 11 (Int32.toNatClampNeg ((40 * x1) + x2)) r7))))))))))) else ((f_X5_finds r1 v1).bind (fun (r10, v10) => (some (r10, v10)))))))
def rm_X5_write : Room := { frames := 3, cells := 0, slots := 0, locals := 66 }
set_option maxHeartbeats 4000000 in
set_option maxRecDepth 100000 in
theorem k_X5_write {l : Launch} {D : va_G} {cI cJ : ClassId} {ad : Nat → Nat} {A : Nat → Prop} (hI : jx_inj 13 ad A) (x1 : Int32) (x2 : Int32) (x3 : Int32) (v : jx_V) (r : Int32) (v' : jx_V) (hF : f_X5_write x1 x2 x3 v = some (r, v')) : jx_Ci l D vwCl 13 cI cJ ad shM A ex_M yX5_write (Cond.code yX5_write cX5_write 5 (some .int) :: bigT) rm_X5_write [.ref (ad 0), .int x1, .int x2, .int x3] v r v' := by
  unfold f_X5_write at hF
  refine jx_enteri bigT RX5 cX5_write 5 (some .int) [(0, .ref (ad 0)), (1, .int x1), (2, .int x2), (3, .int x3)] hI (ex_M_ok A) (by decide +kernel) rfl (Nat.le_of_ble_eq_true rfl) rfl rfl ?_
  intro p e s m args below meth c E
  have iX5 : ∀ w ∈ u_ws RX5 TX5 21, w ∈ (Cond.code yX5_write cX5_write 5 (some .int) :: bigT) := fun w h => List.mem_cons_of_mem _ (uw_X5 w h)
  refine jx_aload_n E dX5_write_0 0 rfl ?_
  refine jx_iload_n E dX5_write_1 1 rfl ?_
  obtain ⟨⟨r1, v1⟩, hc1, hF⟩ := jx_bind hF
  try dsimp only at hF
  refine jx_callVi (As := [.int x1]) (st := []) (h := 0) E dX5_write_2 1 rfl (k_X5_wrong hI x1 v r1 v1 hc1) (gb_V (List.mem_cons_of_mem _ tw_588) (List.mem_cons_of_mem _ tw_589) (List.mem_cons_of_mem _ tw_590) (List.mem_cons_of_mem _ tw_325) tw_587) rfl rfl rfl dd_X5_wrong rfl (Nat.le_of_ble_eq_true rfl) s_M0 rfl ⟨by decide, by decide⟩ ⟨Nat.le_refl 0, Nat.le_refl 0⟩ (Nat.le_of_ble_eq_true rfl) ?_
  refine jx_istore (lv' := [(4, .int r1), (0, .ref (ad 0)), (1, .int x1), (2, .int x2), (3, .int x3)]) E dX5_write_5 (by decide) rfl ?_
  refine jx_iload E dX5_write_7 0 rfl ?_
  refine jx_if_eq (tgt := 19) E dX5_write_9 (by decide) (fun hc2 => ?_) (fun hc2 => ?_)
  · rw [if_pos hc2] at hF
    refine jx_iload_n E dX5_write_19 3 rfl ?_
    refine jx_i2l E dX5_write_20 ?_
    refine jx_lconst (x := 0) E dX5_write_21 (by decide) ?_
    refine jx_aload_n E dX5_write_22 1 rfl ?_
    refine jx_getr (C := RX5) (T := TX5) (M := 21) (k := 18) E dX5_write_23 (Nat.le_of_ble_eq_true rfl) s_M0 rfl iX5 (by decide) rfl (List.mem_cons_of_mem _ tw_584) rfl ?_
    refine jx_iload_n E dX5_write_26 2 rfl ?_
    obtain ⟨hg3, hF⟩ := jx_guard hF
    refine jx_iald (h := 10) (j := (Int32.toNatClampNeg x1)) E dX5_write_27 (Nat.le_of_ble_eq_true rfl) s_M10 hg3 rfl ?_
    refine jx_iconst (x := 1) E dX5_write_28 (by decide) ?_
    refine jx_isub E dX5_write_29 ?_
    refine jx_i2l E dX5_write_30 ?_
    obtain ⟨⟨r4, v4⟩, hc4, hF⟩ := jx_bind hF
    try dsimp only at hF
    refine jx_callSi (As := [.long (Int32.toInt64 x2), .long 0, .long (Int32.toInt64 ((v1 10 (Int32.toNatClampNeg x1)) - 1))]) (st := []) E dX5_write_31 3 rfl (k_X5_in hI (Int32.toInt64 x2) 0 (Int32.toInt64 ((v1 10 (Int32.toNatClampNeg x1)) - 1)) v1 r4 v4 hc4) (gb_S (List.mem_cons_of_mem _ tw_323) (List.mem_cons_of_mem _ tw_324) (List.mem_cons_of_mem _ tw_325) tw_322) rfl rfl rfl dd_X5_in rfl ⟨by decide, by decide⟩ ⟨Nat.le_refl 0, Nat.le_refl 0⟩ (Nat.le_of_ble_eq_true rfl) ?_
    refine jx_if_ne (tgt := 44) E dX5_write_34 (by decide) (fun hc5 => ?_) (fun hc5 => ?_)
    · rw [if_neg hc5] at hF
      refine jx_aload_n E dX5_write_44 1 rfl ?_
      refine jx_getr (C := RX5) (T := TX5) (M := 21) (k := 19) E dX5_write_45 (Nat.le_of_ble_eq_true rfl) s_M0 rfl iX5 (by decide) rfl (List.mem_cons_of_mem _ tw_586) rfl ?_
      refine jx_bipush (x := 40) E dX5_write_48 (by decide) ?_
      refine jx_iload_n E dX5_write_50 2 rfl ?_
      refine jx_imul E dX5_write_51 ?_
      refine jx_iload_n E dX5_write_52 3 rfl ?_
      refine jx_iadd E dX5_write_53 ?_
      refine jx_aload_n E dX5_write_54 1 rfl ?_
      refine jx_getr (C := RX5) (T := TX5) (M := 21) (k := 17) E dX5_write_55 (Nat.le_of_ble_eq_true rfl) s_M0 rfl iX5 (by decide) rfl (List.mem_cons_of_mem _ tw_583) rfl ?_
      refine jx_iload_n E dX5_write_58 2 rfl ?_
      obtain ⟨hg6, hF⟩ := jx_guard hF
      refine jx_iald (h := 9) (j := (Int32.toNatClampNeg x1)) E dX5_write_59 (Nat.le_of_ble_eq_true rfl) s_M9 hg6 rfl ?_
      refine jx_iload_n E dX5_write_60 4 rfl ?_
      obtain ⟨⟨r7, v7⟩, hc7, hF⟩ := jx_bind hF
      try dsimp only at hF
      refine jx_callSi (As := [.int (v4 9 (Int32.toNatClampNeg x1)), .int x3]) (st := [.int ((40 * x1) + x2), .ref (ad 11)]) E dX5_write_61 2 rfl (k_X5_narrowed hI (v4 9 (Int32.toNatClampNeg x1)) x3 v4 r7 v7 hc7) (gb_S (List.mem_cons_of_mem _ tw_592) (List.mem_cons_of_mem _ tw_593) (List.mem_cons_of_mem _ tw_325) tw_591) rfl rfl rfl dd_X5_narrowed rfl ⟨by decide, by decide⟩ ⟨Nat.le_refl 0, Nat.le_refl 0⟩ (Nat.le_of_ble_eq_true rfl) ?_
      obtain ⟨hg8, hF⟩ := jx_guard hF
      refine jx_iast (h := 11) (j := (Int32.toNatClampNeg ((40 * x1) + x2))) E dX5_write_64 (Nat.le_of_ble_eq_true rfl) s_M11 hg8 rfl ?_
      refine jx_iconst (x := 1) E dX5_write_65 (by decide) ?_
      obtain ⟨rfl, rfl⟩ := jx_out hF
      exact jx_iret E dX5_write_66 rfl
    · rw [if_pos hc5] at hF
      refine jx_aload_n E dX5_write_37 1 rfl ?_
      refine jx_ldc (x := -1000001) E dX5_write_38 (List.mem_cons_of_mem _ tw_320) ?_
      obtain ⟨⟨r9, v9⟩, hc9, hF⟩ := jx_bind hF
      try dsimp only at hF
      refine jx_callVi (As := [.int (-1000001)]) (st := []) (h := 0) E dX5_write_40 1 rfl (k_X5_finds hI (-1000001) v4 r9 v9 hc9) (gb_V (List.mem_cons_of_mem _ tw_344) (List.mem_cons_of_mem _ tw_345) (List.mem_cons_of_mem _ tw_346) (List.mem_cons_of_mem _ tw_325) tw_343) rfl rfl rfl dd_X5_finds rfl (Nat.le_of_ble_eq_true rfl) s_M0 rfl ⟨by decide, by decide⟩ ⟨Nat.le_refl 0, Nat.le_refl 0⟩ (Nat.le_of_ble_eq_true rfl) ?_
      obtain ⟨rfl, rfl⟩ := jx_out hF
      exact jx_iret E dX5_write_43 rfl
  · rw [if_neg hc2] at hF
    refine jx_aload_n E dX5_write_12 1 rfl ?_
    refine jx_iload E dX5_write_13 0 rfl ?_
    obtain ⟨⟨r10, v10⟩, hc10, hF⟩ := jx_bind hF
    try dsimp only at hF
    refine jx_callVi (As := [.int r1]) (st := []) (h := 0) E dX5_write_15 1 rfl (k_X5_finds hI r1 v1 r10 v10 hc10) (gb_V (List.mem_cons_of_mem _ tw_344) (List.mem_cons_of_mem _ tw_345) (List.mem_cons_of_mem _ tw_346) (List.mem_cons_of_mem _ tw_325) tw_343) rfl rfl rfl dd_X5_finds rfl (Nat.le_of_ble_eq_true rfl) s_M0 rfl ⟨by decide, by decide⟩ ⟨Nat.le_refl 0, Nat.le_refl 0⟩ (Nat.le_of_ble_eq_true rfl) ?_
    obtain ⟨rfl, rfl⟩ := jx_out hF
    exact jx_iret E dX5_write_18 rfl
def f_X5_copy_L  : Nat → Nat → Int32 → Int32 → Int32 → Int32 → Int32 → Int32 → jx_V → Option (Int32 × jx_V)
  | 0, _, _, _, _, _, _, _, _ => none
  | n + 1, tag, x1, x2, x3, x4, x5, x6, v => (if tag = 0 then (if x5 ≤ x6 then (f_X5_copy_L n 1 x1 x2 x3 x4 x5 0 v) else (if ((((40 * x1) + x2) + x6) < 0 ∨ 160 ≤ Int32.toNatClampNeg (((40 * x1) + x2) + x6)) then none else (if (x6 < 0 ∨ 40 ≤ Int32.toNatClampNeg x6) then none else (f_X5_copy_L n 0 x1 x2 x3 x4 x5 (x6 + 1) (jx_up v 12 (Int32.toNatClampNeg x6) (v 11 (Int32.toNatClampNeg (((40 * x1) + x2) + x6)))))))) else (if tag = 1 then (if x5 ≤ x6 then (some (x5, v)) else (if (x6 < 0 ∨ 40 ≤ Int32.toNatClampNeg x6) then none else (if ((((40 * x3) + x4) + x6) < 0 ∨ 160 ≤ Int32.toNatClampNeg (((40 * x3) + x4) + x6)) then none else (f_X5_copy_L n 1 x1 x2 x3 x4 x5 (x6 + 1) (jx_up v 11 (Int32.toNatClampNeg (((40 * x3) + x4) + x6)) (v 12 (Int32.toNatClampNeg x6))))))) else none))
def f_X5_copy (x1 : Int32) (x2 : Int32) (x3 : Int32) (x4 : Int32) (x5 : Int32) (v : jx_V) : Option (Int32 × jx_V) := ((f_X5_isOne x1 v).bind (fun (r1, v1) => (if r1 = 0 then ((f_X5_finds (-1000001) v1).bind (fun (r3, v3) => (some (r3, v3)))) else ((f_X5_isOne x3 v1).bind (fun (r4, v4) => (if r4 = 0 then ((f_X5_finds (-1000001) v4).bind (fun (r28, v28) => (some (r28, v28)))) else (if (x1 < 0 ∨ 4 ≤ Int32.toNatClampNeg x1) then none else (if (v4 9 (Int32.toNatClampNeg x1)) = 0 then ((f_X5_finds (-1000006) v4).bind (fun (r8, v8) => (some (r8, v8)))) else (if (x3 < 0 ∨ 4 ≤ Int32.toNatClampNeg x3) then none else (if (v4 9 (Int32.toNatClampNeg x3)) = 0 then ((f_X5_finds (-1000006) v4).bind (fun (r27, v27) => (some (r27, v27)))) else (if (x1 < 0 ∨ 4 ≤ Int32.toNatClampNeg x1) then none else (if (x3 < 0 ∨ 4 ≤ Int32.toNatClampNeg x3) then none else (if (v4 9 (Int32.toNatClampNeg x1)) = (v4 9 (Int32.toNatClampNeg x3)) then (if x2 < 0 then ((f_X5_finds (-1000001) v4).bind (fun (r15, v15) => (some (r15, v15)))) else (if x4 < 0 then ((f_X5_finds (-1000001) v4).bind (fun (r17, v17) => (some (r17, v17)))) else (if x5 < 0 then ((f_X5_finds (-1000001) v4).bind (fun (r19, v19) => (some (r19, v19)))) else (if (x1 < 0 ∨ 4 ≤ Int32.toNatClampNeg x1) then none else (if ((v4 10 (Int32.toNatClampNeg x1)) - x2) < x5 then ((f_X5_finds (-1000001) v4).bind (fun (r22, v22) => (some (r22, v22)))) else (if (x3 < 0 ∨ 4 ≤ Int32.toNatClampNeg x3) then none else (if x5 ≤ ((v4 10 (Int32.toNatClampNeg x3)) - x4) then (f_X5_copy_L 100000 0 x1 x2 x3 x4 x5 0 v4) else ((f_X5_finds (-1000001) v4).bind (fun (r25, v25) => (some (r25, v25))))))))))) else ((f_X5_finds (-1000003) v4).bind (fun (r26, v26) => (some (r26, v26)))))))))))))))))
def rm_X5_copy : Room := { frames := 2, cells := 0, slots := 0, locals := 45 }
set_option maxHeartbeats 4000000 in
set_option maxRecDepth 100000 in
theorem k_X5_copy {l : Launch} {D : va_G} {cI cJ : ClassId} {ad : Nat → Nat} {A : Nat → Prop} (hI : jx_inj 13 ad A) (x1 : Int32) (x2 : Int32) (x3 : Int32) (x4 : Int32) (x5 : Int32) (v : jx_V) (r : Int32) (v' : jx_V) (hF : f_X5_copy x1 x2 x3 x4 x5 v = some (r, v')) : jx_Ci l D vwCl 13 cI cJ ad shM A ex_M yX5_copy (Cond.code yX5_copy cX5_copy 7 (some .int) :: bigT) rm_X5_copy [.ref (ad 0), .int x1, .int x2, .int x3, .int x4, .int x5] v r v' := by
  unfold f_X5_copy at hF
  refine jx_enteri bigT RX5 cX5_copy 7 (some .int) [(0, .ref (ad 0)), (1, .int x1), (2, .int x2), (3, .int x3), (4, .int x4), (5, .int x5)] hI (ex_M_ok A) (by decide +kernel) rfl (Nat.le_of_ble_eq_true rfl) rfl rfl ?_
  intro p e s m args below meth c E
  have iX5 : ∀ w ∈ u_ws RX5 TX5 21, w ∈ (Cond.code yX5_copy cX5_copy 7 (some .int) :: bigT) := fun w h => List.mem_cons_of_mem _ (uw_X5 w h)
  have key : ∀ n : Nat, (∀ (x1 : Int32) (x2 : Int32) (x3 : Int32) (x4 : Int32) (x5 : Int32) (x6 : Int32) (v : jx_V), f_X5_copy_L  n 0 x1 x2 x3 x4 x5 x6 v = some (r, v') → jx_J p l e rm_X5_copy s m args below meth c D vwCl 13 cI cJ ad shM A 0 0 7 (MQ below (va_Qi (fun (r1 : Int32) (_ : Unit) => r1 = r) (fun _ t => va_P D vwCl (jx_ws 13 cI cJ ad shM v') t.heap) A) args s 0 0 A) v 121 [(0, .ref (ad 0)), (1, .int x1), (2, .int x2), (3, .int x3), (4, .int x4), (5, .int x5), (6, .int x6)] []) ∧ (∀ (x1 : Int32) (x2 : Int32) (x3 : Int32) (x4 : Int32) (x5 : Int32) (x6 : Int32) (v : jx_V), f_X5_copy_L  n 1 x1 x2 x3 x4 x5 x6 v = some (r, v') → jx_J p l e rm_X5_copy s m args below meth c D vwCl 13 cI cJ ad shM A 0 0 7 (MQ below (va_Qi (fun (r1 : Int32) (_ : Unit) => r1 = r) (fun _ t => va_P D vwCl (jx_ws 13 cI cJ ad shM v') t.heap) A) args s 0 0 A) v 158 [(0, .ref (ad 0)), (1, .int x1), (2, .int x2), (3, .int x3), (4, .int x4), (5, .int x5), (6, .int x6)] []) := by
    intro n
    induction n with
    | zero =>
      exact ⟨(fun _ _ _ _ _ _ _ h => by cases h), (fun _ _ _ _ _ _ _ h => by cases h)⟩
    | succ n ih =>
      refine ⟨?_, ?_⟩
      · intro x1 x2 x3 x4 x5 x6 v hF
        rw [f_X5_copy_L] at hF
        rw [if_pos rfl] at hF
        refine jx_iload E dX5_copy_121 6 rfl ?_
        refine jx_iload E dX5_copy_123 5 rfl ?_
        refine jx_icmp_ge (tgt := 155) E dX5_copy_125 (by decide) (fun hc29 => ?_) (fun hc29 => ?_)
        · rw [if_pos hc29] at hF
          refine jx_iconst (x := 0) E dX5_copy_155 (by decide) ?_
          refine jx_istore (lv' := [(6, .int 0), (0, .ref (ad 0)), (1, .int x1), (2, .int x2), (3, .int x3), (4, .int x4), (5, .int x5)]) E dX5_copy_156 (by decide) rfl ?_
          refine jx_sub [1, 2, 3, 4, 5, 6, 0] rfl ?_
          exact ih.2 x1 x2 x3 x4 x5 0 v hF
        · rw [if_neg hc29] at hF
          refine jx_aload_n E dX5_copy_128 0 rfl ?_
          refine jx_getr (C := RX5) (T := TX5) (M := 21) (k := 20) E dX5_copy_129 (Nat.le_of_ble_eq_true rfl) s_M0 rfl iX5 (by decide) rfl (List.mem_cons_of_mem _ tw_594) rfl ?_
          refine jx_iload E dX5_copy_132 6 rfl ?_
          refine jx_aload_n E dX5_copy_134 0 rfl ?_
          refine jx_getr (C := RX5) (T := TX5) (M := 21) (k := 19) E dX5_copy_135 (Nat.le_of_ble_eq_true rfl) s_M0 rfl iX5 (by decide) rfl (List.mem_cons_of_mem _ tw_586) rfl ?_
          refine jx_bipush (x := 40) E dX5_copy_138 (by decide) ?_
          refine jx_iload_n E dX5_copy_140 1 rfl ?_
          refine jx_imul E dX5_copy_141 ?_
          refine jx_iload_n E dX5_copy_142 2 rfl ?_
          refine jx_iadd E dX5_copy_143 ?_
          refine jx_iload E dX5_copy_144 6 rfl ?_
          refine jx_iadd E dX5_copy_146 ?_
          obtain ⟨hg30, hF⟩ := jx_guard hF
          refine jx_iald (h := 11) (j := (Int32.toNatClampNeg (((40 * x1) + x2) + x6))) E dX5_copy_147 (Nat.le_of_ble_eq_true rfl) s_M11 hg30 rfl ?_
          obtain ⟨hg31, hF⟩ := jx_guard hF
          refine jx_iast (h := 12) (j := (Int32.toNatClampNeg x6)) E dX5_copy_148 (Nat.le_of_ble_eq_true rfl) s_M12 hg31 rfl ?_
          refine jx_iinc (y := (x6 + 1)) (lv' := [(6, .int (x6 + 1)), (0, .ref (ad 0)), (1, .int x1), (2, .int x2), (3, .int x3), (4, .int x4), (5, .int x5)]) E dX5_copy_149 6 rfl rfl (by decide) rfl ?_
          refine jx_goto (tgt := 121) E dX5_copy_152 (by decide) ?_
          refine jx_sub [1, 2, 3, 4, 5, 6, 0] rfl ?_
          exact ih.1 x1 x2 x3 x4 x5 (x6 + 1) (jx_up v 12 (Int32.toNatClampNeg x6) (v 11 (Int32.toNatClampNeg (((40 * x1) + x2) + x6)))) hF
      · intro x1 x2 x3 x4 x5 x6 v hF
        rw [f_X5_copy_L] at hF
        rw [if_neg (by decide), if_pos rfl] at hF
        refine jx_iload E dX5_copy_158 6 rfl ?_
        refine jx_iload E dX5_copy_160 5 rfl ?_
        refine jx_icmp_ge (tgt := 193) E dX5_copy_162 (by decide) (fun hc32 => ?_) (fun hc32 => ?_)
        · rw [if_pos hc32] at hF
          refine jx_iload E dX5_copy_193 5 rfl ?_
          obtain ⟨rfl, rfl⟩ := jx_out hF
          exact jx_iret E dX5_copy_195 rfl
        · rw [if_neg hc32] at hF
          refine jx_aload_n E dX5_copy_165 0 rfl ?_
          refine jx_getr (C := RX5) (T := TX5) (M := 21) (k := 19) E dX5_copy_166 (Nat.le_of_ble_eq_true rfl) s_M0 rfl iX5 (by decide) rfl (List.mem_cons_of_mem _ tw_586) rfl ?_
          refine jx_bipush (x := 40) E dX5_copy_169 (by decide) ?_
          refine jx_iload_n E dX5_copy_171 3 rfl ?_
          refine jx_imul E dX5_copy_172 ?_
          refine jx_iload E dX5_copy_173 4 rfl ?_
          refine jx_iadd E dX5_copy_175 ?_
          refine jx_iload E dX5_copy_176 6 rfl ?_
          refine jx_iadd E dX5_copy_178 ?_
          refine jx_aload_n E dX5_copy_179 0 rfl ?_
          refine jx_getr (C := RX5) (T := TX5) (M := 21) (k := 20) E dX5_copy_180 (Nat.le_of_ble_eq_true rfl) s_M0 rfl iX5 (by decide) rfl (List.mem_cons_of_mem _ tw_594) rfl ?_
          refine jx_iload E dX5_copy_183 6 rfl ?_
          obtain ⟨hg33, hF⟩ := jx_guard hF
          refine jx_iald (h := 12) (j := (Int32.toNatClampNeg x6)) E dX5_copy_185 (Nat.le_of_ble_eq_true rfl) s_M12 hg33 rfl ?_
          obtain ⟨hg34, hF⟩ := jx_guard hF
          refine jx_iast (h := 11) (j := (Int32.toNatClampNeg (((40 * x3) + x4) + x6))) E dX5_copy_186 (Nat.le_of_ble_eq_true rfl) s_M11 hg34 rfl ?_
          refine jx_iinc (y := (x6 + 1)) (lv' := [(6, .int (x6 + 1)), (0, .ref (ad 0)), (1, .int x1), (2, .int x2), (3, .int x3), (4, .int x4), (5, .int x5)]) E dX5_copy_187 6 rfl rfl (by decide) rfl ?_
          refine jx_goto (tgt := 158) E dX5_copy_190 (by decide) ?_
          refine jx_sub [1, 2, 3, 4, 5, 6, 0] rfl ?_
          exact ih.2 x1 x2 x3 x4 x5 (x6 + 1) (jx_up v 11 (Int32.toNatClampNeg (((40 * x3) + x4) + x6)) (v 12 (Int32.toNatClampNeg x6))) hF
  refine jx_iload_n E dX5_copy_0 1 rfl ?_
  obtain ⟨⟨r1, v1⟩, hc1, hF⟩ := jx_bind hF
  try dsimp only at hF
  refine jx_callSi (As := [.int x1]) (st := []) E dX5_copy_1 1 rfl (k_X5_isOne hI x1 v r1 v1 hc1) (gb_S (List.mem_cons_of_mem _ tw_581) (List.mem_cons_of_mem _ tw_582) (List.mem_cons_of_mem _ tw_325) tw_580) rfl rfl rfl dd_X5_isOne rfl ⟨by decide, by decide⟩ ⟨Nat.le_refl 0, Nat.le_refl 0⟩ (Nat.le_of_ble_eq_true rfl) ?_
  refine jx_if_eq (tgt := 14) E dX5_copy_4 (by decide) (fun hc2 => ?_) (fun hc2 => ?_)
  · rw [if_pos hc2] at hF
    refine jx_aload_n E dX5_copy_14 0 rfl ?_
    refine jx_ldc (x := -1000001) E dX5_copy_15 (List.mem_cons_of_mem _ tw_320) ?_
    obtain ⟨⟨r3, v3⟩, hc3, hF⟩ := jx_bind hF
    try dsimp only at hF
    refine jx_callVi (As := [.int (-1000001)]) (st := []) (h := 0) E dX5_copy_17 1 rfl (k_X5_finds hI (-1000001) v1 r3 v3 hc3) (gb_V (List.mem_cons_of_mem _ tw_344) (List.mem_cons_of_mem _ tw_345) (List.mem_cons_of_mem _ tw_346) (List.mem_cons_of_mem _ tw_325) tw_343) rfl rfl rfl dd_X5_finds rfl (Nat.le_of_ble_eq_true rfl) s_M0 rfl ⟨by decide, by decide⟩ ⟨Nat.le_refl 0, Nat.le_refl 0⟩ (Nat.le_of_ble_eq_true rfl) ?_
    obtain ⟨rfl, rfl⟩ := jx_out hF
    exact jx_iret E dX5_copy_20 rfl
  · rw [if_neg hc2] at hF
    refine jx_iload_n E dX5_copy_7 3 rfl ?_
    obtain ⟨⟨r4, v4⟩, hc4, hF⟩ := jx_bind hF
    try dsimp only at hF
    refine jx_callSi (As := [.int x3]) (st := []) E dX5_copy_8 1 rfl (k_X5_isOne hI x3 v1 r4 v4 hc4) (gb_S (List.mem_cons_of_mem _ tw_581) (List.mem_cons_of_mem _ tw_582) (List.mem_cons_of_mem _ tw_325) tw_580) rfl rfl rfl dd_X5_isOne rfl ⟨by decide, by decide⟩ ⟨Nat.le_refl 0, Nat.le_refl 0⟩ (Nat.le_of_ble_eq_true rfl) ?_
    refine jx_if_ne (tgt := 21) E dX5_copy_11 (by decide) (fun hc5 => ?_) (fun hc5 => ?_)
    · rw [if_neg hc5] at hF
      refine jx_aload_n E dX5_copy_21 0 rfl ?_
      refine jx_getr (C := RX5) (T := TX5) (M := 21) (k := 17) E dX5_copy_22 (Nat.le_of_ble_eq_true rfl) s_M0 rfl iX5 (by decide) rfl (List.mem_cons_of_mem _ tw_583) rfl ?_
      refine jx_iload_n E dX5_copy_25 1 rfl ?_
      obtain ⟨hg6, hF⟩ := jx_guard hF
      refine jx_iald (h := 9) (j := (Int32.toNatClampNeg x1)) E dX5_copy_26 (Nat.le_of_ble_eq_true rfl) s_M9 hg6 rfl ?_
      refine jx_if_eq (tgt := 39) E dX5_copy_27 (by decide) (fun hc7 => ?_) (fun hc7 => ?_)
      · rw [if_pos hc7] at hF
        refine jx_aload_n E dX5_copy_39 0 rfl ?_
        refine jx_ldcw (x := -1000006) E dX5_copy_40 (List.mem_cons_of_mem _ tw_578) ?_
        obtain ⟨⟨r8, v8⟩, hc8, hF⟩ := jx_bind hF
        try dsimp only at hF
        refine jx_callVi (As := [.int (-1000006)]) (st := []) (h := 0) E dX5_copy_43 1 rfl (k_X5_finds hI (-1000006) v4 r8 v8 hc8) (gb_V (List.mem_cons_of_mem _ tw_344) (List.mem_cons_of_mem _ tw_345) (List.mem_cons_of_mem _ tw_346) (List.mem_cons_of_mem _ tw_325) tw_343) rfl rfl rfl dd_X5_finds rfl (Nat.le_of_ble_eq_true rfl) s_M0 rfl ⟨by decide, by decide⟩ ⟨Nat.le_refl 0, Nat.le_refl 0⟩ (Nat.le_of_ble_eq_true rfl) ?_
        obtain ⟨rfl, rfl⟩ := jx_out hF
        exact jx_iret E dX5_copy_46 rfl
      · rw [if_neg hc7] at hF
        refine jx_aload_n E dX5_copy_30 0 rfl ?_
        refine jx_getr (C := RX5) (T := TX5) (M := 21) (k := 17) E dX5_copy_31 (Nat.le_of_ble_eq_true rfl) s_M0 rfl iX5 (by decide) rfl (List.mem_cons_of_mem _ tw_583) rfl ?_
        refine jx_iload_n E dX5_copy_34 3 rfl ?_
        obtain ⟨hg9, hF⟩ := jx_guard hF
        refine jx_iald (h := 9) (j := (Int32.toNatClampNeg x3)) E dX5_copy_35 (Nat.le_of_ble_eq_true rfl) s_M9 hg9 rfl ?_
        refine jx_if_ne (tgt := 47) E dX5_copy_36 (by decide) (fun hc10 => ?_) (fun hc10 => ?_)
        · rw [if_neg hc10] at hF
          refine jx_aload_n E dX5_copy_47 0 rfl ?_
          refine jx_getr (C := RX5) (T := TX5) (M := 21) (k := 17) E dX5_copy_48 (Nat.le_of_ble_eq_true rfl) s_M0 rfl iX5 (by decide) rfl (List.mem_cons_of_mem _ tw_583) rfl ?_
          refine jx_iload_n E dX5_copy_51 1 rfl ?_
          obtain ⟨hg11, hF⟩ := jx_guard hF
          refine jx_iald (h := 9) (j := (Int32.toNatClampNeg x1)) E dX5_copy_52 (Nat.le_of_ble_eq_true rfl) s_M9 hg11 rfl ?_
          refine jx_aload_n E dX5_copy_53 0 rfl ?_
          refine jx_getr (C := RX5) (T := TX5) (M := 21) (k := 17) E dX5_copy_54 (Nat.le_of_ble_eq_true rfl) s_M0 rfl iX5 (by decide) rfl (List.mem_cons_of_mem _ tw_583) rfl ?_
          refine jx_iload_n E dX5_copy_57 3 rfl ?_
          obtain ⟨hg12, hF⟩ := jx_guard hF
          refine jx_iald (h := 9) (j := (Int32.toNatClampNeg x3)) E dX5_copy_58 (Nat.le_of_ble_eq_true rfl) s_M9 hg12 rfl ?_
          refine jx_icmp_eq (tgt := 70) E dX5_copy_59 (by decide) (fun hc13 => ?_) (fun hc13 => ?_)
          · rw [if_pos hc13] at hF
            refine jx_iload_n E dX5_copy_70 2 rfl ?_
            refine jx_if_lt (tgt := 111) E dX5_copy_71 (by decide) (fun hc14 => ?_) (fun hc14 => ?_)
            · rw [if_pos hc14] at hF
              refine jx_aload_n E dX5_copy_111 0 rfl ?_
              refine jx_ldc (x := -1000001) E dX5_copy_112 (List.mem_cons_of_mem _ tw_320) ?_
              obtain ⟨⟨r15, v15⟩, hc15, hF⟩ := jx_bind hF
              try dsimp only at hF
              refine jx_callVi (As := [.int (-1000001)]) (st := []) (h := 0) E dX5_copy_114 1 rfl (k_X5_finds hI (-1000001) v4 r15 v15 hc15) (gb_V (List.mem_cons_of_mem _ tw_344) (List.mem_cons_of_mem _ tw_345) (List.mem_cons_of_mem _ tw_346) (List.mem_cons_of_mem _ tw_325) tw_343) rfl rfl rfl dd_X5_finds rfl (Nat.le_of_ble_eq_true rfl) s_M0 rfl ⟨by decide, by decide⟩ ⟨Nat.le_refl 0, Nat.le_refl 0⟩ (Nat.le_of_ble_eq_true rfl) ?_
              obtain ⟨rfl, rfl⟩ := jx_out hF
              exact jx_iret E dX5_copy_117 rfl
            · rw [if_neg hc14] at hF
              refine jx_iload E dX5_copy_74 4 rfl ?_
              refine jx_if_lt (tgt := 111) E dX5_copy_76 (by decide) (fun hc16 => ?_) (fun hc16 => ?_)
              · rw [if_pos hc16] at hF
                refine jx_aload_n E dX5_copy_111 0 rfl ?_
                refine jx_ldc (x := -1000001) E dX5_copy_112 (List.mem_cons_of_mem _ tw_320) ?_
                obtain ⟨⟨r17, v17⟩, hc17, hF⟩ := jx_bind hF
                try dsimp only at hF
                refine jx_callVi (As := [.int (-1000001)]) (st := []) (h := 0) E dX5_copy_114 1 rfl (k_X5_finds hI (-1000001) v4 r17 v17 hc17) (gb_V (List.mem_cons_of_mem _ tw_344) (List.mem_cons_of_mem _ tw_345) (List.mem_cons_of_mem _ tw_346) (List.mem_cons_of_mem _ tw_325) tw_343) rfl rfl rfl dd_X5_finds rfl (Nat.le_of_ble_eq_true rfl) s_M0 rfl ⟨by decide, by decide⟩ ⟨Nat.le_refl 0, Nat.le_refl 0⟩ (Nat.le_of_ble_eq_true rfl) ?_
                obtain ⟨rfl, rfl⟩ := jx_out hF
                exact jx_iret E dX5_copy_117 rfl
              · rw [if_neg hc16] at hF
                refine jx_iload E dX5_copy_79 5 rfl ?_
                refine jx_if_lt (tgt := 111) E dX5_copy_81 (by decide) (fun hc18 => ?_) (fun hc18 => ?_)
                · rw [if_pos hc18] at hF
                  refine jx_aload_n E dX5_copy_111 0 rfl ?_
                  refine jx_ldc (x := -1000001) E dX5_copy_112 (List.mem_cons_of_mem _ tw_320) ?_
                  obtain ⟨⟨r19, v19⟩, hc19, hF⟩ := jx_bind hF
                  try dsimp only at hF
                  refine jx_callVi (As := [.int (-1000001)]) (st := []) (h := 0) E dX5_copy_114 1 rfl (k_X5_finds hI (-1000001) v4 r19 v19 hc19) (gb_V (List.mem_cons_of_mem _ tw_344) (List.mem_cons_of_mem _ tw_345) (List.mem_cons_of_mem _ tw_346) (List.mem_cons_of_mem _ tw_325) tw_343) rfl rfl rfl dd_X5_finds rfl (Nat.le_of_ble_eq_true rfl) s_M0 rfl ⟨by decide, by decide⟩ ⟨Nat.le_refl 0, Nat.le_refl 0⟩ (Nat.le_of_ble_eq_true rfl) ?_
                  obtain ⟨rfl, rfl⟩ := jx_out hF
                  exact jx_iret E dX5_copy_117 rfl
                · rw [if_neg hc18] at hF
                  refine jx_iload E dX5_copy_84 5 rfl ?_
                  refine jx_aload_n E dX5_copy_86 0 rfl ?_
                  refine jx_getr (C := RX5) (T := TX5) (M := 21) (k := 18) E dX5_copy_87 (Nat.le_of_ble_eq_true rfl) s_M0 rfl iX5 (by decide) rfl (List.mem_cons_of_mem _ tw_584) rfl ?_
                  refine jx_iload_n E dX5_copy_90 1 rfl ?_
                  obtain ⟨hg20, hF⟩ := jx_guard hF
                  refine jx_iald (h := 10) (j := (Int32.toNatClampNeg x1)) E dX5_copy_91 (Nat.le_of_ble_eq_true rfl) s_M10 hg20 rfl ?_
                  refine jx_iload_n E dX5_copy_92 2 rfl ?_
                  refine jx_isub E dX5_copy_93 ?_
                  refine jx_icmp_gt (tgt := 111) E dX5_copy_94 (by decide) (fun hc21 => ?_) (fun hc21 => ?_)
                  · rw [if_pos hc21] at hF
                    refine jx_aload_n E dX5_copy_111 0 rfl ?_
                    refine jx_ldc (x := -1000001) E dX5_copy_112 (List.mem_cons_of_mem _ tw_320) ?_
                    obtain ⟨⟨r22, v22⟩, hc22, hF⟩ := jx_bind hF
                    try dsimp only at hF
                    refine jx_callVi (As := [.int (-1000001)]) (st := []) (h := 0) E dX5_copy_114 1 rfl (k_X5_finds hI (-1000001) v4 r22 v22 hc22) (gb_V (List.mem_cons_of_mem _ tw_344) (List.mem_cons_of_mem _ tw_345) (List.mem_cons_of_mem _ tw_346) (List.mem_cons_of_mem _ tw_325) tw_343) rfl rfl rfl dd_X5_finds rfl (Nat.le_of_ble_eq_true rfl) s_M0 rfl ⟨by decide, by decide⟩ ⟨Nat.le_refl 0, Nat.le_refl 0⟩ (Nat.le_of_ble_eq_true rfl) ?_
                    obtain ⟨rfl, rfl⟩ := jx_out hF
                    exact jx_iret E dX5_copy_117 rfl
                  · rw [if_neg hc21] at hF
                    refine jx_iload E dX5_copy_97 5 rfl ?_
                    refine jx_aload_n E dX5_copy_99 0 rfl ?_
                    refine jx_getr (C := RX5) (T := TX5) (M := 21) (k := 18) E dX5_copy_100 (Nat.le_of_ble_eq_true rfl) s_M0 rfl iX5 (by decide) rfl (List.mem_cons_of_mem _ tw_584) rfl ?_
                    refine jx_iload_n E dX5_copy_103 3 rfl ?_
                    obtain ⟨hg23, hF⟩ := jx_guard hF
                    refine jx_iald (h := 10) (j := (Int32.toNatClampNeg x3)) E dX5_copy_104 (Nat.le_of_ble_eq_true rfl) s_M10 hg23 rfl ?_
                    refine jx_iload E dX5_copy_105 4 rfl ?_
                    refine jx_isub E dX5_copy_107 ?_
                    refine jx_icmp_le (tgt := 118) E dX5_copy_108 (by decide) (fun hc24 => ?_) (fun hc24 => ?_)
                    · rw [if_pos hc24] at hF
                      refine jx_iconst (x := 0) E dX5_copy_118 (by decide) ?_
                      refine jx_istore (lv' := [(6, .int 0), (0, .ref (ad 0)), (1, .int x1), (2, .int x2), (3, .int x3), (4, .int x4), (5, .int x5)]) E dX5_copy_119 (by decide) rfl ?_
                      refine jx_sub [1, 2, 3, 4, 5, 6, 0] rfl ?_
                      exact (key 100000).1 x1 x2 x3 x4 x5 0 v4 hF
                    · rw [if_neg hc24] at hF
                      refine jx_aload_n E dX5_copy_111 0 rfl ?_
                      refine jx_ldc (x := -1000001) E dX5_copy_112 (List.mem_cons_of_mem _ tw_320) ?_
                      obtain ⟨⟨r25, v25⟩, hc25, hF⟩ := jx_bind hF
                      try dsimp only at hF
                      refine jx_callVi (As := [.int (-1000001)]) (st := []) (h := 0) E dX5_copy_114 1 rfl (k_X5_finds hI (-1000001) v4 r25 v25 hc25) (gb_V (List.mem_cons_of_mem _ tw_344) (List.mem_cons_of_mem _ tw_345) (List.mem_cons_of_mem _ tw_346) (List.mem_cons_of_mem _ tw_325) tw_343) rfl rfl rfl dd_X5_finds rfl (Nat.le_of_ble_eq_true rfl) s_M0 rfl ⟨by decide, by decide⟩ ⟨Nat.le_refl 0, Nat.le_refl 0⟩ (Nat.le_of_ble_eq_true rfl) ?_
                      obtain ⟨rfl, rfl⟩ := jx_out hF
                      exact jx_iret E dX5_copy_117 rfl
          · rw [if_neg hc13] at hF
            refine jx_aload_n E dX5_copy_62 0 rfl ?_
            refine jx_ldcw (x := -1000003) E dX5_copy_63 (List.mem_cons_of_mem _ tw_579) ?_
            obtain ⟨⟨r26, v26⟩, hc26, hF⟩ := jx_bind hF
            try dsimp only at hF
            refine jx_callVi (As := [.int (-1000003)]) (st := []) (h := 0) E dX5_copy_66 1 rfl (k_X5_finds hI (-1000003) v4 r26 v26 hc26) (gb_V (List.mem_cons_of_mem _ tw_344) (List.mem_cons_of_mem _ tw_345) (List.mem_cons_of_mem _ tw_346) (List.mem_cons_of_mem _ tw_325) tw_343) rfl rfl rfl dd_X5_finds rfl (Nat.le_of_ble_eq_true rfl) s_M0 rfl ⟨by decide, by decide⟩ ⟨Nat.le_refl 0, Nat.le_refl 0⟩ (Nat.le_of_ble_eq_true rfl) ?_
            obtain ⟨rfl, rfl⟩ := jx_out hF
            exact jx_iret E dX5_copy_69 rfl
        · rw [if_pos hc10] at hF
          refine jx_aload_n E dX5_copy_39 0 rfl ?_
          refine jx_ldcw (x := -1000006) E dX5_copy_40 (List.mem_cons_of_mem _ tw_578) ?_
          obtain ⟨⟨r27, v27⟩, hc27, hF⟩ := jx_bind hF
          try dsimp only at hF
          refine jx_callVi (As := [.int (-1000006)]) (st := []) (h := 0) E dX5_copy_43 1 rfl (k_X5_finds hI (-1000006) v4 r27 v27 hc27) (gb_V (List.mem_cons_of_mem _ tw_344) (List.mem_cons_of_mem _ tw_345) (List.mem_cons_of_mem _ tw_346) (List.mem_cons_of_mem _ tw_325) tw_343) rfl rfl rfl dd_X5_finds rfl (Nat.le_of_ble_eq_true rfl) s_M0 rfl ⟨by decide, by decide⟩ ⟨Nat.le_refl 0, Nat.le_refl 0⟩ (Nat.le_of_ble_eq_true rfl) ?_
          obtain ⟨rfl, rfl⟩ := jx_out hF
          exact jx_iret E dX5_copy_46 rfl
    · rw [if_pos hc5] at hF
      refine jx_aload_n E dX5_copy_14 0 rfl ?_
      refine jx_ldc (x := -1000001) E dX5_copy_15 (List.mem_cons_of_mem _ tw_320) ?_
      obtain ⟨⟨r28, v28⟩, hc28, hF⟩ := jx_bind hF
      try dsimp only at hF
      refine jx_callVi (As := [.int (-1000001)]) (st := []) (h := 0) E dX5_copy_17 1 rfl (k_X5_finds hI (-1000001) v4 r28 v28 hc28) (gb_V (List.mem_cons_of_mem _ tw_344) (List.mem_cons_of_mem _ tw_345) (List.mem_cons_of_mem _ tw_346) (List.mem_cons_of_mem _ tw_325) tw_343) rfl rfl rfl dd_X5_finds rfl (Nat.le_of_ble_eq_true rfl) s_M0 rfl ⟨by decide, by decide⟩ ⟨Nat.le_refl 0, Nat.le_refl 0⟩ (Nat.le_of_ble_eq_true rfl) ?_
      obtain ⟨rfl, rfl⟩ := jx_out hF
      exact jx_iret E dX5_copy_20 rfl
def f_X5_load_L  : Nat → Int32 → Int32 → Int32 → Int32 → Int32 → jx_V → Option (Int32 × jx_V)
  | 0, _, _, _, _, _, _ => none
  | n + 1, x1, x2, x3, x4, x5, v => (if (x1 < 0 ∨ 4 ≤ Int32.toNatClampNeg x1) then none else (if (v 10 (Int32.toNatClampNeg x1)) ≤ x5 then (some (x4, v)) else (if 25 ≤ (x2 + x5) then (some (x4, v)) else (if (((40 * x1) + x5) < 0 ∨ 160 ≤ Int32.toNatClampNeg ((40 * x1) + x5)) then none else ((f_X5_isHeight (v 11 (Int32.toNatClampNeg ((40 * x1) + x5))) v).bind (fun (r11, v11) => (if r11 = 0 then (some (x4, v11)) else ((f_X5_isThing (x2 + x5) v11).bind (fun (r13, v13) => (if r13 = 0 then (f_X5_load_L n x1 x2 x3 x4 (x5 + 1) v13) else ((f_X5_at (x2 + x5) 2 v13).bind (fun (r15, v15) => (if (((40 * x1) + x5) < 0 ∨ 160 ≤ Int32.toNatClampNeg ((40 * x1) + x5)) then none else (if (r15 < 0 ∨ 181 ≤ Int32.toNatClampNeg r15) then none else (f_X5_load_L n x1 x2 x3 (x4 + 1) (x5 + 1) (jx_up v15 1 (Int32.toNatClampNeg r15) (v15 11 (Int32.toNatClampNeg ((40 * x1) + x5)))))))))))))))))))
def f_X5_load (x1 : Int32) (x2 : Int32) (v : jx_V) : Option (Int32 × jx_V) := ((f_X5_wrong x1 v).bind (fun (r1, v1) => (if r1 = 0 then ((f_X5_isLot x2 v1).bind (fun (r3, v3) => (if r3 = 0 then ((f_X5_finds (-1000001) v3).bind (fun (r5, v5) => (some (r5, v5)))) else (f_X5_load_L 100000 x1 x2 r1 0 0 v3)))) else ((f_X5_finds r1 v1).bind (fun (r6, v6) => (some (r6, v6)))))))
def rm_X5_load : Room := { frames := 3, cells := 0, slots := 0, locals := 66 }
set_option maxHeartbeats 4000000 in
set_option maxRecDepth 100000 in
theorem k_X5_load {l : Launch} {D : va_G} {cI cJ : ClassId} {ad : Nat → Nat} {A : Nat → Prop} (hI : jx_inj 13 ad A) (x1 : Int32) (x2 : Int32) (v : jx_V) (r : Int32) (v' : jx_V) (hF : f_X5_load x1 x2 v = some (r, v')) : jx_Ci l D vwCl 13 cI cJ ad shM A ex_M yX5_load (Cond.code yX5_load cX5_load 6 (some .int) :: bigT) rm_X5_load [.ref (ad 0), .int x1, .int x2] v r v' := by
  unfold f_X5_load at hF
  refine jx_enteri bigT RX5 cX5_load 6 (some .int) [(0, .ref (ad 0)), (1, .int x1), (2, .int x2)] hI (ex_M_ok A) (by decide +kernel) rfl (Nat.le_of_ble_eq_true rfl) rfl rfl ?_
  intro p e s m args below meth c E
  have iX5 : ∀ w ∈ u_ws RX5 TX5 21, w ∈ (Cond.code yX5_load cX5_load 6 (some .int) :: bigT) := fun w h => List.mem_cons_of_mem _ (uw_X5 w h)
  have key : ∀ n : Nat, (∀ (x1 : Int32) (x2 : Int32) (x3 : Int32) (x4 : Int32) (x5 : Int32) (v : jx_V), f_X5_load_L  n  x1 x2 x3 x4 x5 v = some (r, v') → jx_J p l e rm_X5_load s m args below meth c D vwCl 13 cI cJ ad shM A 0 0 6 (MQ below (va_Qi (fun (r1 : Int32) (_ : Unit) => r1 = r) (fun _ t => va_P D vwCl (jx_ws 13 cI cJ ad shM v') t.heap) A) args s 0 0 A) v 36 [(0, .ref (ad 0)), (1, .int x1), (2, .int x2), (3, .int x3), (4, .int x4), (5, .int x5)] []) := by
    intro n
    induction n with
    | zero =>
      exact (fun _ _ _ _ _ _ h => by cases h)
    | succ n ih =>
      intro x1 x2 x3 x4 x5 v hF
      rw [f_X5_load_L] at hF
      refine jx_iload E dX5_load_36 5 rfl ?_
      refine jx_aload_n E dX5_load_38 0 rfl ?_
      refine jx_getr (C := RX5) (T := TX5) (M := 21) (k := 18) E dX5_load_39 (Nat.le_of_ble_eq_true rfl) s_M0 rfl iX5 (by decide) rfl (List.mem_cons_of_mem _ tw_584) rfl ?_
      refine jx_iload_n E dX5_load_42 1 rfl ?_
      obtain ⟨hg7, hF⟩ := jx_guard hF
      refine jx_iald (h := 10) (j := (Int32.toNatClampNeg x1)) E dX5_load_43 (Nat.le_of_ble_eq_true rfl) s_M10 hg7 rfl ?_
      refine jx_icmp_ge (tgt := 119) E dX5_load_44 (by decide) (fun hc8 => ?_) (fun hc8 => ?_)
      · rw [if_pos hc8] at hF
        refine jx_iload E dX5_load_119 4 rfl ?_
        obtain ⟨rfl, rfl⟩ := jx_out hF
        exact jx_iret E dX5_load_121 rfl
      · rw [if_neg hc8] at hF
        refine jx_iload_n E dX5_load_47 2 rfl ?_
        refine jx_iload E dX5_load_48 5 rfl ?_
        refine jx_iadd E dX5_load_50 ?_
        refine jx_bipush (x := 25) E dX5_load_51 (by decide) ?_
        refine jx_icmp_ge (tgt := 119) E dX5_load_53 (by decide) (fun hc9 => ?_) (fun hc9 => ?_)
        · rw [if_pos hc9] at hF
          refine jx_iload E dX5_load_119 4 rfl ?_
          obtain ⟨rfl, rfl⟩ := jx_out hF
          exact jx_iret E dX5_load_121 rfl
        · rw [if_neg hc9] at hF
          refine jx_aload_n E dX5_load_56 0 rfl ?_
          refine jx_getr (C := RX5) (T := TX5) (M := 21) (k := 19) E dX5_load_57 (Nat.le_of_ble_eq_true rfl) s_M0 rfl iX5 (by decide) rfl (List.mem_cons_of_mem _ tw_586) rfl ?_
          refine jx_bipush (x := 40) E dX5_load_60 (by decide) ?_
          refine jx_iload_n E dX5_load_62 1 rfl ?_
          refine jx_imul E dX5_load_63 ?_
          refine jx_iload E dX5_load_64 5 rfl ?_
          refine jx_iadd E dX5_load_66 ?_
          obtain ⟨hg10, hF⟩ := jx_guard hF
          refine jx_iald (h := 11) (j := (Int32.toNatClampNeg ((40 * x1) + x5))) E dX5_load_67 (Nat.le_of_ble_eq_true rfl) s_M11 hg10 rfl ?_
          obtain ⟨⟨r11, v11⟩, hc11, hF⟩ := jx_bind hF
          try dsimp only at hF
          refine jx_callSi (As := [.int (v 11 (Int32.toNatClampNeg ((40 * x1) + x5)))]) (st := []) E dX5_load_68 1 rfl (k_X5_isHeight hI (v 11 (Int32.toNatClampNeg ((40 * x1) + x5))) v r11 v11 hc11) (gb_S (List.mem_cons_of_mem _ tw_354) (List.mem_cons_of_mem _ tw_355) (List.mem_cons_of_mem _ tw_325) tw_353) rfl rfl rfl dd_X5_isHeight rfl ⟨by decide, by decide⟩ ⟨Nat.le_refl 0, Nat.le_refl 0⟩ (Nat.le_of_ble_eq_true rfl) ?_
          refine jx_if_eq (tgt := 119) E dX5_load_71 (by decide) (fun hc12 => ?_) (fun hc12 => ?_)
          · rw [if_pos hc12] at hF
            refine jx_iload E dX5_load_119 4 rfl ?_
            obtain ⟨rfl, rfl⟩ := jx_out hF
            exact jx_iret E dX5_load_121 rfl
          · rw [if_neg hc12] at hF
            refine jx_aload_n E dX5_load_74 0 rfl ?_
            refine jx_iload_n E dX5_load_75 2 rfl ?_
            refine jx_iload E dX5_load_76 5 rfl ?_
            refine jx_iadd E dX5_load_78 ?_
            obtain ⟨⟨r13, v13⟩, hc13, hF⟩ := jx_bind hF
            try dsimp only at hF
            refine jx_callVi (As := [.int (x2 + x5)]) (st := []) (h := 0) E dX5_load_79 1 rfl (k_X5_isThing hI (x2 + x5) v11 r13 v13 hc13) (gb_V (List.mem_cons_of_mem _ tw_339) (List.mem_cons_of_mem _ tw_340) (List.mem_cons_of_mem _ tw_341) (List.mem_cons_of_mem _ tw_325) tw_338) rfl rfl rfl dd_X5_isThing rfl (Nat.le_of_ble_eq_true rfl) s_M0 rfl ⟨by decide, by decide⟩ ⟨Nat.le_refl 0, Nat.le_refl 0⟩ (Nat.le_of_ble_eq_true rfl) ?_
            refine jx_if_eq (tgt := 113) E dX5_load_82 (by decide) (fun hc14 => ?_) (fun hc14 => ?_)
            · rw [if_pos hc14] at hF
              refine jx_iinc (y := (x5 + 1)) (lv' := [(5, .int (x5 + 1)), (0, .ref (ad 0)), (1, .int x1), (2, .int x2), (3, .int x3), (4, .int x4)]) E dX5_load_113 5 rfl rfl (by decide) rfl ?_
              refine jx_goto (tgt := 36) E dX5_load_116 (by decide) ?_
              refine jx_sub [1, 2, 3, 4, 5, 0] rfl ?_
              exact ih x1 x2 x3 x4 (x5 + 1) v13 hF
            · rw [if_neg hc14] at hF
              refine jx_aload_n E dX5_load_85 0 rfl ?_
              refine jx_getr (C := RX5) (T := TX5) (M := 21) (k := 0) E dX5_load_86 (Nat.le_of_ble_eq_true rfl) s_M0 rfl iX5 (by decide) rfl (List.mem_cons_of_mem _ tw_328) rfl ?_
              refine jx_iload_n E dX5_load_89 2 rfl ?_
              refine jx_iload E dX5_load_90 5 rfl ?_
              refine jx_iadd E dX5_load_92 ?_
              refine jx_iconst (x := 2) E dX5_load_93 (by decide) ?_
              obtain ⟨⟨r15, v15⟩, hc15, hF⟩ := jx_bind hF
              try dsimp only at hF
              refine jx_callSi (As := [.int (x2 + x5), .int 2]) (st := [.ref (ad 1)]) E dX5_load_94 2 rfl (k_X5_at hI (x2 + x5) 2 v13 r15 v15 hc15) (gb_S (List.mem_cons_of_mem _ tw_332) (List.mem_cons_of_mem _ tw_333) (List.mem_cons_of_mem _ tw_325) tw_331) rfl rfl rfl dd_X5_at rfl ⟨by decide, by decide⟩ ⟨Nat.le_refl 0, Nat.le_refl 0⟩ (Nat.le_of_ble_eq_true rfl) ?_
              refine jx_aload_n E dX5_load_97 0 rfl ?_
              refine jx_getr (C := RX5) (T := TX5) (M := 21) (k := 19) E dX5_load_98 (Nat.le_of_ble_eq_true rfl) s_M0 rfl iX5 (by decide) rfl (List.mem_cons_of_mem _ tw_586) rfl ?_
              refine jx_bipush (x := 40) E dX5_load_101 (by decide) ?_
              refine jx_iload_n E dX5_load_103 1 rfl ?_
              refine jx_imul E dX5_load_104 ?_
              refine jx_iload E dX5_load_105 5 rfl ?_
              refine jx_iadd E dX5_load_107 ?_
              obtain ⟨hg16, hF⟩ := jx_guard hF
              refine jx_iald (h := 11) (j := (Int32.toNatClampNeg ((40 * x1) + x5))) E dX5_load_108 (Nat.le_of_ble_eq_true rfl) s_M11 hg16 rfl ?_
              obtain ⟨hg17, hF⟩ := jx_guard hF
              refine jx_iast (h := 1) (j := (Int32.toNatClampNeg r15)) E dX5_load_109 (Nat.le_of_ble_eq_true rfl) s_M1 hg17 rfl ?_
              refine jx_iinc (y := (x4 + 1)) (lv' := [(4, .int (x4 + 1)), (0, .ref (ad 0)), (1, .int x1), (2, .int x2), (3, .int x3), (5, .int x5)]) E dX5_load_110 4 rfl rfl (by decide) rfl ?_
              refine jx_iinc (y := (x5 + 1)) (lv' := [(5, .int (x5 + 1)), (4, .int (x4 + 1)), (0, .ref (ad 0)), (1, .int x1), (2, .int x2), (3, .int x3)]) E dX5_load_113 5 rfl rfl (by decide) rfl ?_
              refine jx_goto (tgt := 36) E dX5_load_116 (by decide) ?_
              refine jx_sub [2, 3, 4, 5, 1, 0] rfl ?_
              exact ih x1 x2 x3 (x4 + 1) (x5 + 1) (jx_up v15 1 (Int32.toNatClampNeg r15) (v15 11 (Int32.toNatClampNeg ((40 * x1) + x5)))) hF
  refine jx_aload_n E dX5_load_0 0 rfl ?_
  refine jx_iload_n E dX5_load_1 1 rfl ?_
  obtain ⟨⟨r1, v1⟩, hc1, hF⟩ := jx_bind hF
  try dsimp only at hF
  refine jx_callVi (As := [.int x1]) (st := []) (h := 0) E dX5_load_2 1 rfl (k_X5_wrong hI x1 v r1 v1 hc1) (gb_V (List.mem_cons_of_mem _ tw_588) (List.mem_cons_of_mem _ tw_589) (List.mem_cons_of_mem _ tw_590) (List.mem_cons_of_mem _ tw_325) tw_587) rfl rfl rfl dd_X5_wrong rfl (Nat.le_of_ble_eq_true rfl) s_M0 rfl ⟨by decide, by decide⟩ ⟨Nat.le_refl 0, Nat.le_refl 0⟩ (Nat.le_of_ble_eq_true rfl) ?_
  refine jx_istore_n (lv' := [(3, .int r1), (0, .ref (ad 0)), (1, .int x1), (2, .int x2)]) E dX5_load_5 (by decide) rfl ?_
  refine jx_iload_n E dX5_load_6 0 rfl ?_
  refine jx_if_eq (tgt := 16) E dX5_load_7 (by decide) (fun hc2 => ?_) (fun hc2 => ?_)
  · rw [if_pos hc2] at hF
    refine jx_iload_n E dX5_load_16 3 rfl ?_
    obtain ⟨⟨r3, v3⟩, hc3, hF⟩ := jx_bind hF
    try dsimp only at hF
    refine jx_callSi (As := [.int x2]) (st := []) E dX5_load_17 1 rfl (k_X5_isLot hI x2 v1 r3 v3 hc3) (gb_S (List.mem_cons_of_mem _ tw_348) (List.mem_cons_of_mem _ tw_349) (List.mem_cons_of_mem _ tw_325) tw_347) rfl rfl rfl dd_X5_isLot rfl ⟨by decide, by decide⟩ ⟨Nat.le_refl 0, Nat.le_refl 0⟩ (Nat.le_of_ble_eq_true rfl) ?_
    refine jx_if_ne (tgt := 30) E dX5_load_20 (by decide) (fun hc4 => ?_) (fun hc4 => ?_)
    · rw [if_neg hc4] at hF
      refine jx_iconst (x := 0) E dX5_load_30 (by decide) ?_
      refine jx_istore (lv' := [(4, .int 0), (3, .int r1), (0, .ref (ad 0)), (1, .int x1), (2, .int x2)]) E dX5_load_31 (by decide) rfl ?_
      refine jx_iconst (x := 0) E dX5_load_33 (by decide) ?_
      refine jx_istore (lv' := [(5, .int 0), (4, .int 0), (3, .int r1), (0, .ref (ad 0)), (1, .int x1), (2, .int x2)]) E dX5_load_34 (by decide) rfl ?_
      refine jx_sub [3, 4, 5, 2, 1, 0] rfl ?_
      exact (key 100000) x1 x2 r1 0 0 v3 hF
    · rw [if_pos hc4] at hF
      refine jx_aload_n E dX5_load_23 1 rfl ?_
      refine jx_ldc (x := -1000001) E dX5_load_24 (List.mem_cons_of_mem _ tw_320) ?_
      obtain ⟨⟨r5, v5⟩, hc5, hF⟩ := jx_bind hF
      try dsimp only at hF
      refine jx_callVi (As := [.int (-1000001)]) (st := []) (h := 0) E dX5_load_26 1 rfl (k_X5_finds hI (-1000001) v3 r5 v5 hc5) (gb_V (List.mem_cons_of_mem _ tw_344) (List.mem_cons_of_mem _ tw_345) (List.mem_cons_of_mem _ tw_346) (List.mem_cons_of_mem _ tw_325) tw_343) rfl rfl rfl dd_X5_finds rfl (Nat.le_of_ble_eq_true rfl) s_M0 rfl ⟨by decide, by decide⟩ ⟨Nat.le_refl 0, Nat.le_refl 0⟩ (Nat.le_of_ble_eq_true rfl) ?_
      obtain ⟨rfl, rfl⟩ := jx_out hF
      exact jx_iret E dX5_load_29 rfl
  · rw [if_neg hc2] at hF
    refine jx_aload_n E dX5_load_10 1 rfl ?_
    refine jx_iload_n E dX5_load_11 0 rfl ?_
    obtain ⟨⟨r6, v6⟩, hc6, hF⟩ := jx_bind hF
    try dsimp only at hF
    refine jx_callVi (As := [.int r1]) (st := []) (h := 0) E dX5_load_12 1 rfl (k_X5_finds hI r1 v1 r6 v6 hc6) (gb_V (List.mem_cons_of_mem _ tw_344) (List.mem_cons_of_mem _ tw_345) (List.mem_cons_of_mem _ tw_346) (List.mem_cons_of_mem _ tw_325) tw_343) rfl rfl rfl dd_X5_finds rfl (Nat.le_of_ble_eq_true rfl) s_M0 rfl ⟨by decide, by decide⟩ ⟨Nat.le_refl 0, Nat.le_refl 0⟩ (Nat.le_of_ble_eq_true rfl) ?_
    obtain ⟨rfl, rfl⟩ := jx_out hF
    exact jx_iret E dX5_load_15 rfl
