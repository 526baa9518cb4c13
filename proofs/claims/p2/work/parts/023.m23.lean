def f_X5_thingItem (x1 : Int32) (v : jx_V) : Option (jx_V) := ((f_X5_needs 1 v).bind (fun v1 => ((f_X5_word v1).bind (fun (r2, v2) => (if (lg_cmp r2 52) = 0 then ((f_X5_needs 1 v2).bind (fun v25 => (if (v25 0 16) = 0 then ((f_X5_lotTold 1 v25).bind (fun v36 => ((f_X5_numberBehind 486 3 v36).bind (fun (r37, v37) => ((f_X5_numberBehind 271592 9 v37).bind (fun (r38, v38) => ((f_X5_word v38).bind (fun (r39, v39) => (if (lg_cmp r39 16819668) = 0 then ((f_X5_numberBehind 16819668 3 v39).bind (fun (r43, v43) => (if (v43 0 16) = 0 then ((f_X5_builds (v36 0 15) x1 r37 r38 r43 v43).bind (fun v45 => (some v45))) else (some v43)))) else (if (v39 0 16) = 0 then ((f_X5_builds (v36 0 15) x1 r37 r38 0 v39).bind (fun v42 => (some v42))) else (some v39))))))))))) else ((f_X5_numberBehind 486 3 v25).bind (fun (r27, v27) => ((f_X5_numberBehind 271592 9 v27).bind (fun (r28, v28) => ((f_X5_word v28).bind (fun (r29, v29) => (if (lg_cmp r29 16819668) = 0 then ((f_X5_numberBehind 16819668 3 v29).bind (fun (r33, v33) => (if (v33 0 16) = 0 then ((f_X5_builds (v25 0 15) x1 r27 r28 r33 v33).bind (fun v35 => (some v35))) else (some v33)))) else (if (v29 0 16) = 0 then ((f_X5_builds (v25 0 15) x1 r27 r28 0 v29).bind (fun v32 => (some v32))) else (some v29)))))))))))) else ((f_X5_needs 0 v2).bind (fun v4 => (if (v4 0 16) = 0 then ((f_X5_lotTold 1 v4).bind (fun v15 => ((f_X5_numberBehind 486 3 v15).bind (fun (r16, v16) => ((f_X5_numberBehind 271592 9 v16).bind (fun (r17, v17) => ((f_X5_word v17).bind (fun (r18, v18) => (if (lg_cmp r18 16819668) = 0 then ((f_X5_numberBehind 16819668 3 v18).bind (fun (r22, v22) => (if (v22 0 16) = 0 then ((f_X5_builds (v15 0 15) x1 r16 r17 r22 v22).bind (fun v24 => (some v24))) else (some v22)))) else (if (v18 0 16) = 0 then ((f_X5_builds (v15 0 15) x1 r16 r17 0 v18).bind (fun v21 => (some v21))) else (some v18))))))))))) else ((f_X5_numberBehind 486 3 v4).bind (fun (r6, v6) => ((f_X5_numberBehind 271592 9 v6).bind (fun (r7, v7) => ((f_X5_word v7).bind (fun (r8, v8) => (if (lg_cmp r8 16819668) = 0 then ((f_X5_numberBehind 16819668 3 v8).bind (fun (r12, v12) => (if (v12 0 16) = 0 then ((f_X5_builds (v4 0 15) x1 r6 r7 r12 v12).bind (fun v14 => (some v14))) else (some v12)))) else (if (v8 0 16) = 0 then ((f_X5_builds (v4 0 15) x1 r6 r7 0 v8).bind (fun v11 => (some v11))) else (some v8)))))))))))))))))
def rm_X5_thingItem : Room := { frames := 6, cells := 0, slots := 0, locals := 136 }
set_option maxHeartbeats 4000000 in
set_option maxRecDepth 100000 in
theorem k_X5_thingItem {l : Launch} {D : va_G} {cI cJ : ClassId} {ad : Nat → Nat} {A : Nat → Prop} (hI : jx_inj 13 ad A) (x1 : Int32) (v : jx_V) (v' : jx_V) (hF : f_X5_thingItem x1 v = some v') : jx_Cv l D vwCl 13 cI cJ ad shM A ex_M yX5_thingItem (Cond.code yX5_thingItem cX5_thingItem 6 (none) :: bigT) rm_X5_thingItem [.ref (ad 0), .int x1] v v' := by
  unfold f_X5_thingItem at hF
  refine jx_enterv bigT RX5 cX5_thingItem 6 (none) [(0, .ref (ad 0)), (1, .int x1)] hI (ex_M_ok A) (by decide +kernel) rfl (Nat.le_of_ble_eq_true rfl) rfl rfl ?_
  intro p e s m args below meth c E
  have iX5 : ∀ w ∈ u_ws RX5 TX5 21, w ∈ (Cond.code yX5_thingItem cX5_thingItem 6 (none) :: bigT) := fun w h => List.mem_cons_of_mem _ (uw_X5 w h)
  refine jx_aload_n E dX5_thingItem_0 0 rfl ?_
  refine jx_iconst (x := 1) E dX5_thingItem_1 (by decide) ?_
  obtain ⟨v1, hc1, hF⟩ := jx_bind hF
  try dsimp only at hF
  refine jx_callVv (As := [.int 1]) (st := []) (h := 0) E dX5_thingItem_2 1 rfl (k_X5_needs hI 1 v v1 hc1) (gb_V (List.mem_cons_of_mem _ tw_522) (List.mem_cons_of_mem _ tw_523) (List.mem_cons_of_mem _ tw_524) (List.mem_cons_of_mem _ tw_325) tw_521) rfl rfl rfl dd_X5_needs rfl (Nat.le_of_ble_eq_true rfl) s_M0 rfl ⟨by decide, by decide⟩ ⟨Nat.le_refl 0, Nat.le_refl 0⟩ (Nat.le_of_ble_eq_true rfl) ?_
  refine jx_aload_n E dX5_thingItem_5 0 rfl ?_
  refine jx_aload_n E dX5_thingItem_6 0 rfl ?_
  obtain ⟨⟨r2, v2⟩, hc2, hF⟩ := jx_bind hF
  try dsimp only at hF
  refine jx_callVl (As := []) (st := [.ref (ad 0)]) (h := 0) E dX5_thingItem_7 0 rfl (k_X5_word hI  v1 r2 v2 hc2) (gb_V (List.mem_cons_of_mem _ tw_526) (List.mem_cons_of_mem _ tw_527) (List.mem_cons_of_mem _ tw_528) (List.mem_cons_of_mem _ tw_325) tw_525) rfl rfl rfl dd_X5_word rfl (Nat.le_of_ble_eq_true rfl) s_M0 rfl ⟨by decide, by decide⟩ ⟨Nat.le_refl 0, Nat.le_refl 0⟩ (Nat.le_of_ble_eq_true rfl) ?_
  refine jx_ldc2 (x := 52) E dX5_thingItem_10 (List.mem_cons_of_mem _ tw_540) ?_
  refine jx_lcmp E dX5_thingItem_13 ?_
  refine jx_if_ne (tgt := 21) E dX5_thingItem_14 (by decide) (fun hc3 => ?_) (fun hc3 => ?_)
  · rw [if_neg hc3] at hF
    refine jx_iconst (x := 0) E dX5_thingItem_21 (by decide) ?_
    obtain ⟨v4, hc4, hF⟩ := jx_bind hF
    try dsimp only at hF
    refine jx_callVv (As := [.int 0]) (st := []) (h := 0) E dX5_thingItem_22 1 rfl (k_X5_needs hI 0 v2 v4 hc4) (gb_V (List.mem_cons_of_mem _ tw_522) (List.mem_cons_of_mem _ tw_523) (List.mem_cons_of_mem _ tw_524) (List.mem_cons_of_mem _ tw_325) tw_521) rfl rfl rfl dd_X5_needs rfl (Nat.le_of_ble_eq_true rfl) s_M0 rfl ⟨by decide, by decide⟩ ⟨Nat.le_refl 0, Nat.le_refl 0⟩ (Nat.le_of_ble_eq_true rfl) ?_
    refine jx_aload_n E dX5_thingItem_25 0 rfl ?_
    refine jx_geti (C := RX5) (T := TX5) (M := 21) (k := 16) E dX5_thingItem_26 (Nat.le_of_ble_eq_true rfl) s_M0 rfl iX5 (by decide) rfl (List.mem_cons_of_mem _ tw_513) rfl ?_
    refine jx_if_ne (tgt := 37) E dX5_thingItem_29 (by decide) (fun hc5 => ?_) (fun hc5 => ?_)
    · rw [if_neg hc5] at hF
      refine jx_aload_n E dX5_thingItem_37 0 rfl ?_
      refine jx_geti (C := RX5) (T := TX5) (M := 21) (k := 15) E dX5_thingItem_38 (Nat.le_of_ble_eq_true rfl) s_M0 rfl iX5 (by decide) rfl (List.mem_cons_of_mem _ tw_520) rfl ?_
      refine jx_istore_n (lv' := [(2, .int (v4 0 15)), (0, .ref (ad 0)), (1, .int x1)]) E dX5_thingItem_41 (by decide) rfl ?_
      refine jx_aload_n E dX5_thingItem_42 1 rfl ?_
      refine jx_ldc2 (x := 486) E dX5_thingItem_43 (List.mem_cons_of_mem _ tw_541) ?_
      refine jx_iconst (x := 3) E dX5_thingItem_46 (by decide) ?_
      obtain ⟨⟨r6, v6⟩, hc6, hF⟩ := jx_bind hF
      try dsimp only at hF
      refine jx_callVi (As := [.long 486, .int 3]) (st := []) (h := 0) E dX5_thingItem_47 2 rfl (k_X5_numberBehind hI 486 3 v4 r6 v6 hc6) (gb_V (List.mem_cons_of_mem _ tw_543) (List.mem_cons_of_mem _ tw_544) (List.mem_cons_of_mem _ tw_545) (List.mem_cons_of_mem _ tw_325) tw_542) rfl rfl rfl dd_X5_numberBehind rfl (Nat.le_of_ble_eq_true rfl) s_M0 rfl ⟨by decide, by decide⟩ ⟨Nat.le_refl 0, Nat.le_refl 0⟩ (Nat.le_of_ble_eq_true rfl) ?_
      refine jx_istore_n (lv' := [(3, .int r6), (2, .int (v4 0 15)), (0, .ref (ad 0)), (1, .int x1)]) E dX5_thingItem_50 (by decide) rfl ?_
      refine jx_aload_n E dX5_thingItem_51 2 rfl ?_
      refine jx_ldc2 (x := 271592) E dX5_thingItem_52 (List.mem_cons_of_mem _ tw_546) ?_
      refine jx_bipush (x := 9) E dX5_thingItem_55 (by decide) ?_
      obtain ⟨⟨r7, v7⟩, hc7, hF⟩ := jx_bind hF
      try dsimp only at hF
      refine jx_callVi (As := [.long 271592, .int 9]) (st := []) (h := 0) E dX5_thingItem_57 2 rfl (k_X5_numberBehind hI 271592 9 v6 r7 v7 hc7) (gb_V (List.mem_cons_of_mem _ tw_543) (List.mem_cons_of_mem _ tw_544) (List.mem_cons_of_mem _ tw_545) (List.mem_cons_of_mem _ tw_325) tw_542) rfl rfl rfl dd_X5_numberBehind rfl (Nat.le_of_ble_eq_true rfl) s_M0 rfl ⟨by decide, by decide⟩ ⟨Nat.le_refl 0, Nat.le_refl 0⟩ (Nat.le_of_ble_eq_true rfl) ?_
      refine jx_istore (lv' := [(4, .int r7), (3, .int r6), (2, .int (v4 0 15)), (0, .ref (ad 0)), (1, .int x1)]) E dX5_thingItem_60 (by decide) rfl ?_
      refine jx_aload_n E dX5_thingItem_62 3 rfl ?_
      obtain ⟨⟨r8, v8⟩, hc8, hF⟩ := jx_bind hF
      try dsimp only at hF
      refine jx_callVl (As := []) (st := []) (h := 0) E dX5_thingItem_63 0 rfl (k_X5_word hI  v7 r8 v8 hc8) (gb_V (List.mem_cons_of_mem _ tw_526) (List.mem_cons_of_mem _ tw_527) (List.mem_cons_of_mem _ tw_528) (List.mem_cons_of_mem _ tw_325) tw_525) rfl rfl rfl dd_X5_word rfl (Nat.le_of_ble_eq_true rfl) s_M0 rfl ⟨by decide, by decide⟩ ⟨Nat.le_refl 0, Nat.le_refl 0⟩ (Nat.le_of_ble_eq_true rfl) ?_
      refine jx_ldc2 (x := 16819668) E dX5_thingItem_66 (List.mem_cons_of_mem _ tw_547) ?_
      refine jx_lcmp E dX5_thingItem_69 ?_
      refine jx_if_ne (tgt := 84) E dX5_thingItem_70 (by decide) (fun hc9 => ?_) (fun hc9 => ?_)
      · rw [if_neg hc9] at hF
        refine jx_iconst (x := 0) E dX5_thingItem_84 (by decide) ?_
        refine jx_istore (lv' := [(5, .int 0), (4, .int r7), (3, .int r6), (2, .int (v4 0 15)), (0, .ref (ad 0)), (1, .int x1)]) E dX5_thingItem_85 (by decide) rfl ?_
        refine jx_aload_n E dX5_thingItem_87 4 rfl ?_
        refine jx_geti (C := RX5) (T := TX5) (M := 21) (k := 16) E dX5_thingItem_88 (Nat.le_of_ble_eq_true rfl) s_M0 rfl iX5 (by decide) rfl (List.mem_cons_of_mem _ tw_513) rfl ?_
        refine jx_if_ne (tgt := 105) E dX5_thingItem_91 (by decide) (fun hc10 => ?_) (fun hc10 => ?_)
        · rw [if_neg hc10] at hF
          obtain rfl := Option.some.inj hF
          exact jx_vret E dX5_thingItem_105 rfl
        · rw [if_pos hc10] at hF
          refine jx_aload_n E dX5_thingItem_94 4 rfl ?_
          refine jx_iload_n E dX5_thingItem_95 3 rfl ?_
          refine jx_iload_n E dX5_thingItem_96 5 rfl ?_
          refine jx_iload_n E dX5_thingItem_97 2 rfl ?_
          refine jx_iload E dX5_thingItem_98 1 rfl ?_
          refine jx_iload E dX5_thingItem_100 0 rfl ?_
          obtain ⟨v11, hc11, hF⟩ := jx_bind hF
          try dsimp only at hF
          refine jx_callVv (As := [.int (v4 0 15), .int x1, .int r6, .int r7, .int 0]) (st := []) (h := 0) E dX5_thingItem_102 5 rfl (k_X5_builds hI (v4 0 15) x1 r6 r7 0 v8 v11 hc11) (gb_V (List.mem_cons_of_mem _ tw_357) (List.mem_cons_of_mem _ tw_358) (List.mem_cons_of_mem _ tw_359) (List.mem_cons_of_mem _ tw_325) tw_356) rfl rfl rfl dd_X5_builds rfl (Nat.le_of_ble_eq_true rfl) s_M0 rfl ⟨by decide, by decide⟩ ⟨Nat.le_refl 0, Nat.le_refl 0⟩ (Nat.le_of_ble_eq_true rfl) ?_
          obtain rfl := Option.some.inj hF
          exact jx_vret E dX5_thingItem_105 rfl
      · rw [if_pos hc9] at hF
        refine jx_aload_n E dX5_thingItem_73 3 rfl ?_
        refine jx_ldc2 (x := 16819668) E dX5_thingItem_74 (List.mem_cons_of_mem _ tw_547) ?_
        refine jx_iconst (x := 3) E dX5_thingItem_77 (by decide) ?_
        obtain ⟨⟨r12, v12⟩, hc12, hF⟩ := jx_bind hF
        try dsimp only at hF
        refine jx_callVi (As := [.long 16819668, .int 3]) (st := []) (h := 0) E dX5_thingItem_78 2 rfl (k_X5_numberBehind hI 16819668 3 v8 r12 v12 hc12) (gb_V (List.mem_cons_of_mem _ tw_543) (List.mem_cons_of_mem _ tw_544) (List.mem_cons_of_mem _ tw_545) (List.mem_cons_of_mem _ tw_325) tw_542) rfl rfl rfl dd_X5_numberBehind rfl (Nat.le_of_ble_eq_true rfl) s_M0 rfl ⟨by decide, by decide⟩ ⟨Nat.le_refl 0, Nat.le_refl 0⟩ (Nat.le_of_ble_eq_true rfl) ?_
        refine jx_goto (tgt := 85) E dX5_thingItem_81 (by decide) ?_
        refine jx_istore (lv' := [(5, .int r12), (4, .int r7), (3, .int r6), (2, .int (v4 0 15)), (0, .ref (ad 0)), (1, .int x1)]) E dX5_thingItem_85 (by decide) rfl ?_
        refine jx_aload_n E dX5_thingItem_87 4 rfl ?_
        refine jx_geti (C := RX5) (T := TX5) (M := 21) (k := 16) E dX5_thingItem_88 (Nat.le_of_ble_eq_true rfl) s_M0 rfl iX5 (by decide) rfl (List.mem_cons_of_mem _ tw_513) rfl ?_
        refine jx_if_ne (tgt := 105) E dX5_thingItem_91 (by decide) (fun hc13 => ?_) (fun hc13 => ?_)
        · rw [if_neg hc13] at hF
          obtain rfl := Option.some.inj hF
          exact jx_vret E dX5_thingItem_105 rfl
        · rw [if_pos hc13] at hF
          refine jx_aload_n E dX5_thingItem_94 4 rfl ?_
          refine jx_iload_n E dX5_thingItem_95 3 rfl ?_
          refine jx_iload_n E dX5_thingItem_96 5 rfl ?_
          refine jx_iload_n E dX5_thingItem_97 2 rfl ?_
          refine jx_iload E dX5_thingItem_98 1 rfl ?_
          refine jx_iload E dX5_thingItem_100 0 rfl ?_
          obtain ⟨v14, hc14, hF⟩ := jx_bind hF
          try dsimp only at hF
          refine jx_callVv (As := [.int (v4 0 15), .int x1, .int r6, .int r7, .int r12]) (st := []) (h := 0) E dX5_thingItem_102 5 rfl (k_X5_builds hI (v4 0 15) x1 r6 r7 r12 v12 v14 hc14) (gb_V (List.mem_cons_of_mem _ tw_357) (List.mem_cons_of_mem _ tw_358) (List.mem_cons_of_mem _ tw_359) (List.mem_cons_of_mem _ tw_325) tw_356) rfl rfl rfl dd_X5_builds rfl (Nat.le_of_ble_eq_true rfl) s_M0 rfl ⟨by decide, by decide⟩ ⟨Nat.le_refl 0, Nat.le_refl 0⟩ (Nat.le_of_ble_eq_true rfl) ?_
          obtain rfl := Option.some.inj hF
          exact jx_vret E dX5_thingItem_105 rfl
    · rw [if_pos hc5] at hF
      refine jx_aload_n E dX5_thingItem_32 0 rfl ?_
      refine jx_iconst (x := 1) E dX5_thingItem_33 (by decide) ?_
      obtain ⟨v15, hc15, hF⟩ := jx_bind hF
      try dsimp only at hF
      refine jx_callVv (As := [.int 1]) (st := []) (h := 0) E dX5_thingItem_34 1 rfl (k_X5_lotTold hI 1 v4 v15 hc15) (gb_V (List.mem_cons_of_mem _ tw_549) (List.mem_cons_of_mem _ tw_550) (List.mem_cons_of_mem _ tw_551) (List.mem_cons_of_mem _ tw_325) tw_548) rfl rfl rfl dd_X5_lotTold rfl (Nat.le_of_ble_eq_true rfl) s_M0 rfl ⟨by decide, by decide⟩ ⟨Nat.le_refl 0, Nat.le_refl 0⟩ (Nat.le_of_ble_eq_true rfl) ?_
      refine jx_aload_n E dX5_thingItem_37 0 rfl ?_
      refine jx_geti (C := RX5) (T := TX5) (M := 21) (k := 15) E dX5_thingItem_38 (Nat.le_of_ble_eq_true rfl) s_M0 rfl iX5 (by decide) rfl (List.mem_cons_of_mem _ tw_520) rfl ?_
      refine jx_istore_n (lv' := [(2, .int (v15 0 15)), (0, .ref (ad 0)), (1, .int x1)]) E dX5_thingItem_41 (by decide) rfl ?_
      refine jx_aload_n E dX5_thingItem_42 1 rfl ?_
      refine jx_ldc2 (x := 486) E dX5_thingItem_43 (List.mem_cons_of_mem _ tw_541) ?_
      refine jx_iconst (x := 3) E dX5_thingItem_46 (by decide) ?_
      obtain ⟨⟨r16, v16⟩, hc16, hF⟩ := jx_bind hF
      try dsimp only at hF
      refine jx_callVi (As := [.long 486, .int 3]) (st := []) (h := 0) E dX5_thingItem_47 2 rfl (k_X5_numberBehind hI 486 3 v15 r16 v16 hc16) (gb_V (List.mem_cons_of_mem _ tw_543) (List.mem_cons_of_mem _ tw_544) (List.mem_cons_of_mem _ tw_545) (List.mem_cons_of_mem _ tw_325) tw_542) rfl rfl rfl dd_X5_numberBehind rfl (Nat.le_of_ble_eq_true rfl) s_M0 rfl ⟨by decide, by decide⟩ ⟨Nat.le_refl 0, Nat.le_refl 0⟩ (Nat.le_of_ble_eq_true rfl) ?_
      refine jx_istore_n (lv' := [(3, .int r16), (2, .int (v15 0 15)), (0, .ref (ad 0)), (1, .int x1)]) E dX5_thingItem_50 (by decide) rfl ?_
      refine jx_aload_n E dX5_thingItem_51 2 rfl ?_
      refine jx_ldc2 (x := 271592) E dX5_thingItem_52 (List.mem_cons_of_mem _ tw_546) ?_
      refine jx_bipush (x := 9) E dX5_thingItem_55 (by decide) ?_
      obtain ⟨⟨r17, v17⟩, hc17, hF⟩ := jx_bind hF
      try dsimp only at hF
      refine jx_callVi (As := [.long 271592, .int 9]) (st := []) (h := 0) E dX5_thingItem_57 2 rfl (k_X5_numberBehind hI 271592 9 v16 r17 v17 hc17) (gb_V (List.mem_cons_of_mem _ tw_543) (List.mem_cons_of_mem _ tw_544) (List.mem_cons_of_mem _ tw_545) (List.mem_cons_of_mem _ tw_325) tw_542) rfl rfl rfl dd_X5_numberBehind rfl (Nat.le_of_ble_eq_true rfl) s_M0 rfl ⟨by decide, by decide⟩ ⟨Nat.le_refl 0, Nat.le_refl 0⟩ (Nat.le_of_ble_eq_true rfl) ?_
      refine jx_istore (lv' := [(4, .int r17), (3, .int r16), (2, .int (v15 0 15)), (0, .ref (ad 0)), (1, .int x1)]) E dX5_thingItem_60 (by decide) rfl ?_
      refine jx_aload_n E dX5_thingItem_62 3 rfl ?_
      obtain ⟨⟨r18, v18⟩, hc18, hF⟩ := jx_bind hF
      try dsimp only at hF
      refine jx_callVl (As := []) (st := []) (h := 0) E dX5_thingItem_63 0 rfl (k_X5_word hI  v17 r18 v18 hc18) (gb_V (List.mem_cons_of_mem _ tw_526) (List.mem_cons_of_mem _ tw_527) (List.mem_cons_of_mem _ tw_528) (List.mem_cons_of_mem _ tw_325) tw_525) rfl rfl rfl dd_X5_word rfl (Nat.le_of_ble_eq_true rfl) s_M0 rfl ⟨by decide, by decide⟩ ⟨Nat.le_refl 0, Nat.le_refl 0⟩ (Nat.le_of_ble_eq_true rfl) ?_
      refine jx_ldc2 (x := 16819668) E dX5_thingItem_66 (List.mem_cons_of_mem _ tw_547) ?_
      refine jx_lcmp E dX5_thingItem_69 ?_
      refine jx_if_ne (tgt := 84) E dX5_thingItem_70 (by decide) (fun hc19 => ?_) (fun hc19 => ?_)
      · rw [if_neg hc19] at hF
        refine jx_iconst (x := 0) E dX5_thingItem_84 (by decide) ?_
        refine jx_istore (lv' := [(5, .int 0), (4, .int r17), (3, .int r16), (2, .int (v15 0 15)), (0, .ref (ad 0)), (1, .int x1)]) E dX5_thingItem_85 (by decide) rfl ?_
        refine jx_aload_n E dX5_thingItem_87 4 rfl ?_
        refine jx_geti (C := RX5) (T := TX5) (M := 21) (k := 16) E dX5_thingItem_88 (Nat.le_of_ble_eq_true rfl) s_M0 rfl iX5 (by decide) rfl (List.mem_cons_of_mem _ tw_513) rfl ?_
        refine jx_if_ne (tgt := 105) E dX5_thingItem_91 (by decide) (fun hc20 => ?_) (fun hc20 => ?_)
        · rw [if_neg hc20] at hF
          obtain rfl := Option.some.inj hF
          exact jx_vret E dX5_thingItem_105 rfl
        · rw [if_pos hc20] at hF
          refine jx_aload_n E dX5_thingItem_94 4 rfl ?_
          refine jx_iload_n E dX5_thingItem_95 3 rfl ?_
          refine jx_iload_n E dX5_thingItem_96 5 rfl ?_
          refine jx_iload_n E dX5_thingItem_97 2 rfl ?_
          refine jx_iload E dX5_thingItem_98 1 rfl ?_
          refine jx_iload E dX5_thingItem_100 0 rfl ?_
          obtain ⟨v21, hc21, hF⟩ := jx_bind hF
          try dsimp only at hF
          refine jx_callVv (As := [.int (v15 0 15), .int x1, .int r16, .int r17, .int 0]) (st := []) (h := 0) E dX5_thingItem_102 5 rfl (k_X5_builds hI (v15 0 15) x1 r16 r17 0 v18 v21 hc21) (gb_V (List.mem_cons_of_mem _ tw_357) (List.mem_cons_of_mem _ tw_358) (List.mem_cons_of_mem _ tw_359) (List.mem_cons_of_mem _ tw_325) tw_356) rfl rfl rfl dd_X5_builds rfl (Nat.le_of_ble_eq_true rfl) s_M0 rfl ⟨by decide, by decide⟩ ⟨Nat.le_refl 0, Nat.le_refl 0⟩ (Nat.le_of_ble_eq_true rfl) ?_
          obtain rfl := Option.some.inj hF
          exact jx_vret E dX5_thingItem_105 rfl
      · rw [if_pos hc19] at hF
        refine jx_aload_n E dX5_thingItem_73 3 rfl ?_
        refine jx_ldc2 (x := 16819668) E dX5_thingItem_74 (List.mem_cons_of_mem _ tw_547) ?_
        refine jx_iconst (x := 3) E dX5_thingItem_77 (by decide) ?_
        obtain ⟨⟨r22, v22⟩, hc22, hF⟩ := jx_bind hF
        try dsimp only at hF
        refine jx_callVi (As := [.long 16819668, .int 3]) (st := []) (h := 0) E dX5_thingItem_78 2 rfl (k_X5_numberBehind hI 16819668 3 v18 r22 v22 hc22) (gb_V (List.mem_cons_of_mem _ tw_543) (List.mem_cons_of_mem _ tw_544) (List.mem_cons_of_mem _ tw_545) (List.mem_cons_of_mem _ tw_325) tw_542) rfl rfl rfl dd_X5_numberBehind rfl (Nat.le_of_ble_eq_true rfl) s_M0 rfl ⟨by decide, by decide⟩ ⟨Nat.le_refl 0, Nat.le_refl 0⟩ (Nat.le_of_ble_eq_true rfl) ?_
        refine jx_goto (tgt := 85) E dX5_thingItem_81 (by decide) ?_
        refine jx_istore (lv' := [(5, .int r22), (4, .int r17), (3, .int r16), (2, .int (v15 0 15)), (0, .ref (ad 0)), (1, .int x1)]) E dX5_thingItem_85 (by decide) rfl ?_
        refine jx_aload_n E dX5_thingItem_87 4 rfl ?_
        refine jx_geti (C := RX5) (T := TX5) (M := 21) (k := 16) E dX5_thingItem_88 (Nat.le_of_ble_eq_true rfl) s_M0 rfl iX5 (by decide) rfl (List.mem_cons_of_mem _ tw_513) rfl ?_
        refine jx_if_ne (tgt := 105) E dX5_thingItem_91 (by decide) (fun hc23 => ?_) (fun hc23 => ?_)
        · rw [if_neg hc23] at hF
          obtain rfl := Option.some.inj hF
          exact jx_vret E dX5_thingItem_105 rfl
        · rw [if_pos hc23] at hF
          refine jx_aload_n E dX5_thingItem_94 4 rfl ?_
          refine jx_iload_n E dX5_thingItem_95 3 rfl ?_
          refine jx_iload_n E dX5_thingItem_96 5 rfl ?_
          refine jx_iload_n E dX5_thingItem_97 2 rfl ?_
          refine jx_iload E dX5_thingItem_98 1 rfl ?_
          refine jx_iload E dX5_thingItem_100 0 rfl ?_
          obtain ⟨v24, hc24, hF⟩ := jx_bind hF
          try dsimp only at hF
          refine jx_callVv (As := [.int (v15 0 15), .int x1, .int r16, .int r17, .int r22]) (st := []) (h := 0) E dX5_thingItem_102 5 rfl (k_X5_builds hI (v15 0 15) x1 r16 r17 r22 v22 v24 hc24) (gb_V (List.mem_cons_of_mem _ tw_357) (List.mem_cons_of_mem _ tw_358) (List.mem_cons_of_mem _ tw_359) (List.mem_cons_of_mem _ tw_325) tw_356) rfl rfl rfl dd_X5_builds rfl (Nat.le_of_ble_eq_true rfl) s_M0 rfl ⟨by decide, by decide⟩ ⟨Nat.le_refl 0, Nat.le_refl 0⟩ (Nat.le_of_ble_eq_true rfl) ?_
          obtain rfl := Option.some.inj hF
          exact jx_vret E dX5_thingItem_105 rfl
  · rw [if_pos hc3] at hF
    refine jx_iconst (x := 1) E dX5_thingItem_17 (by decide) ?_
    refine jx_goto (tgt := 22) E dX5_thingItem_18 (by decide) ?_
    obtain ⟨v25, hc25, hF⟩ := jx_bind hF
    try dsimp only at hF
    refine jx_callVv (As := [.int 1]) (st := []) (h := 0) E dX5_thingItem_22 1 rfl (k_X5_needs hI 1 v2 v25 hc25) (gb_V (List.mem_cons_of_mem _ tw_522) (List.mem_cons_of_mem _ tw_523) (List.mem_cons_of_mem _ tw_524) (List.mem_cons_of_mem _ tw_325) tw_521) rfl rfl rfl dd_X5_needs rfl (Nat.le_of_ble_eq_true rfl) s_M0 rfl ⟨by decide, by decide⟩ ⟨Nat.le_refl 0, Nat.le_refl 0⟩ (Nat.le_of_ble_eq_true rfl) ?_
    refine jx_aload_n E dX5_thingItem_25 0 rfl ?_
    refine jx_geti (C := RX5) (T := TX5) (M := 21) (k := 16) E dX5_thingItem_26 (Nat.le_of_ble_eq_true rfl) s_M0 rfl iX5 (by decide) rfl (List.mem_cons_of_mem _ tw_513) rfl ?_
    refine jx_if_ne (tgt := 37) E dX5_thingItem_29 (by decide) (fun hc26 => ?_) (fun hc26 => ?_)
    · rw [if_neg hc26] at hF
      refine jx_aload_n E dX5_thingItem_37 0 rfl ?_
      refine jx_geti (C := RX5) (T := TX5) (M := 21) (k := 15) E dX5_thingItem_38 (Nat.le_of_ble_eq_true rfl) s_M0 rfl iX5 (by decide) rfl (List.mem_cons_of_mem _ tw_520) rfl ?_
      refine jx_istore_n (lv' := [(2, .int (v25 0 15)), (0, .ref (ad 0)), (1, .int x1)]) E dX5_thingItem_41 (by decide) rfl ?_
      refine jx_aload_n E dX5_thingItem_42 1 rfl ?_
      refine jx_ldc2 (x := 486) E dX5_thingItem_43 (List.mem_cons_of_mem _ tw_541) ?_
      refine jx_iconst (x := 3) E dX5_thingItem_46 (by decide) ?_
      obtain ⟨⟨r27, v27⟩, hc27, hF⟩ := jx_bind hF
      try dsimp only at hF
      refine jx_callVi (As := [.long 486, .int 3]) (st := []) (h := 0) E dX5_thingItem_47 2 rfl (k_X5_numberBehind hI 486 3 v25 r27 v27 hc27) (gb_V (List.mem_cons_of_mem _ tw_543) (List.mem_cons_of_mem _ tw_544) (List.mem_cons_of_mem _ tw_545) (List.mem_cons_of_mem _ tw_325) tw_542) rfl rfl rfl dd_X5_numberBehind rfl (Nat.le_of_ble_eq_true rfl) s_M0 rfl ⟨by decide, by decide⟩ ⟨Nat.le_refl 0, Nat.le_refl 0⟩ (Nat.le_of_ble_eq_true rfl) ?_
      refine jx_istore_n (lv' := [(3, .int r27), (2, .int (v25 0 15)), (0, .ref (ad 0)), (1, .int x1)]) E dX5_thingItem_50 (by decide) rfl ?_
      refine jx_aload_n E dX5_thingItem_51 2 rfl ?_
      refine jx_ldc2 (x := 271592) E dX5_thingItem_52 (List.mem_cons_of_mem _ tw_546) ?_
      refine jx_bipush (x := 9) E dX5_thingItem_55 (by decide) ?_
      obtain ⟨⟨r28, v28⟩, hc28, hF⟩ := jx_bind hF
      try dsimp only at hF
      refine jx_callVi (As := [.long 271592, .int 9]) (st := []) (h := 0) E dX5_thingItem_57 2 rfl (k_X5_numberBehind hI 271592 9 v27 r28 v28 hc28) (gb_V (List.mem_cons_of_mem _ tw_543) (List.mem_cons_of_mem _ tw_544) (List.mem_cons_of_mem _ tw_545) (List.mem_cons_of_mem _ tw_325) tw_542) rfl rfl rfl dd_X5_numberBehind rfl (Nat.le_of_ble_eq_true rfl) s_M0 rfl ⟨by decide, by decide⟩ ⟨Nat.le_refl 0, Nat.le_refl 0⟩ (Nat.le_of_ble_eq_true rfl) ?_
      refine jx_istore (lv' := [(4, .int r28), (3, .int r27), (2, .int (v25 0 15)), (0, .ref (ad 0)), (1, .int x1)]) E dX5_thingItem_60 (by decide) rfl ?_
      refine jx_aload_n E dX5_thingItem_62 3 rfl ?_
      obtain ⟨⟨r29, v29⟩, hc29, hF⟩ := jx_bind hF
      try dsimp only at hF
      refine jx_callVl (As := []) (st := []) (h := 0) E dX5_thingItem_63 0 rfl (k_X5_word hI  v28 r29 v29 hc29) (gb_V (List.mem_cons_of_mem _ tw_526) (List.mem_cons_of_mem _ tw_527) (List.mem_cons_of_mem _ tw_528) (List.mem_cons_of_mem _ tw_325) tw_525) rfl rfl rfl dd_X5_word rfl (Nat.le_of_ble_eq_true rfl) s_M0 rfl ⟨by decide, by decide⟩ ⟨Nat.le_refl 0, Nat.le_refl 0⟩ (Nat.le_of_ble_eq_true rfl) ?_
      refine jx_ldc2 (x := 16819668) E dX5_thingItem_66 (List.mem_cons_of_mem _ tw_547) ?_
      refine jx_lcmp E dX5_thingItem_69 ?_
      refine jx_if_ne (tgt := 84) E dX5_thingItem_70 (by decide) (fun hc30 => ?_) (fun hc30 => ?_)
      · rw [if_neg hc30] at hF
        refine jx_iconst (x := 0) E dX5_thingItem_84 (by decide) ?_
        refine jx_istore (lv' := [(5, .int 0), (4, .int r28), (3, .int r27), (2, .int (v25 0 15)), (0, .ref (ad 0)), (1, .int x1)]) E dX5_thingItem_85 (by decide) rfl ?_
        refine jx_aload_n E dX5_thingItem_87 4 rfl ?_
        refine jx_geti (C := RX5) (T := TX5) (M := 21) (k := 16) E dX5_thingItem_88 (Nat.le_of_ble_eq_true rfl) s_M0 rfl iX5 (by decide) rfl (List.mem_cons_of_mem _ tw_513) rfl ?_
        refine jx_if_ne (tgt := 105) E dX5_thingItem_91 (by decide) (fun hc31 => ?_) (fun hc31 => ?_)
        · rw [if_neg hc31] at hF
          obtain rfl := Option.some.inj hF
          exact jx_vret E dX5_thingItem_105 rfl
        · rw [if_pos hc31] at hF
          refine jx_aload_n E dX5_thingItem_94 4 rfl ?_
          refine jx_iload_n E dX5_thingItem_95 3 rfl ?_
          refine jx_iload_n E dX5_thingItem_96 5 rfl ?_
          refine jx_iload_n E dX5_thingItem_97 2 rfl ?_
          refine jx_iload E dX5_thingItem_98 1 rfl ?_
          refine jx_iload E dX5_thingItem_100 0 rfl ?_
          obtain ⟨v32, hc32, hF⟩ := jx_bind hF
          try dsimp only at hF
          refine jx_callVv (As := [.int (v25 0 15), .int x1, .int r27, .int r28, .int 0]) (st := []) (h := 0) E dX5_thingItem_102 5 rfl (k_X5_builds hI (v25 0 15) x1 r27 r28 0 v29 v32 hc32) (gb_V (List.mem_cons_of_mem _ tw_357) (List.mem_cons_of_mem _ tw_358) (List.mem_cons_of_mem _ tw_359) (List.mem_cons_of_mem _ tw_325) tw_356) rfl rfl rfl dd_X5_builds rfl (Nat.le_of_ble_eq_true rfl) s_M0 rfl ⟨by decide, by decide⟩ ⟨Nat.le_refl 0, Nat.le_refl 0⟩ (Nat.le_of_ble_eq_true rfl) ?_
          obtain rfl := Option.some.inj hF
          exact jx_vret E dX5_thingItem_105 rfl
      · rw [if_pos hc30] at hF
        refine jx_aload_n E dX5_thingItem_73 3 rfl ?_
        refine jx_ldc2 (x := 16819668) E dX5_thingItem_74 (List.mem_cons_of_mem _ tw_547) ?_
        refine jx_iconst (x := 3) E dX5_thingItem_77 (by decide) ?_
        obtain ⟨⟨r33, v33⟩, hc33, hF⟩ := jx_bind hF
        try dsimp only at hF
        refine jx_callVi (As := [.long 16819668, .int 3]) (st := []) (h := 0) E dX5_thingItem_78 2 rfl (k_X5_numberBehind hI 16819668 3 v29 r33 v33 hc33) (gb_V (List.mem_cons_of_mem _ tw_543) (List.mem_cons_of_mem _ tw_544) (List.mem_cons_of_mem _ tw_545) (List.mem_cons_of_mem _ tw_325) tw_542) rfl rfl rfl dd_X5_numberBehind rfl (Nat.le_of_ble_eq_true rfl) s_M0 rfl ⟨by decide, by decide⟩ ⟨Nat.le_refl 0, Nat.le_refl 0⟩ (Nat.le_of_ble_eq_true rfl) ?_
        refine jx_goto (tgt := 85) E dX5_thingItem_81 (by decide) ?_
        refine jx_istore (lv' := [(5, .int r33), (4, .int r28), (3, .int r27), (2, .int (v25 0 15)), (0, .ref (ad 0)), (1, .int x1)]) E dX5_thingItem_85 (by decide) rfl ?_
        refine jx_aload_n E dX5_thingItem_87 4 rfl ?_
        refine jx_geti (C := RX5) (T := TX5) (M := 21) (k := 16) E dX5_thingItem_88 (Nat.le_of_ble_eq_true rfl) s_M0 rfl iX5 (by decide) rfl (List.mem_cons_of_mem _ tw_513) rfl ?_
        refine jx_if_ne (tgt := 105) E dX5_thingItem_91 (by decide) (fun hc34 => ?_) (fun hc34 => ?_)
        · rw [if_neg hc34] at hF
          obtain rfl := Option.some.inj hF
          exact jx_vret E dX5_thingItem_105 rfl
        · rw [if_pos hc34] at hF
          refine jx_aload_n E dX5_thingItem_94 4 rfl ?_
          refine jx_iload_n E dX5_thingItem_95 3 rfl ?_
          refine jx_iload_n E dX5_thingItem_96 5 rfl ?_
          refine jx_iload_n E dX5_thingItem_97 2 rfl ?_
          refine jx_iload E dX5_thingItem_98 1 rfl ?_
          refine jx_iload E dX5_thingItem_100 0 rfl ?_
          obtain ⟨v35, hc35, hF⟩ := jx_bind hF
          try dsimp only at hF
          refine jx_callVv (As := [.int (v25 0 15), .int x1, .int r27, .int r28, .int r33]) (st := []) (h := 0) E dX5_thingItem_102 5 rfl (k_X5_builds hI (v25 0 15) x1 r27 r28 r33 v33 v35 hc35) (gb_V (List.mem_cons_of_mem _ tw_357) (List.mem_cons_of_mem _ tw_358) (List.mem_cons_of_mem _ tw_359) (List.mem_cons_of_mem _ tw_325) tw_356) rfl rfl rfl dd_X5_builds rfl (Nat.le_of_ble_eq_true rfl) s_M0 rfl ⟨by decide, by decide⟩ ⟨Nat.le_refl 0, Nat.le_refl 0⟩ (Nat.le_of_ble_eq_true rfl) ?_
          obtain rfl := Option.some.inj hF
          exact jx_vret E dX5_thingItem_105 rfl
    · rw [if_pos hc26] at hF
      refine jx_aload_n E dX5_thingItem_32 0 rfl ?_
      refine jx_iconst (x := 1) E dX5_thingItem_33 (by decide) ?_
      obtain ⟨v36, hc36, hF⟩ := jx_bind hF
      try dsimp only at hF
      refine jx_callVv (As := [.int 1]) (st := []) (h := 0) E dX5_thingItem_34 1 rfl (k_X5_lotTold hI 1 v25 v36 hc36) (gb_V (List.mem_cons_of_mem _ tw_549) (List.mem_cons_of_mem _ tw_550) (List.mem_cons_of_mem _ tw_551) (List.mem_cons_of_mem _ tw_325) tw_548) rfl rfl rfl dd_X5_lotTold rfl (Nat.le_of_ble_eq_true rfl) s_M0 rfl ⟨by decide, by decide⟩ ⟨Nat.le_refl 0, Nat.le_refl 0⟩ (Nat.le_of_ble_eq_true rfl) ?_
      refine jx_aload_n E dX5_thingItem_37 0 rfl ?_
      refine jx_geti (C := RX5) (T := TX5) (M := 21) (k := 15) E dX5_thingItem_38 (Nat.le_of_ble_eq_true rfl) s_M0 rfl iX5 (by decide) rfl (List.mem_cons_of_mem _ tw_520) rfl ?_
      refine jx_istore_n (lv' := [(2, .int (v36 0 15)), (0, .ref (ad 0)), (1, .int x1)]) E dX5_thingItem_41 (by decide) rfl ?_
      refine jx_aload_n E dX5_thingItem_42 1 rfl ?_
      refine jx_ldc2 (x := 486) E dX5_thingItem_43 (List.mem_cons_of_mem _ tw_541) ?_
      refine jx_iconst (x := 3) E dX5_thingItem_46 (by decide) ?_
      obtain ⟨⟨r37, v37⟩, hc37, hF⟩ := jx_bind hF
      try dsimp only at hF
      refine jx_callVi (As := [.long 486, .int 3]) (st := []) (h := 0) E dX5_thingItem_47 2 rfl (k_X5_numberBehind hI 486 3 v36 r37 v37 hc37) (gb_V (List.mem_cons_of_mem _ tw_543) (List.mem_cons_of_mem _ tw_544) (List.mem_cons_of_mem _ tw_545) (List.mem_cons_of_mem _ tw_325) tw_542) rfl rfl rfl dd_X5_numberBehind rfl (Nat.le_of_ble_eq_true rfl) s_M0 rfl ⟨by decide, by decide⟩ ⟨Nat.le_refl 0, Nat.le_refl 0⟩ (Nat.le_of_ble_eq_true rfl) ?_
      refine jx_istore_n (lv' := [(3, .int r37), (2, .int (v36 0 15)), (0, .ref (ad 0)), (1, .int x1)]) E dX5_thingItem_50 (by decide) rfl ?_
      refine jx_aload_n E dX5_thingItem_51 2 rfl ?_
      refine jx_ldc2 (x := 271592) E dX5_thingItem_52 (List.mem_cons_of_mem _ tw_546) ?_
      refine jx_bipush (x := 9) E dX5_thingItem_55 (by decide) ?_
      obtain ⟨⟨r38, v38⟩, hc38, hF⟩ := jx_bind hF
      try dsimp only at hF
      refine jx_callVi (As := [.long 271592, .int 9]) (st := []) (h := 0) E dX5_thingItem_57 2 rfl (k_X5_numberBehind hI 271592 9 v37 r38 v38 hc38) (gb_V (List.mem_cons_of_mem _ tw_543) (List.mem_cons_of_mem _ tw_544) (List.mem_cons_of_mem _ tw_545) (List.mem_cons_of_mem _ tw_325) tw_542) rfl rfl rfl dd_X5_numberBehind rfl (Nat.le_of_ble_eq_true rfl) s_M0 rfl ⟨by decide, by decide⟩ ⟨Nat.le_refl 0, Nat.le_refl 0⟩ (Nat.le_of_ble_eq_true rfl) ?_
      refine jx_istore (lv' := [(4, .int r38), (3, .int r37), (2, .int (v36 0 15)), (0, .ref (ad 0)), (1, .int x1)]) E dX5_thingItem_60 (by decide) rfl ?_
      refine jx_aload_n E dX5_thingItem_62 3 rfl ?_
      obtain ⟨⟨r39, v39⟩, hc39, hF⟩ := jx_bind hF
      try dsimp only at hF
      refine jx_callVl (As := []) (st := []) (h := 0) E dX5_thingItem_63 0 rfl (k_X5_word hI  v38 r39 v39 hc39) (gb_V (List.mem_cons_of_mem _ tw_526) (List.mem_cons_of_mem _ tw_527) (List.mem_cons_of_mem _ tw_528) (List.mem_cons_of_mem _ tw_325) tw_525) rfl rfl rfl dd_X5_word rfl (Nat.le_of_ble_eq_true rfl) s_M0 rfl ⟨by decide, by decide⟩ ⟨Nat.le_refl 0, Nat.le_refl 0⟩ (Nat.le_of_ble_eq_true rfl) ?_
      refine jx_ldc2 (x := 16819668) E dX5_thingItem_66 (List.mem_cons_of_mem _ tw_547) ?_
      refine jx_lcmp E dX5_thingItem_69 ?_
      refine jx_if_ne (tgt := 84) E dX5_thingItem_70 (by decide) (fun hc40 => ?_) (fun hc40 => ?_)
      · rw [if_neg hc40] at hF
        refine jx_iconst (x := 0) E dX5_thingItem_84 (by decide) ?_
        refine jx_istore (lv' := [(5, .int 0), (4, .int r38), (3, .int r37), (2, .int (v36 0 15)), (0, .ref (ad 0)), (1, .int x1)]) E dX5_thingItem_85 (by decide) rfl ?_
        refine jx_aload_n E dX5_thingItem_87 4 rfl ?_
        refine jx_geti (C := RX5) (T := TX5) (M := 21) (k := 16) E dX5_thingItem_88 (Nat.le_of_ble_eq_true rfl) s_M0 rfl iX5 (by decide) rfl (List.mem_cons_of_mem _ tw_513) rfl ?_
        refine jx_if_ne (tgt := 105) E dX5_thingItem_91 (by decide) (fun hc41 => ?_) (fun hc41 => ?_)
        · rw [if_neg hc41] at hF
          obtain rfl := Option.some.inj hF
          exact jx_vret E dX5_thingItem_105 rfl
        · rw [if_pos hc41] at hF
          refine jx_aload_n E dX5_thingItem_94 4 rfl ?_
          refine jx_iload_n E dX5_thingItem_95 3 rfl ?_
          refine jx_iload_n E dX5_thingItem_96 5 rfl ?_
          refine jx_iload_n E dX5_thingItem_97 2 rfl ?_
          refine jx_iload E dX5_thingItem_98 1 rfl ?_
          refine jx_iload E dX5_thingItem_100 0 rfl ?_
          obtain ⟨v42, hc42, hF⟩ := jx_bind hF
          try dsimp only at hF
          refine jx_callVv (As := [.int (v36 0 15), .int x1, .int r37, .int r38, .int 0]) (st := []) (h := 0) E dX5_thingItem_102 5 rfl (k_X5_builds hI (v36 0 15) x1 r37 r38 0 v39 v42 hc42) (gb_V (List.mem_cons_of_mem _ tw_357) (List.mem_cons_of_mem _ tw_358) (List.mem_cons_of_mem _ tw_359) (List.mem_cons_of_mem _ tw_325) tw_356) rfl rfl rfl dd_X5_builds rfl (Nat.le_of_ble_eq_true rfl) s_M0 rfl ⟨by decide, by decide⟩ ⟨Nat.le_refl 0, Nat.le_refl 0⟩ (Nat.le_of_ble_eq_true rfl) ?_
          obtain rfl := Option.some.inj hF
          exact jx_vret E dX5_thingItem_105 rfl
      · rw [if_pos hc40] at hF
        refine jx_aload_n E dX5_thingItem_73 3 rfl ?_
        refine jx_ldc2 (x := 16819668) E dX5_thingItem_74 (List.mem_cons_of_mem _ tw_547) ?_
        refine jx_iconst (x := 3) E dX5_thingItem_77 (by decide) ?_
        obtain ⟨⟨r43, v43⟩, hc43, hF⟩ := jx_bind hF
        try dsimp only at hF
        refine jx_callVi (As := [.long 16819668, .int 3]) (st := []) (h := 0) E dX5_thingItem_78 2 rfl (k_X5_numberBehind hI 16819668 3 v39 r43 v43 hc43) (gb_V (List.mem_cons_of_mem _ tw_543) (List.mem_cons_of_mem _ tw_544) (List.mem_cons_of_mem _ tw_545) (List.mem_cons_of_mem _ tw_325) tw_542) rfl rfl rfl dd_X5_numberBehind rfl (Nat.le_of_ble_eq_true rfl) s_M0 rfl ⟨by decide, by decide⟩ ⟨Nat.le_refl 0, Nat.le_refl 0⟩ (Nat.le_of_ble_eq_true rfl) ?_
        refine jx_goto (tgt := 85) E dX5_thingItem_81 (by decide) ?_
        refine jx_istore (lv' := [(5, .int r43), (4, .int r38), (3, .int r37), (2, .int (v36 0 15)), (0, .ref (ad 0)), (1, .int x1)]) E dX5_thingItem_85 (by decide) rfl ?_
        refine jx_aload_n E dX5_thingItem_87 4 rfl ?_
        refine jx_geti (C := RX5) (T := TX5) (M := 21) (k := 16) E dX5_thingItem_88 (Nat.le_of_ble_eq_true rfl) s_M0 rfl iX5 (by decide) rfl (List.mem_cons_of_mem _ tw_513) rfl ?_
        refine jx_if_ne (tgt := 105) E dX5_thingItem_91 (by decide) (fun hc44 => ?_) (fun hc44 => ?_)
        · rw [if_neg hc44] at hF
          obtain rfl := Option.some.inj hF
          exact jx_vret E dX5_thingItem_105 rfl
        · rw [if_pos hc44] at hF
          refine jx_aload_n E dX5_thingItem_94 4 rfl ?_
          refine jx_iload_n E dX5_thingItem_95 3 rfl ?_
          refine jx_iload_n E dX5_thingItem_96 5 rfl ?_
          refine jx_iload_n E dX5_thingItem_97 2 rfl ?_
          refine jx_iload E dX5_thingItem_98 1 rfl ?_
          refine jx_iload E dX5_thingItem_100 0 rfl ?_
          obtain ⟨v45, hc45, hF⟩ := jx_bind hF
          try dsimp only at hF
          refine jx_callVv (As := [.int (v36 0 15), .int x1, .int r37, .int r38, .int r43]) (st := []) (h := 0) E dX5_thingItem_102 5 rfl (k_X5_builds hI (v36 0 15) x1 r37 r38 r43 v43 v45 hc45) (gb_V (List.mem_cons_of_mem _ tw_357) (List.mem_cons_of_mem _ tw_358) (List.mem_cons_of_mem _ tw_359) (List.mem_cons_of_mem _ tw_325) tw_356) rfl rfl rfl dd_X5_builds rfl (Nat.le_of_ble_eq_true rfl) s_M0 rfl ⟨by decide, by decide⟩ ⟨Nat.le_refl 0, Nat.le_refl 0⟩ (Nat.le_of_ble_eq_true rfl) ?_
          obtain rfl := Option.some.inj hF
          exact jx_vret E dX5_thingItem_105 rfl
def f_X5_windowItem  (v : jx_V) : Option (jx_V) := (if 10 ≤ (v 1 1) then ((f_X5_needs 0 v).bind (fun v2 => ((f_X5_numberBehind 52 24 v2).bind (fun (r3, v3) => ((f_X5_numberBehind 12769452 9 v3).bind (fun (r4, v4) => ((f_X5_numberBehind 23609 3 v4).bind (fun (r5, v5) => ((f_X5_numberBehind 6642 3 v5).bind (fun (r6, v6) => (if (v6 0 16) = 0 then ((f_X5_newWindow r3 r4 r5 r6 v6).bind (fun (r8, v8) => (some v8))) else (some v6)))))))))))) else ((f_X5_needs 1 v).bind (fun v9 => ((f_X5_numberBehind 52 24 v9).bind (fun (r10, v10) => ((f_X5_numberBehind 12769452 9 v10).bind (fun (r11, v11) => ((f_X5_numberBehind 23609 3 v11).bind (fun (r12, v12) => ((f_X5_numberBehind 6642 3 v12).bind (fun (r13, v13) => (if (v13 0 16) = 0 then ((f_X5_newWindow r10 r11 r12 r13 v13).bind (fun (r15, v15) => (some v15))) else (some v13)))))))))))))
def rm_X5_windowItem : Room := { frames := 6, cells := 0, slots := 0, locals := 136 }
set_option maxHeartbeats 4000000 in
set_option maxRecDepth 100000 in
theorem k_X5_windowItem {l : Launch} {D : va_G} {cI cJ : ClassId} {ad : Nat → Nat} {A : Nat → Prop} (hI : jx_inj 13 ad A)  (v : jx_V) (v' : jx_V) (hF : f_X5_windowItem  v = some v') : jx_Cv l D vwCl 13 cI cJ ad shM A ex_M yX5_windowItem (Cond.code yX5_windowItem cX5_windowItem 6 (none) :: bigT) rm_X5_windowItem [.ref (ad 0)] v v' := by
  unfold f_X5_windowItem at hF
  refine jx_enterv bigT RX5 cX5_windowItem 6 (none) [(0, .ref (ad 0))] hI (ex_M_ok A) (by decide +kernel) rfl (Nat.le_of_ble_eq_true rfl) rfl rfl ?_
  intro p e s m args below meth c E
  have iX5 : ∀ w ∈ u_ws RX5 TX5 21, w ∈ (Cond.code yX5_windowItem cX5_windowItem 6 (none) :: bigT) := fun w h => List.mem_cons_of_mem _ (uw_X5 w h)
  refine jx_aload_n E dX5_windowItem_0 0 rfl ?_
  refine jx_aload_n E dX5_windowItem_1 0 rfl ?_
  refine jx_getr (C := RX5) (T := TX5) (M := 21) (k := 0) E dX5_windowItem_2 (Nat.le_of_ble_eq_true rfl) s_M0 rfl iX5 (by decide) rfl (List.mem_cons_of_mem _ tw_328) rfl ?_
  refine jx_iconst (x := 1) E dX5_windowItem_5 (by decide) ?_
  refine jx_iald (h := 1) (j := 1) E dX5_windowItem_6 (Nat.le_of_ble_eq_true rfl) s_M1 (by decide) (by decide) ?_
  refine jx_bipush (x := 10) E dX5_windowItem_7 (by decide) ?_
  refine jx_icmp_ge (tgt := 16) E dX5_windowItem_9 (by decide) (fun hc1 => ?_) (fun hc1 => ?_)
  · rw [if_pos hc1] at hF
    refine jx_iconst (x := 0) E dX5_windowItem_16 (by decide) ?_
    obtain ⟨v2, hc2, hF⟩ := jx_bind hF
    try dsimp only at hF
    refine jx_callVv (As := [.int 0]) (st := []) (h := 0) E dX5_windowItem_17 1 rfl (k_X5_needs hI 0 v v2 hc2) (gb_V (List.mem_cons_of_mem _ tw_522) (List.mem_cons_of_mem _ tw_523) (List.mem_cons_of_mem _ tw_524) (List.mem_cons_of_mem _ tw_325) tw_521) rfl rfl rfl dd_X5_needs rfl (Nat.le_of_ble_eq_true rfl) s_M0 rfl ⟨by decide, by decide⟩ ⟨Nat.le_refl 0, Nat.le_refl 0⟩ (Nat.le_of_ble_eq_true rfl) ?_
    refine jx_aload_n E dX5_windowItem_20 0 rfl ?_
    refine jx_ldc2 (x := 52) E dX5_windowItem_21 (List.mem_cons_of_mem _ tw_540) ?_
    refine jx_bipush (x := 24) E dX5_windowItem_24 (by decide) ?_
    obtain ⟨⟨r3, v3⟩, hc3, hF⟩ := jx_bind hF
    try dsimp only at hF
    refine jx_callVi (As := [.long 52, .int 24]) (st := []) (h := 0) E dX5_windowItem_26 2 rfl (k_X5_numberBehind hI 52 24 v2 r3 v3 hc3) (gb_V (List.mem_cons_of_mem _ tw_543) (List.mem_cons_of_mem _ tw_544) (List.mem_cons_of_mem _ tw_545) (List.mem_cons_of_mem _ tw_325) tw_542) rfl rfl rfl dd_X5_numberBehind rfl (Nat.le_of_ble_eq_true rfl) s_M0 rfl ⟨by decide, by decide⟩ ⟨Nat.le_refl 0, Nat.le_refl 0⟩ (Nat.le_of_ble_eq_true rfl) ?_
    refine jx_istore_n (lv' := [(1, .int r3), (0, .ref (ad 0))]) E dX5_windowItem_29 (by decide) rfl ?_
    refine jx_aload_n E dX5_windowItem_30 1 rfl ?_
    refine jx_ldc2 (x := 12769452) E dX5_windowItem_31 (List.mem_cons_of_mem _ tw_552) ?_
    refine jx_bipush (x := 9) E dX5_windowItem_34 (by decide) ?_
    obtain ⟨⟨r4, v4⟩, hc4, hF⟩ := jx_bind hF
    try dsimp only at hF
    refine jx_callVi (As := [.long 12769452, .int 9]) (st := []) (h := 0) E dX5_windowItem_36 2 rfl (k_X5_numberBehind hI 12769452 9 v3 r4 v4 hc4) (gb_V (List.mem_cons_of_mem _ tw_543) (List.mem_cons_of_mem _ tw_544) (List.mem_cons_of_mem _ tw_545) (List.mem_cons_of_mem _ tw_325) tw_542) rfl rfl rfl dd_X5_numberBehind rfl (Nat.le_of_ble_eq_true rfl) s_M0 rfl ⟨by decide, by decide⟩ ⟨Nat.le_refl 0, Nat.le_refl 0⟩ (Nat.le_of_ble_eq_true rfl) ?_
    refine jx_istore_n (lv' := [(2, .int r4), (1, .int r3), (0, .ref (ad 0))]) E dX5_windowItem_39 (by decide) rfl ?_
    refine jx_aload_n E dX5_windowItem_40 2 rfl ?_
    refine jx_ldc2 (x := 23609) E dX5_windowItem_41 (List.mem_cons_of_mem _ tw_553) ?_
    refine jx_iconst (x := 3) E dX5_windowItem_44 (by decide) ?_
    obtain ⟨⟨r5, v5⟩, hc5, hF⟩ := jx_bind hF
    try dsimp only at hF
    refine jx_callVi (As := [.long 23609, .int 3]) (st := []) (h := 0) E dX5_windowItem_45 2 rfl (k_X5_numberBehind hI 23609 3 v4 r5 v5 hc5) (gb_V (List.mem_cons_of_mem _ tw_543) (List.mem_cons_of_mem _ tw_544) (List.mem_cons_of_mem _ tw_545) (List.mem_cons_of_mem _ tw_325) tw_542) rfl rfl rfl dd_X5_numberBehind rfl (Nat.le_of_ble_eq_true rfl) s_M0 rfl ⟨by decide, by decide⟩ ⟨Nat.le_refl 0, Nat.le_refl 0⟩ (Nat.le_of_ble_eq_true rfl) ?_
    refine jx_istore_n (lv' := [(3, .int r5), (2, .int r4), (1, .int r3), (0, .ref (ad 0))]) E dX5_windowItem_48 (by decide) rfl ?_
    refine jx_aload_n E dX5_windowItem_49 3 rfl ?_
    refine jx_ldc2 (x := 6642) E dX5_windowItem_50 (List.mem_cons_of_mem _ tw_554) ?_
    refine jx_iconst (x := 3) E dX5_windowItem_53 (by decide) ?_
    obtain ⟨⟨r6, v6⟩, hc6, hF⟩ := jx_bind hF
    try dsimp only at hF
    refine jx_callVi (As := [.long 6642, .int 3]) (st := []) (h := 0) E dX5_windowItem_54 2 rfl (k_X5_numberBehind hI 6642 3 v5 r6 v6 hc6) (gb_V (List.mem_cons_of_mem _ tw_543) (List.mem_cons_of_mem _ tw_544) (List.mem_cons_of_mem _ tw_545) (List.mem_cons_of_mem _ tw_325) tw_542) rfl rfl rfl dd_X5_numberBehind rfl (Nat.le_of_ble_eq_true rfl) s_M0 rfl ⟨by decide, by decide⟩ ⟨Nat.le_refl 0, Nat.le_refl 0⟩ (Nat.le_of_ble_eq_true rfl) ?_
    refine jx_istore (lv' := [(4, .int r6), (3, .int r5), (2, .int r4), (1, .int r3), (0, .ref (ad 0))]) E dX5_windowItem_57 (by decide) rfl ?_
    refine jx_aload_n E dX5_windowItem_59 4 rfl ?_
    refine jx_geti (C := RX5) (T := TX5) (M := 21) (k := 16) E dX5_windowItem_60 (Nat.le_of_ble_eq_true rfl) s_M0 rfl iX5 (by decide) rfl (List.mem_cons_of_mem _ tw_513) rfl ?_
    refine jx_if_ne (tgt := 77) E dX5_windowItem_63 (by decide) (fun hc7 => ?_) (fun hc7 => ?_)
    · rw [if_neg hc7] at hF
      obtain rfl := Option.some.inj hF
      exact jx_vret E dX5_windowItem_77 rfl
    · rw [if_pos hc7] at hF
      refine jx_aload_n E dX5_windowItem_66 4 rfl ?_
      refine jx_iload_n E dX5_windowItem_67 3 rfl ?_
      refine jx_iload_n E dX5_windowItem_68 2 rfl ?_
      refine jx_iload_n E dX5_windowItem_69 1 rfl ?_
      refine jx_iload E dX5_windowItem_70 0 rfl ?_
      obtain ⟨⟨r8, v8⟩, hc8, hF⟩ := jx_bind hF
      try dsimp only at hF
      refine jx_callVi (As := [.int r3, .int r4, .int r5, .int r6]) (st := []) (h := 0) E dX5_windowItem_72 4 rfl (k_X5_newWindow hI r3 r4 r5 r6 v6 r8 v8 hc8) (gb_V (List.mem_cons_of_mem _ tw_392) (List.mem_cons_of_mem _ tw_393) (List.mem_cons_of_mem _ tw_394) (List.mem_cons_of_mem _ tw_325) tw_391) rfl rfl rfl dd_X5_newWindow rfl (Nat.le_of_ble_eq_true rfl) s_M0 rfl ⟨by decide, by decide⟩ ⟨Nat.le_refl 0, Nat.le_refl 0⟩ (Nat.le_of_ble_eq_true rfl) ?_
      refine jx_istore (lv' := [(5, .int r8), (4, .int r6), (3, .int r5), (2, .int r4), (1, .int r3), (0, .ref (ad 0))]) E dX5_windowItem_75 (by decide) rfl ?_
      obtain rfl := Option.some.inj hF
      exact jx_vret E dX5_windowItem_77 rfl
  · rw [if_neg hc1] at hF
    refine jx_iconst (x := 1) E dX5_windowItem_12 (by decide) ?_
    refine jx_goto (tgt := 17) E dX5_windowItem_13 (by decide) ?_
    obtain ⟨v9, hc9, hF⟩ := jx_bind hF
    try dsimp only at hF
    refine jx_callVv (As := [.int 1]) (st := []) (h := 0) E dX5_windowItem_17 1 rfl (k_X5_needs hI 1 v v9 hc9) (gb_V (List.mem_cons_of_mem _ tw_522) (List.mem_cons_of_mem _ tw_523) (List.mem_cons_of_mem _ tw_524) (List.mem_cons_of_mem _ tw_325) tw_521) rfl rfl rfl dd_X5_needs rfl (Nat.le_of_ble_eq_true rfl) s_M0 rfl ⟨by decide, by decide⟩ ⟨Nat.le_refl 0, Nat.le_refl 0⟩ (Nat.le_of_ble_eq_true rfl) ?_
    refine jx_aload_n E dX5_windowItem_20 0 rfl ?_
    refine jx_ldc2 (x := 52) E dX5_windowItem_21 (List.mem_cons_of_mem _ tw_540) ?_
    refine jx_bipush (x := 24) E dX5_windowItem_24 (by decide) ?_
    obtain ⟨⟨r10, v10⟩, hc10, hF⟩ := jx_bind hF
    try dsimp only at hF
    refine jx_callVi (As := [.long 52, .int 24]) (st := []) (h := 0) E dX5_windowItem_26 2 rfl (k_X5_numberBehind hI 52 24 v9 r10 v10 hc10) (gb_V (List.mem_cons_of_mem _ tw_543) (List.mem_cons_of_mem _ tw_544) (List.mem_cons_of_mem _ tw_545) (List.mem_cons_of_mem _ tw_325) tw_542) rfl rfl rfl dd_X5_numberBehind rfl (Nat.le_of_ble_eq_true rfl) s_M0 rfl ⟨by decide, by decide⟩ ⟨Nat.le_refl 0, Nat.le_refl 0⟩ (Nat.le_of_ble_eq_true rfl) ?_
    refine jx_istore_n (lv' := [(1, .int r10), (0, .ref (ad 0))]) E dX5_windowItem_29 (by decide) rfl ?_
    refine jx_aload_n E dX5_windowItem_30 1 rfl ?_
    refine jx_ldc2 (x := 12769452) E dX5_windowItem_31 (List.mem_cons_of_mem _ tw_552) ?_
    refine jx_bipush (x := 9) E dX5_windowItem_34 (by decide) ?_
    obtain ⟨⟨r11, v11⟩, hc11, hF⟩ := jx_bind hF
    try dsimp only at hF
    refine jx_callVi (As := [.long 12769452, .int 9]) (st := []) (h := 0) E dX5_windowItem_36 2 rfl (k_X5_numberBehind hI 12769452 9 v10 r11 v11 hc11) (gb_V (List.mem_cons_of_mem _ tw_543) (List.mem_cons_of_mem _ tw_544) (List.mem_cons_of_mem _ tw_545) (List.mem_cons_of_mem _ tw_325) tw_542) rfl rfl rfl dd_X5_numberBehind rfl (Nat.le_of_ble_eq_true rfl) s_M0 rfl ⟨by decide, by decide⟩ ⟨Nat.le_refl 0, Nat.le_refl 0⟩ (Nat.le_of_ble_eq_true rfl) ?_
    refine jx_istore_n (lv' := [(2, .int r11), (1, .int r10), (0, .ref (ad 0))]) E dX5_windowItem_39 (by decide) rfl ?_
    refine jx_aload_n E dX5_windowItem_40 2 rfl ?_
    refine jx_ldc2 (x := 23609) E dX5_windowItem_41 (List.mem_cons_of_mem _ tw_553) ?_
    refine jx_iconst (x := 3) E dX5_windowItem_44 (by decide) ?_
    obtain ⟨⟨r12, v12⟩, hc12, hF⟩ := jx_bind hF
    try dsimp only at hF
    refine jx_callVi (As := [.long 23609, .int 3]) (st := []) (h := 0) E dX5_windowItem_45 2 rfl (k_X5_numberBehind hI 23609 3 v11 r12 v12 hc12) (gb_V (List.mem_cons_of_mem _ tw_543) (List.mem_cons_of_mem _ tw_544) (List.mem_cons_of_mem _ tw_545) (List.mem_cons_of_mem _ tw_325) tw_542) rfl rfl rfl dd_X5_numberBehind rfl (Nat.le_of_ble_eq_true rfl) s_M0 rfl ⟨by decide, by decide⟩ ⟨Nat.le_refl 0, Nat.le_refl 0⟩ (Nat.le_of_ble_eq_true rfl) ?_
    refine jx_istore_n (lv' := [(3, .int r12), (2, .int r11), (1, .int r10), (0, .ref (ad 0))]) E dX5_windowItem_48 (by decide) rfl ?_
    refine jx_aload_n E dX5_windowItem_49 3 rfl ?_
    refine jx_ldc2 (x := 6642) E dX5_windowItem_50 (List.mem_cons_of_mem _ tw_554) ?_
    refine jx_iconst (x := 3) E dX5_windowItem_53 (by decide) ?_
    obtain ⟨⟨r13, v13⟩, hc13, hF⟩ := jx_bind hF
    try dsimp only at hF
    refine jx_callVi (As := [.long 6642, .int 3]) (st := []) (h := 0) E dX5_windowItem_54 2 rfl (k_X5_numberBehind hI 6642 3 v12 r13 v13 hc13) (gb_V (List.mem_cons_of_mem _ tw_543) (List.mem_cons_of_mem _ tw_544) (List.mem_cons_of_mem _ tw_545) (List.mem_cons_of_mem _ tw_325) tw_542) rfl rfl rfl dd_X5_numberBehind rfl (Nat.le_of_ble_eq_true rfl) s_M0 rfl ⟨by decide, by decide⟩ ⟨Nat.le_refl 0, Nat.le_refl 0⟩ (Nat.le_of_ble_eq_true rfl) ?_
    refine jx_istore (lv' := [(4, .int r13), (3, .int r12), (2, .int r11), (1, .int r10), (0, .ref (ad 0))]) E dX5_windowItem_57 (by decide) rfl ?_
    refine jx_aload_n E dX5_windowItem_59 4 rfl ?_
    refine jx_geti (C := RX5) (T := TX5) (M := 21) (k := 16) E dX5_windowItem_60 (Nat.le_of_ble_eq_true rfl) s_M0 rfl iX5 (by decide) rfl (List.mem_cons_of_mem _ tw_513) rfl ?_
    refine jx_if_ne (tgt := 77) E dX5_windowItem_63 (by decide) (fun hc14 => ?_) (fun hc14 => ?_)
    · rw [if_neg hc14] at hF
      obtain rfl := Option.some.inj hF
      exact jx_vret E dX5_windowItem_77 rfl
    · rw [if_pos hc14] at hF
      refine jx_aload_n E dX5_windowItem_66 4 rfl ?_
      refine jx_iload_n E dX5_windowItem_67 3 rfl ?_
      refine jx_iload_n E dX5_windowItem_68 2 rfl ?_
      refine jx_iload_n E dX5_windowItem_69 1 rfl ?_
      refine jx_iload E dX5_windowItem_70 0 rfl ?_
      obtain ⟨⟨r15, v15⟩, hc15, hF⟩ := jx_bind hF
      try dsimp only at hF
      refine jx_callVi (As := [.int r10, .int r11, .int r12, .int r13]) (st := []) (h := 0) E dX5_windowItem_72 4 rfl (k_X5_newWindow hI r10 r11 r12 r13 v13 r15 v15 hc15) (gb_V (List.mem_cons_of_mem _ tw_392) (List.mem_cons_of_mem _ tw_393) (List.mem_cons_of_mem _ tw_394) (List.mem_cons_of_mem _ tw_325) tw_391) rfl rfl rfl dd_X5_newWindow rfl (Nat.le_of_ble_eq_true rfl) s_M0 rfl ⟨by decide, by decide⟩ ⟨Nat.le_refl 0, Nat.le_refl 0⟩ (Nat.le_of_ble_eq_true rfl) ?_
      refine jx_istore (lv' := [(5, .int r15), (4, .int r13), (3, .int r12), (2, .int r11), (1, .int r10), (0, .ref (ad 0))]) E dX5_windowItem_75 (by decide) rfl ?_
      obtain rfl := Option.some.inj hF
      exact jx_vret E dX5_windowItem_77 rfl
def f_X5_priceItem  (v : jx_V) : Option (jx_V) := ((f_X5_needs 1 v).bind (fun v1 => ((f_X5_number 0 3 v1).bind (fun v2 => ((f_X5_number 0 99 v2).bind (fun v3 => (if (v3 0 16) = 0 then (if ((3 + (v2 0 15)) < 0 ∨ 181 ≤ Int32.toNatClampNeg (3 + (v2 0 15))) then none else (some (jx_up v3 1 (Int32.toNatClampNeg (3 + (v2 0 15))) (v3 0 15)))) else (some v3))))))))
def rm_X5_priceItem : Room := { frames := 5, cells := 0, slots := 0, locals := 113 }
set_option maxHeartbeats 4000000 in
set_option maxRecDepth 100000 in
theorem k_X5_priceItem {l : Launch} {D : va_G} {cI cJ : ClassId} {ad : Nat → Nat} {A : Nat → Prop} (hI : jx_inj 13 ad A)  (v : jx_V) (v' : jx_V) (hF : f_X5_priceItem  v = some v') : jx_Cv l D vwCl 13 cI cJ ad shM A ex_M yX5_priceItem (Cond.code yX5_priceItem cX5_priceItem 2 (none) :: bigT) rm_X5_priceItem [.ref (ad 0)] v v' := by
  unfold f_X5_priceItem at hF
  refine jx_enterv bigT RX5 cX5_priceItem 2 (none) [(0, .ref (ad 0))] hI (ex_M_ok A) (by decide +kernel) rfl (Nat.le_of_ble_eq_true rfl) rfl rfl ?_
  intro p e s m args below meth c E
  have iX5 : ∀ w ∈ u_ws RX5 TX5 21, w ∈ (Cond.code yX5_priceItem cX5_priceItem 2 (none) :: bigT) := fun w h => List.mem_cons_of_mem _ (uw_X5 w h)
  refine jx_aload_n E dX5_priceItem_0 0 rfl ?_
  refine jx_iconst (x := 1) E dX5_priceItem_1 (by decide) ?_
  obtain ⟨v1, hc1, hF⟩ := jx_bind hF
  try dsimp only at hF
  refine jx_callVv (As := [.int 1]) (st := []) (h := 0) E dX5_priceItem_2 1 rfl (k_X5_needs hI 1 v v1 hc1) (gb_V (List.mem_cons_of_mem _ tw_522) (List.mem_cons_of_mem _ tw_523) (List.mem_cons_of_mem _ tw_524) (List.mem_cons_of_mem _ tw_325) tw_521) rfl rfl rfl dd_X5_needs rfl (Nat.le_of_ble_eq_true rfl) s_M0 rfl ⟨by decide, by decide⟩ ⟨Nat.le_refl 0, Nat.le_refl 0⟩ (Nat.le_of_ble_eq_true rfl) ?_
  refine jx_aload_n E dX5_priceItem_5 0 rfl ?_
  refine jx_iconst (x := 0) E dX5_priceItem_6 (by decide) ?_
  refine jx_iconst (x := 3) E dX5_priceItem_7 (by decide) ?_
  obtain ⟨v2, hc2, hF⟩ := jx_bind hF
  try dsimp only at hF
  refine jx_callVv (As := [.int 0, .int 3]) (st := []) (h := 0) E dX5_priceItem_8 2 rfl (k_X5_number hI 0 3 v1 v2 hc2) (gb_V (List.mem_cons_of_mem _ tw_537) (List.mem_cons_of_mem _ tw_538) (List.mem_cons_of_mem _ tw_539) (List.mem_cons_of_mem _ tw_325) tw_536) rfl rfl rfl dd_X5_number rfl (Nat.le_of_ble_eq_true rfl) s_M0 rfl ⟨by decide, by decide⟩ ⟨Nat.le_refl 0, Nat.le_refl 0⟩ (Nat.le_of_ble_eq_true rfl) ?_
  refine jx_aload_n E dX5_priceItem_11 0 rfl ?_
  refine jx_geti (C := RX5) (T := TX5) (M := 21) (k := 15) E dX5_priceItem_12 (Nat.le_of_ble_eq_true rfl) s_M0 rfl iX5 (by decide) rfl (List.mem_cons_of_mem _ tw_520) rfl ?_
  refine jx_istore_n (lv' := [(1, .int (v2 0 15)), (0, .ref (ad 0))]) E dX5_priceItem_15 (by decide) rfl ?_
  refine jx_aload_n E dX5_priceItem_16 1 rfl ?_
  refine jx_iconst (x := 0) E dX5_priceItem_17 (by decide) ?_
  refine jx_bipush (x := 99) E dX5_priceItem_18 (by decide) ?_
  obtain ⟨v3, hc3, hF⟩ := jx_bind hF
  try dsimp only at hF
  refine jx_callVv (As := [.int 0, .int 99]) (st := []) (h := 0) E dX5_priceItem_20 2 rfl (k_X5_number hI 0 99 v2 v3 hc3) (gb_V (List.mem_cons_of_mem _ tw_537) (List.mem_cons_of_mem _ tw_538) (List.mem_cons_of_mem _ tw_539) (List.mem_cons_of_mem _ tw_325) tw_536) rfl rfl rfl dd_X5_number rfl (Nat.le_of_ble_eq_true rfl) s_M0 rfl ⟨by decide, by decide⟩ ⟨Nat.le_refl 0, Nat.le_refl 0⟩ (Nat.le_of_ble_eq_true rfl) ?_
  refine jx_aload_n E dX5_priceItem_23 1 rfl ?_
  refine jx_geti (C := RX5) (T := TX5) (M := 21) (k := 16) E dX5_priceItem_24 (Nat.le_of_ble_eq_true rfl) s_M0 rfl iX5 (by decide) rfl (List.mem_cons_of_mem _ tw_513) rfl ?_
  refine jx_if_ne (tgt := 42) E dX5_priceItem_27 (by decide) (fun hc4 => ?_) (fun hc4 => ?_)
  · rw [if_neg hc4] at hF
    obtain rfl := Option.some.inj hF
    exact jx_vret E dX5_priceItem_42 rfl
  · rw [if_pos hc4] at hF
    refine jx_aload_n E dX5_priceItem_30 1 rfl ?_
    refine jx_getr (C := RX5) (T := TX5) (M := 21) (k := 0) E dX5_priceItem_31 (Nat.le_of_ble_eq_true rfl) s_M0 rfl iX5 (by decide) rfl (List.mem_cons_of_mem _ tw_328) rfl ?_
    refine jx_iconst (x := 3) E dX5_priceItem_34 (by decide) ?_
    refine jx_iload_n E dX5_priceItem_35 0 rfl ?_
    refine jx_iadd E dX5_priceItem_36 ?_
    refine jx_aload_n E dX5_priceItem_37 1 rfl ?_
    refine jx_geti (C := RX5) (T := TX5) (M := 21) (k := 15) E dX5_priceItem_38 (Nat.le_of_ble_eq_true rfl) s_M0 rfl iX5 (by decide) rfl (List.mem_cons_of_mem _ tw_520) rfl ?_
    obtain ⟨hg5, hF⟩ := jx_guard hF
    refine jx_iast (h := 1) (j := (Int32.toNatClampNeg (3 + (v2 0 15)))) E dX5_priceItem_41 (Nat.le_of_ble_eq_true rfl) s_M1 hg5 rfl ?_
    obtain rfl := Option.some.inj hF
    exact jx_vret E dX5_priceItem_42 rfl
def f_X5_item  (v : jx_V) : Option (jx_V) := ((f_X5_kindHere v).bind (fun (r1, v1) => (if r1 < 0 then ((f_X5_word v1).bind (fun (r3, v3) => (if (lg_cmp r3 781652471) = 0 then ((f_X5_windowItem v3).bind (fun v28 => (some v28))) else ((f_X5_word v3).bind (fun (r5, v5) => (if (lg_cmp r5 17376357) = 0 then ((f_X5_priceItem v5).bind (fun v27 => (some v27))) else ((f_X5_word v5).bind (fun (r7, v7) => (if (lg_cmp r7 3544114) = 0 then ((f_X5_needs 1 v7).bind (fun v18 => (if (v18 0 16) = 0 then ((f_X5_lotTold 0 v18).bind (fun v23 => (if (v23 0 16) = 0 then ((f_X5_at (v23 0 15) 0 v23).bind (fun (r25, v25) => (if (r25 < 0 ∨ 181 ≤ Int32.toNatClampNeg r25) then none else (some (jx_up v25 1 (Int32.toNatClampNeg r25) (-1)))))) else (some v23)))) else (if (v18 0 16) = 0 then ((f_X5_at (v18 0 15) 0 v18).bind (fun (r21, v21) => (if (r21 < 0 ∨ 181 ≤ Int32.toNatClampNeg r21) then none else (some (jx_up v21 1 (Int32.toNatClampNeg r21) (-1)))))) else (some v18))))) else ((f_X5_needs 0 v7).bind (fun v9 => (if (v9 0 16) = 0 then ((f_X5_lotTold 0 v9).bind (fun v14 => (if (v14 0 16) = 0 then ((f_X5_at (v14 0 15) 0 v14).bind (fun (r16, v16) => (if (r16 < 0 ∨ 181 ≤ Int32.toNatClampNeg r16) then none else (some (jx_up v16 1 (Int32.toNatClampNeg r16) (-1)))))) else (some v14)))) else (if (v9 0 16) = 0 then ((f_X5_at (v9 0 15) 0 v9).bind (fun (r12, v12) => (if (r12 < 0 ∨ 181 ≤ Int32.toNatClampNeg r12) then none else (some (jx_up v12 1 (Int32.toNatClampNeg r12) (-1)))))) else (some v9)))))))))))))) else ((f_X5_thingItem r1 v1).bind (fun v29 => (some v29))))))
def rm_X5_item : Room := { frames := 7, cells := 0, slots := 0, locals := 161 }
set_option maxHeartbeats 4000000 in
set_option maxRecDepth 100000 in
theorem k_X5_item {l : Launch} {D : va_G} {cI cJ : ClassId} {ad : Nat → Nat} {A : Nat → Prop} (hI : jx_inj 13 ad A)  (v : jx_V) (v' : jx_V) (hF : f_X5_item  v = some v') : jx_Cv l D vwCl 13 cI cJ ad shM A ex_M yX5_item (Cond.code yX5_item cX5_item 2 (none) :: bigT) rm_X5_item [.ref (ad 0)] v v' := by
  unfold f_X5_item at hF
  refine jx_enterv bigT RX5 cX5_item 2 (none) [(0, .ref (ad 0))] hI (ex_M_ok A) (by decide +kernel) rfl (Nat.le_of_ble_eq_true rfl) rfl rfl ?_
  intro p e s m args below meth c E
  have iX5 : ∀ w ∈ u_ws RX5 TX5 21, w ∈ (Cond.code yX5_item cX5_item 2 (none) :: bigT) := fun w h => List.mem_cons_of_mem _ (uw_X5 w h)
  refine jx_aload_n E dX5_item_0 0 rfl ?_
  obtain ⟨⟨r1, v1⟩, hc1, hF⟩ := jx_bind hF
  try dsimp only at hF
  refine jx_callVi (As := []) (st := []) (h := 0) E dX5_item_1 0 rfl (k_X5_kindHere hI  v r1 v1 hc1) (gb_V (List.mem_cons_of_mem _ tw_556) (List.mem_cons_of_mem _ tw_557) (List.mem_cons_of_mem _ tw_558) (List.mem_cons_of_mem _ tw_325) tw_555) rfl rfl rfl dd_X5_kindHere rfl (Nat.le_of_ble_eq_true rfl) s_M0 rfl ⟨by decide, by decide⟩ ⟨Nat.le_refl 0, Nat.le_refl 0⟩ (Nat.le_of_ble_eq_true rfl) ?_
  refine jx_istore_n (lv' := [(1, .int r1), (0, .ref (ad 0))]) E dX5_item_4 (by decide) rfl ?_
  refine jx_iload_n E dX5_item_5 0 rfl ?_
  refine jx_if_lt (tgt := 17) E dX5_item_6 (by decide) (fun hc2 => ?_) (fun hc2 => ?_)
  · rw [if_pos hc2] at hF
    refine jx_aload_n E dX5_item_17 1 rfl ?_
    obtain ⟨⟨r3, v3⟩, hc3, hF⟩ := jx_bind hF
    try dsimp only at hF
    refine jx_callVl (As := []) (st := []) (h := 0) E dX5_item_18 0 rfl (k_X5_word hI  v1 r3 v3 hc3) (gb_V (List.mem_cons_of_mem _ tw_526) (List.mem_cons_of_mem _ tw_527) (List.mem_cons_of_mem _ tw_528) (List.mem_cons_of_mem _ tw_325) tw_525) rfl rfl rfl dd_X5_word rfl (Nat.le_of_ble_eq_true rfl) s_M0 rfl ⟨by decide, by decide⟩ ⟨Nat.le_refl 0, Nat.le_refl 0⟩ (Nat.le_of_ble_eq_true rfl) ?_
    refine jx_ldc2 (x := 781652471) E dX5_item_21 (List.mem_cons_of_mem _ tw_559) ?_
    refine jx_lcmp E dX5_item_24 ?_
    refine jx_if_ne (tgt := 35) E dX5_item_25 (by decide) (fun hc4 => ?_) (fun hc4 => ?_)
    · rw [if_neg hc4] at hF
      refine jx_aload_n E dX5_item_35 1 rfl ?_
      obtain ⟨⟨r5, v5⟩, hc5, hF⟩ := jx_bind hF
      try dsimp only at hF
      refine jx_callVl (As := []) (st := []) (h := 0) E dX5_item_36 0 rfl (k_X5_word hI  v3 r5 v5 hc5) (gb_V (List.mem_cons_of_mem _ tw_526) (List.mem_cons_of_mem _ tw_527) (List.mem_cons_of_mem _ tw_528) (List.mem_cons_of_mem _ tw_325) tw_525) rfl rfl rfl dd_X5_word rfl (Nat.le_of_ble_eq_true rfl) s_M0 rfl ⟨by decide, by decide⟩ ⟨Nat.le_refl 0, Nat.le_refl 0⟩ (Nat.le_of_ble_eq_true rfl) ?_
      refine jx_ldc2 (x := 17376357) E dX5_item_39 (List.mem_cons_of_mem _ tw_560) ?_
      refine jx_lcmp E dX5_item_42 ?_
      refine jx_if_ne (tgt := 53) E dX5_item_43 (by decide) (fun hc6 => ?_) (fun hc6 => ?_)
      · rw [if_neg hc6] at hF
        refine jx_aload_n E dX5_item_53 1 rfl ?_
        refine jx_aload_n E dX5_item_54 1 rfl ?_
        obtain ⟨⟨r7, v7⟩, hc7, hF⟩ := jx_bind hF
        try dsimp only at hF
        refine jx_callVl (As := []) (st := [.ref (ad 0)]) (h := 0) E dX5_item_55 0 rfl (k_X5_word hI  v5 r7 v7 hc7) (gb_V (List.mem_cons_of_mem _ tw_526) (List.mem_cons_of_mem _ tw_527) (List.mem_cons_of_mem _ tw_528) (List.mem_cons_of_mem _ tw_325) tw_525) rfl rfl rfl dd_X5_word rfl (Nat.le_of_ble_eq_true rfl) s_M0 rfl ⟨by decide, by decide⟩ ⟨Nat.le_refl 0, Nat.le_refl 0⟩ (Nat.le_of_ble_eq_true rfl) ?_
        refine jx_ldc2 (x := 3544114) E dX5_item_58 (List.mem_cons_of_mem _ tw_561) ?_
        refine jx_lcmp E dX5_item_61 ?_
        refine jx_if_ne (tgt := 69) E dX5_item_62 (by decide) (fun hc8 => ?_) (fun hc8 => ?_)
        · rw [if_neg hc8] at hF
          refine jx_iconst (x := 0) E dX5_item_69 (by decide) ?_
          obtain ⟨v9, hc9, hF⟩ := jx_bind hF
          try dsimp only at hF
          refine jx_callVv (As := [.int 0]) (st := []) (h := 0) E dX5_item_70 1 rfl (k_X5_needs hI 0 v7 v9 hc9) (gb_V (List.mem_cons_of_mem _ tw_522) (List.mem_cons_of_mem _ tw_523) (List.mem_cons_of_mem _ tw_524) (List.mem_cons_of_mem _ tw_325) tw_521) rfl rfl rfl dd_X5_needs rfl (Nat.le_of_ble_eq_true rfl) s_M0 rfl ⟨by decide, by decide⟩ ⟨Nat.le_refl 0, Nat.le_refl 0⟩ (Nat.le_of_ble_eq_true rfl) ?_
          refine jx_aload_n E dX5_item_73 1 rfl ?_
          refine jx_geti (C := RX5) (T := TX5) (M := 21) (k := 16) E dX5_item_74 (Nat.le_of_ble_eq_true rfl) s_M0 rfl iX5 (by decide) rfl (List.mem_cons_of_mem _ tw_513) rfl ?_
          refine jx_if_ne (tgt := 85) E dX5_item_77 (by decide) (fun hc10 => ?_) (fun hc10 => ?_)
          · rw [if_neg hc10] at hF
            refine jx_aload_n E dX5_item_85 1 rfl ?_
            refine jx_geti (C := RX5) (T := TX5) (M := 21) (k := 16) E dX5_item_86 (Nat.le_of_ble_eq_true rfl) s_M0 rfl iX5 (by decide) rfl (List.mem_cons_of_mem _ tw_513) rfl ?_
            refine jx_if_ne (tgt := 106) E dX5_item_89 (by decide) (fun hc11 => ?_) (fun hc11 => ?_)
            · rw [if_neg hc11] at hF
              obtain rfl := Option.some.inj hF
              exact jx_vret E dX5_item_106 rfl
            · rw [if_pos hc11] at hF
              refine jx_aload_n E dX5_item_92 1 rfl ?_
              refine jx_getr (C := RX5) (T := TX5) (M := 21) (k := 0) E dX5_item_93 (Nat.le_of_ble_eq_true rfl) s_M0 rfl iX5 (by decide) rfl (List.mem_cons_of_mem _ tw_328) rfl ?_
              refine jx_aload_n E dX5_item_96 1 rfl ?_
              refine jx_geti (C := RX5) (T := TX5) (M := 21) (k := 15) E dX5_item_97 (Nat.le_of_ble_eq_true rfl) s_M0 rfl iX5 (by decide) rfl (List.mem_cons_of_mem _ tw_520) rfl ?_
              refine jx_iconst (x := 0) E dX5_item_100 (by decide) ?_
              obtain ⟨⟨r12, v12⟩, hc12, hF⟩ := jx_bind hF
              try dsimp only at hF
              refine jx_callSi (As := [.int (v9 0 15), .int 0]) (st := [.ref (ad 1)]) E dX5_item_101 2 rfl (k_X5_at hI (v9 0 15) 0 v9 r12 v12 hc12) (gb_S (List.mem_cons_of_mem _ tw_332) (List.mem_cons_of_mem _ tw_333) (List.mem_cons_of_mem _ tw_325) tw_331) rfl rfl rfl dd_X5_at rfl ⟨by decide, by decide⟩ ⟨Nat.le_refl 0, Nat.le_refl 0⟩ (Nat.le_of_ble_eq_true rfl) ?_
              refine jx_iconst (x := -1) E dX5_item_104 (by decide) ?_
              obtain ⟨hg13, hF⟩ := jx_guard hF
              refine jx_iast (h := 1) (j := (Int32.toNatClampNeg r12)) E dX5_item_105 (Nat.le_of_ble_eq_true rfl) s_M1 hg13 rfl ?_
              obtain rfl := Option.some.inj hF
              exact jx_vret E dX5_item_106 rfl
          · rw [if_pos hc10] at hF
            refine jx_aload_n E dX5_item_80 1 rfl ?_
            refine jx_iconst (x := 0) E dX5_item_81 (by decide) ?_
            obtain ⟨v14, hc14, hF⟩ := jx_bind hF
            try dsimp only at hF
            refine jx_callVv (As := [.int 0]) (st := []) (h := 0) E dX5_item_82 1 rfl (k_X5_lotTold hI 0 v9 v14 hc14) (gb_V (List.mem_cons_of_mem _ tw_549) (List.mem_cons_of_mem _ tw_550) (List.mem_cons_of_mem _ tw_551) (List.mem_cons_of_mem _ tw_325) tw_548) rfl rfl rfl dd_X5_lotTold rfl (Nat.le_of_ble_eq_true rfl) s_M0 rfl ⟨by decide, by decide⟩ ⟨Nat.le_refl 0, Nat.le_refl 0⟩ (Nat.le_of_ble_eq_true rfl) ?_
            refine jx_aload_n E dX5_item_85 1 rfl ?_
            refine jx_geti (C := RX5) (T := TX5) (M := 21) (k := 16) E dX5_item_86 (Nat.le_of_ble_eq_true rfl) s_M0 rfl iX5 (by decide) rfl (List.mem_cons_of_mem _ tw_513) rfl ?_
            refine jx_if_ne (tgt := 106) E dX5_item_89 (by decide) (fun hc15 => ?_) (fun hc15 => ?_)
            · rw [if_neg hc15] at hF
              obtain rfl := Option.some.inj hF
              exact jx_vret E dX5_item_106 rfl
            · rw [if_pos hc15] at hF
              refine jx_aload_n E dX5_item_92 1 rfl ?_
              refine jx_getr (C := RX5) (T := TX5) (M := 21) (k := 0) E dX5_item_93 (Nat.le_of_ble_eq_true rfl) s_M0 rfl iX5 (by decide) rfl (List.mem_cons_of_mem _ tw_328) rfl ?_
              refine jx_aload_n E dX5_item_96 1 rfl ?_
              refine jx_geti (C := RX5) (T := TX5) (M := 21) (k := 15) E dX5_item_97 (Nat.le_of_ble_eq_true rfl) s_M0 rfl iX5 (by decide) rfl (List.mem_cons_of_mem _ tw_520) rfl ?_
              refine jx_iconst (x := 0) E dX5_item_100 (by decide) ?_
              obtain ⟨⟨r16, v16⟩, hc16, hF⟩ := jx_bind hF
              try dsimp only at hF
              refine jx_callSi (As := [.int (v14 0 15), .int 0]) (st := [.ref (ad 1)]) E dX5_item_101 2 rfl (k_X5_at hI (v14 0 15) 0 v14 r16 v16 hc16) (gb_S (List.mem_cons_of_mem _ tw_332) (List.mem_cons_of_mem _ tw_333) (List.mem_cons_of_mem _ tw_325) tw_331) rfl rfl rfl dd_X5_at rfl ⟨by decide, by decide⟩ ⟨Nat.le_refl 0, Nat.le_refl 0⟩ (Nat.le_of_ble_eq_true rfl) ?_
              refine jx_iconst (x := -1) E dX5_item_104 (by decide) ?_
              obtain ⟨hg17, hF⟩ := jx_guard hF
              refine jx_iast (h := 1) (j := (Int32.toNatClampNeg r16)) E dX5_item_105 (Nat.le_of_ble_eq_true rfl) s_M1 hg17 rfl ?_
              obtain rfl := Option.some.inj hF
              exact jx_vret E dX5_item_106 rfl
        · rw [if_pos hc8] at hF
          refine jx_iconst (x := 1) E dX5_item_65 (by decide) ?_
          refine jx_goto (tgt := 70) E dX5_item_66 (by decide) ?_
          obtain ⟨v18, hc18, hF⟩ := jx_bind hF
          try dsimp only at hF
          refine jx_callVv (As := [.int 1]) (st := []) (h := 0) E dX5_item_70 1 rfl (k_X5_needs hI 1 v7 v18 hc18) (gb_V (List.mem_cons_of_mem _ tw_522) (List.mem_cons_of_mem _ tw_523) (List.mem_cons_of_mem _ tw_524) (List.mem_cons_of_mem _ tw_325) tw_521) rfl rfl rfl dd_X5_needs rfl (Nat.le_of_ble_eq_true rfl) s_M0 rfl ⟨by decide, by decide⟩ ⟨Nat.le_refl 0, Nat.le_refl 0⟩ (Nat.le_of_ble_eq_true rfl) ?_
          refine jx_aload_n E dX5_item_73 1 rfl ?_
          refine jx_geti (C := RX5) (T := TX5) (M := 21) (k := 16) E dX5_item_74 (Nat.le_of_ble_eq_true rfl) s_M0 rfl iX5 (by decide) rfl (List.mem_cons_of_mem _ tw_513) rfl ?_
          refine jx_if_ne (tgt := 85) E dX5_item_77 (by decide) (fun hc19 => ?_) (fun hc19 => ?_)
          · rw [if_neg hc19] at hF
            refine jx_aload_n E dX5_item_85 1 rfl ?_
            refine jx_geti (C := RX5) (T := TX5) (M := 21) (k := 16) E dX5_item_86 (Nat.le_of_ble_eq_true rfl) s_M0 rfl iX5 (by decide) rfl (List.mem_cons_of_mem _ tw_513) rfl ?_
            refine jx_if_ne (tgt := 106) E dX5_item_89 (by decide) (fun hc20 => ?_) (fun hc20 => ?_)
            · rw [if_neg hc20] at hF
              obtain rfl := Option.some.inj hF
              exact jx_vret E dX5_item_106 rfl
            · rw [if_pos hc20] at hF
              refine jx_aload_n E dX5_item_92 1 rfl ?_
              refine jx_getr (C := RX5) (T := TX5) (M := 21) (k := 0) E dX5_item_93 (Nat.le_of_ble_eq_true rfl) s_M0 rfl iX5 (by decide) rfl (List.mem_cons_of_mem _ tw_328) rfl ?_
              refine jx_aload_n E dX5_item_96 1 rfl ?_
              refine jx_geti (C := RX5) (T := TX5) (M := 21) (k := 15) E dX5_item_97 (Nat.le_of_ble_eq_true rfl) s_M0 rfl iX5 (by decide) rfl (List.mem_cons_of_mem _ tw_520) rfl ?_
              refine jx_iconst (x := 0) E dX5_item_100 (by decide) ?_
              obtain ⟨⟨r21, v21⟩, hc21, hF⟩ := jx_bind hF
              try dsimp only at hF
              refine jx_callSi (As := [.int (v18 0 15), .int 0]) (st := [.ref (ad 1)]) E dX5_item_101 2 rfl (k_X5_at hI (v18 0 15) 0 v18 r21 v21 hc21) (gb_S (List.mem_cons_of_mem _ tw_332) (List.mem_cons_of_mem _ tw_333) (List.mem_cons_of_mem _ tw_325) tw_331) rfl rfl rfl dd_X5_at rfl ⟨by decide, by decide⟩ ⟨Nat.le_refl 0, Nat.le_refl 0⟩ (Nat.le_of_ble_eq_true rfl) ?_
              refine jx_iconst (x := -1) E dX5_item_104 (by decide) ?_
              obtain ⟨hg22, hF⟩ := jx_guard hF
              refine jx_iast (h := 1) (j := (Int32.toNatClampNeg r21)) E dX5_item_105 (Nat.le_of_ble_eq_true rfl) s_M1 hg22 rfl ?_
              obtain rfl := Option.some.inj hF
              exact jx_vret E dX5_item_106 rfl
          · rw [if_pos hc19] at hF
            refine jx_aload_n E dX5_item_80 1 rfl ?_
            refine jx_iconst (x := 0) E dX5_item_81 (by decide) ?_
            obtain ⟨v23, hc23, hF⟩ := jx_bind hF
            try dsimp only at hF
            refine jx_callVv (As := [.int 0]) (st := []) (h := 0) E dX5_item_82 1 rfl (k_X5_lotTold hI 0 v18 v23 hc23) (gb_V (List.mem_cons_of_mem _ tw_549) (List.mem_cons_of_mem _ tw_550) (List.mem_cons_of_mem _ tw_551) (List.mem_cons_of_mem _ tw_325) tw_548) rfl rfl rfl dd_X5_lotTold rfl (Nat.le_of_ble_eq_true rfl) s_M0 rfl ⟨by decide, by decide⟩ ⟨Nat.le_refl 0, Nat.le_refl 0⟩ (Nat.le_of_ble_eq_true rfl) ?_
            refine jx_aload_n E dX5_item_85 1 rfl ?_
            refine jx_geti (C := RX5) (T := TX5) (M := 21) (k := 16) E dX5_item_86 (Nat.le_of_ble_eq_true rfl) s_M0 rfl iX5 (by decide) rfl (List.mem_cons_of_mem _ tw_513) rfl ?_
            refine jx_if_ne (tgt := 106) E dX5_item_89 (by decide) (fun hc24 => ?_) (fun hc24 => ?_)
            · rw [if_neg hc24] at hF
              obtain rfl := Option.some.inj hF
              exact jx_vret E dX5_item_106 rfl
            · rw [if_pos hc24] at hF
              refine jx_aload_n E dX5_item_92 1 rfl ?_
              refine jx_getr (C := RX5) (T := TX5) (M := 21) (k := 0) E dX5_item_93 (Nat.le_of_ble_eq_true rfl) s_M0 rfl iX5 (by decide) rfl (List.mem_cons_of_mem _ tw_328) rfl ?_
              refine jx_aload_n E dX5_item_96 1 rfl ?_
              refine jx_geti (C := RX5) (T := TX5) (M := 21) (k := 15) E dX5_item_97 (Nat.le_of_ble_eq_true rfl) s_M0 rfl iX5 (by decide) rfl (List.mem_cons_of_mem _ tw_520) rfl ?_
              refine jx_iconst (x := 0) E dX5_item_100 (by decide) ?_
              obtain ⟨⟨r25, v25⟩, hc25, hF⟩ := jx_bind hF
              try dsimp only at hF
              refine jx_callSi (As := [.int (v23 0 15), .int 0]) (st := [.ref (ad 1)]) E dX5_item_101 2 rfl (k_X5_at hI (v23 0 15) 0 v23 r25 v25 hc25) (gb_S (List.mem_cons_of_mem _ tw_332) (List.mem_cons_of_mem _ tw_333) (List.mem_cons_of_mem _ tw_325) tw_331) rfl rfl rfl dd_X5_at rfl ⟨by decide, by decide⟩ ⟨Nat.le_refl 0, Nat.le_refl 0⟩ (Nat.le_of_ble_eq_true rfl) ?_
              refine jx_iconst (x := -1) E dX5_item_104 (by decide) ?_
              obtain ⟨hg26, hF⟩ := jx_guard hF
              refine jx_iast (h := 1) (j := (Int32.toNatClampNeg r25)) E dX5_item_105 (Nat.le_of_ble_eq_true rfl) s_M1 hg26 rfl ?_
              obtain rfl := Option.some.inj hF
              exact jx_vret E dX5_item_106 rfl
      · rw [if_pos hc6] at hF
        refine jx_aload_n E dX5_item_46 1 rfl ?_
        obtain ⟨v27, hc27, hF⟩ := jx_bind hF
        try dsimp only at hF
        refine jx_callVv (As := []) (st := []) (h := 0) E dX5_item_47 0 rfl (k_X5_priceItem hI  v5 v27 hc27) (gb_V (List.mem_cons_of_mem _ tw_563) (List.mem_cons_of_mem _ tw_564) (List.mem_cons_of_mem _ tw_565) (List.mem_cons_of_mem _ tw_325) tw_562) rfl rfl rfl dd_X5_priceItem rfl (Nat.le_of_ble_eq_true rfl) s_M0 rfl ⟨by decide, by decide⟩ ⟨Nat.le_refl 0, Nat.le_refl 0⟩ (Nat.le_of_ble_eq_true rfl) ?_
        refine jx_goto (tgt := 106) E dX5_item_50 (by decide) ?_
        obtain rfl := Option.some.inj hF
        exact jx_vret E dX5_item_106 rfl
    · rw [if_pos hc4] at hF
      refine jx_aload_n E dX5_item_28 1 rfl ?_
      obtain ⟨v28, hc28, hF⟩ := jx_bind hF
      try dsimp only at hF
      refine jx_callVv (As := []) (st := []) (h := 0) E dX5_item_29 0 rfl (k_X5_windowItem hI  v3 v28 hc28) (gb_V (List.mem_cons_of_mem _ tw_567) (List.mem_cons_of_mem _ tw_568) (List.mem_cons_of_mem _ tw_569) (List.mem_cons_of_mem _ tw_325) tw_566) rfl rfl rfl dd_X5_windowItem rfl (Nat.le_of_ble_eq_true rfl) s_M0 rfl ⟨by decide, by decide⟩ ⟨Nat.le_refl 0, Nat.le_refl 0⟩ (Nat.le_of_ble_eq_true rfl) ?_
      refine jx_goto (tgt := 106) E dX5_item_32 (by decide) ?_
      obtain rfl := Option.some.inj hF
      exact jx_vret E dX5_item_106 rfl
  · rw [if_neg hc2] at hF
    refine jx_aload_n E dX5_item_9 1 rfl ?_
    refine jx_iload_n E dX5_item_10 0 rfl ?_
    obtain ⟨v29, hc29, hF⟩ := jx_bind hF
    try dsimp only at hF
    refine jx_callVv (As := [.int r1]) (st := []) (h := 0) E dX5_item_11 1 rfl (k_X5_thingItem hI r1 v1 v29 hc29) (gb_V (List.mem_cons_of_mem _ tw_571) (List.mem_cons_of_mem _ tw_572) (List.mem_cons_of_mem _ tw_573) (List.mem_cons_of_mem _ tw_325) tw_570) rfl rfl rfl dd_X5_thingItem rfl (Nat.le_of_ble_eq_true rfl) s_M0 rfl ⟨by decide, by decide⟩ ⟨Nat.le_refl 0, Nat.le_refl 0⟩ (Nat.le_of_ble_eq_true rfl) ?_
    refine jx_goto (tgt := 106) E dX5_item_14 (by decide) ?_
    obtain rfl := Option.some.inj hF
    exact jx_vret E dX5_item_106 rfl
def f_X5_text_L  : Nat → Int32 → jx_V → Option (Int32 × jx_V)
  | 0, _, _ => none
  | n + 1, x1, v => (if (v 0 16) = 0 then (if (v 0 12) ≤ (v 0 13) then (if ((jx_up v 0 12 0) 0 16) = 0 then (some (x1, (jx_up v 0 12 0))) else ((f_X5_putsBack (jx_up v 0 12 0)).bind (fun v9 => (some (((-1) - (v9 0 13)), v9))))) else ((f_X5_byteAt (v 0 13) v).bind (fun (r10, v10) => (if r10 = 59 then ((f_X5_needs 1 v10).bind (fun v14 => ((f_X5_item v14).bind (fun v15 => (f_X5_text_L n (x1 + 1) v15))))) else ((f_X5_needs 0 v10).bind (fun v12 => ((f_X5_item v12).bind (fun v13 => (f_X5_text_L n (x1 + 1) v13))))))))) else (if ((jx_up v 0 12 0) 0 16) = 0 then (some (x1, (jx_up v 0 12 0))) else ((f_X5_putsBack (jx_up v 0 12 0)).bind (fun v6 => (some (((-1) - (v6 0 13)), v6))))))
def f_X5_text  (v : jx_V) : Option (Int32 × jx_V) := ((f_X5_puts v).bind (fun v1 => ((f_X5_token (jx_up (jx_up v1 0 14 0) 0 16 0)).bind (fun v2 => ((f_X5_item v2).bind (fun v3 => (f_X5_text_L 100000 1 v3)))))))
def rm_X5_text : Room := { frames := 8, cells := 0, slots := 0, locals := 182 }
set_option maxHeartbeats 4000000 in
set_option maxRecDepth 100000 in
theorem k_X5_text {l : Launch} {D : va_G} {cI cJ : ClassId} {ad : Nat → Nat} {A : Nat → Prop} (hI : jx_inj 13 ad A)  (v : jx_V) (r : Int32) (v' : jx_V) (hF : f_X5_text  v = some (r, v')) : jx_Ci l D vwCl 13 cI cJ ad shM A ex_M yX5_text (Cond.code yX5_text cX5_text 2 (some .int) :: bigT) rm_X5_text [.ref (ad 0)] v r v' := by
  unfold f_X5_text at hF
  refine jx_enteri bigT RX5 cX5_text 2 (some .int) [(0, .ref (ad 0))] hI (ex_M_ok A) (by decide +kernel) rfl (Nat.le_of_ble_eq_true rfl) rfl rfl ?_
  intro p e s m args below meth c E
  have iX5 : ∀ w ∈ u_ws RX5 TX5 21, w ∈ (Cond.code yX5_text cX5_text 2 (some .int) :: bigT) := fun w h => List.mem_cons_of_mem _ (uw_X5 w h)
  have key : ∀ n : Nat, (∀ (x1 : Int32) (v : jx_V), f_X5_text_L  n  x1 v = some (r, v') → jx_J p l e rm_X5_text s m args below meth c D vwCl 13 cI cJ ad shM A 0 0 2 (MQ below (va_Qi (fun (r1 : Int32) (_ : Unit) => r1 = r) (fun _ t => va_P D vwCl (jx_ws 13 cI cJ ad shM v') t.heap) A) args s 0 0 A) v 24 [(0, .ref (ad 0)), (1, .int x1)] []) := by
    intro n
    induction n with
    | zero =>
      exact (fun _ _ h => by cases h)
    | succ n ih =>
      intro x1 v hF
      rw [f_X5_text_L] at hF
      refine jx_aload_n E dX5_text_24 0 rfl ?_
      refine jx_geti (C := RX5) (T := TX5) (M := 21) (k := 16) E dX5_text_25 (Nat.le_of_ble_eq_true rfl) s_M0 rfl iX5 (by decide) rfl (List.mem_cons_of_mem _ tw_513) rfl ?_
      refine jx_if_ne (tgt := 74) E dX5_text_28 (by decide) (fun hc4 => ?_) (fun hc4 => ?_)
      · rw [if_neg hc4] at hF
        refine jx_aload_n E dX5_text_74 0 rfl ?_
        refine jx_iconst (x := 0) E dX5_text_75 (by decide) ?_
        refine jx_puti (C := RX5) (T := TX5) (M := 21) (k := 12) (ty := .int) E tyX5 dX5_text_76 (Nat.le_of_ble_eq_true rfl) s_M0 rfl iX5 (by decide) rfl (List.mem_cons_of_mem _ tw_495) tyX5_ok nmX5 rfl (by decide +kernel) rfl rfl rfl ?_
        refine jx_aload_n E dX5_text_79 0 rfl ?_
        refine jx_geti (C := RX5) (T := TX5) (M := 21) (k := 16) E dX5_text_80 (Nat.le_of_ble_eq_true rfl) s_M0 rfl iX5 (by decide) rfl (List.mem_cons_of_mem _ tw_513) rfl ?_
        refine jx_if_eq (tgt := 97) E dX5_text_83 (by decide) (fun hc5 => ?_) (fun hc5 => ?_)
        · rw [if_pos hc5] at hF
          refine jx_iload_n E dX5_text_97 1 rfl ?_
          obtain ⟨rfl, rfl⟩ := jx_out hF
          exact jx_iret E dX5_text_98 rfl
        · rw [if_neg hc5] at hF
          refine jx_aload_n E dX5_text_86 0 rfl ?_
          obtain ⟨v6, hc6, hF⟩ := jx_bind hF
          try dsimp only at hF
          refine jx_callVv (As := []) (st := []) (h := 0) E dX5_text_87 0 rfl (k_X5_putsBack hI  (jx_up v 0 12 0) v6 hc6) (gb_V (List.mem_cons_of_mem _ tw_462) (List.mem_cons_of_mem _ tw_463) (List.mem_cons_of_mem _ tw_464) (List.mem_cons_of_mem _ tw_325) tw_461) rfl rfl rfl dd_X5_putsBack rfl (Nat.le_of_ble_eq_true rfl) s_M0 rfl ⟨by decide, by decide⟩ ⟨Nat.le_refl 0, Nat.le_refl 0⟩ (Nat.le_of_ble_eq_true rfl) ?_
          refine jx_iconst (x := -1) E dX5_text_90 (by decide) ?_
          refine jx_aload_n E dX5_text_91 0 rfl ?_
          refine jx_geti (C := RX5) (T := TX5) (M := 21) (k := 13) E dX5_text_92 (Nat.le_of_ble_eq_true rfl) s_M0 rfl iX5 (by decide) rfl (List.mem_cons_of_mem _ tw_502) rfl ?_
          refine jx_isub E dX5_text_95 ?_
          obtain ⟨rfl, rfl⟩ := jx_out hF
          exact jx_iret E dX5_text_96 rfl
      · rw [if_pos hc4] at hF
        refine jx_aload_n E dX5_text_31 0 rfl ?_
        refine jx_geti (C := RX5) (T := TX5) (M := 21) (k := 13) E dX5_text_32 (Nat.le_of_ble_eq_true rfl) s_M0 rfl iX5 (by decide) rfl (List.mem_cons_of_mem _ tw_502) rfl ?_
        refine jx_aload_n E dX5_text_35 0 rfl ?_
        refine jx_geti (C := RX5) (T := TX5) (M := 21) (k := 12) E dX5_text_36 (Nat.le_of_ble_eq_true rfl) s_M0 rfl iX5 (by decide) rfl (List.mem_cons_of_mem _ tw_495) rfl ?_
        refine jx_icmp_ge (tgt := 74) E dX5_text_39 (by decide) (fun hc7 => ?_) (fun hc7 => ?_)
        · rw [if_pos hc7] at hF
          refine jx_aload_n E dX5_text_74 0 rfl ?_
          refine jx_iconst (x := 0) E dX5_text_75 (by decide) ?_
          refine jx_puti (C := RX5) (T := TX5) (M := 21) (k := 12) (ty := .int) E tyX5 dX5_text_76 (Nat.le_of_ble_eq_true rfl) s_M0 rfl iX5 (by decide) rfl (List.mem_cons_of_mem _ tw_495) tyX5_ok nmX5 rfl (by decide +kernel) rfl rfl rfl ?_
          refine jx_aload_n E dX5_text_79 0 rfl ?_
          refine jx_geti (C := RX5) (T := TX5) (M := 21) (k := 16) E dX5_text_80 (Nat.le_of_ble_eq_true rfl) s_M0 rfl iX5 (by decide) rfl (List.mem_cons_of_mem _ tw_513) rfl ?_
          refine jx_if_eq (tgt := 97) E dX5_text_83 (by decide) (fun hc8 => ?_) (fun hc8 => ?_)
          · rw [if_pos hc8] at hF
            refine jx_iload_n E dX5_text_97 1 rfl ?_
            obtain ⟨rfl, rfl⟩ := jx_out hF
            exact jx_iret E dX5_text_98 rfl
          · rw [if_neg hc8] at hF
            refine jx_aload_n E dX5_text_86 0 rfl ?_
            obtain ⟨v9, hc9, hF⟩ := jx_bind hF
            try dsimp only at hF
            refine jx_callVv (As := []) (st := []) (h := 0) E dX5_text_87 0 rfl (k_X5_putsBack hI  (jx_up v 0 12 0) v9 hc9) (gb_V (List.mem_cons_of_mem _ tw_462) (List.mem_cons_of_mem _ tw_463) (List.mem_cons_of_mem _ tw_464) (List.mem_cons_of_mem _ tw_325) tw_461) rfl rfl rfl dd_X5_putsBack rfl (Nat.le_of_ble_eq_true rfl) s_M0 rfl ⟨by decide, by decide⟩ ⟨Nat.le_refl 0, Nat.le_refl 0⟩ (Nat.le_of_ble_eq_true rfl) ?_
            refine jx_iconst (x := -1) E dX5_text_90 (by decide) ?_
            refine jx_aload_n E dX5_text_91 0 rfl ?_
            refine jx_geti (C := RX5) (T := TX5) (M := 21) (k := 13) E dX5_text_92 (Nat.le_of_ble_eq_true rfl) s_M0 rfl iX5 (by decide) rfl (List.mem_cons_of_mem _ tw_502) rfl ?_
            refine jx_isub E dX5_text_95 ?_
            obtain ⟨rfl, rfl⟩ := jx_out hF
            exact jx_iret E dX5_text_96 rfl
        · rw [if_neg hc7] at hF
          refine jx_aload_n E dX5_text_42 0 rfl ?_
          refine jx_aload_n E dX5_text_43 0 rfl ?_
          refine jx_aload_n E dX5_text_44 0 rfl ?_
          refine jx_geti (C := RX5) (T := TX5) (M := 21) (k := 13) E dX5_text_45 (Nat.le_of_ble_eq_true rfl) s_M0 rfl iX5 (by decide) rfl (List.mem_cons_of_mem _ tw_502) rfl ?_
          obtain ⟨⟨r10, v10⟩, hc10, hF⟩ := jx_bind hF
          try dsimp only at hF
          refine jx_callVi (As := [.int (v 0 13)]) (st := [.ref (ad 0)]) (h := 0) E dX5_text_48 1 rfl (k_X5_byteAt hI (v 0 13) v r10 v10 hc10) (gb_V (List.mem_cons_of_mem _ tw_504) (List.mem_cons_of_mem _ tw_505) (List.mem_cons_of_mem _ tw_506) (List.mem_cons_of_mem _ tw_325) tw_503) rfl rfl rfl dd_X5_byteAt rfl (Nat.le_of_ble_eq_true rfl) s_M0 rfl ⟨by decide, by decide⟩ ⟨Nat.le_refl 0, Nat.le_refl 0⟩ (Nat.le_of_ble_eq_true rfl) ?_
          refine jx_bipush (x := 59) E dX5_text_51 (by decide) ?_
          refine jx_icmp_ne (tgt := 60) E dX5_text_53 (by decide) (fun hc11 => ?_) (fun hc11 => ?_)
          · rw [if_neg hc11] at hF
            refine jx_iconst (x := 0) E dX5_text_60 (by decide) ?_
            obtain ⟨v12, hc12, hF⟩ := jx_bind hF
            try dsimp only at hF
            refine jx_callVv (As := [.int 0]) (st := []) (h := 0) E dX5_text_61 1 rfl (k_X5_needs hI 0 v10 v12 hc12) (gb_V (List.mem_cons_of_mem _ tw_522) (List.mem_cons_of_mem _ tw_523) (List.mem_cons_of_mem _ tw_524) (List.mem_cons_of_mem _ tw_325) tw_521) rfl rfl rfl dd_X5_needs rfl (Nat.le_of_ble_eq_true rfl) s_M0 rfl ⟨by decide, by decide⟩ ⟨Nat.le_refl 0, Nat.le_refl 0⟩ (Nat.le_of_ble_eq_true rfl) ?_
            refine jx_aload_n E dX5_text_64 0 rfl ?_
            obtain ⟨v13, hc13, hF⟩ := jx_bind hF
            try dsimp only at hF
            refine jx_callVv (As := []) (st := []) (h := 0) E dX5_text_65 0 rfl (k_X5_item hI  v12 v13 hc13) (gb_V (List.mem_cons_of_mem _ tw_575) (List.mem_cons_of_mem _ tw_576) (List.mem_cons_of_mem _ tw_577) (List.mem_cons_of_mem _ tw_325) tw_574) rfl rfl rfl dd_X5_item rfl (Nat.le_of_ble_eq_true rfl) s_M0 rfl ⟨by decide, by decide⟩ ⟨Nat.le_refl 0, Nat.le_refl 0⟩ (Nat.le_of_ble_eq_true rfl) ?_
            refine jx_iinc (y := (x1 + 1)) (lv' := [(1, .int (x1 + 1)), (0, .ref (ad 0))]) E dX5_text_68 1 rfl rfl (by decide) rfl ?_
            refine jx_goto (tgt := 24) E dX5_text_71 (by decide) ?_
            refine jx_sub [1, 0] rfl ?_
            exact ih (x1 + 1) v13 hF
          · rw [if_pos hc11] at hF
            refine jx_iconst (x := 1) E dX5_text_56 (by decide) ?_
            refine jx_goto (tgt := 61) E dX5_text_57 (by decide) ?_
            obtain ⟨v14, hc14, hF⟩ := jx_bind hF
            try dsimp only at hF
            refine jx_callVv (As := [.int 1]) (st := []) (h := 0) E dX5_text_61 1 rfl (k_X5_needs hI 1 v10 v14 hc14) (gb_V (List.mem_cons_of_mem _ tw_522) (List.mem_cons_of_mem _ tw_523) (List.mem_cons_of_mem _ tw_524) (List.mem_cons_of_mem _ tw_325) tw_521) rfl rfl rfl dd_X5_needs rfl (Nat.le_of_ble_eq_true rfl) s_M0 rfl ⟨by decide, by decide⟩ ⟨Nat.le_refl 0, Nat.le_refl 0⟩ (Nat.le_of_ble_eq_true rfl) ?_
            refine jx_aload_n E dX5_text_64 0 rfl ?_
            obtain ⟨v15, hc15, hF⟩ := jx_bind hF
            try dsimp only at hF
            refine jx_callVv (As := []) (st := []) (h := 0) E dX5_text_65 0 rfl (k_X5_item hI  v14 v15 hc15) (gb_V (List.mem_cons_of_mem _ tw_575) (List.mem_cons_of_mem _ tw_576) (List.mem_cons_of_mem _ tw_577) (List.mem_cons_of_mem _ tw_325) tw_574) rfl rfl rfl dd_X5_item rfl (Nat.le_of_ble_eq_true rfl) s_M0 rfl ⟨by decide, by decide⟩ ⟨Nat.le_refl 0, Nat.le_refl 0⟩ (Nat.le_of_ble_eq_true rfl) ?_
            refine jx_iinc (y := (x1 + 1)) (lv' := [(1, .int (x1 + 1)), (0, .ref (ad 0))]) E dX5_text_68 1 rfl rfl (by decide) rfl ?_
            refine jx_goto (tgt := 24) E dX5_text_71 (by decide) ?_
            refine jx_sub [1, 0] rfl ?_
            exact ih (x1 + 1) v15 hF
  refine jx_aload_n E dX5_text_0 0 rfl ?_
  obtain ⟨v1, hc1, hF⟩ := jx_bind hF
  try dsimp only at hF
  refine jx_callVv (As := []) (st := []) (h := 0) E dX5_text_1 0 rfl (k_X5_puts hI  v v1 hc1) (gb_V (List.mem_cons_of_mem _ tw_458) (List.mem_cons_of_mem _ tw_459) (List.mem_cons_of_mem _ tw_460) (List.mem_cons_of_mem _ tw_325) tw_457) rfl rfl rfl dd_X5_puts rfl (Nat.le_of_ble_eq_true rfl) s_M0 rfl ⟨by decide, by decide⟩ ⟨Nat.le_refl 0, Nat.le_refl 0⟩ (Nat.le_of_ble_eq_true rfl) ?_
  refine jx_aload_n E dX5_text_4 0 rfl ?_
  refine jx_iconst (x := 0) E dX5_text_5 (by decide) ?_
  refine jx_puti (C := RX5) (T := TX5) (M := 21) (k := 14) (ty := .int) E tyX5 dX5_text_6 (Nat.le_of_ble_eq_true rfl) s_M0 rfl iX5 (by decide) rfl (List.mem_cons_of_mem _ tw_501) tyX5_ok nmX5 rfl (by decide +kernel) rfl rfl rfl ?_
  refine jx_aload_n E dX5_text_9 0 rfl ?_
  refine jx_iconst (x := 0) E dX5_text_10 (by decide) ?_
  refine jx_puti (C := RX5) (T := TX5) (M := 21) (k := 16) (ty := .boolean) E tyX5 dX5_text_11 (Nat.le_of_ble_eq_true rfl) s_M0 rfl iX5 (by decide) rfl (List.mem_cons_of_mem _ tw_513) tyX5_ok nmX5 rfl (by decide +kernel) rfl rfl rfl ?_
  refine jx_aload_n E dX5_text_14 0 rfl ?_
  obtain ⟨v2, hc2, hF⟩ := jx_bind hF
  try dsimp only at hF
  refine jx_callVv (As := []) (st := []) (h := 0) E dX5_text_15 0 rfl (k_X5_token hI  (jx_up (jx_up v1 0 14 0) 0 16 0) v2 hc2) (gb_V (List.mem_cons_of_mem _ tw_515) (List.mem_cons_of_mem _ tw_516) (List.mem_cons_of_mem _ tw_517) (List.mem_cons_of_mem _ tw_325) tw_514) rfl rfl rfl dd_X5_token rfl (Nat.le_of_ble_eq_true rfl) s_M0 rfl ⟨by decide, by decide⟩ ⟨Nat.le_refl 0, Nat.le_refl 0⟩ (Nat.le_of_ble_eq_true rfl) ?_
  refine jx_iconst (x := 1) E dX5_text_18 (by decide) ?_
  refine jx_istore_n (lv' := [(1, .int 1), (0, .ref (ad 0))]) E dX5_text_19 (by decide) rfl ?_
  refine jx_aload_n E dX5_text_20 1 rfl ?_
  obtain ⟨v3, hc3, hF⟩ := jx_bind hF
  try dsimp only at hF
  refine jx_callVv (As := []) (st := []) (h := 0) E dX5_text_21 0 rfl (k_X5_item hI  v2 v3 hc3) (gb_V (List.mem_cons_of_mem _ tw_575) (List.mem_cons_of_mem _ tw_576) (List.mem_cons_of_mem _ tw_577) (List.mem_cons_of_mem _ tw_325) tw_574) rfl rfl rfl dd_X5_item rfl (Nat.le_of_ble_eq_true rfl) s_M0 rfl ⟨by decide, by decide⟩ ⟨Nat.le_refl 0, Nat.le_refl 0⟩ (Nat.le_of_ble_eq_true rfl) ?_
  refine jx_sub [1, 0] rfl ?_
  exact (key 100000) 1 v3 hF
def f_X5_hold (x1 : Int32) (x2 : Int32) (v : jx_V) : Option (Int32 × jx_V) := ((f_X5_in (Int32.toInt64 x1) 0 9 v).bind (fun (r1, v1) => (if r1 = 0 then ((f_X5_finds (-1000001) v1).bind (fun (r3, v3) => (some (r3, v3)))) else ((f_X5_in (Int32.toInt64 x2) (-1) 24 v1).bind (fun (r4, v4) => (if r4 = 0 then ((f_X5_finds (-1000001) v4).bind (fun (r7, v7) => (some (r7, v7)))) else (if ((171 + x1) < 0 ∨ 181 ≤ Int32.toNatClampNeg (171 + x1)) then none else (some (1, (jx_up v4 1 (Int32.toNatClampNeg (171 + x1)) x2))))))))))
def rm_X5_hold : Room := { frames := 1, cells := 0, slots := 0, locals := 25 }
set_option maxHeartbeats 4000000 in
set_option maxRecDepth 100000 in
theorem k_X5_hold {l : Launch} {D : va_G} {cI cJ : ClassId} {ad : Nat → Nat} {A : Nat → Prop} (hI : jx_inj 13 ad A) (x1 : Int32) (x2 : Int32) (v : jx_V) (r : Int32) (v' : jx_V) (hF : f_X5_hold x1 x2 v = some (r, v')) : jx_Ci l D vwCl 13 cI cJ ad shM A ex_M yX5_hold (Cond.code yX5_hold cX5_hold 3 (some .int) :: bigT) rm_X5_hold [.ref (ad 0), .int x1, .int x2] v r v' := by
  unfold f_X5_hold at hF
  refine jx_enteri bigT RX5 cX5_hold 3 (some .int) [(0, .ref (ad 0)), (1, .int x1), (2, .int x2)] hI (ex_M_ok A) (by decide +kernel) rfl (Nat.le_of_ble_eq_true rfl) rfl rfl ?_
  intro p e s m args below meth c E
  have iX5 : ∀ w ∈ u_ws RX5 TX5 21, w ∈ (Cond.code yX5_hold cX5_hold 3 (some .int) :: bigT) := fun w h => List.mem_cons_of_mem _ (uw_X5 w h)
  refine jx_iload_n E dX5_hold_0 1 rfl ?_
  refine jx_i2l E dX5_hold_1 ?_
  refine jx_lconst (x := 0) E dX5_hold_2 (by decide) ?_
  refine jx_ldc2 (x := 9) E dX5_hold_3 (List.mem_cons_of_mem _ tw_327) ?_
  obtain ⟨⟨r1, v1⟩, hc1, hF⟩ := jx_bind hF
  try dsimp only at hF
  refine jx_callSi (As := [.long (Int32.toInt64 x1), .long 0, .long 9]) (st := []) E dX5_hold_6 3 rfl (k_X5_in hI (Int32.toInt64 x1) 0 9 v r1 v1 hc1) (gb_S (List.mem_cons_of_mem _ tw_323) (List.mem_cons_of_mem _ tw_324) (List.mem_cons_of_mem _ tw_325) tw_322) rfl rfl rfl dd_X5_in rfl ⟨by decide, by decide⟩ ⟨Nat.le_refl 0, Nat.le_refl 0⟩ (Nat.le_of_ble_eq_true rfl) ?_
  refine jx_if_eq (tgt := 26) E dX5_hold_9 (by decide) (fun hc2 => ?_) (fun hc2 => ?_)
  · rw [if_pos hc2] at hF
    refine jx_aload_n E dX5_hold_26 0 rfl ?_
    refine jx_ldc (x := -1000001) E dX5_hold_27 (List.mem_cons_of_mem _ tw_320) ?_
    obtain ⟨⟨r3, v3⟩, hc3, hF⟩ := jx_bind hF
    try dsimp only at hF
    refine jx_callVi (As := [.int (-1000001)]) (st := []) (h := 0) E dX5_hold_29 1 rfl (k_X5_finds hI (-1000001) v1 r3 v3 hc3) (gb_V (List.mem_cons_of_mem _ tw_344) (List.mem_cons_of_mem _ tw_345) (List.mem_cons_of_mem _ tw_346) (List.mem_cons_of_mem _ tw_325) tw_343) rfl rfl rfl dd_X5_finds rfl (Nat.le_of_ble_eq_true rfl) s_M0 rfl ⟨by decide, by decide⟩ ⟨Nat.le_refl 0, Nat.le_refl 0⟩ (Nat.le_of_ble_eq_true rfl) ?_
    obtain ⟨rfl, rfl⟩ := jx_out hF
    exact jx_iret E dX5_hold_32 rfl
  · rw [if_neg hc2] at hF
    refine jx_iload_n E dX5_hold_12 2 rfl ?_
    refine jx_i2l E dX5_hold_13 ?_
    refine jx_ldc2 (x := -1) E dX5_hold_14 (List.mem_cons_of_mem _ tw_425) ?_
    refine jx_ldc2 (x := 24) E dX5_hold_17 (List.mem_cons_of_mem _ tw_321) ?_
    obtain ⟨⟨r4, v4⟩, hc4, hF⟩ := jx_bind hF
    try dsimp only at hF
    refine jx_callSi (As := [.long (Int32.toInt64 x2), .long (-1), .long 24]) (st := []) E dX5_hold_20 3 rfl (k_X5_in hI (Int32.toInt64 x2) (-1) 24 v1 r4 v4 hc4) (gb_S (List.mem_cons_of_mem _ tw_323) (List.mem_cons_of_mem _ tw_324) (List.mem_cons_of_mem _ tw_325) tw_322) rfl rfl rfl dd_X5_in rfl ⟨by decide, by decide⟩ ⟨Nat.le_refl 0, Nat.le_refl 0⟩ (Nat.le_of_ble_eq_true rfl) ?_
    refine jx_if_ne (tgt := 33) E dX5_hold_23 (by decide) (fun hc5 => ?_) (fun hc5 => ?_)
    · rw [if_neg hc5] at hF
      refine jx_aload_n E dX5_hold_33 0 rfl ?_
      refine jx_getr (C := RX5) (T := TX5) (M := 21) (k := 0) E dX5_hold_34 (Nat.le_of_ble_eq_true rfl) s_M0 rfl iX5 (by decide) rfl (List.mem_cons_of_mem _ tw_328) rfl ?_
      refine jx_sipush (x := 171) E dX5_hold_37 (by decide) ?_
      refine jx_iload_n E dX5_hold_40 1 rfl ?_
      refine jx_iadd E dX5_hold_41 ?_
      refine jx_iload_n E dX5_hold_42 2 rfl ?_
      obtain ⟨hg6, hF⟩ := jx_guard hF
      refine jx_iast (h := 1) (j := (Int32.toNatClampNeg (171 + x1))) E dX5_hold_43 (Nat.le_of_ble_eq_true rfl) s_M1 hg6 rfl ?_
      refine jx_iconst (x := 1) E dX5_hold_44 (by decide) ?_
      obtain ⟨rfl, rfl⟩ := jx_out hF
      exact jx_iret E dX5_hold_45 rfl
    · rw [if_pos hc5] at hF
      refine jx_aload_n E dX5_hold_26 0 rfl ?_
      refine jx_ldc (x := -1000001) E dX5_hold_27 (List.mem_cons_of_mem _ tw_320) ?_
      obtain ⟨⟨r7, v7⟩, hc7, hF⟩ := jx_bind hF
      try dsimp only at hF
      refine jx_callVi (As := [.int (-1000001)]) (st := []) (h := 0) E dX5_hold_29 1 rfl (k_X5_finds hI (-1000001) v4 r7 v7 hc7) (gb_V (List.mem_cons_of_mem _ tw_344) (List.mem_cons_of_mem _ tw_345) (List.mem_cons_of_mem _ tw_346) (List.mem_cons_of_mem _ tw_325) tw_343) rfl rfl rfl dd_X5_finds rfl (Nat.le_of_ble_eq_true rfl) s_M0 rfl ⟨by decide, by decide⟩ ⟨Nat.le_refl 0, Nat.le_refl 0⟩ (Nat.le_of_ble_eq_true rfl) ?_
      obtain ⟨rfl, rfl⟩ := jx_out hF
      exact jx_iret E dX5_hold_32 rfl
