set_option maxHeartbeats 4000000 in
set_option maxRecDepth 100000 in
theorem k_X5_init {l : Launch} {D : va_G} {cI cJ : ClassId} : jn_C l D vwCl cI cJ yX5_init (Cond.code yX5_init cX5_init 2 none :: bigT) rm_X5_init 5 [.null, .null, .null, .null, .int 0, .null, .int 0, .int 0, .int 0, .null, .null, .null, .int 0, .int 0, .int 0, .int 0, .int 0, .null, .null, .null, .null] 13 shM v0_X5 12 890 := by
  refine jn_enter bigT RX5 cX5_init 2 (by decide +kernel) rfl (by decide) rfl rfl ?_
  intro p e s m args below meth c q A E
  have iX5 : ∀ w ∈ u_ws RX5 TX5 21, w ∈ (Cond.code yX5_init cX5_init 2 none :: bigT) := fun w h => List.mem_cons_of_mem _ (uw_X5 w h)
  refine jn_aload_n E dX5_init_0 0 rfl ?_
  refine jn_objInit E dX5_init_1 (List.mem_cons_of_mem _ tw_565) (List.mem_cons_of_mem _ tw_557) (List.mem_cons_of_mem _ tw_558) (by decide) (by decide) ?_
  refine jn_aload_n E dX5_init_4 0 rfl ?_
  refine jn_sipush (x := 181) E dX5_init_5 (by decide) ?_
  refine jn_newa (N' := 181) E dX5_init_8 (List.mem_cons_of_mem _ tw_559) (by decide) (by decide) (by decide) (by decide) (by decide) (fun a1 => ?_)
  refine jn_eq (ws2 := (q, .inr (5, [.null, .null, .null, .null, .int 0, .null, .int 0, .int 0, .int 0, .null, .null, .null, .int 0, .int 0, .int 0, .int 0, .int 0, .null, .null, .null, .null])) :: [(a1, .inl (cI, 181, .inl (fun _ => 0)))]) rfl ?_
  refine jn_putF (k := 0) (ci := 5) (T := TX5) (M := 21) (ty := .array .int) E tyX5 dX5_init_10 iX5 tyX5_ok nmX5 rfl (by decide) rfl (List.mem_cons_of_mem _ tw_275) rfl (by decide +kernel) rfl rfl (Nat.le_of_ble_eq_true rfl) ?_
  refine jn_eq (ws2 := (q, .inr (5, [.ref a1, .null, .null, .null, .int 0, .null, .int 0, .int 0, .int 0, .null, .null, .null, .int 0, .int 0, .int 0, .int 0, .int 0, .null, .null, .null, .null])) :: [(a1, .inl (cI, 181, .inl (fun _ => 0)))]) rfl ?_
  refine jn_aload_n E dX5_init_13 0 rfl ?_
  refine jn_sipush (x := 181) E dX5_init_14 (by decide) ?_
  refine jn_newa (N' := 181) E dX5_init_17 (List.mem_cons_of_mem _ tw_559) (by decide) (by decide) (by decide) (by decide) (by decide) (fun a2 => ?_)
  refine jn_eq (ws2 := (q, .inr (5, [.ref a1, .null, .null, .null, .int 0, .null, .int 0, .int 0, .int 0, .null, .null, .null, .int 0, .int 0, .int 0, .int 0, .int 0, .null, .null, .null, .null])) :: [(a1, .inl (cI, 181, .inl (fun _ => 0))), (a2, .inl (cI, 181, .inl (fun _ => 0)))]) rfl ?_
  refine jn_putF (k := 1) (ci := 5) (T := TX5) (M := 21) (ty := .array .int) E tyX5 dX5_init_19 iX5 tyX5_ok nmX5 rfl (by decide) rfl (List.mem_cons_of_mem _ tw_543) rfl (by decide +kernel) rfl rfl (Nat.le_of_ble_eq_true rfl) ?_
  refine jn_eq (ws2 := (q, .inr (5, [.ref a1, .ref a2, .null, .null, .int 0, .null, .int 0, .int 0, .int 0, .null, .null, .null, .int 0, .int 0, .int 0, .int 0, .int 0, .null, .null, .null, .null])) :: [(a1, .inl (cI, 181, .inl (fun _ => 0))), (a2, .inl (cI, 181, .inl (fun _ => 0)))]) rfl ?_
  refine jn_aload_n E dX5_init_22 0 rfl ?_
  refine jn_sipush (x := 181) E dX5_init_23 (by decide) ?_
  refine jn_newa (N' := 181) E dX5_init_26 (List.mem_cons_of_mem _ tw_559) (by decide) (by decide) (by decide) (by decide) (by decide) (fun a3 => ?_)
  refine jn_eq (ws2 := (q, .inr (5, [.ref a1, .ref a2, .null, .null, .int 0, .null, .int 0, .int 0, .int 0, .null, .null, .null, .int 0, .int 0, .int 0, .int 0, .int 0, .null, .null, .null, .null])) :: [(a1, .inl (cI, 181, .inl (fun _ => 0))), (a2, .inl (cI, 181, .inl (fun _ => 0))), (a3, .inl (cI, 181, .inl (fun _ => 0)))]) rfl ?_
  refine jn_putF (k := 2) (ci := 5) (T := TX5) (M := 21) (ty := .array .int) E tyX5 dX5_init_28 iX5 tyX5_ok nmX5 rfl (by decide) rfl (List.mem_cons_of_mem _ tw_277) rfl (by decide +kernel) rfl rfl (Nat.le_of_ble_eq_true rfl) ?_
  refine jn_eq (ws2 := (q, .inr (5, [.ref a1, .ref a2, .ref a3, .null, .int 0, .null, .int 0, .int 0, .int 0, .null, .null, .null, .int 0, .int 0, .int 0, .int 0, .int 0, .null, .null, .null, .null])) :: [(a1, .inl (cI, 181, .inl (fun _ => 0))), (a2, .inl (cI, 181, .inl (fun _ => 0))), (a3, .inl (cI, 181, .inl (fun _ => 0)))]) rfl ?_
  refine jn_aload_n E dX5_init_31 0 rfl ?_
  refine jn_bipush (x := 7) E dX5_init_32 (by decide) ?_
  refine jn_newa (N' := 7) E dX5_init_34 (List.mem_cons_of_mem _ tw_559) (by decide) (by decide) (by decide) (by decide) (by decide) (fun a4 => ?_)
  refine jn_eq (ws2 := (q, .inr (5, [.ref a1, .ref a2, .ref a3, .null, .int 0, .null, .int 0, .int 0, .int 0, .null, .null, .null, .int 0, .int 0, .int 0, .int 0, .int 0, .null, .null, .null, .null])) :: [(a1, .inl (cI, 181, .inl (fun _ => 0))), (a2, .inl (cI, 181, .inl (fun _ => 0))), (a3, .inl (cI, 181, .inl (fun _ => 0))), (a4, .inl (cI, 7, .inl (fun _ => 0)))]) rfl ?_
  refine jn_putF (k := 3) (ci := 5) (T := TX5) (M := 21) (ty := .array .int) E tyX5 dX5_init_36 iX5 tyX5_ok nmX5 rfl (by decide) rfl (List.mem_cons_of_mem _ tw_266) rfl (by decide +kernel) rfl rfl (Nat.le_of_ble_eq_true rfl) ?_
  refine jn_eq (ws2 := (q, .inr (5, [.ref a1, .ref a2, .ref a3, .ref a4, .int 0, .null, .int 0, .int 0, .int 0, .null, .null, .null, .int 0, .int 0, .int 0, .int 0, .int 0, .null, .null, .null, .null])) :: [(a1, .inl (cI, 181, .inl (fun _ => 0))), (a2, .inl (cI, 181, .inl (fun _ => 0))), (a3, .inl (cI, 181, .inl (fun _ => 0))), (a4, .inl (cI, 7, .inl (fun _ => 0)))]) rfl ?_
  refine jn_aload_n E dX5_init_39 0 rfl ?_
  refine jn_iconst (x := 4) E dX5_init_40 (by decide) ?_
  refine jn_newa (N' := 4) E dX5_init_41 (List.mem_cons_of_mem _ tw_559) (by decide) (by decide) (by decide) (by decide) (by decide) (fun a5 => ?_)
  refine jn_eq (ws2 := (q, .inr (5, [.ref a1, .ref a2, .ref a3, .ref a4, .int 0, .null, .int 0, .int 0, .int 0, .null, .null, .null, .int 0, .int 0, .int 0, .int 0, .int 0, .null, .null, .null, .null])) :: [(a1, .inl (cI, 181, .inl (fun _ => 0))), (a2, .inl (cI, 181, .inl (fun _ => 0))), (a3, .inl (cI, 181, .inl (fun _ => 0))), (a4, .inl (cI, 7, .inl (fun _ => 0))), (a5, .inl (cI, 4, .inl (fun _ => 0)))]) rfl ?_
  refine jn_putF (k := 5) (ci := 5) (T := TX5) (M := 21) (ty := .array .int) E tyX5 dX5_init_43 iX5 tyX5_ok nmX5 rfl (by decide) rfl (List.mem_cons_of_mem _ tw_359) rfl (by decide +kernel) rfl rfl (Nat.le_of_ble_eq_true rfl) ?_
  refine jn_eq (ws2 := (q, .inr (5, [.ref a1, .ref a2, .ref a3, .ref a4, .int 0, .ref a5, .int 0, .int 0, .int 0, .null, .null, .null, .int 0, .int 0, .int 0, .int 0, .int 0, .null, .null, .null, .null])) :: [(a1, .inl (cI, 181, .inl (fun _ => 0))), (a2, .inl (cI, 181, .inl (fun _ => 0))), (a3, .inl (cI, 181, .inl (fun _ => 0))), (a4, .inl (cI, 7, .inl (fun _ => 0))), (a5, .inl (cI, 4, .inl (fun _ => 0)))]) rfl ?_
  refine jn_aload_n E dX5_init_46 0 rfl ?_
  refine jn_iconst (x := 4) E dX5_init_47 (by decide) ?_
  refine jn_newa (N' := 4) E dX5_init_48 (List.mem_cons_of_mem _ tw_559) (by decide) (by decide) (by decide) (by decide) (by decide) (fun a6 => ?_)
  refine jn_eq (ws2 := (q, .inr (5, [.ref a1, .ref a2, .ref a3, .ref a4, .int 0, .ref a5, .int 0, .int 0, .int 0, .null, .null, .null, .int 0, .int 0, .int 0, .int 0, .int 0, .null, .null, .null, .null])) :: [(a1, .inl (cI, 181, .inl (fun _ => 0))), (a2, .inl (cI, 181, .inl (fun _ => 0))), (a3, .inl (cI, 181, .inl (fun _ => 0))), (a4, .inl (cI, 7, .inl (fun _ => 0))), (a5, .inl (cI, 4, .inl (fun _ => 0))), (a6, .inl (cI, 4, .inl (fun _ => 0)))]) rfl ?_
  refine jn_putF (k := 9) (ci := 5) (T := TX5) (M := 21) (ty := .array .int) E tyX5 dX5_init_50 iX5 tyX5_ok nmX5 rfl (by decide) rfl (List.mem_cons_of_mem _ tw_367) rfl (by decide +kernel) rfl rfl (Nat.le_of_ble_eq_true rfl) ?_
  refine jn_eq (ws2 := (q, .inr (5, [.ref a1, .ref a2, .ref a3, .ref a4, .int 0, .ref a5, .int 0, .int 0, .int 0, .ref a6, .null, .null, .int 0, .int 0, .int 0, .int 0, .int 0, .null, .null, .null, .null])) :: [(a1, .inl (cI, 181, .inl (fun _ => 0))), (a2, .inl (cI, 181, .inl (fun _ => 0))), (a3, .inl (cI, 181, .inl (fun _ => 0))), (a4, .inl (cI, 7, .inl (fun _ => 0))), (a5, .inl (cI, 4, .inl (fun _ => 0))), (a6, .inl (cI, 4, .inl (fun _ => 0)))]) rfl ?_
  refine jn_aload_n E dX5_init_53 0 rfl ?_
  refine jn_iconst (x := 4) E dX5_init_54 (by decide) ?_
  refine jn_newa (N' := 4) E dX5_init_55 (List.mem_cons_of_mem _ tw_559) (by decide) (by decide) (by decide) (by decide) (by decide) (fun a7 => ?_)
  refine jn_eq (ws2 := (q, .inr (5, [.ref a1, .ref a2, .ref a3, .ref a4, .int 0, .ref a5, .int 0, .int 0, .int 0, .ref a6, .null, .null, .int 0, .int 0, .int 0, .int 0, .int 0, .null, .null, .null, .null])) :: [(a1, .inl (cI, 181, .inl (fun _ => 0))), (a2, .inl (cI, 181, .inl (fun _ => 0))), (a3, .inl (cI, 181, .inl (fun _ => 0))), (a4, .inl (cI, 7, .inl (fun _ => 0))), (a5, .inl (cI, 4, .inl (fun _ => 0))), (a6, .inl (cI, 4, .inl (fun _ => 0))), (a7, .inl (cI, 4, .inl (fun _ => 0)))]) rfl ?_
  refine jn_putF (k := 10) (ci := 5) (T := TX5) (M := 21) (ty := .array .int) E tyX5 dX5_init_57 iX5 tyX5_ok nmX5 rfl (by decide) rfl (List.mem_cons_of_mem _ tw_436) rfl (by decide +kernel) rfl rfl (Nat.le_of_ble_eq_true rfl) ?_
  refine jn_eq (ws2 := (q, .inr (5, [.ref a1, .ref a2, .ref a3, .ref a4, .int 0, .ref a5, .int 0, .int 0, .int 0, .ref a6, .ref a7, .null, .int 0, .int 0, .int 0, .int 0, .int 0, .null, .null, .null, .null])) :: [(a1, .inl (cI, 181, .inl (fun _ => 0))), (a2, .inl (cI, 181, .inl (fun _ => 0))), (a3, .inl (cI, 181, .inl (fun _ => 0))), (a4, .inl (cI, 7, .inl (fun _ => 0))), (a5, .inl (cI, 4, .inl (fun _ => 0))), (a6, .inl (cI, 4, .inl (fun _ => 0))), (a7, .inl (cI, 4, .inl (fun _ => 0)))]) rfl ?_
  refine jn_aload_n E dX5_init_60 0 rfl ?_
  refine jn_bipush (x := 120) E dX5_init_61 (by decide) ?_
  refine jn_newa (N' := 120) E dX5_init_63 (List.mem_cons_of_mem _ tw_559) (by decide) (by decide) (by decide) (by decide) (by decide) (fun a8 => ?_)
  refine jn_eq (ws2 := (q, .inr (5, [.ref a1, .ref a2, .ref a3, .ref a4, .int 0, .ref a5, .int 0, .int 0, .int 0, .ref a6, .ref a7, .null, .int 0, .int 0, .int 0, .int 0, .int 0, .null, .null, .null, .null])) :: [(a1, .inl (cI, 181, .inl (fun _ => 0))), (a2, .inl (cI, 181, .inl (fun _ => 0))), (a3, .inl (cI, 181, .inl (fun _ => 0))), (a4, .inl (cI, 7, .inl (fun _ => 0))), (a5, .inl (cI, 4, .inl (fun _ => 0))), (a6, .inl (cI, 4, .inl (fun _ => 0))), (a7, .inl (cI, 4, .inl (fun _ => 0))), (a8, .inl (cI, 120, .inl (fun _ => 0)))]) rfl ?_
  refine jn_putF (k := 11) (ci := 5) (T := TX5) (M := 21) (ty := .array .int) E tyX5 dX5_init_65 iX5 tyX5_ok nmX5 rfl (by decide) rfl (List.mem_cons_of_mem _ tw_443) rfl (by decide +kernel) rfl rfl (Nat.le_of_ble_eq_true rfl) ?_
  refine jn_eq (ws2 := (q, .inr (5, [.ref a1, .ref a2, .ref a3, .ref a4, .int 0, .ref a5, .int 0, .int 0, .int 0, .ref a6, .ref a7, .ref a8, .int 0, .int 0, .int 0, .int 0, .int 0, .null, .null, .null, .null])) :: [(a1, .inl (cI, 181, .inl (fun _ => 0))), (a2, .inl (cI, 181, .inl (fun _ => 0))), (a3, .inl (cI, 181, .inl (fun _ => 0))), (a4, .inl (cI, 7, .inl (fun _ => 0))), (a5, .inl (cI, 4, .inl (fun _ => 0))), (a6, .inl (cI, 4, .inl (fun _ => 0))), (a7, .inl (cI, 4, .inl (fun _ => 0))), (a8, .inl (cI, 120, .inl (fun _ => 0)))]) rfl ?_
  refine jn_aload_n E dX5_init_68 0 rfl ?_
  refine jn_iconst (x := 4) E dX5_init_69 (by decide) ?_
  refine jn_newa (N' := 4) E dX5_init_70 (List.mem_cons_of_mem _ tw_559) (by decide) (by decide) (by decide) (by decide) (by decide) (fun a9 => ?_)
  refine jn_eq (ws2 := (q, .inr (5, [.ref a1, .ref a2, .ref a3, .ref a4, .int 0, .ref a5, .int 0, .int 0, .int 0, .ref a6, .ref a7, .ref a8, .int 0, .int 0, .int 0, .int 0, .int 0, .null, .null, .null, .null])) :: [(a1, .inl (cI, 181, .inl (fun _ => 0))), (a2, .inl (cI, 181, .inl (fun _ => 0))), (a3, .inl (cI, 181, .inl (fun _ => 0))), (a4, .inl (cI, 7, .inl (fun _ => 0))), (a5, .inl (cI, 4, .inl (fun _ => 0))), (a6, .inl (cI, 4, .inl (fun _ => 0))), (a7, .inl (cI, 4, .inl (fun _ => 0))), (a8, .inl (cI, 120, .inl (fun _ => 0))), (a9, .inl (cI, 4, .inl (fun _ => 0)))]) rfl ?_
  refine jn_putF (k := 17) (ci := 5) (T := TX5) (M := 21) (ty := .array .int) E tyX5 dX5_init_72 iX5 tyX5_ok nmX5 rfl (by decide) rfl (List.mem_cons_of_mem _ tw_530) rfl (by decide +kernel) rfl rfl (Nat.le_of_ble_eq_true rfl) ?_
  refine jn_eq (ws2 := (q, .inr (5, [.ref a1, .ref a2, .ref a3, .ref a4, .int 0, .ref a5, .int 0, .int 0, .int 0, .ref a6, .ref a7, .ref a8, .int 0, .int 0, .int 0, .int 0, .int 0, .ref a9, .null, .null, .null])) :: [(a1, .inl (cI, 181, .inl (fun _ => 0))), (a2, .inl (cI, 181, .inl (fun _ => 0))), (a3, .inl (cI, 181, .inl (fun _ => 0))), (a4, .inl (cI, 7, .inl (fun _ => 0))), (a5, .inl (cI, 4, .inl (fun _ => 0))), (a6, .inl (cI, 4, .inl (fun _ => 0))), (a7, .inl (cI, 4, .inl (fun _ => 0))), (a8, .inl (cI, 120, .inl (fun _ => 0))), (a9, .inl (cI, 4, .inl (fun _ => 0)))]) rfl ?_
  refine jn_aload_n E dX5_init_75 0 rfl ?_
  refine jn_iconst (x := 4) E dX5_init_76 (by decide) ?_
  refine jn_newa (N' := 4) E dX5_init_77 (List.mem_cons_of_mem _ tw_559) (by decide) (by decide) (by decide) (by decide) (by decide) (fun a10 => ?_)
  refine jn_eq (ws2 := (q, .inr (5, [.ref a1, .ref a2, .ref a3, .ref a4, .int 0, .ref a5, .int 0, .int 0, .int 0, .ref a6, .ref a7, .ref a8, .int 0, .int 0, .int 0, .int 0, .int 0, .ref a9, .null, .null, .null])) :: [(a1, .inl (cI, 181, .inl (fun _ => 0))), (a2, .inl (cI, 181, .inl (fun _ => 0))), (a3, .inl (cI, 181, .inl (fun _ => 0))), (a4, .inl (cI, 7, .inl (fun _ => 0))), (a5, .inl (cI, 4, .inl (fun _ => 0))), (a6, .inl (cI, 4, .inl (fun _ => 0))), (a7, .inl (cI, 4, .inl (fun _ => 0))), (a8, .inl (cI, 120, .inl (fun _ => 0))), (a9, .inl (cI, 4, .inl (fun _ => 0))), (a10, .inl (cI, 4, .inl (fun _ => 0)))]) rfl ?_
  refine jn_putF (k := 18) (ci := 5) (T := TX5) (M := 21) (ty := .array .int) E tyX5 dX5_init_79 iX5 tyX5_ok nmX5 rfl (by decide) rfl (List.mem_cons_of_mem _ tw_531) rfl (by decide +kernel) rfl rfl (Nat.le_of_ble_eq_true rfl) ?_
  refine jn_eq (ws2 := (q, .inr (5, [.ref a1, .ref a2, .ref a3, .ref a4, .int 0, .ref a5, .int 0, .int 0, .int 0, .ref a6, .ref a7, .ref a8, .int 0, .int 0, .int 0, .int 0, .int 0, .ref a9, .ref a10, .null, .null])) :: [(a1, .inl (cI, 181, .inl (fun _ => 0))), (a2, .inl (cI, 181, .inl (fun _ => 0))), (a3, .inl (cI, 181, .inl (fun _ => 0))), (a4, .inl (cI, 7, .inl (fun _ => 0))), (a5, .inl (cI, 4, .inl (fun _ => 0))), (a6, .inl (cI, 4, .inl (fun _ => 0))), (a7, .inl (cI, 4, .inl (fun _ => 0))), (a8, .inl (cI, 120, .inl (fun _ => 0))), (a9, .inl (cI, 4, .inl (fun _ => 0))), (a10, .inl (cI, 4, .inl (fun _ => 0)))]) rfl ?_
  refine jn_aload_n E dX5_init_82 0 rfl ?_
  refine jn_sipush (x := 160) E dX5_init_83 (by decide) ?_
  refine jn_newa (N' := 160) E dX5_init_86 (List.mem_cons_of_mem _ tw_559) (by decide) (by decide) (by decide) (by decide) (by decide) (fun a11 => ?_)
  refine jn_eq (ws2 := (q, .inr (5, [.ref a1, .ref a2, .ref a3, .ref a4, .int 0, .ref a5, .int 0, .int 0, .int 0, .ref a6, .ref a7, .ref a8, .int 0, .int 0, .int 0, .int 0, .int 0, .ref a9, .ref a10, .null, .null])) :: [(a1, .inl (cI, 181, .inl (fun _ => 0))), (a2, .inl (cI, 181, .inl (fun _ => 0))), (a3, .inl (cI, 181, .inl (fun _ => 0))), (a4, .inl (cI, 7, .inl (fun _ => 0))), (a5, .inl (cI, 4, .inl (fun _ => 0))), (a6, .inl (cI, 4, .inl (fun _ => 0))), (a7, .inl (cI, 4, .inl (fun _ => 0))), (a8, .inl (cI, 120, .inl (fun _ => 0))), (a9, .inl (cI, 4, .inl (fun _ => 0))), (a10, .inl (cI, 4, .inl (fun _ => 0))), (a11, .inl (cI, 160, .inl (fun _ => 0)))]) rfl ?_
  refine jn_putF (k := 19) (ci := 5) (T := TX5) (M := 21) (ty := .array .int) E tyX5 dX5_init_88 iX5 tyX5_ok nmX5 rfl (by decide) rfl (List.mem_cons_of_mem _ tw_533) rfl (by decide +kernel) rfl rfl (Nat.le_of_ble_eq_true rfl) ?_
  refine jn_eq (ws2 := (q, .inr (5, [.ref a1, .ref a2, .ref a3, .ref a4, .int 0, .ref a5, .int 0, .int 0, .int 0, .ref a6, .ref a7, .ref a8, .int 0, .int 0, .int 0, .int 0, .int 0, .ref a9, .ref a10, .ref a11, .null])) :: [(a1, .inl (cI, 181, .inl (fun _ => 0))), (a2, .inl (cI, 181, .inl (fun _ => 0))), (a3, .inl (cI, 181, .inl (fun _ => 0))), (a4, .inl (cI, 7, .inl (fun _ => 0))), (a5, .inl (cI, 4, .inl (fun _ => 0))), (a6, .inl (cI, 4, .inl (fun _ => 0))), (a7, .inl (cI, 4, .inl (fun _ => 0))), (a8, .inl (cI, 120, .inl (fun _ => 0))), (a9, .inl (cI, 4, .inl (fun _ => 0))), (a10, .inl (cI, 4, .inl (fun _ => 0))), (a11, .inl (cI, 160, .inl (fun _ => 0)))]) rfl ?_
  refine jn_aload_n E dX5_init_91 0 rfl ?_
  refine jn_bipush (x := 40) E dX5_init_92 (by decide) ?_
  refine jn_newa (N' := 40) E dX5_init_94 (List.mem_cons_of_mem _ tw_559) (by decide) (by decide) (by decide) (by decide) (by decide) (fun a12 => ?_)
  refine jn_eq (ws2 := (q, .inr (5, [.ref a1, .ref a2, .ref a3, .ref a4, .int 0, .ref a5, .int 0, .int 0, .int 0, .ref a6, .ref a7, .ref a8, .int 0, .int 0, .int 0, .int 0, .int 0, .ref a9, .ref a10, .ref a11, .null])) :: [(a1, .inl (cI, 181, .inl (fun _ => 0))), (a2, .inl (cI, 181, .inl (fun _ => 0))), (a3, .inl (cI, 181, .inl (fun _ => 0))), (a4, .inl (cI, 7, .inl (fun _ => 0))), (a5, .inl (cI, 4, .inl (fun _ => 0))), (a6, .inl (cI, 4, .inl (fun _ => 0))), (a7, .inl (cI, 4, .inl (fun _ => 0))), (a8, .inl (cI, 120, .inl (fun _ => 0))), (a9, .inl (cI, 4, .inl (fun _ => 0))), (a10, .inl (cI, 4, .inl (fun _ => 0))), (a11, .inl (cI, 160, .inl (fun _ => 0))), (a12, .inl (cI, 40, .inl (fun _ => 0)))]) rfl ?_
  refine jn_putF (k := 20) (ci := 5) (T := TX5) (M := 21) (ty := .array .int) E tyX5 dX5_init_96 iX5 tyX5_ok nmX5 rfl (by decide) rfl (List.mem_cons_of_mem _ tw_541) rfl (by decide +kernel) rfl rfl (Nat.le_of_ble_eq_true rfl) ?_
  refine jn_eq (ws2 := (q, .inr (5, [.ref a1, .ref a2, .ref a3, .ref a4, .int 0, .ref a5, .int 0, .int 0, .int 0, .ref a6, .ref a7, .ref a8, .int 0, .int 0, .int 0, .int 0, .int 0, .ref a9, .ref a10, .ref a11, .ref a12])) :: [(a1, .inl (cI, 181, .inl (fun _ => 0))), (a2, .inl (cI, 181, .inl (fun _ => 0))), (a3, .inl (cI, 181, .inl (fun _ => 0))), (a4, .inl (cI, 7, .inl (fun _ => 0))), (a5, .inl (cI, 4, .inl (fun _ => 0))), (a6, .inl (cI, 4, .inl (fun _ => 0))), (a7, .inl (cI, 4, .inl (fun _ => 0))), (a8, .inl (cI, 120, .inl (fun _ => 0))), (a9, .inl (cI, 4, .inl (fun _ => 0))), (a10, .inl (cI, 4, .inl (fun _ => 0))), (a11, .inl (cI, 160, .inl (fun _ => 0))), (a12, .inl (cI, 40, .inl (fun _ => 0)))]) rfl ?_
  intro H locs ls hP hD hS hl
  have hI : jx_inj 13 (fun h => [q, a1, a2, a3, a4, a5, a6, a7, a8, a9, a10, a11, a12].getD h 0) A := jn_inj (fun i => i) (fun i _ j _ h => h) (fun i hi => match i, hi with
    | 0, _ => ⟨_, rfl⟩
    | 1, _ => ⟨_, rfl⟩
    | 2, _ => ⟨_, rfl⟩
    | 3, _ => ⟨_, rfl⟩
    | 4, _ => ⟨_, rfl⟩
    | 5, _ => ⟨_, rfl⟩
    | 6, _ => ⟨_, rfl⟩
    | 7, _ => ⟨_, rfl⟩
    | 8, _ => ⟨_, rfl⟩
    | 9, _ => ⟨_, rfl⟩
    | 10, _ => ⟨_, rfl⟩
    | 11, _ => ⟨_, rfl⟩
    | 12, _ => ⟨_, rfl⟩
    | k9 + 13, h9 => absurd h9 (by omega)) hD
  have hPJ : va_P D vwCl (jx_ws 13 cI cJ (fun h => [q, a1, a2, a3, a4, a5, a6, a7, a8, a9, a10, a11, a12].getD h 0) shM vs_X5) H := jn_P (fun h hh => match h, hh with
    | 0, _ => hP 0 _ rfl
    | 1, _ => hP 1 _ rfl
    | 2, _ => hP 2 _ rfl
    | 3, _ => hP 3 _ rfl
    | 4, _ => hP 4 _ rfl
    | 5, _ => hP 5 _ rfl
    | 6, _ => hP 6 _ rfl
    | 7, _ => hP 7 _ rfl
    | 8, _ => hP 8 _ rfl
    | 9, _ => hP 9 _ rfl
    | 10, _ => hP 10 _ rfl
    | 11, _ => hP 11 _ rfl
    | 12, _ => hP 12 _ rfl
    | k9 + 13, h9 => absurd h9 (by omega))
  obtain ⟨v', hf, hc⟩ := run_X5
  exact j_X5_init (ad := (fun h => [q, a1, a2, a3, a4, a5, a6, a7, a8, a9, a10, a11, a12].getD h 0)) (A := A) (Q := MQ below (va_Qv (fun (_ : Unit) => True) (fun _ t => ∃ a : Nat → Nat, a 0 = q ∧ va_P D vwCl (jx_ws 13 cI cJ a shM v0_X5) t.heap ∧ va_D A (jx_ws 13 cI cJ a shM v0_X5)) A) args s 12 890 A) (cI := cI) (cJ := cJ) ⟨E.1, E.2.1, E.2.2.1, E.2.2.2.1, E.2.2.2.2.1, E.2.2.2.2.2.1, E.2.2.2.2.2.2.1, E.2.2.2.2.2.2.2.1, hI, trivial, (ex_M_ok A)⟩ hI vs_X5 v' hf (fun H1 locs1 ls1 hP1 hS1 hl1 => W.vret E.1 E.2.1 E.2.2.2.2.2.1 (fun t ht hW => ⟨⟨(), rfl, trivial, ⟨(fun h => [q, a1, a2, a3, a4, a5, a6, a7, a8, a9, a10, a11, a12].getD h 0), rfl, jx_cong hc (by rw [ht]; exact hP1), jx_D hI⟩⟩, hS1.F ht⟩) hS1.2.2 dX5_init_180 E.2.2.2.2.2.2.1) H locs ls hPJ hS hl
