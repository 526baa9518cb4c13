set_option maxHeartbeats 4000000 in
set_option maxRecDepth 100000 in
theorem k_X3_init {l : Launch} {D : va_G} {cI cJ : ClassId} : jn_C l D vwCl cI cJ yX3_init (Cond.code yX3_init cX3_init 2 none :: bigT) rm_X3_init 3 [.null, .null, .null, .null, .null, .int 0, .int 0, .int 0] 16 shZ v0_X3 15 188 := by
  refine jn_enter bigT RX3 cX3_init 2 (by decide +kernel) rfl (by decide) rfl rfl ?_
  intro p e s m args below meth c q A E
  have iX3 : ∀ w ∈ u_ws RX3 TX3 8, w ∈ (Cond.code yX3_init cX3_init 2 none :: bigT) := fun w h => List.mem_cons_of_mem _ (uw_X3 w h)
  refine jn_aload_n E dX3_init_0 0 rfl ?_
  refine jn_objInit E dX3_init_1 (List.mem_cons_of_mem _ tw_563) (List.mem_cons_of_mem _ tw_557) (List.mem_cons_of_mem _ tw_558) (by decide) (by decide) ?_
  refine jn_aload_n E dX3_init_4 0 rfl ?_
  refine jn_iconst (x := 4) E dX3_init_5 (by decide) ?_
  refine jn_bipush (x := 25) E dX3_init_6 (by decide) ?_
  refine jn_mna (N' := 4) (K' := 25) E dX3_init_8 (List.mem_cons_of_mem _ tw_564) (List.mem_cons_of_mem _ tw_559) (by decide) (by decide) (by decide) (by decide) (by decide) (by decide) (by decide) (by decide) (by decide) (fun a1 r1 => ?_)
  refine jn_eq (ws2 := (q, .inr (3, [.null, .null, .null, .null, .null, .int 0, .int 0, .int 0])) :: [(a1, .inl (cJ, 4, .inr (.inr (.inr (.inr (fun i => if i < 4 then some (r1 i) else none)))))), (r1 0, .inl (cI, 25, .inl (fun _ => 0))), (r1 1, .inl (cI, 25, .inl (fun _ => 0))), (r1 2, .inl (cI, 25, .inl (fun _ => 0))), (r1 3, .inl (cI, 25, .inl (fun _ => 0)))]) rfl ?_
  refine jn_putF (k := 0) (ci := 3) (T := TX3) (M := 8) (ty := .array (.array .int)) E tyX3 dX3_init_12 iX3 tyX3_ok nmX3 rfl (by decide) rfl (List.mem_cons_of_mem _ tw_0) rfl (by decide +kernel) rfl rfl (Nat.le_of_ble_eq_true rfl) ?_
  refine jn_eq (ws2 := (q, .inr (3, [.ref a1, .null, .null, .null, .null, .int 0, .int 0, .int 0])) :: [(a1, .inl (cJ, 4, .inr (.inr (.inr (.inr (fun i => if i < 4 then some (r1 i) else none)))))), (r1 0, .inl (cI, 25, .inl (fun _ => 0))), (r1 1, .inl (cI, 25, .inl (fun _ => 0))), (r1 2, .inl (cI, 25, .inl (fun _ => 0))), (r1 3, .inl (cI, 25, .inl (fun _ => 0)))]) rfl ?_
  refine jn_aload_n E dX3_init_15 0 rfl ?_
  refine jn_bipush (x := 6) E dX3_init_16 (by decide) ?_
  refine jn_bipush (x := 10) E dX3_init_18 (by decide) ?_
  refine jn_mna (N' := 6) (K' := 10) E dX3_init_20 (List.mem_cons_of_mem _ tw_564) (List.mem_cons_of_mem _ tw_559) (by decide) (by decide) (by decide) (by decide) (by decide) (by decide) (by decide) (by decide) (by decide) (fun a2 r2 => ?_)
  refine jn_eq (ws2 := (q, .inr (3, [.ref a1, .null, .null, .null, .null, .int 0, .int 0, .int 0])) :: [(a1, .inl (cJ, 4, .inr (.inr (.inr (.inr (fun i => if i < 4 then some (r1 i) else none)))))), (r1 0, .inl (cI, 25, .inl (fun _ => 0))), (r1 1, .inl (cI, 25, .inl (fun _ => 0))), (r1 2, .inl (cI, 25, .inl (fun _ => 0))), (r1 3, .inl (cI, 25, .inl (fun _ => 0))), (a2, .inl (cJ, 6, .inr (.inr (.inr (.inr (fun i => if i < 6 then some (r2 i) else none)))))), (r2 0, .inl (cI, 10, .inl (fun _ => 0))), (r2 1, .inl (cI, 10, .inl (fun _ => 0))), (r2 2, .inl (cI, 10, .inl (fun _ => 0))), (r2 3, .inl (cI, 10, .inl (fun _ => 0))), (r2 4, .inl (cI, 10, .inl (fun _ => 0))), (r2 5, .inl (cI, 10, .inl (fun _ => 0)))]) rfl ?_
  refine jn_putF (k := 1) (ci := 3) (T := TX3) (M := 8) (ty := .array (.array .int)) E tyX3 dX3_init_24 iX3 tyX3_ok nmX3 rfl (by decide) rfl (List.mem_cons_of_mem _ tw_95) rfl (by decide +kernel) rfl rfl (Nat.le_of_ble_eq_true rfl) ?_
  refine jn_eq (ws2 := (q, .inr (3, [.ref a1, .ref a2, .null, .null, .null, .int 0, .int 0, .int 0])) :: [(a1, .inl (cJ, 4, .inr (.inr (.inr (.inr (fun i => if i < 4 then some (r1 i) else none)))))), (r1 0, .inl (cI, 25, .inl (fun _ => 0))), (r1 1, .inl (cI, 25, .inl (fun _ => 0))), (r1 2, .inl (cI, 25, .inl (fun _ => 0))), (r1 3, .inl (cI, 25, .inl (fun _ => 0))), (a2, .inl (cJ, 6, .inr (.inr (.inr (.inr (fun i => if i < 6 then some (r2 i) else none)))))), (r2 0, .inl (cI, 10, .inl (fun _ => 0))), (r2 1, .inl (cI, 10, .inl (fun _ => 0))), (r2 2, .inl (cI, 10, .inl (fun _ => 0))), (r2 3, .inl (cI, 10, .inl (fun _ => 0))), (r2 4, .inl (cI, 10, .inl (fun _ => 0))), (r2 5, .inl (cI, 10, .inl (fun _ => 0)))]) rfl ?_
  refine jn_aload_n E dX3_init_27 0 rfl ?_
  refine jn_iconst (x := 4) E dX3_init_28 (by decide) ?_
  refine jn_newa (N' := 4) E dX3_init_29 (List.mem_cons_of_mem _ tw_559) (by decide) (by decide) (by decide) (by decide) (by decide) (fun a3 => ?_)
  refine jn_eq (ws2 := (q, .inr (3, [.ref a1, .ref a2, .null, .null, .null, .int 0, .int 0, .int 0])) :: [(a1, .inl (cJ, 4, .inr (.inr (.inr (.inr (fun i => if i < 4 then some (r1 i) else none)))))), (r1 0, .inl (cI, 25, .inl (fun _ => 0))), (r1 1, .inl (cI, 25, .inl (fun _ => 0))), (r1 2, .inl (cI, 25, .inl (fun _ => 0))), (r1 3, .inl (cI, 25, .inl (fun _ => 0))), (a2, .inl (cJ, 6, .inr (.inr (.inr (.inr (fun i => if i < 6 then some (r2 i) else none)))))), (r2 0, .inl (cI, 10, .inl (fun _ => 0))), (r2 1, .inl (cI, 10, .inl (fun _ => 0))), (r2 2, .inl (cI, 10, .inl (fun _ => 0))), (r2 3, .inl (cI, 10, .inl (fun _ => 0))), (r2 4, .inl (cI, 10, .inl (fun _ => 0))), (r2 5, .inl (cI, 10, .inl (fun _ => 0))), (a3, .inl (cI, 4, .inl (fun _ => 0)))]) rfl ?_
  refine jn_putF (k := 2) (ci := 3) (T := TX3) (M := 8) (ty := .array .int) E tyX3 dX3_init_31 iX3 tyX3_ok nmX3 rfl (by decide) rfl (List.mem_cons_of_mem _ tw_36) rfl (by decide +kernel) rfl rfl (Nat.le_of_ble_eq_true rfl) ?_
  refine jn_eq (ws2 := (q, .inr (3, [.ref a1, .ref a2, .ref a3, .null, .null, .int 0, .int 0, .int 0])) :: [(a1, .inl (cJ, 4, .inr (.inr (.inr (.inr (fun i => if i < 4 then some (r1 i) else none)))))), (r1 0, .inl (cI, 25, .inl (fun _ => 0))), (r1 1, .inl (cI, 25, .inl (fun _ => 0))), (r1 2, .inl (cI, 25, .inl (fun _ => 0))), (r1 3, .inl (cI, 25, .inl (fun _ => 0))), (a2, .inl (cJ, 6, .inr (.inr (.inr (.inr (fun i => if i < 6 then some (r2 i) else none)))))), (r2 0, .inl (cI, 10, .inl (fun _ => 0))), (r2 1, .inl (cI, 10, .inl (fun _ => 0))), (r2 2, .inl (cI, 10, .inl (fun _ => 0))), (r2 3, .inl (cI, 10, .inl (fun _ => 0))), (r2 4, .inl (cI, 10, .inl (fun _ => 0))), (r2 5, .inl (cI, 10, .inl (fun _ => 0))), (a3, .inl (cI, 4, .inl (fun _ => 0)))]) rfl ?_
  refine jn_aload_n E dX3_init_34 0 rfl ?_
  refine jn_iconst (x := 4) E dX3_init_35 (by decide) ?_
  refine jn_newa (N' := 4) E dX3_init_36 (List.mem_cons_of_mem _ tw_559) (by decide) (by decide) (by decide) (by decide) (by decide) (fun a4 => ?_)
  refine jn_eq (ws2 := (q, .inr (3, [.ref a1, .ref a2, .ref a3, .null, .null, .int 0, .int 0, .int 0])) :: [(a1, .inl (cJ, 4, .inr (.inr (.inr (.inr (fun i => if i < 4 then some (r1 i) else none)))))), (r1 0, .inl (cI, 25, .inl (fun _ => 0))), (r1 1, .inl (cI, 25, .inl (fun _ => 0))), (r1 2, .inl (cI, 25, .inl (fun _ => 0))), (r1 3, .inl (cI, 25, .inl (fun _ => 0))), (a2, .inl (cJ, 6, .inr (.inr (.inr (.inr (fun i => if i < 6 then some (r2 i) else none)))))), (r2 0, .inl (cI, 10, .inl (fun _ => 0))), (r2 1, .inl (cI, 10, .inl (fun _ => 0))), (r2 2, .inl (cI, 10, .inl (fun _ => 0))), (r2 3, .inl (cI, 10, .inl (fun _ => 0))), (r2 4, .inl (cI, 10, .inl (fun _ => 0))), (r2 5, .inl (cI, 10, .inl (fun _ => 0))), (a3, .inl (cI, 4, .inl (fun _ => 0))), (a4, .inl (cI, 4, .inl (fun _ => 0)))]) rfl ?_
  refine jn_putF (k := 3) (ci := 3) (T := TX3) (M := 8) (ty := .array .int) E tyX3 dX3_init_38 iX3 tyX3_ok nmX3 rfl (by decide) rfl (List.mem_cons_of_mem _ tw_130) rfl (by decide +kernel) rfl rfl (Nat.le_of_ble_eq_true rfl) ?_
  refine jn_eq (ws2 := (q, .inr (3, [.ref a1, .ref a2, .ref a3, .ref a4, .null, .int 0, .int 0, .int 0])) :: [(a1, .inl (cJ, 4, .inr (.inr (.inr (.inr (fun i => if i < 4 then some (r1 i) else none)))))), (r1 0, .inl (cI, 25, .inl (fun _ => 0))), (r1 1, .inl (cI, 25, .inl (fun _ => 0))), (r1 2, .inl (cI, 25, .inl (fun _ => 0))), (r1 3, .inl (cI, 25, .inl (fun _ => 0))), (a2, .inl (cJ, 6, .inr (.inr (.inr (.inr (fun i => if i < 6 then some (r2 i) else none)))))), (r2 0, .inl (cI, 10, .inl (fun _ => 0))), (r2 1, .inl (cI, 10, .inl (fun _ => 0))), (r2 2, .inl (cI, 10, .inl (fun _ => 0))), (r2 3, .inl (cI, 10, .inl (fun _ => 0))), (r2 4, .inl (cI, 10, .inl (fun _ => 0))), (r2 5, .inl (cI, 10, .inl (fun _ => 0))), (a3, .inl (cI, 4, .inl (fun _ => 0))), (a4, .inl (cI, 4, .inl (fun _ => 0)))]) rfl ?_
  refine jn_aload_n E dX3_init_41 0 rfl ?_
  refine jn_bipush (x := 10) E dX3_init_42 (by decide) ?_
  refine jn_newa (N' := 10) E dX3_init_44 (List.mem_cons_of_mem _ tw_559) (by decide) (by decide) (by decide) (by decide) (by decide) (fun a5 => ?_)
  refine jn_eq (ws2 := (q, .inr (3, [.ref a1, .ref a2, .ref a3, .ref a4, .null, .int 0, .int 0, .int 0])) :: [(a1, .inl (cJ, 4, .inr (.inr (.inr (.inr (fun i => if i < 4 then some (r1 i) else none)))))), (r1 0, .inl (cI, 25, .inl (fun _ => 0))), (r1 1, .inl (cI, 25, .inl (fun _ => 0))), (r1 2, .inl (cI, 25, .inl (fun _ => 0))), (r1 3, .inl (cI, 25, .inl (fun _ => 0))), (a2, .inl (cJ, 6, .inr (.inr (.inr (.inr (fun i => if i < 6 then some (r2 i) else none)))))), (r2 0, .inl (cI, 10, .inl (fun _ => 0))), (r2 1, .inl (cI, 10, .inl (fun _ => 0))), (r2 2, .inl (cI, 10, .inl (fun _ => 0))), (r2 3, .inl (cI, 10, .inl (fun _ => 0))), (r2 4, .inl (cI, 10, .inl (fun _ => 0))), (r2 5, .inl (cI, 10, .inl (fun _ => 0))), (a3, .inl (cI, 4, .inl (fun _ => 0))), (a4, .inl (cI, 4, .inl (fun _ => 0))), (a5, .inl (cI, 10, .inl (fun _ => 0)))]) rfl ?_
  refine jn_putF (k := 4) (ci := 3) (T := TX3) (M := 8) (ty := .array .int) E tyX3 dX3_init_46 iX3 tyX3_ok nmX3 rfl (by decide) rfl (List.mem_cons_of_mem _ tw_131) rfl (by decide +kernel) rfl rfl (Nat.le_of_ble_eq_true rfl) ?_
  refine jn_eq (ws2 := (q, .inr (3, [.ref a1, .ref a2, .ref a3, .ref a4, .ref a5, .int 0, .int 0, .int 0])) :: [(a1, .inl (cJ, 4, .inr (.inr (.inr (.inr (fun i => if i < 4 then some (r1 i) else none)))))), (r1 0, .inl (cI, 25, .inl (fun _ => 0))), (r1 1, .inl (cI, 25, .inl (fun _ => 0))), (r1 2, .inl (cI, 25, .inl (fun _ => 0))), (r1 3, .inl (cI, 25, .inl (fun _ => 0))), (a2, .inl (cJ, 6, .inr (.inr (.inr (.inr (fun i => if i < 6 then some (r2 i) else none)))))), (r2 0, .inl (cI, 10, .inl (fun _ => 0))), (r2 1, .inl (cI, 10, .inl (fun _ => 0))), (r2 2, .inl (cI, 10, .inl (fun _ => 0))), (r2 3, .inl (cI, 10, .inl (fun _ => 0))), (r2 4, .inl (cI, 10, .inl (fun _ => 0))), (r2 5, .inl (cI, 10, .inl (fun _ => 0))), (a3, .inl (cI, 4, .inl (fun _ => 0))), (a4, .inl (cI, 4, .inl (fun _ => 0))), (a5, .inl (cI, 10, .inl (fun _ => 0)))]) rfl ?_
  refine jn_aload_n E dX3_init_49 0 rfl ?_
  refine jn_iconst (x := 0) E dX3_init_50 (by decide) ?_
  refine jn_puti (k := 5) (ci := 3) (T := TX3) (M := 8) (ty := .int) E tyX3 dX3_init_51 iX3 tyX3_ok nmX3 rfl (by decide) rfl (List.mem_cons_of_mem _ tw_94) rfl (by decide +kernel) rfl rfl (Nat.le_of_ble_eq_true rfl) ?_
  refine jn_eq (ws2 := (q, .inr (3, [.ref a1, .ref a2, .ref a3, .ref a4, .ref a5, .int 0, .int 0, .int 0])) :: [(a1, .inl (cJ, 4, .inr (.inr (.inr (.inr (fun i => if i < 4 then some (r1 i) else none)))))), (r1 0, .inl (cI, 25, .inl (fun _ => 0))), (r1 1, .inl (cI, 25, .inl (fun _ => 0))), (r1 2, .inl (cI, 25, .inl (fun _ => 0))), (r1 3, .inl (cI, 25, .inl (fun _ => 0))), (a2, .inl (cJ, 6, .inr (.inr (.inr (.inr (fun i => if i < 6 then some (r2 i) else none)))))), (r2 0, .inl (cI, 10, .inl (fun _ => 0))), (r2 1, .inl (cI, 10, .inl (fun _ => 0))), (r2 2, .inl (cI, 10, .inl (fun _ => 0))), (r2 3, .inl (cI, 10, .inl (fun _ => 0))), (r2 4, .inl (cI, 10, .inl (fun _ => 0))), (r2 5, .inl (cI, 10, .inl (fun _ => 0))), (a3, .inl (cI, 4, .inl (fun _ => 0))), (a4, .inl (cI, 4, .inl (fun _ => 0))), (a5, .inl (cI, 10, .inl (fun _ => 0)))]) rfl ?_
  refine jn_aload_n E dX3_init_54 0 rfl ?_
  refine jn_iconst (x := 0) E dX3_init_55 (by decide) ?_
  refine jn_puti (k := 6) (ci := 3) (T := TX3) (M := 8) (ty := .int) E tyX3 dX3_init_56 iX3 tyX3_ok nmX3 rfl (by decide) rfl (List.mem_cons_of_mem _ tw_1) rfl (by decide +kernel) rfl rfl (Nat.le_of_ble_eq_true rfl) ?_
  refine jn_eq (ws2 := (q, .inr (3, [.ref a1, .ref a2, .ref a3, .ref a4, .ref a5, .int 0, .int 0, .int 0])) :: [(a1, .inl (cJ, 4, .inr (.inr (.inr (.inr (fun i => if i < 4 then some (r1 i) else none)))))), (r1 0, .inl (cI, 25, .inl (fun _ => 0))), (r1 1, .inl (cI, 25, .inl (fun _ => 0))), (r1 2, .inl (cI, 25, .inl (fun _ => 0))), (r1 3, .inl (cI, 25, .inl (fun _ => 0))), (a2, .inl (cJ, 6, .inr (.inr (.inr (.inr (fun i => if i < 6 then some (r2 i) else none)))))), (r2 0, .inl (cI, 10, .inl (fun _ => 0))), (r2 1, .inl (cI, 10, .inl (fun _ => 0))), (r2 2, .inl (cI, 10, .inl (fun _ => 0))), (r2 3, .inl (cI, 10, .inl (fun _ => 0))), (r2 4, .inl (cI, 10, .inl (fun _ => 0))), (r2 5, .inl (cI, 10, .inl (fun _ => 0))), (a3, .inl (cI, 4, .inl (fun _ => 0))), (a4, .inl (cI, 4, .inl (fun _ => 0))), (a5, .inl (cI, 10, .inl (fun _ => 0)))]) rfl ?_
  refine jn_aload_n E dX3_init_59 0 rfl ?_
  refine jn_iconst (x := 1) E dX3_init_60 (by decide) ?_
  refine jn_puti (k := 7) (ci := 3) (T := TX3) (M := 8) (ty := .int) E tyX3 dX3_init_61 iX3 tyX3_ok nmX3 rfl (by decide) rfl (List.mem_cons_of_mem _ tw_132) rfl (by decide +kernel) rfl rfl (Nat.le_of_ble_eq_true rfl) ?_
  refine jn_eq (ws2 := (q, .inr (3, [.ref a1, .ref a2, .ref a3, .ref a4, .ref a5, .int 0, .int 0, .int 1])) :: [(a1, .inl (cJ, 4, .inr (.inr (.inr (.inr (fun i => if i < 4 then some (r1 i) else none)))))), (r1 0, .inl (cI, 25, .inl (fun _ => 0))), (r1 1, .inl (cI, 25, .inl (fun _ => 0))), (r1 2, .inl (cI, 25, .inl (fun _ => 0))), (r1 3, .inl (cI, 25, .inl (fun _ => 0))), (a2, .inl (cJ, 6, .inr (.inr (.inr (.inr (fun i => if i < 6 then some (r2 i) else none)))))), (r2 0, .inl (cI, 10, .inl (fun _ => 0))), (r2 1, .inl (cI, 10, .inl (fun _ => 0))), (r2 2, .inl (cI, 10, .inl (fun _ => 0))), (r2 3, .inl (cI, 10, .inl (fun _ => 0))), (r2 4, .inl (cI, 10, .inl (fun _ => 0))), (r2 5, .inl (cI, 10, .inl (fun _ => 0))), (a3, .inl (cI, 4, .inl (fun _ => 0))), (a4, .inl (cI, 4, .inl (fun _ => 0))), (a5, .inl (cI, 10, .inl (fun _ => 0)))]) rfl ?_
  intro H locs ls hP hD hS hl
  have hI : jx_inj 16 (fun h => [q, a1, a2, r1 0, r1 1, r1 2, r1 3, r2 0, r2 1, r2 2, r2 3, r2 4, r2 5, a3, a4, a5].getD h 0) A := jn_inj (fun i => [0, 1, 6, 2, 3, 4, 5, 7, 8, 9, 10, 11, 12, 13, 14, 15].getD i 0) (by decide) (fun i hi => match i, hi with
    | 0, _ => ⟨_, rfl⟩
    | 1, _ => ⟨_, rfl⟩
    | 2, _ => ⟨_, rfl⟩
    | 3, _ => ⟨_, rfl⟩
    | 4, _ => ⟨_, rfl⟩
    | 5, _ => ⟨_, rfl⟩
    | 6, _ => ⟨_, rfl⟩
    | 7, _ => ⟨_, rfl⟩
    | 8, _ => ⟨_, rfl⟩
    | 9, _ => ⟨_, rfl⟩
    | 10, _ => ⟨_, rfl⟩
    | 11, _ => ⟨_, rfl⟩
    | 12, _ => ⟨_, rfl⟩
    | 13, _ => ⟨_, rfl⟩
    | 14, _ => ⟨_, rfl⟩
    | 15, _ => ⟨_, rfl⟩
    | k9 + 16, h9 => absurd h9 (by omega)) hD
  have hPJ : va_P D vwCl (jx_ws 16 cI cJ (fun h => [q, a1, a2, r1 0, r1 1, r1 2, r1 3, r2 0, r2 1, r2 2, r2 3, r2 4, r2 5, a3, a4, a5].getD h 0) shZ vs_X3) H := jn_P (fun h hh => match h, hh with
    | 0, _ => hP 0 _ rfl
    | 1, _ => by
      have h9 := hP 1 _ rfl
      rw [jn_rows4 (r := r1) (a := (fun h => [q, a1, a2, r1 0, r1 1, r1 2, r1 3, r2 0, r2 1, r2 2, r2 3, r2 4, r2 5, a3, a4, a5].getD h 0)) (h0 := 3) (h1 := 4) (h2 := 5) (h3 := 6) rfl rfl rfl rfl] at h9
      exact h9
    | 2, _ => by
      have h9 := hP 6 _ rfl
      rw [jn_rows6 (r := r2) (a := (fun h => [q, a1, a2, r1 0, r1 1, r1 2, r1 3, r2 0, r2 1, r2 2, r2 3, r2 4, r2 5, a3, a4, a5].getD h 0)) (h0 := 7) (h1 := 8) (h2 := 9) (h3 := 10) (h4 := 11) (h5 := 12) rfl rfl rfl rfl rfl rfl] at h9
      exact h9
    | 3, _ => hP 2 _ rfl
    | 4, _ => hP 3 _ rfl
    | 5, _ => hP 4 _ rfl
    | 6, _ => hP 5 _ rfl
    | 7, _ => hP 7 _ rfl
    | 8, _ => hP 8 _ rfl
    | 9, _ => hP 9 _ rfl
    | 10, _ => hP 10 _ rfl
    | 11, _ => hP 11 _ rfl
    | 12, _ => hP 12 _ rfl
    | 13, _ => hP 13 _ rfl
    | 14, _ => hP 14 _ rfl
    | 15, _ => hP 15 _ rfl
    | k9 + 16, h9 => absurd h9 (by omega))
  obtain ⟨v', hf, hc⟩ := run_X3
  exact j_X3_init (ad := (fun h => [q, a1, a2, r1 0, r1 1, r1 2, r1 3, r2 0, r2 1, r2 2, r2 3, r2 4, r2 5, a3, a4, a5].getD h 0)) (A := A) (Q := MQ below (va_Qv (fun (_ : Unit) => True) (fun _ t => ∃ a : Nat → Nat, a 0 = q ∧ va_P D vwCl (jx_ws 16 cI cJ a shZ v0_X3) t.heap ∧ va_D A (jx_ws 16 cI cJ a shZ v0_X3)) A) args s 15 188 A) (cI := cI) (cJ := cJ) ⟨E.1, E.2.1, E.2.2.1, E.2.2.2.1, E.2.2.2.2.1, E.2.2.2.2.2.1, E.2.2.2.2.2.2.1, E.2.2.2.2.2.2.2.1, hI, trivial, (ex_M_ok A)⟩ hI vs_X3 v' hf (fun H1 locs1 ls1 hP1 hS1 hl1 => W.vret E.1 E.2.1 E.2.2.2.2.2.1 (fun t ht hW => ⟨⟨(), rfl, trivial, ⟨(fun h => [q, a1, a2, r1 0, r1 1, r1 2, r1 3, r2 0, r2 1, r2 2, r2 3, r2 4, r2 5, a3, a4, a5].getD h 0), rfl, jx_cong hc (by rw [ht]; exact hP1), jx_D hI⟩⟩, hS1.F ht⟩) hS1.2.2 dX3_init_130 E.2.2.2.2.2.2.1) H locs ls hPJ hS hl
