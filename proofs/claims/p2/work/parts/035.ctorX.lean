set_option maxHeartbeats 4000000 in
set_option maxRecDepth 100000 in
theorem k_X4_init {l : Launch} {D : va_G} {cI cJ : ClassId} : jn_C l D vwCl cI cJ yX4_init (Cond.code yX4_init cX4_init 1 none :: bigT) rm_X4_init 4 [.null, .null, .null, .null, .null, .null, .null, .null, .null, .null, .int 0] 67 shX v0_X4 66 927 := by
  refine jn_enter bigT RX4 cX4_init 1 (by decide +kernel) rfl (by decide) rfl rfl ?_
  intro p e s m args below meth c q A E
  have iX0 : ∀ w ∈ u_ws RX0 TX0 3, w ∈ (Cond.code yX4_init cX4_init 1 none :: bigT) := fun w h => List.mem_cons_of_mem _ (uw_X0 w h)
  have iX1 : ∀ w ∈ u_ws RX1 TX1 3, w ∈ (Cond.code yX4_init cX4_init 1 none :: bigT) := fun w h => List.mem_cons_of_mem _ (uw_X1 w h)
  have iX2 : ∀ w ∈ u_ws RX2 TX2 7, w ∈ (Cond.code yX4_init cX4_init 1 none :: bigT) := fun w h => List.mem_cons_of_mem _ (uw_X2 w h)
  have iX3 : ∀ w ∈ u_ws RX3 TX3 8, w ∈ (Cond.code yX4_init cX4_init 1 none :: bigT) := fun w h => List.mem_cons_of_mem _ (uw_X3 w h)
  have iX4 : ∀ w ∈ u_ws RX4 TX4 11, w ∈ (Cond.code yX4_init cX4_init 1 none :: bigT) := fun w h => List.mem_cons_of_mem _ (uw_X4 w h)
  refine jn_aload_n E dX4_init_0 0 rfl ?_
  refine jn_objInit E dX4_init_1 (List.mem_cons_of_mem _ tw_619) (List.mem_cons_of_mem _ tw_610) (List.mem_cons_of_mem _ tw_611) (by decide) (by decide) ?_
  refine jn_aload_n E dX4_init_4 0 rfl ?_
  refine jn_new (ci := 3) (M := 8) (fs := [.null, .null, .null, .null, .null, .int 0, .int 0, .int 0]) E tyX3 dX4_init_5 iX3 tyX3_ok (List.mem_cons_of_mem _ tw_620) (List.mem_cons_of_mem _ tw_621) (List.mem_cons_of_mem _ tw_33) rfl (by decide) (by decide) (by decide) (fun q1 => ?_)
  refine jn_dup E dX4_init_8 rfl ?_
  refine jn_callN (ws := [(q, .inr (4, [.null, .null, .null, .null, .null, .null, .null, .null, .null, .null, .int 0]))]) E dX4_init_9 (k_X3_init (l := l) (D := D) (cI := cI) (cJ := cJ)) (gb_N tw_622) rfl rfl rfl (ex_cm0 E.2.2.2.2.2.2.2.2.2.1) (List.mem_cons_of_mem _ tw_33) (List.mem_cons_of_mem _ tw_623) rfl dd_X3_init.2 ⟨by decide, by decide⟩ ⟨by decide, by decide⟩ (Nat.le_of_ble_eq_true rfl) (fun b1 hb1 => ?_)
  subst hb1
  refine jn_eq (ws2 := (q, .inr (4, [.null, .null, .null, .null, .null, .null, .null, .null, .null, .null, .int 0])) :: (jx_ws 16 cI cJ b1 shZ v0_X3)) rfl ?_
  refine jn_putF (k := 0) (ci := 4) (T := TX4) (M := 11) (ty := .object "WindowViews$Town") E tyX4 dX4_init_12 iX4 tyX4_ok nmX4 rfl (by decide) rfl (List.mem_cons_of_mem _ tw_195) rfl (by decide +kernel) rfl rfl (Nat.le_of_ble_eq_true rfl) ?_
  refine jn_eq (ws2 := (q, .inr (4, [.ref (b1 0), .null, .null, .null, .null, .null, .null, .null, .null, .null, .int 0])) :: (jx_ws 16 cI cJ b1 shZ v0_X3)) rfl ?_
  refine jn_aload_n E dX4_init_15 0 rfl ?_
  refine jn_new (ci := 3) (M := 8) (fs := [.null, .null, .null, .null, .null, .int 0, .int 0, .int 0]) E tyX3 dX4_init_16 iX3 tyX3_ok (List.mem_cons_of_mem _ tw_620) (List.mem_cons_of_mem _ tw_621) (List.mem_cons_of_mem _ tw_33) rfl (by decide) (by decide) (by decide) (fun q2 => ?_)
  refine jn_dup E dX4_init_19 rfl ?_
  refine jn_callN (ws := (q, .inr (4, [.ref (b1 0), .null, .null, .null, .null, .null, .null, .null, .null, .null, .int 0])) :: (jx_ws 16 cI cJ b1 shZ v0_X3)) E dX4_init_20 (k_X3_init (l := l) (D := D) (cI := cI) (cJ := cJ)) (gb_N tw_622) rfl rfl rfl (ex_cm0 E.2.2.2.2.2.2.2.2.2.1) (List.mem_cons_of_mem _ tw_33) (List.mem_cons_of_mem _ tw_623) rfl dd_X3_init.2 ⟨by decide, by decide⟩ ⟨by decide, by decide⟩ (Nat.le_of_ble_eq_true rfl) (fun b2 hb2 => ?_)
  subst hb2
  refine jn_eq (ws2 := (q, .inr (4, [.ref (b1 0), .null, .null, .null, .null, .null, .null, .null, .null, .null, .int 0])) :: (jx_ws 16 cI cJ b1 shZ v0_X3 ++ jx_ws 16 cI cJ b2 shZ v0_X3)) rfl ?_
  refine jn_putF (k := 1) (ci := 4) (T := TX4) (M := 11) (ty := .object "WindowViews$Town") E tyX4 dX4_init_23 iX4 tyX4_ok nmX4 rfl (by decide) rfl (List.mem_cons_of_mem _ tw_308) rfl (by decide +kernel) rfl rfl (Nat.le_of_ble_eq_true rfl) ?_
  refine jn_eq (ws2 := (q, .inr (4, [.ref (b1 0), .ref (b2 0), .null, .null, .null, .null, .null, .null, .null, .null, .int 0])) :: (jx_ws 16 cI cJ b1 shZ v0_X3 ++ jx_ws 16 cI cJ b2 shZ v0_X3)) rfl ?_
  refine jn_aload_n E dX4_init_26 0 rfl ?_
  refine jn_new (ci := 3) (M := 8) (fs := [.null, .null, .null, .null, .null, .int 0, .int 0, .int 0]) E tyX3 dX4_init_27 iX3 tyX3_ok (List.mem_cons_of_mem _ tw_620) (List.mem_cons_of_mem _ tw_621) (List.mem_cons_of_mem _ tw_33) rfl (by decide) (by decide) (by decide) (fun q3 => ?_)
  refine jn_dup E dX4_init_30 rfl ?_
  refine jn_callN (ws := (q, .inr (4, [.ref (b1 0), .ref (b2 0), .null, .null, .null, .null, .null, .null, .null, .null, .int 0])) :: (jx_ws 16 cI cJ b1 shZ v0_X3 ++ jx_ws 16 cI cJ b2 shZ v0_X3)) E dX4_init_31 (k_X3_init (l := l) (D := D) (cI := cI) (cJ := cJ)) (gb_N tw_622) rfl rfl rfl (ex_cm0 E.2.2.2.2.2.2.2.2.2.1) (List.mem_cons_of_mem _ tw_33) (List.mem_cons_of_mem _ tw_623) rfl dd_X3_init.2 ⟨by decide, by decide⟩ ⟨by decide, by decide⟩ (Nat.le_of_ble_eq_true rfl) (fun b3 hb3 => ?_)
  subst hb3
  refine jn_eq (ws2 := (q, .inr (4, [.ref (b1 0), .ref (b2 0), .null, .null, .null, .null, .null, .null, .null, .null, .int 0])) :: (jx_ws 16 cI cJ b1 shZ v0_X3 ++ jx_ws 16 cI cJ b2 shZ v0_X3 ++ jx_ws 16 cI cJ b3 shZ v0_X3)) rfl ?_
  refine jn_putF (k := 2) (ci := 4) (T := TX4) (M := 11) (ty := .object "WindowViews$Town") E tyX4 dX4_init_34 iX4 tyX4_ok nmX4 rfl (by decide) rfl (List.mem_cons_of_mem _ tw_234) rfl (by decide +kernel) rfl rfl (Nat.le_of_ble_eq_true rfl) ?_
  refine jn_eq (ws2 := (q, .inr (4, [.ref (b1 0), .ref (b2 0), .ref (b3 0), .null, .null, .null, .null, .null, .null, .null, .int 0])) :: (jx_ws 16 cI cJ b1 shZ v0_X3 ++ jx_ws 16 cI cJ b2 shZ v0_X3 ++ jx_ws 16 cI cJ b3 shZ v0_X3)) rfl ?_
  refine jn_aload_n E dX4_init_37 0 rfl ?_
  refine jn_new (ci := 0) (M := 3) (fs := [.null, .null, .null]) E tyX0 dX4_init_38 iX0 tyX0_ok (List.mem_cons_of_mem _ tw_624) (List.mem_cons_of_mem _ tw_625) (List.mem_cons_of_mem _ tw_49) rfl (by decide) (by decide) (by decide) (fun q4 => ?_)
  refine jn_dup E dX4_init_41 rfl ?_
  refine jn_callN (ws := (q, .inr (4, [.ref (b1 0), .ref (b2 0), .ref (b3 0), .null, .null, .null, .null, .null, .null, .null, .int 0])) :: (jx_ws 16 cI cJ b1 shZ v0_X3 ++ jx_ws 16 cI cJ b2 shZ v0_X3 ++ jx_ws 16 cI cJ b3 shZ v0_X3)) E dX4_init_42 (k_X0_init (l := l) (D := D) (cI := cI) (cJ := cJ)) (gb_N tw_626) rfl rfl rfl (ex_cm1 E.2.2.2.2.2.2.2.2.2.1) (List.mem_cons_of_mem _ tw_49) (List.mem_cons_of_mem _ tw_627) rfl dd_X0_init.2 ⟨by decide, by decide⟩ ⟨by decide, by decide⟩ (Nat.le_of_ble_eq_true rfl) (fun b4 hb4 => ?_)
  subst hb4
  refine jn_eq (ws2 := (q, .inr (4, [.ref (b1 0), .ref (b2 0), .ref (b3 0), .null, .null, .null, .null, .null, .null, .null, .int 0])) :: (jx_ws 16 cI cJ b1 shZ v0_X3 ++ jx_ws 16 cI cJ b2 shZ v0_X3 ++ jx_ws 16 cI cJ b3 shZ v0_X3 ++ jx_ws 4 cI cJ b4 shX0 v0_X0)) rfl ?_
  refine jn_putF (k := 3) (ci := 4) (T := TX4) (M := 11) (ty := .object "WindowViews$Glance") E tyX4 dX4_init_45 iX4 tyX4_ok nmX4 rfl (by decide) rfl (List.mem_cons_of_mem _ tw_209) rfl (by decide +kernel) rfl rfl (Nat.le_of_ble_eq_true rfl) ?_
  refine jn_eq (ws2 := (q, .inr (4, [.ref (b1 0), .ref (b2 0), .ref (b3 0), .ref (b4 0), .null, .null, .null, .null, .null, .null, .int 0])) :: (jx_ws 16 cI cJ b1 shZ v0_X3 ++ jx_ws 16 cI cJ b2 shZ v0_X3 ++ jx_ws 16 cI cJ b3 shZ v0_X3 ++ jx_ws 4 cI cJ b4 shX0 v0_X0)) rfl ?_
  refine jn_aload_n E dX4_init_48 0 rfl ?_
  refine jn_new (ci := 2) (M := 7) (fs := [.null, .int 0, .int 0, .int 0, .int 0, .int 0, .int 0]) E tyX2 dX4_init_49 iX2 tyX2_ok (List.mem_cons_of_mem _ tw_628) (List.mem_cons_of_mem _ tw_629) (List.mem_cons_of_mem _ tw_100) rfl (by decide) (by decide) (by decide) (fun q5 => ?_)
  refine jn_dup E dX4_init_52 rfl ?_
  refine jn_callN (ws := (q, .inr (4, [.ref (b1 0), .ref (b2 0), .ref (b3 0), .ref (b4 0), .null, .null, .null, .null, .null, .null, .int 0])) :: (jx_ws 16 cI cJ b1 shZ v0_X3 ++ jx_ws 16 cI cJ b2 shZ v0_X3 ++ jx_ws 16 cI cJ b3 shZ v0_X3 ++ jx_ws 4 cI cJ b4 shX0 v0_X0)) E dX4_init_53 (k_X2_init (l := l) (D := D) (cI := cI) (cJ := cJ)) (gb_N tw_630) rfl rfl rfl (ex_cm2 E.2.2.2.2.2.2.2.2.2.1) (List.mem_cons_of_mem _ tw_100) (List.mem_cons_of_mem _ tw_631) rfl dd_X2_init.2 ⟨by decide, by decide⟩ ⟨by decide, by decide⟩ (Nat.le_of_ble_eq_true rfl) (fun b5 hb5 => ?_)
  subst hb5
  refine jn_eq (ws2 := (q, .inr (4, [.ref (b1 0), .ref (b2 0), .ref (b3 0), .ref (b4 0), .null, .null, .null, .null, .null, .null, .int 0])) :: (jx_ws 16 cI cJ b1 shZ v0_X3 ++ jx_ws 16 cI cJ b2 shZ v0_X3 ++ jx_ws 16 cI cJ b3 shZ v0_X3 ++ jx_ws 4 cI cJ b4 shX0 v0_X0 ++ jx_ws 2 cI cJ b5 shX2 v0_X2)) rfl ?_
  refine jn_putF (k := 4) (ci := 4) (T := TX4) (M := 11) (ty := .object "WindowViews$Tape") E tyX4 dX4_init_56 iX4 tyX4_ok nmX4 rfl (by decide) rfl (List.mem_cons_of_mem _ tw_280) rfl (by decide +kernel) rfl rfl (Nat.le_of_ble_eq_true rfl) ?_
  refine jn_eq (ws2 := (q, .inr (4, [.ref (b1 0), .ref (b2 0), .ref (b3 0), .ref (b4 0), .ref (b5 0), .null, .null, .null, .null, .null, .int 0])) :: (jx_ws 16 cI cJ b1 shZ v0_X3 ++ jx_ws 16 cI cJ b2 shZ v0_X3 ++ jx_ws 16 cI cJ b3 shZ v0_X3 ++ jx_ws 4 cI cJ b4 shX0 v0_X0 ++ jx_ws 2 cI cJ b5 shX2 v0_X2)) rfl ?_
  refine jn_aload_n E dX4_init_59 0 rfl ?_
  refine jn_new (ci := 1) (M := 3) (fs := [.null, .null, .null]) E tyX1 dX4_init_60 iX1 tyX1_ok (List.mem_cons_of_mem _ tw_632) (List.mem_cons_of_mem _ tw_633) (List.mem_cons_of_mem _ tw_295) rfl (by decide) (by decide) (by decide) (fun q6 => ?_)
  refine jn_dup E dX4_init_63 rfl ?_
  refine jn_callN (ws := (q, .inr (4, [.ref (b1 0), .ref (b2 0), .ref (b3 0), .ref (b4 0), .ref (b5 0), .null, .null, .null, .null, .null, .int 0])) :: (jx_ws 16 cI cJ b1 shZ v0_X3 ++ jx_ws 16 cI cJ b2 shZ v0_X3 ++ jx_ws 16 cI cJ b3 shZ v0_X3 ++ jx_ws 4 cI cJ b4 shX0 v0_X0 ++ jx_ws 2 cI cJ b5 shX2 v0_X2)) E dX4_init_64 (k_X1_init (l := l) (D := D) (cI := cI) (cJ := cJ)) (gb_N tw_634) rfl rfl rfl (ex_cm3 E.2.2.2.2.2.2.2.2.2.1) (List.mem_cons_of_mem _ tw_295) (List.mem_cons_of_mem _ tw_635) rfl dd_X1_init.2 ⟨by decide, by decide⟩ ⟨by decide, by decide⟩ (Nat.le_of_ble_eq_true rfl) (fun b6 hb6 => ?_)
  subst hb6
  refine jn_eq (ws2 := (q, .inr (4, [.ref (b1 0), .ref (b2 0), .ref (b3 0), .ref (b4 0), .ref (b5 0), .null, .null, .null, .null, .null, .int 0])) :: (jx_ws 16 cI cJ b1 shZ v0_X3 ++ jx_ws 16 cI cJ b2 shZ v0_X3 ++ jx_ws 16 cI cJ b3 shZ v0_X3 ++ jx_ws 4 cI cJ b4 shX0 v0_X0 ++ jx_ws 2 cI cJ b5 shX2 v0_X2 ++ jx_ws 8 cI cJ b6 shX1 v0_X1)) rfl ?_
  refine jn_putF (k := 5) (ci := 4) (T := TX4) (M := 11) (ty := .object "WindowViews$Sheets") E tyX4 dX4_init_67 iX4 tyX4_ok nmX4 rfl (by decide) rfl (List.mem_cons_of_mem _ tw_293) rfl (by decide +kernel) rfl rfl (Nat.le_of_ble_eq_true rfl) ?_
  refine jn_eq (ws2 := (q, .inr (4, [.ref (b1 0), .ref (b2 0), .ref (b3 0), .ref (b4 0), .ref (b5 0), .ref (b6 0), .null, .null, .null, .null, .int 0])) :: (jx_ws 16 cI cJ b1 shZ v0_X3 ++ jx_ws 16 cI cJ b2 shZ v0_X3 ++ jx_ws 16 cI cJ b3 shZ v0_X3 ++ jx_ws 4 cI cJ b4 shX0 v0_X0 ++ jx_ws 2 cI cJ b5 shX2 v0_X2 ++ jx_ws 8 cI cJ b6 shX1 v0_X1)) rfl ?_
  refine jn_aload_n E dX4_init_70 0 rfl ?_
  refine jn_bipush (x := 7) E dX4_init_71 (by decide) ?_
  refine jn_newa (N' := 7) E dX4_init_73 (List.mem_cons_of_mem _ tw_612) (by decide) (by decide) (by decide) (by decide) (by decide) (fun a7 => ?_)
  refine jn_eq (ws2 := (q, .inr (4, [.ref (b1 0), .ref (b2 0), .ref (b3 0), .ref (b4 0), .ref (b5 0), .ref (b6 0), .null, .null, .null, .null, .int 0])) :: (jx_ws 16 cI cJ b1 shZ v0_X3 ++ jx_ws 16 cI cJ b2 shZ v0_X3 ++ jx_ws 16 cI cJ b3 shZ v0_X3 ++ jx_ws 4 cI cJ b4 shX0 v0_X0 ++ jx_ws 2 cI cJ b5 shX2 v0_X2 ++ jx_ws 8 cI cJ b6 shX1 v0_X1 ++ [(a7, .inl (cI, 7, .inl (fun _ => 0)))])) rfl ?_
  refine jn_putF (k := 6) (ci := 4) (T := TX4) (M := 11) (ty := .array .int) E tyX4 dX4_init_75 iX4 tyX4_ok nmX4 rfl (by decide) rfl (List.mem_cons_of_mem _ tw_185) rfl (by decide +kernel) rfl rfl (Nat.le_of_ble_eq_true rfl) ?_
  refine jn_eq (ws2 := (q, .inr (4, [.ref (b1 0), .ref (b2 0), .ref (b3 0), .ref (b4 0), .ref (b5 0), .ref (b6 0), .ref a7, .null, .null, .null, .int 0])) :: (jx_ws 16 cI cJ b1 shZ v0_X3 ++ jx_ws 16 cI cJ b2 shZ v0_X3 ++ jx_ws 16 cI cJ b3 shZ v0_X3 ++ jx_ws 4 cI cJ b4 shX0 v0_X0 ++ jx_ws 2 cI cJ b5 shX2 v0_X2 ++ jx_ws 8 cI cJ b6 shX1 v0_X1 ++ [(a7, .inl (cI, 7, .inl (fun _ => 0)))])) rfl ?_
  refine jn_aload_n E dX4_init_78 0 rfl ?_
  refine jn_iconst (x := 4) E dX4_init_79 (by decide) ?_
  refine jn_newa (N' := 4) E dX4_init_80 (List.mem_cons_of_mem _ tw_612) (by decide) (by decide) (by decide) (by decide) (by decide) (fun a8 => ?_)
  refine jn_eq (ws2 := (q, .inr (4, [.ref (b1 0), .ref (b2 0), .ref (b3 0), .ref (b4 0), .ref (b5 0), .ref (b6 0), .ref a7, .null, .null, .null, .int 0])) :: (jx_ws 16 cI cJ b1 shZ v0_X3 ++ jx_ws 16 cI cJ b2 shZ v0_X3 ++ jx_ws 16 cI cJ b3 shZ v0_X3 ++ jx_ws 4 cI cJ b4 shX0 v0_X0 ++ jx_ws 2 cI cJ b5 shX2 v0_X2 ++ jx_ws 8 cI cJ b6 shX1 v0_X1 ++ [(a7, .inl (cI, 7, .inl (fun _ => 0))), (a8, .inl (cI, 4, .inl (fun _ => 0)))])) rfl ?_
  refine jn_putF (k := 7) (ci := 4) (T := TX4) (M := 11) (ty := .array .int) E tyX4 dX4_init_82 iX4 tyX4_ok nmX4 rfl (by decide) rfl (List.mem_cons_of_mem _ tw_253) rfl (by decide +kernel) rfl rfl (Nat.le_of_ble_eq_true rfl) ?_
  refine jn_eq (ws2 := (q, .inr (4, [.ref (b1 0), .ref (b2 0), .ref (b3 0), .ref (b4 0), .ref (b5 0), .ref (b6 0), .ref a7, .ref a8, .null, .null, .int 0])) :: (jx_ws 16 cI cJ b1 shZ v0_X3 ++ jx_ws 16 cI cJ b2 shZ v0_X3 ++ jx_ws 16 cI cJ b3 shZ v0_X3 ++ jx_ws 4 cI cJ b4 shX0 v0_X0 ++ jx_ws 2 cI cJ b5 shX2 v0_X2 ++ jx_ws 8 cI cJ b6 shX1 v0_X1 ++ [(a7, .inl (cI, 7, .inl (fun _ => 0))), (a8, .inl (cI, 4, .inl (fun _ => 0)))])) rfl ?_
  refine jn_aload_n E dX4_init_85 0 rfl ?_
  refine jn_iconst (x := 4) E dX4_init_86 (by decide) ?_
  refine jn_newa (N' := 4) E dX4_init_87 (List.mem_cons_of_mem _ tw_612) (by decide) (by decide) (by decide) (by decide) (by decide) (fun a9 => ?_)
  refine jn_eq (ws2 := (q, .inr (4, [.ref (b1 0), .ref (b2 0), .ref (b3 0), .ref (b4 0), .ref (b5 0), .ref (b6 0), .ref a7, .ref a8, .null, .null, .int 0])) :: (jx_ws 16 cI cJ b1 shZ v0_X3 ++ jx_ws 16 cI cJ b2 shZ v0_X3 ++ jx_ws 16 cI cJ b3 shZ v0_X3 ++ jx_ws 4 cI cJ b4 shX0 v0_X0 ++ jx_ws 2 cI cJ b5 shX2 v0_X2 ++ jx_ws 8 cI cJ b6 shX1 v0_X1 ++ [(a7, .inl (cI, 7, .inl (fun _ => 0))), (a8, .inl (cI, 4, .inl (fun _ => 0))), (a9, .inl (cI, 4, .inl (fun _ => 0)))])) rfl ?_
  refine jn_putF (k := 8) (ci := 4) (T := TX4) (M := 11) (ty := .array .int) E tyX4 dX4_init_89 iX4 tyX4_ok nmX4 rfl (by decide) rfl (List.mem_cons_of_mem _ tw_217) rfl (by decide +kernel) rfl rfl (Nat.le_of_ble_eq_true rfl) ?_
  refine jn_eq (ws2 := (q, .inr (4, [.ref (b1 0), .ref (b2 0), .ref (b3 0), .ref (b4 0), .ref (b5 0), .ref (b6 0), .ref a7, .ref a8, .ref a9, .null, .int 0])) :: (jx_ws 16 cI cJ b1 shZ v0_X3 ++ jx_ws 16 cI cJ b2 shZ v0_X3 ++ jx_ws 16 cI cJ b3 shZ v0_X3 ++ jx_ws 4 cI cJ b4 shX0 v0_X0 ++ jx_ws 2 cI cJ b5 shX2 v0_X2 ++ jx_ws 8 cI cJ b6 shX1 v0_X1 ++ [(a7, .inl (cI, 7, .inl (fun _ => 0))), (a8, .inl (cI, 4, .inl (fun _ => 0))), (a9, .inl (cI, 4, .inl (fun _ => 0)))])) rfl ?_
  refine jn_aload_n E dX4_init_92 0 rfl ?_
  refine jn_iconst (x := 4) E dX4_init_93 (by decide) ?_
  refine jn_newa (N' := 4) E dX4_init_94 (List.mem_cons_of_mem _ tw_612) (by decide) (by decide) (by decide) (by decide) (by decide) (fun a10 => ?_)
  refine jn_eq (ws2 := (q, .inr (4, [.ref (b1 0), .ref (b2 0), .ref (b3 0), .ref (b4 0), .ref (b5 0), .ref (b6 0), .ref a7, .ref a8, .ref a9, .null, .int 0])) :: (jx_ws 16 cI cJ b1 shZ v0_X3 ++ jx_ws 16 cI cJ b2 shZ v0_X3 ++ jx_ws 16 cI cJ b3 shZ v0_X3 ++ jx_ws 4 cI cJ b4 shX0 v0_X0 ++ jx_ws 2 cI cJ b5 shX2 v0_X2 ++ jx_ws 8 cI cJ b6 shX1 v0_X1 ++ [(a7, .inl (cI, 7, .inl (fun _ => 0))), (a8, .inl (cI, 4, .inl (fun _ => 0))), (a9, .inl (cI, 4, .inl (fun _ => 0))), (a10, .inl (cI, 4, .inl (fun _ => 0)))])) rfl ?_
  refine jn_putF (k := 9) (ci := 4) (T := TX4) (M := 11) (ty := .array .int) E tyX4 dX4_init_96 iX4 tyX4_ok nmX4 rfl (by decide) rfl (List.mem_cons_of_mem _ tw_216) rfl (by decide +kernel) rfl rfl (Nat.le_of_ble_eq_true rfl) ?_
  refine jn_eq (ws2 := (q, .inr (4, [.ref (b1 0), .ref (b2 0), .ref (b3 0), .ref (b4 0), .ref (b5 0), .ref (b6 0), .ref a7, .ref a8, .ref a9, .ref a10, .int 0])) :: (jx_ws 16 cI cJ b1 shZ v0_X3 ++ jx_ws 16 cI cJ b2 shZ v0_X3 ++ jx_ws 16 cI cJ b3 shZ v0_X3 ++ jx_ws 4 cI cJ b4 shX0 v0_X0 ++ jx_ws 2 cI cJ b5 shX2 v0_X2 ++ jx_ws 8 cI cJ b6 shX1 v0_X1 ++ [(a7, .inl (cI, 7, .inl (fun _ => 0))), (a8, .inl (cI, 4, .inl (fun _ => 0))), (a9, .inl (cI, 4, .inl (fun _ => 0))), (a10, .inl (cI, 4, .inl (fun _ => 0)))])) rfl ?_
  refine jn_aload_n E dX4_init_99 0 rfl ?_
  refine jn_iconst (x := 0) E dX4_init_100 (by decide) ?_
  refine jn_puti (k := 10) (ci := 4) (T := TX4) (M := 11) (ty := .boolean) E tyX4 dX4_init_101 iX4 tyX4_ok nmX4 rfl (by decide) rfl (List.mem_cons_of_mem _ tw_309) rfl (by decide +kernel) rfl rfl (Nat.le_of_ble_eq_true rfl) ?_
  refine jn_eq (ws2 := (q, .inr (4, [.ref (b1 0), .ref (b2 0), .ref (b3 0), .ref (b4 0), .ref (b5 0), .ref (b6 0), .ref a7, .ref a8, .ref a9, .ref a10, .int 0])) :: (jx_ws 16 cI cJ b1 shZ v0_X3 ++ jx_ws 16 cI cJ b2 shZ v0_X3 ++ jx_ws 16 cI cJ b3 shZ v0_X3 ++ jx_ws 4 cI cJ b4 shX0 v0_X0 ++ jx_ws 2 cI cJ b5 shX2 v0_X2 ++ jx_ws 8 cI cJ b6 shX1 v0_X1 ++ [(a7, .inl (cI, 7, .inl (fun _ => 0))), (a8, .inl (cI, 4, .inl (fun _ => 0))), (a9, .inl (cI, 4, .inl (fun _ => 0))), (a10, .inl (cI, 4, .inl (fun _ => 0)))])) rfl ?_
  refine jn_vret (v0 := v0_X4) (sh := shX) (n := 67) E (fun h => if h < 1 then q else if h < 17 then b1 (h - 1) else if h < 33 then b2 (h - 17) else if h < 49 then b3 (h - 33) else if h < 53 then b4 (h - 49) else if h < 55 then b5 (h - 53) else if h < 63 then b6 (h - 55) else [a7, a8, a9, a10].getD (h - 63) 0) rfl dX4_init_104 (fun hD => jn_inj (fun i => i) (fun i _ j _ h => h) (fun i hi => ?_) hD) (fun H hP => jn_P (fun h hh => ?_))
  · exact match i, hi with
    | 0, _ => ⟨_, rfl⟩
    | 1, _ => ⟨_, rfl⟩
    | 2, _ => ⟨_, rfl⟩
    | 3, _ => ⟨_, rfl⟩
    | 4, _ => ⟨_, rfl⟩
    | 5, _ => ⟨_, rfl⟩
    | 6, _ => ⟨_, rfl⟩
    | 7, _ => ⟨_, rfl⟩
    | 8, _ => ⟨_, rfl⟩
    | 9, _ => ⟨_, rfl⟩
    | 10, _ => ⟨_, rfl⟩
    | 11, _ => ⟨_, rfl⟩
    | 12, _ => ⟨_, rfl⟩
    | 13, _ => ⟨_, rfl⟩
    | 14, _ => ⟨_, rfl⟩
    | 15, _ => ⟨_, rfl⟩
    | 16, _ => ⟨_, rfl⟩
    | 17, _ => ⟨_, rfl⟩
    | 18, _ => ⟨_, rfl⟩
    | 19, _ => ⟨_, rfl⟩
    | 20, _ => ⟨_, rfl⟩
    | 21, _ => ⟨_, rfl⟩
    | 22, _ => ⟨_, rfl⟩
    | 23, _ => ⟨_, rfl⟩
    | 24, _ => ⟨_, rfl⟩
    | 25, _ => ⟨_, rfl⟩
    | 26, _ => ⟨_, rfl⟩
    | 27, _ => ⟨_, rfl⟩
    | 28, _ => ⟨_, rfl⟩
    | 29, _ => ⟨_, rfl⟩
    | 30, _ => ⟨_, rfl⟩
    | 31, _ => ⟨_, rfl⟩
    | 32, _ => ⟨_, rfl⟩
    | 33, _ => ⟨_, rfl⟩
    | 34, _ => ⟨_, rfl⟩
    | 35, _ => ⟨_, rfl⟩
    | 36, _ => ⟨_, rfl⟩
    | 37, _ => ⟨_, rfl⟩
    | 38, _ => ⟨_, rfl⟩
    | 39, _ => ⟨_, rfl⟩
    | 40, _ => ⟨_, rfl⟩
    | 41, _ => ⟨_, rfl⟩
    | 42, _ => ⟨_, rfl⟩
    | 43, _ => ⟨_, rfl⟩
    | 44, _ => ⟨_, rfl⟩
    | 45, _ => ⟨_, rfl⟩
    | 46, _ => ⟨_, rfl⟩
    | 47, _ => ⟨_, rfl⟩
    | 48, _ => ⟨_, rfl⟩
    | 49, _ => ⟨_, rfl⟩
    | 50, _ => ⟨_, rfl⟩
    | 51, _ => ⟨_, rfl⟩
    | 52, _ => ⟨_, rfl⟩
    | 53, _ => ⟨_, rfl⟩
    | 54, _ => ⟨_, rfl⟩
    | 55, _ => ⟨_, rfl⟩
    | 56, _ => ⟨_, rfl⟩
    | 57, _ => ⟨_, rfl⟩
    | 58, _ => ⟨_, rfl⟩
    | 59, _ => ⟨_, rfl⟩
    | 60, _ => ⟨_, rfl⟩
    | 61, _ => ⟨_, rfl⟩
    | 62, _ => ⟨_, rfl⟩
    | 63, _ => ⟨_, rfl⟩
    | 64, _ => ⟨_, rfl⟩
    | 65, _ => ⟨_, rfl⟩
    | 66, _ => ⟨_, rfl⟩
    | k9 + 67, h9 => absurd h9 (by omega)
  · exact match h, hh with
    | 0, _ => hP 0 _ rfl
    | 1, _ => hP 1 _ rfl
    | 2, _ => by
      have h9 : va_at D vwCl (b1 1, .inl (cJ, 4, .inr (.inr (.inr (.inr (fun i : Nat => ([3, 4, 5, 6][i]?).map b1)))))) H := hP 2 _ rfl
      rw [jn_outer (hs := [3, 4, 5, 6]) (a := b1) (hs' := [4, 5, 6, 7]) (b := (fun h => if h < 1 then q else if h < 17 then b1 (h - 1) else if h < 33 then b2 (h - 17) else if h < 49 then b3 (h - 33) else if h < 53 then b4 (h - 49) else if h < 55 then b5 (h - 53) else if h < 63 then b6 (h - 55) else [a7, a8, a9, a10].getD (h - 63) 0)) rfl] at h9
      exact h9
    | 3, _ => by
      have h9 : va_at D vwCl (b1 2, .inl (cJ, 6, .inr (.inr (.inr (.inr (fun i : Nat => ([7, 8, 9, 10, 11, 12][i]?).map b1)))))) H := hP 3 _ rfl
      rw [jn_outer (hs := [7, 8, 9, 10, 11, 12]) (a := b1) (hs' := [8, 9, 10, 11, 12, 13]) (b := (fun h => if h < 1 then q else if h < 17 then b1 (h - 1) else if h < 33 then b2 (h - 17) else if h < 49 then b3 (h - 33) else if h < 53 then b4 (h - 49) else if h < 55 then b5 (h - 53) else if h < 63 then b6 (h - 55) else [a7, a8, a9, a10].getD (h - 63) 0)) rfl] at h9
      exact h9
    | 4, _ => hP 4 _ rfl
    | 5, _ => hP 5 _ rfl
    | 6, _ => hP 6 _ rfl
    | 7, _ => hP 7 _ rfl
    | 8, _ => hP 8 _ rfl
    | 9, _ => hP 9 _ rfl
    | 10, _ => hP 10 _ rfl
    | 11, _ => hP 11 _ rfl
    | 12, _ => hP 12 _ rfl
    | 13, _ => hP 13 _ rfl
    | 14, _ => hP 14 _ rfl
    | 15, _ => hP 15 _ rfl
    | 16, _ => hP 16 _ rfl
    | 17, _ => hP 17 _ rfl
    | 18, _ => by
      have h9 : va_at D vwCl (b2 1, .inl (cJ, 4, .inr (.inr (.inr (.inr (fun i : Nat => ([3, 4, 5, 6][i]?).map b2)))))) H := hP 18 _ rfl
      rw [jn_outer (hs := [3, 4, 5, 6]) (a := b2) (hs' := [20, 21, 22, 23]) (b := (fun h => if h < 1 then q else if h < 17 then b1 (h - 1) else if h < 33 then b2 (h - 17) else if h < 49 then b3 (h - 33) else if h < 53 then b4 (h - 49) else if h < 55 then b5 (h - 53) else if h < 63 then b6 (h - 55) else [a7, a8, a9, a10].getD (h - 63) 0)) rfl] at h9
      exact h9
    | 19, _ => by
      have h9 : va_at D vwCl (b2 2, .inl (cJ, 6, .inr (.inr (.inr (.inr (fun i : Nat => ([7, 8, 9, 10, 11, 12][i]?).map b2)))))) H := hP 19 _ rfl
      rw [jn_outer (hs := [7, 8, 9, 10, 11, 12]) (a := b2) (hs' := [24, 25, 26, 27, 28, 29]) (b := (fun h => if h < 1 then q else if h < 17 then b1 (h - 1) else if h < 33 then b2 (h - 17) else if h < 49 then b3 (h - 33) else if h < 53 then b4 (h - 49) else if h < 55 then b5 (h - 53) else if h < 63 then b6 (h - 55) else [a7, a8, a9, a10].getD (h - 63) 0)) rfl] at h9
      exact h9
    | 20, _ => hP 20 _ rfl
    | 21, _ => hP 21 _ rfl
    | 22, _ => hP 22 _ rfl
    | 23, _ => hP 23 _ rfl
    | 24, _ => hP 24 _ rfl
    | 25, _ => hP 25 _ rfl
    | 26, _ => hP 26 _ rfl
    | 27, _ => hP 27 _ rfl
    | 28, _ => hP 28 _ rfl
    | 29, _ => hP 29 _ rfl
    | 30, _ => hP 30 _ rfl
    | 31, _ => hP 31 _ rfl
    | 32, _ => hP 32 _ rfl
    | 33, _ => hP 33 _ rfl
    | 34, _ => by
      have h9 : va_at D vwCl (b3 1, .inl (cJ, 4, .inr (.inr (.inr (.inr (fun i : Nat => ([3, 4, 5, 6][i]?).map b3)))))) H := hP 34 _ rfl
      rw [jn_outer (hs := [3, 4, 5, 6]) (a := b3) (hs' := [36, 37, 38, 39]) (b := (fun h => if h < 1 then q else if h < 17 then b1 (h - 1) else if h < 33 then b2 (h - 17) else if h < 49 then b3 (h - 33) else if h < 53 then b4 (h - 49) else if h < 55 then b5 (h - 53) else if h < 63 then b6 (h - 55) else [a7, a8, a9, a10].getD (h - 63) 0)) rfl] at h9
      exact h9
    | 35, _ => by
      have h9 : va_at D vwCl (b3 2, .inl (cJ, 6, .inr (.inr (.inr (.inr (fun i : Nat => ([7, 8, 9, 10, 11, 12][i]?).map b3)))))) H := hP 35 _ rfl
      rw [jn_outer (hs := [7, 8, 9, 10, 11, 12]) (a := b3) (hs' := [40, 41, 42, 43, 44, 45]) (b := (fun h => if h < 1 then q else if h < 17 then b1 (h - 1) else if h < 33 then b2 (h - 17) else if h < 49 then b3 (h - 33) else if h < 53 then b4 (h - 49) else if h < 55 then b5 (h - 53) else if h < 63 then b6 (h - 55) else [a7, a8, a9, a10].getD (h - 63) 0)) rfl] at h9
      exact h9
    | 36, _ => hP 36 _ rfl
    | 37, _ => hP 37 _ rfl
    | 38, _ => hP 38 _ rfl
    | 39, _ => hP 39 _ rfl
    | 40, _ => hP 40 _ rfl
    | 41, _ => hP 41 _ rfl
    | 42, _ => hP 42 _ rfl
    | 43, _ => hP 43 _ rfl
    | 44, _ => hP 44 _ rfl
    | 45, _ => hP 45 _ rfl
    | 46, _ => hP 46 _ rfl
    | 47, _ => hP 47 _ rfl
    | 48, _ => hP 48 _ rfl
    | 49, _ => hP 49 _ rfl
    | 50, _ => hP 50 _ rfl
    | 51, _ => hP 51 _ rfl
    | 52, _ => hP 52 _ rfl
    | 53, _ => hP 53 _ rfl
    | 54, _ => hP 54 _ rfl
    | 55, _ => hP 55 _ rfl
    | 56, _ => by
      have h9 : va_at D vwCl (b6 1, .inl (cJ, 4, .inr (.inr (.inr (.inr (fun i : Nat => ([2, 3, 4, 5][i]?).map b6)))))) H := hP 56 _ rfl
      rw [jn_outer (hs := [2, 3, 4, 5]) (a := b6) (hs' := [57, 58, 59, 60]) (b := (fun h => if h < 1 then q else if h < 17 then b1 (h - 1) else if h < 33 then b2 (h - 17) else if h < 49 then b3 (h - 33) else if h < 53 then b4 (h - 49) else if h < 55 then b5 (h - 53) else if h < 63 then b6 (h - 55) else [a7, a8, a9, a10].getD (h - 63) 0)) rfl] at h9
      exact h9
    | 57, _ => hP 57 _ rfl
    | 58, _ => hP 58 _ rfl
    | 59, _ => hP 59 _ rfl
    | 60, _ => hP 60 _ rfl
    | 61, _ => hP 61 _ rfl
    | 62, _ => hP 62 _ rfl
    | 63, _ => hP 63 _ rfl
    | 64, _ => hP 64 _ rfl
    | 65, _ => hP 65 _ rfl
    | 66, _ => hP 66 _ rfl
    | k9 + 67, h9 => absurd h9 (by omega)
