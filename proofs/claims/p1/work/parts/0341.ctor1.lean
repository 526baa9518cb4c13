set_option maxHeartbeats 4000000 in
set_option maxRecDepth 100000 in
theorem k_X2_init {l : Launch} {D : va_G} {cI cJ : ClassId} : jn_C l D vwCl cI cJ yX2_init (Cond.code yX2_init cX2_init 1 none :: bigT) rm_X2_init 2 [.null, .int 0, .int 0, .int 0, .int 0, .int 0, .int 0] 2 shX2 v0_X2 1 120 := by
  refine jn_enter bigT RX2 cX2_init 1 (by decide +kernel) rfl (by decide) rfl rfl ?_
  intro p e s m args below meth c q A E
  have iX2 : ∀ w ∈ u_ws RX2 TX2 7, w ∈ (Cond.code yX2_init cX2_init 1 none :: bigT) := fun w h => List.mem_cons_of_mem _ (uw_X2 w h)
  refine jn_aload_n E dX2_init_0 0 rfl ?_
  refine jn_objInit E dX2_init_1 (List.mem_cons_of_mem _ tw_560) (List.mem_cons_of_mem _ tw_557) (List.mem_cons_of_mem _ tw_558) (by decide) (by decide) ?_
  refine jn_aload_n E dX2_init_4 0 rfl ?_
  refine jn_bipush (x := 120) E dX2_init_5 (by decide) ?_
  refine jn_newa (N' := 120) E dX2_init_7 (List.mem_cons_of_mem _ tw_559) (by decide) (by decide) (by decide) (by decide) (by decide) (fun a1 => ?_)
  refine jn_eq (ws2 := (q, .inr (2, [.null, .int 0, .int 0, .int 0, .int 0, .int 0, .int 0])) :: [(a1, .inl (cI, 120, .inl (fun _ => 0)))]) rfl ?_
  refine jn_putF (k := 0) (ci := 2) (T := TX2) (M := 7) (ty := .array .int) E tyX2 dX2_init_9 iX2 tyX2_ok nmX2 rfl (by decide) rfl (List.mem_cons_of_mem _ tw_56) rfl (by decide +kernel) rfl rfl (Nat.le_of_ble_eq_true rfl) ?_
  refine jn_eq (ws2 := (q, .inr (2, [.ref a1, .int 0, .int 0, .int 0, .int 0, .int 0, .int 0])) :: [(a1, .inl (cI, 120, .inl (fun _ => 0)))]) rfl ?_
  refine jn_aload_n E dX2_init_12 0 rfl ?_
  refine jn_iconst (x := 0) E dX2_init_13 (by decide) ?_
  refine jn_puti (k := 1) (ci := 2) (T := TX2) (M := 7) (ty := .int) E tyX2 dX2_init_14 iX2 tyX2_ok nmX2 rfl (by decide) rfl (List.mem_cons_of_mem _ tw_55) rfl (by decide +kernel) rfl rfl (Nat.le_of_ble_eq_true rfl) ?_
  refine jn_eq (ws2 := (q, .inr (2, [.ref a1, .int 0, .int 0, .int 0, .int 0, .int 0, .int 0])) :: [(a1, .inl (cI, 120, .inl (fun _ => 0)))]) rfl ?_
  refine jn_aload_n E dX2_init_17 0 rfl ?_
  refine jn_iconst (x := 0) E dX2_init_18 (by decide) ?_
  refine jn_puti (k := 2) (ci := 2) (T := TX2) (M := 7) (ty := .int) E tyX2 dX2_init_19 iX2 tyX2_ok nmX2 rfl (by decide) rfl (List.mem_cons_of_mem _ tw_64) rfl (by decide +kernel) rfl rfl (Nat.le_of_ble_eq_true rfl) ?_
  refine jn_eq (ws2 := (q, .inr (2, [.ref a1, .int 0, .int 0, .int 0, .int 0, .int 0, .int 0])) :: [(a1, .inl (cI, 120, .inl (fun _ => 0)))]) rfl ?_
  refine jn_aload_n E dX2_init_22 0 rfl ?_
  refine jn_iconst (x := 0) E dX2_init_23 (by decide) ?_
  refine jn_puti (k := 3) (ci := 2) (T := TX2) (M := 7) (ty := .int) E tyX2 dX2_init_24 iX2 tyX2_ok nmX2 rfl (by decide) rfl (List.mem_cons_of_mem _ tw_58) rfl (by decide +kernel) rfl rfl (Nat.le_of_ble_eq_true rfl) ?_
  refine jn_eq (ws2 := (q, .inr (2, [.ref a1, .int 0, .int 0, .int 0, .int 0, .int 0, .int 0])) :: [(a1, .inl (cI, 120, .inl (fun _ => 0)))]) rfl ?_
  refine jn_aload_n E dX2_init_27 0 rfl ?_
  refine jn_iconst (x := 0) E dX2_init_28 (by decide) ?_
  refine jn_puti (k := 4) (ci := 2) (T := TX2) (M := 7) (ty := .int) E tyX2 dX2_init_29 iX2 tyX2_ok nmX2 rfl (by decide) rfl (List.mem_cons_of_mem _ tw_57) rfl (by decide +kernel) rfl rfl (Nat.le_of_ble_eq_true rfl) ?_
  refine jn_eq (ws2 := (q, .inr (2, [.ref a1, .int 0, .int 0, .int 0, .int 0, .int 0, .int 0])) :: [(a1, .inl (cI, 120, .inl (fun _ => 0)))]) rfl ?_
  refine jn_aload_n E dX2_init_32 0 rfl ?_
  refine jn_iconst (x := 0) E dX2_init_33 (by decide) ?_
  refine jn_puti (k := 5) (ci := 2) (T := TX2) (M := 7) (ty := .int) E tyX2 dX2_init_34 iX2 tyX2_ok nmX2 rfl (by decide) rfl (List.mem_cons_of_mem _ tw_65) rfl (by decide +kernel) rfl rfl (Nat.le_of_ble_eq_true rfl) ?_
  refine jn_eq (ws2 := (q, .inr (2, [.ref a1, .int 0, .int 0, .int 0, .int 0, .int 0, .int 0])) :: [(a1, .inl (cI, 120, .inl (fun _ => 0)))]) rfl ?_
  refine jn_aload_n E dX2_init_37 0 rfl ?_
  refine jn_iconst (x := -1) E dX2_init_38 (by decide) ?_
  refine jn_puti (k := 6) (ci := 2) (T := TX2) (M := 7) (ty := .int) E tyX2 dX2_init_39 iX2 tyX2_ok nmX2 rfl (by decide) rfl (List.mem_cons_of_mem _ tw_70) rfl (by decide +kernel) rfl rfl (Nat.le_of_ble_eq_true rfl) ?_
  refine jn_eq (ws2 := (q, .inr (2, [.ref a1, .int 0, .int 0, .int 0, .int 0, .int 0, .int (-1)])) :: [(a1, .inl (cI, 120, .inl (fun _ => 0)))]) rfl ?_
  obtain ⟨a, ea⟩ : ∃ a : Nat → Nat, a = fun h => [q, a1].getD h 0 := ⟨_, rfl⟩
  refine jn_vret (v0 := v0_X2) (sh := shX2) (n := 2) E a (by rw [ea]; rfl) dX2_init_42 (fun hD => jn_inj (fun i => i) (fun i _ j _ h => h) (fun i hi => ?_) hD) (fun H hP => jn_P (fun h hh => ?_))
  · subst ea
    exact match i, hi with
    | 0, _ => ⟨_, rfl⟩
    | 1, _ => ⟨_, rfl⟩
    | k9 + 2, h9 => absurd h9 (by omega)
  · subst ea
    exact match h, hh with
    | 0, _ => hP 0 _ rfl
    | 1, _ => hP 1 _ rfl
    | k9 + 2, h9 => absurd h9 (by omega)
