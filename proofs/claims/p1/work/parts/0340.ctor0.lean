set_option maxHeartbeats 4000000 in
set_option maxRecDepth 100000 in
theorem k_X0_init {l : Launch} {D : va_G} {cI cJ : ClassId} : jn_C l D vwCl cI cJ yX0_init (Cond.code yX0_init cX0_init 1 none :: bigT) rm_X0_init 0 [.null, .null, .null] 4 shX0 v0_X0 3 15 := by
  refine jn_enter bigT RX0 cX0_init 1 (by decide +kernel) rfl (by decide) rfl rfl ?_
  intro p e s m args below meth c q A E
  have iX0 : ∀ w ∈ u_ws RX0 TX0 3, w ∈ (Cond.code yX0_init cX0_init 1 none :: bigT) := fun w h => List.mem_cons_of_mem _ (uw_X0 w h)
  refine jn_aload_n E dX0_init_0 0 rfl ?_
  refine jn_objInit E dX0_init_1 (List.mem_cons_of_mem _ tw_556) (List.mem_cons_of_mem _ tw_557) (List.mem_cons_of_mem _ tw_558) (by decide) (by decide) ?_
  refine jn_aload_n E dX0_init_4 0 rfl ?_
  refine jn_iconst (x := 5) E dX0_init_5 (by decide) ?_
  refine jn_newa (N' := 5) E dX0_init_6 (List.mem_cons_of_mem _ tw_559) (by decide) (by decide) (by decide) (by decide) (by decide) (fun a1 => ?_)
  refine jn_eq (ws2 := (q, .inr (0, [.null, .null, .null])) :: [(a1, .inl (cI, 5, .inl (fun _ => 0)))]) rfl ?_
  refine jn_putF (k := 0) (ci := 0) (T := TX0) (M := 3) (ty := .array .int) E tyX0 dX0_init_8 iX0 tyX0_ok nmX0 rfl (by decide) rfl (List.mem_cons_of_mem _ tw_7) rfl (by decide +kernel) rfl rfl (Nat.le_of_ble_eq_true rfl) ?_
  refine jn_eq (ws2 := (q, .inr (0, [.ref a1, .null, .null])) :: [(a1, .inl (cI, 5, .inl (fun _ => 0)))]) rfl ?_
  refine jn_aload_n E dX0_init_11 0 rfl ?_
  refine jn_iconst (x := 5) E dX0_init_12 (by decide) ?_
  refine jn_newa (N' := 5) E dX0_init_13 (List.mem_cons_of_mem _ tw_559) (by decide) (by decide) (by decide) (by decide) (by decide) (fun a2 => ?_)
  refine jn_eq (ws2 := (q, .inr (0, [.ref a1, .null, .null])) :: [(a1, .inl (cI, 5, .inl (fun _ => 0))), (a2, .inl (cI, 5, .inl (fun _ => 0)))]) rfl ?_
  refine jn_putF (k := 1) (ci := 0) (T := TX0) (M := 3) (ty := .array .int) E tyX0 dX0_init_15 iX0 tyX0_ok nmX0 rfl (by decide) rfl (List.mem_cons_of_mem _ tw_8) rfl (by decide +kernel) rfl rfl (Nat.le_of_ble_eq_true rfl) ?_
  refine jn_eq (ws2 := (q, .inr (0, [.ref a1, .ref a2, .null])) :: [(a1, .inl (cI, 5, .inl (fun _ => 0))), (a2, .inl (cI, 5, .inl (fun _ => 0)))]) rfl ?_
  refine jn_aload_n E dX0_init_18 0 rfl ?_
  refine jn_iconst (x := 5) E dX0_init_19 (by decide) ?_
  refine jn_newa (N' := 5) E dX0_init_20 (List.mem_cons_of_mem _ tw_559) (by decide) (by decide) (by decide) (by decide) (by decide) (fun a3 => ?_)
  refine jn_eq (ws2 := (q, .inr (0, [.ref a1, .ref a2, .null])) :: [(a1, .inl (cI, 5, .inl (fun _ => 0))), (a2, .inl (cI, 5, .inl (fun _ => 0))), (a3, .inl (cI, 5, .inl (fun _ => 0)))]) rfl ?_
  refine jn_putF (k := 2) (ci := 0) (T := TX0) (M := 3) (ty := .array .int) E tyX0 dX0_init_22 iX0 tyX0_ok nmX0 rfl (by decide) rfl (List.mem_cons_of_mem _ tw_13) rfl (by decide +kernel) rfl rfl (Nat.le_of_ble_eq_true rfl) ?_
  refine jn_eq (ws2 := (q, .inr (0, [.ref a1, .ref a2, .ref a3])) :: [(a1, .inl (cI, 5, .inl (fun _ => 0))), (a2, .inl (cI, 5, .inl (fun _ => 0))), (a3, .inl (cI, 5, .inl (fun _ => 0)))]) rfl ?_
  obtain ⟨a, ea⟩ : ∃ a : Nat → Nat, a = fun h => [q, a1, a2, a3].getD h 0 := ⟨_, rfl⟩
  refine jn_vret (v0 := v0_X0) (sh := shX0) (n := 4) E a (by rw [ea]; rfl) dX0_init_25 (fun hD => jn_inj (fun i => i) (fun i _ j _ h => h) (fun i hi => ?_) hD) (fun H hP => jn_P (fun h hh => ?_))
  · subst ea
    exact match i, hi with
    | 0, _ => ⟨_, rfl⟩
    | 1, _ => ⟨_, rfl⟩
    | 2, _ => ⟨_, rfl⟩
    | 3, _ => ⟨_, rfl⟩
    | k9 + 4, h9 => absurd h9 (by omega)
  · subst ea
    exact match h, hh with
    | 0, _ => hP 0 _ rfl
    | 1, _ => hP 1 _ rfl
    | 2, _ => hP 2 _ rfl
    | 3, _ => hP 3 _ rfl
    | k9 + 4, h9 => absurd h9 (by omega)
