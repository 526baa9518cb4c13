set_option maxHeartbeats 4000000 in
set_option maxRecDepth 100000 in
theorem k_X1_init {l : Launch} {D : va_G} {cI cJ : ClassId} : jn_C l D vwCl cI cJ yX1_init (Cond.code yX1_init cX1_init 1 none :: bigT) rm_X1_init 1 [.null, .null, .null] 8 shX1 v0_X1 7 172 := by
  refine jn_enter bigT RX1 cX1_init 1 (by decide +kernel) rfl (by decide) rfl rfl ?_
  intro p e s m args below meth c q A E
  have iX1 : ∀ w ∈ u_ws RX1 TX1 3, w ∈ (Cond.code yX1_init cX1_init 1 none :: bigT) := fun w h => List.mem_cons_of_mem _ (uw_X1 w h)
  refine jn_aload_n E dX1_init_0 0 rfl ?_
  refine jn_objInit E dX1_init_1 (List.mem_cons_of_mem _ tw_561) (List.mem_cons_of_mem _ tw_557) (List.mem_cons_of_mem _ tw_558) (by decide) (by decide) ?_
  refine jn_aload_n E dX1_init_4 0 rfl ?_
  refine jn_iconst (x := 4) E dX1_init_5 (by decide) ?_
  refine jn_bipush (x := 40) E dX1_init_6 (by decide) ?_
  refine jn_mna (N' := 4) (K' := 40) E dX1_init_8 (List.mem_cons_of_mem _ tw_562) (List.mem_cons_of_mem _ tw_559) (by decide) (by decide) (by decide) (by decide) (by decide) (by decide) (by decide) (by decide) (by decide) (fun a1 r1 => ?_)
  refine jn_eq (ws2 := (q, .inr (1, [.null, .null, .null])) :: [(a1, .inl (cJ, 4, .inr (.inr (.inr (.inr (fun i => if i < 4 then some (r1 i) else none)))))), (r1 0, .inl (cI, 40, .inl (fun _ => 0))), (r1 1, .inl (cI, 40, .inl (fun _ => 0))), (r1 2, .inl (cI, 40, .inl (fun _ => 0))), (r1 3, .inl (cI, 40, .inl (fun _ => 0)))]) rfl ?_
  refine jn_putF (k := 0) (ci := 1) (T := TX1) (M := 3) (ty := .array (.array .int)) E tyX1 dX1_init_12 iX1 tyX1_ok nmX1 rfl (by decide) rfl (List.mem_cons_of_mem _ tw_54) rfl (by decide +kernel) rfl rfl (Nat.le_of_ble_eq_true rfl) ?_
  refine jn_eq (ws2 := (q, .inr (1, [.ref a1, .null, .null])) :: [(a1, .inl (cJ, 4, .inr (.inr (.inr (.inr (fun i => if i < 4 then some (r1 i) else none)))))), (r1 0, .inl (cI, 40, .inl (fun _ => 0))), (r1 1, .inl (cI, 40, .inl (fun _ => 0))), (r1 2, .inl (cI, 40, .inl (fun _ => 0))), (r1 3, .inl (cI, 40, .inl (fun _ => 0)))]) rfl ?_
  refine jn_aload_n E dX1_init_15 0 rfl ?_
  refine jn_iconst (x := 4) E dX1_init_16 (by decide) ?_
  refine jn_newa (N' := 4) E dX1_init_17 (List.mem_cons_of_mem _ tw_559) (by decide) (by decide) (by decide) (by decide) (by decide) (fun a2 => ?_)
  refine jn_eq (ws2 := (q, .inr (1, [.ref a1, .null, .null])) :: [(a1, .inl (cJ, 4, .inr (.inr (.inr (.inr (fun i => if i < 4 then some (r1 i) else none)))))), (r1 0, .inl (cI, 40, .inl (fun _ => 0))), (r1 1, .inl (cI, 40, .inl (fun _ => 0))), (r1 2, .inl (cI, 40, .inl (fun _ => 0))), (r1 3, .inl (cI, 40, .inl (fun _ => 0))), (a2, .inl (cI, 4, .inl (fun _ => 0)))]) rfl ?_
  refine jn_putF (k := 1) (ci := 1) (T := TX1) (M := 3) (ty := .array .int) E tyX1 dX1_init_19 iX1 tyX1_ok nmX1 rfl (by decide) rfl (List.mem_cons_of_mem _ tw_52) rfl (by decide +kernel) rfl rfl (Nat.le_of_ble_eq_true rfl) ?_
  refine jn_eq (ws2 := (q, .inr (1, [.ref a1, .ref a2, .null])) :: [(a1, .inl (cJ, 4, .inr (.inr (.inr (.inr (fun i => if i < 4 then some (r1 i) else none)))))), (r1 0, .inl (cI, 40, .inl (fun _ => 0))), (r1 1, .inl (cI, 40, .inl (fun _ => 0))), (r1 2, .inl (cI, 40, .inl (fun _ => 0))), (r1 3, .inl (cI, 40, .inl (fun _ => 0))), (a2, .inl (cI, 4, .inl (fun _ => 0)))]) rfl ?_
  refine jn_aload_n E dX1_init_22 0 rfl ?_
  refine jn_iconst (x := 4) E dX1_init_23 (by decide) ?_
  refine jn_newa (N' := 4) E dX1_init_24 (List.mem_cons_of_mem _ tw_559) (by decide) (by decide) (by decide) (by decide) (by decide) (fun a3 => ?_)
  refine jn_eq (ws2 := (q, .inr (1, [.ref a1, .ref a2, .null])) :: [(a1, .inl (cJ, 4, .inr (.inr (.inr (.inr (fun i => if i < 4 then some (r1 i) else none)))))), (r1 0, .inl (cI, 40, .inl (fun _ => 0))), (r1 1, .inl (cI, 40, .inl (fun _ => 0))), (r1 2, .inl (cI, 40, .inl (fun _ => 0))), (r1 3, .inl (cI, 40, .inl (fun _ => 0))), (a2, .inl (cI, 4, .inl (fun _ => 0))), (a3, .inl (cI, 4, .inl (fun _ => 0)))]) rfl ?_
  refine jn_putF (k := 2) (ci := 1) (T := TX1) (M := 3) (ty := .array .int) E tyX1 dX1_init_26 iX1 tyX1_ok nmX1 rfl (by decide) rfl (List.mem_cons_of_mem _ tw_53) rfl (by decide +kernel) rfl rfl (Nat.le_of_ble_eq_true rfl) ?_
  refine jn_eq (ws2 := (q, .inr (1, [.ref a1, .ref a2, .ref a3])) :: [(a1, .inl (cJ, 4, .inr (.inr (.inr (.inr (fun i => if i < 4 then some (r1 i) else none)))))), (r1 0, .inl (cI, 40, .inl (fun _ => 0))), (r1 1, .inl (cI, 40, .inl (fun _ => 0))), (r1 2, .inl (cI, 40, .inl (fun _ => 0))), (r1 3, .inl (cI, 40, .inl (fun _ => 0))), (a2, .inl (cI, 4, .inl (fun _ => 0))), (a3, .inl (cI, 4, .inl (fun _ => 0)))]) rfl ?_
  obtain ⟨a, ea⟩ : ∃ a : Nat → Nat, a = fun h => [q, a1, r1 0, r1 1, r1 2, r1 3, a2, a3].getD h 0 := ⟨_, rfl⟩
  refine jn_vret (v0 := v0_X1) (sh := shX1) (n := 8) E a (by rw [ea]; rfl) dX1_init_29 (fun hD => jn_inj (fun i => i) (fun i _ j _ h => h) (fun i hi => ?_) hD) (fun H hP => jn_P (fun h hh => ?_))
  · subst ea
    exact match i, hi with
    | 0, _ => ⟨_, rfl⟩
    | 1, _ => ⟨_, rfl⟩
    | 2, _ => ⟨_, rfl⟩
    | 3, _ => ⟨_, rfl⟩
    | 4, _ => ⟨_, rfl⟩
    | 5, _ => ⟨_, rfl⟩
    | 6, _ => ⟨_, rfl⟩
    | 7, _ => ⟨_, rfl⟩
    | k9 + 8, h9 => absurd h9 (by omega)
  · subst ea
    exact match h, hh with
    | 0, _ => hP 0 _ rfl
    | 1, _ => by
      have h9 := hP 1 _ rfl
      rw [jn_rows4 (r := r1) (a := fun h => [q, a1, r1 0, r1 1, r1 2, r1 3, a2, a3].getD h 0) (h0 := 2) (h1 := 3) (h2 := 4) (h3 := 5) rfl rfl rfl rfl] at h9
      exact h9
    | 2, _ => hP 2 _ rfl
    | 3, _ => hP 3 _ rfl
    | 4, _ => hP 4 _ rfl
    | 5, _ => hP 5 _ rfl
    | 6, _ => hP 6 _ rfl
    | 7, _ => hP 7 _ rfl
    | k9 + 8, h9 => absurd h9 (by omega)
