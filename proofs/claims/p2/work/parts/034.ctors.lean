set_option maxHeartbeats 4000000 in
set_option maxRecDepth 100000 in
theorem k_X0_init {l : Launch} {D : va_G} {cI cJ : ClassId} : jn_C l D vwCl cI cJ yX0_init (Cond.code yX0_init cX0_init 1 none :: bigT) rm_X0_init 0 [.null, .null, .null] 4 shX0 v0_X0 3 15 := by
  refine jn_enter bigT RX0 cX0_init 1 (by decide +kernel) rfl (by decide) rfl rfl ?_
  intro p e s m args below meth c q A E
  have iX0 : ∀ w ∈ u_ws RX0 TX0 3, w ∈ (Cond.code yX0_init cX0_init 1 none :: bigT) := fun w h => List.mem_cons_of_mem _ (uw_X0 w h)
  refine jn_aload_n E dX0_init_0 0 rfl ?_
  refine jn_objInit E dX0_init_1 (List.mem_cons_of_mem _ tw_609) (List.mem_cons_of_mem _ tw_610) (List.mem_cons_of_mem _ tw_611) (by decide) (by decide) ?_
  refine jn_aload_n E dX0_init_4 0 rfl ?_
  refine jn_iconst (x := 5) E dX0_init_5 (by decide) ?_
  refine jn_newa (N' := 5) E dX0_init_6 (List.mem_cons_of_mem _ tw_612) (by decide) (by decide) (by decide) (by decide) (by decide) (fun a1 => ?_)
  refine jn_eq (ws2 := (q, .inr (0, [.null, .null, .null])) :: [(a1, .inl (cI, 5, .inl (fun _ => 0)))]) rfl ?_
  refine jn_putF (k := 0) (ci := 0) (T := TX0) (M := 3) (ty := .array .int) E tyX0 dX0_init_8 iX0 tyX0_ok nmX0 rfl (by decide) rfl (List.mem_cons_of_mem _ tw_38) rfl (by decide +kernel) rfl rfl (Nat.le_of_ble_eq_true rfl) ?_
  refine jn_eq (ws2 := (q, .inr (0, [.ref a1, .null, .null])) :: [(a1, .inl (cI, 5, .inl (fun _ => 0)))]) rfl ?_
  refine jn_aload_n E dX0_init_11 0 rfl ?_
  refine jn_iconst (x := 5) E dX0_init_12 (by decide) ?_
  refine jn_newa (N' := 5) E dX0_init_13 (List.mem_cons_of_mem _ tw_612) (by decide) (by decide) (by decide) (by decide) (by decide) (fun a2 => ?_)
  refine jn_eq (ws2 := (q, .inr (0, [.ref a1, .null, .null])) :: [(a1, .inl (cI, 5, .inl (fun _ => 0))), (a2, .inl (cI, 5, .inl (fun _ => 0)))]) rfl ?_
  refine jn_putF (k := 1) (ci := 0) (T := TX0) (M := 3) (ty := .array .int) E tyX0 dX0_init_15 iX0 tyX0_ok nmX0 rfl (by decide) rfl (List.mem_cons_of_mem _ tw_39) rfl (by decide +kernel) rfl rfl (Nat.le_of_ble_eq_true rfl) ?_
  refine jn_eq (ws2 := (q, .inr (0, [.ref a1, .ref a2, .null])) :: [(a1, .inl (cI, 5, .inl (fun _ => 0))), (a2, .inl (cI, 5, .inl (fun _ => 0)))]) rfl ?_
  refine jn_aload_n E dX0_init_18 0 rfl ?_
  refine jn_iconst (x := 5) E dX0_init_19 (by decide) ?_
  refine jn_newa (N' := 5) E dX0_init_20 (List.mem_cons_of_mem _ tw_612) (by decide) (by decide) (by decide) (by decide) (by decide) (fun a3 => ?_)
  refine jn_eq (ws2 := (q, .inr (0, [.ref a1, .ref a2, .null])) :: [(a1, .inl (cI, 5, .inl (fun _ => 0))), (a2, .inl (cI, 5, .inl (fun _ => 0))), (a3, .inl (cI, 5, .inl (fun _ => 0)))]) rfl ?_
  refine jn_putF (k := 2) (ci := 0) (T := TX0) (M := 3) (ty := .array .int) E tyX0 dX0_init_22 iX0 tyX0_ok nmX0 rfl (by decide) rfl (List.mem_cons_of_mem _ tw_50) rfl (by decide +kernel) rfl rfl (Nat.le_of_ble_eq_true rfl) ?_
  refine jn_eq (ws2 := (q, .inr (0, [.ref a1, .ref a2, .ref a3])) :: [(a1, .inl (cI, 5, .inl (fun _ => 0))), (a2, .inl (cI, 5, .inl (fun _ => 0))), (a3, .inl (cI, 5, .inl (fun _ => 0)))]) rfl ?_
  obtain ⟨a, ea⟩ : ∃ a : Nat → Nat, a = fun h => [q, a1, a2, a3].getD h 0 := ⟨_, rfl⟩
  refine jn_vret (v0 := v0_X0) (sh := shX0) (n := 4) E a (by rw [ea]; rfl) dX0_init_25 (fun hD => jn_inj (fun i => i) (fun i _ j _ h => h) (fun i hi => ?_) hD) (fun H hP => jn_P (fun h hh => ?_))
  · subst ea
    exact match i, hi with
    | 0, _ => ⟨_, rfl⟩
    | 1, _ => ⟨_, rfl⟩
    | 2, _ => ⟨_, rfl⟩
    | 3, _ => ⟨_, rfl⟩
    | k9 + 4, h9 => absurd h9 (by omega)
  · subst ea
    exact match h, hh with
    | 0, _ => hP 0 _ rfl
    | 1, _ => hP 1 _ rfl
    | 2, _ => hP 2 _ rfl
    | 3, _ => hP 3 _ rfl
    | k9 + 4, h9 => absurd h9 (by omega)
set_option maxHeartbeats 4000000 in
set_option maxRecDepth 100000 in
theorem k_X2_init {l : Launch} {D : va_G} {cI cJ : ClassId} : jn_C l D vwCl cI cJ yX2_init (Cond.code yX2_init cX2_init 1 none :: bigT) rm_X2_init 2 [.null, .int 0, .int 0, .int 0, .int 0, .int 0, .int 0] 2 shX2 v0_X2 1 120 := by
  refine jn_enter bigT RX2 cX2_init 1 (by decide +kernel) rfl (by decide) rfl rfl ?_
  intro p e s m args below meth c q A E
  have iX2 : ∀ w ∈ u_ws RX2 TX2 7, w ∈ (Cond.code yX2_init cX2_init 1 none :: bigT) := fun w h => List.mem_cons_of_mem _ (uw_X2 w h)
  refine jn_aload_n E dX2_init_0 0 rfl ?_
  refine jn_objInit E dX2_init_1 (List.mem_cons_of_mem _ tw_613) (List.mem_cons_of_mem _ tw_610) (List.mem_cons_of_mem _ tw_611) (by decide) (by decide) ?_
  refine jn_aload_n E dX2_init_4 0 rfl ?_
  refine jn_bipush (x := 120) E dX2_init_5 (by decide) ?_
  refine jn_newa (N' := 120) E dX2_init_7 (List.mem_cons_of_mem _ tw_612) (by decide) (by decide) (by decide) (by decide) (by decide) (fun a1 => ?_)
  refine jn_eq (ws2 := (q, .inr (2, [.null, .int 0, .int 0, .int 0, .int 0, .int 0, .int 0])) :: [(a1, .inl (cI, 120, .inl (fun _ => 0)))]) rfl ?_
  refine jn_putF (k := 0) (ci := 2) (T := TX2) (M := 7) (ty := .array .int) E tyX2 dX2_init_9 iX2 tyX2_ok nmX2 rfl (by decide) rfl (List.mem_cons_of_mem _ tw_93) rfl (by decide +kernel) rfl rfl (Nat.le_of_ble_eq_true rfl) ?_
  refine jn_eq (ws2 := (q, .inr (2, [.ref a1, .int 0, .int 0, .int 0, .int 0, .int 0, .int 0])) :: [(a1, .inl (cI, 120, .inl (fun _ => 0)))]) rfl ?_
  refine jn_aload_n E dX2_init_12 0 rfl ?_
  refine jn_iconst (x := 0) E dX2_init_13 (by decide) ?_
  refine jn_puti (k := 1) (ci := 2) (T := TX2) (M := 7) (ty := .int) E tyX2 dX2_init_14 iX2 tyX2_ok nmX2 rfl (by decide) rfl (List.mem_cons_of_mem _ tw_92) rfl (by decide +kernel) rfl rfl (Nat.le_of_ble_eq_true rfl) ?_
  refine jn_eq (ws2 := (q, .inr (2, [.ref a1, .int 0, .int 0, .int 0, .int 0, .int 0, .int 0])) :: [(a1, .inl (cI, 120, .inl (fun _ => 0)))]) rfl ?_
  refine jn_aload_n E dX2_init_17 0 rfl ?_
  refine jn_iconst (x := 0) E dX2_init_18 (by decide) ?_
  refine jn_puti (k := 2) (ci := 2) (T := TX2) (M := 7) (ty := .int) E tyX2 dX2_init_19 iX2 tyX2_ok nmX2 rfl (by decide) rfl (List.mem_cons_of_mem _ tw_101) rfl (by decide +kernel) rfl rfl (Nat.le_of_ble_eq_true rfl) ?_
  refine jn_eq (ws2 := (q, .inr (2, [.ref a1, .int 0, .int 0, .int 0, .int 0, .int 0, .int 0])) :: [(a1, .inl (cI, 120, .inl (fun _ => 0)))]) rfl ?_
  refine jn_aload_n E dX2_init_22 0 rfl ?_
  refine jn_iconst (x := 0) E dX2_init_23 (by decide) ?_
  refine jn_puti (k := 3) (ci := 2) (T := TX2) (M := 7) (ty := .int) E tyX2 dX2_init_24 iX2 tyX2_ok nmX2 rfl (by decide) rfl (List.mem_cons_of_mem _ tw_95) rfl (by decide +kernel) rfl rfl (Nat.le_of_ble_eq_true rfl) ?_
  refine jn_eq (ws2 := (q, .inr (2, [.ref a1, .int 0, .int 0, .int 0, .int 0, .int 0, .int 0])) :: [(a1, .inl (cI, 120, .inl (fun _ => 0)))]) rfl ?_
  refine jn_aload_n E dX2_init_27 0 rfl ?_
  refine jn_iconst (x := 0) E dX2_init_28 (by decide) ?_
  refine jn_puti (k := 4) (ci := 2) (T := TX2) (M := 7) (ty := .int) E tyX2 dX2_init_29 iX2 tyX2_ok nmX2 rfl (by decide) rfl (List.mem_cons_of_mem _ tw_94) rfl (by decide +kernel) rfl rfl (Nat.le_of_ble_eq_true rfl) ?_
  refine jn_eq (ws2 := (q, .inr (2, [.ref a1, .int 0, .int 0, .int 0, .int 0, .int 0, .int 0])) :: [(a1, .inl (cI, 120, .inl (fun _ => 0)))]) rfl ?_
  refine jn_aload_n E dX2_init_32 0 rfl ?_
  refine jn_iconst (x := 0) E dX2_init_33 (by decide) ?_
  refine jn_puti (k := 5) (ci := 2) (T := TX2) (M := 7) (ty := .int) E tyX2 dX2_init_34 iX2 tyX2_ok nmX2 rfl (by decide) rfl (List.mem_cons_of_mem _ tw_102) rfl (by decide +kernel) rfl rfl (Nat.le_of_ble_eq_true rfl) ?_
  refine jn_eq (ws2 := (q, .inr (2, [.ref a1, .int 0, .int 0, .int 0, .int 0, .int 0, .int 0])) :: [(a1, .inl (cI, 120, .inl (fun _ => 0)))]) rfl ?_
  refine jn_aload_n E dX2_init_37 0 rfl ?_
  refine jn_iconst (x := -1) E dX2_init_38 (by decide) ?_
  refine jn_puti (k := 6) (ci := 2) (T := TX2) (M := 7) (ty := .int) E tyX2 dX2_init_39 iX2 tyX2_ok nmX2 rfl (by decide) rfl (List.mem_cons_of_mem _ tw_116) rfl (by decide +kernel) rfl rfl (Nat.le_of_ble_eq_true rfl) ?_
  refine jn_eq (ws2 := (q, .inr (2, [.ref a1, .int 0, .int 0, .int 0, .int 0, .int 0, .int (-1)])) :: [(a1, .inl (cI, 120, .inl (fun _ => 0)))]) rfl ?_
  obtain ⟨a, ea⟩ : ∃ a : Nat → Nat, a = fun h => [q, a1].getD h 0 := ⟨_, rfl⟩
  refine jn_vret (v0 := v0_X2) (sh := shX2) (n := 2) E a (by rw [ea]; rfl) dX2_init_42 (fun hD => jn_inj (fun i => i) (fun i _ j _ h => h) (fun i hi => ?_) hD) (fun H hP => jn_P (fun h hh => ?_))
  · subst ea
    exact match i, hi with
    | 0, _ => ⟨_, rfl⟩
    | 1, _ => ⟨_, rfl⟩
    | k9 + 2, h9 => absurd h9 (by omega)
  · subst ea
    exact match h, hh with
    | 0, _ => hP 0 _ rfl
    | 1, _ => hP 1 _ rfl
    | k9 + 2, h9 => absurd h9 (by omega)
set_option maxHeartbeats 4000000 in
set_option maxRecDepth 100000 in
theorem k_X1_init {l : Launch} {D : va_G} {cI cJ : ClassId} : jn_C l D vwCl cI cJ yX1_init (Cond.code yX1_init cX1_init 1 none :: bigT) rm_X1_init 1 [.null, .null, .null] 8 shX1 v0_X1 7 172 := by
  refine jn_enter bigT RX1 cX1_init 1 (by decide +kernel) rfl (by decide) rfl rfl ?_
  intro p e s m args below meth c q A E
  have iX1 : ∀ w ∈ u_ws RX1 TX1 3, w ∈ (Cond.code yX1_init cX1_init 1 none :: bigT) := fun w h => List.mem_cons_of_mem _ (uw_X1 w h)
  refine jn_aload_n E dX1_init_0 0 rfl ?_
  refine jn_objInit E dX1_init_1 (List.mem_cons_of_mem _ tw_614) (List.mem_cons_of_mem _ tw_610) (List.mem_cons_of_mem _ tw_611) (by decide) (by decide) ?_
  refine jn_aload_n E dX1_init_4 0 rfl ?_
  refine jn_iconst (x := 4) E dX1_init_5 (by decide) ?_
  refine jn_bipush (x := 40) E dX1_init_6 (by decide) ?_
  refine jn_mna (N' := 4) (K' := 40) E dX1_init_8 (List.mem_cons_of_mem _ tw_615) (List.mem_cons_of_mem _ tw_612) (by decide) (by decide) (by decide) (by decide) (by decide) (by decide) (by decide) (by decide) (by decide) (fun a1 r1 => ?_)
  refine jn_eq (ws2 := (q, .inr (1, [.null, .null, .null])) :: [(a1, .inl (cJ, 4, .inr (.inr (.inr (.inr (fun i => if i < 4 then some (r1 i) else none)))))), (r1 0, .inl (cI, 40, .inl (fun _ => 0))), (r1 1, .inl (cI, 40, .inl (fun _ => 0))), (r1 2, .inl (cI, 40, .inl (fun _ => 0))), (r1 3, .inl (cI, 40, .inl (fun _ => 0)))]) rfl ?_
  refine jn_putF (k := 0) (ci := 1) (T := TX1) (M := 3) (ty := .array (.array .int)) E tyX1 dX1_init_12 iX1 tyX1_ok nmX1 rfl (by decide) rfl (List.mem_cons_of_mem _ tw_91) rfl (by decide +kernel) rfl rfl (Nat.le_of_ble_eq_true rfl) ?_
  refine jn_eq (ws2 := (q, .inr (1, [.ref a1, .null, .null])) :: [(a1, .inl (cJ, 4, .inr (.inr (.inr (.inr (fun i => if i < 4 then some (r1 i) else none)))))), (r1 0, .inl (cI, 40, .inl (fun _ => 0))), (r1 1, .inl (cI, 40, .inl (fun _ => 0))), (r1 2, .inl (cI, 40, .inl (fun _ => 0))), (r1 3, .inl (cI, 40, .inl (fun _ => 0)))]) rfl ?_
  refine jn_aload_n E dX1_init_15 0 rfl ?_
  refine jn_iconst (x := 4) E dX1_init_16 (by decide) ?_
  refine jn_newa (N' := 4) E dX1_init_17 (List.mem_cons_of_mem _ tw_612) (by decide) (by decide) (by decide) (by decide) (by decide) (fun a2 => ?_)
  refine jn_eq (ws2 := (q, .inr (1, [.ref a1, .null, .null])) :: [(a1, .inl (cJ, 4, .inr (.inr (.inr (.inr (fun i => if i < 4 then some (r1 i) else none)))))), (r1 0, .inl (cI, 40, .inl (fun _ => 0))), (r1 1, .inl (cI, 40, .inl (fun _ => 0))), (r1 2, .inl (cI, 40, .inl (fun _ => 0))), (r1 3, .inl (cI, 40, .inl (fun _ => 0))), (a2, .inl (cI, 4, .inl (fun _ => 0)))]) rfl ?_
  refine jn_putF (k := 1) (ci := 1) (T := TX1) (M := 3) (ty := .array .int) E tyX1 dX1_init_19 iX1 tyX1_ok nmX1 rfl (by decide) rfl (List.mem_cons_of_mem _ tw_89) rfl (by decide +kernel) rfl rfl (Nat.le_of_ble_eq_true rfl) ?_
  refine jn_eq (ws2 := (q, .inr (1, [.ref a1, .ref a2, .null])) :: [(a1, .inl (cJ, 4, .inr (.inr (.inr (.inr (fun i => if i < 4 then some (r1 i) else none)))))), (r1 0, .inl (cI, 40, .inl (fun _ => 0))), (r1 1, .inl (cI, 40, .inl (fun _ => 0))), (r1 2, .inl (cI, 40, .inl (fun _ => 0))), (r1 3, .inl (cI, 40, .inl (fun _ => 0))), (a2, .inl (cI, 4, .inl (fun _ => 0)))]) rfl ?_
  refine jn_aload_n E dX1_init_22 0 rfl ?_
  refine jn_iconst (x := 4) E dX1_init_23 (by decide) ?_
  refine jn_newa (N' := 4) E dX1_init_24 (List.mem_cons_of_mem _ tw_612) (by decide) (by decide) (by decide) (by decide) (by decide) (fun a3 => ?_)
  refine jn_eq (ws2 := (q, .inr (1, [.ref a1, .ref a2, .null])) :: [(a1, .inl (cJ, 4, .inr (.inr (.inr (.inr (fun i => if i < 4 then some (r1 i) else none)))))), (r1 0, .inl (cI, 40, .inl (fun _ => 0))), (r1 1, .inl (cI, 40, .inl (fun _ => 0))), (r1 2, .inl (cI, 40, .inl (fun _ => 0))), (r1 3, .inl (cI, 40, .inl (fun _ => 0))), (a2, .inl (cI, 4, .inl (fun _ => 0))), (a3, .inl (cI, 4, .inl (fun _ => 0)))]) rfl ?_
  refine jn_putF (k := 2) (ci := 1) (T := TX1) (M := 3) (ty := .array .int) E tyX1 dX1_init_26 iX1 tyX1_ok nmX1 rfl (by decide) rfl (List.mem_cons_of_mem _ tw_90) rfl (by decide +kernel) rfl rfl (Nat.le_of_ble_eq_true rfl) ?_
  refine jn_eq (ws2 := (q, .inr (1, [.ref a1, .ref a2, .ref a3])) :: [(a1, .inl (cJ, 4, .inr (.inr (.inr (.inr (fun i => if i < 4 then some (r1 i) else none)))))), (r1 0, .inl (cI, 40, .inl (fun _ => 0))), (r1 1, .inl (cI, 40, .inl (fun _ => 0))), (r1 2, .inl (cI, 40, .inl (fun _ => 0))), (r1 3, .inl (cI, 40, .inl (fun _ => 0))), (a2, .inl (cI, 4, .inl (fun _ => 0))), (a3, .inl (cI, 4, .inl (fun _ => 0)))]) rfl ?_
  obtain ⟨a, ea⟩ : ∃ a : Nat → Nat, a = fun h => [q, a1, r1 0, r1 1, r1 2, r1 3, a2, a3].getD h 0 := ⟨_, rfl⟩
  refine jn_vret (v0 := v0_X1) (sh := shX1) (n := 8) E a (by rw [ea]; rfl) dX1_init_29 (fun hD => jn_inj (fun i => i) (fun i _ j _ h => h) (fun i hi => ?_) hD) (fun H hP => jn_P (fun h hh => ?_))
  · subst ea
    exact match i, hi with
    | 0, _ => ⟨_, rfl⟩
    | 1, _ => ⟨_, rfl⟩
    | 2, _ => ⟨_, rfl⟩
    | 3, _ => ⟨_, rfl⟩
    | 4, _ => ⟨_, rfl⟩
    | 5, _ => ⟨_, rfl⟩
    | 6, _ => ⟨_, rfl⟩
    | 7, _ => ⟨_, rfl⟩
    | k9 + 8, h9 => absurd h9 (by omega)
  · subst ea
    exact match h, hh with
    | 0, _ => hP 0 _ rfl
    | 1, _ => by
      have h9 := hP 1 _ rfl
      rw [jn_rows4 (r := r1) (a := fun h => [q, a1, r1 0, r1 1, r1 2, r1 3, a2, a3].getD h 0) (h0 := 2) (h1 := 3) (h2 := 4) (h3 := 5) rfl rfl rfl rfl] at h9
      exact h9
    | 2, _ => hP 2 _ rfl
    | 3, _ => hP 3 _ rfl
    | 4, _ => hP 4 _ rfl
    | 5, _ => hP 5 _ rfl
    | 6, _ => hP 6 _ rfl
    | 7, _ => hP 7 _ rfl
    | k9 + 8, h9 => absurd h9 (by omega)
set_option maxHeartbeats 4000000 in
set_option maxRecDepth 100000 in
theorem k_X3_init {l : Launch} {D : va_G} {cI cJ : ClassId} : jn_C l D vwCl cI cJ yX3_init (Cond.code yX3_init cX3_init 2 none :: bigT) rm_X3_init 3 [.null, .null, .null, .null, .null, .int 0, .int 0, .int 0] 16 shZ v0_X3 15 188 := by
  refine jn_enter bigT RX3 cX3_init 2 (by decide +kernel) rfl (by decide) rfl rfl ?_
  intro p e s m args below meth c q A E
  have iX3 : ∀ w ∈ u_ws RX3 TX3 8, w ∈ (Cond.code yX3_init cX3_init 2 none :: bigT) := fun w h => List.mem_cons_of_mem _ (uw_X3 w h)
  refine jn_aload_n E dX3_init_0 0 rfl ?_
  refine jn_objInit E dX3_init_1 (List.mem_cons_of_mem _ tw_616) (List.mem_cons_of_mem _ tw_610) (List.mem_cons_of_mem _ tw_611) (by decide) (by decide) ?_
  refine jn_aload_n E dX3_init_4 0 rfl ?_
  refine jn_iconst (x := 4) E dX3_init_5 (by decide) ?_
  refine jn_bipush (x := 25) E dX3_init_6 (by decide) ?_
  refine jn_mna (N' := 4) (K' := 25) E dX3_init_8 (List.mem_cons_of_mem _ tw_617) (List.mem_cons_of_mem _ tw_612) (by decide) (by decide) (by decide) (by decide) (by decide) (by decide) (by decide) (by decide) (by decide) (fun a1 r1 => ?_)
  refine jn_eq (ws2 := (q, .inr (3, [.null, .null, .null, .null, .null, .int 0, .int 0, .int 0])) :: [(a1, .inl (cJ, 4, .inr (.inr (.inr (.inr (fun i => if i < 4 then some (r1 i) else none)))))), (r1 0, .inl (cI, 25, .inl (fun _ => 0))), (r1 1, .inl (cI, 25, .inl (fun _ => 0))), (r1 2, .inl (cI, 25, .inl (fun _ => 0))), (r1 3, .inl (cI, 25, .inl (fun _ => 0)))]) rfl ?_
  refine jn_putF (k := 0) (ci := 3) (T := TX3) (M := 8) (ty := .array (.array .int)) E tyX3 dX3_init_12 iX3 tyX3_ok nmX3 rfl (by decide) rfl (List.mem_cons_of_mem _ tw_27) rfl (by decide +kernel) rfl rfl (Nat.le_of_ble_eq_true rfl) ?_
  refine jn_eq (ws2 := (q, .inr (3, [.ref a1, .null, .null, .null, .null, .int 0, .int 0, .int 0])) :: [(a1, .inl (cJ, 4, .inr (.inr (.inr (.inr (fun i => if i < 4 then some (r1 i) else none)))))), (r1 0, .inl (cI, 25, .inl (fun _ => 0))), (r1 1, .inl (cI, 25, .inl (fun _ => 0))), (r1 2, .inl (cI, 25, .inl (fun _ => 0))), (r1 3, .inl (cI, 25, .inl (fun _ => 0)))]) rfl ?_
  refine jn_aload_n E dX3_init_15 0 rfl ?_
  refine jn_bipush (x := 6) E dX3_init_16 (by decide) ?_
  refine jn_bipush (x := 10) E dX3_init_18 (by decide) ?_
  refine jn_mna (N' := 6) (K' := 10) E dX3_init_20 (List.mem_cons_of_mem _ tw_617) (List.mem_cons_of_mem _ tw_612) (by decide) (by decide) (by decide) (by decide) (by decide) (by decide) (by decide) (by decide) (by decide) (fun a2 r2 => ?_)
  refine jn_eq (ws2 := (q, .inr (3, [.ref a1, .null, .null, .null, .null, .int 0, .int 0, .int 0])) :: [(a1, .inl (cJ, 4, .inr (.inr (.inr (.inr (fun i => if i < 4 then some (r1 i) else none)))))), (r1 0, .inl (cI, 25, .inl (fun _ => 0))), (r1 1, .inl (cI, 25, .inl (fun _ => 0))), (r1 2, .inl (cI, 25, .inl (fun _ => 0))), (r1 3, .inl (cI, 25, .inl (fun _ => 0))), (a2, .inl (cJ, 6, .inr (.inr (.inr (.inr (fun i => if i < 6 then some (r2 i) else none)))))), (r2 0, .inl (cI, 10, .inl (fun _ => 0))), (r2 1, .inl (cI, 10, .inl (fun _ => 0))), (r2 2, .inl (cI, 10, .inl (fun _ => 0))), (r2 3, .inl (cI, 10, .inl (fun _ => 0))), (r2 4, .inl (cI, 10, .inl (fun _ => 0))), (r2 5, .inl (cI, 10, .inl (fun _ => 0)))]) rfl ?_
  refine jn_putF (k := 1) (ci := 3) (T := TX3) (M := 8) (ty := .array (.array .int)) E tyX3 dX3_init_24 iX3 tyX3_ok nmX3 rfl (by decide) rfl (List.mem_cons_of_mem _ tw_141) rfl (by decide +kernel) rfl rfl (Nat.le_of_ble_eq_true rfl) ?_
  refine jn_eq (ws2 := (q, .inr (3, [.ref a1, .ref a2, .null, .null, .null, .int 0, .int 0, .int 0])) :: [(a1, .inl (cJ, 4, .inr (.inr (.inr (.inr (fun i => if i < 4 then some (r1 i) else none)))))), (r1 0, .inl (cI, 25, .inl (fun _ => 0))), (r1 1, .inl (cI, 25, .inl (fun _ => 0))), (r1 2, .inl (cI, 25, .inl (fun _ => 0))), (r1 3, .inl (cI, 25, .inl (fun _ => 0))), (a2, .inl (cJ, 6, .inr (.inr (.inr (.inr (fun i => if i < 6 then some (r2 i) else none)))))), (r2 0, .inl (cI, 10, .inl (fun _ => 0))), (r2 1, .inl (cI, 10, .inl (fun _ => 0))), (r2 2, .inl (cI, 10, .inl (fun _ => 0))), (r2 3, .inl (cI, 10, .inl (fun _ => 0))), (r2 4, .inl (cI, 10, .inl (fun _ => 0))), (r2 5, .inl (cI, 10, .inl (fun _ => 0)))]) rfl ?_
  refine jn_aload_n E dX3_init_27 0 rfl ?_
  refine jn_iconst (x := 4) E dX3_init_28 (by decide) ?_
  refine jn_newa (N' := 4) E dX3_init_29 (List.mem_cons_of_mem _ tw_612) (by decide) (by decide) (by decide) (by decide) (by decide) (fun a3 => ?_)
  refine jn_eq (ws2 := (q, .inr (3, [.ref a1, .ref a2, .null, .null, .null, .int 0, .int 0, .int 0])) :: [(a1, .inl (cJ, 4, .inr (.inr (.inr (.inr (fun i => if i < 4 then some (r1 i) else none)))))), (r1 0, .inl (cI, 25, .inl (fun _ => 0))), (r1 1, .inl (cI, 25, .inl (fun _ => 0))), (r1 2, .inl (cI, 25, .inl (fun _ => 0))), (r1 3, .inl (cI, 25, .inl (fun _ => 0))), (a2, .inl (cJ, 6, .inr (.inr (.inr (.inr (fun i => if i < 6 then some (r2 i) else none)))))), (r2 0, .inl (cI, 10, .inl (fun _ => 0))), (r2 1, .inl (cI, 10, .inl (fun _ => 0))), (r2 2, .inl (cI, 10, .inl (fun _ => 0))), (r2 3, .inl (cI, 10, .inl (fun _ => 0))), (r2 4, .inl (cI, 10, .inl (fun _ => 0))), (r2 5, .inl (cI, 10, .inl (fun _ => 0))), (a3, .inl (cI, 4, .inl (fun _ => 0)))]) rfl ?_
  refine jn_putF (k := 2) (ci := 3) (T := TX3) (M := 8) (ty := .array .int) E tyX3 dX3_init_31 iX3 tyX3_ok nmX3 rfl (by decide) rfl (List.mem_cons_of_mem _ tw_73) rfl (by decide +kernel) rfl rfl (Nat.le_of_ble_eq_true rfl) ?_
  refine jn_eq (ws2 := (q, .inr (3, [.ref a1, .ref a2, .ref a3, .null, .null, .int 0, .int 0, .int 0])) :: [(a1, .inl (cJ, 4, .inr (.inr (.inr (.inr (fun i => if i < 4 then some (r1 i) else none)))))), (r1 0, .inl (cI, 25, .inl (fun _ => 0))), (r1 1, .inl (cI, 25, .inl (fun _ => 0))), (r1 2, .inl (cI, 25, .inl (fun _ => 0))), (r1 3, .inl (cI, 25, .inl (fun _ => 0))), (a2, .inl (cJ, 6, .inr (.inr (.inr (.inr (fun i => if i < 6 then some (r2 i) else none)))))), (r2 0, .inl (cI, 10, .inl (fun _ => 0))), (r2 1, .inl (cI, 10, .inl (fun _ => 0))), (r2 2, .inl (cI, 10, .inl (fun _ => 0))), (r2 3, .inl (cI, 10, .inl (fun _ => 0))), (r2 4, .inl (cI, 10, .inl (fun _ => 0))), (r2 5, .inl (cI, 10, .inl (fun _ => 0))), (a3, .inl (cI, 4, .inl (fun _ => 0)))]) rfl ?_
  refine jn_aload_n E dX3_init_34 0 rfl ?_
  refine jn_iconst (x := 4) E dX3_init_35 (by decide) ?_
  refine jn_newa (N' := 4) E dX3_init_36 (List.mem_cons_of_mem _ tw_612) (by decide) (by decide) (by decide) (by decide) (by decide) (fun a4 => ?_)
  refine jn_eq (ws2 := (q, .inr (3, [.ref a1, .ref a2, .ref a3, .null, .null, .int 0, .int 0, .int 0])) :: [(a1, .inl (cJ, 4, .inr (.inr (.inr (.inr (fun i => if i < 4 then some (r1 i) else none)))))), (r1 0, .inl (cI, 25, .inl (fun _ => 0))), (r1 1, .inl (cI, 25, .inl (fun _ => 0))), (r1 2, .inl (cI, 25, .inl (fun _ => 0))), (r1 3, .inl (cI, 25, .inl (fun _ => 0))), (a2, .inl (cJ, 6, .inr (.inr (.inr (.inr (fun i => if i < 6 then some (r2 i) else none)))))), (r2 0, .inl (cI, 10, .inl (fun _ => 0))), (r2 1, .inl (cI, 10, .inl (fun _ => 0))), (r2 2, .inl (cI, 10, .inl (fun _ => 0))), (r2 3, .inl (cI, 10, .inl (fun _ => 0))), (r2 4, .inl (cI, 10, .inl (fun _ => 0))), (r2 5, .inl (cI, 10, .inl (fun _ => 0))), (a3, .inl (cI, 4, .inl (fun _ => 0))), (a4, .inl (cI, 4, .inl (fun _ => 0)))]) rfl ?_
  refine jn_putF (k := 3) (ci := 3) (T := TX3) (M := 8) (ty := .array .int) E tyX3 dX3_init_38 iX3 tyX3_ok nmX3 rfl (by decide) rfl (List.mem_cons_of_mem _ tw_176) rfl (by decide +kernel) rfl rfl (Nat.le_of_ble_eq_true rfl) ?_
  refine jn_eq (ws2 := (q, .inr (3, [.ref a1, .ref a2, .ref a3, .ref a4, .null, .int 0, .int 0, .int 0])) :: [(a1, .inl (cJ, 4, .inr (.inr (.inr (.inr (fun i => if i < 4 then some (r1 i) else none)))))), (r1 0, .inl (cI, 25, .inl (fun _ => 0))), (r1 1, .inl (cI, 25, .inl (fun _ => 0))), (r1 2, .inl (cI, 25, .inl (fun _ => 0))), (r1 3, .inl (cI, 25, .inl (fun _ => 0))), (a2, .inl (cJ, 6, .inr (.inr (.inr (.inr (fun i => if i < 6 then some (r2 i) else none)))))), (r2 0, .inl (cI, 10, .inl (fun _ => 0))), (r2 1, .inl (cI, 10, .inl (fun _ => 0))), (r2 2, .inl (cI, 10, .inl (fun _ => 0))), (r2 3, .inl (cI, 10, .inl (fun _ => 0))), (r2 4, .inl (cI, 10, .inl (fun _ => 0))), (r2 5, .inl (cI, 10, .inl (fun _ => 0))), (a3, .inl (cI, 4, .inl (fun _ => 0))), (a4, .inl (cI, 4, .inl (fun _ => 0)))]) rfl ?_
  refine jn_aload_n E dX3_init_41 0 rfl ?_
  refine jn_bipush (x := 10) E dX3_init_42 (by decide) ?_
  refine jn_newa (N' := 10) E dX3_init_44 (List.mem_cons_of_mem _ tw_612) (by decide) (by decide) (by decide) (by decide) (by decide) (fun a5 => ?_)
  refine jn_eq (ws2 := (q, .inr (3, [.ref a1, .ref a2, .ref a3, .ref a4, .null, .int 0, .int 0, .int 0])) :: [(a1, .inl (cJ, 4, .inr (.inr (.inr (.inr (fun i => if i < 4 then some (r1 i) else none)))))), (r1 0, .inl (cI, 25, .inl (fun _ => 0))), (r1 1, .inl (cI, 25, .inl (fun _ => 0))), (r1 2, .inl (cI, 25, .inl (fun _ => 0))), (r1 3, .inl (cI, 25, .inl (fun _ => 0))), (a2, .inl (cJ, 6, .inr (.inr (.inr (.inr (fun i => if i < 6 then some (r2 i) else none)))))), (r2 0, .inl (cI, 10, .inl (fun _ => 0))), (r2 1, .inl (cI, 10, .inl (fun _ => 0))), (r2 2, .inl (cI, 10, .inl (fun _ => 0))), (r2 3, .inl (cI, 10, .inl (fun _ => 0))), (r2 4, .inl (cI, 10, .inl (fun _ => 0))), (r2 5, .inl (cI, 10, .inl (fun _ => 0))), (a3, .inl (cI, 4, .inl (fun _ => 0))), (a4, .inl (cI, 4, .inl (fun _ => 0))), (a5, .inl (cI, 10, .inl (fun _ => 0)))]) rfl ?_
  refine jn_putF (k := 4) (ci := 3) (T := TX3) (M := 8) (ty := .array .int) E tyX3 dX3_init_46 iX3 tyX3_ok nmX3 rfl (by decide) rfl (List.mem_cons_of_mem _ tw_177) rfl (by decide +kernel) rfl rfl (Nat.le_of_ble_eq_true rfl) ?_
  refine jn_eq (ws2 := (q, .inr (3, [.ref a1, .ref a2, .ref a3, .ref a4, .ref a5, .int 0, .int 0, .int 0])) :: [(a1, .inl (cJ, 4, .inr (.inr (.inr (.inr (fun i => if i < 4 then some (r1 i) else none)))))), (r1 0, .inl (cI, 25, .inl (fun _ => 0))), (r1 1, .inl (cI, 25, .inl (fun _ => 0))), (r1 2, .inl (cI, 25, .inl (fun _ => 0))), (r1 3, .inl (cI, 25, .inl (fun _ => 0))), (a2, .inl (cJ, 6, .inr (.inr (.inr (.inr (fun i => if i < 6 then some (r2 i) else none)))))), (r2 0, .inl (cI, 10, .inl (fun _ => 0))), (r2 1, .inl (cI, 10, .inl (fun _ => 0))), (r2 2, .inl (cI, 10, .inl (fun _ => 0))), (r2 3, .inl (cI, 10, .inl (fun _ => 0))), (r2 4, .inl (cI, 10, .inl (fun _ => 0))), (r2 5, .inl (cI, 10, .inl (fun _ => 0))), (a3, .inl (cI, 4, .inl (fun _ => 0))), (a4, .inl (cI, 4, .inl (fun _ => 0))), (a5, .inl (cI, 10, .inl (fun _ => 0)))]) rfl ?_
  refine jn_aload_n E dX3_init_49 0 rfl ?_
  refine jn_iconst (x := 0) E dX3_init_50 (by decide) ?_
  refine jn_puti (k := 5) (ci := 3) (T := TX3) (M := 8) (ty := .int) E tyX3 dX3_init_51 iX3 tyX3_ok nmX3 rfl (by decide) rfl (List.mem_cons_of_mem _ tw_140) rfl (by decide +kernel) rfl rfl (Nat.le_of_ble_eq_true rfl) ?_
  refine jn_eq (ws2 := (q, .inr (3, [.ref a1, .ref a2, .ref a3, .ref a4, .ref a5, .int 0, .int 0, .int 0])) :: [(a1, .inl (cJ, 4, .inr (.inr (.inr (.inr (fun i => if i < 4 then some (r1 i) else none)))))), (r1 0, .inl (cI, 25, .inl (fun _ => 0))), (r1 1, .inl (cI, 25, .inl (fun _ => 0))), (r1 2, .inl (cI, 25, .inl (fun _ => 0))), (r1 3, .inl (cI, 25, .inl (fun _ => 0))), (a2, .inl (cJ, 6, .inr (.inr (.inr (.inr (fun i => if i < 6 then some (r2 i) else none)))))), (r2 0, .inl (cI, 10, .inl (fun _ => 0))), (r2 1, .inl (cI, 10, .inl (fun _ => 0))), (r2 2, .inl (cI, 10, .inl (fun _ => 0))), (r2 3, .inl (cI, 10, .inl (fun _ => 0))), (r2 4, .inl (cI, 10, .inl (fun _ => 0))), (r2 5, .inl (cI, 10, .inl (fun _ => 0))), (a3, .inl (cI, 4, .inl (fun _ => 0))), (a4, .inl (cI, 4, .inl (fun _ => 0))), (a5, .inl (cI, 10, .inl (fun _ => 0)))]) rfl ?_
  refine jn_aload_n E dX3_init_54 0 rfl ?_
  refine jn_iconst (x := 0) E dX3_init_55 (by decide) ?_
  refine jn_puti (k := 6) (ci := 3) (T := TX3) (M := 8) (ty := .int) E tyX3 dX3_init_56 iX3 tyX3_ok nmX3 rfl (by decide) rfl (List.mem_cons_of_mem _ tw_28) rfl (by decide +kernel) rfl rfl (Nat.le_of_ble_eq_true rfl) ?_
  refine jn_eq (ws2 := (q, .inr (3, [.ref a1, .ref a2, .ref a3, .ref a4, .ref a5, .int 0, .int 0, .int 0])) :: [(a1, .inl (cJ, 4, .inr (.inr (.inr (.inr (fun i => if i < 4 then some (r1 i) else none)))))), (r1 0, .inl (cI, 25, .inl (fun _ => 0))), (r1 1, .inl (cI, 25, .inl (fun _ => 0))), (r1 2, .inl (cI, 25, .inl (fun _ => 0))), (r1 3, .inl (cI, 25, .inl (fun _ => 0))), (a2, .inl (cJ, 6, .inr (.inr (.inr (.inr (fun i => if i < 6 then some (r2 i) else none)))))), (r2 0, .inl (cI, 10, .inl (fun _ => 0))), (r2 1, .inl (cI, 10, .inl (fun _ => 0))), (r2 2, .inl (cI, 10, .inl (fun _ => 0))), (r2 3, .inl (cI, 10, .inl (fun _ => 0))), (r2 4, .inl (cI, 10, .inl (fun _ => 0))), (r2 5, .inl (cI, 10, .inl (fun _ => 0))), (a3, .inl (cI, 4, .inl (fun _ => 0))), (a4, .inl (cI, 4, .inl (fun _ => 0))), (a5, .inl (cI, 10, .inl (fun _ => 0)))]) rfl ?_
  refine jn_aload_n E dX3_init_59 0 rfl ?_
  refine jn_iconst (x := 1) E dX3_init_60 (by decide) ?_
  refine jn_puti (k := 7) (ci := 3) (T := TX3) (M := 8) (ty := .int) E tyX3 dX3_init_61 iX3 tyX3_ok nmX3 rfl (by decide) rfl (List.mem_cons_of_mem _ tw_178) rfl (by decide +kernel) rfl rfl (Nat.le_of_ble_eq_true rfl) ?_
  refine jn_eq (ws2 := (q, .inr (3, [.ref a1, .ref a2, .ref a3, .ref a4, .ref a5, .int 0, .int 0, .int 1])) :: [(a1, .inl (cJ, 4, .inr (.inr (.inr (.inr (fun i => if i < 4 then some (r1 i) else none)))))), (r1 0, .inl (cI, 25, .inl (fun _ => 0))), (r1 1, .inl (cI, 25, .inl (fun _ => 0))), (r1 2, .inl (cI, 25, .inl (fun _ => 0))), (r1 3, .inl (cI, 25, .inl (fun _ => 0))), (a2, .inl (cJ, 6, .inr (.inr (.inr (.inr (fun i => if i < 6 then some (r2 i) else none)))))), (r2 0, .inl (cI, 10, .inl (fun _ => 0))), (r2 1, .inl (cI, 10, .inl (fun _ => 0))), (r2 2, .inl (cI, 10, .inl (fun _ => 0))), (r2 3, .inl (cI, 10, .inl (fun _ => 0))), (r2 4, .inl (cI, 10, .inl (fun _ => 0))), (r2 5, .inl (cI, 10, .inl (fun _ => 0))), (a3, .inl (cI, 4, .inl (fun _ => 0))), (a4, .inl (cI, 4, .inl (fun _ => 0))), (a5, .inl (cI, 10, .inl (fun _ => 0)))]) rfl ?_
  intro H locs ls hP hD hS hl
  have hI : jx_inj 16 (fun h => [q, a1, a2, r1 0, r1 1, r1 2, r1 3, r2 0, r2 1, r2 2, r2 3, r2 4, r2 5, a3, a4, a5].getD h 0) A := jn_inj (fun i => [0, 1, 6, 2, 3, 4, 5, 7, 8, 9, 10, 11, 12, 13, 14, 15].getD i 0) (by decide) (fun i hi => match i, hi with
    | 0, _ => ⟨_, rfl⟩
    | 1, _ => ⟨_, rfl⟩
    | 2, _ => ⟨_, rfl⟩
    | 3, _ => ⟨_, rfl⟩
    | 4, _ => ⟨_, rfl⟩
    | 5, _ => ⟨_, rfl⟩
    | 6, _ => ⟨_, rfl⟩
    | 7, _ => ⟨_, rfl⟩
    | 8, _ => ⟨_, rfl⟩
    | 9, _ => ⟨_, rfl⟩
    | 10, _ => ⟨_, rfl⟩
    | 11, _ => ⟨_, rfl⟩
    | 12, _ => ⟨_, rfl⟩
    | 13, _ => ⟨_, rfl⟩
    | 14, _ => ⟨_, rfl⟩
    | 15, _ => ⟨_, rfl⟩
    | k9 + 16, h9 => absurd h9 (by omega)) hD
  have hPJ : va_P D vwCl (jx_ws 16 cI cJ (fun h => [q, a1, a2, r1 0, r1 1, r1 2, r1 3, r2 0, r2 1, r2 2, r2 3, r2 4, r2 5, a3, a4, a5].getD h 0) shZ vs_X3) H := jn_P (fun h hh => match h, hh with
    | 0, _ => hP 0 _ rfl
    | 1, _ => by
      have h9 := hP 1 _ rfl
      rw [jn_rows4 (r := r1) (a := (fun h => [q, a1, a2, r1 0, r1 1, r1 2, r1 3, r2 0, r2 1, r2 2, r2 3, r2 4, r2 5, a3, a4, a5].getD h 0)) (h0 := 3) (h1 := 4) (h2 := 5) (h3 := 6) rfl rfl rfl rfl] at h9
      exact h9
    | 2, _ => by
      have h9 := hP 6 _ rfl
      rw [jn_rows6 (r := r2) (a := (fun h => [q, a1, a2, r1 0, r1 1, r1 2, r1 3, r2 0, r2 1, r2 2, r2 3, r2 4, r2 5, a3, a4, a5].getD h 0)) (h0 := 7) (h1 := 8) (h2 := 9) (h3 := 10) (h4 := 11) (h5 := 12) rfl rfl rfl rfl rfl rfl] at h9
      exact h9
    | 3, _ => hP 2 _ rfl
    | 4, _ => hP 3 _ rfl
    | 5, _ => hP 4 _ rfl
    | 6, _ => hP 5 _ rfl
    | 7, _ => hP 7 _ rfl
    | 8, _ => hP 8 _ rfl
    | 9, _ => hP 9 _ rfl
    | 10, _ => hP 10 _ rfl
    | 11, _ => hP 11 _ rfl
    | 12, _ => hP 12 _ rfl
    | 13, _ => hP 13 _ rfl
    | 14, _ => hP 14 _ rfl
    | 15, _ => hP 15 _ rfl
    | k9 + 16, h9 => absurd h9 (by omega))
  obtain ⟨v', hf, hc⟩ := run_X3
  exact j_X3_init (ad := (fun h => [q, a1, a2, r1 0, r1 1, r1 2, r1 3, r2 0, r2 1, r2 2, r2 3, r2 4, r2 5, a3, a4, a5].getD h 0)) (A := A) (Q := MQ below (va_Qv (fun (_ : Unit) => True) (fun _ t => ∃ a : Nat → Nat, a 0 = q ∧ va_P D vwCl (jx_ws 16 cI cJ a shZ v0_X3) t.heap ∧ va_D A (jx_ws 16 cI cJ a shZ v0_X3)) A) args s 15 188 A) (cI := cI) (cJ := cJ) ⟨E.1, E.2.1, E.2.2.1, E.2.2.2.1, E.2.2.2.2.1, E.2.2.2.2.2.1, E.2.2.2.2.2.2.1, E.2.2.2.2.2.2.2.1, hI, trivial, (ex_M_ok A)⟩ hI vs_X3 v' hf (fun H1 locs1 ls1 hP1 hS1 hl1 => W.vret E.1 E.2.1 E.2.2.2.2.2.1 (fun t ht hW => ⟨⟨(), rfl, trivial, ⟨(fun h => [q, a1, a2, r1 0, r1 1, r1 2, r1 3, r2 0, r2 1, r2 2, r2 3, r2 4, r2 5, a3, a4, a5].getD h 0), rfl, jx_cong hc (by rw [ht]; exact hP1), jx_D hI⟩⟩, hS1.F ht⟩) hS1.2.2 dX3_init_130 E.2.2.2.2.2.2.1) H locs ls hPJ hS hl
set_option maxHeartbeats 4000000 in
set_option maxRecDepth 100000 in
theorem k_X5_init {l : Launch} {D : va_G} {cI cJ : ClassId} : jn_C l D vwCl cI cJ yX5_init (Cond.code yX5_init cX5_init 2 none :: bigT) rm_X5_init 5 [.null, .null, .null, .null, .int 0, .null, .int 0, .int 0, .int 0, .null, .null, .null, .int 0, .int 0, .int 0, .int 0, .int 0, .null, .null, .null, .null] 13 shM v0_X5 12 890 := by
  refine jn_enter bigT RX5 cX5_init 2 (by decide +kernel) rfl (by decide) rfl rfl ?_
  intro p e s m args below meth c q A E
  have iX5 : ∀ w ∈ u_ws RX5 TX5 21, w ∈ (Cond.code yX5_init cX5_init 2 none :: bigT) := fun w h => List.mem_cons_of_mem _ (uw_X5 w h)
  refine jn_aload_n E dX5_init_0 0 rfl ?_
  refine jn_objInit E dX5_init_1 (List.mem_cons_of_mem _ tw_618) (List.mem_cons_of_mem _ tw_610) (List.mem_cons_of_mem _ tw_611) (by decide) (by decide) ?_
  refine jn_aload_n E dX5_init_4 0 rfl ?_
  refine jn_sipush (x := 181) E dX5_init_5 (by decide) ?_
  refine jn_newa (N' := 181) E dX5_init_8 (List.mem_cons_of_mem _ tw_612) (by decide) (by decide) (by decide) (by decide) (by decide) (fun a1 => ?_)
  refine jn_eq (ws2 := (q, .inr (5, [.null, .null, .null, .null, .int 0, .null, .int 0, .int 0, .int 0, .null, .null, .null, .int 0, .int 0, .int 0, .int 0, .int 0, .null, .null, .null, .null])) :: [(a1, .inl (cI, 181, .inl (fun _ => 0)))]) rfl ?_
  refine jn_putF (k := 0) (ci := 5) (T := TX5) (M := 21) (ty := .array .int) E tyX5 dX5_init_10 iX5 tyX5_ok nmX5 rfl (by decide) rfl (List.mem_cons_of_mem _ tw_328) rfl (by decide +kernel) rfl rfl (Nat.le_of_ble_eq_true rfl) ?_
  refine jn_eq (ws2 := (q, .inr (5, [.ref a1, .null, .null, .null, .int 0, .null, .int 0, .int 0, .int 0, .null, .null, .null, .int 0, .int 0, .int 0, .int 0, .int 0, .null, .null, .null, .null])) :: [(a1, .inl (cI, 181, .inl (fun _ => 0)))]) rfl ?_
  refine jn_aload_n E dX5_init_13 0 rfl ?_
  refine jn_sipush (x := 181) E dX5_init_14 (by decide) ?_
  refine jn_newa (N' := 181) E dX5_init_17 (List.mem_cons_of_mem _ tw_612) (by decide) (by decide) (by decide) (by decide) (by decide) (fun a2 => ?_)
  refine jn_eq (ws2 := (q, .inr (5, [.ref a1, .null, .null, .null, .int 0, .null, .int 0, .int 0, .int 0, .null, .null, .null, .int 0, .int 0, .int 0, .int 0, .int 0, .null, .null, .null, .null])) :: [(a1, .inl (cI, 181, .inl (fun _ => 0))), (a2, .inl (cI, 181, .inl (fun _ => 0)))]) rfl ?_
  refine jn_putF (k := 1) (ci := 5) (T := TX5) (M := 21) (ty := .array .int) E tyX5 dX5_init_19 iX5 tyX5_ok nmX5 rfl (by decide) rfl (List.mem_cons_of_mem _ tw_596) rfl (by decide +kernel) rfl rfl (Nat.le_of_ble_eq_true rfl) ?_
  refine jn_eq (ws2 := (q, .inr (5, [.ref a1, .ref a2, .null, .null, .int 0, .null, .int 0, .int 0, .int 0, .null, .null, .null, .int 0, .int 0, .int 0, .int 0, .int 0, .null, .null, .null, .null])) :: [(a1, .inl (cI, 181, .inl (fun _ => 0))), (a2, .inl (cI, 181, .inl (fun _ => 0)))]) rfl ?_
  refine jn_aload_n E dX5_init_22 0 rfl ?_
  refine jn_sipush (x := 181) E dX5_init_23 (by decide) ?_
  refine jn_newa (N' := 181) E dX5_init_26 (List.mem_cons_of_mem _ tw_612) (by decide) (by decide) (by decide) (by decide) (by decide) (fun a3 => ?_)
  refine jn_eq (ws2 := (q, .inr (5, [.ref a1, .ref a2, .null, .null, .int 0, .null, .int 0, .int 0, .int 0, .null, .null, .null, .int 0, .int 0, .int 0, .int 0, .int 0, .null, .null, .null, .null])) :: [(a1, .inl (cI, 181, .inl (fun _ => 0))), (a2, .inl (cI, 181, .inl (fun _ => 0))), (a3, .inl (cI, 181, .inl (fun _ => 0)))]) rfl ?_
  refine jn_putF (k := 2) (ci := 5) (T := TX5) (M := 21) (ty := .array .int) E tyX5 dX5_init_28 iX5 tyX5_ok nmX5 rfl (by decide) rfl (List.mem_cons_of_mem _ tw_330) rfl (by decide +kernel) rfl rfl (Nat.le_of_ble_eq_true rfl) ?_
  refine jn_eq (ws2 := (q, .inr (5, [.ref a1, .ref a2, .ref a3, .null, .int 0, .null, .int 0, .int 0, .int 0, .null, .null, .null, .int 0, .int 0, .int 0, .int 0, .int 0, .null, .null, .null, .null])) :: [(a1, .inl (cI, 181, .inl (fun _ => 0))), (a2, .inl (cI, 181, .inl (fun _ => 0))), (a3, .inl (cI, 181, .inl (fun _ => 0)))]) rfl ?_
  refine jn_aload_n E dX5_init_31 0 rfl ?_
  refine jn_bipush (x := 7) E dX5_init_32 (by decide) ?_
  refine jn_newa (N' := 7) E dX5_init_34 (List.mem_cons_of_mem _ tw_612) (by decide) (by decide) (by decide) (by decide) (by decide) (fun a4 => ?_)
  refine jn_eq (ws2 := (q, .inr (5, [.ref a1, .ref a2, .ref a3, .null, .int 0, .null, .int 0, .int 0, .int 0, .null, .null, .null, .int 0, .int 0, .int 0, .int 0, .int 0, .null, .null, .null, .null])) :: [(a1, .inl (cI, 181, .inl (fun _ => 0))), (a2, .inl (cI, 181, .inl (fun _ => 0))), (a3, .inl (cI, 181, .inl (fun _ => 0))), (a4, .inl (cI, 7, .inl (fun _ => 0)))]) rfl ?_
  refine jn_putF (k := 3) (ci := 5) (T := TX5) (M := 21) (ty := .array .int) E tyX5 dX5_init_36 iX5 tyX5_ok nmX5 rfl (by decide) rfl (List.mem_cons_of_mem _ tw_319) rfl (by decide +kernel) rfl rfl (Nat.le_of_ble_eq_true rfl) ?_
  refine jn_eq (ws2 := (q, .inr (5, [.ref a1, .ref a2, .ref a3, .ref a4, .int 0, .null, .int 0, .int 0, .int 0, .null, .null, .null, .int 0, .int 0, .int 0, .int 0, .int 0, .null, .null, .null, .null])) :: [(a1, .inl (cI, 181, .inl (fun _ => 0))), (a2, .inl (cI, 181, .inl (fun _ => 0))), (a3, .inl (cI, 181, .inl (fun _ => 0))), (a4, .inl (cI, 7, .inl (fun _ => 0)))]) rfl ?_
  refine jn_aload_n E dX5_init_39 0 rfl ?_
  refine jn_iconst (x := 4) E dX5_init_40 (by decide) ?_
  refine jn_newa (N' := 4) E dX5_init_41 (List.mem_cons_of_mem _ tw_612) (by decide) (by decide) (by decide) (by decide) (by decide) (fun a5 => ?_)
  refine jn_eq (ws2 := (q, .inr (5, [.ref a1, .ref a2, .ref a3, .ref a4, .int 0, .null, .int 0, .int 0, .int 0, .null, .null, .null, .int 0, .int 0, .int 0, .int 0, .int 0, .null, .null, .null, .null])) :: [(a1, .inl (cI, 181, .inl (fun _ => 0))), (a2, .inl (cI, 181, .inl (fun _ => 0))), (a3, .inl (cI, 181, .inl (fun _ => 0))), (a4, .inl (cI, 7, .inl (fun _ => 0))), (a5, .inl (cI, 4, .inl (fun _ => 0)))]) rfl ?_
  refine jn_putF (k := 5) (ci := 5) (T := TX5) (M := 21) (ty := .array .int) E tyX5 dX5_init_43 iX5 tyX5_ok nmX5 rfl (by decide) rfl (List.mem_cons_of_mem _ tw_412) rfl (by decide +kernel) rfl rfl (Nat.le_of_ble_eq_true rfl) ?_
  refine jn_eq (ws2 := (q, .inr (5, [.ref a1, .ref a2, .ref a3, .ref a4, .int 0, .ref a5, .int 0, .int 0, .int 0, .null, .null, .null, .int 0, .int 0, .int 0, .int 0, .int 0, .null, .null, .null, .null])) :: [(a1, .inl (cI, 181, .inl (fun _ => 0))), (a2, .inl (cI, 181, .inl (fun _ => 0))), (a3, .inl (cI, 181, .inl (fun _ => 0))), (a4, .inl (cI, 7, .inl (fun _ => 0))), (a5, .inl (cI, 4, .inl (fun _ => 0)))]) rfl ?_
  refine jn_aload_n E dX5_init_46 0 rfl ?_
  refine jn_iconst (x := 4) E dX5_init_47 (by decide) ?_
  refine jn_newa (N' := 4) E dX5_init_48 (List.mem_cons_of_mem _ tw_612) (by decide) (by decide) (by decide) (by decide) (by decide) (fun a6 => ?_)
  refine jn_eq (ws2 := (q, .inr (5, [.ref a1, .ref a2, .ref a3, .ref a4, .int 0, .ref a5, .int 0, .int 0, .int 0, .null, .null, .null, .int 0, .int 0, .int 0, .int 0, .int 0, .null, .null, .null, .null])) :: [(a1, .inl (cI, 181, .inl (fun _ => 0))), (a2, .inl (cI, 181, .inl (fun _ => 0))), (a3, .inl (cI, 181, .inl (fun _ => 0))), (a4, .inl (cI, 7, .inl (fun _ => 0))), (a5, .inl (cI, 4, .inl (fun _ => 0))), (a6, .inl (cI, 4, .inl (fun _ => 0)))]) rfl ?_
  refine jn_putF (k := 9) (ci := 5) (T := TX5) (M := 21) (ty := .array .int) E tyX5 dX5_init_50 iX5 tyX5_ok nmX5 rfl (by decide) rfl (List.mem_cons_of_mem _ tw_420) rfl (by decide +kernel) rfl rfl (Nat.le_of_ble_eq_true rfl) ?_
  refine jn_eq (ws2 := (q, .inr (5, [.ref a1, .ref a2, .ref a3, .ref a4, .int 0, .ref a5, .int 0, .int 0, .int 0, .ref a6, .null, .null, .int 0, .int 0, .int 0, .int 0, .int 0, .null, .null, .null, .null])) :: [(a1, .inl (cI, 181, .inl (fun _ => 0))), (a2, .inl (cI, 181, .inl (fun _ => 0))), (a3, .inl (cI, 181, .inl (fun _ => 0))), (a4, .inl (cI, 7, .inl (fun _ => 0))), (a5, .inl (cI, 4, .inl (fun _ => 0))), (a6, .inl (cI, 4, .inl (fun _ => 0)))]) rfl ?_
  refine jn_aload_n E dX5_init_53 0 rfl ?_
  refine jn_iconst (x := 4) E dX5_init_54 (by decide) ?_
  refine jn_newa (N' := 4) E dX5_init_55 (List.mem_cons_of_mem _ tw_612) (by decide) (by decide) (by decide) (by decide) (by decide) (fun a7 => ?_)
  refine jn_eq (ws2 := (q, .inr (5, [.ref a1, .ref a2, .ref a3, .ref a4, .int 0, .ref a5, .int 0, .int 0, .int 0, .ref a6, .null, .null, .int 0, .int 0, .int 0, .int 0, .int 0, .null, .null, .null, .null])) :: [(a1, .inl (cI, 181, .inl (fun _ => 0))), (a2, .inl (cI, 181, .inl (fun _ => 0))), (a3, .inl (cI, 181, .inl (fun _ => 0))), (a4, .inl (cI, 7, .inl (fun _ => 0))), (a5, .inl (cI, 4, .inl (fun _ => 0))), (a6, .inl (cI, 4, .inl (fun _ => 0))), (a7, .inl (cI, 4, .inl (fun _ => 0)))]) rfl ?_
  refine jn_putF (k := 10) (ci := 5) (T := TX5) (M := 21) (ty := .array .int) E tyX5 dX5_init_57 iX5 tyX5_ok nmX5 rfl (by decide) rfl (List.mem_cons_of_mem _ tw_489) rfl (by decide +kernel) rfl rfl (Nat.le_of_ble_eq_true rfl) ?_
  refine jn_eq (ws2 := (q, .inr (5, [.ref a1, .ref a2, .ref a3, .ref a4, .int 0, .ref a5, .int 0, .int 0, .int 0, .ref a6, .ref a7, .null, .int 0, .int 0, .int 0, .int 0, .int 0, .null, .null, .null, .null])) :: [(a1, .inl (cI, 181, .inl (fun _ => 0))), (a2, .inl (cI, 181, .inl (fun _ => 0))), (a3, .inl (cI, 181, .inl (fun _ => 0))), (a4, .inl (cI, 7, .inl (fun _ => 0))), (a5, .inl (cI, 4, .inl (fun _ => 0))), (a6, .inl (cI, 4, .inl (fun _ => 0))), (a7, .inl (cI, 4, .inl (fun _ => 0)))]) rfl ?_
  refine jn_aload_n E dX5_init_60 0 rfl ?_
  refine jn_bipush (x := 120) E dX5_init_61 (by decide) ?_
  refine jn_newa (N' := 120) E dX5_init_63 (List.mem_cons_of_mem _ tw_612) (by decide) (by decide) (by decide) (by decide) (by decide) (fun a8 => ?_)
  refine jn_eq (ws2 := (q, .inr (5, [.ref a1, .ref a2, .ref a3, .ref a4, .int 0, .ref a5, .int 0, .int 0, .int 0, .ref a6, .ref a7, .null, .int 0, .int 0, .int 0, .int 0, .int 0, .null, .null, .null, .null])) :: [(a1, .inl (cI, 181, .inl (fun _ => 0))), (a2, .inl (cI, 181, .inl (fun _ => 0))), (a3, .inl (cI, 181, .inl (fun _ => 0))), (a4, .inl (cI, 7, .inl (fun _ => 0))), (a5, .inl (cI, 4, .inl (fun _ => 0))), (a6, .inl (cI, 4, .inl (fun _ => 0))), (a7, .inl (cI, 4, .inl (fun _ => 0))), (a8, .inl (cI, 120, .inl (fun _ => 0)))]) rfl ?_
  refine jn_putF (k := 11) (ci := 5) (T := TX5) (M := 21) (ty := .array .int) E tyX5 dX5_init_65 iX5 tyX5_ok nmX5 rfl (by decide) rfl (List.mem_cons_of_mem _ tw_496) rfl (by decide +kernel) rfl rfl (Nat.le_of_ble_eq_true rfl) ?_
  refine jn_eq (ws2 := (q, .inr (5, [.ref a1, .ref a2, .ref a3, .ref a4, .int 0, .ref a5, .int 0, .int 0, .int 0, .ref a6, .ref a7, .ref a8, .int 0, .int 0, .int 0, .int 0, .int 0, .null, .null, .null, .null])) :: [(a1, .inl (cI, 181, .inl (fun _ => 0))), (a2, .inl (cI, 181, .inl (fun _ => 0))), (a3, .inl (cI, 181, .inl (fun _ => 0))), (a4, .inl (cI, 7, .inl (fun _ => 0))), (a5, .inl (cI, 4, .inl (fun _ => 0))), (a6, .inl (cI, 4, .inl (fun _ => 0))), (a7, .inl (cI, 4, .inl (fun _ => 0))), (a8, .inl (cI, 120, .inl (fun _ => 0)))]) rfl ?_
  refine jn_aload_n E dX5_init_68 0 rfl ?_
  refine jn_iconst (x := 4) E dX5_init_69 (by decide) ?_
  refine jn_newa (N' := 4) E dX5_init_70 (List.mem_cons_of_mem _ tw_612) (by decide) (by decide) (by decide) (by decide) (by decide) (fun a9 => ?_)
  refine jn_eq (ws2 := (q, .inr (5, [.ref a1, .ref a2, .ref a3, .ref a4, .int 0, .ref a5, .int 0, .int 0, .int 0, .ref a6, .ref a7, .ref a8, .int 0, .int 0, .int 0, .int 0, .int 0, .null, .null, .null, .null])) :: [(a1, .inl (cI, 181, .inl (fun _ => 0))), (a2, .inl (cI, 181, .inl (fun _ => 0))), (a3, .inl (cI, 181, .inl (fun _ => 0))), (a4, .inl (cI, 7, .inl (fun _ => 0))), (a5, .inl (cI, 4, .inl (fun _ => 0))), (a6, .inl (cI, 4, .inl (fun _ => 0))), (a7, .inl (cI, 4, .inl (fun _ => 0))), (a8, .inl (cI, 120, .inl (fun _ => 0))), (a9, .inl (cI, 4, .inl (fun _ => 0)))]) rfl ?_
  refine jn_putF (k := 17) (ci := 5) (T := TX5) (M := 21) (ty := .array .int) E tyX5 dX5_init_72 iX5 tyX5_ok nmX5 rfl (by decide) rfl (List.mem_cons_of_mem _ tw_583) rfl (by decide +kernel) rfl rfl (Nat.le_of_ble_eq_true rfl) ?_
  refine jn_eq (ws2 := (q, .inr (5, [.ref a1, .ref a2, .ref a3, .ref a4, .int 0, .ref a5, .int 0, .int 0, .int 0, .ref a6, .ref a7, .ref a8, .int 0, .int 0, .int 0, .int 0, .int 0, .ref a9, .null, .null, .null])) :: [(a1, .inl (cI, 181, .inl (fun _ => 0))), (a2, .inl (cI, 181, .inl (fun _ => 0))), (a3, .inl (cI, 181, .inl (fun _ => 0))), (a4, .inl (cI, 7, .inl (fun _ => 0))), (a5, .inl (cI, 4, .inl (fun _ => 0))), (a6, .inl (cI, 4, .inl (fun _ => 0))), (a7, .inl (cI, 4, .inl (fun _ => 0))), (a8, .inl (cI, 120, .inl (fun _ => 0))), (a9, .inl (cI, 4, .inl (fun _ => 0)))]) rfl ?_
  refine jn_aload_n E dX5_init_75 0 rfl ?_
  refine jn_iconst (x := 4) E dX5_init_76 (by decide) ?_
  refine jn_newa (N' := 4) E dX5_init_77 (List.mem_cons_of_mem _ tw_612) (by decide) (by decide) (by decide) (by decide) (by decide) (fun a10 => ?_)
  refine jn_eq (ws2 := (q, .inr (5, [.ref a1, .ref a2, .ref a3, .ref a4, .int 0, .ref a5, .int 0, .int 0, .int 0, .ref a6, .ref a7, .ref a8, .int 0, .int 0, .int 0, .int 0, .int 0, .ref a9, .null, .null, .null])) :: [(a1, .inl (cI, 181, .inl (fun _ => 0))), (a2, .inl (cI, 181, .inl (fun _ => 0))), (a3, .inl (cI, 181, .inl (fun _ => 0))), (a4, .inl (cI, 7, .inl (fun _ => 0))), (a5, .inl (cI, 4, .inl (fun _ => 0))), (a6, .inl (cI, 4, .inl (fun _ => 0))), (a7, .inl (cI, 4, .inl (fun _ => 0))), (a8, .inl (cI, 120, .inl (fun _ => 0))), (a9, .inl (cI, 4, .inl (fun _ => 0))), (a10, .inl (cI, 4, .inl (fun _ => 0)))]) rfl ?_
  refine jn_putF (k := 18) (ci := 5) (T := TX5) (M := 21) (ty := .array .int) E tyX5 dX5_init_79 iX5 tyX5_ok nmX5 rfl (by decide) rfl (List.mem_cons_of_mem _ tw_584) rfl (by decide +kernel) rfl rfl (Nat.le_of_ble_eq_true rfl) ?_
  refine jn_eq (ws2 := (q, .inr (5, [.ref a1, .ref a2, .ref a3, .ref a4, .int 0, .ref a5, .int 0, .int 0, .int 0, .ref a6, .ref a7, .ref a8, .int 0, .int 0, .int 0, .int 0, .int 0, .ref a9, .ref a10, .null, .null])) :: [(a1, .inl (cI, 181, .inl (fun _ => 0))), (a2, .inl (cI, 181, .inl (fun _ => 0))), (a3, .inl (cI, 181, .inl (fun _ => 0))), (a4, .inl (cI, 7, .inl (fun _ => 0))), (a5, .inl (cI, 4, .inl (fun _ => 0))), (a6, .inl (cI, 4, .inl (fun _ => 0))), (a7, .inl (cI, 4, .inl (fun _ => 0))), (a8, .inl (cI, 120, .inl (fun _ => 0))), (a9, .inl (cI, 4, .inl (fun _ => 0))), (a10, .inl (cI, 4, .inl (fun _ => 0)))]) rfl ?_
  refine jn_aload_n E dX5_init_82 0 rfl ?_
  refine jn_sipush (x := 160) E dX5_init_83 (by decide) ?_
  refine jn_newa (N' := 160) E dX5_init_86 (List.mem_cons_of_mem _ tw_612) (by decide) (by decide) (by decide) (by decide) (by decide) (fun a11 => ?_)
  refine jn_eq (ws2 := (q, .inr (5, [.ref a1, .ref a2, .ref a3, .ref a4, .int 0, .ref a5, .int 0, .int 0, .int 0, .ref a6, .ref a7, .ref a8, .int 0, .int 0, .int 0, .int 0, .int 0, .ref a9, .ref a10, .null, .null])) :: [(a1, .inl (cI, 181, .inl (fun _ => 0))), (a2, .inl (cI, 181, .inl (fun _ => 0))), (a3, .inl (cI, 181, .inl (fun _ => 0))), (a4, .inl (cI, 7, .inl (fun _ => 0))), (a5, .inl (cI, 4, .inl (fun _ => 0))), (a6, .inl (cI, 4, .inl (fun _ => 0))), (a7, .inl (cI, 4, .inl (fun _ => 0))), (a8, .inl (cI, 120, .inl (fun _ => 0))), (a9, .inl (cI, 4, .inl (fun _ => 0))), (a10, .inl (cI, 4, .inl (fun _ => 0))), (a11, .inl (cI, 160, .inl (fun _ => 0)))]) rfl ?_
  refine jn_putF (k := 19) (ci := 5) (T := TX5) (M := 21) (ty := .array .int) E tyX5 dX5_init_88 iX5 tyX5_ok nmX5 rfl (by decide) rfl (List.mem_cons_of_mem _ tw_586) rfl (by decide +kernel) rfl rfl (Nat.le_of_ble_eq_true rfl) ?_
  refine jn_eq (ws2 := (q, .inr (5, [.ref a1, .ref a2, .ref a3, .ref a4, .int 0, .ref a5, .int 0, .int 0, .int 0, .ref a6, .ref a7, .ref a8, .int 0, .int 0, .int 0, .int 0, .int 0, .ref a9, .ref a10, .ref a11, .null])) :: [(a1, .inl (cI, 181, .inl (fun _ => 0))), (a2, .inl (cI, 181, .inl (fun _ => 0))), (a3, .inl (cI, 181, .inl (fun _ => 0))), (a4, .inl (cI, 7, .inl (fun _ => 0))), (a5, .inl (cI, 4, .inl (fun _ => 0))), (a6, .inl (cI, 4, .inl (fun _ => 0))), (a7, .inl (cI, 4, .inl (fun _ => 0))), (a8, .inl (cI, 120, .inl (fun _ => 0))), (a9, .inl (cI, 4, .inl (fun _ => 0))), (a10, .inl (cI, 4, .inl (fun _ => 0))), (a11, .inl (cI, 160, .inl (fun _ => 0)))]) rfl ?_
  refine jn_aload_n E dX5_init_91 0 rfl ?_
  refine jn_bipush (x := 40) E dX5_init_92 (by decide) ?_
  refine jn_newa (N' := 40) E dX5_init_94 (List.mem_cons_of_mem _ tw_612) (by decide) (by decide) (by decide) (by decide) (by decide) (fun a12 => ?_)
  refine jn_eq (ws2 := (q, .inr (5, [.ref a1, .ref a2, .ref a3, .ref a4, .int 0, .ref a5, .int 0, .int 0, .int 0, .ref a6, .ref a7, .ref a8, .int 0, .int 0, .int 0, .int 0, .int 0, .ref a9, .ref a10, .ref a11, .null])) :: [(a1, .inl (cI, 181, .inl (fun _ => 0))), (a2, .inl (cI, 181, .inl (fun _ => 0))), (a3, .inl (cI, 181, .inl (fun _ => 0))), (a4, .inl (cI, 7, .inl (fun _ => 0))), (a5, .inl (cI, 4, .inl (fun _ => 0))), (a6, .inl (cI, 4, .inl (fun _ => 0))), (a7, .inl (cI, 4, .inl (fun _ => 0))), (a8, .inl (cI, 120, .inl (fun _ => 0))), (a9, .inl (cI, 4, .inl (fun _ => 0))), (a10, .inl (cI, 4, .inl (fun _ => 0))), (a11, .inl (cI, 160, .inl (fun _ => 0))), (a12, .inl (cI, 40, .inl (fun _ => 0)))]) rfl ?_
  refine jn_putF (k := 20) (ci := 5) (T := TX5) (M := 21) (ty := .array .int) E tyX5 dX5_init_96 iX5 tyX5_ok nmX5 rfl (by decide) rfl (List.mem_cons_of_mem _ tw_594) rfl (by decide +kernel) rfl rfl (Nat.le_of_ble_eq_true rfl) ?_
  refine jn_eq (ws2 := (q, .inr (5, [.ref a1, .ref a2, .ref a3, .ref a4, .int 0, .ref a5, .int 0, .int 0, .int 0, .ref a6, .ref a7, .ref a8, .int 0, .int 0, .int 0, .int 0, .int 0, .ref a9, .ref a10, .ref a11, .ref a12])) :: [(a1, .inl (cI, 181, .inl (fun _ => 0))), (a2, .inl (cI, 181, .inl (fun _ => 0))), (a3, .inl (cI, 181, .inl (fun _ => 0))), (a4, .inl (cI, 7, .inl (fun _ => 0))), (a5, .inl (cI, 4, .inl (fun _ => 0))), (a6, .inl (cI, 4, .inl (fun _ => 0))), (a7, .inl (cI, 4, .inl (fun _ => 0))), (a8, .inl (cI, 120, .inl (fun _ => 0))), (a9, .inl (cI, 4, .inl (fun _ => 0))), (a10, .inl (cI, 4, .inl (fun _ => 0))), (a11, .inl (cI, 160, .inl (fun _ => 0))), (a12, .inl (cI, 40, .inl (fun _ => 0)))]) rfl ?_
  intro H locs ls hP hD hS hl
  have hI : jx_inj 13 (fun h => [q, a1, a2, a3, a4, a5, a6, a7, a8, a9, a10, a11, a12].getD h 0) A := jn_inj (fun i => i) (fun i _ j _ h => h) (fun i hi => match i, hi with
    | 0, _ => ⟨_, rfl⟩
    | 1, _ => ⟨_, rfl⟩
    | 2, _ => ⟨_, rfl⟩
    | 3, _ => ⟨_, rfl⟩
    | 4, _ => ⟨_, rfl⟩
    | 5, _ => ⟨_, rfl⟩
    | 6, _ => ⟨_, rfl⟩
    | 7, _ => ⟨_, rfl⟩
    | 8, _ => ⟨_, rfl⟩
    | 9, _ => ⟨_, rfl⟩
    | 10, _ => ⟨_, rfl⟩
    | 11, _ => ⟨_, rfl⟩
    | 12, _ => ⟨_, rfl⟩
    | k9 + 13, h9 => absurd h9 (by omega)) hD
  have hPJ : va_P D vwCl (jx_ws 13 cI cJ (fun h => [q, a1, a2, a3, a4, a5, a6, a7, a8, a9, a10, a11, a12].getD h 0) shM vs_X5) H := jn_P (fun h hh => match h, hh with
    | 0, _ => hP 0 _ rfl
    | 1, _ => hP 1 _ rfl
    | 2, _ => hP 2 _ rfl
    | 3, _ => hP 3 _ rfl
    | 4, _ => hP 4 _ rfl
    | 5, _ => hP 5 _ rfl
    | 6, _ => hP 6 _ rfl
    | 7, _ => hP 7 _ rfl
    | 8, _ => hP 8 _ rfl
    | 9, _ => hP 9 _ rfl
    | 10, _ => hP 10 _ rfl
    | 11, _ => hP 11 _ rfl
    | 12, _ => hP 12 _ rfl
    | k9 + 13, h9 => absurd h9 (by omega))
  obtain ⟨v', hf, hc⟩ := run_X5
  exact j_X5_init (ad := (fun h => [q, a1, a2, a3, a4, a5, a6, a7, a8, a9, a10, a11, a12].getD h 0)) (A := A) (Q := MQ below (va_Qv (fun (_ : Unit) => True) (fun _ t => ∃ a : Nat → Nat, a 0 = q ∧ va_P D vwCl (jx_ws 13 cI cJ a shM v0_X5) t.heap ∧ va_D A (jx_ws 13 cI cJ a shM v0_X5)) A) args s 12 890 A) (cI := cI) (cJ := cJ) ⟨E.1, E.2.1, E.2.2.1, E.2.2.2.1, E.2.2.2.2.1, E.2.2.2.2.2.1, E.2.2.2.2.2.2.1, E.2.2.2.2.2.2.2.1, hI, trivial, (ex_M_ok A)⟩ hI vs_X5 v' hf (fun H1 locs1 ls1 hP1 hS1 hl1 => W.vret E.1 E.2.1 E.2.2.2.2.2.1 (fun t ht hW => ⟨⟨(), rfl, trivial, ⟨(fun h => [q, a1, a2, a3, a4, a5, a6, a7, a8, a9, a10, a11, a12].getD h 0), rfl, jx_cong hc (by rw [ht]; exact hP1), jx_D hI⟩⟩, hS1.F ht⟩) hS1.2.2 dX5_init_180 E.2.2.2.2.2.2.1) H locs ls hPJ hS hl
