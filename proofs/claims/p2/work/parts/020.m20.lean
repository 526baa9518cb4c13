def f_X5_isTooLate (x1 : Int32) (v : jx_V) : Option (Int32 × jx_V) := (if ((v 1 0) + x1) ≤ 999 then (some (0, v)) else (some (1, v)))
def rm_X5_isTooLate : Room := { frames := 0, cells := 0, slots := 0, locals := 0 }
set_option maxHeartbeats 4000000 in
set_option maxRecDepth 100000 in
theorem k_X5_isTooLate {l : Launch} {D : va_G} {cI cJ : ClassId} {ad : Nat → Nat} {A : Nat → Prop} (hI : jx_inj 13 ad A) (x1 : Int32) (v : jx_V) (r : Int32) (v' : jx_V) (hF : f_X5_isTooLate x1 v = some (r, v')) : jx_Ci l D vwCl 13 cI cJ ad shM A ex_M yX5_isTooLate (Cond.code yX5_isTooLate cX5_isTooLate 2 (some .boolean) :: bigT) rm_X5_isTooLate [.ref (ad 0), .int x1] v r v' := by
  unfold f_X5_isTooLate at hF
  refine jx_enteri bigT RX5 cX5_isTooLate 2 (some .boolean) [(0, .ref (ad 0)), (1, .int x1)] hI (ex_M_ok A) (by decide +kernel) rfl (Nat.le_of_ble_eq_true rfl) rfl rfl ?_
  intro p e s m args below meth c E
  have iX5 : ∀ w ∈ u_ws RX5 TX5 21, w ∈ (Cond.code yX5_isTooLate cX5_isTooLate 2 (some .boolean) :: bigT) := fun w h => List.mem_cons_of_mem _ (uw_X5 w h)
  refine jx_aload_n E dX5_isTooLate_0 0 rfl ?_
  refine jx_getr (C := RX5) (T := TX5) (M := 21) (k := 0) E dX5_isTooLate_1 (Nat.le_of_ble_eq_true rfl) s_M0 rfl iX5 (by decide) rfl (List.mem_cons_of_mem _ tw_328) rfl ?_
  refine jx_iconst (x := 0) E dX5_isTooLate_4 (by decide) ?_
  refine jx_iald (h := 1) (j := 0) E dX5_isTooLate_5 (Nat.le_of_ble_eq_true rfl) s_M1 (by decide) (by decide) ?_
  refine jx_iload_n E dX5_isTooLate_6 1 rfl ?_
  refine jx_iadd E dX5_isTooLate_7 ?_
  refine jx_sipush (x := 999) E dX5_isTooLate_8 (by decide) ?_
  refine jx_icmp_le (tgt := 18) E dX5_isTooLate_11 (by decide) (fun hc1 => ?_) (fun hc1 => ?_)
  · rw [if_pos hc1] at hF
    refine jx_iconst (x := 0) E dX5_isTooLate_18 (by decide) ?_
    obtain ⟨rfl, rfl⟩ := jx_out hF
    exact jx_zret E dX5_isTooLate_19 rfl (Or.inl rfl)
  · rw [if_neg hc1] at hF
    refine jx_iconst (x := 1) E dX5_isTooLate_14 (by decide) ?_
    refine jx_goto (tgt := 19) E dX5_isTooLate_15 (by decide) ?_
    obtain ⟨rfl, rfl⟩ := jx_out hF
    exact jx_zret E dX5_isTooLate_19 rfl (Or.inr rfl)
def f_X5_months (x1 : Int32) (v : jx_V) : Option (Int32 × jx_V) := ((f_X5_in (Int32.toInt64 x1) 1 60 v).bind (fun (r1, v1) => (if r1 = 0 then ((f_X5_finds (-1000001) v1).bind (fun (r7, v7) => (some (r7, v7)))) else ((f_X5_isTooLate x1 v1).bind (fun (r3, v3) => (if r3 = 0 then ((f_X5_monthsGo x1 v3).bind (fun (r5, v5) => (some (r5, v5)))) else ((f_X5_finds (-1000005) v3).bind (fun (r6, v6) => (some (r6, v6))))))))))
def rm_X5_months : Room := { frames := 8, cells := 0, slots := 0, locals := 193 }
set_option maxHeartbeats 4000000 in
set_option maxRecDepth 100000 in
theorem k_X5_months {l : Launch} {D : va_G} {cI cJ : ClassId} {ad : Nat → Nat} {A : Nat → Prop} (hI : jx_inj 13 ad A) (x1 : Int32) (v : jx_V) (r : Int32) (v' : jx_V) (hF : f_X5_months x1 v = some (r, v')) : jx_Ci l D vwCl 13 cI cJ ad shM A ex_M yX5_months (Cond.code yX5_months cX5_months 2 (some .int) :: bigT) rm_X5_months [.ref (ad 0), .int x1] v r v' := by
  unfold f_X5_months at hF
  refine jx_enteri bigT RX5 cX5_months 2 (some .int) [(0, .ref (ad 0)), (1, .int x1)] hI (ex_M_ok A) (by decide +kernel) rfl (Nat.le_of_ble_eq_true rfl) rfl rfl ?_
  intro p e s m args below meth c E
  refine jx_iload_n E dX5_months_0 1 rfl ?_
  refine jx_i2l E dX5_months_1 ?_
  refine jx_lconst (x := 1) E dX5_months_2 (by decide) ?_
  refine jx_ldc2 (x := 60) E dX5_months_3 (List.mem_cons_of_mem _ tw_447) ?_
  obtain ⟨⟨r1, v1⟩, hc1, hF⟩ := jx_bind hF
  try dsimp only at hF
  refine jx_callSi (As := [.long (Int32.toInt64 x1), .long 1, .long 60]) (st := []) E dX5_months_6 3 rfl (k_X5_in hI (Int32.toInt64 x1) 1 60 v r1 v1 hc1) (gb_S (List.mem_cons_of_mem _ tw_323) (List.mem_cons_of_mem _ tw_324) (List.mem_cons_of_mem _ tw_325) tw_322) rfl rfl rfl dd_X5_in rfl ⟨by decide, by decide⟩ ⟨Nat.le_refl 0, Nat.le_refl 0⟩ (Nat.le_of_ble_eq_true rfl) ?_
  refine jx_if_ne (tgt := 19) E dX5_months_9 (by decide) (fun hc2 => ?_) (fun hc2 => ?_)
  · rw [if_neg hc2] at hF
    refine jx_aload_n E dX5_months_19 0 rfl ?_
    refine jx_iload_n E dX5_months_20 1 rfl ?_
    obtain ⟨⟨r3, v3⟩, hc3, hF⟩ := jx_bind hF
    try dsimp only at hF
    refine jx_callVi (As := [.int x1]) (st := []) (h := 0) E dX5_months_21 1 rfl (k_X5_isTooLate hI x1 v1 r3 v3 hc3) (gb_V (List.mem_cons_of_mem _ tw_449) (List.mem_cons_of_mem _ tw_450) (List.mem_cons_of_mem _ tw_451) (List.mem_cons_of_mem _ tw_325) tw_448) rfl rfl rfl dd_X5_isTooLate rfl (Nat.le_of_ble_eq_true rfl) s_M0 rfl ⟨by decide, by decide⟩ ⟨Nat.le_refl 0, Nat.le_refl 0⟩ (Nat.le_of_ble_eq_true rfl) ?_
    refine jx_if_eq (tgt := 36) E dX5_months_24 (by decide) (fun hc4 => ?_) (fun hc4 => ?_)
    · rw [if_pos hc4] at hF
      refine jx_aload_n E dX5_months_36 0 rfl ?_
      refine jx_iload_n E dX5_months_37 1 rfl ?_
      obtain ⟨⟨r5, v5⟩, hc5, hF⟩ := jx_bind hF
      try dsimp only at hF
      refine jx_callVi (As := [.int x1]) (st := []) (h := 0) E dX5_months_38 1 rfl (k_X5_monthsGo hI x1 v3 r5 v5 hc5) (gb_V (List.mem_cons_of_mem _ tw_453) (List.mem_cons_of_mem _ tw_454) (List.mem_cons_of_mem _ tw_455) (List.mem_cons_of_mem _ tw_325) tw_452) rfl rfl rfl dd_X5_monthsGo rfl (Nat.le_of_ble_eq_true rfl) s_M0 rfl ⟨by decide, by decide⟩ ⟨Nat.le_refl 0, Nat.le_refl 0⟩ (Nat.le_of_ble_eq_true rfl) ?_
      obtain ⟨rfl, rfl⟩ := jx_out hF
      exact jx_iret E dX5_months_41 rfl
    · rw [if_neg hc4] at hF
      refine jx_aload_n E dX5_months_27 0 rfl ?_
      refine jx_ldc (x := -1000005) E dX5_months_28 (List.mem_cons_of_mem _ tw_364) ?_
      obtain ⟨⟨r6, v6⟩, hc6, hF⟩ := jx_bind hF
      try dsimp only at hF
      refine jx_callVi (As := [.int (-1000005)]) (st := []) (h := 0) E dX5_months_30 1 rfl (k_X5_finds hI (-1000005) v3 r6 v6 hc6) (gb_V (List.mem_cons_of_mem _ tw_344) (List.mem_cons_of_mem _ tw_345) (List.mem_cons_of_mem _ tw_346) (List.mem_cons_of_mem _ tw_325) tw_343) rfl rfl rfl dd_X5_finds rfl (Nat.le_of_ble_eq_true rfl) s_M0 rfl ⟨by decide, by decide⟩ ⟨Nat.le_refl 0, Nat.le_refl 0⟩ (Nat.le_of_ble_eq_true rfl) ?_
      refine jx_goto (tgt := 41) E dX5_months_33 (by decide) ?_
      obtain ⟨rfl, rfl⟩ := jx_out hF
      exact jx_iret E dX5_months_41 rfl
  · rw [if_pos hc2] at hF
    refine jx_aload_n E dX5_months_12 0 rfl ?_
    refine jx_ldc (x := -1000001) E dX5_months_13 (List.mem_cons_of_mem _ tw_320) ?_
    obtain ⟨⟨r7, v7⟩, hc7, hF⟩ := jx_bind hF
    try dsimp only at hF
    refine jx_callVi (As := [.int (-1000001)]) (st := []) (h := 0) E dX5_months_15 1 rfl (k_X5_finds hI (-1000001) v1 r7 v7 hc7) (gb_V (List.mem_cons_of_mem _ tw_344) (List.mem_cons_of_mem _ tw_345) (List.mem_cons_of_mem _ tw_346) (List.mem_cons_of_mem _ tw_325) tw_343) rfl rfl rfl dd_X5_finds rfl (Nat.le_of_ble_eq_true rfl) s_M0 rfl ⟨by decide, by decide⟩ ⟨Nat.le_refl 0, Nat.le_refl 0⟩ (Nat.le_of_ble_eq_true rfl) ?_
    obtain ⟨rfl, rfl⟩ := jx_out hF
    exact jx_iret E dX5_months_18 rfl
def f_X5_allViews_L  : Nat → Int32 → Int32 → jx_V → Option (Int32 × jx_V)
  | 0, _, _, _ => none
  | n + 1, x1, x2, v => (if (v 1 1) ≤ x2 then (some (x1, v)) else ((f_X5_looks x2 v).bind (fun v2 => (f_X5_allViews_L n (x1 + (v2 0 6)) (x2 + 1) v2))))
def f_X5_allViews  (v : jx_V) : Option (Int32 × jx_V) := (f_X5_allViews_L 100000 0 0 v)
def rm_X5_allViews : Room := { frames := 5, cells := 0, slots := 0, locals := 125 }
set_option maxHeartbeats 4000000 in
set_option maxRecDepth 100000 in
theorem k_X5_allViews {l : Launch} {D : va_G} {cI cJ : ClassId} {ad : Nat → Nat} {A : Nat → Prop} (hI : jx_inj 13 ad A)  (v : jx_V) (r : Int32) (v' : jx_V) (hF : f_X5_allViews  v = some (r, v')) : jx_Ci l D vwCl 13 cI cJ ad shM A ex_M yX5_allViews (Cond.code yX5_allViews cX5_allViews 3 (some .int) :: bigT) rm_X5_allViews [.ref (ad 0)] v r v' := by
  unfold f_X5_allViews at hF
  refine jx_enteri bigT RX5 cX5_allViews 3 (some .int) [(0, .ref (ad 0))] hI (ex_M_ok A) (by decide +kernel) rfl (Nat.le_of_ble_eq_true rfl) rfl rfl ?_
  intro p e s m args below meth c E
  have iX5 : ∀ w ∈ u_ws RX5 TX5 21, w ∈ (Cond.code yX5_allViews cX5_allViews 3 (some .int) :: bigT) := fun w h => List.mem_cons_of_mem _ (uw_X5 w h)
  have key : ∀ n : Nat, (∀ (x1 : Int32) (x2 : Int32) (v : jx_V), f_X5_allViews_L  n  x1 x2 v = some (r, v') → jx_J p l e rm_X5_allViews s m args below meth c D vwCl 13 cI cJ ad shM A 0 0 3 (MQ below (va_Qi (fun (r1 : Int32) (_ : Unit) => r1 = r) (fun _ t => va_P D vwCl (jx_ws 13 cI cJ ad shM v') t.heap) A) args s 0 0 A) v 4 [(0, .ref (ad 0)), (1, .int x1), (2, .int x2)] []) := by
    intro n
    induction n with
    | zero =>
      exact (fun _ _ _ h => by cases h)
    | succ n ih =>
      intro x1 x2 v hF
      rw [f_X5_allViews_L] at hF
      refine jx_iload_n E dX5_allViews_4 2 rfl ?_
      refine jx_aload_n E dX5_allViews_5 0 rfl ?_
      refine jx_getr (C := RX5) (T := TX5) (M := 21) (k := 0) E dX5_allViews_6 (Nat.le_of_ble_eq_true rfl) s_M0 rfl iX5 (by decide) rfl (List.mem_cons_of_mem _ tw_328) rfl ?_
      refine jx_iconst (x := 1) E dX5_allViews_9 (by decide) ?_
      refine jx_iald (h := 1) (j := 1) E dX5_allViews_10 (Nat.le_of_ble_eq_true rfl) s_M1 (by decide) (by decide) ?_
      refine jx_icmp_ge (tgt := 32) E dX5_allViews_11 (by decide) (fun hc1 => ?_) (fun hc1 => ?_)
      · rw [if_pos hc1] at hF
        refine jx_iload_n E dX5_allViews_32 1 rfl ?_
        obtain ⟨rfl, rfl⟩ := jx_out hF
        exact jx_iret E dX5_allViews_33 rfl
      · rw [if_neg hc1] at hF
        refine jx_aload_n E dX5_allViews_14 0 rfl ?_
        refine jx_iload_n E dX5_allViews_15 2 rfl ?_
        obtain ⟨v2, hc2, hF⟩ := jx_bind hF
        try dsimp only at hF
        refine jx_callVv (As := [.int x2]) (st := []) (h := 0) E dX5_allViews_16 1 rfl (k_X5_looks hI x2 v v2 hc2) (gb_V (List.mem_cons_of_mem _ tw_422) (List.mem_cons_of_mem _ tw_423) (List.mem_cons_of_mem _ tw_424) (List.mem_cons_of_mem _ tw_325) tw_421) rfl rfl rfl dd_X5_looks rfl (Nat.le_of_ble_eq_true rfl) s_M0 rfl ⟨by decide, by decide⟩ ⟨Nat.le_refl 0, Nat.le_refl 0⟩ (Nat.le_of_ble_eq_true rfl) ?_
        refine jx_iload_n E dX5_allViews_19 1 rfl ?_
        refine jx_aload_n E dX5_allViews_20 0 rfl ?_
        refine jx_geti (C := RX5) (T := TX5) (M := 21) (k := 6) E dX5_allViews_21 (Nat.le_of_ble_eq_true rfl) s_M0 rfl iX5 (by decide) rfl (List.mem_cons_of_mem _ tw_409) rfl ?_
        refine jx_iadd E dX5_allViews_24 ?_
        refine jx_istore_n (lv' := [(1, .int (x1 + (v2 0 6))), (0, .ref (ad 0)), (2, .int x2)]) E dX5_allViews_25 (by decide) rfl ?_
        refine jx_iinc (y := (x2 + 1)) (lv' := [(2, .int (x2 + 1)), (1, .int (x1 + (v2 0 6))), (0, .ref (ad 0))]) E dX5_allViews_26 2 rfl rfl (by decide) rfl ?_
        refine jx_goto (tgt := 4) E dX5_allViews_29 (by decide) ?_
        refine jx_sub [2, 1, 0] rfl ?_
        exact ih (x1 + (v2 0 6)) (x2 + 1) v2 hF
  refine jx_iconst (x := 0) E dX5_allViews_0 (by decide) ?_
  refine jx_istore_n (lv' := [(1, .int 0), (0, .ref (ad 0))]) E dX5_allViews_1 (by decide) rfl ?_
  refine jx_iconst (x := 0) E dX5_allViews_2 (by decide) ?_
  refine jx_istore_n (lv' := [(2, .int 0), (1, .int 0), (0, .ref (ad 0))]) E dX5_allViews_3 (by decide) rfl ?_
  refine jx_sub [2, 1, 0] rfl ?_
  exact (key 100000) 0 0 v hF
def f_X5_ahead (x1 : Int32) (x2 : Int32) (v : jx_V) : Option (Int32 × jx_V) := ((f_X5_in (Int32.toInt64 x1) 0 120 v).bind (fun (r1, v1) => (if r1 = 0 then ((f_X5_finds (-1000001) v1).bind (fun (r3, v3) => (some (r3, v3)))) else ((f_X5_in (Int32.toInt64 x2) 0 6 v1).bind (fun (r4, v4) => (if r4 = 0 then ((f_X5_finds (-1000001) v4).bind (fun (r21, v21) => (some (r21, v21)))) else ((f_X5_isTooLate x1 v4).bind (fun (r6, v6) => (if r6 = 0 then ((f_X5_puts v6).bind (fun v8 => ((f_X5_monthsGo x1 v8).bind (fun (r9, v9) => (if x2 = 0 then ((f_X5_putsBack v9).bind (fun v19 => (some (r9, v19)))) else (if x2 = 1 then ((f_X5_brokenSet v9).bind (fun (r17, v17) => ((f_X5_putsBack v17).bind (fun v18 => (some (r17, v18)))))) else (if x2 = 2 then ((f_X5_allViews v9).bind (fun (r15, v15) => ((f_X5_putsBack v15).bind (fun v16 => (some (r15, v16)))))) else (if (((7 + x2) - 3) < 0 ∨ 181 ≤ Int32.toNatClampNeg ((7 + x2) - 3)) then none else ((f_X5_putsBack v9).bind (fun v14 => (some ((v9 1 (Int32.toNatClampNeg ((7 + x2) - 3))), v14)))))))))))) else ((f_X5_finds (-1000005) v6).bind (fun (r20, v20) => (some (r20, v20)))))))))))))
def rm_X5_ahead : Room := { frames := 8, cells := 0, slots := 0, locals := 193 }
set_option maxHeartbeats 4000000 in
set_option maxRecDepth 100000 in
theorem k_X5_ahead {l : Launch} {D : va_G} {cI cJ : ClassId} {ad : Nat → Nat} {A : Nat → Prop} (hI : jx_inj 13 ad A) (x1 : Int32) (x2 : Int32) (v : jx_V) (r : Int32) (v' : jx_V) (hF : f_X5_ahead x1 x2 v = some (r, v')) : jx_Ci l D vwCl 13 cI cJ ad shM A ex_M yX5_ahead (Cond.code yX5_ahead cX5_ahead 5 (some .int) :: bigT) rm_X5_ahead [.ref (ad 0), .int x1, .int x2] v r v' := by
  unfold f_X5_ahead at hF
  refine jx_enteri bigT RX5 cX5_ahead 5 (some .int) [(0, .ref (ad 0)), (1, .int x1), (2, .int x2)] hI (ex_M_ok A) (by decide +kernel) rfl (Nat.le_of_ble_eq_true rfl) rfl rfl ?_
  intro p e s m args below meth c E
  have iX5 : ∀ w ∈ u_ws RX5 TX5 21, w ∈ (Cond.code yX5_ahead cX5_ahead 5 (some .int) :: bigT) := fun w h => List.mem_cons_of_mem _ (uw_X5 w h)
  refine jx_iload_n E dX5_ahead_0 1 rfl ?_
  refine jx_i2l E dX5_ahead_1 ?_
  refine jx_lconst (x := 0) E dX5_ahead_2 (by decide) ?_
  refine jx_ldc2 (x := 120) E dX5_ahead_3 (List.mem_cons_of_mem _ tw_456) ?_
  obtain ⟨⟨r1, v1⟩, hc1, hF⟩ := jx_bind hF
  try dsimp only at hF
  refine jx_callSi (As := [.long (Int32.toInt64 x1), .long 0, .long 120]) (st := []) E dX5_ahead_6 3 rfl (k_X5_in hI (Int32.toInt64 x1) 0 120 v r1 v1 hc1) (gb_S (List.mem_cons_of_mem _ tw_323) (List.mem_cons_of_mem _ tw_324) (List.mem_cons_of_mem _ tw_325) tw_322) rfl rfl rfl dd_X5_in rfl ⟨by decide, by decide⟩ ⟨Nat.le_refl 0, Nat.le_refl 0⟩ (Nat.le_of_ble_eq_true rfl) ?_
  refine jx_if_eq (tgt := 24) E dX5_ahead_9 (by decide) (fun hc2 => ?_) (fun hc2 => ?_)
  · rw [if_pos hc2] at hF
    refine jx_aload_n E dX5_ahead_24 0 rfl ?_
    refine jx_ldc (x := -1000001) E dX5_ahead_25 (List.mem_cons_of_mem _ tw_320) ?_
    obtain ⟨⟨r3, v3⟩, hc3, hF⟩ := jx_bind hF
    try dsimp only at hF
    refine jx_callVi (As := [.int (-1000001)]) (st := []) (h := 0) E dX5_ahead_27 1 rfl (k_X5_finds hI (-1000001) v1 r3 v3 hc3) (gb_V (List.mem_cons_of_mem _ tw_344) (List.mem_cons_of_mem _ tw_345) (List.mem_cons_of_mem _ tw_346) (List.mem_cons_of_mem _ tw_325) tw_343) rfl rfl rfl dd_X5_finds rfl (Nat.le_of_ble_eq_true rfl) s_M0 rfl ⟨by decide, by decide⟩ ⟨Nat.le_refl 0, Nat.le_refl 0⟩ (Nat.le_of_ble_eq_true rfl) ?_
    obtain ⟨rfl, rfl⟩ := jx_out hF
    exact jx_iret E dX5_ahead_30 rfl
  · rw [if_neg hc2] at hF
    refine jx_iload_n E dX5_ahead_12 2 rfl ?_
    refine jx_i2l E dX5_ahead_13 ?_
    refine jx_lconst (x := 0) E dX5_ahead_14 (by decide) ?_
    refine jx_ldc2 (x := 6) E dX5_ahead_15 (List.mem_cons_of_mem _ tw_342) ?_
    obtain ⟨⟨r4, v4⟩, hc4, hF⟩ := jx_bind hF
    try dsimp only at hF
    refine jx_callSi (As := [.long (Int32.toInt64 x2), .long 0, .long 6]) (st := []) E dX5_ahead_18 3 rfl (k_X5_in hI (Int32.toInt64 x2) 0 6 v1 r4 v4 hc4) (gb_S (List.mem_cons_of_mem _ tw_323) (List.mem_cons_of_mem _ tw_324) (List.mem_cons_of_mem _ tw_325) tw_322) rfl rfl rfl dd_X5_in rfl ⟨by decide, by decide⟩ ⟨Nat.le_refl 0, Nat.le_refl 0⟩ (Nat.le_of_ble_eq_true rfl) ?_
    refine jx_if_ne (tgt := 31) E dX5_ahead_21 (by decide) (fun hc5 => ?_) (fun hc5 => ?_)
    · rw [if_neg hc5] at hF
      refine jx_aload_n E dX5_ahead_31 0 rfl ?_
      refine jx_iload_n E dX5_ahead_32 1 rfl ?_
      obtain ⟨⟨r6, v6⟩, hc6, hF⟩ := jx_bind hF
      try dsimp only at hF
      refine jx_callVi (As := [.int x1]) (st := []) (h := 0) E dX5_ahead_33 1 rfl (k_X5_isTooLate hI x1 v4 r6 v6 hc6) (gb_V (List.mem_cons_of_mem _ tw_449) (List.mem_cons_of_mem _ tw_450) (List.mem_cons_of_mem _ tw_451) (List.mem_cons_of_mem _ tw_325) tw_448) rfl rfl rfl dd_X5_isTooLate rfl (Nat.le_of_ble_eq_true rfl) s_M0 rfl ⟨by decide, by decide⟩ ⟨Nat.le_refl 0, Nat.le_refl 0⟩ (Nat.le_of_ble_eq_true rfl) ?_
      refine jx_if_eq (tgt := 46) E dX5_ahead_36 (by decide) (fun hc7 => ?_) (fun hc7 => ?_)
      · rw [if_pos hc7] at hF
        refine jx_aload_n E dX5_ahead_46 0 rfl ?_
        obtain ⟨v8, hc8, hF⟩ := jx_bind hF
        try dsimp only at hF
        refine jx_callVv (As := []) (st := []) (h := 0) E dX5_ahead_47 0 rfl (k_X5_puts hI  v6 v8 hc8) (gb_V (List.mem_cons_of_mem _ tw_458) (List.mem_cons_of_mem _ tw_459) (List.mem_cons_of_mem _ tw_460) (List.mem_cons_of_mem _ tw_325) tw_457) rfl rfl rfl dd_X5_puts rfl (Nat.le_of_ble_eq_true rfl) s_M0 rfl ⟨by decide, by decide⟩ ⟨Nat.le_refl 0, Nat.le_refl 0⟩ (Nat.le_of_ble_eq_true rfl) ?_
        refine jx_aload_n E dX5_ahead_50 0 rfl ?_
        refine jx_iload_n E dX5_ahead_51 1 rfl ?_
        obtain ⟨⟨r9, v9⟩, hc9, hF⟩ := jx_bind hF
        try dsimp only at hF
        refine jx_callVi (As := [.int x1]) (st := []) (h := 0) E dX5_ahead_52 1 rfl (k_X5_monthsGo hI x1 v8 r9 v9 hc9) (gb_V (List.mem_cons_of_mem _ tw_453) (List.mem_cons_of_mem _ tw_454) (List.mem_cons_of_mem _ tw_455) (List.mem_cons_of_mem _ tw_325) tw_452) rfl rfl rfl dd_X5_monthsGo rfl (Nat.le_of_ble_eq_true rfl) s_M0 rfl ⟨by decide, by decide⟩ ⟨Nat.le_refl 0, Nat.le_refl 0⟩ (Nat.le_of_ble_eq_true rfl) ?_
        refine jx_istore_n (lv' := [(3, .int r9), (0, .ref (ad 0)), (1, .int x1), (2, .int x2)]) E dX5_ahead_55 (by decide) rfl ?_
        refine jx_iload_n E dX5_ahead_56 3 rfl ?_
        refine jx_if_ne (tgt := 64) E dX5_ahead_57 (by decide) (fun hc10 => ?_) (fun hc10 => ?_)
        · rw [if_neg hc10] at hF
          refine jx_iload_n E dX5_ahead_64 3 rfl ?_
          refine jx_iconst (x := 1) E dX5_ahead_65 (by decide) ?_
          refine jx_icmp_ne (tgt := 76) E dX5_ahead_66 (by decide) (fun hc11 => ?_) (fun hc11 => ?_)
          · rw [if_neg hc11] at hF
            refine jx_iload_n E dX5_ahead_76 3 rfl ?_
            refine jx_iconst (x := 2) E dX5_ahead_77 (by decide) ?_
            refine jx_icmp_ne (tgt := 88) E dX5_ahead_78 (by decide) (fun hc12 => ?_) (fun hc12 => ?_)
            · rw [if_neg hc12] at hF
              refine jx_aload_n E dX5_ahead_88 1 rfl ?_
              refine jx_getr (C := RX5) (T := TX5) (M := 21) (k := 0) E dX5_ahead_89 (Nat.le_of_ble_eq_true rfl) s_M0 rfl iX5 (by decide) rfl (List.mem_cons_of_mem _ tw_328) rfl ?_
              refine jx_bipush (x := 7) E dX5_ahead_92 (by decide) ?_
              refine jx_iload_n E dX5_ahead_94 3 rfl ?_
              refine jx_iadd E dX5_ahead_95 ?_
              refine jx_iconst (x := 3) E dX5_ahead_96 (by decide) ?_
              refine jx_isub E dX5_ahead_97 ?_
              obtain ⟨hg13, hF⟩ := jx_guard hF
              refine jx_iald (h := 1) (j := (Int32.toNatClampNeg ((7 + x2) - 3))) E dX5_ahead_98 (Nat.le_of_ble_eq_true rfl) s_M1 hg13 rfl ?_
              refine jx_istore (lv' := [(4, .int (v9 1 (Int32.toNatClampNeg ((7 + x2) - 3)))), (3, .int r9), (0, .ref (ad 0)), (1, .int x1), (2, .int x2)]) E dX5_ahead_99 (by decide) rfl ?_
              refine jx_aload_n E dX5_ahead_101 2 rfl ?_
              obtain ⟨v14, hc14, hF⟩ := jx_bind hF
              try dsimp only at hF
              refine jx_callVv (As := []) (st := []) (h := 0) E dX5_ahead_102 0 rfl (k_X5_putsBack hI  v9 v14 hc14) (gb_V (List.mem_cons_of_mem _ tw_462) (List.mem_cons_of_mem _ tw_463) (List.mem_cons_of_mem _ tw_464) (List.mem_cons_of_mem _ tw_325) tw_461) rfl rfl rfl dd_X5_putsBack rfl (Nat.le_of_ble_eq_true rfl) s_M0 rfl ⟨by decide, by decide⟩ ⟨Nat.le_refl 0, Nat.le_refl 0⟩ (Nat.le_of_ble_eq_true rfl) ?_
              refine jx_iload E dX5_ahead_105 0 rfl ?_
              obtain ⟨rfl, rfl⟩ := jx_out hF
              exact jx_iret E dX5_ahead_107 rfl
            · rw [if_pos hc12] at hF
              refine jx_aload_n E dX5_ahead_81 1 rfl ?_
              obtain ⟨⟨r15, v15⟩, hc15, hF⟩ := jx_bind hF
              try dsimp only at hF
              refine jx_callVi (As := []) (st := []) (h := 0) E dX5_ahead_82 0 rfl (k_X5_allViews hI  v9 r15 v15 hc15) (gb_V (List.mem_cons_of_mem _ tw_466) (List.mem_cons_of_mem _ tw_467) (List.mem_cons_of_mem _ tw_468) (List.mem_cons_of_mem _ tw_325) tw_465) rfl rfl rfl dd_X5_allViews rfl (Nat.le_of_ble_eq_true rfl) s_M0 rfl ⟨by decide, by decide⟩ ⟨Nat.le_refl 0, Nat.le_refl 0⟩ (Nat.le_of_ble_eq_true rfl) ?_
              refine jx_goto (tgt := 99) E dX5_ahead_85 (by decide) ?_
              refine jx_istore (lv' := [(4, .int r15), (3, .int r9), (0, .ref (ad 0)), (1, .int x1), (2, .int x2)]) E dX5_ahead_99 (by decide) rfl ?_
              refine jx_aload_n E dX5_ahead_101 2 rfl ?_
              obtain ⟨v16, hc16, hF⟩ := jx_bind hF
              try dsimp only at hF
              refine jx_callVv (As := []) (st := []) (h := 0) E dX5_ahead_102 0 rfl (k_X5_putsBack hI  v15 v16 hc16) (gb_V (List.mem_cons_of_mem _ tw_462) (List.mem_cons_of_mem _ tw_463) (List.mem_cons_of_mem _ tw_464) (List.mem_cons_of_mem _ tw_325) tw_461) rfl rfl rfl dd_X5_putsBack rfl (Nat.le_of_ble_eq_true rfl) s_M0 rfl ⟨by decide, by decide⟩ ⟨Nat.le_refl 0, Nat.le_refl 0⟩ (Nat.le_of_ble_eq_true rfl) ?_
              refine jx_iload E dX5_ahead_105 0 rfl ?_
              obtain ⟨rfl, rfl⟩ := jx_out hF
              exact jx_iret E dX5_ahead_107 rfl
          · rw [if_pos hc11] at hF
            refine jx_aload_n E dX5_ahead_69 1 rfl ?_
            obtain ⟨⟨r17, v17⟩, hc17, hF⟩ := jx_bind hF
            try dsimp only at hF
            refine jx_callVi (As := []) (st := []) (h := 0) E dX5_ahead_70 0 rfl (k_X5_brokenSet hI  v9 r17 v17 hc17) (gb_V (List.mem_cons_of_mem _ tw_440) (List.mem_cons_of_mem _ tw_441) (List.mem_cons_of_mem _ tw_442) (List.mem_cons_of_mem _ tw_325) tw_439) rfl rfl rfl dd_X5_brokenSet rfl (Nat.le_of_ble_eq_true rfl) s_M0 rfl ⟨by decide, by decide⟩ ⟨Nat.le_refl 0, Nat.le_refl 0⟩ (Nat.le_of_ble_eq_true rfl) ?_
            refine jx_goto (tgt := 99) E dX5_ahead_73 (by decide) ?_
            refine jx_istore (lv' := [(4, .int r17), (3, .int r9), (0, .ref (ad 0)), (1, .int x1), (2, .int x2)]) E dX5_ahead_99 (by decide) rfl ?_
            refine jx_aload_n E dX5_ahead_101 2 rfl ?_
            obtain ⟨v18, hc18, hF⟩ := jx_bind hF
            try dsimp only at hF
            refine jx_callVv (As := []) (st := []) (h := 0) E dX5_ahead_102 0 rfl (k_X5_putsBack hI  v17 v18 hc18) (gb_V (List.mem_cons_of_mem _ tw_462) (List.mem_cons_of_mem _ tw_463) (List.mem_cons_of_mem _ tw_464) (List.mem_cons_of_mem _ tw_325) tw_461) rfl rfl rfl dd_X5_putsBack rfl (Nat.le_of_ble_eq_true rfl) s_M0 rfl ⟨by decide, by decide⟩ ⟨Nat.le_refl 0, Nat.le_refl 0⟩ (Nat.le_of_ble_eq_true rfl) ?_
            refine jx_iload E dX5_ahead_105 0 rfl ?_
            obtain ⟨rfl, rfl⟩ := jx_out hF
            exact jx_iret E dX5_ahead_107 rfl
        · rw [if_pos hc10] at hF
          refine jx_iload_n E dX5_ahead_60 0 rfl ?_
          refine jx_goto (tgt := 99) E dX5_ahead_61 (by decide) ?_
          refine jx_istore (lv' := [(4, .int r9), (3, .int r9), (0, .ref (ad 0)), (1, .int x1), (2, .int x2)]) E dX5_ahead_99 (by decide) rfl ?_
          refine jx_aload_n E dX5_ahead_101 2 rfl ?_
          obtain ⟨v19, hc19, hF⟩ := jx_bind hF
          try dsimp only at hF
          refine jx_callVv (As := []) (st := []) (h := 0) E dX5_ahead_102 0 rfl (k_X5_putsBack hI  v9 v19 hc19) (gb_V (List.mem_cons_of_mem _ tw_462) (List.mem_cons_of_mem _ tw_463) (List.mem_cons_of_mem _ tw_464) (List.mem_cons_of_mem _ tw_325) tw_461) rfl rfl rfl dd_X5_putsBack rfl (Nat.le_of_ble_eq_true rfl) s_M0 rfl ⟨by decide, by decide⟩ ⟨Nat.le_refl 0, Nat.le_refl 0⟩ (Nat.le_of_ble_eq_true rfl) ?_
          refine jx_iload E dX5_ahead_105 0 rfl ?_
          obtain ⟨rfl, rfl⟩ := jx_out hF
          exact jx_iret E dX5_ahead_107 rfl
      · rw [if_neg hc7] at hF
        refine jx_aload_n E dX5_ahead_39 0 rfl ?_
        refine jx_ldc (x := -1000005) E dX5_ahead_40 (List.mem_cons_of_mem _ tw_364) ?_
        obtain ⟨⟨r20, v20⟩, hc20, hF⟩ := jx_bind hF
        try dsimp only at hF
        refine jx_callVi (As := [.int (-1000005)]) (st := []) (h := 0) E dX5_ahead_42 1 rfl (k_X5_finds hI (-1000005) v6 r20 v20 hc20) (gb_V (List.mem_cons_of_mem _ tw_344) (List.mem_cons_of_mem _ tw_345) (List.mem_cons_of_mem _ tw_346) (List.mem_cons_of_mem _ tw_325) tw_343) rfl rfl rfl dd_X5_finds rfl (Nat.le_of_ble_eq_true rfl) s_M0 rfl ⟨by decide, by decide⟩ ⟨Nat.le_refl 0, Nat.le_refl 0⟩ (Nat.le_of_ble_eq_true rfl) ?_
        obtain ⟨rfl, rfl⟩ := jx_out hF
        exact jx_iret E dX5_ahead_45 rfl
    · rw [if_pos hc5] at hF
      refine jx_aload_n E dX5_ahead_24 0 rfl ?_
      refine jx_ldc (x := -1000001) E dX5_ahead_25 (List.mem_cons_of_mem _ tw_320) ?_
      obtain ⟨⟨r21, v21⟩, hc21, hF⟩ := jx_bind hF
      try dsimp only at hF
      refine jx_callVi (As := [.int (-1000001)]) (st := []) (h := 0) E dX5_ahead_27 1 rfl (k_X5_finds hI (-1000001) v4 r21 v21 hc21) (gb_V (List.mem_cons_of_mem _ tw_344) (List.mem_cons_of_mem _ tw_345) (List.mem_cons_of_mem _ tw_346) (List.mem_cons_of_mem _ tw_325) tw_343) rfl rfl rfl dd_X5_finds rfl (Nat.le_of_ble_eq_true rfl) s_M0 rfl ⟨by decide, by decide⟩ ⟨Nat.le_refl 0, Nat.le_refl 0⟩ (Nat.le_of_ble_eq_true rfl) ?_
      obtain ⟨rfl, rfl⟩ := jx_out hF
      exact jx_iret E dX5_ahead_30 rfl
def f_X5_breaks_L  : Nat → Int32 → Int32 → jx_V → Option (Int32 × jx_V)
  | 0, _, _, _ => none
  | n + 1, x1, x2, v => (if 121 ≤ x2 then ((f_X5_putsBack v).bind (fun v3 => (some (x2, v3)))) else ((f_X5_isBroken x1 v).bind (fun (r4, v4) => (if r4 = 0 then ((f_X5_month v4).bind (fun (r7, v7) => (f_X5_breaks_L n x1 (x2 + 1) v7))) else ((f_X5_putsBack v4).bind (fun v6 => (some (x2, v6))))))))
def f_X5_breaks (x1 : Int32) (v : jx_V) : Option (Int32 × jx_V) := ((f_X5_puts v).bind (fun v1 => (f_X5_breaks_L 100000 x1 0 v1)))
def rm_X5_breaks : Room := { frames := 7, cells := 0, slots := 0, locals := 170 }
set_option maxHeartbeats 4000000 in
set_option maxRecDepth 100000 in
theorem k_X5_breaks {l : Launch} {D : va_G} {cI cJ : ClassId} {ad : Nat → Nat} {A : Nat → Prop} (hI : jx_inj 13 ad A) (x1 : Int32) (v : jx_V) (r : Int32) (v' : jx_V) (hF : f_X5_breaks x1 v = some (r, v')) : jx_Ci l D vwCl 13 cI cJ ad shM A ex_M yX5_breaks (Cond.code yX5_breaks cX5_breaks 4 (some .int) :: bigT) rm_X5_breaks [.ref (ad 0), .int x1] v r v' := by
  unfold f_X5_breaks at hF
  refine jx_enteri bigT RX5 cX5_breaks 4 (some .int) [(0, .ref (ad 0)), (1, .int x1)] hI (ex_M_ok A) (by decide +kernel) rfl (Nat.le_of_ble_eq_true rfl) rfl rfl ?_
  intro p e s m args below meth c E
  have key : ∀ n : Nat, (∀ (x1 : Int32) (x2 : Int32) (v : jx_V), f_X5_breaks_L  n  x1 x2 v = some (r, v') → jx_J p l e rm_X5_breaks s m args below meth c D vwCl 13 cI cJ ad shM A 0 0 4 (MQ below (va_Qi (fun (r1 : Int32) (_ : Unit) => r1 = r) (fun _ t => va_P D vwCl (jx_ws 13 cI cJ ad shM v') t.heap) A) args s 0 0 A) v 6 [(0, .ref (ad 0)), (1, .int x1), (2, .int x2)] []) := by
    intro n
    induction n with
    | zero =>
      exact (fun _ _ _ h => by cases h)
    | succ n ih =>
      intro x1 x2 v hF
      rw [f_X5_breaks_L] at hF
      refine jx_iload_n E dX5_breaks_6 2 rfl ?_
      refine jx_bipush (x := 121) E dX5_breaks_7 (by decide) ?_
      refine jx_icmp_ge (tgt := 31) E dX5_breaks_9 (by decide) (fun hc2 => ?_) (fun hc2 => ?_)
      · rw [if_pos hc2] at hF
        refine jx_aload_n E dX5_breaks_31 0 rfl ?_
        obtain ⟨v3, hc3, hF⟩ := jx_bind hF
        try dsimp only at hF
        refine jx_callVv (As := []) (st := []) (h := 0) E dX5_breaks_32 0 rfl (k_X5_putsBack hI  v v3 hc3) (gb_V (List.mem_cons_of_mem _ tw_462) (List.mem_cons_of_mem _ tw_463) (List.mem_cons_of_mem _ tw_464) (List.mem_cons_of_mem _ tw_325) tw_461) rfl rfl rfl dd_X5_putsBack rfl (Nat.le_of_ble_eq_true rfl) s_M0 rfl ⟨by decide, by decide⟩ ⟨Nat.le_refl 0, Nat.le_refl 0⟩ (Nat.le_of_ble_eq_true rfl) ?_
        refine jx_iload_n E dX5_breaks_35 2 rfl ?_
        obtain ⟨rfl, rfl⟩ := jx_out hF
        exact jx_iret E dX5_breaks_36 rfl
      · rw [if_neg hc2] at hF
        refine jx_aload_n E dX5_breaks_12 0 rfl ?_
        refine jx_iload_n E dX5_breaks_13 1 rfl ?_
        obtain ⟨⟨r4, v4⟩, hc4, hF⟩ := jx_bind hF
        try dsimp only at hF
        refine jx_callVi (As := [.int x1]) (st := []) (h := 0) E dX5_breaks_14 1 rfl (k_X5_isBroken hI x1 v r4 v4 hc4) (gb_V (List.mem_cons_of_mem _ tw_428) (List.mem_cons_of_mem _ tw_429) (List.mem_cons_of_mem _ tw_430) (List.mem_cons_of_mem _ tw_325) tw_427) rfl rfl rfl dd_X5_isBroken rfl (Nat.le_of_ble_eq_true rfl) s_M0 rfl ⟨by decide, by decide⟩ ⟨Nat.le_refl 0, Nat.le_refl 0⟩ (Nat.le_of_ble_eq_true rfl) ?_
        refine jx_if_ne (tgt := 31) E dX5_breaks_17 (by decide) (fun hc5 => ?_) (fun hc5 => ?_)
        · rw [if_neg hc5] at hF
          refine jx_aload_n E dX5_breaks_31 0 rfl ?_
          obtain ⟨v6, hc6, hF⟩ := jx_bind hF
          try dsimp only at hF
          refine jx_callVv (As := []) (st := []) (h := 0) E dX5_breaks_32 0 rfl (k_X5_putsBack hI  v4 v6 hc6) (gb_V (List.mem_cons_of_mem _ tw_462) (List.mem_cons_of_mem _ tw_463) (List.mem_cons_of_mem _ tw_464) (List.mem_cons_of_mem _ tw_325) tw_461) rfl rfl rfl dd_X5_putsBack rfl (Nat.le_of_ble_eq_true rfl) s_M0 rfl ⟨by decide, by decide⟩ ⟨Nat.le_refl 0, Nat.le_refl 0⟩ (Nat.le_of_ble_eq_true rfl) ?_
          refine jx_iload_n E dX5_breaks_35 2 rfl ?_
          obtain ⟨rfl, rfl⟩ := jx_out hF
          exact jx_iret E dX5_breaks_36 rfl
        · rw [if_pos hc5] at hF
          refine jx_aload_n E dX5_breaks_20 0 rfl ?_
          obtain ⟨⟨r7, v7⟩, hc7, hF⟩ := jx_bind hF
          try dsimp only at hF
          refine jx_callVi (As := []) (st := []) (h := 0) E dX5_breaks_21 0 rfl (k_X5_month hI  v4 r7 v7 hc7) (gb_V (List.mem_cons_of_mem _ tw_444) (List.mem_cons_of_mem _ tw_445) (List.mem_cons_of_mem _ tw_446) (List.mem_cons_of_mem _ tw_325) tw_443) rfl rfl rfl dd_X5_month rfl (Nat.le_of_ble_eq_true rfl) s_M0 rfl ⟨by decide, by decide⟩ ⟨Nat.le_refl 0, Nat.le_refl 0⟩ (Nat.le_of_ble_eq_true rfl) ?_
          refine jx_istore_n (lv' := [(3, .int r7), (0, .ref (ad 0)), (1, .int x1), (2, .int x2)]) E dX5_breaks_24 (by decide) rfl ?_
          refine jx_iinc (y := (x2 + 1)) (lv' := [(2, .int (x2 + 1)), (3, .int r7), (0, .ref (ad 0)), (1, .int x1)]) E dX5_breaks_25 3 rfl rfl (by decide) rfl ?_
          refine jx_goto (tgt := 6) E dX5_breaks_28 (by decide) ?_
          refine jx_sub [2, 3, 0] rfl ?_
          exact ih x1 (x2 + 1) v7 hF
  refine jx_aload_n E dX5_breaks_0 0 rfl ?_
  obtain ⟨v1, hc1, hF⟩ := jx_bind hF
  try dsimp only at hF
  refine jx_callVv (As := []) (st := []) (h := 0) E dX5_breaks_1 0 rfl (k_X5_puts hI  v v1 hc1) (gb_V (List.mem_cons_of_mem _ tw_458) (List.mem_cons_of_mem _ tw_459) (List.mem_cons_of_mem _ tw_460) (List.mem_cons_of_mem _ tw_325) tw_457) rfl rfl rfl dd_X5_puts rfl (Nat.le_of_ble_eq_true rfl) s_M0 rfl ⟨by decide, by decide⟩ ⟨Nat.le_refl 0, Nat.le_refl 0⟩ (Nat.le_of_ble_eq_true rfl) ?_
  refine jx_iconst (x := 0) E dX5_breaks_4 (by decide) ?_
  refine jx_istore_n (lv' := [(2, .int 0), (0, .ref (ad 0)), (1, .int x1)]) E dX5_breaks_5 (by decide) rfl ?_
  refine jx_sub [1, 2, 0] rfl ?_
  exact (key 100000) x1 0 v1 hF
def f_X5_isLate (x1 : Int32) (v : jx_V) : Option (Int32 × jx_V) := ((f_X5_told x1 4 v).bind (fun (r1, v1) => (if r1 < 0 then (some (1, v1)) else ((f_X5_isTooLate 120 v1).bind (fun (r3, v3) => (if r3 = 0 then (some (0, v3)) else (some (1, v3))))))))
def rm_X5_isLate : Room := { frames := 2, cells := 0, slots := 0, locals := 43 }
set_option maxHeartbeats 4000000 in
set_option maxRecDepth 100000 in
theorem k_X5_isLate {l : Launch} {D : va_G} {cI cJ : ClassId} {ad : Nat → Nat} {A : Nat → Prop} (hI : jx_inj 13 ad A) (x1 : Int32) (v : jx_V) (r : Int32) (v' : jx_V) (hF : f_X5_isLate x1 v = some (r, v')) : jx_Ci l D vwCl 13 cI cJ ad shM A ex_M yX5_isLate (Cond.code yX5_isLate cX5_isLate 2 (some .boolean) :: bigT) rm_X5_isLate [.ref (ad 0), .int x1] v r v' := by
  unfold f_X5_isLate at hF
  refine jx_enteri bigT RX5 cX5_isLate 2 (some .boolean) [(0, .ref (ad 0)), (1, .int x1)] hI (ex_M_ok A) (by decide +kernel) rfl (Nat.le_of_ble_eq_true rfl) rfl rfl ?_
  intro p e s m args below meth c E
  refine jx_aload_n E dX5_isLate_0 0 rfl ?_
  refine jx_iload_n E dX5_isLate_1 1 rfl ?_
  refine jx_iconst (x := 4) E dX5_isLate_2 (by decide) ?_
  obtain ⟨⟨r1, v1⟩, hc1, hF⟩ := jx_bind hF
  try dsimp only at hF
  refine jx_callVi (As := [.int x1, .int 4]) (st := []) (h := 0) E dX5_isLate_3 2 rfl (k_X5_told hI x1 4 v r1 v1 hc1) (gb_V (List.mem_cons_of_mem _ tw_402) (List.mem_cons_of_mem _ tw_403) (List.mem_cons_of_mem _ tw_404) (List.mem_cons_of_mem _ tw_325) tw_401) rfl rfl rfl dd_X5_told rfl (Nat.le_of_ble_eq_true rfl) s_M0 rfl ⟨by decide, by decide⟩ ⟨Nat.le_refl 0, Nat.le_refl 0⟩ (Nat.le_of_ble_eq_true rfl) ?_
  refine jx_if_lt (tgt := 18) E dX5_isLate_6 (by decide) (fun hc2 => ?_) (fun hc2 => ?_)
  · rw [if_pos hc2] at hF
    refine jx_iconst (x := 1) E dX5_isLate_18 (by decide) ?_
    refine jx_goto (tgt := 23) E dX5_isLate_19 (by decide) ?_
    obtain ⟨rfl, rfl⟩ := jx_out hF
    exact jx_zret E dX5_isLate_23 rfl (Or.inr rfl)
  · rw [if_neg hc2] at hF
    refine jx_aload_n E dX5_isLate_9 0 rfl ?_
    refine jx_bipush (x := 120) E dX5_isLate_10 (by decide) ?_
    obtain ⟨⟨r3, v3⟩, hc3, hF⟩ := jx_bind hF
    try dsimp only at hF
    refine jx_callVi (As := [.int 120]) (st := []) (h := 0) E dX5_isLate_12 1 rfl (k_X5_isTooLate hI 120 v1 r3 v3 hc3) (gb_V (List.mem_cons_of_mem _ tw_449) (List.mem_cons_of_mem _ tw_450) (List.mem_cons_of_mem _ tw_451) (List.mem_cons_of_mem _ tw_325) tw_448) rfl rfl rfl dd_X5_isTooLate rfl (Nat.le_of_ble_eq_true rfl) s_M0 rfl ⟨by decide, by decide⟩ ⟨Nat.le_refl 0, Nat.le_refl 0⟩ (Nat.le_of_ble_eq_true rfl) ?_
    refine jx_if_eq (tgt := 22) E dX5_isLate_15 (by decide) (fun hc4 => ?_) (fun hc4 => ?_)
    · rw [if_pos hc4] at hF
      refine jx_iconst (x := 0) E dX5_isLate_22 (by decide) ?_
      obtain ⟨rfl, rfl⟩ := jx_out hF
      exact jx_zret E dX5_isLate_23 rfl (Or.inl rfl)
    · rw [if_neg hc4] at hF
      refine jx_iconst (x := 1) E dX5_isLate_18 (by decide) ?_
      refine jx_goto (tgt := 23) E dX5_isLate_19 (by decide) ?_
      obtain ⟨rfl, rfl⟩ := jx_out hF
      exact jx_zret E dX5_isLate_23 rfl (Or.inr rfl)
def f_X5_breach (x1 : Int32) (v : jx_V) : Option (Int32 × jx_V) := ((f_X5_isWindow x1 v).bind (fun (r1, v1) => (if r1 = 0 then ((f_X5_finds (-1000001) v1).bind (fun (r9, v9) => (some (r9, v9)))) else ((f_X5_isLate x1 v1).bind (fun (r3, v3) => (if r3 = 0 then ((f_X5_breaks x1 v3).bind (fun (r5, v5) => (if r5 ≤ 120 then (some (r5, v5)) else ((f_X5_finds (-1000004) v5).bind (fun (r7, v7) => (some (r7, v7))))))) else ((f_X5_finds (-1000005) v3).bind (fun (r8, v8) => (some (r8, v8))))))))))
def rm_X5_breach : Room := { frames := 8, cells := 0, slots := 0, locals := 193 }
set_option maxHeartbeats 4000000 in
set_option maxRecDepth 100000 in
theorem k_X5_breach {l : Launch} {D : va_G} {cI cJ : ClassId} {ad : Nat → Nat} {A : Nat → Prop} (hI : jx_inj 13 ad A) (x1 : Int32) (v : jx_V) (r : Int32) (v' : jx_V) (hF : f_X5_breach x1 v = some (r, v')) : jx_Ci l D vwCl 13 cI cJ ad shM A ex_M yX5_breach (Cond.code yX5_breach cX5_breach 3 (some .int) :: bigT) rm_X5_breach [.ref (ad 0), .int x1] v r v' := by
  unfold f_X5_breach at hF
  refine jx_enteri bigT RX5 cX5_breach 3 (some .int) [(0, .ref (ad 0)), (1, .int x1)] hI (ex_M_ok A) (by decide +kernel) rfl (Nat.le_of_ble_eq_true rfl) rfl rfl ?_
  intro p e s m args below meth c E
  refine jx_aload_n E dX5_breach_0 0 rfl ?_
  refine jx_iload_n E dX5_breach_1 1 rfl ?_
  obtain ⟨⟨r1, v1⟩, hc1, hF⟩ := jx_bind hF
  try dsimp only at hF
  refine jx_callVi (As := [.int x1]) (st := []) (h := 0) E dX5_breach_2 1 rfl (k_X5_isWindow hI x1 v r1 v1 hc1) (gb_V (List.mem_cons_of_mem _ tw_397) (List.mem_cons_of_mem _ tw_398) (List.mem_cons_of_mem _ tw_399) (List.mem_cons_of_mem _ tw_325) tw_396) rfl rfl rfl dd_X5_isWindow rfl (Nat.le_of_ble_eq_true rfl) s_M0 rfl ⟨by decide, by decide⟩ ⟨Nat.le_refl 0, Nat.le_refl 0⟩ (Nat.le_of_ble_eq_true rfl) ?_
  refine jx_if_ne (tgt := 15) E dX5_breach_5 (by decide) (fun hc2 => ?_) (fun hc2 => ?_)
  · rw [if_neg hc2] at hF
    refine jx_aload_n E dX5_breach_15 0 rfl ?_
    refine jx_iload_n E dX5_breach_16 1 rfl ?_
    obtain ⟨⟨r3, v3⟩, hc3, hF⟩ := jx_bind hF
    try dsimp only at hF
    refine jx_callVi (As := [.int x1]) (st := []) (h := 0) E dX5_breach_17 1 rfl (k_X5_isLate hI x1 v1 r3 v3 hc3) (gb_V (List.mem_cons_of_mem _ tw_470) (List.mem_cons_of_mem _ tw_471) (List.mem_cons_of_mem _ tw_472) (List.mem_cons_of_mem _ tw_325) tw_469) rfl rfl rfl dd_X5_isLate rfl (Nat.le_of_ble_eq_true rfl) s_M0 rfl ⟨by decide, by decide⟩ ⟨Nat.le_refl 0, Nat.le_refl 0⟩ (Nat.le_of_ble_eq_true rfl) ?_
    refine jx_if_eq (tgt := 30) E dX5_breach_20 (by decide) (fun hc4 => ?_) (fun hc4 => ?_)
    · rw [if_pos hc4] at hF
      refine jx_aload_n E dX5_breach_30 0 rfl ?_
      refine jx_iload_n E dX5_breach_31 1 rfl ?_
      obtain ⟨⟨r5, v5⟩, hc5, hF⟩ := jx_bind hF
      try dsimp only at hF
      refine jx_callVi (As := [.int x1]) (st := []) (h := 0) E dX5_breach_32 1 rfl (k_X5_breaks hI x1 v3 r5 v5 hc5) (gb_V (List.mem_cons_of_mem _ tw_474) (List.mem_cons_of_mem _ tw_475) (List.mem_cons_of_mem _ tw_476) (List.mem_cons_of_mem _ tw_325) tw_473) rfl rfl rfl dd_X5_breaks rfl (Nat.le_of_ble_eq_true rfl) s_M0 rfl ⟨by decide, by decide⟩ ⟨Nat.le_refl 0, Nat.le_refl 0⟩ (Nat.le_of_ble_eq_true rfl) ?_
      refine jx_istore_n (lv' := [(2, .int r5), (0, .ref (ad 0)), (1, .int x1)]) E dX5_breach_35 (by decide) rfl ?_
      refine jx_iload_n E dX5_breach_36 0 rfl ?_
      refine jx_bipush (x := 120) E dX5_breach_37 (by decide) ?_
      refine jx_icmp_le (tgt := 51) E dX5_breach_39 (by decide) (fun hc6 => ?_) (fun hc6 => ?_)
      · rw [if_pos hc6] at hF
        refine jx_iload_n E dX5_breach_51 0 rfl ?_
        obtain ⟨rfl, rfl⟩ := jx_out hF
        exact jx_iret E dX5_breach_52 rfl
      · rw [if_neg hc6] at hF
        refine jx_aload_n E dX5_breach_42 1 rfl ?_
        refine jx_ldc (x := -1000004) E dX5_breach_43 (List.mem_cons_of_mem _ tw_365) ?_
        obtain ⟨⟨r7, v7⟩, hc7, hF⟩ := jx_bind hF
        try dsimp only at hF
        refine jx_callVi (As := [.int (-1000004)]) (st := []) (h := 0) E dX5_breach_45 1 rfl (k_X5_finds hI (-1000004) v5 r7 v7 hc7) (gb_V (List.mem_cons_of_mem _ tw_344) (List.mem_cons_of_mem _ tw_345) (List.mem_cons_of_mem _ tw_346) (List.mem_cons_of_mem _ tw_325) tw_343) rfl rfl rfl dd_X5_finds rfl (Nat.le_of_ble_eq_true rfl) s_M0 rfl ⟨by decide, by decide⟩ ⟨Nat.le_refl 0, Nat.le_refl 0⟩ (Nat.le_of_ble_eq_true rfl) ?_
        refine jx_goto (tgt := 52) E dX5_breach_48 (by decide) ?_
        obtain ⟨rfl, rfl⟩ := jx_out hF
        exact jx_iret E dX5_breach_52 rfl
    · rw [if_neg hc4] at hF
      refine jx_aload_n E dX5_breach_23 0 rfl ?_
      refine jx_ldc (x := -1000005) E dX5_breach_24 (List.mem_cons_of_mem _ tw_364) ?_
      obtain ⟨⟨r8, v8⟩, hc8, hF⟩ := jx_bind hF
      try dsimp only at hF
      refine jx_callVi (As := [.int (-1000005)]) (st := []) (h := 0) E dX5_breach_26 1 rfl (k_X5_finds hI (-1000005) v3 r8 v8 hc8) (gb_V (List.mem_cons_of_mem _ tw_344) (List.mem_cons_of_mem _ tw_345) (List.mem_cons_of_mem _ tw_346) (List.mem_cons_of_mem _ tw_325) tw_343) rfl rfl rfl dd_X5_finds rfl (Nat.le_of_ble_eq_true rfl) s_M0 rfl ⟨by decide, by decide⟩ ⟨Nat.le_refl 0, Nat.le_refl 0⟩ (Nat.le_of_ble_eq_true rfl) ?_
      obtain ⟨rfl, rfl⟩ := jx_out hF
      exact jx_iret E dX5_breach_29 rfl
  · rw [if_pos hc2] at hF
    refine jx_aload_n E dX5_breach_8 0 rfl ?_
    refine jx_ldc (x := -1000001) E dX5_breach_9 (List.mem_cons_of_mem _ tw_320) ?_
    obtain ⟨⟨r9, v9⟩, hc9, hF⟩ := jx_bind hF
    try dsimp only at hF
    refine jx_callVi (As := [.int (-1000001)]) (st := []) (h := 0) E dX5_breach_11 1 rfl (k_X5_finds hI (-1000001) v1 r9 v9 hc9) (gb_V (List.mem_cons_of_mem _ tw_344) (List.mem_cons_of_mem _ tw_345) (List.mem_cons_of_mem _ tw_346) (List.mem_cons_of_mem _ tw_325) tw_343) rfl rfl rfl dd_X5_finds rfl (Nat.le_of_ble_eq_true rfl) s_M0 rfl ⟨by decide, by decide⟩ ⟨Nat.le_refl 0, Nat.le_refl 0⟩ (Nat.le_of_ble_eq_true rfl) ?_
    obtain ⟨rfl, rfl⟩ := jx_out hF
    exact jx_iret E dX5_breach_14 rfl
def f_X5_blame_L  : Nat → Int32 → Int32 → Int32 → Int32 → jx_V → Option (Int32 × jx_V)
  | 0, _, _, _, _, _ => none
  | n + 1, x1, x2, x3, x4, v => (if 25 ≤ x4 then (if 0 ≤ x3 then (some (x3, v)) else ((f_X5_finds (-1000004) v).bind (fun (r13, v13) => (some (r13, v13))))) else (if 0 ≤ x3 then (if 0 ≤ x3 then (some (x3, v)) else ((f_X5_finds (-1000004) v).bind (fun (r16, v16) => (some (r16, v16))))) else ((f_X5_isThing x4 v).bind (fun (r17, v17) => (if r17 = 0 then (f_X5_blame_L n x1 x2 x3 (x4 + 1) v17) else ((f_X5_at x4 0 v17).bind (fun (r19, v19) => (if (r19 < 0 ∨ 181 ≤ Int32.toNatClampNeg r19) then none else ((f_X5_monthsGo x2 (jx_up v19 1 (Int32.toNatClampNeg r19) (-1))).bind (fun (r21, v21) => ((f_X5_isBroken x1 v21).bind (fun (r22, v22) => (if r22 = 0 then ((f_X5_putsBack v22).bind (fun v24 => (f_X5_blame_L n x1 x2 x4 (x4 + 1) v24))) else ((f_X5_putsBack v22).bind (fun v25 => (f_X5_blame_L n x1 x2 (-1) (x4 + 1) v25))))))))))))))))
def f_X5_blame (x1 : Int32) (v : jx_V) : Option (Int32 × jx_V) := ((f_X5_isWindow x1 v).bind (fun (r1, v1) => (if r1 = 0 then ((f_X5_finds (-1000001) v1).bind (fun (r10, v10) => (some (r10, v10)))) else ((f_X5_isLate x1 v1).bind (fun (r3, v3) => (if r3 = 0 then ((f_X5_breaks x1 v3).bind (fun (r5, v5) => (if r5 ≤ 120 then ((f_X5_puts v5).bind (fun v7 => (f_X5_blame_L 100000 x1 r5 (-1) 0 v7))) else ((f_X5_finds (-1000004) v5).bind (fun (r8, v8) => (some (r8, v8))))))) else ((f_X5_finds (-1000005) v3).bind (fun (r9, v9) => (some (r9, v9))))))))))
def rm_X5_blame : Room := { frames := 8, cells := 0, slots := 0, locals := 193 }
set_option maxHeartbeats 4000000 in
set_option maxRecDepth 100000 in
theorem k_X5_blame {l : Launch} {D : va_G} {cI cJ : ClassId} {ad : Nat → Nat} {A : Nat → Prop} (hI : jx_inj 13 ad A) (x1 : Int32) (v : jx_V) (r : Int32) (v' : jx_V) (hF : f_X5_blame x1 v = some (r, v')) : jx_Ci l D vwCl 13 cI cJ ad shM A ex_M yX5_blame (Cond.code yX5_blame cX5_blame 6 (some .int) :: bigT) rm_X5_blame [.ref (ad 0), .int x1] v r v' := by
  unfold f_X5_blame at hF
  refine jx_enteri bigT RX5 cX5_blame 6 (some .int) [(0, .ref (ad 0)), (1, .int x1)] hI (ex_M_ok A) (by decide +kernel) rfl (Nat.le_of_ble_eq_true rfl) rfl rfl ?_
  intro p e s m args below meth c E
  have iX5 : ∀ w ∈ u_ws RX5 TX5 21, w ∈ (Cond.code yX5_blame cX5_blame 6 (some .int) :: bigT) := fun w h => List.mem_cons_of_mem _ (uw_X5 w h)
  have key : ∀ n : Nat, (∀ (x1 : Int32) (x2 : Int32) (x3 : Int32) (x4 : Int32) (v : jx_V), f_X5_blame_L  n  x1 x2 x3 x4 v = some (r, v') → jx_J p l e rm_X5_blame s m args below meth c D vwCl 13 cI cJ ad shM A 0 0 6 (MQ below (va_Qi (fun (r1 : Int32) (_ : Unit) => r1 = r) (fun _ t => va_P D vwCl (jx_ws 13 cI cJ ad shM v') t.heap) A) args s 0 0 A) v 58 [(0, .ref (ad 0)), (1, .int x1), (2, .int x2), (3, .int x3), (4, .int x4)] []) := by
    intro n
    induction n with
    | zero =>
      exact (fun _ _ _ _ _ h => by cases h)
    | succ n ih =>
      intro x1 x2 x3 x4 v hF
      rw [f_X5_blame_L] at hF
      refine jx_iload E dX5_blame_58 4 rfl ?_
      refine jx_bipush (x := 25) E dX5_blame_60 (by decide) ?_
      refine jx_icmp_ge (tgt := 122) E dX5_blame_62 (by decide) (fun hc11 => ?_) (fun hc11 => ?_)
      · rw [if_pos hc11] at hF
        refine jx_iload_n E dX5_blame_122 3 rfl ?_
        refine jx_if_ge (tgt := 135) E dX5_blame_123 (by decide) (fun hc12 => ?_) (fun hc12 => ?_)
        · rw [if_pos hc12] at hF
          refine jx_iload_n E dX5_blame_135 3 rfl ?_
          obtain ⟨rfl, rfl⟩ := jx_out hF
          exact jx_iret E dX5_blame_136 rfl
        · rw [if_neg hc12] at hF
          refine jx_aload_n E dX5_blame_126 0 rfl ?_
          refine jx_ldc (x := -1000004) E dX5_blame_127 (List.mem_cons_of_mem _ tw_365) ?_
          obtain ⟨⟨r13, v13⟩, hc13, hF⟩ := jx_bind hF
          try dsimp only at hF
          refine jx_callVi (As := [.int (-1000004)]) (st := []) (h := 0) E dX5_blame_129 1 rfl (k_X5_finds hI (-1000004) v r13 v13 hc13) (gb_V (List.mem_cons_of_mem _ tw_344) (List.mem_cons_of_mem _ tw_345) (List.mem_cons_of_mem _ tw_346) (List.mem_cons_of_mem _ tw_325) tw_343) rfl rfl rfl dd_X5_finds rfl (Nat.le_of_ble_eq_true rfl) s_M0 rfl ⟨by decide, by decide⟩ ⟨Nat.le_refl 0, Nat.le_refl 0⟩ (Nat.le_of_ble_eq_true rfl) ?_
          refine jx_goto (tgt := 136) E dX5_blame_132 (by decide) ?_
          obtain ⟨rfl, rfl⟩ := jx_out hF
          exact jx_iret E dX5_blame_136 rfl
      · rw [if_neg hc11] at hF
        refine jx_iload_n E dX5_blame_65 3 rfl ?_
        refine jx_if_ge (tgt := 122) E dX5_blame_66 (by decide) (fun hc14 => ?_) (fun hc14 => ?_)
        · rw [if_pos hc14] at hF
          refine jx_iload_n E dX5_blame_122 3 rfl ?_
          refine jx_if_ge (tgt := 135) E dX5_blame_123 (by decide) (fun hc15 => ?_) (fun hc15 => ?_)
          · rw [if_pos hc15] at hF
            refine jx_iload_n E dX5_blame_135 3 rfl ?_
            obtain ⟨rfl, rfl⟩ := jx_out hF
            exact jx_iret E dX5_blame_136 rfl
          · rw [if_neg hc15] at hF
            refine jx_aload_n E dX5_blame_126 0 rfl ?_
            refine jx_ldc (x := -1000004) E dX5_blame_127 (List.mem_cons_of_mem _ tw_365) ?_
            obtain ⟨⟨r16, v16⟩, hc16, hF⟩ := jx_bind hF
            try dsimp only at hF
            refine jx_callVi (As := [.int (-1000004)]) (st := []) (h := 0) E dX5_blame_129 1 rfl (k_X5_finds hI (-1000004) v r16 v16 hc16) (gb_V (List.mem_cons_of_mem _ tw_344) (List.mem_cons_of_mem _ tw_345) (List.mem_cons_of_mem _ tw_346) (List.mem_cons_of_mem _ tw_325) tw_343) rfl rfl rfl dd_X5_finds rfl (Nat.le_of_ble_eq_true rfl) s_M0 rfl ⟨by decide, by decide⟩ ⟨Nat.le_refl 0, Nat.le_refl 0⟩ (Nat.le_of_ble_eq_true rfl) ?_
            refine jx_goto (tgt := 136) E dX5_blame_132 (by decide) ?_
            obtain ⟨rfl, rfl⟩ := jx_out hF
            exact jx_iret E dX5_blame_136 rfl
        · rw [if_neg hc14] at hF
          refine jx_aload_n E dX5_blame_69 0 rfl ?_
          refine jx_iload E dX5_blame_70 4 rfl ?_
          obtain ⟨⟨r17, v17⟩, hc17, hF⟩ := jx_bind hF
          try dsimp only at hF
          refine jx_callVi (As := [.int x4]) (st := []) (h := 0) E dX5_blame_72 1 rfl (k_X5_isThing hI x4 v r17 v17 hc17) (gb_V (List.mem_cons_of_mem _ tw_339) (List.mem_cons_of_mem _ tw_340) (List.mem_cons_of_mem _ tw_341) (List.mem_cons_of_mem _ tw_325) tw_338) rfl rfl rfl dd_X5_isThing rfl (Nat.le_of_ble_eq_true rfl) s_M0 rfl ⟨by decide, by decide⟩ ⟨Nat.le_refl 0, Nat.le_refl 0⟩ (Nat.le_of_ble_eq_true rfl) ?_
          refine jx_if_eq (tgt := 116) E dX5_blame_75 (by decide) (fun hc18 => ?_) (fun hc18 => ?_)
          · rw [if_pos hc18] at hF
            refine jx_iinc (y := (x4 + 1)) (lv' := [(4, .int (x4 + 1)), (0, .ref (ad 0)), (1, .int x1), (2, .int x2), (3, .int x3)]) E dX5_blame_116 4 rfl rfl (by decide) rfl ?_
            refine jx_goto (tgt := 58) E dX5_blame_119 (by decide) ?_
            refine jx_sub [1, 2, 3, 4, 0] rfl ?_
            exact ih x1 x2 x3 (x4 + 1) v17 hF
          · rw [if_neg hc18] at hF
            refine jx_aload_n E dX5_blame_78 0 rfl ?_
            refine jx_getr (C := RX5) (T := TX5) (M := 21) (k := 0) E dX5_blame_79 (Nat.le_of_ble_eq_true rfl) s_M0 rfl iX5 (by decide) rfl (List.mem_cons_of_mem _ tw_328) rfl ?_
            refine jx_iload E dX5_blame_82 4 rfl ?_
            refine jx_iconst (x := 0) E dX5_blame_84 (by decide) ?_
            obtain ⟨⟨r19, v19⟩, hc19, hF⟩ := jx_bind hF
            try dsimp only at hF
            refine jx_callSi (As := [.int x4, .int 0]) (st := [.ref (ad 1)]) E dX5_blame_85 2 rfl (k_X5_at hI x4 0 v17 r19 v19 hc19) (gb_S (List.mem_cons_of_mem _ tw_332) (List.mem_cons_of_mem _ tw_333) (List.mem_cons_of_mem _ tw_325) tw_331) rfl rfl rfl dd_X5_at rfl ⟨by decide, by decide⟩ ⟨Nat.le_refl 0, Nat.le_refl 0⟩ (Nat.le_of_ble_eq_true rfl) ?_
            refine jx_iconst (x := -1) E dX5_blame_88 (by decide) ?_
            obtain ⟨hg20, hF⟩ := jx_guard hF
            refine jx_iast (h := 1) (j := (Int32.toNatClampNeg r19)) E dX5_blame_89 (Nat.le_of_ble_eq_true rfl) s_M1 hg20 rfl ?_
            refine jx_aload_n E dX5_blame_90 0 rfl ?_
            refine jx_iload_n E dX5_blame_91 2 rfl ?_
            obtain ⟨⟨r21, v21⟩, hc21, hF⟩ := jx_bind hF
            try dsimp only at hF
            refine jx_callVi (As := [.int x2]) (st := []) (h := 0) E dX5_blame_92 1 rfl (k_X5_monthsGo hI x2 (jx_up v19 1 (Int32.toNatClampNeg r19) (-1)) r21 v21 hc21) (gb_V (List.mem_cons_of_mem _ tw_453) (List.mem_cons_of_mem _ tw_454) (List.mem_cons_of_mem _ tw_455) (List.mem_cons_of_mem _ tw_325) tw_452) rfl rfl rfl dd_X5_monthsGo rfl (Nat.le_of_ble_eq_true rfl) s_M0 rfl ⟨by decide, by decide⟩ ⟨Nat.le_refl 0, Nat.le_refl 0⟩ (Nat.le_of_ble_eq_true rfl) ?_
            refine jx_istore (lv' := [(5, .int r21), (0, .ref (ad 0)), (1, .int x1), (2, .int x2), (3, .int x3), (4, .int x4)]) E dX5_blame_95 (by decide) rfl ?_
            refine jx_aload_n E dX5_blame_97 1 rfl ?_
            refine jx_iload_n E dX5_blame_98 2 rfl ?_
            obtain ⟨⟨r22, v22⟩, hc22, hF⟩ := jx_bind hF
            try dsimp only at hF
            refine jx_callVi (As := [.int x1]) (st := []) (h := 0) E dX5_blame_99 1 rfl (k_X5_isBroken hI x1 v21 r22 v22 hc22) (gb_V (List.mem_cons_of_mem _ tw_428) (List.mem_cons_of_mem _ tw_429) (List.mem_cons_of_mem _ tw_430) (List.mem_cons_of_mem _ tw_325) tw_427) rfl rfl rfl dd_X5_isBroken rfl (Nat.le_of_ble_eq_true rfl) s_M0 rfl ⟨by decide, by decide⟩ ⟨Nat.le_refl 0, Nat.le_refl 0⟩ (Nat.le_of_ble_eq_true rfl) ?_
            refine jx_if_eq (tgt := 109) E dX5_blame_102 (by decide) (fun hc23 => ?_) (fun hc23 => ?_)
            · rw [if_pos hc23] at hF
              refine jx_iload E dX5_blame_109 5 rfl ?_
              refine jx_istore_n (lv' := [(3, .int x4), (5, .int r21), (0, .ref (ad 0)), (1, .int x1), (2, .int x2), (4, .int x4)]) E dX5_blame_111 (by decide) rfl ?_
              refine jx_aload_n E dX5_blame_112 2 rfl ?_
              obtain ⟨v24, hc24, hF⟩ := jx_bind hF
              try dsimp only at hF
              refine jx_callVv (As := []) (st := []) (h := 0) E dX5_blame_113 0 rfl (k_X5_putsBack hI  v22 v24 hc24) (gb_V (List.mem_cons_of_mem _ tw_462) (List.mem_cons_of_mem _ tw_463) (List.mem_cons_of_mem _ tw_464) (List.mem_cons_of_mem _ tw_325) tw_461) rfl rfl rfl dd_X5_putsBack rfl (Nat.le_of_ble_eq_true rfl) s_M0 rfl ⟨by decide, by decide⟩ ⟨Nat.le_refl 0, Nat.le_refl 0⟩ (Nat.le_of_ble_eq_true rfl) ?_
              refine jx_iinc (y := (x4 + 1)) (lv' := [(4, .int (x4 + 1)), (3, .int x4), (5, .int r21), (0, .ref (ad 0)), (1, .int x1), (2, .int x2)]) E dX5_blame_116 5 rfl rfl (by decide) rfl ?_
              refine jx_goto (tgt := 58) E dX5_blame_119 (by decide) ?_
              refine jx_sub [3, 4, 5, 1, 0] rfl ?_
              exact ih x1 x2 x4 (x4 + 1) v24 hF
            · rw [if_neg hc23] at hF
              refine jx_iconst (x := -1) E dX5_blame_105 (by decide) ?_
              refine jx_goto (tgt := 111) E dX5_blame_106 (by decide) ?_
              refine jx_istore_n (lv' := [(3, .int (-1)), (5, .int r21), (0, .ref (ad 0)), (1, .int x1), (2, .int x2), (4, .int x4)]) E dX5_blame_111 (by decide) rfl ?_
              refine jx_aload_n E dX5_blame_112 2 rfl ?_
              obtain ⟨v25, hc25, hF⟩ := jx_bind hF
              try dsimp only at hF
              refine jx_callVv (As := []) (st := []) (h := 0) E dX5_blame_113 0 rfl (k_X5_putsBack hI  v22 v25 hc25) (gb_V (List.mem_cons_of_mem _ tw_462) (List.mem_cons_of_mem _ tw_463) (List.mem_cons_of_mem _ tw_464) (List.mem_cons_of_mem _ tw_325) tw_461) rfl rfl rfl dd_X5_putsBack rfl (Nat.le_of_ble_eq_true rfl) s_M0 rfl ⟨by decide, by decide⟩ ⟨Nat.le_refl 0, Nat.le_refl 0⟩ (Nat.le_of_ble_eq_true rfl) ?_
              refine jx_iinc (y := (x4 + 1)) (lv' := [(4, .int (x4 + 1)), (3, .int (-1)), (5, .int r21), (0, .ref (ad 0)), (1, .int x1), (2, .int x2)]) E dX5_blame_116 5 rfl rfl (by decide) rfl ?_
              refine jx_goto (tgt := 58) E dX5_blame_119 (by decide) ?_
              refine jx_sub [3, 4, 5, 1, 0] rfl ?_
              exact ih x1 x2 (-1) (x4 + 1) v25 hF
  refine jx_aload_n E dX5_blame_0 0 rfl ?_
  refine jx_iload_n E dX5_blame_1 1 rfl ?_
  obtain ⟨⟨r1, v1⟩, hc1, hF⟩ := jx_bind hF
  try dsimp only at hF
  refine jx_callVi (As := [.int x1]) (st := []) (h := 0) E dX5_blame_2 1 rfl (k_X5_isWindow hI x1 v r1 v1 hc1) (gb_V (List.mem_cons_of_mem _ tw_397) (List.mem_cons_of_mem _ tw_398) (List.mem_cons_of_mem _ tw_399) (List.mem_cons_of_mem _ tw_325) tw_396) rfl rfl rfl dd_X5_isWindow rfl (Nat.le_of_ble_eq_true rfl) s_M0 rfl ⟨by decide, by decide⟩ ⟨Nat.le_refl 0, Nat.le_refl 0⟩ (Nat.le_of_ble_eq_true rfl) ?_
  refine jx_if_ne (tgt := 15) E dX5_blame_5 (by decide) (fun hc2 => ?_) (fun hc2 => ?_)
  · rw [if_neg hc2] at hF
    refine jx_aload_n E dX5_blame_15 0 rfl ?_
    refine jx_iload_n E dX5_blame_16 1 rfl ?_
    obtain ⟨⟨r3, v3⟩, hc3, hF⟩ := jx_bind hF
    try dsimp only at hF
    refine jx_callVi (As := [.int x1]) (st := []) (h := 0) E dX5_blame_17 1 rfl (k_X5_isLate hI x1 v1 r3 v3 hc3) (gb_V (List.mem_cons_of_mem _ tw_470) (List.mem_cons_of_mem _ tw_471) (List.mem_cons_of_mem _ tw_472) (List.mem_cons_of_mem _ tw_325) tw_469) rfl rfl rfl dd_X5_isLate rfl (Nat.le_of_ble_eq_true rfl) s_M0 rfl ⟨by decide, by decide⟩ ⟨Nat.le_refl 0, Nat.le_refl 0⟩ (Nat.le_of_ble_eq_true rfl) ?_
    refine jx_if_eq (tgt := 30) E dX5_blame_20 (by decide) (fun hc4 => ?_) (fun hc4 => ?_)
    · rw [if_pos hc4] at hF
      refine jx_aload_n E dX5_blame_30 0 rfl ?_
      refine jx_iload_n E dX5_blame_31 1 rfl ?_
      obtain ⟨⟨r5, v5⟩, hc5, hF⟩ := jx_bind hF
      try dsimp only at hF
      refine jx_callVi (As := [.int x1]) (st := []) (h := 0) E dX5_blame_32 1 rfl (k_X5_breaks hI x1 v3 r5 v5 hc5) (gb_V (List.mem_cons_of_mem _ tw_474) (List.mem_cons_of_mem _ tw_475) (List.mem_cons_of_mem _ tw_476) (List.mem_cons_of_mem _ tw_325) tw_473) rfl rfl rfl dd_X5_breaks rfl (Nat.le_of_ble_eq_true rfl) s_M0 rfl ⟨by decide, by decide⟩ ⟨Nat.le_refl 0, Nat.le_refl 0⟩ (Nat.le_of_ble_eq_true rfl) ?_
      refine jx_istore_n (lv' := [(2, .int r5), (0, .ref (ad 0)), (1, .int x1)]) E dX5_blame_35 (by decide) rfl ?_
      refine jx_iload_n E dX5_blame_36 0 rfl ?_
      refine jx_bipush (x := 120) E dX5_blame_37 (by decide) ?_
      refine jx_icmp_le (tgt := 49) E dX5_blame_39 (by decide) (fun hc6 => ?_) (fun hc6 => ?_)
      · rw [if_pos hc6] at hF
        refine jx_aload_n E dX5_blame_49 1 rfl ?_
        obtain ⟨v7, hc7, hF⟩ := jx_bind hF
        try dsimp only at hF
        refine jx_callVv (As := []) (st := []) (h := 0) E dX5_blame_50 0 rfl (k_X5_puts hI  v5 v7 hc7) (gb_V (List.mem_cons_of_mem _ tw_458) (List.mem_cons_of_mem _ tw_459) (List.mem_cons_of_mem _ tw_460) (List.mem_cons_of_mem _ tw_325) tw_457) rfl rfl rfl dd_X5_puts rfl (Nat.le_of_ble_eq_true rfl) s_M0 rfl ⟨by decide, by decide⟩ ⟨Nat.le_refl 0, Nat.le_refl 0⟩ (Nat.le_of_ble_eq_true rfl) ?_
        refine jx_iconst (x := -1) E dX5_blame_53 (by decide) ?_
        refine jx_istore_n (lv' := [(3, .int (-1)), (2, .int r5), (0, .ref (ad 0)), (1, .int x1)]) E dX5_blame_54 (by decide) rfl ?_
        refine jx_iconst (x := 0) E dX5_blame_55 (by decide) ?_
        refine jx_istore (lv' := [(4, .int 0), (3, .int (-1)), (2, .int r5), (0, .ref (ad 0)), (1, .int x1)]) E dX5_blame_56 (by decide) rfl ?_
        refine jx_sub [3, 4, 2, 1, 0] rfl ?_
        exact (key 100000) x1 r5 (-1) 0 v7 hF
      · rw [if_neg hc6] at hF
        refine jx_aload_n E dX5_blame_42 1 rfl ?_
        refine jx_ldc (x := -1000004) E dX5_blame_43 (List.mem_cons_of_mem _ tw_365) ?_
        obtain ⟨⟨r8, v8⟩, hc8, hF⟩ := jx_bind hF
        try dsimp only at hF
        refine jx_callVi (As := [.int (-1000004)]) (st := []) (h := 0) E dX5_blame_45 1 rfl (k_X5_finds hI (-1000004) v5 r8 v8 hc8) (gb_V (List.mem_cons_of_mem _ tw_344) (List.mem_cons_of_mem _ tw_345) (List.mem_cons_of_mem _ tw_346) (List.mem_cons_of_mem _ tw_325) tw_343) rfl rfl rfl dd_X5_finds rfl (Nat.le_of_ble_eq_true rfl) s_M0 rfl ⟨by decide, by decide⟩ ⟨Nat.le_refl 0, Nat.le_refl 0⟩ (Nat.le_of_ble_eq_true rfl) ?_
        obtain ⟨rfl, rfl⟩ := jx_out hF
        exact jx_iret E dX5_blame_48 rfl
    · rw [if_neg hc4] at hF
      refine jx_aload_n E dX5_blame_23 0 rfl ?_
      refine jx_ldc (x := -1000005) E dX5_blame_24 (List.mem_cons_of_mem _ tw_364) ?_
      obtain ⟨⟨r9, v9⟩, hc9, hF⟩ := jx_bind hF
      try dsimp only at hF
      refine jx_callVi (As := [.int (-1000005)]) (st := []) (h := 0) E dX5_blame_26 1 rfl (k_X5_finds hI (-1000005) v3 r9 v9 hc9) (gb_V (List.mem_cons_of_mem _ tw_344) (List.mem_cons_of_mem _ tw_345) (List.mem_cons_of_mem _ tw_346) (List.mem_cons_of_mem _ tw_325) tw_343) rfl rfl rfl dd_X5_finds rfl (Nat.le_of_ble_eq_true rfl) s_M0 rfl ⟨by decide, by decide⟩ ⟨Nat.le_refl 0, Nat.le_refl 0⟩ (Nat.le_of_ble_eq_true rfl) ?_
      obtain ⟨rfl, rfl⟩ := jx_out hF
      exact jx_iret E dX5_blame_29 rfl
  · rw [if_pos hc2] at hF
    refine jx_aload_n E dX5_blame_8 0 rfl ?_
    refine jx_ldc (x := -1000001) E dX5_blame_9 (List.mem_cons_of_mem _ tw_320) ?_
    obtain ⟨⟨r10, v10⟩, hc10, hF⟩ := jx_bind hF
    try dsimp only at hF
    refine jx_callVi (As := [.int (-1000001)]) (st := []) (h := 0) E dX5_blame_11 1 rfl (k_X5_finds hI (-1000001) v1 r10 v10 hc10) (gb_V (List.mem_cons_of_mem _ tw_344) (List.mem_cons_of_mem _ tw_345) (List.mem_cons_of_mem _ tw_346) (List.mem_cons_of_mem _ tw_325) tw_343) rfl rfl rfl dd_X5_finds rfl (Nat.le_of_ble_eq_true rfl) s_M0 rfl ⟨by decide, by decide⟩ ⟨Nat.le_refl 0, Nat.le_refl 0⟩ (Nat.le_of_ble_eq_true rfl) ?_
    obtain ⟨rfl, rfl⟩ := jx_out hF
    exact jx_iret E dX5_blame_14 rfl
def f_X5_bestPart_L  : Nat → Int32 → Int32 → Int32 → Int32 → Int32 → Int32 → Int32 → jx_V → Option (Int32 × jx_V)
  | 0, _, _, _, _, _, _, _, _ => none
  | n + 1, x1, x2, x3, x4, x5, x6, x7, v => (if x3 < x7 then ((f_X5_at x1 x2 v).bind (fun (r3, v3) => (if (r3 < 0 ∨ 181 ≤ Int32.toNatClampNeg r3) then none else (some (x5, (jx_up v3 1 (Int32.toNatClampNeg r3) x4)))))) else ((f_X5_at x1 x2 v).bind (fun (r5, v5) => (if (r5 < 0 ∨ 181 ≤ Int32.toNatClampNeg r5) then none else ((f_X5_its x1 1 (jx_up v5 1 (Int32.toNatClampNeg r5) x7)).bind (fun (r7, v7) => ((f_X5_gainOf r7 v7).bind (fun (r8, v8) => (if x5 < 0 then (f_X5_bestPart_L n x1 x2 x3 x4 x7 r8 (x7 + 1) v8) else (if r8 ≤ x6 then (f_X5_bestPart_L n x1 x2 x3 x4 x5 x6 (x7 + 1) v8) else (f_X5_bestPart_L n x1 x2 x3 x4 x7 r8 (x7 + 1) v8)))))))))))
def f_X5_bestPart (x1 : Int32) (x2 : Int32) (x3 : Int32) (v : jx_V) : Option (Int32 × jx_V) := ((f_X5_its x1 x2 v).bind (fun (r1, v1) => (f_X5_bestPart_L 100000 x1 x2 x3 r1 (-1) 0 0 v1)))
def rm_X5_bestPart : Room := { frames := 7, cells := 0, slots := 0, locals := 169 }
set_option maxHeartbeats 4000000 in
set_option maxRecDepth 100000 in
theorem k_X5_bestPart {l : Launch} {D : va_G} {cI cJ : ClassId} {ad : Nat → Nat} {A : Nat → Prop} (hI : jx_inj 13 ad A) (x1 : Int32) (x2 : Int32) (x3 : Int32) (v : jx_V) (r : Int32) (v' : jx_V) (hF : f_X5_bestPart x1 x2 x3 v = some (r, v')) : jx_Ci l D vwCl 13 cI cJ ad shM A ex_M yX5_bestPart (Cond.code yX5_bestPart cX5_bestPart 9 (some .int) :: bigT) rm_X5_bestPart [.ref (ad 0), .int x1, .int x2, .int x3] v r v' := by
  unfold f_X5_bestPart at hF
  refine jx_enteri bigT RX5 cX5_bestPart 9 (some .int) [(0, .ref (ad 0)), (1, .int x1), (2, .int x2), (3, .int x3)] hI (ex_M_ok A) (by decide +kernel) rfl (Nat.le_of_ble_eq_true rfl) rfl rfl ?_
  intro p e s m args below meth c E
  have iX5 : ∀ w ∈ u_ws RX5 TX5 21, w ∈ (Cond.code yX5_bestPart cX5_bestPart 9 (some .int) :: bigT) := fun w h => List.mem_cons_of_mem _ (uw_X5 w h)
  have key : ∀ n : Nat, (∀ (x1 : Int32) (x2 : Int32) (x3 : Int32) (x4 : Int32) (x5 : Int32) (x6 : Int32) (x7 : Int32) (v : jx_V), f_X5_bestPart_L  n  x1 x2 x3 x4 x5 x6 x7 v = some (r, v') → jx_J p l e rm_X5_bestPart s m args below meth c D vwCl 13 cI cJ ad shM A 0 0 9 (MQ below (va_Qi (fun (r1 : Int32) (_ : Unit) => r1 = r) (fun _ t => va_P D vwCl (jx_ws 13 cI cJ ad shM v') t.heap) A) args s 0 0 A) v 17 [(0, .ref (ad 0)), (1, .int x1), (2, .int x2), (3, .int x3), (4, .int x4), (5, .int x5), (6, .int x6), (7, .int x7)] []) := by
    intro n
    induction n with
    | zero =>
      exact (fun _ _ _ _ _ _ _ _ h => by cases h)
    | succ n ih =>
      intro x1 x2 x3 x4 x5 x6 x7 v hF
      rw [f_X5_bestPart_L] at hF
      refine jx_iload E dX5_bestPart_17 7 rfl ?_
      refine jx_iload_n E dX5_bestPart_19 3 rfl ?_
      refine jx_icmp_gt (tgt := 73) E dX5_bestPart_20 (by decide) (fun hc2 => ?_) (fun hc2 => ?_)
      · rw [if_pos hc2] at hF
        refine jx_aload_n E dX5_bestPart_73 0 rfl ?_
        refine jx_getr (C := RX5) (T := TX5) (M := 21) (k := 0) E dX5_bestPart_74 (Nat.le_of_ble_eq_true rfl) s_M0 rfl iX5 (by decide) rfl (List.mem_cons_of_mem _ tw_328) rfl ?_
        refine jx_iload_n E dX5_bestPart_77 1 rfl ?_
        refine jx_iload_n E dX5_bestPart_78 2 rfl ?_
        obtain ⟨⟨r3, v3⟩, hc3, hF⟩ := jx_bind hF
        try dsimp only at hF
        refine jx_callSi (As := [.int x1, .int x2]) (st := [.ref (ad 1)]) E dX5_bestPart_79 2 rfl (k_X5_at hI x1 x2 v r3 v3 hc3) (gb_S (List.mem_cons_of_mem _ tw_332) (List.mem_cons_of_mem _ tw_333) (List.mem_cons_of_mem _ tw_325) tw_331) rfl rfl rfl dd_X5_at rfl ⟨by decide, by decide⟩ ⟨Nat.le_refl 0, Nat.le_refl 0⟩ (Nat.le_of_ble_eq_true rfl) ?_
        refine jx_iload E dX5_bestPart_82 4 rfl ?_
        obtain ⟨hg4, hF⟩ := jx_guard hF
        refine jx_iast (h := 1) (j := (Int32.toNatClampNeg r3)) E dX5_bestPart_84 (Nat.le_of_ble_eq_true rfl) s_M1 hg4 rfl ?_
        refine jx_iload E dX5_bestPart_85 5 rfl ?_
        obtain ⟨rfl, rfl⟩ := jx_out hF
        exact jx_iret E dX5_bestPart_87 rfl
      · rw [if_neg hc2] at hF
        refine jx_aload_n E dX5_bestPart_23 0 rfl ?_
        refine jx_getr (C := RX5) (T := TX5) (M := 21) (k := 0) E dX5_bestPart_24 (Nat.le_of_ble_eq_true rfl) s_M0 rfl iX5 (by decide) rfl (List.mem_cons_of_mem _ tw_328) rfl ?_
        refine jx_iload_n E dX5_bestPart_27 1 rfl ?_
        refine jx_iload_n E dX5_bestPart_28 2 rfl ?_
        obtain ⟨⟨r5, v5⟩, hc5, hF⟩ := jx_bind hF
        try dsimp only at hF
        refine jx_callSi (As := [.int x1, .int x2]) (st := [.ref (ad 1)]) E dX5_bestPart_29 2 rfl (k_X5_at hI x1 x2 v r5 v5 hc5) (gb_S (List.mem_cons_of_mem _ tw_332) (List.mem_cons_of_mem _ tw_333) (List.mem_cons_of_mem _ tw_325) tw_331) rfl rfl rfl dd_X5_at rfl ⟨by decide, by decide⟩ ⟨Nat.le_refl 0, Nat.le_refl 0⟩ (Nat.le_of_ble_eq_true rfl) ?_
        refine jx_iload E dX5_bestPart_32 7 rfl ?_
        obtain ⟨hg6, hF⟩ := jx_guard hF
        refine jx_iast (h := 1) (j := (Int32.toNatClampNeg r5)) E dX5_bestPart_34 (Nat.le_of_ble_eq_true rfl) s_M1 hg6 rfl ?_
        refine jx_aload_n E dX5_bestPart_35 0 rfl ?_
        refine jx_aload_n E dX5_bestPart_36 0 rfl ?_
        refine jx_iload_n E dX5_bestPart_37 1 rfl ?_
        refine jx_iconst (x := 1) E dX5_bestPart_38 (by decide) ?_
        obtain ⟨⟨r7, v7⟩, hc7, hF⟩ := jx_bind hF
        try dsimp only at hF
        refine jx_callVi (As := [.int x1, .int 1]) (st := [.ref (ad 0)]) (h := 0) E dX5_bestPart_39 2 rfl (k_X5_its hI x1 1 (jx_up v5 1 (Int32.toNatClampNeg r5) x7) r7 v7 hc7) (gb_V (List.mem_cons_of_mem _ tw_335) (List.mem_cons_of_mem _ tw_336) (List.mem_cons_of_mem _ tw_337) (List.mem_cons_of_mem _ tw_325) tw_334) rfl rfl rfl dd_X5_its rfl (Nat.le_of_ble_eq_true rfl) s_M0 rfl ⟨by decide, by decide⟩ ⟨Nat.le_refl 0, Nat.le_refl 0⟩ (Nat.le_of_ble_eq_true rfl) ?_
        obtain ⟨⟨r8, v8⟩, hc8, hF⟩ := jx_bind hF
        try dsimp only at hF
        refine jx_callVi (As := [.int r7]) (st := []) (h := 0) E dX5_bestPart_42 1 rfl (k_X5_gainOf hI r7 v7 r8 v8 hc8) (gb_V (List.mem_cons_of_mem _ tw_436) (List.mem_cons_of_mem _ tw_437) (List.mem_cons_of_mem _ tw_438) (List.mem_cons_of_mem _ tw_325) tw_435) rfl rfl rfl dd_X5_gainOf rfl (Nat.le_of_ble_eq_true rfl) s_M0 rfl ⟨by decide, by decide⟩ ⟨Nat.le_refl 0, Nat.le_refl 0⟩ (Nat.le_of_ble_eq_true rfl) ?_
        refine jx_istore (lv' := [(8, .int r8), (0, .ref (ad 0)), (1, .int x1), (2, .int x2), (3, .int x3), (4, .int x4), (5, .int x5), (6, .int x6), (7, .int x7)]) E dX5_bestPart_45 (by decide) rfl ?_
        refine jx_iload E dX5_bestPart_47 6 rfl ?_
        refine jx_if_lt (tgt := 59) E dX5_bestPart_49 (by decide) (fun hc9 => ?_) (fun hc9 => ?_)
        · rw [if_pos hc9] at hF
          refine jx_iload E dX5_bestPart_59 8 rfl ?_
          refine jx_istore (lv' := [(5, .int x7), (8, .int r8), (0, .ref (ad 0)), (1, .int x1), (2, .int x2), (3, .int x3), (4, .int x4), (6, .int x6), (7, .int x7)]) E dX5_bestPart_61 (by decide) rfl ?_
          refine jx_iload E dX5_bestPart_63 1 rfl ?_
          refine jx_istore (lv' := [(6, .int r8), (5, .int x7), (8, .int r8), (0, .ref (ad 0)), (1, .int x1), (2, .int x2), (3, .int x3), (4, .int x4), (7, .int x7)]) E dX5_bestPart_65 (by decide) rfl ?_
          refine jx_iinc (y := (x7 + 1)) (lv' := [(7, .int (x7 + 1)), (6, .int r8), (5, .int x7), (8, .int r8), (0, .ref (ad 0)), (1, .int x1), (2, .int x2), (3, .int x3), (4, .int x4)]) E dX5_bestPart_67 8 rfl rfl (by decide) rfl ?_
          refine jx_goto (tgt := 17) E dX5_bestPart_70 (by decide) ?_
          refine jx_sub [4, 5, 6, 7, 8, 2, 1, 0] rfl ?_
          exact ih x1 x2 x3 x4 x7 r8 (x7 + 1) v8 hF
        · rw [if_neg hc9] at hF
          refine jx_iload E dX5_bestPart_52 0 rfl ?_
          refine jx_iload E dX5_bestPart_54 7 rfl ?_
          refine jx_icmp_le (tgt := 67) E dX5_bestPart_56 (by decide) (fun hc10 => ?_) (fun hc10 => ?_)
          · rw [if_pos hc10] at hF
            refine jx_iinc (y := (x7 + 1)) (lv' := [(7, .int (x7 + 1)), (8, .int r8), (0, .ref (ad 0)), (1, .int x1), (2, .int x2), (3, .int x3), (4, .int x4), (5, .int x5), (6, .int x6)]) E dX5_bestPart_67 8 rfl rfl (by decide) rfl ?_
            refine jx_goto (tgt := 17) E dX5_bestPart_70 (by decide) ?_
            refine jx_sub [2, 3, 4, 5, 6, 7, 8, 0] rfl ?_
            exact ih x1 x2 x3 x4 x5 x6 (x7 + 1) v8 hF
          · rw [if_neg hc10] at hF
            refine jx_iload E dX5_bestPart_59 8 rfl ?_
            refine jx_istore (lv' := [(5, .int x7), (8, .int r8), (0, .ref (ad 0)), (1, .int x1), (2, .int x2), (3, .int x3), (4, .int x4), (6, .int x6), (7, .int x7)]) E dX5_bestPart_61 (by decide) rfl ?_
            refine jx_iload E dX5_bestPart_63 1 rfl ?_
            refine jx_istore (lv' := [(6, .int r8), (5, .int x7), (8, .int r8), (0, .ref (ad 0)), (1, .int x1), (2, .int x2), (3, .int x3), (4, .int x4), (7, .int x7)]) E dX5_bestPart_65 (by decide) rfl ?_
            refine jx_iinc (y := (x7 + 1)) (lv' := [(7, .int (x7 + 1)), (6, .int r8), (5, .int x7), (8, .int r8), (0, .ref (ad 0)), (1, .int x1), (2, .int x2), (3, .int x3), (4, .int x4)]) E dX5_bestPart_67 8 rfl rfl (by decide) rfl ?_
            refine jx_goto (tgt := 17) E dX5_bestPart_70 (by decide) ?_
            refine jx_sub [4, 5, 6, 7, 8, 2, 1, 0] rfl ?_
            exact ih x1 x2 x3 x4 x7 r8 (x7 + 1) v8 hF
  refine jx_aload_n E dX5_bestPart_0 0 rfl ?_
  refine jx_iload_n E dX5_bestPart_1 1 rfl ?_
  refine jx_iload_n E dX5_bestPart_2 2 rfl ?_
  obtain ⟨⟨r1, v1⟩, hc1, hF⟩ := jx_bind hF
  try dsimp only at hF
  refine jx_callVi (As := [.int x1, .int x2]) (st := []) (h := 0) E dX5_bestPart_3 2 rfl (k_X5_its hI x1 x2 v r1 v1 hc1) (gb_V (List.mem_cons_of_mem _ tw_335) (List.mem_cons_of_mem _ tw_336) (List.mem_cons_of_mem _ tw_337) (List.mem_cons_of_mem _ tw_325) tw_334) rfl rfl rfl dd_X5_its rfl (Nat.le_of_ble_eq_true rfl) s_M0 rfl ⟨by decide, by decide⟩ ⟨Nat.le_refl 0, Nat.le_refl 0⟩ (Nat.le_of_ble_eq_true rfl) ?_
  refine jx_istore (lv' := [(4, .int r1), (0, .ref (ad 0)), (1, .int x1), (2, .int x2), (3, .int x3)]) E dX5_bestPart_6 (by decide) rfl ?_
  refine jx_iconst (x := -1) E dX5_bestPart_8 (by decide) ?_
  refine jx_istore (lv' := [(5, .int (-1)), (4, .int r1), (0, .ref (ad 0)), (1, .int x1), (2, .int x2), (3, .int x3)]) E dX5_bestPart_9 (by decide) rfl ?_
  refine jx_iconst (x := 0) E dX5_bestPart_11 (by decide) ?_
  refine jx_istore (lv' := [(6, .int 0), (5, .int (-1)), (4, .int r1), (0, .ref (ad 0)), (1, .int x1), (2, .int x2), (3, .int x3)]) E dX5_bestPart_12 (by decide) rfl ?_
  refine jx_iconst (x := 0) E dX5_bestPart_14 (by decide) ?_
  refine jx_istore (lv' := [(7, .int 0), (6, .int 0), (5, .int (-1)), (4, .int r1), (0, .ref (ad 0)), (1, .int x1), (2, .int x2), (3, .int x3)]) E dX5_bestPart_15 (by decide) rfl ?_
  refine jx_sub [4, 5, 6, 7, 3, 2, 1, 0] rfl ?_
  exact (key 100000) x1 x2 x3 r1 (-1) 0 0 v1 hF
def f_X5_paint (x1 : Int32) (v : jx_V) : Option (Int32 × jx_V) := ((f_X5_lotWrong x1 v).bind (fun (r1, v1) => (if r1 = 0 then ((f_X5_bestPart x1 3 3 v1).bind (fun (r3, v3) => (some (r3, v3)))) else ((f_X5_finds r1 v1).bind (fun (r4, v4) => (some (r4, v4)))))))
def rm_X5_paint : Room := { frames := 8, cells := 0, slots := 0, locals := 197 }
set_option maxHeartbeats 4000000 in
set_option maxRecDepth 100000 in
theorem k_X5_paint {l : Launch} {D : va_G} {cI cJ : ClassId} {ad : Nat → Nat} {A : Nat → Prop} (hI : jx_inj 13 ad A) (x1 : Int32) (v : jx_V) (r : Int32) (v' : jx_V) (hF : f_X5_paint x1 v = some (r, v')) : jx_Ci l D vwCl 13 cI cJ ad shM A ex_M yX5_paint (Cond.code yX5_paint cX5_paint 3 (some .int) :: bigT) rm_X5_paint [.ref (ad 0), .int x1] v r v' := by
  unfold f_X5_paint at hF
  refine jx_enteri bigT RX5 cX5_paint 3 (some .int) [(0, .ref (ad 0)), (1, .int x1)] hI (ex_M_ok A) (by decide +kernel) rfl (Nat.le_of_ble_eq_true rfl) rfl rfl ?_
  intro p e s m args below meth c E
  refine jx_aload_n E dX5_paint_0 0 rfl ?_
  refine jx_iload_n E dX5_paint_1 1 rfl ?_
  obtain ⟨⟨r1, v1⟩, hc1, hF⟩ := jx_bind hF
  try dsimp only at hF
  refine jx_callVi (As := [.int x1]) (st := []) (h := 0) E dX5_paint_2 1 rfl (k_X5_lotWrong hI x1 v r1 v1 hc1) (gb_V (List.mem_cons_of_mem _ tw_367) (List.mem_cons_of_mem _ tw_368) (List.mem_cons_of_mem _ tw_369) (List.mem_cons_of_mem _ tw_325) tw_366) rfl rfl rfl dd_X5_lotWrong rfl (Nat.le_of_ble_eq_true rfl) s_M0 rfl ⟨by decide, by decide⟩ ⟨Nat.le_refl 0, Nat.le_refl 0⟩ (Nat.le_of_ble_eq_true rfl) ?_
  refine jx_istore_n (lv' := [(2, .int r1), (0, .ref (ad 0)), (1, .int x1)]) E dX5_paint_5 (by decide) rfl ?_
  refine jx_iload_n E dX5_paint_6 0 rfl ?_
  refine jx_if_eq (tgt := 18) E dX5_paint_7 (by decide) (fun hc2 => ?_) (fun hc2 => ?_)
  · rw [if_pos hc2] at hF
    refine jx_aload_n E dX5_paint_18 1 rfl ?_
    refine jx_iload_n E dX5_paint_19 2 rfl ?_
    refine jx_iconst (x := 3) E dX5_paint_20 (by decide) ?_
    refine jx_iconst (x := 3) E dX5_paint_21 (by decide) ?_
    obtain ⟨⟨r3, v3⟩, hc3, hF⟩ := jx_bind hF
    try dsimp only at hF
    refine jx_callVi (As := [.int x1, .int 3, .int 3]) (st := []) (h := 0) E dX5_paint_22 3 rfl (k_X5_bestPart hI x1 3 3 v1 r3 v3 hc3) (gb_V (List.mem_cons_of_mem _ tw_478) (List.mem_cons_of_mem _ tw_479) (List.mem_cons_of_mem _ tw_480) (List.mem_cons_of_mem _ tw_325) tw_477) rfl rfl rfl dd_X5_bestPart rfl (Nat.le_of_ble_eq_true rfl) s_M0 rfl ⟨by decide, by decide⟩ ⟨Nat.le_refl 0, Nat.le_refl 0⟩ (Nat.le_of_ble_eq_true rfl) ?_
    obtain ⟨rfl, rfl⟩ := jx_out hF
    exact jx_iret E dX5_paint_25 rfl
  · rw [if_neg hc2] at hF
    refine jx_aload_n E dX5_paint_10 1 rfl ?_
    refine jx_iload_n E dX5_paint_11 0 rfl ?_
    obtain ⟨⟨r4, v4⟩, hc4, hF⟩ := jx_bind hF
    try dsimp only at hF
    refine jx_callVi (As := [.int r1]) (st := []) (h := 0) E dX5_paint_12 1 rfl (k_X5_finds hI r1 v1 r4 v4 hc4) (gb_V (List.mem_cons_of_mem _ tw_344) (List.mem_cons_of_mem _ tw_345) (List.mem_cons_of_mem _ tw_346) (List.mem_cons_of_mem _ tw_325) tw_343) rfl rfl rfl dd_X5_finds rfl (Nat.le_of_ble_eq_true rfl) s_M0 rfl ⟨by decide, by decide⟩ ⟨Nat.le_refl 0, Nat.le_refl 0⟩ (Nat.le_of_ble_eq_true rfl) ?_
    refine jx_goto (tgt := 25) E dX5_paint_15 (by decide) ?_
    obtain ⟨rfl, rfl⟩ := jx_out hF
    exact jx_iret E dX5_paint_25 rfl
def f_X5_height (x1 : Int32) (v : jx_V) : Option (Int32 × jx_V) := ((f_X5_lotWrong x1 v).bind (fun (r1, v1) => (if r1 = 0 then ((f_X5_bestPart x1 2 9 v1).bind (fun (r3, v3) => (some (r3, v3)))) else ((f_X5_finds r1 v1).bind (fun (r4, v4) => (some (r4, v4)))))))
def rm_X5_height : Room := { frames := 8, cells := 0, slots := 0, locals := 197 }
set_option maxHeartbeats 4000000 in
set_option maxRecDepth 100000 in
theorem k_X5_height {l : Launch} {D : va_G} {cI cJ : ClassId} {ad : Nat → Nat} {A : Nat → Prop} (hI : jx_inj 13 ad A) (x1 : Int32) (v : jx_V) (r : Int32) (v' : jx_V) (hF : f_X5_height x1 v = some (r, v')) : jx_Ci l D vwCl 13 cI cJ ad shM A ex_M yX5_height (Cond.code yX5_height cX5_height 3 (some .int) :: bigT) rm_X5_height [.ref (ad 0), .int x1] v r v' := by
  unfold f_X5_height at hF
  refine jx_enteri bigT RX5 cX5_height 3 (some .int) [(0, .ref (ad 0)), (1, .int x1)] hI (ex_M_ok A) (by decide +kernel) rfl (Nat.le_of_ble_eq_true rfl) rfl rfl ?_
  intro p e s m args below meth c E
  refine jx_aload_n E dX5_height_0 0 rfl ?_
  refine jx_iload_n E dX5_height_1 1 rfl ?_
  obtain ⟨⟨r1, v1⟩, hc1, hF⟩ := jx_bind hF
  try dsimp only at hF
  refine jx_callVi (As := [.int x1]) (st := []) (h := 0) E dX5_height_2 1 rfl (k_X5_lotWrong hI x1 v r1 v1 hc1) (gb_V (List.mem_cons_of_mem _ tw_367) (List.mem_cons_of_mem _ tw_368) (List.mem_cons_of_mem _ tw_369) (List.mem_cons_of_mem _ tw_325) tw_366) rfl rfl rfl dd_X5_lotWrong rfl (Nat.le_of_ble_eq_true rfl) s_M0 rfl ⟨by decide, by decide⟩ ⟨Nat.le_refl 0, Nat.le_refl 0⟩ (Nat.le_of_ble_eq_true rfl) ?_
  refine jx_istore_n (lv' := [(2, .int r1), (0, .ref (ad 0)), (1, .int x1)]) E dX5_height_5 (by decide) rfl ?_
  refine jx_iload_n E dX5_height_6 0 rfl ?_
  refine jx_if_eq (tgt := 18) E dX5_height_7 (by decide) (fun hc2 => ?_) (fun hc2 => ?_)
  · rw [if_pos hc2] at hF
    refine jx_aload_n E dX5_height_18 1 rfl ?_
    refine jx_iload_n E dX5_height_19 2 rfl ?_
    refine jx_iconst (x := 2) E dX5_height_20 (by decide) ?_
    refine jx_bipush (x := 9) E dX5_height_21 (by decide) ?_
    obtain ⟨⟨r3, v3⟩, hc3, hF⟩ := jx_bind hF
    try dsimp only at hF
    refine jx_callVi (As := [.int x1, .int 2, .int 9]) (st := []) (h := 0) E dX5_height_23 3 rfl (k_X5_bestPart hI x1 2 9 v1 r3 v3 hc3) (gb_V (List.mem_cons_of_mem _ tw_478) (List.mem_cons_of_mem _ tw_479) (List.mem_cons_of_mem _ tw_480) (List.mem_cons_of_mem _ tw_325) tw_477) rfl rfl rfl dd_X5_bestPart rfl (Nat.le_of_ble_eq_true rfl) s_M0 rfl ⟨by decide, by decide⟩ ⟨Nat.le_refl 0, Nat.le_refl 0⟩ (Nat.le_of_ble_eq_true rfl) ?_
    obtain ⟨rfl, rfl⟩ := jx_out hF
    exact jx_iret E dX5_height_26 rfl
  · rw [if_neg hc2] at hF
    refine jx_aload_n E dX5_height_10 1 rfl ?_
    refine jx_iload_n E dX5_height_11 0 rfl ?_
    obtain ⟨⟨r4, v4⟩, hc4, hF⟩ := jx_bind hF
    try dsimp only at hF
    refine jx_callVi (As := [.int r1]) (st := []) (h := 0) E dX5_height_12 1 rfl (k_X5_finds hI r1 v1 r4 v4 hc4) (gb_V (List.mem_cons_of_mem _ tw_344) (List.mem_cons_of_mem _ tw_345) (List.mem_cons_of_mem _ tw_346) (List.mem_cons_of_mem _ tw_325) tw_343) rfl rfl rfl dd_X5_finds rfl (Nat.le_of_ble_eq_true rfl) s_M0 rfl ⟨by decide, by decide⟩ ⟨Nat.le_refl 0, Nat.le_refl 0⟩ (Nat.le_of_ble_eq_true rfl) ?_
    refine jx_goto (tgt := 26) E dX5_height_15 (by decide) ?_
    obtain ⟨rfl, rfl⟩ := jx_out hF
    exact jx_iret E dX5_height_26 rfl
def f_X5_storey (x1 : Int32) (x2 : Int32) (v : jx_V) : Option (Int32 × jx_V) := ((f_X5_isOwner x2 v).bind (fun (r1, v1) => (if r1 = 0 then (if (-1000001 : Int32) = 0 then ((f_X5_its x1 2 v1).bind (fun (r18, v18) => (if r18 = 9 then ((f_X5_finds (-1000005) v18).bind (fun (r28, v28) => (some (r28, v28)))) else ((f_X5_gainOf x2 v18).bind (fun (r20, v20) => ((f_X5_at x1 2 v20).bind (fun (r21, v21) => (if (r21 < 0 ∨ 181 ≤ Int32.toNatClampNeg r21) then none else (if (r21 < 0 ∨ 181 ≤ Int32.toNatClampNeg r21) then none else ((f_X5_gainOf x2 (jx_up v21 1 (Int32.toNatClampNeg r21) ((v21 1 (Int32.toNatClampNeg r21)) + 1))).bind (fun (r24, v24) => ((f_X5_at x1 2 v24).bind (fun (r25, v25) => (if (r25 < 0 ∨ 181 ≤ Int32.toNatClampNeg r25) then none else (if (r25 < 0 ∨ 181 ≤ Int32.toNatClampNeg r25) then none else (some ((r24 - r20), (jx_up v25 1 (Int32.toNatClampNeg r25) ((v25 1 (Int32.toNatClampNeg r25)) - 1))))))))))))))))))) else ((f_X5_finds (-1000001) v1).bind (fun (r29, v29) => (some (r29, v29))))) else ((f_X5_lotWrong x1 v1).bind (fun (r3, v3) => (if r3 = 0 then ((f_X5_its x1 2 v3).bind (fun (r5, v5) => (if r5 = 9 then ((f_X5_finds (-1000005) v5).bind (fun (r15, v15) => (some (r15, v15)))) else ((f_X5_gainOf x2 v5).bind (fun (r7, v7) => ((f_X5_at x1 2 v7).bind (fun (r8, v8) => (if (r8 < 0 ∨ 181 ≤ Int32.toNatClampNeg r8) then none else (if (r8 < 0 ∨ 181 ≤ Int32.toNatClampNeg r8) then none else ((f_X5_gainOf x2 (jx_up v8 1 (Int32.toNatClampNeg r8) ((v8 1 (Int32.toNatClampNeg r8)) + 1))).bind (fun (r11, v11) => ((f_X5_at x1 2 v11).bind (fun (r12, v12) => (if (r12 < 0 ∨ 181 ≤ Int32.toNatClampNeg r12) then none else (if (r12 < 0 ∨ 181 ≤ Int32.toNatClampNeg r12) then none else (some ((r11 - r7), (jx_up v12 1 (Int32.toNatClampNeg r12) ((v12 1 (Int32.toNatClampNeg r12)) - 1))))))))))))))))))) else ((f_X5_finds r3 v3).bind (fun (r16, v16) => (some (r16, v16))))))))))
def rm_X5_storey : Room := { frames := 7, cells := 0, slots := 0, locals := 169 }
set_option maxHeartbeats 4000000 in
set_option maxRecDepth 100000 in
theorem k_X5_storey {l : Launch} {D : va_G} {cI cJ : ClassId} {ad : Nat → Nat} {A : Nat → Prop} (hI : jx_inj 13 ad A) (x1 : Int32) (x2 : Int32) (v : jx_V) (r : Int32) (v' : jx_V) (hF : f_X5_storey x1 x2 v = some (r, v')) : jx_Ci l D vwCl 13 cI cJ ad shM A ex_M yX5_storey (Cond.code yX5_storey cX5_storey 6 (some .int) :: bigT) rm_X5_storey [.ref (ad 0), .int x1, .int x2] v r v' := by
  unfold f_X5_storey at hF
  refine jx_enteri bigT RX5 cX5_storey 6 (some .int) [(0, .ref (ad 0)), (1, .int x1), (2, .int x2)] hI (ex_M_ok A) (by decide +kernel) rfl (Nat.le_of_ble_eq_true rfl) rfl rfl ?_
  intro p e s m args below meth c E
  have iX5 : ∀ w ∈ u_ws RX5 TX5 21, w ∈ (Cond.code yX5_storey cX5_storey 6 (some .int) :: bigT) := fun w h => List.mem_cons_of_mem _ (uw_X5 w h)
  refine jx_iload_n E dX5_storey_0 2 rfl ?_
  obtain ⟨⟨r1, v1⟩, hc1, hF⟩ := jx_bind hF
  try dsimp only at hF
  refine jx_callSi (As := [.int x2]) (st := []) E dX5_storey_1 1 rfl (k_X5_isOwner hI x2 v r1 v1 hc1) (gb_S (List.mem_cons_of_mem _ tw_351) (List.mem_cons_of_mem _ tw_352) (List.mem_cons_of_mem _ tw_325) tw_350) rfl rfl rfl dd_X5_isOwner rfl ⟨by decide, by decide⟩ ⟨Nat.le_refl 0, Nat.le_refl 0⟩ (Nat.le_of_ble_eq_true rfl) ?_
  refine jx_if_ne (tgt := 12) E dX5_storey_4 (by decide) (fun hc2 => ?_) (fun hc2 => ?_)
  · rw [if_neg hc2] at hF
    refine jx_aload_n E dX5_storey_12 0 rfl ?_
    refine jx_iload_n E dX5_storey_13 1 rfl ?_
    obtain ⟨⟨r3, v3⟩, hc3, hF⟩ := jx_bind hF
    try dsimp only at hF
    refine jx_callVi (As := [.int x1]) (st := []) (h := 0) E dX5_storey_14 1 rfl (k_X5_lotWrong hI x1 v1 r3 v3 hc3) (gb_V (List.mem_cons_of_mem _ tw_367) (List.mem_cons_of_mem _ tw_368) (List.mem_cons_of_mem _ tw_369) (List.mem_cons_of_mem _ tw_325) tw_366) rfl rfl rfl dd_X5_lotWrong rfl (Nat.le_of_ble_eq_true rfl) s_M0 rfl ⟨by decide, by decide⟩ ⟨Nat.le_refl 0, Nat.le_refl 0⟩ (Nat.le_of_ble_eq_true rfl) ?_
    refine jx_istore_n (lv' := [(3, .int r3), (0, .ref (ad 0)), (1, .int x1), (2, .int x2)]) E dX5_storey_17 (by decide) rfl ?_
    refine jx_iload_n E dX5_storey_18 0 rfl ?_
    refine jx_if_eq (tgt := 28) E dX5_storey_19 (by decide) (fun hc4 => ?_) (fun hc4 => ?_)
    · rw [if_pos hc4] at hF
      refine jx_aload_n E dX5_storey_28 1 rfl ?_
      refine jx_iload_n E dX5_storey_29 2 rfl ?_
      refine jx_iconst (x := 2) E dX5_storey_30 (by decide) ?_
      obtain ⟨⟨r5, v5⟩, hc5, hF⟩ := jx_bind hF
      try dsimp only at hF
      refine jx_callVi (As := [.int x1, .int 2]) (st := []) (h := 0) E dX5_storey_31 2 rfl (k_X5_its hI x1 2 v3 r5 v5 hc5) (gb_V (List.mem_cons_of_mem _ tw_335) (List.mem_cons_of_mem _ tw_336) (List.mem_cons_of_mem _ tw_337) (List.mem_cons_of_mem _ tw_325) tw_334) rfl rfl rfl dd_X5_its rfl (Nat.le_of_ble_eq_true rfl) s_M0 rfl ⟨by decide, by decide⟩ ⟨Nat.le_refl 0, Nat.le_refl 0⟩ (Nat.le_of_ble_eq_true rfl) ?_
      refine jx_bipush (x := 9) E dX5_storey_34 (by decide) ?_
      refine jx_icmp_ne (tgt := 46) E dX5_storey_36 (by decide) (fun hc6 => ?_) (fun hc6 => ?_)
      · rw [if_neg hc6] at hF
        refine jx_aload_n E dX5_storey_46 1 rfl ?_
        refine jx_iload_n E dX5_storey_47 3 rfl ?_
        obtain ⟨⟨r7, v7⟩, hc7, hF⟩ := jx_bind hF
        try dsimp only at hF
        refine jx_callVi (As := [.int x2]) (st := []) (h := 0) E dX5_storey_48 1 rfl (k_X5_gainOf hI x2 v5 r7 v7 hc7) (gb_V (List.mem_cons_of_mem _ tw_436) (List.mem_cons_of_mem _ tw_437) (List.mem_cons_of_mem _ tw_438) (List.mem_cons_of_mem _ tw_325) tw_435) rfl rfl rfl dd_X5_gainOf rfl (Nat.le_of_ble_eq_true rfl) s_M0 rfl ⟨by decide, by decide⟩ ⟨Nat.le_refl 0, Nat.le_refl 0⟩ (Nat.le_of_ble_eq_true rfl) ?_
        refine jx_istore (lv' := [(4, .int r7), (3, .int r3), (0, .ref (ad 0)), (1, .int x1), (2, .int x2)]) E dX5_storey_51 (by decide) rfl ?_
        refine jx_aload_n E dX5_storey_53 2 rfl ?_
        refine jx_getr (C := RX5) (T := TX5) (M := 21) (k := 0) E dX5_storey_54 (Nat.le_of_ble_eq_true rfl) s_M0 rfl iX5 (by decide) rfl (List.mem_cons_of_mem _ tw_328) rfl ?_
        refine jx_iload_n E dX5_storey_57 3 rfl ?_
        refine jx_iconst (x := 2) E dX5_storey_58 (by decide) ?_
        obtain ⟨⟨r8, v8⟩, hc8, hF⟩ := jx_bind hF
        try dsimp only at hF
        refine jx_callSi (As := [.int x1, .int 2]) (st := [.ref (ad 1)]) E dX5_storey_59 2 rfl (k_X5_at hI x1 2 v7 r8 v8 hc8) (gb_S (List.mem_cons_of_mem _ tw_332) (List.mem_cons_of_mem _ tw_333) (List.mem_cons_of_mem _ tw_325) tw_331) rfl rfl rfl dd_X5_at rfl ⟨by decide, by decide⟩ ⟨Nat.le_refl 0, Nat.le_refl 0⟩ (Nat.le_of_ble_eq_true rfl) ?_
        refine jx_dup2 E dX5_storey_62 rfl rfl ?_
        obtain ⟨hg9, hF⟩ := jx_guard hF
        refine jx_iald (h := 1) (j := (Int32.toNatClampNeg r8)) E dX5_storey_63 (Nat.le_of_ble_eq_true rfl) s_M1 hg9 rfl ?_
        refine jx_iconst (x := 1) E dX5_storey_64 (by decide) ?_
        refine jx_iadd E dX5_storey_65 ?_
        obtain ⟨hg10, hF⟩ := jx_guard hF
        refine jx_iast (h := 1) (j := (Int32.toNatClampNeg r8)) E dX5_storey_66 (Nat.le_of_ble_eq_true rfl) s_M1 hg10 rfl ?_
        refine jx_aload_n E dX5_storey_67 2 rfl ?_
        refine jx_iload_n E dX5_storey_68 4 rfl ?_
        obtain ⟨⟨r11, v11⟩, hc11, hF⟩ := jx_bind hF
        try dsimp only at hF
        refine jx_callVi (As := [.int x2]) (st := []) (h := 0) E dX5_storey_69 1 rfl (k_X5_gainOf hI x2 (jx_up v8 1 (Int32.toNatClampNeg r8) ((v8 1 (Int32.toNatClampNeg r8)) + 1)) r11 v11 hc11) (gb_V (List.mem_cons_of_mem _ tw_436) (List.mem_cons_of_mem _ tw_437) (List.mem_cons_of_mem _ tw_438) (List.mem_cons_of_mem _ tw_325) tw_435) rfl rfl rfl dd_X5_gainOf rfl (Nat.le_of_ble_eq_true rfl) s_M0 rfl ⟨by decide, by decide⟩ ⟨Nat.le_refl 0, Nat.le_refl 0⟩ (Nat.le_of_ble_eq_true rfl) ?_
        refine jx_istore (lv' := [(5, .int r11), (4, .int r7), (3, .int r3), (0, .ref (ad 0)), (1, .int x1), (2, .int x2)]) E dX5_storey_72 (by decide) rfl ?_
        refine jx_aload_n E dX5_storey_74 3 rfl ?_
        refine jx_getr (C := RX5) (T := TX5) (M := 21) (k := 0) E dX5_storey_75 (Nat.le_of_ble_eq_true rfl) s_M0 rfl iX5 (by decide) rfl (List.mem_cons_of_mem _ tw_328) rfl ?_
        refine jx_iload_n E dX5_storey_78 4 rfl ?_
        refine jx_iconst (x := 2) E dX5_storey_79 (by decide) ?_
        obtain ⟨⟨r12, v12⟩, hc12, hF⟩ := jx_bind hF
        try dsimp only at hF
        refine jx_callSi (As := [.int x1, .int 2]) (st := [.ref (ad 1)]) E dX5_storey_80 2 rfl (k_X5_at hI x1 2 v11 r12 v12 hc12) (gb_S (List.mem_cons_of_mem _ tw_332) (List.mem_cons_of_mem _ tw_333) (List.mem_cons_of_mem _ tw_325) tw_331) rfl rfl rfl dd_X5_at rfl ⟨by decide, by decide⟩ ⟨Nat.le_refl 0, Nat.le_refl 0⟩ (Nat.le_of_ble_eq_true rfl) ?_
        refine jx_dup2 E dX5_storey_83 rfl rfl ?_
        obtain ⟨hg13, hF⟩ := jx_guard hF
        refine jx_iald (h := 1) (j := (Int32.toNatClampNeg r12)) E dX5_storey_84 (Nat.le_of_ble_eq_true rfl) s_M1 hg13 rfl ?_
        refine jx_iconst (x := 1) E dX5_storey_85 (by decide) ?_
        refine jx_isub E dX5_storey_86 ?_
        obtain ⟨hg14, hF⟩ := jx_guard hF
        refine jx_iast (h := 1) (j := (Int32.toNatClampNeg r12)) E dX5_storey_87 (Nat.le_of_ble_eq_true rfl) s_M1 hg14 rfl ?_
        refine jx_iload E dX5_storey_88 0 rfl ?_
        refine jx_iload E dX5_storey_90 1 rfl ?_
        refine jx_isub E dX5_storey_92 ?_
        obtain ⟨rfl, rfl⟩ := jx_out hF
        exact jx_iret E dX5_storey_93 rfl
      · rw [if_pos hc6] at hF
        refine jx_aload_n E dX5_storey_39 1 rfl ?_
        refine jx_ldc (x := -1000005) E dX5_storey_40 (List.mem_cons_of_mem _ tw_364) ?_
        obtain ⟨⟨r15, v15⟩, hc15, hF⟩ := jx_bind hF
        try dsimp only at hF
        refine jx_callVi (As := [.int (-1000005)]) (st := []) (h := 0) E dX5_storey_42 1 rfl (k_X5_finds hI (-1000005) v5 r15 v15 hc15) (gb_V (List.mem_cons_of_mem _ tw_344) (List.mem_cons_of_mem _ tw_345) (List.mem_cons_of_mem _ tw_346) (List.mem_cons_of_mem _ tw_325) tw_343) rfl rfl rfl dd_X5_finds rfl (Nat.le_of_ble_eq_true rfl) s_M0 rfl ⟨by decide, by decide⟩ ⟨Nat.le_refl 0, Nat.le_refl 0⟩ (Nat.le_of_ble_eq_true rfl) ?_
        obtain ⟨rfl, rfl⟩ := jx_out hF
        exact jx_iret E dX5_storey_45 rfl
    · rw [if_neg hc4] at hF
      refine jx_aload_n E dX5_storey_22 1 rfl ?_
      refine jx_iload_n E dX5_storey_23 0 rfl ?_
      obtain ⟨⟨r16, v16⟩, hc16, hF⟩ := jx_bind hF
      try dsimp only at hF
      refine jx_callVi (As := [.int r3]) (st := []) (h := 0) E dX5_storey_24 1 rfl (k_X5_finds hI r3 v3 r16 v16 hc16) (gb_V (List.mem_cons_of_mem _ tw_344) (List.mem_cons_of_mem _ tw_345) (List.mem_cons_of_mem _ tw_346) (List.mem_cons_of_mem _ tw_325) tw_343) rfl rfl rfl dd_X5_finds rfl (Nat.le_of_ble_eq_true rfl) s_M0 rfl ⟨by decide, by decide⟩ ⟨Nat.le_refl 0, Nat.le_refl 0⟩ (Nat.le_of_ble_eq_true rfl) ?_
      obtain ⟨rfl, rfl⟩ := jx_out hF
      exact jx_iret E dX5_storey_27 rfl
  · rw [if_pos hc2] at hF
    refine jx_ldc (x := -1000001) E dX5_storey_7 (List.mem_cons_of_mem _ tw_320) ?_
    refine jx_goto (tgt := 17) E dX5_storey_9 (by decide) ?_
    refine jx_istore_n (lv' := [(3, .int (-1000001)), (0, .ref (ad 0)), (1, .int x1), (2, .int x2)]) E dX5_storey_17 (by decide) rfl ?_
    refine jx_iload_n E dX5_storey_18 0 rfl ?_
    refine jx_if_eq (tgt := 28) E dX5_storey_19 (by decide) (fun hc17 => ?_) (fun hc17 => ?_)
    · rw [if_pos hc17] at hF
      refine jx_aload_n E dX5_storey_28 1 rfl ?_
      refine jx_iload_n E dX5_storey_29 2 rfl ?_
      refine jx_iconst (x := 2) E dX5_storey_30 (by decide) ?_
      obtain ⟨⟨r18, v18⟩, hc18, hF⟩ := jx_bind hF
      try dsimp only at hF
      refine jx_callVi (As := [.int x1, .int 2]) (st := []) (h := 0) E dX5_storey_31 2 rfl (k_X5_its hI x1 2 v1 r18 v18 hc18) (gb_V (List.mem_cons_of_mem _ tw_335) (List.mem_cons_of_mem _ tw_336) (List.mem_cons_of_mem _ tw_337) (List.mem_cons_of_mem _ tw_325) tw_334) rfl rfl rfl dd_X5_its rfl (Nat.le_of_ble_eq_true rfl) s_M0 rfl ⟨by decide, by decide⟩ ⟨Nat.le_refl 0, Nat.le_refl 0⟩ (Nat.le_of_ble_eq_true rfl) ?_
      refine jx_bipush (x := 9) E dX5_storey_34 (by decide) ?_
      refine jx_icmp_ne (tgt := 46) E dX5_storey_36 (by decide) (fun hc19 => ?_) (fun hc19 => ?_)
      · rw [if_neg hc19] at hF
        refine jx_aload_n E dX5_storey_46 1 rfl ?_
        refine jx_iload_n E dX5_storey_47 3 rfl ?_
        obtain ⟨⟨r20, v20⟩, hc20, hF⟩ := jx_bind hF
        try dsimp only at hF
        refine jx_callVi (As := [.int x2]) (st := []) (h := 0) E dX5_storey_48 1 rfl (k_X5_gainOf hI x2 v18 r20 v20 hc20) (gb_V (List.mem_cons_of_mem _ tw_436) (List.mem_cons_of_mem _ tw_437) (List.mem_cons_of_mem _ tw_438) (List.mem_cons_of_mem _ tw_325) tw_435) rfl rfl rfl dd_X5_gainOf rfl (Nat.le_of_ble_eq_true rfl) s_M0 rfl ⟨by decide, by decide⟩ ⟨Nat.le_refl 0, Nat.le_refl 0⟩ (Nat.le_of_ble_eq_true rfl) ?_
        refine jx_istore (lv' := [(4, .int r20), (3, .int (-1000001)), (0, .ref (ad 0)), (1, .int x1), (2, .int x2)]) E dX5_storey_51 (by decide) rfl ?_
        refine jx_aload_n E dX5_storey_53 2 rfl ?_
        refine jx_getr (C := RX5) (T := TX5) (M := 21) (k := 0) E dX5_storey_54 (Nat.le_of_ble_eq_true rfl) s_M0 rfl iX5 (by decide) rfl (List.mem_cons_of_mem _ tw_328) rfl ?_
        refine jx_iload_n E dX5_storey_57 3 rfl ?_
        refine jx_iconst (x := 2) E dX5_storey_58 (by decide) ?_
        obtain ⟨⟨r21, v21⟩, hc21, hF⟩ := jx_bind hF
        try dsimp only at hF
        refine jx_callSi (As := [.int x1, .int 2]) (st := [.ref (ad 1)]) E dX5_storey_59 2 rfl (k_X5_at hI x1 2 v20 r21 v21 hc21) (gb_S (List.mem_cons_of_mem _ tw_332) (List.mem_cons_of_mem _ tw_333) (List.mem_cons_of_mem _ tw_325) tw_331) rfl rfl rfl dd_X5_at rfl ⟨by decide, by decide⟩ ⟨Nat.le_refl 0, Nat.le_refl 0⟩ (Nat.le_of_ble_eq_true rfl) ?_
        refine jx_dup2 E dX5_storey_62 rfl rfl ?_
        obtain ⟨hg22, hF⟩ := jx_guard hF
        refine jx_iald (h := 1) (j := (Int32.toNatClampNeg r21)) E dX5_storey_63 (Nat.le_of_ble_eq_true rfl) s_M1 hg22 rfl ?_
        refine jx_iconst (x := 1) E dX5_storey_64 (by decide) ?_
        refine jx_iadd E dX5_storey_65 ?_
        obtain ⟨hg23, hF⟩ := jx_guard hF
        refine jx_iast (h := 1) (j := (Int32.toNatClampNeg r21)) E dX5_storey_66 (Nat.le_of_ble_eq_true rfl) s_M1 hg23 rfl ?_
        refine jx_aload_n E dX5_storey_67 2 rfl ?_
        refine jx_iload_n E dX5_storey_68 4 rfl ?_
        obtain ⟨⟨r24, v24⟩, hc24, hF⟩ := jx_bind hF
        try dsimp only at hF
        refine jx_callVi (As := [.int x2]) (st := []) (h := 0) E dX5_storey_69 1 rfl (k_X5_gainOf hI x2 (jx_up v21 1 (Int32.toNatClampNeg r21) ((v21 1 (Int32.toNatClampNeg r21)) + 1)) r24 v24 hc24) (gb_V (List.mem_cons_of_mem _ tw_436) (List.mem_cons_of_mem _ tw_437) (List.mem_cons_of_mem _ tw_438) (List.mem_cons_of_mem _ tw_325) tw_435) rfl rfl rfl dd_X5_gainOf rfl (Nat.le_of_ble_eq_true rfl) s_M0 rfl ⟨by decide, by decide⟩ ⟨Nat.le_refl 0, Nat.le_refl 0⟩ (Nat.le_of_ble_eq_true rfl) ?_
        refine jx_istore (lv' := [(5, .int r24), (4, .int r20), (3, .int (-1000001)), (0, .ref (ad 0)), (1, .int x1), (2, .int x2)]) E dX5_storey_72 (by decide) rfl ?_
        refine jx_aload_n E dX5_storey_74 3 rfl ?_
        refine jx_getr (C := RX5) (T := TX5) (M := 21) (k := 0) E dX5_storey_75 (Nat.le_of_ble_eq_true rfl) s_M0 rfl iX5 (by decide) rfl (List.mem_cons_of_mem _ tw_328) rfl ?_
        refine jx_iload_n E dX5_storey_78 4 rfl ?_
        refine jx_iconst (x := 2) E dX5_storey_79 (by decide) ?_
        obtain ⟨⟨r25, v25⟩, hc25, hF⟩ := jx_bind hF
        try dsimp only at hF
        refine jx_callSi (As := [.int x1, .int 2]) (st := [.ref (ad 1)]) E dX5_storey_80 2 rfl (k_X5_at hI x1 2 v24 r25 v25 hc25) (gb_S (List.mem_cons_of_mem _ tw_332) (List.mem_cons_of_mem _ tw_333) (List.mem_cons_of_mem _ tw_325) tw_331) rfl rfl rfl dd_X5_at rfl ⟨by decide, by decide⟩ ⟨Nat.le_refl 0, Nat.le_refl 0⟩ (Nat.le_of_ble_eq_true rfl) ?_
        refine jx_dup2 E dX5_storey_83 rfl rfl ?_
        obtain ⟨hg26, hF⟩ := jx_guard hF
        refine jx_iald (h := 1) (j := (Int32.toNatClampNeg r25)) E dX5_storey_84 (Nat.le_of_ble_eq_true rfl) s_M1 hg26 rfl ?_
        refine jx_iconst (x := 1) E dX5_storey_85 (by decide) ?_
        refine jx_isub E dX5_storey_86 ?_
        obtain ⟨hg27, hF⟩ := jx_guard hF
        refine jx_iast (h := 1) (j := (Int32.toNatClampNeg r25)) E dX5_storey_87 (Nat.le_of_ble_eq_true rfl) s_M1 hg27 rfl ?_
        refine jx_iload E dX5_storey_88 0 rfl ?_
        refine jx_iload E dX5_storey_90 1 rfl ?_
        refine jx_isub E dX5_storey_92 ?_
        obtain ⟨rfl, rfl⟩ := jx_out hF
        exact jx_iret E dX5_storey_93 rfl
      · rw [if_pos hc19] at hF
        refine jx_aload_n E dX5_storey_39 1 rfl ?_
        refine jx_ldc (x := -1000005) E dX5_storey_40 (List.mem_cons_of_mem _ tw_364) ?_
        obtain ⟨⟨r28, v28⟩, hc28, hF⟩ := jx_bind hF
        try dsimp only at hF
        refine jx_callVi (As := [.int (-1000005)]) (st := []) (h := 0) E dX5_storey_42 1 rfl (k_X5_finds hI (-1000005) v18 r28 v28 hc28) (gb_V (List.mem_cons_of_mem _ tw_344) (List.mem_cons_of_mem _ tw_345) (List.mem_cons_of_mem _ tw_346) (List.mem_cons_of_mem _ tw_325) tw_343) rfl rfl rfl dd_X5_finds rfl (Nat.le_of_ble_eq_true rfl) s_M0 rfl ⟨by decide, by decide⟩ ⟨Nat.le_refl 0, Nat.le_refl 0⟩ (Nat.le_of_ble_eq_true rfl) ?_
        obtain ⟨rfl, rfl⟩ := jx_out hF
        exact jx_iret E dX5_storey_45 rfl
    · rw [if_neg hc17] at hF
      refine jx_aload_n E dX5_storey_22 1 rfl ?_
      refine jx_iload_n E dX5_storey_23 0 rfl ?_
      obtain ⟨⟨r29, v29⟩, hc29, hF⟩ := jx_bind hF
      try dsimp only at hF
      refine jx_callVi (As := [.int (-1000001)]) (st := []) (h := 0) E dX5_storey_24 1 rfl (k_X5_finds hI (-1000001) v1 r29 v29 hc29) (gb_V (List.mem_cons_of_mem _ tw_344) (List.mem_cons_of_mem _ tw_345) (List.mem_cons_of_mem _ tw_346) (List.mem_cons_of_mem _ tw_325) tw_343) rfl rfl rfl dd_X5_finds rfl (Nat.le_of_ble_eq_true rfl) s_M0 rfl ⟨by decide, by decide⟩ ⟨Nat.le_refl 0, Nat.le_refl 0⟩ (Nat.le_of_ble_eq_true rfl) ?_
      obtain ⟨rfl, rfl⟩ := jx_out hF
      exact jx_iret E dX5_storey_27 rfl
def f_X5_allowed_L  : Nat → Int32 → Int32 → Int32 → Int32 → Int32 → Int32 → jx_V → Option (Int32 × jx_V)
  | 0, _, _, _, _, _, _, _ => none
  | n + 1, x1, x2, x3, x4, x5, x6, v => (if 10 ≤ x6 then ((f_X5_at x1 2 v).bind (fun (r10, v10) => (if (r10 < 0 ∨ 181 ≤ Int32.toNatClampNeg r10) then none else (some (x5, (jx_up v10 1 (Int32.toNatClampNeg r10) x3)))))) else ((f_X5_at x1 2 v).bind (fun (r12, v12) => (if (r12 < 0 ∨ 181 ≤ Int32.toNatClampNeg r12) then none else ((f_X5_brokenSet (jx_up v12 1 (Int32.toNatClampNeg r12) x6)).bind (fun (r14, v14) => ((f_X5_ones r14 v14).bind (fun (r15, v15) => (if x4 < r15 then (f_X5_allowed_L n x1 x2 x3 x4 x5 (x6 + 1) v15) else (f_X5_allowed_L n x1 x2 x3 x4 x6 (x6 + 1) v15))))))))))
def f_X5_allowed (x1 : Int32) (v : jx_V) : Option (Int32 × jx_V) := ((f_X5_lotWrong x1 v).bind (fun (r1, v1) => (if r1 = 0 then ((f_X5_its x1 2 v1).bind (fun (r3, v3) => ((f_X5_at x1 2 v3).bind (fun (r4, v4) => (if (r4 < 0 ∨ 181 ≤ Int32.toNatClampNeg r4) then none else ((f_X5_brokenSet (jx_up v4 1 (Int32.toNatClampNeg r4) 0)).bind (fun (r6, v6) => ((f_X5_ones r6 v6).bind (fun (r7, v7) => (f_X5_allowed_L 100000 x1 r1 r3 r7 0 1 v7)))))))))) else ((f_X5_finds r1 v1).bind (fun (r8, v8) => (some (r8, v8)))))))
def rm_X5_allowed : Room := { frames := 7, cells := 0, slots := 0, locals := 169 }
set_option maxHeartbeats 4000000 in
set_option maxRecDepth 100000 in
theorem k_X5_allowed {l : Launch} {D : va_G} {cI cJ : ClassId} {ad : Nat → Nat} {A : Nat → Prop} (hI : jx_inj 13 ad A) (x1 : Int32) (v : jx_V) (r : Int32) (v' : jx_V) (hF : f_X5_allowed x1 v = some (r, v')) : jx_Ci l D vwCl 13 cI cJ ad shM A ex_M yX5_allowed (Cond.code yX5_allowed cX5_allowed 7 (some .int) :: bigT) rm_X5_allowed [.ref (ad 0), .int x1] v r v' := by
  unfold f_X5_allowed at hF
  refine jx_enteri bigT RX5 cX5_allowed 7 (some .int) [(0, .ref (ad 0)), (1, .int x1)] hI (ex_M_ok A) (by decide +kernel) rfl (Nat.le_of_ble_eq_true rfl) rfl rfl ?_
  intro p e s m args below meth c E
  have iX5 : ∀ w ∈ u_ws RX5 TX5 21, w ∈ (Cond.code yX5_allowed cX5_allowed 7 (some .int) :: bigT) := fun w h => List.mem_cons_of_mem _ (uw_X5 w h)
  have key : ∀ n : Nat, (∀ (x1 : Int32) (x2 : Int32) (x3 : Int32) (x4 : Int32) (x5 : Int32) (x6 : Int32) (v : jx_V), f_X5_allowed_L  n  x1 x2 x3 x4 x5 x6 v = some (r, v') → jx_J p l e rm_X5_allowed s m args below meth c D vwCl 13 cI cJ ad shM A 0 0 7 (MQ below (va_Qi (fun (r1 : Int32) (_ : Unit) => r1 = r) (fun _ t => va_P D vwCl (jx_ws 13 cI cJ ad shM v') t.heap) A) args s 0 0 A) v 49 [(0, .ref (ad 0)), (1, .int x1), (2, .int x2), (3, .int x3), (4, .int x4), (5, .int x5), (6, .int x6)] []) := by
    intro n
    induction n with
    | zero =>
      exact (fun _ _ _ _ _ _ _ h => by cases h)
    | succ n ih =>
      intro x1 x2 x3 x4 x5 x6 v hF
      rw [f_X5_allowed_L] at hF
      refine jx_iload E dX5_allowed_49 6 rfl ?_
      refine jx_bipush (x := 10) E dX5_allowed_51 (by decide) ?_
      refine jx_icmp_ge (tgt := 95) E dX5_allowed_53 (by decide) (fun hc9 => ?_) (fun hc9 => ?_)
      · rw [if_pos hc9] at hF
        refine jx_aload_n E dX5_allowed_95 0 rfl ?_
        refine jx_getr (C := RX5) (T := TX5) (M := 21) (k := 0) E dX5_allowed_96 (Nat.le_of_ble_eq_true rfl) s_M0 rfl iX5 (by decide) rfl (List.mem_cons_of_mem _ tw_328) rfl ?_
        refine jx_iload_n E dX5_allowed_99 1 rfl ?_
        refine jx_iconst (x := 2) E dX5_allowed_100 (by decide) ?_
        obtain ⟨⟨r10, v10⟩, hc10, hF⟩ := jx_bind hF
        try dsimp only at hF
        refine jx_callSi (As := [.int x1, .int 2]) (st := [.ref (ad 1)]) E dX5_allowed_101 2 rfl (k_X5_at hI x1 2 v r10 v10 hc10) (gb_S (List.mem_cons_of_mem _ tw_332) (List.mem_cons_of_mem _ tw_333) (List.mem_cons_of_mem _ tw_325) tw_331) rfl rfl rfl dd_X5_at rfl ⟨by decide, by decide⟩ ⟨Nat.le_refl 0, Nat.le_refl 0⟩ (Nat.le_of_ble_eq_true rfl) ?_
        refine jx_iload_n E dX5_allowed_104 3 rfl ?_
        obtain ⟨hg11, hF⟩ := jx_guard hF
        refine jx_iast (h := 1) (j := (Int32.toNatClampNeg r10)) E dX5_allowed_105 (Nat.le_of_ble_eq_true rfl) s_M1 hg11 rfl ?_
        refine jx_iload E dX5_allowed_106 5 rfl ?_
        obtain ⟨rfl, rfl⟩ := jx_out hF
        exact jx_iret E dX5_allowed_108 rfl
      · rw [if_neg hc9] at hF
        refine jx_aload_n E dX5_allowed_56 0 rfl ?_
        refine jx_getr (C := RX5) (T := TX5) (M := 21) (k := 0) E dX5_allowed_57 (Nat.le_of_ble_eq_true rfl) s_M0 rfl iX5 (by decide) rfl (List.mem_cons_of_mem _ tw_328) rfl ?_
        refine jx_iload_n E dX5_allowed_60 1 rfl ?_
        refine jx_iconst (x := 2) E dX5_allowed_61 (by decide) ?_
        obtain ⟨⟨r12, v12⟩, hc12, hF⟩ := jx_bind hF
        try dsimp only at hF
        refine jx_callSi (As := [.int x1, .int 2]) (st := [.ref (ad 1)]) E dX5_allowed_62 2 rfl (k_X5_at hI x1 2 v r12 v12 hc12) (gb_S (List.mem_cons_of_mem _ tw_332) (List.mem_cons_of_mem _ tw_333) (List.mem_cons_of_mem _ tw_325) tw_331) rfl rfl rfl dd_X5_at rfl ⟨by decide, by decide⟩ ⟨Nat.le_refl 0, Nat.le_refl 0⟩ (Nat.le_of_ble_eq_true rfl) ?_
        refine jx_iload E dX5_allowed_65 6 rfl ?_
        obtain ⟨hg13, hF⟩ := jx_guard hF
        refine jx_iast (h := 1) (j := (Int32.toNatClampNeg r12)) E dX5_allowed_67 (Nat.le_of_ble_eq_true rfl) s_M1 hg13 rfl ?_
        refine jx_aload_n E dX5_allowed_68 0 rfl ?_
        obtain ⟨⟨r14, v14⟩, hc14, hF⟩ := jx_bind hF
        try dsimp only at hF
        refine jx_callVi (As := []) (st := []) (h := 0) E dX5_allowed_69 0 rfl (k_X5_brokenSet hI  (jx_up v12 1 (Int32.toNatClampNeg r12) x6) r14 v14 hc14) (gb_V (List.mem_cons_of_mem _ tw_440) (List.mem_cons_of_mem _ tw_441) (List.mem_cons_of_mem _ tw_442) (List.mem_cons_of_mem _ tw_325) tw_439) rfl rfl rfl dd_X5_brokenSet rfl (Nat.le_of_ble_eq_true rfl) s_M0 rfl ⟨by decide, by decide⟩ ⟨Nat.le_refl 0, Nat.le_refl 0⟩ (Nat.le_of_ble_eq_true rfl) ?_
        obtain ⟨⟨r15, v15⟩, hc15, hF⟩ := jx_bind hF
        try dsimp only at hF
        refine jx_callSi (As := [.int r14]) (st := []) E dX5_allowed_72 1 rfl (k_X5_ones hI r14 v14 r15 v15 hc15) (gb_S (List.mem_cons_of_mem _ tw_418) (List.mem_cons_of_mem _ tw_419) (List.mem_cons_of_mem _ tw_325) tw_417) rfl rfl rfl dd_X5_ones rfl ⟨by decide, by decide⟩ ⟨Nat.le_refl 0, Nat.le_refl 0⟩ (Nat.le_of_ble_eq_true rfl) ?_
        refine jx_iload E dX5_allowed_75 4 rfl ?_
        refine jx_icmp_gt (tgt := 85) E dX5_allowed_77 (by decide) (fun hc16 => ?_) (fun hc16 => ?_)
        · rw [if_pos hc16] at hF
          refine jx_iload E dX5_allowed_85 5 rfl ?_
          refine jx_istore (lv' := [(5, .int x5), (0, .ref (ad 0)), (1, .int x1), (2, .int x2), (3, .int x3), (4, .int x4), (6, .int x6)]) E dX5_allowed_87 (by decide) rfl ?_
          refine jx_iinc (y := (x6 + 1)) (lv' := [(6, .int (x6 + 1)), (5, .int x5), (0, .ref (ad 0)), (1, .int x1), (2, .int x2), (3, .int x3), (4, .int x4)]) E dX5_allowed_89 6 rfl rfl (by decide) rfl ?_
          refine jx_goto (tgt := 49) E dX5_allowed_92 (by decide) ?_
          refine jx_sub [2, 3, 4, 5, 6, 1, 0] rfl ?_
          exact ih x1 x2 x3 x4 x5 (x6 + 1) v15 hF
        · rw [if_neg hc16] at hF
          refine jx_iload E dX5_allowed_80 6 rfl ?_
          refine jx_goto (tgt := 87) E dX5_allowed_82 (by decide) ?_
          refine jx_istore (lv' := [(5, .int x6), (0, .ref (ad 0)), (1, .int x1), (2, .int x2), (3, .int x3), (4, .int x4), (6, .int x6)]) E dX5_allowed_87 (by decide) rfl ?_
          refine jx_iinc (y := (x6 + 1)) (lv' := [(6, .int (x6 + 1)), (5, .int x6), (0, .ref (ad 0)), (1, .int x1), (2, .int x2), (3, .int x3), (4, .int x4)]) E dX5_allowed_89 6 rfl rfl (by decide) rfl ?_
          refine jx_goto (tgt := 49) E dX5_allowed_92 (by decide) ?_
          refine jx_sub [2, 3, 4, 5, 6, 1, 0] rfl ?_
          exact ih x1 x2 x3 x4 x6 (x6 + 1) v15 hF
  refine jx_aload_n E dX5_allowed_0 0 rfl ?_
  refine jx_iload_n E dX5_allowed_1 1 rfl ?_
  obtain ⟨⟨r1, v1⟩, hc1, hF⟩ := jx_bind hF
  try dsimp only at hF
  refine jx_callVi (As := [.int x1]) (st := []) (h := 0) E dX5_allowed_2 1 rfl (k_X5_lotWrong hI x1 v r1 v1 hc1) (gb_V (List.mem_cons_of_mem _ tw_367) (List.mem_cons_of_mem _ tw_368) (List.mem_cons_of_mem _ tw_369) (List.mem_cons_of_mem _ tw_325) tw_366) rfl rfl rfl dd_X5_lotWrong rfl (Nat.le_of_ble_eq_true rfl) s_M0 rfl ⟨by decide, by decide⟩ ⟨Nat.le_refl 0, Nat.le_refl 0⟩ (Nat.le_of_ble_eq_true rfl) ?_
  refine jx_istore_n (lv' := [(2, .int r1), (0, .ref (ad 0)), (1, .int x1)]) E dX5_allowed_5 (by decide) rfl ?_
  refine jx_iload_n E dX5_allowed_6 0 rfl ?_
  refine jx_if_eq (tgt := 16) E dX5_allowed_7 (by decide) (fun hc2 => ?_) (fun hc2 => ?_)
  · rw [if_pos hc2] at hF
    refine jx_aload_n E dX5_allowed_16 1 rfl ?_
    refine jx_iload_n E dX5_allowed_17 2 rfl ?_
    refine jx_iconst (x := 2) E dX5_allowed_18 (by decide) ?_
    obtain ⟨⟨r3, v3⟩, hc3, hF⟩ := jx_bind hF
    try dsimp only at hF
    refine jx_callVi (As := [.int x1, .int 2]) (st := []) (h := 0) E dX5_allowed_19 2 rfl (k_X5_its hI x1 2 v1 r3 v3 hc3) (gb_V (List.mem_cons_of_mem _ tw_335) (List.mem_cons_of_mem _ tw_336) (List.mem_cons_of_mem _ tw_337) (List.mem_cons_of_mem _ tw_325) tw_334) rfl rfl rfl dd_X5_its rfl (Nat.le_of_ble_eq_true rfl) s_M0 rfl ⟨by decide, by decide⟩ ⟨Nat.le_refl 0, Nat.le_refl 0⟩ (Nat.le_of_ble_eq_true rfl) ?_
    refine jx_istore_n (lv' := [(3, .int r3), (2, .int r1), (0, .ref (ad 0)), (1, .int x1)]) E dX5_allowed_22 (by decide) rfl ?_
    refine jx_aload_n E dX5_allowed_23 2 rfl ?_
    refine jx_getr (C := RX5) (T := TX5) (M := 21) (k := 0) E dX5_allowed_24 (Nat.le_of_ble_eq_true rfl) s_M0 rfl iX5 (by decide) rfl (List.mem_cons_of_mem _ tw_328) rfl ?_
    refine jx_iload_n E dX5_allowed_27 3 rfl ?_
    refine jx_iconst (x := 2) E dX5_allowed_28 (by decide) ?_
    obtain ⟨⟨r4, v4⟩, hc4, hF⟩ := jx_bind hF
    try dsimp only at hF
    refine jx_callSi (As := [.int x1, .int 2]) (st := [.ref (ad 1)]) E dX5_allowed_29 2 rfl (k_X5_at hI x1 2 v3 r4 v4 hc4) (gb_S (List.mem_cons_of_mem _ tw_332) (List.mem_cons_of_mem _ tw_333) (List.mem_cons_of_mem _ tw_325) tw_331) rfl rfl rfl dd_X5_at rfl ⟨by decide, by decide⟩ ⟨Nat.le_refl 0, Nat.le_refl 0⟩ (Nat.le_of_ble_eq_true rfl) ?_
    refine jx_iconst (x := 0) E dX5_allowed_32 (by decide) ?_
    obtain ⟨hg5, hF⟩ := jx_guard hF
    refine jx_iast (h := 1) (j := (Int32.toNatClampNeg r4)) E dX5_allowed_33 (Nat.le_of_ble_eq_true rfl) s_M1 hg5 rfl ?_
    refine jx_aload_n E dX5_allowed_34 2 rfl ?_
    obtain ⟨⟨r6, v6⟩, hc6, hF⟩ := jx_bind hF
    try dsimp only at hF
    refine jx_callVi (As := []) (st := []) (h := 0) E dX5_allowed_35 0 rfl (k_X5_brokenSet hI  (jx_up v4 1 (Int32.toNatClampNeg r4) 0) r6 v6 hc6) (gb_V (List.mem_cons_of_mem _ tw_440) (List.mem_cons_of_mem _ tw_441) (List.mem_cons_of_mem _ tw_442) (List.mem_cons_of_mem _ tw_325) tw_439) rfl rfl rfl dd_X5_brokenSet rfl (Nat.le_of_ble_eq_true rfl) s_M0 rfl ⟨by decide, by decide⟩ ⟨Nat.le_refl 0, Nat.le_refl 0⟩ (Nat.le_of_ble_eq_true rfl) ?_
    obtain ⟨⟨r7, v7⟩, hc7, hF⟩ := jx_bind hF
    try dsimp only at hF
    refine jx_callSi (As := [.int r6]) (st := []) E dX5_allowed_38 1 rfl (k_X5_ones hI r6 v6 r7 v7 hc7) (gb_S (List.mem_cons_of_mem _ tw_418) (List.mem_cons_of_mem _ tw_419) (List.mem_cons_of_mem _ tw_325) tw_417) rfl rfl rfl dd_X5_ones rfl ⟨by decide, by decide⟩ ⟨Nat.le_refl 0, Nat.le_refl 0⟩ (Nat.le_of_ble_eq_true rfl) ?_
    refine jx_istore (lv' := [(4, .int r7), (3, .int r3), (2, .int r1), (0, .ref (ad 0)), (1, .int x1)]) E dX5_allowed_41 (by decide) rfl ?_
    refine jx_iconst (x := 0) E dX5_allowed_43 (by decide) ?_
    refine jx_istore (lv' := [(5, .int 0), (4, .int r7), (3, .int r3), (2, .int r1), (0, .ref (ad 0)), (1, .int x1)]) E dX5_allowed_44 (by decide) rfl ?_
    refine jx_iconst (x := 1) E dX5_allowed_46 (by decide) ?_
    refine jx_istore (lv' := [(6, .int 1), (5, .int 0), (4, .int r7), (3, .int r3), (2, .int r1), (0, .ref (ad 0)), (1, .int x1)]) E dX5_allowed_47 (by decide) rfl ?_
    refine jx_sub [5, 6, 4, 3, 2, 1, 0] rfl ?_
    exact (key 100000) x1 r1 r3 r7 0 1 v7 hF
  · rw [if_neg hc2] at hF
    refine jx_aload_n E dX5_allowed_10 1 rfl ?_
    refine jx_iload_n E dX5_allowed_11 0 rfl ?_
    obtain ⟨⟨r8, v8⟩, hc8, hF⟩ := jx_bind hF
    try dsimp only at hF
    refine jx_callVi (As := [.int r1]) (st := []) (h := 0) E dX5_allowed_12 1 rfl (k_X5_finds hI r1 v1 r8 v8 hc8) (gb_V (List.mem_cons_of_mem _ tw_344) (List.mem_cons_of_mem _ tw_345) (List.mem_cons_of_mem _ tw_346) (List.mem_cons_of_mem _ tw_325) tw_343) rfl rfl rfl dd_X5_finds rfl (Nat.le_of_ble_eq_true rfl) s_M0 rfl ⟨by decide, by decide⟩ ⟨Nat.le_refl 0, Nat.le_refl 0⟩ (Nat.le_of_ble_eq_true rfl) ?_
    obtain ⟨rfl, rfl⟩ := jx_out hF
    exact jx_iret E dX5_allowed_15 rfl
def f_X5_viewOf (x1 : Int32) (v : jx_V) : Option (Int32 × jx_V) := ((f_X5_looks x1 v).bind (fun v1 => (some ((v1 0 6), v1))))
def rm_X5_viewOf : Room := { frames := 5, cells := 0, slots := 0, locals := 125 }
set_option maxHeartbeats 4000000 in
set_option maxRecDepth 100000 in
theorem k_X5_viewOf {l : Launch} {D : va_G} {cI cJ : ClassId} {ad : Nat → Nat} {A : Nat → Prop} (hI : jx_inj 13 ad A) (x1 : Int32) (v : jx_V) (r : Int32) (v' : jx_V) (hF : f_X5_viewOf x1 v = some (r, v')) : jx_Ci l D vwCl 13 cI cJ ad shM A ex_M yX5_viewOf (Cond.code yX5_viewOf cX5_viewOf 2 (some .int) :: bigT) rm_X5_viewOf [.ref (ad 0), .int x1] v r v' := by
  unfold f_X5_viewOf at hF
  refine jx_enteri bigT RX5 cX5_viewOf 2 (some .int) [(0, .ref (ad 0)), (1, .int x1)] hI (ex_M_ok A) (by decide +kernel) rfl (Nat.le_of_ble_eq_true rfl) rfl rfl ?_
  intro p e s m args below meth c E
  have iX5 : ∀ w ∈ u_ws RX5 TX5 21, w ∈ (Cond.code yX5_viewOf cX5_viewOf 2 (some .int) :: bigT) := fun w h => List.mem_cons_of_mem _ (uw_X5 w h)
  refine jx_aload_n E dX5_viewOf_0 0 rfl ?_
  refine jx_iload_n E dX5_viewOf_1 1 rfl ?_
  obtain ⟨v1, hc1, hF⟩ := jx_bind hF
  try dsimp only at hF
  refine jx_callVv (As := [.int x1]) (st := []) (h := 0) E dX5_viewOf_2 1 rfl (k_X5_looks hI x1 v v1 hc1) (gb_V (List.mem_cons_of_mem _ tw_422) (List.mem_cons_of_mem _ tw_423) (List.mem_cons_of_mem _ tw_424) (List.mem_cons_of_mem _ tw_325) tw_421) rfl rfl rfl dd_X5_looks rfl (Nat.le_of_ble_eq_true rfl) s_M0 rfl ⟨by decide, by decide⟩ ⟨Nat.le_refl 0, Nat.le_refl 0⟩ (Nat.le_of_ble_eq_true rfl) ?_
  refine jx_aload_n E dX5_viewOf_5 0 rfl ?_
  refine jx_geti (C := RX5) (T := TX5) (M := 21) (k := 6) E dX5_viewOf_6 (Nat.le_of_ble_eq_true rfl) s_M0 rfl iX5 (by decide) rfl (List.mem_cons_of_mem _ tw_409) rfl ?_
  obtain ⟨rfl, rfl⟩ := jx_out hF
  exact jx_iret E dX5_viewOf_9 rfl
def f_X5_opens_L  : Nat → Int32 → Int32 → Int32 → Int32 → Int32 → jx_V → Option (Int32 × jx_V)
  | 0, _, _, _, _, _, _ => none
  | n + 1, x1, x2, x3, x4, x5, v => (if (v 1 1) ≤ x5 then (some (x4, v)) else ((f_X5_viewOf x5 v).bind (fun (r6, v6) => ((f_X5_at x1 0 v6).bind (fun (r7, v7) => (if (r7 < 0 ∨ 181 ≤ Int32.toNatClampNeg r7) then none else ((f_X5_viewOf x5 (jx_up v7 1 (Int32.toNatClampNeg r7) (-1))).bind (fun (r9, v9) => (if r9 ≤ r6 then ((f_X5_at x1 0 v9).bind (fun (r11, v11) => (if (r11 < 0 ∨ 181 ≤ Int32.toNatClampNeg r11) then none else (f_X5_opens_L n x1 x2 x3 (x4 ||| 0) (x5 + 1) (jx_up v11 1 (Int32.toNatClampNeg r11) x3))))) else ((f_X5_at x1 0 v9).bind (fun (r13, v13) => (if (r13 < 0 ∨ 181 ≤ Int32.toNatClampNeg r13) then none else (f_X5_opens_L n x1 x2 x3 (x4 ||| (1 <<< (x5 &&& 31))) (x5 + 1) (jx_up v13 1 (Int32.toNatClampNeg r13) x3))))))))))))))
def f_X5_opens (x1 : Int32) (v : jx_V) : Option (Int32 × jx_V) := ((f_X5_lotWrong x1 v).bind (fun (r1, v1) => (if r1 = 0 then ((f_X5_its x1 0 v1).bind (fun (r3, v3) => (f_X5_opens_L 100000 x1 r1 r3 0 0 v3))) else ((f_X5_finds r1 v1).bind (fun (r4, v4) => (some (r4, v4)))))))
def rm_X5_opens : Room := { frames := 6, cells := 0, slots := 0, locals := 146 }
set_option maxHeartbeats 4000000 in
set_option maxRecDepth 100000 in
theorem k_X5_opens {l : Launch} {D : va_G} {cI cJ : ClassId} {ad : Nat → Nat} {A : Nat → Prop} (hI : jx_inj 13 ad A) (x1 : Int32) (v : jx_V) (r : Int32) (v' : jx_V) (hF : f_X5_opens x1 v = some (r, v')) : jx_Ci l D vwCl 13 cI cJ ad shM A ex_M yX5_opens (Cond.code yX5_opens cX5_opens 7 (some .int) :: bigT) rm_X5_opens [.ref (ad 0), .int x1] v r v' := by
  unfold f_X5_opens at hF
  refine jx_enteri bigT RX5 cX5_opens 7 (some .int) [(0, .ref (ad 0)), (1, .int x1)] hI (ex_M_ok A) (by decide +kernel) rfl (Nat.le_of_ble_eq_true rfl) rfl rfl ?_
  intro p e s m args below meth c E
  have iX5 : ∀ w ∈ u_ws RX5 TX5 21, w ∈ (Cond.code yX5_opens cX5_opens 7 (some .int) :: bigT) := fun w h => List.mem_cons_of_mem _ (uw_X5 w h)
  have key : ∀ n : Nat, (∀ (x1 : Int32) (x2 : Int32) (x3 : Int32) (x4 : Int32) (x5 : Int32) (v : jx_V), f_X5_opens_L  n  x1 x2 x3 x4 x5 v = some (r, v') → jx_J p l e rm_X5_opens s m args below meth c D vwCl 13 cI cJ ad shM A 0 0 7 (MQ below (va_Qi (fun (r1 : Int32) (_ : Unit) => r1 = r) (fun _ t => va_P D vwCl (jx_ws 13 cI cJ ad shM v') t.heap) A) args s 0 0 A) v 29 [(0, .ref (ad 0)), (1, .int x1), (2, .int x2), (3, .int x3), (4, .int x4), (5, .int x5)] []) := by
    intro n
    induction n with
    | zero =>
      exact (fun _ _ _ _ _ _ h => by cases h)
    | succ n ih =>
      intro x1 x2 x3 x4 x5 v hF
      rw [f_X5_opens_L] at hF
      refine jx_iload E dX5_opens_29 5 rfl ?_
      refine jx_aload_n E dX5_opens_31 0 rfl ?_
      refine jx_getr (C := RX5) (T := TX5) (M := 21) (k := 0) E dX5_opens_32 (Nat.le_of_ble_eq_true rfl) s_M0 rfl iX5 (by decide) rfl (List.mem_cons_of_mem _ tw_328) rfl ?_
      refine jx_iconst (x := 1) E dX5_opens_35 (by decide) ?_
      refine jx_iald (h := 1) (j := 1) E dX5_opens_36 (Nat.le_of_ble_eq_true rfl) s_M1 (by decide) (by decide) ?_
      refine jx_icmp_ge (tgt := 100) E dX5_opens_37 (by decide) (fun hc5 => ?_) (fun hc5 => ?_)
      · rw [if_pos hc5] at hF
        refine jx_iload E dX5_opens_100 4 rfl ?_
        obtain ⟨rfl, rfl⟩ := jx_out hF
        exact jx_iret E dX5_opens_102 rfl
      · rw [if_neg hc5] at hF
        refine jx_aload_n E dX5_opens_40 0 rfl ?_
        refine jx_iload E dX5_opens_41 5 rfl ?_
        obtain ⟨⟨r6, v6⟩, hc6, hF⟩ := jx_bind hF
        try dsimp only at hF
        refine jx_callVi (As := [.int x5]) (st := []) (h := 0) E dX5_opens_43 1 rfl (k_X5_viewOf hI x5 v r6 v6 hc6) (gb_V (List.mem_cons_of_mem _ tw_482) (List.mem_cons_of_mem _ tw_483) (List.mem_cons_of_mem _ tw_484) (List.mem_cons_of_mem _ tw_325) tw_481) rfl rfl rfl dd_X5_viewOf rfl (Nat.le_of_ble_eq_true rfl) s_M0 rfl ⟨by decide, by decide⟩ ⟨Nat.le_refl 0, Nat.le_refl 0⟩ (Nat.le_of_ble_eq_true rfl) ?_
        refine jx_istore (lv' := [(6, .int r6), (0, .ref (ad 0)), (1, .int x1), (2, .int x2), (3, .int x3), (4, .int x4), (5, .int x5)]) E dX5_opens_46 (by decide) rfl ?_
        refine jx_aload_n E dX5_opens_48 1 rfl ?_
        refine jx_getr (C := RX5) (T := TX5) (M := 21) (k := 0) E dX5_opens_49 (Nat.le_of_ble_eq_true rfl) s_M0 rfl iX5 (by decide) rfl (List.mem_cons_of_mem _ tw_328) rfl ?_
        refine jx_iload_n E dX5_opens_52 2 rfl ?_
        refine jx_iconst (x := 0) E dX5_opens_53 (by decide) ?_
        obtain ⟨⟨r7, v7⟩, hc7, hF⟩ := jx_bind hF
        try dsimp only at hF
        refine jx_callSi (As := [.int x1, .int 0]) (st := [.ref (ad 1)]) E dX5_opens_54 2 rfl (k_X5_at hI x1 0 v6 r7 v7 hc7) (gb_S (List.mem_cons_of_mem _ tw_332) (List.mem_cons_of_mem _ tw_333) (List.mem_cons_of_mem _ tw_325) tw_331) rfl rfl rfl dd_X5_at rfl ⟨by decide, by decide⟩ ⟨Nat.le_refl 0, Nat.le_refl 0⟩ (Nat.le_of_ble_eq_true rfl) ?_
        refine jx_iconst (x := -1) E dX5_opens_57 (by decide) ?_
        obtain ⟨hg8, hF⟩ := jx_guard hF
        refine jx_iast (h := 1) (j := (Int32.toNatClampNeg r7)) E dX5_opens_58 (Nat.le_of_ble_eq_true rfl) s_M1 hg8 rfl ?_
        refine jx_iload E dX5_opens_59 5 rfl ?_
        refine jx_aload_n E dX5_opens_61 1 rfl ?_
        refine jx_iload E dX5_opens_62 6 rfl ?_
        obtain ⟨⟨r9, v9⟩, hc9, hF⟩ := jx_bind hF
        try dsimp only at hF
        refine jx_callVi (As := [.int x5]) (st := [.int x4]) (h := 0) E dX5_opens_64 1 rfl (k_X5_viewOf hI x5 (jx_up v7 1 (Int32.toNatClampNeg r7) (-1)) r9 v9 hc9) (gb_V (List.mem_cons_of_mem _ tw_482) (List.mem_cons_of_mem _ tw_483) (List.mem_cons_of_mem _ tw_484) (List.mem_cons_of_mem _ tw_325) tw_481) rfl rfl rfl dd_X5_viewOf rfl (Nat.le_of_ble_eq_true rfl) s_M0 rfl ⟨by decide, by decide⟩ ⟨Nat.le_refl 0, Nat.le_refl 0⟩ (Nat.le_of_ble_eq_true rfl) ?_
        refine jx_iload E dX5_opens_67 0 rfl ?_
        refine jx_icmp_le (tgt := 79) E dX5_opens_69 (by decide) (fun hc10 => ?_) (fun hc10 => ?_)
        · rw [if_pos hc10] at hF
          refine jx_iconst (x := 0) E dX5_opens_79 (by decide) ?_
          refine jx_ior E dX5_opens_80 ?_
          refine jx_istore (lv' := [(4, .int (x4 ||| 0)), (6, .int r6), (0, .ref (ad 0)), (1, .int x1), (2, .int x2), (3, .int x3), (5, .int x5)]) E dX5_opens_81 (by decide) rfl ?_
          refine jx_aload_n E dX5_opens_83 2 rfl ?_
          refine jx_getr (C := RX5) (T := TX5) (M := 21) (k := 0) E dX5_opens_84 (Nat.le_of_ble_eq_true rfl) s_M0 rfl iX5 (by decide) rfl (List.mem_cons_of_mem _ tw_328) rfl ?_
          refine jx_iload_n E dX5_opens_87 3 rfl ?_
          refine jx_iconst (x := 0) E dX5_opens_88 (by decide) ?_
          obtain ⟨⟨r11, v11⟩, hc11, hF⟩ := jx_bind hF
          try dsimp only at hF
          refine jx_callSi (As := [.int x1, .int 0]) (st := [.ref (ad 1)]) E dX5_opens_89 2 rfl (k_X5_at hI x1 0 v9 r11 v11 hc11) (gb_S (List.mem_cons_of_mem _ tw_332) (List.mem_cons_of_mem _ tw_333) (List.mem_cons_of_mem _ tw_325) tw_331) rfl rfl rfl dd_X5_at rfl ⟨by decide, by decide⟩ ⟨Nat.le_refl 0, Nat.le_refl 0⟩ (Nat.le_of_ble_eq_true rfl) ?_
          refine jx_iload_n E dX5_opens_92 5 rfl ?_
          obtain ⟨hg12, hF⟩ := jx_guard hF
          refine jx_iast (h := 1) (j := (Int32.toNatClampNeg r11)) E dX5_opens_93 (Nat.le_of_ble_eq_true rfl) s_M1 hg12 rfl ?_
          refine jx_iinc (y := (x5 + 1)) (lv' := [(5, .int (x5 + 1)), (4, .int (x4 ||| 0)), (6, .int r6), (0, .ref (ad 0)), (1, .int x1), (2, .int x2), (3, .int x3)]) E dX5_opens_94 6 rfl rfl (by decide) rfl ?_
          refine jx_goto (tgt := 29) E dX5_opens_97 (by decide) ?_
          refine jx_sub [3, 4, 5, 6, 1, 0] rfl ?_
          exact ih x1 x2 x3 (x4 ||| 0) (x5 + 1) (jx_up v11 1 (Int32.toNatClampNeg r11) x3) hF
        · rw [if_neg hc10] at hF
          refine jx_iconst (x := 1) E dX5_opens_72 (by decide) ?_
          refine jx_iload E dX5_opens_73 6 rfl ?_
          refine jx_ishl E dX5_opens_75 ?_
          refine jx_goto (tgt := 80) E dX5_opens_76 (by decide) ?_
          refine jx_ior E dX5_opens_80 ?_
          refine jx_istore (lv' := [(4, .int (x4 ||| (1 <<< (x5 &&& 31)))), (6, .int r6), (0, .ref (ad 0)), (1, .int x1), (2, .int x2), (3, .int x3), (5, .int x5)]) E dX5_opens_81 (by decide) rfl ?_
          refine jx_aload_n E dX5_opens_83 2 rfl ?_
          refine jx_getr (C := RX5) (T := TX5) (M := 21) (k := 0) E dX5_opens_84 (Nat.le_of_ble_eq_true rfl) s_M0 rfl iX5 (by decide) rfl (List.mem_cons_of_mem _ tw_328) rfl ?_
          refine jx_iload_n E dX5_opens_87 3 rfl ?_
          refine jx_iconst (x := 0) E dX5_opens_88 (by decide) ?_
          obtain ⟨⟨r13, v13⟩, hc13, hF⟩ := jx_bind hF
          try dsimp only at hF
          refine jx_callSi (As := [.int x1, .int 0]) (st := [.ref (ad 1)]) E dX5_opens_89 2 rfl (k_X5_at hI x1 0 v9 r13 v13 hc13) (gb_S (List.mem_cons_of_mem _ tw_332) (List.mem_cons_of_mem _ tw_333) (List.mem_cons_of_mem _ tw_325) tw_331) rfl rfl rfl dd_X5_at rfl ⟨by decide, by decide⟩ ⟨Nat.le_refl 0, Nat.le_refl 0⟩ (Nat.le_of_ble_eq_true rfl) ?_
          refine jx_iload_n E dX5_opens_92 5 rfl ?_
          obtain ⟨hg14, hF⟩ := jx_guard hF
          refine jx_iast (h := 1) (j := (Int32.toNatClampNeg r13)) E dX5_opens_93 (Nat.le_of_ble_eq_true rfl) s_M1 hg14 rfl ?_
          refine jx_iinc (y := (x5 + 1)) (lv' := [(5, .int (x5 + 1)), (4, .int (x4 ||| (1 <<< (x5 &&& 31)))), (6, .int r6), (0, .ref (ad 0)), (1, .int x1), (2, .int x2), (3, .int x3)]) E dX5_opens_94 6 rfl rfl (by decide) rfl ?_
          refine jx_goto (tgt := 29) E dX5_opens_97 (by decide) ?_
          refine jx_sub [3, 4, 5, 6, 1, 0] rfl ?_
          exact ih x1 x2 x3 (x4 ||| (1 <<< (x5 &&& 31))) (x5 + 1) (jx_up v13 1 (Int32.toNatClampNeg r13) x3) hF
  refine jx_aload_n E dX5_opens_0 0 rfl ?_
  refine jx_iload_n E dX5_opens_1 1 rfl ?_
  obtain ⟨⟨r1, v1⟩, hc1, hF⟩ := jx_bind hF
  try dsimp only at hF
  refine jx_callVi (As := [.int x1]) (st := []) (h := 0) E dX5_opens_2 1 rfl (k_X5_lotWrong hI x1 v r1 v1 hc1) (gb_V (List.mem_cons_of_mem _ tw_367) (List.mem_cons_of_mem _ tw_368) (List.mem_cons_of_mem _ tw_369) (List.mem_cons_of_mem _ tw_325) tw_366) rfl rfl rfl dd_X5_lotWrong rfl (Nat.le_of_ble_eq_true rfl) s_M0 rfl ⟨by decide, by decide⟩ ⟨Nat.le_refl 0, Nat.le_refl 0⟩ (Nat.le_of_ble_eq_true rfl) ?_
  refine jx_istore_n (lv' := [(2, .int r1), (0, .ref (ad 0)), (1, .int x1)]) E dX5_opens_5 (by decide) rfl ?_
  refine jx_iload_n E dX5_opens_6 0 rfl ?_
  refine jx_if_eq (tgt := 16) E dX5_opens_7 (by decide) (fun hc2 => ?_) (fun hc2 => ?_)
  · rw [if_pos hc2] at hF
    refine jx_aload_n E dX5_opens_16 1 rfl ?_
    refine jx_iload_n E dX5_opens_17 2 rfl ?_
    refine jx_iconst (x := 0) E dX5_opens_18 (by decide) ?_
    obtain ⟨⟨r3, v3⟩, hc3, hF⟩ := jx_bind hF
    try dsimp only at hF
    refine jx_callVi (As := [.int x1, .int 0]) (st := []) (h := 0) E dX5_opens_19 2 rfl (k_X5_its hI x1 0 v1 r3 v3 hc3) (gb_V (List.mem_cons_of_mem _ tw_335) (List.mem_cons_of_mem _ tw_336) (List.mem_cons_of_mem _ tw_337) (List.mem_cons_of_mem _ tw_325) tw_334) rfl rfl rfl dd_X5_its rfl (Nat.le_of_ble_eq_true rfl) s_M0 rfl ⟨by decide, by decide⟩ ⟨Nat.le_refl 0, Nat.le_refl 0⟩ (Nat.le_of_ble_eq_true rfl) ?_
    refine jx_istore_n (lv' := [(3, .int r3), (2, .int r1), (0, .ref (ad 0)), (1, .int x1)]) E dX5_opens_22 (by decide) rfl ?_
    refine jx_iconst (x := 0) E dX5_opens_23 (by decide) ?_
    refine jx_istore (lv' := [(4, .int 0), (3, .int r3), (2, .int r1), (0, .ref (ad 0)), (1, .int x1)]) E dX5_opens_24 (by decide) rfl ?_
    refine jx_iconst (x := 0) E dX5_opens_26 (by decide) ?_
    refine jx_istore (lv' := [(5, .int 0), (4, .int 0), (3, .int r3), (2, .int r1), (0, .ref (ad 0)), (1, .int x1)]) E dX5_opens_27 (by decide) rfl ?_
    refine jx_sub [4, 5, 3, 2, 1, 0] rfl ?_
    exact (key 100000) x1 r1 r3 0 0 v3 hF
  · rw [if_neg hc2] at hF
    refine jx_aload_n E dX5_opens_10 1 rfl ?_
    refine jx_iload_n E dX5_opens_11 0 rfl ?_
    obtain ⟨⟨r4, v4⟩, hc4, hF⟩ := jx_bind hF
    try dsimp only at hF
    refine jx_callVi (As := [.int r1]) (st := []) (h := 0) E dX5_opens_12 1 rfl (k_X5_finds hI r1 v1 r4 v4 hc4) (gb_V (List.mem_cons_of_mem _ tw_344) (List.mem_cons_of_mem _ tw_345) (List.mem_cons_of_mem _ tw_346) (List.mem_cons_of_mem _ tw_325) tw_343) rfl rfl rfl dd_X5_finds rfl (Nat.le_of_ble_eq_true rfl) s_M0 rfl ⟨by decide, by decide⟩ ⟨Nat.le_refl 0, Nat.le_refl 0⟩ (Nat.le_of_ble_eq_true rfl) ?_
    obtain ⟨rfl, rfl⟩ := jx_out hF
    exact jx_iret E dX5_opens_15 rfl
