def f_X3_spotsInUse_L (h0 : Nat) : Nat → Int32 → Int32 → jx_V → Option (Int32 × jx_V)
  | 0, _, _, _ => none
  | n + 1, x1, x2, v => (if 10 ≤ x2 then (some (x1, v)) else (if (x2 < 0 ∨ 10 ≤ Int32.toNatClampNeg x2) then none else (if (v (h0 + 15) (Int32.toNatClampNeg x2)) < 0 then (f_X3_spotsInUse_L h0 n (x1 + 0) (x2 + 1) v) else (f_X3_spotsInUse_L h0 n (x1 + 1) (x2 + 1) v))))
def f_X3_spotsInUse (h0 : Nat) (v : jx_V) : Option (Int32 × jx_V) := (f_X3_spotsInUse_L h0 100000 0 0 v)
def rm_X3_spotsInUse : Room := { frames := 0, cells := 0, slots := 0, locals := 0 }
set_option maxHeartbeats 4000000 in
set_option maxRecDepth 100000 in
theorem k_X3_spotsInUse {l : Launch} {D : va_G} {cI cJ : ClassId} {ad : Nat → Nat} {A : Nat → Prop} {adK adV : Nat → Nat} (hI : jx_inj 67 ad A) (h0 : Nat) (hT0 : jx_T h0) (v : jx_V) (r : Int32) (v' : jx_V) (hF : f_X3_spotsInUse h0 v = some (r, v')) : jx_Ci l D vwCl 67 cI cJ ad shX A (ex_X adK adV A) yX3_spotsInUse (Cond.code yX3_spotsInUse cX3_spotsInUse 3 (some .int) :: bigT) rm_X3_spotsInUse [.ref (ad h0)] v r v' := by
  unfold f_X3_spotsInUse at hF
  refine jx_enteri bigT RX3 cX3_spotsInUse 3 (some .int) [(0, .ref (ad h0))] hI (ex_X_ok adK adV A) (by decide +kernel) rfl (Nat.le_of_ble_eq_true rfl) rfl rfl ?_
  intro p e s m args below meth c E
  have iX3 : ∀ w ∈ u_ws RX3 TX3 8, w ∈ (Cond.code yX3_spotsInUse cX3_spotsInUse 3 (some .int) :: bigT) := fun w h => List.mem_cons_of_mem _ (uw_X3 w h)
  have key : ∀ n : Nat, (∀ (x1 : Int32) (x2 : Int32) (v : jx_V), f_X3_spotsInUse_L h0 n  x1 x2 v = some (r, v') → jx_J p l e rm_X3_spotsInUse s m args below meth c D vwCl 67 cI cJ ad shX A 0 0 3 (MQ below (va_Qi (fun (r1 : Int32) (_ : Unit) => r1 = r) (fun _ t => va_P D vwCl (jx_ws 67 cI cJ ad shX v') t.heap) A) args s 0 0 A) v 4 [(0, .ref (ad h0)), (1, .int x1), (2, .int x2)] []) := by
    intro n
    induction n with
    | zero =>
      exact (fun _ _ _ h => by cases h)
    | succ n ih =>
      intro x1 x2 v hF
      rw [f_X3_spotsInUse_L] at hF
      refine jx_iload_n E dX3_spotsInUse_4 2 rfl ?_
      refine jx_bipush (x := 10) E dX3_spotsInUse_5 (by decide) ?_
      refine jx_icmp_ge (tgt := 33) E dX3_spotsInUse_7 (by decide) (fun hc1 => ?_) (fun hc1 => ?_)
      · rw [if_pos hc1] at hF
        refine jx_iload_n E dX3_spotsInUse_33 1 rfl ?_
        obtain ⟨rfl, rfl⟩ := jx_out hF
        exact jx_iret E dX3_spotsInUse_34 rfl
      · rw [if_neg hc1] at hF
        refine jx_iload_n E dX3_spotsInUse_10 1 rfl ?_
        refine jx_aload_n E dX3_spotsInUse_11 0 rfl ?_
        refine jx_getr (C := RX3) (T := TX3) (M := 8) (k := 4) E dX3_spotsInUse_12 (n_T0 hT0) (s_T0 hT0) rfl iX3 (by decide) rfl (List.mem_cons_of_mem _ tw_177) rfl ?_
        refine jx_iload_n E dX3_spotsInUse_15 2 rfl ?_
        obtain ⟨hg2, hF⟩ := jx_guard hF
        refine jx_iald (h := (h0 + 15)) (j := (Int32.toNatClampNeg x2)) E dX3_spotsInUse_16 (n_T15 hT0) (s_T15 hT0) hg2 rfl ?_
        refine jx_if_lt (tgt := 24) E dX3_spotsInUse_17 (by decide) (fun hc3 => ?_) (fun hc3 => ?_)
        · rw [if_pos hc3] at hF
          refine jx_iconst (x := 0) E dX3_spotsInUse_24 (by decide) ?_
          refine jx_iadd E dX3_spotsInUse_25 ?_
          refine jx_istore_n (lv' := [(1, .int (x1 + 0)), (0, .ref (ad h0)), (2, .int x2)]) E dX3_spotsInUse_26 (by decide) rfl ?_
          refine jx_iinc (y := (x2 + 1)) (lv' := [(2, .int (x2 + 1)), (1, .int (x1 + 0)), (0, .ref (ad h0))]) E dX3_spotsInUse_27 2 rfl rfl (by decide) rfl ?_
          refine jx_goto (tgt := 4) E dX3_spotsInUse_30 (by decide) ?_
          refine jx_sub [2, 1, 0] rfl ?_
          exact ih (x1 + 0) (x2 + 1) v hF
        · rw [if_neg hc3] at hF
          refine jx_iconst (x := 1) E dX3_spotsInUse_20 (by decide) ?_
          refine jx_goto (tgt := 25) E dX3_spotsInUse_21 (by decide) ?_
          refine jx_iadd E dX3_spotsInUse_25 ?_
          refine jx_istore_n (lv' := [(1, .int (x1 + 1)), (0, .ref (ad h0)), (2, .int x2)]) E dX3_spotsInUse_26 (by decide) rfl ?_
          refine jx_iinc (y := (x2 + 1)) (lv' := [(2, .int (x2 + 1)), (1, .int (x1 + 1)), (0, .ref (ad h0))]) E dX3_spotsInUse_27 2 rfl rfl (by decide) rfl ?_
          refine jx_goto (tgt := 4) E dX3_spotsInUse_30 (by decide) ?_
          refine jx_sub [2, 1, 0] rfl ?_
          exact ih (x1 + 1) (x2 + 1) v hF
  refine jx_iconst (x := 0) E dX3_spotsInUse_0 (by decide) ?_
  refine jx_istore_n (lv' := [(1, .int 0), (0, .ref (ad h0))]) E dX3_spotsInUse_1 (by decide) rfl ?_
  refine jx_iconst (x := 0) E dX3_spotsInUse_2 (by decide) ?_
  refine jx_istore_n (lv' := [(2, .int 0), (1, .int 0), (0, .ref (ad h0))]) E dX3_spotsInUse_3 (by decide) rfl ?_
  refine jx_sub [2, 1, 0] rfl ?_
  exact (key 100000) 0 0 v hF
def f_X4_within (x0 : Int32) (x1 : Int32) (v : jx_V) : Option (Int32 × jx_V) := (if x0 < 0 then (some (0, v)) else (if x1 ≤ x0 then (some (0, v)) else (some (1, v))))
def rm_X4_within : Room := { frames := 0, cells := 0, slots := 0, locals := 0 }
set_option maxHeartbeats 4000000 in
set_option maxRecDepth 100000 in
theorem k_X4_within {l : Launch} {D : va_G} {cI cJ : ClassId} {ad : Nat → Nat} {A : Nat → Prop} {adK adV : Nat → Nat} (hI : jx_inj 67 ad A) (x0 : Int32) (x1 : Int32) (v : jx_V) (r : Int32) (v' : jx_V) (hF : f_X4_within x0 x1 v = some (r, v')) : jx_Ci l D vwCl 67 cI cJ ad shX A (ex_X adK adV A) yX4_within (Cond.code yX4_within cX4_within 2 (some .boolean) :: bigT) rm_X4_within [.int x0, .int x1] v r v' := by
  unfold f_X4_within at hF
  refine jx_enteri bigT RX4 cX4_within 2 (some .boolean) [(0, .int x0), (1, .int x1)] hI (ex_X_ok adK adV A) (by decide +kernel) rfl (Nat.le_of_ble_eq_true rfl) rfl rfl ?_
  intro p e s m args below meth c E
  refine jx_iload_n E dX4_within_0 0 rfl ?_
  refine jx_if_lt (tgt := 13) E dX4_within_1 (by decide) (fun hc1 => ?_) (fun hc1 => ?_)
  · rw [if_pos hc1] at hF
    refine jx_iconst (x := 0) E dX4_within_13 (by decide) ?_
    obtain ⟨rfl, rfl⟩ := jx_out hF
    exact jx_zret E dX4_within_14 rfl (Or.inl rfl)
  · rw [if_neg hc1] at hF
    refine jx_iload_n E dX4_within_4 0 rfl ?_
    refine jx_iload_n E dX4_within_5 1 rfl ?_
    refine jx_icmp_ge (tgt := 13) E dX4_within_6 (by decide) (fun hc2 => ?_) (fun hc2 => ?_)
    · rw [if_pos hc2] at hF
      refine jx_iconst (x := 0) E dX4_within_13 (by decide) ?_
      obtain ⟨rfl, rfl⟩ := jx_out hF
      exact jx_zret E dX4_within_14 rfl (Or.inl rfl)
    · rw [if_neg hc2] at hF
      refine jx_iconst (x := 1) E dX4_within_9 (by decide) ?_
      refine jx_goto (tgt := 14) E dX4_within_10 (by decide) ?_
      obtain ⟨rfl, rfl⟩ := jx_out hF
      exact jx_zret E dX4_within_14 rfl (Or.inr rfl)
def f_X4_finding (x1 : Int32) (v : jx_V) : Option (Int32 × jx_V) := (if (x1 < 0 ∨ 7 ≤ Int32.toNatClampNeg x1) then none else (if (x1 < 0 ∨ 7 ≤ Int32.toNatClampNeg x1) then none else (some (((-1000001) - x1), (jx_up v 63 (Int32.toNatClampNeg x1) ((v 63 (Int32.toNatClampNeg x1)) + 1))))))
def rm_X4_finding : Room := { frames := 0, cells := 0, slots := 0, locals := 0 }
set_option maxHeartbeats 4000000 in
set_option maxRecDepth 100000 in
theorem k_X4_finding {l : Launch} {D : va_G} {cI cJ : ClassId} {ad : Nat → Nat} {A : Nat → Prop} {adK adV : Nat → Nat} (hI : jx_inj 67 ad A) (x1 : Int32) (v : jx_V) (r : Int32) (v' : jx_V) (hF : f_X4_finding x1 v = some (r, v')) : jx_Ci l D vwCl 67 cI cJ ad shX A (ex_X adK adV A) yX4_finding (Cond.code yX4_finding cX4_finding 2 (some .int) :: bigT) rm_X4_finding [.ref (ad 0), .int x1] v r v' := by
  unfold f_X4_finding at hF
  refine jx_enteri bigT RX4 cX4_finding 2 (some .int) [(0, .ref (ad 0)), (1, .int x1)] hI (ex_X_ok adK adV A) (by decide +kernel) rfl (Nat.le_of_ble_eq_true rfl) rfl rfl ?_
  intro p e s m args below meth c E
  have iX4 : ∀ w ∈ u_ws RX4 TX4 11, w ∈ (Cond.code yX4_finding cX4_finding 2 (some .int) :: bigT) := fun w h => List.mem_cons_of_mem _ (uw_X4 w h)
  refine jx_aload_n E dX4_finding_0 0 rfl ?_
  refine jx_getr (C := RX4) (T := TX4) (M := 11) (k := 6) E dX4_finding_1 (Nat.le_of_ble_eq_true rfl) s_X0 rfl iX4 (by decide) rfl (List.mem_cons_of_mem _ tw_185) rfl ?_
  refine jx_iload_n E dX4_finding_4 1 rfl ?_
  refine jx_dup2 E dX4_finding_5 rfl rfl ?_
  obtain ⟨hg1, hF⟩ := jx_guard hF
  refine jx_iald (h := 63) (j := (Int32.toNatClampNeg x1)) E dX4_finding_6 (Nat.le_of_ble_eq_true rfl) s_X63 hg1 rfl ?_
  refine jx_iconst (x := 1) E dX4_finding_7 (by decide) ?_
  refine jx_iadd E dX4_finding_8 ?_
  obtain ⟨hg2, hF⟩ := jx_guard hF
  refine jx_iast (h := 63) (j := (Int32.toNatClampNeg x1)) E dX4_finding_9 (Nat.le_of_ble_eq_true rfl) s_X63 hg2 rfl ?_
  refine jx_ldcw (x := -1000001) E dX4_finding_10 (List.mem_cons_of_mem _ tw_186) ?_
  refine jx_iload_n E dX4_finding_13 1 rfl ?_
  refine jx_isub E dX4_finding_14 ?_
  obtain ⟨rfl, rfl⟩ := jx_out hF
  exact jx_iret E dX4_finding_15 rfl
def f_X4_build (x1 : Int32) (x2 : Int32) (x3 : Int32) (x4 : Int32) (v : jx_V) : Option (Int32 × jx_V) := ((f_X4_within x1 7 v).bind (fun (r1, v1) => (if r1 = 0 then ((f_X4_finding 0 v1).bind (fun (r3, v3) => (some (r3, v3)))) else ((f_X4_within x2 25 v1).bind (fun (r4, v4) => (if r4 = 0 then ((f_X4_finding 0 v4).bind (fun (r6, v6) => (some (r6, v6)))) else ((f_X4_within x3 4 v4).bind (fun (r7, v7) => (if r7 = 0 then ((f_X4_finding 0 v7).bind (fun (r9, v9) => (some (r9, v9)))) else ((f_X4_within x4 10 v7).bind (fun (r10, v10) => (if r10 = 0 then ((f_X4_finding 0 v10).bind (fun (r17, v17) => (some (r17, v17)))) else ((f_X3_isTaken 1 x2 v10).bind (fun (r12, v12) => (if r12 = 0 then ((f_X3_put 1 x2 x1 x3 x4 0 v12).bind (fun v14 => ((f_X3_thingCount 1 v14).bind (fun (r15, v15) => (some (r15, v15)))))) else ((f_X4_finding 4 v12).bind (fun (r16, v16) => (some (r16, v16)))))))))))))))))))
def rm_X4_build : Room := { frames := 2, cells := 0, slots := 0, locals := 43 }
set_option maxHeartbeats 4000000 in
set_option maxRecDepth 100000 in
theorem k_X4_build {l : Launch} {D : va_G} {cI cJ : ClassId} {ad : Nat → Nat} {A : Nat → Prop} {adK adV : Nat → Nat} (hI : jx_inj 67 ad A) (x1 : Int32) (x2 : Int32) (x3 : Int32) (x4 : Int32) (v : jx_V) (r : Int32) (v' : jx_V) (hF : f_X4_build x1 x2 x3 x4 v = some (r, v')) : jx_Ci l D vwCl 67 cI cJ ad shX A (ex_X adK adV A) yX4_build (Cond.code yX4_build cX4_build 5 (some .int) :: bigT) rm_X4_build [.ref (ad 0), .int x1, .int x2, .int x3, .int x4] v r v' := by
  unfold f_X4_build at hF
  refine jx_enteri bigT RX4 cX4_build 5 (some .int) [(0, .ref (ad 0)), (1, .int x1), (2, .int x2), (3, .int x3), (4, .int x4)] hI (ex_X_ok adK adV A) (by decide +kernel) rfl (Nat.le_of_ble_eq_true rfl) rfl rfl ?_
  intro p e s m args below meth c E
  have iX4 : ∀ w ∈ u_ws RX4 TX4 11, w ∈ (Cond.code yX4_build cX4_build 5 (some .int) :: bigT) := fun w h => List.mem_cons_of_mem _ (uw_X4 w h)
  refine jx_iload_n E dX4_build_0 1 rfl ?_
  refine jx_bipush (x := 7) E dX4_build_1 (by decide) ?_
  obtain ⟨⟨r1, v1⟩, hc1, hF⟩ := jx_bind hF
  try dsimp only at hF
  refine jx_callSi (As := [.int x1, .int 7]) (st := []) E dX4_build_3 2 rfl (k_X4_within hI x1 7 v r1 v1 hc1) (gb_S (List.mem_cons_of_mem _ tw_188) (List.mem_cons_of_mem _ tw_189) (List.mem_cons_of_mem _ tw_190) tw_187) rfl rfl rfl dd_X4_within rfl ⟨by decide, by decide⟩ ⟨Nat.le_refl 0, Nat.le_refl 0⟩ (Nat.le_of_ble_eq_true rfl) ?_
  refine jx_if_eq (tgt := 36) E dX4_build_6 (by decide) (fun hc2 => ?_) (fun hc2 => ?_)
  · rw [if_pos hc2] at hF
    refine jx_aload_n E dX4_build_36 0 rfl ?_
    refine jx_iconst (x := 0) E dX4_build_37 (by decide) ?_
    obtain ⟨⟨r3, v3⟩, hc3, hF⟩ := jx_bind hF
    try dsimp only at hF
    refine jx_callVi (As := [.int 0]) (st := []) (h := 0) E dX4_build_38 1 rfl (k_X4_finding hI 0 v1 r3 v3 hc3) (gb_V (List.mem_cons_of_mem _ tw_192) (List.mem_cons_of_mem _ tw_193) (List.mem_cons_of_mem _ tw_194) (List.mem_cons_of_mem _ tw_190) tw_191) rfl rfl rfl dd_X4_finding rfl (Nat.le_of_ble_eq_true rfl) s_X0 rfl ⟨by decide, by decide⟩ ⟨Nat.le_refl 0, Nat.le_refl 0⟩ (Nat.le_of_ble_eq_true rfl) ?_
    obtain ⟨rfl, rfl⟩ := jx_out hF
    exact jx_iret E dX4_build_41 rfl
  · rw [if_neg hc2] at hF
    refine jx_iload_n E dX4_build_9 2 rfl ?_
    refine jx_bipush (x := 25) E dX4_build_10 (by decide) ?_
    obtain ⟨⟨r4, v4⟩, hc4, hF⟩ := jx_bind hF
    try dsimp only at hF
    refine jx_callSi (As := [.int x2, .int 25]) (st := []) E dX4_build_12 2 rfl (k_X4_within hI x2 25 v1 r4 v4 hc4) (gb_S (List.mem_cons_of_mem _ tw_188) (List.mem_cons_of_mem _ tw_189) (List.mem_cons_of_mem _ tw_190) tw_187) rfl rfl rfl dd_X4_within rfl ⟨by decide, by decide⟩ ⟨Nat.le_refl 0, Nat.le_refl 0⟩ (Nat.le_of_ble_eq_true rfl) ?_
    refine jx_if_eq (tgt := 36) E dX4_build_15 (by decide) (fun hc5 => ?_) (fun hc5 => ?_)
    · rw [if_pos hc5] at hF
      refine jx_aload_n E dX4_build_36 0 rfl ?_
      refine jx_iconst (x := 0) E dX4_build_37 (by decide) ?_
      obtain ⟨⟨r6, v6⟩, hc6, hF⟩ := jx_bind hF
      try dsimp only at hF
      refine jx_callVi (As := [.int 0]) (st := []) (h := 0) E dX4_build_38 1 rfl (k_X4_finding hI 0 v4 r6 v6 hc6) (gb_V (List.mem_cons_of_mem _ tw_192) (List.mem_cons_of_mem _ tw_193) (List.mem_cons_of_mem _ tw_194) (List.mem_cons_of_mem _ tw_190) tw_191) rfl rfl rfl dd_X4_finding rfl (Nat.le_of_ble_eq_true rfl) s_X0 rfl ⟨by decide, by decide⟩ ⟨Nat.le_refl 0, Nat.le_refl 0⟩ (Nat.le_of_ble_eq_true rfl) ?_
      obtain ⟨rfl, rfl⟩ := jx_out hF
      exact jx_iret E dX4_build_41 rfl
    · rw [if_neg hc5] at hF
      refine jx_iload_n E dX4_build_18 3 rfl ?_
      refine jx_iconst (x := 4) E dX4_build_19 (by decide) ?_
      obtain ⟨⟨r7, v7⟩, hc7, hF⟩ := jx_bind hF
      try dsimp only at hF
      refine jx_callSi (As := [.int x3, .int 4]) (st := []) E dX4_build_20 2 rfl (k_X4_within hI x3 4 v4 r7 v7 hc7) (gb_S (List.mem_cons_of_mem _ tw_188) (List.mem_cons_of_mem _ tw_189) (List.mem_cons_of_mem _ tw_190) tw_187) rfl rfl rfl dd_X4_within rfl ⟨by decide, by decide⟩ ⟨Nat.le_refl 0, Nat.le_refl 0⟩ (Nat.le_of_ble_eq_true rfl) ?_
      refine jx_if_eq (tgt := 36) E dX4_build_23 (by decide) (fun hc8 => ?_) (fun hc8 => ?_)
      · rw [if_pos hc8] at hF
        refine jx_aload_n E dX4_build_36 0 rfl ?_
        refine jx_iconst (x := 0) E dX4_build_37 (by decide) ?_
        obtain ⟨⟨r9, v9⟩, hc9, hF⟩ := jx_bind hF
        try dsimp only at hF
        refine jx_callVi (As := [.int 0]) (st := []) (h := 0) E dX4_build_38 1 rfl (k_X4_finding hI 0 v7 r9 v9 hc9) (gb_V (List.mem_cons_of_mem _ tw_192) (List.mem_cons_of_mem _ tw_193) (List.mem_cons_of_mem _ tw_194) (List.mem_cons_of_mem _ tw_190) tw_191) rfl rfl rfl dd_X4_finding rfl (Nat.le_of_ble_eq_true rfl) s_X0 rfl ⟨by decide, by decide⟩ ⟨Nat.le_refl 0, Nat.le_refl 0⟩ (Nat.le_of_ble_eq_true rfl) ?_
        obtain ⟨rfl, rfl⟩ := jx_out hF
        exact jx_iret E dX4_build_41 rfl
      · rw [if_neg hc8] at hF
        refine jx_iload E dX4_build_26 4 rfl ?_
        refine jx_bipush (x := 10) E dX4_build_28 (by decide) ?_
        obtain ⟨⟨r10, v10⟩, hc10, hF⟩ := jx_bind hF
        try dsimp only at hF
        refine jx_callSi (As := [.int x4, .int 10]) (st := []) E dX4_build_30 2 rfl (k_X4_within hI x4 10 v7 r10 v10 hc10) (gb_S (List.mem_cons_of_mem _ tw_188) (List.mem_cons_of_mem _ tw_189) (List.mem_cons_of_mem _ tw_190) tw_187) rfl rfl rfl dd_X4_within rfl ⟨by decide, by decide⟩ ⟨Nat.le_refl 0, Nat.le_refl 0⟩ (Nat.le_of_ble_eq_true rfl) ?_
        refine jx_if_ne (tgt := 42) E dX4_build_33 (by decide) (fun hc11 => ?_) (fun hc11 => ?_)
        · rw [if_neg hc11] at hF
          refine jx_aload_n E dX4_build_42 0 rfl ?_
          refine jx_getr (C := RX4) (T := TX4) (M := 11) (k := 0) E dX4_build_43 (Nat.le_of_ble_eq_true rfl) s_X0 rfl iX4 (by decide) rfl (List.mem_cons_of_mem _ tw_195) rfl ?_
          refine jx_iload_n E dX4_build_46 2 rfl ?_
          obtain ⟨⟨r12, v12⟩, hc12, hF⟩ := jx_bind hF
          try dsimp only at hF
          refine jx_callNi (As := [.int x2]) (st := []) (h := 1) E dX4_build_47 1 rfl (k_X3_isTaken hI 1 jx_T1 x2 v10 r12 v12 hc12) (gb_N tw_51) rfl rfl rfl (ex_m4 (jx_ex E)) (List.mem_cons_of_mem _ tw_33) (List.mem_cons_of_mem _ tw_52) (List.mem_cons_of_mem _ tw_53) dd_X3_isTaken.2 rfl (Nat.le_of_ble_eq_true rfl) s_X1 rfl ⟨by decide, by decide⟩ ⟨Nat.le_refl 0, Nat.le_refl 0⟩ (Nat.le_of_ble_eq_true rfl) ?_
          refine jx_if_eq (tgt := 59) E dX4_build_50 (by decide) (fun hc13 => ?_) (fun hc13 => ?_)
          · rw [if_pos hc13] at hF
            refine jx_aload_n E dX4_build_59 0 rfl ?_
            refine jx_getr (C := RX4) (T := TX4) (M := 11) (k := 0) E dX4_build_60 (Nat.le_of_ble_eq_true rfl) s_X0 rfl iX4 (by decide) rfl (List.mem_cons_of_mem _ tw_195) rfl ?_
            refine jx_iload_n E dX4_build_63 2 rfl ?_
            refine jx_iload_n E dX4_build_64 1 rfl ?_
            refine jx_iload_n E dX4_build_65 3 rfl ?_
            refine jx_iload E dX4_build_66 4 rfl ?_
            refine jx_iconst (x := 0) E dX4_build_68 (by decide) ?_
            obtain ⟨v14, hc14, hF⟩ := jx_bind hF
            try dsimp only at hF
            refine jx_callNv (As := [.int x2, .int x1, .int x3, .int x4, .int 0]) (st := []) (h := 1) E dX4_build_69 5 rfl (k_X3_put hI 1 jx_T1 x2 x1 x3 x4 0 v12 v14 hc14) (gb_N tw_137) rfl rfl rfl (ex_m5 (jx_ex E)) (List.mem_cons_of_mem _ tw_33) (List.mem_cons_of_mem _ tw_138) (List.mem_cons_of_mem _ tw_139) dd_X3_put.2 rfl (Nat.le_of_ble_eq_true rfl) s_X1 rfl ⟨by decide, by decide⟩ ⟨Nat.le_refl 0, Nat.le_refl 0⟩ (Nat.le_of_ble_eq_true rfl) ?_
            refine jx_aload_n E dX4_build_72 0 rfl ?_
            refine jx_getr (C := RX4) (T := TX4) (M := 11) (k := 0) E dX4_build_73 (Nat.le_of_ble_eq_true rfl) s_X0 rfl iX4 (by decide) rfl (List.mem_cons_of_mem _ tw_195) rfl ?_
            obtain ⟨⟨r15, v15⟩, hc15, hF⟩ := jx_bind hF
            try dsimp only at hF
            refine jx_callNi (As := []) (st := []) (h := 1) E dX4_build_76 0 rfl (k_X3_thingCount hI 1 jx_T1 v14 r15 v15 hc15) (gb_N tw_196) rfl rfl rfl (ex_m6 (jx_ex E)) (List.mem_cons_of_mem _ tw_33) (List.mem_cons_of_mem _ tw_197) (List.mem_cons_of_mem _ tw_198) dd_X3_thingCount.2 rfl (Nat.le_of_ble_eq_true rfl) s_X1 rfl ⟨by decide, by decide⟩ ⟨Nat.le_refl 0, Nat.le_refl 0⟩ (Nat.le_of_ble_eq_true rfl) ?_
            obtain ⟨rfl, rfl⟩ := jx_out hF
            exact jx_iret E dX4_build_79 rfl
          · rw [if_neg hc13] at hF
            refine jx_aload_n E dX4_build_53 0 rfl ?_
            refine jx_iconst (x := 4) E dX4_build_54 (by decide) ?_
            obtain ⟨⟨r16, v16⟩, hc16, hF⟩ := jx_bind hF
            try dsimp only at hF
            refine jx_callVi (As := [.int 4]) (st := []) (h := 0) E dX4_build_55 1 rfl (k_X4_finding hI 4 v12 r16 v16 hc16) (gb_V (List.mem_cons_of_mem _ tw_192) (List.mem_cons_of_mem _ tw_193) (List.mem_cons_of_mem _ tw_194) (List.mem_cons_of_mem _ tw_190) tw_191) rfl rfl rfl dd_X4_finding rfl (Nat.le_of_ble_eq_true rfl) s_X0 rfl ⟨by decide, by decide⟩ ⟨Nat.le_refl 0, Nat.le_refl 0⟩ (Nat.le_of_ble_eq_true rfl) ?_
            obtain ⟨rfl, rfl⟩ := jx_out hF
            exact jx_iret E dX4_build_58 rfl
        · rw [if_pos hc11] at hF
          refine jx_aload_n E dX4_build_36 0 rfl ?_
          refine jx_iconst (x := 0) E dX4_build_37 (by decide) ?_
          obtain ⟨⟨r17, v17⟩, hc17, hF⟩ := jx_bind hF
          try dsimp only at hF
          refine jx_callVi (As := [.int 0]) (st := []) (h := 0) E dX4_build_38 1 rfl (k_X4_finding hI 0 v10 r17 v17 hc17) (gb_V (List.mem_cons_of_mem _ tw_192) (List.mem_cons_of_mem _ tw_193) (List.mem_cons_of_mem _ tw_194) (List.mem_cons_of_mem _ tw_190) tw_191) rfl rfl rfl dd_X4_finding rfl (Nat.le_of_ble_eq_true rfl) s_X0 rfl ⟨by decide, by decide⟩ ⟨Nat.le_refl 0, Nat.le_refl 0⟩ (Nat.le_of_ble_eq_true rfl) ?_
          obtain ⟨rfl, rfl⟩ := jx_out hF
          exact jx_iret E dX4_build_41 rfl
def f_X4_clear (x1 : Int32) (v : jx_V) : Option (Int32 × jx_V) := ((f_X4_within x1 25 v).bind (fun (r1, v1) => (if r1 = 0 then ((f_X4_finding 0 v1).bind (fun (r8, v8) => (some (r8, v8)))) else ((f_X3_isTaken 1 x1 v1).bind (fun (r3, v3) => (if r3 = 0 then ((f_X4_finding 3 v3).bind (fun (r7, v7) => (some (r7, v7)))) else ((f_X3_takeOff 1 x1 v3).bind (fun v5 => (if (x1 < 0 ∨ 25 ≤ Int32.toNatClampNeg x1) then none else (some ((v5 6 (Int32.toNatClampNeg x1)), v5)))))))))))
def rm_X4_clear : Room := { frames := 1, cells := 0, slots := 0, locals := 21 }
set_option maxHeartbeats 4000000 in
set_option maxRecDepth 100000 in
theorem k_X4_clear {l : Launch} {D : va_G} {cI cJ : ClassId} {ad : Nat → Nat} {A : Nat → Prop} {adK adV : Nat → Nat} (hI : jx_inj 67 ad A) (x1 : Int32) (v : jx_V) (r : Int32) (v' : jx_V) (hF : f_X4_clear x1 v = some (r, v')) : jx_Ci l D vwCl 67 cI cJ ad shX A (ex_X adK adV A) yX4_clear (Cond.code yX4_clear cX4_clear 2 (some .int) :: bigT) rm_X4_clear [.ref (ad 0), .int x1] v r v' := by
  unfold f_X4_clear at hF
  refine jx_enteri bigT RX4 cX4_clear 2 (some .int) [(0, .ref (ad 0)), (1, .int x1)] hI (ex_X_ok adK adV A) (by decide +kernel) rfl (Nat.le_of_ble_eq_true rfl) rfl rfl ?_
  intro p e s m args below meth c E
  have iX3 : ∀ w ∈ u_ws RX3 TX3 8, w ∈ (Cond.code yX4_clear cX4_clear 2 (some .int) :: bigT) := fun w h => List.mem_cons_of_mem _ (uw_X3 w h)
  have iX4 : ∀ w ∈ u_ws RX4 TX4 11, w ∈ (Cond.code yX4_clear cX4_clear 2 (some .int) :: bigT) := fun w h => List.mem_cons_of_mem _ (uw_X4 w h)
  refine jx_iload_n E dX4_clear_0 1 rfl ?_
  refine jx_bipush (x := 25) E dX4_clear_1 (by decide) ?_
  obtain ⟨⟨r1, v1⟩, hc1, hF⟩ := jx_bind hF
  try dsimp only at hF
  refine jx_callSi (As := [.int x1, .int 25]) (st := []) E dX4_clear_3 2 rfl (k_X4_within hI x1 25 v r1 v1 hc1) (gb_S (List.mem_cons_of_mem _ tw_188) (List.mem_cons_of_mem _ tw_189) (List.mem_cons_of_mem _ tw_190) tw_187) rfl rfl rfl dd_X4_within rfl ⟨by decide, by decide⟩ ⟨Nat.le_refl 0, Nat.le_refl 0⟩ (Nat.le_of_ble_eq_true rfl) ?_
  refine jx_if_ne (tgt := 15) E dX4_clear_6 (by decide) (fun hc2 => ?_) (fun hc2 => ?_)
  · rw [if_neg hc2] at hF
    refine jx_aload_n E dX4_clear_15 0 rfl ?_
    refine jx_getr (C := RX4) (T := TX4) (M := 11) (k := 0) E dX4_clear_16 (Nat.le_of_ble_eq_true rfl) s_X0 rfl iX4 (by decide) rfl (List.mem_cons_of_mem _ tw_195) rfl ?_
    refine jx_iload_n E dX4_clear_19 1 rfl ?_
    obtain ⟨⟨r3, v3⟩, hc3, hF⟩ := jx_bind hF
    try dsimp only at hF
    refine jx_callNi (As := [.int x1]) (st := []) (h := 1) E dX4_clear_20 1 rfl (k_X3_isTaken hI 1 jx_T1 x1 v1 r3 v3 hc3) (gb_N tw_51) rfl rfl rfl (ex_m4 (jx_ex E)) (List.mem_cons_of_mem _ tw_33) (List.mem_cons_of_mem _ tw_52) (List.mem_cons_of_mem _ tw_53) dd_X3_isTaken.2 rfl (Nat.le_of_ble_eq_true rfl) s_X1 rfl ⟨by decide, by decide⟩ ⟨Nat.le_refl 0, Nat.le_refl 0⟩ (Nat.le_of_ble_eq_true rfl) ?_
    refine jx_if_ne (tgt := 32) E dX4_clear_23 (by decide) (fun hc4 => ?_) (fun hc4 => ?_)
    · rw [if_neg hc4] at hF
      refine jx_aload_n E dX4_clear_32 0 rfl ?_
      refine jx_getr (C := RX4) (T := TX4) (M := 11) (k := 0) E dX4_clear_33 (Nat.le_of_ble_eq_true rfl) s_X0 rfl iX4 (by decide) rfl (List.mem_cons_of_mem _ tw_195) rfl ?_
      refine jx_iload_n E dX4_clear_36 1 rfl ?_
      obtain ⟨v5, hc5, hF⟩ := jx_bind hF
      try dsimp only at hF
      refine jx_callNv (As := [.int x1]) (st := []) (h := 1) E dX4_clear_37 1 rfl (k_X3_takeOff hI 1 jx_T1 x1 v3 v5 hc5) (gb_N tw_145) rfl rfl rfl (ex_m7 (jx_ex E)) (List.mem_cons_of_mem _ tw_33) (List.mem_cons_of_mem _ tw_146) (List.mem_cons_of_mem _ tw_147) dd_X3_takeOff.2 rfl (Nat.le_of_ble_eq_true rfl) s_X1 rfl ⟨by decide, by decide⟩ ⟨Nat.le_refl 0, Nat.le_refl 0⟩ (Nat.le_of_ble_eq_true rfl) ?_
      refine jx_aload_n E dX4_clear_40 0 rfl ?_
      refine jx_getr (C := RX4) (T := TX4) (M := 11) (k := 0) E dX4_clear_41 (Nat.le_of_ble_eq_true rfl) s_X0 rfl iX4 (by decide) rfl (List.mem_cons_of_mem _ tw_195) rfl ?_
      refine jx_getrN (C := RX3) (T := TX3) (M := 8) (k := 0) E dX4_clear_44 (Nat.le_of_ble_eq_true rfl) s_X1 rfl iX3 (by decide) rfl (ex_f0 (jx_ex E)) rfl ?_
      refine jx_iconst (x := 2) E dX4_clear_47 (by decide) ?_
      refine jx_aald (h' := 6) E dX4_clear_48 (Nat.le_of_ble_eq_true rfl) s_X2 (show ¬ ((2 : Int32) < 0 ∨ 4 ≤ Int32.toNatClampNeg 2) by decide) rfl ?_
      refine jx_iload_n E dX4_clear_49 1 rfl ?_
      obtain ⟨hg6, hF⟩ := jx_guard hF
      refine jx_iald (h := 6) (j := (Int32.toNatClampNeg x1)) E dX4_clear_50 (Nat.le_of_ble_eq_true rfl) s_X6 hg6 rfl ?_
      obtain ⟨rfl, rfl⟩ := jx_out hF
      exact jx_iret E dX4_clear_51 rfl
    · rw [if_pos hc4] at hF
      refine jx_aload_n E dX4_clear_26 0 rfl ?_
      refine jx_iconst (x := 3) E dX4_clear_27 (by decide) ?_
      obtain ⟨⟨r7, v7⟩, hc7, hF⟩ := jx_bind hF
      try dsimp only at hF
      refine jx_callVi (As := [.int 3]) (st := []) (h := 0) E dX4_clear_28 1 rfl (k_X4_finding hI 3 v3 r7 v7 hc7) (gb_V (List.mem_cons_of_mem _ tw_192) (List.mem_cons_of_mem _ tw_193) (List.mem_cons_of_mem _ tw_194) (List.mem_cons_of_mem _ tw_190) tw_191) rfl rfl rfl dd_X4_finding rfl (Nat.le_of_ble_eq_true rfl) s_X0 rfl ⟨by decide, by decide⟩ ⟨Nat.le_refl 0, Nat.le_refl 0⟩ (Nat.le_of_ble_eq_true rfl) ?_
      obtain ⟨rfl, rfl⟩ := jx_out hF
      exact jx_iret E dX4_clear_31 rfl
  · rw [if_pos hc2] at hF
    refine jx_aload_n E dX4_clear_9 0 rfl ?_
    refine jx_iconst (x := 0) E dX4_clear_10 (by decide) ?_
    obtain ⟨⟨r8, v8⟩, hc8, hF⟩ := jx_bind hF
    try dsimp only at hF
    refine jx_callVi (As := [.int 0]) (st := []) (h := 0) E dX4_clear_11 1 rfl (k_X4_finding hI 0 v1 r8 v8 hc8) (gb_V (List.mem_cons_of_mem _ tw_192) (List.mem_cons_of_mem _ tw_193) (List.mem_cons_of_mem _ tw_194) (List.mem_cons_of_mem _ tw_190) tw_191) rfl rfl rfl dd_X4_finding rfl (Nat.le_of_ble_eq_true rfl) s_X0 rfl ⟨by decide, by decide⟩ ⟨Nat.le_refl 0, Nat.le_refl 0⟩ (Nat.le_of_ble_eq_true rfl) ?_
    obtain ⟨rfl, rfl⟩ := jx_out hF
    exact jx_iret E dX4_clear_14 rfl
def f_X4_of (x1 : Int32) (x2 : Int32) (v : jx_V) : Option (Int32 × jx_V) := ((f_X4_within x1 25 v).bind (fun (r1, v1) => (if r1 = 0 then ((f_X4_finding 0 v1).bind (fun (r3, v3) => (some (r3, v3)))) else ((f_X4_within x2 7 v1).bind (fun (r4, v4) => (if r4 = 0 then ((f_X4_finding 0 v4).bind (fun (r17, v17) => (some (r17, v17)))) else ((f_X3_isTaken 1 x1 v4).bind (fun (r6, v6) => (if r6 = 0 then ((f_X4_finding 3 v6).bind (fun (r16, v16) => (some (r16, v16)))) else (if 4 ≤ x2 then (if x2 = 4 then ((f_X3_standing 1 x1 v6).bind (fun (r13, v13) => (some (r13, v13)))) else (if x2 = 5 then ((f_X3_squarePrice 1 x1 v6).bind (fun (r12, v12) => (some (r12, v12)))) else ((f_X3_growth 1 x1 v6).bind (fun (r11, v11) => (some (r11, v11)))))) else (if (x2 < 0 ∨ 4 ≤ (x2).toNatClampNeg) then none else (if (x1 < 0 ∨ 25 ≤ Int32.toNatClampNeg x1) then none else (some ((v6 (1 + 3 + (x2).toNatClampNeg) (Int32.toNatClampNeg x1)), v6))))))))))))))
def rm_X4_of : Room := { frames := 2, cells := 0, slots := 0, locals := 44 }
set_option maxHeartbeats 4000000 in
set_option maxRecDepth 100000 in
theorem k_X4_of {l : Launch} {D : va_G} {cI cJ : ClassId} {ad : Nat → Nat} {A : Nat → Prop} {adK adV : Nat → Nat} (hI : jx_inj 67 ad A) (x1 : Int32) (x2 : Int32) (v : jx_V) (r : Int32) (v' : jx_V) (hF : f_X4_of x1 x2 v = some (r, v')) : jx_Ci l D vwCl 67 cI cJ ad shX A (ex_X adK adV A) yX4_of (Cond.code yX4_of cX4_of 3 (some .int) :: bigT) rm_X4_of [.ref (ad 0), .int x1, .int x2] v r v' := by
  unfold f_X4_of at hF
  refine jx_enteri bigT RX4 cX4_of 3 (some .int) [(0, .ref (ad 0)), (1, .int x1), (2, .int x2)] hI (ex_X_ok adK adV A) (by decide +kernel) rfl (Nat.le_of_ble_eq_true rfl) rfl rfl ?_
  intro p e s m args below meth c E
  have iX3 : ∀ w ∈ u_ws RX3 TX3 8, w ∈ (Cond.code yX4_of cX4_of 3 (some .int) :: bigT) := fun w h => List.mem_cons_of_mem _ (uw_X3 w h)
  have iX4 : ∀ w ∈ u_ws RX4 TX4 11, w ∈ (Cond.code yX4_of cX4_of 3 (some .int) :: bigT) := fun w h => List.mem_cons_of_mem _ (uw_X4 w h)
  refine jx_iload_n E dX4_of_0 1 rfl ?_
  refine jx_bipush (x := 25) E dX4_of_1 (by decide) ?_
  obtain ⟨⟨r1, v1⟩, hc1, hF⟩ := jx_bind hF
  try dsimp only at hF
  refine jx_callSi (As := [.int x1, .int 25]) (st := []) E dX4_of_3 2 rfl (k_X4_within hI x1 25 v r1 v1 hc1) (gb_S (List.mem_cons_of_mem _ tw_188) (List.mem_cons_of_mem _ tw_189) (List.mem_cons_of_mem _ tw_190) tw_187) rfl rfl rfl dd_X4_within rfl ⟨by decide, by decide⟩ ⟨Nat.le_refl 0, Nat.le_refl 0⟩ (Nat.le_of_ble_eq_true rfl) ?_
  refine jx_if_eq (tgt := 18) E dX4_of_6 (by decide) (fun hc2 => ?_) (fun hc2 => ?_)
  · rw [if_pos hc2] at hF
    refine jx_aload_n E dX4_of_18 0 rfl ?_
    refine jx_iconst (x := 0) E dX4_of_19 (by decide) ?_
    obtain ⟨⟨r3, v3⟩, hc3, hF⟩ := jx_bind hF
    try dsimp only at hF
    refine jx_callVi (As := [.int 0]) (st := []) (h := 0) E dX4_of_20 1 rfl (k_X4_finding hI 0 v1 r3 v3 hc3) (gb_V (List.mem_cons_of_mem _ tw_192) (List.mem_cons_of_mem _ tw_193) (List.mem_cons_of_mem _ tw_194) (List.mem_cons_of_mem _ tw_190) tw_191) rfl rfl rfl dd_X4_finding rfl (Nat.le_of_ble_eq_true rfl) s_X0 rfl ⟨by decide, by decide⟩ ⟨Nat.le_refl 0, Nat.le_refl 0⟩ (Nat.le_of_ble_eq_true rfl) ?_
    obtain ⟨rfl, rfl⟩ := jx_out hF
    exact jx_iret E dX4_of_23 rfl
  · rw [if_neg hc2] at hF
    refine jx_iload_n E dX4_of_9 2 rfl ?_
    refine jx_bipush (x := 7) E dX4_of_10 (by decide) ?_
    obtain ⟨⟨r4, v4⟩, hc4, hF⟩ := jx_bind hF
    try dsimp only at hF
    refine jx_callSi (As := [.int x2, .int 7]) (st := []) E dX4_of_12 2 rfl (k_X4_within hI x2 7 v1 r4 v4 hc4) (gb_S (List.mem_cons_of_mem _ tw_188) (List.mem_cons_of_mem _ tw_189) (List.mem_cons_of_mem _ tw_190) tw_187) rfl rfl rfl dd_X4_within rfl ⟨by decide, by decide⟩ ⟨Nat.le_refl 0, Nat.le_refl 0⟩ (Nat.le_of_ble_eq_true rfl) ?_
    refine jx_if_ne (tgt := 24) E dX4_of_15 (by decide) (fun hc5 => ?_) (fun hc5 => ?_)
    · rw [if_neg hc5] at hF
      refine jx_aload_n E dX4_of_24 0 rfl ?_
      refine jx_getr (C := RX4) (T := TX4) (M := 11) (k := 0) E dX4_of_25 (Nat.le_of_ble_eq_true rfl) s_X0 rfl iX4 (by decide) rfl (List.mem_cons_of_mem _ tw_195) rfl ?_
      refine jx_iload_n E dX4_of_28 1 rfl ?_
      obtain ⟨⟨r6, v6⟩, hc6, hF⟩ := jx_bind hF
      try dsimp only at hF
      refine jx_callNi (As := [.int x1]) (st := []) (h := 1) E dX4_of_29 1 rfl (k_X3_isTaken hI 1 jx_T1 x1 v4 r6 v6 hc6) (gb_N tw_51) rfl rfl rfl (ex_m4 (jx_ex E)) (List.mem_cons_of_mem _ tw_33) (List.mem_cons_of_mem _ tw_52) (List.mem_cons_of_mem _ tw_53) dd_X3_isTaken.2 rfl (Nat.le_of_ble_eq_true rfl) s_X1 rfl ⟨by decide, by decide⟩ ⟨Nat.le_refl 0, Nat.le_refl 0⟩ (Nat.le_of_ble_eq_true rfl) ?_
      refine jx_if_ne (tgt := 41) E dX4_of_32 (by decide) (fun hc7 => ?_) (fun hc7 => ?_)
      · rw [if_neg hc7] at hF
        refine jx_iload_n E dX4_of_41 2 rfl ?_
        refine jx_iconst (x := 4) E dX4_of_42 (by decide) ?_
        refine jx_icmp_ge (tgt := 58) E dX4_of_43 (by decide) (fun hc8 => ?_) (fun hc8 => ?_)
        · rw [if_pos hc8] at hF
          refine jx_iload_n E dX4_of_58 2 rfl ?_
          refine jx_iconst (x := 4) E dX4_of_59 (by decide) ?_
          refine jx_icmp_ne (tgt := 72) E dX4_of_60 (by decide) (fun hc9 => ?_) (fun hc9 => ?_)
          · rw [if_neg hc9] at hF
            refine jx_iload_n E dX4_of_72 2 rfl ?_
            refine jx_iconst (x := 5) E dX4_of_73 (by decide) ?_
            refine jx_icmp_ne (tgt := 88) E dX4_of_74 (by decide) (fun hc10 => ?_) (fun hc10 => ?_)
            · rw [if_neg hc10] at hF
              refine jx_aload_n E dX4_of_88 0 rfl ?_
              refine jx_getr (C := RX4) (T := TX4) (M := 11) (k := 0) E dX4_of_89 (Nat.le_of_ble_eq_true rfl) s_X0 rfl iX4 (by decide) rfl (List.mem_cons_of_mem _ tw_195) rfl ?_
              refine jx_iload_n E dX4_of_92 1 rfl ?_
              obtain ⟨⟨r11, v11⟩, hc11, hF⟩ := jx_bind hF
              try dsimp only at hF
              refine jx_callNi (As := [.int x1]) (st := []) (h := 1) E dX4_of_93 1 rfl (k_X3_growth hI 1 jx_T1 x1 v6 r11 v11 hc11) (gb_N tw_180) rfl rfl rfl (ex_m10 (jx_ex E)) (List.mem_cons_of_mem _ tw_33) (List.mem_cons_of_mem _ tw_182) (List.mem_cons_of_mem _ tw_183) dd_X3_growth.2 rfl (Nat.le_of_ble_eq_true rfl) s_X1 rfl ⟨by decide, by decide⟩ ⟨Nat.le_refl 0, Nat.le_refl 0⟩ (Nat.le_of_ble_eq_true rfl) ?_
              obtain ⟨rfl, rfl⟩ := jx_out hF
              exact jx_iret E dX4_of_96 rfl
            · rw [if_pos hc10] at hF
              refine jx_aload_n E dX4_of_77 0 rfl ?_
              refine jx_getr (C := RX4) (T := TX4) (M := 11) (k := 0) E dX4_of_78 (Nat.le_of_ble_eq_true rfl) s_X0 rfl iX4 (by decide) rfl (List.mem_cons_of_mem _ tw_195) rfl ?_
              refine jx_iload_n E dX4_of_81 1 rfl ?_
              obtain ⟨⟨r12, v12⟩, hc12, hF⟩ := jx_bind hF
              try dsimp only at hF
              refine jx_callNi (As := [.int x1]) (st := []) (h := 1) E dX4_of_82 1 rfl (k_X3_squarePrice hI 1 jx_T1 x1 v6 r12 v12 hc12) (gb_N tw_74) rfl rfl rfl (ex_m9 (jx_ex E)) (List.mem_cons_of_mem _ tw_33) (List.mem_cons_of_mem _ tw_75) (List.mem_cons_of_mem _ tw_76) dd_X3_squarePrice.2 rfl (Nat.le_of_ble_eq_true rfl) s_X1 rfl ⟨by decide, by decide⟩ ⟨Nat.le_refl 0, Nat.le_refl 0⟩ (Nat.le_of_ble_eq_true rfl) ?_
              refine jx_goto (tgt := 96) E dX4_of_85 (by decide) ?_
              obtain ⟨rfl, rfl⟩ := jx_out hF
              exact jx_iret E dX4_of_96 rfl
          · rw [if_pos hc9] at hF
            refine jx_aload_n E dX4_of_63 0 rfl ?_
            refine jx_getr (C := RX4) (T := TX4) (M := 11) (k := 0) E dX4_of_64 (Nat.le_of_ble_eq_true rfl) s_X0 rfl iX4 (by decide) rfl (List.mem_cons_of_mem _ tw_195) rfl ?_
            refine jx_iload_n E dX4_of_67 1 rfl ?_
            obtain ⟨⟨r13, v13⟩, hc13, hF⟩ := jx_bind hF
            try dsimp only at hF
            refine jx_callNi (As := [.int x1]) (st := []) (h := 1) E dX4_of_68 1 rfl (k_X3_standing hI 1 jx_T1 x1 v6 r13 v13 hc13) (gb_N tw_54) rfl rfl rfl (ex_m8 (jx_ex E)) (List.mem_cons_of_mem _ tw_33) (List.mem_cons_of_mem _ tw_55) (List.mem_cons_of_mem _ tw_56) dd_X3_standing.2 rfl (Nat.le_of_ble_eq_true rfl) s_X1 rfl ⟨by decide, by decide⟩ ⟨Nat.le_refl 0, Nat.le_refl 0⟩ (Nat.le_of_ble_eq_true rfl) ?_
            obtain ⟨rfl, rfl⟩ := jx_out hF
            exact jx_iret E dX4_of_71 rfl
        · rw [if_neg hc8] at hF
          refine jx_aload_n E dX4_of_46 0 rfl ?_
          refine jx_getr (C := RX4) (T := TX4) (M := 11) (k := 0) E dX4_of_47 (Nat.le_of_ble_eq_true rfl) s_X0 rfl iX4 (by decide) rfl (List.mem_cons_of_mem _ tw_195) rfl ?_
          refine jx_getrN (C := RX3) (T := TX3) (M := 8) (k := 0) E dX4_of_50 (Nat.le_of_ble_eq_true rfl) s_X1 rfl iX3 (by decide) rfl (ex_f0 (jx_ex E)) rfl ?_
          refine jx_iload_n E dX4_of_53 2 rfl ?_
          obtain ⟨hg14, hF⟩ := jx_guard hF
          refine jx_aald (h' := (1 + 3 + (x2).toNatClampNeg)) E dX4_of_54 (Nat.le_of_ble_eq_true rfl) s_X2 hg14 (l_Tr (t := 1) (l_lt hg14)) ?_
          refine jx_iload_n E dX4_of_55 1 rfl ?_
          obtain ⟨hg15, hF⟩ := jx_guard hF
          refine jx_iald (h := (1 + 3 + (x2).toNatClampNeg)) (j := (Int32.toNatClampNeg x1)) E dX4_of_56 (n_Tr jx_T1 (l_lt hg14)) (s_Tr jx_T1 (l_lt hg14)) hg15 rfl ?_
          obtain ⟨rfl, rfl⟩ := jx_out hF
          exact jx_iret E dX4_of_57 rfl
      · rw [if_pos hc7] at hF
        refine jx_aload_n E dX4_of_35 0 rfl ?_
        refine jx_iconst (x := 3) E dX4_of_36 (by decide) ?_
        obtain ⟨⟨r16, v16⟩, hc16, hF⟩ := jx_bind hF
        try dsimp only at hF
        refine jx_callVi (As := [.int 3]) (st := []) (h := 0) E dX4_of_37 1 rfl (k_X4_finding hI 3 v6 r16 v16 hc16) (gb_V (List.mem_cons_of_mem _ tw_192) (List.mem_cons_of_mem _ tw_193) (List.mem_cons_of_mem _ tw_194) (List.mem_cons_of_mem _ tw_190) tw_191) rfl rfl rfl dd_X4_finding rfl (Nat.le_of_ble_eq_true rfl) s_X0 rfl ⟨by decide, by decide⟩ ⟨Nat.le_refl 0, Nat.le_refl 0⟩ (Nat.le_of_ble_eq_true rfl) ?_
        obtain ⟨rfl, rfl⟩ := jx_out hF
        exact jx_iret E dX4_of_40 rfl
    · rw [if_pos hc5] at hF
      refine jx_aload_n E dX4_of_18 0 rfl ?_
      refine jx_iconst (x := 0) E dX4_of_19 (by decide) ?_
      obtain ⟨⟨r17, v17⟩, hc17, hF⟩ := jx_bind hF
      try dsimp only at hF
      refine jx_callVi (As := [.int 0]) (st := []) (h := 0) E dX4_of_20 1 rfl (k_X4_finding hI 0 v4 r17 v17 hc17) (gb_V (List.mem_cons_of_mem _ tw_192) (List.mem_cons_of_mem _ tw_193) (List.mem_cons_of_mem _ tw_194) (List.mem_cons_of_mem _ tw_190) tw_191) rfl rfl rfl dd_X4_finding rfl (Nat.le_of_ble_eq_true rfl) s_X0 rfl ⟨by decide, by decide⟩ ⟨Nat.le_refl 0, Nat.le_refl 0⟩ (Nat.le_of_ble_eq_true rfl) ?_
      obtain ⟨rfl, rfl⟩ := jx_out hF
      exact jx_iret E dX4_of_23 rfl
def f_X4_thingLimit (x0 : Int32) (v : jx_V) : Option (Int32 × jx_V) := (if x0 = 0 then (some (7, v)) else (if x0 = 1 then (some (4, v)) else (if x0 = 2 then (some (10, v)) else (some (4, v)))))
def rm_X4_thingLimit : Room := { frames := 0, cells := 0, slots := 0, locals := 0 }
set_option maxHeartbeats 4000000 in
set_option maxRecDepth 100000 in
theorem k_X4_thingLimit {l : Launch} {D : va_G} {cI cJ : ClassId} {ad : Nat → Nat} {A : Nat → Prop} {adK adV : Nat → Nat} (hI : jx_inj 67 ad A) (x0 : Int32) (v : jx_V) (r : Int32) (v' : jx_V) (hF : f_X4_thingLimit x0 v = some (r, v')) : jx_Ci l D vwCl 67 cI cJ ad shX A (ex_X adK adV A) yX4_thingLimit (Cond.code yX4_thingLimit cX4_thingLimit 1 (some .int) :: bigT) rm_X4_thingLimit [.int x0] v r v' := by
  unfold f_X4_thingLimit at hF
  refine jx_enteri bigT RX4 cX4_thingLimit 1 (some .int) [(0, .int x0)] hI (ex_X_ok adK adV A) (by decide +kernel) rfl (Nat.le_of_ble_eq_true rfl) rfl rfl ?_
  intro p e s m args below meth c E
  refine jx_iload_n E dX4_thingLimit_0 0 rfl ?_
  by_cases hc1 : x0 = 0
  · rw [if_pos hc1] at hF
    refine jx_tableIn (tgt := 28) (z := 0) E dX4_thingLimit_1 hc1 (by decide) (by decide) rfl (by decide) ?_
    refine jx_bipush (x := 7) E dX4_thingLimit_28 (by decide) ?_
    obtain ⟨rfl, rfl⟩ := jx_out hF
    exact jx_iret E dX4_thingLimit_30 rfl
  rw [if_neg hc1] at hF
  by_cases hc2 : x0 = 1
  · rw [if_pos hc2] at hF
    refine jx_tableIn (tgt := 31) (z := 1) E dX4_thingLimit_1 hc2 (by decide) (by decide) rfl (by decide) ?_
    refine jx_iconst (x := 4) E dX4_thingLimit_31 (by decide) ?_
    obtain ⟨rfl, rfl⟩ := jx_out hF
    exact jx_iret E dX4_thingLimit_32 rfl
  rw [if_neg hc2] at hF
  by_cases hc3 : x0 = 2
  · rw [if_pos hc3] at hF
    refine jx_tableIn (tgt := 33) (z := 2) E dX4_thingLimit_1 hc3 (by decide) (by decide) rfl (by decide) ?_
    refine jx_bipush (x := 10) E dX4_thingLimit_33 (by decide) ?_
    obtain ⟨rfl, rfl⟩ := jx_out hF
    exact jx_iret E dX4_thingLimit_35 rfl
  rw [if_neg hc3] at hF
  refine jx_tableOut (tgt := 36) E dX4_thingLimit_1 (by have hz1 := jx_ne hc1 (k := 0) (by decide); have hz2 := jx_ne hc2 (k := 1) (by decide); have hz3 := jx_ne hc3 (k := 2) (by decide); omega) (by decide) ?_
  refine jx_iconst (x := 4) E dX4_thingLimit_36 (by decide) ?_
  obtain ⟨rfl, rfl⟩ := jx_out hF
  exact jx_iret E dX4_thingLimit_37 rfl
def f_X4_change (x1 : Int32) (x2 : Int32) (x3 : Int32) (v : jx_V) : Option (Int32 × jx_V) := ((f_X4_within x1 25 v).bind (fun (r1, v1) => (if r1 = 0 then ((f_X4_finding 0 v1).bind (fun (r3, v3) => (some (r3, v3)))) else ((f_X4_within x2 4 v1).bind (fun (r4, v4) => (if r4 = 0 then ((f_X4_finding 0 v4).bind (fun (r6, v6) => (some (r6, v6)))) else ((f_X4_thingLimit x2 v4).bind (fun (r7, v7) => ((f_X4_within x3 r7 v7).bind (fun (r8, v8) => (if r8 = 0 then ((f_X4_finding 0 v8).bind (fun (r17, v17) => (some (r17, v17)))) else ((f_X3_isTaken 1 x1 v8).bind (fun (r10, v10) => (if r10 = 0 then ((f_X4_finding 3 v10).bind (fun (r16, v16) => (some (r16, v16)))) else (if (x2 < 0 ∨ 4 ≤ (x2).toNatClampNeg) then none else (if (x1 < 0 ∨ 25 ≤ Int32.toNatClampNeg x1) then none else (if (x2 < 0 ∨ 4 ≤ (x2).toNatClampNeg) then none else (if (x1 < 0 ∨ 25 ≤ Int32.toNatClampNeg x1) then none else (some ((v10 (1 + 3 + (x2).toNatClampNeg) (Int32.toNatClampNeg x1)), (jx_up v10 (1 + 3 + (x2).toNatClampNeg) (Int32.toNatClampNeg x1) x3)))))))))))))))))))))
def rm_X4_change : Room := { frames := 1, cells := 0, slots := 0, locals := 21 }
set_option maxHeartbeats 4000000 in
set_option maxRecDepth 100000 in
theorem k_X4_change {l : Launch} {D : va_G} {cI cJ : ClassId} {ad : Nat → Nat} {A : Nat → Prop} {adK adV : Nat → Nat} (hI : jx_inj 67 ad A) (x1 : Int32) (x2 : Int32) (x3 : Int32) (v : jx_V) (r : Int32) (v' : jx_V) (hF : f_X4_change x1 x2 x3 v = some (r, v')) : jx_Ci l D vwCl 67 cI cJ ad shX A (ex_X adK adV A) yX4_change (Cond.code yX4_change cX4_change 5 (some .int) :: bigT) rm_X4_change [.ref (ad 0), .int x1, .int x2, .int x3] v r v' := by
  unfold f_X4_change at hF
  refine jx_enteri bigT RX4 cX4_change 5 (some .int) [(0, .ref (ad 0)), (1, .int x1), (2, .int x2), (3, .int x3)] hI (ex_X_ok adK adV A) (by decide +kernel) rfl (Nat.le_of_ble_eq_true rfl) rfl rfl ?_
  intro p e s m args below meth c E
  have iX3 : ∀ w ∈ u_ws RX3 TX3 8, w ∈ (Cond.code yX4_change cX4_change 5 (some .int) :: bigT) := fun w h => List.mem_cons_of_mem _ (uw_X3 w h)
  have iX4 : ∀ w ∈ u_ws RX4 TX4 11, w ∈ (Cond.code yX4_change cX4_change 5 (some .int) :: bigT) := fun w h => List.mem_cons_of_mem _ (uw_X4 w h)
  refine jx_iload_n E dX4_change_0 1 rfl ?_
  refine jx_bipush (x := 25) E dX4_change_1 (by decide) ?_
  obtain ⟨⟨r1, v1⟩, hc1, hF⟩ := jx_bind hF
  try dsimp only at hF
  refine jx_callSi (As := [.int x1, .int 25]) (st := []) E dX4_change_3 2 rfl (k_X4_within hI x1 25 v r1 v1 hc1) (gb_S (List.mem_cons_of_mem _ tw_188) (List.mem_cons_of_mem _ tw_189) (List.mem_cons_of_mem _ tw_190) tw_187) rfl rfl rfl dd_X4_within rfl ⟨by decide, by decide⟩ ⟨Nat.le_refl 0, Nat.le_refl 0⟩ (Nat.le_of_ble_eq_true rfl) ?_
  refine jx_if_eq (tgt := 28) E dX4_change_6 (by decide) (fun hc2 => ?_) (fun hc2 => ?_)
  · rw [if_pos hc2] at hF
    refine jx_aload_n E dX4_change_28 0 rfl ?_
    refine jx_iconst (x := 0) E dX4_change_29 (by decide) ?_
    obtain ⟨⟨r3, v3⟩, hc3, hF⟩ := jx_bind hF
    try dsimp only at hF
    refine jx_callVi (As := [.int 0]) (st := []) (h := 0) E dX4_change_30 1 rfl (k_X4_finding hI 0 v1 r3 v3 hc3) (gb_V (List.mem_cons_of_mem _ tw_192) (List.mem_cons_of_mem _ tw_193) (List.mem_cons_of_mem _ tw_194) (List.mem_cons_of_mem _ tw_190) tw_191) rfl rfl rfl dd_X4_finding rfl (Nat.le_of_ble_eq_true rfl) s_X0 rfl ⟨by decide, by decide⟩ ⟨Nat.le_refl 0, Nat.le_refl 0⟩ (Nat.le_of_ble_eq_true rfl) ?_
    obtain ⟨rfl, rfl⟩ := jx_out hF
    exact jx_iret E dX4_change_33 rfl
  · rw [if_neg hc2] at hF
    refine jx_iload_n E dX4_change_9 2 rfl ?_
    refine jx_iconst (x := 4) E dX4_change_10 (by decide) ?_
    obtain ⟨⟨r4, v4⟩, hc4, hF⟩ := jx_bind hF
    try dsimp only at hF
    refine jx_callSi (As := [.int x2, .int 4]) (st := []) E dX4_change_11 2 rfl (k_X4_within hI x2 4 v1 r4 v4 hc4) (gb_S (List.mem_cons_of_mem _ tw_188) (List.mem_cons_of_mem _ tw_189) (List.mem_cons_of_mem _ tw_190) tw_187) rfl rfl rfl dd_X4_within rfl ⟨by decide, by decide⟩ ⟨Nat.le_refl 0, Nat.le_refl 0⟩ (Nat.le_of_ble_eq_true rfl) ?_
    refine jx_if_eq (tgt := 28) E dX4_change_14 (by decide) (fun hc5 => ?_) (fun hc5 => ?_)
    · rw [if_pos hc5] at hF
      refine jx_aload_n E dX4_change_28 0 rfl ?_
      refine jx_iconst (x := 0) E dX4_change_29 (by decide) ?_
      obtain ⟨⟨r6, v6⟩, hc6, hF⟩ := jx_bind hF
      try dsimp only at hF
      refine jx_callVi (As := [.int 0]) (st := []) (h := 0) E dX4_change_30 1 rfl (k_X4_finding hI 0 v4 r6 v6 hc6) (gb_V (List.mem_cons_of_mem _ tw_192) (List.mem_cons_of_mem _ tw_193) (List.mem_cons_of_mem _ tw_194) (List.mem_cons_of_mem _ tw_190) tw_191) rfl rfl rfl dd_X4_finding rfl (Nat.le_of_ble_eq_true rfl) s_X0 rfl ⟨by decide, by decide⟩ ⟨Nat.le_refl 0, Nat.le_refl 0⟩ (Nat.le_of_ble_eq_true rfl) ?_
      obtain ⟨rfl, rfl⟩ := jx_out hF
      exact jx_iret E dX4_change_33 rfl
    · rw [if_neg hc5] at hF
      refine jx_iload_n E dX4_change_17 3 rfl ?_
      refine jx_iload_n E dX4_change_18 2 rfl ?_
      obtain ⟨⟨r7, v7⟩, hc7, hF⟩ := jx_bind hF
      try dsimp only at hF
      refine jx_callSi (As := [.int x2]) (st := [.int x3]) E dX4_change_19 1 rfl (k_X4_thingLimit hI x2 v4 r7 v7 hc7) (gb_S (List.mem_cons_of_mem _ tw_200) (List.mem_cons_of_mem _ tw_201) (List.mem_cons_of_mem _ tw_190) tw_199) rfl rfl rfl dd_X4_thingLimit rfl ⟨by decide, by decide⟩ ⟨Nat.le_refl 0, Nat.le_refl 0⟩ (Nat.le_of_ble_eq_true rfl) ?_
      obtain ⟨⟨r8, v8⟩, hc8, hF⟩ := jx_bind hF
      try dsimp only at hF
      refine jx_callSi (As := [.int x3, .int r7]) (st := []) E dX4_change_22 2 rfl (k_X4_within hI x3 r7 v7 r8 v8 hc8) (gb_S (List.mem_cons_of_mem _ tw_188) (List.mem_cons_of_mem _ tw_189) (List.mem_cons_of_mem _ tw_190) tw_187) rfl rfl rfl dd_X4_within rfl ⟨by decide, by decide⟩ ⟨Nat.le_refl 0, Nat.le_refl 0⟩ (Nat.le_of_ble_eq_true rfl) ?_
      refine jx_if_ne (tgt := 34) E dX4_change_25 (by decide) (fun hc9 => ?_) (fun hc9 => ?_)
      · rw [if_neg hc9] at hF
        refine jx_aload_n E dX4_change_34 0 rfl ?_
        refine jx_getr (C := RX4) (T := TX4) (M := 11) (k := 0) E dX4_change_35 (Nat.le_of_ble_eq_true rfl) s_X0 rfl iX4 (by decide) rfl (List.mem_cons_of_mem _ tw_195) rfl ?_
        refine jx_iload_n E dX4_change_38 1 rfl ?_
        obtain ⟨⟨r10, v10⟩, hc10, hF⟩ := jx_bind hF
        try dsimp only at hF
        refine jx_callNi (As := [.int x1]) (st := []) (h := 1) E dX4_change_39 1 rfl (k_X3_isTaken hI 1 jx_T1 x1 v8 r10 v10 hc10) (gb_N tw_51) rfl rfl rfl (ex_m4 (jx_ex E)) (List.mem_cons_of_mem _ tw_33) (List.mem_cons_of_mem _ tw_52) (List.mem_cons_of_mem _ tw_53) dd_X3_isTaken.2 rfl (Nat.le_of_ble_eq_true rfl) s_X1 rfl ⟨by decide, by decide⟩ ⟨Nat.le_refl 0, Nat.le_refl 0⟩ (Nat.le_of_ble_eq_true rfl) ?_
        refine jx_if_ne (tgt := 51) E dX4_change_42 (by decide) (fun hc11 => ?_) (fun hc11 => ?_)
        · rw [if_neg hc11] at hF
          refine jx_aload_n E dX4_change_51 0 rfl ?_
          refine jx_getr (C := RX4) (T := TX4) (M := 11) (k := 0) E dX4_change_52 (Nat.le_of_ble_eq_true rfl) s_X0 rfl iX4 (by decide) rfl (List.mem_cons_of_mem _ tw_195) rfl ?_
          refine jx_getrN (C := RX3) (T := TX3) (M := 8) (k := 0) E dX4_change_55 (Nat.le_of_ble_eq_true rfl) s_X1 rfl iX3 (by decide) rfl (ex_f0 (jx_ex E)) rfl ?_
          refine jx_iload_n E dX4_change_58 2 rfl ?_
          obtain ⟨hg12, hF⟩ := jx_guard hF
          refine jx_aald (h' := (1 + 3 + (x2).toNatClampNeg)) E dX4_change_59 (Nat.le_of_ble_eq_true rfl) s_X2 hg12 (l_Tr (t := 1) (l_lt hg12)) ?_
          refine jx_iload_n E dX4_change_60 1 rfl ?_
          obtain ⟨hg13, hF⟩ := jx_guard hF
          refine jx_iald (h := (1 + 3 + (x2).toNatClampNeg)) (j := (Int32.toNatClampNeg x1)) E dX4_change_61 (n_Tr jx_T1 (l_lt hg12)) (s_Tr jx_T1 (l_lt hg12)) hg13 rfl ?_
          refine jx_istore (lv' := [(4, .int (v10 (1 + 3 + (x2).toNatClampNeg) (Int32.toNatClampNeg x1))), (0, .ref (ad 0)), (1, .int x1), (2, .int x2), (3, .int x3)]) E dX4_change_62 (by decide) rfl ?_
          refine jx_aload_n E dX4_change_64 1 rfl ?_
          refine jx_getr (C := RX4) (T := TX4) (M := 11) (k := 0) E dX4_change_65 (Nat.le_of_ble_eq_true rfl) s_X0 rfl iX4 (by decide) rfl (List.mem_cons_of_mem _ tw_195) rfl ?_
          refine jx_getrN (C := RX3) (T := TX3) (M := 8) (k := 0) E dX4_change_68 (Nat.le_of_ble_eq_true rfl) s_X1 rfl iX3 (by decide) rfl (ex_f0 (jx_ex E)) rfl ?_
          refine jx_iload_n E dX4_change_71 3 rfl ?_
          obtain ⟨hg14, hF⟩ := jx_guard hF
          refine jx_aald (h' := (1 + 3 + (x2).toNatClampNeg)) E dX4_change_72 (Nat.le_of_ble_eq_true rfl) s_X2 hg14 (l_Tr (t := 1) (l_lt hg14)) ?_
          refine jx_iload_n E dX4_change_73 2 rfl ?_
          refine jx_iload_n E dX4_change_74 4 rfl ?_
          obtain ⟨hg15, hF⟩ := jx_guard hF
          refine jx_iast (h := (1 + 3 + (x2).toNatClampNeg)) (j := (Int32.toNatClampNeg x1)) E dX4_change_75 (n_Tr jx_T1 (l_lt hg14)) (s_Tr jx_T1 (l_lt hg14)) hg15 rfl ?_
          refine jx_iload E dX4_change_76 0 rfl ?_
          obtain ⟨rfl, rfl⟩ := jx_out hF
          exact jx_iret E dX4_change_78 rfl
        · rw [if_pos hc11] at hF
          refine jx_aload_n E dX4_change_45 0 rfl ?_
          refine jx_iconst (x := 3) E dX4_change_46 (by decide) ?_
          obtain ⟨⟨r16, v16⟩, hc16, hF⟩ := jx_bind hF
          try dsimp only at hF
          refine jx_callVi (As := [.int 3]) (st := []) (h := 0) E dX4_change_47 1 rfl (k_X4_finding hI 3 v10 r16 v16 hc16) (gb_V (List.mem_cons_of_mem _ tw_192) (List.mem_cons_of_mem _ tw_193) (List.mem_cons_of_mem _ tw_194) (List.mem_cons_of_mem _ tw_190) tw_191) rfl rfl rfl dd_X4_finding rfl (Nat.le_of_ble_eq_true rfl) s_X0 rfl ⟨by decide, by decide⟩ ⟨Nat.le_refl 0, Nat.le_refl 0⟩ (Nat.le_of_ble_eq_true rfl) ?_
          obtain ⟨rfl, rfl⟩ := jx_out hF
          exact jx_iret E dX4_change_50 rfl
      · rw [if_pos hc9] at hF
        refine jx_aload_n E dX4_change_28 0 rfl ?_
        refine jx_iconst (x := 0) E dX4_change_29 (by decide) ?_
        obtain ⟨⟨r17, v17⟩, hc17, hF⟩ := jx_bind hF
        try dsimp only at hF
        refine jx_callVi (As := [.int 0]) (st := []) (h := 0) E dX4_change_30 1 rfl (k_X4_finding hI 0 v8 r17 v17 hc17) (gb_V (List.mem_cons_of_mem _ tw_192) (List.mem_cons_of_mem _ tw_193) (List.mem_cons_of_mem _ tw_194) (List.mem_cons_of_mem _ tw_190) tw_191) rfl rfl rfl dd_X4_finding rfl (Nat.le_of_ble_eq_true rfl) s_X0 rfl ⟨by decide, by decide⟩ ⟨Nat.le_refl 0, Nat.le_refl 0⟩ (Nat.le_of_ble_eq_true rfl) ?_
        obtain ⟨rfl, rfl⟩ := jx_out hF
        exact jx_iret E dX4_change_33 rfl
def f_X4_price (x1 : Int32) (x2 : Int32) (v : jx_V) : Option (Int32 × jx_V) := ((f_X4_within x1 4 v).bind (fun (r1, v1) => (if r1 = 0 then ((f_X4_finding 0 v1).bind (fun (r3, v3) => (some (r3, v3)))) else ((f_X4_within x2 100 v1).bind (fun (r4, v4) => (if r4 = 0 then ((f_X4_finding 0 v4).bind (fun (r8, v8) => (some (r8, v8)))) else (if (x1 < 0 ∨ 4 ≤ Int32.toNatClampNeg x1) then none else (if (x1 < 0 ∨ 4 ≤ Int32.toNatClampNeg x1) then none else (some ((v4 14 (Int32.toNatClampNeg x1)), (jx_up v4 14 (Int32.toNatClampNeg x1) x2)))))))))))
def rm_X4_price : Room := { frames := 1, cells := 0, slots := 0, locals := 21 }
set_option maxHeartbeats 4000000 in
set_option maxRecDepth 100000 in
theorem k_X4_price {l : Launch} {D : va_G} {cI cJ : ClassId} {ad : Nat → Nat} {A : Nat → Prop} {adK adV : Nat → Nat} (hI : jx_inj 67 ad A) (x1 : Int32) (x2 : Int32) (v : jx_V) (r : Int32) (v' : jx_V) (hF : f_X4_price x1 x2 v = some (r, v')) : jx_Ci l D vwCl 67 cI cJ ad shX A (ex_X adK adV A) yX4_price (Cond.code yX4_price cX4_price 4 (some .int) :: bigT) rm_X4_price [.ref (ad 0), .int x1, .int x2] v r v' := by
  unfold f_X4_price at hF
  refine jx_enteri bigT RX4 cX4_price 4 (some .int) [(0, .ref (ad 0)), (1, .int x1), (2, .int x2)] hI (ex_X_ok adK adV A) (by decide +kernel) rfl (Nat.le_of_ble_eq_true rfl) rfl rfl ?_
  intro p e s m args below meth c E
  have iX3 : ∀ w ∈ u_ws RX3 TX3 8, w ∈ (Cond.code yX4_price cX4_price 4 (some .int) :: bigT) := fun w h => List.mem_cons_of_mem _ (uw_X3 w h)
  have iX4 : ∀ w ∈ u_ws RX4 TX4 11, w ∈ (Cond.code yX4_price cX4_price 4 (some .int) :: bigT) := fun w h => List.mem_cons_of_mem _ (uw_X4 w h)
  refine jx_iload_n E dX4_price_0 1 rfl ?_
  refine jx_iconst (x := 4) E dX4_price_1 (by decide) ?_
  obtain ⟨⟨r1, v1⟩, hc1, hF⟩ := jx_bind hF
  try dsimp only at hF
  refine jx_callSi (As := [.int x1, .int 4]) (st := []) E dX4_price_2 2 rfl (k_X4_within hI x1 4 v r1 v1 hc1) (gb_S (List.mem_cons_of_mem _ tw_188) (List.mem_cons_of_mem _ tw_189) (List.mem_cons_of_mem _ tw_190) tw_187) rfl rfl rfl dd_X4_within rfl ⟨by decide, by decide⟩ ⟨Nat.le_refl 0, Nat.le_refl 0⟩ (Nat.le_of_ble_eq_true rfl) ?_
  refine jx_if_eq (tgt := 17) E dX4_price_5 (by decide) (fun hc2 => ?_) (fun hc2 => ?_)
  · rw [if_pos hc2] at hF
    refine jx_aload_n E dX4_price_17 0 rfl ?_
    refine jx_iconst (x := 0) E dX4_price_18 (by decide) ?_
    obtain ⟨⟨r3, v3⟩, hc3, hF⟩ := jx_bind hF
    try dsimp only at hF
    refine jx_callVi (As := [.int 0]) (st := []) (h := 0) E dX4_price_19 1 rfl (k_X4_finding hI 0 v1 r3 v3 hc3) (gb_V (List.mem_cons_of_mem _ tw_192) (List.mem_cons_of_mem _ tw_193) (List.mem_cons_of_mem _ tw_194) (List.mem_cons_of_mem _ tw_190) tw_191) rfl rfl rfl dd_X4_finding rfl (Nat.le_of_ble_eq_true rfl) s_X0 rfl ⟨by decide, by decide⟩ ⟨Nat.le_refl 0, Nat.le_refl 0⟩ (Nat.le_of_ble_eq_true rfl) ?_
    obtain ⟨rfl, rfl⟩ := jx_out hF
    exact jx_iret E dX4_price_22 rfl
  · rw [if_neg hc2] at hF
    refine jx_iload_n E dX4_price_8 2 rfl ?_
    refine jx_bipush (x := 100) E dX4_price_9 (by decide) ?_
    obtain ⟨⟨r4, v4⟩, hc4, hF⟩ := jx_bind hF
    try dsimp only at hF
    refine jx_callSi (As := [.int x2, .int 100]) (st := []) E dX4_price_11 2 rfl (k_X4_within hI x2 100 v1 r4 v4 hc4) (gb_S (List.mem_cons_of_mem _ tw_188) (List.mem_cons_of_mem _ tw_189) (List.mem_cons_of_mem _ tw_190) tw_187) rfl rfl rfl dd_X4_within rfl ⟨by decide, by decide⟩ ⟨Nat.le_refl 0, Nat.le_refl 0⟩ (Nat.le_of_ble_eq_true rfl) ?_
    refine jx_if_ne (tgt := 23) E dX4_price_14 (by decide) (fun hc5 => ?_) (fun hc5 => ?_)
    · rw [if_neg hc5] at hF
      refine jx_aload_n E dX4_price_23 0 rfl ?_
      refine jx_getr (C := RX4) (T := TX4) (M := 11) (k := 0) E dX4_price_24 (Nat.le_of_ble_eq_true rfl) s_X0 rfl iX4 (by decide) rfl (List.mem_cons_of_mem _ tw_195) rfl ?_
      refine jx_getrN (C := RX3) (T := TX3) (M := 8) (k := 2) E dX4_price_27 (Nat.le_of_ble_eq_true rfl) s_X1 rfl iX3 (by decide) rfl (ex_f4 (jx_ex E)) rfl ?_
      refine jx_iload_n E dX4_price_30 1 rfl ?_
      obtain ⟨hg6, hF⟩ := jx_guard hF
      refine jx_iald (h := 14) (j := (Int32.toNatClampNeg x1)) E dX4_price_31 (Nat.le_of_ble_eq_true rfl) s_X14 hg6 rfl ?_
      refine jx_istore_n (lv' := [(3, .int (v4 14 (Int32.toNatClampNeg x1))), (0, .ref (ad 0)), (1, .int x1), (2, .int x2)]) E dX4_price_32 (by decide) rfl ?_
      refine jx_aload_n E dX4_price_33 1 rfl ?_
      refine jx_getr (C := RX4) (T := TX4) (M := 11) (k := 0) E dX4_price_34 (Nat.le_of_ble_eq_true rfl) s_X0 rfl iX4 (by decide) rfl (List.mem_cons_of_mem _ tw_195) rfl ?_
      refine jx_getrN (C := RX3) (T := TX3) (M := 8) (k := 2) E dX4_price_37 (Nat.le_of_ble_eq_true rfl) s_X1 rfl iX3 (by decide) rfl (ex_f4 (jx_ex E)) rfl ?_
      refine jx_iload_n E dX4_price_40 2 rfl ?_
      refine jx_iload_n E dX4_price_41 3 rfl ?_
      obtain ⟨hg7, hF⟩ := jx_guard hF
      refine jx_iast (h := 14) (j := (Int32.toNatClampNeg x1)) E dX4_price_42 (Nat.le_of_ble_eq_true rfl) s_X14 hg7 rfl ?_
      refine jx_iload_n E dX4_price_43 0 rfl ?_
      obtain ⟨rfl, rfl⟩ := jx_out hF
      exact jx_iret E dX4_price_44 rfl
    · rw [if_pos hc5] at hF
      refine jx_aload_n E dX4_price_17 0 rfl ?_
      refine jx_iconst (x := 0) E dX4_price_18 (by decide) ?_
      obtain ⟨⟨r8, v8⟩, hc8, hF⟩ := jx_bind hF
      try dsimp only at hF
      refine jx_callVi (As := [.int 0]) (st := []) (h := 0) E dX4_price_19 1 rfl (k_X4_finding hI 0 v4 r8 v8 hc8) (gb_V (List.mem_cons_of_mem _ tw_192) (List.mem_cons_of_mem _ tw_193) (List.mem_cons_of_mem _ tw_194) (List.mem_cons_of_mem _ tw_190) tw_191) rfl rfl rfl dd_X4_finding rfl (Nat.le_of_ble_eq_true rfl) s_X0 rfl ⟨by decide, by decide⟩ ⟨Nat.le_refl 0, Nat.le_refl 0⟩ (Nat.le_of_ble_eq_true rfl) ?_
      obtain ⟨rfl, rfl⟩ := jx_out hF
      exact jx_iret E dX4_price_22 rfl
def f_X4_window (x1 : Int32) (x2 : Int32) (x3 : Int32) (x4 : Int32) (v : jx_V) : Option (Int32 × jx_V) := ((f_X4_within x1 25 v).bind (fun (r1, v1) => (if r1 = 0 then ((f_X4_finding 0 v1).bind (fun (r3, v3) => (some (r3, v3)))) else ((f_X4_within x2 10 v1).bind (fun (r4, v4) => (if r4 = 0 then ((f_X4_finding 0 v4).bind (fun (r6, v6) => (some (r6, v6)))) else ((f_X4_within x3 4 v4).bind (fun (r7, v7) => (if r7 = 0 then ((f_X4_finding 0 v7).bind (fun (r9, v9) => (some (r9, v9)))) else ((f_X4_within x4 4 v7).bind (fun (r10, v10) => (if r10 = 0 then ((f_X4_finding 0 v10).bind (fun (r15, v15) => (some (r15, v15)))) else (if (v10 1 5) < 10 then ((f_X3_addWindow 1 x1 x2 x3 x4 v10).bind (fun v13 => (some (((v13 1 5) - 1), v13)))) else ((f_X4_finding 1 v10).bind (fun (r14, v14) => (some (r14, v14)))))))))))))))))
def rm_X4_window : Room := { frames := 1, cells := 0, slots := 0, locals := 24 }
set_option maxHeartbeats 4000000 in
set_option maxRecDepth 100000 in
theorem k_X4_window {l : Launch} {D : va_G} {cI cJ : ClassId} {ad : Nat → Nat} {A : Nat → Prop} {adK adV : Nat → Nat} (hI : jx_inj 67 ad A) (x1 : Int32) (x2 : Int32) (x3 : Int32) (x4 : Int32) (v : jx_V) (r : Int32) (v' : jx_V) (hF : f_X4_window x1 x2 x3 x4 v = some (r, v')) : jx_Ci l D vwCl 67 cI cJ ad shX A (ex_X adK adV A) yX4_window (Cond.code yX4_window cX4_window 5 (some .int) :: bigT) rm_X4_window [.ref (ad 0), .int x1, .int x2, .int x3, .int x4] v r v' := by
  unfold f_X4_window at hF
  refine jx_enteri bigT RX4 cX4_window 5 (some .int) [(0, .ref (ad 0)), (1, .int x1), (2, .int x2), (3, .int x3), (4, .int x4)] hI (ex_X_ok adK adV A) (by decide +kernel) rfl (Nat.le_of_ble_eq_true rfl) rfl rfl ?_
  intro p e s m args below meth c E
  have iX3 : ∀ w ∈ u_ws RX3 TX3 8, w ∈ (Cond.code yX4_window cX4_window 5 (some .int) :: bigT) := fun w h => List.mem_cons_of_mem _ (uw_X3 w h)
  have iX4 : ∀ w ∈ u_ws RX4 TX4 11, w ∈ (Cond.code yX4_window cX4_window 5 (some .int) :: bigT) := fun w h => List.mem_cons_of_mem _ (uw_X4 w h)
  refine jx_iload_n E dX4_window_0 1 rfl ?_
  refine jx_bipush (x := 25) E dX4_window_1 (by decide) ?_
  obtain ⟨⟨r1, v1⟩, hc1, hF⟩ := jx_bind hF
  try dsimp only at hF
  refine jx_callSi (As := [.int x1, .int 25]) (st := []) E dX4_window_3 2 rfl (k_X4_within hI x1 25 v r1 v1 hc1) (gb_S (List.mem_cons_of_mem _ tw_188) (List.mem_cons_of_mem _ tw_189) (List.mem_cons_of_mem _ tw_190) tw_187) rfl rfl rfl dd_X4_within rfl ⟨by decide, by decide⟩ ⟨Nat.le_refl 0, Nat.le_refl 0⟩ (Nat.le_of_ble_eq_true rfl) ?_
  refine jx_if_eq (tgt := 35) E dX4_window_6 (by decide) (fun hc2 => ?_) (fun hc2 => ?_)
  · rw [if_pos hc2] at hF
    refine jx_aload_n E dX4_window_35 0 rfl ?_
    refine jx_iconst (x := 0) E dX4_window_36 (by decide) ?_
    obtain ⟨⟨r3, v3⟩, hc3, hF⟩ := jx_bind hF
    try dsimp only at hF
    refine jx_callVi (As := [.int 0]) (st := []) (h := 0) E dX4_window_37 1 rfl (k_X4_finding hI 0 v1 r3 v3 hc3) (gb_V (List.mem_cons_of_mem _ tw_192) (List.mem_cons_of_mem _ tw_193) (List.mem_cons_of_mem _ tw_194) (List.mem_cons_of_mem _ tw_190) tw_191) rfl rfl rfl dd_X4_finding rfl (Nat.le_of_ble_eq_true rfl) s_X0 rfl ⟨by decide, by decide⟩ ⟨Nat.le_refl 0, Nat.le_refl 0⟩ (Nat.le_of_ble_eq_true rfl) ?_
    obtain ⟨rfl, rfl⟩ := jx_out hF
    exact jx_iret E dX4_window_40 rfl
  · rw [if_neg hc2] at hF
    refine jx_iload_n E dX4_window_9 2 rfl ?_
    refine jx_bipush (x := 10) E dX4_window_10 (by decide) ?_
    obtain ⟨⟨r4, v4⟩, hc4, hF⟩ := jx_bind hF
    try dsimp only at hF
    refine jx_callSi (As := [.int x2, .int 10]) (st := []) E dX4_window_12 2 rfl (k_X4_within hI x2 10 v1 r4 v4 hc4) (gb_S (List.mem_cons_of_mem _ tw_188) (List.mem_cons_of_mem _ tw_189) (List.mem_cons_of_mem _ tw_190) tw_187) rfl rfl rfl dd_X4_within rfl ⟨by decide, by decide⟩ ⟨Nat.le_refl 0, Nat.le_refl 0⟩ (Nat.le_of_ble_eq_true rfl) ?_
    refine jx_if_eq (tgt := 35) E dX4_window_15 (by decide) (fun hc5 => ?_) (fun hc5 => ?_)
    · rw [if_pos hc5] at hF
      refine jx_aload_n E dX4_window_35 0 rfl ?_
      refine jx_iconst (x := 0) E dX4_window_36 (by decide) ?_
      obtain ⟨⟨r6, v6⟩, hc6, hF⟩ := jx_bind hF
      try dsimp only at hF
      refine jx_callVi (As := [.int 0]) (st := []) (h := 0) E dX4_window_37 1 rfl (k_X4_finding hI 0 v4 r6 v6 hc6) (gb_V (List.mem_cons_of_mem _ tw_192) (List.mem_cons_of_mem _ tw_193) (List.mem_cons_of_mem _ tw_194) (List.mem_cons_of_mem _ tw_190) tw_191) rfl rfl rfl dd_X4_finding rfl (Nat.le_of_ble_eq_true rfl) s_X0 rfl ⟨by decide, by decide⟩ ⟨Nat.le_refl 0, Nat.le_refl 0⟩ (Nat.le_of_ble_eq_true rfl) ?_
      obtain ⟨rfl, rfl⟩ := jx_out hF
      exact jx_iret E dX4_window_40 rfl
    · rw [if_neg hc5] at hF
      refine jx_iload_n E dX4_window_18 3 rfl ?_
      refine jx_iconst (x := 4) E dX4_window_19 (by decide) ?_
      obtain ⟨⟨r7, v7⟩, hc7, hF⟩ := jx_bind hF
      try dsimp only at hF
      refine jx_callSi (As := [.int x3, .int 4]) (st := []) E dX4_window_20 2 rfl (k_X4_within hI x3 4 v4 r7 v7 hc7) (gb_S (List.mem_cons_of_mem _ tw_188) (List.mem_cons_of_mem _ tw_189) (List.mem_cons_of_mem _ tw_190) tw_187) rfl rfl rfl dd_X4_within rfl ⟨by decide, by decide⟩ ⟨Nat.le_refl 0, Nat.le_refl 0⟩ (Nat.le_of_ble_eq_true rfl) ?_
      refine jx_if_eq (tgt := 35) E dX4_window_23 (by decide) (fun hc8 => ?_) (fun hc8 => ?_)
      · rw [if_pos hc8] at hF
        refine jx_aload_n E dX4_window_35 0 rfl ?_
        refine jx_iconst (x := 0) E dX4_window_36 (by decide) ?_
        obtain ⟨⟨r9, v9⟩, hc9, hF⟩ := jx_bind hF
        try dsimp only at hF
        refine jx_callVi (As := [.int 0]) (st := []) (h := 0) E dX4_window_37 1 rfl (k_X4_finding hI 0 v7 r9 v9 hc9) (gb_V (List.mem_cons_of_mem _ tw_192) (List.mem_cons_of_mem _ tw_193) (List.mem_cons_of_mem _ tw_194) (List.mem_cons_of_mem _ tw_190) tw_191) rfl rfl rfl dd_X4_finding rfl (Nat.le_of_ble_eq_true rfl) s_X0 rfl ⟨by decide, by decide⟩ ⟨Nat.le_refl 0, Nat.le_refl 0⟩ (Nat.le_of_ble_eq_true rfl) ?_
        obtain ⟨rfl, rfl⟩ := jx_out hF
        exact jx_iret E dX4_window_40 rfl
      · rw [if_neg hc8] at hF
        refine jx_iload E dX4_window_26 4 rfl ?_
        refine jx_iconst (x := 4) E dX4_window_28 (by decide) ?_
        obtain ⟨⟨r10, v10⟩, hc10, hF⟩ := jx_bind hF
        try dsimp only at hF
        refine jx_callSi (As := [.int x4, .int 4]) (st := []) E dX4_window_29 2 rfl (k_X4_within hI x4 4 v7 r10 v10 hc10) (gb_S (List.mem_cons_of_mem _ tw_188) (List.mem_cons_of_mem _ tw_189) (List.mem_cons_of_mem _ tw_190) tw_187) rfl rfl rfl dd_X4_within rfl ⟨by decide, by decide⟩ ⟨Nat.le_refl 0, Nat.le_refl 0⟩ (Nat.le_of_ble_eq_true rfl) ?_
        refine jx_if_ne (tgt := 41) E dX4_window_32 (by decide) (fun hc11 => ?_) (fun hc11 => ?_)
        · rw [if_neg hc11] at hF
          refine jx_aload_n E dX4_window_41 0 rfl ?_
          refine jx_getr (C := RX4) (T := TX4) (M := 11) (k := 0) E dX4_window_42 (Nat.le_of_ble_eq_true rfl) s_X0 rfl iX4 (by decide) rfl (List.mem_cons_of_mem _ tw_195) rfl ?_
          refine jx_getiN (C := RX3) (T := TX3) (M := 8) (k := 5) E dX4_window_45 (Nat.le_of_ble_eq_true rfl) s_X1 rfl iX3 (by decide) rfl (ex_f10 (jx_ex E)) rfl ?_
          refine jx_bipush (x := 10) E dX4_window_48 (by decide) ?_
          refine jx_icmp_lt (tgt := 59) E dX4_window_50 (by decide) (fun hc12 => ?_) (fun hc12 => ?_)
          · rw [if_pos hc12] at hF
            refine jx_aload_n E dX4_window_59 0 rfl ?_
            refine jx_getr (C := RX4) (T := TX4) (M := 11) (k := 0) E dX4_window_60 (Nat.le_of_ble_eq_true rfl) s_X0 rfl iX4 (by decide) rfl (List.mem_cons_of_mem _ tw_195) rfl ?_
            refine jx_iload_n E dX4_window_63 1 rfl ?_
            refine jx_iload_n E dX4_window_64 2 rfl ?_
            refine jx_iload_n E dX4_window_65 3 rfl ?_
            refine jx_iload E dX4_window_66 4 rfl ?_
            obtain ⟨v13, hc13, hF⟩ := jx_bind hF
            try dsimp only at hF
            refine jx_callNv (As := [.int x1, .int x2, .int x3, .int x4]) (st := []) (h := 1) E dX4_window_68 4 rfl (k_X3_addWindow hI 1 jx_T1 x1 x2 x3 x4 v10 v13 hc13) (gb_N tw_142) rfl rfl rfl (ex_m11 (jx_ex E)) (List.mem_cons_of_mem _ tw_33) (List.mem_cons_of_mem _ tw_143) (List.mem_cons_of_mem _ tw_144) dd_X3_addWindow.2 rfl (Nat.le_of_ble_eq_true rfl) s_X1 rfl ⟨by decide, by decide⟩ ⟨Nat.le_refl 0, Nat.le_refl 0⟩ (Nat.le_of_ble_eq_true rfl) ?_
            refine jx_aload_n E dX4_window_71 0 rfl ?_
            refine jx_getr (C := RX4) (T := TX4) (M := 11) (k := 0) E dX4_window_72 (Nat.le_of_ble_eq_true rfl) s_X0 rfl iX4 (by decide) rfl (List.mem_cons_of_mem _ tw_195) rfl ?_
            refine jx_getiN (C := RX3) (T := TX3) (M := 8) (k := 5) E dX4_window_75 (Nat.le_of_ble_eq_true rfl) s_X1 rfl iX3 (by decide) rfl (ex_f10 (jx_ex E)) rfl ?_
            refine jx_iconst (x := 1) E dX4_window_78 (by decide) ?_
            refine jx_isub E dX4_window_79 ?_
            obtain ⟨rfl, rfl⟩ := jx_out hF
            exact jx_iret E dX4_window_80 rfl
          · rw [if_neg hc12] at hF
            refine jx_aload_n E dX4_window_53 0 rfl ?_
            refine jx_iconst (x := 1) E dX4_window_54 (by decide) ?_
            obtain ⟨⟨r14, v14⟩, hc14, hF⟩ := jx_bind hF
            try dsimp only at hF
            refine jx_callVi (As := [.int 1]) (st := []) (h := 0) E dX4_window_55 1 rfl (k_X4_finding hI 1 v10 r14 v14 hc14) (gb_V (List.mem_cons_of_mem _ tw_192) (List.mem_cons_of_mem _ tw_193) (List.mem_cons_of_mem _ tw_194) (List.mem_cons_of_mem _ tw_190) tw_191) rfl rfl rfl dd_X4_finding rfl (Nat.le_of_ble_eq_true rfl) s_X0 rfl ⟨by decide, by decide⟩ ⟨Nat.le_refl 0, Nat.le_refl 0⟩ (Nat.le_of_ble_eq_true rfl) ?_
            obtain ⟨rfl, rfl⟩ := jx_out hF
            exact jx_iret E dX4_window_58 rfl
        · rw [if_pos hc11] at hF
          refine jx_aload_n E dX4_window_35 0 rfl ?_
          refine jx_iconst (x := 0) E dX4_window_36 (by decide) ?_
          obtain ⟨⟨r15, v15⟩, hc15, hF⟩ := jx_bind hF
          try dsimp only at hF
          refine jx_callVi (As := [.int 0]) (st := []) (h := 0) E dX4_window_37 1 rfl (k_X4_finding hI 0 v10 r15 v15 hc15) (gb_V (List.mem_cons_of_mem _ tw_192) (List.mem_cons_of_mem _ tw_193) (List.mem_cons_of_mem _ tw_194) (List.mem_cons_of_mem _ tw_190) tw_191) rfl rfl rfl dd_X4_finding rfl (Nat.le_of_ble_eq_true rfl) s_X0 rfl ⟨by decide, by decide⟩ ⟨Nat.le_refl 0, Nat.le_refl 0⟩ (Nat.le_of_ble_eq_true rfl) ?_
          obtain ⟨rfl, rfl⟩ := jx_out hF
          exact jx_iret E dX4_window_40 rfl
def f_X4_isWindow (x1 : Int32) (v : jx_V) : Option (Int32 × jx_V) := ((f_X4_within x1 (v 1 5) v).bind (fun (r1, v1) => (if ¬ (r1 = 0 ∨ r1 = 1) then none else some (r1, v1))))
def rm_X4_isWindow : Room := { frames := 1, cells := 0, slots := 0, locals := 21 }
set_option maxHeartbeats 4000000 in
set_option maxRecDepth 100000 in
theorem k_X4_isWindow {l : Launch} {D : va_G} {cI cJ : ClassId} {ad : Nat → Nat} {A : Nat → Prop} {adK adV : Nat → Nat} (hI : jx_inj 67 ad A) (x1 : Int32) (v : jx_V) (r : Int32) (v' : jx_V) (hF : f_X4_isWindow x1 v = some (r, v')) : jx_Ci l D vwCl 67 cI cJ ad shX A (ex_X adK adV A) yX4_isWindow (Cond.code yX4_isWindow cX4_isWindow 2 (some .boolean) :: bigT) rm_X4_isWindow [.ref (ad 0), .int x1] v r v' := by
  unfold f_X4_isWindow at hF
  refine jx_enteri bigT RX4 cX4_isWindow 2 (some .boolean) [(0, .ref (ad 0)), (1, .int x1)] hI (ex_X_ok adK adV A) (by decide +kernel) rfl (Nat.le_of_ble_eq_true rfl) rfl rfl ?_
  intro p e s m args below meth c E
  have iX3 : ∀ w ∈ u_ws RX3 TX3 8, w ∈ (Cond.code yX4_isWindow cX4_isWindow 2 (some .boolean) :: bigT) := fun w h => List.mem_cons_of_mem _ (uw_X3 w h)
  have iX4 : ∀ w ∈ u_ws RX4 TX4 11, w ∈ (Cond.code yX4_isWindow cX4_isWindow 2 (some .boolean) :: bigT) := fun w h => List.mem_cons_of_mem _ (uw_X4 w h)
  refine jx_iload_n E dX4_isWindow_0 1 rfl ?_
  refine jx_aload_n E dX4_isWindow_1 0 rfl ?_
  refine jx_getr (C := RX4) (T := TX4) (M := 11) (k := 0) E dX4_isWindow_2 (Nat.le_of_ble_eq_true rfl) s_X0 rfl iX4 (by decide) rfl (List.mem_cons_of_mem _ tw_195) rfl ?_
  refine jx_getiN (C := RX3) (T := TX3) (M := 8) (k := 5) E dX4_isWindow_5 (Nat.le_of_ble_eq_true rfl) s_X1 rfl iX3 (by decide) rfl (ex_f10 (jx_ex E)) rfl ?_
  obtain ⟨⟨r1, v1⟩, hc1, hF⟩ := jx_bind hF
  try dsimp only at hF
  refine jx_callSi (As := [.int x1, .int (v 1 5)]) (st := []) E dX4_isWindow_8 2 rfl (k_X4_within hI x1 (v 1 5) v r1 v1 hc1) (gb_S (List.mem_cons_of_mem _ tw_188) (List.mem_cons_of_mem _ tw_189) (List.mem_cons_of_mem _ tw_190) tw_187) rfl rfl rfl dd_X4_within rfl ⟨by decide, by decide⟩ ⟨Nat.le_refl 0, Nat.le_refl 0⟩ (Nat.le_of_ble_eq_true rfl) ?_
  obtain ⟨hg2, hF⟩ := jx_guard hF
  obtain ⟨rfl, rfl⟩ := jx_out hF
  exact jx_zret E dX4_isWindow_11 rfl (Decidable.not_not.mp hg2)
def f_X4_windowOf (x1 : Int32) (x2 : Int32) (v : jx_V) : Option (Int32 × jx_V) := ((f_X4_isWindow x1 v).bind (fun (r1, v1) => (if r1 = 0 then ((f_X4_finding 0 v1).bind (fun (r3, v3) => (some (r3, v3)))) else ((f_X4_within x2 6 v1).bind (fun (r4, v4) => (if r4 = 0 then ((f_X4_finding 0 v4).bind (fun (r8, v8) => (some (r8, v8)))) else (if (x2 < 0 ∨ 6 ≤ (x2).toNatClampNeg) then none else (if (x1 < 0 ∨ 10 ≤ Int32.toNatClampNeg x1) then none else (some ((v4 (1 + 7 + (x2).toNatClampNeg) (Int32.toNatClampNeg x1)), v4))))))))))
def rm_X4_windowOf : Room := { frames := 2, cells := 0, slots := 0, locals := 42 }
set_option maxHeartbeats 4000000 in
set_option maxRecDepth 100000 in
theorem k_X4_windowOf {l : Launch} {D : va_G} {cI cJ : ClassId} {ad : Nat → Nat} {A : Nat → Prop} {adK adV : Nat → Nat} (hI : jx_inj 67 ad A) (x1 : Int32) (x2 : Int32) (v : jx_V) (r : Int32) (v' : jx_V) (hF : f_X4_windowOf x1 x2 v = some (r, v')) : jx_Ci l D vwCl 67 cI cJ ad shX A (ex_X adK adV A) yX4_windowOf (Cond.code yX4_windowOf cX4_windowOf 3 (some .int) :: bigT) rm_X4_windowOf [.ref (ad 0), .int x1, .int x2] v r v' := by
  unfold f_X4_windowOf at hF
  refine jx_enteri bigT RX4 cX4_windowOf 3 (some .int) [(0, .ref (ad 0)), (1, .int x1), (2, .int x2)] hI (ex_X_ok adK adV A) (by decide +kernel) rfl (Nat.le_of_ble_eq_true rfl) rfl rfl ?_
  intro p e s m args below meth c E
  have iX3 : ∀ w ∈ u_ws RX3 TX3 8, w ∈ (Cond.code yX4_windowOf cX4_windowOf 3 (some .int) :: bigT) := fun w h => List.mem_cons_of_mem _ (uw_X3 w h)
  have iX4 : ∀ w ∈ u_ws RX4 TX4 11, w ∈ (Cond.code yX4_windowOf cX4_windowOf 3 (some .int) :: bigT) := fun w h => List.mem_cons_of_mem _ (uw_X4 w h)
  refine jx_aload_n E dX4_windowOf_0 0 rfl ?_
  refine jx_iload_n E dX4_windowOf_1 1 rfl ?_
  obtain ⟨⟨r1, v1⟩, hc1, hF⟩ := jx_bind hF
  try dsimp only at hF
  refine jx_callVi (As := [.int x1]) (st := []) (h := 0) E dX4_windowOf_2 1 rfl (k_X4_isWindow hI x1 v r1 v1 hc1) (gb_V (List.mem_cons_of_mem _ tw_203) (List.mem_cons_of_mem _ tw_204) (List.mem_cons_of_mem _ tw_205) (List.mem_cons_of_mem _ tw_190) tw_202) rfl rfl rfl dd_X4_isWindow rfl (Nat.le_of_ble_eq_true rfl) s_X0 rfl ⟨by decide, by decide⟩ ⟨Nat.le_refl 0, Nat.le_refl 0⟩ (Nat.le_of_ble_eq_true rfl) ?_
  refine jx_if_eq (tgt := 17) E dX4_windowOf_5 (by decide) (fun hc2 => ?_) (fun hc2 => ?_)
  · rw [if_pos hc2] at hF
    refine jx_aload_n E dX4_windowOf_17 0 rfl ?_
    refine jx_iconst (x := 0) E dX4_windowOf_18 (by decide) ?_
    obtain ⟨⟨r3, v3⟩, hc3, hF⟩ := jx_bind hF
    try dsimp only at hF
    refine jx_callVi (As := [.int 0]) (st := []) (h := 0) E dX4_windowOf_19 1 rfl (k_X4_finding hI 0 v1 r3 v3 hc3) (gb_V (List.mem_cons_of_mem _ tw_192) (List.mem_cons_of_mem _ tw_193) (List.mem_cons_of_mem _ tw_194) (List.mem_cons_of_mem _ tw_190) tw_191) rfl rfl rfl dd_X4_finding rfl (Nat.le_of_ble_eq_true rfl) s_X0 rfl ⟨by decide, by decide⟩ ⟨Nat.le_refl 0, Nat.le_refl 0⟩ (Nat.le_of_ble_eq_true rfl) ?_
    obtain ⟨rfl, rfl⟩ := jx_out hF
    exact jx_iret E dX4_windowOf_22 rfl
  · rw [if_neg hc2] at hF
    refine jx_iload_n E dX4_windowOf_8 2 rfl ?_
    refine jx_bipush (x := 6) E dX4_windowOf_9 (by decide) ?_
    obtain ⟨⟨r4, v4⟩, hc4, hF⟩ := jx_bind hF
    try dsimp only at hF
    refine jx_callSi (As := [.int x2, .int 6]) (st := []) E dX4_windowOf_11 2 rfl (k_X4_within hI x2 6 v1 r4 v4 hc4) (gb_S (List.mem_cons_of_mem _ tw_188) (List.mem_cons_of_mem _ tw_189) (List.mem_cons_of_mem _ tw_190) tw_187) rfl rfl rfl dd_X4_within rfl ⟨by decide, by decide⟩ ⟨Nat.le_refl 0, Nat.le_refl 0⟩ (Nat.le_of_ble_eq_true rfl) ?_
    refine jx_if_ne (tgt := 23) E dX4_windowOf_14 (by decide) (fun hc5 => ?_) (fun hc5 => ?_)
    · rw [if_neg hc5] at hF
      refine jx_aload_n E dX4_windowOf_23 0 rfl ?_
      refine jx_getr (C := RX4) (T := TX4) (M := 11) (k := 0) E dX4_windowOf_24 (Nat.le_of_ble_eq_true rfl) s_X0 rfl iX4 (by decide) rfl (List.mem_cons_of_mem _ tw_195) rfl ?_
      refine jx_getrN (C := RX3) (T := TX3) (M := 8) (k := 1) E dX4_windowOf_27 (Nat.le_of_ble_eq_true rfl) s_X1 rfl iX3 (by decide) rfl (ex_f3 (jx_ex E)) rfl ?_
      refine jx_iload_n E dX4_windowOf_30 2 rfl ?_
      obtain ⟨hg6, hF⟩ := jx_guard hF
      refine jx_aald (h' := (1 + 7 + (x2).toNatClampNeg)) E dX4_windowOf_31 (Nat.le_of_ble_eq_true rfl) s_X3 hg6 (l_Tw (t := 1) (l_lt hg6)) ?_
      refine jx_iload_n E dX4_windowOf_32 1 rfl ?_
      obtain ⟨hg7, hF⟩ := jx_guard hF
      refine jx_iald (h := (1 + 7 + (x2).toNatClampNeg)) (j := (Int32.toNatClampNeg x1)) E dX4_windowOf_33 (n_Tw jx_T1 (l_lt hg6)) (s_Tw jx_T1 (l_lt hg6)) hg7 rfl ?_
      obtain ⟨rfl, rfl⟩ := jx_out hF
      exact jx_iret E dX4_windowOf_34 rfl
    · rw [if_pos hc5] at hF
      refine jx_aload_n E dX4_windowOf_17 0 rfl ?_
      refine jx_iconst (x := 0) E dX4_windowOf_18 (by decide) ?_
      obtain ⟨⟨r8, v8⟩, hc8, hF⟩ := jx_bind hF
      try dsimp only at hF
      refine jx_callVi (As := [.int 0]) (st := []) (h := 0) E dX4_windowOf_19 1 rfl (k_X4_finding hI 0 v4 r8 v8 hc8) (gb_V (List.mem_cons_of_mem _ tw_192) (List.mem_cons_of_mem _ tw_193) (List.mem_cons_of_mem _ tw_194) (List.mem_cons_of_mem _ tw_190) tw_191) rfl rfl rfl dd_X4_finding rfl (Nat.le_of_ble_eq_true rfl) s_X0 rfl ⟨by decide, by decide⟩ ⟨Nat.le_refl 0, Nat.le_refl 0⟩ (Nat.le_of_ble_eq_true rfl) ?_
      obtain ⟨rfl, rfl⟩ := jx_out hF
      exact jx_iret E dX4_windowOf_22 rfl
def f_X4_windowLimit (x0 : Int32) (v : jx_V) : Option (Int32 × jx_V) := (if x0 = 1 then (some (10, v)) else (if x0 = 2 then (some (4, v)) else (some (4, v))))
def rm_X4_windowLimit : Room := { frames := 0, cells := 0, slots := 0, locals := 0 }
set_option maxHeartbeats 4000000 in
set_option maxRecDepth 100000 in
theorem k_X4_windowLimit {l : Launch} {D : va_G} {cI cJ : ClassId} {ad : Nat → Nat} {A : Nat → Prop} {adK adV : Nat → Nat} (hI : jx_inj 67 ad A) (x0 : Int32) (v : jx_V) (r : Int32) (v' : jx_V) (hF : f_X4_windowLimit x0 v = some (r, v')) : jx_Ci l D vwCl 67 cI cJ ad shX A (ex_X adK adV A) yX4_windowLimit (Cond.code yX4_windowLimit cX4_windowLimit 1 (some .int) :: bigT) rm_X4_windowLimit [.int x0] v r v' := by
  unfold f_X4_windowLimit at hF
  refine jx_enteri bigT RX4 cX4_windowLimit 1 (some .int) [(0, .int x0)] hI (ex_X_ok adK adV A) (by decide +kernel) rfl (Nat.le_of_ble_eq_true rfl) rfl rfl ?_
  intro p e s m args below meth c E
  refine jx_iload_n E dX4_windowLimit_0 0 rfl ?_
  by_cases hc1 : x0 = 1
  · rw [if_pos hc1] at hF
    refine jx_lookup (tgt := 28) (off := 27) E dX4_windowLimit_1 rfl (by rw [hc1]; rfl) (by decide) ?_
    refine jx_bipush (x := 10) E dX4_windowLimit_28 (by decide) ?_
    obtain ⟨rfl, rfl⟩ := jx_out hF
    exact jx_iret E dX4_windowLimit_30 rfl
  rw [if_neg hc1] at hF
  by_cases hc2 : x0 = 2
  · rw [if_pos hc2] at hF
    refine jx_lookup (tgt := 31) (off := 30) E dX4_windowLimit_1 rfl (by rw [hc2]; rfl) (by decide) ?_
    refine jx_iconst (x := 4) E dX4_windowLimit_31 (by decide) ?_
    obtain ⟨rfl, rfl⟩ := jx_out hF
    exact jx_iret E dX4_windowLimit_32 rfl
  rw [if_neg hc2] at hF
  refine jx_lookup (tgt := 33) (off := 32) E dX4_windowLimit_1 rfl (by have hz1 := jx_ne hc1 (k := 1) (by decide); have hy1 : ¬ (1 : Int) = Int32.toInt x0 := fun q => hz1 q.symm; have hz2 := jx_ne hc2 (k := 2) (by decide); have hy2 : ¬ (2 : Int) = Int32.toInt x0 := fun q => hz2 q.symm; simp [Op.lookupswitch.offset, hz1, hy1, hz2, hy2]) (by decide) ?_
  refine jx_iconst (x := 4) E dX4_windowLimit_33 (by decide) ?_
  obtain ⟨rfl, rfl⟩ := jx_out hF
  exact jx_iret E dX4_windowLimit_34 rfl
def f_X4_turn (x1 : Int32) (x2 : Int32) (x3 : Int32) (v : jx_V) : Option (Int32 × jx_V) := ((f_X4_isWindow x1 v).bind (fun (r1, v1) => (if r1 = 0 then ((f_X4_finding 0 v1).bind (fun (r3, v3) => (some (r3, v3)))) else (if x2 < 1 then ((f_X4_finding 0 v1).bind (fun (r5, v5) => (some (r5, v5)))) else (if 3 < x2 then ((f_X4_finding 0 v1).bind (fun (r7, v7) => (some (r7, v7)))) else ((f_X4_windowLimit x2 v1).bind (fun (r8, v8) => ((f_X4_within x3 r8 v8).bind (fun (r9, v9) => (if r9 = 0 then ((f_X4_finding 0 v9).bind (fun (r15, v15) => (some (r15, v15)))) else (if (x2 < 0 ∨ 6 ≤ (x2).toNatClampNeg) then none else (if (x1 < 0 ∨ 10 ≤ Int32.toNatClampNeg x1) then none else (if (x2 < 0 ∨ 6 ≤ (x2).toNatClampNeg) then none else (if (x1 < 0 ∨ 10 ≤ Int32.toNatClampNeg x1) then none else (some ((v9 (1 + 7 + (x2).toNatClampNeg) (Int32.toNatClampNeg x1)), (jx_up v9 (1 + 7 + (x2).toNatClampNeg) (Int32.toNatClampNeg x1) x3)))))))))))))))))
def rm_X4_turn : Room := { frames := 2, cells := 0, slots := 0, locals := 42 }
set_option maxHeartbeats 4000000 in
set_option maxRecDepth 100000 in
theorem k_X4_turn {l : Launch} {D : va_G} {cI cJ : ClassId} {ad : Nat → Nat} {A : Nat → Prop} {adK adV : Nat → Nat} (hI : jx_inj 67 ad A) (x1 : Int32) (x2 : Int32) (x3 : Int32) (v : jx_V) (r : Int32) (v' : jx_V) (hF : f_X4_turn x1 x2 x3 v = some (r, v')) : jx_Ci l D vwCl 67 cI cJ ad shX A (ex_X adK adV A) yX4_turn (Cond.code yX4_turn cX4_turn 5 (some .int) :: bigT) rm_X4_turn [.ref (ad 0), .int x1, .int x2, .int x3] v r v' := by
  unfold f_X4_turn at hF
  refine jx_enteri bigT RX4 cX4_turn 5 (some .int) [(0, .ref (ad 0)), (1, .int x1), (2, .int x2), (3, .int x3)] hI (ex_X_ok adK adV A) (by decide +kernel) rfl (Nat.le_of_ble_eq_true rfl) rfl rfl ?_
  intro p e s m args below meth c E
  have iX3 : ∀ w ∈ u_ws RX3 TX3 8, w ∈ (Cond.code yX4_turn cX4_turn 5 (some .int) :: bigT) := fun w h => List.mem_cons_of_mem _ (uw_X3 w h)
  have iX4 : ∀ w ∈ u_ws RX4 TX4 11, w ∈ (Cond.code yX4_turn cX4_turn 5 (some .int) :: bigT) := fun w h => List.mem_cons_of_mem _ (uw_X4 w h)
  refine jx_aload_n E dX4_turn_0 0 rfl ?_
  refine jx_iload_n E dX4_turn_1 1 rfl ?_
  obtain ⟨⟨r1, v1⟩, hc1, hF⟩ := jx_bind hF
  try dsimp only at hF
  refine jx_callVi (As := [.int x1]) (st := []) (h := 0) E dX4_turn_2 1 rfl (k_X4_isWindow hI x1 v r1 v1 hc1) (gb_V (List.mem_cons_of_mem _ tw_203) (List.mem_cons_of_mem _ tw_204) (List.mem_cons_of_mem _ tw_205) (List.mem_cons_of_mem _ tw_190) tw_202) rfl rfl rfl dd_X4_isWindow rfl (Nat.le_of_ble_eq_true rfl) s_X0 rfl ⟨by decide, by decide⟩ ⟨Nat.le_refl 0, Nat.le_refl 0⟩ (Nat.le_of_ble_eq_true rfl) ?_
  refine jx_if_eq (tgt := 29) E dX4_turn_5 (by decide) (fun hc2 => ?_) (fun hc2 => ?_)
  · rw [if_pos hc2] at hF
    refine jx_aload_n E dX4_turn_29 0 rfl ?_
    refine jx_iconst (x := 0) E dX4_turn_30 (by decide) ?_
    obtain ⟨⟨r3, v3⟩, hc3, hF⟩ := jx_bind hF
    try dsimp only at hF
    refine jx_callVi (As := [.int 0]) (st := []) (h := 0) E dX4_turn_31 1 rfl (k_X4_finding hI 0 v1 r3 v3 hc3) (gb_V (List.mem_cons_of_mem _ tw_192) (List.mem_cons_of_mem _ tw_193) (List.mem_cons_of_mem _ tw_194) (List.mem_cons_of_mem _ tw_190) tw_191) rfl rfl rfl dd_X4_finding rfl (Nat.le_of_ble_eq_true rfl) s_X0 rfl ⟨by decide, by decide⟩ ⟨Nat.le_refl 0, Nat.le_refl 0⟩ (Nat.le_of_ble_eq_true rfl) ?_
    obtain ⟨rfl, rfl⟩ := jx_out hF
    exact jx_iret E dX4_turn_34 rfl
  · rw [if_neg hc2] at hF
    refine jx_iload_n E dX4_turn_8 2 rfl ?_
    refine jx_iconst (x := 1) E dX4_turn_9 (by decide) ?_
    refine jx_icmp_lt (tgt := 29) E dX4_turn_10 (by decide) (fun hc4 => ?_) (fun hc4 => ?_)
    · rw [if_pos hc4] at hF
      refine jx_aload_n E dX4_turn_29 0 rfl ?_
      refine jx_iconst (x := 0) E dX4_turn_30 (by decide) ?_
      obtain ⟨⟨r5, v5⟩, hc5, hF⟩ := jx_bind hF
      try dsimp only at hF
      refine jx_callVi (As := [.int 0]) (st := []) (h := 0) E dX4_turn_31 1 rfl (k_X4_finding hI 0 v1 r5 v5 hc5) (gb_V (List.mem_cons_of_mem _ tw_192) (List.mem_cons_of_mem _ tw_193) (List.mem_cons_of_mem _ tw_194) (List.mem_cons_of_mem _ tw_190) tw_191) rfl rfl rfl dd_X4_finding rfl (Nat.le_of_ble_eq_true rfl) s_X0 rfl ⟨by decide, by decide⟩ ⟨Nat.le_refl 0, Nat.le_refl 0⟩ (Nat.le_of_ble_eq_true rfl) ?_
      obtain ⟨rfl, rfl⟩ := jx_out hF
      exact jx_iret E dX4_turn_34 rfl
    · rw [if_neg hc4] at hF
      refine jx_iload_n E dX4_turn_13 2 rfl ?_
      refine jx_iconst (x := 3) E dX4_turn_14 (by decide) ?_
      refine jx_icmp_gt (tgt := 29) E dX4_turn_15 (by decide) (fun hc6 => ?_) (fun hc6 => ?_)
      · rw [if_pos hc6] at hF
        refine jx_aload_n E dX4_turn_29 0 rfl ?_
        refine jx_iconst (x := 0) E dX4_turn_30 (by decide) ?_
        obtain ⟨⟨r7, v7⟩, hc7, hF⟩ := jx_bind hF
        try dsimp only at hF
        refine jx_callVi (As := [.int 0]) (st := []) (h := 0) E dX4_turn_31 1 rfl (k_X4_finding hI 0 v1 r7 v7 hc7) (gb_V (List.mem_cons_of_mem _ tw_192) (List.mem_cons_of_mem _ tw_193) (List.mem_cons_of_mem _ tw_194) (List.mem_cons_of_mem _ tw_190) tw_191) rfl rfl rfl dd_X4_finding rfl (Nat.le_of_ble_eq_true rfl) s_X0 rfl ⟨by decide, by decide⟩ ⟨Nat.le_refl 0, Nat.le_refl 0⟩ (Nat.le_of_ble_eq_true rfl) ?_
        obtain ⟨rfl, rfl⟩ := jx_out hF
        exact jx_iret E dX4_turn_34 rfl
      · rw [if_neg hc6] at hF
        refine jx_iload_n E dX4_turn_18 3 rfl ?_
        refine jx_iload_n E dX4_turn_19 2 rfl ?_
        obtain ⟨⟨r8, v8⟩, hc8, hF⟩ := jx_bind hF
        try dsimp only at hF
        refine jx_callSi (As := [.int x2]) (st := [.int x3]) E dX4_turn_20 1 rfl (k_X4_windowLimit hI x2 v1 r8 v8 hc8) (gb_S (List.mem_cons_of_mem _ tw_207) (List.mem_cons_of_mem _ tw_208) (List.mem_cons_of_mem _ tw_190) tw_206) rfl rfl rfl dd_X4_windowLimit rfl ⟨by decide, by decide⟩ ⟨Nat.le_refl 0, Nat.le_refl 0⟩ (Nat.le_of_ble_eq_true rfl) ?_
        obtain ⟨⟨r9, v9⟩, hc9, hF⟩ := jx_bind hF
        try dsimp only at hF
        refine jx_callSi (As := [.int x3, .int r8]) (st := []) E dX4_turn_23 2 rfl (k_X4_within hI x3 r8 v8 r9 v9 hc9) (gb_S (List.mem_cons_of_mem _ tw_188) (List.mem_cons_of_mem _ tw_189) (List.mem_cons_of_mem _ tw_190) tw_187) rfl rfl rfl dd_X4_within rfl ⟨by decide, by decide⟩ ⟨Nat.le_refl 0, Nat.le_refl 0⟩ (Nat.le_of_ble_eq_true rfl) ?_
        refine jx_if_ne (tgt := 35) E dX4_turn_26 (by decide) (fun hc10 => ?_) (fun hc10 => ?_)
        · rw [if_neg hc10] at hF
          refine jx_aload_n E dX4_turn_35 0 rfl ?_
          refine jx_getr (C := RX4) (T := TX4) (M := 11) (k := 0) E dX4_turn_36 (Nat.le_of_ble_eq_true rfl) s_X0 rfl iX4 (by decide) rfl (List.mem_cons_of_mem _ tw_195) rfl ?_
          refine jx_getrN (C := RX3) (T := TX3) (M := 8) (k := 1) E dX4_turn_39 (Nat.le_of_ble_eq_true rfl) s_X1 rfl iX3 (by decide) rfl (ex_f3 (jx_ex E)) rfl ?_
          refine jx_iload_n E dX4_turn_42 2 rfl ?_
          obtain ⟨hg11, hF⟩ := jx_guard hF
          refine jx_aald (h' := (1 + 7 + (x2).toNatClampNeg)) E dX4_turn_43 (Nat.le_of_ble_eq_true rfl) s_X3 hg11 (l_Tw (t := 1) (l_lt hg11)) ?_
          refine jx_iload_n E dX4_turn_44 1 rfl ?_
          obtain ⟨hg12, hF⟩ := jx_guard hF
          refine jx_iald (h := (1 + 7 + (x2).toNatClampNeg)) (j := (Int32.toNatClampNeg x1)) E dX4_turn_45 (n_Tw jx_T1 (l_lt hg11)) (s_Tw jx_T1 (l_lt hg11)) hg12 rfl ?_
          refine jx_istore (lv' := [(4, .int (v9 (1 + 7 + (x2).toNatClampNeg) (Int32.toNatClampNeg x1))), (0, .ref (ad 0)), (1, .int x1), (2, .int x2), (3, .int x3)]) E dX4_turn_46 (by decide) rfl ?_
          refine jx_aload_n E dX4_turn_48 1 rfl ?_
          refine jx_getr (C := RX4) (T := TX4) (M := 11) (k := 0) E dX4_turn_49 (Nat.le_of_ble_eq_true rfl) s_X0 rfl iX4 (by decide) rfl (List.mem_cons_of_mem _ tw_195) rfl ?_
          refine jx_getrN (C := RX3) (T := TX3) (M := 8) (k := 1) E dX4_turn_52 (Nat.le_of_ble_eq_true rfl) s_X1 rfl iX3 (by decide) rfl (ex_f3 (jx_ex E)) rfl ?_
          refine jx_iload_n E dX4_turn_55 3 rfl ?_
          obtain ⟨hg13, hF⟩ := jx_guard hF
          refine jx_aald (h' := (1 + 7 + (x2).toNatClampNeg)) E dX4_turn_56 (Nat.le_of_ble_eq_true rfl) s_X3 hg13 (l_Tw (t := 1) (l_lt hg13)) ?_
          refine jx_iload_n E dX4_turn_57 2 rfl ?_
          refine jx_iload_n E dX4_turn_58 4 rfl ?_
          obtain ⟨hg14, hF⟩ := jx_guard hF
          refine jx_iast (h := (1 + 7 + (x2).toNatClampNeg)) (j := (Int32.toNatClampNeg x1)) E dX4_turn_59 (n_Tw jx_T1 (l_lt hg13)) (s_Tw jx_T1 (l_lt hg13)) hg14 rfl ?_
          refine jx_iload E dX4_turn_60 0 rfl ?_
          obtain ⟨rfl, rfl⟩ := jx_out hF
          exact jx_iret E dX4_turn_62 rfl
        · rw [if_pos hc10] at hF
          refine jx_aload_n E dX4_turn_29 0 rfl ?_
          refine jx_iconst (x := 0) E dX4_turn_30 (by decide) ?_
          obtain ⟨⟨r15, v15⟩, hc15, hF⟩ := jx_bind hF
          try dsimp only at hF
          refine jx_callVi (As := [.int 0]) (st := []) (h := 0) E dX4_turn_31 1 rfl (k_X4_finding hI 0 v9 r15 v15 hc15) (gb_V (List.mem_cons_of_mem _ tw_192) (List.mem_cons_of_mem _ tw_193) (List.mem_cons_of_mem _ tw_194) (List.mem_cons_of_mem _ tw_190) tw_191) rfl rfl rfl dd_X4_finding rfl (Nat.le_of_ble_eq_true rfl) s_X0 rfl ⟨by decide, by decide⟩ ⟨Nat.le_refl 0, Nat.le_refl 0⟩ (Nat.le_of_ble_eq_true rfl) ?_
          obtain ⟨rfl, rfl⟩ := jx_out hF
          exact jx_iret E dX4_turn_34 rfl
def f_X4_contract (x1 : Int32) (x2 : Int32) (x3 : Int32) (v : jx_V) : Option (Int32 × jx_V) := ((f_X4_isWindow x1 v).bind (fun (r1, v1) => (if r1 = 0 then ((f_X4_finding 0 v1).bind (fun (r3, v3) => (some (r3, v3)))) else (if x2 < (-1) then ((f_X4_finding 0 v1).bind (fun (r5, v5) => (some (r5, v5)))) else (if 4 ≤ x2 then ((f_X4_finding 0 v1).bind (fun (r7, v7) => (some (r7, v7)))) else ((f_X4_within x3 37 v1).bind (fun (r8, v8) => (if r8 = 0 then ((f_X4_finding 0 v8).bind (fun (r18, v18) => (some (r18, v18)))) else (if (x1 < 0 ∨ 10 ≤ Int32.toNatClampNeg x1) then none else (if 0 ≤ x2 then (if (x1 < 0 ∨ 10 ≤ Int32.toNatClampNeg x1) then none else ((f_X0_isBroken 1 x1 (jx_up (jx_up v8 12 (Int32.toNatClampNeg x1) x2) 13 (Int32.toNatClampNeg x1) x3)).bind (fun (r13, v13) => (if r13 = 0 then (some (0, v13)) else (some (1, v13)))))) else (if (x1 < 0 ∨ 10 ≤ Int32.toNatClampNeg x1) then none else ((f_X0_isBroken 1 x1 (jx_up (jx_up v8 12 (Int32.toNatClampNeg x1) x2) 13 (Int32.toNatClampNeg x1) 0)).bind (fun (r16, v16) => (if r16 = 0 then (some (0, v16)) else (some (1, v16))))))))))))))))
def rm_X4_contract : Room := { frames := 5, cells := 0, slots := 0, locals := 121 }
set_option maxHeartbeats 4000000 in
set_option maxRecDepth 100000 in
theorem k_X4_contract {l : Launch} {D : va_G} {cI cJ : ClassId} {ad : Nat → Nat} {A : Nat → Prop} {adK adV : Nat → Nat} (hI : jx_inj 67 ad A) (x1 : Int32) (x2 : Int32) (x3 : Int32) (v : jx_V) (r : Int32) (v' : jx_V) (hF : f_X4_contract x1 x2 x3 v = some (r, v')) : jx_Ci l D vwCl 67 cI cJ ad shX A (ex_X adK adV A) yX4_contract (Cond.code yX4_contract cX4_contract 4 (some .int) :: bigT) rm_X4_contract [.ref (ad 0), .int x1, .int x2, .int x3] v r v' := by
  unfold f_X4_contract at hF
  refine jx_enteri bigT RX4 cX4_contract 4 (some .int) [(0, .ref (ad 0)), (1, .int x1), (2, .int x2), (3, .int x3)] hI (ex_X_ok adK adV A) (by decide +kernel) rfl (Nat.le_of_ble_eq_true rfl) rfl rfl ?_
  intro p e s m args below meth c E
  have iX3 : ∀ w ∈ u_ws RX3 TX3 8, w ∈ (Cond.code yX4_contract cX4_contract 4 (some .int) :: bigT) := fun w h => List.mem_cons_of_mem _ (uw_X3 w h)
  have iX4 : ∀ w ∈ u_ws RX4 TX4 11, w ∈ (Cond.code yX4_contract cX4_contract 4 (some .int) :: bigT) := fun w h => List.mem_cons_of_mem _ (uw_X4 w h)
  refine jx_aload_n E dX4_contract_0 0 rfl ?_
  refine jx_iload_n E dX4_contract_1 1 rfl ?_
  obtain ⟨⟨r1, v1⟩, hc1, hF⟩ := jx_bind hF
  try dsimp only at hF
  refine jx_callVi (As := [.int x1]) (st := []) (h := 0) E dX4_contract_2 1 rfl (k_X4_isWindow hI x1 v r1 v1 hc1) (gb_V (List.mem_cons_of_mem _ tw_203) (List.mem_cons_of_mem _ tw_204) (List.mem_cons_of_mem _ tw_205) (List.mem_cons_of_mem _ tw_190) tw_202) rfl rfl rfl dd_X4_isWindow rfl (Nat.le_of_ble_eq_true rfl) s_X0 rfl ⟨by decide, by decide⟩ ⟨Nat.le_refl 0, Nat.le_refl 0⟩ (Nat.le_of_ble_eq_true rfl) ?_
  refine jx_if_eq (tgt := 27) E dX4_contract_5 (by decide) (fun hc2 => ?_) (fun hc2 => ?_)
  · rw [if_pos hc2] at hF
    refine jx_aload_n E dX4_contract_27 0 rfl ?_
    refine jx_iconst (x := 0) E dX4_contract_28 (by decide) ?_
    obtain ⟨⟨r3, v3⟩, hc3, hF⟩ := jx_bind hF
    try dsimp only at hF
    refine jx_callVi (As := [.int 0]) (st := []) (h := 0) E dX4_contract_29 1 rfl (k_X4_finding hI 0 v1 r3 v3 hc3) (gb_V (List.mem_cons_of_mem _ tw_192) (List.mem_cons_of_mem _ tw_193) (List.mem_cons_of_mem _ tw_194) (List.mem_cons_of_mem _ tw_190) tw_191) rfl rfl rfl dd_X4_finding rfl (Nat.le_of_ble_eq_true rfl) s_X0 rfl ⟨by decide, by decide⟩ ⟨Nat.le_refl 0, Nat.le_refl 0⟩ (Nat.le_of_ble_eq_true rfl) ?_
    obtain ⟨rfl, rfl⟩ := jx_out hF
    exact jx_iret E dX4_contract_32 rfl
  · rw [if_neg hc2] at hF
    refine jx_iload_n E dX4_contract_8 2 rfl ?_
    refine jx_iconst (x := -1) E dX4_contract_9 (by decide) ?_
    refine jx_icmp_lt (tgt := 27) E dX4_contract_10 (by decide) (fun hc4 => ?_) (fun hc4 => ?_)
    · rw [if_pos hc4] at hF
      refine jx_aload_n E dX4_contract_27 0 rfl ?_
      refine jx_iconst (x := 0) E dX4_contract_28 (by decide) ?_
      obtain ⟨⟨r5, v5⟩, hc5, hF⟩ := jx_bind hF
      try dsimp only at hF
      refine jx_callVi (As := [.int 0]) (st := []) (h := 0) E dX4_contract_29 1 rfl (k_X4_finding hI 0 v1 r5 v5 hc5) (gb_V (List.mem_cons_of_mem _ tw_192) (List.mem_cons_of_mem _ tw_193) (List.mem_cons_of_mem _ tw_194) (List.mem_cons_of_mem _ tw_190) tw_191) rfl rfl rfl dd_X4_finding rfl (Nat.le_of_ble_eq_true rfl) s_X0 rfl ⟨by decide, by decide⟩ ⟨Nat.le_refl 0, Nat.le_refl 0⟩ (Nat.le_of_ble_eq_true rfl) ?_
      obtain ⟨rfl, rfl⟩ := jx_out hF
      exact jx_iret E dX4_contract_32 rfl
    · rw [if_neg hc4] at hF
      refine jx_iload_n E dX4_contract_13 2 rfl ?_
      refine jx_iconst (x := 4) E dX4_contract_14 (by decide) ?_
      refine jx_icmp_ge (tgt := 27) E dX4_contract_15 (by decide) (fun hc6 => ?_) (fun hc6 => ?_)
      · rw [if_pos hc6] at hF
        refine jx_aload_n E dX4_contract_27 0 rfl ?_
        refine jx_iconst (x := 0) E dX4_contract_28 (by decide) ?_
        obtain ⟨⟨r7, v7⟩, hc7, hF⟩ := jx_bind hF
        try dsimp only at hF
        refine jx_callVi (As := [.int 0]) (st := []) (h := 0) E dX4_contract_29 1 rfl (k_X4_finding hI 0 v1 r7 v7 hc7) (gb_V (List.mem_cons_of_mem _ tw_192) (List.mem_cons_of_mem _ tw_193) (List.mem_cons_of_mem _ tw_194) (List.mem_cons_of_mem _ tw_190) tw_191) rfl rfl rfl dd_X4_finding rfl (Nat.le_of_ble_eq_true rfl) s_X0 rfl ⟨by decide, by decide⟩ ⟨Nat.le_refl 0, Nat.le_refl 0⟩ (Nat.le_of_ble_eq_true rfl) ?_
        obtain ⟨rfl, rfl⟩ := jx_out hF
        exact jx_iret E dX4_contract_32 rfl
      · rw [if_neg hc6] at hF
        refine jx_iload_n E dX4_contract_18 3 rfl ?_
        refine jx_bipush (x := 37) E dX4_contract_19 (by decide) ?_
        obtain ⟨⟨r8, v8⟩, hc8, hF⟩ := jx_bind hF
        try dsimp only at hF
        refine jx_callSi (As := [.int x3, .int 37]) (st := []) E dX4_contract_21 2 rfl (k_X4_within hI x3 37 v1 r8 v8 hc8) (gb_S (List.mem_cons_of_mem _ tw_188) (List.mem_cons_of_mem _ tw_189) (List.mem_cons_of_mem _ tw_190) tw_187) rfl rfl rfl dd_X4_within rfl ⟨by decide, by decide⟩ ⟨Nat.le_refl 0, Nat.le_refl 0⟩ (Nat.le_of_ble_eq_true rfl) ?_
        refine jx_if_ne (tgt := 33) E dX4_contract_24 (by decide) (fun hc9 => ?_) (fun hc9 => ?_)
        · rw [if_neg hc9] at hF
          refine jx_aload_n E dX4_contract_33 0 rfl ?_
          refine jx_getr (C := RX4) (T := TX4) (M := 11) (k := 0) E dX4_contract_34 (Nat.le_of_ble_eq_true rfl) s_X0 rfl iX4 (by decide) rfl (List.mem_cons_of_mem _ tw_195) rfl ?_
          refine jx_getrN (C := RX3) (T := TX3) (M := 8) (k := 1) E dX4_contract_37 (Nat.le_of_ble_eq_true rfl) s_X1 rfl iX3 (by decide) rfl (ex_f3 (jx_ex E)) rfl ?_
          refine jx_iconst (x := 4) E dX4_contract_40 (by decide) ?_
          refine jx_aald (h' := 12) E dX4_contract_41 (Nat.le_of_ble_eq_true rfl) s_X3 (show ¬ ((4 : Int32) < 0 ∨ 6 ≤ Int32.toNatClampNeg 4) by decide) rfl ?_
          refine jx_iload_n E dX4_contract_42 1 rfl ?_
          refine jx_iload_n E dX4_contract_43 2 rfl ?_
          obtain ⟨hg10, hF⟩ := jx_guard hF
          refine jx_iast (h := 12) (j := (Int32.toNatClampNeg x1)) E dX4_contract_44 (Nat.le_of_ble_eq_true rfl) s_X12 hg10 rfl ?_
          refine jx_aload_n E dX4_contract_45 0 rfl ?_
          refine jx_getr (C := RX4) (T := TX4) (M := 11) (k := 0) E dX4_contract_46 (Nat.le_of_ble_eq_true rfl) s_X0 rfl iX4 (by decide) rfl (List.mem_cons_of_mem _ tw_195) rfl ?_
          refine jx_getrN (C := RX3) (T := TX3) (M := 8) (k := 1) E dX4_contract_49 (Nat.le_of_ble_eq_true rfl) s_X1 rfl iX3 (by decide) rfl (ex_f3 (jx_ex E)) rfl ?_
          refine jx_iconst (x := 5) E dX4_contract_52 (by decide) ?_
          refine jx_aald (h' := 13) E dX4_contract_53 (Nat.le_of_ble_eq_true rfl) s_X3 (show ¬ ((5 : Int32) < 0 ∨ 6 ≤ Int32.toNatClampNeg 5) by decide) rfl ?_
          refine jx_iload_n E dX4_contract_54 1 rfl ?_
          refine jx_iload_n E dX4_contract_55 2 rfl ?_
          refine jx_if_ge (tgt := 63) E dX4_contract_56 (by decide) (fun hc11 => ?_) (fun hc11 => ?_)
          · rw [if_pos hc11] at hF
            refine jx_iload_n E dX4_contract_63 3 rfl ?_
            obtain ⟨hg12, hF⟩ := jx_guard hF
            refine jx_iast (h := 13) (j := (Int32.toNatClampNeg x1)) E dX4_contract_64 (Nat.le_of_ble_eq_true rfl) s_X13 hg12 rfl ?_
            refine jx_aload_n E dX4_contract_65 0 rfl ?_
            refine jx_getr (C := RX4) (T := TX4) (M := 11) (k := 3) E dX4_contract_66 (Nat.le_of_ble_eq_true rfl) s_X0 rfl iX4 (by decide) rfl (List.mem_cons_of_mem _ tw_209) rfl ?_
            refine jx_aload_n E dX4_contract_69 0 rfl ?_
            refine jx_getr (C := RX4) (T := TX4) (M := 11) (k := 0) E dX4_contract_70 (Nat.le_of_ble_eq_true rfl) s_X0 rfl iX4 (by decide) rfl (List.mem_cons_of_mem _ tw_195) rfl ?_
            refine jx_iload_n E dX4_contract_73 1 rfl ?_
            obtain ⟨⟨r13, v13⟩, hc13, hF⟩ := jx_bind hF
            try dsimp only at hF
            refine jx_callNi (As := [.ref (ad 1), .int x1]) (st := []) (h := 49) E dX4_contract_74 2 rfl (k_X0_isBroken hI 1 jx_T1 x1 (jx_up (jx_up v8 12 (Int32.toNatClampNeg x1) x2) 13 (Int32.toNatClampNeg x1) x3) r13 v13 hc13) (gb_N tw_85) rfl rfl rfl (ex_m12 (jx_ex E)) (List.mem_cons_of_mem _ tw_49) (List.mem_cons_of_mem _ tw_87) (List.mem_cons_of_mem _ tw_88) dd_X0_isBroken.2 rfl (Nat.le_of_ble_eq_true rfl) s_X49 rfl ⟨by decide, by decide⟩ ⟨Nat.le_refl 0, Nat.le_refl 0⟩ (Nat.le_of_ble_eq_true rfl) ?_
            refine jx_if_eq (tgt := 84) E dX4_contract_77 (by decide) (fun hc14 => ?_) (fun hc14 => ?_)
            · rw [if_pos hc14] at hF
              refine jx_iconst (x := 0) E dX4_contract_84 (by decide) ?_
              obtain ⟨rfl, rfl⟩ := jx_out hF
              exact jx_iret E dX4_contract_85 rfl
            · rw [if_neg hc14] at hF
              refine jx_iconst (x := 1) E dX4_contract_80 (by decide) ?_
              refine jx_goto (tgt := 85) E dX4_contract_81 (by decide) ?_
              obtain ⟨rfl, rfl⟩ := jx_out hF
              exact jx_iret E dX4_contract_85 rfl
          · rw [if_neg hc11] at hF
            refine jx_iconst (x := 0) E dX4_contract_59 (by decide) ?_
            refine jx_goto (tgt := 64) E dX4_contract_60 (by decide) ?_
            obtain ⟨hg15, hF⟩ := jx_guard hF
            refine jx_iast (h := 13) (j := (Int32.toNatClampNeg x1)) E dX4_contract_64 (Nat.le_of_ble_eq_true rfl) s_X13 hg15 rfl ?_
            refine jx_aload_n E dX4_contract_65 0 rfl ?_
            refine jx_getr (C := RX4) (T := TX4) (M := 11) (k := 3) E dX4_contract_66 (Nat.le_of_ble_eq_true rfl) s_X0 rfl iX4 (by decide) rfl (List.mem_cons_of_mem _ tw_209) rfl ?_
            refine jx_aload_n E dX4_contract_69 0 rfl ?_
            refine jx_getr (C := RX4) (T := TX4) (M := 11) (k := 0) E dX4_contract_70 (Nat.le_of_ble_eq_true rfl) s_X0 rfl iX4 (by decide) rfl (List.mem_cons_of_mem _ tw_195) rfl ?_
            refine jx_iload_n E dX4_contract_73 1 rfl ?_
            obtain ⟨⟨r16, v16⟩, hc16, hF⟩ := jx_bind hF
            try dsimp only at hF
            refine jx_callNi (As := [.ref (ad 1), .int x1]) (st := []) (h := 49) E dX4_contract_74 2 rfl (k_X0_isBroken hI 1 jx_T1 x1 (jx_up (jx_up v8 12 (Int32.toNatClampNeg x1) x2) 13 (Int32.toNatClampNeg x1) 0) r16 v16 hc16) (gb_N tw_85) rfl rfl rfl (ex_m12 (jx_ex E)) (List.mem_cons_of_mem _ tw_49) (List.mem_cons_of_mem _ tw_87) (List.mem_cons_of_mem _ tw_88) dd_X0_isBroken.2 rfl (Nat.le_of_ble_eq_true rfl) s_X49 rfl ⟨by decide, by decide⟩ ⟨Nat.le_refl 0, Nat.le_refl 0⟩ (Nat.le_of_ble_eq_true rfl) ?_
            refine jx_if_eq (tgt := 84) E dX4_contract_77 (by decide) (fun hc17 => ?_) (fun hc17 => ?_)
            · rw [if_pos hc17] at hF
              refine jx_iconst (x := 0) E dX4_contract_84 (by decide) ?_
              obtain ⟨rfl, rfl⟩ := jx_out hF
              exact jx_iret E dX4_contract_85 rfl
            · rw [if_neg hc17] at hF
              refine jx_iconst (x := 1) E dX4_contract_80 (by decide) ?_
              refine jx_goto (tgt := 85) E dX4_contract_81 (by decide) ?_
              obtain ⟨rfl, rfl⟩ := jx_out hF
              exact jx_iret E dX4_contract_85 rfl
        · rw [if_pos hc9] at hF
          refine jx_aload_n E dX4_contract_27 0 rfl ?_
          refine jx_iconst (x := 0) E dX4_contract_28 (by decide) ?_
          obtain ⟨⟨r18, v18⟩, hc18, hF⟩ := jx_bind hF
          try dsimp only at hF
          refine jx_callVi (As := [.int 0]) (st := []) (h := 0) E dX4_contract_29 1 rfl (k_X4_finding hI 0 v8 r18 v18 hc18) (gb_V (List.mem_cons_of_mem _ tw_192) (List.mem_cons_of_mem _ tw_193) (List.mem_cons_of_mem _ tw_194) (List.mem_cons_of_mem _ tw_190) tw_191) rfl rfl rfl dd_X4_finding rfl (Nat.le_of_ble_eq_true rfl) s_X0 rfl ⟨by decide, by decide⟩ ⟨Nat.le_refl 0, Nat.le_refl 0⟩ (Nat.le_of_ble_eq_true rfl) ?_
          obtain ⟨rfl, rfl⟩ := jx_out hF
          exact jx_iret E dX4_contract_32 rfl
def f_X4_purse (x1 : Int32) (v : jx_V) : Option (Int32 × jx_V) := ((f_X4_within x1 4 v).bind (fun (r1, v1) => (if r1 = 0 then ((f_X4_finding 0 v1).bind (fun (r4, v4) => (some (r4, v4)))) else (if (x1 < 0 ∨ 4 ≤ Int32.toNatClampNeg x1) then none else (some ((v1 15 (Int32.toNatClampNeg x1)), v1))))))
def rm_X4_purse : Room := { frames := 1, cells := 0, slots := 0, locals := 21 }
set_option maxHeartbeats 4000000 in
set_option maxRecDepth 100000 in
theorem k_X4_purse {l : Launch} {D : va_G} {cI cJ : ClassId} {ad : Nat → Nat} {A : Nat → Prop} {adK adV : Nat → Nat} (hI : jx_inj 67 ad A) (x1 : Int32) (v : jx_V) (r : Int32) (v' : jx_V) (hF : f_X4_purse x1 v = some (r, v')) : jx_Ci l D vwCl 67 cI cJ ad shX A (ex_X adK adV A) yX4_purse (Cond.code yX4_purse cX4_purse 2 (some .int) :: bigT) rm_X4_purse [.ref (ad 0), .int x1] v r v' := by
  unfold f_X4_purse at hF
  refine jx_enteri bigT RX4 cX4_purse 2 (some .int) [(0, .ref (ad 0)), (1, .int x1)] hI (ex_X_ok adK adV A) (by decide +kernel) rfl (Nat.le_of_ble_eq_true rfl) rfl rfl ?_
  intro p e s m args below meth c E
  have iX3 : ∀ w ∈ u_ws RX3 TX3 8, w ∈ (Cond.code yX4_purse cX4_purse 2 (some .int) :: bigT) := fun w h => List.mem_cons_of_mem _ (uw_X3 w h)
  have iX4 : ∀ w ∈ u_ws RX4 TX4 11, w ∈ (Cond.code yX4_purse cX4_purse 2 (some .int) :: bigT) := fun w h => List.mem_cons_of_mem _ (uw_X4 w h)
  refine jx_iload_n E dX4_purse_0 1 rfl ?_
  refine jx_iconst (x := 4) E dX4_purse_1 (by decide) ?_
  obtain ⟨⟨r1, v1⟩, hc1, hF⟩ := jx_bind hF
  try dsimp only at hF
  refine jx_callSi (As := [.int x1, .int 4]) (st := []) E dX4_purse_2 2 rfl (k_X4_within hI x1 4 v r1 v1 hc1) (gb_S (List.mem_cons_of_mem _ tw_188) (List.mem_cons_of_mem _ tw_189) (List.mem_cons_of_mem _ tw_190) tw_187) rfl rfl rfl dd_X4_within rfl ⟨by decide, by decide⟩ ⟨Nat.le_refl 0, Nat.le_refl 0⟩ (Nat.le_of_ble_eq_true rfl) ?_
  refine jx_if_ne (tgt := 14) E dX4_purse_5 (by decide) (fun hc2 => ?_) (fun hc2 => ?_)
  · rw [if_neg hc2] at hF
    refine jx_aload_n E dX4_purse_14 0 rfl ?_
    refine jx_getr (C := RX4) (T := TX4) (M := 11) (k := 0) E dX4_purse_15 (Nat.le_of_ble_eq_true rfl) s_X0 rfl iX4 (by decide) rfl (List.mem_cons_of_mem _ tw_195) rfl ?_
    refine jx_getrN (C := RX3) (T := TX3) (M := 8) (k := 3) E dX4_purse_18 (Nat.le_of_ble_eq_true rfl) s_X1 rfl iX3 (by decide) rfl (ex_f6 (jx_ex E)) rfl ?_
    refine jx_iload_n E dX4_purse_21 1 rfl ?_
    obtain ⟨hg3, hF⟩ := jx_guard hF
    refine jx_iald (h := 15) (j := (Int32.toNatClampNeg x1)) E dX4_purse_22 (Nat.le_of_ble_eq_true rfl) s_X15 hg3 rfl ?_
    obtain ⟨rfl, rfl⟩ := jx_out hF
    exact jx_iret E dX4_purse_23 rfl
  · rw [if_pos hc2] at hF
    refine jx_aload_n E dX4_purse_8 0 rfl ?_
    refine jx_iconst (x := 0) E dX4_purse_9 (by decide) ?_
    obtain ⟨⟨r4, v4⟩, hc4, hF⟩ := jx_bind hF
    try dsimp only at hF
    refine jx_callVi (As := [.int 0]) (st := []) (h := 0) E dX4_purse_10 1 rfl (k_X4_finding hI 0 v1 r4 v4 hc4) (gb_V (List.mem_cons_of_mem _ tw_192) (List.mem_cons_of_mem _ tw_193) (List.mem_cons_of_mem _ tw_194) (List.mem_cons_of_mem _ tw_190) tw_191) rfl rfl rfl dd_X4_finding rfl (Nat.le_of_ble_eq_true rfl) s_X0 rfl ⟨by decide, by decide⟩ ⟨Nat.le_refl 0, Nat.le_refl 0⟩ (Nat.le_of_ble_eq_true rfl) ?_
    obtain ⟨rfl, rfl⟩ := jx_out hF
    exact jx_iret E dX4_purse_13 rfl
def f_X4_sees (x1 : Int32) (x2 : Int32) (v : jx_V) : Option (Int32 × jx_V) := ((f_X4_isWindow x1 v).bind (fun (r1, v1) => (if r1 = 0 then ((f_X4_finding 0 v1).bind (fun (r3, v3) => (some (r3, v3)))) else (if x2 < 1 then ((f_X4_finding 0 v1).bind (fun (r5, v5) => (some (r5, v5)))) else (if x2 ≤ 4 then ((f_X0_look 1 x1 v1).bind (fun v7 => ((f_X0_squareSet x2 v7).bind (fun (r8, v8) => (some (r8, v8)))))) else ((f_X4_finding 0 v1).bind (fun (r9, v9) => (some (r9, v9)))))))))
def rm_X4_sees : Room := { frames := 3, cells := 0, slots := 0, locals := 73 }
set_option maxHeartbeats 4000000 in
set_option maxRecDepth 100000 in
theorem k_X4_sees {l : Launch} {D : va_G} {cI cJ : ClassId} {ad : Nat → Nat} {A : Nat → Prop} {adK adV : Nat → Nat} (hI : jx_inj 67 ad A) (x1 : Int32) (x2 : Int32) (v : jx_V) (r : Int32) (v' : jx_V) (hF : f_X4_sees x1 x2 v = some (r, v')) : jx_Ci l D vwCl 67 cI cJ ad shX A (ex_X adK adV A) yX4_sees (Cond.code yX4_sees cX4_sees 3 (some .int) :: bigT) rm_X4_sees [.ref (ad 0), .int x1, .int x2] v r v' := by
  unfold f_X4_sees at hF
  refine jx_enteri bigT RX4 cX4_sees 3 (some .int) [(0, .ref (ad 0)), (1, .int x1), (2, .int x2)] hI (ex_X_ok adK adV A) (by decide +kernel) rfl (Nat.le_of_ble_eq_true rfl) rfl rfl ?_
  intro p e s m args below meth c E
  have iX4 : ∀ w ∈ u_ws RX4 TX4 11, w ∈ (Cond.code yX4_sees cX4_sees 3 (some .int) :: bigT) := fun w h => List.mem_cons_of_mem _ (uw_X4 w h)
  refine jx_aload_n E dX4_sees_0 0 rfl ?_
  refine jx_iload_n E dX4_sees_1 1 rfl ?_
  obtain ⟨⟨r1, v1⟩, hc1, hF⟩ := jx_bind hF
  try dsimp only at hF
  refine jx_callVi (As := [.int x1]) (st := []) (h := 0) E dX4_sees_2 1 rfl (k_X4_isWindow hI x1 v r1 v1 hc1) (gb_V (List.mem_cons_of_mem _ tw_203) (List.mem_cons_of_mem _ tw_204) (List.mem_cons_of_mem _ tw_205) (List.mem_cons_of_mem _ tw_190) tw_202) rfl rfl rfl dd_X4_isWindow rfl (Nat.le_of_ble_eq_true rfl) s_X0 rfl ⟨by decide, by decide⟩ ⟨Nat.le_refl 0, Nat.le_refl 0⟩ (Nat.le_of_ble_eq_true rfl) ?_
  refine jx_if_eq (tgt := 18) E dX4_sees_5 (by decide) (fun hc2 => ?_) (fun hc2 => ?_)
  · rw [if_pos hc2] at hF
    refine jx_aload_n E dX4_sees_18 0 rfl ?_
    refine jx_iconst (x := 0) E dX4_sees_19 (by decide) ?_
    obtain ⟨⟨r3, v3⟩, hc3, hF⟩ := jx_bind hF
    try dsimp only at hF
    refine jx_callVi (As := [.int 0]) (st := []) (h := 0) E dX4_sees_20 1 rfl (k_X4_finding hI 0 v1 r3 v3 hc3) (gb_V (List.mem_cons_of_mem _ tw_192) (List.mem_cons_of_mem _ tw_193) (List.mem_cons_of_mem _ tw_194) (List.mem_cons_of_mem _ tw_190) tw_191) rfl rfl rfl dd_X4_finding rfl (Nat.le_of_ble_eq_true rfl) s_X0 rfl ⟨by decide, by decide⟩ ⟨Nat.le_refl 0, Nat.le_refl 0⟩ (Nat.le_of_ble_eq_true rfl) ?_
    obtain ⟨rfl, rfl⟩ := jx_out hF
    exact jx_iret E dX4_sees_23 rfl
  · rw [if_neg hc2] at hF
    refine jx_iload_n E dX4_sees_8 2 rfl ?_
    refine jx_iconst (x := 1) E dX4_sees_9 (by decide) ?_
    refine jx_icmp_lt (tgt := 18) E dX4_sees_10 (by decide) (fun hc4 => ?_) (fun hc4 => ?_)
    · rw [if_pos hc4] at hF
      refine jx_aload_n E dX4_sees_18 0 rfl ?_
      refine jx_iconst (x := 0) E dX4_sees_19 (by decide) ?_
      obtain ⟨⟨r5, v5⟩, hc5, hF⟩ := jx_bind hF
      try dsimp only at hF
      refine jx_callVi (As := [.int 0]) (st := []) (h := 0) E dX4_sees_20 1 rfl (k_X4_finding hI 0 v1 r5 v5 hc5) (gb_V (List.mem_cons_of_mem _ tw_192) (List.mem_cons_of_mem _ tw_193) (List.mem_cons_of_mem _ tw_194) (List.mem_cons_of_mem _ tw_190) tw_191) rfl rfl rfl dd_X4_finding rfl (Nat.le_of_ble_eq_true rfl) s_X0 rfl ⟨by decide, by decide⟩ ⟨Nat.le_refl 0, Nat.le_refl 0⟩ (Nat.le_of_ble_eq_true rfl) ?_
      obtain ⟨rfl, rfl⟩ := jx_out hF
      exact jx_iret E dX4_sees_23 rfl
    · rw [if_neg hc4] at hF
      refine jx_iload_n E dX4_sees_13 2 rfl ?_
      refine jx_iconst (x := 4) E dX4_sees_14 (by decide) ?_
      refine jx_icmp_le (tgt := 24) E dX4_sees_15 (by decide) (fun hc6 => ?_) (fun hc6 => ?_)
      · rw [if_pos hc6] at hF
        refine jx_aload_n E dX4_sees_24 0 rfl ?_
        refine jx_getr (C := RX4) (T := TX4) (M := 11) (k := 3) E dX4_sees_25 (Nat.le_of_ble_eq_true rfl) s_X0 rfl iX4 (by decide) rfl (List.mem_cons_of_mem _ tw_209) rfl ?_
        refine jx_aload_n E dX4_sees_28 0 rfl ?_
        refine jx_getr (C := RX4) (T := TX4) (M := 11) (k := 0) E dX4_sees_29 (Nat.le_of_ble_eq_true rfl) s_X0 rfl iX4 (by decide) rfl (List.mem_cons_of_mem _ tw_195) rfl ?_
        refine jx_iload_n E dX4_sees_32 1 rfl ?_
        obtain ⟨v7, hc7, hF⟩ := jx_bind hF
        try dsimp only at hF
        refine jx_callNv (As := [.ref (ad 1), .int x1]) (st := []) (h := 49) E dX4_sees_33 2 rfl (k_X0_look hI 1 jx_T1 x1 v1 v7 hc7) (gb_N tw_65) rfl rfl rfl (ex_m15 (jx_ex E)) (List.mem_cons_of_mem _ tw_49) (List.mem_cons_of_mem _ tw_67) (List.mem_cons_of_mem _ tw_68) dd_X0_look.2 rfl (Nat.le_of_ble_eq_true rfl) s_X49 rfl ⟨by decide, by decide⟩ ⟨Nat.le_refl 0, Nat.le_refl 0⟩ (Nat.le_of_ble_eq_true rfl) ?_
        refine jx_aload_n E dX4_sees_36 0 rfl ?_
        refine jx_getr (C := RX4) (T := TX4) (M := 11) (k := 3) E dX4_sees_37 (Nat.le_of_ble_eq_true rfl) s_X0 rfl iX4 (by decide) rfl (List.mem_cons_of_mem _ tw_209) rfl ?_
        refine jx_iload_n E dX4_sees_40 2 rfl ?_
        obtain ⟨⟨r8, v8⟩, hc8, hF⟩ := jx_bind hF
        try dsimp only at hF
        refine jx_callNi (As := [.int x2]) (st := []) (h := 49) E dX4_sees_41 1 rfl (k_X0_squareSet hI x2 v7 r8 v8 hc8) (gb_N tw_210) rfl rfl rfl (ex_m16 (jx_ex E)) (List.mem_cons_of_mem _ tw_49) (List.mem_cons_of_mem _ tw_211) (List.mem_cons_of_mem _ tw_212) dd_X0_squareSet.2 rfl (Nat.le_of_ble_eq_true rfl) s_X49 rfl ⟨by decide, by decide⟩ ⟨Nat.le_refl 0, Nat.le_refl 0⟩ (Nat.le_of_ble_eq_true rfl) ?_
        obtain ⟨rfl, rfl⟩ := jx_out hF
        exact jx_iret E dX4_sees_44 rfl
      · rw [if_neg hc6] at hF
        refine jx_aload_n E dX4_sees_18 0 rfl ?_
        refine jx_iconst (x := 0) E dX4_sees_19 (by decide) ?_
        obtain ⟨⟨r9, v9⟩, hc9, hF⟩ := jx_bind hF
        try dsimp only at hF
        refine jx_callVi (As := [.int 0]) (st := []) (h := 0) E dX4_sees_20 1 rfl (k_X4_finding hI 0 v1 r9 v9 hc9) (gb_V (List.mem_cons_of_mem _ tw_192) (List.mem_cons_of_mem _ tw_193) (List.mem_cons_of_mem _ tw_194) (List.mem_cons_of_mem _ tw_190) tw_191) rfl rfl rfl dd_X4_finding rfl (Nat.le_of_ble_eq_true rfl) s_X0 rfl ⟨by decide, by decide⟩ ⟨Nat.le_refl 0, Nat.le_refl 0⟩ (Nat.le_of_ble_eq_true rfl) ?_
        obtain ⟨rfl, rfl⟩ := jx_out hF
        exact jx_iret E dX4_sees_23 rfl
def f_X4_view (x1 : Int32) (v : jx_V) : Option (Int32 × jx_V) := ((f_X4_isWindow x1 v).bind (fun (r1, v1) => (if r1 = 0 then ((f_X4_finding 0 v1).bind (fun (r4, v4) => (some (r4, v4)))) else ((f_X0_squaresInView 1 x1 v1).bind (fun (r3, v3) => (some (r3, v3)))))))
def rm_X4_view : Room := { frames := 4, cells := 0, slots := 0, locals := 97 }
set_option maxHeartbeats 4000000 in
set_option maxRecDepth 100000 in
theorem k_X4_view {l : Launch} {D : va_G} {cI cJ : ClassId} {ad : Nat → Nat} {A : Nat → Prop} {adK adV : Nat → Nat} (hI : jx_inj 67 ad A) (x1 : Int32) (v : jx_V) (r : Int32) (v' : jx_V) (hF : f_X4_view x1 v = some (r, v')) : jx_Ci l D vwCl 67 cI cJ ad shX A (ex_X adK adV A) yX4_view (Cond.code yX4_view cX4_view 2 (some .int) :: bigT) rm_X4_view [.ref (ad 0), .int x1] v r v' := by
  unfold f_X4_view at hF
  refine jx_enteri bigT RX4 cX4_view 2 (some .int) [(0, .ref (ad 0)), (1, .int x1)] hI (ex_X_ok adK adV A) (by decide +kernel) rfl (Nat.le_of_ble_eq_true rfl) rfl rfl ?_
  intro p e s m args below meth c E
  have iX4 : ∀ w ∈ u_ws RX4 TX4 11, w ∈ (Cond.code yX4_view cX4_view 2 (some .int) :: bigT) := fun w h => List.mem_cons_of_mem _ (uw_X4 w h)
  refine jx_aload_n E dX4_view_0 0 rfl ?_
  refine jx_iload_n E dX4_view_1 1 rfl ?_
  obtain ⟨⟨r1, v1⟩, hc1, hF⟩ := jx_bind hF
  try dsimp only at hF
  refine jx_callVi (As := [.int x1]) (st := []) (h := 0) E dX4_view_2 1 rfl (k_X4_isWindow hI x1 v r1 v1 hc1) (gb_V (List.mem_cons_of_mem _ tw_203) (List.mem_cons_of_mem _ tw_204) (List.mem_cons_of_mem _ tw_205) (List.mem_cons_of_mem _ tw_190) tw_202) rfl rfl rfl dd_X4_isWindow rfl (Nat.le_of_ble_eq_true rfl) s_X0 rfl ⟨by decide, by decide⟩ ⟨Nat.le_refl 0, Nat.le_refl 0⟩ (Nat.le_of_ble_eq_true rfl) ?_
  refine jx_if_ne (tgt := 14) E dX4_view_5 (by decide) (fun hc2 => ?_) (fun hc2 => ?_)
  · rw [if_neg hc2] at hF
    refine jx_aload_n E dX4_view_14 0 rfl ?_
    refine jx_getr (C := RX4) (T := TX4) (M := 11) (k := 3) E dX4_view_15 (Nat.le_of_ble_eq_true rfl) s_X0 rfl iX4 (by decide) rfl (List.mem_cons_of_mem _ tw_209) rfl ?_
    refine jx_aload_n E dX4_view_18 0 rfl ?_
    refine jx_getr (C := RX4) (T := TX4) (M := 11) (k := 0) E dX4_view_19 (Nat.le_of_ble_eq_true rfl) s_X0 rfl iX4 (by decide) rfl (List.mem_cons_of_mem _ tw_195) rfl ?_
    refine jx_iload_n E dX4_view_22 1 rfl ?_
    obtain ⟨⟨r3, v3⟩, hc3, hF⟩ := jx_bind hF
    try dsimp only at hF
    refine jx_callNi (As := [.ref (ad 1), .int x1]) (st := []) (h := 49) E dX4_view_23 2 rfl (k_X0_squaresInView hI 1 jx_T1 x1 v1 r3 v3 hc3) (gb_N tw_69) rfl rfl rfl (ex_m17 (jx_ex E)) (List.mem_cons_of_mem _ tw_49) (List.mem_cons_of_mem _ tw_71) (List.mem_cons_of_mem _ tw_72) dd_X0_squaresInView.2 rfl (Nat.le_of_ble_eq_true rfl) s_X49 rfl ⟨by decide, by decide⟩ ⟨Nat.le_refl 0, Nat.le_refl 0⟩ (Nat.le_of_ble_eq_true rfl) ?_
    obtain ⟨rfl, rfl⟩ := jx_out hF
    exact jx_iret E dX4_view_26 rfl
  · rw [if_pos hc2] at hF
    refine jx_aload_n E dX4_view_8 0 rfl ?_
    refine jx_iconst (x := 0) E dX4_view_9 (by decide) ?_
    obtain ⟨⟨r4, v4⟩, hc4, hF⟩ := jx_bind hF
    try dsimp only at hF
    refine jx_callVi (As := [.int 0]) (st := []) (h := 0) E dX4_view_10 1 rfl (k_X4_finding hI 0 v1 r4 v4 hc4) (gb_V (List.mem_cons_of_mem _ tw_192) (List.mem_cons_of_mem _ tw_193) (List.mem_cons_of_mem _ tw_194) (List.mem_cons_of_mem _ tw_190) tw_191) rfl rfl rfl dd_X4_finding rfl (Nat.le_of_ble_eq_true rfl) s_X0 rfl ⟨by decide, by decide⟩ ⟨Nat.le_refl 0, Nat.le_refl 0⟩ (Nat.le_of_ble_eq_true rfl) ?_
    obtain ⟨rfl, rfl⟩ := jx_out hF
    exact jx_iret E dX4_view_13 rfl
def f_X4_share (x1 : Int32) (x2 : Int32) (v : jx_V) : Option (Int32 × jx_V) := ((f_X4_isWindow x1 v).bind (fun (r1, v1) => (if r1 = 0 then ((f_X4_finding 0 v1).bind (fun (r3, v3) => (some (r3, v3)))) else ((f_X4_within x2 4 v1).bind (fun (r4, v4) => (if r4 = 0 then ((f_X4_finding 0 v4).bind (fun (r7, v7) => (some (r7, v7)))) else ((f_X0_squaresOfOwner 1 x1 x2 v4).bind (fun (r6, v6) => (some (r6, v6))))))))))
def rm_X4_share : Room := { frames := 4, cells := 0, slots := 0, locals := 98 }
set_option maxHeartbeats 4000000 in
set_option maxRecDepth 100000 in
theorem k_X4_share {l : Launch} {D : va_G} {cI cJ : ClassId} {ad : Nat → Nat} {A : Nat → Prop} {adK adV : Nat → Nat} (hI : jx_inj 67 ad A) (x1 : Int32) (x2 : Int32) (v : jx_V) (r : Int32) (v' : jx_V) (hF : f_X4_share x1 x2 v = some (r, v')) : jx_Ci l D vwCl 67 cI cJ ad shX A (ex_X adK adV A) yX4_share (Cond.code yX4_share cX4_share 3 (some .int) :: bigT) rm_X4_share [.ref (ad 0), .int x1, .int x2] v r v' := by
  unfold f_X4_share at hF
  refine jx_enteri bigT RX4 cX4_share 3 (some .int) [(0, .ref (ad 0)), (1, .int x1), (2, .int x2)] hI (ex_X_ok adK adV A) (by decide +kernel) rfl (Nat.le_of_ble_eq_true rfl) rfl rfl ?_
  intro p e s m args below meth c E
  have iX4 : ∀ w ∈ u_ws RX4 TX4 11, w ∈ (Cond.code yX4_share cX4_share 3 (some .int) :: bigT) := fun w h => List.mem_cons_of_mem _ (uw_X4 w h)
  refine jx_aload_n E dX4_share_0 0 rfl ?_
  refine jx_iload_n E dX4_share_1 1 rfl ?_
  obtain ⟨⟨r1, v1⟩, hc1, hF⟩ := jx_bind hF
  try dsimp only at hF
  refine jx_callVi (As := [.int x1]) (st := []) (h := 0) E dX4_share_2 1 rfl (k_X4_isWindow hI x1 v r1 v1 hc1) (gb_V (List.mem_cons_of_mem _ tw_203) (List.mem_cons_of_mem _ tw_204) (List.mem_cons_of_mem _ tw_205) (List.mem_cons_of_mem _ tw_190) tw_202) rfl rfl rfl dd_X4_isWindow rfl (Nat.le_of_ble_eq_true rfl) s_X0 rfl ⟨by decide, by decide⟩ ⟨Nat.le_refl 0, Nat.le_refl 0⟩ (Nat.le_of_ble_eq_true rfl) ?_
  refine jx_if_eq (tgt := 16) E dX4_share_5 (by decide) (fun hc2 => ?_) (fun hc2 => ?_)
  · rw [if_pos hc2] at hF
    refine jx_aload_n E dX4_share_16 0 rfl ?_
    refine jx_iconst (x := 0) E dX4_share_17 (by decide) ?_
    obtain ⟨⟨r3, v3⟩, hc3, hF⟩ := jx_bind hF
    try dsimp only at hF
    refine jx_callVi (As := [.int 0]) (st := []) (h := 0) E dX4_share_18 1 rfl (k_X4_finding hI 0 v1 r3 v3 hc3) (gb_V (List.mem_cons_of_mem _ tw_192) (List.mem_cons_of_mem _ tw_193) (List.mem_cons_of_mem _ tw_194) (List.mem_cons_of_mem _ tw_190) tw_191) rfl rfl rfl dd_X4_finding rfl (Nat.le_of_ble_eq_true rfl) s_X0 rfl ⟨by decide, by decide⟩ ⟨Nat.le_refl 0, Nat.le_refl 0⟩ (Nat.le_of_ble_eq_true rfl) ?_
    obtain ⟨rfl, rfl⟩ := jx_out hF
    exact jx_iret E dX4_share_21 rfl
  · rw [if_neg hc2] at hF
    refine jx_iload_n E dX4_share_8 2 rfl ?_
    refine jx_iconst (x := 4) E dX4_share_9 (by decide) ?_
    obtain ⟨⟨r4, v4⟩, hc4, hF⟩ := jx_bind hF
    try dsimp only at hF
    refine jx_callSi (As := [.int x2, .int 4]) (st := []) E dX4_share_10 2 rfl (k_X4_within hI x2 4 v1 r4 v4 hc4) (gb_S (List.mem_cons_of_mem _ tw_188) (List.mem_cons_of_mem _ tw_189) (List.mem_cons_of_mem _ tw_190) tw_187) rfl rfl rfl dd_X4_within rfl ⟨by decide, by decide⟩ ⟨Nat.le_refl 0, Nat.le_refl 0⟩ (Nat.le_of_ble_eq_true rfl) ?_
    refine jx_if_ne (tgt := 22) E dX4_share_13 (by decide) (fun hc5 => ?_) (fun hc5 => ?_)
    · rw [if_neg hc5] at hF
      refine jx_aload_n E dX4_share_22 0 rfl ?_
      refine jx_getr (C := RX4) (T := TX4) (M := 11) (k := 3) E dX4_share_23 (Nat.le_of_ble_eq_true rfl) s_X0 rfl iX4 (by decide) rfl (List.mem_cons_of_mem _ tw_209) rfl ?_
      refine jx_aload_n E dX4_share_26 0 rfl ?_
      refine jx_getr (C := RX4) (T := TX4) (M := 11) (k := 0) E dX4_share_27 (Nat.le_of_ble_eq_true rfl) s_X0 rfl iX4 (by decide) rfl (List.mem_cons_of_mem _ tw_195) rfl ?_
      refine jx_iload_n E dX4_share_30 1 rfl ?_
      refine jx_iload_n E dX4_share_31 2 rfl ?_
      obtain ⟨⟨r6, v6⟩, hc6, hF⟩ := jx_bind hF
      try dsimp only at hF
      refine jx_callNi (As := [.ref (ad 1), .int x1, .int x2]) (st := []) (h := 49) E dX4_share_32 3 rfl (k_X0_squaresOfOwner hI 1 jx_T1 x1 x2 v4 r6 v6 hc6) (gb_N tw_81) rfl rfl rfl (ex_m18 (jx_ex E)) (List.mem_cons_of_mem _ tw_49) (List.mem_cons_of_mem _ tw_83) (List.mem_cons_of_mem _ tw_84) dd_X0_squaresOfOwner.2 rfl (Nat.le_of_ble_eq_true rfl) s_X49 rfl ⟨by decide, by decide⟩ ⟨Nat.le_refl 0, Nat.le_refl 0⟩ (Nat.le_of_ble_eq_true rfl) ?_
      obtain ⟨rfl, rfl⟩ := jx_out hF
      exact jx_iret E dX4_share_35 rfl
    · rw [if_pos hc5] at hF
      refine jx_aload_n E dX4_share_16 0 rfl ?_
      refine jx_iconst (x := 0) E dX4_share_17 (by decide) ?_
      obtain ⟨⟨r7, v7⟩, hc7, hF⟩ := jx_bind hF
      try dsimp only at hF
      refine jx_callVi (As := [.int 0]) (st := []) (h := 0) E dX4_share_18 1 rfl (k_X4_finding hI 0 v4 r7 v7 hc7) (gb_V (List.mem_cons_of_mem _ tw_192) (List.mem_cons_of_mem _ tw_193) (List.mem_cons_of_mem _ tw_194) (List.mem_cons_of_mem _ tw_190) tw_191) rfl rfl rfl dd_X4_finding rfl (Nat.le_of_ble_eq_true rfl) s_X0 rfl ⟨by decide, by decide⟩ ⟨Nat.le_refl 0, Nat.le_refl 0⟩ (Nat.le_of_ble_eq_true rfl) ?_
      obtain ⟨rfl, rfl⟩ := jx_out hF
      exact jx_iret E dX4_share_21 rfl
def f_X4_lots (x1 : Int32) (v : jx_V) : Option (Int32 × jx_V) := ((f_X4_isWindow x1 v).bind (fun (r1, v1) => (if r1 = 0 then ((f_X4_finding 0 v1).bind (fun (r4, v4) => (some (r4, v4)))) else ((f_X0_lotSet 1 x1 v1).bind (fun (r3, v3) => (some (r3, v3)))))))
def rm_X4_lots : Room := { frames := 4, cells := 0, slots := 0, locals := 97 }
set_option maxHeartbeats 4000000 in
set_option maxRecDepth 100000 in
theorem k_X4_lots {l : Launch} {D : va_G} {cI cJ : ClassId} {ad : Nat → Nat} {A : Nat → Prop} {adK adV : Nat → Nat} (hI : jx_inj 67 ad A) (x1 : Int32) (v : jx_V) (r : Int32) (v' : jx_V) (hF : f_X4_lots x1 v = some (r, v')) : jx_Ci l D vwCl 67 cI cJ ad shX A (ex_X adK adV A) yX4_lots (Cond.code yX4_lots cX4_lots 2 (some .int) :: bigT) rm_X4_lots [.ref (ad 0), .int x1] v r v' := by
  unfold f_X4_lots at hF
  refine jx_enteri bigT RX4 cX4_lots 2 (some .int) [(0, .ref (ad 0)), (1, .int x1)] hI (ex_X_ok adK adV A) (by decide +kernel) rfl (Nat.le_of_ble_eq_true rfl) rfl rfl ?_
  intro p e s m args below meth c E
  have iX4 : ∀ w ∈ u_ws RX4 TX4 11, w ∈ (Cond.code yX4_lots cX4_lots 2 (some .int) :: bigT) := fun w h => List.mem_cons_of_mem _ (uw_X4 w h)
  refine jx_aload_n E dX4_lots_0 0 rfl ?_
  refine jx_iload_n E dX4_lots_1 1 rfl ?_
  obtain ⟨⟨r1, v1⟩, hc1, hF⟩ := jx_bind hF
  try dsimp only at hF
  refine jx_callVi (As := [.int x1]) (st := []) (h := 0) E dX4_lots_2 1 rfl (k_X4_isWindow hI x1 v r1 v1 hc1) (gb_V (List.mem_cons_of_mem _ tw_203) (List.mem_cons_of_mem _ tw_204) (List.mem_cons_of_mem _ tw_205) (List.mem_cons_of_mem _ tw_190) tw_202) rfl rfl rfl dd_X4_isWindow rfl (Nat.le_of_ble_eq_true rfl) s_X0 rfl ⟨by decide, by decide⟩ ⟨Nat.le_refl 0, Nat.le_refl 0⟩ (Nat.le_of_ble_eq_true rfl) ?_
  refine jx_if_ne (tgt := 14) E dX4_lots_5 (by decide) (fun hc2 => ?_) (fun hc2 => ?_)
  · rw [if_neg hc2] at hF
    refine jx_aload_n E dX4_lots_14 0 rfl ?_
    refine jx_getr (C := RX4) (T := TX4) (M := 11) (k := 3) E dX4_lots_15 (Nat.le_of_ble_eq_true rfl) s_X0 rfl iX4 (by decide) rfl (List.mem_cons_of_mem _ tw_209) rfl ?_
    refine jx_aload_n E dX4_lots_18 0 rfl ?_
    refine jx_getr (C := RX4) (T := TX4) (M := 11) (k := 0) E dX4_lots_19 (Nat.le_of_ble_eq_true rfl) s_X0 rfl iX4 (by decide) rfl (List.mem_cons_of_mem _ tw_195) rfl ?_
    refine jx_iload_n E dX4_lots_22 1 rfl ?_
    obtain ⟨⟨r3, v3⟩, hc3, hF⟩ := jx_bind hF
    try dsimp only at hF
    refine jx_callNi (As := [.ref (ad 1), .int x1]) (st := []) (h := 49) E dX4_lots_23 2 rfl (k_X0_lotSet hI 1 jx_T1 x1 v1 r3 v3 hc3) (gb_N tw_213) rfl rfl rfl (ex_m19 (jx_ex E)) (List.mem_cons_of_mem _ tw_49) (List.mem_cons_of_mem _ tw_214) (List.mem_cons_of_mem _ tw_215) dd_X0_lotSet.2 rfl (Nat.le_of_ble_eq_true rfl) s_X49 rfl ⟨by decide, by decide⟩ ⟨Nat.le_refl 0, Nat.le_refl 0⟩ (Nat.le_of_ble_eq_true rfl) ?_
    obtain ⟨rfl, rfl⟩ := jx_out hF
    exact jx_iret E dX4_lots_26 rfl
  · rw [if_pos hc2] at hF
    refine jx_aload_n E dX4_lots_8 0 rfl ?_
    refine jx_iconst (x := 0) E dX4_lots_9 (by decide) ?_
    obtain ⟨⟨r4, v4⟩, hc4, hF⟩ := jx_bind hF
    try dsimp only at hF
    refine jx_callVi (As := [.int 0]) (st := []) (h := 0) E dX4_lots_10 1 rfl (k_X4_finding hI 0 v1 r4 v4 hc4) (gb_V (List.mem_cons_of_mem _ tw_192) (List.mem_cons_of_mem _ tw_193) (List.mem_cons_of_mem _ tw_194) (List.mem_cons_of_mem _ tw_190) tw_191) rfl rfl rfl dd_X4_finding rfl (Nat.le_of_ble_eq_true rfl) s_X0 rfl ⟨by decide, by decide⟩ ⟨Nat.le_refl 0, Nat.le_refl 0⟩ (Nat.le_of_ble_eq_true rfl) ?_
    obtain ⟨rfl, rfl⟩ := jx_out hF
    exact jx_iret E dX4_lots_13 rfl
def f_X4_watched_L  : Nat → Int32 → Int32 → Int32 → jx_V → Option (Int32 × jx_V)
  | 0, _, _, _, _ => none
  | n + 1, x1, x2, x3, v => (if (v 1 5) ≤ x3 then (some (x2, v)) else ((f_X0_lotSet 1 x3 v).bind (fun (r5, v5) => (if ((r5 >>> (x1 &&& 31)) &&& 1) = 1 then (f_X4_watched_L n x1 (x2 ||| (1 <<< (x3 &&& 31))) (x3 + 1) v5) else (f_X4_watched_L n x1 x2 (x3 + 1) v5)))))
def f_X4_watched (x1 : Int32) (v : jx_V) : Option (Int32 × jx_V) := ((f_X4_within x1 25 v).bind (fun (r1, v1) => (if r1 = 0 then ((f_X4_finding 0 v1).bind (fun (r3, v3) => (some (r3, v3)))) else (f_X4_watched_L 100000 x1 0 0 v1))))
def rm_X4_watched : Room := { frames := 4, cells := 0, slots := 0, locals := 97 }
set_option maxHeartbeats 4000000 in
set_option maxRecDepth 100000 in
theorem k_X4_watched {l : Launch} {D : va_G} {cI cJ : ClassId} {ad : Nat → Nat} {A : Nat → Prop} {adK adV : Nat → Nat} (hI : jx_inj 67 ad A) (x1 : Int32) (v : jx_V) (r : Int32) (v' : jx_V) (hF : f_X4_watched x1 v = some (r, v')) : jx_Ci l D vwCl 67 cI cJ ad shX A (ex_X adK adV A) yX4_watched (Cond.code yX4_watched cX4_watched 4 (some .int) :: bigT) rm_X4_watched [.ref (ad 0), .int x1] v r v' := by
  unfold f_X4_watched at hF
  refine jx_enteri bigT RX4 cX4_watched 4 (some .int) [(0, .ref (ad 0)), (1, .int x1)] hI (ex_X_ok adK adV A) (by decide +kernel) rfl (Nat.le_of_ble_eq_true rfl) rfl rfl ?_
  intro p e s m args below meth c E
  have iX3 : ∀ w ∈ u_ws RX3 TX3 8, w ∈ (Cond.code yX4_watched cX4_watched 4 (some .int) :: bigT) := fun w h => List.mem_cons_of_mem _ (uw_X3 w h)
  have iX4 : ∀ w ∈ u_ws RX4 TX4 11, w ∈ (Cond.code yX4_watched cX4_watched 4 (some .int) :: bigT) := fun w h => List.mem_cons_of_mem _ (uw_X4 w h)
  have key : ∀ n : Nat, (∀ (x1 : Int32) (x2 : Int32) (x3 : Int32) (v : jx_V), f_X4_watched_L  n  x1 x2 x3 v = some (r, v') → jx_J p l e rm_X4_watched s m args below meth c D vwCl 67 cI cJ ad shX A 0 0 4 (MQ below (va_Qi (fun (r1 : Int32) (_ : Unit) => r1 = r) (fun _ t => va_P D vwCl (jx_ws 67 cI cJ ad shX v') t.heap) A) args s 0 0 A) v 19 [(0, .ref (ad 0)), (1, .int x1), (2, .int x2), (3, .int x3)] []) := by
    intro n
    induction n with
    | zero =>
      exact (fun _ _ _ _ h => by cases h)
    | succ n ih =>
      intro x1 x2 x3 v hF
      rw [f_X4_watched_L] at hF
      refine jx_iload_n E dX4_watched_19 3 rfl ?_
      refine jx_aload_n E dX4_watched_20 0 rfl ?_
      refine jx_getr (C := RX4) (T := TX4) (M := 11) (k := 0) E dX4_watched_21 (Nat.le_of_ble_eq_true rfl) s_X0 rfl iX4 (by decide) rfl (List.mem_cons_of_mem _ tw_195) rfl ?_
      refine jx_getiN (C := RX3) (T := TX3) (M := 8) (k := 5) E dX4_watched_24 (Nat.le_of_ble_eq_true rfl) s_X1 rfl iX3 (by decide) rfl (ex_f10 (jx_ex E)) rfl ?_
      refine jx_icmp_ge (tgt := 62) E dX4_watched_27 (by decide) (fun hc4 => ?_) (fun hc4 => ?_)
      · rw [if_pos hc4] at hF
        refine jx_iload_n E dX4_watched_62 2 rfl ?_
        obtain ⟨rfl, rfl⟩ := jx_out hF
        exact jx_iret E dX4_watched_63 rfl
      · rw [if_neg hc4] at hF
        refine jx_aload_n E dX4_watched_30 0 rfl ?_
        refine jx_getr (C := RX4) (T := TX4) (M := 11) (k := 3) E dX4_watched_31 (Nat.le_of_ble_eq_true rfl) s_X0 rfl iX4 (by decide) rfl (List.mem_cons_of_mem _ tw_209) rfl ?_
        refine jx_aload_n E dX4_watched_34 0 rfl ?_
        refine jx_getr (C := RX4) (T := TX4) (M := 11) (k := 0) E dX4_watched_35 (Nat.le_of_ble_eq_true rfl) s_X0 rfl iX4 (by decide) rfl (List.mem_cons_of_mem _ tw_195) rfl ?_
        refine jx_iload_n E dX4_watched_38 3 rfl ?_
        obtain ⟨⟨r5, v5⟩, hc5, hF⟩ := jx_bind hF
        try dsimp only at hF
        refine jx_callNi (As := [.ref (ad 1), .int x3]) (st := []) (h := 49) E dX4_watched_39 2 rfl (k_X0_lotSet hI 1 jx_T1 x3 v r5 v5 hc5) (gb_N tw_213) rfl rfl rfl (ex_m19 (jx_ex E)) (List.mem_cons_of_mem _ tw_49) (List.mem_cons_of_mem _ tw_214) (List.mem_cons_of_mem _ tw_215) dd_X0_lotSet.2 rfl (Nat.le_of_ble_eq_true rfl) s_X49 rfl ⟨by decide, by decide⟩ ⟨Nat.le_refl 0, Nat.le_refl 0⟩ (Nat.le_of_ble_eq_true rfl) ?_
        refine jx_iload_n E dX4_watched_42 1 rfl ?_
        refine jx_ishr E dX4_watched_43 ?_
        refine jx_iconst (x := 1) E dX4_watched_44 (by decide) ?_
        refine jx_iand E dX4_watched_45 ?_
        refine jx_iconst (x := 1) E dX4_watched_46 (by decide) ?_
        refine jx_icmp_ne (tgt := 56) E dX4_watched_47 (by decide) (fun hc6 => ?_) (fun hc6 => ?_)
        · rw [if_neg hc6] at hF
          refine jx_iinc (y := (x3 + 1)) (lv' := [(3, .int (x3 + 1)), (0, .ref (ad 0)), (1, .int x1), (2, .int x2)]) E dX4_watched_56 3 rfl rfl (by decide) rfl ?_
          refine jx_goto (tgt := 19) E dX4_watched_59 (by decide) ?_
          refine jx_sub [1, 2, 3, 0] rfl ?_
          exact ih x1 x2 (x3 + 1) v5 hF
        · rw [if_pos hc6] at hF
          refine jx_iload_n E dX4_watched_50 2 rfl ?_
          refine jx_iconst (x := 1) E dX4_watched_51 (by decide) ?_
          refine jx_iload_n E dX4_watched_52 3 rfl ?_
          refine jx_ishl E dX4_watched_53 ?_
          refine jx_ior E dX4_watched_54 ?_
          refine jx_istore_n (lv' := [(2, .int (x2 ||| (1 <<< (x3 &&& 31)))), (0, .ref (ad 0)), (1, .int x1), (3, .int x3)]) E dX4_watched_55 (by decide) rfl ?_
          refine jx_iinc (y := (x3 + 1)) (lv' := [(3, .int (x3 + 1)), (2, .int (x2 ||| (1 <<< (x3 &&& 31)))), (0, .ref (ad 0)), (1, .int x1)]) E dX4_watched_56 3 rfl rfl (by decide) rfl ?_
          refine jx_goto (tgt := 19) E dX4_watched_59 (by decide) ?_
          refine jx_sub [2, 3, 1, 0] rfl ?_
          exact ih x1 (x2 ||| (1 <<< (x3 &&& 31))) (x3 + 1) v5 hF
  refine jx_iload_n E dX4_watched_0 1 rfl ?_
  refine jx_bipush (x := 25) E dX4_watched_1 (by decide) ?_
  obtain ⟨⟨r1, v1⟩, hc1, hF⟩ := jx_bind hF
  try dsimp only at hF
  refine jx_callSi (As := [.int x1, .int 25]) (st := []) E dX4_watched_3 2 rfl (k_X4_within hI x1 25 v r1 v1 hc1) (gb_S (List.mem_cons_of_mem _ tw_188) (List.mem_cons_of_mem _ tw_189) (List.mem_cons_of_mem _ tw_190) tw_187) rfl rfl rfl dd_X4_within rfl ⟨by decide, by decide⟩ ⟨Nat.le_refl 0, Nat.le_refl 0⟩ (Nat.le_of_ble_eq_true rfl) ?_
  refine jx_if_ne (tgt := 15) E dX4_watched_6 (by decide) (fun hc2 => ?_) (fun hc2 => ?_)
  · rw [if_neg hc2] at hF
    refine jx_iconst (x := 0) E dX4_watched_15 (by decide) ?_
    refine jx_istore_n (lv' := [(2, .int 0), (0, .ref (ad 0)), (1, .int x1)]) E dX4_watched_16 (by decide) rfl ?_
    refine jx_iconst (x := 0) E dX4_watched_17 (by decide) ?_
    refine jx_istore_n (lv' := [(3, .int 0), (2, .int 0), (0, .ref (ad 0)), (1, .int x1)]) E dX4_watched_18 (by decide) rfl ?_
    refine jx_sub [2, 3, 1, 0] rfl ?_
    exact (key 100000) x1 0 0 v1 hF
  · rw [if_pos hc2] at hF
    refine jx_aload_n E dX4_watched_9 0 rfl ?_
    refine jx_iconst (x := 0) E dX4_watched_10 (by decide) ?_
    obtain ⟨⟨r3, v3⟩, hc3, hF⟩ := jx_bind hF
    try dsimp only at hF
    refine jx_callVi (As := [.int 0]) (st := []) (h := 0) E dX4_watched_11 1 rfl (k_X4_finding hI 0 v1 r3 v3 hc3) (gb_V (List.mem_cons_of_mem _ tw_192) (List.mem_cons_of_mem _ tw_193) (List.mem_cons_of_mem _ tw_194) (List.mem_cons_of_mem _ tw_190) tw_191) rfl rfl rfl dd_X4_finding rfl (Nat.le_of_ble_eq_true rfl) s_X0 rfl ⟨by decide, by decide⟩ ⟨Nat.le_refl 0, Nat.le_refl 0⟩ (Nat.le_of_ble_eq_true rfl) ?_
    obtain ⟨rfl, rfl⟩ := jx_out hF
    exact jx_iret E dX4_watched_14 rfl
