def f_X4_hold (x1 : Int32) (x2 : Int32) (v : jx_V) : Option (Int32 × jx_V) := ((f_X4_within x1 10 v).bind (fun (r1, v1) => (if r1 = 0 then ((f_X4_finding 0 v1).bind (fun (r3, v3) => (some (r3, v3)))) else (if x2 < (-1) then ((f_X4_finding 0 v1).bind (fun (r5, v5) => (some (r5, v5)))) else (if x2 < 25 then (if (x1 < 0 ∨ 10 ≤ Int32.toNatClampNeg x1) then none else (some (1, (jx_up v1 16 (Int32.toNatClampNeg x1) x2)))) else ((f_X4_finding 0 v1).bind (fun (r8, v8) => (some (r8, v8)))))))))
def rm_X4_hold : Room := { frames := 1, cells := 0, slots := 0, locals := 21 }
set_option maxHeartbeats 4000000 in
set_option maxRecDepth 100000 in
theorem k_X4_hold {l : Launch} {D : va_G} {cI cJ : ClassId} {ad : Nat → Nat} {A : Nat → Prop} {adK adV : Nat → Nat} (hI : jx_inj 67 ad A) (x1 : Int32) (x2 : Int32) (v : jx_V) (r : Int32) (v' : jx_V) (hF : f_X4_hold x1 x2 v = some (r, v')) : jx_Ci l D vwCl 67 cI cJ ad shX A (ex_X adK adV A) yX4_hold (Cond.code yX4_hold cX4_hold 3 (some .int) :: bigT) rm_X4_hold [.ref (ad 0), .int x1, .int x2] v r v' := by
  unfold f_X4_hold at hF
  refine jx_enteri bigT RX4 cX4_hold 3 (some .int) [(0, .ref (ad 0)), (1, .int x1), (2, .int x2)] hI (ex_X_ok adK adV A) (by decide +kernel) rfl (Nat.le_of_ble_eq_true rfl) rfl rfl ?_
  intro p e s m args below meth c E
  have iX3 : ∀ w ∈ u_ws RX3 TX3 8, w ∈ (Cond.code yX4_hold cX4_hold 3 (some .int) :: bigT) := fun w h => List.mem_cons_of_mem _ (uw_X3 w h)
  have iX4 : ∀ w ∈ u_ws RX4 TX4 11, w ∈ (Cond.code yX4_hold cX4_hold 3 (some .int) :: bigT) := fun w h => List.mem_cons_of_mem _ (uw_X4 w h)
  refine jx_iload_n E dX4_hold_0 1 rfl ?_
  refine jx_bipush (x := 10) E dX4_hold_1 (by decide) ?_
  obtain ⟨⟨r1, v1⟩, hc1, hF⟩ := jx_bind hF
  try dsimp only at hF
  refine jx_callSi (As := [.int x1, .int 10]) (st := []) E dX4_hold_3 2 rfl (k_X4_within hI x1 10 v r1 v1 hc1) (gb_S (List.mem_cons_of_mem _ tw_188) (List.mem_cons_of_mem _ tw_189) (List.mem_cons_of_mem _ tw_190) tw_187) rfl rfl rfl dd_X4_within rfl ⟨by decide, by decide⟩ ⟨Nat.le_refl 0, Nat.le_refl 0⟩ (Nat.le_of_ble_eq_true rfl) ?_
  refine jx_if_eq (tgt := 20) E dX4_hold_6 (by decide) (fun hc2 => ?_) (fun hc2 => ?_)
  · rw [if_pos hc2] at hF
    refine jx_aload_n E dX4_hold_20 0 rfl ?_
    refine jx_iconst (x := 0) E dX4_hold_21 (by decide) ?_
    obtain ⟨⟨r3, v3⟩, hc3, hF⟩ := jx_bind hF
    try dsimp only at hF
    refine jx_callVi (As := [.int 0]) (st := []) (h := 0) E dX4_hold_22 1 rfl (k_X4_finding hI 0 v1 r3 v3 hc3) (gb_V (List.mem_cons_of_mem _ tw_192) (List.mem_cons_of_mem _ tw_193) (List.mem_cons_of_mem _ tw_194) (List.mem_cons_of_mem _ tw_190) tw_191) rfl rfl rfl dd_X4_finding rfl (Nat.le_of_ble_eq_true rfl) s_X0 rfl ⟨by decide, by decide⟩ ⟨Nat.le_refl 0, Nat.le_refl 0⟩ (Nat.le_of_ble_eq_true rfl) ?_
    obtain ⟨rfl, rfl⟩ := jx_out hF
    exact jx_iret E dX4_hold_25 rfl
  · rw [if_neg hc2] at hF
    refine jx_iload_n E dX4_hold_9 2 rfl ?_
    refine jx_iconst (x := -1) E dX4_hold_10 (by decide) ?_
    refine jx_icmp_lt (tgt := 20) E dX4_hold_11 (by decide) (fun hc4 => ?_) (fun hc4 => ?_)
    · rw [if_pos hc4] at hF
      refine jx_aload_n E dX4_hold_20 0 rfl ?_
      refine jx_iconst (x := 0) E dX4_hold_21 (by decide) ?_
      obtain ⟨⟨r5, v5⟩, hc5, hF⟩ := jx_bind hF
      try dsimp only at hF
      refine jx_callVi (As := [.int 0]) (st := []) (h := 0) E dX4_hold_22 1 rfl (k_X4_finding hI 0 v1 r5 v5 hc5) (gb_V (List.mem_cons_of_mem _ tw_192) (List.mem_cons_of_mem _ tw_193) (List.mem_cons_of_mem _ tw_194) (List.mem_cons_of_mem _ tw_190) tw_191) rfl rfl rfl dd_X4_finding rfl (Nat.le_of_ble_eq_true rfl) s_X0 rfl ⟨by decide, by decide⟩ ⟨Nat.le_refl 0, Nat.le_refl 0⟩ (Nat.le_of_ble_eq_true rfl) ?_
      obtain ⟨rfl, rfl⟩ := jx_out hF
      exact jx_iret E dX4_hold_25 rfl
    · rw [if_neg hc4] at hF
      refine jx_iload_n E dX4_hold_14 2 rfl ?_
      refine jx_bipush (x := 25) E dX4_hold_15 (by decide) ?_
      refine jx_icmp_lt (tgt := 26) E dX4_hold_17 (by decide) (fun hc6 => ?_) (fun hc6 => ?_)
      · rw [if_pos hc6] at hF
        refine jx_aload_n E dX4_hold_26 0 rfl ?_
        refine jx_getr (C := RX4) (T := TX4) (M := 11) (k := 0) E dX4_hold_27 (Nat.le_of_ble_eq_true rfl) s_X0 rfl iX4 (by decide) rfl (List.mem_cons_of_mem _ tw_195) rfl ?_
        refine jx_getrN (C := RX3) (T := TX3) (M := 8) (k := 4) E dX4_hold_30 (Nat.le_of_ble_eq_true rfl) s_X1 rfl iX3 (by decide) rfl (ex_f8 (jx_ex E)) rfl ?_
        refine jx_iload_n E dX4_hold_33 1 rfl ?_
        refine jx_iload_n E dX4_hold_34 2 rfl ?_
        obtain ⟨hg7, hF⟩ := jx_guard hF
        refine jx_iast (h := 16) (j := (Int32.toNatClampNeg x1)) E dX4_hold_35 (Nat.le_of_ble_eq_true rfl) s_X16 hg7 rfl ?_
        refine jx_iconst (x := 1) E dX4_hold_36 (by decide) ?_
        obtain ⟨rfl, rfl⟩ := jx_out hF
        exact jx_iret E dX4_hold_37 rfl
      · rw [if_neg hc6] at hF
        refine jx_aload_n E dX4_hold_20 0 rfl ?_
        refine jx_iconst (x := 0) E dX4_hold_21 (by decide) ?_
        obtain ⟨⟨r8, v8⟩, hc8, hF⟩ := jx_bind hF
        try dsimp only at hF
        refine jx_callVi (As := [.int 0]) (st := []) (h := 0) E dX4_hold_22 1 rfl (k_X4_finding hI 0 v1 r8 v8 hc8) (gb_V (List.mem_cons_of_mem _ tw_192) (List.mem_cons_of_mem _ tw_193) (List.mem_cons_of_mem _ tw_194) (List.mem_cons_of_mem _ tw_190) tw_191) rfl rfl rfl dd_X4_finding rfl (Nat.le_of_ble_eq_true rfl) s_X0 rfl ⟨by decide, by decide⟩ ⟨Nat.le_refl 0, Nat.le_refl 0⟩ (Nat.le_of_ble_eq_true rfl) ?_
        obtain ⟨rfl, rfl⟩ := jx_out hF
        exact jx_iret E dX4_hold_25 rfl
def f_X4_kindAbove (x0 : Int32) (v : jx_V) : Option (Int32 × jx_V) := (if x0 = 3 then (some (1, v)) else (if x0 = 4 then (some (2, v)) else (if x0 = 5 then (some (0, v)) else (if x0 = 6 then (some (5, v)) else (some (0, v))))))
def rm_X4_kindAbove : Room := { frames := 0, cells := 0, slots := 0, locals := 0 }
set_option maxHeartbeats 4000000 in
set_option maxRecDepth 100000 in
theorem k_X4_kindAbove {l : Launch} {D : va_G} {cI cJ : ClassId} {ad : Nat → Nat} {A : Nat → Prop} {adK adV : Nat → Nat} (hI : jx_inj 67 ad A) (x0 : Int32) (v : jx_V) (r : Int32) (v' : jx_V) (hF : f_X4_kindAbove x0 v = some (r, v')) : jx_Ci l D vwCl 67 cI cJ ad shX A (ex_X adK adV A) yX4_kindAbove (Cond.code yX4_kindAbove cX4_kindAbove 1 (some .int) :: bigT) rm_X4_kindAbove [.int x0] v r v' := by
  unfold f_X4_kindAbove at hF
  refine jx_enteri bigT RX4 cX4_kindAbove 1 (some .int) [(0, .int x0)] hI (ex_X_ok adK adV A) (by decide +kernel) rfl (Nat.le_of_ble_eq_true rfl) rfl rfl ?_
  intro p e s m args below meth c E
  refine jx_iload_n E dX4_kindAbove_0 0 rfl ?_
  by_cases hc1 : x0 = 3
  · rw [if_pos hc1] at hF
    refine jx_tableIn (tgt := 32) (z := 3) E dX4_kindAbove_1 hc1 (by decide) (by decide) rfl (by decide) ?_
    refine jx_iconst (x := 1) E dX4_kindAbove_32 (by decide) ?_
    obtain ⟨rfl, rfl⟩ := jx_out hF
    exact jx_iret E dX4_kindAbove_33 rfl
  rw [if_neg hc1] at hF
  by_cases hc2 : x0 = 4
  · rw [if_pos hc2] at hF
    refine jx_tableIn (tgt := 34) (z := 4) E dX4_kindAbove_1 hc2 (by decide) (by decide) rfl (by decide) ?_
    refine jx_iconst (x := 2) E dX4_kindAbove_34 (by decide) ?_
    obtain ⟨rfl, rfl⟩ := jx_out hF
    exact jx_iret E dX4_kindAbove_35 rfl
  rw [if_neg hc2] at hF
  by_cases hc3 : x0 = 5
  · rw [if_pos hc3] at hF
    refine jx_tableIn (tgt := 38) (z := 5) E dX4_kindAbove_1 hc3 (by decide) (by decide) rfl (by decide) ?_
    refine jx_iconst (x := 0) E dX4_kindAbove_38 (by decide) ?_
    obtain ⟨rfl, rfl⟩ := jx_out hF
    exact jx_iret E dX4_kindAbove_39 rfl
  rw [if_neg hc3] at hF
  by_cases hc4 : x0 = 6
  · rw [if_pos hc4] at hF
    refine jx_tableIn (tgt := 36) (z := 6) E dX4_kindAbove_1 hc4 (by decide) (by decide) rfl (by decide) ?_
    refine jx_iconst (x := 5) E dX4_kindAbove_36 (by decide) ?_
    obtain ⟨rfl, rfl⟩ := jx_out hF
    exact jx_iret E dX4_kindAbove_37 rfl
  rw [if_neg hc4] at hF
  refine jx_tableOut (tgt := 38) E dX4_kindAbove_1 (by have hz1 := jx_ne hc1 (k := 3) (by decide); have hz2 := jx_ne hc2 (k := 4) (by decide); have hz3 := jx_ne hc3 (k := 5) (by decide); have hz4 := jx_ne hc4 (k := 6) (by decide); omega) (by decide) ?_
  refine jx_iconst (x := 0) E dX4_kindAbove_38 (by decide) ?_
  obtain ⟨rfl, rfl⟩ := jx_out hF
  exact jx_iret E dX4_kindAbove_39 rfl
def f_X4_isOfKind (x0 : Int32) (x1 : Int32) (v : jx_V) : Option (Int32 × jx_V) := (if x1 = 0 then (some (1, v)) else (if x0 = x1 then (some (1, v)) else ((f_X4_kindAbove x0 v).bind (fun (r3, v3) => (if r3 = x1 then (some (1, v3)) else (some (0, v3)))))))
def rm_X4_isOfKind : Room := { frames := 1, cells := 0, slots := 0, locals := 20 }
set_option maxHeartbeats 4000000 in
set_option maxRecDepth 100000 in
theorem k_X4_isOfKind {l : Launch} {D : va_G} {cI cJ : ClassId} {ad : Nat → Nat} {A : Nat → Prop} {adK adV : Nat → Nat} (hI : jx_inj 67 ad A) (x0 : Int32) (x1 : Int32) (v : jx_V) (r : Int32) (v' : jx_V) (hF : f_X4_isOfKind x0 x1 v = some (r, v')) : jx_Ci l D vwCl 67 cI cJ ad shX A (ex_X adK adV A) yX4_isOfKind (Cond.code yX4_isOfKind cX4_isOfKind 2 (some .boolean) :: bigT) rm_X4_isOfKind [.int x0, .int x1] v r v' := by
  unfold f_X4_isOfKind at hF
  refine jx_enteri bigT RX4 cX4_isOfKind 2 (some .boolean) [(0, .int x0), (1, .int x1)] hI (ex_X_ok adK adV A) (by decide +kernel) rfl (Nat.le_of_ble_eq_true rfl) rfl rfl ?_
  intro p e s m args below meth c E
  refine jx_iload_n E dX4_isOfKind_0 1 rfl ?_
  refine jx_if_eq (tgt := 17) E dX4_isOfKind_1 (by decide) (fun hc1 => ?_) (fun hc1 => ?_)
  · rw [if_pos hc1] at hF
    refine jx_iconst (x := 1) E dX4_isOfKind_17 (by decide) ?_
    refine jx_goto (tgt := 22) E dX4_isOfKind_18 (by decide) ?_
    obtain ⟨rfl, rfl⟩ := jx_out hF
    exact jx_zret E dX4_isOfKind_22 rfl (Or.inr rfl)
  · rw [if_neg hc1] at hF
    refine jx_iload_n E dX4_isOfKind_4 0 rfl ?_
    refine jx_iload_n E dX4_isOfKind_5 1 rfl ?_
    refine jx_icmp_eq (tgt := 17) E dX4_isOfKind_6 (by decide) (fun hc2 => ?_) (fun hc2 => ?_)
    · rw [if_pos hc2] at hF
      refine jx_iconst (x := 1) E dX4_isOfKind_17 (by decide) ?_
      refine jx_goto (tgt := 22) E dX4_isOfKind_18 (by decide) ?_
      obtain ⟨rfl, rfl⟩ := jx_out hF
      exact jx_zret E dX4_isOfKind_22 rfl (Or.inr rfl)
    · rw [if_neg hc2] at hF
      refine jx_iload_n E dX4_isOfKind_9 0 rfl ?_
      obtain ⟨⟨r3, v3⟩, hc3, hF⟩ := jx_bind hF
      try dsimp only at hF
      refine jx_callSi (As := [.int x0]) (st := []) E dX4_isOfKind_10 1 rfl (k_X4_kindAbove hI x0 v r3 v3 hc3) (gb_S (List.mem_cons_of_mem _ tw_288) (List.mem_cons_of_mem _ tw_289) (List.mem_cons_of_mem _ tw_190) tw_287) rfl rfl rfl dd_X4_kindAbove rfl ⟨by decide, by decide⟩ ⟨Nat.le_refl 0, Nat.le_refl 0⟩ (Nat.le_of_ble_eq_true rfl) ?_
      refine jx_iload_n E dX4_isOfKind_13 1 rfl ?_
      refine jx_icmp_ne (tgt := 21) E dX4_isOfKind_14 (by decide) (fun hc4 => ?_) (fun hc4 => ?_)
      · rw [if_neg hc4] at hF
        refine jx_iconst (x := 0) E dX4_isOfKind_21 (by decide) ?_
        obtain ⟨rfl, rfl⟩ := jx_out hF
        exact jx_zret E dX4_isOfKind_22 rfl (Or.inl rfl)
      · rw [if_pos hc4] at hF
        refine jx_iconst (x := 1) E dX4_isOfKind_17 (by decide) ?_
        refine jx_goto (tgt := 22) E dX4_isOfKind_18 (by decide) ?_
        obtain ⟨rfl, rfl⟩ := jx_out hF
        exact jx_zret E dX4_isOfKind_22 rfl (Or.inr rfl)
def f_X4_as (x1 : Int32) (x2 : Int32) (v : jx_V) : Option (Int32 × jx_V) := ((f_X4_within x1 10 v).bind (fun (r1, v1) => (if r1 = 0 then ((f_X4_finding 0 v1).bind (fun (r3, v3) => (some (r3, v3)))) else ((f_X4_within x2 7 v1).bind (fun (r4, v4) => (if r4 = 0 then ((f_X4_finding 0 v4).bind (fun (r16, v16) => (some (r16, v16)))) else (if (x1 < 0 ∨ 10 ≤ Int32.toNatClampNeg x1) then none else (if (v4 16 (Int32.toNatClampNeg x1)) < 0 then ((f_X4_finding 5 v4).bind (fun (r8, v8) => (some (r8, v8)))) else ((f_X3_isTaken 1 (v4 16 (Int32.toNatClampNeg x1)) v4).bind (fun (r9, v9) => (if r9 = 0 then ((f_X4_finding 5 v9).bind (fun (r15, v15) => (some (r15, v15)))) else (if ((v4 16 (Int32.toNatClampNeg x1)) < 0 ∨ 25 ≤ Int32.toNatClampNeg (v4 16 (Int32.toNatClampNeg x1))) then none else ((f_X4_isOfKind (v9 4 (Int32.toNatClampNeg (v4 16 (Int32.toNatClampNeg x1)))) x2 v9).bind (fun (r12, v12) => (if r12 = 0 then ((f_X4_finding 2 v12).bind (fun (r14, v14) => (some (r14, v14)))) else (some ((v4 16 (Int32.toNatClampNeg x1)), v12)))))))))))))))))
def rm_X4_as : Room := { frames := 2, cells := 0, slots := 0, locals := 41 }
set_option maxHeartbeats 4000000 in
set_option maxRecDepth 100000 in
theorem k_X4_as {l : Launch} {D : va_G} {cI cJ : ClassId} {ad : Nat → Nat} {A : Nat → Prop} {adK adV : Nat → Nat} (hI : jx_inj 67 ad A) (x1 : Int32) (x2 : Int32) (v : jx_V) (r : Int32) (v' : jx_V) (hF : f_X4_as x1 x2 v = some (r, v')) : jx_Ci l D vwCl 67 cI cJ ad shX A (ex_X adK adV A) yX4_as (Cond.code yX4_as cX4_as 4 (some .int) :: bigT) rm_X4_as [.ref (ad 0), .int x1, .int x2] v r v' := by
  unfold f_X4_as at hF
  refine jx_enteri bigT RX4 cX4_as 4 (some .int) [(0, .ref (ad 0)), (1, .int x1), (2, .int x2)] hI (ex_X_ok adK adV A) (by decide +kernel) rfl (Nat.le_of_ble_eq_true rfl) rfl rfl ?_
  intro p e s m args below meth c E
  have iX3 : ∀ w ∈ u_ws RX3 TX3 8, w ∈ (Cond.code yX4_as cX4_as 4 (some .int) :: bigT) := fun w h => List.mem_cons_of_mem _ (uw_X3 w h)
  have iX4 : ∀ w ∈ u_ws RX4 TX4 11, w ∈ (Cond.code yX4_as cX4_as 4 (some .int) :: bigT) := fun w h => List.mem_cons_of_mem _ (uw_X4 w h)
  refine jx_iload_n E dX4_as_0 1 rfl ?_
  refine jx_bipush (x := 10) E dX4_as_1 (by decide) ?_
  obtain ⟨⟨r1, v1⟩, hc1, hF⟩ := jx_bind hF
  try dsimp only at hF
  refine jx_callSi (As := [.int x1, .int 10]) (st := []) E dX4_as_3 2 rfl (k_X4_within hI x1 10 v r1 v1 hc1) (gb_S (List.mem_cons_of_mem _ tw_188) (List.mem_cons_of_mem _ tw_189) (List.mem_cons_of_mem _ tw_190) tw_187) rfl rfl rfl dd_X4_within rfl ⟨by decide, by decide⟩ ⟨Nat.le_refl 0, Nat.le_refl 0⟩ (Nat.le_of_ble_eq_true rfl) ?_
  refine jx_if_eq (tgt := 18) E dX4_as_6 (by decide) (fun hc2 => ?_) (fun hc2 => ?_)
  · rw [if_pos hc2] at hF
    refine jx_aload_n E dX4_as_18 0 rfl ?_
    refine jx_iconst (x := 0) E dX4_as_19 (by decide) ?_
    obtain ⟨⟨r3, v3⟩, hc3, hF⟩ := jx_bind hF
    try dsimp only at hF
    refine jx_callVi (As := [.int 0]) (st := []) (h := 0) E dX4_as_20 1 rfl (k_X4_finding hI 0 v1 r3 v3 hc3) (gb_V (List.mem_cons_of_mem _ tw_192) (List.mem_cons_of_mem _ tw_193) (List.mem_cons_of_mem _ tw_194) (List.mem_cons_of_mem _ tw_190) tw_191) rfl rfl rfl dd_X4_finding rfl (Nat.le_of_ble_eq_true rfl) s_X0 rfl ⟨by decide, by decide⟩ ⟨Nat.le_refl 0, Nat.le_refl 0⟩ (Nat.le_of_ble_eq_true rfl) ?_
    obtain ⟨rfl, rfl⟩ := jx_out hF
    exact jx_iret E dX4_as_23 rfl
  · rw [if_neg hc2] at hF
    refine jx_iload_n E dX4_as_9 2 rfl ?_
    refine jx_bipush (x := 7) E dX4_as_10 (by decide) ?_
    obtain ⟨⟨r4, v4⟩, hc4, hF⟩ := jx_bind hF
    try dsimp only at hF
    refine jx_callSi (As := [.int x2, .int 7]) (st := []) E dX4_as_12 2 rfl (k_X4_within hI x2 7 v1 r4 v4 hc4) (gb_S (List.mem_cons_of_mem _ tw_188) (List.mem_cons_of_mem _ tw_189) (List.mem_cons_of_mem _ tw_190) tw_187) rfl rfl rfl dd_X4_within rfl ⟨by decide, by decide⟩ ⟨Nat.le_refl 0, Nat.le_refl 0⟩ (Nat.le_of_ble_eq_true rfl) ?_
    refine jx_if_ne (tgt := 24) E dX4_as_15 (by decide) (fun hc5 => ?_) (fun hc5 => ?_)
    · rw [if_neg hc5] at hF
      refine jx_aload_n E dX4_as_24 0 rfl ?_
      refine jx_getr (C := RX4) (T := TX4) (M := 11) (k := 0) E dX4_as_25 (Nat.le_of_ble_eq_true rfl) s_X0 rfl iX4 (by decide) rfl (List.mem_cons_of_mem _ tw_195) rfl ?_
      refine jx_getrN (C := RX3) (T := TX3) (M := 8) (k := 4) E dX4_as_28 (Nat.le_of_ble_eq_true rfl) s_X1 rfl iX3 (by decide) rfl (ex_f8 (jx_ex E)) rfl ?_
      refine jx_iload_n E dX4_as_31 1 rfl ?_
      obtain ⟨hg6, hF⟩ := jx_guard hF
      refine jx_iald (h := 16) (j := (Int32.toNatClampNeg x1)) E dX4_as_32 (Nat.le_of_ble_eq_true rfl) s_X16 hg6 rfl ?_
      refine jx_istore_n (lv' := [(3, .int (v4 16 (Int32.toNatClampNeg x1))), (0, .ref (ad 0)), (1, .int x1), (2, .int x2)]) E dX4_as_33 (by decide) rfl ?_
      refine jx_iload_n E dX4_as_34 0 rfl ?_
      refine jx_if_lt (tgt := 49) E dX4_as_35 (by decide) (fun hc7 => ?_) (fun hc7 => ?_)
      · rw [if_pos hc7] at hF
        refine jx_aload_n E dX4_as_49 1 rfl ?_
        refine jx_iconst (x := 5) E dX4_as_50 (by decide) ?_
        obtain ⟨⟨r8, v8⟩, hc8, hF⟩ := jx_bind hF
        try dsimp only at hF
        refine jx_callVi (As := [.int 5]) (st := []) (h := 0) E dX4_as_51 1 rfl (k_X4_finding hI 5 v4 r8 v8 hc8) (gb_V (List.mem_cons_of_mem _ tw_192) (List.mem_cons_of_mem _ tw_193) (List.mem_cons_of_mem _ tw_194) (List.mem_cons_of_mem _ tw_190) tw_191) rfl rfl rfl dd_X4_finding rfl (Nat.le_of_ble_eq_true rfl) s_X0 rfl ⟨by decide, by decide⟩ ⟨Nat.le_refl 0, Nat.le_refl 0⟩ (Nat.le_of_ble_eq_true rfl) ?_
        obtain ⟨rfl, rfl⟩ := jx_out hF
        exact jx_iret E dX4_as_54 rfl
      · rw [if_neg hc7] at hF
        refine jx_aload_n E dX4_as_38 1 rfl ?_
        refine jx_getr (C := RX4) (T := TX4) (M := 11) (k := 0) E dX4_as_39 (Nat.le_of_ble_eq_true rfl) s_X0 rfl iX4 (by decide) rfl (List.mem_cons_of_mem _ tw_195) rfl ?_
        refine jx_iload_n E dX4_as_42 0 rfl ?_
        obtain ⟨⟨r9, v9⟩, hc9, hF⟩ := jx_bind hF
        try dsimp only at hF
        refine jx_callNi (As := [.int (v4 16 (Int32.toNatClampNeg x1))]) (st := []) (h := 1) E dX4_as_43 1 rfl (k_X3_isTaken hI 1 jx_T1 (v4 16 (Int32.toNatClampNeg x1)) v4 r9 v9 hc9) (gb_N tw_51) rfl rfl rfl (ex_m4 (jx_ex E)) (List.mem_cons_of_mem _ tw_33) (List.mem_cons_of_mem _ tw_52) (List.mem_cons_of_mem _ tw_53) dd_X3_isTaken.2 rfl (Nat.le_of_ble_eq_true rfl) s_X1 rfl ⟨by decide, by decide⟩ ⟨Nat.le_refl 0, Nat.le_refl 0⟩ (Nat.le_of_ble_eq_true rfl) ?_
        refine jx_if_ne (tgt := 55) E dX4_as_46 (by decide) (fun hc10 => ?_) (fun hc10 => ?_)
        · rw [if_neg hc10] at hF
          refine jx_aload_n E dX4_as_55 1 rfl ?_
          refine jx_getr (C := RX4) (T := TX4) (M := 11) (k := 0) E dX4_as_56 (Nat.le_of_ble_eq_true rfl) s_X0 rfl iX4 (by decide) rfl (List.mem_cons_of_mem _ tw_195) rfl ?_
          refine jx_getrN (C := RX3) (T := TX3) (M := 8) (k := 0) E dX4_as_59 (Nat.le_of_ble_eq_true rfl) s_X1 rfl iX3 (by decide) rfl (ex_f0 (jx_ex E)) rfl ?_
          refine jx_iconst (x := 0) E dX4_as_62 (by decide) ?_
          refine jx_aald (h' := 4) E dX4_as_63 (Nat.le_of_ble_eq_true rfl) s_X2 (show ¬ ((0 : Int32) < 0 ∨ 4 ≤ Int32.toNatClampNeg 0) by decide) rfl ?_
          refine jx_iload_n E dX4_as_64 0 rfl ?_
          obtain ⟨hg11, hF⟩ := jx_guard hF
          refine jx_iald (h := 4) (j := (Int32.toNatClampNeg (v4 16 (Int32.toNatClampNeg x1)))) E dX4_as_65 (Nat.le_of_ble_eq_true rfl) s_X4 hg11 rfl ?_
          refine jx_iload_n E dX4_as_66 3 rfl ?_
          obtain ⟨⟨r12, v12⟩, hc12, hF⟩ := jx_bind hF
          try dsimp only at hF
          refine jx_callSi (As := [.int (v9 4 (Int32.toNatClampNeg (v4 16 (Int32.toNatClampNeg x1)))), .int x2]) (st := []) E dX4_as_67 2 rfl (k_X4_isOfKind hI (v9 4 (Int32.toNatClampNeg (v4 16 (Int32.toNatClampNeg x1)))) x2 v9 r12 v12 hc12) (gb_S (List.mem_cons_of_mem _ tw_291) (List.mem_cons_of_mem _ tw_292) (List.mem_cons_of_mem _ tw_190) tw_290) rfl rfl rfl dd_X4_isOfKind rfl ⟨by decide, by decide⟩ ⟨Nat.le_refl 0, Nat.le_refl 0⟩ (Nat.le_of_ble_eq_true rfl) ?_
          refine jx_if_eq (tgt := 77) E dX4_as_70 (by decide) (fun hc13 => ?_) (fun hc13 => ?_)
          · rw [if_pos hc13] at hF
            refine jx_aload_n E dX4_as_77 1 rfl ?_
            refine jx_iconst (x := 2) E dX4_as_78 (by decide) ?_
            obtain ⟨⟨r14, v14⟩, hc14, hF⟩ := jx_bind hF
            try dsimp only at hF
            refine jx_callVi (As := [.int 2]) (st := []) (h := 0) E dX4_as_79 1 rfl (k_X4_finding hI 2 v12 r14 v14 hc14) (gb_V (List.mem_cons_of_mem _ tw_192) (List.mem_cons_of_mem _ tw_193) (List.mem_cons_of_mem _ tw_194) (List.mem_cons_of_mem _ tw_190) tw_191) rfl rfl rfl dd_X4_finding rfl (Nat.le_of_ble_eq_true rfl) s_X0 rfl ⟨by decide, by decide⟩ ⟨Nat.le_refl 0, Nat.le_refl 0⟩ (Nat.le_of_ble_eq_true rfl) ?_
            obtain ⟨rfl, rfl⟩ := jx_out hF
            exact jx_iret E dX4_as_82 rfl
          · rw [if_neg hc13] at hF
            refine jx_iload_n E dX4_as_73 0 rfl ?_
            refine jx_goto (tgt := 82) E dX4_as_74 (by decide) ?_
            obtain ⟨rfl, rfl⟩ := jx_out hF
            exact jx_iret E dX4_as_82 rfl
        · rw [if_pos hc10] at hF
          refine jx_aload_n E dX4_as_49 1 rfl ?_
          refine jx_iconst (x := 5) E dX4_as_50 (by decide) ?_
          obtain ⟨⟨r15, v15⟩, hc15, hF⟩ := jx_bind hF
          try dsimp only at hF
          refine jx_callVi (As := [.int 5]) (st := []) (h := 0) E dX4_as_51 1 rfl (k_X4_finding hI 5 v9 r15 v15 hc15) (gb_V (List.mem_cons_of_mem _ tw_192) (List.mem_cons_of_mem _ tw_193) (List.mem_cons_of_mem _ tw_194) (List.mem_cons_of_mem _ tw_190) tw_191) rfl rfl rfl dd_X4_finding rfl (Nat.le_of_ble_eq_true rfl) s_X0 rfl ⟨by decide, by decide⟩ ⟨Nat.le_refl 0, Nat.le_refl 0⟩ (Nat.le_of_ble_eq_true rfl) ?_
          obtain ⟨rfl, rfl⟩ := jx_out hF
          exact jx_iret E dX4_as_54 rfl
    · rw [if_pos hc5] at hF
      refine jx_aload_n E dX4_as_18 0 rfl ?_
      refine jx_iconst (x := 0) E dX4_as_19 (by decide) ?_
      obtain ⟨⟨r16, v16⟩, hc16, hF⟩ := jx_bind hF
      try dsimp only at hF
      refine jx_callVi (As := [.int 0]) (st := []) (h := 0) E dX4_as_20 1 rfl (k_X4_finding hI 0 v4 r16 v16 hc16) (gb_V (List.mem_cons_of_mem _ tw_192) (List.mem_cons_of_mem _ tw_193) (List.mem_cons_of_mem _ tw_194) (List.mem_cons_of_mem _ tw_190) tw_191) rfl rfl rfl dd_X4_finding rfl (Nat.le_of_ble_eq_true rfl) s_X0 rfl ⟨by decide, by decide⟩ ⟨Nat.le_refl 0, Nat.le_refl 0⟩ (Nat.le_of_ble_eq_true rfl) ?_
      obtain ⟨rfl, rfl⟩ := jx_out hF
      exact jx_iret E dX4_as_23 rfl
def f_X4_sheet (x1 : Int32) (x2 : Int32) (x3 : Int32) (v : jx_V) : Option (Int32 × jx_V) := ((f_X4_within x1 4 v).bind (fun (r1, v1) => (if r1 = 0 then ((f_X4_finding 0 v1).bind (fun (r3, v3) => (some (r3, v3)))) else (if x2 = 0 then (if 0 ≤ x3 then (if x3 ≤ 40 then ((f_X1_begin x1 x2 x3 v1).bind (fun v7 => (if (x1 < 0 ∨ 4 ≤ Int32.toNatClampNeg x1) then none else (some ((v7 62 (Int32.toNatClampNeg x1)), v7))))) else ((f_X4_finding 0 v1).bind (fun (r9, v9) => (some (r9, v9))))) else ((f_X4_finding 6 v1).bind (fun (r10, v10) => (some (r10, v10))))) else (if x2 = 8 then (if 0 ≤ x3 then (if x3 ≤ 40 then ((f_X1_begin x1 x2 x3 v1).bind (fun v14 => (if (x1 < 0 ∨ 4 ≤ Int32.toNatClampNeg x1) then none else (some ((v14 62 (Int32.toNatClampNeg x1)), v14))))) else ((f_X4_finding 0 v1).bind (fun (r16, v16) => (some (r16, v16))))) else ((f_X4_finding 6 v1).bind (fun (r17, v17) => (some (r17, v17))))) else (if x2 = 16 then (if 0 ≤ x3 then (if x3 ≤ 40 then ((f_X1_begin x1 x2 x3 v1).bind (fun v21 => (if (x1 < 0 ∨ 4 ≤ Int32.toNatClampNeg x1) then none else (some ((v21 62 (Int32.toNatClampNeg x1)), v21))))) else ((f_X4_finding 0 v1).bind (fun (r23, v23) => (some (r23, v23))))) else ((f_X4_finding 6 v1).bind (fun (r24, v24) => (some (r24, v24))))) else (if x2 = 32 then (if 0 ≤ x3 then (if x3 ≤ 40 then ((f_X1_begin x1 x2 x3 v1).bind (fun v28 => (if (x1 < 0 ∨ 4 ≤ Int32.toNatClampNeg x1) then none else (some ((v28 62 (Int32.toNatClampNeg x1)), v28))))) else ((f_X4_finding 0 v1).bind (fun (r30, v30) => (some (r30, v30))))) else ((f_X4_finding 6 v1).bind (fun (r31, v31) => (some (r31, v31))))) else ((f_X4_finding 0 v1).bind (fun (r32, v32) => (some (r32, v32)))))))))))
def rm_X4_sheet : Room := { frames := 1, cells := 0, slots := 0, locals := 24 }
set_option maxHeartbeats 4000000 in
set_option maxRecDepth 100000 in
theorem k_X4_sheet {l : Launch} {D : va_G} {cI cJ : ClassId} {ad : Nat → Nat} {A : Nat → Prop} {adK adV : Nat → Nat} (hI : jx_inj 67 ad A) (x1 : Int32) (x2 : Int32) (x3 : Int32) (v : jx_V) (r : Int32) (v' : jx_V) (hF : f_X4_sheet x1 x2 x3 v = some (r, v')) : jx_Ci l D vwCl 67 cI cJ ad shX A (ex_X adK adV A) yX4_sheet (Cond.code yX4_sheet cX4_sheet 4 (some .int) :: bigT) rm_X4_sheet [.ref (ad 0), .int x1, .int x2, .int x3] v r v' := by
  unfold f_X4_sheet at hF
  refine jx_enteri bigT RX4 cX4_sheet 4 (some .int) [(0, .ref (ad 0)), (1, .int x1), (2, .int x2), (3, .int x3)] hI (ex_X_ok adK adV A) (by decide +kernel) rfl (Nat.le_of_ble_eq_true rfl) rfl rfl ?_
  intro p e s m args below meth c E
  have iX1 : ∀ w ∈ u_ws RX1 TX1 3, w ∈ (Cond.code yX4_sheet cX4_sheet 4 (some .int) :: bigT) := fun w h => List.mem_cons_of_mem _ (uw_X1 w h)
  have iX4 : ∀ w ∈ u_ws RX4 TX4 11, w ∈ (Cond.code yX4_sheet cX4_sheet 4 (some .int) :: bigT) := fun w h => List.mem_cons_of_mem _ (uw_X4 w h)
  refine jx_iload_n E dX4_sheet_0 1 rfl ?_
  refine jx_iconst (x := 4) E dX4_sheet_1 (by decide) ?_
  obtain ⟨⟨r1, v1⟩, hc1, hF⟩ := jx_bind hF
  try dsimp only at hF
  refine jx_callSi (As := [.int x1, .int 4]) (st := []) E dX4_sheet_2 2 rfl (k_X4_within hI x1 4 v r1 v1 hc1) (gb_S (List.mem_cons_of_mem _ tw_188) (List.mem_cons_of_mem _ tw_189) (List.mem_cons_of_mem _ tw_190) tw_187) rfl rfl rfl dd_X4_within rfl ⟨by decide, by decide⟩ ⟨Nat.le_refl 0, Nat.le_refl 0⟩ (Nat.le_of_ble_eq_true rfl) ?_
  refine jx_if_eq (tgt := 30) E dX4_sheet_5 (by decide) (fun hc2 => ?_) (fun hc2 => ?_)
  · rw [if_pos hc2] at hF
    refine jx_aload_n E dX4_sheet_30 0 rfl ?_
    refine jx_iconst (x := 0) E dX4_sheet_31 (by decide) ?_
    obtain ⟨⟨r3, v3⟩, hc3, hF⟩ := jx_bind hF
    try dsimp only at hF
    refine jx_callVi (As := [.int 0]) (st := []) (h := 0) E dX4_sheet_32 1 rfl (k_X4_finding hI 0 v1 r3 v3 hc3) (gb_V (List.mem_cons_of_mem _ tw_192) (List.mem_cons_of_mem _ tw_193) (List.mem_cons_of_mem _ tw_194) (List.mem_cons_of_mem _ tw_190) tw_191) rfl rfl rfl dd_X4_finding rfl (Nat.le_of_ble_eq_true rfl) s_X0 rfl ⟨by decide, by decide⟩ ⟨Nat.le_refl 0, Nat.le_refl 0⟩ (Nat.le_of_ble_eq_true rfl) ?_
    obtain ⟨rfl, rfl⟩ := jx_out hF
    exact jx_iret E dX4_sheet_35 rfl
  · rw [if_neg hc2] at hF
    refine jx_iload_n E dX4_sheet_8 2 rfl ?_
    refine jx_if_eq (tgt := 36) E dX4_sheet_9 (by decide) (fun hc4 => ?_) (fun hc4 => ?_)
    · rw [if_pos hc4] at hF
      refine jx_iload_n E dX4_sheet_36 3 rfl ?_
      refine jx_if_ge (tgt := 47) E dX4_sheet_37 (by decide) (fun hc5 => ?_) (fun hc5 => ?_)
      · rw [if_pos hc5] at hF
        refine jx_iload_n E dX4_sheet_47 3 rfl ?_
        refine jx_bipush (x := 40) E dX4_sheet_48 (by decide) ?_
        refine jx_icmp_le (tgt := 59) E dX4_sheet_50 (by decide) (fun hc6 => ?_) (fun hc6 => ?_)
        · rw [if_pos hc6] at hF
          refine jx_aload_n E dX4_sheet_59 0 rfl ?_
          refine jx_getr (C := RX4) (T := TX4) (M := 11) (k := 5) E dX4_sheet_60 (Nat.le_of_ble_eq_true rfl) s_X0 rfl iX4 (by decide) rfl (List.mem_cons_of_mem _ tw_293) rfl ?_
          refine jx_iload_n E dX4_sheet_63 1 rfl ?_
          refine jx_iload_n E dX4_sheet_64 2 rfl ?_
          refine jx_iload_n E dX4_sheet_65 3 rfl ?_
          obtain ⟨v7, hc7, hF⟩ := jx_bind hF
          try dsimp only at hF
          refine jx_callNv (As := [.int x1, .int x2, .int x3]) (st := []) (h := 55) E dX4_sheet_66 3 rfl (k_X1_begin hI x1 x2 x3 v1 v7 hc7) (gb_N tw_294) rfl rfl rfl (ex_m39 (jx_ex E)) (List.mem_cons_of_mem _ tw_295) (List.mem_cons_of_mem _ tw_296) (List.mem_cons_of_mem _ tw_297) dd_X1_begin.2 rfl (Nat.le_of_ble_eq_true rfl) s_X55 rfl ⟨by decide, by decide⟩ ⟨Nat.le_refl 0, Nat.le_refl 0⟩ (Nat.le_of_ble_eq_true rfl) ?_
          refine jx_aload_n E dX4_sheet_69 0 rfl ?_
          refine jx_getr (C := RX4) (T := TX4) (M := 11) (k := 5) E dX4_sheet_70 (Nat.le_of_ble_eq_true rfl) s_X0 rfl iX4 (by decide) rfl (List.mem_cons_of_mem _ tw_293) rfl ?_
          refine jx_getrN (C := RX1) (T := TX1) (M := 3) (k := 2) E dX4_sheet_73 (Nat.le_of_ble_eq_true rfl) s_X55 rfl iX1 (by decide) rfl (ex_f18 (jx_ex E)) rfl ?_
          refine jx_iload_n E dX4_sheet_76 1 rfl ?_
          obtain ⟨hg8, hF⟩ := jx_guard hF
          refine jx_iald (h := 62) (j := (Int32.toNatClampNeg x1)) E dX4_sheet_77 (Nat.le_of_ble_eq_true rfl) s_X62 hg8 rfl ?_
          obtain ⟨rfl, rfl⟩ := jx_out hF
          exact jx_iret E dX4_sheet_78 rfl
        · rw [if_neg hc6] at hF
          refine jx_aload_n E dX4_sheet_53 0 rfl ?_
          refine jx_iconst (x := 0) E dX4_sheet_54 (by decide) ?_
          obtain ⟨⟨r9, v9⟩, hc9, hF⟩ := jx_bind hF
          try dsimp only at hF
          refine jx_callVi (As := [.int 0]) (st := []) (h := 0) E dX4_sheet_55 1 rfl (k_X4_finding hI 0 v1 r9 v9 hc9) (gb_V (List.mem_cons_of_mem _ tw_192) (List.mem_cons_of_mem _ tw_193) (List.mem_cons_of_mem _ tw_194) (List.mem_cons_of_mem _ tw_190) tw_191) rfl rfl rfl dd_X4_finding rfl (Nat.le_of_ble_eq_true rfl) s_X0 rfl ⟨by decide, by decide⟩ ⟨Nat.le_refl 0, Nat.le_refl 0⟩ (Nat.le_of_ble_eq_true rfl) ?_
          obtain ⟨rfl, rfl⟩ := jx_out hF
          exact jx_iret E dX4_sheet_58 rfl
      · rw [if_neg hc5] at hF
        refine jx_aload_n E dX4_sheet_40 0 rfl ?_
        refine jx_bipush (x := 6) E dX4_sheet_41 (by decide) ?_
        obtain ⟨⟨r10, v10⟩, hc10, hF⟩ := jx_bind hF
        try dsimp only at hF
        refine jx_callVi (As := [.int 6]) (st := []) (h := 0) E dX4_sheet_43 1 rfl (k_X4_finding hI 6 v1 r10 v10 hc10) (gb_V (List.mem_cons_of_mem _ tw_192) (List.mem_cons_of_mem _ tw_193) (List.mem_cons_of_mem _ tw_194) (List.mem_cons_of_mem _ tw_190) tw_191) rfl rfl rfl dd_X4_finding rfl (Nat.le_of_ble_eq_true rfl) s_X0 rfl ⟨by decide, by decide⟩ ⟨Nat.le_refl 0, Nat.le_refl 0⟩ (Nat.le_of_ble_eq_true rfl) ?_
        obtain ⟨rfl, rfl⟩ := jx_out hF
        exact jx_iret E dX4_sheet_46 rfl
    · rw [if_neg hc4] at hF
      refine jx_iload_n E dX4_sheet_12 2 rfl ?_
      refine jx_bipush (x := 8) E dX4_sheet_13 (by decide) ?_
      refine jx_icmp_eq (tgt := 36) E dX4_sheet_15 (by decide) (fun hc11 => ?_) (fun hc11 => ?_)
      · rw [if_pos hc11] at hF
        refine jx_iload_n E dX4_sheet_36 3 rfl ?_
        refine jx_if_ge (tgt := 47) E dX4_sheet_37 (by decide) (fun hc12 => ?_) (fun hc12 => ?_)
        · rw [if_pos hc12] at hF
          refine jx_iload_n E dX4_sheet_47 3 rfl ?_
          refine jx_bipush (x := 40) E dX4_sheet_48 (by decide) ?_
          refine jx_icmp_le (tgt := 59) E dX4_sheet_50 (by decide) (fun hc13 => ?_) (fun hc13 => ?_)
          · rw [if_pos hc13] at hF
            refine jx_aload_n E dX4_sheet_59 0 rfl ?_
            refine jx_getr (C := RX4) (T := TX4) (M := 11) (k := 5) E dX4_sheet_60 (Nat.le_of_ble_eq_true rfl) s_X0 rfl iX4 (by decide) rfl (List.mem_cons_of_mem _ tw_293) rfl ?_
            refine jx_iload_n E dX4_sheet_63 1 rfl ?_
            refine jx_iload_n E dX4_sheet_64 2 rfl ?_
            refine jx_iload_n E dX4_sheet_65 3 rfl ?_
            obtain ⟨v14, hc14, hF⟩ := jx_bind hF
            try dsimp only at hF
            refine jx_callNv (As := [.int x1, .int x2, .int x3]) (st := []) (h := 55) E dX4_sheet_66 3 rfl (k_X1_begin hI x1 x2 x3 v1 v14 hc14) (gb_N tw_294) rfl rfl rfl (ex_m39 (jx_ex E)) (List.mem_cons_of_mem _ tw_295) (List.mem_cons_of_mem _ tw_296) (List.mem_cons_of_mem _ tw_297) dd_X1_begin.2 rfl (Nat.le_of_ble_eq_true rfl) s_X55 rfl ⟨by decide, by decide⟩ ⟨Nat.le_refl 0, Nat.le_refl 0⟩ (Nat.le_of_ble_eq_true rfl) ?_
            refine jx_aload_n E dX4_sheet_69 0 rfl ?_
            refine jx_getr (C := RX4) (T := TX4) (M := 11) (k := 5) E dX4_sheet_70 (Nat.le_of_ble_eq_true rfl) s_X0 rfl iX4 (by decide) rfl (List.mem_cons_of_mem _ tw_293) rfl ?_
            refine jx_getrN (C := RX1) (T := TX1) (M := 3) (k := 2) E dX4_sheet_73 (Nat.le_of_ble_eq_true rfl) s_X55 rfl iX1 (by decide) rfl (ex_f18 (jx_ex E)) rfl ?_
            refine jx_iload_n E dX4_sheet_76 1 rfl ?_
            obtain ⟨hg15, hF⟩ := jx_guard hF
            refine jx_iald (h := 62) (j := (Int32.toNatClampNeg x1)) E dX4_sheet_77 (Nat.le_of_ble_eq_true rfl) s_X62 hg15 rfl ?_
            obtain ⟨rfl, rfl⟩ := jx_out hF
            exact jx_iret E dX4_sheet_78 rfl
          · rw [if_neg hc13] at hF
            refine jx_aload_n E dX4_sheet_53 0 rfl ?_
            refine jx_iconst (x := 0) E dX4_sheet_54 (by decide) ?_
            obtain ⟨⟨r16, v16⟩, hc16, hF⟩ := jx_bind hF
            try dsimp only at hF
            refine jx_callVi (As := [.int 0]) (st := []) (h := 0) E dX4_sheet_55 1 rfl (k_X4_finding hI 0 v1 r16 v16 hc16) (gb_V (List.mem_cons_of_mem _ tw_192) (List.mem_cons_of_mem _ tw_193) (List.mem_cons_of_mem _ tw_194) (List.mem_cons_of_mem _ tw_190) tw_191) rfl rfl rfl dd_X4_finding rfl (Nat.le_of_ble_eq_true rfl) s_X0 rfl ⟨by decide, by decide⟩ ⟨Nat.le_refl 0, Nat.le_refl 0⟩ (Nat.le_of_ble_eq_true rfl) ?_
            obtain ⟨rfl, rfl⟩ := jx_out hF
            exact jx_iret E dX4_sheet_58 rfl
        · rw [if_neg hc12] at hF
          refine jx_aload_n E dX4_sheet_40 0 rfl ?_
          refine jx_bipush (x := 6) E dX4_sheet_41 (by decide) ?_
          obtain ⟨⟨r17, v17⟩, hc17, hF⟩ := jx_bind hF
          try dsimp only at hF
          refine jx_callVi (As := [.int 6]) (st := []) (h := 0) E dX4_sheet_43 1 rfl (k_X4_finding hI 6 v1 r17 v17 hc17) (gb_V (List.mem_cons_of_mem _ tw_192) (List.mem_cons_of_mem _ tw_193) (List.mem_cons_of_mem _ tw_194) (List.mem_cons_of_mem _ tw_190) tw_191) rfl rfl rfl dd_X4_finding rfl (Nat.le_of_ble_eq_true rfl) s_X0 rfl ⟨by decide, by decide⟩ ⟨Nat.le_refl 0, Nat.le_refl 0⟩ (Nat.le_of_ble_eq_true rfl) ?_
          obtain ⟨rfl, rfl⟩ := jx_out hF
          exact jx_iret E dX4_sheet_46 rfl
      · rw [if_neg hc11] at hF
        refine jx_iload_n E dX4_sheet_18 2 rfl ?_
        refine jx_bipush (x := 16) E dX4_sheet_19 (by decide) ?_
        refine jx_icmp_eq (tgt := 36) E dX4_sheet_21 (by decide) (fun hc18 => ?_) (fun hc18 => ?_)
        · rw [if_pos hc18] at hF
          refine jx_iload_n E dX4_sheet_36 3 rfl ?_
          refine jx_if_ge (tgt := 47) E dX4_sheet_37 (by decide) (fun hc19 => ?_) (fun hc19 => ?_)
          · rw [if_pos hc19] at hF
            refine jx_iload_n E dX4_sheet_47 3 rfl ?_
            refine jx_bipush (x := 40) E dX4_sheet_48 (by decide) ?_
            refine jx_icmp_le (tgt := 59) E dX4_sheet_50 (by decide) (fun hc20 => ?_) (fun hc20 => ?_)
            · rw [if_pos hc20] at hF
              refine jx_aload_n E dX4_sheet_59 0 rfl ?_
              refine jx_getr (C := RX4) (T := TX4) (M := 11) (k := 5) E dX4_sheet_60 (Nat.le_of_ble_eq_true rfl) s_X0 rfl iX4 (by decide) rfl (List.mem_cons_of_mem _ tw_293) rfl ?_
              refine jx_iload_n E dX4_sheet_63 1 rfl ?_
              refine jx_iload_n E dX4_sheet_64 2 rfl ?_
              refine jx_iload_n E dX4_sheet_65 3 rfl ?_
              obtain ⟨v21, hc21, hF⟩ := jx_bind hF
              try dsimp only at hF
              refine jx_callNv (As := [.int x1, .int x2, .int x3]) (st := []) (h := 55) E dX4_sheet_66 3 rfl (k_X1_begin hI x1 x2 x3 v1 v21 hc21) (gb_N tw_294) rfl rfl rfl (ex_m39 (jx_ex E)) (List.mem_cons_of_mem _ tw_295) (List.mem_cons_of_mem _ tw_296) (List.mem_cons_of_mem _ tw_297) dd_X1_begin.2 rfl (Nat.le_of_ble_eq_true rfl) s_X55 rfl ⟨by decide, by decide⟩ ⟨Nat.le_refl 0, Nat.le_refl 0⟩ (Nat.le_of_ble_eq_true rfl) ?_
              refine jx_aload_n E dX4_sheet_69 0 rfl ?_
              refine jx_getr (C := RX4) (T := TX4) (M := 11) (k := 5) E dX4_sheet_70 (Nat.le_of_ble_eq_true rfl) s_X0 rfl iX4 (by decide) rfl (List.mem_cons_of_mem _ tw_293) rfl ?_
              refine jx_getrN (C := RX1) (T := TX1) (M := 3) (k := 2) E dX4_sheet_73 (Nat.le_of_ble_eq_true rfl) s_X55 rfl iX1 (by decide) rfl (ex_f18 (jx_ex E)) rfl ?_
              refine jx_iload_n E dX4_sheet_76 1 rfl ?_
              obtain ⟨hg22, hF⟩ := jx_guard hF
              refine jx_iald (h := 62) (j := (Int32.toNatClampNeg x1)) E dX4_sheet_77 (Nat.le_of_ble_eq_true rfl) s_X62 hg22 rfl ?_
              obtain ⟨rfl, rfl⟩ := jx_out hF
              exact jx_iret E dX4_sheet_78 rfl
            · rw [if_neg hc20] at hF
              refine jx_aload_n E dX4_sheet_53 0 rfl ?_
              refine jx_iconst (x := 0) E dX4_sheet_54 (by decide) ?_
              obtain ⟨⟨r23, v23⟩, hc23, hF⟩ := jx_bind hF
              try dsimp only at hF
              refine jx_callVi (As := [.int 0]) (st := []) (h := 0) E dX4_sheet_55 1 rfl (k_X4_finding hI 0 v1 r23 v23 hc23) (gb_V (List.mem_cons_of_mem _ tw_192) (List.mem_cons_of_mem _ tw_193) (List.mem_cons_of_mem _ tw_194) (List.mem_cons_of_mem _ tw_190) tw_191) rfl rfl rfl dd_X4_finding rfl (Nat.le_of_ble_eq_true rfl) s_X0 rfl ⟨by decide, by decide⟩ ⟨Nat.le_refl 0, Nat.le_refl 0⟩ (Nat.le_of_ble_eq_true rfl) ?_
              obtain ⟨rfl, rfl⟩ := jx_out hF
              exact jx_iret E dX4_sheet_58 rfl
          · rw [if_neg hc19] at hF
            refine jx_aload_n E dX4_sheet_40 0 rfl ?_
            refine jx_bipush (x := 6) E dX4_sheet_41 (by decide) ?_
            obtain ⟨⟨r24, v24⟩, hc24, hF⟩ := jx_bind hF
            try dsimp only at hF
            refine jx_callVi (As := [.int 6]) (st := []) (h := 0) E dX4_sheet_43 1 rfl (k_X4_finding hI 6 v1 r24 v24 hc24) (gb_V (List.mem_cons_of_mem _ tw_192) (List.mem_cons_of_mem _ tw_193) (List.mem_cons_of_mem _ tw_194) (List.mem_cons_of_mem _ tw_190) tw_191) rfl rfl rfl dd_X4_finding rfl (Nat.le_of_ble_eq_true rfl) s_X0 rfl ⟨by decide, by decide⟩ ⟨Nat.le_refl 0, Nat.le_refl 0⟩ (Nat.le_of_ble_eq_true rfl) ?_
            obtain ⟨rfl, rfl⟩ := jx_out hF
            exact jx_iret E dX4_sheet_46 rfl
        · rw [if_neg hc18] at hF
          refine jx_iload_n E dX4_sheet_24 2 rfl ?_
          refine jx_bipush (x := 32) E dX4_sheet_25 (by decide) ?_
          refine jx_icmp_eq (tgt := 36) E dX4_sheet_27 (by decide) (fun hc25 => ?_) (fun hc25 => ?_)
          · rw [if_pos hc25] at hF
            refine jx_iload_n E dX4_sheet_36 3 rfl ?_
            refine jx_if_ge (tgt := 47) E dX4_sheet_37 (by decide) (fun hc26 => ?_) (fun hc26 => ?_)
            · rw [if_pos hc26] at hF
              refine jx_iload_n E dX4_sheet_47 3 rfl ?_
              refine jx_bipush (x := 40) E dX4_sheet_48 (by decide) ?_
              refine jx_icmp_le (tgt := 59) E dX4_sheet_50 (by decide) (fun hc27 => ?_) (fun hc27 => ?_)
              · rw [if_pos hc27] at hF
                refine jx_aload_n E dX4_sheet_59 0 rfl ?_
                refine jx_getr (C := RX4) (T := TX4) (M := 11) (k := 5) E dX4_sheet_60 (Nat.le_of_ble_eq_true rfl) s_X0 rfl iX4 (by decide) rfl (List.mem_cons_of_mem _ tw_293) rfl ?_
                refine jx_iload_n E dX4_sheet_63 1 rfl ?_
                refine jx_iload_n E dX4_sheet_64 2 rfl ?_
                refine jx_iload_n E dX4_sheet_65 3 rfl ?_
                obtain ⟨v28, hc28, hF⟩ := jx_bind hF
                try dsimp only at hF
                refine jx_callNv (As := [.int x1, .int x2, .int x3]) (st := []) (h := 55) E dX4_sheet_66 3 rfl (k_X1_begin hI x1 x2 x3 v1 v28 hc28) (gb_N tw_294) rfl rfl rfl (ex_m39 (jx_ex E)) (List.mem_cons_of_mem _ tw_295) (List.mem_cons_of_mem _ tw_296) (List.mem_cons_of_mem _ tw_297) dd_X1_begin.2 rfl (Nat.le_of_ble_eq_true rfl) s_X55 rfl ⟨by decide, by decide⟩ ⟨Nat.le_refl 0, Nat.le_refl 0⟩ (Nat.le_of_ble_eq_true rfl) ?_
                refine jx_aload_n E dX4_sheet_69 0 rfl ?_
                refine jx_getr (C := RX4) (T := TX4) (M := 11) (k := 5) E dX4_sheet_70 (Nat.le_of_ble_eq_true rfl) s_X0 rfl iX4 (by decide) rfl (List.mem_cons_of_mem _ tw_293) rfl ?_
                refine jx_getrN (C := RX1) (T := TX1) (M := 3) (k := 2) E dX4_sheet_73 (Nat.le_of_ble_eq_true rfl) s_X55 rfl iX1 (by decide) rfl (ex_f18 (jx_ex E)) rfl ?_
                refine jx_iload_n E dX4_sheet_76 1 rfl ?_
                obtain ⟨hg29, hF⟩ := jx_guard hF
                refine jx_iald (h := 62) (j := (Int32.toNatClampNeg x1)) E dX4_sheet_77 (Nat.le_of_ble_eq_true rfl) s_X62 hg29 rfl ?_
                obtain ⟨rfl, rfl⟩ := jx_out hF
                exact jx_iret E dX4_sheet_78 rfl
              · rw [if_neg hc27] at hF
                refine jx_aload_n E dX4_sheet_53 0 rfl ?_
                refine jx_iconst (x := 0) E dX4_sheet_54 (by decide) ?_
                obtain ⟨⟨r30, v30⟩, hc30, hF⟩ := jx_bind hF
                try dsimp only at hF
                refine jx_callVi (As := [.int 0]) (st := []) (h := 0) E dX4_sheet_55 1 rfl (k_X4_finding hI 0 v1 r30 v30 hc30) (gb_V (List.mem_cons_of_mem _ tw_192) (List.mem_cons_of_mem _ tw_193) (List.mem_cons_of_mem _ tw_194) (List.mem_cons_of_mem _ tw_190) tw_191) rfl rfl rfl dd_X4_finding rfl (Nat.le_of_ble_eq_true rfl) s_X0 rfl ⟨by decide, by decide⟩ ⟨Nat.le_refl 0, Nat.le_refl 0⟩ (Nat.le_of_ble_eq_true rfl) ?_
                obtain ⟨rfl, rfl⟩ := jx_out hF
                exact jx_iret E dX4_sheet_58 rfl
            · rw [if_neg hc26] at hF
              refine jx_aload_n E dX4_sheet_40 0 rfl ?_
              refine jx_bipush (x := 6) E dX4_sheet_41 (by decide) ?_
              obtain ⟨⟨r31, v31⟩, hc31, hF⟩ := jx_bind hF
              try dsimp only at hF
              refine jx_callVi (As := [.int 6]) (st := []) (h := 0) E dX4_sheet_43 1 rfl (k_X4_finding hI 6 v1 r31 v31 hc31) (gb_V (List.mem_cons_of_mem _ tw_192) (List.mem_cons_of_mem _ tw_193) (List.mem_cons_of_mem _ tw_194) (List.mem_cons_of_mem _ tw_190) tw_191) rfl rfl rfl dd_X4_finding rfl (Nat.le_of_ble_eq_true rfl) s_X0 rfl ⟨by decide, by decide⟩ ⟨Nat.le_refl 0, Nat.le_refl 0⟩ (Nat.le_of_ble_eq_true rfl) ?_
              obtain ⟨rfl, rfl⟩ := jx_out hF
              exact jx_iret E dX4_sheet_46 rfl
          · rw [if_neg hc25] at hF
            refine jx_aload_n E dX4_sheet_30 0 rfl ?_
            refine jx_iconst (x := 0) E dX4_sheet_31 (by decide) ?_
            obtain ⟨⟨r32, v32⟩, hc32, hF⟩ := jx_bind hF
            try dsimp only at hF
            refine jx_callVi (As := [.int 0]) (st := []) (h := 0) E dX4_sheet_32 1 rfl (k_X4_finding hI 0 v1 r32 v32 hc32) (gb_V (List.mem_cons_of_mem _ tw_192) (List.mem_cons_of_mem _ tw_193) (List.mem_cons_of_mem _ tw_194) (List.mem_cons_of_mem _ tw_190) tw_191) rfl rfl rfl dd_X4_finding rfl (Nat.le_of_ble_eq_true rfl) s_X0 rfl ⟨by decide, by decide⟩ ⟨Nat.le_refl 0, Nat.le_refl 0⟩ (Nat.le_of_ble_eq_true rfl) ?_
            obtain ⟨rfl, rfl⟩ := jx_out hF
            exact jx_iret E dX4_sheet_35 rfl
def f_X4_write (x1 : Int32) (x2 : Int32) (x3 : Int32) (v : jx_V) : Option (Int32 × jx_V) := ((f_X4_within x1 4 v).bind (fun (r1, v1) => (if r1 = 0 then ((f_X4_finding 0 v1).bind (fun (r11, v11) => (some (r11, v11)))) else ((f_X1_isMissing x1 v1).bind (fun (r3, v3) => (if r3 = 0 then (if (x1 < 0 ∨ 4 ≤ Int32.toNatClampNeg x1) then none else ((f_X4_within x2 (v3 62 (Int32.toNatClampNeg x1)) v3).bind (fun (r6, v6) => (if r6 = 0 then ((f_X4_finding 0 v6).bind (fun (r9, v9) => (some (r9, v9)))) else ((f_X1_store x1 x2 x3 v6).bind (fun v8 => (some (1, v8)))))))) else ((f_X4_finding 5 v3).bind (fun (r10, v10) => (some (r10, v10))))))))))
def rm_X4_write : Room := { frames := 1, cells := 0, slots := 0, locals := 23 }
set_option maxHeartbeats 4000000 in
set_option maxRecDepth 100000 in
theorem k_X4_write {l : Launch} {D : va_G} {cI cJ : ClassId} {ad : Nat → Nat} {A : Nat → Prop} {adK adV : Nat → Nat} (hI : jx_inj 67 ad A) (x1 : Int32) (x2 : Int32) (x3 : Int32) (v : jx_V) (r : Int32) (v' : jx_V) (hF : f_X4_write x1 x2 x3 v = some (r, v')) : jx_Ci l D vwCl 67 cI cJ ad shX A (ex_X adK adV A) yX4_write (Cond.code yX4_write cX4_write 4 (some .int) :: bigT) rm_X4_write [.ref (ad 0), .int x1, .int x2, .int x3] v r v' := by
  unfold f_X4_write at hF
  refine jx_enteri bigT RX4 cX4_write 4 (some .int) [(0, .ref (ad 0)), (1, .int x1), (2, .int x2), (3, .int x3)] hI (ex_X_ok adK adV A) (by decide +kernel) rfl (Nat.le_of_ble_eq_true rfl) rfl rfl ?_
  intro p e s m args below meth c E
  have iX1 : ∀ w ∈ u_ws RX1 TX1 3, w ∈ (Cond.code yX4_write cX4_write 4 (some .int) :: bigT) := fun w h => List.mem_cons_of_mem _ (uw_X1 w h)
  have iX4 : ∀ w ∈ u_ws RX4 TX4 11, w ∈ (Cond.code yX4_write cX4_write 4 (some .int) :: bigT) := fun w h => List.mem_cons_of_mem _ (uw_X4 w h)
  refine jx_iload_n E dX4_write_0 1 rfl ?_
  refine jx_iconst (x := 4) E dX4_write_1 (by decide) ?_
  obtain ⟨⟨r1, v1⟩, hc1, hF⟩ := jx_bind hF
  try dsimp only at hF
  refine jx_callSi (As := [.int x1, .int 4]) (st := []) E dX4_write_2 2 rfl (k_X4_within hI x1 4 v r1 v1 hc1) (gb_S (List.mem_cons_of_mem _ tw_188) (List.mem_cons_of_mem _ tw_189) (List.mem_cons_of_mem _ tw_190) tw_187) rfl rfl rfl dd_X4_within rfl ⟨by decide, by decide⟩ ⟨Nat.le_refl 0, Nat.le_refl 0⟩ (Nat.le_of_ble_eq_true rfl) ?_
  refine jx_if_ne (tgt := 14) E dX4_write_5 (by decide) (fun hc2 => ?_) (fun hc2 => ?_)
  · rw [if_neg hc2] at hF
    refine jx_aload_n E dX4_write_14 0 rfl ?_
    refine jx_getr (C := RX4) (T := TX4) (M := 11) (k := 5) E dX4_write_15 (Nat.le_of_ble_eq_true rfl) s_X0 rfl iX4 (by decide) rfl (List.mem_cons_of_mem _ tw_293) rfl ?_
    refine jx_iload_n E dX4_write_18 1 rfl ?_
    obtain ⟨⟨r3, v3⟩, hc3, hF⟩ := jx_bind hF
    try dsimp only at hF
    refine jx_callNi (As := [.int x1]) (st := []) (h := 55) E dX4_write_19 1 rfl (k_X1_isMissing hI x1 v1 r3 v3 hc3) (gb_N tw_298) rfl rfl rfl (ex_m40 (jx_ex E)) (List.mem_cons_of_mem _ tw_295) (List.mem_cons_of_mem _ tw_299) (List.mem_cons_of_mem _ tw_300) dd_X1_isMissing.2 rfl (Nat.le_of_ble_eq_true rfl) s_X55 rfl ⟨by decide, by decide⟩ ⟨Nat.le_refl 0, Nat.le_refl 0⟩ (Nat.le_of_ble_eq_true rfl) ?_
    refine jx_if_eq (tgt := 31) E dX4_write_22 (by decide) (fun hc4 => ?_) (fun hc4 => ?_)
    · rw [if_pos hc4] at hF
      refine jx_iload_n E dX4_write_31 2 rfl ?_
      refine jx_aload_n E dX4_write_32 0 rfl ?_
      refine jx_getr (C := RX4) (T := TX4) (M := 11) (k := 5) E dX4_write_33 (Nat.le_of_ble_eq_true rfl) s_X0 rfl iX4 (by decide) rfl (List.mem_cons_of_mem _ tw_293) rfl ?_
      refine jx_getrN (C := RX1) (T := TX1) (M := 3) (k := 2) E dX4_write_36 (Nat.le_of_ble_eq_true rfl) s_X55 rfl iX1 (by decide) rfl (ex_f18 (jx_ex E)) rfl ?_
      refine jx_iload_n E dX4_write_39 1 rfl ?_
      obtain ⟨hg5, hF⟩ := jx_guard hF
      refine jx_iald (h := 62) (j := (Int32.toNatClampNeg x1)) E dX4_write_40 (Nat.le_of_ble_eq_true rfl) s_X62 hg5 rfl ?_
      obtain ⟨⟨r6, v6⟩, hc6, hF⟩ := jx_bind hF
      try dsimp only at hF
      refine jx_callSi (As := [.int x2, .int (v3 62 (Int32.toNatClampNeg x1))]) (st := []) E dX4_write_41 2 rfl (k_X4_within hI x2 (v3 62 (Int32.toNatClampNeg x1)) v3 r6 v6 hc6) (gb_S (List.mem_cons_of_mem _ tw_188) (List.mem_cons_of_mem _ tw_189) (List.mem_cons_of_mem _ tw_190) tw_187) rfl rfl rfl dd_X4_within rfl ⟨by decide, by decide⟩ ⟨Nat.le_refl 0, Nat.le_refl 0⟩ (Nat.le_of_ble_eq_true rfl) ?_
      refine jx_if_ne (tgt := 53) E dX4_write_44 (by decide) (fun hc7 => ?_) (fun hc7 => ?_)
      · rw [if_neg hc7] at hF
        refine jx_aload_n E dX4_write_53 0 rfl ?_
        refine jx_getr (C := RX4) (T := TX4) (M := 11) (k := 5) E dX4_write_54 (Nat.le_of_ble_eq_true rfl) s_X0 rfl iX4 (by decide) rfl (List.mem_cons_of_mem _ tw_293) rfl ?_
        refine jx_iload_n E dX4_write_57 1 rfl ?_
        refine jx_iload_n E dX4_write_58 2 rfl ?_
        refine jx_iload_n E dX4_write_59 3 rfl ?_
        obtain ⟨v8, hc8, hF⟩ := jx_bind hF
        try dsimp only at hF
        refine jx_callNv (As := [.int x1, .int x2, .int x3]) (st := []) (h := 55) E dX4_write_60 3 rfl (k_X1_store hI x1 x2 x3 v6 v8 hc8) (gb_N tw_301) rfl rfl rfl (ex_m41 (jx_ex E)) (List.mem_cons_of_mem _ tw_295) (List.mem_cons_of_mem _ tw_302) (List.mem_cons_of_mem _ tw_303) dd_X1_store.2 rfl (Nat.le_of_ble_eq_true rfl) s_X55 rfl ⟨by decide, by decide⟩ ⟨Nat.le_refl 0, Nat.le_refl 0⟩ (Nat.le_of_ble_eq_true rfl) ?_
        refine jx_iconst (x := 1) E dX4_write_63 (by decide) ?_
        obtain ⟨rfl, rfl⟩ := jx_out hF
        exact jx_iret E dX4_write_64 rfl
      · rw [if_pos hc7] at hF
        refine jx_aload_n E dX4_write_47 0 rfl ?_
        refine jx_iconst (x := 0) E dX4_write_48 (by decide) ?_
        obtain ⟨⟨r9, v9⟩, hc9, hF⟩ := jx_bind hF
        try dsimp only at hF
        refine jx_callVi (As := [.int 0]) (st := []) (h := 0) E dX4_write_49 1 rfl (k_X4_finding hI 0 v6 r9 v9 hc9) (gb_V (List.mem_cons_of_mem _ tw_192) (List.mem_cons_of_mem _ tw_193) (List.mem_cons_of_mem _ tw_194) (List.mem_cons_of_mem _ tw_190) tw_191) rfl rfl rfl dd_X4_finding rfl (Nat.le_of_ble_eq_true rfl) s_X0 rfl ⟨by decide, by decide⟩ ⟨Nat.le_refl 0, Nat.le_refl 0⟩ (Nat.le_of_ble_eq_true rfl) ?_
        obtain ⟨rfl, rfl⟩ := jx_out hF
        exact jx_iret E dX4_write_52 rfl
    · rw [if_neg hc4] at hF
      refine jx_aload_n E dX4_write_25 0 rfl ?_
      refine jx_iconst (x := 5) E dX4_write_26 (by decide) ?_
      obtain ⟨⟨r10, v10⟩, hc10, hF⟩ := jx_bind hF
      try dsimp only at hF
      refine jx_callVi (As := [.int 5]) (st := []) (h := 0) E dX4_write_27 1 rfl (k_X4_finding hI 5 v3 r10 v10 hc10) (gb_V (List.mem_cons_of_mem _ tw_192) (List.mem_cons_of_mem _ tw_193) (List.mem_cons_of_mem _ tw_194) (List.mem_cons_of_mem _ tw_190) tw_191) rfl rfl rfl dd_X4_finding rfl (Nat.le_of_ble_eq_true rfl) s_X0 rfl ⟨by decide, by decide⟩ ⟨Nat.le_refl 0, Nat.le_refl 0⟩ (Nat.le_of_ble_eq_true rfl) ?_
      obtain ⟨rfl, rfl⟩ := jx_out hF
      exact jx_iret E dX4_write_30 rfl
  · rw [if_pos hc2] at hF
    refine jx_aload_n E dX4_write_8 0 rfl ?_
    refine jx_iconst (x := 0) E dX4_write_9 (by decide) ?_
    obtain ⟨⟨r11, v11⟩, hc11, hF⟩ := jx_bind hF
    try dsimp only at hF
    refine jx_callVi (As := [.int 0]) (st := []) (h := 0) E dX4_write_10 1 rfl (k_X4_finding hI 0 v1 r11 v11 hc11) (gb_V (List.mem_cons_of_mem _ tw_192) (List.mem_cons_of_mem _ tw_193) (List.mem_cons_of_mem _ tw_194) (List.mem_cons_of_mem _ tw_190) tw_191) rfl rfl rfl dd_X4_finding rfl (Nat.le_of_ble_eq_true rfl) s_X0 rfl ⟨by decide, by decide⟩ ⟨Nat.le_refl 0, Nat.le_refl 0⟩ (Nat.le_of_ble_eq_true rfl) ?_
    obtain ⟨rfl, rfl⟩ := jx_out hF
    exact jx_iret E dX4_write_13 rfl
def f_X4_copy (x1 : Int32) (x2 : Int32) (x3 : Int32) (x4 : Int32) (x5 : Int32) (v : jx_V) : Option (Int32 × jx_V) := ((f_X4_within x1 4 v).bind (fun (r1, v1) => (if r1 = 0 then ((f_X4_finding 0 v1).bind (fun (r3, v3) => (some (r3, v3)))) else ((f_X4_within x3 4 v1).bind (fun (r4, v4) => (if r4 = 0 then ((f_X4_finding 0 v4).bind (fun (r25, v25) => (some (r25, v25)))) else ((f_X1_isMissing x1 v4).bind (fun (r6, v6) => (if r6 = 0 then ((f_X1_isMissing x3 v6).bind (fun (r9, v9) => (if r9 = 0 then (if (x1 < 0 ∨ 4 ≤ Int32.toNatClampNeg x1) then none else (if (x3 < 0 ∨ 4 ≤ Int32.toNatClampNeg x3) then none else (if (v9 61 (Int32.toNatClampNeg x1)) = (v9 61 (Int32.toNatClampNeg x3)) then ((f_X1_hasRange x1 x2 x5 v9).bind (fun (r14, v14) => (if r14 = 0 then ((f_X4_finding 0 v14).bind (fun (r16, v16) => (some (r16, v16)))) else ((f_X1_hasRange x3 x4 x5 v14).bind (fun (r17, v17) => (if r17 = 0 then ((f_X4_finding 0 v17).bind (fun (r22, v22) => (some (r22, v22)))) else (if (x1 < 0 ∨ 4 ≤ (x1).toNatClampNeg) then none else (if (x3 < 0 ∨ 4 ≤ (x3).toNatClampNeg) then none else (if ¬ (¬ x2 < 0 ∧ ¬ x4 < 0 ∧ ¬ x5 < 0 ∧ Int32.toNatClampNeg x2 + Int32.toNatClampNeg x5 ≤ 40 ∧ Int32.toNatClampNeg x4 + Int32.toNatClampNeg x5 ≤ 40) then none else (some (x5, (jx_set v17 (57 + (x3).toNatClampNeg) (va_cpy (v17 (57 + (x1).toNatClampNeg)) (v17 (57 + (x3).toNatClampNeg)) (Int32.toNatClampNeg x2) (Int32.toNatClampNeg x4) (Int32.toNatClampNeg x5)))))))))))))) else ((f_X4_finding 2 v9).bind (fun (r23, v23) => (some (r23, v23))))))) else ((f_X4_finding 5 v9).bind (fun (r24, v24) => (some (r24, v24))))))) else ((f_X4_finding 5 v6).bind (fun (r8, v8) => (some (r8, v8)))))))))))))
def rm_X4_copy : Room := { frames := 1, cells := 0, slots := 0, locals := 60 }
set_option maxHeartbeats 4000000 in
set_option maxRecDepth 100000 in
theorem k_X4_copy {l : Launch} {D : va_G} {cI cJ : ClassId} {ad : Nat → Nat} {A : Nat → Prop} {adK adV : Nat → Nat} (hI : jx_inj 67 ad A) (x1 : Int32) (x2 : Int32) (x3 : Int32) (x4 : Int32) (x5 : Int32) (v : jx_V) (r : Int32) (v' : jx_V) (hF : f_X4_copy x1 x2 x3 x4 x5 v = some (r, v')) : jx_Ci l D vwCl 67 cI cJ ad shX A (ex_X adK adV A) yX4_copy (Cond.code yX4_copy cX4_copy 6 (some .int) :: bigT) rm_X4_copy [.ref (ad 0), .int x1, .int x2, .int x3, .int x4, .int x5] v r v' := by
  unfold f_X4_copy at hF
  refine jx_enteri bigT RX4 cX4_copy 6 (some .int) [(0, .ref (ad 0)), (1, .int x1), (2, .int x2), (3, .int x3), (4, .int x4), (5, .int x5)] hI (ex_X_ok adK adV A) (by decide +kernel) rfl (Nat.le_of_ble_eq_true rfl) rfl rfl ?_
  intro p e s m args below meth c E
  have iX1 : ∀ w ∈ u_ws RX1 TX1 3, w ∈ (Cond.code yX4_copy cX4_copy 6 (some .int) :: bigT) := fun w h => List.mem_cons_of_mem _ (uw_X1 w h)
  have iX4 : ∀ w ∈ u_ws RX4 TX4 11, w ∈ (Cond.code yX4_copy cX4_copy 6 (some .int) :: bigT) := fun w h => List.mem_cons_of_mem _ (uw_X4 w h)
  refine jx_iload_n E dX4_copy_0 1 rfl ?_
  refine jx_iconst (x := 4) E dX4_copy_1 (by decide) ?_
  obtain ⟨⟨r1, v1⟩, hc1, hF⟩ := jx_bind hF
  try dsimp only at hF
  refine jx_callSi (As := [.int x1, .int 4]) (st := []) E dX4_copy_2 2 rfl (k_X4_within hI x1 4 v r1 v1 hc1) (gb_S (List.mem_cons_of_mem _ tw_188) (List.mem_cons_of_mem _ tw_189) (List.mem_cons_of_mem _ tw_190) tw_187) rfl rfl rfl dd_X4_within rfl ⟨by decide, by decide⟩ ⟨Nat.le_refl 0, Nat.le_refl 0⟩ (Nat.le_of_ble_eq_true rfl) ?_
  refine jx_if_eq (tgt := 16) E dX4_copy_5 (by decide) (fun hc2 => ?_) (fun hc2 => ?_)
  · rw [if_pos hc2] at hF
    refine jx_aload_n E dX4_copy_16 0 rfl ?_
    refine jx_iconst (x := 0) E dX4_copy_17 (by decide) ?_
    obtain ⟨⟨r3, v3⟩, hc3, hF⟩ := jx_bind hF
    try dsimp only at hF
    refine jx_callVi (As := [.int 0]) (st := []) (h := 0) E dX4_copy_18 1 rfl (k_X4_finding hI 0 v1 r3 v3 hc3) (gb_V (List.mem_cons_of_mem _ tw_192) (List.mem_cons_of_mem _ tw_193) (List.mem_cons_of_mem _ tw_194) (List.mem_cons_of_mem _ tw_190) tw_191) rfl rfl rfl dd_X4_finding rfl (Nat.le_of_ble_eq_true rfl) s_X0 rfl ⟨by decide, by decide⟩ ⟨Nat.le_refl 0, Nat.le_refl 0⟩ (Nat.le_of_ble_eq_true rfl) ?_
    obtain ⟨rfl, rfl⟩ := jx_out hF
    exact jx_iret E dX4_copy_21 rfl
  · rw [if_neg hc2] at hF
    refine jx_iload_n E dX4_copy_8 3 rfl ?_
    refine jx_iconst (x := 4) E dX4_copy_9 (by decide) ?_
    obtain ⟨⟨r4, v4⟩, hc4, hF⟩ := jx_bind hF
    try dsimp only at hF
    refine jx_callSi (As := [.int x3, .int 4]) (st := []) E dX4_copy_10 2 rfl (k_X4_within hI x3 4 v1 r4 v4 hc4) (gb_S (List.mem_cons_of_mem _ tw_188) (List.mem_cons_of_mem _ tw_189) (List.mem_cons_of_mem _ tw_190) tw_187) rfl rfl rfl dd_X4_within rfl ⟨by decide, by decide⟩ ⟨Nat.le_refl 0, Nat.le_refl 0⟩ (Nat.le_of_ble_eq_true rfl) ?_
    refine jx_if_ne (tgt := 22) E dX4_copy_13 (by decide) (fun hc5 => ?_) (fun hc5 => ?_)
    · rw [if_neg hc5] at hF
      refine jx_aload_n E dX4_copy_22 0 rfl ?_
      refine jx_getr (C := RX4) (T := TX4) (M := 11) (k := 5) E dX4_copy_23 (Nat.le_of_ble_eq_true rfl) s_X0 rfl iX4 (by decide) rfl (List.mem_cons_of_mem _ tw_293) rfl ?_
      refine jx_iload_n E dX4_copy_26 1 rfl ?_
      obtain ⟨⟨r6, v6⟩, hc6, hF⟩ := jx_bind hF
      try dsimp only at hF
      refine jx_callNi (As := [.int x1]) (st := []) (h := 55) E dX4_copy_27 1 rfl (k_X1_isMissing hI x1 v4 r6 v6 hc6) (gb_N tw_298) rfl rfl rfl (ex_m40 (jx_ex E)) (List.mem_cons_of_mem _ tw_295) (List.mem_cons_of_mem _ tw_299) (List.mem_cons_of_mem _ tw_300) dd_X1_isMissing.2 rfl (Nat.le_of_ble_eq_true rfl) s_X55 rfl ⟨by decide, by decide⟩ ⟨Nat.le_refl 0, Nat.le_refl 0⟩ (Nat.le_of_ble_eq_true rfl) ?_
      refine jx_if_ne (tgt := 44) E dX4_copy_30 (by decide) (fun hc7 => ?_) (fun hc7 => ?_)
      · rw [if_neg hc7] at hF
        refine jx_aload_n E dX4_copy_44 0 rfl ?_
        refine jx_iconst (x := 5) E dX4_copy_45 (by decide) ?_
        obtain ⟨⟨r8, v8⟩, hc8, hF⟩ := jx_bind hF
        try dsimp only at hF
        refine jx_callVi (As := [.int 5]) (st := []) (h := 0) E dX4_copy_46 1 rfl (k_X4_finding hI 5 v6 r8 v8 hc8) (gb_V (List.mem_cons_of_mem _ tw_192) (List.mem_cons_of_mem _ tw_193) (List.mem_cons_of_mem _ tw_194) (List.mem_cons_of_mem _ tw_190) tw_191) rfl rfl rfl dd_X4_finding rfl (Nat.le_of_ble_eq_true rfl) s_X0 rfl ⟨by decide, by decide⟩ ⟨Nat.le_refl 0, Nat.le_refl 0⟩ (Nat.le_of_ble_eq_true rfl) ?_
        obtain ⟨rfl, rfl⟩ := jx_out hF
        exact jx_iret E dX4_copy_49 rfl
      · rw [if_pos hc7] at hF
        refine jx_aload_n E dX4_copy_33 0 rfl ?_
        refine jx_getr (C := RX4) (T := TX4) (M := 11) (k := 5) E dX4_copy_34 (Nat.le_of_ble_eq_true rfl) s_X0 rfl iX4 (by decide) rfl (List.mem_cons_of_mem _ tw_293) rfl ?_
        refine jx_iload_n E dX4_copy_37 3 rfl ?_
        obtain ⟨⟨r9, v9⟩, hc9, hF⟩ := jx_bind hF
        try dsimp only at hF
        refine jx_callNi (As := [.int x3]) (st := []) (h := 55) E dX4_copy_38 1 rfl (k_X1_isMissing hI x3 v6 r9 v9 hc9) (gb_N tw_298) rfl rfl rfl (ex_m40 (jx_ex E)) (List.mem_cons_of_mem _ tw_295) (List.mem_cons_of_mem _ tw_299) (List.mem_cons_of_mem _ tw_300) dd_X1_isMissing.2 rfl (Nat.le_of_ble_eq_true rfl) s_X55 rfl ⟨by decide, by decide⟩ ⟨Nat.le_refl 0, Nat.le_refl 0⟩ (Nat.le_of_ble_eq_true rfl) ?_
        refine jx_if_eq (tgt := 50) E dX4_copy_41 (by decide) (fun hc10 => ?_) (fun hc10 => ?_)
        · rw [if_pos hc10] at hF
          refine jx_aload_n E dX4_copy_50 0 rfl ?_
          refine jx_getr (C := RX4) (T := TX4) (M := 11) (k := 5) E dX4_copy_51 (Nat.le_of_ble_eq_true rfl) s_X0 rfl iX4 (by decide) rfl (List.mem_cons_of_mem _ tw_293) rfl ?_
          refine jx_getrN (C := RX1) (T := TX1) (M := 3) (k := 1) E dX4_copy_54 (Nat.le_of_ble_eq_true rfl) s_X55 rfl iX1 (by decide) rfl (ex_f17 (jx_ex E)) rfl ?_
          refine jx_iload_n E dX4_copy_57 1 rfl ?_
          obtain ⟨hg11, hF⟩ := jx_guard hF
          refine jx_iald (h := 61) (j := (Int32.toNatClampNeg x1)) E dX4_copy_58 (Nat.le_of_ble_eq_true rfl) s_X61 hg11 rfl ?_
          refine jx_aload_n E dX4_copy_59 0 rfl ?_
          refine jx_getr (C := RX4) (T := TX4) (M := 11) (k := 5) E dX4_copy_60 (Nat.le_of_ble_eq_true rfl) s_X0 rfl iX4 (by decide) rfl (List.mem_cons_of_mem _ tw_293) rfl ?_
          refine jx_getrN (C := RX1) (T := TX1) (M := 3) (k := 1) E dX4_copy_63 (Nat.le_of_ble_eq_true rfl) s_X55 rfl iX1 (by decide) rfl (ex_f17 (jx_ex E)) rfl ?_
          refine jx_iload_n E dX4_copy_66 3 rfl ?_
          obtain ⟨hg12, hF⟩ := jx_guard hF
          refine jx_iald (h := 61) (j := (Int32.toNatClampNeg x3)) E dX4_copy_67 (Nat.le_of_ble_eq_true rfl) s_X61 hg12 rfl ?_
          refine jx_icmp_eq (tgt := 77) E dX4_copy_68 (by decide) (fun hc13 => ?_) (fun hc13 => ?_)
          · rw [if_pos hc13] at hF
            refine jx_aload_n E dX4_copy_77 0 rfl ?_
            refine jx_getr (C := RX4) (T := TX4) (M := 11) (k := 5) E dX4_copy_78 (Nat.le_of_ble_eq_true rfl) s_X0 rfl iX4 (by decide) rfl (List.mem_cons_of_mem _ tw_293) rfl ?_
            refine jx_iload_n E dX4_copy_81 1 rfl ?_
            refine jx_iload_n E dX4_copy_82 2 rfl ?_
            refine jx_iload E dX4_copy_83 5 rfl ?_
            obtain ⟨⟨r14, v14⟩, hc14, hF⟩ := jx_bind hF
            try dsimp only at hF
            refine jx_callNi (As := [.int x1, .int x2, .int x5]) (st := []) (h := 55) E dX4_copy_85 3 rfl (k_X1_hasRange hI x1 x2 x5 v9 r14 v14 hc14) (gb_N tw_304) rfl rfl rfl (ex_m42 (jx_ex E)) (List.mem_cons_of_mem _ tw_295) (List.mem_cons_of_mem _ tw_305) (List.mem_cons_of_mem _ tw_306) dd_X1_hasRange.2 rfl (Nat.le_of_ble_eq_true rfl) s_X55 rfl ⟨by decide, by decide⟩ ⟨Nat.le_refl 0, Nat.le_refl 0⟩ (Nat.le_of_ble_eq_true rfl) ?_
            refine jx_if_eq (tgt := 106) E dX4_copy_88 (by decide) (fun hc15 => ?_) (fun hc15 => ?_)
            · rw [if_pos hc15] at hF
              refine jx_aload_n E dX4_copy_106 0 rfl ?_
              refine jx_iconst (x := 0) E dX4_copy_107 (by decide) ?_
              obtain ⟨⟨r16, v16⟩, hc16, hF⟩ := jx_bind hF
              try dsimp only at hF
              refine jx_callVi (As := [.int 0]) (st := []) (h := 0) E dX4_copy_108 1 rfl (k_X4_finding hI 0 v14 r16 v16 hc16) (gb_V (List.mem_cons_of_mem _ tw_192) (List.mem_cons_of_mem _ tw_193) (List.mem_cons_of_mem _ tw_194) (List.mem_cons_of_mem _ tw_190) tw_191) rfl rfl rfl dd_X4_finding rfl (Nat.le_of_ble_eq_true rfl) s_X0 rfl ⟨by decide, by decide⟩ ⟨Nat.le_refl 0, Nat.le_refl 0⟩ (Nat.le_of_ble_eq_true rfl) ?_
              obtain ⟨rfl, rfl⟩ := jx_out hF
              exact jx_iret E dX4_copy_111 rfl
            · rw [if_neg hc15] at hF
              refine jx_aload_n E dX4_copy_91 0 rfl ?_
              refine jx_getr (C := RX4) (T := TX4) (M := 11) (k := 5) E dX4_copy_92 (Nat.le_of_ble_eq_true rfl) s_X0 rfl iX4 (by decide) rfl (List.mem_cons_of_mem _ tw_293) rfl ?_
              refine jx_iload_n E dX4_copy_95 3 rfl ?_
              refine jx_iload E dX4_copy_96 4 rfl ?_
              refine jx_iload E dX4_copy_98 5 rfl ?_
              obtain ⟨⟨r17, v17⟩, hc17, hF⟩ := jx_bind hF
              try dsimp only at hF
              refine jx_callNi (As := [.int x3, .int x4, .int x5]) (st := []) (h := 55) E dX4_copy_100 3 rfl (k_X1_hasRange hI x3 x4 x5 v14 r17 v17 hc17) (gb_N tw_304) rfl rfl rfl (ex_m42 (jx_ex E)) (List.mem_cons_of_mem _ tw_295) (List.mem_cons_of_mem _ tw_305) (List.mem_cons_of_mem _ tw_306) dd_X1_hasRange.2 rfl (Nat.le_of_ble_eq_true rfl) s_X55 rfl ⟨by decide, by decide⟩ ⟨Nat.le_refl 0, Nat.le_refl 0⟩ (Nat.le_of_ble_eq_true rfl) ?_
              refine jx_if_ne (tgt := 112) E dX4_copy_103 (by decide) (fun hc18 => ?_) (fun hc18 => ?_)
              · rw [if_neg hc18] at hF
                refine jx_aload_n E dX4_copy_112 0 rfl ?_
                refine jx_getr (C := RX4) (T := TX4) (M := 11) (k := 5) E dX4_copy_113 (Nat.le_of_ble_eq_true rfl) s_X0 rfl iX4 (by decide) rfl (List.mem_cons_of_mem _ tw_293) rfl ?_
                refine jx_getrN (C := RX1) (T := TX1) (M := 3) (k := 0) E dX4_copy_116 (Nat.le_of_ble_eq_true rfl) s_X55 rfl iX1 (by decide) rfl (ex_f16 (jx_ex E)) rfl ?_
                refine jx_iload_n E dX4_copy_119 1 rfl ?_
                obtain ⟨hg19, hF⟩ := jx_guard hF
                refine jx_aald (h' := (57 + (x1).toNatClampNeg)) E dX4_copy_120 (Nat.le_of_ble_eq_true rfl) s_X56 hg19 (l_Sr (l_lt hg19)) ?_
                refine jx_iload_n E dX4_copy_121 2 rfl ?_
                refine jx_aload_n E dX4_copy_122 0 rfl ?_
                refine jx_getr (C := RX4) (T := TX4) (M := 11) (k := 5) E dX4_copy_123 (Nat.le_of_ble_eq_true rfl) s_X0 rfl iX4 (by decide) rfl (List.mem_cons_of_mem _ tw_293) rfl ?_
                refine jx_getrN (C := RX1) (T := TX1) (M := 3) (k := 0) E dX4_copy_126 (Nat.le_of_ble_eq_true rfl) s_X55 rfl iX1 (by decide) rfl (ex_f16 (jx_ex E)) rfl ?_
                refine jx_iload_n E dX4_copy_129 3 rfl ?_
                obtain ⟨hg20, hF⟩ := jx_guard hF
                refine jx_aald (h' := (57 + (x3).toNatClampNeg)) E dX4_copy_130 (Nat.le_of_ble_eq_true rfl) s_X56 hg20 (l_Sr (l_lt hg20)) ?_
                refine jx_iload E dX4_copy_131 4 rfl ?_
                refine jx_iload E dX4_copy_133 5 rfl ?_
                obtain ⟨hg21, hF⟩ := jx_guard hF
                have hg21 := Decidable.not_not.mp hg21
                refine jx_copy (h0 := (57 + (x1).toNatClampNeg)) (h1 := (57 + (x3).toNatClampNeg)) (st := []) E dX4_copy_135 (List.mem_cons_of_mem _ tw_307) (List.mem_cons_of_mem _ tw_173) (List.mem_cons_of_mem _ tw_174) (List.mem_cons_of_mem _ tw_175) (n_Sr (l_lt hg19)) (s_Sr (l_lt hg19)) (n_Sr (l_lt hg20)) (s_Sr (l_lt hg20)) hg21.1 hg21.2.1 hg21.2.2.1 hg21.2.2.2.1 hg21.2.2.2.2 (by decide) (by decide) ?_
                refine jx_iload E dX4_copy_138 5 rfl ?_
                obtain ⟨rfl, rfl⟩ := jx_out hF
                exact jx_iret E dX4_copy_140 rfl
              · rw [if_pos hc18] at hF
                refine jx_aload_n E dX4_copy_106 0 rfl ?_
                refine jx_iconst (x := 0) E dX4_copy_107 (by decide) ?_
                obtain ⟨⟨r22, v22⟩, hc22, hF⟩ := jx_bind hF
                try dsimp only at hF
                refine jx_callVi (As := [.int 0]) (st := []) (h := 0) E dX4_copy_108 1 rfl (k_X4_finding hI 0 v17 r22 v22 hc22) (gb_V (List.mem_cons_of_mem _ tw_192) (List.mem_cons_of_mem _ tw_193) (List.mem_cons_of_mem _ tw_194) (List.mem_cons_of_mem _ tw_190) tw_191) rfl rfl rfl dd_X4_finding rfl (Nat.le_of_ble_eq_true rfl) s_X0 rfl ⟨by decide, by decide⟩ ⟨Nat.le_refl 0, Nat.le_refl 0⟩ (Nat.le_of_ble_eq_true rfl) ?_
                obtain ⟨rfl, rfl⟩ := jx_out hF
                exact jx_iret E dX4_copy_111 rfl
          · rw [if_neg hc13] at hF
            refine jx_aload_n E dX4_copy_71 0 rfl ?_
            refine jx_iconst (x := 2) E dX4_copy_72 (by decide) ?_
            obtain ⟨⟨r23, v23⟩, hc23, hF⟩ := jx_bind hF
            try dsimp only at hF
            refine jx_callVi (As := [.int 2]) (st := []) (h := 0) E dX4_copy_73 1 rfl (k_X4_finding hI 2 v9 r23 v23 hc23) (gb_V (List.mem_cons_of_mem _ tw_192) (List.mem_cons_of_mem _ tw_193) (List.mem_cons_of_mem _ tw_194) (List.mem_cons_of_mem _ tw_190) tw_191) rfl rfl rfl dd_X4_finding rfl (Nat.le_of_ble_eq_true rfl) s_X0 rfl ⟨by decide, by decide⟩ ⟨Nat.le_refl 0, Nat.le_refl 0⟩ (Nat.le_of_ble_eq_true rfl) ?_
            obtain ⟨rfl, rfl⟩ := jx_out hF
            exact jx_iret E dX4_copy_76 rfl
        · rw [if_neg hc10] at hF
          refine jx_aload_n E dX4_copy_44 0 rfl ?_
          refine jx_iconst (x := 5) E dX4_copy_45 (by decide) ?_
          obtain ⟨⟨r24, v24⟩, hc24, hF⟩ := jx_bind hF
          try dsimp only at hF
          refine jx_callVi (As := [.int 5]) (st := []) (h := 0) E dX4_copy_46 1 rfl (k_X4_finding hI 5 v9 r24 v24 hc24) (gb_V (List.mem_cons_of_mem _ tw_192) (List.mem_cons_of_mem _ tw_193) (List.mem_cons_of_mem _ tw_194) (List.mem_cons_of_mem _ tw_190) tw_191) rfl rfl rfl dd_X4_finding rfl (Nat.le_of_ble_eq_true rfl) s_X0 rfl ⟨by decide, by decide⟩ ⟨Nat.le_refl 0, Nat.le_refl 0⟩ (Nat.le_of_ble_eq_true rfl) ?_
          obtain ⟨rfl, rfl⟩ := jx_out hF
          exact jx_iret E dX4_copy_49 rfl
    · rw [if_pos hc5] at hF
      refine jx_aload_n E dX4_copy_16 0 rfl ?_
      refine jx_iconst (x := 0) E dX4_copy_17 (by decide) ?_
      obtain ⟨⟨r25, v25⟩, hc25, hF⟩ := jx_bind hF
      try dsimp only at hF
      refine jx_callVi (As := [.int 0]) (st := []) (h := 0) E dX4_copy_18 1 rfl (k_X4_finding hI 0 v4 r25 v25 hc25) (gb_V (List.mem_cons_of_mem _ tw_192) (List.mem_cons_of_mem _ tw_193) (List.mem_cons_of_mem _ tw_194) (List.mem_cons_of_mem _ tw_190) tw_191) rfl rfl rfl dd_X4_finding rfl (Nat.le_of_ble_eq_true rfl) s_X0 rfl ⟨by decide, by decide⟩ ⟨Nat.le_refl 0, Nat.le_refl 0⟩ (Nat.le_of_ble_eq_true rfl) ?_
      obtain ⟨rfl, rfl⟩ := jx_out hF
      exact jx_iret E dX4_copy_21 rfl
def f_X4_load_L  : Nat → Int32 → Int32 → Int32 → Int32 → jx_V → Option (Int32 × jx_V)
  | 0, _, _, _, _, _ => none
  | n + 1, x1, x2, x3, x4, v => (if (x1 < 0 ∨ 4 ≤ Int32.toNatClampNeg x1) then none else (if (v 62 (Int32.toNatClampNeg x1)) ≤ x4 then (some (x3, v)) else (if 25 ≤ (x2 + x4) then (some (x3, v)) else (if (x1 < 0 ∨ 4 ≤ (x1).toNatClampNeg) then none else (if (x4 < 0 ∨ 40 ≤ Int32.toNatClampNeg x4) then none else ((f_X4_within (v (57 + (x1).toNatClampNeg) (Int32.toNatClampNeg x4)) 10 v).bind (fun (r15, v15) => (if r15 = 0 then (some (x3, v15)) else ((f_X3_isTaken 1 (x2 + x4) v15).bind (fun (r17, v17) => (if r17 = 0 then (f_X4_load_L n x1 x2 x3 (x4 + 1) v17) else (if ((x2 + x4) < 0 ∨ 25 ≤ Int32.toNatClampNeg (x2 + x4)) then none else (f_X4_load_L n x1 x2 (x3 + 1) (x4 + 1) (jx_up v17 6 (Int32.toNatClampNeg (x2 + x4)) (v (57 + (x1).toNatClampNeg) (Int32.toNatClampNeg x4))))))))))))))))
def f_X4_load (x1 : Int32) (x2 : Int32) (v : jx_V) : Option (Int32 × jx_V) := ((f_X4_within x1 4 v).bind (fun (r1, v1) => (if r1 = 0 then ((f_X4_finding 0 v1).bind (fun (r9, v9) => (some (r9, v9)))) else ((f_X1_isMissing x1 v1).bind (fun (r3, v3) => (if r3 = 0 then ((f_X4_within x2 25 v3).bind (fun (r5, v5) => (if r5 = 0 then ((f_X4_finding 0 v5).bind (fun (r7, v7) => (some (r7, v7)))) else (f_X4_load_L 100000 x1 x2 0 0 v5)))) else ((f_X4_finding 5 v3).bind (fun (r8, v8) => (some (r8, v8))))))))))
def rm_X4_load : Room := { frames := 1, cells := 0, slots := 0, locals := 21 }
set_option maxHeartbeats 4000000 in
set_option maxRecDepth 100000 in
theorem k_X4_load {l : Launch} {D : va_G} {cI cJ : ClassId} {ad : Nat → Nat} {A : Nat → Prop} {adK adV : Nat → Nat} (hI : jx_inj 67 ad A) (x1 : Int32) (x2 : Int32) (v : jx_V) (r : Int32) (v' : jx_V) (hF : f_X4_load x1 x2 v = some (r, v')) : jx_Ci l D vwCl 67 cI cJ ad shX A (ex_X adK adV A) yX4_load (Cond.code yX4_load cX4_load 6 (some .int) :: bigT) rm_X4_load [.ref (ad 0), .int x1, .int x2] v r v' := by
  unfold f_X4_load at hF
  refine jx_enteri bigT RX4 cX4_load 6 (some .int) [(0, .ref (ad 0)), (1, .int x1), (2, .int x2)] hI (ex_X_ok adK adV A) (by decide +kernel) rfl (Nat.le_of_ble_eq_true rfl) rfl rfl ?_
  intro p e s m args below meth c E
  have iX1 : ∀ w ∈ u_ws RX1 TX1 3, w ∈ (Cond.code yX4_load cX4_load 6 (some .int) :: bigT) := fun w h => List.mem_cons_of_mem _ (uw_X1 w h)
  have iX3 : ∀ w ∈ u_ws RX3 TX3 8, w ∈ (Cond.code yX4_load cX4_load 6 (some .int) :: bigT) := fun w h => List.mem_cons_of_mem _ (uw_X3 w h)
  have iX4 : ∀ w ∈ u_ws RX4 TX4 11, w ∈ (Cond.code yX4_load cX4_load 6 (some .int) :: bigT) := fun w h => List.mem_cons_of_mem _ (uw_X4 w h)
  have key : ∀ n : Nat, (∀ (x1 : Int32) (x2 : Int32) (x3 : Int32) (x4 : Int32) (v : jx_V), f_X4_load_L  n  x1 x2 x3 x4 v = some (r, v') → jx_J p l e rm_X4_load s m args below meth c D vwCl 67 cI cJ ad shX A 0 0 6 (MQ below (va_Qi (fun (r1 : Int32) (_ : Unit) => r1 = r) (fun _ t => va_P D vwCl (jx_ws 67 cI cJ ad shX v') t.heap) A) args s 0 0 A) v 51 [(0, .ref (ad 0)), (1, .int x1), (2, .int x2), (3, .int x3), (4, .int x4)] []) := by
    intro n
    induction n with
    | zero =>
      exact (fun _ _ _ _ _ h => by cases h)
    | succ n ih =>
      intro x1 x2 x3 x4 v hF
      rw [f_X4_load_L] at hF
      refine jx_iload E dX4_load_51 4 rfl ?_
      refine jx_aload_n E dX4_load_53 0 rfl ?_
      refine jx_getr (C := RX4) (T := TX4) (M := 11) (k := 5) E dX4_load_54 (Nat.le_of_ble_eq_true rfl) s_X0 rfl iX4 (by decide) rfl (List.mem_cons_of_mem _ tw_293) rfl ?_
      refine jx_getrN (C := RX1) (T := TX1) (M := 3) (k := 2) E dX4_load_57 (Nat.le_of_ble_eq_true rfl) s_X55 rfl iX1 (by decide) rfl (ex_f18 (jx_ex E)) rfl ?_
      refine jx_iload_n E dX4_load_60 1 rfl ?_
      obtain ⟨hg10, hF⟩ := jx_guard hF
      refine jx_iald (h := 62) (j := (Int32.toNatClampNeg x1)) E dX4_load_61 (Nat.le_of_ble_eq_true rfl) s_X62 hg10 rfl ?_
      refine jx_icmp_ge (tgt := 140) E dX4_load_62 (by decide) (fun hc11 => ?_) (fun hc11 => ?_)
      · rw [if_pos hc11] at hF
        refine jx_iload_n E dX4_load_140 3 rfl ?_
        obtain ⟨rfl, rfl⟩ := jx_out hF
        exact jx_iret E dX4_load_141 rfl
      · rw [if_neg hc11] at hF
        refine jx_iload_n E dX4_load_65 2 rfl ?_
        refine jx_iload E dX4_load_66 4 rfl ?_
        refine jx_iadd E dX4_load_68 ?_
        refine jx_bipush (x := 25) E dX4_load_69 (by decide) ?_
        refine jx_icmp_ge (tgt := 140) E dX4_load_71 (by decide) (fun hc12 => ?_) (fun hc12 => ?_)
        · rw [if_pos hc12] at hF
          refine jx_iload_n E dX4_load_140 3 rfl ?_
          obtain ⟨rfl, rfl⟩ := jx_out hF
          exact jx_iret E dX4_load_141 rfl
        · rw [if_neg hc12] at hF
          refine jx_aload_n E dX4_load_74 0 rfl ?_
          refine jx_getr (C := RX4) (T := TX4) (M := 11) (k := 5) E dX4_load_75 (Nat.le_of_ble_eq_true rfl) s_X0 rfl iX4 (by decide) rfl (List.mem_cons_of_mem _ tw_293) rfl ?_
          refine jx_getrN (C := RX1) (T := TX1) (M := 3) (k := 0) E dX4_load_78 (Nat.le_of_ble_eq_true rfl) s_X55 rfl iX1 (by decide) rfl (ex_f16 (jx_ex E)) rfl ?_
          refine jx_iload_n E dX4_load_81 1 rfl ?_
          obtain ⟨hg13, hF⟩ := jx_guard hF
          refine jx_aald (h' := (57 + (x1).toNatClampNeg)) E dX4_load_82 (Nat.le_of_ble_eq_true rfl) s_X56 hg13 (l_Sr (l_lt hg13)) ?_
          refine jx_iload E dX4_load_83 4 rfl ?_
          obtain ⟨hg14, hF⟩ := jx_guard hF
          refine jx_iald (h := (57 + (x1).toNatClampNeg)) (j := (Int32.toNatClampNeg x4)) E dX4_load_85 (n_Sr (l_lt hg13)) (s_Sr (l_lt hg13)) hg14 rfl ?_
          refine jx_istore (lv' := [(5, .int (v (57 + (x1).toNatClampNeg) (Int32.toNatClampNeg x4))), (0, .ref (ad 0)), (1, .int x1), (2, .int x2), (3, .int x3), (4, .int x4)]) E dX4_load_86 (by decide) rfl ?_
          refine jx_iload E dX4_load_88 0 rfl ?_
          refine jx_bipush (x := 10) E dX4_load_90 (by decide) ?_
          obtain ⟨⟨r15, v15⟩, hc15, hF⟩ := jx_bind hF
          try dsimp only at hF
          refine jx_callSi (As := [.int (v (57 + (x1).toNatClampNeg) (Int32.toNatClampNeg x4)), .int 10]) (st := []) E dX4_load_92 2 rfl (k_X4_within hI (v (57 + (x1).toNatClampNeg) (Int32.toNatClampNeg x4)) 10 v r15 v15 hc15) (gb_S (List.mem_cons_of_mem _ tw_188) (List.mem_cons_of_mem _ tw_189) (List.mem_cons_of_mem _ tw_190) tw_187) rfl rfl rfl dd_X4_within rfl ⟨by decide, by decide⟩ ⟨Nat.le_refl 0, Nat.le_refl 0⟩ (Nat.le_of_ble_eq_true rfl) ?_
          refine jx_if_ne (tgt := 101) E dX4_load_95 (by decide) (fun hc16 => ?_) (fun hc16 => ?_)
          · rw [if_neg hc16] at hF
            refine jx_aload_n E dX4_load_101 1 rfl ?_
            refine jx_getr (C := RX4) (T := TX4) (M := 11) (k := 0) E dX4_load_102 (Nat.le_of_ble_eq_true rfl) s_X0 rfl iX4 (by decide) rfl (List.mem_cons_of_mem _ tw_195) rfl ?_
            refine jx_iload_n E dX4_load_105 3 rfl ?_
            refine jx_iload E dX4_load_106 5 rfl ?_
            refine jx_iadd E dX4_load_108 ?_
            obtain ⟨⟨r17, v17⟩, hc17, hF⟩ := jx_bind hF
            try dsimp only at hF
            refine jx_callNi (As := [.int (x2 + x4)]) (st := []) (h := 1) E dX4_load_109 1 rfl (k_X3_isTaken hI 1 jx_T1 (x2 + x4) v15 r17 v17 hc17) (gb_N tw_51) rfl rfl rfl (ex_m4 (jx_ex E)) (List.mem_cons_of_mem _ tw_33) (List.mem_cons_of_mem _ tw_52) (List.mem_cons_of_mem _ tw_53) dd_X3_isTaken.2 rfl (Nat.le_of_ble_eq_true rfl) s_X1 rfl ⟨by decide, by decide⟩ ⟨Nat.le_refl 0, Nat.le_refl 0⟩ (Nat.le_of_ble_eq_true rfl) ?_
            refine jx_if_eq (tgt := 134) E dX4_load_112 (by decide) (fun hc18 => ?_) (fun hc18 => ?_)
            · rw [if_pos hc18] at hF
              refine jx_iinc (y := (x4 + 1)) (lv' := [(4, .int (x4 + 1)), (5, .int (v (57 + (x1).toNatClampNeg) (Int32.toNatClampNeg x4))), (0, .ref (ad 0)), (1, .int x1), (2, .int x2), (3, .int x3)]) E dX4_load_134 5 rfl rfl (by decide) rfl ?_
              refine jx_goto (tgt := 51) E dX4_load_137 (by decide) ?_
              refine jx_sub [2, 3, 4, 5, 0] rfl ?_
              exact ih x1 x2 x3 (x4 + 1) v17 hF
            · rw [if_neg hc18] at hF
              refine jx_aload_n E dX4_load_115 1 rfl ?_
              refine jx_getr (C := RX4) (T := TX4) (M := 11) (k := 0) E dX4_load_116 (Nat.le_of_ble_eq_true rfl) s_X0 rfl iX4 (by decide) rfl (List.mem_cons_of_mem _ tw_195) rfl ?_
              refine jx_getrN (C := RX3) (T := TX3) (M := 8) (k := 0) E dX4_load_119 (Nat.le_of_ble_eq_true rfl) s_X1 rfl iX3 (by decide) rfl (ex_f0 (jx_ex E)) rfl ?_
              refine jx_iconst (x := 2) E dX4_load_122 (by decide) ?_
              refine jx_aald (h' := 6) E dX4_load_123 (Nat.le_of_ble_eq_true rfl) s_X2 (show ¬ ((2 : Int32) < 0 ∨ 4 ≤ Int32.toNatClampNeg 2) by decide) rfl ?_
              refine jx_iload_n E dX4_load_124 3 rfl ?_
              refine jx_iload E dX4_load_125 5 rfl ?_
              refine jx_iadd E dX4_load_127 ?_
              refine jx_iload E dX4_load_128 0 rfl ?_
              obtain ⟨hg19, hF⟩ := jx_guard hF
              refine jx_iast (h := 6) (j := (Int32.toNatClampNeg (x2 + x4))) E dX4_load_130 (Nat.le_of_ble_eq_true rfl) s_X6 hg19 rfl ?_
              refine jx_iinc (y := (x3 + 1)) (lv' := [(3, .int (x3 + 1)), (5, .int (v (57 + (x1).toNatClampNeg) (Int32.toNatClampNeg x4))), (0, .ref (ad 0)), (1, .int x1), (2, .int x2), (4, .int x4)]) E dX4_load_131 4 rfl rfl (by decide) rfl ?_
              refine jx_iinc (y := (x4 + 1)) (lv' := [(4, .int (x4 + 1)), (3, .int (x3 + 1)), (5, .int (v (57 + (x1).toNatClampNeg) (Int32.toNatClampNeg x4))), (0, .ref (ad 0)), (1, .int x1), (2, .int x2)]) E dX4_load_134 5 rfl rfl (by decide) rfl ?_
              refine jx_goto (tgt := 51) E dX4_load_137 (by decide) ?_
              refine jx_sub [3, 4, 5, 1, 0] rfl ?_
              exact ih x1 x2 (x3 + 1) (x4 + 1) (jx_up v17 6 (Int32.toNatClampNeg (x2 + x4)) (v (57 + (x1).toNatClampNeg) (Int32.toNatClampNeg x4))) hF
          · rw [if_pos hc16] at hF
            refine jx_goto (tgt := 140) E dX4_load_98 (by decide) ?_
            refine jx_iload_n E dX4_load_140 4 rfl ?_
            obtain ⟨rfl, rfl⟩ := jx_out hF
            exact jx_iret E dX4_load_141 rfl
  refine jx_iload_n E dX4_load_0 1 rfl ?_
  refine jx_iconst (x := 4) E dX4_load_1 (by decide) ?_
  obtain ⟨⟨r1, v1⟩, hc1, hF⟩ := jx_bind hF
  try dsimp only at hF
  refine jx_callSi (As := [.int x1, .int 4]) (st := []) E dX4_load_2 2 rfl (k_X4_within hI x1 4 v r1 v1 hc1) (gb_S (List.mem_cons_of_mem _ tw_188) (List.mem_cons_of_mem _ tw_189) (List.mem_cons_of_mem _ tw_190) tw_187) rfl rfl rfl dd_X4_within rfl ⟨by decide, by decide⟩ ⟨Nat.le_refl 0, Nat.le_refl 0⟩ (Nat.le_of_ble_eq_true rfl) ?_
  refine jx_if_ne (tgt := 14) E dX4_load_5 (by decide) (fun hc2 => ?_) (fun hc2 => ?_)
  · rw [if_neg hc2] at hF
    refine jx_aload_n E dX4_load_14 0 rfl ?_
    refine jx_getr (C := RX4) (T := TX4) (M := 11) (k := 5) E dX4_load_15 (Nat.le_of_ble_eq_true rfl) s_X0 rfl iX4 (by decide) rfl (List.mem_cons_of_mem _ tw_293) rfl ?_
    refine jx_iload_n E dX4_load_18 1 rfl ?_
    obtain ⟨⟨r3, v3⟩, hc3, hF⟩ := jx_bind hF
    try dsimp only at hF
    refine jx_callNi (As := [.int x1]) (st := []) (h := 55) E dX4_load_19 1 rfl (k_X1_isMissing hI x1 v1 r3 v3 hc3) (gb_N tw_298) rfl rfl rfl (ex_m40 (jx_ex E)) (List.mem_cons_of_mem _ tw_295) (List.mem_cons_of_mem _ tw_299) (List.mem_cons_of_mem _ tw_300) dd_X1_isMissing.2 rfl (Nat.le_of_ble_eq_true rfl) s_X55 rfl ⟨by decide, by decide⟩ ⟨Nat.le_refl 0, Nat.le_refl 0⟩ (Nat.le_of_ble_eq_true rfl) ?_
    refine jx_if_eq (tgt := 31) E dX4_load_22 (by decide) (fun hc4 => ?_) (fun hc4 => ?_)
    · rw [if_pos hc4] at hF
      refine jx_iload_n E dX4_load_31 2 rfl ?_
      refine jx_bipush (x := 25) E dX4_load_32 (by decide) ?_
      obtain ⟨⟨r5, v5⟩, hc5, hF⟩ := jx_bind hF
      try dsimp only at hF
      refine jx_callSi (As := [.int x2, .int 25]) (st := []) E dX4_load_34 2 rfl (k_X4_within hI x2 25 v3 r5 v5 hc5) (gb_S (List.mem_cons_of_mem _ tw_188) (List.mem_cons_of_mem _ tw_189) (List.mem_cons_of_mem _ tw_190) tw_187) rfl rfl rfl dd_X4_within rfl ⟨by decide, by decide⟩ ⟨Nat.le_refl 0, Nat.le_refl 0⟩ (Nat.le_of_ble_eq_true rfl) ?_
      refine jx_if_ne (tgt := 46) E dX4_load_37 (by decide) (fun hc6 => ?_) (fun hc6 => ?_)
      · rw [if_neg hc6] at hF
        refine jx_iconst (x := 0) E dX4_load_46 (by decide) ?_
        refine jx_istore_n (lv' := [(3, .int 0), (0, .ref (ad 0)), (1, .int x1), (2, .int x2)]) E dX4_load_47 (by decide) rfl ?_
        refine jx_iconst (x := 0) E dX4_load_48 (by decide) ?_
        refine jx_istore (lv' := [(4, .int 0), (3, .int 0), (0, .ref (ad 0)), (1, .int x1), (2, .int x2)]) E dX4_load_49 (by decide) rfl ?_
        refine jx_sub [2, 3, 4, 1, 0] rfl ?_
        exact (key 100000) x1 x2 0 0 v5 hF
      · rw [if_pos hc6] at hF
        refine jx_aload_n E dX4_load_40 0 rfl ?_
        refine jx_iconst (x := 0) E dX4_load_41 (by decide) ?_
        obtain ⟨⟨r7, v7⟩, hc7, hF⟩ := jx_bind hF
        try dsimp only at hF
        refine jx_callVi (As := [.int 0]) (st := []) (h := 0) E dX4_load_42 1 rfl (k_X4_finding hI 0 v5 r7 v7 hc7) (gb_V (List.mem_cons_of_mem _ tw_192) (List.mem_cons_of_mem _ tw_193) (List.mem_cons_of_mem _ tw_194) (List.mem_cons_of_mem _ tw_190) tw_191) rfl rfl rfl dd_X4_finding rfl (Nat.le_of_ble_eq_true rfl) s_X0 rfl ⟨by decide, by decide⟩ ⟨Nat.le_refl 0, Nat.le_refl 0⟩ (Nat.le_of_ble_eq_true rfl) ?_
        obtain ⟨rfl, rfl⟩ := jx_out hF
        exact jx_iret E dX4_load_45 rfl
    · rw [if_neg hc4] at hF
      refine jx_aload_n E dX4_load_25 0 rfl ?_
      refine jx_iconst (x := 5) E dX4_load_26 (by decide) ?_
      obtain ⟨⟨r8, v8⟩, hc8, hF⟩ := jx_bind hF
      try dsimp only at hF
      refine jx_callVi (As := [.int 5]) (st := []) (h := 0) E dX4_load_27 1 rfl (k_X4_finding hI 5 v3 r8 v8 hc8) (gb_V (List.mem_cons_of_mem _ tw_192) (List.mem_cons_of_mem _ tw_193) (List.mem_cons_of_mem _ tw_194) (List.mem_cons_of_mem _ tw_190) tw_191) rfl rfl rfl dd_X4_finding rfl (Nat.le_of_ble_eq_true rfl) s_X0 rfl ⟨by decide, by decide⟩ ⟨Nat.le_refl 0, Nat.le_refl 0⟩ (Nat.le_of_ble_eq_true rfl) ?_
      obtain ⟨rfl, rfl⟩ := jx_out hF
      exact jx_iret E dX4_load_30 rfl
  · rw [if_pos hc2] at hF
    refine jx_aload_n E dX4_load_8 0 rfl ?_
    refine jx_iconst (x := 0) E dX4_load_9 (by decide) ?_
    obtain ⟨⟨r9, v9⟩, hc9, hF⟩ := jx_bind hF
    try dsimp only at hF
    refine jx_callVi (As := [.int 0]) (st := []) (h := 0) E dX4_load_10 1 rfl (k_X4_finding hI 0 v1 r9 v9 hc9) (gb_V (List.mem_cons_of_mem _ tw_192) (List.mem_cons_of_mem _ tw_193) (List.mem_cons_of_mem _ tw_194) (List.mem_cons_of_mem _ tw_190) tw_191) rfl rfl rfl dd_X4_finding rfl (Nat.le_of_ble_eq_true rfl) s_X0 rfl ⟨by decide, by decide⟩ ⟨Nat.le_refl 0, Nat.le_refl 0⟩ (Nat.le_of_ble_eq_true rfl) ?_
    obtain ⟨rfl, rfl⟩ := jx_out hF
    exact jx_iret E dX4_load_13 rfl
def f_X4_judge_L  : Nat → Int32 → Int32 → Int32 → jx_V → Option (Int32 × jx_V)
  | 0, _, _, _, _ => none
  | n + 1, x1, x2, x3, v => (if (x1 < 0 ∨ 4 ≤ Int32.toNatClampNeg x1) then none else (if (v 62 (Int32.toNatClampNeg x1)) ≤ x3 then (if x3 = 4 then (if (x1 < 0 ∨ 4 ≤ Int32.toNatClampNeg x1) then none else (if (v 62 (Int32.toNatClampNeg x1)) = 4 then (some (0, v)) else (some ((1 + x3), v)))) else (some ((1 + x3), v))) else (if 4 ≤ x3 then (if x3 = 4 then (if (x1 < 0 ∨ 4 ≤ Int32.toNatClampNeg x1) then none else (if (v 62 (Int32.toNatClampNeg x1)) = 4 then (some (0, v)) else (some ((1 + x3), v)))) else (some ((1 + x3), v))) else (if (x1 < 0 ∨ 4 ≤ (x1).toNatClampNeg) then none else (if (x3 < 0 ∨ 40 ≤ Int32.toNatClampNeg x3) then none else ((f_X0_squareSet (x3 + 1) v).bind (fun (r22, v22) => (if (v (57 + (x1).toNatClampNeg) (Int32.toNatClampNeg x3)) = r22 then (f_X4_judge_L n x1 x2 (x3 + 1) v22) else (if x3 = 4 then (if (x1 < 0 ∨ 4 ≤ Int32.toNatClampNeg x1) then none else (if (v22 62 (Int32.toNatClampNeg x1)) = 4 then (some (0, v22)) else (some ((1 + x3), v22)))) else (some ((1 + x3), v22)))))))))))
def f_X4_judge (x1 : Int32) (x2 : Int32) (v : jx_V) : Option (Int32 × jx_V) := ((f_X4_within x1 4 v).bind (fun (r1, v1) => (if r1 = 0 then ((f_X4_finding 0 v1).bind (fun (r10, v10) => (some (r10, v10)))) else ((f_X1_isMissing x1 v1).bind (fun (r3, v3) => (if r3 = 0 then ((f_X4_isWindow x2 v3).bind (fun (r5, v5) => (if r5 = 0 then ((f_X4_finding 0 v5).bind (fun (r8, v8) => (some (r8, v8)))) else ((f_X0_look 1 x2 v5).bind (fun v7 => (f_X4_judge_L 100000 x1 x2 0 v7)))))) else ((f_X4_finding 5 v3).bind (fun (r9, v9) => (some (r9, v9))))))))))
def rm_X4_judge : Room := { frames := 3, cells := 0, slots := 0, locals := 73 }
set_option maxHeartbeats 4000000 in
set_option maxRecDepth 100000 in
theorem k_X4_judge {l : Launch} {D : va_G} {cI cJ : ClassId} {ad : Nat → Nat} {A : Nat → Prop} {adK adV : Nat → Nat} (hI : jx_inj 67 ad A) (x1 : Int32) (x2 : Int32) (v : jx_V) (r : Int32) (v' : jx_V) (hF : f_X4_judge x1 x2 v = some (r, v')) : jx_Ci l D vwCl 67 cI cJ ad shX A (ex_X adK adV A) yX4_judge (Cond.code yX4_judge cX4_judge 4 (some .int) :: bigT) rm_X4_judge [.ref (ad 0), .int x1, .int x2] v r v' := by
  unfold f_X4_judge at hF
  refine jx_enteri bigT RX4 cX4_judge 4 (some .int) [(0, .ref (ad 0)), (1, .int x1), (2, .int x2)] hI (ex_X_ok adK adV A) (by decide +kernel) rfl (Nat.le_of_ble_eq_true rfl) rfl rfl ?_
  intro p e s m args below meth c E
  have iX1 : ∀ w ∈ u_ws RX1 TX1 3, w ∈ (Cond.code yX4_judge cX4_judge 4 (some .int) :: bigT) := fun w h => List.mem_cons_of_mem _ (uw_X1 w h)
  have iX4 : ∀ w ∈ u_ws RX4 TX4 11, w ∈ (Cond.code yX4_judge cX4_judge 4 (some .int) :: bigT) := fun w h => List.mem_cons_of_mem _ (uw_X4 w h)
  have key : ∀ n : Nat, (∀ (x1 : Int32) (x2 : Int32) (x3 : Int32) (v : jx_V), f_X4_judge_L  n  x1 x2 x3 v = some (r, v') → jx_J p l e rm_X4_judge s m args below meth c D vwCl 67 cI cJ ad shX A 0 0 4 (MQ below (va_Qi (fun (r1 : Int32) (_ : Unit) => r1 = r) (fun _ t => va_P D vwCl (jx_ws 67 cI cJ ad shX v') t.heap) A) args s 0 0 A) v 59 [(0, .ref (ad 0)), (1, .int x1), (2, .int x2), (3, .int x3)] []) := by
    intro n
    induction n with
    | zero =>
      exact (fun _ _ _ _ h => by cases h)
    | succ n ih =>
      intro x1 x2 x3 v hF
      rw [f_X4_judge_L] at hF
      refine jx_iload_n E dX4_judge_59 3 rfl ?_
      refine jx_aload_n E dX4_judge_60 0 rfl ?_
      refine jx_getr (C := RX4) (T := TX4) (M := 11) (k := 5) E dX4_judge_61 (Nat.le_of_ble_eq_true rfl) s_X0 rfl iX4 (by decide) rfl (List.mem_cons_of_mem _ tw_293) rfl ?_
      refine jx_getrN (C := RX1) (T := TX1) (M := 3) (k := 2) E dX4_judge_64 (Nat.le_of_ble_eq_true rfl) s_X55 rfl iX1 (by decide) rfl (ex_f18 (jx_ex E)) rfl ?_
      refine jx_iload_n E dX4_judge_67 1 rfl ?_
      obtain ⟨hg11, hF⟩ := jx_guard hF
      refine jx_iald (h := 62) (j := (Int32.toNatClampNeg x1)) E dX4_judge_68 (Nat.le_of_ble_eq_true rfl) s_X62 hg11 rfl ?_
      refine jx_icmp_ge (tgt := 107) E dX4_judge_69 (by decide) (fun hc12 => ?_) (fun hc12 => ?_)
      · rw [if_pos hc12] at hF
        refine jx_iload_n E dX4_judge_107 3 rfl ?_
        refine jx_iconst (x := 4) E dX4_judge_108 (by decide) ?_
        refine jx_icmp_ne (tgt := 129) E dX4_judge_109 (by decide) (fun hc13 => ?_) (fun hc13 => ?_)
        · rw [if_neg hc13] at hF
          refine jx_iconst (x := 1) E dX4_judge_129 (by decide) ?_
          refine jx_iload_n E dX4_judge_130 3 rfl ?_
          refine jx_iadd E dX4_judge_131 ?_
          obtain ⟨rfl, rfl⟩ := jx_out hF
          exact jx_iret E dX4_judge_132 rfl
        · rw [if_pos hc13] at hF
          refine jx_aload_n E dX4_judge_112 0 rfl ?_
          refine jx_getr (C := RX4) (T := TX4) (M := 11) (k := 5) E dX4_judge_113 (Nat.le_of_ble_eq_true rfl) s_X0 rfl iX4 (by decide) rfl (List.mem_cons_of_mem _ tw_293) rfl ?_
          refine jx_getrN (C := RX1) (T := TX1) (M := 3) (k := 2) E dX4_judge_116 (Nat.le_of_ble_eq_true rfl) s_X55 rfl iX1 (by decide) rfl (ex_f18 (jx_ex E)) rfl ?_
          refine jx_iload_n E dX4_judge_119 1 rfl ?_
          obtain ⟨hg14, hF⟩ := jx_guard hF
          refine jx_iald (h := 62) (j := (Int32.toNatClampNeg x1)) E dX4_judge_120 (Nat.le_of_ble_eq_true rfl) s_X62 hg14 rfl ?_
          refine jx_iconst (x := 4) E dX4_judge_121 (by decide) ?_
          refine jx_icmp_ne (tgt := 129) E dX4_judge_122 (by decide) (fun hc15 => ?_) (fun hc15 => ?_)
          · rw [if_neg hc15] at hF
            refine jx_iconst (x := 1) E dX4_judge_129 (by decide) ?_
            refine jx_iload_n E dX4_judge_130 3 rfl ?_
            refine jx_iadd E dX4_judge_131 ?_
            obtain ⟨rfl, rfl⟩ := jx_out hF
            exact jx_iret E dX4_judge_132 rfl
          · rw [if_pos hc15] at hF
            refine jx_iconst (x := 0) E dX4_judge_125 (by decide) ?_
            refine jx_goto (tgt := 132) E dX4_judge_126 (by decide) ?_
            obtain ⟨rfl, rfl⟩ := jx_out hF
            exact jx_iret E dX4_judge_132 rfl
      · rw [if_neg hc12] at hF
        refine jx_iload_n E dX4_judge_72 3 rfl ?_
        refine jx_iconst (x := 4) E dX4_judge_73 (by decide) ?_
        refine jx_icmp_ge (tgt := 107) E dX4_judge_74 (by decide) (fun hc16 => ?_) (fun hc16 => ?_)
        · rw [if_pos hc16] at hF
          refine jx_iload_n E dX4_judge_107 3 rfl ?_
          refine jx_iconst (x := 4) E dX4_judge_108 (by decide) ?_
          refine jx_icmp_ne (tgt := 129) E dX4_judge_109 (by decide) (fun hc17 => ?_) (fun hc17 => ?_)
          · rw [if_neg hc17] at hF
            refine jx_iconst (x := 1) E dX4_judge_129 (by decide) ?_
            refine jx_iload_n E dX4_judge_130 3 rfl ?_
            refine jx_iadd E dX4_judge_131 ?_
            obtain ⟨rfl, rfl⟩ := jx_out hF
            exact jx_iret E dX4_judge_132 rfl
          · rw [if_pos hc17] at hF
            refine jx_aload_n E dX4_judge_112 0 rfl ?_
            refine jx_getr (C := RX4) (T := TX4) (M := 11) (k := 5) E dX4_judge_113 (Nat.le_of_ble_eq_true rfl) s_X0 rfl iX4 (by decide) rfl (List.mem_cons_of_mem _ tw_293) rfl ?_
            refine jx_getrN (C := RX1) (T := TX1) (M := 3) (k := 2) E dX4_judge_116 (Nat.le_of_ble_eq_true rfl) s_X55 rfl iX1 (by decide) rfl (ex_f18 (jx_ex E)) rfl ?_
            refine jx_iload_n E dX4_judge_119 1 rfl ?_
            obtain ⟨hg18, hF⟩ := jx_guard hF
            refine jx_iald (h := 62) (j := (Int32.toNatClampNeg x1)) E dX4_judge_120 (Nat.le_of_ble_eq_true rfl) s_X62 hg18 rfl ?_
            refine jx_iconst (x := 4) E dX4_judge_121 (by decide) ?_
            refine jx_icmp_ne (tgt := 129) E dX4_judge_122 (by decide) (fun hc19 => ?_) (fun hc19 => ?_)
            · rw [if_neg hc19] at hF
              refine jx_iconst (x := 1) E dX4_judge_129 (by decide) ?_
              refine jx_iload_n E dX4_judge_130 3 rfl ?_
              refine jx_iadd E dX4_judge_131 ?_
              obtain ⟨rfl, rfl⟩ := jx_out hF
              exact jx_iret E dX4_judge_132 rfl
            · rw [if_pos hc19] at hF
              refine jx_iconst (x := 0) E dX4_judge_125 (by decide) ?_
              refine jx_goto (tgt := 132) E dX4_judge_126 (by decide) ?_
              obtain ⟨rfl, rfl⟩ := jx_out hF
              exact jx_iret E dX4_judge_132 rfl
        · rw [if_neg hc16] at hF
          refine jx_aload_n E dX4_judge_77 0 rfl ?_
          refine jx_getr (C := RX4) (T := TX4) (M := 11) (k := 5) E dX4_judge_78 (Nat.le_of_ble_eq_true rfl) s_X0 rfl iX4 (by decide) rfl (List.mem_cons_of_mem _ tw_293) rfl ?_
          refine jx_getrN (C := RX1) (T := TX1) (M := 3) (k := 0) E dX4_judge_81 (Nat.le_of_ble_eq_true rfl) s_X55 rfl iX1 (by decide) rfl (ex_f16 (jx_ex E)) rfl ?_
          refine jx_iload_n E dX4_judge_84 1 rfl ?_
          obtain ⟨hg20, hF⟩ := jx_guard hF
          refine jx_aald (h' := (57 + (x1).toNatClampNeg)) E dX4_judge_85 (Nat.le_of_ble_eq_true rfl) s_X56 hg20 (l_Sr (l_lt hg20)) ?_
          refine jx_iload_n E dX4_judge_86 3 rfl ?_
          obtain ⟨hg21, hF⟩ := jx_guard hF
          refine jx_iald (h := (57 + (x1).toNatClampNeg)) (j := (Int32.toNatClampNeg x3)) E dX4_judge_87 (n_Sr (l_lt hg20)) (s_Sr (l_lt hg20)) hg21 rfl ?_
          refine jx_aload_n E dX4_judge_88 0 rfl ?_
          refine jx_getr (C := RX4) (T := TX4) (M := 11) (k := 3) E dX4_judge_89 (Nat.le_of_ble_eq_true rfl) s_X0 rfl iX4 (by decide) rfl (List.mem_cons_of_mem _ tw_209) rfl ?_
          refine jx_iload_n E dX4_judge_92 3 rfl ?_
          refine jx_iconst (x := 1) E dX4_judge_93 (by decide) ?_
          refine jx_iadd E dX4_judge_94 ?_
          obtain ⟨⟨r22, v22⟩, hc22, hF⟩ := jx_bind hF
          try dsimp only at hF
          refine jx_callNi (As := [.int (x3 + 1)]) (st := [.int (v (57 + (x1).toNatClampNeg) (Int32.toNatClampNeg x3))]) (h := 49) E dX4_judge_95 1 rfl (k_X0_squareSet hI (x3 + 1) v r22 v22 hc22) (gb_N tw_210) rfl rfl rfl (ex_m16 (jx_ex E)) (List.mem_cons_of_mem _ tw_49) (List.mem_cons_of_mem _ tw_211) (List.mem_cons_of_mem _ tw_212) dd_X0_squareSet.2 rfl (Nat.le_of_ble_eq_true rfl) s_X49 rfl ⟨by decide, by decide⟩ ⟨Nat.le_refl 0, Nat.le_refl 0⟩ (Nat.le_of_ble_eq_true rfl) ?_
          refine jx_icmp_ne (tgt := 107) E dX4_judge_98 (by decide) (fun hc23 => ?_) (fun hc23 => ?_)
          · rw [if_neg hc23] at hF
            refine jx_iload_n E dX4_judge_107 3 rfl ?_
            refine jx_iconst (x := 4) E dX4_judge_108 (by decide) ?_
            refine jx_icmp_ne (tgt := 129) E dX4_judge_109 (by decide) (fun hc24 => ?_) (fun hc24 => ?_)
            · rw [if_neg hc24] at hF
              refine jx_iconst (x := 1) E dX4_judge_129 (by decide) ?_
              refine jx_iload_n E dX4_judge_130 3 rfl ?_
              refine jx_iadd E dX4_judge_131 ?_
              obtain ⟨rfl, rfl⟩ := jx_out hF
              exact jx_iret E dX4_judge_132 rfl
            · rw [if_pos hc24] at hF
              refine jx_aload_n E dX4_judge_112 0 rfl ?_
              refine jx_getr (C := RX4) (T := TX4) (M := 11) (k := 5) E dX4_judge_113 (Nat.le_of_ble_eq_true rfl) s_X0 rfl iX4 (by decide) rfl (List.mem_cons_of_mem _ tw_293) rfl ?_
              refine jx_getrN (C := RX1) (T := TX1) (M := 3) (k := 2) E dX4_judge_116 (Nat.le_of_ble_eq_true rfl) s_X55 rfl iX1 (by decide) rfl (ex_f18 (jx_ex E)) rfl ?_
              refine jx_iload_n E dX4_judge_119 1 rfl ?_
              obtain ⟨hg25, hF⟩ := jx_guard hF
              refine jx_iald (h := 62) (j := (Int32.toNatClampNeg x1)) E dX4_judge_120 (Nat.le_of_ble_eq_true rfl) s_X62 hg25 rfl ?_
              refine jx_iconst (x := 4) E dX4_judge_121 (by decide) ?_
              refine jx_icmp_ne (tgt := 129) E dX4_judge_122 (by decide) (fun hc26 => ?_) (fun hc26 => ?_)
              · rw [if_neg hc26] at hF
                refine jx_iconst (x := 1) E dX4_judge_129 (by decide) ?_
                refine jx_iload_n E dX4_judge_130 3 rfl ?_
                refine jx_iadd E dX4_judge_131 ?_
                obtain ⟨rfl, rfl⟩ := jx_out hF
                exact jx_iret E dX4_judge_132 rfl
              · rw [if_pos hc26] at hF
                refine jx_iconst (x := 0) E dX4_judge_125 (by decide) ?_
                refine jx_goto (tgt := 132) E dX4_judge_126 (by decide) ?_
                obtain ⟨rfl, rfl⟩ := jx_out hF
                exact jx_iret E dX4_judge_132 rfl
          · rw [if_pos hc23] at hF
            refine jx_iinc (y := (x3 + 1)) (lv' := [(3, .int (x3 + 1)), (0, .ref (ad 0)), (1, .int x1), (2, .int x2)]) E dX4_judge_101 3 rfl rfl (by decide) rfl ?_
            refine jx_goto (tgt := 59) E dX4_judge_104 (by decide) ?_
            refine jx_sub [1, 2, 3, 0] rfl ?_
            exact ih x1 x2 (x3 + 1) v22 hF
  refine jx_iload_n E dX4_judge_0 1 rfl ?_
  refine jx_iconst (x := 4) E dX4_judge_1 (by decide) ?_
  obtain ⟨⟨r1, v1⟩, hc1, hF⟩ := jx_bind hF
  try dsimp only at hF
  refine jx_callSi (As := [.int x1, .int 4]) (st := []) E dX4_judge_2 2 rfl (k_X4_within hI x1 4 v r1 v1 hc1) (gb_S (List.mem_cons_of_mem _ tw_188) (List.mem_cons_of_mem _ tw_189) (List.mem_cons_of_mem _ tw_190) tw_187) rfl rfl rfl dd_X4_within rfl ⟨by decide, by decide⟩ ⟨Nat.le_refl 0, Nat.le_refl 0⟩ (Nat.le_of_ble_eq_true rfl) ?_
  refine jx_if_ne (tgt := 14) E dX4_judge_5 (by decide) (fun hc2 => ?_) (fun hc2 => ?_)
  · rw [if_neg hc2] at hF
    refine jx_aload_n E dX4_judge_14 0 rfl ?_
    refine jx_getr (C := RX4) (T := TX4) (M := 11) (k := 5) E dX4_judge_15 (Nat.le_of_ble_eq_true rfl) s_X0 rfl iX4 (by decide) rfl (List.mem_cons_of_mem _ tw_293) rfl ?_
    refine jx_iload_n E dX4_judge_18 1 rfl ?_
    obtain ⟨⟨r3, v3⟩, hc3, hF⟩ := jx_bind hF
    try dsimp only at hF
    refine jx_callNi (As := [.int x1]) (st := []) (h := 55) E dX4_judge_19 1 rfl (k_X1_isMissing hI x1 v1 r3 v3 hc3) (gb_N tw_298) rfl rfl rfl (ex_m40 (jx_ex E)) (List.mem_cons_of_mem _ tw_295) (List.mem_cons_of_mem _ tw_299) (List.mem_cons_of_mem _ tw_300) dd_X1_isMissing.2 rfl (Nat.le_of_ble_eq_true rfl) s_X55 rfl ⟨by decide, by decide⟩ ⟨Nat.le_refl 0, Nat.le_refl 0⟩ (Nat.le_of_ble_eq_true rfl) ?_
    refine jx_if_eq (tgt := 31) E dX4_judge_22 (by decide) (fun hc4 => ?_) (fun hc4 => ?_)
    · rw [if_pos hc4] at hF
      refine jx_aload_n E dX4_judge_31 0 rfl ?_
      refine jx_iload_n E dX4_judge_32 2 rfl ?_
      obtain ⟨⟨r5, v5⟩, hc5, hF⟩ := jx_bind hF
      try dsimp only at hF
      refine jx_callVi (As := [.int x2]) (st := []) (h := 0) E dX4_judge_33 1 rfl (k_X4_isWindow hI x2 v3 r5 v5 hc5) (gb_V (List.mem_cons_of_mem _ tw_203) (List.mem_cons_of_mem _ tw_204) (List.mem_cons_of_mem _ tw_205) (List.mem_cons_of_mem _ tw_190) tw_202) rfl rfl rfl dd_X4_isWindow rfl (Nat.le_of_ble_eq_true rfl) s_X0 rfl ⟨by decide, by decide⟩ ⟨Nat.le_refl 0, Nat.le_refl 0⟩ (Nat.le_of_ble_eq_true rfl) ?_
      refine jx_if_ne (tgt := 45) E dX4_judge_36 (by decide) (fun hc6 => ?_) (fun hc6 => ?_)
      · rw [if_neg hc6] at hF
        refine jx_aload_n E dX4_judge_45 0 rfl ?_
        refine jx_getr (C := RX4) (T := TX4) (M := 11) (k := 3) E dX4_judge_46 (Nat.le_of_ble_eq_true rfl) s_X0 rfl iX4 (by decide) rfl (List.mem_cons_of_mem _ tw_209) rfl ?_
        refine jx_aload_n E dX4_judge_49 0 rfl ?_
        refine jx_getr (C := RX4) (T := TX4) (M := 11) (k := 0) E dX4_judge_50 (Nat.le_of_ble_eq_true rfl) s_X0 rfl iX4 (by decide) rfl (List.mem_cons_of_mem _ tw_195) rfl ?_
        refine jx_iload_n E dX4_judge_53 2 rfl ?_
        obtain ⟨v7, hc7, hF⟩ := jx_bind hF
        try dsimp only at hF
        refine jx_callNv (As := [.ref (ad 1), .int x2]) (st := []) (h := 49) E dX4_judge_54 2 rfl (k_X0_look hI 1 jx_T1 x2 v5 v7 hc7) (gb_N tw_65) rfl rfl rfl (ex_m15 (jx_ex E)) (List.mem_cons_of_mem _ tw_49) (List.mem_cons_of_mem _ tw_67) (List.mem_cons_of_mem _ tw_68) dd_X0_look.2 rfl (Nat.le_of_ble_eq_true rfl) s_X49 rfl ⟨by decide, by decide⟩ ⟨Nat.le_refl 0, Nat.le_refl 0⟩ (Nat.le_of_ble_eq_true rfl) ?_
        refine jx_iconst (x := 0) E dX4_judge_57 (by decide) ?_
        refine jx_istore_n (lv' := [(3, .int 0), (0, .ref (ad 0)), (1, .int x1), (2, .int x2)]) E dX4_judge_58 (by decide) rfl ?_
        refine jx_sub [1, 2, 3, 0] rfl ?_
        exact (key 100000) x1 x2 0 v7 hF
      · rw [if_pos hc6] at hF
        refine jx_aload_n E dX4_judge_39 0 rfl ?_
        refine jx_iconst (x := 0) E dX4_judge_40 (by decide) ?_
        obtain ⟨⟨r8, v8⟩, hc8, hF⟩ := jx_bind hF
        try dsimp only at hF
        refine jx_callVi (As := [.int 0]) (st := []) (h := 0) E dX4_judge_41 1 rfl (k_X4_finding hI 0 v5 r8 v8 hc8) (gb_V (List.mem_cons_of_mem _ tw_192) (List.mem_cons_of_mem _ tw_193) (List.mem_cons_of_mem _ tw_194) (List.mem_cons_of_mem _ tw_190) tw_191) rfl rfl rfl dd_X4_finding rfl (Nat.le_of_ble_eq_true rfl) s_X0 rfl ⟨by decide, by decide⟩ ⟨Nat.le_refl 0, Nat.le_refl 0⟩ (Nat.le_of_ble_eq_true rfl) ?_
        obtain ⟨rfl, rfl⟩ := jx_out hF
        exact jx_iret E dX4_judge_44 rfl
    · rw [if_neg hc4] at hF
      refine jx_aload_n E dX4_judge_25 0 rfl ?_
      refine jx_iconst (x := 5) E dX4_judge_26 (by decide) ?_
      obtain ⟨⟨r9, v9⟩, hc9, hF⟩ := jx_bind hF
      try dsimp only at hF
      refine jx_callVi (As := [.int 5]) (st := []) (h := 0) E dX4_judge_27 1 rfl (k_X4_finding hI 5 v3 r9 v9 hc9) (gb_V (List.mem_cons_of_mem _ tw_192) (List.mem_cons_of_mem _ tw_193) (List.mem_cons_of_mem _ tw_194) (List.mem_cons_of_mem _ tw_190) tw_191) rfl rfl rfl dd_X4_finding rfl (Nat.le_of_ble_eq_true rfl) s_X0 rfl ⟨by decide, by decide⟩ ⟨Nat.le_refl 0, Nat.le_refl 0⟩ (Nat.le_of_ble_eq_true rfl) ?_
      obtain ⟨rfl, rfl⟩ := jx_out hF
      exact jx_iret E dX4_judge_30 rfl
  · rw [if_pos hc2] at hF
    refine jx_aload_n E dX4_judge_8 0 rfl ?_
    refine jx_iconst (x := 0) E dX4_judge_9 (by decide) ?_
    obtain ⟨⟨r10, v10⟩, hc10, hF⟩ := jx_bind hF
    try dsimp only at hF
    refine jx_callVi (As := [.int 0]) (st := []) (h := 0) E dX4_judge_10 1 rfl (k_X4_finding hI 0 v1 r10 v10 hc10) (gb_V (List.mem_cons_of_mem _ tw_192) (List.mem_cons_of_mem _ tw_193) (List.mem_cons_of_mem _ tw_194) (List.mem_cons_of_mem _ tw_190) tw_191) rfl rfl rfl dd_X4_finding rfl (Nat.le_of_ble_eq_true rfl) s_X0 rfl ⟨by decide, by decide⟩ ⟨Nat.le_refl 0, Nat.le_refl 0⟩ (Nat.le_of_ble_eq_true rfl) ?_
    obtain ⟨rfl, rfl⟩ := jx_out hF
    exact jx_iret E dX4_judge_13 rfl
def f_X4_image  (v : jx_V) : Option (Int32 × jx_V) := ((f_X3_become 17 1 v).bind (fun v1 => (some (1, (jx_up v1 0 10 1)))))
def rm_X4_image : Room := { frames := 2, cells := 0, slots := 0, locals := 82 }
set_option maxHeartbeats 4000000 in
set_option maxRecDepth 100000 in
theorem k_X4_image {l : Launch} {D : va_G} {cI cJ : ClassId} {ad : Nat → Nat} {A : Nat → Prop} {adK adV : Nat → Nat} (hI : jx_inj 67 ad A)  (v : jx_V) (r : Int32) (v' : jx_V) (hF : f_X4_image  v = some (r, v')) : jx_Ci l D vwCl 67 cI cJ ad shX A (ex_X adK adV A) yX4_image (Cond.code yX4_image cX4_image 1 (some .int) :: bigT) rm_X4_image [.ref (ad 0)] v r v' := by
  unfold f_X4_image at hF
  refine jx_enteri bigT RX4 cX4_image 1 (some .int) [(0, .ref (ad 0))] hI (ex_X_ok adK adV A) (by decide +kernel) rfl (Nat.le_of_ble_eq_true rfl) rfl rfl ?_
  intro p e s m args below meth c E
  have iX4 : ∀ w ∈ u_ws RX4 TX4 11, w ∈ (Cond.code yX4_image cX4_image 1 (some .int) :: bigT) := fun w h => List.mem_cons_of_mem _ (uw_X4 w h)
  refine jx_aload_n E dX4_image_0 0 rfl ?_
  refine jx_getr (C := RX4) (T := TX4) (M := 11) (k := 1) E dX4_image_1 (Nat.le_of_ble_eq_true rfl) s_X0 rfl iX4 (by decide) rfl (List.mem_cons_of_mem _ tw_308) rfl ?_
  refine jx_aload_n E dX4_image_4 0 rfl ?_
  refine jx_getr (C := RX4) (T := TX4) (M := 11) (k := 0) E dX4_image_5 (Nat.le_of_ble_eq_true rfl) s_X0 rfl iX4 (by decide) rfl (List.mem_cons_of_mem _ tw_195) rfl ?_
  obtain ⟨v1, hc1, hF⟩ := jx_bind hF
  try dsimp only at hF
  refine jx_callNv (As := [.ref (ad 1)]) (st := []) (h := 17) E dX4_image_8 1 rfl (k_X3_become hI 17 jx_T17 1 jx_T1 v v1 hc1) (gb_N tw_235) rfl rfl rfl (ex_m26 (jx_ex E)) (List.mem_cons_of_mem _ tw_33) (List.mem_cons_of_mem _ tw_236) (List.mem_cons_of_mem _ tw_237) dd_X3_become.2 rfl (Nat.le_of_ble_eq_true rfl) s_X17 rfl ⟨by decide, by decide⟩ ⟨Nat.le_refl 0, Nat.le_refl 0⟩ (Nat.le_of_ble_eq_true rfl) ?_
  refine jx_aload_n E dX4_image_11 0 rfl ?_
  refine jx_iconst (x := 1) E dX4_image_12 (by decide) ?_
  refine jx_puti (C := RX4) (T := TX4) (M := 11) (k := 10) (ty := .boolean) E tyX4 dX4_image_13 (Nat.le_of_ble_eq_true rfl) s_X0 rfl iX4 (by decide) rfl (List.mem_cons_of_mem _ tw_309) tyX4_ok nmX4 rfl (by decide +kernel) rfl rfl rfl ?_
  refine jx_iconst (x := 1) E dX4_image_16 (by decide) ?_
  obtain ⟨rfl, rfl⟩ := jx_out hF
  exact jx_iret E dX4_image_17 rfl
def f_X4_undo  (v : jx_V) : Option (Int32 × jx_V) := (if (v 0 10) = 0 then ((f_X4_finding 3 v).bind (fun (r3, v3) => (some (r3, v3)))) else ((f_X3_become 1 17 v).bind (fun v2 => (some ((v2 1 6), v2)))))
def rm_X4_undo : Room := { frames := 2, cells := 0, slots := 0, locals := 82 }
set_option maxHeartbeats 4000000 in
set_option maxRecDepth 100000 in
theorem k_X4_undo {l : Launch} {D : va_G} {cI cJ : ClassId} {ad : Nat → Nat} {A : Nat → Prop} {adK adV : Nat → Nat} (hI : jx_inj 67 ad A)  (v : jx_V) (r : Int32) (v' : jx_V) (hF : f_X4_undo  v = some (r, v')) : jx_Ci l D vwCl 67 cI cJ ad shX A (ex_X adK adV A) yX4_undo (Cond.code yX4_undo cX4_undo 1 (some .int) :: bigT) rm_X4_undo [.ref (ad 0)] v r v' := by
  unfold f_X4_undo at hF
  refine jx_enteri bigT RX4 cX4_undo 1 (some .int) [(0, .ref (ad 0))] hI (ex_X_ok adK adV A) (by decide +kernel) rfl (Nat.le_of_ble_eq_true rfl) rfl rfl ?_
  intro p e s m args below meth c E
  have iX3 : ∀ w ∈ u_ws RX3 TX3 8, w ∈ (Cond.code yX4_undo cX4_undo 1 (some .int) :: bigT) := fun w h => List.mem_cons_of_mem _ (uw_X3 w h)
  have iX4 : ∀ w ∈ u_ws RX4 TX4 11, w ∈ (Cond.code yX4_undo cX4_undo 1 (some .int) :: bigT) := fun w h => List.mem_cons_of_mem _ (uw_X4 w h)
  refine jx_aload_n E dX4_undo_0 0 rfl ?_
  refine jx_geti (C := RX4) (T := TX4) (M := 11) (k := 10) E dX4_undo_1 (Nat.le_of_ble_eq_true rfl) s_X0 rfl iX4 (by decide) rfl (List.mem_cons_of_mem _ tw_309) rfl ?_
  refine jx_if_ne (tgt := 13) E dX4_undo_4 (by decide) (fun hc1 => ?_) (fun hc1 => ?_)
  · rw [if_neg hc1] at hF
    refine jx_aload_n E dX4_undo_13 0 rfl ?_
    refine jx_getr (C := RX4) (T := TX4) (M := 11) (k := 0) E dX4_undo_14 (Nat.le_of_ble_eq_true rfl) s_X0 rfl iX4 (by decide) rfl (List.mem_cons_of_mem _ tw_195) rfl ?_
    refine jx_aload_n E dX4_undo_17 0 rfl ?_
    refine jx_getr (C := RX4) (T := TX4) (M := 11) (k := 1) E dX4_undo_18 (Nat.le_of_ble_eq_true rfl) s_X0 rfl iX4 (by decide) rfl (List.mem_cons_of_mem _ tw_308) rfl ?_
    obtain ⟨v2, hc2, hF⟩ := jx_bind hF
    try dsimp only at hF
    refine jx_callNv (As := [.ref (ad 17)]) (st := []) (h := 1) E dX4_undo_21 1 rfl (k_X3_become hI 1 jx_T1 17 jx_T17 v v2 hc2) (gb_N tw_235) rfl rfl rfl (ex_m26 (jx_ex E)) (List.mem_cons_of_mem _ tw_33) (List.mem_cons_of_mem _ tw_236) (List.mem_cons_of_mem _ tw_237) dd_X3_become.2 rfl (Nat.le_of_ble_eq_true rfl) s_X1 rfl ⟨by decide, by decide⟩ ⟨Nat.le_refl 0, Nat.le_refl 0⟩ (Nat.le_of_ble_eq_true rfl) ?_
    refine jx_aload_n E dX4_undo_24 0 rfl ?_
    refine jx_getr (C := RX4) (T := TX4) (M := 11) (k := 0) E dX4_undo_25 (Nat.le_of_ble_eq_true rfl) s_X0 rfl iX4 (by decide) rfl (List.mem_cons_of_mem _ tw_195) rfl ?_
    refine jx_getiN (C := RX3) (T := TX3) (M := 8) (k := 6) E dX4_undo_28 (Nat.le_of_ble_eq_true rfl) s_X1 rfl iX3 (by decide) rfl (ex_f12 (jx_ex E)) rfl ?_
    obtain ⟨rfl, rfl⟩ := jx_out hF
    exact jx_iret E dX4_undo_31 rfl
  · rw [if_pos hc1] at hF
    refine jx_aload_n E dX4_undo_7 0 rfl ?_
    refine jx_iconst (x := 3) E dX4_undo_8 (by decide) ?_
    obtain ⟨⟨r3, v3⟩, hc3, hF⟩ := jx_bind hF
    try dsimp only at hF
    refine jx_callVi (As := [.int 3]) (st := []) (h := 0) E dX4_undo_9 1 rfl (k_X4_finding hI 3 v r3 v3 hc3) (gb_V (List.mem_cons_of_mem _ tw_192) (List.mem_cons_of_mem _ tw_193) (List.mem_cons_of_mem _ tw_194) (List.mem_cons_of_mem _ tw_190) tw_191) rfl rfl rfl dd_X4_finding rfl (Nat.le_of_ble_eq_true rfl) s_X0 rfl ⟨by decide, by decide⟩ ⟨Nat.le_refl 0, Nat.le_refl 0⟩ (Nat.le_of_ble_eq_true rfl) ?_
    obtain ⟨rfl, rfl⟩ := jx_out hF
    exact jx_iret E dX4_undo_12 rfl
def f_X4_tear  (v : jx_V) : Option (Int32 × jx_V) := (if (v 0 10) = 0 then (some (0, (jx_up v 0 10 0))) else (some (1, (jx_up v 0 10 0))))
def rm_X4_tear : Room := { frames := 0, cells := 0, slots := 0, locals := 0 }
set_option maxHeartbeats 4000000 in
set_option maxRecDepth 100000 in
theorem k_X4_tear {l : Launch} {D : va_G} {cI cJ : ClassId} {ad : Nat → Nat} {A : Nat → Prop} {adK adV : Nat → Nat} (hI : jx_inj 67 ad A)  (v : jx_V) (r : Int32) (v' : jx_V) (hF : f_X4_tear  v = some (r, v')) : jx_Ci l D vwCl 67 cI cJ ad shX A (ex_X adK adV A) yX4_tear (Cond.code yX4_tear cX4_tear 2 (some .int) :: bigT) rm_X4_tear [.ref (ad 0)] v r v' := by
  unfold f_X4_tear at hF
  refine jx_enteri bigT RX4 cX4_tear 2 (some .int) [(0, .ref (ad 0))] hI (ex_X_ok adK adV A) (by decide +kernel) rfl (Nat.le_of_ble_eq_true rfl) rfl rfl ?_
  intro p e s m args below meth c E
  have iX4 : ∀ w ∈ u_ws RX4 TX4 11, w ∈ (Cond.code yX4_tear cX4_tear 2 (some .int) :: bigT) := fun w h => List.mem_cons_of_mem _ (uw_X4 w h)
  refine jx_aload_n E dX4_tear_0 0 rfl ?_
  refine jx_geti (C := RX4) (T := TX4) (M := 11) (k := 10) E dX4_tear_1 (Nat.le_of_ble_eq_true rfl) s_X0 rfl iX4 (by decide) rfl (List.mem_cons_of_mem _ tw_309) rfl ?_
  refine jx_if_eq (tgt := 11) E dX4_tear_4 (by decide) (fun hc1 => ?_) (fun hc1 => ?_)
  · rw [if_pos hc1] at hF
    refine jx_iconst (x := 0) E dX4_tear_11 (by decide) ?_
    refine jx_istore_n (lv' := [(1, .int 0), (0, .ref (ad 0))]) E dX4_tear_12 (by decide) rfl ?_
    refine jx_aload_n E dX4_tear_13 1 rfl ?_
    refine jx_iconst (x := 0) E dX4_tear_14 (by decide) ?_
    refine jx_puti (C := RX4) (T := TX4) (M := 11) (k := 10) (ty := .boolean) E tyX4 dX4_tear_15 (Nat.le_of_ble_eq_true rfl) s_X0 rfl iX4 (by decide) rfl (List.mem_cons_of_mem _ tw_309) tyX4_ok nmX4 rfl (by decide +kernel) rfl rfl rfl ?_
    refine jx_iload_n E dX4_tear_18 0 rfl ?_
    obtain ⟨rfl, rfl⟩ := jx_out hF
    exact jx_iret E dX4_tear_19 rfl
  · rw [if_neg hc1] at hF
    refine jx_iconst (x := 1) E dX4_tear_7 (by decide) ?_
    refine jx_goto (tgt := 12) E dX4_tear_8 (by decide) ?_
    refine jx_istore_n (lv' := [(1, .int 1), (0, .ref (ad 0))]) E dX4_tear_12 (by decide) rfl ?_
    refine jx_aload_n E dX4_tear_13 1 rfl ?_
    refine jx_iconst (x := 0) E dX4_tear_14 (by decide) ?_
    refine jx_puti (C := RX4) (T := TX4) (M := 11) (k := 10) (ty := .boolean) E tyX4 dX4_tear_15 (Nat.le_of_ble_eq_true rfl) s_X0 rfl iX4 (by decide) rfl (List.mem_cons_of_mem _ tw_309) tyX4_ok nmX4 rfl (by decide +kernel) rfl rfl rfl ?_
    refine jx_iload_n E dX4_tear_18 0 rfl ?_
    obtain ⟨rfl, rfl⟩ := jx_out hF
    exact jx_iret E dX4_tear_19 rfl
def f_X4_count (x1 : Int32) (v : jx_V) : Option (Int32 × jx_V) := (if x1 = 0 then (some ((v 1 6), v)) else (if x1 = 1 then ((f_X3_thingCount 1 v).bind (fun (r3, v3) => (some (r3, v3)))) else (if x1 = 2 then (some ((v 1 5), v)) else (if x1 = 3 then ((f_X3_heightOfAll 1 v).bind (fun (r6, v6) => (some (r6, v6)))) else (if x1 = 4 then ((f_X3_contractCount 1 v).bind (fun (r8, v8) => (some (r8, v8)))) else (if x1 = 5 then (some ((v 53 1), v)) else (if x1 = 6 then (some ((v 1 7), v)) else (if x1 = 7 then ((f_X3_spotsInUse 1 v).bind (fun (r12, v12) => (some (r12, v12)))) else ((f_X4_finding 0 v).bind (fun (r13, v13) => (some (r13, v13))))))))))))
def rm_X4_count : Room := { frames := 2, cells := 0, slots := 0, locals := 43 }
set_option maxHeartbeats 4000000 in
set_option maxRecDepth 100000 in
theorem k_X4_count {l : Launch} {D : va_G} {cI cJ : ClassId} {ad : Nat → Nat} {A : Nat → Prop} {adK adV : Nat → Nat} (hI : jx_inj 67 ad A) (x1 : Int32) (v : jx_V) (r : Int32) (v' : jx_V) (hF : f_X4_count x1 v = some (r, v')) : jx_Ci l D vwCl 67 cI cJ ad shX A (ex_X adK adV A) yX4_count (Cond.code yX4_count cX4_count 2 (some .int) :: bigT) rm_X4_count [.ref (ad 0), .int x1] v r v' := by
  unfold f_X4_count at hF
  refine jx_enteri bigT RX4 cX4_count 2 (some .int) [(0, .ref (ad 0)), (1, .int x1)] hI (ex_X_ok adK adV A) (by decide +kernel) rfl (Nat.le_of_ble_eq_true rfl) rfl rfl ?_
  intro p e s m args below meth c E
  have iX2 : ∀ w ∈ u_ws RX2 TX2 7, w ∈ (Cond.code yX4_count cX4_count 2 (some .int) :: bigT) := fun w h => List.mem_cons_of_mem _ (uw_X2 w h)
  have iX3 : ∀ w ∈ u_ws RX3 TX3 8, w ∈ (Cond.code yX4_count cX4_count 2 (some .int) :: bigT) := fun w h => List.mem_cons_of_mem _ (uw_X3 w h)
  have iX4 : ∀ w ∈ u_ws RX4 TX4 11, w ∈ (Cond.code yX4_count cX4_count 2 (some .int) :: bigT) := fun w h => List.mem_cons_of_mem _ (uw_X4 w h)
  refine jx_iload_n E dX4_count_0 1 rfl ?_
  by_cases hc1 : x1 = 0
  · rw [if_pos hc1] at hF
    refine jx_tableIn (tgt := 48) (z := 0) E dX4_count_1 hc1 (by decide) (by decide) rfl (by decide) ?_
    refine jx_aload_n E dX4_count_48 0 rfl ?_
    refine jx_getr (C := RX4) (T := TX4) (M := 11) (k := 0) E dX4_count_49 (Nat.le_of_ble_eq_true rfl) s_X0 rfl iX4 (by decide) rfl (List.mem_cons_of_mem _ tw_195) rfl ?_
    refine jx_getiN (C := RX3) (T := TX3) (M := 8) (k := 6) E dX4_count_52 (Nat.le_of_ble_eq_true rfl) s_X1 rfl iX3 (by decide) rfl (ex_f12 (jx_ex E)) rfl ?_
    obtain ⟨rfl, rfl⟩ := jx_out hF
    exact jx_iret E dX4_count_55 rfl
  rw [if_neg hc1] at hF
  by_cases hc2 : x1 = 1
  · rw [if_pos hc2] at hF
    refine jx_tableIn (tgt := 56) (z := 1) E dX4_count_1 hc2 (by decide) (by decide) rfl (by decide) ?_
    refine jx_aload_n E dX4_count_56 0 rfl ?_
    refine jx_getr (C := RX4) (T := TX4) (M := 11) (k := 0) E dX4_count_57 (Nat.le_of_ble_eq_true rfl) s_X0 rfl iX4 (by decide) rfl (List.mem_cons_of_mem _ tw_195) rfl ?_
    obtain ⟨⟨r3, v3⟩, hc3, hF⟩ := jx_bind hF
    try dsimp only at hF
    refine jx_callNi (As := []) (st := []) (h := 1) E dX4_count_60 0 rfl (k_X3_thingCount hI 1 jx_T1 v r3 v3 hc3) (gb_N tw_196) rfl rfl rfl (ex_m6 (jx_ex E)) (List.mem_cons_of_mem _ tw_33) (List.mem_cons_of_mem _ tw_197) (List.mem_cons_of_mem _ tw_198) dd_X3_thingCount.2 rfl (Nat.le_of_ble_eq_true rfl) s_X1 rfl ⟨by decide, by decide⟩ ⟨Nat.le_refl 0, Nat.le_refl 0⟩ (Nat.le_of_ble_eq_true rfl) ?_
    obtain ⟨rfl, rfl⟩ := jx_out hF
    exact jx_iret E dX4_count_63 rfl
  rw [if_neg hc2] at hF
  by_cases hc4 : x1 = 2
  · rw [if_pos hc4] at hF
    refine jx_tableIn (tgt := 64) (z := 2) E dX4_count_1 hc4 (by decide) (by decide) rfl (by decide) ?_
    refine jx_aload_n E dX4_count_64 0 rfl ?_
    refine jx_getr (C := RX4) (T := TX4) (M := 11) (k := 0) E dX4_count_65 (Nat.le_of_ble_eq_true rfl) s_X0 rfl iX4 (by decide) rfl (List.mem_cons_of_mem _ tw_195) rfl ?_
    refine jx_getiN (C := RX3) (T := TX3) (M := 8) (k := 5) E dX4_count_68 (Nat.le_of_ble_eq_true rfl) s_X1 rfl iX3 (by decide) rfl (ex_f10 (jx_ex E)) rfl ?_
    obtain ⟨rfl, rfl⟩ := jx_out hF
    exact jx_iret E dX4_count_71 rfl
  rw [if_neg hc4] at hF
  by_cases hc5 : x1 = 3
  · rw [if_pos hc5] at hF
    refine jx_tableIn (tgt := 72) (z := 3) E dX4_count_1 hc5 (by decide) (by decide) rfl (by decide) ?_
    refine jx_aload_n E dX4_count_72 0 rfl ?_
    refine jx_getr (C := RX4) (T := TX4) (M := 11) (k := 0) E dX4_count_73 (Nat.le_of_ble_eq_true rfl) s_X0 rfl iX4 (by decide) rfl (List.mem_cons_of_mem _ tw_195) rfl ?_
    obtain ⟨⟨r6, v6⟩, hc6, hF⟩ := jx_bind hF
    try dsimp only at hF
    refine jx_callNi (As := []) (st := []) (h := 1) E dX4_count_76 0 rfl (k_X3_heightOfAll hI 1 jx_T1 v r6 v6 hc6) (gb_N tw_310) rfl rfl rfl (ex_m43 (jx_ex E)) (List.mem_cons_of_mem _ tw_33) (List.mem_cons_of_mem _ tw_311) (List.mem_cons_of_mem _ tw_312) dd_X3_heightOfAll.2 rfl (Nat.le_of_ble_eq_true rfl) s_X1 rfl ⟨by decide, by decide⟩ ⟨Nat.le_refl 0, Nat.le_refl 0⟩ (Nat.le_of_ble_eq_true rfl) ?_
    obtain ⟨rfl, rfl⟩ := jx_out hF
    exact jx_iret E dX4_count_79 rfl
  rw [if_neg hc5] at hF
  by_cases hc7 : x1 = 4
  · rw [if_pos hc7] at hF
    refine jx_tableIn (tgt := 80) (z := 4) E dX4_count_1 hc7 (by decide) (by decide) rfl (by decide) ?_
    refine jx_aload_n E dX4_count_80 0 rfl ?_
    refine jx_getr (C := RX4) (T := TX4) (M := 11) (k := 0) E dX4_count_81 (Nat.le_of_ble_eq_true rfl) s_X0 rfl iX4 (by decide) rfl (List.mem_cons_of_mem _ tw_195) rfl ?_
    obtain ⟨⟨r8, v8⟩, hc8, hF⟩ := jx_bind hF
    try dsimp only at hF
    refine jx_callNi (As := []) (st := []) (h := 1) E dX4_count_84 0 rfl (k_X3_contractCount hI 1 jx_T1 v r8 v8 hc8) (gb_N tw_313) rfl rfl rfl (ex_m44 (jx_ex E)) (List.mem_cons_of_mem _ tw_33) (List.mem_cons_of_mem _ tw_314) (List.mem_cons_of_mem _ tw_315) dd_X3_contractCount.2 rfl (Nat.le_of_ble_eq_true rfl) s_X1 rfl ⟨by decide, by decide⟩ ⟨Nat.le_refl 0, Nat.le_refl 0⟩ (Nat.le_of_ble_eq_true rfl) ?_
    obtain ⟨rfl, rfl⟩ := jx_out hF
    exact jx_iret E dX4_count_87 rfl
  rw [if_neg hc7] at hF
  by_cases hc9 : x1 = 5
  · rw [if_pos hc9] at hF
    refine jx_tableIn (tgt := 88) (z := 5) E dX4_count_1 hc9 (by decide) (by decide) rfl (by decide) ?_
    refine jx_aload_n E dX4_count_88 0 rfl ?_
    refine jx_getr (C := RX4) (T := TX4) (M := 11) (k := 4) E dX4_count_89 (Nat.le_of_ble_eq_true rfl) s_X0 rfl iX4 (by decide) rfl (List.mem_cons_of_mem _ tw_280) rfl ?_
    refine jx_getiN (C := RX2) (T := TX2) (M := 7) (k := 1) E dX4_count_92 (Nat.le_of_ble_eq_true rfl) s_X53 rfl iX2 (by decide) rfl (ex_f14 (jx_ex E)) rfl ?_
    obtain ⟨rfl, rfl⟩ := jx_out hF
    exact jx_iret E dX4_count_95 rfl
  rw [if_neg hc9] at hF
  by_cases hc10 : x1 = 6
  · rw [if_pos hc10] at hF
    refine jx_tableIn (tgt := 96) (z := 6) E dX4_count_1 hc10 (by decide) (by decide) rfl (by decide) ?_
    refine jx_aload_n E dX4_count_96 0 rfl ?_
    refine jx_getr (C := RX4) (T := TX4) (M := 11) (k := 0) E dX4_count_97 (Nat.le_of_ble_eq_true rfl) s_X0 rfl iX4 (by decide) rfl (List.mem_cons_of_mem _ tw_195) rfl ?_
    refine jx_getiN (C := RX3) (T := TX3) (M := 8) (k := 7) E dX4_count_100 (Nat.le_of_ble_eq_true rfl) s_X1 rfl iX3 (by decide) rfl (ex_f13 (jx_ex E)) rfl ?_
    obtain ⟨rfl, rfl⟩ := jx_out hF
    exact jx_iret E dX4_count_103 rfl
  rw [if_neg hc10] at hF
  by_cases hc11 : x1 = 7
  · rw [if_pos hc11] at hF
    refine jx_tableIn (tgt := 104) (z := 7) E dX4_count_1 hc11 (by decide) (by decide) rfl (by decide) ?_
    refine jx_aload_n E dX4_count_104 0 rfl ?_
    refine jx_getr (C := RX4) (T := TX4) (M := 11) (k := 0) E dX4_count_105 (Nat.le_of_ble_eq_true rfl) s_X0 rfl iX4 (by decide) rfl (List.mem_cons_of_mem _ tw_195) rfl ?_
    obtain ⟨⟨r12, v12⟩, hc12, hF⟩ := jx_bind hF
    try dsimp only at hF
    refine jx_callNi (As := []) (st := []) (h := 1) E dX4_count_108 0 rfl (k_X3_spotsInUse hI 1 jx_T1 v r12 v12 hc12) (gb_N tw_316) rfl rfl rfl (ex_m45 (jx_ex E)) (List.mem_cons_of_mem _ tw_33) (List.mem_cons_of_mem _ tw_317) (List.mem_cons_of_mem _ tw_318) dd_X3_spotsInUse.2 rfl (Nat.le_of_ble_eq_true rfl) s_X1 rfl ⟨by decide, by decide⟩ ⟨Nat.le_refl 0, Nat.le_refl 0⟩ (Nat.le_of_ble_eq_true rfl) ?_
    obtain ⟨rfl, rfl⟩ := jx_out hF
    exact jx_iret E dX4_count_111 rfl
  rw [if_neg hc11] at hF
  refine jx_tableOut (tgt := 112) E dX4_count_1 (by have hz1 := jx_ne hc1 (k := 0) (by decide); have hz2 := jx_ne hc2 (k := 1) (by decide); have hz4 := jx_ne hc4 (k := 2) (by decide); have hz5 := jx_ne hc5 (k := 3) (by decide); have hz7 := jx_ne hc7 (k := 4) (by decide); have hz9 := jx_ne hc9 (k := 5) (by decide); have hz10 := jx_ne hc10 (k := 6) (by decide); have hz11 := jx_ne hc11 (k := 7) (by decide); omega) (by decide) ?_
  refine jx_aload_n E dX4_count_112 0 rfl ?_
  refine jx_iconst (x := 0) E dX4_count_113 (by decide) ?_
  obtain ⟨⟨r13, v13⟩, hc13, hF⟩ := jx_bind hF
  try dsimp only at hF
  refine jx_callVi (As := [.int 0]) (st := []) (h := 0) E dX4_count_114 1 rfl (k_X4_finding hI 0 v r13 v13 hc13) (gb_V (List.mem_cons_of_mem _ tw_192) (List.mem_cons_of_mem _ tw_193) (List.mem_cons_of_mem _ tw_194) (List.mem_cons_of_mem _ tw_190) tw_191) rfl rfl rfl dd_X4_finding rfl (Nat.le_of_ble_eq_true rfl) s_X0 rfl ⟨by decide, by decide⟩ ⟨Nat.le_refl 0, Nat.le_refl 0⟩ (Nat.le_of_ble_eq_true rfl) ?_
  obtain ⟨rfl, rfl⟩ := jx_out hF
  exact jx_iret E dX4_count_117 rfl
def f_X4_status_L  : Nat → Int32 → Int32 → Int32 → jx_V → Option (Int32 × jx_V)
  | 0, _, _, _, _ => none
  | n + 1, x1, x2, x3, v => (if 7 ≤ x3 then (some (x2, v)) else (if (x3 < 0 ∨ 7 ≤ Int32.toNatClampNeg x3) then none else (f_X4_status_L n x1 (x2 + (v 63 (Int32.toNatClampNeg x3))) (x3 + 1) v)))
def f_X4_status (x1 : Int32) (v : jx_V) : Option (Int32 × jx_V) := (if x1 = (-1) then (f_X4_status_L 100000 x1 0 0 v) else ((f_X4_within x1 7 v).bind (fun (r2, v2) => (if r2 = 0 then ((f_X4_finding 0 v2).bind (fun (r4, v4) => (some (r4, v4)))) else (if (x1 < 0 ∨ 7 ≤ Int32.toNatClampNeg x1) then none else (some ((v2 63 (Int32.toNatClampNeg x1)), v2)))))))
def rm_X4_status : Room := { frames := 1, cells := 0, slots := 0, locals := 21 }
set_option maxHeartbeats 4000000 in
set_option maxRecDepth 100000 in
theorem k_X4_status {l : Launch} {D : va_G} {cI cJ : ClassId} {ad : Nat → Nat} {A : Nat → Prop} {adK adV : Nat → Nat} (hI : jx_inj 67 ad A) (x1 : Int32) (v : jx_V) (r : Int32) (v' : jx_V) (hF : f_X4_status x1 v = some (r, v')) : jx_Ci l D vwCl 67 cI cJ ad shX A (ex_X adK adV A) yX4_status (Cond.code yX4_status cX4_status 4 (some .int) :: bigT) rm_X4_status [.ref (ad 0), .int x1] v r v' := by
  unfold f_X4_status at hF
  refine jx_enteri bigT RX4 cX4_status 4 (some .int) [(0, .ref (ad 0)), (1, .int x1)] hI (ex_X_ok adK adV A) (by decide +kernel) rfl (Nat.le_of_ble_eq_true rfl) rfl rfl ?_
  intro p e s m args below meth c E
  have iX4 : ∀ w ∈ u_ws RX4 TX4 11, w ∈ (Cond.code yX4_status cX4_status 4 (some .int) :: bigT) := fun w h => List.mem_cons_of_mem _ (uw_X4 w h)
  have key : ∀ n : Nat, (∀ (x1 : Int32) (x2 : Int32) (x3 : Int32) (v : jx_V), f_X4_status_L  n  x1 x2 x3 v = some (r, v') → jx_J p l e rm_X4_status s m args below meth c D vwCl 67 cI cJ ad shX A 0 0 4 (MQ below (va_Qi (fun (r1 : Int32) (_ : Unit) => r1 = r) (fun _ t => va_P D vwCl (jx_ws 67 cI cJ ad shX v') t.heap) A) args s 0 0 A) v 9 [(0, .ref (ad 0)), (1, .int x1), (2, .int x2), (3, .int x3)] []) := by
    intro n
    induction n with
    | zero =>
      exact (fun _ _ _ _ h => by cases h)
    | succ n ih =>
      intro x1 x2 x3 v hF
      rw [f_X4_status_L] at hF
      refine jx_iload_n E dX4_status_9 3 rfl ?_
      refine jx_bipush (x := 7) E dX4_status_10 (by decide) ?_
      refine jx_icmp_ge (tgt := 30) E dX4_status_12 (by decide) (fun hc6 => ?_) (fun hc6 => ?_)
      · rw [if_pos hc6] at hF
        refine jx_iload_n E dX4_status_30 2 rfl ?_
        obtain ⟨rfl, rfl⟩ := jx_out hF
        exact jx_iret E dX4_status_31 rfl
      · rw [if_neg hc6] at hF
        refine jx_iload_n E dX4_status_15 2 rfl ?_
        refine jx_aload_n E dX4_status_16 0 rfl ?_
        refine jx_getr (C := RX4) (T := TX4) (M := 11) (k := 6) E dX4_status_17 (Nat.le_of_ble_eq_true rfl) s_X0 rfl iX4 (by decide) rfl (List.mem_cons_of_mem _ tw_185) rfl ?_
        refine jx_iload_n E dX4_status_20 3 rfl ?_
        obtain ⟨hg7, hF⟩ := jx_guard hF
        refine jx_iald (h := 63) (j := (Int32.toNatClampNeg x3)) E dX4_status_21 (Nat.le_of_ble_eq_true rfl) s_X63 hg7 rfl ?_
        refine jx_iadd E dX4_status_22 ?_
        refine jx_istore_n (lv' := [(2, .int (x2 + (v 63 (Int32.toNatClampNeg x3)))), (0, .ref (ad 0)), (1, .int x1), (3, .int x3)]) E dX4_status_23 (by decide) rfl ?_
        refine jx_iinc (y := (x3 + 1)) (lv' := [(3, .int (x3 + 1)), (2, .int (x2 + (v 63 (Int32.toNatClampNeg x3)))), (0, .ref (ad 0)), (1, .int x1)]) E dX4_status_24 3 rfl rfl (by decide) rfl ?_
        refine jx_goto (tgt := 9) E dX4_status_27 (by decide) ?_
        refine jx_sub [2, 3, 1, 0] rfl ?_
        exact ih x1 (x2 + (v 63 (Int32.toNatClampNeg x3))) (x3 + 1) v hF
  refine jx_iload_n E dX4_status_0 1 rfl ?_
  refine jx_iconst (x := -1) E dX4_status_1 (by decide) ?_
  refine jx_icmp_ne (tgt := 32) E dX4_status_2 (by decide) (fun hc1 => ?_) (fun hc1 => ?_)
  · rw [if_neg hc1] at hF
    refine jx_iload_n E dX4_status_32 1 rfl ?_
    refine jx_bipush (x := 7) E dX4_status_33 (by decide) ?_
    obtain ⟨⟨r2, v2⟩, hc2, hF⟩ := jx_bind hF
    try dsimp only at hF
    refine jx_callSi (As := [.int x1, .int 7]) (st := []) E dX4_status_35 2 rfl (k_X4_within hI x1 7 v r2 v2 hc2) (gb_S (List.mem_cons_of_mem _ tw_188) (List.mem_cons_of_mem _ tw_189) (List.mem_cons_of_mem _ tw_190) tw_187) rfl rfl rfl dd_X4_within rfl ⟨by decide, by decide⟩ ⟨Nat.le_refl 0, Nat.le_refl 0⟩ (Nat.le_of_ble_eq_true rfl) ?_
    refine jx_if_eq (tgt := 50) E dX4_status_38 (by decide) (fun hc3 => ?_) (fun hc3 => ?_)
    · rw [if_pos hc3] at hF
      refine jx_aload_n E dX4_status_50 0 rfl ?_
      refine jx_iconst (x := 0) E dX4_status_51 (by decide) ?_
      obtain ⟨⟨r4, v4⟩, hc4, hF⟩ := jx_bind hF
      try dsimp only at hF
      refine jx_callVi (As := [.int 0]) (st := []) (h := 0) E dX4_status_52 1 rfl (k_X4_finding hI 0 v2 r4 v4 hc4) (gb_V (List.mem_cons_of_mem _ tw_192) (List.mem_cons_of_mem _ tw_193) (List.mem_cons_of_mem _ tw_194) (List.mem_cons_of_mem _ tw_190) tw_191) rfl rfl rfl dd_X4_finding rfl (Nat.le_of_ble_eq_true rfl) s_X0 rfl ⟨by decide, by decide⟩ ⟨Nat.le_refl 0, Nat.le_refl 0⟩ (Nat.le_of_ble_eq_true rfl) ?_
      obtain ⟨rfl, rfl⟩ := jx_out hF
      exact jx_iret E dX4_status_55 rfl
    · rw [if_neg hc3] at hF
      refine jx_aload_n E dX4_status_41 0 rfl ?_
      refine jx_getr (C := RX4) (T := TX4) (M := 11) (k := 6) E dX4_status_42 (Nat.le_of_ble_eq_true rfl) s_X0 rfl iX4 (by decide) rfl (List.mem_cons_of_mem _ tw_185) rfl ?_
      refine jx_iload_n E dX4_status_45 1 rfl ?_
      obtain ⟨hg5, hF⟩ := jx_guard hF
      refine jx_iald (h := 63) (j := (Int32.toNatClampNeg x1)) E dX4_status_46 (Nat.le_of_ble_eq_true rfl) s_X63 hg5 rfl ?_
      refine jx_goto (tgt := 55) E dX4_status_47 (by decide) ?_
      obtain ⟨rfl, rfl⟩ := jx_out hF
      exact jx_iret E dX4_status_55 rfl
  · rw [if_pos hc1] at hF
    refine jx_iconst (x := 0) E dX4_status_5 (by decide) ?_
    refine jx_istore_n (lv' := [(2, .int 0), (0, .ref (ad 0)), (1, .int x1)]) E dX4_status_6 (by decide) rfl ?_
    refine jx_iconst (x := 0) E dX4_status_7 (by decide) ?_
    refine jx_istore_n (lv' := [(3, .int 0), (2, .int 0), (0, .ref (ad 0)), (1, .int x1)]) E dX4_status_8 (by decide) rfl ?_
    refine jx_sub [2, 3, 1, 0] rfl ?_
    exact (key 100000) x1 0 0 v hF
