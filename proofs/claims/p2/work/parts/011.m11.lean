def f_X0_payAll_L (h1 : Nat) : Nat → Int32 → Int32 → jx_V → Option (Int32 × jx_V)
  | 0, _, _, _ => none
  | n + 1, x2, x3, v => (if (v h1 5) ≤ x3 then (some (x2, v)) else ((f_X0_pay h1 x3 (h1 + 14) v).bind (fun (r2, v2) => (f_X0_payAll_L h1 n (x2 + r2) (x3 + 1) v2))))
def f_X0_payAll (h1 : Nat) (v : jx_V) : Option (Int32 × jx_V) := (f_X0_payAll_L h1 100000 0 0 v)
def rm_X0_payAll : Room := { frames := 4, cells := 0, slots := 0, locals := 101 }
set_option maxHeartbeats 4000000 in
set_option maxRecDepth 100000 in
theorem k_X0_payAll {l : Launch} {D : va_G} {cI cJ : ClassId} {ad : Nat → Nat} {A : Nat → Prop} {adK adV : Nat → Nat} (hI : jx_inj 67 ad A) (h1 : Nat) (hT1 : jx_T h1) (v : jx_V) (r : Int32) (v' : jx_V) (hF : f_X0_payAll h1 v = some (r, v')) : jx_Ci l D vwCl 67 cI cJ ad shX A (ex_X adK adV A) yX0_payAll (Cond.code yX0_payAll cX0_payAll 4 (some .int) :: bigT) rm_X0_payAll [.ref (ad 49), .ref (ad h1)] v r v' := by
  unfold f_X0_payAll at hF
  refine jx_enteri bigT RX0 cX0_payAll 4 (some .int) [(0, .ref (ad 49)), (1, .ref (ad h1))] hI (ex_X_ok adK adV A) (by decide +kernel) rfl (Nat.le_of_ble_eq_true rfl) rfl rfl ?_
  intro p e s m args below meth c E
  have iX3 : ∀ w ∈ u_ws RX3 TX3 8, w ∈ (Cond.code yX0_payAll cX0_payAll 4 (some .int) :: bigT) := fun w h => List.mem_cons_of_mem _ (uw_X3 w h)
  have key : ∀ n : Nat, (∀ (x2 : Int32) (x3 : Int32) (v : jx_V), f_X0_payAll_L h1 n  x2 x3 v = some (r, v') → jx_J p l e rm_X0_payAll s m args below meth c D vwCl 67 cI cJ ad shX A 0 0 4 (MQ below (va_Qi (fun (r1 : Int32) (_ : Unit) => r1 = r) (fun _ t => va_P D vwCl (jx_ws 67 cI cJ ad shX v') t.heap) A) args s 0 0 A) v 4 [(0, .ref (ad 49)), (1, .ref (ad h1)), (2, .int x2), (3, .int x3)] []) := by
    intro n
    induction n with
    | zero =>
      exact (fun _ _ _ h => by cases h)
    | succ n ih =>
      intro x2 x3 v hF
      rw [f_X0_payAll_L] at hF
      refine jx_iload_n E dX0_payAll_4 3 rfl ?_
      refine jx_aload_n E dX0_payAll_5 1 rfl ?_
      refine jx_getiN (C := RX3) (T := TX3) (M := 8) (k := 5) E dX0_payAll_6 (n_T0 hT1) (s_T0 hT1) rfl iX3 (by decide) rfl (ex_f11 (jx_ex E)) rfl ?_
      refine jx_icmp_ge (tgt := 31) E dX0_payAll_9 (by decide) (fun hc1 => ?_) (fun hc1 => ?_)
      · rw [if_pos hc1] at hF
        refine jx_iload_n E dX0_payAll_31 2 rfl ?_
        obtain ⟨rfl, rfl⟩ := jx_out hF
        exact jx_iret E dX0_payAll_32 rfl
      · rw [if_neg hc1] at hF
        refine jx_iload_n E dX0_payAll_12 2 rfl ?_
        refine jx_aload_n E dX0_payAll_13 0 rfl ?_
        refine jx_aload_n E dX0_payAll_14 1 rfl ?_
        refine jx_iload_n E dX0_payAll_15 3 rfl ?_
        refine jx_aload_n E dX0_payAll_16 1 rfl ?_
        refine jx_getrN (C := RX3) (T := TX3) (M := 8) (k := 3) E dX0_payAll_17 (n_T0 hT1) (s_T0 hT1) rfl iX3 (by decide) rfl (ex_f7 (jx_ex E)) rfl ?_
        obtain ⟨⟨r2, v2⟩, hc2, hF⟩ := jx_bind hF
        try dsimp only at hF
        refine jx_callVi (As := [.ref (ad h1), .int x3, .ref (ad (h1 + 14))]) (st := [.int x2]) (h := 49) E dX0_payAll_20 3 rfl (k_X0_pay hI h1 hT1 x3 (h1 + 14) (s_T14 hT1) (n_T14 hT1) v r2 v2 hc2) (gb_V (List.mem_cons_of_mem _ tw_78) (List.mem_cons_of_mem _ tw_79) (List.mem_cons_of_mem _ tw_80) (List.mem_cons_of_mem _ tw_49) tw_77) rfl rfl rfl dd_X0_pay rfl (Nat.le_of_ble_eq_true rfl) s_X49 rfl ⟨by decide, by decide⟩ ⟨Nat.le_refl 0, Nat.le_refl 0⟩ (Nat.le_of_ble_eq_true rfl) ?_
        refine jx_iadd E dX0_payAll_23 ?_
        refine jx_istore_n (lv' := [(2, .int (x2 + r2)), (0, .ref (ad 49)), (1, .ref (ad h1)), (3, .int x3)]) E dX0_payAll_24 (by decide) rfl ?_
        refine jx_iinc (y := (x3 + 1)) (lv' := [(3, .int (x3 + 1)), (2, .int (x2 + r2)), (0, .ref (ad 49)), (1, .ref (ad h1))]) E dX0_payAll_25 3 rfl rfl (by decide) rfl ?_
        refine jx_goto (tgt := 4) E dX0_payAll_28 (by decide) ?_
        refine jx_sub [2, 3, 1, 0] rfl ?_
        exact ih (x2 + r2) (x3 + 1) v2 hF
  refine jx_iconst (x := 0) E dX0_payAll_0 (by decide) ?_
  refine jx_istore_n (lv' := [(2, .int 0), (0, .ref (ad 49)), (1, .ref (ad h1))]) E dX0_payAll_1 (by decide) rfl ?_
  refine jx_iconst (x := 0) E dX0_payAll_2 (by decide) ?_
  refine jx_istore_n (lv' := [(3, .int 0), (2, .int 0), (0, .ref (ad 49)), (1, .ref (ad h1))]) E dX0_payAll_3 (by decide) rfl ?_
  refine jx_sub [2, 3, 1, 0] rfl ?_
  exact (key 100000) 0 0 v hF
def f_X0_gainsInto_L (h1 : Nat) (h2 : Nat) : Nat → Nat → Int32 → Int32 → jx_V → Option (Int32 × jx_V)
  | 0, _, _, _, _ => none
  | n + 1, tag, x3, x4, v => (if tag = 0 then (if 4 ≤ x3 then (f_X0_gainsInto_L h1 h2 n 1 0 0 v) else (if (x3 < 0 ∨ 4 ≤ Int32.toNatClampNeg x3) then none else (f_X0_gainsInto_L h1 h2 n 0 (x3 + 1) 0 (jx_up v h2 (Int32.toNatClampNeg x3) 0)))) else (if tag = 1 then (if (v h1 5) ≤ x4 then (some (x3, v)) else ((f_X0_pay h1 x4 h2 v).bind (fun (r4, v4) => (f_X0_gainsInto_L h1 h2 n 1 (x3 + r4) (x4 + 1) v4)))) else none))
def f_X0_gainsInto (h1 : Nat) (h2 : Nat) (v : jx_V) : Option (Int32 × jx_V) := (f_X0_gainsInto_L h1 h2 100000 0 0 0 v)
def rm_X0_gainsInto : Room := { frames := 4, cells := 0, slots := 0, locals := 101 }
set_option maxHeartbeats 4000000 in
set_option maxRecDepth 100000 in
theorem k_X0_gainsInto {l : Launch} {D : va_G} {cI cJ : ClassId} {ad : Nat → Nat} {A : Nat → Prop} {adK adV : Nat → Nat} (hI : jx_inj 67 ad A) (h1 : Nat) (hT1 : jx_T h1) (h2 : Nat) (hS2 : shX h2 = .inl 4) (hN2 : h2 < 67) (v : jx_V) (r : Int32) (v' : jx_V) (hF : f_X0_gainsInto h1 h2 v = some (r, v')) : jx_Ci l D vwCl 67 cI cJ ad shX A (ex_X adK adV A) yX0_gainsInto (Cond.code yX0_gainsInto cX0_gainsInto 5 (some .int) :: bigT) rm_X0_gainsInto [.ref (ad 49), .ref (ad h1), .ref (ad h2)] v r v' := by
  unfold f_X0_gainsInto at hF
  refine jx_enteri bigT RX0 cX0_gainsInto 5 (some .int) [(0, .ref (ad 49)), (1, .ref (ad h1)), (2, .ref (ad h2))] hI (ex_X_ok adK adV A) (by decide +kernel) rfl (Nat.le_of_ble_eq_true rfl) rfl rfl ?_
  intro p e s m args below meth c E
  have iX3 : ∀ w ∈ u_ws RX3 TX3 8, w ∈ (Cond.code yX0_gainsInto cX0_gainsInto 5 (some .int) :: bigT) := fun w h => List.mem_cons_of_mem _ (uw_X3 w h)
  have key : ∀ n : Nat, (∀ (x3 : Int32) (v : jx_V), f_X0_gainsInto_L h1 h2 n 0 x3 0 v = some (r, v') → jx_J p l e rm_X0_gainsInto s m args below meth c D vwCl 67 cI cJ ad shX A 0 0 5 (MQ below (va_Qi (fun (r1 : Int32) (_ : Unit) => r1 = r) (fun _ t => va_P D vwCl (jx_ws 67 cI cJ ad shX v') t.heap) A) args s 0 0 A) v 2 [(0, .ref (ad 49)), (1, .ref (ad h1)), (2, .ref (ad h2)), (3, .int x3)] []) ∧ (∀ (x3 : Int32) (x4 : Int32) (v : jx_V), f_X0_gainsInto_L h1 h2 n 1 x3 x4 v = some (r, v') → jx_J p l e rm_X0_gainsInto s m args below meth c D vwCl 67 cI cJ ad shX A 0 0 5 (MQ below (va_Qi (fun (r1 : Int32) (_ : Unit) => r1 = r) (fun _ t => va_P D vwCl (jx_ws 67 cI cJ ad shX v') t.heap) A) args s 0 0 A) v 22 [(0, .ref (ad 49)), (1, .ref (ad h1)), (2, .ref (ad h2)), (3, .int x3), (4, .int x4)] []) := by
    intro n
    induction n with
    | zero =>
      exact ⟨(fun _ _ h => by cases h), (fun _ _ _ h => by cases h)⟩
    | succ n ih =>
      refine ⟨?_, ?_⟩
      · intro x3 v hF
        rw [f_X0_gainsInto_L] at hF
        rw [if_pos rfl] at hF
        refine jx_iload_n E dX0_gainsInto_2 3 rfl ?_
        refine jx_iconst (x := 4) E dX0_gainsInto_3 (by decide) ?_
        refine jx_icmp_ge (tgt := 17) E dX0_gainsInto_4 (by decide) (fun hc1 => ?_) (fun hc1 => ?_)
        · rw [if_pos hc1] at hF
          refine jx_iconst (x := 0) E dX0_gainsInto_17 (by decide) ?_
          refine jx_istore_n (lv' := [(3, .int 0), (0, .ref (ad 49)), (1, .ref (ad h1)), (2, .ref (ad h2))]) E dX0_gainsInto_18 (by decide) rfl ?_
          refine jx_iconst (x := 0) E dX0_gainsInto_19 (by decide) ?_
          refine jx_istore (lv' := [(4, .int 0), (3, .int 0), (0, .ref (ad 49)), (1, .ref (ad h1)), (2, .ref (ad h2))]) E dX0_gainsInto_20 (by decide) rfl ?_
          refine jx_sub [2, 3, 4, 1, 0] rfl ?_
          exact ih.2 0 0 v hF
        · rw [if_neg hc1] at hF
          refine jx_aload_n E dX0_gainsInto_7 2 rfl ?_
          refine jx_iload_n E dX0_gainsInto_8 3 rfl ?_
          refine jx_iconst (x := 0) E dX0_gainsInto_9 (by decide) ?_
          obtain ⟨hg2, hF⟩ := jx_guard hF
          refine jx_iast (h := h2) (j := (Int32.toNatClampNeg x3)) E dX0_gainsInto_10 hN2 hS2 hg2 rfl ?_
          refine jx_iinc (y := (x3 + 1)) (lv' := [(3, .int (x3 + 1)), (0, .ref (ad 49)), (1, .ref (ad h1)), (2, .ref (ad h2))]) E dX0_gainsInto_11 3 rfl rfl (by decide) rfl ?_
          refine jx_goto (tgt := 2) E dX0_gainsInto_14 (by decide) ?_
          refine jx_sub [1, 2, 3, 0] rfl ?_
          exact ih.1 (x3 + 1) (jx_up v h2 (Int32.toNatClampNeg x3) 0) hF
      · intro x3 x4 v hF
        rw [f_X0_gainsInto_L] at hF
        rw [if_neg (by decide), if_pos rfl] at hF
        refine jx_iload E dX0_gainsInto_22 4 rfl ?_
        refine jx_aload_n E dX0_gainsInto_24 1 rfl ?_
        refine jx_getiN (C := RX3) (T := TX3) (M := 8) (k := 5) E dX0_gainsInto_25 (n_T0 hT1) (s_T0 hT1) rfl iX3 (by decide) rfl (ex_f11 (jx_ex E)) rfl ?_
        refine jx_icmp_ge (tgt := 48) E dX0_gainsInto_28 (by decide) (fun hc3 => ?_) (fun hc3 => ?_)
        · rw [if_pos hc3] at hF
          refine jx_iload_n E dX0_gainsInto_48 3 rfl ?_
          obtain ⟨rfl, rfl⟩ := jx_out hF
          exact jx_iret E dX0_gainsInto_49 rfl
        · rw [if_neg hc3] at hF
          refine jx_iload_n E dX0_gainsInto_31 3 rfl ?_
          refine jx_aload_n E dX0_gainsInto_32 0 rfl ?_
          refine jx_aload_n E dX0_gainsInto_33 1 rfl ?_
          refine jx_iload E dX0_gainsInto_34 4 rfl ?_
          refine jx_aload_n E dX0_gainsInto_36 2 rfl ?_
          obtain ⟨⟨r4, v4⟩, hc4, hF⟩ := jx_bind hF
          try dsimp only at hF
          refine jx_callVi (As := [.ref (ad h1), .int x4, .ref (ad h2)]) (st := [.int x3]) (h := 49) E dX0_gainsInto_37 3 rfl (k_X0_pay hI h1 hT1 x4 h2 hS2 hN2 v r4 v4 hc4) (gb_V (List.mem_cons_of_mem _ tw_78) (List.mem_cons_of_mem _ tw_79) (List.mem_cons_of_mem _ tw_80) (List.mem_cons_of_mem _ tw_49) tw_77) rfl rfl rfl dd_X0_pay rfl (Nat.le_of_ble_eq_true rfl) s_X49 rfl ⟨by decide, by decide⟩ ⟨Nat.le_refl 0, Nat.le_refl 0⟩ (Nat.le_of_ble_eq_true rfl) ?_
          refine jx_iadd E dX0_gainsInto_40 ?_
          refine jx_istore_n (lv' := [(3, .int (x3 + r4)), (0, .ref (ad 49)), (1, .ref (ad h1)), (2, .ref (ad h2)), (4, .int x4)]) E dX0_gainsInto_41 (by decide) rfl ?_
          refine jx_iinc (y := (x4 + 1)) (lv' := [(4, .int (x4 + 1)), (3, .int (x3 + r4)), (0, .ref (ad 49)), (1, .ref (ad h1)), (2, .ref (ad h2))]) E dX0_gainsInto_42 4 rfl rfl (by decide) rfl ?_
          refine jx_goto (tgt := 22) E dX0_gainsInto_45 (by decide) ?_
          refine jx_sub [2, 3, 4, 1, 0] rfl ?_
          exact ih.2 (x3 + r4) (x4 + 1) v4 hF
  refine jx_iconst (x := 0) E dX0_gainsInto_0 (by decide) ?_
  refine jx_istore_n (lv' := [(3, .int 0), (0, .ref (ad 49)), (1, .ref (ad h1)), (2, .ref (ad h2))]) E dX0_gainsInto_1 (by decide) rfl ?_
  refine jx_sub [1, 2, 3, 0] rfl ?_
  exact (key 100000).1 0 v hF
def f_X0_isBroken (h1 : Nat) (x2 : Int32) (v : jx_V) : Option (Int32 × jx_V) := (if (x2 < 0 ∨ 10 ≤ Int32.toNatClampNeg x2) then none else (if (v (h1 + 11) (Int32.toNatClampNeg x2)) < 0 then (some (0, v)) else ((f_X0_squaresOfOwner h1 x2 (v (h1 + 11) (Int32.toNatClampNeg x2)) v).bind (fun (r3, v3) => (if (x2 < 0 ∨ 10 ≤ Int32.toNatClampNeg x2) then none else (if (v3 (h1 + 12) (Int32.toNatClampNeg x2)) ≤ r3 then (some (0, v3)) else (some (1, v3))))))))
def rm_X0_isBroken : Room := { frames := 4, cells := 0, slots := 0, locals := 98 }
set_option maxHeartbeats 4000000 in
set_option maxRecDepth 100000 in
theorem k_X0_isBroken {l : Launch} {D : va_G} {cI cJ : ClassId} {ad : Nat → Nat} {A : Nat → Prop} {adK adV : Nat → Nat} (hI : jx_inj 67 ad A) (h1 : Nat) (hT1 : jx_T h1) (x2 : Int32) (v : jx_V) (r : Int32) (v' : jx_V) (hF : f_X0_isBroken h1 x2 v = some (r, v')) : jx_Ci l D vwCl 67 cI cJ ad shX A (ex_X adK adV A) yX0_isBroken (Cond.code yX0_isBroken cX0_isBroken 4 (some .boolean) :: bigT) rm_X0_isBroken [.ref (ad 49), .ref (ad h1), .int x2] v r v' := by
  unfold f_X0_isBroken at hF
  refine jx_enteri bigT RX0 cX0_isBroken 4 (some .boolean) [(0, .ref (ad 49)), (1, .ref (ad h1)), (2, .int x2)] hI (ex_X_ok adK adV A) (by decide +kernel) rfl (Nat.le_of_ble_eq_true rfl) rfl rfl ?_
  intro p e s m args below meth c E
  have iX3 : ∀ w ∈ u_ws RX3 TX3 8, w ∈ (Cond.code yX0_isBroken cX0_isBroken 4 (some .boolean) :: bigT) := fun w h => List.mem_cons_of_mem _ (uw_X3 w h)
  refine jx_aload_n E dX0_isBroken_0 1 rfl ?_
  refine jx_getrN (C := RX3) (T := TX3) (M := 8) (k := 1) E dX0_isBroken_1 (n_T0 hT1) (s_T0 hT1) rfl iX3 (by decide) rfl (ex_f2 (jx_ex E)) rfl ?_
  refine jx_iconst (x := 4) E dX0_isBroken_4 (by decide) ?_
  refine jx_aald (h' := (h1 + 11)) E dX0_isBroken_5 (n_T2 hT1) (s_T2 hT1) (show ¬ ((4 : Int32) < 0 ∨ 6 ≤ Int32.toNatClampNeg 4) by decide) rfl ?_
  refine jx_iload_n E dX0_isBroken_6 2 rfl ?_
  obtain ⟨hg1, hF⟩ := jx_guard hF
  refine jx_iald (h := (h1 + 11)) (j := (Int32.toNatClampNeg x2)) E dX0_isBroken_7 (n_T11 hT1) (s_T11 hT1) hg1 rfl ?_
  refine jx_istore_n (lv' := [(3, .int (v (h1 + 11) (Int32.toNatClampNeg x2))), (0, .ref (ad 49)), (1, .ref (ad h1)), (2, .int x2)]) E dX0_isBroken_8 (by decide) rfl ?_
  refine jx_iload_n E dX0_isBroken_9 0 rfl ?_
  refine jx_if_lt (tgt := 35) E dX0_isBroken_10 (by decide) (fun hc2 => ?_) (fun hc2 => ?_)
  · rw [if_pos hc2] at hF
    refine jx_iconst (x := 0) E dX0_isBroken_35 (by decide) ?_
    obtain ⟨rfl, rfl⟩ := jx_out hF
    exact jx_zret E dX0_isBroken_36 rfl (Or.inl rfl)
  · rw [if_neg hc2] at hF
    refine jx_aload_n E dX0_isBroken_13 1 rfl ?_
    refine jx_aload_n E dX0_isBroken_14 2 rfl ?_
    refine jx_iload_n E dX0_isBroken_15 3 rfl ?_
    refine jx_iload_n E dX0_isBroken_16 0 rfl ?_
    obtain ⟨⟨r3, v3⟩, hc3, hF⟩ := jx_bind hF
    try dsimp only at hF
    refine jx_callVi (As := [.ref (ad h1), .int x2, .int (v (h1 + 11) (Int32.toNatClampNeg x2))]) (st := []) (h := 49) E dX0_isBroken_17 3 rfl (k_X0_squaresOfOwner hI h1 hT1 x2 (v (h1 + 11) (Int32.toNatClampNeg x2)) v r3 v3 hc3) (gb_V (List.mem_cons_of_mem _ tw_82) (List.mem_cons_of_mem _ tw_83) (List.mem_cons_of_mem _ tw_84) (List.mem_cons_of_mem _ tw_49) tw_81) rfl rfl rfl dd_X0_squaresOfOwner rfl (Nat.le_of_ble_eq_true rfl) s_X49 rfl ⟨by decide, by decide⟩ ⟨Nat.le_refl 0, Nat.le_refl 0⟩ (Nat.le_of_ble_eq_true rfl) ?_
    refine jx_aload_n E dX0_isBroken_20 2 rfl ?_
    refine jx_getrN (C := RX3) (T := TX3) (M := 8) (k := 1) E dX0_isBroken_21 (n_T0 hT1) (s_T0 hT1) rfl iX3 (by decide) rfl (ex_f2 (jx_ex E)) rfl ?_
    refine jx_iconst (x := 5) E dX0_isBroken_24 (by decide) ?_
    refine jx_aald (h' := (h1 + 12)) E dX0_isBroken_25 (n_T2 hT1) (s_T2 hT1) (show ¬ ((5 : Int32) < 0 ∨ 6 ≤ Int32.toNatClampNeg 5) by decide) rfl ?_
    refine jx_iload_n E dX0_isBroken_26 3 rfl ?_
    obtain ⟨hg4, hF⟩ := jx_guard hF
    refine jx_iald (h := (h1 + 12)) (j := (Int32.toNatClampNeg x2)) E dX0_isBroken_27 (n_T12 hT1) (s_T12 hT1) hg4 rfl ?_
    refine jx_icmp_ge (tgt := 35) E dX0_isBroken_28 (by decide) (fun hc5 => ?_) (fun hc5 => ?_)
    · rw [if_pos hc5] at hF
      refine jx_iconst (x := 0) E dX0_isBroken_35 (by decide) ?_
      obtain ⟨rfl, rfl⟩ := jx_out hF
      exact jx_zret E dX0_isBroken_36 rfl (Or.inl rfl)
    · rw [if_neg hc5] at hF
      refine jx_iconst (x := 1) E dX0_isBroken_31 (by decide) ?_
      refine jx_goto (tgt := 36) E dX0_isBroken_32 (by decide) ?_
      obtain ⟨rfl, rfl⟩ := jx_out hF
      exact jx_zret E dX0_isBroken_36 rfl (Or.inr rfl)
def f_X0_brokenSet_L (h1 : Nat) : Nat → Int32 → Int32 → jx_V → Option (Int32 × jx_V)
  | 0, _, _, _ => none
  | n + 1, x2, x3, v => (if (v h1 5) ≤ x3 then (some (x2, v)) else ((f_X0_isBroken h1 x3 v).bind (fun (r2, v2) => (if r2 = 0 then (f_X0_brokenSet_L h1 n x2 (x3 + 1) v2) else (f_X0_brokenSet_L h1 n (x2 ||| (1 <<< (x3 &&& 31))) (x3 + 1) v2)))))
def f_X0_brokenSet (h1 : Nat) (v : jx_V) : Option (Int32 × jx_V) := (f_X0_brokenSet_L h1 100000 0 0 v)
def rm_X0_brokenSet : Room := { frames := 5, cells := 0, slots := 0, locals := 121 }
set_option maxHeartbeats 4000000 in
set_option maxRecDepth 100000 in
theorem k_X0_brokenSet {l : Launch} {D : va_G} {cI cJ : ClassId} {ad : Nat → Nat} {A : Nat → Prop} {adK adV : Nat → Nat} (hI : jx_inj 67 ad A) (h1 : Nat) (hT1 : jx_T h1) (v : jx_V) (r : Int32) (v' : jx_V) (hF : f_X0_brokenSet h1 v = some (r, v')) : jx_Ci l D vwCl 67 cI cJ ad shX A (ex_X adK adV A) yX0_brokenSet (Cond.code yX0_brokenSet cX0_brokenSet 4 (some .int) :: bigT) rm_X0_brokenSet [.ref (ad 49), .ref (ad h1)] v r v' := by
  unfold f_X0_brokenSet at hF
  refine jx_enteri bigT RX0 cX0_brokenSet 4 (some .int) [(0, .ref (ad 49)), (1, .ref (ad h1))] hI (ex_X_ok adK adV A) (by decide +kernel) rfl (Nat.le_of_ble_eq_true rfl) rfl rfl ?_
  intro p e s m args below meth c E
  have iX3 : ∀ w ∈ u_ws RX3 TX3 8, w ∈ (Cond.code yX0_brokenSet cX0_brokenSet 4 (some .int) :: bigT) := fun w h => List.mem_cons_of_mem _ (uw_X3 w h)
  have key : ∀ n : Nat, (∀ (x2 : Int32) (x3 : Int32) (v : jx_V), f_X0_brokenSet_L h1 n  x2 x3 v = some (r, v') → jx_J p l e rm_X0_brokenSet s m args below meth c D vwCl 67 cI cJ ad shX A 0 0 4 (MQ below (va_Qi (fun (r1 : Int32) (_ : Unit) => r1 = r) (fun _ t => va_P D vwCl (jx_ws 67 cI cJ ad shX v') t.heap) A) args s 0 0 A) v 4 [(0, .ref (ad 49)), (1, .ref (ad h1)), (2, .int x2), (3, .int x3)] []) := by
    intro n
    induction n with
    | zero =>
      exact (fun _ _ _ h => by cases h)
    | succ n ih =>
      intro x2 x3 v hF
      rw [f_X0_brokenSet_L] at hF
      refine jx_iload_n E dX0_brokenSet_4 3 rfl ?_
      refine jx_aload_n E dX0_brokenSet_5 1 rfl ?_
      refine jx_getiN (C := RX3) (T := TX3) (M := 8) (k := 5) E dX0_brokenSet_6 (n_T0 hT1) (s_T0 hT1) rfl iX3 (by decide) rfl (ex_f11 (jx_ex E)) rfl ?_
      refine jx_icmp_ge (tgt := 33) E dX0_brokenSet_9 (by decide) (fun hc1 => ?_) (fun hc1 => ?_)
      · rw [if_pos hc1] at hF
        refine jx_iload_n E dX0_brokenSet_33 2 rfl ?_
        obtain ⟨rfl, rfl⟩ := jx_out hF
        exact jx_iret E dX0_brokenSet_34 rfl
      · rw [if_neg hc1] at hF
        refine jx_aload_n E dX0_brokenSet_12 0 rfl ?_
        refine jx_aload_n E dX0_brokenSet_13 1 rfl ?_
        refine jx_iload_n E dX0_brokenSet_14 3 rfl ?_
        obtain ⟨⟨r2, v2⟩, hc2, hF⟩ := jx_bind hF
        try dsimp only at hF
        refine jx_callVi (As := [.ref (ad h1), .int x3]) (st := []) (h := 49) E dX0_brokenSet_15 2 rfl (k_X0_isBroken hI h1 hT1 x3 v r2 v2 hc2) (gb_V (List.mem_cons_of_mem _ tw_86) (List.mem_cons_of_mem _ tw_87) (List.mem_cons_of_mem _ tw_88) (List.mem_cons_of_mem _ tw_49) tw_85) rfl rfl rfl dd_X0_isBroken rfl (Nat.le_of_ble_eq_true rfl) s_X49 rfl ⟨by decide, by decide⟩ ⟨Nat.le_refl 0, Nat.le_refl 0⟩ (Nat.le_of_ble_eq_true rfl) ?_
        refine jx_if_eq (tgt := 27) E dX0_brokenSet_18 (by decide) (fun hc3 => ?_) (fun hc3 => ?_)
        · rw [if_pos hc3] at hF
          refine jx_iinc (y := (x3 + 1)) (lv' := [(3, .int (x3 + 1)), (0, .ref (ad 49)), (1, .ref (ad h1)), (2, .int x2)]) E dX0_brokenSet_27 3 rfl rfl (by decide) rfl ?_
          refine jx_goto (tgt := 4) E dX0_brokenSet_30 (by decide) ?_
          refine jx_sub [1, 2, 3, 0] rfl ?_
          exact ih x2 (x3 + 1) v2 hF
        · rw [if_neg hc3] at hF
          refine jx_iload_n E dX0_brokenSet_21 2 rfl ?_
          refine jx_iconst (x := 1) E dX0_brokenSet_22 (by decide) ?_
          refine jx_iload_n E dX0_brokenSet_23 3 rfl ?_
          refine jx_ishl E dX0_brokenSet_24 ?_
          refine jx_ior E dX0_brokenSet_25 ?_
          refine jx_istore_n (lv' := [(2, .int (x2 ||| (1 <<< (x3 &&& 31)))), (0, .ref (ad 49)), (1, .ref (ad h1)), (3, .int x3)]) E dX0_brokenSet_26 (by decide) rfl ?_
          refine jx_iinc (y := (x3 + 1)) (lv' := [(3, .int (x3 + 1)), (2, .int (x2 ||| (1 <<< (x3 &&& 31)))), (0, .ref (ad 49)), (1, .ref (ad h1))]) E dX0_brokenSet_27 3 rfl rfl (by decide) rfl ?_
          refine jx_goto (tgt := 4) E dX0_brokenSet_30 (by decide) ?_
          refine jx_sub [2, 3, 1, 0] rfl ?_
          exact ih (x2 ||| (1 <<< (x3 &&& 31))) (x3 + 1) v2 hF
  refine jx_iconst (x := 0) E dX0_brokenSet_0 (by decide) ?_
  refine jx_istore_n (lv' := [(2, .int 0), (0, .ref (ad 49)), (1, .ref (ad h1))]) E dX0_brokenSet_1 (by decide) rfl ?_
  refine jx_iconst (x := 0) E dX0_brokenSet_2 (by decide) ?_
  refine jx_istore_n (lv' := [(3, .int 0), (2, .int 0), (0, .ref (ad 49)), (1, .ref (ad h1))]) E dX0_brokenSet_3 (by decide) rfl ?_
  refine jx_sub [2, 3, 1, 0] rfl ?_
  exact (key 100000) 0 0 v hF
def f_X1_isMissing (x1 : Int32) (v : jx_V) : Option (Int32 × jx_V) := (if (x1 < 0 ∨ 4 ≤ Int32.toNatClampNeg x1) then none else (if (v 61 (Int32.toNatClampNeg x1)) = 0 then (some (1, v)) else (some (0, v))))
def rm_X1_isMissing : Room := { frames := 0, cells := 0, slots := 0, locals := 0 }
set_option maxHeartbeats 4000000 in
set_option maxRecDepth 100000 in
theorem k_X1_isMissing {l : Launch} {D : va_G} {cI cJ : ClassId} {ad : Nat → Nat} {A : Nat → Prop} {adK adV : Nat → Nat} (hI : jx_inj 67 ad A) (x1 : Int32) (v : jx_V) (r : Int32) (v' : jx_V) (hF : f_X1_isMissing x1 v = some (r, v')) : jx_Ci l D vwCl 67 cI cJ ad shX A (ex_X adK adV A) yX1_isMissing (Cond.code yX1_isMissing cX1_isMissing 2 (some .boolean) :: bigT) rm_X1_isMissing [.ref (ad 55), .int x1] v r v' := by
  unfold f_X1_isMissing at hF
  refine jx_enteri bigT RX1 cX1_isMissing 2 (some .boolean) [(0, .ref (ad 55)), (1, .int x1)] hI (ex_X_ok adK adV A) (by decide +kernel) rfl (Nat.le_of_ble_eq_true rfl) rfl rfl ?_
  intro p e s m args below meth c E
  have iX1 : ∀ w ∈ u_ws RX1 TX1 3, w ∈ (Cond.code yX1_isMissing cX1_isMissing 2 (some .boolean) :: bigT) := fun w h => List.mem_cons_of_mem _ (uw_X1 w h)
  refine jx_aload_n E dX1_isMissing_0 0 rfl ?_
  refine jx_getr (C := RX1) (T := TX1) (M := 3) (k := 1) E dX1_isMissing_1 (Nat.le_of_ble_eq_true rfl) s_X55 rfl iX1 (by decide) rfl (List.mem_cons_of_mem _ tw_89) rfl ?_
  refine jx_iload_n E dX1_isMissing_4 1 rfl ?_
  obtain ⟨hg1, hF⟩ := jx_guard hF
  refine jx_iald (h := 61) (j := (Int32.toNatClampNeg x1)) E dX1_isMissing_5 (Nat.le_of_ble_eq_true rfl) s_X61 hg1 rfl ?_
  refine jx_if_ne (tgt := 13) E dX1_isMissing_6 (by decide) (fun hc2 => ?_) (fun hc2 => ?_)
  · rw [if_neg hc2] at hF
    refine jx_iconst (x := 0) E dX1_isMissing_13 (by decide) ?_
    obtain ⟨rfl, rfl⟩ := jx_out hF
    exact jx_zret E dX1_isMissing_14 rfl (Or.inl rfl)
  · rw [if_pos hc2] at hF
    refine jx_iconst (x := 1) E dX1_isMissing_9 (by decide) ?_
    refine jx_goto (tgt := 14) E dX1_isMissing_10 (by decide) ?_
    obtain ⟨rfl, rfl⟩ := jx_out hF
    exact jx_zret E dX1_isMissing_14 rfl (Or.inr rfl)
def f_X1_begin_L  : Nat → Int32 → Int32 → Int32 → Int32 → jx_V → Option (jx_V)
  | 0, _, _, _, _, _ => none
  | n + 1, x1, x2, x3, x4, v => (if 40 ≤ x4 then (some v) else (if (x1 < 0 ∨ 4 ≤ (x1).toNatClampNeg) then none else (if (x4 < 0 ∨ 40 ≤ Int32.toNatClampNeg x4) then none else (f_X1_begin_L n x1 x2 x3 (x4 + 1) (jx_up v (57 + (x1).toNatClampNeg) (Int32.toNatClampNeg x4) 0)))))
def f_X1_begin (x1 : Int32) (x2 : Int32) (x3 : Int32) (v : jx_V) : Option (jx_V) := (if (x1 < 0 ∨ 4 ≤ Int32.toNatClampNeg x1) then none else (if x2 = 0 then (if (x1 < 0 ∨ 4 ≤ Int32.toNatClampNeg x1) then none else (f_X1_begin_L 100000 x1 x2 x3 0 (jx_up (jx_up v 61 (Int32.toNatClampNeg x1) x2) 62 (Int32.toNatClampNeg x1) 0))) else (if (x1 < 0 ∨ 4 ≤ Int32.toNatClampNeg x1) then none else (f_X1_begin_L 100000 x1 x2 x3 0 (jx_up (jx_up v 61 (Int32.toNatClampNeg x1) x2) 62 (Int32.toNatClampNeg x1) x3)))))
def rm_X1_begin : Room := { frames := 0, cells := 0, slots := 0, locals := 0 }
set_option maxHeartbeats 4000000 in
set_option maxRecDepth 100000 in
theorem k_X1_begin {l : Launch} {D : va_G} {cI cJ : ClassId} {ad : Nat → Nat} {A : Nat → Prop} {adK adV : Nat → Nat} (hI : jx_inj 67 ad A) (x1 : Int32) (x2 : Int32) (x3 : Int32) (v : jx_V) (v' : jx_V) (hF : f_X1_begin x1 x2 x3 v = some v') : jx_Cv l D vwCl 67 cI cJ ad shX A (ex_X adK adV A) yX1_begin (Cond.code yX1_begin cX1_begin 5 (none) :: bigT) rm_X1_begin [.ref (ad 55), .int x1, .int x2, .int x3] v v' := by
  unfold f_X1_begin at hF
  refine jx_enterv bigT RX1 cX1_begin 5 (none) [(0, .ref (ad 55)), (1, .int x1), (2, .int x2), (3, .int x3)] hI (ex_X_ok adK adV A) (by decide +kernel) rfl (Nat.le_of_ble_eq_true rfl) rfl rfl ?_
  intro p e s m args below meth c E
  have iX1 : ∀ w ∈ u_ws RX1 TX1 3, w ∈ (Cond.code yX1_begin cX1_begin 5 (none) :: bigT) := fun w h => List.mem_cons_of_mem _ (uw_X1 w h)
  have key : ∀ n : Nat, (∀ (x1 : Int32) (x2 : Int32) (x3 : Int32) (x4 : Int32) (v : jx_V), f_X1_begin_L  n  x1 x2 x3 x4 v = some v' → jx_J p l e rm_X1_begin s m args below meth c D vwCl 67 cI cJ ad shX A 0 0 5 (MQ below (va_Qv (fun (_ : Unit) => True) (fun _ t => va_P D vwCl (jx_ws 67 cI cJ ad shX v') t.heap) A) args s 0 0 A) v 25 [(0, .ref (ad 55)), (1, .int x1), (2, .int x2), (3, .int x3), (4, .int x4)] []) := by
    intro n
    induction n with
    | zero =>
      exact (fun _ _ _ _ _ h => by cases h)
    | succ n ih =>
      intro x1 x2 x3 x4 v hF
      rw [f_X1_begin_L] at hF
      refine jx_iload E dX1_begin_25 4 rfl ?_
      refine jx_bipush (x := 40) E dX1_begin_27 (by decide) ?_
      refine jx_icmp_ge (tgt := 48) E dX1_begin_29 (by decide) (fun hc5 => ?_) (fun hc5 => ?_)
      · rw [if_pos hc5] at hF
        obtain rfl := Option.some.inj hF
        exact jx_vret E dX1_begin_48 rfl
      · rw [if_neg hc5] at hF
        refine jx_aload_n E dX1_begin_32 0 rfl ?_
        refine jx_getr (C := RX1) (T := TX1) (M := 3) (k := 0) E dX1_begin_33 (Nat.le_of_ble_eq_true rfl) s_X55 rfl iX1 (by decide) rfl (List.mem_cons_of_mem _ tw_91) rfl ?_
        refine jx_iload_n E dX1_begin_36 1 rfl ?_
        obtain ⟨hg6, hF⟩ := jx_guard hF
        refine jx_aald (h' := (57 + (x1).toNatClampNeg)) E dX1_begin_37 (Nat.le_of_ble_eq_true rfl) s_X56 hg6 (l_Sr (l_lt hg6)) ?_
        refine jx_iload E dX1_begin_38 4 rfl ?_
        refine jx_iconst (x := 0) E dX1_begin_40 (by decide) ?_
        obtain ⟨hg7, hF⟩ := jx_guard hF
        refine jx_iast (h := (57 + (x1).toNatClampNeg)) (j := (Int32.toNatClampNeg x4)) E dX1_begin_41 (n_Sr (l_lt hg6)) (s_Sr (l_lt hg6)) hg7 rfl ?_
        refine jx_iinc (y := (x4 + 1)) (lv' := [(4, .int (x4 + 1)), (0, .ref (ad 55)), (1, .int x1), (2, .int x2), (3, .int x3)]) E dX1_begin_42 4 rfl rfl (by decide) rfl ?_
        refine jx_goto (tgt := 25) E dX1_begin_45 (by decide) ?_
        refine jx_sub [1, 2, 3, 4, 0] rfl ?_
        exact ih x1 x2 x3 (x4 + 1) (jx_up v (57 + (x1).toNatClampNeg) (Int32.toNatClampNeg x4) 0) hF
  refine jx_aload_n E dX1_begin_0 0 rfl ?_
  refine jx_getr (C := RX1) (T := TX1) (M := 3) (k := 1) E dX1_begin_1 (Nat.le_of_ble_eq_true rfl) s_X55 rfl iX1 (by decide) rfl (List.mem_cons_of_mem _ tw_89) rfl ?_
  refine jx_iload_n E dX1_begin_4 1 rfl ?_
  refine jx_iload_n E dX1_begin_5 2 rfl ?_
  obtain ⟨hg1, hF⟩ := jx_guard hF
  refine jx_iast (h := 61) (j := (Int32.toNatClampNeg x1)) E dX1_begin_6 (Nat.le_of_ble_eq_true rfl) s_X61 hg1 rfl ?_
  refine jx_aload_n E dX1_begin_7 0 rfl ?_
  refine jx_getr (C := RX1) (T := TX1) (M := 3) (k := 2) E dX1_begin_8 (Nat.le_of_ble_eq_true rfl) s_X55 rfl iX1 (by decide) rfl (List.mem_cons_of_mem _ tw_90) rfl ?_
  refine jx_iload_n E dX1_begin_11 1 rfl ?_
  refine jx_iload_n E dX1_begin_12 2 rfl ?_
  refine jx_if_ne (tgt := 20) E dX1_begin_13 (by decide) (fun hc2 => ?_) (fun hc2 => ?_)
  · rw [if_neg hc2] at hF
    refine jx_iload_n E dX1_begin_20 3 rfl ?_
    obtain ⟨hg3, hF⟩ := jx_guard hF
    refine jx_iast (h := 62) (j := (Int32.toNatClampNeg x1)) E dX1_begin_21 (Nat.le_of_ble_eq_true rfl) s_X62 hg3 rfl ?_
    refine jx_iconst (x := 0) E dX1_begin_22 (by decide) ?_
    refine jx_istore (lv' := [(4, .int 0), (0, .ref (ad 55)), (1, .int x1), (2, .int x2), (3, .int x3)]) E dX1_begin_23 (by decide) rfl ?_
    refine jx_sub [1, 2, 3, 4, 0] rfl ?_
    exact (key 100000) x1 x2 x3 0 (jx_up (jx_up v 61 (Int32.toNatClampNeg x1) x2) 62 (Int32.toNatClampNeg x1) x3) hF
  · rw [if_pos hc2] at hF
    refine jx_iconst (x := 0) E dX1_begin_16 (by decide) ?_
    refine jx_goto (tgt := 21) E dX1_begin_17 (by decide) ?_
    obtain ⟨hg4, hF⟩ := jx_guard hF
    refine jx_iast (h := 62) (j := (Int32.toNatClampNeg x1)) E dX1_begin_21 (Nat.le_of_ble_eq_true rfl) s_X62 hg4 rfl ?_
    refine jx_iconst (x := 0) E dX1_begin_22 (by decide) ?_
    refine jx_istore (lv' := [(4, .int 0), (0, .ref (ad 55)), (1, .int x1), (2, .int x2), (3, .int x3)]) E dX1_begin_23 (by decide) rfl ?_
    refine jx_sub [1, 2, 3, 4, 0] rfl ?_
    exact (key 100000) x1 x2 x3 0 (jx_up (jx_up v 61 (Int32.toNatClampNeg x1) x2) 62 (Int32.toNatClampNeg x1) 0) hF
def f_X1_store (x1 : Int32) (x2 : Int32) (x3 : Int32) (v : jx_V) : Option (jx_V) := (if (x1 < 0 ∨ 4 ≤ Int32.toNatClampNeg x1) then none else (if (v 61 (Int32.toNatClampNeg x1)) = 8 then (if (x1 < 0 ∨ 4 ≤ (x1).toNatClampNeg) then none else (if (x2 < 0 ∨ 40 ≤ Int32.toNatClampNeg x2) then none else (some (jx_up v (57 + (x1).toNatClampNeg) (Int32.toNatClampNeg x2) ((Int32.toInt8 x3).toInt32))))) else (if (v 61 (Int32.toNatClampNeg x1)) = 16 then (if (x1 < 0 ∨ 4 ≤ (x1).toNatClampNeg) then none else (if (x2 < 0 ∨ 40 ≤ Int32.toNatClampNeg x2) then none else (some (jx_up v (57 + (x1).toNatClampNeg) (Int32.toNatClampNeg x2) ((Int32.toInt16 x3).toInt32))))) else (if (x1 < 0 ∨ 4 ≤ (x1).toNatClampNeg) then none else (if (x2 < 0 ∨ 40 ≤ Int32.toNatClampNeg x2) then none else (some (jx_up v (57 + (x1).toNatClampNeg) (Int32.toNatClampNeg x2) x3)))))))
def rm_X1_store : Room := { frames := 0, cells := 0, slots := 0, locals := 0 }
set_option maxHeartbeats 4000000 in
set_option maxRecDepth 100000 in
theorem k_X1_store {l : Launch} {D : va_G} {cI cJ : ClassId} {ad : Nat → Nat} {A : Nat → Prop} {adK adV : Nat → Nat} (hI : jx_inj 67 ad A) (x1 : Int32) (x2 : Int32) (x3 : Int32) (v : jx_V) (v' : jx_V) (hF : f_X1_store x1 x2 x3 v = some v') : jx_Cv l D vwCl 67 cI cJ ad shX A (ex_X adK adV A) yX1_store (Cond.code yX1_store cX1_store 4 (none) :: bigT) rm_X1_store [.ref (ad 55), .int x1, .int x2, .int x3] v v' := by
  unfold f_X1_store at hF
  refine jx_enterv bigT RX1 cX1_store 4 (none) [(0, .ref (ad 55)), (1, .int x1), (2, .int x2), (3, .int x3)] hI (ex_X_ok adK adV A) (by decide +kernel) rfl (Nat.le_of_ble_eq_true rfl) rfl rfl ?_
  intro p e s m args below meth c E
  have iX1 : ∀ w ∈ u_ws RX1 TX1 3, w ∈ (Cond.code yX1_store cX1_store 4 (none) :: bigT) := fun w h => List.mem_cons_of_mem _ (uw_X1 w h)
  refine jx_aload_n E dX1_store_0 0 rfl ?_
  refine jx_getr (C := RX1) (T := TX1) (M := 3) (k := 1) E dX1_store_1 (Nat.le_of_ble_eq_true rfl) s_X55 rfl iX1 (by decide) rfl (List.mem_cons_of_mem _ tw_89) rfl ?_
  refine jx_iload_n E dX1_store_4 1 rfl ?_
  obtain ⟨hg1, hF⟩ := jx_guard hF
  refine jx_iald (h := 61) (j := (Int32.toNatClampNeg x1)) E dX1_store_5 (Nat.le_of_ble_eq_true rfl) s_X61 hg1 rfl ?_
  by_cases hc2 : (v 61 (Int32.toNatClampNeg x1)) = 8
  · rw [if_pos hc2] at hF
    refine jx_lookup (tgt := 32) (off := 26) E dX1_store_6 rfl (by rw [hc2]; rfl) (by decide) ?_
    refine jx_aload_n E dX1_store_32 0 rfl ?_
    refine jx_getr (C := RX1) (T := TX1) (M := 3) (k := 0) E dX1_store_33 (Nat.le_of_ble_eq_true rfl) s_X55 rfl iX1 (by decide) rfl (List.mem_cons_of_mem _ tw_91) rfl ?_
    refine jx_iload_n E dX1_store_36 1 rfl ?_
    obtain ⟨hg3, hF⟩ := jx_guard hF
    refine jx_aald (h' := (57 + (x1).toNatClampNeg)) E dX1_store_37 (Nat.le_of_ble_eq_true rfl) s_X56 hg3 (l_Sr (l_lt hg3)) ?_
    refine jx_iload_n E dX1_store_38 2 rfl ?_
    refine jx_iload_n E dX1_store_39 3 rfl ?_
    refine jx_i2b E dX1_store_40 ?_
    obtain ⟨hg4, hF⟩ := jx_guard hF
    refine jx_iast (h := (57 + (x1).toNatClampNeg)) (j := (Int32.toNatClampNeg x2)) E dX1_store_41 (n_Sr (l_lt hg3)) (s_Sr (l_lt hg3)) hg4 rfl ?_
    refine jx_goto (tgt := 67) E dX1_store_42 (by decide) ?_
    obtain rfl := Option.some.inj hF
    exact jx_vret E dX1_store_67 rfl
  rw [if_neg hc2] at hF
  by_cases hc5 : (v 61 (Int32.toNatClampNeg x1)) = 16
  · rw [if_pos hc5] at hF
    refine jx_lookup (tgt := 45) (off := 39) E dX1_store_6 rfl (by rw [hc5]; rfl) (by decide) ?_
    refine jx_aload_n E dX1_store_45 0 rfl ?_
    refine jx_getr (C := RX1) (T := TX1) (M := 3) (k := 0) E dX1_store_46 (Nat.le_of_ble_eq_true rfl) s_X55 rfl iX1 (by decide) rfl (List.mem_cons_of_mem _ tw_91) rfl ?_
    refine jx_iload_n E dX1_store_49 1 rfl ?_
    obtain ⟨hg6, hF⟩ := jx_guard hF
    refine jx_aald (h' := (57 + (x1).toNatClampNeg)) E dX1_store_50 (Nat.le_of_ble_eq_true rfl) s_X56 hg6 (l_Sr (l_lt hg6)) ?_
    refine jx_iload_n E dX1_store_51 2 rfl ?_
    refine jx_iload_n E dX1_store_52 3 rfl ?_
    refine jx_i2s E dX1_store_53 ?_
    obtain ⟨hg7, hF⟩ := jx_guard hF
    refine jx_iast (h := (57 + (x1).toNatClampNeg)) (j := (Int32.toNatClampNeg x2)) E dX1_store_54 (n_Sr (l_lt hg6)) (s_Sr (l_lt hg6)) hg7 rfl ?_
    refine jx_goto (tgt := 67) E dX1_store_55 (by decide) ?_
    obtain rfl := Option.some.inj hF
    exact jx_vret E dX1_store_67 rfl
  rw [if_neg hc5] at hF
  refine jx_lookup (tgt := 58) (off := 52) E dX1_store_6 rfl (by have hz2 := jx_ne hc2 (k := 8) (by decide); have hy2 : ¬ (8 : Int) = Int32.toInt (v 61 (Int32.toNatClampNeg x1)) := fun q => hz2 q.symm; have hz5 := jx_ne hc5 (k := 16) (by decide); have hy5 : ¬ (16 : Int) = Int32.toInt (v 61 (Int32.toNatClampNeg x1)) := fun q => hz5 q.symm; simp [Op.lookupswitch.offset, hz2, hy2, hz5, hy5]) (by decide) ?_
  refine jx_aload_n E dX1_store_58 0 rfl ?_
  refine jx_getr (C := RX1) (T := TX1) (M := 3) (k := 0) E dX1_store_59 (Nat.le_of_ble_eq_true rfl) s_X55 rfl iX1 (by decide) rfl (List.mem_cons_of_mem _ tw_91) rfl ?_
  refine jx_iload_n E dX1_store_62 1 rfl ?_
  obtain ⟨hg8, hF⟩ := jx_guard hF
  refine jx_aald (h' := (57 + (x1).toNatClampNeg)) E dX1_store_63 (Nat.le_of_ble_eq_true rfl) s_X56 hg8 (l_Sr (l_lt hg8)) ?_
  refine jx_iload_n E dX1_store_64 2 rfl ?_
  refine jx_iload_n E dX1_store_65 3 rfl ?_
  obtain ⟨hg9, hF⟩ := jx_guard hF
  refine jx_iast (h := (57 + (x1).toNatClampNeg)) (j := (Int32.toNatClampNeg x2)) E dX1_store_66 (n_Sr (l_lt hg8)) (s_Sr (l_lt hg8)) hg9 rfl ?_
  obtain rfl := Option.some.inj hF
  exact jx_vret E dX1_store_67 rfl
def f_X1_hasRange (x1 : Int32) (x2 : Int32) (x3 : Int32) (v : jx_V) : Option (Int32 × jx_V) := (if x2 < 0 then (some (0, v)) else (if x3 < 0 then (some (0, v)) else (if (x1 < 0 ∨ 4 ≤ Int32.toNatClampNeg x1) then none else (if (v 62 (Int32.toNatClampNeg x1)) < x2 then (some (0, v)) else (if (x1 < 0 ∨ 4 ≤ Int32.toNatClampNeg x1) then none else (if ((v 62 (Int32.toNatClampNeg x1)) - x2) < x3 then (some (0, v)) else (some (1, v))))))))
def rm_X1_hasRange : Room := { frames := 0, cells := 0, slots := 0, locals := 0 }
set_option maxHeartbeats 4000000 in
set_option maxRecDepth 100000 in
theorem k_X1_hasRange {l : Launch} {D : va_G} {cI cJ : ClassId} {ad : Nat → Nat} {A : Nat → Prop} {adK adV : Nat → Nat} (hI : jx_inj 67 ad A) (x1 : Int32) (x2 : Int32) (x3 : Int32) (v : jx_V) (r : Int32) (v' : jx_V) (hF : f_X1_hasRange x1 x2 x3 v = some (r, v')) : jx_Ci l D vwCl 67 cI cJ ad shX A (ex_X adK adV A) yX1_hasRange (Cond.code yX1_hasRange cX1_hasRange 4 (some .boolean) :: bigT) rm_X1_hasRange [.ref (ad 55), .int x1, .int x2, .int x3] v r v' := by
  unfold f_X1_hasRange at hF
  refine jx_enteri bigT RX1 cX1_hasRange 4 (some .boolean) [(0, .ref (ad 55)), (1, .int x1), (2, .int x2), (3, .int x3)] hI (ex_X_ok adK adV A) (by decide +kernel) rfl (Nat.le_of_ble_eq_true rfl) rfl rfl ?_
  intro p e s m args below meth c E
  have iX1 : ∀ w ∈ u_ws RX1 TX1 3, w ∈ (Cond.code yX1_hasRange cX1_hasRange 4 (some .boolean) :: bigT) := fun w h => List.mem_cons_of_mem _ (uw_X1 w h)
  refine jx_iload_n E dX1_hasRange_0 2 rfl ?_
  refine jx_if_lt (tgt := 34) E dX1_hasRange_1 (by decide) (fun hc1 => ?_) (fun hc1 => ?_)
  · rw [if_pos hc1] at hF
    refine jx_iconst (x := 0) E dX1_hasRange_34 (by decide) ?_
    obtain ⟨rfl, rfl⟩ := jx_out hF
    exact jx_zret E dX1_hasRange_35 rfl (Or.inl rfl)
  · rw [if_neg hc1] at hF
    refine jx_iload_n E dX1_hasRange_4 3 rfl ?_
    refine jx_if_lt (tgt := 34) E dX1_hasRange_5 (by decide) (fun hc2 => ?_) (fun hc2 => ?_)
    · rw [if_pos hc2] at hF
      refine jx_iconst (x := 0) E dX1_hasRange_34 (by decide) ?_
      obtain ⟨rfl, rfl⟩ := jx_out hF
      exact jx_zret E dX1_hasRange_35 rfl (Or.inl rfl)
    · rw [if_neg hc2] at hF
      refine jx_iload_n E dX1_hasRange_8 2 rfl ?_
      refine jx_aload_n E dX1_hasRange_9 0 rfl ?_
      refine jx_getr (C := RX1) (T := TX1) (M := 3) (k := 2) E dX1_hasRange_10 (Nat.le_of_ble_eq_true rfl) s_X55 rfl iX1 (by decide) rfl (List.mem_cons_of_mem _ tw_90) rfl ?_
      refine jx_iload_n E dX1_hasRange_13 1 rfl ?_
      obtain ⟨hg3, hF⟩ := jx_guard hF
      refine jx_iald (h := 62) (j := (Int32.toNatClampNeg x1)) E dX1_hasRange_14 (Nat.le_of_ble_eq_true rfl) s_X62 hg3 rfl ?_
      refine jx_icmp_gt (tgt := 34) E dX1_hasRange_15 (by decide) (fun hc4 => ?_) (fun hc4 => ?_)
      · rw [if_pos hc4] at hF
        refine jx_iconst (x := 0) E dX1_hasRange_34 (by decide) ?_
        obtain ⟨rfl, rfl⟩ := jx_out hF
        exact jx_zret E dX1_hasRange_35 rfl (Or.inl rfl)
      · rw [if_neg hc4] at hF
        refine jx_iload_n E dX1_hasRange_18 3 rfl ?_
        refine jx_aload_n E dX1_hasRange_19 0 rfl ?_
        refine jx_getr (C := RX1) (T := TX1) (M := 3) (k := 2) E dX1_hasRange_20 (Nat.le_of_ble_eq_true rfl) s_X55 rfl iX1 (by decide) rfl (List.mem_cons_of_mem _ tw_90) rfl ?_
        refine jx_iload_n E dX1_hasRange_23 1 rfl ?_
        obtain ⟨hg5, hF⟩ := jx_guard hF
        refine jx_iald (h := 62) (j := (Int32.toNatClampNeg x1)) E dX1_hasRange_24 (Nat.le_of_ble_eq_true rfl) s_X62 hg5 rfl ?_
        refine jx_iload_n E dX1_hasRange_25 2 rfl ?_
        refine jx_isub E dX1_hasRange_26 ?_
        refine jx_icmp_gt (tgt := 34) E dX1_hasRange_27 (by decide) (fun hc6 => ?_) (fun hc6 => ?_)
        · rw [if_pos hc6] at hF
          refine jx_iconst (x := 0) E dX1_hasRange_34 (by decide) ?_
          obtain ⟨rfl, rfl⟩ := jx_out hF
          exact jx_zret E dX1_hasRange_35 rfl (Or.inl rfl)
        · rw [if_neg hc6] at hF
          refine jx_iconst (x := 1) E dX1_hasRange_30 (by decide) ?_
          refine jx_goto (tgt := 35) E dX1_hasRange_31 (by decide) ?_
          obtain ⟨rfl, rfl⟩ := jx_out hF
          exact jx_zret E dX1_hasRange_35 rfl (Or.inr rfl)
def f_X2_append (x1 : Int32) (v : jx_V) : Option (jx_V) := (if 120 ≤ (v 53 1) then (some v) else (if ((v 53 1) < 0 ∨ 120 ≤ Int32.toNatClampNeg (v 53 1)) then none else (some (jx_up (jx_up v 54 (Int32.toNatClampNeg (v 53 1)) x1) 53 1 (((jx_up v 54 (Int32.toNatClampNeg (v 53 1)) x1) 53 1) + 1)))))
def rm_X2_append : Room := { frames := 0, cells := 0, slots := 0, locals := 0 }
set_option maxHeartbeats 4000000 in
set_option maxRecDepth 100000 in
theorem k_X2_append {l : Launch} {D : va_G} {cI cJ : ClassId} {ad : Nat → Nat} {A : Nat → Prop} {adK adV : Nat → Nat} (hI : jx_inj 67 ad A) (x1 : Int32) (v : jx_V) (v' : jx_V) (hF : f_X2_append x1 v = some v') : jx_Cv l D vwCl 67 cI cJ ad shX A (ex_X adK adV A) yX2_append (Cond.code yX2_append cX2_append 2 (none) :: bigT) rm_X2_append [.ref (ad 53), .int x1] v v' := by
  unfold f_X2_append at hF
  refine jx_enterv bigT RX2 cX2_append 2 (none) [(0, .ref (ad 53)), (1, .int x1)] hI (ex_X_ok adK adV A) (by decide +kernel) rfl (Nat.le_of_ble_eq_true rfl) rfl rfl ?_
  intro p e s m args below meth c E
  have iX2 : ∀ w ∈ u_ws RX2 TX2 7, w ∈ (Cond.code yX2_append cX2_append 2 (none) :: bigT) := fun w h => List.mem_cons_of_mem _ (uw_X2 w h)
  refine jx_aload_n E dX2_append_0 0 rfl ?_
  refine jx_geti (C := RX2) (T := TX2) (M := 7) (k := 1) E dX2_append_1 (Nat.le_of_ble_eq_true rfl) s_X53 rfl iX2 (by decide) rfl (List.mem_cons_of_mem _ tw_92) rfl ?_
  refine jx_bipush (x := 120) E dX2_append_4 (by decide) ?_
  refine jx_icmp_ge (tgt := 29) E dX2_append_6 (by decide) (fun hc1 => ?_) (fun hc1 => ?_)
  · rw [if_pos hc1] at hF
    obtain rfl := Option.some.inj hF
    exact jx_vret E dX2_append_29 rfl
  · rw [if_neg hc1] at hF
    refine jx_aload_n E dX2_append_9 0 rfl ?_
    refine jx_getr (C := RX2) (T := TX2) (M := 7) (k := 0) E dX2_append_10 (Nat.le_of_ble_eq_true rfl) s_X53 rfl iX2 (by decide) rfl (List.mem_cons_of_mem _ tw_93) rfl ?_
    refine jx_aload_n E dX2_append_13 0 rfl ?_
    refine jx_geti (C := RX2) (T := TX2) (M := 7) (k := 1) E dX2_append_14 (Nat.le_of_ble_eq_true rfl) s_X53 rfl iX2 (by decide) rfl (List.mem_cons_of_mem _ tw_92) rfl ?_
    refine jx_iload_n E dX2_append_17 1 rfl ?_
    obtain ⟨hg2, hF⟩ := jx_guard hF
    refine jx_iast (h := 54) (j := (Int32.toNatClampNeg (v 53 1))) E dX2_append_18 (Nat.le_of_ble_eq_true rfl) s_X54 hg2 rfl ?_
    refine jx_aload_n E dX2_append_19 0 rfl ?_
    refine jx_dup E dX2_append_20 rfl ?_
    refine jx_geti (C := RX2) (T := TX2) (M := 7) (k := 1) E dX2_append_21 (Nat.le_of_ble_eq_true rfl) s_X53 rfl iX2 (by decide) rfl (List.mem_cons_of_mem _ tw_92) rfl ?_
    refine jx_iconst (x := 1) E dX2_append_24 (by decide) ?_
    refine jx_iadd E dX2_append_25 ?_
    refine jx_puti (C := RX2) (T := TX2) (M := 7) (k := 1) (ty := .int) E tyX2 dX2_append_26 (Nat.le_of_ble_eq_true rfl) s_X53 rfl iX2 (by decide) rfl (List.mem_cons_of_mem _ tw_92) tyX2_ok nmX2 rfl (by decide +kernel) rfl rfl rfl ?_
    obtain rfl := Option.some.inj hF
    exact jx_vret E dX2_append_29 rfl
def f_X2_sortAt (x1 : Int32) (v : jx_V) : Option (Int32 × jx_V) := (if x1 < 0 then (some (0, v)) else (if x1 < (v 53 1) then (if (x1 < 0 ∨ 120 ≤ Int32.toNatClampNeg x1) then none else (if (v 54 (Int32.toNatClampNeg x1)) < 97 then (if (v 54 (Int32.toNatClampNeg x1)) < 48 then (if (v 54 (Int32.toNatClampNeg x1)) = 59 then (some (3, v)) else (some (4, v))) else (if 57 < (v 54 (Int32.toNatClampNeg x1)) then (if (v 54 (Int32.toNatClampNeg x1)) = 59 then (some (3, v)) else (some (4, v))) else (some (2, v)))) else (if 122 < (v 54 (Int32.toNatClampNeg x1)) then (if (v 54 (Int32.toNatClampNeg x1)) < 48 then (if (v 54 (Int32.toNatClampNeg x1)) = 59 then (some (3, v)) else (some (4, v))) else (if 57 < (v 54 (Int32.toNatClampNeg x1)) then (if (v 54 (Int32.toNatClampNeg x1)) = 59 then (some (3, v)) else (some (4, v))) else (some (2, v)))) else (some (1, v))))) else (some (0, v))))
def rm_X2_sortAt : Room := { frames := 0, cells := 0, slots := 0, locals := 0 }
set_option maxHeartbeats 4000000 in
set_option maxRecDepth 100000 in
theorem k_X2_sortAt {l : Launch} {D : va_G} {cI cJ : ClassId} {ad : Nat → Nat} {A : Nat → Prop} {adK adV : Nat → Nat} (hI : jx_inj 67 ad A) (x1 : Int32) (v : jx_V) (r : Int32) (v' : jx_V) (hF : f_X2_sortAt x1 v = some (r, v')) : jx_Ci l D vwCl 67 cI cJ ad shX A (ex_X adK adV A) yX2_sortAt (Cond.code yX2_sortAt cX2_sortAt 3 (some .int) :: bigT) rm_X2_sortAt [.ref (ad 53), .int x1] v r v' := by
  unfold f_X2_sortAt at hF
  refine jx_enteri bigT RX2 cX2_sortAt 3 (some .int) [(0, .ref (ad 53)), (1, .int x1)] hI (ex_X_ok adK adV A) (by decide +kernel) rfl (Nat.le_of_ble_eq_true rfl) rfl rfl ?_
  intro p e s m args below meth c E
  have iX2 : ∀ w ∈ u_ws RX2 TX2 7, w ∈ (Cond.code yX2_sortAt cX2_sortAt 3 (some .int) :: bigT) := fun w h => List.mem_cons_of_mem _ (uw_X2 w h)
  refine jx_iload_n E dX2_sortAt_0 1 rfl ?_
  refine jx_if_lt (tgt := 12) E dX2_sortAt_1 (by decide) (fun hc1 => ?_) (fun hc1 => ?_)
  · rw [if_pos hc1] at hF
    refine jx_iconst (x := 0) E dX2_sortAt_12 (by decide) ?_
    obtain ⟨rfl, rfl⟩ := jx_out hF
    exact jx_iret E dX2_sortAt_13 rfl
  · rw [if_neg hc1] at hF
    refine jx_iload_n E dX2_sortAt_4 1 rfl ?_
    refine jx_aload_n E dX2_sortAt_5 0 rfl ?_
    refine jx_geti (C := RX2) (T := TX2) (M := 7) (k := 1) E dX2_sortAt_6 (Nat.le_of_ble_eq_true rfl) s_X53 rfl iX2 (by decide) rfl (List.mem_cons_of_mem _ tw_92) rfl ?_
    refine jx_icmp_lt (tgt := 14) E dX2_sortAt_9 (by decide) (fun hc2 => ?_) (fun hc2 => ?_)
    · rw [if_pos hc2] at hF
      refine jx_aload_n E dX2_sortAt_14 0 rfl ?_
      refine jx_getr (C := RX2) (T := TX2) (M := 7) (k := 0) E dX2_sortAt_15 (Nat.le_of_ble_eq_true rfl) s_X53 rfl iX2 (by decide) rfl (List.mem_cons_of_mem _ tw_93) rfl ?_
      refine jx_iload_n E dX2_sortAt_18 1 rfl ?_
      obtain ⟨hg3, hF⟩ := jx_guard hF
      refine jx_iald (h := 54) (j := (Int32.toNatClampNeg x1)) E dX2_sortAt_19 (Nat.le_of_ble_eq_true rfl) s_X54 hg3 rfl ?_
      refine jx_istore_n (lv' := [(2, .int (v 54 (Int32.toNatClampNeg x1))), (0, .ref (ad 53)), (1, .int x1)]) E dX2_sortAt_20 (by decide) rfl ?_
      refine jx_iload_n E dX2_sortAt_21 0 rfl ?_
      refine jx_bipush (x := 97) E dX2_sortAt_22 (by decide) ?_
      refine jx_icmp_lt (tgt := 35) E dX2_sortAt_24 (by decide) (fun hc4 => ?_) (fun hc4 => ?_)
      · rw [if_pos hc4] at hF
        refine jx_iload_n E dX2_sortAt_35 0 rfl ?_
        refine jx_bipush (x := 48) E dX2_sortAt_36 (by decide) ?_
        refine jx_icmp_lt (tgt := 49) E dX2_sortAt_38 (by decide) (fun hc5 => ?_) (fun hc5 => ?_)
        · rw [if_pos hc5] at hF
          refine jx_iload_n E dX2_sortAt_49 0 rfl ?_
          refine jx_bipush (x := 59) E dX2_sortAt_50 (by decide) ?_
          refine jx_icmp_ne (tgt := 59) E dX2_sortAt_52 (by decide) (fun hc6 => ?_) (fun hc6 => ?_)
          · rw [if_neg hc6] at hF
            refine jx_iconst (x := 4) E dX2_sortAt_59 (by decide) ?_
            obtain ⟨rfl, rfl⟩ := jx_out hF
            exact jx_iret E dX2_sortAt_60 rfl
          · rw [if_pos hc6] at hF
            refine jx_iconst (x := 3) E dX2_sortAt_55 (by decide) ?_
            refine jx_goto (tgt := 60) E dX2_sortAt_56 (by decide) ?_
            obtain ⟨rfl, rfl⟩ := jx_out hF
            exact jx_iret E dX2_sortAt_60 rfl
        · rw [if_neg hc5] at hF
          refine jx_iload_n E dX2_sortAt_41 0 rfl ?_
          refine jx_bipush (x := 57) E dX2_sortAt_42 (by decide) ?_
          refine jx_icmp_gt (tgt := 49) E dX2_sortAt_44 (by decide) (fun hc7 => ?_) (fun hc7 => ?_)
          · rw [if_pos hc7] at hF
            refine jx_iload_n E dX2_sortAt_49 0 rfl ?_
            refine jx_bipush (x := 59) E dX2_sortAt_50 (by decide) ?_
            refine jx_icmp_ne (tgt := 59) E dX2_sortAt_52 (by decide) (fun hc8 => ?_) (fun hc8 => ?_)
            · rw [if_neg hc8] at hF
              refine jx_iconst (x := 4) E dX2_sortAt_59 (by decide) ?_
              obtain ⟨rfl, rfl⟩ := jx_out hF
              exact jx_iret E dX2_sortAt_60 rfl
            · rw [if_pos hc8] at hF
              refine jx_iconst (x := 3) E dX2_sortAt_55 (by decide) ?_
              refine jx_goto (tgt := 60) E dX2_sortAt_56 (by decide) ?_
              obtain ⟨rfl, rfl⟩ := jx_out hF
              exact jx_iret E dX2_sortAt_60 rfl
          · rw [if_neg hc7] at hF
            refine jx_iconst (x := 2) E dX2_sortAt_47 (by decide) ?_
            obtain ⟨rfl, rfl⟩ := jx_out hF
            exact jx_iret E dX2_sortAt_48 rfl
      · rw [if_neg hc4] at hF
        refine jx_iload_n E dX2_sortAt_27 0 rfl ?_
        refine jx_bipush (x := 122) E dX2_sortAt_28 (by decide) ?_
        refine jx_icmp_gt (tgt := 35) E dX2_sortAt_30 (by decide) (fun hc9 => ?_) (fun hc9 => ?_)
        · rw [if_pos hc9] at hF
          refine jx_iload_n E dX2_sortAt_35 0 rfl ?_
          refine jx_bipush (x := 48) E dX2_sortAt_36 (by decide) ?_
          refine jx_icmp_lt (tgt := 49) E dX2_sortAt_38 (by decide) (fun hc10 => ?_) (fun hc10 => ?_)
          · rw [if_pos hc10] at hF
            refine jx_iload_n E dX2_sortAt_49 0 rfl ?_
            refine jx_bipush (x := 59) E dX2_sortAt_50 (by decide) ?_
            refine jx_icmp_ne (tgt := 59) E dX2_sortAt_52 (by decide) (fun hc11 => ?_) (fun hc11 => ?_)
            · rw [if_neg hc11] at hF
              refine jx_iconst (x := 4) E dX2_sortAt_59 (by decide) ?_
              obtain ⟨rfl, rfl⟩ := jx_out hF
              exact jx_iret E dX2_sortAt_60 rfl
            · rw [if_pos hc11] at hF
              refine jx_iconst (x := 3) E dX2_sortAt_55 (by decide) ?_
              refine jx_goto (tgt := 60) E dX2_sortAt_56 (by decide) ?_
              obtain ⟨rfl, rfl⟩ := jx_out hF
              exact jx_iret E dX2_sortAt_60 rfl
          · rw [if_neg hc10] at hF
            refine jx_iload_n E dX2_sortAt_41 0 rfl ?_
            refine jx_bipush (x := 57) E dX2_sortAt_42 (by decide) ?_
            refine jx_icmp_gt (tgt := 49) E dX2_sortAt_44 (by decide) (fun hc12 => ?_) (fun hc12 => ?_)
            · rw [if_pos hc12] at hF
              refine jx_iload_n E dX2_sortAt_49 0 rfl ?_
              refine jx_bipush (x := 59) E dX2_sortAt_50 (by decide) ?_
              refine jx_icmp_ne (tgt := 59) E dX2_sortAt_52 (by decide) (fun hc13 => ?_) (fun hc13 => ?_)
              · rw [if_neg hc13] at hF
                refine jx_iconst (x := 4) E dX2_sortAt_59 (by decide) ?_
                obtain ⟨rfl, rfl⟩ := jx_out hF
                exact jx_iret E dX2_sortAt_60 rfl
              · rw [if_pos hc13] at hF
                refine jx_iconst (x := 3) E dX2_sortAt_55 (by decide) ?_
                refine jx_goto (tgt := 60) E dX2_sortAt_56 (by decide) ?_
                obtain ⟨rfl, rfl⟩ := jx_out hF
                exact jx_iret E dX2_sortAt_60 rfl
            · rw [if_neg hc12] at hF
              refine jx_iconst (x := 2) E dX2_sortAt_47 (by decide) ?_
              obtain ⟨rfl, rfl⟩ := jx_out hF
              exact jx_iret E dX2_sortAt_48 rfl
        · rw [if_neg hc9] at hF
          refine jx_iconst (x := 1) E dX2_sortAt_33 (by decide) ?_
          obtain ⟨rfl, rfl⟩ := jx_out hF
          exact jx_iret E dX2_sortAt_34 rfl
    · rw [if_neg hc2] at hF
      refine jx_iconst (x := 0) E dX2_sortAt_12 (by decide) ?_
      obtain ⟨rfl, rfl⟩ := jx_out hF
      exact jx_iret E dX2_sortAt_13 rfl
def f_X2_nextToken_L  : Nat → Nat → jx_V → Option (jx_V)
  | 0, _, _ => none
  | n + 1, tag, v => (if tag = 0 then (if (v 53 1) ≤ (v 53 4) then ((f_X2_sortAt ((jx_up v 53 3 (v 53 4)) 53 3) (jx_up v 53 3 (v 53 4))).bind (fun (r2, v2) => (if ((jx_up (jx_up v2 53 2 r2) 53 5 0) 53 2) = 3 then (some (jx_up (jx_up (jx_up v2 53 2 r2) 53 5 0) 53 4 (((jx_up (jx_up v2 53 2 r2) 53 5 0) 53 4) + 1))) else (if ((jx_up (jx_up v2 53 2 r2) 53 5 0) 53 2) = 1 then (f_X2_nextToken_L n 1 (jx_up (jx_up v2 53 2 r2) 53 5 0)) else (if ((jx_up (jx_up v2 53 2 r2) 53 5 0) 53 2) = 2 then (f_X2_nextToken_L n 1 (jx_up (jx_up v2 53 2 r2) 53 5 0)) else (some (jx_up (jx_up v2 53 2 r2) 53 5 0))))))) else (if ((v 53 4) < 0 ∨ 120 ≤ Int32.toNatClampNeg (v 53 4)) then none else (if (v 54 (Int32.toNatClampNeg (v 53 4))) = 32 then (f_X2_nextToken_L n 0 (jx_up v 53 4 ((v 53 4) + 1))) else ((f_X2_sortAt ((jx_up v 53 3 (v 53 4)) 53 3) (jx_up v 53 3 (v 53 4))).bind (fun (r8, v8) => (if ((jx_up (jx_up v8 53 2 r8) 53 5 0) 53 2) = 3 then (some (jx_up (jx_up (jx_up v8 53 2 r8) 53 5 0) 53 4 (((jx_up (jx_up v8 53 2 r8) 53 5 0) 53 4) + 1))) else (if ((jx_up (jx_up v8 53 2 r8) 53 5 0) 53 2) = 1 then (f_X2_nextToken_L n 1 (jx_up (jx_up v8 53 2 r8) 53 5 0)) else (if ((jx_up (jx_up v8 53 2 r8) 53 5 0) 53 2) = 2 then (f_X2_nextToken_L n 1 (jx_up (jx_up v8 53 2 r8) 53 5 0)) else (some (jx_up (jx_up v8 53 2 r8) 53 5 0)))))))))) else (if tag = 1 then (if (v 53 1) ≤ (v 53 4) then (some v) else ((f_X2_sortAt (v 53 4) v).bind (fun (r13, v13) => (if r13 = (v13 53 2) then (if (v13 53 2) = 2 then (if ((v13 53 4) < 0 ∨ 120 ≤ Int32.toNatClampNeg (v13 53 4)) then none else ((f_J9_min_7cf53 1000 (((10 * (v13 53 5)) + (v13 54 (Int32.toNatClampNeg (v13 53 4)))) - 48) v13).bind (fun (r17, v17) => (f_X2_nextToken_L n 1 (jx_up (jx_up v17 53 5 r17) 53 4 (((jx_up v17 53 5 r17) 53 4) + 1)))))) else (f_X2_nextToken_L n 1 (jx_up (jx_up v13 53 5 0) 53 4 (((jx_up v13 53 5 0) 53 4) + 1)))) else (some v13))))) else none))
def f_X2_nextToken  (v : jx_V) : Option (jx_V) := (f_X2_nextToken_L 100000 0 v)
def rm_X2_nextToken : Room := { frames := 1, cells := 0, slots := 0, locals := 22 }
set_option maxHeartbeats 4000000 in
set_option maxRecDepth 100000 in
theorem k_X2_nextToken {l : Launch} {D : va_G} {cI cJ : ClassId} {ad : Nat → Nat} {A : Nat → Prop} {adK adV : Nat → Nat} (hI : jx_inj 67 ad A)  (v : jx_V) (v' : jx_V) (hF : f_X2_nextToken  v = some v') : jx_Cv l D vwCl 67 cI cJ ad shX A (ex_X adK adV A) yX2_nextToken (Cond.code yX2_nextToken cX2_nextToken 1 (none) :: bigT) rm_X2_nextToken [.ref (ad 53)] v v' := by
  unfold f_X2_nextToken at hF
  refine jx_enterv bigT RX2 cX2_nextToken 1 (none) [(0, .ref (ad 53))] hI (ex_X_ok adK adV A) (by decide +kernel) rfl (Nat.le_of_ble_eq_true rfl) rfl rfl ?_
  intro p e s m args below meth c E
  have iX2 : ∀ w ∈ u_ws RX2 TX2 7, w ∈ (Cond.code yX2_nextToken cX2_nextToken 1 (none) :: bigT) := fun w h => List.mem_cons_of_mem _ (uw_X2 w h)
  have key : ∀ n : Nat, (∀  (v : jx_V), f_X2_nextToken_L  n 0  v = some v' → jx_J p l e rm_X2_nextToken s m args below meth c D vwCl 67 cI cJ ad shX A 0 0 1 (MQ below (va_Qv (fun (_ : Unit) => True) (fun _ t => va_P D vwCl (jx_ws 67 cI cJ ad shX v') t.heap) A) args s 0 0 A) v 0 [(0, .ref (ad 53))] []) ∧ (∀  (v : jx_V), f_X2_nextToken_L  n 1  v = some v' → jx_J p l e rm_X2_nextToken s m args below meth c D vwCl 67 cI cJ ad shX A 0 0 1 (MQ below (va_Qv (fun (_ : Unit) => True) (fun _ t => va_P D vwCl (jx_ws 67 cI cJ ad shX v') t.heap) A) args s 0 0 A) v 100 [(0, .ref (ad 53))] []) := by
    intro n
    induction n with
    | zero =>
      exact ⟨(fun _ h => by cases h), (fun _ h => by cases h)⟩
    | succ n ih =>
      refine ⟨?_, ?_⟩
      · intro  v hF
        rw [f_X2_nextToken_L] at hF
        rw [if_pos rfl] at hF
        refine jx_aload_n E dX2_nextToken_0 0 rfl ?_
        refine jx_geti (C := RX2) (T := TX2) (M := 7) (k := 4) E dX2_nextToken_1 (Nat.le_of_ble_eq_true rfl) s_X53 rfl iX2 (by decide) rfl (List.mem_cons_of_mem _ tw_94) rfl ?_
        refine jx_aload_n E dX2_nextToken_4 0 rfl ?_
        refine jx_geti (C := RX2) (T := TX2) (M := 7) (k := 1) E dX2_nextToken_5 (Nat.le_of_ble_eq_true rfl) s_X53 rfl iX2 (by decide) rfl (List.mem_cons_of_mem _ tw_92) rfl ?_
        refine jx_icmp_ge (tgt := 38) E dX2_nextToken_8 (by decide) (fun hc1 => ?_) (fun hc1 => ?_)
        · rw [if_pos hc1] at hF
          refine jx_aload_n E dX2_nextToken_38 0 rfl ?_
          refine jx_aload_n E dX2_nextToken_39 0 rfl ?_
          refine jx_geti (C := RX2) (T := TX2) (M := 7) (k := 4) E dX2_nextToken_40 (Nat.le_of_ble_eq_true rfl) s_X53 rfl iX2 (by decide) rfl (List.mem_cons_of_mem _ tw_94) rfl ?_
          refine jx_puti (C := RX2) (T := TX2) (M := 7) (k := 3) (ty := .int) E tyX2 dX2_nextToken_43 (Nat.le_of_ble_eq_true rfl) s_X53 rfl iX2 (by decide) rfl (List.mem_cons_of_mem _ tw_95) tyX2_ok nmX2 rfl (by decide +kernel) rfl rfl rfl ?_
          refine jx_aload_n E dX2_nextToken_46 0 rfl ?_
          refine jx_aload_n E dX2_nextToken_47 0 rfl ?_
          refine jx_aload_n E dX2_nextToken_48 0 rfl ?_
          refine jx_geti (C := RX2) (T := TX2) (M := 7) (k := 3) E dX2_nextToken_49 (Nat.le_of_ble_eq_true rfl) s_X53 rfl iX2 (by decide) rfl (List.mem_cons_of_mem _ tw_95) rfl ?_
          obtain ⟨⟨r2, v2⟩, hc2, hF⟩ := jx_bind hF
          try dsimp only at hF
          refine jx_callVi (As := [.int ((jx_up v 53 3 (v 53 4)) 53 3)]) (st := [.ref (ad 53)]) (h := 53) E dX2_nextToken_52 1 rfl (k_X2_sortAt hI ((jx_up v 53 3 (v 53 4)) 53 3) (jx_up v 53 3 (v 53 4)) r2 v2 hc2) (gb_V (List.mem_cons_of_mem _ tw_97) (List.mem_cons_of_mem _ tw_98) (List.mem_cons_of_mem _ tw_99) (List.mem_cons_of_mem _ tw_100) tw_96) rfl rfl rfl dd_X2_sortAt rfl (Nat.le_of_ble_eq_true rfl) s_X53 rfl ⟨by decide, by decide⟩ ⟨Nat.le_refl 0, Nat.le_refl 0⟩ (Nat.le_of_ble_eq_true rfl) ?_
          refine jx_puti (C := RX2) (T := TX2) (M := 7) (k := 2) (ty := .int) E tyX2 dX2_nextToken_55 (Nat.le_of_ble_eq_true rfl) s_X53 rfl iX2 (by decide) rfl (List.mem_cons_of_mem _ tw_101) tyX2_ok nmX2 rfl (by decide +kernel) rfl rfl rfl ?_
          refine jx_aload_n E dX2_nextToken_58 0 rfl ?_
          refine jx_iconst (x := 0) E dX2_nextToken_59 (by decide) ?_
          refine jx_puti (C := RX2) (T := TX2) (M := 7) (k := 5) (ty := .int) E tyX2 dX2_nextToken_60 (Nat.le_of_ble_eq_true rfl) s_X53 rfl iX2 (by decide) rfl (List.mem_cons_of_mem _ tw_102) tyX2_ok nmX2 rfl (by decide +kernel) rfl rfl rfl ?_
          refine jx_aload_n E dX2_nextToken_63 0 rfl ?_
          refine jx_geti (C := RX2) (T := TX2) (M := 7) (k := 2) E dX2_nextToken_64 (Nat.le_of_ble_eq_true rfl) s_X53 rfl iX2 (by decide) rfl (List.mem_cons_of_mem _ tw_101) rfl ?_
          refine jx_iconst (x := 3) E dX2_nextToken_67 (by decide) ?_
          refine jx_icmp_ne (tgt := 84) E dX2_nextToken_68 (by decide) (fun hc3 => ?_) (fun hc3 => ?_)
          · rw [if_neg hc3] at hF
            refine jx_aload_n E dX2_nextToken_84 0 rfl ?_
            refine jx_geti (C := RX2) (T := TX2) (M := 7) (k := 2) E dX2_nextToken_85 (Nat.le_of_ble_eq_true rfl) s_X53 rfl iX2 (by decide) rfl (List.mem_cons_of_mem _ tw_101) rfl ?_
            refine jx_iconst (x := 1) E dX2_nextToken_88 (by decide) ?_
            refine jx_icmp_eq (tgt := 100) E dX2_nextToken_89 (by decide) (fun hc4 => ?_) (fun hc4 => ?_)
            · rw [if_pos hc4] at hF
              refine jx_sub [0] rfl ?_
              exact ih.2  (jx_up (jx_up v2 53 2 r2) 53 5 0) hF
            · rw [if_neg hc4] at hF
              refine jx_aload_n E dX2_nextToken_92 0 rfl ?_
              refine jx_geti (C := RX2) (T := TX2) (M := 7) (k := 2) E dX2_nextToken_93 (Nat.le_of_ble_eq_true rfl) s_X53 rfl iX2 (by decide) rfl (List.mem_cons_of_mem _ tw_101) rfl ?_
              refine jx_iconst (x := 2) E dX2_nextToken_96 (by decide) ?_
              refine jx_icmp_ne (tgt := 181) E dX2_nextToken_97 (by decide) (fun hc5 => ?_) (fun hc5 => ?_)
              · rw [if_neg hc5] at hF
                obtain rfl := Option.some.inj hF
                exact jx_vret E dX2_nextToken_181 rfl
              · rw [if_pos hc5] at hF
                refine jx_sub [0] rfl ?_
                exact ih.2  (jx_up (jx_up v2 53 2 r2) 53 5 0) hF
          · rw [if_pos hc3] at hF
            refine jx_aload_n E dX2_nextToken_71 0 rfl ?_
            refine jx_dup E dX2_nextToken_72 rfl ?_
            refine jx_geti (C := RX2) (T := TX2) (M := 7) (k := 4) E dX2_nextToken_73 (Nat.le_of_ble_eq_true rfl) s_X53 rfl iX2 (by decide) rfl (List.mem_cons_of_mem _ tw_94) rfl ?_
            refine jx_iconst (x := 1) E dX2_nextToken_76 (by decide) ?_
            refine jx_iadd E dX2_nextToken_77 ?_
            refine jx_puti (C := RX2) (T := TX2) (M := 7) (k := 4) (ty := .int) E tyX2 dX2_nextToken_78 (Nat.le_of_ble_eq_true rfl) s_X53 rfl iX2 (by decide) rfl (List.mem_cons_of_mem _ tw_94) tyX2_ok nmX2 rfl (by decide +kernel) rfl rfl rfl ?_
            refine jx_goto (tgt := 181) E dX2_nextToken_81 (by decide) ?_
            obtain rfl := Option.some.inj hF
            exact jx_vret E dX2_nextToken_181 rfl
        · rw [if_neg hc1] at hF
          refine jx_aload_n E dX2_nextToken_11 0 rfl ?_
          refine jx_getr (C := RX2) (T := TX2) (M := 7) (k := 0) E dX2_nextToken_12 (Nat.le_of_ble_eq_true rfl) s_X53 rfl iX2 (by decide) rfl (List.mem_cons_of_mem _ tw_93) rfl ?_
          refine jx_aload_n E dX2_nextToken_15 0 rfl ?_
          refine jx_geti (C := RX2) (T := TX2) (M := 7) (k := 4) E dX2_nextToken_16 (Nat.le_of_ble_eq_true rfl) s_X53 rfl iX2 (by decide) rfl (List.mem_cons_of_mem _ tw_94) rfl ?_
          obtain ⟨hg6, hF⟩ := jx_guard hF
          refine jx_iald (h := 54) (j := (Int32.toNatClampNeg (v 53 4))) E dX2_nextToken_19 (Nat.le_of_ble_eq_true rfl) s_X54 hg6 rfl ?_
          refine jx_bipush (x := 32) E dX2_nextToken_20 (by decide) ?_
          refine jx_icmp_ne (tgt := 38) E dX2_nextToken_22 (by decide) (fun hc7 => ?_) (fun hc7 => ?_)
          · rw [if_neg hc7] at hF
            refine jx_aload_n E dX2_nextToken_38 0 rfl ?_
            refine jx_aload_n E dX2_nextToken_39 0 rfl ?_
            refine jx_geti (C := RX2) (T := TX2) (M := 7) (k := 4) E dX2_nextToken_40 (Nat.le_of_ble_eq_true rfl) s_X53 rfl iX2 (by decide) rfl (List.mem_cons_of_mem _ tw_94) rfl ?_
            refine jx_puti (C := RX2) (T := TX2) (M := 7) (k := 3) (ty := .int) E tyX2 dX2_nextToken_43 (Nat.le_of_ble_eq_true rfl) s_X53 rfl iX2 (by decide) rfl (List.mem_cons_of_mem _ tw_95) tyX2_ok nmX2 rfl (by decide +kernel) rfl rfl rfl ?_
            refine jx_aload_n E dX2_nextToken_46 0 rfl ?_
            refine jx_aload_n E dX2_nextToken_47 0 rfl ?_
            refine jx_aload_n E dX2_nextToken_48 0 rfl ?_
            refine jx_geti (C := RX2) (T := TX2) (M := 7) (k := 3) E dX2_nextToken_49 (Nat.le_of_ble_eq_true rfl) s_X53 rfl iX2 (by decide) rfl (List.mem_cons_of_mem _ tw_95) rfl ?_
            obtain ⟨⟨r8, v8⟩, hc8, hF⟩ := jx_bind hF
            try dsimp only at hF
            refine jx_callVi (As := [.int ((jx_up v 53 3 (v 53 4)) 53 3)]) (st := [.ref (ad 53)]) (h := 53) E dX2_nextToken_52 1 rfl (k_X2_sortAt hI ((jx_up v 53 3 (v 53 4)) 53 3) (jx_up v 53 3 (v 53 4)) r8 v8 hc8) (gb_V (List.mem_cons_of_mem _ tw_97) (List.mem_cons_of_mem _ tw_98) (List.mem_cons_of_mem _ tw_99) (List.mem_cons_of_mem _ tw_100) tw_96) rfl rfl rfl dd_X2_sortAt rfl (Nat.le_of_ble_eq_true rfl) s_X53 rfl ⟨by decide, by decide⟩ ⟨Nat.le_refl 0, Nat.le_refl 0⟩ (Nat.le_of_ble_eq_true rfl) ?_
            refine jx_puti (C := RX2) (T := TX2) (M := 7) (k := 2) (ty := .int) E tyX2 dX2_nextToken_55 (Nat.le_of_ble_eq_true rfl) s_X53 rfl iX2 (by decide) rfl (List.mem_cons_of_mem _ tw_101) tyX2_ok nmX2 rfl (by decide +kernel) rfl rfl rfl ?_
            refine jx_aload_n E dX2_nextToken_58 0 rfl ?_
            refine jx_iconst (x := 0) E dX2_nextToken_59 (by decide) ?_
            refine jx_puti (C := RX2) (T := TX2) (M := 7) (k := 5) (ty := .int) E tyX2 dX2_nextToken_60 (Nat.le_of_ble_eq_true rfl) s_X53 rfl iX2 (by decide) rfl (List.mem_cons_of_mem _ tw_102) tyX2_ok nmX2 rfl (by decide +kernel) rfl rfl rfl ?_
            refine jx_aload_n E dX2_nextToken_63 0 rfl ?_
            refine jx_geti (C := RX2) (T := TX2) (M := 7) (k := 2) E dX2_nextToken_64 (Nat.le_of_ble_eq_true rfl) s_X53 rfl iX2 (by decide) rfl (List.mem_cons_of_mem _ tw_101) rfl ?_
            refine jx_iconst (x := 3) E dX2_nextToken_67 (by decide) ?_
            refine jx_icmp_ne (tgt := 84) E dX2_nextToken_68 (by decide) (fun hc9 => ?_) (fun hc9 => ?_)
            · rw [if_neg hc9] at hF
              refine jx_aload_n E dX2_nextToken_84 0 rfl ?_
              refine jx_geti (C := RX2) (T := TX2) (M := 7) (k := 2) E dX2_nextToken_85 (Nat.le_of_ble_eq_true rfl) s_X53 rfl iX2 (by decide) rfl (List.mem_cons_of_mem _ tw_101) rfl ?_
              refine jx_iconst (x := 1) E dX2_nextToken_88 (by decide) ?_
              refine jx_icmp_eq (tgt := 100) E dX2_nextToken_89 (by decide) (fun hc10 => ?_) (fun hc10 => ?_)
              · rw [if_pos hc10] at hF
                refine jx_sub [0] rfl ?_
                exact ih.2  (jx_up (jx_up v8 53 2 r8) 53 5 0) hF
              · rw [if_neg hc10] at hF
                refine jx_aload_n E dX2_nextToken_92 0 rfl ?_
                refine jx_geti (C := RX2) (T := TX2) (M := 7) (k := 2) E dX2_nextToken_93 (Nat.le_of_ble_eq_true rfl) s_X53 rfl iX2 (by decide) rfl (List.mem_cons_of_mem _ tw_101) rfl ?_
                refine jx_iconst (x := 2) E dX2_nextToken_96 (by decide) ?_
                refine jx_icmp_ne (tgt := 181) E dX2_nextToken_97 (by decide) (fun hc11 => ?_) (fun hc11 => ?_)
                · rw [if_neg hc11] at hF
                  obtain rfl := Option.some.inj hF
                  exact jx_vret E dX2_nextToken_181 rfl
                · rw [if_pos hc11] at hF
                  refine jx_sub [0] rfl ?_
                  exact ih.2  (jx_up (jx_up v8 53 2 r8) 53 5 0) hF
            · rw [if_pos hc9] at hF
              refine jx_aload_n E dX2_nextToken_71 0 rfl ?_
              refine jx_dup E dX2_nextToken_72 rfl ?_
              refine jx_geti (C := RX2) (T := TX2) (M := 7) (k := 4) E dX2_nextToken_73 (Nat.le_of_ble_eq_true rfl) s_X53 rfl iX2 (by decide) rfl (List.mem_cons_of_mem _ tw_94) rfl ?_
              refine jx_iconst (x := 1) E dX2_nextToken_76 (by decide) ?_
              refine jx_iadd E dX2_nextToken_77 ?_
              refine jx_puti (C := RX2) (T := TX2) (M := 7) (k := 4) (ty := .int) E tyX2 dX2_nextToken_78 (Nat.le_of_ble_eq_true rfl) s_X53 rfl iX2 (by decide) rfl (List.mem_cons_of_mem _ tw_94) tyX2_ok nmX2 rfl (by decide +kernel) rfl rfl rfl ?_
              refine jx_goto (tgt := 181) E dX2_nextToken_81 (by decide) ?_
              obtain rfl := Option.some.inj hF
              exact jx_vret E dX2_nextToken_181 rfl
          · rw [if_pos hc7] at hF
            refine jx_aload_n E dX2_nextToken_25 0 rfl ?_
            refine jx_dup E dX2_nextToken_26 rfl ?_
            refine jx_geti (C := RX2) (T := TX2) (M := 7) (k := 4) E dX2_nextToken_27 (Nat.le_of_ble_eq_true rfl) s_X53 rfl iX2 (by decide) rfl (List.mem_cons_of_mem _ tw_94) rfl ?_
            refine jx_iconst (x := 1) E dX2_nextToken_30 (by decide) ?_
            refine jx_iadd E dX2_nextToken_31 ?_
            refine jx_puti (C := RX2) (T := TX2) (M := 7) (k := 4) (ty := .int) E tyX2 dX2_nextToken_32 (Nat.le_of_ble_eq_true rfl) s_X53 rfl iX2 (by decide) rfl (List.mem_cons_of_mem _ tw_94) tyX2_ok nmX2 rfl (by decide +kernel) rfl rfl rfl ?_
            refine jx_goto (tgt := 0) E dX2_nextToken_35 (by decide) ?_
            refine jx_sub [0] rfl ?_
            exact ih.1  (jx_up v 53 4 ((v 53 4) + 1)) hF
      · intro  v hF
        rw [f_X2_nextToken_L] at hF
        rw [if_neg (by decide), if_pos rfl] at hF
        refine jx_aload_n E dX2_nextToken_100 0 rfl ?_
        refine jx_geti (C := RX2) (T := TX2) (M := 7) (k := 4) E dX2_nextToken_101 (Nat.le_of_ble_eq_true rfl) s_X53 rfl iX2 (by decide) rfl (List.mem_cons_of_mem _ tw_94) rfl ?_
        refine jx_aload_n E dX2_nextToken_104 0 rfl ?_
        refine jx_geti (C := RX2) (T := TX2) (M := 7) (k := 1) E dX2_nextToken_105 (Nat.le_of_ble_eq_true rfl) s_X53 rfl iX2 (by decide) rfl (List.mem_cons_of_mem _ tw_92) rfl ?_
        refine jx_icmp_ge (tgt := 181) E dX2_nextToken_108 (by decide) (fun hc12 => ?_) (fun hc12 => ?_)
        · rw [if_pos hc12] at hF
          obtain rfl := Option.some.inj hF
          exact jx_vret E dX2_nextToken_181 rfl
        · rw [if_neg hc12] at hF
          refine jx_aload_n E dX2_nextToken_111 0 rfl ?_
          refine jx_aload_n E dX2_nextToken_112 0 rfl ?_
          refine jx_geti (C := RX2) (T := TX2) (M := 7) (k := 4) E dX2_nextToken_113 (Nat.le_of_ble_eq_true rfl) s_X53 rfl iX2 (by decide) rfl (List.mem_cons_of_mem _ tw_94) rfl ?_
          obtain ⟨⟨r13, v13⟩, hc13, hF⟩ := jx_bind hF
          try dsimp only at hF
          refine jx_callVi (As := [.int (v 53 4)]) (st := []) (h := 53) E dX2_nextToken_116 1 rfl (k_X2_sortAt hI (v 53 4) v r13 v13 hc13) (gb_V (List.mem_cons_of_mem _ tw_97) (List.mem_cons_of_mem _ tw_98) (List.mem_cons_of_mem _ tw_99) (List.mem_cons_of_mem _ tw_100) tw_96) rfl rfl rfl dd_X2_sortAt rfl (Nat.le_of_ble_eq_true rfl) s_X53 rfl ⟨by decide, by decide⟩ ⟨Nat.le_refl 0, Nat.le_refl 0⟩ (Nat.le_of_ble_eq_true rfl) ?_
          refine jx_aload_n E dX2_nextToken_119 0 rfl ?_
          refine jx_geti (C := RX2) (T := TX2) (M := 7) (k := 2) E dX2_nextToken_120 (Nat.le_of_ble_eq_true rfl) s_X53 rfl iX2 (by decide) rfl (List.mem_cons_of_mem _ tw_101) rfl ?_
          refine jx_icmp_ne (tgt := 181) E dX2_nextToken_123 (by decide) (fun hc14 => ?_) (fun hc14 => ?_)
          · rw [if_neg hc14] at hF
            obtain rfl := Option.some.inj hF
            exact jx_vret E dX2_nextToken_181 rfl
          · rw [if_pos hc14] at hF
            refine jx_aload_n E dX2_nextToken_126 0 rfl ?_
            refine jx_aload_n E dX2_nextToken_127 0 rfl ?_
            refine jx_geti (C := RX2) (T := TX2) (M := 7) (k := 2) E dX2_nextToken_128 (Nat.le_of_ble_eq_true rfl) s_X53 rfl iX2 (by decide) rfl (List.mem_cons_of_mem _ tw_101) rfl ?_
            refine jx_iconst (x := 2) E dX2_nextToken_131 (by decide) ?_
            refine jx_icmp_ne (tgt := 164) E dX2_nextToken_132 (by decide) (fun hc15 => ?_) (fun hc15 => ?_)
            · rw [if_neg hc15] at hF
              refine jx_iconst (x := 0) E dX2_nextToken_164 (by decide) ?_
              refine jx_puti (C := RX2) (T := TX2) (M := 7) (k := 5) (ty := .int) E tyX2 dX2_nextToken_165 (Nat.le_of_ble_eq_true rfl) s_X53 rfl iX2 (by decide) rfl (List.mem_cons_of_mem _ tw_102) tyX2_ok nmX2 rfl (by decide +kernel) rfl rfl rfl ?_
              refine jx_aload_n E dX2_nextToken_168 0 rfl ?_
              refine jx_dup E dX2_nextToken_169 rfl ?_
              refine jx_geti (C := RX2) (T := TX2) (M := 7) (k := 4) E dX2_nextToken_170 (Nat.le_of_ble_eq_true rfl) s_X53 rfl iX2 (by decide) rfl (List.mem_cons_of_mem _ tw_94) rfl ?_
              refine jx_iconst (x := 1) E dX2_nextToken_173 (by decide) ?_
              refine jx_iadd E dX2_nextToken_174 ?_
              refine jx_puti (C := RX2) (T := TX2) (M := 7) (k := 4) (ty := .int) E tyX2 dX2_nextToken_175 (Nat.le_of_ble_eq_true rfl) s_X53 rfl iX2 (by decide) rfl (List.mem_cons_of_mem _ tw_94) tyX2_ok nmX2 rfl (by decide +kernel) rfl rfl rfl ?_
              refine jx_goto (tgt := 100) E dX2_nextToken_178 (by decide) ?_
              refine jx_sub [0] rfl ?_
              exact ih.2  (jx_up (jx_up v13 53 5 0) 53 4 (((jx_up v13 53 5 0) 53 4) + 1)) hF
            · rw [if_pos hc15] at hF
              refine jx_sipush (x := 1000) E dX2_nextToken_135 (by decide) ?_
              refine jx_bipush (x := 10) E dX2_nextToken_138 (by decide) ?_
              refine jx_aload_n E dX2_nextToken_140 0 rfl ?_
              refine jx_geti (C := RX2) (T := TX2) (M := 7) (k := 5) E dX2_nextToken_141 (Nat.le_of_ble_eq_true rfl) s_X53 rfl iX2 (by decide) rfl (List.mem_cons_of_mem _ tw_102) rfl ?_
              refine jx_imul E dX2_nextToken_144 ?_
              refine jx_aload_n E dX2_nextToken_145 0 rfl ?_
              refine jx_getr (C := RX2) (T := TX2) (M := 7) (k := 0) E dX2_nextToken_146 (Nat.le_of_ble_eq_true rfl) s_X53 rfl iX2 (by decide) rfl (List.mem_cons_of_mem _ tw_93) rfl ?_
              refine jx_aload_n E dX2_nextToken_149 0 rfl ?_
              refine jx_geti (C := RX2) (T := TX2) (M := 7) (k := 4) E dX2_nextToken_150 (Nat.le_of_ble_eq_true rfl) s_X53 rfl iX2 (by decide) rfl (List.mem_cons_of_mem _ tw_94) rfl ?_
              obtain ⟨hg16, hF⟩ := jx_guard hF
              refine jx_iald (h := 54) (j := (Int32.toNatClampNeg (v13 53 4))) E dX2_nextToken_153 (Nat.le_of_ble_eq_true rfl) s_X54 hg16 rfl ?_
              refine jx_iadd E dX2_nextToken_154 ?_
              refine jx_bipush (x := 48) E dX2_nextToken_155 (by decide) ?_
              refine jx_isub E dX2_nextToken_157 ?_
              obtain ⟨⟨r17, v17⟩, hc17, hF⟩ := jx_bind hF
              try dsimp only at hF
              refine jx_callTi (As := [.int 1000, .int (((10 * (v13 53 5)) + (v13 54 (Int32.toNatClampNeg (v13 53 4)))) - 48)]) (st := [.ref (ad 53)]) E dX2_nextToken_158 2 rfl (k_J9_min_7cf53 hI 1000 (((10 * (v13 53 5)) + (v13 54 (Int32.toNatClampNeg (v13 53 4)))) - 48) v13 r17 v17 hc17) (gb_N tw_34) rfl rfl rfl (List.mem_cons_of_mem _ tw_103) (List.mem_cons_of_mem _ tw_36) (List.mem_cons_of_mem _ tw_37) dd_J9_min_7cf53.2 rfl ⟨by decide, by decide⟩ ⟨Nat.le_refl 0, Nat.le_refl 0⟩ (Nat.le_of_ble_eq_true rfl) ?_
              refine jx_goto (tgt := 165) E dX2_nextToken_161 (by decide) ?_
              refine jx_puti (C := RX2) (T := TX2) (M := 7) (k := 5) (ty := .int) E tyX2 dX2_nextToken_165 (Nat.le_of_ble_eq_true rfl) s_X53 rfl iX2 (by decide) rfl (List.mem_cons_of_mem _ tw_102) tyX2_ok nmX2 rfl (by decide +kernel) rfl rfl rfl ?_
              refine jx_aload_n E dX2_nextToken_168 0 rfl ?_
              refine jx_dup E dX2_nextToken_169 rfl ?_
              refine jx_geti (C := RX2) (T := TX2) (M := 7) (k := 4) E dX2_nextToken_170 (Nat.le_of_ble_eq_true rfl) s_X53 rfl iX2 (by decide) rfl (List.mem_cons_of_mem _ tw_94) rfl ?_
              refine jx_iconst (x := 1) E dX2_nextToken_173 (by decide) ?_
              refine jx_iadd E dX2_nextToken_174 ?_
              refine jx_puti (C := RX2) (T := TX2) (M := 7) (k := 4) (ty := .int) E tyX2 dX2_nextToken_175 (Nat.le_of_ble_eq_true rfl) s_X53 rfl iX2 (by decide) rfl (List.mem_cons_of_mem _ tw_94) tyX2_ok nmX2 rfl (by decide +kernel) rfl rfl rfl ?_
              refine jx_goto (tgt := 100) E dX2_nextToken_178 (by decide) ?_
              refine jx_sub [0] rfl ?_
              exact ih.2  (jx_up (jx_up v17 53 5 r17) 53 4 (((jx_up v17 53 5 r17) 53 4) + 1)) hF
  refine jx_sub [0] rfl ?_
  exact (key 100000).1  v hF
def f_X2_isWord_L (w1 : Nat) : Nat → Int32 → jx_V → Option (Int32 × jx_V)
  | 0, _, _ => none
  | n + 1, x2, v => ((f_J0_length_8abf5 w1 v).bind (fun (r4, v4) => (if r4 ≤ x2 then (some (1, v4)) else (if (((v4 53 3) + x2) < 0 ∨ 120 ≤ Int32.toNatClampNeg ((v4 53 3) + x2)) then none else ((f_J0_charAt_5068e w1 x2 v4).bind (fun (r7, v7) => (if (v4 54 (Int32.toNatClampNeg ((v4 53 3) + x2))) = r7 then (f_X2_isWord_L w1 n (x2 + 1) v7) else (some (0, v7)))))))))
def f_X2_isWord (w1 : Nat) (v : jx_V) : Option (Int32 × jx_V) := (if (v 53 2) = 1 then ((f_J0_length_8abf5 w1 v).bind (fun (r2, v2) => (if ((v 53 4) - (v 53 3)) = r2 then (f_X2_isWord_L w1 100000 0 v2) else (some (0, v2))))) else (some (0, v)))
def rm_X2_isWord : Room := { frames := 4, cells := 0, slots := 0, locals := 85 }
set_option maxHeartbeats 4000000 in
set_option maxRecDepth 100000 in
theorem k_X2_isWord {l : Launch} {D : va_G} {cI cJ : ClassId} {ad : Nat → Nat} {A : Nat → Prop} {adK adV : Nat → Nat} (hI : jx_inj 67 ad A) (w1 : Nat) (hw1 : w1 < 17) (v : jx_V) (r : Int32) (v' : jx_V) (hF : f_X2_isWord w1 v = some (r, v')) : jx_Ci l D vwCl 67 cI cJ ad shX A (ex_X adK adV A) yX2_isWord (Cond.code yX2_isWord cX2_isWord 3 (some .boolean) :: bigT) rm_X2_isWord [.ref (ad 53), .ref (adK w1)] v r v' := by
  unfold f_X2_isWord at hF
  refine jx_enteri bigT RX2 cX2_isWord 3 (some .boolean) [(0, .ref (ad 53)), (1, .ref (adK w1))] hI (ex_X_ok adK adV A) (by decide +kernel) rfl (Nat.le_of_ble_eq_true rfl) rfl rfl ?_
  intro p e s m args below meth c E
  have iX2 : ∀ w ∈ u_ws RX2 TX2 7, w ∈ (Cond.code yX2_isWord cX2_isWord 3 (some .boolean) :: bigT) := fun w h => List.mem_cons_of_mem _ (uw_X2 w h)
  have key : ∀ n : Nat, (∀ (x2 : Int32) (v : jx_V), f_X2_isWord_L w1 n  x2 v = some (r, v') → jx_J p l e rm_X2_isWord s m args below meth c D vwCl 67 cI cJ ad shX A 0 0 3 (MQ below (va_Qi (fun (r1 : Int32) (_ : Unit) => r1 = r) (fun _ t => va_P D vwCl (jx_ws 67 cI cJ ad shX v') t.heap) A) args s 0 0 A) v 28 [(0, .ref (ad 53)), (1, .ref (adK w1)), (2, .int x2)] []) := by
    intro n
    induction n with
    | zero =>
      exact (fun _ _ h => by cases h)
    | succ n ih =>
      intro x2 v hF
      rw [f_X2_isWord_L] at hF
      refine jx_iload_n E dX2_isWord_28 2 rfl ?_
      refine jx_aload_n E dX2_isWord_29 1 rfl ?_
      obtain ⟨⟨r4, v4⟩, hc4, hF⟩ := jx_bind hF
      try dsimp only at hF
      refine jx_callVSi (As := []) (st := [.int x2]) (q := adK w1) E dX2_isWord_30 0 rfl (k_J0_length_8abf5 hI w1 hw1 v r4 v4 hc4) (gb_V (List.mem_cons_of_mem _ tw_105) (List.mem_cons_of_mem _ tw_106) (List.mem_cons_of_mem _ tw_107) (List.mem_cons_of_mem _ tw_17) tw_104) rfl rfl rfl dd_J0_length_8abf5 rfl (fun H locs hS => vk_recv (jx_ex E).2.2.2.1 hw1 hS) ⟨by decide, by decide⟩ ⟨Nat.le_refl 0, Nat.le_refl 0⟩ (Nat.le_of_ble_eq_true rfl) ?_
      refine jx_icmp_ge (tgt := 63) E dX2_isWord_33 (by decide) (fun hc5 => ?_) (fun hc5 => ?_)
      · rw [if_pos hc5] at hF
        refine jx_iconst (x := 1) E dX2_isWord_63 (by decide) ?_
        obtain ⟨rfl, rfl⟩ := jx_out hF
        exact jx_zret E dX2_isWord_64 rfl (Or.inr rfl)
      · rw [if_neg hc5] at hF
        refine jx_aload_n E dX2_isWord_36 0 rfl ?_
        refine jx_getr (C := RX2) (T := TX2) (M := 7) (k := 0) E dX2_isWord_37 (Nat.le_of_ble_eq_true rfl) s_X53 rfl iX2 (by decide) rfl (List.mem_cons_of_mem _ tw_93) rfl ?_
        refine jx_aload_n E dX2_isWord_40 0 rfl ?_
        refine jx_geti (C := RX2) (T := TX2) (M := 7) (k := 3) E dX2_isWord_41 (Nat.le_of_ble_eq_true rfl) s_X53 rfl iX2 (by decide) rfl (List.mem_cons_of_mem _ tw_95) rfl ?_
        refine jx_iload_n E dX2_isWord_44 2 rfl ?_
        refine jx_iadd E dX2_isWord_45 ?_
        obtain ⟨hg6, hF⟩ := jx_guard hF
        refine jx_iald (h := 54) (j := (Int32.toNatClampNeg ((v4 53 3) + x2))) E dX2_isWord_46 (Nat.le_of_ble_eq_true rfl) s_X54 hg6 rfl ?_
        refine jx_aload_n E dX2_isWord_47 1 rfl ?_
        refine jx_iload_n E dX2_isWord_48 2 rfl ?_
        obtain ⟨⟨r7, v7⟩, hc7, hF⟩ := jx_bind hF
        try dsimp only at hF
        refine jx_callVSi (As := [.int x2]) (st := [.int (v4 54 (Int32.toNatClampNeg ((v4 53 3) + x2)))]) (q := adK w1) E dX2_isWord_49 1 rfl (k_J0_charAt_5068e hI w1 hw1 x2 v4 r7 v7 hc7) (gb_V (List.mem_cons_of_mem _ tw_109) (List.mem_cons_of_mem _ tw_110) (List.mem_cons_of_mem _ tw_111) (List.mem_cons_of_mem _ tw_17) tw_108) rfl rfl rfl dd_J0_charAt_5068e rfl (fun H locs hS => vk_recv (jx_ex E).2.2.2.1 hw1 hS) ⟨by decide, by decide⟩ ⟨Nat.le_refl 0, Nat.le_refl 0⟩ (Nat.le_of_ble_eq_true rfl) ?_
        refine jx_icmp_eq (tgt := 57) E dX2_isWord_52 (by decide) (fun hc8 => ?_) (fun hc8 => ?_)
        · rw [if_pos hc8] at hF
          refine jx_iinc (y := (x2 + 1)) (lv' := [(2, .int (x2 + 1)), (0, .ref (ad 53)), (1, .ref (adK w1))]) E dX2_isWord_57 2 rfl rfl (by decide) rfl ?_
          refine jx_goto (tgt := 28) E dX2_isWord_60 (by decide) ?_
          refine jx_sub [1, 2, 0] rfl ?_
          exact ih (x2 + 1) v7 hF
        · rw [if_neg hc8] at hF
          refine jx_iconst (x := 0) E dX2_isWord_55 (by decide) ?_
          obtain ⟨rfl, rfl⟩ := jx_out hF
          exact jx_zret E dX2_isWord_56 rfl (Or.inl rfl)
  refine jx_aload_n E dX2_isWord_0 0 rfl ?_
  refine jx_geti (C := RX2) (T := TX2) (M := 7) (k := 2) E dX2_isWord_1 (Nat.le_of_ble_eq_true rfl) s_X53 rfl iX2 (by decide) rfl (List.mem_cons_of_mem _ tw_101) rfl ?_
  refine jx_iconst (x := 1) E dX2_isWord_4 (by decide) ?_
  refine jx_icmp_ne (tgt := 24) E dX2_isWord_5 (by decide) (fun hc1 => ?_) (fun hc1 => ?_)
  · rw [if_neg hc1] at hF
    refine jx_iconst (x := 0) E dX2_isWord_24 (by decide) ?_
    obtain ⟨rfl, rfl⟩ := jx_out hF
    exact jx_zret E dX2_isWord_25 rfl (Or.inl rfl)
  · rw [if_pos hc1] at hF
    refine jx_aload_n E dX2_isWord_8 0 rfl ?_
    refine jx_geti (C := RX2) (T := TX2) (M := 7) (k := 4) E dX2_isWord_9 (Nat.le_of_ble_eq_true rfl) s_X53 rfl iX2 (by decide) rfl (List.mem_cons_of_mem _ tw_94) rfl ?_
    refine jx_aload_n E dX2_isWord_12 0 rfl ?_
    refine jx_geti (C := RX2) (T := TX2) (M := 7) (k := 3) E dX2_isWord_13 (Nat.le_of_ble_eq_true rfl) s_X53 rfl iX2 (by decide) rfl (List.mem_cons_of_mem _ tw_95) rfl ?_
    refine jx_isub E dX2_isWord_16 ?_
    refine jx_aload_n E dX2_isWord_17 1 rfl ?_
    obtain ⟨⟨r2, v2⟩, hc2, hF⟩ := jx_bind hF
    try dsimp only at hF
    refine jx_callVSi (As := []) (st := [.int ((v 53 4) - (v 53 3))]) (q := adK w1) E dX2_isWord_18 0 rfl (k_J0_length_8abf5 hI w1 hw1 v r2 v2 hc2) (gb_V (List.mem_cons_of_mem _ tw_105) (List.mem_cons_of_mem _ tw_106) (List.mem_cons_of_mem _ tw_107) (List.mem_cons_of_mem _ tw_17) tw_104) rfl rfl rfl dd_J0_length_8abf5 rfl (fun H locs hS => vk_recv (jx_ex E).2.2.2.1 hw1 hS) ⟨by decide, by decide⟩ ⟨Nat.le_refl 0, Nat.le_refl 0⟩ (Nat.le_of_ble_eq_true rfl) ?_
    refine jx_icmp_eq (tgt := 26) E dX2_isWord_21 (by decide) (fun hc3 => ?_) (fun hc3 => ?_)
    · rw [if_pos hc3] at hF
      refine jx_iconst (x := 0) E dX2_isWord_26 (by decide) ?_
      refine jx_istore_n (lv' := [(2, .int 0), (0, .ref (ad 53)), (1, .ref (adK w1))]) E dX2_isWord_27 (by decide) rfl ?_
      refine jx_sub [1, 2, 0] rfl ?_
      exact (key 100000) 0 v2 hF
    · rw [if_neg hc3] at hF
      refine jx_iconst (x := 0) E dX2_isWord_24 (by decide) ?_
      obtain ⟨rfl, rfl⟩ := jx_out hF
      exact jx_zret E dX2_isWord_25 rfl (Or.inl rfl)
def f_X2_kindOfWord  (v : jx_V) : Option (Int32 × jx_V) := ((f_X2_isWord 0 v).bind (fun (r1, v1) => (if r1 = 0 then ((f_X2_isWord 1 v1).bind (fun (r3, v3) => (if r3 = 0 then ((f_X2_isWord 2 v3).bind (fun (r5, v5) => (if r5 = 0 then ((f_X2_isWord 3 v5).bind (fun (r7, v7) => (if r7 = 0 then ((f_X2_isWord 4 v7).bind (fun (r9, v9) => (if r9 = 0 then ((f_X2_isWord 5 v9).bind (fun (r11, v11) => (if r11 = 0 then ((f_X2_isWord 6 v11).bind (fun (r13, v13) => (if r13 = 0 then (some ((-1), v13)) else (some (6, v13))))) else (some (5, v11))))) else (some (4, v9))))) else (some (3, v7))))) else (some (2, v5))))) else (some (1, v3))))) else (some (0, v1)))))
def rm_X2_kindOfWord : Room := { frames := 5, cells := 0, slots := 0, locals := 107 }
set_option maxHeartbeats 4000000 in
set_option maxRecDepth 100000 in
theorem k_X2_kindOfWord {l : Launch} {D : va_G} {cI cJ : ClassId} {ad : Nat → Nat} {A : Nat → Prop} {adK adV : Nat → Nat} (hI : jx_inj 67 ad A)  (v : jx_V) (r : Int32) (v' : jx_V) (hF : f_X2_kindOfWord  v = some (r, v')) : jx_Ci l D vwCl 67 cI cJ ad shX A (ex_X adK adV A) yX2_kindOfWord (Cond.code yX2_kindOfWord cX2_kindOfWord 1 (some .int) :: bigT) rm_X2_kindOfWord [.ref (ad 53)] v r v' := by
  unfold f_X2_kindOfWord at hF
  refine jx_enteri bigT RX2 cX2_kindOfWord 1 (some .int) [(0, .ref (ad 53))] hI (ex_X_ok adK adV A) (by decide +kernel) rfl (Nat.le_of_ble_eq_true rfl) rfl rfl ?_
  intro p e s m args below meth c E
  refine jx_aload_n E dX2_kindOfWord_0 0 rfl ?_
  refine jx_ldcS (q := adK 0) E dX2_kindOfWord_1 ((jx_ex E).2.2.1 0 (by decide)) ?_
  obtain ⟨⟨r1, v1⟩, hc1, hF⟩ := jx_bind hF
  try dsimp only at hF
  refine jx_callVi (As := [.ref (adK 0)]) (st := []) (h := 53) E dX2_kindOfWord_3 1 rfl (k_X2_isWord hI 0 (by decide) v r1 v1 hc1) (gb_V (List.mem_cons_of_mem _ tw_113) (List.mem_cons_of_mem _ tw_114) (List.mem_cons_of_mem _ tw_115) (List.mem_cons_of_mem _ tw_100) tw_112) rfl rfl rfl dd_X2_isWord rfl (Nat.le_of_ble_eq_true rfl) s_X53 rfl ⟨by decide, by decide⟩ ⟨Nat.le_refl 0, Nat.le_refl 0⟩ (Nat.le_of_ble_eq_true rfl) ?_
  refine jx_if_eq (tgt := 11) E dX2_kindOfWord_6 (by decide) (fun hc2 => ?_) (fun hc2 => ?_)
  · rw [if_pos hc2] at hF
    refine jx_aload_n E dX2_kindOfWord_11 0 rfl ?_
    refine jx_ldcS (q := adK 1) E dX2_kindOfWord_12 ((jx_ex E).2.2.1 1 (by decide)) ?_
    obtain ⟨⟨r3, v3⟩, hc3, hF⟩ := jx_bind hF
    try dsimp only at hF
    refine jx_callVi (As := [.ref (adK 1)]) (st := []) (h := 53) E dX2_kindOfWord_14 1 rfl (k_X2_isWord hI 1 (by decide) v1 r3 v3 hc3) (gb_V (List.mem_cons_of_mem _ tw_113) (List.mem_cons_of_mem _ tw_114) (List.mem_cons_of_mem _ tw_115) (List.mem_cons_of_mem _ tw_100) tw_112) rfl rfl rfl dd_X2_isWord rfl (Nat.le_of_ble_eq_true rfl) s_X53 rfl ⟨by decide, by decide⟩ ⟨Nat.le_refl 0, Nat.le_refl 0⟩ (Nat.le_of_ble_eq_true rfl) ?_
    refine jx_if_eq (tgt := 22) E dX2_kindOfWord_17 (by decide) (fun hc4 => ?_) (fun hc4 => ?_)
    · rw [if_pos hc4] at hF
      refine jx_aload_n E dX2_kindOfWord_22 0 rfl ?_
      refine jx_ldcS (q := adK 2) E dX2_kindOfWord_23 ((jx_ex E).2.2.1 2 (by decide)) ?_
      obtain ⟨⟨r5, v5⟩, hc5, hF⟩ := jx_bind hF
      try dsimp only at hF
      refine jx_callVi (As := [.ref (adK 2)]) (st := []) (h := 53) E dX2_kindOfWord_25 1 rfl (k_X2_isWord hI 2 (by decide) v3 r5 v5 hc5) (gb_V (List.mem_cons_of_mem _ tw_113) (List.mem_cons_of_mem _ tw_114) (List.mem_cons_of_mem _ tw_115) (List.mem_cons_of_mem _ tw_100) tw_112) rfl rfl rfl dd_X2_isWord rfl (Nat.le_of_ble_eq_true rfl) s_X53 rfl ⟨by decide, by decide⟩ ⟨Nat.le_refl 0, Nat.le_refl 0⟩ (Nat.le_of_ble_eq_true rfl) ?_
      refine jx_if_eq (tgt := 33) E dX2_kindOfWord_28 (by decide) (fun hc6 => ?_) (fun hc6 => ?_)
      · rw [if_pos hc6] at hF
        refine jx_aload_n E dX2_kindOfWord_33 0 rfl ?_
        refine jx_ldcS (q := adK 3) E dX2_kindOfWord_34 ((jx_ex E).2.2.1 3 (by decide)) ?_
        obtain ⟨⟨r7, v7⟩, hc7, hF⟩ := jx_bind hF
        try dsimp only at hF
        refine jx_callVi (As := [.ref (adK 3)]) (st := []) (h := 53) E dX2_kindOfWord_36 1 rfl (k_X2_isWord hI 3 (by decide) v5 r7 v7 hc7) (gb_V (List.mem_cons_of_mem _ tw_113) (List.mem_cons_of_mem _ tw_114) (List.mem_cons_of_mem _ tw_115) (List.mem_cons_of_mem _ tw_100) tw_112) rfl rfl rfl dd_X2_isWord rfl (Nat.le_of_ble_eq_true rfl) s_X53 rfl ⟨by decide, by decide⟩ ⟨Nat.le_refl 0, Nat.le_refl 0⟩ (Nat.le_of_ble_eq_true rfl) ?_
        refine jx_if_eq (tgt := 44) E dX2_kindOfWord_39 (by decide) (fun hc8 => ?_) (fun hc8 => ?_)
        · rw [if_pos hc8] at hF
          refine jx_aload_n E dX2_kindOfWord_44 0 rfl ?_
          refine jx_ldcS (q := adK 4) E dX2_kindOfWord_45 ((jx_ex E).2.2.1 4 (by decide)) ?_
          obtain ⟨⟨r9, v9⟩, hc9, hF⟩ := jx_bind hF
          try dsimp only at hF
          refine jx_callVi (As := [.ref (adK 4)]) (st := []) (h := 53) E dX2_kindOfWord_47 1 rfl (k_X2_isWord hI 4 (by decide) v7 r9 v9 hc9) (gb_V (List.mem_cons_of_mem _ tw_113) (List.mem_cons_of_mem _ tw_114) (List.mem_cons_of_mem _ tw_115) (List.mem_cons_of_mem _ tw_100) tw_112) rfl rfl rfl dd_X2_isWord rfl (Nat.le_of_ble_eq_true rfl) s_X53 rfl ⟨by decide, by decide⟩ ⟨Nat.le_refl 0, Nat.le_refl 0⟩ (Nat.le_of_ble_eq_true rfl) ?_
          refine jx_if_eq (tgt := 55) E dX2_kindOfWord_50 (by decide) (fun hc10 => ?_) (fun hc10 => ?_)
          · rw [if_pos hc10] at hF
            refine jx_aload_n E dX2_kindOfWord_55 0 rfl ?_
            refine jx_ldcS (q := adK 5) E dX2_kindOfWord_56 ((jx_ex E).2.2.1 5 (by decide)) ?_
            obtain ⟨⟨r11, v11⟩, hc11, hF⟩ := jx_bind hF
            try dsimp only at hF
            refine jx_callVi (As := [.ref (adK 5)]) (st := []) (h := 53) E dX2_kindOfWord_58 1 rfl (k_X2_isWord hI 5 (by decide) v9 r11 v11 hc11) (gb_V (List.mem_cons_of_mem _ tw_113) (List.mem_cons_of_mem _ tw_114) (List.mem_cons_of_mem _ tw_115) (List.mem_cons_of_mem _ tw_100) tw_112) rfl rfl rfl dd_X2_isWord rfl (Nat.le_of_ble_eq_true rfl) s_X53 rfl ⟨by decide, by decide⟩ ⟨Nat.le_refl 0, Nat.le_refl 0⟩ (Nat.le_of_ble_eq_true rfl) ?_
            refine jx_if_eq (tgt := 66) E dX2_kindOfWord_61 (by decide) (fun hc12 => ?_) (fun hc12 => ?_)
            · rw [if_pos hc12] at hF
              refine jx_aload_n E dX2_kindOfWord_66 0 rfl ?_
              refine jx_ldcS (q := adK 6) E dX2_kindOfWord_67 ((jx_ex E).2.2.1 6 (by decide)) ?_
              obtain ⟨⟨r13, v13⟩, hc13, hF⟩ := jx_bind hF
              try dsimp only at hF
              refine jx_callVi (As := [.ref (adK 6)]) (st := []) (h := 53) E dX2_kindOfWord_69 1 rfl (k_X2_isWord hI 6 (by decide) v11 r13 v13 hc13) (gb_V (List.mem_cons_of_mem _ tw_113) (List.mem_cons_of_mem _ tw_114) (List.mem_cons_of_mem _ tw_115) (List.mem_cons_of_mem _ tw_100) tw_112) rfl rfl rfl dd_X2_isWord rfl (Nat.le_of_ble_eq_true rfl) s_X53 rfl ⟨by decide, by decide⟩ ⟨Nat.le_refl 0, Nat.le_refl 0⟩ (Nat.le_of_ble_eq_true rfl) ?_
              refine jx_if_eq (tgt := 80) E dX2_kindOfWord_72 (by decide) (fun hc14 => ?_) (fun hc14 => ?_)
              · rw [if_pos hc14] at hF
                refine jx_iconst (x := -1) E dX2_kindOfWord_80 (by decide) ?_
                obtain ⟨rfl, rfl⟩ := jx_out hF
                exact jx_iret E dX2_kindOfWord_81 rfl
              · rw [if_neg hc14] at hF
                refine jx_bipush (x := 6) E dX2_kindOfWord_75 (by decide) ?_
                refine jx_goto (tgt := 81) E dX2_kindOfWord_77 (by decide) ?_
                obtain ⟨rfl, rfl⟩ := jx_out hF
                exact jx_iret E dX2_kindOfWord_81 rfl
            · rw [if_neg hc12] at hF
              refine jx_iconst (x := 5) E dX2_kindOfWord_64 (by decide) ?_
              obtain ⟨rfl, rfl⟩ := jx_out hF
              exact jx_iret E dX2_kindOfWord_65 rfl
          · rw [if_neg hc10] at hF
            refine jx_iconst (x := 4) E dX2_kindOfWord_53 (by decide) ?_
            obtain ⟨rfl, rfl⟩ := jx_out hF
            exact jx_iret E dX2_kindOfWord_54 rfl
        · rw [if_neg hc8] at hF
          refine jx_iconst (x := 3) E dX2_kindOfWord_42 (by decide) ?_
          obtain ⟨rfl, rfl⟩ := jx_out hF
          exact jx_iret E dX2_kindOfWord_43 rfl
      · rw [if_neg hc6] at hF
        refine jx_iconst (x := 2) E dX2_kindOfWord_31 (by decide) ?_
        obtain ⟨rfl, rfl⟩ := jx_out hF
        exact jx_iret E dX2_kindOfWord_32 rfl
    · rw [if_neg hc4] at hF
      refine jx_iconst (x := 1) E dX2_kindOfWord_20 (by decide) ?_
      obtain ⟨rfl, rfl⟩ := jx_out hF
      exact jx_iret E dX2_kindOfWord_21 rfl
  · rw [if_neg hc2] at hF
    refine jx_iconst (x := 0) E dX2_kindOfWord_9 (by decide) ?_
    obtain ⟨rfl, rfl⟩ := jx_out hF
    exact jx_iret E dX2_kindOfWord_10 rfl
def f_X2_failHere  (v : jx_V) : Option (jx_V) := (if 0 ≤ (v 53 6) then (some v) else (some (jx_up v 53 6 (v 53 3))))
def rm_X2_failHere : Room := { frames := 0, cells := 0, slots := 0, locals := 0 }
set_option maxHeartbeats 4000000 in
set_option maxRecDepth 100000 in
theorem k_X2_failHere {l : Launch} {D : va_G} {cI cJ : ClassId} {ad : Nat → Nat} {A : Nat → Prop} {adK adV : Nat → Nat} (hI : jx_inj 67 ad A)  (v : jx_V) (v' : jx_V) (hF : f_X2_failHere  v = some v') : jx_Cv l D vwCl 67 cI cJ ad shX A (ex_X adK adV A) yX2_failHere (Cond.code yX2_failHere cX2_failHere 1 (none) :: bigT) rm_X2_failHere [.ref (ad 53)] v v' := by
  unfold f_X2_failHere at hF
  refine jx_enterv bigT RX2 cX2_failHere 1 (none) [(0, .ref (ad 53))] hI (ex_X_ok adK adV A) (by decide +kernel) rfl (Nat.le_of_ble_eq_true rfl) rfl rfl ?_
  intro p e s m args below meth c E
  have iX2 : ∀ w ∈ u_ws RX2 TX2 7, w ∈ (Cond.code yX2_failHere cX2_failHere 1 (none) :: bigT) := fun w h => List.mem_cons_of_mem _ (uw_X2 w h)
  refine jx_aload_n E dX2_failHere_0 0 rfl ?_
  refine jx_geti (C := RX2) (T := TX2) (M := 7) (k := 6) E dX2_failHere_1 (Nat.le_of_ble_eq_true rfl) s_X53 rfl iX2 (by decide) rfl (List.mem_cons_of_mem _ tw_116) rfl ?_
  refine jx_if_ge (tgt := 15) E dX2_failHere_4 (by decide) (fun hc1 => ?_) (fun hc1 => ?_)
  · rw [if_pos hc1] at hF
    obtain rfl := Option.some.inj hF
    exact jx_vret E dX2_failHere_15 rfl
  · rw [if_neg hc1] at hF
    refine jx_aload_n E dX2_failHere_7 0 rfl ?_
    refine jx_aload_n E dX2_failHere_8 0 rfl ?_
    refine jx_geti (C := RX2) (T := TX2) (M := 7) (k := 3) E dX2_failHere_9 (Nat.le_of_ble_eq_true rfl) s_X53 rfl iX2 (by decide) rfl (List.mem_cons_of_mem _ tw_95) rfl ?_
    refine jx_puti (C := RX2) (T := TX2) (M := 7) (k := 6) (ty := .int) E tyX2 dX2_failHere_12 (Nat.le_of_ble_eq_true rfl) s_X53 rfl iX2 (by decide) rfl (List.mem_cons_of_mem _ tw_116) tyX2_ok nmX2 rfl (by decide +kernel) rfl rfl rfl ?_
    obtain rfl := Option.some.inj hF
    exact jx_vret E dX2_failHere_15 rfl
def f_X2_takeWord (w1 : Nat) (v : jx_V) : Option (jx_V) := (if 0 ≤ (v 53 6) then ((f_X2_failHere v).bind (fun v2 => (some v2))) else ((f_X2_isWord w1 v).bind (fun (r3, v3) => (if r3 = 0 then ((f_X2_failHere v3).bind (fun v5 => (some v5))) else ((f_X2_nextToken v3).bind (fun v6 => (some v6)))))))
def rm_X2_takeWord : Room := { frames := 5, cells := 0, slots := 0, locals := 107 }
set_option maxHeartbeats 4000000 in
set_option maxRecDepth 100000 in
theorem k_X2_takeWord {l : Launch} {D : va_G} {cI cJ : ClassId} {ad : Nat → Nat} {A : Nat → Prop} {adK adV : Nat → Nat} (hI : jx_inj 67 ad A) (w1 : Nat) (hw1 : w1 < 17) (v : jx_V) (v' : jx_V) (hF : f_X2_takeWord w1 v = some v') : jx_Cv l D vwCl 67 cI cJ ad shX A (ex_X adK adV A) yX2_takeWord (Cond.code yX2_takeWord cX2_takeWord 2 (none) :: bigT) rm_X2_takeWord [.ref (ad 53), .ref (adK w1)] v v' := by
  unfold f_X2_takeWord at hF
  refine jx_enterv bigT RX2 cX2_takeWord 2 (none) [(0, .ref (ad 53)), (1, .ref (adK w1))] hI (ex_X_ok adK adV A) (by decide +kernel) rfl (Nat.le_of_ble_eq_true rfl) rfl rfl ?_
  intro p e s m args below meth c E
  have iX2 : ∀ w ∈ u_ws RX2 TX2 7, w ∈ (Cond.code yX2_takeWord cX2_takeWord 2 (none) :: bigT) := fun w h => List.mem_cons_of_mem _ (uw_X2 w h)
  refine jx_aload_n E dX2_takeWord_0 0 rfl ?_
  refine jx_geti (C := RX2) (T := TX2) (M := 7) (k := 6) E dX2_takeWord_1 (Nat.le_of_ble_eq_true rfl) s_X53 rfl iX2 (by decide) rfl (List.mem_cons_of_mem _ tw_116) rfl ?_
  refine jx_if_ge (tgt := 22) E dX2_takeWord_4 (by decide) (fun hc1 => ?_) (fun hc1 => ?_)
  · rw [if_pos hc1] at hF
    refine jx_aload_n E dX2_takeWord_22 0 rfl ?_
    obtain ⟨v2, hc2, hF⟩ := jx_bind hF
    try dsimp only at hF
    refine jx_callVv (As := []) (st := []) (h := 53) E dX2_takeWord_23 0 rfl (k_X2_failHere hI  v v2 hc2) (gb_V (List.mem_cons_of_mem _ tw_118) (List.mem_cons_of_mem _ tw_119) (List.mem_cons_of_mem _ tw_120) (List.mem_cons_of_mem _ tw_100) tw_117) rfl rfl rfl dd_X2_failHere rfl (Nat.le_of_ble_eq_true rfl) s_X53 rfl ⟨by decide, by decide⟩ ⟨Nat.le_refl 0, Nat.le_refl 0⟩ (Nat.le_of_ble_eq_true rfl) ?_
    obtain rfl := Option.some.inj hF
    exact jx_vret E dX2_takeWord_26 rfl
  · rw [if_neg hc1] at hF
    refine jx_aload_n E dX2_takeWord_7 0 rfl ?_
    refine jx_aload_n E dX2_takeWord_8 1 rfl ?_
    obtain ⟨⟨r3, v3⟩, hc3, hF⟩ := jx_bind hF
    try dsimp only at hF
    refine jx_callVi (As := [.ref (adK w1)]) (st := []) (h := 53) E dX2_takeWord_9 1 rfl (k_X2_isWord hI w1 hw1 v r3 v3 hc3) (gb_V (List.mem_cons_of_mem _ tw_113) (List.mem_cons_of_mem _ tw_114) (List.mem_cons_of_mem _ tw_115) (List.mem_cons_of_mem _ tw_100) tw_112) rfl rfl rfl dd_X2_isWord rfl (Nat.le_of_ble_eq_true rfl) s_X53 rfl ⟨by decide, by decide⟩ ⟨Nat.le_refl 0, Nat.le_refl 0⟩ (Nat.le_of_ble_eq_true rfl) ?_
    refine jx_if_eq (tgt := 22) E dX2_takeWord_12 (by decide) (fun hc4 => ?_) (fun hc4 => ?_)
    · rw [if_pos hc4] at hF
      refine jx_aload_n E dX2_takeWord_22 0 rfl ?_
      obtain ⟨v5, hc5, hF⟩ := jx_bind hF
      try dsimp only at hF
      refine jx_callVv (As := []) (st := []) (h := 53) E dX2_takeWord_23 0 rfl (k_X2_failHere hI  v3 v5 hc5) (gb_V (List.mem_cons_of_mem _ tw_118) (List.mem_cons_of_mem _ tw_119) (List.mem_cons_of_mem _ tw_120) (List.mem_cons_of_mem _ tw_100) tw_117) rfl rfl rfl dd_X2_failHere rfl (Nat.le_of_ble_eq_true rfl) s_X53 rfl ⟨by decide, by decide⟩ ⟨Nat.le_refl 0, Nat.le_refl 0⟩ (Nat.le_of_ble_eq_true rfl) ?_
      obtain rfl := Option.some.inj hF
      exact jx_vret E dX2_takeWord_26 rfl
    · rw [if_neg hc4] at hF
      refine jx_aload_n E dX2_takeWord_15 0 rfl ?_
      obtain ⟨v6, hc6, hF⟩ := jx_bind hF
      try dsimp only at hF
      refine jx_callVv (As := []) (st := []) (h := 53) E dX2_takeWord_16 0 rfl (k_X2_nextToken hI  v3 v6 hc6) (gb_V (List.mem_cons_of_mem _ tw_122) (List.mem_cons_of_mem _ tw_123) (List.mem_cons_of_mem _ tw_124) (List.mem_cons_of_mem _ tw_100) tw_121) rfl rfl rfl dd_X2_nextToken rfl (Nat.le_of_ble_eq_true rfl) s_X53 rfl ⟨by decide, by decide⟩ ⟨Nat.le_refl 0, Nat.le_refl 0⟩ (Nat.le_of_ble_eq_true rfl) ?_
      refine jx_goto (tgt := 26) E dX2_takeWord_19 (by decide) ?_
      obtain rfl := Option.some.inj hF
      exact jx_vret E dX2_takeWord_26 rfl
def f_X2_takeLot (h1 : Nat) (x2 : Int32) (v : jx_V) : Option (Int32 × jx_V) := (if 0 ≤ (v 53 6) then ((f_X2_failHere v).bind (fun v2 => (some (0, v2)))) else (if (v 53 2) = 2 then (if 25 ≤ (v 53 5) then ((f_X2_failHere v).bind (fun v6 => (some (0, v6)))) else ((f_X3_isTaken h1 (v 53 5) v).bind (fun (r7, v7) => (if r7 = x2 then ((f_X2_nextToken v7).bind (fun v9 => (some ((v7 53 5), v9)))) else ((f_X2_failHere v7).bind (fun v10 => (some (0, v10)))))))) else ((f_X2_failHere v).bind (fun v4 => (some (0, v4))))))
def rm_X2_takeLot : Room := { frames := 2, cells := 0, slots := 0, locals := 42 }
set_option maxHeartbeats 4000000 in
set_option maxRecDepth 100000 in
theorem k_X2_takeLot {l : Launch} {D : va_G} {cI cJ : ClassId} {ad : Nat → Nat} {A : Nat → Prop} {adK adV : Nat → Nat} (hI : jx_inj 67 ad A) (h1 : Nat) (hT1 : jx_T h1) (x2 : Int32) (v : jx_V) (r : Int32) (v' : jx_V) (hF : f_X2_takeLot h1 x2 v = some (r, v')) : jx_Ci l D vwCl 67 cI cJ ad shX A (ex_X adK adV A) yX2_takeLot (Cond.code yX2_takeLot cX2_takeLot 4 (some .int) :: bigT) rm_X2_takeLot [.ref (ad 53), .ref (ad h1), .int x2] v r v' := by
  unfold f_X2_takeLot at hF
  refine jx_enteri bigT RX2 cX2_takeLot 4 (some .int) [(0, .ref (ad 53)), (1, .ref (ad h1)), (2, .int x2)] hI (ex_X_ok adK adV A) (by decide +kernel) rfl (Nat.le_of_ble_eq_true rfl) rfl rfl ?_
  intro p e s m args below meth c E
  have iX2 : ∀ w ∈ u_ws RX2 TX2 7, w ∈ (Cond.code yX2_takeLot cX2_takeLot 4 (some .int) :: bigT) := fun w h => List.mem_cons_of_mem _ (uw_X2 w h)
  refine jx_aload_n E dX2_takeLot_0 0 rfl ?_
  refine jx_geti (C := RX2) (T := TX2) (M := 7) (k := 6) E dX2_takeLot_1 (Nat.le_of_ble_eq_true rfl) s_X53 rfl iX2 (by decide) rfl (List.mem_cons_of_mem _ tw_116) rfl ?_
  refine jx_if_ge (tgt := 36) E dX2_takeLot_4 (by decide) (fun hc1 => ?_) (fun hc1 => ?_)
  · rw [if_pos hc1] at hF
    refine jx_aload_n E dX2_takeLot_36 0 rfl ?_
    obtain ⟨v2, hc2, hF⟩ := jx_bind hF
    try dsimp only at hF
    refine jx_callVv (As := []) (st := []) (h := 53) E dX2_takeLot_37 0 rfl (k_X2_failHere hI  v v2 hc2) (gb_V (List.mem_cons_of_mem _ tw_118) (List.mem_cons_of_mem _ tw_119) (List.mem_cons_of_mem _ tw_120) (List.mem_cons_of_mem _ tw_100) tw_117) rfl rfl rfl dd_X2_failHere rfl (Nat.le_of_ble_eq_true rfl) s_X53 rfl ⟨by decide, by decide⟩ ⟨Nat.le_refl 0, Nat.le_refl 0⟩ (Nat.le_of_ble_eq_true rfl) ?_
    refine jx_iconst (x := 0) E dX2_takeLot_40 (by decide) ?_
    obtain ⟨rfl, rfl⟩ := jx_out hF
    exact jx_iret E dX2_takeLot_41 rfl
  · rw [if_neg hc1] at hF
    refine jx_aload_n E dX2_takeLot_7 0 rfl ?_
    refine jx_geti (C := RX2) (T := TX2) (M := 7) (k := 2) E dX2_takeLot_8 (Nat.le_of_ble_eq_true rfl) s_X53 rfl iX2 (by decide) rfl (List.mem_cons_of_mem _ tw_101) rfl ?_
    refine jx_iconst (x := 2) E dX2_takeLot_11 (by decide) ?_
    refine jx_icmp_ne (tgt := 36) E dX2_takeLot_12 (by decide) (fun hc3 => ?_) (fun hc3 => ?_)
    · rw [if_neg hc3] at hF
      refine jx_aload_n E dX2_takeLot_36 0 rfl ?_
      obtain ⟨v4, hc4, hF⟩ := jx_bind hF
      try dsimp only at hF
      refine jx_callVv (As := []) (st := []) (h := 53) E dX2_takeLot_37 0 rfl (k_X2_failHere hI  v v4 hc4) (gb_V (List.mem_cons_of_mem _ tw_118) (List.mem_cons_of_mem _ tw_119) (List.mem_cons_of_mem _ tw_120) (List.mem_cons_of_mem _ tw_100) tw_117) rfl rfl rfl dd_X2_failHere rfl (Nat.le_of_ble_eq_true rfl) s_X53 rfl ⟨by decide, by decide⟩ ⟨Nat.le_refl 0, Nat.le_refl 0⟩ (Nat.le_of_ble_eq_true rfl) ?_
      refine jx_iconst (x := 0) E dX2_takeLot_40 (by decide) ?_
      obtain ⟨rfl, rfl⟩ := jx_out hF
      exact jx_iret E dX2_takeLot_41 rfl
    · rw [if_pos hc3] at hF
      refine jx_aload_n E dX2_takeLot_15 0 rfl ?_
      refine jx_geti (C := RX2) (T := TX2) (M := 7) (k := 5) E dX2_takeLot_16 (Nat.le_of_ble_eq_true rfl) s_X53 rfl iX2 (by decide) rfl (List.mem_cons_of_mem _ tw_102) rfl ?_
      refine jx_bipush (x := 25) E dX2_takeLot_19 (by decide) ?_
      refine jx_icmp_ge (tgt := 36) E dX2_takeLot_21 (by decide) (fun hc5 => ?_) (fun hc5 => ?_)
      · rw [if_pos hc5] at hF
        refine jx_aload_n E dX2_takeLot_36 0 rfl ?_
        obtain ⟨v6, hc6, hF⟩ := jx_bind hF
        try dsimp only at hF
        refine jx_callVv (As := []) (st := []) (h := 53) E dX2_takeLot_37 0 rfl (k_X2_failHere hI  v v6 hc6) (gb_V (List.mem_cons_of_mem _ tw_118) (List.mem_cons_of_mem _ tw_119) (List.mem_cons_of_mem _ tw_120) (List.mem_cons_of_mem _ tw_100) tw_117) rfl rfl rfl dd_X2_failHere rfl (Nat.le_of_ble_eq_true rfl) s_X53 rfl ⟨by decide, by decide⟩ ⟨Nat.le_refl 0, Nat.le_refl 0⟩ (Nat.le_of_ble_eq_true rfl) ?_
        refine jx_iconst (x := 0) E dX2_takeLot_40 (by decide) ?_
        obtain ⟨rfl, rfl⟩ := jx_out hF
        exact jx_iret E dX2_takeLot_41 rfl
      · rw [if_neg hc5] at hF
        refine jx_aload_n E dX2_takeLot_24 1 rfl ?_
        refine jx_aload_n E dX2_takeLot_25 0 rfl ?_
        refine jx_geti (C := RX2) (T := TX2) (M := 7) (k := 5) E dX2_takeLot_26 (Nat.le_of_ble_eq_true rfl) s_X53 rfl iX2 (by decide) rfl (List.mem_cons_of_mem _ tw_102) rfl ?_
        obtain ⟨⟨r7, v7⟩, hc7, hF⟩ := jx_bind hF
        try dsimp only at hF
        refine jx_callNi (As := [.int (v 53 5)]) (st := []) (h := h1) E dX2_takeLot_29 1 rfl (k_X3_isTaken hI h1 hT1 (v 53 5) v r7 v7 hc7) (gb_N tw_51) rfl rfl rfl (ex_m35 (jx_ex E)) (List.mem_cons_of_mem _ tw_33) (List.mem_cons_of_mem _ tw_52) (List.mem_cons_of_mem _ tw_53) dd_X3_isTaken.2 rfl (n_T0 hT1) (s_T0 hT1) rfl ⟨by decide, by decide⟩ ⟨Nat.le_refl 0, Nat.le_refl 0⟩ (Nat.le_of_ble_eq_true rfl) ?_
        refine jx_iload_n E dX2_takeLot_32 2 rfl ?_
        refine jx_icmp_eq (tgt := 42) E dX2_takeLot_33 (by decide) (fun hc8 => ?_) (fun hc8 => ?_)
        · rw [if_pos hc8] at hF
          refine jx_aload_n E dX2_takeLot_42 0 rfl ?_
          refine jx_geti (C := RX2) (T := TX2) (M := 7) (k := 5) E dX2_takeLot_43 (Nat.le_of_ble_eq_true rfl) s_X53 rfl iX2 (by decide) rfl (List.mem_cons_of_mem _ tw_102) rfl ?_
          refine jx_istore_n (lv' := [(3, .int (v7 53 5)), (0, .ref (ad 53)), (1, .ref (ad h1)), (2, .int x2)]) E dX2_takeLot_46 (by decide) rfl ?_
          refine jx_aload_n E dX2_takeLot_47 1 rfl ?_
          obtain ⟨v9, hc9, hF⟩ := jx_bind hF
          try dsimp only at hF
          refine jx_callVv (As := []) (st := []) (h := 53) E dX2_takeLot_48 0 rfl (k_X2_nextToken hI  v7 v9 hc9) (gb_V (List.mem_cons_of_mem _ tw_122) (List.mem_cons_of_mem _ tw_123) (List.mem_cons_of_mem _ tw_124) (List.mem_cons_of_mem _ tw_100) tw_121) rfl rfl rfl dd_X2_nextToken rfl (Nat.le_of_ble_eq_true rfl) s_X53 rfl ⟨by decide, by decide⟩ ⟨Nat.le_refl 0, Nat.le_refl 0⟩ (Nat.le_of_ble_eq_true rfl) ?_
          refine jx_iload_n E dX2_takeLot_51 0 rfl ?_
          obtain ⟨rfl, rfl⟩ := jx_out hF
          exact jx_iret E dX2_takeLot_52 rfl
        · rw [if_neg hc8] at hF
          refine jx_aload_n E dX2_takeLot_36 0 rfl ?_
          obtain ⟨v10, hc10, hF⟩ := jx_bind hF
          try dsimp only at hF
          refine jx_callVv (As := []) (st := []) (h := 53) E dX2_takeLot_37 0 rfl (k_X2_failHere hI  v7 v10 hc10) (gb_V (List.mem_cons_of_mem _ tw_118) (List.mem_cons_of_mem _ tw_119) (List.mem_cons_of_mem _ tw_120) (List.mem_cons_of_mem _ tw_100) tw_117) rfl rfl rfl dd_X2_failHere rfl (Nat.le_of_ble_eq_true rfl) s_X53 rfl ⟨by decide, by decide⟩ ⟨Nat.le_refl 0, Nat.le_refl 0⟩ (Nat.le_of_ble_eq_true rfl) ?_
          refine jx_iconst (x := 0) E dX2_takeLot_40 (by decide) ?_
          obtain ⟨rfl, rfl⟩ := jx_out hF
          exact jx_iret E dX2_takeLot_41 rfl
def f_X2_takeNumber (x1 : Int32) (v : jx_V) : Option (Int32 × jx_V) := (if 0 ≤ (v 53 6) then ((f_X2_failHere v).bind (fun v2 => (some (0, v2)))) else (if (v 53 2) = 2 then (if (v 53 5) < x1 then ((f_X2_nextToken v).bind (fun v6 => (some ((v 53 5), v6)))) else ((f_X2_failHere v).bind (fun v7 => (some (0, v7))))) else ((f_X2_failHere v).bind (fun v4 => (some (0, v4))))))
def rm_X2_takeNumber : Room := { frames := 2, cells := 0, slots := 0, locals := 42 }
set_option maxHeartbeats 4000000 in
set_option maxRecDepth 100000 in
theorem k_X2_takeNumber {l : Launch} {D : va_G} {cI cJ : ClassId} {ad : Nat → Nat} {A : Nat → Prop} {adK adV : Nat → Nat} (hI : jx_inj 67 ad A) (x1 : Int32) (v : jx_V) (r : Int32) (v' : jx_V) (hF : f_X2_takeNumber x1 v = some (r, v')) : jx_Ci l D vwCl 67 cI cJ ad shX A (ex_X adK adV A) yX2_takeNumber (Cond.code yX2_takeNumber cX2_takeNumber 3 (some .int) :: bigT) rm_X2_takeNumber [.ref (ad 53), .int x1] v r v' := by
  unfold f_X2_takeNumber at hF
  refine jx_enteri bigT RX2 cX2_takeNumber 3 (some .int) [(0, .ref (ad 53)), (1, .int x1)] hI (ex_X_ok adK adV A) (by decide +kernel) rfl (Nat.le_of_ble_eq_true rfl) rfl rfl ?_
  intro p e s m args below meth c E
  have iX2 : ∀ w ∈ u_ws RX2 TX2 7, w ∈ (Cond.code yX2_takeNumber cX2_takeNumber 3 (some .int) :: bigT) := fun w h => List.mem_cons_of_mem _ (uw_X2 w h)
  refine jx_aload_n E dX2_takeNumber_0 0 rfl ?_
  refine jx_geti (C := RX2) (T := TX2) (M := 7) (k := 6) E dX2_takeNumber_1 (Nat.le_of_ble_eq_true rfl) s_X53 rfl iX2 (by decide) rfl (List.mem_cons_of_mem _ tw_116) rfl ?_
  refine jx_if_ge (tgt := 23) E dX2_takeNumber_4 (by decide) (fun hc1 => ?_) (fun hc1 => ?_)
  · rw [if_pos hc1] at hF
    refine jx_aload_n E dX2_takeNumber_23 0 rfl ?_
    obtain ⟨v2, hc2, hF⟩ := jx_bind hF
    try dsimp only at hF
    refine jx_callVv (As := []) (st := []) (h := 53) E dX2_takeNumber_24 0 rfl (k_X2_failHere hI  v v2 hc2) (gb_V (List.mem_cons_of_mem _ tw_118) (List.mem_cons_of_mem _ tw_119) (List.mem_cons_of_mem _ tw_120) (List.mem_cons_of_mem _ tw_100) tw_117) rfl rfl rfl dd_X2_failHere rfl (Nat.le_of_ble_eq_true rfl) s_X53 rfl ⟨by decide, by decide⟩ ⟨Nat.le_refl 0, Nat.le_refl 0⟩ (Nat.le_of_ble_eq_true rfl) ?_
    refine jx_iconst (x := 0) E dX2_takeNumber_27 (by decide) ?_
    obtain ⟨rfl, rfl⟩ := jx_out hF
    exact jx_iret E dX2_takeNumber_28 rfl
  · rw [if_neg hc1] at hF
    refine jx_aload_n E dX2_takeNumber_7 0 rfl ?_
    refine jx_geti (C := RX2) (T := TX2) (M := 7) (k := 2) E dX2_takeNumber_8 (Nat.le_of_ble_eq_true rfl) s_X53 rfl iX2 (by decide) rfl (List.mem_cons_of_mem _ tw_101) rfl ?_
    refine jx_iconst (x := 2) E dX2_takeNumber_11 (by decide) ?_
    refine jx_icmp_ne (tgt := 23) E dX2_takeNumber_12 (by decide) (fun hc3 => ?_) (fun hc3 => ?_)
    · rw [if_neg hc3] at hF
      refine jx_aload_n E dX2_takeNumber_23 0 rfl ?_
      obtain ⟨v4, hc4, hF⟩ := jx_bind hF
      try dsimp only at hF
      refine jx_callVv (As := []) (st := []) (h := 53) E dX2_takeNumber_24 0 rfl (k_X2_failHere hI  v v4 hc4) (gb_V (List.mem_cons_of_mem _ tw_118) (List.mem_cons_of_mem _ tw_119) (List.mem_cons_of_mem _ tw_120) (List.mem_cons_of_mem _ tw_100) tw_117) rfl rfl rfl dd_X2_failHere rfl (Nat.le_of_ble_eq_true rfl) s_X53 rfl ⟨by decide, by decide⟩ ⟨Nat.le_refl 0, Nat.le_refl 0⟩ (Nat.le_of_ble_eq_true rfl) ?_
      refine jx_iconst (x := 0) E dX2_takeNumber_27 (by decide) ?_
      obtain ⟨rfl, rfl⟩ := jx_out hF
      exact jx_iret E dX2_takeNumber_28 rfl
    · rw [if_pos hc3] at hF
      refine jx_aload_n E dX2_takeNumber_15 0 rfl ?_
      refine jx_geti (C := RX2) (T := TX2) (M := 7) (k := 5) E dX2_takeNumber_16 (Nat.le_of_ble_eq_true rfl) s_X53 rfl iX2 (by decide) rfl (List.mem_cons_of_mem _ tw_102) rfl ?_
      refine jx_iload_n E dX2_takeNumber_19 1 rfl ?_
      refine jx_icmp_lt (tgt := 29) E dX2_takeNumber_20 (by decide) (fun hc5 => ?_) (fun hc5 => ?_)
      · rw [if_pos hc5] at hF
        refine jx_aload_n E dX2_takeNumber_29 0 rfl ?_
        refine jx_geti (C := RX2) (T := TX2) (M := 7) (k := 5) E dX2_takeNumber_30 (Nat.le_of_ble_eq_true rfl) s_X53 rfl iX2 (by decide) rfl (List.mem_cons_of_mem _ tw_102) rfl ?_
        refine jx_istore_n (lv' := [(2, .int (v 53 5)), (0, .ref (ad 53)), (1, .int x1)]) E dX2_takeNumber_33 (by decide) rfl ?_
        refine jx_aload_n E dX2_takeNumber_34 1 rfl ?_
        obtain ⟨v6, hc6, hF⟩ := jx_bind hF
        try dsimp only at hF
        refine jx_callVv (As := []) (st := []) (h := 53) E dX2_takeNumber_35 0 rfl (k_X2_nextToken hI  v v6 hc6) (gb_V (List.mem_cons_of_mem _ tw_122) (List.mem_cons_of_mem _ tw_123) (List.mem_cons_of_mem _ tw_124) (List.mem_cons_of_mem _ tw_100) tw_121) rfl rfl rfl dd_X2_nextToken rfl (Nat.le_of_ble_eq_true rfl) s_X53 rfl ⟨by decide, by decide⟩ ⟨Nat.le_refl 0, Nat.le_refl 0⟩ (Nat.le_of_ble_eq_true rfl) ?_
        refine jx_iload_n E dX2_takeNumber_38 0 rfl ?_
        obtain ⟨rfl, rfl⟩ := jx_out hF
        exact jx_iret E dX2_takeNumber_39 rfl
      · rw [if_neg hc5] at hF
        refine jx_aload_n E dX2_takeNumber_23 0 rfl ?_
        obtain ⟨v7, hc7, hF⟩ := jx_bind hF
        try dsimp only at hF
        refine jx_callVv (As := []) (st := []) (h := 53) E dX2_takeNumber_24 0 rfl (k_X2_failHere hI  v v7 hc7) (gb_V (List.mem_cons_of_mem _ tw_118) (List.mem_cons_of_mem _ tw_119) (List.mem_cons_of_mem _ tw_120) (List.mem_cons_of_mem _ tw_100) tw_117) rfl rfl rfl dd_X2_failHere rfl (Nat.le_of_ble_eq_true rfl) s_X53 rfl ⟨by decide, by decide⟩ ⟨Nat.le_refl 0, Nat.le_refl 0⟩ (Nat.le_of_ble_eq_true rfl) ?_
        refine jx_iconst (x := 0) E dX2_takeNumber_27 (by decide) ?_
        obtain ⟨rfl, rfl⟩ := jx_out hF
        exact jx_iret E dX2_takeNumber_28 rfl
def f_X3_put (h0 : Nat) (x1 : Int32) (x2 : Int32) (x3 : Int32) (x4 : Int32) (x5 : Int32) (v : jx_V) : Option (jx_V) := (if (x1 < 0 ∨ 25 ≤ Int32.toNatClampNeg x1) then none else (if (x1 < 0 ∨ 25 ≤ Int32.toNatClampNeg x1) then none else (if (x1 < 0 ∨ 25 ≤ Int32.toNatClampNeg x1) then none else (if (x1 < 0 ∨ 25 ≤ Int32.toNatClampNeg x1) then none else (some (jx_up (jx_up (jx_up (jx_up v (h0 + 3) (Int32.toNatClampNeg x1) x2) (h0 + 4) (Int32.toNatClampNeg x1) x3) (h0 + 5) (Int32.toNatClampNeg x1) x4) (h0 + 6) (Int32.toNatClampNeg x1) x5))))))
def rm_X3_put : Room := { frames := 0, cells := 0, slots := 0, locals := 0 }
set_option maxHeartbeats 4000000 in
set_option maxRecDepth 100000 in
theorem k_X3_put {l : Launch} {D : va_G} {cI cJ : ClassId} {ad : Nat → Nat} {A : Nat → Prop} {adK adV : Nat → Nat} (hI : jx_inj 67 ad A) (h0 : Nat) (hT0 : jx_T h0) (x1 : Int32) (x2 : Int32) (x3 : Int32) (x4 : Int32) (x5 : Int32) (v : jx_V) (v' : jx_V) (hF : f_X3_put h0 x1 x2 x3 x4 x5 v = some v') : jx_Cv l D vwCl 67 cI cJ ad shX A (ex_X adK adV A) yX3_put (Cond.code yX3_put cX3_put 6 (none) :: bigT) rm_X3_put [.ref (ad h0), .int x1, .int x2, .int x3, .int x4, .int x5] v v' := by
  unfold f_X3_put at hF
  refine jx_enterv bigT RX3 cX3_put 6 (none) [(0, .ref (ad h0)), (1, .int x1), (2, .int x2), (3, .int x3), (4, .int x4), (5, .int x5)] hI (ex_X_ok adK adV A) (by decide +kernel) rfl (Nat.le_of_ble_eq_true rfl) rfl rfl ?_
  intro p e s m args below meth c E
  have iX3 : ∀ w ∈ u_ws RX3 TX3 8, w ∈ (Cond.code yX3_put cX3_put 6 (none) :: bigT) := fun w h => List.mem_cons_of_mem _ (uw_X3 w h)
  refine jx_aload_n E dX3_put_0 0 rfl ?_
  refine jx_getr (C := RX3) (T := TX3) (M := 8) (k := 0) E dX3_put_1 (n_T0 hT0) (s_T0 hT0) rfl iX3 (by decide) rfl (List.mem_cons_of_mem _ tw_27) rfl ?_
  refine jx_iconst (x := 0) E dX3_put_4 (by decide) ?_
  refine jx_aald (h' := (h0 + 3)) E dX3_put_5 (n_T1 hT0) (s_T1 hT0) (show ¬ ((0 : Int32) < 0 ∨ 4 ≤ Int32.toNatClampNeg 0) by decide) rfl ?_
  refine jx_iload_n E dX3_put_6 1 rfl ?_
  refine jx_iload_n E dX3_put_7 2 rfl ?_
  obtain ⟨hg1, hF⟩ := jx_guard hF
  refine jx_iast (h := (h0 + 3)) (j := (Int32.toNatClampNeg x1)) E dX3_put_8 (n_T3 hT0) (s_T3 hT0) hg1 rfl ?_
  refine jx_aload_n E dX3_put_9 0 rfl ?_
  refine jx_getr (C := RX3) (T := TX3) (M := 8) (k := 0) E dX3_put_10 (n_T0 hT0) (s_T0 hT0) rfl iX3 (by decide) rfl (List.mem_cons_of_mem _ tw_27) rfl ?_
  refine jx_iconst (x := 1) E dX3_put_13 (by decide) ?_
  refine jx_aald (h' := (h0 + 4)) E dX3_put_14 (n_T1 hT0) (s_T1 hT0) (show ¬ ((1 : Int32) < 0 ∨ 4 ≤ Int32.toNatClampNeg 1) by decide) rfl ?_
  refine jx_iload_n E dX3_put_15 1 rfl ?_
  refine jx_iload_n E dX3_put_16 3 rfl ?_
  obtain ⟨hg2, hF⟩ := jx_guard hF
  refine jx_iast (h := (h0 + 4)) (j := (Int32.toNatClampNeg x1)) E dX3_put_17 (n_T4 hT0) (s_T4 hT0) hg2 rfl ?_
  refine jx_aload_n E dX3_put_18 0 rfl ?_
  refine jx_getr (C := RX3) (T := TX3) (M := 8) (k := 0) E dX3_put_19 (n_T0 hT0) (s_T0 hT0) rfl iX3 (by decide) rfl (List.mem_cons_of_mem _ tw_27) rfl ?_
  refine jx_iconst (x := 2) E dX3_put_22 (by decide) ?_
  refine jx_aald (h' := (h0 + 5)) E dX3_put_23 (n_T1 hT0) (s_T1 hT0) (show ¬ ((2 : Int32) < 0 ∨ 4 ≤ Int32.toNatClampNeg 2) by decide) rfl ?_
  refine jx_iload_n E dX3_put_24 1 rfl ?_
  refine jx_iload E dX3_put_25 4 rfl ?_
  obtain ⟨hg3, hF⟩ := jx_guard hF
  refine jx_iast (h := (h0 + 5)) (j := (Int32.toNatClampNeg x1)) E dX3_put_27 (n_T5 hT0) (s_T5 hT0) hg3 rfl ?_
  refine jx_aload_n E dX3_put_28 0 rfl ?_
  refine jx_getr (C := RX3) (T := TX3) (M := 8) (k := 0) E dX3_put_29 (n_T0 hT0) (s_T0 hT0) rfl iX3 (by decide) rfl (List.mem_cons_of_mem _ tw_27) rfl ?_
  refine jx_iconst (x := 3) E dX3_put_32 (by decide) ?_
  refine jx_aald (h' := (h0 + 6)) E dX3_put_33 (n_T1 hT0) (s_T1 hT0) (show ¬ ((3 : Int32) < 0 ∨ 4 ≤ Int32.toNatClampNeg 3) by decide) rfl ?_
  refine jx_iload_n E dX3_put_34 1 rfl ?_
  refine jx_iload E dX3_put_35 5 rfl ?_
  obtain ⟨hg4, hF⟩ := jx_guard hF
  refine jx_iast (h := (h0 + 6)) (j := (Int32.toNatClampNeg x1)) E dX3_put_37 (n_T6 hT0) (s_T6 hT0) hg4 rfl ?_
  obtain rfl := Option.some.inj hF
  exact jx_vret E dX3_put_38 rfl
