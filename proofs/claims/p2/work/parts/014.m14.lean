def f_X4_rent (x1 : Int32) (v : jx_V) : Option (Int32 × jx_V) := ((f_X4_isWindow x1 v).bind (fun (r1, v1) => (if r1 = 0 then ((f_X4_finding 0 v1).bind (fun (r4, v4) => (some (r4, v4)))) else ((f_X0_pay 1 x1 66 v1).bind (fun (r3, v3) => (some (r3, v3)))))))
def rm_X4_rent : Room := { frames := 4, cells := 0, slots := 0, locals := 101 }
set_option maxHeartbeats 4000000 in
set_option maxRecDepth 100000 in
theorem k_X4_rent {l : Launch} {D : va_G} {cI cJ : ClassId} {ad : Nat → Nat} {A : Nat → Prop} {adK adV : Nat → Nat} (hI : jx_inj 67 ad A) (x1 : Int32) (v : jx_V) (r : Int32) (v' : jx_V) (hF : f_X4_rent x1 v = some (r, v')) : jx_Ci l D vwCl 67 cI cJ ad shX A (ex_X adK adV A) yX4_rent (Cond.code yX4_rent cX4_rent 2 (some .int) :: bigT) rm_X4_rent [.ref (ad 0), .int x1] v r v' := by
  unfold f_X4_rent at hF
  refine jx_enteri bigT RX4 cX4_rent 2 (some .int) [(0, .ref (ad 0)), (1, .int x1)] hI (ex_X_ok adK adV A) (by decide +kernel) rfl (Nat.le_of_ble_eq_true rfl) rfl rfl ?_
  intro p e s m args below meth c E
  have iX4 : ∀ w ∈ u_ws RX4 TX4 11, w ∈ (Cond.code yX4_rent cX4_rent 2 (some .int) :: bigT) := fun w h => List.mem_cons_of_mem _ (uw_X4 w h)
  refine jx_aload_n E dX4_rent_0 0 rfl ?_
  refine jx_iload_n E dX4_rent_1 1 rfl ?_
  obtain ⟨⟨r1, v1⟩, hc1, hF⟩ := jx_bind hF
  try dsimp only at hF
  refine jx_callVi (As := [.int x1]) (st := []) (h := 0) E dX4_rent_2 1 rfl (k_X4_isWindow hI x1 v r1 v1 hc1) (gb_V (List.mem_cons_of_mem _ tw_203) (List.mem_cons_of_mem _ tw_204) (List.mem_cons_of_mem _ tw_205) (List.mem_cons_of_mem _ tw_190) tw_202) rfl rfl rfl dd_X4_isWindow rfl (Nat.le_of_ble_eq_true rfl) s_X0 rfl ⟨by decide, by decide⟩ ⟨Nat.le_refl 0, Nat.le_refl 0⟩ (Nat.le_of_ble_eq_true rfl) ?_
  refine jx_if_ne (tgt := 14) E dX4_rent_5 (by decide) (fun hc2 => ?_) (fun hc2 => ?_)
  · rw [if_neg hc2] at hF
    refine jx_aload_n E dX4_rent_14 0 rfl ?_
    refine jx_getr (C := RX4) (T := TX4) (M := 11) (k := 3) E dX4_rent_15 (Nat.le_of_ble_eq_true rfl) s_X0 rfl iX4 (by decide) rfl (List.mem_cons_of_mem _ tw_209) rfl ?_
    refine jx_aload_n E dX4_rent_18 0 rfl ?_
    refine jx_getr (C := RX4) (T := TX4) (M := 11) (k := 0) E dX4_rent_19 (Nat.le_of_ble_eq_true rfl) s_X0 rfl iX4 (by decide) rfl (List.mem_cons_of_mem _ tw_195) rfl ?_
    refine jx_iload_n E dX4_rent_22 1 rfl ?_
    refine jx_aload_n E dX4_rent_23 0 rfl ?_
    refine jx_getr (C := RX4) (T := TX4) (M := 11) (k := 9) E dX4_rent_24 (Nat.le_of_ble_eq_true rfl) s_X0 rfl iX4 (by decide) rfl (List.mem_cons_of_mem _ tw_216) rfl ?_
    obtain ⟨⟨r3, v3⟩, hc3, hF⟩ := jx_bind hF
    try dsimp only at hF
    refine jx_callNi (As := [.ref (ad 1), .int x1, .ref (ad 66)]) (st := []) (h := 49) E dX4_rent_27 3 rfl (k_X0_pay hI 1 jx_T1 x1 66 s_X66 (Nat.le_of_ble_eq_true rfl) v1 r3 v3 hc3) (gb_N tw_77) rfl rfl rfl (ex_m20 (jx_ex E)) (List.mem_cons_of_mem _ tw_49) (List.mem_cons_of_mem _ tw_79) (List.mem_cons_of_mem _ tw_80) dd_X0_pay.2 rfl (Nat.le_of_ble_eq_true rfl) s_X49 rfl ⟨by decide, by decide⟩ ⟨Nat.le_refl 0, Nat.le_refl 0⟩ (Nat.le_of_ble_eq_true rfl) ?_
    obtain ⟨rfl, rfl⟩ := jx_out hF
    exact jx_iret E dX4_rent_30 rfl
  · rw [if_pos hc2] at hF
    refine jx_aload_n E dX4_rent_8 0 rfl ?_
    refine jx_iconst (x := 0) E dX4_rent_9 (by decide) ?_
    obtain ⟨⟨r4, v4⟩, hc4, hF⟩ := jx_bind hF
    try dsimp only at hF
    refine jx_callVi (As := [.int 0]) (st := []) (h := 0) E dX4_rent_10 1 rfl (k_X4_finding hI 0 v1 r4 v4 hc4) (gb_V (List.mem_cons_of_mem _ tw_192) (List.mem_cons_of_mem _ tw_193) (List.mem_cons_of_mem _ tw_194) (List.mem_cons_of_mem _ tw_190) tw_191) rfl rfl rfl dd_X4_finding rfl (Nat.le_of_ble_eq_true rfl) s_X0 rfl ⟨by decide, by decide⟩ ⟨Nat.le_refl 0, Nat.le_refl 0⟩ (Nat.le_of_ble_eq_true rfl) ?_
    obtain ⟨rfl, rfl⟩ := jx_out hF
    exact jx_iret E dX4_rent_13 rfl
def f_X4_gain (x1 : Int32) (v : jx_V) : Option (Int32 × jx_V) := ((f_X4_within x1 4 v).bind (fun (r1, v1) => (if r1 = 0 then ((f_X4_finding 0 v1).bind (fun (r5, v5) => (some (r5, v5)))) else ((f_X0_gainsInto 1 65 v1).bind (fun (r3, v3) => (if (x1 < 0 ∨ 4 ≤ Int32.toNatClampNeg x1) then none else (some ((v3 65 (Int32.toNatClampNeg x1)), v3))))))))
def rm_X4_gain : Room := { frames := 5, cells := 0, slots := 0, locals := 125 }
set_option maxHeartbeats 4000000 in
set_option maxRecDepth 100000 in
theorem k_X4_gain {l : Launch} {D : va_G} {cI cJ : ClassId} {ad : Nat → Nat} {A : Nat → Prop} {adK adV : Nat → Nat} (hI : jx_inj 67 ad A) (x1 : Int32) (v : jx_V) (r : Int32) (v' : jx_V) (hF : f_X4_gain x1 v = some (r, v')) : jx_Ci l D vwCl 67 cI cJ ad shX A (ex_X adK adV A) yX4_gain (Cond.code yX4_gain cX4_gain 2 (some .int) :: bigT) rm_X4_gain [.ref (ad 0), .int x1] v r v' := by
  unfold f_X4_gain at hF
  refine jx_enteri bigT RX4 cX4_gain 2 (some .int) [(0, .ref (ad 0)), (1, .int x1)] hI (ex_X_ok adK adV A) (by decide +kernel) rfl (Nat.le_of_ble_eq_true rfl) rfl rfl ?_
  intro p e s m args below meth c E
  have iX4 : ∀ w ∈ u_ws RX4 TX4 11, w ∈ (Cond.code yX4_gain cX4_gain 2 (some .int) :: bigT) := fun w h => List.mem_cons_of_mem _ (uw_X4 w h)
  refine jx_iload_n E dX4_gain_0 1 rfl ?_
  refine jx_iconst (x := 4) E dX4_gain_1 (by decide) ?_
  obtain ⟨⟨r1, v1⟩, hc1, hF⟩ := jx_bind hF
  try dsimp only at hF
  refine jx_callSi (As := [.int x1, .int 4]) (st := []) E dX4_gain_2 2 rfl (k_X4_within hI x1 4 v r1 v1 hc1) (gb_S (List.mem_cons_of_mem _ tw_188) (List.mem_cons_of_mem _ tw_189) (List.mem_cons_of_mem _ tw_190) tw_187) rfl rfl rfl dd_X4_within rfl ⟨by decide, by decide⟩ ⟨Nat.le_refl 0, Nat.le_refl 0⟩ (Nat.le_of_ble_eq_true rfl) ?_
  refine jx_if_ne (tgt := 14) E dX4_gain_5 (by decide) (fun hc2 => ?_) (fun hc2 => ?_)
  · rw [if_neg hc2] at hF
    refine jx_aload_n E dX4_gain_14 0 rfl ?_
    refine jx_getr (C := RX4) (T := TX4) (M := 11) (k := 3) E dX4_gain_15 (Nat.le_of_ble_eq_true rfl) s_X0 rfl iX4 (by decide) rfl (List.mem_cons_of_mem _ tw_209) rfl ?_
    refine jx_aload_n E dX4_gain_18 0 rfl ?_
    refine jx_getr (C := RX4) (T := TX4) (M := 11) (k := 0) E dX4_gain_19 (Nat.le_of_ble_eq_true rfl) s_X0 rfl iX4 (by decide) rfl (List.mem_cons_of_mem _ tw_195) rfl ?_
    refine jx_aload_n E dX4_gain_22 0 rfl ?_
    refine jx_getr (C := RX4) (T := TX4) (M := 11) (k := 8) E dX4_gain_23 (Nat.le_of_ble_eq_true rfl) s_X0 rfl iX4 (by decide) rfl (List.mem_cons_of_mem _ tw_217) rfl ?_
    obtain ⟨⟨r3, v3⟩, hc3, hF⟩ := jx_bind hF
    try dsimp only at hF
    refine jx_callNi (As := [.ref (ad 1), .ref (ad 65)]) (st := []) (h := 49) E dX4_gain_26 2 rfl (k_X0_gainsInto hI 1 jx_T1 65 s_X65 (Nat.le_of_ble_eq_true rfl) v1 r3 v3 hc3) (gb_N tw_218) rfl rfl rfl (ex_m22 (jx_ex E)) (List.mem_cons_of_mem _ tw_49) (List.mem_cons_of_mem _ tw_219) (List.mem_cons_of_mem _ tw_220) dd_X0_gainsInto.2 rfl (Nat.le_of_ble_eq_true rfl) s_X49 rfl ⟨by decide, by decide⟩ ⟨Nat.le_refl 0, Nat.le_refl 0⟩ (Nat.le_of_ble_eq_true rfl) ?_
    refine jx_pop E dX4_gain_29 rfl ?_
    refine jx_aload_n E dX4_gain_30 0 rfl ?_
    refine jx_getr (C := RX4) (T := TX4) (M := 11) (k := 8) E dX4_gain_31 (Nat.le_of_ble_eq_true rfl) s_X0 rfl iX4 (by decide) rfl (List.mem_cons_of_mem _ tw_217) rfl ?_
    refine jx_iload_n E dX4_gain_34 1 rfl ?_
    obtain ⟨hg4, hF⟩ := jx_guard hF
    refine jx_iald (h := 65) (j := (Int32.toNatClampNeg x1)) E dX4_gain_35 (Nat.le_of_ble_eq_true rfl) s_X65 hg4 rfl ?_
    obtain ⟨rfl, rfl⟩ := jx_out hF
    exact jx_iret E dX4_gain_36 rfl
  · rw [if_pos hc2] at hF
    refine jx_aload_n E dX4_gain_8 0 rfl ?_
    refine jx_iconst (x := 0) E dX4_gain_9 (by decide) ?_
    obtain ⟨⟨r5, v5⟩, hc5, hF⟩ := jx_bind hF
    try dsimp only at hF
    refine jx_callVi (As := [.int 0]) (st := []) (h := 0) E dX4_gain_10 1 rfl (k_X4_finding hI 0 v1 r5 v5 hc5) (gb_V (List.mem_cons_of_mem _ tw_192) (List.mem_cons_of_mem _ tw_193) (List.mem_cons_of_mem _ tw_194) (List.mem_cons_of_mem _ tw_190) tw_191) rfl rfl rfl dd_X4_finding rfl (Nat.le_of_ble_eq_true rfl) s_X0 rfl ⟨by decide, by decide⟩ ⟨Nat.le_refl 0, Nat.le_refl 0⟩ (Nat.le_of_ble_eq_true rfl) ?_
    obtain ⟨rfl, rfl⟩ := jx_out hF
    exact jx_iret E dX4_gain_13 rfl
def f_X4_broken  (v : jx_V) : Option (Int32 × jx_V) := ((f_X0_brokenSet 1 v).bind (fun (r1, v1) => (some (r1, v1))))
def rm_X4_broken : Room := { frames := 6, cells := 0, slots := 0, locals := 144 }
set_option maxHeartbeats 4000000 in
set_option maxRecDepth 100000 in
theorem k_X4_broken {l : Launch} {D : va_G} {cI cJ : ClassId} {ad : Nat → Nat} {A : Nat → Prop} {adK adV : Nat → Nat} (hI : jx_inj 67 ad A)  (v : jx_V) (r : Int32) (v' : jx_V) (hF : f_X4_broken  v = some (r, v')) : jx_Ci l D vwCl 67 cI cJ ad shX A (ex_X adK adV A) yX4_broken (Cond.code yX4_broken cX4_broken 1 (some .int) :: bigT) rm_X4_broken [.ref (ad 0)] v r v' := by
  unfold f_X4_broken at hF
  refine jx_enteri bigT RX4 cX4_broken 1 (some .int) [(0, .ref (ad 0))] hI (ex_X_ok adK adV A) (by decide +kernel) rfl (Nat.le_of_ble_eq_true rfl) rfl rfl ?_
  intro p e s m args below meth c E
  have iX4 : ∀ w ∈ u_ws RX4 TX4 11, w ∈ (Cond.code yX4_broken cX4_broken 1 (some .int) :: bigT) := fun w h => List.mem_cons_of_mem _ (uw_X4 w h)
  refine jx_aload_n E dX4_broken_0 0 rfl ?_
  refine jx_getr (C := RX4) (T := TX4) (M := 11) (k := 3) E dX4_broken_1 (Nat.le_of_ble_eq_true rfl) s_X0 rfl iX4 (by decide) rfl (List.mem_cons_of_mem _ tw_209) rfl ?_
  refine jx_aload_n E dX4_broken_4 0 rfl ?_
  refine jx_getr (C := RX4) (T := TX4) (M := 11) (k := 0) E dX4_broken_5 (Nat.le_of_ble_eq_true rfl) s_X0 rfl iX4 (by decide) rfl (List.mem_cons_of_mem _ tw_195) rfl ?_
  obtain ⟨⟨r1, v1⟩, hc1, hF⟩ := jx_bind hF
  try dsimp only at hF
  refine jx_callNi (As := [.ref (ad 1)]) (st := []) (h := 49) E dX4_broken_8 1 rfl (k_X0_brokenSet hI 1 jx_T1 v r1 v1 hc1) (gb_N tw_221) rfl rfl rfl (ex_m23 (jx_ex E)) (List.mem_cons_of_mem _ tw_49) (List.mem_cons_of_mem _ tw_222) (List.mem_cons_of_mem _ tw_223) dd_X0_brokenSet.2 rfl (Nat.le_of_ble_eq_true rfl) s_X49 rfl ⟨by decide, by decide⟩ ⟨Nat.le_refl 0, Nat.le_refl 0⟩ (Nat.le_of_ble_eq_true rfl) ?_
  obtain ⟨rfl, rfl⟩ := jx_out hF
  exact jx_iret E dX4_broken_11 rfl
def f_X4_passMonths_L (h1 : Nat) : Nat → Int32 → Int32 → Int32 → jx_V → Option (Int32 × jx_V)
  | 0, _, _, _, _ => none
  | n + 1, x2, x3, x4, v => (if x2 ≤ x4 then (some (x3, v)) else ((f_X0_payAll h1 v).bind (fun (r2, v2) => ((f_X3_growAll h1 v2).bind (fun v3 => (f_X4_passMonths_L h1 n x2 (x3 + r2) (x4 + 1) v3))))))
def f_X4_passMonths (h1 : Nat) (x2 : Int32) (v : jx_V) : Option (Int32 × jx_V) := (f_X4_passMonths_L h1 100000 x2 0 0 v)
def rm_X4_passMonths : Room := { frames := 5, cells := 0, slots := 0, locals := 124 }
set_option maxHeartbeats 4000000 in
set_option maxRecDepth 100000 in
theorem k_X4_passMonths {l : Launch} {D : va_G} {cI cJ : ClassId} {ad : Nat → Nat} {A : Nat → Prop} {adK adV : Nat → Nat} (hI : jx_inj 67 ad A) (h1 : Nat) (hT1 : jx_T h1) (x2 : Int32) (v : jx_V) (r : Int32) (v' : jx_V) (hF : f_X4_passMonths h1 x2 v = some (r, v')) : jx_Ci l D vwCl 67 cI cJ ad shX A (ex_X adK adV A) yX4_passMonths (Cond.code yX4_passMonths cX4_passMonths 5 (some .int) :: bigT) rm_X4_passMonths [.ref (ad 0), .ref (ad h1), .int x2] v r v' := by
  unfold f_X4_passMonths at hF
  refine jx_enteri bigT RX4 cX4_passMonths 5 (some .int) [(0, .ref (ad 0)), (1, .ref (ad h1)), (2, .int x2)] hI (ex_X_ok adK adV A) (by decide +kernel) rfl (Nat.le_of_ble_eq_true rfl) rfl rfl ?_
  intro p e s m args below meth c E
  have iX4 : ∀ w ∈ u_ws RX4 TX4 11, w ∈ (Cond.code yX4_passMonths cX4_passMonths 5 (some .int) :: bigT) := fun w h => List.mem_cons_of_mem _ (uw_X4 w h)
  have key : ∀ n : Nat, (∀ (x2 : Int32) (x3 : Int32) (x4 : Int32) (v : jx_V), f_X4_passMonths_L h1 n  x2 x3 x4 v = some (r, v') → jx_J p l e rm_X4_passMonths s m args below meth c D vwCl 67 cI cJ ad shX A 0 0 5 (MQ below (va_Qi (fun (r1 : Int32) (_ : Unit) => r1 = r) (fun _ t => va_P D vwCl (jx_ws 67 cI cJ ad shX v') t.heap) A) args s 0 0 A) v 5 [(0, .ref (ad 0)), (1, .ref (ad h1)), (2, .int x2), (3, .int x3), (4, .int x4)] []) := by
    intro n
    induction n with
    | zero =>
      exact (fun _ _ _ _ h => by cases h)
    | succ n ih =>
      intro x2 x3 x4 v hF
      rw [f_X4_passMonths_L] at hF
      refine jx_iload E dX4_passMonths_5 4 rfl ?_
      refine jx_iload_n E dX4_passMonths_7 2 rfl ?_
      refine jx_icmp_ge (tgt := 32) E dX4_passMonths_8 (by decide) (fun hc1 => ?_) (fun hc1 => ?_)
      · rw [if_pos hc1] at hF
        refine jx_iload_n E dX4_passMonths_32 3 rfl ?_
        obtain ⟨rfl, rfl⟩ := jx_out hF
        exact jx_iret E dX4_passMonths_33 rfl
      · rw [if_neg hc1] at hF
        refine jx_iload_n E dX4_passMonths_11 3 rfl ?_
        refine jx_aload_n E dX4_passMonths_12 0 rfl ?_
        refine jx_getr (C := RX4) (T := TX4) (M := 11) (k := 3) E dX4_passMonths_13 (Nat.le_of_ble_eq_true rfl) s_X0 rfl iX4 (by decide) rfl (List.mem_cons_of_mem _ tw_209) rfl ?_
        refine jx_aload_n E dX4_passMonths_16 1 rfl ?_
        obtain ⟨⟨r2, v2⟩, hc2, hF⟩ := jx_bind hF
        try dsimp only at hF
        refine jx_callNi (As := [.ref (ad h1)]) (st := [.int x3]) (h := 49) E dX4_passMonths_17 1 rfl (k_X0_payAll hI h1 hT1 v r2 v2 hc2) (gb_N tw_224) rfl rfl rfl (ex_m24 (jx_ex E)) (List.mem_cons_of_mem _ tw_49) (List.mem_cons_of_mem _ tw_225) (List.mem_cons_of_mem _ tw_226) dd_X0_payAll.2 rfl (Nat.le_of_ble_eq_true rfl) s_X49 rfl ⟨by decide, by decide⟩ ⟨Nat.le_refl 0, Nat.le_refl 0⟩ (Nat.le_of_ble_eq_true rfl) ?_
        refine jx_iadd E dX4_passMonths_20 ?_
        refine jx_istore_n (lv' := [(3, .int (x3 + r2)), (0, .ref (ad 0)), (1, .ref (ad h1)), (2, .int x2), (4, .int x4)]) E dX4_passMonths_21 (by decide) rfl ?_
        refine jx_aload_n E dX4_passMonths_22 2 rfl ?_
        obtain ⟨v3, hc3, hF⟩ := jx_bind hF
        try dsimp only at hF
        refine jx_callNv (As := []) (st := []) (h := h1) E dX4_passMonths_23 0 rfl (k_X3_growAll hI h1 hT1 v2 v3 hc3) (gb_N tw_227) rfl rfl rfl (ex_m25 (jx_ex E)) (List.mem_cons_of_mem _ tw_33) (List.mem_cons_of_mem _ tw_228) (List.mem_cons_of_mem _ tw_229) dd_X3_growAll.2 rfl (n_T0 hT1) (s_T0 hT1) rfl ⟨by decide, by decide⟩ ⟨Nat.le_refl 0, Nat.le_refl 0⟩ (Nat.le_of_ble_eq_true rfl) ?_
        refine jx_iinc (y := (x4 + 1)) (lv' := [(4, .int (x4 + 1)), (3, .int (x3 + r2)), (0, .ref (ad 0)), (1, .ref (ad h1)), (2, .int x2)]) E dX4_passMonths_26 4 rfl rfl (by decide) rfl ?_
        refine jx_goto (tgt := 5) E dX4_passMonths_29 (by decide) ?_
        refine jx_sub [2, 3, 4, 1, 0] rfl ?_
        exact ih x2 (x3 + r2) (x4 + 1) v3 hF
  refine jx_iconst (x := 0) E dX4_passMonths_0 (by decide) ?_
  refine jx_istore_n (lv' := [(3, .int 0), (0, .ref (ad 0)), (1, .ref (ad h1)), (2, .int x2)]) E dX4_passMonths_1 (by decide) rfl ?_
  refine jx_iconst (x := 0) E dX4_passMonths_2 (by decide) ?_
  refine jx_istore (lv' := [(4, .int 0), (3, .int 0), (0, .ref (ad 0)), (1, .ref (ad h1)), (2, .int x2)]) E dX4_passMonths_3 (by decide) rfl ?_
  refine jx_sub [2, 3, 4, 1, 0] rfl ?_
  exact (key 100000) x2 0 0 v hF
def f_X4_months (x1 : Int32) (v : jx_V) : Option (Int32 × jx_V) := (if x1 < 1 then ((f_X4_finding 0 v).bind (fun (r2, v2) => (some (r2, v2)))) else (if x1 ≤ 60 then (if ((v 1 6) + x1) ≤ 999 then ((f_X4_passMonths 1 x1 v).bind (fun (r5, v5) => (some (r5, v5)))) else ((f_X4_finding 4 v).bind (fun (r6, v6) => (some (r6, v6))))) else ((f_X4_finding 0 v).bind (fun (r7, v7) => (some (r7, v7))))))
def rm_X4_months : Room := { frames := 6, cells := 0, slots := 0, locals := 148 }
set_option maxHeartbeats 4000000 in
set_option maxRecDepth 100000 in
theorem k_X4_months {l : Launch} {D : va_G} {cI cJ : ClassId} {ad : Nat → Nat} {A : Nat → Prop} {adK adV : Nat → Nat} (hI : jx_inj 67 ad A) (x1 : Int32) (v : jx_V) (r : Int32) (v' : jx_V) (hF : f_X4_months x1 v = some (r, v')) : jx_Ci l D vwCl 67 cI cJ ad shX A (ex_X adK adV A) yX4_months (Cond.code yX4_months cX4_months 2 (some .int) :: bigT) rm_X4_months [.ref (ad 0), .int x1] v r v' := by
  unfold f_X4_months at hF
  refine jx_enteri bigT RX4 cX4_months 2 (some .int) [(0, .ref (ad 0)), (1, .int x1)] hI (ex_X_ok adK adV A) (by decide +kernel) rfl (Nat.le_of_ble_eq_true rfl) rfl rfl ?_
  intro p e s m args below meth c E
  have iX3 : ∀ w ∈ u_ws RX3 TX3 8, w ∈ (Cond.code yX4_months cX4_months 2 (some .int) :: bigT) := fun w h => List.mem_cons_of_mem _ (uw_X3 w h)
  have iX4 : ∀ w ∈ u_ws RX4 TX4 11, w ∈ (Cond.code yX4_months cX4_months 2 (some .int) :: bigT) := fun w h => List.mem_cons_of_mem _ (uw_X4 w h)
  refine jx_iload_n E dX4_months_0 1 rfl ?_
  refine jx_iconst (x := 1) E dX4_months_1 (by decide) ?_
  refine jx_icmp_lt (tgt := 11) E dX4_months_2 (by decide) (fun hc1 => ?_) (fun hc1 => ?_)
  · rw [if_pos hc1] at hF
    refine jx_aload_n E dX4_months_11 0 rfl ?_
    refine jx_iconst (x := 0) E dX4_months_12 (by decide) ?_
    obtain ⟨⟨r2, v2⟩, hc2, hF⟩ := jx_bind hF
    try dsimp only at hF
    refine jx_callVi (As := [.int 0]) (st := []) (h := 0) E dX4_months_13 1 rfl (k_X4_finding hI 0 v r2 v2 hc2) (gb_V (List.mem_cons_of_mem _ tw_192) (List.mem_cons_of_mem _ tw_193) (List.mem_cons_of_mem _ tw_194) (List.mem_cons_of_mem _ tw_190) tw_191) rfl rfl rfl dd_X4_finding rfl (Nat.le_of_ble_eq_true rfl) s_X0 rfl ⟨by decide, by decide⟩ ⟨Nat.le_refl 0, Nat.le_refl 0⟩ (Nat.le_of_ble_eq_true rfl) ?_
    obtain ⟨rfl, rfl⟩ := jx_out hF
    exact jx_iret E dX4_months_16 rfl
  · rw [if_neg hc1] at hF
    refine jx_iload_n E dX4_months_5 1 rfl ?_
    refine jx_bipush (x := 60) E dX4_months_6 (by decide) ?_
    refine jx_icmp_le (tgt := 17) E dX4_months_8 (by decide) (fun hc3 => ?_) (fun hc3 => ?_)
    · rw [if_pos hc3] at hF
      refine jx_aload_n E dX4_months_17 0 rfl ?_
      refine jx_getr (C := RX4) (T := TX4) (M := 11) (k := 0) E dX4_months_18 (Nat.le_of_ble_eq_true rfl) s_X0 rfl iX4 (by decide) rfl (List.mem_cons_of_mem _ tw_195) rfl ?_
      refine jx_getiN (C := RX3) (T := TX3) (M := 8) (k := 6) E dX4_months_21 (Nat.le_of_ble_eq_true rfl) s_X1 rfl iX3 (by decide) rfl (ex_f12 (jx_ex E)) rfl ?_
      refine jx_iload_n E dX4_months_24 1 rfl ?_
      refine jx_iadd E dX4_months_25 ?_
      refine jx_sipush (x := 999) E dX4_months_26 (by decide) ?_
      refine jx_icmp_le (tgt := 38) E dX4_months_29 (by decide) (fun hc4 => ?_) (fun hc4 => ?_)
      · rw [if_pos hc4] at hF
        refine jx_aload_n E dX4_months_38 0 rfl ?_
        refine jx_aload_n E dX4_months_39 0 rfl ?_
        refine jx_getr (C := RX4) (T := TX4) (M := 11) (k := 0) E dX4_months_40 (Nat.le_of_ble_eq_true rfl) s_X0 rfl iX4 (by decide) rfl (List.mem_cons_of_mem _ tw_195) rfl ?_
        refine jx_iload_n E dX4_months_43 1 rfl ?_
        obtain ⟨⟨r5, v5⟩, hc5, hF⟩ := jx_bind hF
        try dsimp only at hF
        refine jx_callVi (As := [.ref (ad 1), .int x1]) (st := []) (h := 0) E dX4_months_44 2 rfl (k_X4_passMonths hI 1 jx_T1 x1 v r5 v5 hc5) (gb_V (List.mem_cons_of_mem _ tw_231) (List.mem_cons_of_mem _ tw_232) (List.mem_cons_of_mem _ tw_233) (List.mem_cons_of_mem _ tw_190) tw_230) rfl rfl rfl dd_X4_passMonths rfl (Nat.le_of_ble_eq_true rfl) s_X0 rfl ⟨by decide, by decide⟩ ⟨Nat.le_refl 0, Nat.le_refl 0⟩ (Nat.le_of_ble_eq_true rfl) ?_
        obtain ⟨rfl, rfl⟩ := jx_out hF
        exact jx_iret E dX4_months_47 rfl
      · rw [if_neg hc4] at hF
        refine jx_aload_n E dX4_months_32 0 rfl ?_
        refine jx_iconst (x := 4) E dX4_months_33 (by decide) ?_
        obtain ⟨⟨r6, v6⟩, hc6, hF⟩ := jx_bind hF
        try dsimp only at hF
        refine jx_callVi (As := [.int 4]) (st := []) (h := 0) E dX4_months_34 1 rfl (k_X4_finding hI 4 v r6 v6 hc6) (gb_V (List.mem_cons_of_mem _ tw_192) (List.mem_cons_of_mem _ tw_193) (List.mem_cons_of_mem _ tw_194) (List.mem_cons_of_mem _ tw_190) tw_191) rfl rfl rfl dd_X4_finding rfl (Nat.le_of_ble_eq_true rfl) s_X0 rfl ⟨by decide, by decide⟩ ⟨Nat.le_refl 0, Nat.le_refl 0⟩ (Nat.le_of_ble_eq_true rfl) ?_
        obtain ⟨rfl, rfl⟩ := jx_out hF
        exact jx_iret E dX4_months_37 rfl
    · rw [if_neg hc3] at hF
      refine jx_aload_n E dX4_months_11 0 rfl ?_
      refine jx_iconst (x := 0) E dX4_months_12 (by decide) ?_
      obtain ⟨⟨r7, v7⟩, hc7, hF⟩ := jx_bind hF
      try dsimp only at hF
      refine jx_callVi (As := [.int 0]) (st := []) (h := 0) E dX4_months_13 1 rfl (k_X4_finding hI 0 v r7 v7 hc7) (gb_V (List.mem_cons_of_mem _ tw_192) (List.mem_cons_of_mem _ tw_193) (List.mem_cons_of_mem _ tw_194) (List.mem_cons_of_mem _ tw_190) tw_191) rfl rfl rfl dd_X4_finding rfl (Nat.le_of_ble_eq_true rfl) s_X0 rfl ⟨by decide, by decide⟩ ⟨Nat.le_refl 0, Nat.le_refl 0⟩ (Nat.le_of_ble_eq_true rfl) ?_
      obtain ⟨rfl, rfl⟩ := jx_out hF
      exact jx_iret E dX4_months_16 rfl
def f_X4_ahead (x1 : Int32) (x2 : Int32) (v : jx_V) : Option (Int32 × jx_V) := ((f_X4_within x1 121 v).bind (fun (r1, v1) => (if r1 = 0 then ((f_X4_finding 0 v1).bind (fun (r3, v3) => (some (r3, v3)))) else ((f_X4_within x2 7 v1).bind (fun (r4, v4) => (if r4 = 0 then ((f_X4_finding 0 v4).bind (fun (r16, v16) => (some (r16, v16)))) else (if ((v4 1 6) + x1) ≤ 999 then ((f_X3_become 33 1 v4).bind (fun v7 => ((f_X4_passMonths 33 x1 v7).bind (fun (r8, v8) => (if x2 = 0 then (some (r8, v8)) else (if x2 = 1 then ((f_X0_brokenSet 33 v8).bind (fun (r11, v11) => (some (r11, v11)))) else (if x2 = 2 then ((f_X0_squaresInAllViews 33 v8).bind (fun (r13, v13) => (some (r13, v13)))) else (if ((x2 - 3) < 0 ∨ 4 ≤ Int32.toNatClampNeg (x2 - 3)) then none else (some ((v8 47 (Int32.toNatClampNeg (x2 - 3))), v8)))))))))) else ((f_X4_finding 4 v4).bind (fun (r15, v15) => (some (r15, v15)))))))))))
def rm_X4_ahead : Room := { frames := 6, cells := 0, slots := 0, locals := 148 }
set_option maxHeartbeats 4000000 in
set_option maxRecDepth 100000 in
theorem k_X4_ahead {l : Launch} {D : va_G} {cI cJ : ClassId} {ad : Nat → Nat} {A : Nat → Prop} {adK adV : Nat → Nat} (hI : jx_inj 67 ad A) (x1 : Int32) (x2 : Int32) (v : jx_V) (r : Int32) (v' : jx_V) (hF : f_X4_ahead x1 x2 v = some (r, v')) : jx_Ci l D vwCl 67 cI cJ ad shX A (ex_X adK adV A) yX4_ahead (Cond.code yX4_ahead cX4_ahead 4 (some .int) :: bigT) rm_X4_ahead [.ref (ad 0), .int x1, .int x2] v r v' := by
  unfold f_X4_ahead at hF
  refine jx_enteri bigT RX4 cX4_ahead 4 (some .int) [(0, .ref (ad 0)), (1, .int x1), (2, .int x2)] hI (ex_X_ok adK adV A) (by decide +kernel) rfl (Nat.le_of_ble_eq_true rfl) rfl rfl ?_
  intro p e s m args below meth c E
  have iX3 : ∀ w ∈ u_ws RX3 TX3 8, w ∈ (Cond.code yX4_ahead cX4_ahead 4 (some .int) :: bigT) := fun w h => List.mem_cons_of_mem _ (uw_X3 w h)
  have iX4 : ∀ w ∈ u_ws RX4 TX4 11, w ∈ (Cond.code yX4_ahead cX4_ahead 4 (some .int) :: bigT) := fun w h => List.mem_cons_of_mem _ (uw_X4 w h)
  refine jx_iload_n E dX4_ahead_0 1 rfl ?_
  refine jx_bipush (x := 121) E dX4_ahead_1 (by decide) ?_
  obtain ⟨⟨r1, v1⟩, hc1, hF⟩ := jx_bind hF
  try dsimp only at hF
  refine jx_callSi (As := [.int x1, .int 121]) (st := []) E dX4_ahead_3 2 rfl (k_X4_within hI x1 121 v r1 v1 hc1) (gb_S (List.mem_cons_of_mem _ tw_188) (List.mem_cons_of_mem _ tw_189) (List.mem_cons_of_mem _ tw_190) tw_187) rfl rfl rfl dd_X4_within rfl ⟨by decide, by decide⟩ ⟨Nat.le_refl 0, Nat.le_refl 0⟩ (Nat.le_of_ble_eq_true rfl) ?_
  refine jx_if_eq (tgt := 18) E dX4_ahead_6 (by decide) (fun hc2 => ?_) (fun hc2 => ?_)
  · rw [if_pos hc2] at hF
    refine jx_aload_n E dX4_ahead_18 0 rfl ?_
    refine jx_iconst (x := 0) E dX4_ahead_19 (by decide) ?_
    obtain ⟨⟨r3, v3⟩, hc3, hF⟩ := jx_bind hF
    try dsimp only at hF
    refine jx_callVi (As := [.int 0]) (st := []) (h := 0) E dX4_ahead_20 1 rfl (k_X4_finding hI 0 v1 r3 v3 hc3) (gb_V (List.mem_cons_of_mem _ tw_192) (List.mem_cons_of_mem _ tw_193) (List.mem_cons_of_mem _ tw_194) (List.mem_cons_of_mem _ tw_190) tw_191) rfl rfl rfl dd_X4_finding rfl (Nat.le_of_ble_eq_true rfl) s_X0 rfl ⟨by decide, by decide⟩ ⟨Nat.le_refl 0, Nat.le_refl 0⟩ (Nat.le_of_ble_eq_true rfl) ?_
    obtain ⟨rfl, rfl⟩ := jx_out hF
    exact jx_iret E dX4_ahead_23 rfl
  · rw [if_neg hc2] at hF
    refine jx_iload_n E dX4_ahead_9 2 rfl ?_
    refine jx_bipush (x := 7) E dX4_ahead_10 (by decide) ?_
    obtain ⟨⟨r4, v4⟩, hc4, hF⟩ := jx_bind hF
    try dsimp only at hF
    refine jx_callSi (As := [.int x2, .int 7]) (st := []) E dX4_ahead_12 2 rfl (k_X4_within hI x2 7 v1 r4 v4 hc4) (gb_S (List.mem_cons_of_mem _ tw_188) (List.mem_cons_of_mem _ tw_189) (List.mem_cons_of_mem _ tw_190) tw_187) rfl rfl rfl dd_X4_within rfl ⟨by decide, by decide⟩ ⟨Nat.le_refl 0, Nat.le_refl 0⟩ (Nat.le_of_ble_eq_true rfl) ?_
    refine jx_if_ne (tgt := 24) E dX4_ahead_15 (by decide) (fun hc5 => ?_) (fun hc5 => ?_)
    · rw [if_neg hc5] at hF
      refine jx_aload_n E dX4_ahead_24 0 rfl ?_
      refine jx_getr (C := RX4) (T := TX4) (M := 11) (k := 0) E dX4_ahead_25 (Nat.le_of_ble_eq_true rfl) s_X0 rfl iX4 (by decide) rfl (List.mem_cons_of_mem _ tw_195) rfl ?_
      refine jx_getiN (C := RX3) (T := TX3) (M := 8) (k := 6) E dX4_ahead_28 (Nat.le_of_ble_eq_true rfl) s_X1 rfl iX3 (by decide) rfl (ex_f12 (jx_ex E)) rfl ?_
      refine jx_iload_n E dX4_ahead_31 1 rfl ?_
      refine jx_iadd E dX4_ahead_32 ?_
      refine jx_sipush (x := 999) E dX4_ahead_33 (by decide) ?_
      refine jx_icmp_le (tgt := 45) E dX4_ahead_36 (by decide) (fun hc6 => ?_) (fun hc6 => ?_)
      · rw [if_pos hc6] at hF
        refine jx_aload_n E dX4_ahead_45 0 rfl ?_
        refine jx_getr (C := RX4) (T := TX4) (M := 11) (k := 2) E dX4_ahead_46 (Nat.le_of_ble_eq_true rfl) s_X0 rfl iX4 (by decide) rfl (List.mem_cons_of_mem _ tw_234) rfl ?_
        refine jx_aload_n E dX4_ahead_49 0 rfl ?_
        refine jx_getr (C := RX4) (T := TX4) (M := 11) (k := 0) E dX4_ahead_50 (Nat.le_of_ble_eq_true rfl) s_X0 rfl iX4 (by decide) rfl (List.mem_cons_of_mem _ tw_195) rfl ?_
        obtain ⟨v7, hc7, hF⟩ := jx_bind hF
        try dsimp only at hF
        refine jx_callNv (As := [.ref (ad 1)]) (st := []) (h := 33) E dX4_ahead_53 1 rfl (k_X3_become hI 33 jx_T33 1 jx_T1 v4 v7 hc7) (gb_N tw_235) rfl rfl rfl (ex_m26 (jx_ex E)) (List.mem_cons_of_mem _ tw_33) (List.mem_cons_of_mem _ tw_236) (List.mem_cons_of_mem _ tw_237) dd_X3_become.2 rfl (Nat.le_of_ble_eq_true rfl) s_X33 rfl ⟨by decide, by decide⟩ ⟨Nat.le_refl 0, Nat.le_refl 0⟩ (Nat.le_of_ble_eq_true rfl) ?_
        refine jx_aload_n E dX4_ahead_56 0 rfl ?_
        refine jx_aload_n E dX4_ahead_57 0 rfl ?_
        refine jx_getr (C := RX4) (T := TX4) (M := 11) (k := 2) E dX4_ahead_58 (Nat.le_of_ble_eq_true rfl) s_X0 rfl iX4 (by decide) rfl (List.mem_cons_of_mem _ tw_234) rfl ?_
        refine jx_iload_n E dX4_ahead_61 1 rfl ?_
        obtain ⟨⟨r8, v8⟩, hc8, hF⟩ := jx_bind hF
        try dsimp only at hF
        refine jx_callVi (As := [.ref (ad 33), .int x1]) (st := []) (h := 0) E dX4_ahead_62 2 rfl (k_X4_passMonths hI 33 jx_T33 x1 v7 r8 v8 hc8) (gb_V (List.mem_cons_of_mem _ tw_231) (List.mem_cons_of_mem _ tw_232) (List.mem_cons_of_mem _ tw_233) (List.mem_cons_of_mem _ tw_190) tw_230) rfl rfl rfl dd_X4_passMonths rfl (Nat.le_of_ble_eq_true rfl) s_X0 rfl ⟨by decide, by decide⟩ ⟨Nat.le_refl 0, Nat.le_refl 0⟩ (Nat.le_of_ble_eq_true rfl) ?_
        refine jx_istore_n (lv' := [(3, .int r8), (0, .ref (ad 0)), (1, .int x1), (2, .int x2)]) E dX4_ahead_65 (by decide) rfl ?_
        refine jx_iload_n E dX4_ahead_66 3 rfl ?_
        by_cases hc9 : x2 = 0
        · rw [if_pos hc9] at hF
          refine jx_tableIn (tgt := 92) (z := 0) E dX4_ahead_67 hc9 (by decide) (by decide) rfl (by decide) ?_
          refine jx_iload_n E dX4_ahead_92 0 rfl ?_
          obtain ⟨rfl, rfl⟩ := jx_out hF
          exact jx_iret E dX4_ahead_93 rfl
        rw [if_neg hc9] at hF
        by_cases hc10 : x2 = 1
        · rw [if_pos hc10] at hF
          refine jx_tableIn (tgt := 94) (z := 1) E dX4_ahead_67 hc10 (by decide) (by decide) rfl (by decide) ?_
          refine jx_aload_n E dX4_ahead_94 1 rfl ?_
          refine jx_getr (C := RX4) (T := TX4) (M := 11) (k := 3) E dX4_ahead_95 (Nat.le_of_ble_eq_true rfl) s_X0 rfl iX4 (by decide) rfl (List.mem_cons_of_mem _ tw_209) rfl ?_
          refine jx_aload_n E dX4_ahead_98 1 rfl ?_
          refine jx_getr (C := RX4) (T := TX4) (M := 11) (k := 2) E dX4_ahead_99 (Nat.le_of_ble_eq_true rfl) s_X0 rfl iX4 (by decide) rfl (List.mem_cons_of_mem _ tw_234) rfl ?_
          obtain ⟨⟨r11, v11⟩, hc11, hF⟩ := jx_bind hF
          try dsimp only at hF
          refine jx_callNi (As := [.ref (ad 33)]) (st := []) (h := 49) E dX4_ahead_102 1 rfl (k_X0_brokenSet hI 33 jx_T33 v8 r11 v11 hc11) (gb_N tw_221) rfl rfl rfl (ex_m23 (jx_ex E)) (List.mem_cons_of_mem _ tw_49) (List.mem_cons_of_mem _ tw_222) (List.mem_cons_of_mem _ tw_223) dd_X0_brokenSet.2 rfl (Nat.le_of_ble_eq_true rfl) s_X49 rfl ⟨by decide, by decide⟩ ⟨Nat.le_refl 0, Nat.le_refl 0⟩ (Nat.le_of_ble_eq_true rfl) ?_
          obtain ⟨rfl, rfl⟩ := jx_out hF
          exact jx_iret E dX4_ahead_105 rfl
        rw [if_neg hc10] at hF
        by_cases hc12 : x2 = 2
        · rw [if_pos hc12] at hF
          refine jx_tableIn (tgt := 106) (z := 2) E dX4_ahead_67 hc12 (by decide) (by decide) rfl (by decide) ?_
          refine jx_aload_n E dX4_ahead_106 1 rfl ?_
          refine jx_getr (C := RX4) (T := TX4) (M := 11) (k := 3) E dX4_ahead_107 (Nat.le_of_ble_eq_true rfl) s_X0 rfl iX4 (by decide) rfl (List.mem_cons_of_mem _ tw_209) rfl ?_
          refine jx_aload_n E dX4_ahead_110 1 rfl ?_
          refine jx_getr (C := RX4) (T := TX4) (M := 11) (k := 2) E dX4_ahead_111 (Nat.le_of_ble_eq_true rfl) s_X0 rfl iX4 (by decide) rfl (List.mem_cons_of_mem _ tw_234) rfl ?_
          obtain ⟨⟨r13, v13⟩, hc13, hF⟩ := jx_bind hF
          try dsimp only at hF
          refine jx_callNi (As := [.ref (ad 33)]) (st := []) (h := 49) E dX4_ahead_114 1 rfl (k_X0_squaresInAllViews hI 33 jx_T33 v8 r13 v13 hc13) (gb_N tw_238) rfl rfl rfl (ex_m27 (jx_ex E)) (List.mem_cons_of_mem _ tw_49) (List.mem_cons_of_mem _ tw_239) (List.mem_cons_of_mem _ tw_240) dd_X0_squaresInAllViews.2 rfl (Nat.le_of_ble_eq_true rfl) s_X49 rfl ⟨by decide, by decide⟩ ⟨Nat.le_refl 0, Nat.le_refl 0⟩ (Nat.le_of_ble_eq_true rfl) ?_
          obtain ⟨rfl, rfl⟩ := jx_out hF
          exact jx_iret E dX4_ahead_117 rfl
        rw [if_neg hc12] at hF
        refine jx_tableOut (tgt := 118) E dX4_ahead_67 (by have hz9 := jx_ne hc9 (k := 0) (by decide); have hz10 := jx_ne hc10 (k := 1) (by decide); have hz12 := jx_ne hc12 (k := 2) (by decide); omega) (by decide) ?_
        refine jx_aload_n E dX4_ahead_118 1 rfl ?_
        refine jx_getr (C := RX4) (T := TX4) (M := 11) (k := 2) E dX4_ahead_119 (Nat.le_of_ble_eq_true rfl) s_X0 rfl iX4 (by decide) rfl (List.mem_cons_of_mem _ tw_234) rfl ?_
        refine jx_getrN (C := RX3) (T := TX3) (M := 8) (k := 3) E dX4_ahead_122 (Nat.le_of_ble_eq_true rfl) s_X33 rfl iX3 (by decide) rfl (ex_f6 (jx_ex E)) rfl ?_
        refine jx_iload_n E dX4_ahead_125 3 rfl ?_
        refine jx_iconst (x := 3) E dX4_ahead_126 (by decide) ?_
        refine jx_isub E dX4_ahead_127 ?_
        obtain ⟨hg14, hF⟩ := jx_guard hF
        refine jx_iald (h := 47) (j := (Int32.toNatClampNeg (x2 - 3))) E dX4_ahead_128 (Nat.le_of_ble_eq_true rfl) s_X47 hg14 rfl ?_
        obtain ⟨rfl, rfl⟩ := jx_out hF
        exact jx_iret E dX4_ahead_129 rfl
      · rw [if_neg hc6] at hF
        refine jx_aload_n E dX4_ahead_39 0 rfl ?_
        refine jx_iconst (x := 4) E dX4_ahead_40 (by decide) ?_
        obtain ⟨⟨r15, v15⟩, hc15, hF⟩ := jx_bind hF
        try dsimp only at hF
        refine jx_callVi (As := [.int 4]) (st := []) (h := 0) E dX4_ahead_41 1 rfl (k_X4_finding hI 4 v4 r15 v15 hc15) (gb_V (List.mem_cons_of_mem _ tw_192) (List.mem_cons_of_mem _ tw_193) (List.mem_cons_of_mem _ tw_194) (List.mem_cons_of_mem _ tw_190) tw_191) rfl rfl rfl dd_X4_finding rfl (Nat.le_of_ble_eq_true rfl) s_X0 rfl ⟨by decide, by decide⟩ ⟨Nat.le_refl 0, Nat.le_refl 0⟩ (Nat.le_of_ble_eq_true rfl) ?_
        obtain ⟨rfl, rfl⟩ := jx_out hF
        exact jx_iret E dX4_ahead_44 rfl
    · rw [if_pos hc5] at hF
      refine jx_aload_n E dX4_ahead_18 0 rfl ?_
      refine jx_iconst (x := 0) E dX4_ahead_19 (by decide) ?_
      obtain ⟨⟨r16, v16⟩, hc16, hF⟩ := jx_bind hF
      try dsimp only at hF
      refine jx_callVi (As := [.int 0]) (st := []) (h := 0) E dX4_ahead_20 1 rfl (k_X4_finding hI 0 v4 r16 v16 hc16) (gb_V (List.mem_cons_of_mem _ tw_192) (List.mem_cons_of_mem _ tw_193) (List.mem_cons_of_mem _ tw_194) (List.mem_cons_of_mem _ tw_190) tw_191) rfl rfl rfl dd_X4_finding rfl (Nat.le_of_ble_eq_true rfl) s_X0 rfl ⟨by decide, by decide⟩ ⟨Nat.le_refl 0, Nat.le_refl 0⟩ (Nat.le_of_ble_eq_true rfl) ?_
      obtain ⟨rfl, rfl⟩ := jx_out hF
      exact jx_iret E dX4_ahead_23 rfl
def f_X4_tryUntilBroken_L  : Nat → Int32 → Int32 → jx_V → Option (Int32 × jx_V)
  | 0, _, _, _ => none
  | n + 1, x1, x2, v => (if 120 < x2 then (some ((-1), v)) else ((f_X0_isBroken 33 x1 v).bind (fun (r3, v3) => (if r3 = 0 then ((f_X3_growAll 33 v3).bind (fun v5 => (f_X4_tryUntilBroken_L n x1 (x2 + 1) v5))) else (some (x2, v3))))))
def f_X4_tryUntilBroken (x1 : Int32) (v : jx_V) : Option (Int32 × jx_V) := ((f_X3_become 33 1 v).bind (fun v1 => (f_X4_tryUntilBroken_L 100000 x1 0 v1)))
def rm_X4_tryUntilBroken : Room := { frames := 5, cells := 0, slots := 0, locals := 121 }
set_option maxHeartbeats 4000000 in
set_option maxRecDepth 100000 in
theorem k_X4_tryUntilBroken {l : Launch} {D : va_G} {cI cJ : ClassId} {ad : Nat → Nat} {A : Nat → Prop} {adK adV : Nat → Nat} (hI : jx_inj 67 ad A) (x1 : Int32) (v : jx_V) (r : Int32) (v' : jx_V) (hF : f_X4_tryUntilBroken x1 v = some (r, v')) : jx_Ci l D vwCl 67 cI cJ ad shX A (ex_X adK adV A) yX4_tryUntilBroken (Cond.code yX4_tryUntilBroken cX4_tryUntilBroken 3 (some .int) :: bigT) rm_X4_tryUntilBroken [.ref (ad 0), .int x1] v r v' := by
  unfold f_X4_tryUntilBroken at hF
  refine jx_enteri bigT RX4 cX4_tryUntilBroken 3 (some .int) [(0, .ref (ad 0)), (1, .int x1)] hI (ex_X_ok adK adV A) (by decide +kernel) rfl (Nat.le_of_ble_eq_true rfl) rfl rfl ?_
  intro p e s m args below meth c E
  have iX4 : ∀ w ∈ u_ws RX4 TX4 11, w ∈ (Cond.code yX4_tryUntilBroken cX4_tryUntilBroken 3 (some .int) :: bigT) := fun w h => List.mem_cons_of_mem _ (uw_X4 w h)
  have key : ∀ n : Nat, (∀ (x1 : Int32) (x2 : Int32) (v : jx_V), f_X4_tryUntilBroken_L  n  x1 x2 v = some (r, v') → jx_J p l e rm_X4_tryUntilBroken s m args below meth c D vwCl 67 cI cJ ad shX A 0 0 3 (MQ below (va_Qi (fun (r1 : Int32) (_ : Unit) => r1 = r) (fun _ t => va_P D vwCl (jx_ws 67 cI cJ ad shX v') t.heap) A) args s 0 0 A) v 13 [(0, .ref (ad 0)), (1, .int x1), (2, .int x2)] []) := by
    intro n
    induction n with
    | zero =>
      exact (fun _ _ _ h => by cases h)
    | succ n ih =>
      intro x1 x2 v hF
      rw [f_X4_tryUntilBroken_L] at hF
      refine jx_iload_n E dX4_tryUntilBroken_13 2 rfl ?_
      refine jx_bipush (x := 120) E dX4_tryUntilBroken_14 (by decide) ?_
      refine jx_icmp_gt (tgt := 49) E dX4_tryUntilBroken_16 (by decide) (fun hc2 => ?_) (fun hc2 => ?_)
      · rw [if_pos hc2] at hF
        refine jx_iconst (x := -1) E dX4_tryUntilBroken_49 (by decide) ?_
        obtain ⟨rfl, rfl⟩ := jx_out hF
        exact jx_iret E dX4_tryUntilBroken_50 rfl
      · rw [if_neg hc2] at hF
        refine jx_aload_n E dX4_tryUntilBroken_19 0 rfl ?_
        refine jx_getr (C := RX4) (T := TX4) (M := 11) (k := 3) E dX4_tryUntilBroken_20 (Nat.le_of_ble_eq_true rfl) s_X0 rfl iX4 (by decide) rfl (List.mem_cons_of_mem _ tw_209) rfl ?_
        refine jx_aload_n E dX4_tryUntilBroken_23 0 rfl ?_
        refine jx_getr (C := RX4) (T := TX4) (M := 11) (k := 2) E dX4_tryUntilBroken_24 (Nat.le_of_ble_eq_true rfl) s_X0 rfl iX4 (by decide) rfl (List.mem_cons_of_mem _ tw_234) rfl ?_
        refine jx_iload_n E dX4_tryUntilBroken_27 1 rfl ?_
        obtain ⟨⟨r3, v3⟩, hc3, hF⟩ := jx_bind hF
        try dsimp only at hF
        refine jx_callNi (As := [.ref (ad 33), .int x1]) (st := []) (h := 49) E dX4_tryUntilBroken_28 2 rfl (k_X0_isBroken hI 33 jx_T33 x1 v r3 v3 hc3) (gb_N tw_85) rfl rfl rfl (ex_m12 (jx_ex E)) (List.mem_cons_of_mem _ tw_49) (List.mem_cons_of_mem _ tw_87) (List.mem_cons_of_mem _ tw_88) dd_X0_isBroken.2 rfl (Nat.le_of_ble_eq_true rfl) s_X49 rfl ⟨by decide, by decide⟩ ⟨Nat.le_refl 0, Nat.le_refl 0⟩ (Nat.le_of_ble_eq_true rfl) ?_
        refine jx_if_eq (tgt := 36) E dX4_tryUntilBroken_31 (by decide) (fun hc4 => ?_) (fun hc4 => ?_)
        · rw [if_pos hc4] at hF
          refine jx_aload_n E dX4_tryUntilBroken_36 0 rfl ?_
          refine jx_getr (C := RX4) (T := TX4) (M := 11) (k := 2) E dX4_tryUntilBroken_37 (Nat.le_of_ble_eq_true rfl) s_X0 rfl iX4 (by decide) rfl (List.mem_cons_of_mem _ tw_234) rfl ?_
          obtain ⟨v5, hc5, hF⟩ := jx_bind hF
          try dsimp only at hF
          refine jx_callNv (As := []) (st := []) (h := 33) E dX4_tryUntilBroken_40 0 rfl (k_X3_growAll hI 33 jx_T33 v3 v5 hc5) (gb_N tw_227) rfl rfl rfl (ex_m25 (jx_ex E)) (List.mem_cons_of_mem _ tw_33) (List.mem_cons_of_mem _ tw_228) (List.mem_cons_of_mem _ tw_229) dd_X3_growAll.2 rfl (Nat.le_of_ble_eq_true rfl) s_X33 rfl ⟨by decide, by decide⟩ ⟨Nat.le_refl 0, Nat.le_refl 0⟩ (Nat.le_of_ble_eq_true rfl) ?_
          refine jx_iinc (y := (x2 + 1)) (lv' := [(2, .int (x2 + 1)), (0, .ref (ad 0)), (1, .int x1)]) E dX4_tryUntilBroken_43 2 rfl rfl (by decide) rfl ?_
          refine jx_goto (tgt := 13) E dX4_tryUntilBroken_46 (by decide) ?_
          refine jx_sub [1, 2, 0] rfl ?_
          exact ih x1 (x2 + 1) v5 hF
        · rw [if_neg hc4] at hF
          refine jx_iload_n E dX4_tryUntilBroken_34 2 rfl ?_
          obtain ⟨rfl, rfl⟩ := jx_out hF
          exact jx_iret E dX4_tryUntilBroken_35 rfl
  refine jx_aload_n E dX4_tryUntilBroken_0 0 rfl ?_
  refine jx_getr (C := RX4) (T := TX4) (M := 11) (k := 2) E dX4_tryUntilBroken_1 (Nat.le_of_ble_eq_true rfl) s_X0 rfl iX4 (by decide) rfl (List.mem_cons_of_mem _ tw_234) rfl ?_
  refine jx_aload_n E dX4_tryUntilBroken_4 0 rfl ?_
  refine jx_getr (C := RX4) (T := TX4) (M := 11) (k := 0) E dX4_tryUntilBroken_5 (Nat.le_of_ble_eq_true rfl) s_X0 rfl iX4 (by decide) rfl (List.mem_cons_of_mem _ tw_195) rfl ?_
  obtain ⟨v1, hc1, hF⟩ := jx_bind hF
  try dsimp only at hF
  refine jx_callNv (As := [.ref (ad 1)]) (st := []) (h := 33) E dX4_tryUntilBroken_8 1 rfl (k_X3_become hI 33 jx_T33 1 jx_T1 v v1 hc1) (gb_N tw_235) rfl rfl rfl (ex_m26 (jx_ex E)) (List.mem_cons_of_mem _ tw_33) (List.mem_cons_of_mem _ tw_236) (List.mem_cons_of_mem _ tw_237) dd_X3_become.2 rfl (Nat.le_of_ble_eq_true rfl) s_X33 rfl ⟨by decide, by decide⟩ ⟨Nat.le_refl 0, Nat.le_refl 0⟩ (Nat.le_of_ble_eq_true rfl) ?_
  refine jx_iconst (x := 0) E dX4_tryUntilBroken_11 (by decide) ?_
  refine jx_istore_n (lv' := [(2, .int 0), (0, .ref (ad 0)), (1, .int x1)]) E dX4_tryUntilBroken_12 (by decide) rfl ?_
  refine jx_sub [1, 2, 0] rfl ?_
  exact (key 100000) x1 0 v1 hF
def f_X4_breach (x1 : Int32) (v : jx_V) : Option (Int32 × jx_V) := ((f_X4_isWindow x1 v).bind (fun (r1, v1) => (if r1 = 0 then ((f_X4_finding 0 v1).bind (fun (r11, v11) => (some (r11, v11)))) else (if (x1 < 0 ∨ 10 ≤ Int32.toNatClampNeg x1) then none else (if (v1 12 (Int32.toNatClampNeg x1)) < 0 then ((f_X4_finding 4 v1).bind (fun (r5, v5) => (some (r5, v5)))) else (if ((v1 1 6) + 120) ≤ 999 then ((f_X4_tryUntilBroken x1 v1).bind (fun (r7, v7) => (if 0 ≤ r7 then (some (r7, v7)) else ((f_X4_finding 3 v7).bind (fun (r9, v9) => (some (r9, v9))))))) else ((f_X4_finding 4 v1).bind (fun (r10, v10) => (some (r10, v10))))))))))
def rm_X4_breach : Room := { frames := 6, cells := 0, slots := 0, locals := 143 }
set_option maxHeartbeats 4000000 in
set_option maxRecDepth 100000 in
theorem k_X4_breach {l : Launch} {D : va_G} {cI cJ : ClassId} {ad : Nat → Nat} {A : Nat → Prop} {adK adV : Nat → Nat} (hI : jx_inj 67 ad A) (x1 : Int32) (v : jx_V) (r : Int32) (v' : jx_V) (hF : f_X4_breach x1 v = some (r, v')) : jx_Ci l D vwCl 67 cI cJ ad shX A (ex_X adK adV A) yX4_breach (Cond.code yX4_breach cX4_breach 3 (some .int) :: bigT) rm_X4_breach [.ref (ad 0), .int x1] v r v' := by
  unfold f_X4_breach at hF
  refine jx_enteri bigT RX4 cX4_breach 3 (some .int) [(0, .ref (ad 0)), (1, .int x1)] hI (ex_X_ok adK adV A) (by decide +kernel) rfl (Nat.le_of_ble_eq_true rfl) rfl rfl ?_
  intro p e s m args below meth c E
  have iX3 : ∀ w ∈ u_ws RX3 TX3 8, w ∈ (Cond.code yX4_breach cX4_breach 3 (some .int) :: bigT) := fun w h => List.mem_cons_of_mem _ (uw_X3 w h)
  have iX4 : ∀ w ∈ u_ws RX4 TX4 11, w ∈ (Cond.code yX4_breach cX4_breach 3 (some .int) :: bigT) := fun w h => List.mem_cons_of_mem _ (uw_X4 w h)
  refine jx_aload_n E dX4_breach_0 0 rfl ?_
  refine jx_iload_n E dX4_breach_1 1 rfl ?_
  obtain ⟨⟨r1, v1⟩, hc1, hF⟩ := jx_bind hF
  try dsimp only at hF
  refine jx_callVi (As := [.int x1]) (st := []) (h := 0) E dX4_breach_2 1 rfl (k_X4_isWindow hI x1 v r1 v1 hc1) (gb_V (List.mem_cons_of_mem _ tw_203) (List.mem_cons_of_mem _ tw_204) (List.mem_cons_of_mem _ tw_205) (List.mem_cons_of_mem _ tw_190) tw_202) rfl rfl rfl dd_X4_isWindow rfl (Nat.le_of_ble_eq_true rfl) s_X0 rfl ⟨by decide, by decide⟩ ⟨Nat.le_refl 0, Nat.le_refl 0⟩ (Nat.le_of_ble_eq_true rfl) ?_
  refine jx_if_ne (tgt := 14) E dX4_breach_5 (by decide) (fun hc2 => ?_) (fun hc2 => ?_)
  · rw [if_neg hc2] at hF
    refine jx_aload_n E dX4_breach_14 0 rfl ?_
    refine jx_getr (C := RX4) (T := TX4) (M := 11) (k := 0) E dX4_breach_15 (Nat.le_of_ble_eq_true rfl) s_X0 rfl iX4 (by decide) rfl (List.mem_cons_of_mem _ tw_195) rfl ?_
    refine jx_getrN (C := RX3) (T := TX3) (M := 8) (k := 1) E dX4_breach_18 (Nat.le_of_ble_eq_true rfl) s_X1 rfl iX3 (by decide) rfl (ex_f3 (jx_ex E)) rfl ?_
    refine jx_iconst (x := 4) E dX4_breach_21 (by decide) ?_
    refine jx_aald (h' := 12) E dX4_breach_22 (Nat.le_of_ble_eq_true rfl) s_X3 (show ¬ ((4 : Int32) < 0 ∨ 6 ≤ Int32.toNatClampNeg 4) by decide) rfl ?_
    refine jx_iload_n E dX4_breach_23 1 rfl ?_
    obtain ⟨hg3, hF⟩ := jx_guard hF
    refine jx_iald (h := 12) (j := (Int32.toNatClampNeg x1)) E dX4_breach_24 (Nat.le_of_ble_eq_true rfl) s_X12 hg3 rfl ?_
    refine jx_if_lt (tgt := 44) E dX4_breach_25 (by decide) (fun hc4 => ?_) (fun hc4 => ?_)
    · rw [if_pos hc4] at hF
      refine jx_aload_n E dX4_breach_44 0 rfl ?_
      refine jx_iconst (x := 4) E dX4_breach_45 (by decide) ?_
      obtain ⟨⟨r5, v5⟩, hc5, hF⟩ := jx_bind hF
      try dsimp only at hF
      refine jx_callVi (As := [.int 4]) (st := []) (h := 0) E dX4_breach_46 1 rfl (k_X4_finding hI 4 v1 r5 v5 hc5) (gb_V (List.mem_cons_of_mem _ tw_192) (List.mem_cons_of_mem _ tw_193) (List.mem_cons_of_mem _ tw_194) (List.mem_cons_of_mem _ tw_190) tw_191) rfl rfl rfl dd_X4_finding rfl (Nat.le_of_ble_eq_true rfl) s_X0 rfl ⟨by decide, by decide⟩ ⟨Nat.le_refl 0, Nat.le_refl 0⟩ (Nat.le_of_ble_eq_true rfl) ?_
      obtain ⟨rfl, rfl⟩ := jx_out hF
      exact jx_iret E dX4_breach_49 rfl
    · rw [if_neg hc4] at hF
      refine jx_aload_n E dX4_breach_28 0 rfl ?_
      refine jx_getr (C := RX4) (T := TX4) (M := 11) (k := 0) E dX4_breach_29 (Nat.le_of_ble_eq_true rfl) s_X0 rfl iX4 (by decide) rfl (List.mem_cons_of_mem _ tw_195) rfl ?_
      refine jx_getiN (C := RX3) (T := TX3) (M := 8) (k := 6) E dX4_breach_32 (Nat.le_of_ble_eq_true rfl) s_X1 rfl iX3 (by decide) rfl (ex_f12 (jx_ex E)) rfl ?_
      refine jx_bipush (x := 120) E dX4_breach_35 (by decide) ?_
      refine jx_iadd E dX4_breach_37 ?_
      refine jx_sipush (x := 999) E dX4_breach_38 (by decide) ?_
      refine jx_icmp_le (tgt := 50) E dX4_breach_41 (by decide) (fun hc6 => ?_) (fun hc6 => ?_)
      · rw [if_pos hc6] at hF
        refine jx_aload_n E dX4_breach_50 0 rfl ?_
        refine jx_iload_n E dX4_breach_51 1 rfl ?_
        obtain ⟨⟨r7, v7⟩, hc7, hF⟩ := jx_bind hF
        try dsimp only at hF
        refine jx_callVi (As := [.int x1]) (st := []) (h := 0) E dX4_breach_52 1 rfl (k_X4_tryUntilBroken hI x1 v1 r7 v7 hc7) (gb_V (List.mem_cons_of_mem _ tw_242) (List.mem_cons_of_mem _ tw_243) (List.mem_cons_of_mem _ tw_244) (List.mem_cons_of_mem _ tw_190) tw_241) rfl rfl rfl dd_X4_tryUntilBroken rfl (Nat.le_of_ble_eq_true rfl) s_X0 rfl ⟨by decide, by decide⟩ ⟨Nat.le_refl 0, Nat.le_refl 0⟩ (Nat.le_of_ble_eq_true rfl) ?_
        refine jx_istore_n (lv' := [(2, .int r7), (0, .ref (ad 0)), (1, .int x1)]) E dX4_breach_55 (by decide) rfl ?_
        refine jx_iload_n E dX4_breach_56 0 rfl ?_
        refine jx_if_ge (tgt := 68) E dX4_breach_57 (by decide) (fun hc8 => ?_) (fun hc8 => ?_)
        · rw [if_pos hc8] at hF
          refine jx_iload_n E dX4_breach_68 0 rfl ?_
          obtain ⟨rfl, rfl⟩ := jx_out hF
          exact jx_iret E dX4_breach_69 rfl
        · rw [if_neg hc8] at hF
          refine jx_aload_n E dX4_breach_60 1 rfl ?_
          refine jx_iconst (x := 3) E dX4_breach_61 (by decide) ?_
          obtain ⟨⟨r9, v9⟩, hc9, hF⟩ := jx_bind hF
          try dsimp only at hF
          refine jx_callVi (As := [.int 3]) (st := []) (h := 0) E dX4_breach_62 1 rfl (k_X4_finding hI 3 v7 r9 v9 hc9) (gb_V (List.mem_cons_of_mem _ tw_192) (List.mem_cons_of_mem _ tw_193) (List.mem_cons_of_mem _ tw_194) (List.mem_cons_of_mem _ tw_190) tw_191) rfl rfl rfl dd_X4_finding rfl (Nat.le_of_ble_eq_true rfl) s_X0 rfl ⟨by decide, by decide⟩ ⟨Nat.le_refl 0, Nat.le_refl 0⟩ (Nat.le_of_ble_eq_true rfl) ?_
          refine jx_goto (tgt := 69) E dX4_breach_65 (by decide) ?_
          obtain ⟨rfl, rfl⟩ := jx_out hF
          exact jx_iret E dX4_breach_69 rfl
      · rw [if_neg hc6] at hF
        refine jx_aload_n E dX4_breach_44 0 rfl ?_
        refine jx_iconst (x := 4) E dX4_breach_45 (by decide) ?_
        obtain ⟨⟨r10, v10⟩, hc10, hF⟩ := jx_bind hF
        try dsimp only at hF
        refine jx_callVi (As := [.int 4]) (st := []) (h := 0) E dX4_breach_46 1 rfl (k_X4_finding hI 4 v1 r10 v10 hc10) (gb_V (List.mem_cons_of_mem _ tw_192) (List.mem_cons_of_mem _ tw_193) (List.mem_cons_of_mem _ tw_194) (List.mem_cons_of_mem _ tw_190) tw_191) rfl rfl rfl dd_X4_finding rfl (Nat.le_of_ble_eq_true rfl) s_X0 rfl ⟨by decide, by decide⟩ ⟨Nat.le_refl 0, Nat.le_refl 0⟩ (Nat.le_of_ble_eq_true rfl) ?_
        obtain ⟨rfl, rfl⟩ := jx_out hF
        exact jx_iret E dX4_breach_49 rfl
  · rw [if_pos hc2] at hF
    refine jx_aload_n E dX4_breach_8 0 rfl ?_
    refine jx_iconst (x := 0) E dX4_breach_9 (by decide) ?_
    obtain ⟨⟨r11, v11⟩, hc11, hF⟩ := jx_bind hF
    try dsimp only at hF
    refine jx_callVi (As := [.int 0]) (st := []) (h := 0) E dX4_breach_10 1 rfl (k_X4_finding hI 0 v1 r11 v11 hc11) (gb_V (List.mem_cons_of_mem _ tw_192) (List.mem_cons_of_mem _ tw_193) (List.mem_cons_of_mem _ tw_194) (List.mem_cons_of_mem _ tw_190) tw_191) rfl rfl rfl dd_X4_finding rfl (Nat.le_of_ble_eq_true rfl) s_X0 rfl ⟨by decide, by decide⟩ ⟨Nat.le_refl 0, Nat.le_refl 0⟩ (Nat.le_of_ble_eq_true rfl) ?_
    obtain ⟨rfl, rfl⟩ := jx_out hF
    exact jx_iret E dX4_breach_13 rfl
def f_X4_isBrokenWithout (x1 : Int32) (x2 : Int32) (v : jx_V) : Option (Int32 × jx_V) := (if (x1 < 0 ∨ 25 ≤ Int32.toNatClampNeg x1) then none else ((f_X3_takeOff 33 x1 v).bind (fun v2 => ((f_X0_isBroken 33 x2 v2).bind (fun (r3, v3) => (if (x1 < 0 ∨ 25 ≤ Int32.toNatClampNeg x1) then none else (if ¬ (r3 = 0 ∨ r3 = 1) then none else some (r3, (jx_up v3 36 (Int32.toNatClampNeg x1) (v 36 (Int32.toNatClampNeg x1)))))))))))
def rm_X4_isBrokenWithout : Room := { frames := 5, cells := 0, slots := 0, locals := 121 }
set_option maxHeartbeats 4000000 in
set_option maxRecDepth 100000 in
theorem k_X4_isBrokenWithout {l : Launch} {D : va_G} {cI cJ : ClassId} {ad : Nat → Nat} {A : Nat → Prop} {adK adV : Nat → Nat} (hI : jx_inj 67 ad A) (x1 : Int32) (x2 : Int32) (v : jx_V) (r : Int32) (v' : jx_V) (hF : f_X4_isBrokenWithout x1 x2 v = some (r, v')) : jx_Ci l D vwCl 67 cI cJ ad shX A (ex_X adK adV A) yX4_isBrokenWithout (Cond.code yX4_isBrokenWithout cX4_isBrokenWithout 5 (some .boolean) :: bigT) rm_X4_isBrokenWithout [.ref (ad 0), .int x1, .int x2] v r v' := by
  unfold f_X4_isBrokenWithout at hF
  refine jx_enteri bigT RX4 cX4_isBrokenWithout 5 (some .boolean) [(0, .ref (ad 0)), (1, .int x1), (2, .int x2)] hI (ex_X_ok adK adV A) (by decide +kernel) rfl (Nat.le_of_ble_eq_true rfl) rfl rfl ?_
  intro p e s m args below meth c E
  have iX3 : ∀ w ∈ u_ws RX3 TX3 8, w ∈ (Cond.code yX4_isBrokenWithout cX4_isBrokenWithout 5 (some .boolean) :: bigT) := fun w h => List.mem_cons_of_mem _ (uw_X3 w h)
  have iX4 : ∀ w ∈ u_ws RX4 TX4 11, w ∈ (Cond.code yX4_isBrokenWithout cX4_isBrokenWithout 5 (some .boolean) :: bigT) := fun w h => List.mem_cons_of_mem _ (uw_X4 w h)
  refine jx_aload_n E dX4_isBrokenWithout_0 0 rfl ?_
  refine jx_getr (C := RX4) (T := TX4) (M := 11) (k := 2) E dX4_isBrokenWithout_1 (Nat.le_of_ble_eq_true rfl) s_X0 rfl iX4 (by decide) rfl (List.mem_cons_of_mem _ tw_234) rfl ?_
  refine jx_getrN (C := RX3) (T := TX3) (M := 8) (k := 0) E dX4_isBrokenWithout_4 (Nat.le_of_ble_eq_true rfl) s_X33 rfl iX3 (by decide) rfl (ex_f0 (jx_ex E)) rfl ?_
  refine jx_iconst (x := 0) E dX4_isBrokenWithout_7 (by decide) ?_
  refine jx_aald (h' := 36) E dX4_isBrokenWithout_8 (Nat.le_of_ble_eq_true rfl) s_X34 (show ¬ ((0 : Int32) < 0 ∨ 4 ≤ Int32.toNatClampNeg 0) by decide) rfl ?_
  refine jx_iload_n E dX4_isBrokenWithout_9 1 rfl ?_
  obtain ⟨hg1, hF⟩ := jx_guard hF
  refine jx_iald (h := 36) (j := (Int32.toNatClampNeg x1)) E dX4_isBrokenWithout_10 (Nat.le_of_ble_eq_true rfl) s_X36 hg1 rfl ?_
  refine jx_istore_n (lv' := [(3, .int (v 36 (Int32.toNatClampNeg x1))), (0, .ref (ad 0)), (1, .int x1), (2, .int x2)]) E dX4_isBrokenWithout_11 (by decide) rfl ?_
  refine jx_aload_n E dX4_isBrokenWithout_12 1 rfl ?_
  refine jx_getr (C := RX4) (T := TX4) (M := 11) (k := 2) E dX4_isBrokenWithout_13 (Nat.le_of_ble_eq_true rfl) s_X0 rfl iX4 (by decide) rfl (List.mem_cons_of_mem _ tw_234) rfl ?_
  refine jx_iload_n E dX4_isBrokenWithout_16 2 rfl ?_
  obtain ⟨v2, hc2, hF⟩ := jx_bind hF
  try dsimp only at hF
  refine jx_callNv (As := [.int x1]) (st := []) (h := 33) E dX4_isBrokenWithout_17 1 rfl (k_X3_takeOff hI 33 jx_T33 x1 v v2 hc2) (gb_N tw_145) rfl rfl rfl (ex_m7 (jx_ex E)) (List.mem_cons_of_mem _ tw_33) (List.mem_cons_of_mem _ tw_146) (List.mem_cons_of_mem _ tw_147) dd_X3_takeOff.2 rfl (Nat.le_of_ble_eq_true rfl) s_X33 rfl ⟨by decide, by decide⟩ ⟨Nat.le_refl 0, Nat.le_refl 0⟩ (Nat.le_of_ble_eq_true rfl) ?_
  refine jx_aload_n E dX4_isBrokenWithout_20 1 rfl ?_
  refine jx_getr (C := RX4) (T := TX4) (M := 11) (k := 3) E dX4_isBrokenWithout_21 (Nat.le_of_ble_eq_true rfl) s_X0 rfl iX4 (by decide) rfl (List.mem_cons_of_mem _ tw_209) rfl ?_
  refine jx_aload_n E dX4_isBrokenWithout_24 1 rfl ?_
  refine jx_getr (C := RX4) (T := TX4) (M := 11) (k := 2) E dX4_isBrokenWithout_25 (Nat.le_of_ble_eq_true rfl) s_X0 rfl iX4 (by decide) rfl (List.mem_cons_of_mem _ tw_234) rfl ?_
  refine jx_iload_n E dX4_isBrokenWithout_28 3 rfl ?_
  obtain ⟨⟨r3, v3⟩, hc3, hF⟩ := jx_bind hF
  try dsimp only at hF
  refine jx_callNi (As := [.ref (ad 33), .int x2]) (st := []) (h := 49) E dX4_isBrokenWithout_29 2 rfl (k_X0_isBroken hI 33 jx_T33 x2 v2 r3 v3 hc3) (gb_N tw_85) rfl rfl rfl (ex_m12 (jx_ex E)) (List.mem_cons_of_mem _ tw_49) (List.mem_cons_of_mem _ tw_87) (List.mem_cons_of_mem _ tw_88) dd_X0_isBroken.2 rfl (Nat.le_of_ble_eq_true rfl) s_X49 rfl ⟨by decide, by decide⟩ ⟨Nat.le_refl 0, Nat.le_refl 0⟩ (Nat.le_of_ble_eq_true rfl) ?_
  refine jx_istore (lv' := [(4, .int r3), (3, .int (v 36 (Int32.toNatClampNeg x1))), (0, .ref (ad 0)), (1, .int x1), (2, .int x2)]) E dX4_isBrokenWithout_32 (by decide) rfl ?_
  refine jx_aload_n E dX4_isBrokenWithout_34 2 rfl ?_
  refine jx_getr (C := RX4) (T := TX4) (M := 11) (k := 2) E dX4_isBrokenWithout_35 (Nat.le_of_ble_eq_true rfl) s_X0 rfl iX4 (by decide) rfl (List.mem_cons_of_mem _ tw_234) rfl ?_
  refine jx_getrN (C := RX3) (T := TX3) (M := 8) (k := 0) E dX4_isBrokenWithout_38 (Nat.le_of_ble_eq_true rfl) s_X33 rfl iX3 (by decide) rfl (ex_f0 (jx_ex E)) rfl ?_
  refine jx_iconst (x := 0) E dX4_isBrokenWithout_41 (by decide) ?_
  refine jx_aald (h' := 36) E dX4_isBrokenWithout_42 (Nat.le_of_ble_eq_true rfl) s_X34 (show ¬ ((0 : Int32) < 0 ∨ 4 ≤ Int32.toNatClampNeg 0) by decide) rfl ?_
  refine jx_iload_n E dX4_isBrokenWithout_43 3 rfl ?_
  refine jx_iload_n E dX4_isBrokenWithout_44 1 rfl ?_
  obtain ⟨hg4, hF⟩ := jx_guard hF
  refine jx_iast (h := 36) (j := (Int32.toNatClampNeg x1)) E dX4_isBrokenWithout_45 (Nat.le_of_ble_eq_true rfl) s_X36 hg4 rfl ?_
  refine jx_iload E dX4_isBrokenWithout_46 0 rfl ?_
  obtain ⟨hg5, hF⟩ := jx_guard hF
  obtain ⟨rfl, rfl⟩ := jx_out hF
  exact jx_zret E dX4_isBrokenWithout_48 rfl (Decidable.not_not.mp hg5)
def f_X4_blame_L  : Nat → Int32 → Int32 → jx_V → Option (Int32 × jx_V)
  | 0, _, _, _ => none
  | n + 1, x1, x2, v => (if 25 ≤ x2 then ((f_X4_finding 3 v).bind (fun (r13, v13) => (some (r13, v13)))) else ((f_X3_isTaken 33 x2 v).bind (fun (r14, v14) => (if r14 = 0 then (f_X4_blame_L n x1 (x2 + 1) v14) else ((f_X4_isBrokenWithout x2 x1 v14).bind (fun (r16, v16) => (if r16 = 0 then (some (x2, v16)) else (f_X4_blame_L n x1 (x2 + 1) v16))))))))
def f_X4_blame (x1 : Int32) (v : jx_V) : Option (Int32 × jx_V) := ((f_X4_isWindow x1 v).bind (fun (r1, v1) => (if r1 = 0 then ((f_X4_finding 0 v1).bind (fun (r11, v11) => (some (r11, v11)))) else (if (x1 < 0 ∨ 10 ≤ Int32.toNatClampNeg x1) then none else (if (v1 12 (Int32.toNatClampNeg x1)) < 0 then ((f_X4_finding 4 v1).bind (fun (r5, v5) => (some (r5, v5)))) else (if ((v1 1 6) + 120) ≤ 999 then ((f_X4_tryUntilBroken x1 v1).bind (fun (r7, v7) => (if 0 ≤ r7 then (f_X4_blame_L 100000 x1 0 v7) else ((f_X4_finding 3 v7).bind (fun (r9, v9) => (some (r9, v9))))))) else ((f_X4_finding 4 v1).bind (fun (r10, v10) => (some (r10, v10))))))))))
def rm_X4_blame : Room := { frames := 6, cells := 0, slots := 0, locals := 145 }
set_option maxHeartbeats 4000000 in
set_option maxRecDepth 100000 in
theorem k_X4_blame {l : Launch} {D : va_G} {cI cJ : ClassId} {ad : Nat → Nat} {A : Nat → Prop} {adK adV : Nat → Nat} (hI : jx_inj 67 ad A) (x1 : Int32) (v : jx_V) (r : Int32) (v' : jx_V) (hF : f_X4_blame x1 v = some (r, v')) : jx_Ci l D vwCl 67 cI cJ ad shX A (ex_X adK adV A) yX4_blame (Cond.code yX4_blame cX4_blame 3 (some .int) :: bigT) rm_X4_blame [.ref (ad 0), .int x1] v r v' := by
  unfold f_X4_blame at hF
  refine jx_enteri bigT RX4 cX4_blame 3 (some .int) [(0, .ref (ad 0)), (1, .int x1)] hI (ex_X_ok adK adV A) (by decide +kernel) rfl (Nat.le_of_ble_eq_true rfl) rfl rfl ?_
  intro p e s m args below meth c E
  have iX3 : ∀ w ∈ u_ws RX3 TX3 8, w ∈ (Cond.code yX4_blame cX4_blame 3 (some .int) :: bigT) := fun w h => List.mem_cons_of_mem _ (uw_X3 w h)
  have iX4 : ∀ w ∈ u_ws RX4 TX4 11, w ∈ (Cond.code yX4_blame cX4_blame 3 (some .int) :: bigT) := fun w h => List.mem_cons_of_mem _ (uw_X4 w h)
  have key : ∀ n : Nat, (∀ (x1 : Int32) (x2 : Int32) (v : jx_V), f_X4_blame_L  n  x1 x2 v = some (r, v') → jx_J p l e rm_X4_blame s m args below meth c D vwCl 67 cI cJ ad shX A 0 0 3 (MQ below (va_Qi (fun (r1 : Int32) (_ : Unit) => r1 = r) (fun _ t => va_P D vwCl (jx_ws 67 cI cJ ad shX v') t.heap) A) args s 0 0 A) v 66 [(0, .ref (ad 0)), (1, .int x1), (2, .int x2)] []) := by
    intro n
    induction n with
    | zero =>
      exact (fun _ _ _ h => by cases h)
    | succ n ih =>
      intro x1 x2 v hF
      rw [f_X4_blame_L] at hF
      refine jx_iload_n E dX4_blame_66 2 rfl ?_
      refine jx_bipush (x := 25) E dX4_blame_67 (by decide) ?_
      refine jx_icmp_ge (tgt := 100) E dX4_blame_69 (by decide) (fun hc12 => ?_) (fun hc12 => ?_)
      · rw [if_pos hc12] at hF
        refine jx_aload_n E dX4_blame_100 0 rfl ?_
        refine jx_iconst (x := 3) E dX4_blame_101 (by decide) ?_
        obtain ⟨⟨r13, v13⟩, hc13, hF⟩ := jx_bind hF
        try dsimp only at hF
        refine jx_callVi (As := [.int 3]) (st := []) (h := 0) E dX4_blame_102 1 rfl (k_X4_finding hI 3 v r13 v13 hc13) (gb_V (List.mem_cons_of_mem _ tw_192) (List.mem_cons_of_mem _ tw_193) (List.mem_cons_of_mem _ tw_194) (List.mem_cons_of_mem _ tw_190) tw_191) rfl rfl rfl dd_X4_finding rfl (Nat.le_of_ble_eq_true rfl) s_X0 rfl ⟨by decide, by decide⟩ ⟨Nat.le_refl 0, Nat.le_refl 0⟩ (Nat.le_of_ble_eq_true rfl) ?_
        obtain ⟨rfl, rfl⟩ := jx_out hF
        exact jx_iret E dX4_blame_105 rfl
      · rw [if_neg hc12] at hF
        refine jx_aload_n E dX4_blame_72 0 rfl ?_
        refine jx_getr (C := RX4) (T := TX4) (M := 11) (k := 2) E dX4_blame_73 (Nat.le_of_ble_eq_true rfl) s_X0 rfl iX4 (by decide) rfl (List.mem_cons_of_mem _ tw_234) rfl ?_
        refine jx_iload_n E dX4_blame_76 2 rfl ?_
        obtain ⟨⟨r14, v14⟩, hc14, hF⟩ := jx_bind hF
        try dsimp only at hF
        refine jx_callNi (As := [.int x2]) (st := []) (h := 33) E dX4_blame_77 1 rfl (k_X3_isTaken hI 33 jx_T33 x2 v r14 v14 hc14) (gb_N tw_51) rfl rfl rfl (ex_m4 (jx_ex E)) (List.mem_cons_of_mem _ tw_33) (List.mem_cons_of_mem _ tw_52) (List.mem_cons_of_mem _ tw_53) dd_X3_isTaken.2 rfl (Nat.le_of_ble_eq_true rfl) s_X33 rfl ⟨by decide, by decide⟩ ⟨Nat.le_refl 0, Nat.le_refl 0⟩ (Nat.le_of_ble_eq_true rfl) ?_
        refine jx_if_eq (tgt := 94) E dX4_blame_80 (by decide) (fun hc15 => ?_) (fun hc15 => ?_)
        · rw [if_pos hc15] at hF
          refine jx_iinc (y := (x2 + 1)) (lv' := [(2, .int (x2 + 1)), (0, .ref (ad 0)), (1, .int x1)]) E dX4_blame_94 2 rfl rfl (by decide) rfl ?_
          refine jx_goto (tgt := 66) E dX4_blame_97 (by decide) ?_
          refine jx_sub [1, 2, 0] rfl ?_
          exact ih x1 (x2 + 1) v14 hF
        · rw [if_neg hc15] at hF
          refine jx_aload_n E dX4_blame_83 0 rfl ?_
          refine jx_iload_n E dX4_blame_84 2 rfl ?_
          refine jx_iload_n E dX4_blame_85 1 rfl ?_
          obtain ⟨⟨r16, v16⟩, hc16, hF⟩ := jx_bind hF
          try dsimp only at hF
          refine jx_callVi (As := [.int x2, .int x1]) (st := []) (h := 0) E dX4_blame_86 2 rfl (k_X4_isBrokenWithout hI x2 x1 v14 r16 v16 hc16) (gb_V (List.mem_cons_of_mem _ tw_246) (List.mem_cons_of_mem _ tw_247) (List.mem_cons_of_mem _ tw_248) (List.mem_cons_of_mem _ tw_190) tw_245) rfl rfl rfl dd_X4_isBrokenWithout rfl (Nat.le_of_ble_eq_true rfl) s_X0 rfl ⟨by decide, by decide⟩ ⟨Nat.le_refl 0, Nat.le_refl 0⟩ (Nat.le_of_ble_eq_true rfl) ?_
          refine jx_if_ne (tgt := 94) E dX4_blame_89 (by decide) (fun hc17 => ?_) (fun hc17 => ?_)
          · rw [if_neg hc17] at hF
            refine jx_iinc (y := (x2 + 1)) (lv' := [(2, .int (x2 + 1)), (0, .ref (ad 0)), (1, .int x1)]) E dX4_blame_94 2 rfl rfl (by decide) rfl ?_
            refine jx_goto (tgt := 66) E dX4_blame_97 (by decide) ?_
            refine jx_sub [1, 2, 0] rfl ?_
            exact ih x1 (x2 + 1) v16 hF
          · rw [if_pos hc17] at hF
            refine jx_iload_n E dX4_blame_92 2 rfl ?_
            obtain ⟨rfl, rfl⟩ := jx_out hF
            exact jx_iret E dX4_blame_93 rfl
  refine jx_aload_n E dX4_blame_0 0 rfl ?_
  refine jx_iload_n E dX4_blame_1 1 rfl ?_
  obtain ⟨⟨r1, v1⟩, hc1, hF⟩ := jx_bind hF
  try dsimp only at hF
  refine jx_callVi (As := [.int x1]) (st := []) (h := 0) E dX4_blame_2 1 rfl (k_X4_isWindow hI x1 v r1 v1 hc1) (gb_V (List.mem_cons_of_mem _ tw_203) (List.mem_cons_of_mem _ tw_204) (List.mem_cons_of_mem _ tw_205) (List.mem_cons_of_mem _ tw_190) tw_202) rfl rfl rfl dd_X4_isWindow rfl (Nat.le_of_ble_eq_true rfl) s_X0 rfl ⟨by decide, by decide⟩ ⟨Nat.le_refl 0, Nat.le_refl 0⟩ (Nat.le_of_ble_eq_true rfl) ?_
  refine jx_if_ne (tgt := 14) E dX4_blame_5 (by decide) (fun hc2 => ?_) (fun hc2 => ?_)
  · rw [if_neg hc2] at hF
    refine jx_aload_n E dX4_blame_14 0 rfl ?_
    refine jx_getr (C := RX4) (T := TX4) (M := 11) (k := 0) E dX4_blame_15 (Nat.le_of_ble_eq_true rfl) s_X0 rfl iX4 (by decide) rfl (List.mem_cons_of_mem _ tw_195) rfl ?_
    refine jx_getrN (C := RX3) (T := TX3) (M := 8) (k := 1) E dX4_blame_18 (Nat.le_of_ble_eq_true rfl) s_X1 rfl iX3 (by decide) rfl (ex_f3 (jx_ex E)) rfl ?_
    refine jx_iconst (x := 4) E dX4_blame_21 (by decide) ?_
    refine jx_aald (h' := 12) E dX4_blame_22 (Nat.le_of_ble_eq_true rfl) s_X3 (show ¬ ((4 : Int32) < 0 ∨ 6 ≤ Int32.toNatClampNeg 4) by decide) rfl ?_
    refine jx_iload_n E dX4_blame_23 1 rfl ?_
    obtain ⟨hg3, hF⟩ := jx_guard hF
    refine jx_iald (h := 12) (j := (Int32.toNatClampNeg x1)) E dX4_blame_24 (Nat.le_of_ble_eq_true rfl) s_X12 hg3 rfl ?_
    refine jx_if_lt (tgt := 44) E dX4_blame_25 (by decide) (fun hc4 => ?_) (fun hc4 => ?_)
    · rw [if_pos hc4] at hF
      refine jx_aload_n E dX4_blame_44 0 rfl ?_
      refine jx_iconst (x := 4) E dX4_blame_45 (by decide) ?_
      obtain ⟨⟨r5, v5⟩, hc5, hF⟩ := jx_bind hF
      try dsimp only at hF
      refine jx_callVi (As := [.int 4]) (st := []) (h := 0) E dX4_blame_46 1 rfl (k_X4_finding hI 4 v1 r5 v5 hc5) (gb_V (List.mem_cons_of_mem _ tw_192) (List.mem_cons_of_mem _ tw_193) (List.mem_cons_of_mem _ tw_194) (List.mem_cons_of_mem _ tw_190) tw_191) rfl rfl rfl dd_X4_finding rfl (Nat.le_of_ble_eq_true rfl) s_X0 rfl ⟨by decide, by decide⟩ ⟨Nat.le_refl 0, Nat.le_refl 0⟩ (Nat.le_of_ble_eq_true rfl) ?_
      obtain ⟨rfl, rfl⟩ := jx_out hF
      exact jx_iret E dX4_blame_49 rfl
    · rw [if_neg hc4] at hF
      refine jx_aload_n E dX4_blame_28 0 rfl ?_
      refine jx_getr (C := RX4) (T := TX4) (M := 11) (k := 0) E dX4_blame_29 (Nat.le_of_ble_eq_true rfl) s_X0 rfl iX4 (by decide) rfl (List.mem_cons_of_mem _ tw_195) rfl ?_
      refine jx_getiN (C := RX3) (T := TX3) (M := 8) (k := 6) E dX4_blame_32 (Nat.le_of_ble_eq_true rfl) s_X1 rfl iX3 (by decide) rfl (ex_f12 (jx_ex E)) rfl ?_
      refine jx_bipush (x := 120) E dX4_blame_35 (by decide) ?_
      refine jx_iadd E dX4_blame_37 ?_
      refine jx_sipush (x := 999) E dX4_blame_38 (by decide) ?_
      refine jx_icmp_le (tgt := 50) E dX4_blame_41 (by decide) (fun hc6 => ?_) (fun hc6 => ?_)
      · rw [if_pos hc6] at hF
        refine jx_aload_n E dX4_blame_50 0 rfl ?_
        refine jx_iload_n E dX4_blame_51 1 rfl ?_
        obtain ⟨⟨r7, v7⟩, hc7, hF⟩ := jx_bind hF
        try dsimp only at hF
        refine jx_callVi (As := [.int x1]) (st := []) (h := 0) E dX4_blame_52 1 rfl (k_X4_tryUntilBroken hI x1 v1 r7 v7 hc7) (gb_V (List.mem_cons_of_mem _ tw_242) (List.mem_cons_of_mem _ tw_243) (List.mem_cons_of_mem _ tw_244) (List.mem_cons_of_mem _ tw_190) tw_241) rfl rfl rfl dd_X4_tryUntilBroken rfl (Nat.le_of_ble_eq_true rfl) s_X0 rfl ⟨by decide, by decide⟩ ⟨Nat.le_refl 0, Nat.le_refl 0⟩ (Nat.le_of_ble_eq_true rfl) ?_
        refine jx_if_ge (tgt := 64) E dX4_blame_55 (by decide) (fun hc8 => ?_) (fun hc8 => ?_)
        · rw [if_pos hc8] at hF
          refine jx_iconst (x := 0) E dX4_blame_64 (by decide) ?_
          refine jx_istore_n (lv' := [(2, .int 0), (0, .ref (ad 0)), (1, .int x1)]) E dX4_blame_65 (by decide) rfl ?_
          refine jx_sub [1, 2, 0] rfl ?_
          exact (key 100000) x1 0 v7 hF
        · rw [if_neg hc8] at hF
          refine jx_aload_n E dX4_blame_58 0 rfl ?_
          refine jx_iconst (x := 3) E dX4_blame_59 (by decide) ?_
          obtain ⟨⟨r9, v9⟩, hc9, hF⟩ := jx_bind hF
          try dsimp only at hF
          refine jx_callVi (As := [.int 3]) (st := []) (h := 0) E dX4_blame_60 1 rfl (k_X4_finding hI 3 v7 r9 v9 hc9) (gb_V (List.mem_cons_of_mem _ tw_192) (List.mem_cons_of_mem _ tw_193) (List.mem_cons_of_mem _ tw_194) (List.mem_cons_of_mem _ tw_190) tw_191) rfl rfl rfl dd_X4_finding rfl (Nat.le_of_ble_eq_true rfl) s_X0 rfl ⟨by decide, by decide⟩ ⟨Nat.le_refl 0, Nat.le_refl 0⟩ (Nat.le_of_ble_eq_true rfl) ?_
          obtain ⟨rfl, rfl⟩ := jx_out hF
          exact jx_iret E dX4_blame_63 rfl
      · rw [if_neg hc6] at hF
        refine jx_aload_n E dX4_blame_44 0 rfl ?_
        refine jx_iconst (x := 4) E dX4_blame_45 (by decide) ?_
        obtain ⟨⟨r10, v10⟩, hc10, hF⟩ := jx_bind hF
        try dsimp only at hF
        refine jx_callVi (As := [.int 4]) (st := []) (h := 0) E dX4_blame_46 1 rfl (k_X4_finding hI 4 v1 r10 v10 hc10) (gb_V (List.mem_cons_of_mem _ tw_192) (List.mem_cons_of_mem _ tw_193) (List.mem_cons_of_mem _ tw_194) (List.mem_cons_of_mem _ tw_190) tw_191) rfl rfl rfl dd_X4_finding rfl (Nat.le_of_ble_eq_true rfl) s_X0 rfl ⟨by decide, by decide⟩ ⟨Nat.le_refl 0, Nat.le_refl 0⟩ (Nat.le_of_ble_eq_true rfl) ?_
        obtain ⟨rfl, rfl⟩ := jx_out hF
        exact jx_iret E dX4_blame_49 rfl
  · rw [if_pos hc2] at hF
    refine jx_aload_n E dX4_blame_8 0 rfl ?_
    refine jx_iconst (x := 0) E dX4_blame_9 (by decide) ?_
    obtain ⟨⟨r11, v11⟩, hc11, hF⟩ := jx_bind hF
    try dsimp only at hF
    refine jx_callVi (As := [.int 0]) (st := []) (h := 0) E dX4_blame_10 1 rfl (k_X4_finding hI 0 v1 r11 v11 hc11) (gb_V (List.mem_cons_of_mem _ tw_192) (List.mem_cons_of_mem _ tw_193) (List.mem_cons_of_mem _ tw_194) (List.mem_cons_of_mem _ tw_190) tw_191) rfl rfl rfl dd_X4_finding rfl (Nat.le_of_ble_eq_true rfl) s_X0 rfl ⟨by decide, by decide⟩ ⟨Nat.le_refl 0, Nat.le_refl 0⟩ (Nat.le_of_ble_eq_true rfl) ?_
    obtain ⟨rfl, rfl⟩ := jx_out hF
    exact jx_iret E dX4_blame_13 rfl
def f_X4_bestFor_L  : Nat → Int32 → Int32 → Int32 → Int32 → Int32 → Int32 → Int32 → Int32 → jx_V → Option (Int32 × jx_V)
  | 0, _, _, _, _, _, _, _, _, _ => none
  | n + 1, x1, x2, x3, x4, x5, x6, x7, x8, v => (if x5 ≤ x8 then (if (x2 < 0 ∨ 4 ≤ (x2).toNatClampNeg) then none else (if (x1 < 0 ∨ 25 ≤ Int32.toNatClampNeg x1) then none else (some (x6, (jx_up v (1 + 3 + (x2).toNatClampNeg) (Int32.toNatClampNeg x1) x4))))) else (if (x2 < 0 ∨ 4 ≤ (x2).toNatClampNeg) then none else (if (x1 < 0 ∨ 25 ≤ Int32.toNatClampNeg x1) then none else ((f_X0_gainsInto 1 65 (jx_up v (1 + 3 + (x2).toNatClampNeg) (Int32.toNatClampNeg x1) x8)).bind (fun (r10, v10) => (if x8 = 0 then (if (x3 < 0 ∨ 4 ≤ Int32.toNatClampNeg x3) then none else (f_X4_bestFor_L n x1 x2 x3 x4 x5 x8 (v10 65 (Int32.toNatClampNeg x3)) (x8 + 1) v10)) else (if (x3 < 0 ∨ 4 ≤ Int32.toNatClampNeg x3) then none else (if (v10 65 (Int32.toNatClampNeg x3)) ≤ x7 then (f_X4_bestFor_L n x1 x2 x3 x4 x5 x6 x7 (x8 + 1) v10) else (if (x3 < 0 ∨ 4 ≤ Int32.toNatClampNeg x3) then none else (f_X4_bestFor_L n x1 x2 x3 x4 x5 x8 (v10 65 (Int32.toNatClampNeg x3)) (x8 + 1) v10))))))))))
def f_X4_bestFor (x1 : Int32) (x2 : Int32) (v : jx_V) : Option (Int32 × jx_V) := (if (x1 < 0 ∨ 25 ≤ Int32.toNatClampNeg x1) then none else (if (x2 < 0 ∨ 4 ≤ (x2).toNatClampNeg) then none else (if (x1 < 0 ∨ 25 ≤ Int32.toNatClampNeg x1) then none else ((f_X4_thingLimit x2 v).bind (fun (r4, v4) => (f_X4_bestFor_L 100000 x1 x2 (v 5 (Int32.toNatClampNeg x1)) (v (1 + 3 + (x2).toNatClampNeg) (Int32.toNatClampNeg x1)) r4 0 0 0 v4))))))
def rm_X4_bestFor : Room := { frames := 5, cells := 0, slots := 0, locals := 125 }
set_option maxHeartbeats 4000000 in
set_option maxRecDepth 100000 in
theorem k_X4_bestFor {l : Launch} {D : va_G} {cI cJ : ClassId} {ad : Nat → Nat} {A : Nat → Prop} {adK adV : Nat → Nat} (hI : jx_inj 67 ad A) (x1 : Int32) (x2 : Int32) (v : jx_V) (r : Int32) (v' : jx_V) (hF : f_X4_bestFor x1 x2 v = some (r, v')) : jx_Ci l D vwCl 67 cI cJ ad shX A (ex_X adK adV A) yX4_bestFor (Cond.code yX4_bestFor cX4_bestFor 9 (some .int) :: bigT) rm_X4_bestFor [.ref (ad 0), .int x1, .int x2] v r v' := by
  unfold f_X4_bestFor at hF
  refine jx_enteri bigT RX4 cX4_bestFor 9 (some .int) [(0, .ref (ad 0)), (1, .int x1), (2, .int x2)] hI (ex_X_ok adK adV A) (by decide +kernel) rfl (Nat.le_of_ble_eq_true rfl) rfl rfl ?_
  intro p e s m args below meth c E
  have iX3 : ∀ w ∈ u_ws RX3 TX3 8, w ∈ (Cond.code yX4_bestFor cX4_bestFor 9 (some .int) :: bigT) := fun w h => List.mem_cons_of_mem _ (uw_X3 w h)
  have iX4 : ∀ w ∈ u_ws RX4 TX4 11, w ∈ (Cond.code yX4_bestFor cX4_bestFor 9 (some .int) :: bigT) := fun w h => List.mem_cons_of_mem _ (uw_X4 w h)
  have key : ∀ n : Nat, (∀ (x1 : Int32) (x2 : Int32) (x3 : Int32) (x4 : Int32) (x5 : Int32) (x6 : Int32) (x7 : Int32) (x8 : Int32) (v : jx_V), f_X4_bestFor_L  n  x1 x2 x3 x4 x5 x6 x7 x8 v = some (r, v') → jx_J p l e rm_X4_bestFor s m args below meth c D vwCl 67 cI cJ ad shX A 0 0 9 (MQ below (va_Qi (fun (r1 : Int32) (_ : Unit) => r1 = r) (fun _ t => va_P D vwCl (jx_ws 67 cI cJ ad shX v') t.heap) A) args s 0 0 A) v 40 [(0, .ref (ad 0)), (1, .int x1), (2, .int x2), (3, .int x3), (4, .int x4), (5, .int x5), (6, .int x6), (7, .int x7), (8, .int x8)] []) := by
    intro n
    induction n with
    | zero =>
      exact (fun _ _ _ _ _ _ _ _ _ h => by cases h)
    | succ n ih =>
      intro x1 x2 x3 x4 x5 x6 x7 x8 v hF
      rw [f_X4_bestFor_L] at hF
      refine jx_iload E dX4_bestFor_40 8 rfl ?_
      refine jx_iload E dX4_bestFor_42 5 rfl ?_
      refine jx_icmp_ge (tgt := 110) E dX4_bestFor_44 (by decide) (fun hc5 => ?_) (fun hc5 => ?_)
      · rw [if_pos hc5] at hF
        refine jx_aload_n E dX4_bestFor_110 0 rfl ?_
        refine jx_getr (C := RX4) (T := TX4) (M := 11) (k := 0) E dX4_bestFor_111 (Nat.le_of_ble_eq_true rfl) s_X0 rfl iX4 (by decide) rfl (List.mem_cons_of_mem _ tw_195) rfl ?_
        refine jx_getrN (C := RX3) (T := TX3) (M := 8) (k := 0) E dX4_bestFor_114 (Nat.le_of_ble_eq_true rfl) s_X1 rfl iX3 (by decide) rfl (ex_f0 (jx_ex E)) rfl ?_
        refine jx_iload_n E dX4_bestFor_117 2 rfl ?_
        obtain ⟨hg6, hF⟩ := jx_guard hF
        refine jx_aald (h' := (1 + 3 + (x2).toNatClampNeg)) E dX4_bestFor_118 (Nat.le_of_ble_eq_true rfl) s_X2 hg6 (l_Tr (t := 1) (l_lt hg6)) ?_
        refine jx_iload_n E dX4_bestFor_119 1 rfl ?_
        refine jx_iload E dX4_bestFor_120 4 rfl ?_
        obtain ⟨hg7, hF⟩ := jx_guard hF
        refine jx_iast (h := (1 + 3 + (x2).toNatClampNeg)) (j := (Int32.toNatClampNeg x1)) E dX4_bestFor_122 (n_Tr jx_T1 (l_lt hg6)) (s_Tr jx_T1 (l_lt hg6)) hg7 rfl ?_
        refine jx_iload E dX4_bestFor_123 6 rfl ?_
        obtain ⟨rfl, rfl⟩ := jx_out hF
        exact jx_iret E dX4_bestFor_125 rfl
      · rw [if_neg hc5] at hF
        refine jx_aload_n E dX4_bestFor_47 0 rfl ?_
        refine jx_getr (C := RX4) (T := TX4) (M := 11) (k := 0) E dX4_bestFor_48 (Nat.le_of_ble_eq_true rfl) s_X0 rfl iX4 (by decide) rfl (List.mem_cons_of_mem _ tw_195) rfl ?_
        refine jx_getrN (C := RX3) (T := TX3) (M := 8) (k := 0) E dX4_bestFor_51 (Nat.le_of_ble_eq_true rfl) s_X1 rfl iX3 (by decide) rfl (ex_f0 (jx_ex E)) rfl ?_
        refine jx_iload_n E dX4_bestFor_54 2 rfl ?_
        obtain ⟨hg8, hF⟩ := jx_guard hF
        refine jx_aald (h' := (1 + 3 + (x2).toNatClampNeg)) E dX4_bestFor_55 (Nat.le_of_ble_eq_true rfl) s_X2 hg8 (l_Tr (t := 1) (l_lt hg8)) ?_
        refine jx_iload_n E dX4_bestFor_56 1 rfl ?_
        refine jx_iload E dX4_bestFor_57 8 rfl ?_
        obtain ⟨hg9, hF⟩ := jx_guard hF
        refine jx_iast (h := (1 + 3 + (x2).toNatClampNeg)) (j := (Int32.toNatClampNeg x1)) E dX4_bestFor_59 (n_Tr jx_T1 (l_lt hg8)) (s_Tr jx_T1 (l_lt hg8)) hg9 rfl ?_
        refine jx_aload_n E dX4_bestFor_60 0 rfl ?_
        refine jx_getr (C := RX4) (T := TX4) (M := 11) (k := 3) E dX4_bestFor_61 (Nat.le_of_ble_eq_true rfl) s_X0 rfl iX4 (by decide) rfl (List.mem_cons_of_mem _ tw_209) rfl ?_
        refine jx_aload_n E dX4_bestFor_64 0 rfl ?_
        refine jx_getr (C := RX4) (T := TX4) (M := 11) (k := 0) E dX4_bestFor_65 (Nat.le_of_ble_eq_true rfl) s_X0 rfl iX4 (by decide) rfl (List.mem_cons_of_mem _ tw_195) rfl ?_
        refine jx_aload_n E dX4_bestFor_68 0 rfl ?_
        refine jx_getr (C := RX4) (T := TX4) (M := 11) (k := 8) E dX4_bestFor_69 (Nat.le_of_ble_eq_true rfl) s_X0 rfl iX4 (by decide) rfl (List.mem_cons_of_mem _ tw_217) rfl ?_
        obtain ⟨⟨r10, v10⟩, hc10, hF⟩ := jx_bind hF
        try dsimp only at hF
        refine jx_callNi (As := [.ref (ad 1), .ref (ad 65)]) (st := []) (h := 49) E dX4_bestFor_72 2 rfl (k_X0_gainsInto hI 1 jx_T1 65 s_X65 (Nat.le_of_ble_eq_true rfl) (jx_up v (1 + 3 + (x2).toNatClampNeg) (Int32.toNatClampNeg x1) x8) r10 v10 hc10) (gb_N tw_218) rfl rfl rfl (ex_m22 (jx_ex E)) (List.mem_cons_of_mem _ tw_49) (List.mem_cons_of_mem _ tw_219) (List.mem_cons_of_mem _ tw_220) dd_X0_gainsInto.2 rfl (Nat.le_of_ble_eq_true rfl) s_X49 rfl ⟨by decide, by decide⟩ ⟨Nat.le_refl 0, Nat.le_refl 0⟩ (Nat.le_of_ble_eq_true rfl) ?_
        refine jx_pop E dX4_bestFor_75 rfl ?_
        refine jx_iload E dX4_bestFor_76 8 rfl ?_
        refine jx_if_eq (tgt := 92) E dX4_bestFor_78 (by decide) (fun hc11 => ?_) (fun hc11 => ?_)
        · rw [if_pos hc11] at hF
          refine jx_aload_n E dX4_bestFor_92 0 rfl ?_
          refine jx_getr (C := RX4) (T := TX4) (M := 11) (k := 8) E dX4_bestFor_93 (Nat.le_of_ble_eq_true rfl) s_X0 rfl iX4 (by decide) rfl (List.mem_cons_of_mem _ tw_217) rfl ?_
          refine jx_iload_n E dX4_bestFor_96 3 rfl ?_
          obtain ⟨hg12, hF⟩ := jx_guard hF
          refine jx_iald (h := 65) (j := (Int32.toNatClampNeg x3)) E dX4_bestFor_97 (Nat.le_of_ble_eq_true rfl) s_X65 hg12 rfl ?_
          refine jx_istore (lv' := [(7, .int (v10 65 (Int32.toNatClampNeg x3))), (0, .ref (ad 0)), (1, .int x1), (2, .int x2), (3, .int x3), (4, .int x4), (5, .int x5), (6, .int x6), (8, .int x8)]) E dX4_bestFor_98 (by decide) rfl ?_
          refine jx_iload E dX4_bestFor_100 8 rfl ?_
          refine jx_istore (lv' := [(6, .int x8), (7, .int (v10 65 (Int32.toNatClampNeg x3))), (0, .ref (ad 0)), (1, .int x1), (2, .int x2), (3, .int x3), (4, .int x4), (5, .int x5), (8, .int x8)]) E dX4_bestFor_102 (by decide) rfl ?_
          refine jx_iinc (y := (x8 + 1)) (lv' := [(8, .int (x8 + 1)), (6, .int x8), (7, .int (v10 65 (Int32.toNatClampNeg x3))), (0, .ref (ad 0)), (1, .int x1), (2, .int x2), (3, .int x3), (4, .int x4), (5, .int x5)]) E dX4_bestFor_104 8 rfl rfl (by decide) rfl ?_
          refine jx_goto (tgt := 40) E dX4_bestFor_107 (by decide) ?_
          refine jx_sub [3, 4, 5, 6, 7, 8, 1, 2, 0] rfl ?_
          exact ih x1 x2 x3 x4 x5 x8 (v10 65 (Int32.toNatClampNeg x3)) (x8 + 1) v10 hF
        · rw [if_neg hc11] at hF
          refine jx_aload_n E dX4_bestFor_81 0 rfl ?_
          refine jx_getr (C := RX4) (T := TX4) (M := 11) (k := 8) E dX4_bestFor_82 (Nat.le_of_ble_eq_true rfl) s_X0 rfl iX4 (by decide) rfl (List.mem_cons_of_mem _ tw_217) rfl ?_
          refine jx_iload_n E dX4_bestFor_85 3 rfl ?_
          obtain ⟨hg13, hF⟩ := jx_guard hF
          refine jx_iald (h := 65) (j := (Int32.toNatClampNeg x3)) E dX4_bestFor_86 (Nat.le_of_ble_eq_true rfl) s_X65 hg13 rfl ?_
          refine jx_iload E dX4_bestFor_87 7 rfl ?_
          refine jx_icmp_le (tgt := 104) E dX4_bestFor_89 (by decide) (fun hc14 => ?_) (fun hc14 => ?_)
          · rw [if_pos hc14] at hF
            refine jx_iinc (y := (x8 + 1)) (lv' := [(8, .int (x8 + 1)), (0, .ref (ad 0)), (1, .int x1), (2, .int x2), (3, .int x3), (4, .int x4), (5, .int x5), (6, .int x6), (7, .int x7)]) E dX4_bestFor_104 8 rfl rfl (by decide) rfl ?_
            refine jx_goto (tgt := 40) E dX4_bestFor_107 (by decide) ?_
            refine jx_sub [1, 2, 3, 4, 5, 6, 7, 8, 0] rfl ?_
            exact ih x1 x2 x3 x4 x5 x6 x7 (x8 + 1) v10 hF
          · rw [if_neg hc14] at hF
            refine jx_aload_n E dX4_bestFor_92 0 rfl ?_
            refine jx_getr (C := RX4) (T := TX4) (M := 11) (k := 8) E dX4_bestFor_93 (Nat.le_of_ble_eq_true rfl) s_X0 rfl iX4 (by decide) rfl (List.mem_cons_of_mem _ tw_217) rfl ?_
            refine jx_iload_n E dX4_bestFor_96 3 rfl ?_
            obtain ⟨hg15, hF⟩ := jx_guard hF
            refine jx_iald (h := 65) (j := (Int32.toNatClampNeg x3)) E dX4_bestFor_97 (Nat.le_of_ble_eq_true rfl) s_X65 hg15 rfl ?_
            refine jx_istore (lv' := [(7, .int (v10 65 (Int32.toNatClampNeg x3))), (0, .ref (ad 0)), (1, .int x1), (2, .int x2), (3, .int x3), (4, .int x4), (5, .int x5), (6, .int x6), (8, .int x8)]) E dX4_bestFor_98 (by decide) rfl ?_
            refine jx_iload E dX4_bestFor_100 8 rfl ?_
            refine jx_istore (lv' := [(6, .int x8), (7, .int (v10 65 (Int32.toNatClampNeg x3))), (0, .ref (ad 0)), (1, .int x1), (2, .int x2), (3, .int x3), (4, .int x4), (5, .int x5), (8, .int x8)]) E dX4_bestFor_102 (by decide) rfl ?_
            refine jx_iinc (y := (x8 + 1)) (lv' := [(8, .int (x8 + 1)), (6, .int x8), (7, .int (v10 65 (Int32.toNatClampNeg x3))), (0, .ref (ad 0)), (1, .int x1), (2, .int x2), (3, .int x3), (4, .int x4), (5, .int x5)]) E dX4_bestFor_104 8 rfl rfl (by decide) rfl ?_
            refine jx_goto (tgt := 40) E dX4_bestFor_107 (by decide) ?_
            refine jx_sub [3, 4, 5, 6, 7, 8, 1, 2, 0] rfl ?_
            exact ih x1 x2 x3 x4 x5 x8 (v10 65 (Int32.toNatClampNeg x3)) (x8 + 1) v10 hF
  refine jx_aload_n E dX4_bestFor_0 0 rfl ?_
  refine jx_getr (C := RX4) (T := TX4) (M := 11) (k := 0) E dX4_bestFor_1 (Nat.le_of_ble_eq_true rfl) s_X0 rfl iX4 (by decide) rfl (List.mem_cons_of_mem _ tw_195) rfl ?_
  refine jx_getrN (C := RX3) (T := TX3) (M := 8) (k := 0) E dX4_bestFor_4 (Nat.le_of_ble_eq_true rfl) s_X1 rfl iX3 (by decide) rfl (ex_f0 (jx_ex E)) rfl ?_
  refine jx_iconst (x := 1) E dX4_bestFor_7 (by decide) ?_
  refine jx_aald (h' := 5) E dX4_bestFor_8 (Nat.le_of_ble_eq_true rfl) s_X2 (show ¬ ((1 : Int32) < 0 ∨ 4 ≤ Int32.toNatClampNeg 1) by decide) rfl ?_
  refine jx_iload_n E dX4_bestFor_9 1 rfl ?_
  obtain ⟨hg1, hF⟩ := jx_guard hF
  refine jx_iald (h := 5) (j := (Int32.toNatClampNeg x1)) E dX4_bestFor_10 (Nat.le_of_ble_eq_true rfl) s_X5 hg1 rfl ?_
  refine jx_istore_n (lv' := [(3, .int (v 5 (Int32.toNatClampNeg x1))), (0, .ref (ad 0)), (1, .int x1), (2, .int x2)]) E dX4_bestFor_11 (by decide) rfl ?_
  refine jx_aload_n E dX4_bestFor_12 1 rfl ?_
  refine jx_getr (C := RX4) (T := TX4) (M := 11) (k := 0) E dX4_bestFor_13 (Nat.le_of_ble_eq_true rfl) s_X0 rfl iX4 (by decide) rfl (List.mem_cons_of_mem _ tw_195) rfl ?_
  refine jx_getrN (C := RX3) (T := TX3) (M := 8) (k := 0) E dX4_bestFor_16 (Nat.le_of_ble_eq_true rfl) s_X1 rfl iX3 (by decide) rfl (ex_f0 (jx_ex E)) rfl ?_
  refine jx_iload_n E dX4_bestFor_19 3 rfl ?_
  obtain ⟨hg2, hF⟩ := jx_guard hF
  refine jx_aald (h' := (1 + 3 + (x2).toNatClampNeg)) E dX4_bestFor_20 (Nat.le_of_ble_eq_true rfl) s_X2 hg2 (l_Tr (t := 1) (l_lt hg2)) ?_
  refine jx_iload_n E dX4_bestFor_21 2 rfl ?_
  obtain ⟨hg3, hF⟩ := jx_guard hF
  refine jx_iald (h := (1 + 3 + (x2).toNatClampNeg)) (j := (Int32.toNatClampNeg x1)) E dX4_bestFor_22 (n_Tr jx_T1 (l_lt hg2)) (s_Tr jx_T1 (l_lt hg2)) hg3 rfl ?_
  refine jx_istore (lv' := [(4, .int (v (1 + 3 + (x2).toNatClampNeg) (Int32.toNatClampNeg x1))), (3, .int (v 5 (Int32.toNatClampNeg x1))), (0, .ref (ad 0)), (1, .int x1), (2, .int x2)]) E dX4_bestFor_23 (by decide) rfl ?_
  refine jx_iload_n E dX4_bestFor_25 4 rfl ?_
  obtain ⟨⟨r4, v4⟩, hc4, hF⟩ := jx_bind hF
  try dsimp only at hF
  refine jx_callSi (As := [.int x2]) (st := []) E dX4_bestFor_26 1 rfl (k_X4_thingLimit hI x2 v r4 v4 hc4) (gb_S (List.mem_cons_of_mem _ tw_200) (List.mem_cons_of_mem _ tw_201) (List.mem_cons_of_mem _ tw_190) tw_199) rfl rfl rfl dd_X4_thingLimit rfl ⟨by decide, by decide⟩ ⟨Nat.le_refl 0, Nat.le_refl 0⟩ (Nat.le_of_ble_eq_true rfl) ?_
  refine jx_istore (lv' := [(5, .int r4), (4, .int (v (1 + 3 + (x2).toNatClampNeg) (Int32.toNatClampNeg x1))), (3, .int (v 5 (Int32.toNatClampNeg x1))), (0, .ref (ad 0)), (1, .int x1), (2, .int x2)]) E dX4_bestFor_29 (by decide) rfl ?_
  refine jx_iconst (x := 0) E dX4_bestFor_31 (by decide) ?_
  refine jx_istore (lv' := [(6, .int 0), (5, .int r4), (4, .int (v (1 + 3 + (x2).toNatClampNeg) (Int32.toNatClampNeg x1))), (3, .int (v 5 (Int32.toNatClampNeg x1))), (0, .ref (ad 0)), (1, .int x1), (2, .int x2)]) E dX4_bestFor_32 (by decide) rfl ?_
  refine jx_iconst (x := 0) E dX4_bestFor_34 (by decide) ?_
  refine jx_istore (lv' := [(7, .int 0), (6, .int 0), (5, .int r4), (4, .int (v (1 + 3 + (x2).toNatClampNeg) (Int32.toNatClampNeg x1))), (3, .int (v 5 (Int32.toNatClampNeg x1))), (0, .ref (ad 0)), (1, .int x1), (2, .int x2)]) E dX4_bestFor_35 (by decide) rfl ?_
  refine jx_iconst (x := 0) E dX4_bestFor_37 (by decide) ?_
  refine jx_istore (lv' := [(8, .int 0), (7, .int 0), (6, .int 0), (5, .int r4), (4, .int (v (1 + 3 + (x2).toNatClampNeg) (Int32.toNatClampNeg x1))), (3, .int (v 5 (Int32.toNatClampNeg x1))), (0, .ref (ad 0)), (1, .int x1), (2, .int x2)]) E dX4_bestFor_38 (by decide) rfl ?_
  refine jx_sub [6, 7, 8, 5, 4, 3, 2, 1, 0] rfl ?_
  exact (key 100000) x1 x2 (v 5 (Int32.toNatClampNeg x1)) (v (1 + 3 + (x2).toNatClampNeg) (Int32.toNatClampNeg x1)) r4 0 0 0 v4 hF
def f_X4_paint (x1 : Int32) (v : jx_V) : Option (Int32 × jx_V) := ((f_X4_within x1 25 v).bind (fun (r1, v1) => (if r1 = 0 then ((f_X4_finding 0 v1).bind (fun (r7, v7) => (some (r7, v7)))) else ((f_X3_isTaken 1 x1 v1).bind (fun (r3, v3) => (if r3 = 0 then ((f_X4_finding 3 v3).bind (fun (r6, v6) => (some (r6, v6)))) else ((f_X4_bestFor x1 3 v3).bind (fun (r5, v5) => (some (r5, v5))))))))))
def rm_X4_paint : Room := { frames := 6, cells := 0, slots := 0, locals := 153 }
set_option maxHeartbeats 4000000 in
set_option maxRecDepth 100000 in
theorem k_X4_paint {l : Launch} {D : va_G} {cI cJ : ClassId} {ad : Nat → Nat} {A : Nat → Prop} {adK adV : Nat → Nat} (hI : jx_inj 67 ad A) (x1 : Int32) (v : jx_V) (r : Int32) (v' : jx_V) (hF : f_X4_paint x1 v = some (r, v')) : jx_Ci l D vwCl 67 cI cJ ad shX A (ex_X adK adV A) yX4_paint (Cond.code yX4_paint cX4_paint 2 (some .int) :: bigT) rm_X4_paint [.ref (ad 0), .int x1] v r v' := by
  unfold f_X4_paint at hF
  refine jx_enteri bigT RX4 cX4_paint 2 (some .int) [(0, .ref (ad 0)), (1, .int x1)] hI (ex_X_ok adK adV A) (by decide +kernel) rfl (Nat.le_of_ble_eq_true rfl) rfl rfl ?_
  intro p e s m args below meth c E
  have iX4 : ∀ w ∈ u_ws RX4 TX4 11, w ∈ (Cond.code yX4_paint cX4_paint 2 (some .int) :: bigT) := fun w h => List.mem_cons_of_mem _ (uw_X4 w h)
  refine jx_iload_n E dX4_paint_0 1 rfl ?_
  refine jx_bipush (x := 25) E dX4_paint_1 (by decide) ?_
  obtain ⟨⟨r1, v1⟩, hc1, hF⟩ := jx_bind hF
  try dsimp only at hF
  refine jx_callSi (As := [.int x1, .int 25]) (st := []) E dX4_paint_3 2 rfl (k_X4_within hI x1 25 v r1 v1 hc1) (gb_S (List.mem_cons_of_mem _ tw_188) (List.mem_cons_of_mem _ tw_189) (List.mem_cons_of_mem _ tw_190) tw_187) rfl rfl rfl dd_X4_within rfl ⟨by decide, by decide⟩ ⟨Nat.le_refl 0, Nat.le_refl 0⟩ (Nat.le_of_ble_eq_true rfl) ?_
  refine jx_if_ne (tgt := 15) E dX4_paint_6 (by decide) (fun hc2 => ?_) (fun hc2 => ?_)
  · rw [if_neg hc2] at hF
    refine jx_aload_n E dX4_paint_15 0 rfl ?_
    refine jx_getr (C := RX4) (T := TX4) (M := 11) (k := 0) E dX4_paint_16 (Nat.le_of_ble_eq_true rfl) s_X0 rfl iX4 (by decide) rfl (List.mem_cons_of_mem _ tw_195) rfl ?_
    refine jx_iload_n E dX4_paint_19 1 rfl ?_
    obtain ⟨⟨r3, v3⟩, hc3, hF⟩ := jx_bind hF
    try dsimp only at hF
    refine jx_callNi (As := [.int x1]) (st := []) (h := 1) E dX4_paint_20 1 rfl (k_X3_isTaken hI 1 jx_T1 x1 v1 r3 v3 hc3) (gb_N tw_51) rfl rfl rfl (ex_m4 (jx_ex E)) (List.mem_cons_of_mem _ tw_33) (List.mem_cons_of_mem _ tw_52) (List.mem_cons_of_mem _ tw_53) dd_X3_isTaken.2 rfl (Nat.le_of_ble_eq_true rfl) s_X1 rfl ⟨by decide, by decide⟩ ⟨Nat.le_refl 0, Nat.le_refl 0⟩ (Nat.le_of_ble_eq_true rfl) ?_
    refine jx_if_ne (tgt := 32) E dX4_paint_23 (by decide) (fun hc4 => ?_) (fun hc4 => ?_)
    · rw [if_neg hc4] at hF
      refine jx_aload_n E dX4_paint_32 0 rfl ?_
      refine jx_iload_n E dX4_paint_33 1 rfl ?_
      refine jx_iconst (x := 3) E dX4_paint_34 (by decide) ?_
      obtain ⟨⟨r5, v5⟩, hc5, hF⟩ := jx_bind hF
      try dsimp only at hF
      refine jx_callVi (As := [.int x1, .int 3]) (st := []) (h := 0) E dX4_paint_35 2 rfl (k_X4_bestFor hI x1 3 v3 r5 v5 hc5) (gb_V (List.mem_cons_of_mem _ tw_250) (List.mem_cons_of_mem _ tw_251) (List.mem_cons_of_mem _ tw_252) (List.mem_cons_of_mem _ tw_190) tw_249) rfl rfl rfl dd_X4_bestFor rfl (Nat.le_of_ble_eq_true rfl) s_X0 rfl ⟨by decide, by decide⟩ ⟨Nat.le_refl 0, Nat.le_refl 0⟩ (Nat.le_of_ble_eq_true rfl) ?_
      obtain ⟨rfl, rfl⟩ := jx_out hF
      exact jx_iret E dX4_paint_38 rfl
    · rw [if_pos hc4] at hF
      refine jx_aload_n E dX4_paint_26 0 rfl ?_
      refine jx_iconst (x := 3) E dX4_paint_27 (by decide) ?_
      obtain ⟨⟨r6, v6⟩, hc6, hF⟩ := jx_bind hF
      try dsimp only at hF
      refine jx_callVi (As := [.int 3]) (st := []) (h := 0) E dX4_paint_28 1 rfl (k_X4_finding hI 3 v3 r6 v6 hc6) (gb_V (List.mem_cons_of_mem _ tw_192) (List.mem_cons_of_mem _ tw_193) (List.mem_cons_of_mem _ tw_194) (List.mem_cons_of_mem _ tw_190) tw_191) rfl rfl rfl dd_X4_finding rfl (Nat.le_of_ble_eq_true rfl) s_X0 rfl ⟨by decide, by decide⟩ ⟨Nat.le_refl 0, Nat.le_refl 0⟩ (Nat.le_of_ble_eq_true rfl) ?_
      obtain ⟨rfl, rfl⟩ := jx_out hF
      exact jx_iret E dX4_paint_31 rfl
  · rw [if_pos hc2] at hF
    refine jx_aload_n E dX4_paint_9 0 rfl ?_
    refine jx_iconst (x := 0) E dX4_paint_10 (by decide) ?_
    obtain ⟨⟨r7, v7⟩, hc7, hF⟩ := jx_bind hF
    try dsimp only at hF
    refine jx_callVi (As := [.int 0]) (st := []) (h := 0) E dX4_paint_11 1 rfl (k_X4_finding hI 0 v1 r7 v7 hc7) (gb_V (List.mem_cons_of_mem _ tw_192) (List.mem_cons_of_mem _ tw_193) (List.mem_cons_of_mem _ tw_194) (List.mem_cons_of_mem _ tw_190) tw_191) rfl rfl rfl dd_X4_finding rfl (Nat.le_of_ble_eq_true rfl) s_X0 rfl ⟨by decide, by decide⟩ ⟨Nat.le_refl 0, Nat.le_refl 0⟩ (Nat.le_of_ble_eq_true rfl) ?_
    obtain ⟨rfl, rfl⟩ := jx_out hF
    exact jx_iret E dX4_paint_14 rfl
def f_X4_height (x1 : Int32) (v : jx_V) : Option (Int32 × jx_V) := ((f_X4_within x1 25 v).bind (fun (r1, v1) => (if r1 = 0 then ((f_X4_finding 0 v1).bind (fun (r7, v7) => (some (r7, v7)))) else ((f_X3_isTaken 1 x1 v1).bind (fun (r3, v3) => (if r3 = 0 then ((f_X4_finding 3 v3).bind (fun (r6, v6) => (some (r6, v6)))) else ((f_X4_bestFor x1 2 v3).bind (fun (r5, v5) => (some (r5, v5))))))))))
def rm_X4_height : Room := { frames := 6, cells := 0, slots := 0, locals := 153 }
set_option maxHeartbeats 4000000 in
set_option maxRecDepth 100000 in
theorem k_X4_height {l : Launch} {D : va_G} {cI cJ : ClassId} {ad : Nat → Nat} {A : Nat → Prop} {adK adV : Nat → Nat} (hI : jx_inj 67 ad A) (x1 : Int32) (v : jx_V) (r : Int32) (v' : jx_V) (hF : f_X4_height x1 v = some (r, v')) : jx_Ci l D vwCl 67 cI cJ ad shX A (ex_X adK adV A) yX4_height (Cond.code yX4_height cX4_height 2 (some .int) :: bigT) rm_X4_height [.ref (ad 0), .int x1] v r v' := by
  unfold f_X4_height at hF
  refine jx_enteri bigT RX4 cX4_height 2 (some .int) [(0, .ref (ad 0)), (1, .int x1)] hI (ex_X_ok adK adV A) (by decide +kernel) rfl (Nat.le_of_ble_eq_true rfl) rfl rfl ?_
  intro p e s m args below meth c E
  have iX4 : ∀ w ∈ u_ws RX4 TX4 11, w ∈ (Cond.code yX4_height cX4_height 2 (some .int) :: bigT) := fun w h => List.mem_cons_of_mem _ (uw_X4 w h)
  refine jx_iload_n E dX4_height_0 1 rfl ?_
  refine jx_bipush (x := 25) E dX4_height_1 (by decide) ?_
  obtain ⟨⟨r1, v1⟩, hc1, hF⟩ := jx_bind hF
  try dsimp only at hF
  refine jx_callSi (As := [.int x1, .int 25]) (st := []) E dX4_height_3 2 rfl (k_X4_within hI x1 25 v r1 v1 hc1) (gb_S (List.mem_cons_of_mem _ tw_188) (List.mem_cons_of_mem _ tw_189) (List.mem_cons_of_mem _ tw_190) tw_187) rfl rfl rfl dd_X4_within rfl ⟨by decide, by decide⟩ ⟨Nat.le_refl 0, Nat.le_refl 0⟩ (Nat.le_of_ble_eq_true rfl) ?_
  refine jx_if_ne (tgt := 15) E dX4_height_6 (by decide) (fun hc2 => ?_) (fun hc2 => ?_)
  · rw [if_neg hc2] at hF
    refine jx_aload_n E dX4_height_15 0 rfl ?_
    refine jx_getr (C := RX4) (T := TX4) (M := 11) (k := 0) E dX4_height_16 (Nat.le_of_ble_eq_true rfl) s_X0 rfl iX4 (by decide) rfl (List.mem_cons_of_mem _ tw_195) rfl ?_
    refine jx_iload_n E dX4_height_19 1 rfl ?_
    obtain ⟨⟨r3, v3⟩, hc3, hF⟩ := jx_bind hF
    try dsimp only at hF
    refine jx_callNi (As := [.int x1]) (st := []) (h := 1) E dX4_height_20 1 rfl (k_X3_isTaken hI 1 jx_T1 x1 v1 r3 v3 hc3) (gb_N tw_51) rfl rfl rfl (ex_m4 (jx_ex E)) (List.mem_cons_of_mem _ tw_33) (List.mem_cons_of_mem _ tw_52) (List.mem_cons_of_mem _ tw_53) dd_X3_isTaken.2 rfl (Nat.le_of_ble_eq_true rfl) s_X1 rfl ⟨by decide, by decide⟩ ⟨Nat.le_refl 0, Nat.le_refl 0⟩ (Nat.le_of_ble_eq_true rfl) ?_
    refine jx_if_ne (tgt := 32) E dX4_height_23 (by decide) (fun hc4 => ?_) (fun hc4 => ?_)
    · rw [if_neg hc4] at hF
      refine jx_aload_n E dX4_height_32 0 rfl ?_
      refine jx_iload_n E dX4_height_33 1 rfl ?_
      refine jx_iconst (x := 2) E dX4_height_34 (by decide) ?_
      obtain ⟨⟨r5, v5⟩, hc5, hF⟩ := jx_bind hF
      try dsimp only at hF
      refine jx_callVi (As := [.int x1, .int 2]) (st := []) (h := 0) E dX4_height_35 2 rfl (k_X4_bestFor hI x1 2 v3 r5 v5 hc5) (gb_V (List.mem_cons_of_mem _ tw_250) (List.mem_cons_of_mem _ tw_251) (List.mem_cons_of_mem _ tw_252) (List.mem_cons_of_mem _ tw_190) tw_249) rfl rfl rfl dd_X4_bestFor rfl (Nat.le_of_ble_eq_true rfl) s_X0 rfl ⟨by decide, by decide⟩ ⟨Nat.le_refl 0, Nat.le_refl 0⟩ (Nat.le_of_ble_eq_true rfl) ?_
      obtain ⟨rfl, rfl⟩ := jx_out hF
      exact jx_iret E dX4_height_38 rfl
    · rw [if_pos hc4] at hF
      refine jx_aload_n E dX4_height_26 0 rfl ?_
      refine jx_iconst (x := 3) E dX4_height_27 (by decide) ?_
      obtain ⟨⟨r6, v6⟩, hc6, hF⟩ := jx_bind hF
      try dsimp only at hF
      refine jx_callVi (As := [.int 3]) (st := []) (h := 0) E dX4_height_28 1 rfl (k_X4_finding hI 3 v3 r6 v6 hc6) (gb_V (List.mem_cons_of_mem _ tw_192) (List.mem_cons_of_mem _ tw_193) (List.mem_cons_of_mem _ tw_194) (List.mem_cons_of_mem _ tw_190) tw_191) rfl rfl rfl dd_X4_finding rfl (Nat.le_of_ble_eq_true rfl) s_X0 rfl ⟨by decide, by decide⟩ ⟨Nat.le_refl 0, Nat.le_refl 0⟩ (Nat.le_of_ble_eq_true rfl) ?_
      obtain ⟨rfl, rfl⟩ := jx_out hF
      exact jx_iret E dX4_height_31 rfl
  · rw [if_pos hc2] at hF
    refine jx_aload_n E dX4_height_9 0 rfl ?_
    refine jx_iconst (x := 0) E dX4_height_10 (by decide) ?_
    obtain ⟨⟨r7, v7⟩, hc7, hF⟩ := jx_bind hF
    try dsimp only at hF
    refine jx_callVi (As := [.int 0]) (st := []) (h := 0) E dX4_height_11 1 rfl (k_X4_finding hI 0 v1 r7 v7 hc7) (gb_V (List.mem_cons_of_mem _ tw_192) (List.mem_cons_of_mem _ tw_193) (List.mem_cons_of_mem _ tw_194) (List.mem_cons_of_mem _ tw_190) tw_191) rfl rfl rfl dd_X4_finding rfl (Nat.le_of_ble_eq_true rfl) s_X0 rfl ⟨by decide, by decide⟩ ⟨Nat.le_refl 0, Nat.le_refl 0⟩ (Nat.le_of_ble_eq_true rfl) ?_
    obtain ⟨rfl, rfl⟩ := jx_out hF
    exact jx_iret E dX4_height_14 rfl
def f_X4_storey (x1 : Int32) (x2 : Int32) (v : jx_V) : Option (Int32 × jx_V) := ((f_X4_within x1 25 v).bind (fun (r1, v1) => (if r1 = 0 then ((f_X4_finding 0 v1).bind (fun (r3, v3) => (some (r3, v3)))) else ((f_X4_within x2 4 v1).bind (fun (r4, v4) => (if r4 = 0 then ((f_X4_finding 0 v4).bind (fun (r20, v20) => (some (r20, v20)))) else ((f_X3_isTaken 1 x1 v4).bind (fun (r6, v6) => (if r6 = 0 then ((f_X4_finding 3 v6).bind (fun (r19, v19) => (some (r19, v19)))) else (if (x1 < 0 ∨ 25 ≤ Int32.toNatClampNeg x1) then none else (if (v6 6 (Int32.toNatClampNeg x1)) < 9 then ((f_X0_gainsInto 1 64 v6).bind (fun (r10, v10) => (if (x1 < 0 ∨ 25 ≤ Int32.toNatClampNeg x1) then none else (if (x1 < 0 ∨ 25 ≤ Int32.toNatClampNeg x1) then none else ((f_X0_gainsInto 1 65 (jx_up v10 6 (Int32.toNatClampNeg x1) ((v10 6 (Int32.toNatClampNeg x1)) + 1))).bind (fun (r13, v13) => (if (x1 < 0 ∨ 25 ≤ Int32.toNatClampNeg x1) then none else (if (x1 < 0 ∨ 25 ≤ Int32.toNatClampNeg x1) then none else (if (x2 < 0 ∨ 4 ≤ Int32.toNatClampNeg x2) then none else (if (x2 < 0 ∨ 4 ≤ Int32.toNatClampNeg x2) then none else (some ((((jx_up v13 6 (Int32.toNatClampNeg x1) ((v13 6 (Int32.toNatClampNeg x1)) - 1)) 65 (Int32.toNatClampNeg x2)) - ((jx_up v13 6 (Int32.toNatClampNeg x1) ((v13 6 (Int32.toNatClampNeg x1)) - 1)) 64 (Int32.toNatClampNeg x2))), (jx_up v13 6 (Int32.toNatClampNeg x1) ((v13 6 (Int32.toNatClampNeg x1)) - 1)))))))))))))) else ((f_X4_finding 4 v6).bind (fun (r18, v18) => (some (r18, v18)))))))))))))))
def rm_X4_storey : Room := { frames := 5, cells := 0, slots := 0, locals := 125 }
set_option maxHeartbeats 4000000 in
set_option maxRecDepth 100000 in
theorem k_X4_storey {l : Launch} {D : va_G} {cI cJ : ClassId} {ad : Nat → Nat} {A : Nat → Prop} {adK adV : Nat → Nat} (hI : jx_inj 67 ad A) (x1 : Int32) (x2 : Int32) (v : jx_V) (r : Int32) (v' : jx_V) (hF : f_X4_storey x1 x2 v = some (r, v')) : jx_Ci l D vwCl 67 cI cJ ad shX A (ex_X adK adV A) yX4_storey (Cond.code yX4_storey cX4_storey 3 (some .int) :: bigT) rm_X4_storey [.ref (ad 0), .int x1, .int x2] v r v' := by
  unfold f_X4_storey at hF
  refine jx_enteri bigT RX4 cX4_storey 3 (some .int) [(0, .ref (ad 0)), (1, .int x1), (2, .int x2)] hI (ex_X_ok adK adV A) (by decide +kernel) rfl (Nat.le_of_ble_eq_true rfl) rfl rfl ?_
  intro p e s m args below meth c E
  have iX3 : ∀ w ∈ u_ws RX3 TX3 8, w ∈ (Cond.code yX4_storey cX4_storey 3 (some .int) :: bigT) := fun w h => List.mem_cons_of_mem _ (uw_X3 w h)
  have iX4 : ∀ w ∈ u_ws RX4 TX4 11, w ∈ (Cond.code yX4_storey cX4_storey 3 (some .int) :: bigT) := fun w h => List.mem_cons_of_mem _ (uw_X4 w h)
  refine jx_iload_n E dX4_storey_0 1 rfl ?_
  refine jx_bipush (x := 25) E dX4_storey_1 (by decide) ?_
  obtain ⟨⟨r1, v1⟩, hc1, hF⟩ := jx_bind hF
  try dsimp only at hF
  refine jx_callSi (As := [.int x1, .int 25]) (st := []) E dX4_storey_3 2 rfl (k_X4_within hI x1 25 v r1 v1 hc1) (gb_S (List.mem_cons_of_mem _ tw_188) (List.mem_cons_of_mem _ tw_189) (List.mem_cons_of_mem _ tw_190) tw_187) rfl rfl rfl dd_X4_within rfl ⟨by decide, by decide⟩ ⟨Nat.le_refl 0, Nat.le_refl 0⟩ (Nat.le_of_ble_eq_true rfl) ?_
  refine jx_if_eq (tgt := 17) E dX4_storey_6 (by decide) (fun hc2 => ?_) (fun hc2 => ?_)
  · rw [if_pos hc2] at hF
    refine jx_aload_n E dX4_storey_17 0 rfl ?_
    refine jx_iconst (x := 0) E dX4_storey_18 (by decide) ?_
    obtain ⟨⟨r3, v3⟩, hc3, hF⟩ := jx_bind hF
    try dsimp only at hF
    refine jx_callVi (As := [.int 0]) (st := []) (h := 0) E dX4_storey_19 1 rfl (k_X4_finding hI 0 v1 r3 v3 hc3) (gb_V (List.mem_cons_of_mem _ tw_192) (List.mem_cons_of_mem _ tw_193) (List.mem_cons_of_mem _ tw_194) (List.mem_cons_of_mem _ tw_190) tw_191) rfl rfl rfl dd_X4_finding rfl (Nat.le_of_ble_eq_true rfl) s_X0 rfl ⟨by decide, by decide⟩ ⟨Nat.le_refl 0, Nat.le_refl 0⟩ (Nat.le_of_ble_eq_true rfl) ?_
    obtain ⟨rfl, rfl⟩ := jx_out hF
    exact jx_iret E dX4_storey_22 rfl
  · rw [if_neg hc2] at hF
    refine jx_iload_n E dX4_storey_9 2 rfl ?_
    refine jx_iconst (x := 4) E dX4_storey_10 (by decide) ?_
    obtain ⟨⟨r4, v4⟩, hc4, hF⟩ := jx_bind hF
    try dsimp only at hF
    refine jx_callSi (As := [.int x2, .int 4]) (st := []) E dX4_storey_11 2 rfl (k_X4_within hI x2 4 v1 r4 v4 hc4) (gb_S (List.mem_cons_of_mem _ tw_188) (List.mem_cons_of_mem _ tw_189) (List.mem_cons_of_mem _ tw_190) tw_187) rfl rfl rfl dd_X4_within rfl ⟨by decide, by decide⟩ ⟨Nat.le_refl 0, Nat.le_refl 0⟩ (Nat.le_of_ble_eq_true rfl) ?_
    refine jx_if_ne (tgt := 23) E dX4_storey_14 (by decide) (fun hc5 => ?_) (fun hc5 => ?_)
    · rw [if_neg hc5] at hF
      refine jx_aload_n E dX4_storey_23 0 rfl ?_
      refine jx_getr (C := RX4) (T := TX4) (M := 11) (k := 0) E dX4_storey_24 (Nat.le_of_ble_eq_true rfl) s_X0 rfl iX4 (by decide) rfl (List.mem_cons_of_mem _ tw_195) rfl ?_
      refine jx_iload_n E dX4_storey_27 1 rfl ?_
      obtain ⟨⟨r6, v6⟩, hc6, hF⟩ := jx_bind hF
      try dsimp only at hF
      refine jx_callNi (As := [.int x1]) (st := []) (h := 1) E dX4_storey_28 1 rfl (k_X3_isTaken hI 1 jx_T1 x1 v4 r6 v6 hc6) (gb_N tw_51) rfl rfl rfl (ex_m4 (jx_ex E)) (List.mem_cons_of_mem _ tw_33) (List.mem_cons_of_mem _ tw_52) (List.mem_cons_of_mem _ tw_53) dd_X3_isTaken.2 rfl (Nat.le_of_ble_eq_true rfl) s_X1 rfl ⟨by decide, by decide⟩ ⟨Nat.le_refl 0, Nat.le_refl 0⟩ (Nat.le_of_ble_eq_true rfl) ?_
      refine jx_if_ne (tgt := 40) E dX4_storey_31 (by decide) (fun hc7 => ?_) (fun hc7 => ?_)
      · rw [if_neg hc7] at hF
        refine jx_aload_n E dX4_storey_40 0 rfl ?_
        refine jx_getr (C := RX4) (T := TX4) (M := 11) (k := 0) E dX4_storey_41 (Nat.le_of_ble_eq_true rfl) s_X0 rfl iX4 (by decide) rfl (List.mem_cons_of_mem _ tw_195) rfl ?_
        refine jx_getrN (C := RX3) (T := TX3) (M := 8) (k := 0) E dX4_storey_44 (Nat.le_of_ble_eq_true rfl) s_X1 rfl iX3 (by decide) rfl (ex_f0 (jx_ex E)) rfl ?_
        refine jx_iconst (x := 2) E dX4_storey_47 (by decide) ?_
        refine jx_aald (h' := 6) E dX4_storey_48 (Nat.le_of_ble_eq_true rfl) s_X2 (show ¬ ((2 : Int32) < 0 ∨ 4 ≤ Int32.toNatClampNeg 2) by decide) rfl ?_
        refine jx_iload_n E dX4_storey_49 1 rfl ?_
        obtain ⟨hg8, hF⟩ := jx_guard hF
        refine jx_iald (h := 6) (j := (Int32.toNatClampNeg x1)) E dX4_storey_50 (Nat.le_of_ble_eq_true rfl) s_X6 hg8 rfl ?_
        refine jx_bipush (x := 9) E dX4_storey_51 (by decide) ?_
        refine jx_icmp_lt (tgt := 62) E dX4_storey_53 (by decide) (fun hc9 => ?_) (fun hc9 => ?_)
        · rw [if_pos hc9] at hF
          refine jx_aload_n E dX4_storey_62 0 rfl ?_
          refine jx_getr (C := RX4) (T := TX4) (M := 11) (k := 3) E dX4_storey_63 (Nat.le_of_ble_eq_true rfl) s_X0 rfl iX4 (by decide) rfl (List.mem_cons_of_mem _ tw_209) rfl ?_
          refine jx_aload_n E dX4_storey_66 0 rfl ?_
          refine jx_getr (C := RX4) (T := TX4) (M := 11) (k := 0) E dX4_storey_67 (Nat.le_of_ble_eq_true rfl) s_X0 rfl iX4 (by decide) rfl (List.mem_cons_of_mem _ tw_195) rfl ?_
          refine jx_aload_n E dX4_storey_70 0 rfl ?_
          refine jx_getr (C := RX4) (T := TX4) (M := 11) (k := 7) E dX4_storey_71 (Nat.le_of_ble_eq_true rfl) s_X0 rfl iX4 (by decide) rfl (List.mem_cons_of_mem _ tw_253) rfl ?_
          obtain ⟨⟨r10, v10⟩, hc10, hF⟩ := jx_bind hF
          try dsimp only at hF
          refine jx_callNi (As := [.ref (ad 1), .ref (ad 64)]) (st := []) (h := 49) E dX4_storey_74 2 rfl (k_X0_gainsInto hI 1 jx_T1 64 s_X64 (Nat.le_of_ble_eq_true rfl) v6 r10 v10 hc10) (gb_N tw_218) rfl rfl rfl (ex_m22 (jx_ex E)) (List.mem_cons_of_mem _ tw_49) (List.mem_cons_of_mem _ tw_219) (List.mem_cons_of_mem _ tw_220) dd_X0_gainsInto.2 rfl (Nat.le_of_ble_eq_true rfl) s_X49 rfl ⟨by decide, by decide⟩ ⟨Nat.le_refl 0, Nat.le_refl 0⟩ (Nat.le_of_ble_eq_true rfl) ?_
          refine jx_pop E dX4_storey_77 rfl ?_
          refine jx_aload_n E dX4_storey_78 0 rfl ?_
          refine jx_getr (C := RX4) (T := TX4) (M := 11) (k := 0) E dX4_storey_79 (Nat.le_of_ble_eq_true rfl) s_X0 rfl iX4 (by decide) rfl (List.mem_cons_of_mem _ tw_195) rfl ?_
          refine jx_getrN (C := RX3) (T := TX3) (M := 8) (k := 0) E dX4_storey_82 (Nat.le_of_ble_eq_true rfl) s_X1 rfl iX3 (by decide) rfl (ex_f0 (jx_ex E)) rfl ?_
          refine jx_iconst (x := 2) E dX4_storey_85 (by decide) ?_
          refine jx_aald (h' := 6) E dX4_storey_86 (Nat.le_of_ble_eq_true rfl) s_X2 (show ¬ ((2 : Int32) < 0 ∨ 4 ≤ Int32.toNatClampNeg 2) by decide) rfl ?_
          refine jx_iload_n E dX4_storey_87 1 rfl ?_
          refine jx_dup2 E dX4_storey_88 rfl rfl ?_
          obtain ⟨hg11, hF⟩ := jx_guard hF
          refine jx_iald (h := 6) (j := (Int32.toNatClampNeg x1)) E dX4_storey_89 (Nat.le_of_ble_eq_true rfl) s_X6 hg11 rfl ?_
          refine jx_iconst (x := 1) E dX4_storey_90 (by decide) ?_
          refine jx_iadd E dX4_storey_91 ?_
          obtain ⟨hg12, hF⟩ := jx_guard hF
          refine jx_iast (h := 6) (j := (Int32.toNatClampNeg x1)) E dX4_storey_92 (Nat.le_of_ble_eq_true rfl) s_X6 hg12 rfl ?_
          refine jx_aload_n E dX4_storey_93 0 rfl ?_
          refine jx_getr (C := RX4) (T := TX4) (M := 11) (k := 3) E dX4_storey_94 (Nat.le_of_ble_eq_true rfl) s_X0 rfl iX4 (by decide) rfl (List.mem_cons_of_mem _ tw_209) rfl ?_
          refine jx_aload_n E dX4_storey_97 0 rfl ?_
          refine jx_getr (C := RX4) (T := TX4) (M := 11) (k := 0) E dX4_storey_98 (Nat.le_of_ble_eq_true rfl) s_X0 rfl iX4 (by decide) rfl (List.mem_cons_of_mem _ tw_195) rfl ?_
          refine jx_aload_n E dX4_storey_101 0 rfl ?_
          refine jx_getr (C := RX4) (T := TX4) (M := 11) (k := 8) E dX4_storey_102 (Nat.le_of_ble_eq_true rfl) s_X0 rfl iX4 (by decide) rfl (List.mem_cons_of_mem _ tw_217) rfl ?_
          obtain ⟨⟨r13, v13⟩, hc13, hF⟩ := jx_bind hF
          try dsimp only at hF
          refine jx_callNi (As := [.ref (ad 1), .ref (ad 65)]) (st := []) (h := 49) E dX4_storey_105 2 rfl (k_X0_gainsInto hI 1 jx_T1 65 s_X65 (Nat.le_of_ble_eq_true rfl) (jx_up v10 6 (Int32.toNatClampNeg x1) ((v10 6 (Int32.toNatClampNeg x1)) + 1)) r13 v13 hc13) (gb_N tw_218) rfl rfl rfl (ex_m22 (jx_ex E)) (List.mem_cons_of_mem _ tw_49) (List.mem_cons_of_mem _ tw_219) (List.mem_cons_of_mem _ tw_220) dd_X0_gainsInto.2 rfl (Nat.le_of_ble_eq_true rfl) s_X49 rfl ⟨by decide, by decide⟩ ⟨Nat.le_refl 0, Nat.le_refl 0⟩ (Nat.le_of_ble_eq_true rfl) ?_
          refine jx_pop E dX4_storey_108 rfl ?_
          refine jx_aload_n E dX4_storey_109 0 rfl ?_
          refine jx_getr (C := RX4) (T := TX4) (M := 11) (k := 0) E dX4_storey_110 (Nat.le_of_ble_eq_true rfl) s_X0 rfl iX4 (by decide) rfl (List.mem_cons_of_mem _ tw_195) rfl ?_
          refine jx_getrN (C := RX3) (T := TX3) (M := 8) (k := 0) E dX4_storey_113 (Nat.le_of_ble_eq_true rfl) s_X1 rfl iX3 (by decide) rfl (ex_f0 (jx_ex E)) rfl ?_
          refine jx_iconst (x := 2) E dX4_storey_116 (by decide) ?_
          refine jx_aald (h' := 6) E dX4_storey_117 (Nat.le_of_ble_eq_true rfl) s_X2 (show ¬ ((2 : Int32) < 0 ∨ 4 ≤ Int32.toNatClampNeg 2) by decide) rfl ?_
          refine jx_iload_n E dX4_storey_118 1 rfl ?_
          refine jx_dup2 E dX4_storey_119 rfl rfl ?_
          obtain ⟨hg14, hF⟩ := jx_guard hF
          refine jx_iald (h := 6) (j := (Int32.toNatClampNeg x1)) E dX4_storey_120 (Nat.le_of_ble_eq_true rfl) s_X6 hg14 rfl ?_
          refine jx_iconst (x := 1) E dX4_storey_121 (by decide) ?_
          refine jx_isub E dX4_storey_122 ?_
          obtain ⟨hg15, hF⟩ := jx_guard hF
          refine jx_iast (h := 6) (j := (Int32.toNatClampNeg x1)) E dX4_storey_123 (Nat.le_of_ble_eq_true rfl) s_X6 hg15 rfl ?_
          refine jx_aload_n E dX4_storey_124 0 rfl ?_
          refine jx_getr (C := RX4) (T := TX4) (M := 11) (k := 8) E dX4_storey_125 (Nat.le_of_ble_eq_true rfl) s_X0 rfl iX4 (by decide) rfl (List.mem_cons_of_mem _ tw_217) rfl ?_
          refine jx_iload_n E dX4_storey_128 2 rfl ?_
          obtain ⟨hg16, hF⟩ := jx_guard hF
          refine jx_iald (h := 65) (j := (Int32.toNatClampNeg x2)) E dX4_storey_129 (Nat.le_of_ble_eq_true rfl) s_X65 hg16 rfl ?_
          refine jx_aload_n E dX4_storey_130 0 rfl ?_
          refine jx_getr (C := RX4) (T := TX4) (M := 11) (k := 7) E dX4_storey_131 (Nat.le_of_ble_eq_true rfl) s_X0 rfl iX4 (by decide) rfl (List.mem_cons_of_mem _ tw_253) rfl ?_
          refine jx_iload_n E dX4_storey_134 2 rfl ?_
          obtain ⟨hg17, hF⟩ := jx_guard hF
          refine jx_iald (h := 64) (j := (Int32.toNatClampNeg x2)) E dX4_storey_135 (Nat.le_of_ble_eq_true rfl) s_X64 hg17 rfl ?_
          refine jx_isub E dX4_storey_136 ?_
          obtain ⟨rfl, rfl⟩ := jx_out hF
          exact jx_iret E dX4_storey_137 rfl
        · rw [if_neg hc9] at hF
          refine jx_aload_n E dX4_storey_56 0 rfl ?_
          refine jx_iconst (x := 4) E dX4_storey_57 (by decide) ?_
          obtain ⟨⟨r18, v18⟩, hc18, hF⟩ := jx_bind hF
          try dsimp only at hF
          refine jx_callVi (As := [.int 4]) (st := []) (h := 0) E dX4_storey_58 1 rfl (k_X4_finding hI 4 v6 r18 v18 hc18) (gb_V (List.mem_cons_of_mem _ tw_192) (List.mem_cons_of_mem _ tw_193) (List.mem_cons_of_mem _ tw_194) (List.mem_cons_of_mem _ tw_190) tw_191) rfl rfl rfl dd_X4_finding rfl (Nat.le_of_ble_eq_true rfl) s_X0 rfl ⟨by decide, by decide⟩ ⟨Nat.le_refl 0, Nat.le_refl 0⟩ (Nat.le_of_ble_eq_true rfl) ?_
          obtain ⟨rfl, rfl⟩ := jx_out hF
          exact jx_iret E dX4_storey_61 rfl
      · rw [if_pos hc7] at hF
        refine jx_aload_n E dX4_storey_34 0 rfl ?_
        refine jx_iconst (x := 3) E dX4_storey_35 (by decide) ?_
        obtain ⟨⟨r19, v19⟩, hc19, hF⟩ := jx_bind hF
        try dsimp only at hF
        refine jx_callVi (As := [.int 3]) (st := []) (h := 0) E dX4_storey_36 1 rfl (k_X4_finding hI 3 v6 r19 v19 hc19) (gb_V (List.mem_cons_of_mem _ tw_192) (List.mem_cons_of_mem _ tw_193) (List.mem_cons_of_mem _ tw_194) (List.mem_cons_of_mem _ tw_190) tw_191) rfl rfl rfl dd_X4_finding rfl (Nat.le_of_ble_eq_true rfl) s_X0 rfl ⟨by decide, by decide⟩ ⟨Nat.le_refl 0, Nat.le_refl 0⟩ (Nat.le_of_ble_eq_true rfl) ?_
        obtain ⟨rfl, rfl⟩ := jx_out hF
        exact jx_iret E dX4_storey_39 rfl
    · rw [if_pos hc5] at hF
      refine jx_aload_n E dX4_storey_17 0 rfl ?_
      refine jx_iconst (x := 0) E dX4_storey_18 (by decide) ?_
      obtain ⟨⟨r20, v20⟩, hc20, hF⟩ := jx_bind hF
      try dsimp only at hF
      refine jx_callVi (As := [.int 0]) (st := []) (h := 0) E dX4_storey_19 1 rfl (k_X4_finding hI 0 v4 r20 v20 hc20) (gb_V (List.mem_cons_of_mem _ tw_192) (List.mem_cons_of_mem _ tw_193) (List.mem_cons_of_mem _ tw_194) (List.mem_cons_of_mem _ tw_190) tw_191) rfl rfl rfl dd_X4_finding rfl (Nat.le_of_ble_eq_true rfl) s_X0 rfl ⟨by decide, by decide⟩ ⟨Nat.le_refl 0, Nat.le_refl 0⟩ (Nat.le_of_ble_eq_true rfl) ?_
      obtain ⟨rfl, rfl⟩ := jx_out hF
      exact jx_iret E dX4_storey_22 rfl
def f_X4_allowed_L  : Nat → Int32 → Int32 → Int32 → Int32 → Int32 → jx_V → Option (Int32 × jx_V)
  | 0, _, _, _, _, _, _ => none
  | n + 1, x1, x2, x3, x4, x5, v => (if 10 ≤ x5 then (if (x1 < 0 ∨ 25 ≤ Int32.toNatClampNeg x1) then none else (some (x4, (jx_up v 6 (Int32.toNatClampNeg x1) x2)))) else (if (x1 < 0 ∨ 25 ≤ Int32.toNatClampNeg x1) then none else ((f_X0_brokenSet 1 (jx_up v 6 (Int32.toNatClampNeg x1) x5)).bind (fun (r11, v11) => ((f_J6_bitCount_0f7a4 r11 v11).bind (fun (r12, v12) => (if x5 = 0 then (if r12 < r12 then (f_X4_allowed_L n x1 x2 r12 x4 (x5 + 1) v12) else (f_X4_allowed_L n x1 x2 r12 x5 (x5 + 1) v12)) else (if x3 < r12 then (f_X4_allowed_L n x1 x2 x3 x4 (x5 + 1) v12) else (f_X4_allowed_L n x1 x2 x3 x5 (x5 + 1) v12)))))))))
def f_X4_allowed (x1 : Int32) (v : jx_V) : Option (Int32 × jx_V) := ((f_X4_within x1 25 v).bind (fun (r1, v1) => (if r1 = 0 then ((f_X4_finding 0 v1).bind (fun (r7, v7) => (some (r7, v7)))) else ((f_X3_isTaken 1 x1 v1).bind (fun (r3, v3) => (if r3 = 0 then ((f_X4_finding 3 v3).bind (fun (r6, v6) => (some (r6, v6)))) else (if (x1 < 0 ∨ 25 ≤ Int32.toNatClampNeg x1) then none else (f_X4_allowed_L 100000 x1 (v3 6 (Int32.toNatClampNeg x1)) 0 0 0 v3))))))))
def rm_X4_allowed : Room := { frames := 6, cells := 0, slots := 0, locals := 144 }
set_option maxHeartbeats 4000000 in
set_option maxRecDepth 100000 in
theorem k_X4_allowed {l : Launch} {D : va_G} {cI cJ : ClassId} {ad : Nat → Nat} {A : Nat → Prop} {adK adV : Nat → Nat} (hI : jx_inj 67 ad A) (x1 : Int32) (v : jx_V) (r : Int32) (v' : jx_V) (hF : f_X4_allowed x1 v = some (r, v')) : jx_Ci l D vwCl 67 cI cJ ad shX A (ex_X adK adV A) yX4_allowed (Cond.code yX4_allowed cX4_allowed 7 (some .int) :: bigT) rm_X4_allowed [.ref (ad 0), .int x1] v r v' := by
  unfold f_X4_allowed at hF
  refine jx_enteri bigT RX4 cX4_allowed 7 (some .int) [(0, .ref (ad 0)), (1, .int x1)] hI (ex_X_ok adK adV A) (by decide +kernel) rfl (Nat.le_of_ble_eq_true rfl) rfl rfl ?_
  intro p e s m args below meth c E
  have iX3 : ∀ w ∈ u_ws RX3 TX3 8, w ∈ (Cond.code yX4_allowed cX4_allowed 7 (some .int) :: bigT) := fun w h => List.mem_cons_of_mem _ (uw_X3 w h)
  have iX4 : ∀ w ∈ u_ws RX4 TX4 11, w ∈ (Cond.code yX4_allowed cX4_allowed 7 (some .int) :: bigT) := fun w h => List.mem_cons_of_mem _ (uw_X4 w h)
  have key : ∀ n : Nat, (∀ (x1 : Int32) (x2 : Int32) (x3 : Int32) (x4 : Int32) (x5 : Int32) (v : jx_V), f_X4_allowed_L  n  x1 x2 x3 x4 x5 v = some (r, v') → jx_J p l e rm_X4_allowed s m args below meth c D vwCl 67 cI cJ ad shX A 0 0 7 (MQ below (va_Qi (fun (r1 : Int32) (_ : Unit) => r1 = r) (fun _ t => va_P D vwCl (jx_ws 67 cI cJ ad shX v') t.heap) A) args s 0 0 A) v 52 [(0, .ref (ad 0)), (1, .int x1), (2, .int x2), (3, .int x3), (4, .int x4), (5, .int x5)] []) := by
    intro n
    induction n with
    | zero =>
      exact (fun _ _ _ _ _ _ h => by cases h)
    | succ n ih =>
      intro x1 x2 x3 x4 x5 v hF
      rw [f_X4_allowed_L] at hF
      refine jx_iload E dX4_allowed_52 5 rfl ?_
      refine jx_bipush (x := 10) E dX4_allowed_54 (by decide) ?_
      refine jx_icmp_ge (tgt := 112) E dX4_allowed_56 (by decide) (fun hc8 => ?_) (fun hc8 => ?_)
      · rw [if_pos hc8] at hF
        refine jx_aload_n E dX4_allowed_112 0 rfl ?_
        refine jx_getr (C := RX4) (T := TX4) (M := 11) (k := 0) E dX4_allowed_113 (Nat.le_of_ble_eq_true rfl) s_X0 rfl iX4 (by decide) rfl (List.mem_cons_of_mem _ tw_195) rfl ?_
        refine jx_getrN (C := RX3) (T := TX3) (M := 8) (k := 0) E dX4_allowed_116 (Nat.le_of_ble_eq_true rfl) s_X1 rfl iX3 (by decide) rfl (ex_f0 (jx_ex E)) rfl ?_
        refine jx_iconst (x := 2) E dX4_allowed_119 (by decide) ?_
        refine jx_aald (h' := 6) E dX4_allowed_120 (Nat.le_of_ble_eq_true rfl) s_X2 (show ¬ ((2 : Int32) < 0 ∨ 4 ≤ Int32.toNatClampNeg 2) by decide) rfl ?_
        refine jx_iload_n E dX4_allowed_121 1 rfl ?_
        refine jx_iload_n E dX4_allowed_122 2 rfl ?_
        obtain ⟨hg9, hF⟩ := jx_guard hF
        refine jx_iast (h := 6) (j := (Int32.toNatClampNeg x1)) E dX4_allowed_123 (Nat.le_of_ble_eq_true rfl) s_X6 hg9 rfl ?_
        refine jx_iload E dX4_allowed_124 4 rfl ?_
        obtain ⟨rfl, rfl⟩ := jx_out hF
        exact jx_iret E dX4_allowed_126 rfl
      · rw [if_neg hc8] at hF
        refine jx_aload_n E dX4_allowed_59 0 rfl ?_
        refine jx_getr (C := RX4) (T := TX4) (M := 11) (k := 0) E dX4_allowed_60 (Nat.le_of_ble_eq_true rfl) s_X0 rfl iX4 (by decide) rfl (List.mem_cons_of_mem _ tw_195) rfl ?_
        refine jx_getrN (C := RX3) (T := TX3) (M := 8) (k := 0) E dX4_allowed_63 (Nat.le_of_ble_eq_true rfl) s_X1 rfl iX3 (by decide) rfl (ex_f0 (jx_ex E)) rfl ?_
        refine jx_iconst (x := 2) E dX4_allowed_66 (by decide) ?_
        refine jx_aald (h' := 6) E dX4_allowed_67 (Nat.le_of_ble_eq_true rfl) s_X2 (show ¬ ((2 : Int32) < 0 ∨ 4 ≤ Int32.toNatClampNeg 2) by decide) rfl ?_
        refine jx_iload_n E dX4_allowed_68 1 rfl ?_
        refine jx_iload E dX4_allowed_69 5 rfl ?_
        obtain ⟨hg10, hF⟩ := jx_guard hF
        refine jx_iast (h := 6) (j := (Int32.toNatClampNeg x1)) E dX4_allowed_71 (Nat.le_of_ble_eq_true rfl) s_X6 hg10 rfl ?_
        refine jx_aload_n E dX4_allowed_72 0 rfl ?_
        refine jx_getr (C := RX4) (T := TX4) (M := 11) (k := 3) E dX4_allowed_73 (Nat.le_of_ble_eq_true rfl) s_X0 rfl iX4 (by decide) rfl (List.mem_cons_of_mem _ tw_209) rfl ?_
        refine jx_aload_n E dX4_allowed_76 0 rfl ?_
        refine jx_getr (C := RX4) (T := TX4) (M := 11) (k := 0) E dX4_allowed_77 (Nat.le_of_ble_eq_true rfl) s_X0 rfl iX4 (by decide) rfl (List.mem_cons_of_mem _ tw_195) rfl ?_
        obtain ⟨⟨r11, v11⟩, hc11, hF⟩ := jx_bind hF
        try dsimp only at hF
        refine jx_callNi (As := [.ref (ad 1)]) (st := []) (h := 49) E dX4_allowed_80 1 rfl (k_X0_brokenSet hI 1 jx_T1 (jx_up v 6 (Int32.toNatClampNeg x1) x5) r11 v11 hc11) (gb_N tw_221) rfl rfl rfl (ex_m23 (jx_ex E)) (List.mem_cons_of_mem _ tw_49) (List.mem_cons_of_mem _ tw_222) (List.mem_cons_of_mem _ tw_223) dd_X0_brokenSet.2 rfl (Nat.le_of_ble_eq_true rfl) s_X49 rfl ⟨by decide, by decide⟩ ⟨Nat.le_refl 0, Nat.le_refl 0⟩ (Nat.le_of_ble_eq_true rfl) ?_
        obtain ⟨⟨r12, v12⟩, hc12, hF⟩ := jx_bind hF
        try dsimp only at hF
        refine jx_callTi (As := [.int r11]) (st := []) E dX4_allowed_83 1 rfl (k_J6_bitCount_0f7a4 hI r11 v11 r12 v12 hc12) (gb_N tw_254) rfl rfl rfl (List.mem_cons_of_mem _ tw_255) (List.mem_cons_of_mem _ tw_256) (List.mem_cons_of_mem _ tw_257) dd_J6_bitCount_0f7a4.2 rfl ⟨by decide, by decide⟩ ⟨Nat.le_refl 0, Nat.le_refl 0⟩ (Nat.le_of_ble_eq_true rfl) ?_
        refine jx_istore (lv' := [(6, .int r12), (0, .ref (ad 0)), (1, .int x1), (2, .int x2), (3, .int x3), (4, .int x4), (5, .int x5)]) E dX4_allowed_86 (by decide) rfl ?_
        refine jx_iload E dX4_allowed_88 6 rfl ?_
        refine jx_if_ne (tgt := 96) E dX4_allowed_90 (by decide) (fun hc13 => ?_) (fun hc13 => ?_)
        · rw [if_neg hc13] at hF
          refine jx_iload E dX4_allowed_96 0 rfl ?_
          refine jx_iload_n E dX4_allowed_98 4 rfl ?_
          refine jx_icmp_gt (tgt := 106) E dX4_allowed_99 (by decide) (fun hc14 => ?_) (fun hc14 => ?_)
          · rw [if_pos hc14] at hF
            refine jx_iinc (y := (x5 + 1)) (lv' := [(5, .int (x5 + 1)), (6, .int r12), (0, .ref (ad 0)), (1, .int x1), (2, .int x2), (3, .int x3), (4, .int x4)]) E dX4_allowed_106 6 rfl rfl (by decide) rfl ?_
            refine jx_goto (tgt := 52) E dX4_allowed_109 (by decide) ?_
            refine jx_sub [2, 3, 4, 5, 6, 0] rfl ?_
            exact ih x1 x2 x3 x4 (x5 + 1) v12 hF
          · rw [if_neg hc14] at hF
            refine jx_iload E dX4_allowed_102 6 rfl ?_
            refine jx_istore (lv' := [(4, .int x5), (6, .int r12), (0, .ref (ad 0)), (1, .int x1), (2, .int x2), (3, .int x3), (5, .int x5)]) E dX4_allowed_104 (by decide) rfl ?_
            refine jx_iinc (y := (x5 + 1)) (lv' := [(5, .int (x5 + 1)), (4, .int x5), (6, .int r12), (0, .ref (ad 0)), (1, .int x1), (2, .int x2), (3, .int x3)]) E dX4_allowed_106 6 rfl rfl (by decide) rfl ?_
            refine jx_goto (tgt := 52) E dX4_allowed_109 (by decide) ?_
            refine jx_sub [3, 4, 5, 6, 1, 0] rfl ?_
            exact ih x1 x2 x3 x5 (x5 + 1) v12 hF
        · rw [if_pos hc13] at hF
          refine jx_iload E dX4_allowed_93 0 rfl ?_
          refine jx_istore_n (lv' := [(3, .int r12), (6, .int r12), (0, .ref (ad 0)), (1, .int x1), (2, .int x2), (4, .int x4), (5, .int x5)]) E dX4_allowed_95 (by decide) rfl ?_
          refine jx_iload E dX4_allowed_96 1 rfl ?_
          refine jx_iload_n E dX4_allowed_98 0 rfl ?_
          refine jx_icmp_gt (tgt := 106) E dX4_allowed_99 (by decide) (fun hc15 => ?_) (fun hc15 => ?_)
          · rw [if_pos hc15] at hF
            refine jx_iinc (y := (x5 + 1)) (lv' := [(5, .int (x5 + 1)), (3, .int r12), (6, .int r12), (0, .ref (ad 0)), (1, .int x1), (2, .int x2), (4, .int x4)]) E dX4_allowed_106 6 rfl rfl (by decide) rfl ?_
            refine jx_goto (tgt := 52) E dX4_allowed_109 (by decide) ?_
            refine jx_sub [3, 4, 5, 1, 6, 0] rfl ?_
            exact ih x1 x2 r12 x4 (x5 + 1) v12 hF
          · rw [if_neg hc15] at hF
            refine jx_iload E dX4_allowed_102 6 rfl ?_
            refine jx_istore (lv' := [(4, .int x5), (3, .int r12), (6, .int r12), (0, .ref (ad 0)), (1, .int x1), (2, .int x2), (5, .int x5)]) E dX4_allowed_104 (by decide) rfl ?_
            refine jx_iinc (y := (x5 + 1)) (lv' := [(5, .int (x5 + 1)), (4, .int x5), (3, .int r12), (6, .int r12), (0, .ref (ad 0)), (1, .int x1), (2, .int x2)]) E dX4_allowed_106 6 rfl rfl (by decide) rfl ?_
            refine jx_goto (tgt := 52) E dX4_allowed_109 (by decide) ?_
            refine jx_sub [4, 5, 6, 2, 1, 0] rfl ?_
            exact ih x1 x2 r12 x5 (x5 + 1) v12 hF
  refine jx_iload_n E dX4_allowed_0 1 rfl ?_
  refine jx_bipush (x := 25) E dX4_allowed_1 (by decide) ?_
  obtain ⟨⟨r1, v1⟩, hc1, hF⟩ := jx_bind hF
  try dsimp only at hF
  refine jx_callSi (As := [.int x1, .int 25]) (st := []) E dX4_allowed_3 2 rfl (k_X4_within hI x1 25 v r1 v1 hc1) (gb_S (List.mem_cons_of_mem _ tw_188) (List.mem_cons_of_mem _ tw_189) (List.mem_cons_of_mem _ tw_190) tw_187) rfl rfl rfl dd_X4_within rfl ⟨by decide, by decide⟩ ⟨Nat.le_refl 0, Nat.le_refl 0⟩ (Nat.le_of_ble_eq_true rfl) ?_
  refine jx_if_ne (tgt := 15) E dX4_allowed_6 (by decide) (fun hc2 => ?_) (fun hc2 => ?_)
  · rw [if_neg hc2] at hF
    refine jx_aload_n E dX4_allowed_15 0 rfl ?_
    refine jx_getr (C := RX4) (T := TX4) (M := 11) (k := 0) E dX4_allowed_16 (Nat.le_of_ble_eq_true rfl) s_X0 rfl iX4 (by decide) rfl (List.mem_cons_of_mem _ tw_195) rfl ?_
    refine jx_iload_n E dX4_allowed_19 1 rfl ?_
    obtain ⟨⟨r3, v3⟩, hc3, hF⟩ := jx_bind hF
    try dsimp only at hF
    refine jx_callNi (As := [.int x1]) (st := []) (h := 1) E dX4_allowed_20 1 rfl (k_X3_isTaken hI 1 jx_T1 x1 v1 r3 v3 hc3) (gb_N tw_51) rfl rfl rfl (ex_m4 (jx_ex E)) (List.mem_cons_of_mem _ tw_33) (List.mem_cons_of_mem _ tw_52) (List.mem_cons_of_mem _ tw_53) dd_X3_isTaken.2 rfl (Nat.le_of_ble_eq_true rfl) s_X1 rfl ⟨by decide, by decide⟩ ⟨Nat.le_refl 0, Nat.le_refl 0⟩ (Nat.le_of_ble_eq_true rfl) ?_
    refine jx_if_ne (tgt := 32) E dX4_allowed_23 (by decide) (fun hc4 => ?_) (fun hc4 => ?_)
    · rw [if_neg hc4] at hF
      refine jx_aload_n E dX4_allowed_32 0 rfl ?_
      refine jx_getr (C := RX4) (T := TX4) (M := 11) (k := 0) E dX4_allowed_33 (Nat.le_of_ble_eq_true rfl) s_X0 rfl iX4 (by decide) rfl (List.mem_cons_of_mem _ tw_195) rfl ?_
      refine jx_getrN (C := RX3) (T := TX3) (M := 8) (k := 0) E dX4_allowed_36 (Nat.le_of_ble_eq_true rfl) s_X1 rfl iX3 (by decide) rfl (ex_f0 (jx_ex E)) rfl ?_
      refine jx_iconst (x := 2) E dX4_allowed_39 (by decide) ?_
      refine jx_aald (h' := 6) E dX4_allowed_40 (Nat.le_of_ble_eq_true rfl) s_X2 (show ¬ ((2 : Int32) < 0 ∨ 4 ≤ Int32.toNatClampNeg 2) by decide) rfl ?_
      refine jx_iload_n E dX4_allowed_41 1 rfl ?_
      obtain ⟨hg5, hF⟩ := jx_guard hF
      refine jx_iald (h := 6) (j := (Int32.toNatClampNeg x1)) E dX4_allowed_42 (Nat.le_of_ble_eq_true rfl) s_X6 hg5 rfl ?_
      refine jx_istore_n (lv' := [(2, .int (v3 6 (Int32.toNatClampNeg x1))), (0, .ref (ad 0)), (1, .int x1)]) E dX4_allowed_43 (by decide) rfl ?_
      refine jx_iconst (x := 0) E dX4_allowed_44 (by decide) ?_
      refine jx_istore_n (lv' := [(3, .int 0), (2, .int (v3 6 (Int32.toNatClampNeg x1))), (0, .ref (ad 0)), (1, .int x1)]) E dX4_allowed_45 (by decide) rfl ?_
      refine jx_iconst (x := 0) E dX4_allowed_46 (by decide) ?_
      refine jx_istore (lv' := [(4, .int 0), (3, .int 0), (2, .int (v3 6 (Int32.toNatClampNeg x1))), (0, .ref (ad 0)), (1, .int x1)]) E dX4_allowed_47 (by decide) rfl ?_
      refine jx_iconst (x := 0) E dX4_allowed_49 (by decide) ?_
      refine jx_istore (lv' := [(5, .int 0), (4, .int 0), (3, .int 0), (2, .int (v3 6 (Int32.toNatClampNeg x1))), (0, .ref (ad 0)), (1, .int x1)]) E dX4_allowed_50 (by decide) rfl ?_
      refine jx_sub [4, 5, 3, 2, 1, 0] rfl ?_
      exact (key 100000) x1 (v3 6 (Int32.toNatClampNeg x1)) 0 0 0 v3 hF
    · rw [if_pos hc4] at hF
      refine jx_aload_n E dX4_allowed_26 0 rfl ?_
      refine jx_iconst (x := 3) E dX4_allowed_27 (by decide) ?_
      obtain ⟨⟨r6, v6⟩, hc6, hF⟩ := jx_bind hF
      try dsimp only at hF
      refine jx_callVi (As := [.int 3]) (st := []) (h := 0) E dX4_allowed_28 1 rfl (k_X4_finding hI 3 v3 r6 v6 hc6) (gb_V (List.mem_cons_of_mem _ tw_192) (List.mem_cons_of_mem _ tw_193) (List.mem_cons_of_mem _ tw_194) (List.mem_cons_of_mem _ tw_190) tw_191) rfl rfl rfl dd_X4_finding rfl (Nat.le_of_ble_eq_true rfl) s_X0 rfl ⟨by decide, by decide⟩ ⟨Nat.le_refl 0, Nat.le_refl 0⟩ (Nat.le_of_ble_eq_true rfl) ?_
      obtain ⟨rfl, rfl⟩ := jx_out hF
      exact jx_iret E dX4_allowed_31 rfl
  · rw [if_pos hc2] at hF
    refine jx_aload_n E dX4_allowed_9 0 rfl ?_
    refine jx_iconst (x := 0) E dX4_allowed_10 (by decide) ?_
    obtain ⟨⟨r7, v7⟩, hc7, hF⟩ := jx_bind hF
    try dsimp only at hF
    refine jx_callVi (As := [.int 0]) (st := []) (h := 0) E dX4_allowed_11 1 rfl (k_X4_finding hI 0 v1 r7 v7 hc7) (gb_V (List.mem_cons_of_mem _ tw_192) (List.mem_cons_of_mem _ tw_193) (List.mem_cons_of_mem _ tw_194) (List.mem_cons_of_mem _ tw_190) tw_191) rfl rfl rfl dd_X4_finding rfl (Nat.le_of_ble_eq_true rfl) s_X0 rfl ⟨by decide, by decide⟩ ⟨Nat.le_refl 0, Nat.le_refl 0⟩ (Nat.le_of_ble_eq_true rfl) ?_
    obtain ⟨rfl, rfl⟩ := jx_out hF
    exact jx_iret E dX4_allowed_14 rfl
def f_X4_opens_L  : Nat → Int32 → Int32 → Int32 → Int32 → jx_V → Option (Int32 × jx_V)
  | 0, _, _, _, _, _ => none
  | n + 1, x1, x2, x3, x4, v => (if (v 1 5) ≤ x4 then (some (x3, v)) else ((f_X0_squaresInView 1 x4 v).bind (fun (r9, v9) => ((f_X3_takeOff 1 x1 v9).bind (fun v10 => ((f_X0_squaresInView 1 x4 v10).bind (fun (r11, v11) => (if r11 ≤ r9 then (if (x1 < 0 ∨ 25 ≤ Int32.toNatClampNeg x1) then none else (f_X4_opens_L n x1 x2 x3 (x4 + 1) (jx_up v11 4 (Int32.toNatClampNeg x1) x2))) else (if (x1 < 0 ∨ 25 ≤ Int32.toNatClampNeg x1) then none else (f_X4_opens_L n x1 x2 (x3 ||| (1 <<< (x4 &&& 31))) (x4 + 1) (jx_up v11 4 (Int32.toNatClampNeg x1) x2)))))))))))
def f_X4_opens (x1 : Int32) (v : jx_V) : Option (Int32 × jx_V) := ((f_X4_within x1 25 v).bind (fun (r1, v1) => (if r1 = 0 then ((f_X4_finding 0 v1).bind (fun (r7, v7) => (some (r7, v7)))) else ((f_X3_isTaken 1 x1 v1).bind (fun (r3, v3) => (if r3 = 0 then ((f_X4_finding 3 v3).bind (fun (r6, v6) => (some (r6, v6)))) else (if (x1 < 0 ∨ 25 ≤ Int32.toNatClampNeg x1) then none else (f_X4_opens_L 100000 x1 (v3 4 (Int32.toNatClampNeg x1)) 0 0 v3))))))))
def rm_X4_opens : Room := { frames := 4, cells := 0, slots := 0, locals := 97 }
set_option maxHeartbeats 4000000 in
set_option maxRecDepth 100000 in
theorem k_X4_opens {l : Launch} {D : va_G} {cI cJ : ClassId} {ad : Nat → Nat} {A : Nat → Prop} {adK adV : Nat → Nat} (hI : jx_inj 67 ad A) (x1 : Int32) (v : jx_V) (r : Int32) (v' : jx_V) (hF : f_X4_opens x1 v = some (r, v')) : jx_Ci l D vwCl 67 cI cJ ad shX A (ex_X adK adV A) yX4_opens (Cond.code yX4_opens cX4_opens 6 (some .int) :: bigT) rm_X4_opens [.ref (ad 0), .int x1] v r v' := by
  unfold f_X4_opens at hF
  refine jx_enteri bigT RX4 cX4_opens 6 (some .int) [(0, .ref (ad 0)), (1, .int x1)] hI (ex_X_ok adK adV A) (by decide +kernel) rfl (Nat.le_of_ble_eq_true rfl) rfl rfl ?_
  intro p e s m args below meth c E
  have iX3 : ∀ w ∈ u_ws RX3 TX3 8, w ∈ (Cond.code yX4_opens cX4_opens 6 (some .int) :: bigT) := fun w h => List.mem_cons_of_mem _ (uw_X3 w h)
  have iX4 : ∀ w ∈ u_ws RX4 TX4 11, w ∈ (Cond.code yX4_opens cX4_opens 6 (some .int) :: bigT) := fun w h => List.mem_cons_of_mem _ (uw_X4 w h)
  have key : ∀ n : Nat, (∀ (x1 : Int32) (x2 : Int32) (x3 : Int32) (x4 : Int32) (v : jx_V), f_X4_opens_L  n  x1 x2 x3 x4 v = some (r, v') → jx_J p l e rm_X4_opens s m args below meth c D vwCl 67 cI cJ ad shX A 0 0 6 (MQ below (va_Qi (fun (r1 : Int32) (_ : Unit) => r1 = r) (fun _ t => va_P D vwCl (jx_ws 67 cI cJ ad shX v') t.heap) A) args s 0 0 A) v 49 [(0, .ref (ad 0)), (1, .int x1), (2, .int x2), (3, .int x3), (4, .int x4)] []) := by
    intro n
    induction n with
    | zero =>
      exact (fun _ _ _ _ _ h => by cases h)
    | succ n ih =>
      intro x1 x2 x3 x4 v hF
      rw [f_X4_opens_L] at hF
      refine jx_iload E dX4_opens_49 4 rfl ?_
      refine jx_aload_n E dX4_opens_51 0 rfl ?_
      refine jx_getr (C := RX4) (T := TX4) (M := 11) (k := 0) E dX4_opens_52 (Nat.le_of_ble_eq_true rfl) s_X0 rfl iX4 (by decide) rfl (List.mem_cons_of_mem _ tw_195) rfl ?_
      refine jx_getiN (C := RX3) (T := TX3) (M := 8) (k := 5) E dX4_opens_55 (Nat.le_of_ble_eq_true rfl) s_X1 rfl iX3 (by decide) rfl (ex_f10 (jx_ex E)) rfl ?_
      refine jx_icmp_ge (tgt := 127) E dX4_opens_58 (by decide) (fun hc8 => ?_) (fun hc8 => ?_)
      · rw [if_pos hc8] at hF
        refine jx_iload_n E dX4_opens_127 3 rfl ?_
        obtain ⟨rfl, rfl⟩ := jx_out hF
        exact jx_iret E dX4_opens_128 rfl
      · rw [if_neg hc8] at hF
        refine jx_aload_n E dX4_opens_61 0 rfl ?_
        refine jx_getr (C := RX4) (T := TX4) (M := 11) (k := 3) E dX4_opens_62 (Nat.le_of_ble_eq_true rfl) s_X0 rfl iX4 (by decide) rfl (List.mem_cons_of_mem _ tw_209) rfl ?_
        refine jx_aload_n E dX4_opens_65 0 rfl ?_
        refine jx_getr (C := RX4) (T := TX4) (M := 11) (k := 0) E dX4_opens_66 (Nat.le_of_ble_eq_true rfl) s_X0 rfl iX4 (by decide) rfl (List.mem_cons_of_mem _ tw_195) rfl ?_
        refine jx_iload E dX4_opens_69 4 rfl ?_
        obtain ⟨⟨r9, v9⟩, hc9, hF⟩ := jx_bind hF
        try dsimp only at hF
        refine jx_callNi (As := [.ref (ad 1), .int x4]) (st := []) (h := 49) E dX4_opens_71 2 rfl (k_X0_squaresInView hI 1 jx_T1 x4 v r9 v9 hc9) (gb_N tw_69) rfl rfl rfl (ex_m17 (jx_ex E)) (List.mem_cons_of_mem _ tw_49) (List.mem_cons_of_mem _ tw_71) (List.mem_cons_of_mem _ tw_72) dd_X0_squaresInView.2 rfl (Nat.le_of_ble_eq_true rfl) s_X49 rfl ⟨by decide, by decide⟩ ⟨Nat.le_refl 0, Nat.le_refl 0⟩ (Nat.le_of_ble_eq_true rfl) ?_
        refine jx_istore (lv' := [(5, .int r9), (0, .ref (ad 0)), (1, .int x1), (2, .int x2), (3, .int x3), (4, .int x4)]) E dX4_opens_74 (by decide) rfl ?_
        refine jx_aload_n E dX4_opens_76 1 rfl ?_
        refine jx_getr (C := RX4) (T := TX4) (M := 11) (k := 0) E dX4_opens_77 (Nat.le_of_ble_eq_true rfl) s_X0 rfl iX4 (by decide) rfl (List.mem_cons_of_mem _ tw_195) rfl ?_
        refine jx_iload_n E dX4_opens_80 2 rfl ?_
        obtain ⟨v10, hc10, hF⟩ := jx_bind hF
        try dsimp only at hF
        refine jx_callNv (As := [.int x1]) (st := []) (h := 1) E dX4_opens_81 1 rfl (k_X3_takeOff hI 1 jx_T1 x1 v9 v10 hc10) (gb_N tw_145) rfl rfl rfl (ex_m7 (jx_ex E)) (List.mem_cons_of_mem _ tw_33) (List.mem_cons_of_mem _ tw_146) (List.mem_cons_of_mem _ tw_147) dd_X3_takeOff.2 rfl (Nat.le_of_ble_eq_true rfl) s_X1 rfl ⟨by decide, by decide⟩ ⟨Nat.le_refl 0, Nat.le_refl 0⟩ (Nat.le_of_ble_eq_true rfl) ?_
        refine jx_aload_n E dX4_opens_84 1 rfl ?_
        refine jx_getr (C := RX4) (T := TX4) (M := 11) (k := 3) E dX4_opens_85 (Nat.le_of_ble_eq_true rfl) s_X0 rfl iX4 (by decide) rfl (List.mem_cons_of_mem _ tw_209) rfl ?_
        refine jx_aload_n E dX4_opens_88 1 rfl ?_
        refine jx_getr (C := RX4) (T := TX4) (M := 11) (k := 0) E dX4_opens_89 (Nat.le_of_ble_eq_true rfl) s_X0 rfl iX4 (by decide) rfl (List.mem_cons_of_mem _ tw_195) rfl ?_
        refine jx_iload E dX4_opens_92 5 rfl ?_
        obtain ⟨⟨r11, v11⟩, hc11, hF⟩ := jx_bind hF
        try dsimp only at hF
        refine jx_callNi (As := [.ref (ad 1), .int x4]) (st := []) (h := 49) E dX4_opens_94 2 rfl (k_X0_squaresInView hI 1 jx_T1 x4 v10 r11 v11 hc11) (gb_N tw_69) rfl rfl rfl (ex_m17 (jx_ex E)) (List.mem_cons_of_mem _ tw_49) (List.mem_cons_of_mem _ tw_71) (List.mem_cons_of_mem _ tw_72) dd_X0_squaresInView.2 rfl (Nat.le_of_ble_eq_true rfl) s_X49 rfl ⟨by decide, by decide⟩ ⟨Nat.le_refl 0, Nat.le_refl 0⟩ (Nat.le_of_ble_eq_true rfl) ?_
        refine jx_iload E dX4_opens_97 0 rfl ?_
        refine jx_icmp_le (tgt := 109) E dX4_opens_99 (by decide) (fun hc12 => ?_) (fun hc12 => ?_)
        · rw [if_pos hc12] at hF
          refine jx_aload_n E dX4_opens_109 1 rfl ?_
          refine jx_getr (C := RX4) (T := TX4) (M := 11) (k := 0) E dX4_opens_110 (Nat.le_of_ble_eq_true rfl) s_X0 rfl iX4 (by decide) rfl (List.mem_cons_of_mem _ tw_195) rfl ?_
          refine jx_getrN (C := RX3) (T := TX3) (M := 8) (k := 0) E dX4_opens_113 (Nat.le_of_ble_eq_true rfl) s_X1 rfl iX3 (by decide) rfl (ex_f0 (jx_ex E)) rfl ?_
          refine jx_iconst (x := 0) E dX4_opens_116 (by decide) ?_
          refine jx_aald (h' := 4) E dX4_opens_117 (Nat.le_of_ble_eq_true rfl) s_X2 (show ¬ ((0 : Int32) < 0 ∨ 4 ≤ Int32.toNatClampNeg 0) by decide) rfl ?_
          refine jx_iload_n E dX4_opens_118 2 rfl ?_
          refine jx_iload_n E dX4_opens_119 3 rfl ?_
          obtain ⟨hg13, hF⟩ := jx_guard hF
          refine jx_iast (h := 4) (j := (Int32.toNatClampNeg x1)) E dX4_opens_120 (Nat.le_of_ble_eq_true rfl) s_X4 hg13 rfl ?_
          refine jx_iinc (y := (x4 + 1)) (lv' := [(4, .int (x4 + 1)), (5, .int r9), (0, .ref (ad 0)), (1, .int x1), (2, .int x2), (3, .int x3)]) E dX4_opens_121 5 rfl rfl (by decide) rfl ?_
          refine jx_goto (tgt := 49) E dX4_opens_124 (by decide) ?_
          refine jx_sub [2, 3, 4, 5, 0] rfl ?_
          exact ih x1 x2 x3 (x4 + 1) (jx_up v11 4 (Int32.toNatClampNeg x1) x2) hF
        · rw [if_neg hc12] at hF
          refine jx_iload_n E dX4_opens_102 4 rfl ?_
          refine jx_iconst (x := 1) E dX4_opens_103 (by decide) ?_
          refine jx_iload E dX4_opens_104 5 rfl ?_
          refine jx_ishl E dX4_opens_106 ?_
          refine jx_ior E dX4_opens_107 ?_
          refine jx_istore_n (lv' := [(3, .int (x3 ||| (1 <<< (x4 &&& 31)))), (5, .int r9), (0, .ref (ad 0)), (1, .int x1), (2, .int x2), (4, .int x4)]) E dX4_opens_108 (by decide) rfl ?_
          refine jx_aload_n E dX4_opens_109 2 rfl ?_
          refine jx_getr (C := RX4) (T := TX4) (M := 11) (k := 0) E dX4_opens_110 (Nat.le_of_ble_eq_true rfl) s_X0 rfl iX4 (by decide) rfl (List.mem_cons_of_mem _ tw_195) rfl ?_
          refine jx_getrN (C := RX3) (T := TX3) (M := 8) (k := 0) E dX4_opens_113 (Nat.le_of_ble_eq_true rfl) s_X1 rfl iX3 (by decide) rfl (ex_f0 (jx_ex E)) rfl ?_
          refine jx_iconst (x := 0) E dX4_opens_116 (by decide) ?_
          refine jx_aald (h' := 4) E dX4_opens_117 (Nat.le_of_ble_eq_true rfl) s_X2 (show ¬ ((0 : Int32) < 0 ∨ 4 ≤ Int32.toNatClampNeg 0) by decide) rfl ?_
          refine jx_iload_n E dX4_opens_118 3 rfl ?_
          refine jx_iload_n E dX4_opens_119 4 rfl ?_
          obtain ⟨hg14, hF⟩ := jx_guard hF
          refine jx_iast (h := 4) (j := (Int32.toNatClampNeg x1)) E dX4_opens_120 (Nat.le_of_ble_eq_true rfl) s_X4 hg14 rfl ?_
          refine jx_iinc (y := (x4 + 1)) (lv' := [(4, .int (x4 + 1)), (3, .int (x3 ||| (1 <<< (x4 &&& 31)))), (5, .int r9), (0, .ref (ad 0)), (1, .int x1), (2, .int x2)]) E dX4_opens_121 5 rfl rfl (by decide) rfl ?_
          refine jx_goto (tgt := 49) E dX4_opens_124 (by decide) ?_
          refine jx_sub [3, 4, 5, 1, 0] rfl ?_
          exact ih x1 x2 (x3 ||| (1 <<< (x4 &&& 31))) (x4 + 1) (jx_up v11 4 (Int32.toNatClampNeg x1) x2) hF
  refine jx_iload_n E dX4_opens_0 1 rfl ?_
  refine jx_bipush (x := 25) E dX4_opens_1 (by decide) ?_
  obtain ⟨⟨r1, v1⟩, hc1, hF⟩ := jx_bind hF
  try dsimp only at hF
  refine jx_callSi (As := [.int x1, .int 25]) (st := []) E dX4_opens_3 2 rfl (k_X4_within hI x1 25 v r1 v1 hc1) (gb_S (List.mem_cons_of_mem _ tw_188) (List.mem_cons_of_mem _ tw_189) (List.mem_cons_of_mem _ tw_190) tw_187) rfl rfl rfl dd_X4_within rfl ⟨by decide, by decide⟩ ⟨Nat.le_refl 0, Nat.le_refl 0⟩ (Nat.le_of_ble_eq_true rfl) ?_
  refine jx_if_ne (tgt := 15) E dX4_opens_6 (by decide) (fun hc2 => ?_) (fun hc2 => ?_)
  · rw [if_neg hc2] at hF
    refine jx_aload_n E dX4_opens_15 0 rfl ?_
    refine jx_getr (C := RX4) (T := TX4) (M := 11) (k := 0) E dX4_opens_16 (Nat.le_of_ble_eq_true rfl) s_X0 rfl iX4 (by decide) rfl (List.mem_cons_of_mem _ tw_195) rfl ?_
    refine jx_iload_n E dX4_opens_19 1 rfl ?_
    obtain ⟨⟨r3, v3⟩, hc3, hF⟩ := jx_bind hF
    try dsimp only at hF
    refine jx_callNi (As := [.int x1]) (st := []) (h := 1) E dX4_opens_20 1 rfl (k_X3_isTaken hI 1 jx_T1 x1 v1 r3 v3 hc3) (gb_N tw_51) rfl rfl rfl (ex_m4 (jx_ex E)) (List.mem_cons_of_mem _ tw_33) (List.mem_cons_of_mem _ tw_52) (List.mem_cons_of_mem _ tw_53) dd_X3_isTaken.2 rfl (Nat.le_of_ble_eq_true rfl) s_X1 rfl ⟨by decide, by decide⟩ ⟨Nat.le_refl 0, Nat.le_refl 0⟩ (Nat.le_of_ble_eq_true rfl) ?_
    refine jx_if_ne (tgt := 32) E dX4_opens_23 (by decide) (fun hc4 => ?_) (fun hc4 => ?_)
    · rw [if_neg hc4] at hF
      refine jx_aload_n E dX4_opens_32 0 rfl ?_
      refine jx_getr (C := RX4) (T := TX4) (M := 11) (k := 0) E dX4_opens_33 (Nat.le_of_ble_eq_true rfl) s_X0 rfl iX4 (by decide) rfl (List.mem_cons_of_mem _ tw_195) rfl ?_
      refine jx_getrN (C := RX3) (T := TX3) (M := 8) (k := 0) E dX4_opens_36 (Nat.le_of_ble_eq_true rfl) s_X1 rfl iX3 (by decide) rfl (ex_f0 (jx_ex E)) rfl ?_
      refine jx_iconst (x := 0) E dX4_opens_39 (by decide) ?_
      refine jx_aald (h' := 4) E dX4_opens_40 (Nat.le_of_ble_eq_true rfl) s_X2 (show ¬ ((0 : Int32) < 0 ∨ 4 ≤ Int32.toNatClampNeg 0) by decide) rfl ?_
      refine jx_iload_n E dX4_opens_41 1 rfl ?_
      obtain ⟨hg5, hF⟩ := jx_guard hF
      refine jx_iald (h := 4) (j := (Int32.toNatClampNeg x1)) E dX4_opens_42 (Nat.le_of_ble_eq_true rfl) s_X4 hg5 rfl ?_
      refine jx_istore_n (lv' := [(2, .int (v3 4 (Int32.toNatClampNeg x1))), (0, .ref (ad 0)), (1, .int x1)]) E dX4_opens_43 (by decide) rfl ?_
      refine jx_iconst (x := 0) E dX4_opens_44 (by decide) ?_
      refine jx_istore_n (lv' := [(3, .int 0), (2, .int (v3 4 (Int32.toNatClampNeg x1))), (0, .ref (ad 0)), (1, .int x1)]) E dX4_opens_45 (by decide) rfl ?_
      refine jx_iconst (x := 0) E dX4_opens_46 (by decide) ?_
      refine jx_istore (lv' := [(4, .int 0), (3, .int 0), (2, .int (v3 4 (Int32.toNatClampNeg x1))), (0, .ref (ad 0)), (1, .int x1)]) E dX4_opens_47 (by decide) rfl ?_
      refine jx_sub [3, 4, 2, 1, 0] rfl ?_
      exact (key 100000) x1 (v3 4 (Int32.toNatClampNeg x1)) 0 0 v3 hF
    · rw [if_pos hc4] at hF
      refine jx_aload_n E dX4_opens_26 0 rfl ?_
      refine jx_iconst (x := 3) E dX4_opens_27 (by decide) ?_
      obtain ⟨⟨r6, v6⟩, hc6, hF⟩ := jx_bind hF
      try dsimp only at hF
      refine jx_callVi (As := [.int 3]) (st := []) (h := 0) E dX4_opens_28 1 rfl (k_X4_finding hI 3 v3 r6 v6 hc6) (gb_V (List.mem_cons_of_mem _ tw_192) (List.mem_cons_of_mem _ tw_193) (List.mem_cons_of_mem _ tw_194) (List.mem_cons_of_mem _ tw_190) tw_191) rfl rfl rfl dd_X4_finding rfl (Nat.le_of_ble_eq_true rfl) s_X0 rfl ⟨by decide, by decide⟩ ⟨Nat.le_refl 0, Nat.le_refl 0⟩ (Nat.le_of_ble_eq_true rfl) ?_
      obtain ⟨rfl, rfl⟩ := jx_out hF
      exact jx_iret E dX4_opens_31 rfl
  · rw [if_pos hc2] at hF
    refine jx_aload_n E dX4_opens_9 0 rfl ?_
    refine jx_iconst (x := 0) E dX4_opens_10 (by decide) ?_
    obtain ⟨⟨r7, v7⟩, hc7, hF⟩ := jx_bind hF
    try dsimp only at hF
    refine jx_callVi (As := [.int 0]) (st := []) (h := 0) E dX4_opens_11 1 rfl (k_X4_finding hI 0 v1 r7 v7 hc7) (gb_V (List.mem_cons_of_mem _ tw_192) (List.mem_cons_of_mem _ tw_193) (List.mem_cons_of_mem _ tw_194) (List.mem_cons_of_mem _ tw_190) tw_191) rfl rfl rfl dd_X4_finding rfl (Nat.le_of_ble_eq_true rfl) s_X0 rfl ⟨by decide, by decide⟩ ⟨Nat.le_refl 0, Nat.le_refl 0⟩ (Nat.le_of_ble_eq_true rfl) ?_
    obtain ⟨rfl, rfl⟩ := jx_out hF
    exact jx_iret E dX4_opens_14 rfl
