def f_X4_rent (x1 : Int32) (v : jx_V) : Option (Int32 × jx_V) := ((f_X4_isWindow x1 v).bind (fun (r1, v1) => (if r1 = 0 then ((f_X4_finding 0 v1).bind (fun (r4, v4) => (some (r4, v4)))) else ((f_X0_pay 1 x1 66 v1).bind (fun (r3, v3) => (some (r3, v3)))))))
def rm_X4_rent : Room := { frames := 4, cells := 0, slots := 0, locals := 101 }
set_option maxHeartbeats 4000000 in
set_option maxRecDepth 100000 in
theorem k_X4_rent {l : Launch} {D : va_G} {cI cJ : ClassId} {ad : Nat → Nat} {A : Nat → Prop} {adK adV : Nat → Nat} (hI : jx_inj 67 ad A) (x1 : Int32) (v : jx_V) (r : Int32) (v' : jx_V) (hF : f_X4_rent x1 v = some (r, v')) : jx_Ci l D vwCl 67 cI cJ ad shX A (ex_X adK adV A) yX4_rent (Cond.code yX4_rent cX4_rent 2 (some .int) :: bigT) rm_X4_rent [.ref (ad 0), .int x1] v r v' := by
  unfold f_X4_rent at hF
  refine jx_enteri bigT RX4 cX4_rent 2 (some .int) [(0, .ref (ad 0)), (1, .int x1)] hI (ex_X_ok adK adV A) (by decide +kernel) rfl (Nat.le_of_ble_eq_true rfl) rfl rfl ?_
  intro p e s m args below meth c E
  have iX4 : ∀ w ∈ u_ws RX4 TX4 11, w ∈ (Cond.code yX4_rent cX4_rent 2 (some .int) :: bigT) := fun w h => List.mem_cons_of_mem _ (uw_X4 w h)
  refine jx_aload_n E dX4_rent_0 0 rfl ?_
  refine jx_iload_n E dX4_rent_1 1 rfl ?_
  obtain ⟨⟨r1, v1⟩, hc1, hF⟩ := jx_bind hF
  try dsimp only at hF
  refine jx_callVi (As := [.int x1]) (st := []) (h := 0) E dX4_rent_2 1 rfl (k_X4_isWindow hI x1 v r1 v1 hc1) (gb_V (List.mem_cons_of_mem _ tw_203) (List.mem_cons_of_mem _ tw_204) (List.mem_cons_of_mem _ tw_205) (List.mem_cons_of_mem _ tw_190) tw_202) rfl rfl rfl dd_X4_isWindow rfl (Nat.le_of_ble_eq_true rfl) s_X0 rfl ⟨by decide, by decide⟩ ⟨Nat.le_refl 0, Nat.le_refl 0⟩ (Nat.le_of_ble_eq_true rfl) ?_
  refine jx_if_ne (tgt := 14) E dX4_rent_5 (by decide) (fun hc2 => ?_) (fun hc2 => ?_)
  · rw [if_neg hc2] at hF
    refine jx_aload_n E dX4_rent_14 0 rfl ?_
    refine jx_getr (C := RX4) (T := TX4) (M := 11) (k := 3) E dX4_rent_15 (Nat.le_of_ble_eq_true rfl) s_X0 rfl iX4 (by decide) rfl (List.mem_cons_of_mem _ tw_209) rfl ?_
    refine jx_aload_n E dX4_rent_18 0 rfl ?_
    refine jx_getr (C := RX4) (T := TX4) (M := 11) (k := 0) E dX4_rent_19 (Nat.le_of_ble_eq_true rfl) s_X0 rfl iX4 (by decide) rfl (List.mem_cons_of_mem _ tw_195) rfl ?_
    refine jx_iload_n E dX4_rent_22 1 rfl ?_
    refine jx_aload_n E dX4_rent_23 0 rfl ?_
    refine jx_getr (C := RX4) (T := TX4) (M := 11) (k := 9) E dX4_rent_24 (Nat.le_of_ble_eq_true rfl) s_X0 rfl iX4 (by decide) rfl (List.mem_cons_of_mem _ tw_216) rfl ?_
    obtain ⟨⟨r3, v3⟩, hc3, hF⟩ := jx_bind hF
    try dsimp only at hF
    refine jx_callNi (As := [.ref (ad 1), .int x1, .ref (ad 66)]) (st := []) (h := 49) E dX4_rent_27 3 rfl (k_X0_pay hI 1 jx_T1 x1 66 s_X66 (Nat.le_of_ble_eq_true rfl) v1 r3 v3 hc3) (gb_N tw_77) rfl rfl rfl (ex_m20 (jx_ex E)) (List.mem_cons_of_mem _ tw_49) (List.mem_cons_of_mem _ tw_79) (List.mem_cons_of_mem _ tw_80) dd_X0_pay.2 rfl (Nat.le_of_ble_eq_true rfl) s_X49 rfl ⟨by decide, by decide⟩ ⟨Nat.le_refl 0, Nat.le_refl 0⟩ (Nat.le_of_ble_eq_true rfl) ?_
    obtain ⟨rfl, rfl⟩ := jx_out hF
    exact jx_iret E dX4_rent_30 rfl
  · rw [if_pos hc2] at hF
    refine jx_aload_n E dX4_rent_8 0 rfl ?_
    refine jx_iconst (x := 0) E dX4_rent_9 (by decide) ?_
    obtain ⟨⟨r4, v4⟩, hc4, hF⟩ := jx_bind hF
    try dsimp only at hF
    refine jx_callVi (As := [.int 0]) (st := []) (h := 0) E dX4_rent_10 1 rfl (k_X4_finding hI 0 v1 r4 v4 hc4) (gb_V (List.mem_cons_of_mem _ tw_192) (List.mem_cons_of_mem _ tw_193) (List.mem_cons_of_mem _ tw_194) (List.mem_cons_of_mem _ tw_190) tw_191) rfl rfl rfl dd_X4_finding rfl (Nat.le_of_ble_eq_true rfl) s_X0 rfl ⟨by decide, by decide⟩ ⟨Nat.le_refl 0, Nat.le_refl 0⟩ (Nat.le_of_ble_eq_true rfl) ?_
    obtain ⟨rfl, rfl⟩ := jx_out hF
    exact jx_iret E dX4_rent_13 rfl
def f_X4_gain (x1 : Int32) (v : jx_V) : Option (Int32 × jx_V) := ((f_X4_within x1 4 v).bind (fun (r1, v1) => (if r1 = 0 then ((f_X4_finding 0 v1).bind (fun (r5, v5) => (some (r5, v5)))) else ((f_X0_gainsInto 1 65 v1).bind (fun (r3, v3) => (if (x1 < 0 ∨ 4 ≤ Int32.toNatClampNeg x1) then none else (some ((v3 65 (Int32.toNatClampNeg x1)), v3))))))))
def rm_X4_gain : Room := { frames := 5, cells := 0, slots := 0, locals := 125 }
set_option maxHeartbeats 4000000 in
set_option maxRecDepth 100000 in
theorem k_X4_gain {l : Launch} {D : va_G} {cI cJ : ClassId} {ad : Nat → Nat} {A : Nat → Prop} {adK adV : Nat → Nat} (hI : jx_inj 67 ad A) (x1 : Int32) (v : jx_V) (r : Int32) (v' : jx_V) (hF : f_X4_gain x1 v = some (r, v')) : jx_Ci l D vwCl 67 cI cJ ad shX A (ex_X adK adV A) yX4_gain (Cond.code yX4_gain cX4_gain 2 (some .int) :: bigT) rm_X4_gain [.ref (ad 0), .int x1] v r v' := by
  unfold f_X4_gain at hF
  refine jx_enteri bigT RX4 cX4_gain 2 (some .int) [(0, .ref (ad 0)), (1, .int x1)] hI (ex_X_ok adK adV A) (by decide +kernel) rfl (Nat.le_of_ble_eq_true rfl) rfl rfl ?_
  intro p e s m args below meth c E
  have iX4 : ∀ w ∈ u_ws RX4 TX4 11, w ∈ (Cond.code yX4_gain cX4_gain 2 (some .int) :: bigT) := fun w h => List.mem_cons_of_mem _ (uw_X4 w h)
  refine jx_iload_n E dX4_gain_0 1 rfl ?_
  refine jx_iconst (x := 4) E dX4_gain_1 (by decide) ?_
  obtain ⟨⟨r1, v1⟩, hc1, hF⟩ := jx_bind hF
  try dsimp only at hF
  refine jx_callSi (As := [.int x1, .int 4]) (st := []) E dX4_gain_2 2 rfl (k_X4_within hI x1 4 v r1 v1 hc1) (gb_S (List.mem_cons_of_mem _ tw_188) (List.mem_cons_of_mem _ tw_189) (List.mem_cons_of_mem _ tw_190) tw_187) rfl rfl rfl dd_X4_within rfl ⟨by decide, by decide⟩ ⟨Nat.le_refl 0, Nat.le_refl 0⟩ (Nat.le_of_ble_eq_true rfl) ?_
  refine jx_if_ne (tgt := 14) E dX4_gain_5 (by decide) (fun hc2 => ?_) (fun hc2 => ?_)
  · rw [if_neg hc2] at hF
    refine jx_aload_n E dX4_gain_14 0 rfl ?_
    refine jx_getr (C := RX4) (T := TX4) (M := 11) (k := 3) E dX4_gain_15 (Nat.le_of_ble_eq_true rfl) s_X0 rfl iX4 (by decide) rfl (List.mem_cons_of_mem _ tw_209) rfl ?_
    refine jx_aload_n E dX4_gain_18 0 rfl ?_
    refine jx_getr (C := RX4) (T := TX4) (M := 11) (k := 0) E dX4_gain_19 (Nat.le_of_ble_eq_true rfl) s_X0 rfl iX4 (by decide) rfl (List.mem_cons_of_mem _ tw_195) rfl ?_
    refine jx_aload_n E dX4_gain_22 0 rfl ?_
    refine jx_getr (C := RX4) (T := TX4) (M := 11) (k := 8) E dX4_gain_23 (Nat.le_of_ble_eq_true rfl) s_X0 rfl iX4 (by decide) rfl (List.mem_cons_of_mem _ tw_217) rfl ?_
    obtain ⟨⟨r3, v3⟩, hc3, hF⟩ := jx_bind hF
    try dsimp only at hF
    refine jx_callNi (As := [.ref (ad 1), .ref (ad 65)]) (st := []) (h := 49) E dX4_gain_26 2 rfl (k_X0_gainsInto hI 1 jx_T1 65 s_X65 (Nat.le_of_ble_eq_true rfl) v1 r3 v3 hc3) (gb_N tw_218) rfl rfl rfl (ex_m22 (jx_ex E)) (List.mem_cons_of_mem _ tw_49) (List.mem_cons_of_mem _ tw_219) (List.mem_cons_of_mem _ tw_220) dd_X0_gainsInto.2 rfl (Nat.le_of_ble_eq_true rfl) s_X49 rfl ⟨by decide, by decide⟩ ⟨Nat.le_refl 0, Nat.le_refl 0⟩ (Nat.le_of_ble_eq_true rfl) ?_
    refine jx_pop E dX4_gain_29 rfl ?_
    refine jx_aload_n E dX4_gain_30 0 rfl ?_
    refine jx_getr (C := RX4) (T := TX4) (M := 11) (k := 8) E dX4_gain_31 (Nat.le_of_ble_eq_true rfl) s_X0 rfl iX4 (by decide) rfl (List.mem_cons_of_mem _ tw_217) rfl ?_
    refine jx_iload_n E dX4_gain_34 1 rfl ?_
    obtain ⟨hg4, hF⟩ := jx_guard hF
    refine jx_iald (h := 65) (j := (Int32.toNatClampNeg x1)) E dX4_gain_35 (Nat.le_of_ble_eq_true rfl) s_X65 hg4 rfl ?_
    obtain ⟨rfl, rfl⟩ := jx_out hF
    exact jx_iret E dX4_gain_36 rfl
  · rw [if_pos hc2] at hF
    refine jx_aload_n E dX4_gain_8 0 rfl ?_
    refine jx_iconst (x := 0) E dX4_gain_9 (by decide) ?_
    obtain ⟨⟨r5, v5⟩, hc5, hF⟩ := jx_bind hF
    try dsimp only at hF
    refine jx_callVi (As := [.int 0]) (st := []) (h := 0) E dX4_gain_10 1 rfl (k_X4_finding hI 0 v1 r5 v5 hc5) (gb_V (List.mem_cons_of_mem _ tw_192) (List.mem_cons_of_mem _ tw_193) (List.mem_cons_of_mem _ tw_194) (List.mem_cons_of_mem _ tw_190) tw_191) rfl rfl rfl dd_X4_finding rfl (Nat.le_of_ble_eq_true rfl) s_X0 rfl ⟨by decide, by decide⟩ ⟨Nat.le_refl 0, Nat.le_refl 0⟩ (Nat.le_of_ble_eq_true rfl) ?_
    obtain ⟨rfl, rfl⟩ := jx_out hF
    exact jx_iret E dX4_gain_13 rfl
def f_X4_broken  (v : jx_V) : Option (Int32 × jx_V) := ((f_X0_brokenSet 1 v).bind (fun (r1, v1) => (some (r1, v1))))
def rm_X4_broken : Room := { frames := 6, cells := 0, slots := 0, locals := 144 }
set_option maxHeartbeats 4000000 in
set_option maxRecDepth 100000 in
theorem k_X4_broken {l : Launch} {D : va_G} {cI cJ : ClassId} {ad : Nat → Nat} {A : Nat → Prop} {adK adV : Nat → Nat} (hI : jx_inj 67 ad A)  (v : jx_V) (r : Int32) (v' : jx_V) (hF : f_X4_broken  v = some (r, v')) : jx_Ci l D vwCl 67 cI cJ ad shX A (ex_X adK adV A) yX4_broken (Cond.code yX4_broken cX4_broken 1 (some .int) :: bigT) rm_X4_broken [.ref (ad 0)] v r v' := by
  unfold f_X4_broken at hF
  refine jx_enteri bigT RX4 cX4_broken 1 (some .int) [(0, .ref (ad 0))] hI (ex_X_ok adK adV A) (by decide +kernel) rfl (Nat.le_of_ble_eq_true rfl) rfl rfl ?_
  intro p e s m args below meth c E
  have iX4 : ∀ w ∈ u_ws RX4 TX4 11, w ∈ (Cond.code yX4_broken cX4_broken 1 (some .int) :: bigT) := fun w h => List.mem_cons_of_mem _ (uw_X4 w h)
  refine jx_aload_n E dX4_broken_0 0 rfl ?_
  refine jx_getr (C := RX4) (T := TX4) (M := 11) (k := 3) E dX4_broken_1 (Nat.le_of_ble_eq_true rfl) s_X0 rfl iX4 (by decide) rfl (List.mem_cons_of_mem _ tw_209) rfl ?_
  refine jx_aload_n E dX4_broken_4 0 rfl ?_
  refine jx_getr (C := RX4) (T := TX4) (M := 11) (k := 0) E dX4_broken_5 (Nat.le_of_ble_eq_true rfl) s_X0 rfl iX4 (by decide) rfl (List.mem_cons_of_mem _ tw_195) rfl ?_
  obtain ⟨⟨r1, v1⟩, hc1, hF⟩ := jx_bind hF
  try dsimp only at hF
  refine jx_callNi (As := [.ref (ad 1)]) (st := []) (h := 49) E dX4_broken_8 1 rfl (k_X0_brokenSet hI 1 jx_T1 v r1 v1 hc1) (gb_N tw_221) rfl rfl rfl (ex_m23 (jx_ex E)) (List.mem_cons_of_mem _ tw_49) (List.mem_cons_of_mem _ tw_222) (List.mem_cons_of_mem _ tw_223) dd_X0_brokenSet.2 rfl (Nat.le_of_ble_eq_true rfl) s_X49 rfl ⟨by decide, by decide⟩ ⟨Nat.le_refl 0, Nat.le_refl 0⟩ (Nat.le_of_ble_eq_true rfl) ?_
  obtain ⟨rfl, rfl⟩ := jx_out hF
  exact jx_iret E dX4_broken_11 rfl
def f_X4_passMonths_L (h1 : Nat) : Nat → Int32 → Int32 → Int32 → jx_V → Option (Int32 × jx_V)
  | 0, _, _, _, _ => none
  | n + 1, x2, x3, x4, v => (if x2 ≤ x4 then (some (x3, v)) else ((f_X0_payAll h1 v).bind (fun (r2, v2) => ((f_X3_growAll h1 v2).bind (fun v3 => (f_X4_passMonths_L h1 n x2 (x3 + r2) (x4 + 1) v3))))))
def f_X4_passMonths (h1 : Nat) (x2 : Int32) (v : jx_V) : Option (Int32 × jx_V) := (f_X4_passMonths_L h1 100000 x2 0 0 v)
def rm_X4_passMonths : Room := { frames := 5, cells := 0, slots := 0, locals := 124 }
set_option maxHeartbeats 4000000 in
set_option maxRecDepth 100000 in
theorem k_X4_passMonths {l : Launch} {D : va_G} {cI cJ : ClassId} {ad : Nat → Nat} {A : Nat → Prop} {adK adV : Nat → Nat} (hI : jx_inj 67 ad A) (h1 : Nat) (hT1 : jx_T h1) (x2 : Int32) (v : jx_V) (r : Int32) (v' : jx_V) (hF : f_X4_passMonths h1 x2 v = some (r, v')) : jx_Ci l D vwCl 67 cI cJ ad shX A (ex_X adK adV A) yX4_passMonths (Cond.code yX4_passMonths cX4_passMonths 5 (some .int) :: bigT) rm_X4_passMonths [.ref (ad 0), .ref (ad h1), .int x2] v r v' := by
  unfold f_X4_passMonths at hF
  refine jx_enteri bigT RX4 cX4_passMonths 5 (some .int) [(0, .ref (ad 0)), (1, .ref (ad h1)), (2, .int x2)] hI (ex_X_ok adK adV A) (by decide +kernel) rfl (Nat.le_of_ble_eq_true rfl) rfl rfl ?_
  intro p e s m args below meth c E
  have iX4 : ∀ w ∈ u_ws RX4 TX4 11, w ∈ (Cond.code yX4_passMonths cX4_passMonths 5 (some .int) :: bigT) := fun w h => List.mem_cons_of_mem _ (uw_X4 w h)
  have key : ∀ n : Nat, (∀ (x2 : Int32) (x3 : Int32) (x4 : Int32) (v : jx_V), f_X4_passMonths_L h1 n  x2 x3 x4 v = some (r, v') → jx_J p l e rm_X4_passMonths s m args below meth c D vwCl 67 cI cJ ad shX A 0 0 5 (MQ below (va_Qi (fun (r1 : Int32) (_ : Unit) => r1 = r) (fun _ t => va_P D vwCl (jx_ws 67 cI cJ ad shX v') t.heap) A) args s 0 0 A) v 5 [(0, .ref (ad 0)), (1, .ref (ad h1)), (2, .int x2), (3, .int x3), (4, .int x4)] []) := by
    intro n
    induction n with
    | zero =>
      exact (fun _ _ _ _ h => by cases h)
    | succ n ih =>
      intro x2 x3 x4 v hF
      rw [f_X4_passMonths_L] at hF
      refine jx_iload E dX4_passMonths_5 4 rfl ?_
      refine jx_iload_n E dX4_passMonths_7 2 rfl ?_
      refine jx_icmp_ge (tgt := 32) E dX4_passMonths_8 (by decide) (fun hc1 => ?_) (fun hc1 => ?_)
      · rw [if_pos hc1] at hF
        refine jx_iload_n E dX4_passMonths_32 3 rfl ?_
        obtain ⟨rfl, rfl⟩ := jx_out hF
        exact jx_iret E dX4_passMonths_33 rfl
      · rw [if_neg hc1] at hF
        refine jx_iload_n E dX4_passMonths_11 3 rfl ?_
        refine jx_aload_n E dX4_passMonths_12 0 rfl ?_
        refine jx_getr (C := RX4) (T := TX4) (M := 11) (k := 3) E dX4_passMonths_13 (Nat.le_of_ble_eq_true rfl) s_X0 rfl iX4 (by decide) rfl (List.mem_cons_of_mem _ tw_209) rfl ?_
        refine jx_aload_n E dX4_passMonths_16 1 rfl ?_
        obtain ⟨⟨r2, v2⟩, hc2, hF⟩ := jx_bind hF
        try dsimp only at hF
        refine jx_callNi (As := [.ref (ad h1)]) (st := [.int x3]) (h := 49) E dX4_passMonths_17 1 rfl (k_X0_payAll hI h1 hT1 v r2 v2 hc2) (gb_N tw_224) rfl rfl rfl (ex_m24 (jx_ex E)) (List.mem_cons_of_mem _ tw_49) (List.mem_cons_of_mem _ tw_225) (List.mem_cons_of_mem _ tw_226) dd_X0_payAll.2 rfl (Nat.le_of_ble_eq_true rfl) s_X49 rfl ⟨by decide, by decide⟩ ⟨Nat.le_refl 0, Nat.le_refl 0⟩ (Nat.le_of_ble_eq_true rfl) ?_
        refine jx_iadd E dX4_passMonths_20 ?_
        refine jx_istore_n (lv' := [(3, .int (x3 + r2)), (0, .ref (ad 0)), (1, .ref (ad h1)), (2, .int x2), (4, .int x4)]) E dX4_passMonths_21 (by decide) rfl ?_
        refine jx_aload_n E dX4_passMonths_22 2 rfl ?_
        obtain ⟨v3, hc3, hF⟩ := jx_bind hF
        try dsimp only at hF
        refine jx_callNv (As := []) (st := []) (h := h1) E dX4_passMonths_23 0 rfl (k_X3_growAll hI h1 hT1 v2 v3 hc3) (gb_N tw_227) rfl rfl rfl (ex_m25 (jx_ex E)) (List.mem_cons_of_mem _ tw_33) (List.mem_cons_of_mem _ tw_228) (List.mem_cons_of_mem _ tw_229) dd_X3_growAll.2 rfl (n_T0 hT1) (s_T0 hT1) rfl ⟨by decide, by decide⟩ ⟨Nat.le_refl 0, Nat.le_refl 0⟩ (Nat.le_of_ble_eq_true rfl) ?_
        refine jx_iinc (y := (x4 + 1)) (lv' := [(4, .int (x4 + 1)), (3, .int (x3 + r2)), (0, .ref (ad 0)), (1, .ref (ad h1)), (2, .int x2)]) E dX4_passMonths_26 4 rfl rfl (by decide) rfl ?_
        refine jx_goto (tgt := 5) E dX4_passMonths_29 (by decide) ?_
        refine jx_sub [2, 3, 4, 1, 0] rfl ?_
        exact ih x2 (x3 + r2) (x4 + 1) v3 hF
  refine jx_iconst (x := 0) E dX4_passMonths_0 (by decide) ?_
  refine jx_istore_n (lv' := [(3, .int 0), (0, .ref (ad 0)), (1, .ref (ad h1)), (2, .int x2)]) E dX4_passMonths_1 (by decide) rfl ?_
  refine jx_iconst (x := 0) E dX4_passMonths_2 (by decide) ?_
  refine jx_istore (lv' := [(4, .int 0), (3, .int 0), (0, .ref (ad 0)), (1, .ref (ad h1)), (2, .int x2)]) E dX4_passMonths_3 (by decide) rfl ?_
  refine jx_sub [2, 3, 4, 1, 0] rfl ?_
  exact (key 100000) x2 0 0 v hF
def f_X4_months (x1 : Int32) (v : jx_V) : Option (Int32 × jx_V) := (if x1 < 1 then ((f_X4_finding 0 v).bind (fun (r2, v2) => (some (r2, v2)))) else (if x1 ≤ 60 then (if ((v 1 6) + x1) ≤ 999 then ((f_X4_passMonths 1 x1 v).bind (fun (r5, v5) => (some (r5, v5)))) else ((f_X4_finding 4 v).bind (fun (r6, v6) => (some (r6, v6))))) else ((f_X4_finding 0 v).bind (fun (r7, v7) => (some (r7, v7))))))
def rm_X4_months : Room := { frames := 6, cells := 0, slots := 0, locals := 148 }
set_option maxHeartbeats 4000000 in
set_option maxRecDepth 100000 in
theorem k_X4_months {l : Launch} {D : va_G} {cI cJ : ClassId} {ad : Nat → Nat} {A : Nat → Prop} {adK adV : Nat → Nat} (hI : jx_inj 67 ad A) (x1 : Int32) (v : jx_V) (r : Int32) (v' : jx_V) (hF : f_X4_months x1 v = some (r, v')) : jx_Ci l D vwCl 67 cI cJ ad shX A (ex_X adK adV A) yX4_months (Cond.code yX4_months cX4_months 2 (some .int) :: bigT) rm_X4_months [.ref (ad 0), .int x1] v r v' := by
  unfold f_X4_months at hF
  refine jx_enteri bigT RX4 cX4_months 2 (some .int) [(0, .ref (ad 0)), (1, .int x1)] hI (ex_X_ok adK adV A) (by decide +kernel) rfl (Nat.le_of_ble_eq_true rfl) rfl rfl ?_
  intro p e s m args below meth c E
  have iX3 : ∀ w ∈ u_ws RX3 TX3 8, w ∈ (Cond.code yX4_months cX4_months 2 (some .int) :: bigT) := fun w h => List.mem_cons_of_mem _ (uw_X3 w h)
  have iX4 : ∀ w ∈ u_ws RX4 TX4 11, w ∈ (Cond.code yX4_months cX4_months 2 (some .int) :: bigT) := fun w h => List.mem_cons_of_mem _ (uw_X4 w h)
  refine jx_iload_n E dX4_months_0 1 rfl ?_
  refine jx_iconst (x := 1) E dX4_months_1 (by decide) ?_
  refine jx_icmp_lt (tgt := 11) E dX4_months_2 (by decide) (fun hc1 => ?_) (fun hc1 => ?_)
  · rw [if_pos hc1] at hF
    refine jx_aload_n E dX4_months_11 0 rfl ?_
    refine jx_iconst (x := 0) E dX4_months_12 (by decide) ?_
    obtain ⟨⟨r2, v2⟩, hc2, hF⟩ := jx_bind hF
    try dsimp only at hF
    refine jx_callVi (As := [.int 0]) (st := []) (h := 0) E dX4_months_13 1 rfl (k_X4_finding hI 0 v r2 v2 hc2) (gb_V (List.mem_cons_of_mem _ tw_192) (List.mem_cons_of_mem _ tw_193) (List.mem_cons_of_mem _ tw_194) (List.mem_cons_of_mem _ tw_190) tw_191) rfl rfl rfl dd_X4_finding rfl (Nat.le_of_ble_eq_true rfl) s_X0 rfl ⟨by decide, by decide⟩ ⟨Nat.le_refl 0, Nat.le_refl 0⟩ (Nat.le_of_ble_eq_true rfl) ?_
    obtain ⟨rfl, rfl⟩ := jx_out hF
    exact jx_iret E dX4_months_16 rfl
  · rw [if_neg hc1] at hF
    refine jx_iload_n E dX4_months_5 1 rfl ?_
    refine jx_bipush (x := 60) E dX4_months_6 (by decide) ?_
    refine jx_icmp_le (tgt := 17) E dX4_months_8 (by decide) (fun hc3 => ?_) (fun hc3 => ?_)
    · rw [if_pos hc3] at hF
      refine jx_aload_n E dX4_months_17 0 rfl ?_
      refine jx_getr (C := RX4) (T := TX4) (M := 11) (k := 0) E dX4_months_18 (Nat.le_of_ble_eq_true rfl) s_X0 rfl iX4 (by decide) rfl (List.mem_cons_of_mem _ tw_195) rfl ?_
      refine jx_getiN (C := RX3) (T := TX3) (M := 8) (k := 6) E dX4_months_21 (Nat.le_of_ble_eq_true rfl) s_X1 rfl iX3 (by decide) rfl (ex_f12 (jx_ex E)) rfl ?_
      refine jx_iload_n E dX4_months_24 1 rfl ?_
      refine jx_iadd E dX4_months_25 ?_
      refine jx_sipush (x := 999) E dX4_months_26 (by decide) ?_
      refine jx_icmp_le (tgt := 38) E dX4_months_29 (by decide) (fun hc4 => ?_) (fun hc4 => ?_)
      · rw [if_pos hc4] at hF
        refine jx_aload_n E dX4_months_38 0 rfl ?_
        refine jx_aload_n E dX4_months_39 0 rfl ?_
        refine jx_getr (C := RX4) (T := TX4) (M := 11) (k := 0) E dX4_months_40 (Nat.le_of_ble_eq_true rfl) s_X0 rfl iX4 (by decide) rfl (List.mem_cons_of_mem _ tw_195) rfl ?_
        refine jx_iload_n E dX4_months_43 1 rfl ?_
        obtain ⟨⟨r5, v5⟩, hc5, hF⟩ := jx_bind hF
        try dsimp only at hF
        refine jx_callVi (As := [.ref (ad 1), .int x1]) (st := []) (h := 0) E dX4_months_44 2 rfl (k_X4_passMonths hI 1 jx_T1 x1 v r5 v5 hc5) (gb_V (List.mem_cons_of_mem _ tw_231) (List.mem_cons_of_mem _ tw_232) (List.mem_cons_of_mem _ tw_233) (List.mem_cons_of_mem _ tw_190) tw_230) rfl rfl rfl dd_X4_passMonths rfl (Nat.le_of_ble_eq_true rfl) s_X0 rfl ⟨by decide, by decide⟩ ⟨Nat.le_refl 0, Nat.le_refl 0⟩ (Nat.le_of_ble_eq_true rfl) ?_
        obtain ⟨rfl, rfl⟩ := jx_out hF
        exact jx_iret E dX4_months_47 rfl
      · rw [if_neg hc4] at hF
        refine jx_aload_n E dX4_months_32 0 rfl ?_
        refine jx_iconst (x := 4) E dX4_months_33 (by decide) ?_
        obtain ⟨⟨r6, v6⟩, hc6, hF⟩ := jx_bind hF
        try dsimp only at hF
        refine jx_callVi (As := [.int 4]) (st := []) (h := 0) E dX4_months_34 1 rfl (k_X4_finding hI 4 v r6 v6 hc6) (gb_V (List.mem_cons_of_mem _ tw_192) (List.mem_cons_of_mem _ tw_193) (List.mem_cons_of_mem _ tw_194) (List.mem_cons_of_mem _ tw_190) tw_191) rfl rfl rfl dd_X4_finding rfl (Nat.le_of_ble_eq_true rfl) s_X0 rfl ⟨by decide, by decide⟩ ⟨Nat.le_refl 0, Nat.le_refl 0⟩ (Nat.le_of_ble_eq_true rfl) ?_
        obtain ⟨rfl, rfl⟩ := jx_out hF
        exact jx_iret E dX4_months_37 rfl
    · rw [if_neg hc3] at hF
      refine jx_aload_n E dX4_months_11 0 rfl ?_
      refine jx_iconst (x := 0) E dX4_months_12 (by decide) ?_
      obtain ⟨⟨r7, v7⟩, hc7, hF⟩ := jx_bind hF
      try dsimp only at hF
      refine jx_callVi (As := [.int 0]) (st := []) (h := 0) E dX4_months_13 1 rfl (k_X4_finding hI 0 v r7 v7 hc7) (gb_V (List.mem_cons_of_mem _ tw_192) (List.mem_cons_of_mem _ tw_193) (List.mem_cons_of_mem _ tw_194) (List.mem_cons_of_mem _ tw_190) tw_191) rfl rfl rfl dd_X4_finding rfl (Nat.le_of_ble_eq_true rfl) s_X0 rfl ⟨by decide, by decide⟩ ⟨Nat.le_refl 0, Nat.le_refl 0⟩ (Nat.le_of_ble_eq_true rfl) ?_
      obtain ⟨rfl, rfl⟩ := jx_out hF
      exact jx_iret E dX4_months_16 rfl
def f_X4_ahead (x1 : Int32) (x2 : Int32) (v : jx_V) : Option (Int32 × jx_V) := ((f_X4_within x1 121 v).bind (fun (r1, v1) => (if r1 = 0 then ((f_X4_finding 0 v1).bind (fun (r3, v3) => (some (r3, v3)))) else ((f_X4_within x2 7 v1).bind (fun (r4, v4) => (if r4 = 0 then ((f_X4_finding 0 v4).bind (fun (r16, v16) => (some (r16, v16)))) else (if ((v4 1 6) + x1) ≤ 999 then ((f_X3_become 33 1 v4).bind (fun v7 => ((f_X4_passMonths 33 x1 v7).bind (fun (r8, v8) => (if x2 = 0 then (some (r8, v8)) else (if x2 = 1 then ((f_X0_brokenSet 33 v8).bind (fun (r11, v11) => (some (r11, v11)))) else (if x2 = 2 then ((f_X0_squaresInAllViews 33 v8).bind (fun (r13, v13) => (some (r13, v13)))) else (if ((x2 - 3) < 0 ∨ 4 ≤ Int32.toNatClampNeg (x2 - 3)) then none else (some ((v8 47 (Int32.toNatClampNeg (x2 - 3))), v8)))))))))) else ((f_X4_finding 4 v4).bind (fun (r15, v15) => (some (r15, v15)))))))))))
def rm_X4_ahead : Room := { frames := 6, cells := 0, slots := 0, locals := 148 }
set_option maxHeartbeats 4000000 in
set_option maxRecDepth 100000 in
theorem k_X4_ahead {l : Launch} {D : va_G} {cI cJ : ClassId} {ad : Nat → Nat} {A : Nat → Prop} {adK adV : Nat → Nat} (hI : jx_inj 67 ad A) (x1 : Int32) (x2 : Int32) (v : jx_V) (r : Int32) (v' : jx_V) (hF : f_X4_ahead x1 x2 v = some (r, v')) : jx_Ci l D vwCl 67 cI cJ ad shX A (ex_X adK adV A) yX4_ahead (Cond.code yX4_ahead cX4_ahead 4 (some .int) :: bigT) rm_X4_ahead [.ref (ad 0), .int x1, .int x2] v r v' := by
  unfold f_X4_ahead at hF
  refine jx_enteri bigT RX4 cX4_ahead 4 (some .int) [(0, .ref (ad 0)), (1, .int x1), (2, .int x2)] hI (ex_X_ok adK adV A) (by decide +kernel) rfl (Nat.le_of_ble_eq_true rfl) rfl rfl ?_
  intro p e s m args below meth c E
  have iX3 : ∀ w ∈ u_ws RX3 TX3 8, w ∈ (Cond.code yX4_ahead cX4_ahead 4 (some .int) :: bigT) := fun w h => List.mem_cons_of_mem _ (uw_X3 w h)
  have iX4 : ∀ w ∈ u_ws RX4 TX4 11, w ∈ (Cond.code yX4_ahead cX4_ahead 4 (some .int) :: bigT) := fun w h => List.mem_cons_of_mem _ (uw_X4 w h)
  refine jx_iload_n E dX4_ahead_0 1 rfl ?_
  refine jx_bipush (x := 121) E dX4_ahead_1 (by decide) ?_
  obtain ⟨⟨r1, v1⟩, hc1, hF⟩ := jx_bind hF
  try dsimp only at hF
  refine jx_callSi (As := [.int x1, .int 121]) (st := []) E dX4_ahead_3 2 rfl (k_X4_within hI x1 121 v r1 v1 hc1) (gb_S (List.mem_cons_of_mem _ tw_188) (List.mem_cons_of_mem _ tw_189) (List.mem_cons_of_mem _ tw_190) tw_187) rfl rfl rfl dd_X4_within rfl ⟨by decide, by decide⟩ ⟨Nat.le_refl 0, Nat.le_refl 0⟩ (Nat.le_of_ble_eq_true rfl) ?_
  refine jx_if_eq (tgt := 18) E dX4_ahead_6 (by decide) (fun hc2 => ?_) (fun hc2 => ?_)
  · rw [if_pos hc2] at hF
    refine jx_aload_n E dX4_ahead_18 0 rfl ?_
    refine jx_iconst (x := 0) E dX4_ahead_19 (by decide) ?_
    obtain ⟨⟨r3, v3⟩, hc3, hF⟩ := jx_bind hF
    try dsimp only at hF
    refine jx_callVi (As := [.int 0]) (st := []) (h := 0) E dX4_ahead_20 1 rfl (k_X4_finding hI 0 v1 r3 v3 hc3) (gb_V (List.mem_cons_of_mem _ tw_192) (List.mem_cons_of_mem _ tw_193) (List.mem_cons_of_mem _ tw_194) (List.mem_cons_of_mem _ tw_190) tw_191) rfl rfl rfl dd_X4_finding rfl (Nat.le_of_ble_eq_true rfl) s_X0 rfl ⟨by decide, by decide⟩ ⟨Nat.le_refl 0, Nat.le_refl 0⟩ (Nat.le_of_ble_eq_true rfl) ?_
    obtain ⟨rfl, rfl⟩ := jx_out hF
    exact jx_iret E dX4_ahead_23 rfl
  · rw [if_neg hc2] at hF
    refine jx_iload_n E dX4_ahead_9 2 rfl ?_
    refine jx_bipush (x := 7) E dX4_ahead_10 (by decide) ?_
    obtain ⟨⟨r4, v4⟩, hc4, hF⟩ := jx_bind hF
    try dsimp only at hF
    refine jx_callSi (As := [.int x2, .int 7]) (st := []) E dX4_ahead_12 2 rfl (k_X4_within hI x2 7 v1 r4 v4 hc4) (gb_S (List.mem_cons_of_mem _ tw_188) (List.mem_cons_of_mem _ tw_189) (List.mem_cons_of_mem _ tw_190) tw_187) rfl rfl rfl dd_X4_within rfl ⟨by decide, by decide⟩ ⟨Nat.le_refl 0, Nat.le_refl 0⟩ (Nat.le_of_ble_eq_true rfl) ?_
    refine jx_if_ne (tgt := 24) E dX4_ahead_15 (by decide) (fun hc5 => ?_) (fun hc5 => ?_)
    · rw [if_neg hc5] at hF
      refine jx_aload_n E dX4_ahead_24 0 rfl ?_
      refine jx_getr (C := RX4) (T := TX4) (M := 11) (k := 0) E dX4_ahead_25 (Nat.le_of_ble_eq_true rfl) s_X0 rfl iX4 (by decide) rfl (List.mem_cons_of_mem _ tw_195) rfl ?_
      refine jx_getiN (C := RX3) (T := TX3) (M := 8) (k := 6) E dX4_ahead_28 (Nat.le_of_ble_eq_true rfl) s_X1 rfl iX3 (by decide) rfl (ex_f12 (jx_ex E)) rfl ?_
      refine jx_iload_n E dX4_ahead_31 1 rfl ?_
      refine jx_iadd E dX4_ahead_32 ?_
      refine jx_sipush (x := 999) E dX4_ahead_33 (by decide) ?_
      refine jx_icmp_le (tgt := 45) E dX4_ahead_36 (by decide) (fun hc6 => ?_) (fun hc6 => ?_)
      · rw [if_pos hc6] at hF
        refine jx_aload_n E dX4_ahead_45 0 rfl ?_
        refine jx_getr (C := RX4) (T := TX4) (M := 11) (k := 2) E dX4_ahead_46 (Nat.le_of_ble_eq_true rfl) s_X0 rfl iX4 (by decide) rfl (List.mem_cons_of_mem _ tw_234) rfl ?_
        refine jx_aload_n E dX4_ahead_49 0 rfl ?_
        refine jx_getr (C := RX4) (T := TX4) (M := 11) (k := 0) E dX4_ahead_50 (Nat.le_of_ble_eq_true rfl) s_X0 rfl iX4 (by decide) rfl (List.mem_cons_of_mem _ tw_195) rfl ?_
        obtain ⟨v7, hc7, hF⟩ := jx_bind hF
        try dsimp only at hF
        refine jx_callNv (As := [.ref (ad 1)]) (st := []) (h := 33) E dX4_ahead_53 1 rfl (k_X3_become hI 33 jx_T33 1 jx_T1 v4 v7 hc7) (gb_N tw_235) rfl rfl rfl (ex_m26 (jx_ex E)) (List.mem_cons_of_mem _ tw_33) (List.mem_cons_of_mem _ tw_236) (List.mem_cons_of_mem _ tw_237) dd_X3_become.2 rfl (Nat.le_of_ble_eq_true rfl) s_X33 rfl ⟨by decide, by decide⟩ ⟨Nat.le_refl 0, Nat.le_refl 0⟩ (Nat.le_of_ble_eq_true rfl) ?_
        refine jx_aload_n E dX4_ahead_56 0 rfl ?_
        refine jx_aload_n E dX4_ahead_57 0 rfl ?_
        refine jx_getr (C := RX4) (T := TX4) (M := 11) (k := 2) E dX4_ahead_58 (Nat.le_of_ble_eq_true rfl) s_X0 rfl iX4 (by decide) rfl (List.mem_cons_of_mem _ tw_234) rfl ?_
        refine jx_iload_n E dX4_ahead_61 1 rfl ?_
        obtain ⟨⟨r8, v8⟩, hc8, hF⟩ := jx_bind hF
        try dsimp only at hF
        refine jx_callVi (As := [.ref (ad 33), .int x1]) (st := []) (h := 0) E dX4_ahead_62 2 rfl (k_X4_passMonths hI 33 jx_T33 x1 v7 r8 v8 hc8) (gb_V (List.mem_cons_of_mem _ tw_231) (List.mem_cons_of_mem _ tw_232) (List.mem_cons_of_mem _ tw_233) (List.mem_cons_of_mem _ tw_190) tw_230) rfl rfl rfl dd_X4_passMonths rfl (Nat.le_of_ble_eq_true rfl) s_X0 rfl ⟨by decide, by decide⟩ ⟨Nat.le_refl 0, Nat.le_refl 0⟩ (Nat.le_of_ble_eq_true rfl) ?_
        refine jx_istore_n (lv' := [(3, .int r8), (0, .ref (ad 0)), (1, .int x1), (2, .int x2)]) E dX4_ahead_65 (by decide) rfl ?_
        refine jx_iload_n E dX4_ahead_66 3 rfl ?_
        by_cases hc9 : x2 = 0
        · rw [if_pos hc9] at hF
          refine jx_tableIn (tgt := 92) (z := 0) E dX4_ahead_67 hc9 (by decide) (by decide) rfl (by decide) ?_
          refine jx_iload_n E dX4_ahead_92 0 rfl ?_
          obtain ⟨rfl, rfl⟩ := jx_out hF
          exact jx_iret E dX4_ahead_93 rfl
        rw [if_neg hc9] at hF
        by_cases hc10 : x2 = 1
        · rw [if_pos hc10] at hF
          refine jx_tableIn (tgt := 94) (z := 1) E dX4_ahead_67 hc10 (by decide) (by decide) rfl (by decide) ?_
          refine jx_aload_n E dX4_ahead_94 1 rfl ?_
          refine jx_getr (C := RX4) (T := TX4) (M := 11) (k := 3) E dX4_ahead_95 (Nat.le_of_ble_eq_true rfl) s_X0 rfl iX4 (by decide) rfl (List.mem_cons_of_mem _ tw_209) rfl ?_
          refine jx_aload_n E dX4_ahead_98 1 rfl ?_
          refine jx_getr (C := RX4) (T := TX4) (M := 11) (k := 2) E dX4_ahead_99 (Nat.le_of_ble_eq_true rfl) s_X0 rfl iX4 (by decide) rfl (List.mem_cons_of_mem _ tw_234) rfl ?_
          obtain ⟨⟨r11, v11⟩, hc11, hF⟩ := jx_bind hF
          try dsimp only at hF
          refine jx_callNi (As := [.ref (ad 33)]) (st := []) (h := 49) E dX4_ahead_102 1 rfl (k_X0_brokenSet hI 33 jx_T33 v8 r11 v11 hc11) (gb_N tw_221) rfl rfl rfl (ex_m23 (jx_ex E)) (List.mem_cons_of_mem _ tw_49) (List.mem_cons_of_mem _ tw_222) (List.mem_cons_of_mem _ tw_223) dd_X0_brokenSet.2 rfl (Nat.le_of_ble_eq_true rfl) s_X49 rfl ⟨by decide, by decide⟩ ⟨Nat.le_refl 0, Nat.le_refl 0⟩ (Nat.le_of_ble_eq_true rfl) ?_
          obtain ⟨rfl, rfl⟩ := jx_out hF
          exact jx_iret E dX4_ahead_105 rfl
        rw [if_neg hc10] at hF
        by_cases hc12 : x2 = 2
        · rw [if_pos hc12] at hF
          refine jx_tableIn (tgt := 106) (z := 2) E dX4_ahead_67 hc12 (by decide) (by decide) rfl (by decide) ?_
          refine jx_aload_n E dX4_ahead_106 1 rfl ?_
          refine jx_getr (C := RX4) (T := TX4) (M := 11) (k := 3) E dX4_ahead_107 (Nat.le_of_ble_eq_true rfl) s_X0 rfl iX4 (by decide) rfl (List.mem_cons_of_mem _ tw_209) rfl ?_
          refine jx_aload_n E dX4_ahead_110 1 rfl ?_
          refine jx_getr (C := RX4) (T := TX4) (M := 11) (k := 2) E dX4_ahead_111 (Nat.le_of_ble_eq_true rfl) s_X0 rfl iX4 (by decide) rfl (List.mem_cons_of_mem _ tw_234) rfl ?_
          obtain ⟨⟨r13, v13⟩, hc13, hF⟩ := jx_bind hF
          try dsimp only at hF
          refine jx_callNi (As := [.ref (ad 33)]) (st := []) (h := 49) E dX4_ahead_114 1 rfl (k_X0_squaresInAllViews hI 33 jx_T33 v8 r13 v13 hc13) (gb_N tw_238) rfl rfl rfl (ex_m27 (jx_ex E)) (List.mem_cons_of_mem _ tw_49) (List.mem_cons_of_mem _ tw_239) (List.mem_cons_of_mem _ tw_240) dd_X0_squaresInAllViews.2 rfl (Nat.le_of_ble_eq_true rfl) s_X49 rfl ⟨by decide, by decide⟩ ⟨Nat.le_refl 0, Nat.le_refl 0⟩ (Nat.le_of_ble_eq_true rfl) ?_
          obtain ⟨rfl, rfl⟩ := jx_out hF
          exact jx_iret E dX4_ahead_117 rfl
        rw [if_neg hc12] at hF
        refine jx_tableOut (tgt := 118) E dX4_ahead_67 (by have hz9 := jx_ne hc9 (k := 0) (by decide); have hz10 := jx_ne hc10 (k := 1) (by decide); have hz12 := jx_ne hc12 (k := 2) (by decide); omega) (by decide) ?_
        refine jx_aload_n E dX4_ahead_118 1 rfl ?_
        refine jx_getr (C := RX4) (T := TX4) (M := 11) (k := 2) E dX4_ahead_119 (Nat.le_of_ble_eq_true rfl) s_X0 rfl iX4 (by decide) rfl (List.mem_cons_of_mem _ tw_234) rfl ?_
        refine jx_getrN (C := RX3) (T := TX3) (M := 8) (k := 3) E dX4_ahead_122 (Nat.le_of_ble_eq_true rfl) s_X33 rfl iX3 (by decide) rfl (ex_f6 (jx_ex E)) rfl ?_
        refine jx_iload_n E dX4_ahead_125 3 rfl ?_
        refine jx_iconst (x := 3) E dX4_ahead_126 (by decide) ?_
        refine jx_isub E dX4_ahead_127 ?_
        obtain ⟨hg14, hF⟩ := jx_guard hF
        refine jx_iald (h := 47) (j := (Int32.toNatClampNeg (x2 - 3))) E dX4_ahead_128 (Nat.le_of_ble_eq_true rfl) s_X47 hg14 rfl ?_
        obtain ⟨rfl, rfl⟩ := jx_out hF
        exact jx_iret E dX4_ahead_129 rfl
      · rw [if_neg hc6] at hF
        refine jx_aload_n E dX4_ahead_39 0 rfl ?_
        refine jx_iconst (x := 4) E dX4_ahead_40 (by decide) ?_
        obtain ⟨⟨r15, v15⟩, hc15, hF⟩ := jx_bind hF
        try dsimp only at hF
        refine jx_callVi (As := [.int 4]) (st := []) (h := 0) E dX4_ahead_41 1 rfl (k_X4_finding hI 4 v4 r15 v15 hc15) (gb_V (List.mem_cons_of_mem _ tw_192) (List.mem_cons_of_mem _ tw_193) (List.mem_cons_of_mem _ tw_194) (List.mem_cons_of_mem _ tw_190) tw_191) rfl rfl rfl dd_X4_finding rfl (Nat.le_of_ble_eq_true rfl) s_X0 rfl ⟨by decide, by decide⟩ ⟨Nat.le_refl 0, Nat.le_refl 0⟩ (Nat.le_of_ble_eq_true rfl) ?_
        obtain ⟨rfl, rfl⟩ := jx_out hF
        exact jx_iret E dX4_ahead_44 rfl
    · rw [if_pos hc5] at hF
      refine jx_aload_n E dX4_ahead_18 0 rfl ?_
      refine jx_iconst (x := 0) E dX4_ahead_19 (by decide) ?_
      obtain ⟨⟨r16, v16⟩, hc16, hF⟩ := jx_bind hF
      try dsimp only at hF
      refine jx_callVi (As := [.int 0]) (st := []) (h := 0) E dX4_ahead_20 1 rfl (k_X4_finding hI 0 v4 r16 v16 hc16) (gb_V (List.mem_cons_of_mem _ tw_192) (List.mem_cons_of_mem _ tw_193) (List.mem_cons_of_mem _ tw_194) (List.mem_cons_of_mem _ tw_190) tw_191) rfl rfl rfl dd_X4_finding rfl (Nat.le_of_ble_eq_true rfl) s_X0 rfl ⟨by decide, by decide⟩ ⟨Nat.le_refl 0, Nat.le_refl 0⟩ (Nat.le_of_ble_eq_true rfl) ?_
      obtain ⟨rfl, rfl⟩ := jx_out hF
      exact jx_iret E dX4_ahead_23 rfl
def f_X4_tryUntilBroken_L  : Nat → Int32 → Int32 → jx_V → Option (Int32 × jx_V)
  | 0, _, _, _ => none
  | n + 1, x1, x2, v => (if 120 < x2 then (some ((-1), v)) else ((f_X0_isBroken 33 x1 v).bind (fun (r3, v3) => (if r3 = 0 then ((f_X3_growAll 33 v3).bind (fun v5 => (f_X4_tryUntilBroken_L n x1 (x2 + 1) v5))) else (some (x2, v3))))))
def f_X4_tryUntilBroken (x1 : Int32) (v : jx_V) : Option (Int32 × jx_V) := ((f_X3_become 33 1 v).bind (fun v1 => (f_X4_tryUntilBroken_L 100000 x1 0 v1)))
def rm_X4_tryUntilBroken : Room := { frames := 5, cells := 0, slots := 0, locals := 121 }
set_option maxHeartbeats 4000000 in
set_option maxRecDepth 100000 in
theorem k_X4_tryUntilBroken {l : Launch} {D : va_G} {cI cJ : ClassId} {ad : Nat → Nat} {A : Nat → Prop} {adK adV : Nat → Nat} (hI : jx_inj 67 ad A) (x1 : Int32) (v : jx_V) (r : Int32) (v' : jx_V) (hF : f_X4_tryUntilBroken x1 v = some (r, v')) : jx_Ci l D vwCl 67 cI cJ ad shX A (ex_X adK adV A) yX4_tryUntilBroken (Cond.code yX4_tryUntilBroken cX4_tryUntilBroken 3 (some .int) :: bigT) rm_X4_tryUntilBroken [.ref (ad 0), .int x1] v r v' := by
  unfold f_X4_tryUntilBroken at hF
  refine jx_enteri bigT RX4 cX4_tryUntilBroken 3 (some .int) [(0, .ref (ad 0)), (1, .int x1)] hI (ex_X_ok adK adV A) (by decide +kernel) rfl (Nat.le_of_ble_eq_true rfl) rfl rfl ?_
  intro p e s m args below meth c E
  have iX4 : ∀ w ∈ u_ws RX4 TX4 11, w ∈ (Cond.code yX4_tryUntilBroken cX4_tryUntilBroken 3 (some .int) :: bigT) := fun w h => List.mem_cons_of_mem _ (uw_X4 w h)
  have key : ∀ n : Nat, (∀ (x1 : Int32) (x2 : Int32) (v : jx_V), f_X4_tryUntilBroken_L  n  x1 x2 v = some (r, v') → jx_J p l e rm_X4_tryUntilBroken s m args below meth c D vwCl 67 cI cJ ad shX A 0 0 3 (MQ below (va_Qi (fun (r1 : Int32) (_ : Unit) => r1 = r) (fun _ t => va_P D vwCl (jx_ws 67 cI cJ ad shX v') t.heap) A) args s 0 0 A) v 13 [(0, .ref (ad 0)), (1, .int x1), (2, .int x2)] []) := by
    intro n
    induction n with
    | zero =>
      exact (fun _ _ _ h => by cases h)
    | succ n ih =>
      intro x1 x2 v hF
      rw [f_X4_tryUntilBroken_L] at hF
      refine jx_iload_n E dX4_tryUntilBroken_13 2 rfl ?_
      refine jx_bipush (x := 120) E dX4_tryUntilBroken_14 (by decide) ?_
      refine jx_icmp_gt (tgt := 49) E dX4_tryUntilBroken_16 (by decide) (fun hc2 => ?_) (fun hc2 => ?_)
      · rw [if_pos hc2] at hF
        refine jx_iconst (x := -1) E dX4_tryUntilBroken_49 (by decide) ?_
        obtain ⟨rfl, rfl⟩ := jx_out hF
        exact jx_iret E dX4_tryUntilBroken_50 rfl
      · rw [if_neg hc2] at hF
        refine jx_aload_n E dX4_tryUntilBroken_19 0 rfl ?_
        refine jx_getr (C := RX4) (T := TX4) (M := 11) (k := 3) E dX4_tryUntilBroken_20 (Nat.le_of_ble_eq_true rfl) s_X0 rfl iX4 (by decide) rfl (List.mem_cons_of_mem _ tw_209) rfl ?_
        refine jx_aload_n E dX4_tryUntilBroken_23 0 rfl ?_
        refine jx_getr (C := RX4) (T := TX4) (M := 11) (k := 2) E dX4_tryUntilBroken_24 (Nat.le_of_ble_eq_true rfl) s_X0 rfl iX4 (by decide) rfl (List.mem_cons_of_mem _ tw_234) rfl ?_
        refine jx_iload_n E dX4_tryUntilBroken_27 1 rfl ?_
        obtain ⟨⟨r3, v3⟩, hc3, hF⟩ := jx_bind hF
        try dsimp only at hF
        refine jx_callNi (As := [.ref (ad 33), .int x1]) (st := []) (h := 49) E dX4_tryUntilBroken_28 2 rfl (k_X0_isBroken hI 33 jx_T33 x1 v r3 v3 hc3) (gb_N tw_85) rfl rfl rfl (ex_m12 (jx_ex E)) (List.mem_cons_of_mem _ tw_49) (List.mem_cons_of_mem _ tw_87) (List.mem_cons_of_mem _ tw_88) dd_X0_isBroken.2 rfl (Nat.le_of_ble_eq_true rfl) s_X49 rfl ⟨by decide, by decide⟩ ⟨Nat.le_refl 0, Nat.le_refl 0⟩ (Nat.le_of_ble_eq_true rfl) ?_
        refine jx_if_eq (tgt := 36) E dX4_tryUntilBroken_31 (by decide) (fun hc4 => ?_) (fun hc4 => ?_)
        · rw [if_pos hc4] at hF
          refine jx_aload_n E dX4_tryUntilBroken_36 0 rfl ?_
          refine jx_getr (C := RX4) (T := TX4) (M := 11) (k := 2) E dX4_tryUntilBroken_37 (Nat.le_of_ble_eq_true rfl) s_X0 rfl iX4 (by decide) rfl (List.mem_cons_of_mem _ tw_234) rfl ?_
          obtain ⟨v5, hc5, hF⟩ := jx_bind hF
          try dsimp only at hF
          refine jx_callNv (As := []) (st := []) (h := 33) E dX4_tryUntilBroken_40 0 rfl (k_X3_growAll hI 33 jx_T33 v3 v5 hc5) (gb_N tw_227) rfl rfl rfl (ex_m25 (jx_ex E)) (List.mem_cons_of_mem _ tw_33) (List.mem_cons_of_mem _ tw_228) (List.mem_cons_of_mem _ tw_229) dd_X3_growAll.2 rfl (Nat.le_of_ble_eq_true rfl) s_X33 rfl ⟨by decide, by decide⟩ ⟨Nat.le_refl 0, Nat.le_refl 0⟩ (Nat.le_of_ble_eq_true rfl) ?_
          refine jx_iinc (y := (x2 + 1)) (lv' := [(2, .int (x2 + 1)), (0, .ref (ad 0)), (1, .int x1)]) E dX4_tryUntilBroken_43 2 rfl rfl (by decide) rfl ?_
          refine jx_goto (tgt := 13) E dX4_tryUntilBroken_46 (by decide) ?_
          refine jx_sub [1, 2, 0] rfl ?_
          exact ih x1 (x2 + 1) v5 hF
        · rw [if_neg hc4] at hF
          refine jx_iload_n E dX4_tryUntilBroken_34 2 rfl ?_
          obtain ⟨rfl, rfl⟩ := jx_out hF
          exact jx_iret E dX4_tryUntilBroken_35 rfl
  refine jx_aload_n E dX4_tryUntilBroken_0 0 rfl ?_
  refine jx_getr (C := RX4) (T := TX4) (M := 11) (k := 2) E dX4_tryUntilBroken_1 (Nat.le_of_ble_eq_true rfl) s_X0 rfl iX4 (by decide) rfl (List.mem_cons_of_mem _ tw_234) rfl ?_
  refine jx_aload_n E dX4_tryUntilBroken_4 0 rfl ?_
  refine jx_getr (C := RX4) (T := TX4) (M := 11) (k := 0) E dX4_tryUntilBroken_5 (Nat.le_of_ble_eq_true rfl) s_X0 rfl iX4 (by decide) rfl (List.mem_cons_of_mem _ tw_195) rfl ?_
  obtain ⟨v1, hc1, hF⟩ := jx_bind hF
  try dsimp only at hF
  refine jx_callNv (As := [.ref (ad 1)]) (st := []) (h := 33) E dX4_tryUntilBroken_8 1 rfl (k_X3_become hI 33 jx_T33 1 jx_T1 v v1 hc1) (gb_N tw_235) rfl rfl rfl (ex_m26 (jx_ex E)) (List.mem_cons_of_mem _ tw_33) (List.mem_cons_of_mem _ tw_236) (List.mem_cons_of_mem _ tw_237) dd_X3_become.2 rfl (Nat.le_of_ble_eq_true rfl) s_X33 rfl ⟨by decide, by decide⟩ ⟨Nat.le_refl 0, Nat.le_refl 0⟩ (Nat.le_of_ble_eq_true rfl) ?_
  refine jx_iconst (x := 0) E dX4_tryUntilBroken_11 (by decide) ?_
  refine jx_istore_n (lv' := [(2, .int 0), (0, .ref (ad 0)), (1, .int x1)]) E dX4_tryUntilBroken_12 (by decide) rfl ?_
  refine jx_sub [1, 2, 0] rfl ?_
  exact (key 100000) x1 0 v1 hF
def f_X4_breach (x1 : Int32) (v : jx_V) : Option (Int32 × jx_V) := ((f_X4_isWindow x1 v).bind (fun (r1, v1) => (if r1 = 0 then ((f_X4_finding 0 v1).bind (fun (r11, v11) => (some (r11, v11)))) else (if (x1 < 0 ∨ 10 ≤ Int32.toNatClampNeg x1) then none else (if (v1 12 (Int32.toNatClampNeg x1)) < 0 then ((f_X4_finding 4 v1).bind (fun (r5, v5) => (some (r5, v5)))) else (if ((v1 1 6) + 120) ≤ 999 then ((f_X4_tryUntilBroken x1 v1).bind (fun (r7, v7) => (if 0 ≤ r7 then (some (r7, v7)) else ((f_X4_finding 3 v7).bind (fun (r9, v9) => (some (r9, v9))))))) else ((f_X4_finding 4 v1).bind (fun (r10, v10) => (some (r10, v10))))))))))
def rm_X4_breach : Room := { frames := 6, cells := 0, slots := 0, locals := 143 }
set_option maxHeartbeats 4000000 in
set_option maxRecDepth 100000 in
theorem k_X4_breach {l : Launch} {D : va_G} {cI cJ : ClassId} {ad : Nat → Nat} {A : Nat → Prop} {adK adV : Nat → Nat} (hI : jx_inj 67 ad A) (x1 : Int32) (v : jx_V) (r : Int32) (v' : jx_V) (hF : f_X4_breach x1 v = some (r, v')) : jx_Ci l D vwCl 67 cI cJ ad shX A (ex_X adK adV A) yX4_breach (Cond.code yX4_breach cX4_breach 3 (some .int) :: bigT) rm_X4_breach [.ref (ad 0), .int x1] v r v' := by
  unfold f_X4_breach at hF
  refine jx_enteri bigT RX4 cX4_breach 3 (some .int) [(0, .ref (ad 0)), (1, .int x1)] hI (ex_X_ok adK adV A) (by decide +kernel) rfl (Nat.le_of_ble_eq_true rfl) rfl rfl ?_
  intro p e s m args below meth c E
  have iX3 : ∀ w ∈ u_ws RX3 TX3 8, w ∈ (Cond.code yX4_breach cX4_breach 3 (some .int) :: bigT) := fun w h => List.mem_cons_of_mem _ (uw_X3 w h)
  have iX4 : ∀ w ∈ u_ws RX4 TX4 11, w ∈ (Cond.code yX4_breach cX4_breach 3 (some .int) :: bigT) := fun w h => List.mem_cons_of_mem _ (uw_X4 w h)
  refine jx_aload_n E dX4_breach_0 0 rfl ?_
  refine jx_iload_n E dX4_breach_1 1 rfl ?_
  obtain ⟨⟨r1, v1⟩, hc1, hF⟩ := jx_bind hF
  try dsimp only at hF
  refine jx_callVi (As := [.int x1]) (st := []) (h := 0) E dX4_breach_2 1 rfl (k_X4_isWindow hI x1 v r1 v1 hc1) (gb_V (List.mem_cons_of_mem _ tw_203) (List.mem_cons_of_mem _ tw_204) (List.mem_cons_of_mem _ tw_205) (List.mem_cons_of_mem _ tw_190) tw_202) rfl rfl rfl dd_X4_isWindow rfl (Nat.le_of_ble_eq_true rfl) s_X0 rfl ⟨by decide, by decide⟩ ⟨Nat.le_refl 0, Nat.le_refl 0⟩ (Nat.le_of_ble_eq_true rfl) ?_
  refine jx_if_ne (tgt := 14) E dX4_breach_5 (by decide) (fun hc2 => ?_) (fun hc2 => ?_)
  · rw [if_neg hc2] at hF
    refine jx_aload_n E dX4_breach_14 0 rfl ?_
    refine jx_getr (C := RX4) (T := TX4) (M := 11) (k := 0) E dX4_breach_15 (Nat.le_of_ble_eq_true rfl) s_X0 rfl iX4 (by decide) rfl (List.mem_cons_of_mem _ tw_195) rfl ?_
    refine jx_getrN (C := RX3) (T := TX3) (M := 8) (k := 1) E dX4_breach_18 (Nat.le_of_ble_eq_true rfl) s_X1 rfl iX3 (by decide) rfl (ex_f3 (jx_ex E)) rfl ?_
    refine jx_iconst (x := 4) E dX4_breach_21 (by decide) ?_
    refine jx_aald (h' := 12) E dX4_breach_22 (Nat.le_of_ble_eq_true rfl) s_X3 (show ¬ ((4 : Int32) < 0 ∨ 6 ≤ Int32.toNatClampNeg 4) by decide) rfl ?_
    refine jx_iload_n E dX4_breach_23 1 rfl ?_
    obtain ⟨hg3, hF⟩ := jx_guard hF
    refine jx_iald (h := 12) (j := (Int32.toNatClampNeg x1)) E dX4_breach_24 (Nat.le_of_ble_eq_true rfl) s_X12 hg3 rfl ?_
    refine jx_if_lt (tgt := 44) E dX4_breach_25 (by decide) (fun hc4 => ?_) (fun hc4 => ?_)
    · rw [if_pos hc4] at hF
      refine jx_aload_n E dX4_breach_44 0 rfl ?_
      refine jx_iconst (x := 4) E dX4_breach_45 (by decide) ?_
      obtain ⟨⟨r5, v5⟩, hc5, hF⟩ := jx_bind hF
      try dsimp only at hF
      refine jx_callVi (As := [.int 4]) (st := []) (h := 0) E dX4_breach_46 1 rfl (k_X4_finding hI 4 v1 r5 v5 hc5) (gb_V (List.mem_cons_of_mem _ tw_192) (List.mem_cons_of_mem _ tw_193) (List.mem_cons_of_mem _ tw_194) (List.mem_cons_of_mem _ tw_190) tw_191) rfl rfl rfl dd_X4_finding rfl (Nat.le_of_ble_eq_true rfl) s_X0 rfl ⟨by decide, by decide⟩ ⟨Nat.le_refl 0, Nat.le_refl 0⟩ (Nat.le_of_ble_eq_true rfl) ?_
      obtain ⟨rfl, rfl⟩ := jx_out hF
      exact jx_iret E dX4_breach_49 rfl
    · rw [if_neg hc4] at hF
      refine jx_aload_n E dX4_breach_28 0 rfl ?_
      refine jx_getr (C := RX4) (T := TX4) (M := 11) (k := 0) E dX4_breach_29 (Nat.le_of_ble_eq_true rfl) s_X0 rfl iX4 (by decide) rfl (List.mem_cons_of_mem _ tw_195) rfl ?_
      refine jx_getiN (C := RX3) (T := TX3) (M := 8) (k := 6) E dX4_breach_32 (Nat.le_of_ble_eq_true rfl) s_X1 rfl iX3 (by decide) rfl (ex_f12 (jx_ex E)) rfl ?_
      refine jx_bipush (x := 120) E dX4_breach_35 (by decide) ?_
      refine jx_iadd E dX4_breach_37 ?_
      refine jx_sipush (x := 999) E dX4_breach_38 (by decide) ?_
      refine jx_icmp_le (tgt := 50) E dX4_breach_41 (by decide) (fun hc6 => ?_) (fun hc6 => ?_)
      · rw [if_pos hc6] at hF
        refine jx_aload_n E dX4_breach_50 0 rfl ?_
        refine jx_iload_n E dX4_breach_51 1 rfl ?_
        obtain ⟨⟨r7, v7⟩, hc7, hF⟩ := jx_bind hF
        try dsimp only at hF
        refine jx_callVi (As := [.int x1]) (st := []) (h := 0) E dX4_breach_52 1 rfl (k_X4_tryUntilBroken hI x1 v1 r7 v7 hc7) (gb_V (List.mem_cons_of_mem _ tw_242) (List.mem_cons_of_mem _ tw_243) (List.mem_cons_of_mem _ tw_244) (List.mem_cons_of_mem _ tw_190) tw_241) rfl rfl rfl dd_X4_tryUntilBroken rfl (Nat.le_of_ble_eq_true rfl) s_X0 rfl ⟨by decide, by decide⟩ ⟨Nat.le_refl 0, Nat.le_refl 0⟩ (Nat.le_of_ble_eq_true rfl) ?_
        refine jx_istore_n (lv' := [(2, .int r7), (0, .ref (ad 0)), (1, .int x1)]) E dX4_breach_55 (by decide) rfl ?_
        refine jx_iload_n E dX4_breach_56 0 rfl ?_
        refine jx_if_ge (tgt := 68) E dX4_breach_57 (by decide) (fun hc8 => ?_) (fun hc8 => ?_)
        · rw [if_pos hc8] at hF
          refine jx_iload_n E dX4_breach_68 0 rfl ?_
          obtain ⟨rfl, rfl⟩ := jx_out hF
          exact jx_iret E dX4_breach_69 rfl
        · rw [if_neg hc8] at hF
          refine jx_aload_n E dX4_breach_60 1 rfl ?_
          refine jx_iconst (x := 3) E dX4_breach_61 (by decide) ?_
          obtain ⟨⟨r9, v9⟩, hc9, hF⟩ := jx_bind hF
          try dsimp only at hF
          refine jx_callVi (As := [.int 3]) (st := []) (h := 0) E dX4_breach_62 1 rfl (k_X4_finding hI 3 v7 r9 v9 hc9) (gb_V (List.mem_cons_of_mem _ tw_192) (List.mem_cons_of_mem _ tw_193) (List.mem_cons_of_mem _ tw_194) (List.mem_cons_of_mem _ tw_190) tw_191) rfl rfl rfl dd_X4_finding rfl (Nat.le_of_ble_eq_true rfl) s_X0 rfl ⟨by decide, by decide⟩ ⟨Nat.le_refl 0, Nat.le_refl 0⟩ (Nat.le_of_ble_eq_true rfl) ?_
          refine jx_goto (tgt := 69) E dX4_breach_65 (by decide) ?_
          obtain ⟨rfl, rfl⟩ := jx_out hF
          exact jx_iret E dX4_breach_69 rfl
      · rw [if_neg hc6] at hF
        refine jx_aload_n E dX4_breach_44 0 rfl ?_
        refine jx_iconst (x := 4) E dX4_breach_45 (by decide) ?_
        obtain ⟨⟨r10, v10⟩, hc10, hF⟩ := jx_bind hF
        try dsimp only at hF
        refine jx_callVi (As := [.int 4]) (st := []) (h := 0) E dX4_breach_46 1 rfl (k_X4_finding hI 4 v1 r10 v10 hc10) (gb_V (List.mem_cons_of_mem _ tw_192) (List.mem_cons_of_mem _ tw_193) (List.mem_cons_of_mem _ tw_194) (List.mem_cons_of_mem _ tw_190) tw_191) rfl rfl rfl dd_X4_finding rfl (Nat.le_of_ble_eq_true rfl) s_X0 rfl ⟨by decide, by decide⟩ ⟨Nat.le_refl 0, Nat.le_refl 0⟩ (Nat.le_of_ble_eq_true rfl) ?_
        obtain ⟨rfl, rfl⟩ := jx_out hF
        exact jx_iret E dX4_breach_49 rfl
  · rw [if_pos hc2] at hF
    refine jx_aload_n E dX4_breach_8 0 rfl ?_
    refine jx_iconst (x := 0) E dX4_breach_9 (by decide) ?_
    obtain ⟨⟨r11, v11⟩, hc11, hF⟩ := jx_bind hF
    try dsimp only at hF
    refine jx_callVi (As := [.int 0]) (st := []) (h := 0) E dX4_breach_10 1 rfl (k_X4_finding hI 0 v1 r11 v11 hc11) (gb_V (List.mem_cons_of_mem _ tw_192) (List.mem_cons_of_mem _ tw_193) (List.mem_cons_of_mem _ tw_194) (List.mem_cons_of_mem _ tw_190) tw_191) rfl rfl rfl dd_X4_finding rfl (Nat.le_of_ble_eq_true rfl) s_X0 rfl ⟨by decide, by decide⟩ ⟨Nat.le_refl 0, Nat.le_refl 0⟩ (Nat.le_of_ble_eq_true rfl) ?_
    obtain ⟨rfl, rfl⟩ := jx_out hF
    exact jx_iret E dX4_breach_13 rfl
def f_X4_isBrokenWithout (x1 : Int32) (x2 : Int32) (v : jx_V) : Option (Int32 × jx_V) := (if (x1 < 0 ∨ 25 ≤ Int32.toNatClampNeg x1) then none else ((f_X3_takeOff 33 x1 v).bind (fun v2 => ((f_X0_isBroken 33 x2 v2).bind (fun (r3, v3) => (if (x1 < 0 ∨ 25 ≤ Int32.toNatClampNeg x1) then none else (if ¬ (r3 = 0 ∨ r3 = 1) then none else some (r3, (jx_up v3 36 (Int32.toNatClampNeg x1) (v 36 (Int32.toNatClampNeg x1)))))))))))
def rm_X4_isBrokenWithout : Room := { frames := 5, cells := 0, slots := 0, locals := 121 }
set_option maxHeartbeats 4000000 in
set_option maxRecDepth 100000 in
theorem k_X4_isBrokenWithout {l : Launch} {D : va_G} {cI cJ : ClassId} {ad : Nat → Nat} {A : Nat → Prop} {adK adV : Nat → Nat} (hI : jx_inj 67 ad A) (x1 : Int32) (x2 : Int32) (v : jx_V) (r : Int32) (v' : jx_V) (hF : f_X4_isBrokenWithout x1 x2 v = some (r, v')) : jx_Ci l D vwCl 67 cI cJ ad shX A (ex_X adK adV A) yX4_isBrokenWithout (Cond.code yX4_isBrokenWithout cX4_isBrokenWithout 5 (some .boolean) :: bigT) rm_X4_isBrokenWithout [.ref (ad 0), .int x1, .int x2] v r v' := by
  unfold f_X4_isBrokenWithout at hF
  refine jx_enteri bigT RX4 cX4_isBrokenWithout 5 (some .boolean) [(0, .ref (ad 0)), (1, .int x1), (2, .int x2)] hI (ex_X_ok adK adV A) (by decide +kernel) rfl (Nat.le_of_ble_eq_true rfl) rfl rfl ?_
  intro p e s m args below meth c E
  have iX3 : ∀ w ∈ u_ws RX3 TX3 8, w ∈ (Cond.code yX4_isBrokenWithout cX4_isBrokenWithout 5 (some .boolean) :: bigT) := fun w h => List.mem_cons_of_mem _ (uw_X3 w h)
  have iX4 : ∀ w ∈ u_ws RX4 TX4 11, w ∈ (Cond.code yX4_isBrokenWithout cX4_isBrokenWithout 5 (some .boolean) :: bigT) := fun w h => List.mem_cons_of_mem _ (uw_X4 w h)
  refine jx_aload_n E dX4_isBrokenWithout_0 0 rfl ?_
  refine jx_getr (C := RX4) (T := TX4) (M := 11) (k := 2) E dX4_isBrokenWithout_1 (Nat.le_of_ble_eq_true rfl) s_X0 rfl iX4 (by decide) rfl (List.mem_cons_of_mem _ tw_234) rfl ?_
  refine jx_getrN (C := RX3) (T := TX3) (M := 8) (k := 0) E dX4_isBrokenWithout_4 (Nat.le_of_ble_eq_true rfl) s_X33 rfl iX3 (by decide) rfl (ex_f0 (jx_ex E)) rfl ?_
  refine jx_iconst (x := 0) E dX4_isBrokenWithout_7 (by decide) ?_
  refine jx_aald (h' := 36) E dX4_isBrokenWithout_8 (Nat.le_of_ble_eq_true rfl) s_X34 (show ¬ ((0 : Int32) < 0 ∨ 4 ≤ Int32.toNatClampNeg 0) by decide) rfl ?_
  refine jx_iload_n E dX4_isBrokenWithout_9 1 rfl ?_
  obtain ⟨hg1, hF⟩ := jx_guard hF
  refine jx_iald (h := 36) (j := (Int32.toNatClampNeg x1)) E dX4_isBrokenWithout_10 (Nat.le_of_ble_eq_true rfl) s_X36 hg1 rfl ?_
  refine jx_istore_n (lv' := [(3, .int (v 36 (Int32.toNatClampNeg x1))), (0, .ref (ad 0)), (1, .int x1), (2, .int x2)]) E dX4_isBrokenWithout_11 (by decide) rfl ?_
  refine jx_aload_n E dX4_isBrokenWithout_12 1 rfl ?_
  refine jx_getr (C := RX4) (T := TX4) (M := 11) (k := 2) E dX4_isBrokenWithout_13 (Nat.le_of_ble_eq_true rfl) s_X0 rfl iX4 (by decide) rfl (List.mem_cons_of_mem _ tw_234) rfl ?_
  refine jx_iload_n E dX4_isBrokenWithout_16 2 rfl ?_
  obtain ⟨v2, hc2, hF⟩ := jx_bind hF
  try dsimp only at hF
  refine jx_callNv (As := [.int x1]) (st := []) (h := 33) E dX4_isBrokenWithout_17 1 rfl (k_X3_takeOff hI 33 jx_T33 x1 v v2 hc2) (gb_N tw_145) rfl rfl rfl (ex_m7 (jx_ex E)) (List.mem_cons_of_mem _ tw_33) (List.mem_cons_of_mem _ tw_146) (List.mem_cons_of_mem _ tw_147) dd_X3_takeOff.2 rfl (Nat.le_of_ble_eq_true rfl) s_X33 rfl ⟨by decide, by decide⟩ ⟨Nat.le_refl 0, Nat.le_refl 0⟩ (Nat.le_of_ble_eq_true rfl) ?_
  refine jx_aload_n E dX4_isBrokenWithout_20 1 rfl ?_
  refine jx_getr (C := RX4) (T := TX4) (M := 11) (k := 3) E dX4_isBrokenWithout_21 (Nat.le_of_ble_eq_true rfl) s_X0 rfl iX4 (by decide) rfl (List.mem_cons_of_mem _ tw_209) rfl ?_
  refine jx_aload_n E dX4_isBrokenWithout_24 1 rfl ?_
  refine jx_getr (C := RX4) (T := TX4) (M := 11) (k := 2) E dX4_isBrokenWithout_25 (Nat.le_of_ble_eq_true rfl) s_X0 rfl iX4 (by decide) rfl (List.mem_cons_of_mem _ tw_234) rfl ?_
  refine jx_iload_n E dX4_isBrokenWithout_28 3 rfl ?_
  obtain ⟨⟨r3, v3⟩, hc3, hF⟩ := jx_bind hF
  try dsimp only at hF
  refine jx_callNi (As := [.ref (ad 33), .int x2]) (st := []) (h := 49) E dX4_isBrokenWithout_29 2 rfl (k_X0_isBroken hI 33 jx_T33 x2 v2 r3 v3 hc3) (gb_N tw_85) rfl rfl rfl (ex_m12 (jx_ex E)) (List.mem_cons_of_mem _ tw_49) (List.mem_cons_of_mem _ tw_87) (List.mem_cons_of_mem _ tw_88) dd_X0_isBroken.2 rfl (Nat.le_of_ble_eq_true rfl) s_X49 rfl ⟨by decide, by decide⟩ ⟨Nat.le_refl 0, Nat.le_refl 0⟩ (Nat.le_of_ble_eq_true rfl) ?_
  refine jx_istore (lv' := [(4, .int r3), (3, .int (v 36 (Int32.toNatClampNeg x1))), (0, .ref (ad 0)), (1, .int x1), (2, .int x2)]) E dX4_isBrokenWithout_32 (by decide) rfl ?_
  refine jx_aload_n E dX4_isBrokenWithout_34 2 rfl ?_
  refine jx_getr (C := RX4) (T := TX4) (M := 11) (k := 2) E dX4_isBrokenWithout_35 (Nat.le_of_ble_eq_true rfl) s_X0 rfl iX4 (by decide) rfl (List.mem_cons_of_mem _ tw_234) rfl ?_
  refine jx_getrN (C := RX3) (T := TX3) (M := 8) (k := 0) E dX4_isBrokenWithout_38 (Nat.le_of_ble_eq_true rfl) s_X33 rfl iX3 (by decide) rfl (ex_f0 (jx_ex E)) rfl ?_
  refine jx_iconst (x := 0) E dX4_isBrokenWithout_41 (by decide) ?_
  refine jx_aald (h' := 36) E dX4_isBrokenWithout_42 (Nat.le_of_ble_eq_true rfl) s_X34 (show ¬ ((0 : Int32) < 0 ∨ 4 ≤ Int32.toNatClampNeg 0) by decide) rfl ?_
  refine jx_iload_n E dX4_isBrokenWithout_43 3 rfl ?_
  refine jx_iload_n E dX4_isBrokenWithout_44 1 rfl ?_
  obtain ⟨hg4, hF⟩ := jx_guard hF
  refine jx_iast (h := 36) (j := (Int32.toNatClampNeg x1)) E dX4_isBrokenWithout_45 (Nat.le_of_ble_eq_true rfl) s_X36 hg4 rfl ?_
  refine jx_iload E dX4_isBrokenWithout_46 0 rfl ?_
  obtain ⟨hg5, hF⟩ := jx_guard hF
  obtain ⟨rfl, rfl⟩ := jx_out hF
  exact jx_zret E dX4_isBrokenWithout_48 rfl (Decidable.not_not.mp hg5)
def f_X4_blame_L  : Nat → Int32 → Int32 → jx_V → Option (Int32 × jx_V)
  | 0, _, _, _ => none
  | n + 1, x1, x2, v => (if 25 ≤ x2 then ((f_X4_finding 3 v).bind (fun (r13, v13) => (some (r13, v13)))) else ((f_X3_isTaken 33 x2 v).bind (fun (r14, v14) => (if r14 = 0 then (f_X4_blame_L n x1 (x2 + 1) v14) else ((f_X4_isBrokenWithout x2 x1 v14).bind (fun (r16, v16) => (if r16 = 0 then (some (x2, v16)) else (f_X4_blame_L n x1 (x2 + 1) v16))))))))
def f_X4_blame (x1 : Int32) (v : jx_V) : Option (Int32 × jx_V) := ((f_X4_isWindow x1 v).bind (fun (r1, v1) => (if r1 = 0 then ((f_X4_finding 0 v1).bind (fun (r11, v11) => (some (r11, v11)))) else (if (x1 < 0 ∨ 10 ≤ Int32.toNatClampNeg x1) then none else (if (v1 12 (Int32.toNatClampNeg x1)) < 0 then ((f_X4_finding 4 v1).bind (fun (r5, v5) => (some (r5, v5)))) else (if ((v1 1 6) + 120) ≤ 999 then ((f_X4_tryUntilBroken x1 v1).bind (fun (r7, v7) => (if 0 ≤ r7 then (f_X4_blame_L 100000 x1 0 v7) else ((f_X4_finding 3 v7).bind (fun (r9, v9) => (some (r9, v9))))))) else ((f_X4_finding 4 v1).bind (fun (r10, v10) => (some (r10, v10))))))))))
def rm_X4_blame : Room := { frames := 6, cells := 0, slots := 0, locals := 145 }
set_option maxHeartbeats 4000000 in
set_option maxRecDepth 100000 in
theorem k_X4_blame {l : Launch} {D : va_G} {cI cJ : ClassId} {ad : Nat → Nat} {A : Nat → Prop} {adK adV : Nat → Nat} (hI : jx_inj 67 ad A) (x1 : Int32) (v : jx_V) (r : Int32) (v' : jx_V) (hF : f_X4_blame x1 v = some (r, v')) : jx_Ci l D vwCl 67 cI cJ ad shX A (ex_X adK adV A) yX4_blame (Cond.code yX4_blame cX4_blame 3 (some .int) :: bigT) rm_X4_blame [.ref (ad 0), .int x1] v r v' := by
  unfold f_X4_blame at hF
  refine jx_enteri bigT RX4 cX4_blame 3 (some .int) [(0, .ref (ad 0)), (1, .int x1)] hI (ex_X_ok adK adV A) (by decide +kernel) rfl (Nat.le_of_ble_eq_true rfl) rfl rfl ?_
  intro p e s m args below meth c E
  have iX3 : ∀ w ∈ u_ws RX3 TX3 8, w ∈ (Cond.code yX4_blame cX4_blame 3 (some .int) :: bigT) := fun w h => List.mem_cons_of_mem _ (uw_X3 w h)
  have iX4 : ∀ w ∈ u_ws RX4 TX4 11, w ∈ (Cond.code yX4_blame cX4_blame 3 (some .int) :: bigT) := fun w h => List.mem_cons_of_mem _ (uw_X4 w h)
  have key : ∀ n : Nat, (∀ (x1 : Int32) (x2 : Int32) (v : jx_V), f_X4_blame_L  n  x1 x2 v = some (r, v') → jx_J p l e rm_X4_blame s m args below meth c D vwCl 67 cI cJ ad shX A 0 0 3 (MQ below (va_Qi (fun (r1 : Int32) (_ : Unit) => r1 = r) (fun _ t => va_P D vwCl (jx_ws 67 cI cJ ad shX v') t.heap) A) args s 0 0 A) v 66 [(0, .ref (ad 0)), (1, .int x1), (2, .int x2)] []) := by
    intro n
    induction n with
    | zero =>
      exact (fun _ _ _ h => by cases h)
    | succ n ih =>
      intro x1 x2 v hF
      rw [f_X4_blame_L] at hF
      refine jx_iload_n E dX4_blame_66 2 rfl ?_
      refine jx_bipush (x := 25) E dX4_blame_67 (by decide) ?_
      refine jx_icmp_ge (tgt := 100) E dX4_blame_69 (by decide) (fun hc12 => ?_) (fun hc12 => ?_)
      · rw [if_pos hc12] at hF
        refine jx_aload_n E dX4_blame_100 0 rfl ?_
        refine jx_iconst (x := 3) E dX4_blame_101 (by decide) ?_
        obtain ⟨⟨r13, v13⟩, hc13, hF⟩ := jx_bind hF
        try dsimp only at hF
        refine jx_callVi (As := [.int 3]) (st := []) (h := 0) E dX4_blame_102 1 rfl (k_X4_finding hI 3 v r13 v13 hc13) (gb_V (List.mem_cons_of_mem _ tw_192) (List.mem_cons_of_mem _ tw_193) (List.mem_cons_of_mem _ tw_194) (List.mem_cons_of_mem _ tw_190) tw_191) rfl rfl rfl dd_X4_finding rfl (Nat.le_of_ble_eq_true rfl) s_X0 rfl ⟨by decide, by decide⟩ ⟨Nat.le_refl 0, Nat.le_refl 0⟩ (Nat.le_of_ble_eq_true rfl) ?_
        obtain ⟨rfl, rfl⟩ := jx_out hF
        exact jx_iret E dX4_blame_105 rfl
      · rw [if_neg hc12] at hF
        refine jx_aload_n E dX4_blame_72 0 rfl ?_
        refine jx_getr (C := RX4) (T := TX4) (M := 11) (k := 2) E dX4_blame_73 (Nat.le_of_ble_eq_true rfl) s_X0 rfl iX4 (by decide) rfl (List.mem_cons_of_mem _ tw_234) rfl ?_
        refine jx_iload_n E dX4_blame_76 2 rfl ?_
        obtain ⟨⟨r14, v14⟩, hc14, hF⟩ := jx_bind hF
        try dsimp only at hF
        refine jx_callNi (As := [.int x2]) (st := []) (h := 33) E dX4_blame_77 1 rfl (k_X3_isTaken hI 33 jx_T33 x2 v r14 v14 hc14) (gb_N tw_51) rfl rfl rfl (ex_m4 (jx_ex E)) (List.mem_cons_of_mem _ tw_33) (List.mem_cons_of_mem _ tw_52) (List.mem_cons_of_mem _ tw_53) dd_X3_isTaken.2 rfl (Nat.le_of_ble_eq_true rfl) s_X33 rfl ⟨by decide, by decide⟩ ⟨Nat.le_refl 0, Nat.le_refl 0⟩ (Nat.le_of_ble_eq_true rfl) ?_
        refine jx_if_eq (tgt := 94) E dX4_blame_80 (by decide) (fun hc15 => ?_) (fun hc15 => ?_)
        · rw [if_pos hc15] at hF
          refine jx_iinc (y := (x2 + 1)) (lv' := [(2, .int (x2 + 1)), (0, .ref (ad 0)), (1, .int x1)]) E dX4_blame_94 2 rfl rfl (by decide) rfl ?_
          refine jx_goto (tgt := 66) E dX4_blame_97 (by decide) ?_
          refine jx_sub [1, 2, 0] rfl ?_
          exact ih x1 (x2 + 1) v14 hF
        · rw [if_neg hc15] at hF
          refine jx_aload_n E dX4_blame_83 0 rfl ?_
          refine jx_iload_n E dX4_blame_84 2 rfl ?_
          refine jx_iload_n E dX4_blame_85 1 rfl ?_
          obtain ⟨⟨r16, v16⟩, hc16, hF⟩ := jx_bind hF
          try dsimp only at hF
          refine jx_callVi (As := [.int x2, .int x1]) (st := []) (h := 0) E dX4_blame_86 2 rfl (k_X4_isBrokenWithout hI x2 x1 v14 r16 v16 hc16) (gb_V (List.mem_cons_of_mem _ tw_246) (List.mem_cons_of_mem _ tw_247) (List.mem_cons_of_mem _ tw_248) (List.mem_cons_of_mem _ tw_190) tw_245) rfl rfl rfl dd_X4_isBrokenWithout rfl (Nat.le_of_ble_eq_true rfl) s_X0 rfl ⟨by decide, by decide⟩ ⟨Nat.le_refl 0, Nat.le_refl 0⟩ (Nat.le_of_ble_eq_true rfl) ?_
          refine jx_if_ne (tgt := 94) E dX4_blame_89 (by decide) (fun hc17 => ?_) (fun hc17 => ?_)
          · rw [if_neg hc17] at hF
            refine jx_iinc (y := (x2 + 1)) (lv' := [(2, .int (x2 + 1)), (0, .ref (ad 0)), (1, .int x1)]) E dX4_blame_94 2 rfl rfl (by decide) rfl ?_
            refine jx_goto (tgt := 66) E dX4_blame_97 (by decide) ?_
            refine jx_sub [1, 2, 0] rfl ?_
            exact ih x1 (x2 + 1) v16 hF
          · rw [if_pos hc17] at hF
            refine jx_iload_n E dX4_blame_92 2 rfl ?_
            obtain ⟨rfl, rfl⟩ := jx_out hF
            exact jx_iret E dX4_blame_93 rfl
  refine jx_aload_n E dX4_blame_0 0 rfl ?_
  refine jx_iload_n E dX4_blame_1 1 rfl ?_
  obtain ⟨⟨r1, v1⟩, hc1, hF⟩ := jx_bind hF
  try dsimp only at hF
  refine jx_callVi (As := [.int x1]) (st := []) (h := 0) E dX4_blame_2 1 rfl (k_X4_isWindow hI x1 v r1 v1 hc1) (gb_V (List.mem_cons_of_mem _ tw_203) (List.mem_cons_of_mem _ tw_204) (List.mem_cons_of_mem _ tw_205) (List.mem_cons_of_mem _ tw_190) tw_202) rfl rfl rfl dd_X4_isWindow rfl (Nat.le_of_ble_eq_true rfl) s_X0 rfl ⟨by decide, by decide⟩ ⟨Nat.le_refl 0, Nat.le_refl 0⟩ (Nat.le_of_ble_eq_true rfl) ?_
  refine jx_if_ne (tgt := 14) E dX4_blame_5 (by decide) (fun hc2 => ?_) (fun hc2 => ?_)
  · rw [if_neg hc2] at hF
    refine jx_aload_n E dX4_blame_14 0 rfl ?_
    refine jx_getr (C := RX4) (T := TX4) (M := 11) (k := 0) E dX4_blame_15 (Nat.le_of_ble_eq_true rfl) s_X0 rfl iX4 (by decide) rfl (List.mem_cons_of_mem _ tw_195) rfl ?_
    refine jx_getrN (C := RX3) (T := TX3) (M := 8) (k := 1) E dX4_blame_18 (Nat.le_of_ble_eq_true rfl) s_X1 rfl iX3 (by decide) rfl (ex_f3 (jx_ex E)) rfl ?_
    refine jx_iconst (x := 4) E dX4_blame_21 (by decide) ?_
    refine jx_aald (h' := 12) E dX4_blame_22 (Nat.le_of_ble_eq_true rfl) s_X3 (show ¬ ((4 : Int32) < 0 ∨ 6 ≤ Int32.toNatClampNeg 4) by decide) rfl ?_
    refine jx_iload_n E dX4_blame_23 1 rfl ?_
    obtain ⟨hg3, hF⟩ := jx_guard hF
    refine jx_iald (h := 12) (j := (Int32.toNatClampNeg x1)) E dX4_blame_24 (Nat.le_of_ble_eq_true rfl) s_X12 hg3 rfl ?_
    refine jx_if_lt (tgt := 44) E dX4_blame_25 (by decide) (fun hc4 => ?_) (fun hc4 => ?_)
    · rw [if_pos hc4] at hF
      refine jx_aload_n E dX4_blame_44 0 rfl ?_
      refine jx_iconst (x := 4) E dX4_blame_45 (by decide) ?_
      obtain ⟨⟨r5, v5⟩, hc5, hF⟩ := jx_bind hF
      try dsimp only at hF
      refine jx_callVi (As := [.int 4]) (st := []) (h := 0) E dX4_blame_46 1 rfl (k_X4_finding hI 4 v1 r5 v5 hc5) (gb_V (List.mem_cons_of_mem _ tw_192) (List.mem_cons_of_mem _ tw_193) (List.mem_cons_of_mem _ tw_194) (List.mem_cons_of_mem _ tw_190) tw_191) rfl rfl rfl dd_X4_finding rfl (Nat.le_of_ble_eq_true rfl) s_X0 rfl ⟨by decide, by decide⟩ ⟨Nat.le_refl 0, Nat.le_refl 0⟩ (Nat.le_of_ble_eq_true rfl) ?_
      obtain ⟨rfl, rfl⟩ := jx_out hF
      exact jx_iret E dX4_blame_49 rfl
    · rw [if_neg hc4] at hF
      refine jx_aload_n E dX4_blame_28 0 rfl ?_
      refine jx_getr (C := RX4) (T := TX4) (M := 11) (k := 0) E dX4_blame_29 (Nat.le_of_ble_eq_true rfl) s_X0 rfl iX4 (by decide) rfl (List.mem_cons_of_mem _ tw_195) rfl ?_
      refine jx_getiN (C := RX3) (T := TX3) (M := 8) (k := 6) E dX4_blame_32 (Nat.le_of_ble_eq_true rfl) s_X1 rfl iX3 (by decide) rfl (ex_f12 (jx_ex E)) rfl ?_
      refine jx_bipush (x := 120) E dX4_blame_35 (by decide) ?_
      refine jx_iadd E dX4_blame_37 ?_
      refine jx_sipush (x := 999) E dX4_blame_38 (by decide) ?_
      refine jx_icmp_le (tgt := 50) E dX4_blame_41 (by decide) (fun hc6 => ?_) (fun hc6 => ?_)
      · rw [if_pos hc6] at hF
        refine jx_aload_n E dX4_blame_50 0 rfl ?_
        refine jx_iload_n E dX4_blame_51 1 rfl ?_
        obtain ⟨⟨r7, v7⟩, hc7, hF⟩ := jx_bind hF
        try dsimp only at hF
        refine jx_callVi (As := [.int x1]) (st := []) (h := 0) E dX4_blame_52 1 rfl (k_X4_tryUntilBroken hI x1 v1 r7 v7 hc7) (gb_V (List.mem_cons_of_mem _ tw_242) (List.mem_cons_of_mem _ tw_243) (List.mem_cons_of_mem _ tw_244) (List.mem_cons_of_mem _ tw_190) tw_241) rfl rfl rfl dd_X4_tryUntilBroken rfl (Nat.le_of_ble_eq_true rfl) s_X0 rfl ⟨by decide, by decide⟩ ⟨Nat.le_refl 0, Nat.le_refl 0⟩ (Nat.le_of_ble_eq_true rfl) ?_
        refine jx_if_ge (tgt := 64) E dX4_blame_55 (by decide) (fun hc8 => ?_) (fun hc8 => ?_)
        · rw [if_pos hc8] at hF
          refine jx_iconst (x := 0) E dX4_blame_64 (by decide) ?_
          refine jx_istore_n (lv' := [(2, .int 0), (0, .ref (ad 0)), (1, .int x1)]) E dX4_blame_65 (by decide) rfl ?_
          refine jx_sub [1, 2, 0] rfl ?_
          exact (key 100000) x1 0 v7 hF
        · rw [if_neg hc8] at hF
          refine jx_aload_n E dX4_blame_58 0 rfl ?_
          refine jx_iconst (x := 3) E dX4_blame_59 (by decide) ?_
          obtain ⟨⟨r9, v9⟩, hc9, hF⟩ := jx_bind hF
          try dsimp only at hF
          refine jx_callVi (As := [.int 3]) (st := []) (h := 0) E dX4_blame_60 1 rfl (k_X4_finding hI 3 v7 r9 v9 hc9) (gb_V (List.mem_cons_of_mem _ tw_192) (List.mem_cons_of_mem _ tw_193) (List.mem_cons_of_mem _ tw_194) (List.mem_cons_of_mem _ tw_190) tw_191) rfl rfl rfl dd_X4_finding rfl (Nat.le_of_ble_eq_true rfl) s_X0 rfl ⟨by decide, by decide⟩ ⟨Nat.le_refl 0, Nat.le_refl 0⟩ (Nat.le_of_ble_eq_true rfl) ?_
          obtain ⟨rfl, rfl⟩ := jx_out hF
          exact jx_iret E dX4_blame_63 rfl
      · rw [if_neg hc6] at hF
        refine jx_aload_n E dX4_blame_44 0 rfl ?_
        refine jx_iconst (x := 4) E dX4_blame_45 (by decide) ?_
        obtain ⟨⟨r10, v10⟩, hc10, hF⟩ := jx_bind hF
        try dsimp only at hF
        refine jx_callVi (As := [.int 4]) (st := []) (h := 0) E dX4_blame_46 1 rfl (k_X4_finding hI 4 v1 r10 v10 hc10) (gb_V (List.mem_cons_of_mem _ tw_192) (List.mem_cons_of_mem _ tw_193) (List.mem_cons_of_mem _ tw_194) (List.mem_cons_of_mem _ tw_190) tw_191) rfl rfl rfl dd_X4_finding rfl (Nat.le_of_ble_eq_true rfl) s_X0 rfl ⟨by decide, by decide⟩ ⟨Nat.le_refl 0, Nat.le_refl 0⟩ (Nat.le_of_ble_eq_true rfl) ?_
        obtain ⟨rfl, rfl⟩ := jx_out hF
        exact jx_iret E dX4_blame_49 rfl
  · rw [if_pos hc2] at hF
    refine jx_aload_n E dX4_blame_8 0 rfl ?_
    refine jx_iconst (x := 0) E dX4_blame_9 (by decide) ?_
    obtain ⟨⟨r11, v11⟩, hc11, hF⟩ := jx_bind hF
    try dsimp only at hF
    refine jx_callVi (As := [.int 0]) (st := []) (h := 0) E dX4_blame_10 1 rfl (k_X4_finding hI 0 v1 r11 v11 hc11) (gb_V (List.mem_cons_of_mem _ tw_192) (List.mem_cons_of_mem _ tw_193) (List.mem_cons_of_mem _ tw_194) (List.mem_cons_of_mem _ tw_190) tw_191) rfl rfl rfl dd_X4_finding rfl (Nat.le_of_ble_eq_true rfl) s_X0 rfl ⟨by decide, by decide⟩ ⟨Nat.le_refl 0, Nat.le_refl 0⟩ (Nat.le_of_ble_eq_true rfl) ?_
    obtain ⟨rfl, rfl⟩ := jx_out hF
    exact jx_iret E dX4_blame_13 rfl
def f_X4_bestFor_L  : Nat → Int32 → Int32 → Int32 → Int32 → Int32 → Int32 → Int32 → Int32 → jx_V → Option (Int32 × jx_V)
  | 0, _, _, _, _, _, _, _, _, _ => none
  | n + 1, x1, x2, x3, x4, x5, x6, x7, x8, v => (if x5 ≤ x8 then (if (x2 < 0 ∨ 4 ≤ (x2).toNatClampNeg) then none else (if (x1 < 0 ∨ 25 ≤ Int32.toNatClampNeg x1) then none else (some (x6, (jx_up v (1 + 3 + (x2).toNatClampNeg) (Int32.toNatClampNeg x1) x4))))) else (if (x2 < 0 ∨ 4 ≤ (x2).toNatClampNeg) then none else (if (x1 < 0 ∨ 25 ≤ Int32.toNatClampNeg x1) then none else ((f_X0_gainsInto 1 65 (jx_up v (1 + 3 + (x2).toNatClampNeg) (Int32.toNatClampNeg x1) x8)).bind (fun (r10, v10) => (if x8 = 0 then (if (x3 < 0 ∨ 4 ≤ Int32.toNatClampNeg x3) then none else (f_X4_bestFor_L n x1 x2 x3 x4 x5 x8 (v10 65 (Int32.toNatClampNeg x3)) (x8 + 1) v10)) else (if (x3 < 0 ∨ 4 ≤ Int32.toNatClampNeg x3) then none else (if (v10 65 (Int32.toNatClampNeg x3)) ≤ x7 then (f_X4_bestFor_L n x1 x2 x3 x4 x5 x6 x7 (x8 + 1) v10) else (if (x3 < 0 ∨ 4 ≤ Int32.toNatClampNeg x3) then none else (f_X4_bestFor_L n x1 x2 x3 x4 x5 x8 (v10 65 (Int32.toNatClampNeg x3)) (x8 + 1) v10))))))))))
def f_X4_bestFor (x1 : Int32) (x2 : Int32) (v : jx_V) : Option (Int32 × jx_V) := (if (x1 < 0 ∨ 25 ≤ Int32.toNatClampNeg x1) then none else (if (x2 < 0 ∨ 4 ≤ (x2).toNatClampNeg) then none else (if (x1 < 0 ∨ 25 ≤ Int32.toNatClampNeg x1) then none else ((f_X4_thingLimit x2 v).bind (fun (r4, v4) => (f_X4_bestFor_L 100000 x1 x2 (v 5 (Int32.toNatClampNeg x1)) (v (1 + 3 + (x2).toNatClampNeg) (Int32.toNatClampNeg x1)) r4 0 0 0 v4))))))
def rm_X4_bestFor : Room := { frames := 5, cells := 0, slots := 0, locals := 125 }
set_option maxHeartbeats 4000000 in
set_option maxRecDepth 100000 in
theorem k_X4_bestFor {l : Launch} {D : va_G} {cI cJ : ClassId} {ad : Nat → Nat} {A : Nat → Prop} {adK adV : Nat → Nat} (hI : jx_inj 67 ad A) (x1 : Int32) (x2 : Int32) (v : jx_V) (r : Int32) (v' : jx_V) (hF : f_X4_bestFor x1 x2 v = some (r, v')) : jx_Ci l D vwCl 67 cI cJ ad shX A (ex_X adK adV A) yX4_bestFor (Cond.code yX4_bestFor cX4_bestFor 9 (some .int) :: bigT) rm_X4_bestFor [.ref (ad 0), .int x1, .int x2] v r v' := by
  unfold f_X4_bestFor at hF
  refine jx_enteri bigT RX4 cX4_bestFor 9 (some .int) [(0, .ref (ad 0)), (1, .int x1), (2, .int x2)] hI (ex_X_ok adK adV A) (by decide +kernel) rfl (Nat.le_of_ble_eq_true rfl) rfl rfl ?_
  intro p e s m args below meth c E
  have iX3 : ∀ w ∈ u_ws RX3 TX3 8, w ∈ (Cond.code yX4_bestFor cX4_bestFor 9 (some .int) :: bigT) := fun w h => List.mem_cons_of_mem _ (uw_X3 w h)
  have iX4 : ∀ w ∈ u_ws RX4 TX4 11, w ∈ (Cond.code yX4_bestFor cX4_bestFor 9 (some .int) :: bigT) := fun w h => List.mem_cons_of_mem _ (uw_X4 w h)
  have key : ∀ n : Nat, (∀ (x1 : Int32) (x2 : Int32) (x3 : Int32) (x4 : Int32) (x5 : Int32) (x6 : Int32) (x7 : Int32) (x8 : Int32) (v : jx_V), f_X4_bestFor_L  n  x1 x2 x3 x4 x5 x6 x7 x8 v = some (r, v') → jx_J p l e rm_X4_bestFor s m args below meth c D vwCl 67 cI cJ ad shX A 0 0 9 (MQ below (va_Qi (fun (r1 : Int32) (_ : Unit) => r1 = r) (fun _ t => va_P D vwCl (jx_ws 67 cI cJ ad shX v') t.heap) A) args s 0 0 A) v 40 [(0, .ref (ad 0)), (1, .int x1), (2, .int x2), (3, .int x3), (4, .int x4), (5, .int x5), (6, .int x6), (7, .int x7), (8, .int x8)] []) := by
    intro n
    induction n with
    | zero =>
      exact (fun _ _ _ _ _ _ _ _ _ h => by cases h)
    | succ n ih =>
      intro x1 x2 x3 x4 x5 x6 x7 x8 v hF
      rw [f_X4_bestFor_L] at hF
      refine jx_iload E dX4_bestFor_40 8 rfl ?_
      refine jx_iload E dX4_bestFor_42 5 rfl ?_
      refine jx_icmp_ge (tgt := 110) E dX4_bestFor_44 (by decide) (fun hc5 => ?_) (fun hc5 => ?_)
      · rw [if_pos hc5] at hF
        refine jx_aload_n E dX4_bestFor_110 0 rfl ?_
        refine jx_getr (C := RX4) (T := TX4) (M := 11) (k := 0) E dX4_bestFor_111 (Nat.le_of_ble_eq_true rfl) s_X0 rfl iX4 (by decide) rfl (List.mem_cons_of_mem _ tw_195) rfl ?_
        refine jx_getrN (C := RX3) (T := TX3) (M := 8) (k := 0) E dX4_bestFor_114 (Nat.le_of_ble_eq_true rfl) s_X1 rfl iX3 (by decide) rfl (ex_f0 (jx_ex E)) rfl ?_
        refine jx_iload_n E dX4_bestFor_117 2 rfl ?_
        obtain ⟨hg6, hF⟩ := jx_guard hF
        refine jx_aald (h' := (1 + 3 + (x2).toNatClampNeg)) E dX4_bestFor_118 (Nat.le_of_ble_eq_true rfl) s_X2 hg6 (l_Tr (t := 1) (l_lt hg6)) ?_
        refine jx_iload_n E dX4_bestFor_119 1 rfl ?_
        refine jx_iload E dX4_bestFor_120 4 rfl ?_
        obtain ⟨hg7, hF⟩ := jx_guard hF
        refine jx_iast (h := (1 + 3 + (x2).toNatClampNeg)) (j := (Int32.toNatClampNeg x1)) E dX4_bestFor_122 (n_Tr jx_T1 (l_lt hg6)) (s_Tr jx_T1 (l_lt hg6)) hg7 rfl ?_
        refine jx_iload E dX4_bestFor_123 6 rfl ?_
        obtain ⟨rfl, rfl⟩ := jx_out hF
        exact jx_iret E dX4_bestFor_125 rfl
      · rw [if_neg hc5] at hF
        refine jx_aload_n E dX4_bestFor_47 0 rfl ?_
        refine jx_getr (C := RX4) (T := TX4) (M := 11) (k := 0) E dX4_bestFor_48 (Nat.le_of_ble_eq_true rfl) s_X0 rfl iX4 (by decide) rfl (List.mem_cons_of_mem _ tw_195) rfl ?_
        refine jx_getrN (C := RX3) (T := TX3) (M := 8) (k := 0) E dX4_bestFor_51 (Nat.le_of_ble_eq_true rfl) s_X1 rfl iX3 (by decide) rfl (ex_f0 (jx_ex E)) rfl ?_
        refine jx_iload_n E dX4_bestFor_54 2 rfl ?_
        obtain ⟨hg8, hF⟩ := jx_guard hF
        refine jx_aald (h' := (1 + 3 + (x2).toNatClampNeg)) E dX4_bestFor_55 (Nat.le_of_ble_eq_true rfl) s_X2 hg8 (l_Tr (t := 1) (l_lt hg8)) ?_
        refine jx_iload_n E dX4_bestFor_56 1 rfl ?_
        refine jx_iload E dX4_bestFor_57 8 rfl ?_
        obtain ⟨hg9, hF⟩ := jx_guard hF
        refine jx_iast (h := (1 + 3 + (x2).toNatClampNeg)) (j := (Int32.toNatClampNeg x1)) E dX4_bestFor_59 (n_Tr jx_T1 (l_lt hg8)) (s_Tr jx_T1 (l_lt hg8)) hg9 rfl ?_
        refine jx_aload_n E dX4_bestFor_60 0 rfl ?_
        refine jx_getr (C := RX4) (T := TX4) (M := 11) (k := 3) E dX4_bestFor_61 (Nat.le_of_ble_eq_true rfl) s_X0 rfl iX4 (by decide) rfl (List.mem_cons_of_mem _ tw_209) rfl ?_
        refine jx_aload_n E dX4_bestFor_64 0 rfl ?_
        refine jx_getr (C := RX4) (T := TX4) (M := 11) (k := 0) E dX4_bestFor_65 (Nat.le_of_ble_eq_true rfl) s_X0 rfl iX4 (by decide) rfl (List.mem_cons_of_mem _ tw_195) rfl ?_
        refine jx_aload_n E dX4_bestFor_68 0 rfl ?_
        refine jx_getr (C := RX4) (T := TX4) (M := 11) (k := 8) E dX4_bestFor_69 (Nat.le_of_ble_eq_true rfl) s_X0 rfl iX4 (by decide) rfl (List.mem_cons_of_mem _ tw_217) rfl ?_
        obtain ⟨⟨r10, v10⟩, hc10, hF⟩ := jx_bind hF
        try dsimp only at hF
        refine jx_callNi (As := [.ref (ad 1), .ref (ad 65)]) (st := []) (h := 49) E dX4_bestFor_72 2 rfl (k_X0_gainsInto hI 1 jx_T1 65 s_X65 (Nat.le_of_ble_eq_true rfl) (jx_up v (1 + 3 + (x2).toNatClampNeg) (Int32.toNatClampNeg x1) x8) r10 v10 hc10) (gb_N tw_218) rfl rfl rfl (ex_m22 (jx_ex E)) (List.mem_cons_of_mem _ tw_49) (List.mem_cons_of_mem _ tw_219) (List.mem_cons_of_mem _ tw_220) dd_X0_gainsInto.2 rfl (Nat.le_of_ble_eq_true rfl) s_X49 rfl ⟨by decide, by decide⟩ ⟨Nat.le_refl 0, Nat.le_refl 0⟩ (Nat.le_of_ble_eq_true rfl) ?_
        refine jx_pop E dX4_bestFor_75 rfl ?_
        refine jx_iload E dX4_bestFor_76 8 rfl ?_
        refine jx_if_eq (tgt := 92) E dX4_bestFor_78 (by decide) (fun hc11 => ?_) (fun hc11 => ?_)
        · rw [if_pos hc11] at hF
          refine jx_aload_n E dX4_bestFor_92 0 rfl ?_
          refine jx_getr (C := RX4) (T := TX4) (M := 11) (k := 8) E dX4_bestFor_93 (Nat.le_of_ble_eq_true rfl) s_X0 rfl iX4 (by decide) rfl (List.mem_cons_of_mem _ tw_217) rfl ?_
          refine jx_iload_n E dX4_bestFor_96 3 rfl ?_
          obtain ⟨hg12, hF⟩ := jx_guard hF
          refine jx_iald (h := 65) (j := (Int32.toNatClampNeg x3)) E dX4_bestFor_97 (Nat.le_of_ble_eq_true rfl) s_X65 hg12 rfl ?_
          refine jx_istore (lv' := [(7, .int (v10 65 (Int32.toNatClampNeg x3))), (0, .ref (ad 0)), (1, .int x1), (2, .int x2), (3, .int x3), (4, .int x4), (5, .int x5), (6, .int x6), (8, .int x8)]) E dX4_bestFor_98 (by decide) rfl ?_
          refine jx_iload E dX4_bestFor_100 8 rfl ?_
          refine jx_istore (lv' := [(6, .int x8), (7, .int (v10 65 (Int32.toNatClampNeg x3))), (0, .ref (ad 0)), (1, .int x1), (2, .int x2), (3, .int x3), (4, .int x4), (5, .int x5), (8, .int x8)]) E dX4_bestFor_102 (by decide) rfl ?_
          refine jx_iinc (y := (x8 + 1)) (lv' := [(8, .int (x8 + 1)), (6, .int x8), (7, .int (v10 65 (Int32.toNatClampNeg x3))), (0, .ref (ad 0)), (1, .int x1), (2, .int x2), (3, .int x3), (4, .int x4), (5, .int x5)]) E dX4_bestFor_104 8 rfl rfl (by decide) rfl ?_
          refine jx_goto (tgt := 40) E dX4_bestFor_107 (by decide) ?_
          refine jx_sub [3, 4, 5, 6, 7, 8, 1, 2, 0] rfl ?_
          exact ih x1 x2 x3 x4 x5 x8 (v10 65 (Int32.toNatClampNeg x3)) (x8 + 1) v10 hF
        · rw [if_neg hc11] at hF
          refine jx_aload_n E dX4_bestFor_81 0 rfl ?_
          refine jx_getr (C := RX4) (T := TX4) (M := 11) (k := 8) E dX4_bestFor_82 (Nat.le_of_ble_eq_true rfl) s_X0 rfl iX4 (by decide) rfl (List.mem_cons_of_mem _ tw_217) rfl ?_
          refine jx_iload_n E dX4_bestFor_85 3 rfl ?_
          obtain ⟨hg13, hF⟩ := jx_guard hF
          refine jx_iald (h := 65) (j := (Int32.toNatClampNeg x3)) E dX4_bestFor_86 (Nat.le_of_ble_eq_true rfl) s_X65 hg13 rfl ?_
          refine jx_iload E dX4_bestFor_87 7 rfl ?_
          refine jx_icmp_le (tgt := 104) E dX4_bestFor_89 (by decide) (fun hc14 => ?_) (fun hc14 => ?_)
          · rw [if_pos hc14] at hF
            refine jx_iinc (y := (x8 + 1)) (lv' := [(8, .int (x8 + 1)), (0, .ref (ad 0)), (1, .int x1), (2, .int x2), (3, .int x3), (4, .int x4), (5, .int x5), (6, .int x6), (7, .int x7)]) E dX4_bestFor_104 8 rfl rfl (by decide) rfl ?_
            refine jx_goto (tgt := 40) E dX4_bestFor_107 (by decide) ?_
            refine jx_sub [1, 2, 3, 4, 5, 6, 7, 8, 0] rfl ?_
            exact ih x1 x2 x3 x4 x5 x6 x7 (x8 + 1) v10 hF
          · rw [if_neg hc14] at hF
            refine jx_aload_n E dX4_bestFor_92 0 rfl ?_
            refine jx_getr (C := RX4) (T := TX4) (M := 11) (k := 8) E dX4_bestFor_93 (Nat.le_of_ble_eq_true rfl) s_X0 rfl iX4 (by decide) rfl (List.mem_cons_of_mem _ tw_217) rfl ?_
            refine jx_iload_n E dX4_bestFor_96 3 rfl ?_
            obtain ⟨hg15, hF⟩ := jx_guard hF
            refine jx_iald (h := 65) (j := (Int32.toNatClampNeg x3)) E dX4_bestFor_97 (Nat.le_of_ble_eq_true rfl) s_X65 hg15 rfl ?_
            refine jx_istore (lv' := [(7, .int (v10 65 (Int32.toNatClampNeg x3))), (0, .ref (ad 0)), (1, .int x1), (2, .int x2), (3, .int x3), (4, .int x4), (5, .int x5), (6, .int x6), (8, .int x8)]) E dX4_bestFor_98 (by decide) rfl ?_
            refine jx_iload E dX4_bestFor_100 8 rfl ?_
            refine jx_istore (lv' := [(6, .int x8), (7, .int (v10 65 (Int32.toNatClampNeg x3))), (0, .ref (ad 0)), (1, .int x1), (2, .int x2), (3, .int x3), (4, .int x4), (5, .int x5), (8, .int x8)]) E dX4_bestFor_102 (by decide) rfl ?_
            refine jx_iinc (y := (x8 + 1)) (lv' := [(8, .int (x8 + 1)), (6, .int x8), (7, .int (v10 65 (Int32.toNatClampNeg x3))), (0, .ref (ad 0)), (1, .int x1), (2, .int x2), (3, .int x3), (4, .int x4), (5, .int x5)]) E dX4_bestFor_104 8 rfl rfl (by decide) rfl ?_
            refine jx_goto (tgt := 40) E dX4_bestFor_107 (by decide) ?_
            refine jx_sub [3, 4, 5, 6, 7, 8, 1, 2, 0] rfl ?_
            exact ih x1 x2 x3 x4 x5 x8 (v10 65 (Int32.toNatClampNeg x3)) (x8 + 1) v10 hF
  refine jx_aload_n E dX4_bestFor_0 0 rfl ?_
  refine jx_getr (C := RX4) (T := TX4) (M := 11) (k := 0) E dX4_bestFor_1 (Nat.le_of_ble_eq_true rfl) s_X0 rfl iX4 (by decide) rfl (List.mem_cons_of_mem _ tw_195) rfl ?_
  refine jx_getrN (C := RX3) (T := TX3) (M := 8) (k := 0) E dX4_bestFor_4 (Nat.le_of_ble_eq_true rfl) s_X1 rfl iX3 (by decide) rfl (ex_f0 (jx_ex E)) rfl ?_
  refine jx_iconst (x := 1) E dX4_bestFor_7 (by decide) ?_
  refine jx_aald (h' := 5) E dX4_bestFor_8 (Nat.le_of_ble_eq_true rfl) s_X2 (show ¬ ((1 : Int32) < 0 ∨ 4 ≤ Int32.toNatClampNeg 1) by decide) rfl ?_
  refine jx_iload_n E dX4_bestFor_9 1 rfl ?_
  obtain ⟨hg1, hF⟩ := jx_guard hF
  refine jx_iald (h := 5) (j := (Int32.toNatClampNeg x1)) E dX4_bestFor_10 (Nat.le_of_ble_eq_true rfl) s_X5 hg1 rfl ?_
  refine jx_istore_n (lv' := [(3, .int (v 5 (Int32.toNatClampNeg x1))), (0, .ref (ad 0)), (1, .int x1), (2, .int x2)]) E dX4_bestFor_11 (by decide) rfl ?_
  refine jx_aload_n E dX4_bestFor_12 1 rfl ?_
  refine jx_getr (C := RX4) (T := TX4) (M := 11) (k := 0) E dX4_bestFor_13 (Nat.le_of_ble_eq_true rfl) s_X0 rfl iX4 (by decide) rfl (List.mem_cons_of_mem _ tw_195) rfl ?_
  refine jx_getrN (C := RX3) (T := TX3) (M := 8) (k := 0) E dX4_bestFor_16 (Nat.le_of_ble_eq_true rfl) s_X1 rfl iX3 (by decide) rfl (ex_f0 (jx_ex E)) rfl ?_
  refine jx_iload_n E dX4_bestFor_19 3 rfl ?_
  obtain ⟨hg2, hF⟩ := jx_guard hF
  refine jx_aald (h' := (1 + 3 + (x2).toNatClampNeg)) E dX4_bestFor_20 (Nat.le_of_ble_eq_true rfl) s_X2 hg2 (l_Tr (t := 1) (l_lt hg2)) ?_
  refine jx_iload_n E dX4_bestFor_21 2 rfl ?_
  obtain ⟨hg3, hF⟩ := jx_guard hF
  refine jx_iald (h := (1 + 3 + (x2).toNatClampNeg)) (j := (Int32.toNatClampNeg x1)) E dX4_bestFor_22 (n_Tr jx_T1 (l_lt hg2)) (s_Tr jx_T1 (l_lt hg2)) hg3 rfl ?_
  refine jx_istore (lv' := [(4, .int (v (1 + 3 + (x2).toNatClampNeg) (Int32.toNatClampNeg x1))), (3, .int (v 5 (Int32.toNatClampNeg x1))), (0, .ref (ad 0)), (1, .int x1), (2, .int x2)]) E dX4_bestFor_23 (by decide) rfl ?_
  refine jx_iload_n E dX4_bestFor_25 4 rfl ?_
  obtain ⟨⟨r4, v4⟩, hc4, hF⟩ := jx_bind hF
  try dsimp only at hF
  refine jx_callSi (As := [.int x2]) (st := []) E dX4_bestFor_26 1 rfl (k_X4_thingLimit hI x2 v r4 v4 hc4) (gb_S (List.mem_cons_of_mem _ tw_200) (List.mem_cons_of_mem _ tw_201) (List.mem_cons_of_mem _ tw_190) tw_199) rfl rfl rfl dd_X4_thingLimit rfl ⟨by decide, by decide⟩ ⟨Nat.le_refl 0, Nat.le_refl 0⟩ (Nat.le_of_ble_eq_true rfl) ?_
  refine jx_istore (lv' := [(5, .int r4), (4, .int (v (1 + 3 + (x2).toNatClampNeg) (Int32.toNatClampNeg x1))), (3, .int (v 5 (Int32.toNatClampNeg x1))), (0, .ref (ad 0)), (1, .int x1), (2, .int x2)]) E dX4_bestFor_29 (by decide) rfl ?_
  refine jx_iconst (x := 0) E dX4_bestFor_31 (by decide) ?_
  refine jx_istore (lv' := [(6, .int 0), (5, .int r4), (4, .int (v (1 + 3 + (x2).toNatClampNeg) (Int32.toNatClampNeg x1))), (3, .int (v 5 (Int32.toNatClampNeg x1))), (0, .ref (ad 0)), (1, .int x1), (2, .int x2)]) E dX4_bestFor_32 (by decide) rfl ?_
  refine jx_iconst (x := 0) E dX4_bestFor_34 (by decide) ?_
  refine jx_istore (lv' := [(7, .int 0), (6, .int 0), (5, .int r4), (4, .int (v (1 + 3 + (x2).toNatClampNeg) (Int32.toNatClampNeg x1))), (3, .int (v 5 (Int32.toNatClampNeg x1))), (0, .ref (ad 0)), (1, .int x1), (2, .int x2)]) E dX4_bestFor_35 (by decide) rfl ?_
  refine jx_iconst (x := 0) E dX4_bestFor_37 (by decide) ?_
  refine jx_istore (lv' := [(8, .int 0), (7, .int 0), (6, .int 0), (5, .int r4), (4, .int (v (1 + 3 + (x2).toNatClampNeg) (Int32.toNatClampNeg x1))), (3, .int (v 5 (Int32.toNatClampNeg x1))), (0, .ref (ad 0)), (1, .int x1), (2, .int x2)]) E dX4_bestFor_38 (by decide) rfl ?_
  refine jx_sub [6, 7, 8, 5, 4, 3, 2, 1, 0] rfl ?_
  exact (key 100000) x1 x2 (v 5 (Int32.toNatClampNeg x1)) (v (1 + 3 + (x2).toNatClampNeg) (Int32.toNatClampNeg x1)) r4 0 0 0 v4 hF
def f_X4_paint (x1 : Int32) (v : jx_V) : Option (Int32 × jx_V) := ((f_X4_within x1 25 v).bind (fun (r1, v1) => (if r1 = 0 then ((f_X4_finding 0 v1).bind (fun (r7, v7) => (some (r7, v7)))) else ((f_X3_isTaken 1 x1 v1).bind (fun (r3, v3) => (if r3 = 0 then ((f_X4_finding 3 v3).bind (fun (r6, v6) => (some (r6, v6)))) else ((f_X4_bestFor x1 3 v3).bind (fun (r5, v5) => (some (r5, v5))))))))))
def rm_X4_paint : Room := { frames := 6, cells := 0, slots := 0, locals := 153 }
set_option maxHeartbeats 4000000 in
set_option maxRecDepth 100000 in
theorem k_X4_paint {l : Launch} {D : va_G} {cI cJ : ClassId} {ad : Nat → Nat} {A : Nat → Prop} {adK adV : Nat → Nat} (hI : jx_inj 67 ad A) (x1 : Int32) (v : jx_V) (r : Int32) (v' : jx_V) (hF : f_X4_paint x1 v = some (r, v')) : jx_Ci l D vwCl 67 cI cJ ad shX A (ex_X adK adV A) yX4_paint (Cond.code yX4_paint cX4_paint 2 (some .int) :: bigT) rm_X4_paint [.ref (ad 0), .int x1] v r v' := by
  unfold f_X4_paint at hF
  refine jx_enteri bigT RX4 cX4_paint 2 (some .int) [(0, .ref (ad 0)), (1, .int x1)] hI (ex_X_ok adK adV A) (by decide +kernel) rfl (Nat.le_of_ble_eq_true rfl) rfl rfl ?_
  intro p e s m args below meth c E
  have iX4 : ∀ w ∈ u_ws RX4 TX4 11, w ∈ (Cond.code yX4_paint cX4_paint 2 (some .int) :: bigT) := fun w h => List.mem_cons_of_mem _ (uw_X4 w h)
  refine jx_iload_n E dX4_paint_0 1 rfl ?_
  refine jx_bipush (x := 25) E dX4_paint_1 (by decide) ?_
  obtain ⟨⟨r1, v1⟩, hc1, hF⟩ := jx_bind hF
  try dsimp only at hF
  refine jx_callSi (As := [.int x1, .int 25]) (st := []) E dX4_paint_3 2 rfl (k_X4_within hI x1 25 v r1 v1 hc1) (gb_S (List.mem_cons_of_mem _ tw_188) (List.mem_cons_of_mem _ tw_189) (List.mem_cons_of_mem _ tw_190) tw_187) rfl rfl rfl dd_X4_within rfl ⟨by decide, by decide⟩ ⟨Nat.le_refl 0, Nat.le_refl 0⟩ (Nat.le_of_ble_eq_true rfl) ?_
  refine jx_if_ne (tgt := 15) E dX4_paint_6 (by decide) (fun hc2 => ?_) (fun hc2 => ?_)
  · rw [if_neg hc2] at hF
    refine jx_aload_n E dX4_paint_15 0 rfl ?_
    refine jx_getr (C := RX4) (T := TX4) (M := 11) (k := 0) E dX4_paint_16 (Nat.le_of_ble_eq_true rfl) s_X0 rfl iX4 (by decide) rfl (List.mem_cons_of_mem _ tw_195) rfl ?_
    refine jx_iload_n E dX4_paint_19 1 rfl ?_
    obtain ⟨⟨r3, v3⟩, hc3, hF⟩ := jx_bind hF
    try dsimp only at hF
    refine jx_callNi (As := [.int x1]) (st := []) (h := 1) E dX4_paint_20 1 rfl (k_X3_isTaken hI 1 jx_T1 x1 v1 r3 v3 hc3) (gb_N tw_51) rfl rfl rfl (ex_m4 (jx_ex E)) (List.mem_cons_of_mem _ tw_33) (List.mem_cons_of_mem _ tw_52) (List.mem_cons_of_mem _ tw_53) dd_X3_isTaken.2 rfl (Nat.le_of_ble_eq_true rfl) s_X1 rfl ⟨by decide, by decide⟩ ⟨Nat.le_refl 0, Nat.le_refl 0⟩ (Nat.le_of_ble_eq_true rfl) ?_
    refine jx_if_ne (tgt := 32) E dX4_paint_23 (by decide) (fun hc4 => ?_) (fun hc4 => ?_)
    · rw [if_neg hc4] at hF
      refine jx_aload_n E dX4_paint_32 0 rfl ?_
      refine jx_iload_n E dX4_paint_33 1 rfl ?_
      refine jx_iconst (x := 3) E dX4_paint_34 (by decide) ?_
      obtain ⟨⟨r5, v5⟩, hc5, hF⟩ := jx_bind hF
      try dsimp only at hF
      refine jx_callVi (As := [.int x1, .int 3]) (st := []) (h := 0) E dX4_paint_35 2 rfl (k_X4_bestFor hI x1 3 v3 r5 v5 hc5) (gb_V (List.mem_cons_of_mem _ tw_250) (List.mem_cons_of_mem _ tw_251) (List.mem_cons_of_mem _ tw_252) (List.mem_cons_of_mem _ tw_190) tw_249) rfl rfl rfl dd_X4_bestFor rfl (Nat.le_of_ble_eq_true rfl) s_X0 rfl ⟨by decide, by decide⟩ ⟨Nat.le_refl 0, Nat.le_refl 0⟩ (Nat.le_of_ble_eq_true rfl) ?_
      obtain ⟨rfl, rfl⟩ := jx_out hF
      exact jx_iret E dX4_paint_38 rfl
    · rw [if_pos hc4] at hF
      refine jx_aload_n E dX4_paint_26 0 rfl ?_
      refine jx_iconst (x := 3) E dX4_paint_27 (by decide) ?_
      obtain ⟨⟨r6, v6⟩, hc6, hF⟩ := jx_bind hF
      try dsimp only at hF
      refine jx_callVi (As := [.int 3]) (st := []) (h := 0) E dX4_paint_28 1 rfl (k_X4_finding hI 3 v3 r6 v6 hc6) (gb_V (List.mem_cons_of_mem _ tw_192) (List.mem_cons_of_mem _ tw_193) (List.mem_cons_of_mem _ tw_194) (List.mem_cons_of_mem _ tw_190) tw_191) rfl rfl rfl dd_X4_finding rfl (Nat.le_of_ble_eq_true rfl) s_X0 rfl ⟨by decide, by decide⟩ ⟨Nat.le_refl 0, Nat.le_refl 0⟩ (Nat.le_of_ble_eq_true rfl) ?_
      obtain ⟨rfl, rfl⟩ := jx_out hF
      exact jx_iret E dX4_paint_31 rfl
  · rw [if_pos hc2] at hF
    refine jx_aload_n E dX4_paint_9 0 rfl ?_
    refine jx_iconst (x := 0) E dX4_paint_10 (by decide) ?_
    obtain ⟨⟨r7, v7⟩, hc7, hF⟩ := jx_bind hF
    try dsimp only at hF
    refine jx_callVi (As := [.int 0]) (st := []) (h := 0) E dX4_paint_11 1 rfl (k_X4_finding hI 0 v1 r7 v7 hc7) (gb_V (List.mem_cons_of_mem _ tw_192) (List.mem_cons_of_mem _ tw_193) (List.mem_cons_of_mem _ tw_194) (List.mem_cons_of_mem _ tw_190) tw_191) rfl rfl rfl dd_X4_finding rfl (Nat.le_of_ble_eq_true rfl) s_X0 rfl ⟨by decide, by decide⟩ ⟨Nat.le_refl 0, Nat.le_refl 0⟩ (Nat.le_of_ble_eq_true rfl) ?_
    obtain ⟨rfl, rfl⟩ := jx_out hF
    exact jx_iret E dX4_paint_14 rfl
def f_X4_height (x1 : Int32) (v : jx_V) : Option (Int32 × jx_V) := ((f_X4_within x1 25 v).bind (fun (r1, v1) => (if r1 = 0 then ((f_X4_finding 0 v1).bind (fun (r7, v7) => (some (r7, v7)))) else ((f_X3_isTaken 1 x1 v1).bind (fun (r3, v3) => (if r3 = 0 then ((f_X4_finding 3 v3).bind (fun (r6, v6) => (some (r6, v6)))) else ((f_X4_bestFor x1 2 v3).bind (fun (r5, v5) => (some (r5, v5))))))))))
def rm_X4_height : Room := { frames := 6, cells := 0, slots := 0, locals := 153 }
set_option maxHeartbeats 4000000 in
set_option maxRecDepth 100000 in
theorem k_X4_height {l : Launch} {D : va_G} {cI cJ : ClassId} {ad : Nat → Nat} {A : Nat → Prop} {adK adV : Nat → Nat} (hI : jx_inj 67 ad A) (x1 : Int32) (v : jx_V) (r : Int32) (v' : jx_V) (hF : f_X4_height x1 v = some (r, v')) : jx_Ci l D vwCl 67 cI cJ ad shX A (ex_X adK adV A) yX4_height (Cond.code yX4_height cX4_height 2 (some .int) :: bigT) rm_X4_height [.ref (ad 0), .int x1] v r v' := by
  unfold f_X4_height at hF
  refine jx_enteri bigT RX4 cX4_height 2 (some .int) [(0, .ref (ad 0)), (1, .int x1)] hI (ex_X_ok adK adV A) (by decide +kernel) rfl (Nat.le_of_ble_eq_true rfl) rfl rfl ?_
  intro p e s m args below meth c E
  have iX4 : ∀ w ∈ u_ws RX4 TX4 11, w ∈ (Cond.code yX4_height cX4_height 2 (some .int) :: bigT) := fun w h => List.mem_cons_of_mem _ (uw_X4 w h)
  refine jx_iload_n E dX4_height_0 1 rfl ?_
  refine jx_bipush (x := 25) E dX4_height_1 (by decide) ?_
  obtain ⟨⟨r1, v1⟩, hc1, hF⟩ := jx_bind hF
  try dsimp only at hF
  refine jx_callSi (As := [.int x1, .int 25]) (st := []) E dX4_height_3 2 rfl (k_X4_within hI x1 25 v r1 v1 hc1) (gb_S (List.mem_cons_of_mem _ tw_188) (List.mem_cons_of_mem _ tw_189) (List.mem_cons_of_mem _ tw_190) tw_187) rfl rfl rfl dd_X4_within rfl ⟨by decide, by decide⟩ ⟨Nat.le_refl 0, Nat.le_refl 0⟩ (Nat.le_of_ble_eq_true rfl) ?_
  refine jx_if_ne (tgt := 15) E dX4_height_6 (by decide) (fun hc2 => ?_) (fun hc2 => ?_)
  · rw [if_neg hc2] at hF
    refine jx_aload_n E dX4_height_15 0 rfl ?_
    refine jx_getr (C := RX4) (T := TX4) (M := 11) (k := 0) E dX4_height_16 (Nat.le_of_ble_eq_true rfl) s_X0 rfl iX4 (by decide) rfl (List.mem_cons_of_mem _ tw_195) rfl ?_
    refine jx_iload_n E dX4_height_19 1 rfl ?_
    obtain ⟨⟨r3, v3⟩, hc3, hF⟩ := jx_bind hF
    try dsimp only at hF
    refine jx_callNi (As := [.int x1]) (st := []) (h := 1) E dX4_height_20 1 rfl (k_X3_isTaken hI 1 jx_T1 x1 v1 r3 v3 hc3) (gb_N tw_51) rfl rfl rfl (ex_m4 (jx_ex E)) (List.mem_cons_of_mem _ tw_33) (List.mem_cons_of_mem _ tw_52) (List.mem_cons_of_mem _ tw_53) dd_X3_isTaken.2 rfl (Nat.le_of_ble_eq_true rfl) s_X1 rfl ⟨by decide, by decide⟩ ⟨Nat.le_refl 0, Nat.le_refl 0⟩ (Nat.le_of_ble_eq_true rfl) ?_
    refine jx_if_ne (tgt := 32) E dX4_height_23 (by decide) (fun hc4 => ?_) (fun hc4 => ?_)
    · rw [if_neg hc4] at hF
      refine jx_aload_n E dX4_height_32 0 rfl ?_
      refine jx_iload_n E dX4_height_33 1 rfl ?_
      refine jx_iconst (x := 2) E dX4_height_34 (by decide) ?_
      obtain ⟨⟨r5, v5⟩, hc5, hF⟩ := jx_bind hF
      try dsimp only at hF
      refine jx_callVi (As := [.int x1, .int 2]) (st := []) (h := 0) E dX4_height_35 2 rfl (k_X4_bestFor hI x1 2 v3 r5 v5 hc5) (gb_V (List.mem_cons_of_mem _ tw_250) (List.mem_cons_of_mem _ tw_251) (List.mem_cons_of_mem _ tw_252) (List.mem_cons_of_mem _ tw_190) tw_249) rfl rfl rfl dd_X4_bestFor rfl (Nat.le_of_ble_eq_true rfl) s_X0 rfl ⟨by decide, by decide⟩ ⟨Nat.le_refl 0, Nat.le_refl 0⟩ (Nat.le_of_ble_eq_true rfl) ?_
      obtain ⟨rfl, rfl⟩ := jx_out hF
      exact jx_iret E dX4_height_38 rfl
    · rw [if_pos hc4] at hF
      refine jx_aload_n E dX4_height_26 0 rfl ?_
      refine jx_iconst (x := 3) E dX4_height_27 (by decide) ?_
      obtain ⟨⟨r6, v6⟩, hc6, hF⟩ := jx_bind hF
      try dsimp only at hF
      refine jx_callVi (As := [.int 3]) (st := []) (h := 0) E dX4_height_28 1 rfl (k_X4_finding hI 3 v3 r6 v6 hc6) (gb_V (List.mem_cons_of_mem _ tw_192) (List.mem_cons_of_mem _ tw_193) (List.mem_cons_of_mem _ tw_194) (List.mem_cons_of_mem _ tw_190) tw_191) rfl rfl rfl dd_X4_finding rfl (Nat.le_of_ble_eq_true rfl) s_X0 rfl ⟨by decide, by decide⟩ ⟨Nat.le_refl 0, Nat.le_refl 0⟩ (Nat.le_of_ble_eq_true rfl) ?_
      obtain ⟨rfl, rfl⟩ := jx_out hF
      exact jx_iret E dX4_height_31 rfl
  · rw [if_pos hc2] at hF
    refine jx_aload_n E dX4_height_9 0 rfl ?_
    refine jx_iconst (x := 0) E dX4_height_10 (by decide) ?_
    obtain ⟨⟨r7, v7⟩, hc7, hF⟩ := jx_bind hF
    try dsimp only at hF
    refine jx_callVi (As := [.int 0]) (st := []) (h := 0) E dX4_height_11 1 rfl (k_X4_finding hI 0 v1 r7 v7 hc7) (gb_V (List.mem_cons_of_mem _ tw_192) (List.mem_cons_of_mem _ tw_193) (List.mem_cons_of_mem _ tw_194) (List.mem_cons_of_mem _ tw_190) tw_191) rfl rfl rfl dd_X4_finding rfl (Nat.le_of_ble_eq_true rfl) s_X0 rfl ⟨by decide, by decide⟩ ⟨Nat.le_refl 0, Nat.le_refl 0⟩ (Nat.le_of_ble_eq_true rfl) ?_
    obtain ⟨rfl, rfl⟩ := jx_out hF
    exact jx_iret E dX4_height_14 rfl
def f_X4_storey (x1 : Int32) (x2 : Int32) (v : jx_V) : Option (Int32 × jx_V) := ((f_X4_within x1 25 v).bind (fun (r1, v1) => (if r1 = 0 then ((f_X4_finding 0 v1).bind (fun (r3, v3) => (some (r3, v3)))) else ((f_X4_within x2 4 v1).bind (fun (r4, v4) => (if r4 = 0 then ((f_X4_finding 0 v4).bind (fun (r20, v20) => (some (r20, v20)))) else ((f_X3_isTaken 1 x1 v4).bind (fun (r6, v6) => (if r6 = 0 then ((f_X4_finding 3 v6).bind (fun (r19, v19) => (some (r19, v19)))) else (if (x1 < 0 ∨ 25 ≤ Int32.toNatClampNeg x1) then none else (if (v6 6 (Int32.toNatClampNeg x1)) < 9 then ((f_X0_gainsInto 1 64 v6).bind (fun (r10, v10) => (if (x1 < 0 ∨ 25 ≤ Int32.toNatClampNeg x1) then none else (if (x1 < 0 ∨ 25 ≤ Int32.toNatClampNeg x1) then none else ((f_X0_gainsInto 1 65 (jx_up v10 6 (Int32.toNatClampNeg x1) ((v10 6 (Int32.toNatClampNeg x1)) + 1))).bind (fun (r13, v13) => (if (x1 < 0 ∨ 25 ≤ Int32.toNatClampNeg x1) then none else (if (x1 < 0 ∨ 25 ≤ Int32.toNatClampNeg x1) then none else (if (x2 < 0 ∨ 4 ≤ Int32.toNatClampNeg x2) then none else (if (x2 < 0 ∨ 4 ≤ Int32.toNatClampNeg x2) then none else (some ((((jx_up v13 6 (Int32.toNatClampNeg x1) ((v13 6 (Int32.toNatClampNeg x1)) - 1)) 65 (Int32.toNatClampNeg x2)) - ((jx_up v13 6 (Int32.toNatClampNeg x1) ((v13 6 (Int32.toNatClampNeg x1)) - 1)) 64 (Int32.toNatClampNeg x2))), (jx_up v13 6 (Int32.toNatClampNeg x1) ((v13 6 (Int32.toNatClampNeg x1)) - 1)))))))))))))) else ((f_X4_finding 4 v6).bind (fun (r18, v18) => (some (r18, v18)))))))))))))))
def rm_X4_storey : Room := { frames := 5, cells := 0, slots := 0, locals := 125 }
set_option maxHeartbeats 4000000 in
set_option maxRecDepth 100000 in
theorem k_X4_storey {l : Launch} {D : va_G} {cI cJ : ClassId} {ad : Nat → Nat} {A : Nat → Prop} {adK adV : Nat → Nat} (hI : jx_inj 67 ad A) (x1 : Int32) (x2 : Int32) (v : jx_V) (r : Int32) (v' : jx_V) (hF : f_X4_storey x1 x2 v = some (r, v')) : jx_Ci l D vwCl 67 cI cJ ad shX A (ex_X adK adV A) yX4_storey (Cond.code yX4_storey cX4_storey 3 (some .int) :: bigT) rm_X4_storey [.ref (ad 0), .int x1, .int x2] v r v' := by
  unfold f_X4_storey at hF
  refine jx_enteri bigT RX4 cX4_storey 3 (some .int) [(0, .ref (ad 0)), (1, .int x1), (2, .int x2)] hI (ex_X_ok adK adV A) (by decide +kernel) rfl (Nat.le_of_ble_eq_true rfl) rfl rfl ?_
  intro p e s m args below meth c E
  have iX3 : ∀ w ∈ u_ws RX3 TX3 8, w ∈ (Cond.code yX4_storey cX4_storey 3 (some .int) :: bigT) := fun w h => List.mem_cons_of_mem _ (uw_X3 w h)
  have iX4 : ∀ w ∈ u_ws RX4 TX4 11, w ∈ (Cond.code yX4_storey cX4_storey 3 (some .int) :: bigT) := fun w h => List.mem_cons_of_mem _ (uw_X4 w h)
  refine jx_iload_n E dX4_storey_0 1 rfl ?_
  refine jx_bipush (x := 25) E dX4_storey_1 (by decide) ?_
  obtain ⟨⟨r1, v1⟩, hc1, hF⟩ := jx_bind hF
  try dsimp only at hF
  refine jx_callSi (As := [.int x1, .int 25]) (st := []) E dX4_storey_3 2 rfl (k_X4_within hI x1 25 v r1 v1 hc1) (gb_S (List.mem_cons_of_mem _ tw_188) (List.mem_cons_of_mem _ tw_189) (List.mem_cons_of_mem _ tw_190) tw_187) rfl rfl rfl dd_X4_within rfl ⟨by decide, by decide⟩ ⟨Nat.le_refl 0, Nat.le_refl 0⟩ (Nat.le_of_ble_eq_true rfl) ?_
  refine jx_if_eq (tgt := 17) E dX4_storey_6 (by decide) (fun hc2 => ?_) (fun hc2 => ?_)
  · rw [if_pos hc2] at hF
    refine jx_aload_n E dX4_storey_17 0 rfl ?_
    refine jx_iconst (x := 0) E dX4_storey_18 (by decide) ?_
    obtain ⟨⟨r3, v3⟩, hc3, hF⟩ := jx_bind hF
    try dsimp only at hF
    refine jx_callVi (As := [.int 0]) (st := []) (h := 0) E dX4_storey_19 1 rfl (k_X4_finding hI 0 v1 r3 v3 hc3) (gb_V (List.mem_cons_of_mem _ tw_192) (List.mem_cons_of_mem _ tw_193) (List.mem_cons_of_mem _ tw_194) (List.mem_cons_of_mem _ tw_190) tw_191) rfl rfl rfl dd_X4_finding rfl (Nat.le_of_ble_eq_true rfl) s_X0 rfl ⟨by decide, by decide⟩ ⟨Nat.le_refl 0, Nat.le_refl 0⟩ (Nat.le_of_ble_eq_true rfl) ?_
    obtain ⟨rfl, rfl⟩ := jx_out hF
    exact jx_iret E dX4_storey_22 rfl
  · rw [if_neg hc2] at hF
    refine jx_iload_n E dX4_storey_9 2 rfl ?_
    refine jx_iconst (x := 4) E dX4_storey_10 (by decide) ?_
    obtain ⟨⟨r4, v4⟩, hc4, hF⟩ := jx_bind hF
    try dsimp only at hF
    refine jx_callSi (As := [.int x2, .int 4]) (st := []) E dX4_storey_11 2 rfl (k_X4_within hI x2 4 v1 r4 v4 hc4) (gb_S (List.mem_cons_of_mem _ tw_188) (List.mem_cons_of_mem _ tw_189) (List.mem_cons_of_mem _ tw_190) tw_187) rfl rfl rfl dd_X4_within rfl ⟨by decide, by decide⟩ ⟨Nat.le_refl 0, Nat.le_refl 0⟩ (Nat.le_of_ble_eq_true rfl) ?_
    refine jx_if_ne (tgt := 23) E dX4_storey_14 (by decide) (fun hc5 => ?_) (fun hc5 => ?_)
    · rw [if_neg hc5] at hF
      refine jx_aload_n E dX4_storey_23 0 rfl ?_
      refine jx_getr (C := RX4) (T := TX4) (M := 11) (k := 0) E dX4_storey_24 (Nat.le_of_ble_eq_true rfl) s_X0 rfl iX4 (by decide) rfl (List.mem_cons_of_mem _ tw_195) rfl ?_
      refine jx_iload_n E dX4_storey_27 1 rfl ?_
      obtain ⟨⟨r6, v6⟩, hc6, hF⟩ := jx_bind hF
      try dsimp only at hF
      refine jx_callNi (As := [.int x1]) (st := []) (h := 1) E dX4_storey_28 1 rfl (k_X3_isTaken hI 1 jx_T1 x1 v4 r6 v6 hc6) (gb_N tw_51) rfl rfl rfl (ex_m4 (jx_ex E)) (List.mem_cons_of_mem _ tw_33) (List.mem_cons_of_mem _ tw_52) (List.mem_cons_of_mem _ tw_53) dd_X3_isTaken.2 rfl (Nat.le_of_ble_eq_true rfl) s_X1 rfl ⟨by decide, by decide⟩ ⟨Nat.le_refl 0, Nat.le_refl 0⟩ (Nat.le_of_ble_eq_true rfl) ?_
      refine jx_if_ne (tgt := 40) E dX4_storey_31 (by decide) (fun hc7 => ?_) (fun hc7 => ?_)
      · rw [if_neg hc7] at hF
        refine jx_aload_n E dX4_storey_40 0 rfl ?_
        refine jx_getr (C := RX4) (T := TX4) (M := 11) (k := 0) E dX4_storey_41 (Nat.le_of_ble_eq_true rfl) s_X0 rfl iX4 (by decide) rfl (List.mem_cons_of_mem _ tw_195) rfl ?_
        refine jx_getrN (C := RX3) (T := TX3) (M := 8) (k := 0) E dX4_storey_44 (Nat.le_of_ble_eq_true rfl) s_X1 rfl iX3 (by decide) rfl (ex_f0 (jx_ex E)) rfl ?_
        refine jx_iconst (x := 2) E dX4_storey_47 (by decide) ?_
        refine jx_aald (h' := 6) E dX4_storey_48 (Nat.le_of_ble_eq_true rfl) s_X2 (show ¬ ((2 : Int32) < 0 ∨ 4 ≤ Int32.toNatClampNeg 2) by decide) rfl ?_
        refine jx_iload_n E dX4_storey_49 1 rfl ?_
        obtain ⟨hg8, hF⟩ := jx_guard hF
        refine jx_iald (h := 6) (j := (Int32.toNatClampNeg x1)) E dX4_storey_50 (Nat.le_of_ble_eq_true rfl) s_X6 hg8 rfl ?_
        refine jx_bipush (x := 9) E dX4_storey_51 (by decide) ?_
        refine jx_icmp_lt (tgt := 62) E dX4_storey_53 (by decide) (fun hc9 => ?_) (fun hc9 => ?_)
        · rw [if_pos hc9] at hF
          refine jx_aload_n E dX4_storey_62 0 rfl ?_
          refine jx_getr (C := RX4) (T := TX4) (M := 11) (k := 3) E dX4_storey_63 (Nat.le_of_ble_eq_true rfl) s_X0 rfl iX4 (by decide) rfl (List.mem_cons_of_mem _ tw_209) rfl ?_
          refine jx_aload_n E dX4_storey_66 0 rfl ?_
          refine jx_getr (C := RX4) (T := TX4) (M := 11) (k := 0) E dX4_storey_67 (Nat.le_of_ble_eq_true rfl) s_X0 rfl iX4 (by decide) rfl (List.mem_cons_of_mem _ tw_195) rfl ?_
          refine jx_aload_n E dX4_storey_70 0 rfl ?_
          refine jx_getr (C := RX4) (T := TX4) (M := 11) (k := 7) E dX4_storey_71 (Nat.le_of_ble_eq_true rfl) s_X0 rfl iX4 (by decide) rfl (List.mem_cons_of_mem _ tw_253) rfl ?_
          obtain ⟨⟨r10, v10⟩, hc10, hF⟩ := jx_bind hF
          try dsimp only at hF
          refine jx_callNi (As := [.ref (ad 1), .ref (ad 64)]) (st := []) (h := 49) E dX4_storey_74 2 rfl (k_X0_gainsInto hI 1 jx_T1 64 s_X64 (Nat.le_of_ble_eq_true rfl) v6 r10 v10 hc10) (gb_N tw_218) rfl rfl rfl (ex_m22 (jx_ex E)) (List.mem_cons_of_mem _ tw_49) (List.mem_cons_of_mem _ tw_219) (List.mem_cons_of_mem _ tw_220) dd_X0_gainsInto.2 rfl (Nat.le_of_ble_eq_true rfl) s_X49 rfl ⟨by decide, by decide⟩ ⟨Nat.le_refl 0, Nat.le_refl 0⟩ (Nat.le_of_ble_eq_true rfl) ?_
          refine jx_pop E dX4_storey_77 rfl ?_
          refine jx_aload_n E dX4_storey_78 0 rfl ?_
          refine jx_getr (C := RX4) (T := TX4) (M := 11) (k := 0) E dX4_storey_79 (Nat.le_of_ble_eq_true rfl) s_X0 rfl iX4 (by decide) rfl (List.mem_cons_of_mem _ tw_195) rfl ?_
          refine jx_getrN (C := RX3) (T := TX3) (M := 8) (k := 0) E dX4_storey_82 (Nat.le_of_ble_eq_true rfl) s_X1 rfl iX3 (by decide) rfl (ex_f0 (jx_ex E)) rfl ?_
          refine jx_iconst (x := 2) E dX4_storey_85 (by decide) ?_
          refine jx_aald (h' := 6) E dX4_storey_86 (Nat.le_of_ble_eq_true rfl) s_X2 (show ¬ ((2 : Int32) < 0 ∨ 4 ≤ Int32.toNatClampNeg 2) by decide) rfl ?_
          refine jx_iload_n E dX4_storey_87 1 rfl ?_
          refine jx_dup2 E dX4_storey_88 rfl rfl ?_
          obtain ⟨hg11, hF⟩ := jx_guard hF
          refine jx_iald (h := 6) (j := (Int32.toNatClampNeg x1)) E dX4_storey_89 (Nat.le_of_ble_eq_true rfl) s_X6 hg11 rfl ?_
          refine jx_iconst (x := 1) E dX4_storey_90 (by decide) ?_
          refine jx_iadd E dX4_storey_91 ?_
          obtain ⟨hg12, hF⟩ := jx_guard hF
          refine jx_iast (h := 6) (j := (Int32.toNatClampNeg x1)) E dX4_storey_92 (Nat.le_of_ble_eq_true rfl) s_X6 hg12 rfl ?_
          refine jx_aload_n E dX4_storey_93 0 rfl ?_
          refine jx_getr (C := RX4) (T := TX4) (M := 11) (k := 3) E dX4_storey_94 (Nat.le_of_ble_eq_true rfl) s_X0 rfl iX4 (by decide) rfl (List.mem_cons_of_mem _ tw_209) rfl ?_
          refine jx_aload_n E dX4_storey_97 0 rfl ?_
          refine jx_getr (C := RX4) (T := TX4) (M := 11) (k := 0) E dX4_storey_98 (Nat.le_of_ble_eq_true rfl) s_X0 rfl iX4 (by decide) rfl (List.mem_cons_of_mem _ tw_195) rfl ?_
          refine jx_aload_n E dX4_storey_101 0 rfl ?_
          refine jx_getr (C := RX4) (T := TX4) (M := 11) (k := 8) E dX4_storey_102 (Nat.le_of_ble_eq_true rfl) s_X0 rfl iX4 (by decide) rfl (List.mem_cons_of_mem _ tw_217) rfl ?_
          obtain ⟨⟨r13, v13⟩, hc13, hF⟩ := jx_bind hF
          try dsimp only at hF
          refine jx_callNi (As := [.ref (ad 1), .ref (ad 65)]) (st := []) (h := 49) E dX4_storey_105 2 rfl (k_X0_gainsInto hI 1 jx_T1 65 s_X65 (Nat.le_of_ble_eq_true rfl) (jx_up v10 6 (Int32.toNatClampNeg x1) ((v10 6 (Int32.toNatClampNeg x1)) + 1)) r13 v13 hc13) (gb_N tw_218) rfl rfl rfl (ex_m22 (jx_ex E)) (List.mem_cons_of_mem _ tw_49) (List.mem_cons_of_mem _ tw_219) (List.mem_cons_of_mem _ tw_220) dd_X0_gainsInto.2 rfl (Nat.le_of_ble_eq_true rfl) s_X49 rfl ⟨by decide, by decide⟩ ⟨Nat.le_refl 0, Nat.le_refl 0⟩ (Nat.le_of_ble_eq_true rfl) ?_
          refine jx_pop E dX4_storey_108 rfl ?_
          refine jx_aload_n E dX4_storey_109 0 rfl ?_
          refine jx_getr (C := RX4) (T := TX4) (M := 11) (k := 0) E dX4_storey_110 (Nat.le_of_ble_eq_true rfl) s_X0 rfl iX4 (by decide) rfl (List.mem_cons_of_mem _ tw_195) rfl ?_
          refine jx_getrN (C := RX3) (T := TX3) (M := 8) (k := 0) E dX4_storey_113 (Nat.le_of_ble_eq_true rfl) s_X1 rfl iX3 (by decide) rfl (ex_f0 (jx_ex E)) rfl ?_
          refine jx_iconst (x := 2) E dX4_storey_116 (by decide) ?_
          refine jx_aald (h' := 6) E dX4_storey_117 (Nat.le_of_ble_eq_true rfl) s_X2 (show ¬ ((2 : Int32) < 0 ∨ 4 ≤ Int32.toNatClampNeg 2) by decide) rfl ?_
          refine jx_iload_n E dX4_storey_118 1 rfl ?_
          refine jx_dup2 E dX4_storey_119 rfl rfl ?_
          obtain ⟨hg14, hF⟩ := jx_guard hF
          refine jx_iald (h := 6) (j := (Int32.toNatClampNeg x1)) E dX4_storey_120 (Nat.le_of_ble_eq_true rfl) s_X6 hg14 rfl ?_
          refine jx_iconst (x := 1) E dX4_storey_121 (by decide) ?_
          refine jx_isub E dX4_storey_122 ?_
          obtain ⟨hg15, hF⟩ := jx_guard hF
          refine jx_iast (h := 6) (j := (Int32.toNatClampNeg x1)) E dX4_storey_123 (Nat.le_of_ble_eq_true rfl) s_X6 hg15 rfl ?_
          refine jx_aload_n E dX4_storey_124 0 rfl ?_
          refine jx_getr (C := RX4) (T := TX4) (M := 11) (k := 8) E dX4_storey_125 (Nat.le_of_ble_eq_true rfl) s_X0 rfl iX4 (by decide) rfl (List.mem_cons_of_mem _ tw_217) rfl ?_
          refine jx_iload_n E dX4_storey_128 2 rfl ?_
          obtain ⟨hg16, hF⟩ := jx_guard hF
          refine jx_iald (h := 65) (j := (Int32.toNatClampNeg x2)) E dX4_storey_129 (Nat.le_of_ble_eq_true rfl) s_X65 hg16 rfl ?_
          refine jx_aload_n E dX4_storey_130 0 rfl ?_
          refine jx_getr (C := RX4) (T := TX4) (M := 11) (k := 7) E dX4_storey_131 (Nat.le_of_ble_eq_true rfl) s_X0 rfl iX4 (by decide) rfl (List.mem_cons_of_mem _ tw_253) rfl ?_
          refine jx_iload_n E dX4_storey_134 2 rfl ?_
          obtain ⟨hg17, hF⟩ := jx_guard hF
          refine jx_iald (h := 64) (j := (Int32.toNatClampNeg x2)) E dX4_storey_135 (Nat.le_of_ble_eq_true rfl) s_X64 hg17 rfl ?_
          refine jx_isub E dX4_storey_136 ?_
          obtain ⟨rfl, rfl⟩ := jx_out hF
          exact jx_iret E dX4_storey_137 rfl
        · rw [if_neg hc9] at hF
          refine jx_aload_n E dX4_storey_56 0 rfl ?_
          refine jx_iconst (x := 4) E dX4_storey_57 (by decide) ?_
          obtain ⟨⟨r18, v18⟩, hc18, hF⟩ := jx_bind hF
          try dsimp only at hF
          refine jx_callVi (As := [.int 4]) (st := []) (h := 0) E dX4_storey_58 1 rfl (k_X4_finding hI 4 v6 r18 v18 hc18) (gb_V (List.mem_cons_of_mem _ tw_192) (List.mem_cons_of_mem _ tw_193) (List.mem_cons_of_mem _ tw_194) (List.mem_cons_of_mem _ tw_190) tw_191) rfl rfl rfl dd_X4_finding rfl (Nat.le_of_ble_eq_true rfl) s_X0 rfl ⟨by decide, by decide⟩ ⟨Nat.le_refl 0, Nat.le_refl 0⟩ (Nat.le_of_ble_eq_true rfl) ?_
          obtain ⟨rfl, rfl⟩ := jx_out hF
          exact jx_iret E dX4_storey_61 rfl
      · rw [if_pos hc7] at hF
        refine jx_aload_n E dX4_storey_34 0 rfl ?_
        refine jx_iconst (x := 3) E dX4_storey_35 (by decide) ?_
        obtain ⟨⟨r19, v19⟩, hc19, hF⟩ := jx_bind hF
        try dsimp only at hF
        refine jx_callVi (As := [.int 3]) (st := []) (h := 0) E dX4_storey_36 1 rfl (k_X4_finding hI 3 v6 r19 v19 hc19) (gb_V (List.mem_cons_of_mem _ tw_192) (List.mem_cons_of_mem _ tw_193) (List.mem_cons_of_mem _ tw_194) (List.mem_cons_of_mem _ tw_190) tw_191) rfl rfl rfl dd_X4_finding rfl (Nat.le_of_ble_eq_true rfl) s_X0 rfl ⟨by decide, by decide⟩ ⟨Nat.le_refl 0, Nat.le_refl 0⟩ (Nat.le_of_ble_eq_true rfl) ?_
        obtain ⟨rfl, rfl⟩ := jx_out hF
        exact jx_iret E dX4_storey_39 rfl
    · rw [if_pos hc5] at hF
      refine jx_aload_n E dX4_storey_17 0 rfl ?_
      refine jx_iconst (x := 0) E dX4_storey_18 (by decide) ?_
      obtain ⟨⟨r20, v20⟩, hc20, hF⟩ := jx_bind hF
      try dsimp only at hF
      refine jx_callVi (As := [.int 0]) (st := []) (h := 0) E dX4_storey_19 1 rfl (k_X4_finding hI 0 v4 r20 v20 hc20) (gb_V (List.mem_cons_of_mem _ tw_192) (List.mem_cons_of_mem _ tw_193) (List.mem_cons_of_mem _ tw_194) (List.mem_cons_of_mem _ tw_190) tw_191) rfl rfl rfl dd_X4_finding rfl (Nat.le_of_ble_eq_true rfl) s_X0 rfl ⟨by decide, by decide⟩ ⟨Nat.le_refl 0, Nat.le_refl 0⟩ (Nat.le_of_ble_eq_true rfl) ?_
      obtain ⟨rfl, rfl⟩ := jx_out hF
      exact jx_iret E dX4_storey_22 rfl
def f_X4_allowed_L  : Nat → Int32 → Int32 → Int32 → Int32 → Int32 → jx_V → Option (Int32 × jx_V)
  | 0, _, _, _, _, _, _ => none
  | n + 1, x1, x2, x3, x4, x5, v => (if 10 ≤ x5 then (if (x1 < 0 ∨ 25 ≤ Int32.toNatClampNeg x1) then none else (some (x4, (jx_up v 6 (Int32.toNatClampNeg x1) x2)))) else (if (x1 < 0 ∨ 25 ≤ Int32.toNatClampNeg x1) then none else ((f_X0_brokenSet 1 (jx_up v 6 (Int32.toNatClampNeg x1) x5)).bind (fun (r11, v11) => ((f_J6_bitCount_0f7a4 r11 v11).bind (fun (r12, v12) => (if x5 = 0 then (if r12 < r12 then (f_X4_allowed_L n x1 x2 r12 x4 (x5 + 1) v12) else (f_X4_allowed_L n x1 x2 r12 x5 (x5 + 1) v12)) else (if x3 < r12 then (f_X4_allowed_L n x1 x2 x3 x4 (x5 + 1) v12) else (f_X4_allowed_L n x1 x2 x3 x5 (x5 + 1) v12)))))))))
def f_X4_allowed (x1 : Int32) (v : jx_V) : Option (Int32 × jx_V) := ((f_X4_within x1 25 v).bind (fun (r1, v1) => (if r1 = 0 then ((f_X4_finding 0 v1).bind (fun (r7, v7) => (some (r7, v7)))) else ((f_X3_isTaken 1 x1 v1).bind (fun (r3, v3) => (if r3 = 0 then ((f_X4_finding 3 v3).bind (fun (r6, v6) => (some (r6, v6)))) else (if (x1 < 0 ∨ 25 ≤ Int32.toNatClampNeg x1) then none else (f_X4_allowed_L 100000 x1 (v3 6 (Int32.toNatClampNeg x1)) 0 0 0 v3))))))))
def rm_X4_allowed : Room := { frames := 6, cells := 0, slots := 0, locals := 144 }
set_option maxHeartbeats 4000000 in
set_option maxRecDepth 100000 in
theorem k_X4_allowed {l : Launch} {D : va_G} {cI cJ : ClassId} {ad : Nat → Nat} {A : Nat → Prop} {adK adV : Nat → Nat} (hI : jx_inj 67 ad A) (x1 : Int32) (v : jx_V) (r : Int32) (v' : jx_V) (hF : f_X4_allowed x1 v = some (r, v')) : jx_Ci l D vwCl 67 cI cJ ad shX A (ex_X adK adV A) yX4_allowed (Cond.code yX4_allowed cX4_allowed 7 (some .int) :: bigT) rm_X4_allowed [.ref (ad 0), .int x1] v r v' := by
  unfold f_X4_allowed at hF
  refine jx_enteri bigT RX4 cX4_allowed 7 (some .int) [(0, .ref (ad 0)), (1, .int x1)] hI (ex_X_ok adK adV A) (by decide +kernel) rfl (Nat.le_of_ble_eq_true rfl) rfl rfl ?_
  intro p e s m args below meth c E
  have iX3 : ∀ w ∈ u_ws RX3 TX3 8, w ∈ (Cond.code yX4_allowed cX4_allowed 7 (some .int) :: bigT) := fun w h => List.mem_cons_of_mem _ (uw_X3 w h)
  have iX4 : ∀ w ∈ u_ws RX4 TX4 11, w ∈ (Cond.code yX4_allowed cX4_allowed 7 (some .int) :: bigT) := fun w h => List.mem_cons_of_mem _ (uw_X4 w h)
  have key : ∀ n : Nat, (∀ (x1 : Int32) (x2 : Int32) (x3 : Int32) (x4 : Int32) (x5 : Int32) (v : jx_V), f_X4_allowed_L  n  x1 x2 x3 x4 x5 v = some (r, v') → jx_J p l e rm_X4_allowed s m args below meth c D vwCl 67 cI cJ ad shX A 0 0 7 (MQ below (va_Qi (fun (r1 : Int32) (_ : Unit) => r1 = r) (fun _ t => va_P D vwCl (jx_ws 67 cI cJ ad shX v') t.heap) A) args s 0 0 A) v 52 [(0, .ref (ad 0)), (1, .int x1), (2, .int x2), (3, .int x3), (4, .int x4), (5, .int x5)] []) := by
    intro n
    induction n with
    | zero =>
      exact (fun _ _ _ _ _ _ h => by cases h)
    | succ n ih =>
      intro x1 x2 x3 x4 x5 v hF
      rw [f_X4_allowed_L] at hF
      refine jx_iload E dX4_allowed_52 5 rfl ?_
      refine jx_bipush (x := 10) E dX4_allowed_54 (by decide) ?_
      refine jx_icmp_ge (tgt := 112) E dX4_allowed_56 (by decide) (fun hc8 => ?_) (fun hc8 => ?_)
      · rw [if_pos hc8] at hF
        refine jx_aload_n E dX4_allowed_112 0 rfl ?_
        refine jx_getr (C := RX4) (T := TX4) (M := 11) (k := 0) E dX4_allowed_113 (Nat.le_of_ble_eq_true rfl) s_X0 rfl iX4 (by decide) rfl (List.mem_cons_of_mem _ tw_195) rfl ?_
        refine jx_getrN (C := RX3) (T := TX3) (M := 8) (k := 0) E dX4_allowed_116 (Nat.le_of_ble_eq_true rfl) s_X1 rfl iX3 (by decide) rfl (ex_f0 (jx_ex E)) rfl ?_
        refine jx_iconst (x := 2) E dX4_allowed_119 (by decide) ?_
        refine jx_aald (h' := 6) E dX4_allowed_120 (Nat.le_of_ble_eq_true rfl) s_X2 (show ¬ ((2 : Int32) < 0 ∨ 4 ≤ Int32.toNatClampNeg 2) by decide) rfl ?_
        refine jx_iload_n E dX4_allowed_121 1 rfl ?_
        refine jx_iload_n E dX4_allowed_122 2 rfl ?_
        obtain ⟨hg9, hF⟩ := jx_guard hF
        refine jx_iast (h := 6) (j := (Int32.toNatClampNeg x1)) E dX4_allowed_123 (Nat.le_of_ble_eq_true rfl) s_X6 hg9 rfl ?_
        refine jx_iload E dX4_allowed_124 4 rfl ?_
        obtain ⟨rfl, rfl⟩ := jx_out hF
        exact jx_iret E dX4_allowed_126 rfl
      · rw [if_neg hc8] at hF
        refine jx_aload_n E dX4_allowed_59 0 rfl ?_
        refine jx_getr (C := RX4) (T := TX4) (M := 11) (k := 0) E dX4_allowed_60 (Nat.le_of_ble_eq_true rfl) s_X0 rfl iX4 (by decide) rfl (List.mem_cons_of_mem _ tw_195) rfl ?_
        refine jx_getrN (C := RX3) (T := TX3) (M := 8) (k := 0) E dX4_allowed_63 (Nat.le_of_ble_eq_true rfl) s_X1 rfl iX3 (by decide) rfl (ex_f0 (jx_ex E)) rfl ?_
        refine jx_iconst (x := 2) E dX4_allowed_66 (by decide) ?_
        refine jx_aald (h' := 6) E dX4_allowed_67 (Nat.le_of_ble_eq_true rfl) s_X2 (show ¬ ((2 : Int32) < 0 ∨ 4 ≤ Int32.toNatClampNeg 2) by decide) rfl ?_
        refine jx_iload_n E dX4_allowed_68 1 rfl ?_
        refine jx_iload E dX4_allowed_69 5 rfl ?_
        obtain ⟨hg10, hF⟩ := jx_guard hF
        refine jx_iast (h := 6) (j := (Int32.toNatClampNeg x1)) E dX4_allowed_71 (Nat.le_of_ble_eq_true rfl) s_X6 hg10 rfl ?_
        refine jx_aload_n E dX4_allowed_72 0 rfl ?_
        refine jx_getr (C := RX4) (T := TX4) (M := 11) (k := 3) E dX4_allowed_73 (Nat.le_of_ble_eq_true rfl) s_X0 rfl iX4 (by decide) rfl (List.mem_cons_of_mem _ tw_209) rfl ?_
        refine jx_aload_n E dX4_allowed_76 0 rfl ?_
        refine jx_getr (C := RX4) (T := TX4) (M := 11) (k := 0) E dX4_allowed_77 (Nat.le_of_ble_eq_true rfl) s_X0 rfl iX4 (by decide) rfl (List.mem_cons_of_mem _ tw_195) rfl ?_
        obtain ⟨⟨r11, v11⟩, hc11, hF⟩ := jx_bind hF
        try dsimp only at hF
        refine jx_callNi (As := [.ref (ad 1)]) (st := []) (h := 49) E dX4_allowed_80 1 rfl (k_X0_brokenSet hI 1 jx_T1 (jx_up v 6 (Int32.toNatClampNeg x1) x5) r11 v11 hc11) (gb_N tw_221) rfl rfl rfl (ex_m23 (jx_ex E)) (List.mem_cons_of_mem _ tw_49) (List.mem_cons_of_mem _ tw_222) (List.mem_cons_of_mem _ tw_223) dd_X0_brokenSet.2 rfl (Nat.le_of_ble_eq_true rfl) s_X49 rfl ⟨by decide, by decide⟩ ⟨Nat.le_refl 0, Nat.le_refl 0⟩ (Nat.le_of_ble_eq_true rfl) ?_
        obtain ⟨⟨r12, v12⟩, hc12, hF⟩ := jx_bind hF
        try dsimp only at hF
        refine jx_callTi (As := [.int r11]) (st := []) E dX4_allowed_83 1 rfl (k_J6_bitCount_0f7a4 hI r11 v11 r12 v12 hc12) (gb_N tw_254) rfl rfl rfl (List.mem_cons_of_mem _ tw_255) (List.mem_cons_of_mem _ tw_256) (List.mem_cons_of_mem _ tw_257) dd_J6_bitCount_0f7a4.2 rfl ⟨by decide, by decide⟩ ⟨Nat.le_refl 0, Nat.le_refl 0⟩ (Nat.le_of_ble_eq_true rfl) ?_
        refine jx_istore (lv' := [(6, .int r12), (0, .ref (ad 0)), (1, .int x1), (2, .int x2), (3, .int x3), (4, .int x4), (5, .int x5)]) E dX4_allowed_86 (by decide) rfl ?_
        refine jx_iload E dX4_allowed_88 6 rfl ?_
        refine jx_if_ne (tgt := 96) E dX4_allowed_90 (by decide) (fun hc13 => ?_) (fun hc13 => ?_)
        · rw [if_neg hc13] at hF
          refine jx_iload E dX4_allowed_96 0 rfl ?_
          refine jx_iload_n E dX4_allowed_98 4 rfl ?_
          refine jx_icmp_gt (tgt := 106) E dX4_allowed_99 (by decide) (fun hc14 => ?_) (fun hc14 => ?_)
          · rw [if_pos hc14] at hF
            refine jx_iinc (y := (x5 + 1)) (lv' := [(5, .int (x5 + 1)), (6, .int r12), (0, .ref (ad 0)), (1, .int x1), (2, .int x2), (3, .int x3), (4, .int x4)]) E dX4_allowed_106 6 rfl rfl (by decide) rfl ?_
            refine jx_goto (tgt := 52) E dX4_allowed_109 (by decide) ?_
            refine jx_sub [2, 3, 4, 5, 6, 0] rfl ?_
            exact ih x1 x2 x3 x4 (x5 + 1) v12 hF
          · rw [if_neg hc14] at hF
            refine jx_iload E dX4_allowed_102 6 rfl ?_
            refine jx_istore (lv' := [(4, .int x5), (6, .int r12), (0, .ref (ad 0)), (1, .int x1), (2, .int x2), (3, .int x3), (5, .int x5)]) E dX4_allowed_104 (by decide) rfl ?_
            refine jx_iinc (y := (x5 + 1)) (lv' := [(5, .int (x5 + 1)), (4, .int x5), (6, .int r12), (0, .ref (ad 0)), (1, .int x1), (2, .int x2), (3, .int x3)]) E dX4_allowed_106 6 rfl rfl (by decide) rfl ?_
            refine jx_goto (tgt := 52) E dX4_allowed_109 (by decide) ?_
            refine jx_sub [3, 4, 5, 6, 1, 0] rfl ?_
            exact ih x1 x2 x3 x5 (x5 + 1) v12 hF
        · rw [if_pos hc13] at hF
          refine jx_iload E dX4_allowed_93 0 rfl ?_
          refine jx_istore_n (lv' := [(3, .int r12), (6, .int r12), (0, .ref (ad 0)), (1, .int x1), (2, .int x2), (4, .int x4), (5, .int x5)]) E dX4_allowed_95 (by decide) rfl ?_
          refine jx_iload E dX4_allowed_96 1 rfl ?_
          refine jx_iload_n E dX4_allowed_98 0 rfl ?_
          refine jx_icmp_gt (tgt := 106) E dX4_allowed_99 (by decide) (fun hc15 => ?_) (fun hc15 => ?_)
          · rw [if_pos hc15] at hF
            refine jx_iinc (y := (x5 + 1)) (lv' := [(5, .int (x5 + 1)), (3, .int r12), (6, .int r12), (0, .ref (ad 0)), (1, .int x1), (2, .int x2), (4, .int x4)]) E dX4_allowed_106 6 rfl rfl (by decide) rfl ?_
            refine jx_goto (tgt := 52) E dX4_allowed_109 (by decide) ?_
            refine jx_sub [3, 4, 5, 1, 6, 0] rfl ?_
            exact ih x1 x2 r12 x4 (x5 + 1) v12 hF
          · rw [if_neg hc15] at hF
            refine jx_iload E dX4_allowed_102 6 rfl ?_
            refine jx_istore (lv' := [(4, .int x5), (3, .int r12), (6, .int r12), (0, .ref (ad 0)), (1, .int x1), (2, .int x2), (5, .int x5)]) E dX4_allowed_104 (by decide) rfl ?_
            refine jx_iinc (y := (x5 + 1)) (lv' := [(5, .int (x5 + 1)), (4, .int x5), (3, .int r12), (6, .int r12), (0, .ref (ad 0)), (1, .int x1), (2, .int x2)]) E dX4_allowed_106 6 rfl rfl (by decide) rfl ?_
            refine jx_goto (tgt := 52) E dX4_allowed_109 (by decide) ?_
            refine jx_sub [4, 5, 6, 2, 1, 0] rfl ?_
            exact ih x1 x2 r12 x5 (x5 + 1) v12 hF
  refine jx_iload_n E dX4_allowed_0 1 rfl ?_
  refine jx_bipush (x := 25) E dX4_allowed_1 (by decide) ?_
  obtain ⟨⟨r1, v1⟩, hc1, hF⟩ := jx_bind hF
  try dsimp only at hF
  refine jx_callSi (As := [.int x1, .int 25]) (st := []) E dX4_allowed_3 2 rfl (k_X4_within hI x1 25 v r1 v1 hc1) (gb_S (List.mem_cons_of_mem _ tw_188) (List.mem_cons_of_mem _ tw_189) (List.mem_cons_of_mem _ tw_190) tw_187) rfl rfl rfl dd_X4_within rfl ⟨by decide, by decide⟩ ⟨Nat.le_refl 0, Nat.le_refl 0⟩ (Nat.le_of_ble_eq_true rfl) ?_
  refine jx_if_ne (tgt := 15) E dX4_allowed_6 (by decide) (fun hc2 => ?_) (fun hc2 => ?_)
  · rw [if_neg hc2] at hF
    refine jx_aload_n E dX4_allowed_15 0 rfl ?_
    refine jx_getr (C := RX4) (T := TX4) (M := 11) (k := 0) E dX4_allowed_16 (Nat.le_of_ble_eq_true rfl) s_X0 rfl iX4 (by decide) rfl (List.mem_cons_of_mem _ tw_195) rfl ?_
    refine jx_iload_n E dX4_allowed_19 1 rfl ?_
    obtain ⟨⟨r3, v3⟩, hc3, hF⟩ := jx_bind hF
    try dsimp only at hF
    refine jx_callNi (As := [.int x1]) (st := []) (h := 1) E dX4_allowed_20 1 rfl (k_X3_isTaken hI 1 jx_T1 x1 v1 r3 v3 hc3) (gb_N tw_51) rfl rfl rfl (ex_m4 (jx_ex E)) (List.mem_cons_of_mem _ tw_33) (List.mem_cons_of_mem _ tw_52) (List.mem_cons_of_mem _ tw_53) dd_X3_isTaken.2 rfl (Nat.le_of_ble_eq_true rfl) s_X1 rfl ⟨by decide, by decide⟩ ⟨Nat.le_refl 0, Nat.le_refl 0⟩ (Nat.le_of_ble_eq_true rfl) ?_
    refine jx_if_ne (tgt := 32) E dX4_allowed_23 (by decide) (fun hc4 => ?_) (fun hc4 => ?_)
    · rw [if_neg hc4] at hF
      refine jx_aload_n E dX4_allowed_32 0 rfl ?_
      refine jx_getr (C := RX4) (T := TX4) (M := 11) (k := 0) E dX4_allowed_33 (Nat.le_of_ble_eq_true rfl) s_X0 rfl iX4 (by decide) rfl (List.mem_cons_of_mem _ tw_195) rfl ?_
      refine jx_getrN (C := RX3) (T := TX3) (M := 8) (k := 0) E dX4_allowed_36 (Nat.le_of_ble_eq_true rfl) s_X1 rfl iX3 (by decide) rfl (ex_f0 (jx_ex E)) rfl ?_
      refine jx_iconst (x := 2) E dX4_allowed_39 (by decide) ?_
      refine jx_aald (h' := 6) E dX4_allowed_40 (Nat.le_of_ble_eq_true rfl) s_X2 (show ¬ ((2 : Int32) < 0 ∨ 4 ≤ Int32.toNatClampNeg 2) by decide) rfl ?_
      refine jx_iload_n E dX4_allowed_41 1 rfl ?_
      obtain ⟨hg5, hF⟩ := jx_guard hF
      refine jx_iald (h := 6) (j := (Int32.toNatClampNeg x1)) E dX4_allowed_42 (Nat.le_of_ble_eq_true rfl) s_X6 hg5 rfl ?_
      refine jx_istore_n (lv' := [(2, .int (v3 6 (Int32.toNatClampNeg x1))), (0, .ref (ad 0)), (1, .int x1)]) E dX4_allowed_43 (by decide) rfl ?_
      refine jx_iconst (x := 0) E dX4_allowed_44 (by decide) ?_
      refine jx_istore_n (lv' := [(3, .int 0), (2, .int (v3 6 (Int32.toNatClampNeg x1))), (0, .ref (ad 0)), (1, .int x1)]) E dX4_allowed_45 (by decide) rfl ?_
      refine jx_iconst (x := 0) E dX4_allowed_46 (by decide) ?_
      refine jx_istore (lv' := [(4, .int 0), (3, .int 0), (2, .int (v3 6 (Int32.toNatClampNeg x1))), (0, .ref (ad 0)), (1, .int x1)]) E dX4_allowed_47 (by decide) rfl ?_
      refine jx_iconst (x := 0) E dX4_allowed_49 (by decide) ?_
      refine jx_istore (lv' := [(5, .int 0), (4, .int 0), (3, .int 0), (2, .int (v3 6 (Int32.toNatClampNeg x1))), (0, .ref (ad 0)), (1, .int x1)]) E dX4_allowed_50 (by decide) rfl ?_
      refine jx_sub [4, 5, 3, 2, 1, 0] rfl ?_
      exact (key 100000) x1 (v3 6 (Int32.toNatClampNeg x1)) 0 0 0 v3 hF
    · rw [if_pos hc4] at hF
      refine jx_aload_n E dX4_allowed_26 0 rfl ?_
      refine jx_iconst (x := 3) E dX4_allowed_27 (by decide) ?_
      obtain ⟨⟨r6, v6⟩, hc6, hF⟩ := jx_bind hF
      try dsimp only at hF
      refine jx_callVi (As := [.int 3]) (st := []) (h := 0) E dX4_allowed_28 1 rfl (k_X4_finding hI 3 v3 r6 v6 hc6) (gb_V (List.mem_cons_of_mem _ tw_192) (List.mem_cons_of_mem _ tw_193) (List.mem_cons_of_mem _ tw_194) (List.mem_cons_of_mem _ tw_190) tw_191) rfl rfl rfl dd_X4_finding rfl (Nat.le_of_ble_eq_true rfl) s_X0 rfl ⟨by decide, by decide⟩ ⟨Nat.le_refl 0, Nat.le_refl 0⟩ (Nat.le_of_ble_eq_true rfl) ?_
      obtain ⟨rfl, rfl⟩ := jx_out hF
      exact jx_iret E dX4_allowed_31 rfl
  · rw [if_pos hc2] at hF
    refine jx_aload_n E dX4_allowed_9 0 rfl ?_
    refine jx_iconst (x := 0) E dX4_allowed_10 (by decide) ?_
    obtain ⟨⟨r7, v7⟩, hc7, hF⟩ := jx_bind hF
    try dsimp only at hF
    refine jx_callVi (As := [.int 0]) (st := []) (h := 0) E dX4_allowed_11 1 rfl (k_X4_finding hI 0 v1 r7 v7 hc7) (gb_V (List.mem_cons_of_mem _ tw_192) (List.mem_cons_of_mem _ tw_193) (List.mem_cons_of_mem _ tw_194) (List.mem_cons_of_mem _ tw_190) tw_191) rfl rfl rfl dd_X4_finding rfl (Nat.le_of_ble_eq_true rfl) s_X0 rfl ⟨by decide, by decide⟩ ⟨Nat.le_refl 0, Nat.le_refl 0⟩ (Nat.le_of_ble_eq_true rfl) ?_
    obtain ⟨rfl, rfl⟩ := jx_out hF
    exact jx_iret E dX4_allowed_14 rfl
def f_X4_opens_L  : Nat → Int32 → Int32 → Int32 → Int32 → jx_V → Option (Int32 × jx_V)
  | 0, _, _, _, _, _ => none
  | n + 1, x1, x2, x3, x4, v => (if (v 1 5) ≤ x4 then (some (x3, v)) else ((f_X0_squaresInView 1 x4 v).bind (fun (r9, v9) => ((f_X3_takeOff 1 x1 v9).bind (fun v10 => ((f_X0_squaresInView 1 x4 v10).bind (fun (r11, v11) => (if r11 ≤ r9 then (if (x1 < 0 ∨ 25 ≤ Int32.toNatClampNeg x1) then none else (f_X4_opens_L n x1 x2 x3 (x4 + 1) (jx_up v11 4 (Int32.toNatClampNeg x1) x2))) else (if (x1 < 0 ∨ 25 ≤ Int32.toNatClampNeg x1) then none else (f_X4_opens_L n x1 x2 (x3 ||| (1 <<< (x4 &&& 31))) (x4 + 1) (jx_up v11 4 (Int32.toNatClampNeg x1) x2)))))))))))
def f_X4_opens (x1 : Int32) (v : jx_V) : Option (Int32 × jx_V) := ((f_X4_within x1 25 v).bind (fun (r1, v1) => (if r1 = 0 then ((f_X4_finding 0 v1).bind (fun (r7, v7) => (some (r7, v7)))) else ((f_X3_isTaken 1 x1 v1).bind (fun (r3, v3) => (if r3 = 0 then ((f_X4_finding 3 v3).bind (fun (r6, v6) => (some (r6, v6)))) else (if (x1 < 0 ∨ 25 ≤ Int32.toNatClampNeg x1) then none else (f_X4_opens_L 100000 x1 (v3 4 (Int32.toNatClampNeg x1)) 0 0 v3))))))))
def rm_X4_opens : Room := { frames := 4, cells := 0, slots := 0, locals := 97 }
set_option maxHeartbeats 4000000 in
set_option maxRecDepth 100000 in
theorem k_X4_opens {l : Launch} {D : va_G} {cI cJ : ClassId} {ad : Nat → Nat} {A : Nat → Prop} {adK adV : Nat → Nat} (hI : jx_inj 67 ad A) (x1 : Int32) (v : jx_V) (r : Int32) (v' : jx_V) (hF : f_X4_opens x1 v = some (r, v')) : jx_Ci l D vwCl 67 cI cJ ad shX A (ex_X adK adV A) yX4_opens (Cond.code yX4_opens cX4_opens 6 (some .int) :: bigT) rm_X4_opens [.ref (ad 0), .int x1] v r v' := by
  unfold f_X4_opens at hF
  refine jx_enteri bigT RX4 cX4_opens 6 (some .int) [(0, .ref (ad 0)), (1, .int x1)] hI (ex_X_ok adK adV A) (by decide +kernel) rfl (Nat.le_of_ble_eq_true rfl) rfl rfl ?_
  intro p e s m args below meth c E
  have iX3 : ∀ w ∈ u_ws RX3 TX3 8, w ∈ (Cond.code yX4_opens cX4_opens 6 (some .int) :: bigT) := fun w h => List.mem_cons_of_mem _ (uw_X3 w h)
  have iX4 : ∀ w ∈ u_ws RX4 TX4 11, w ∈ (Cond.code yX4_opens cX4_opens 6 (some .int) :: bigT) := fun w h => List.mem_cons_of_mem _ (uw_X4 w h)
  have key : ∀ n : Nat, (∀ (x1 : Int32) (x2 : Int32) (x3 : Int32) (x4 : Int32) (v : jx_V), f_X4_opens_L  n  x1 x2 x3 x4 v = some (r, v') → jx_J p l e rm_X4_opens s m args below meth c D vwCl 67 cI cJ ad shX A 0 0 6 (MQ below (va_Qi (fun (r1 : Int32) (_ : Unit) => r1 = r) (fun _ t => va_P D vwCl (jx_ws 67 cI cJ ad shX v') t.heap) A) args s 0 0 A) v 49 [(0, .ref (ad 0)), (1, .int x1), (2, .int x2), (3, .int x3), (4, .int x4)] []) := by
    intro n
    induction n with
    | zero =>
      exact (fun _ _ _ _ _ h => by cases h)
    | succ n ih =>
      intro x1 x2 x3 x4 v hF
      rw [f_X4_opens_L] at hF
      refine jx_iload E dX4_opens_49 4 rfl ?_
      refine jx_aload_n E dX4_opens_51 0 rfl ?_
      refine jx_getr (C := RX4) (T := TX4) (M := 11) (k := 0) E dX4_opens_52 (Nat.le_of_ble_eq_true rfl) s_X0 rfl iX4 (by decide) rfl (List.mem_cons_of_mem _ tw_195) rfl ?_
      refine jx_getiN (C := RX3) (T := TX3) (M := 8) (k := 5) E dX4_opens_55 (Nat.le_of_ble_eq_true rfl) s_X1 rfl iX3 (by decide) rfl (ex_f10 (jx_ex E)) rfl ?_
      refine jx_icmp_ge (tgt := 127) E dX4_opens_58 (by decide) (fun hc8 => ?_) (fun hc8 => ?_)
      · rw [if_pos hc8] at hF
        refine jx_iload_n E dX4_opens_127 3 rfl ?_
        obtain ⟨rfl, rfl⟩ := jx_out hF
        exact jx_iret E dX4_opens_128 rfl
      · rw [if_neg hc8] at hF
        refine jx_aload_n E dX4_opens_61 0 rfl ?_
        refine jx_getr (C := RX4) (T := TX4) (M := 11) (k := 3) E dX4_opens_62 (Nat.le_of_ble_eq_true rfl) s_X0 rfl iX4 (by decide) rfl (List.mem_cons_of_mem _ tw_209) rfl ?_
        refine jx_aload_n E dX4_opens_65 0 rfl ?_
        refine jx_getr (C := RX4) (T := TX4) (M := 11) (k := 0) E dX4_opens_66 (Nat.le_of_ble_eq_true rfl) s_X0 rfl iX4 (by decide) rfl (List.mem_cons_of_mem _ tw_195) rfl ?_
        refine jx_iload E dX4_opens_69 4 rfl ?_
        obtain ⟨⟨r9, v9⟩, hc9, hF⟩ := jx_bind hF
        try dsimp only at hF
        refine jx_callNi (As := [.ref (ad 1), .int x4]) (st := []) (h := 49) E dX4_opens_71 2 rfl (k_X0_squaresInView hI 1 jx_T1 x4 v r9 v9 hc9) (gb_N tw_69) rfl rfl rfl (ex_m17 (jx_ex E)) (List.mem_cons_of_mem _ tw_49) (List.mem_cons_of_mem _ tw_71) (List.mem_cons_of_mem _ tw_72) dd_X0_squaresInView.2 rfl (Nat.le_of_ble_eq_true rfl) s_X49 rfl ⟨by decide, by decide⟩ ⟨Nat.le_refl 0, Nat.le_refl 0⟩ (Nat.le_of_ble_eq_true rfl) ?_
        refine jx_istore (lv' := [(5, .int r9), (0, .ref (ad 0)), (1, .int x1), (2, .int x2), (3, .int x3), (4, .int x4)]) E dX4_opens_74 (by decide) rfl ?_
        refine jx_aload_n E dX4_opens_76 1 rfl ?_
        refine jx_getr (C := RX4) (T := TX4) (M := 11) (k := 0) E dX4_opens_77 (Nat.le_of_ble_eq_true rfl) s_X0 rfl iX4 (by decide) rfl (List.mem_cons_of_mem _ tw_195) rfl ?_
        refine jx_iload_n E dX4_opens_80 2 rfl ?_
        obtain ⟨v10, hc10, hF⟩ := jx_bind hF
        try dsimp only at hF
        refine jx_callNv (As := [.int x1]) (st := []) (h := 1) E dX4_opens_81 1 rfl (k_X3_takeOff hI 1 jx_T1 x1 v9 v10 hc10) (gb_N tw_145) rfl rfl rfl (ex_m7 (jx_ex E)) (List.mem_cons_of_mem _ tw_33) (List.mem_cons_of_mem _ tw_146) (List.mem_cons_of_mem _ tw_147) dd_X3_takeOff.2 rfl (Nat.le_of_ble_eq_true rfl) s_X1 rfl ⟨by decide, by decide⟩ ⟨Nat.le_refl 0, Nat.le_refl 0⟩ (Nat.le_of_ble_eq_true rfl) ?_
        refine jx_aload_n E dX4_opens_84 1 rfl ?_
        refine jx_getr (C := RX4) (T := TX4) (M := 11) (k := 3) E dX4_opens_85 (Nat.le_of_ble_eq_true rfl) s_X0 rfl iX4 (by decide) rfl (List.mem_cons_of_mem _ tw_209) rfl ?_
        refine jx_aload_n E dX4_opens_88 1 rfl ?_
        refine jx_getr (C := RX4) (T := TX4) (M := 11) (k := 0) E dX4_opens_89 (Nat.le_of_ble_eq_true rfl) s_X0 rfl iX4 (by decide) rfl (List.mem_cons_of_mem _ tw_195) rfl ?_
        refine jx_iload E dX4_opens_92 5 rfl ?_
        obtain ⟨⟨r11, v11⟩, hc11, hF⟩ := jx_bind hF
        try dsimp only at hF
        refine jx_callNi (As := [.ref (ad 1), .int x4]) (st := []) (h := 49) E dX4_opens_94 2 rfl (k_X0_squaresInView hI 1 jx_T1 x4 v10 r11 v11 hc11) (gb_N tw_69) rfl rfl rfl (ex_m17 (jx_ex E)) (List.mem_cons_of_mem _ tw_49) (List.mem_cons_of_mem _ tw_71) (List.mem_cons_of_mem _ tw_72) dd_X0_squaresInView.2 rfl (Nat.le_of_ble_eq_true rfl) s_X49 rfl ⟨by decide, by decide⟩ ⟨Nat.le_refl 0, Nat.le_refl 0⟩ (Nat.le_of_ble_eq_true rfl) ?_
        refine jx_iload E dX4_opens_97 0 rfl ?_
        refine jx_icmp_le (tgt := 109) E dX4_opens_99 (by decide) (fun hc12 => ?_) (fun hc12 => ?_)
        · rw [if_pos hc12] at hF
          refine jx_aload_n E dX4_opens_109 1 rfl ?_
          refine jx_getr (C := RX4) (T := TX4) (M := 11) (k := 0) E dX4_opens_110 (Nat.le_of_ble_eq_true rfl) s_X0 rfl iX4 (by decide) rfl (List.mem_cons_of_mem _ tw_195) rfl ?_
          refine jx_getrN (C := RX3) (T := TX3) (M := 8) (k := 0) E dX4_opens_113 (Nat.le_of_ble_eq_true rfl) s_X1 rfl iX3 (by decide) rfl (ex_f0 (jx_ex E)) rfl ?_
          refine jx_iconst (x := 0) E dX4_opens_116 (by decide) ?_
          refine jx_aald (h' := 4) E dX4_opens_117 (Nat.le_of_ble_eq_true rfl) s_X2 (show ¬ ((0 : Int32) < 0 ∨ 4 ≤ Int32.toNatClampNeg 0) by decide) rfl ?_
          refine jx_iload_n E dX4_opens_118 2 rfl ?_
          refine jx_iload_n E dX4_opens_119 3 rfl ?_
          obtain ⟨hg13, hF⟩ := jx_guard hF
          refine jx_iast (h := 4) (j := (Int32.toNatClampNeg x1)) E dX4_opens_120 (Nat.le_of_ble_eq_true rfl) s_X4 hg13 rfl ?_
          refine jx_iinc (y := (x4 + 1)) (lv' := [(4, .int (x4 + 1)), (5, .int r9), (0, .ref (ad 0)), (1, .int x1), (2, .int x2), (3, .int x3)]) E dX4_opens_121 5 rfl rfl (by decide) rfl ?_
          refine jx_goto (tgt := 49) E dX4_opens_124 (by decide) ?_
          refine jx_sub [2, 3, 4, 5, 0] rfl ?_
          exact ih x1 x2 x3 (x4 + 1) (jx_up v11 4 (Int32.toNatClampNeg x1) x2) hF
        · rw [if_neg hc12] at hF
          refine jx_iload_n E dX4_opens_102 4 rfl ?_
          refine jx_iconst (x := 1) E dX4_opens_103 (by decide) ?_
          refine jx_iload E dX4_opens_104 5 rfl ?_
          refine jx_ishl E dX4_opens_106 ?_
          refine jx_ior E dX4_opens_107 ?_
          refine jx_istore_n (lv' := [(3, .int (x3 ||| (1 <<< (x4 &&& 31)))), (5, .int r9), (0, .ref (ad 0)), (1, .int x1), (2, .int x2), (4, .int x4)]) E dX4_opens_108 (by decide) rfl ?_
          refine jx_aload_n E dX4_opens_109 2 rfl ?_
          refine jx_getr (C := RX4) (T := TX4) (M := 11) (k := 0) E dX4_opens_110 (Nat.le_of_ble_eq_true rfl) s_X0 rfl iX4 (by decide) rfl (List.mem_cons_of_mem _ tw_195) rfl ?_
          refine jx_getrN (C := RX3) (T := TX3) (M := 8) (k := 0) E dX4_opens_113 (Nat.le_of_ble_eq_true rfl) s_X1 rfl iX3 (by decide) rfl (ex_f0 (jx_ex E)) rfl ?_
          refine jx_iconst (x := 0) E dX4_opens_116 (by decide) ?_
          refine jx_aald (h' := 4) E dX4_opens_117 (Nat.le_of_ble_eq_true rfl) s_X2 (show ¬ ((0 : Int32) < 0 ∨ 4 ≤ Int32.toNatClampNeg 0) by decide) rfl ?_
          refine jx_iload_n E dX4_opens_118 3 rfl ?_
          refine jx_iload_n E dX4_opens_119 4 rfl ?_
          obtain ⟨hg14, hF⟩ := jx_guard hF
          refine jx_iast (h := 4) (j := (Int32.toNatClampNeg x1)) E dX4_opens_120 (Nat.le_of_ble_eq_true rfl) s_X4 hg14 rfl ?_
          refine jx_iinc (y := (x4 + 1)) (lv' := [(4, .int (x4 + 1)), (3, .int (x3 ||| (1 <<< (x4 &&& 31)))), (5, .int r9), (0, .ref (ad 0)), (1, .int x1), (2, .int x2)]) E dX4_opens_121 5 rfl rfl (by decide) rfl ?_
          refine jx_goto (tgt := 49) E dX4_opens_124 (by decide) ?_
          refine jx_sub [3, 4, 5, 1, 0] rfl ?_
          exact ih x1 x2 (x3 ||| (1 <<< (x4 &&& 31))) (x4 + 1) (jx_up v11 4 (Int32.toNatClampNeg x1) x2) hF
  refine jx_iload_n E dX4_opens_0 1 rfl ?_
  refine jx_bipush (x := 25) E dX4_opens_1 (by decide) ?_
  obtain ⟨⟨r1, v1⟩, hc1, hF⟩ := jx_bind hF
  try dsimp only at hF
  refine jx_callSi (As := [.int x1, .int 25]) (st := []) E dX4_opens_3 2 rfl (k_X4_within hI x1 25 v r1 v1 hc1) (gb_S (List.mem_cons_of_mem _ tw_188) (List.mem_cons_of_mem _ tw_189) (List.mem_cons_of_mem _ tw_190) tw_187) rfl rfl rfl dd_X4_within rfl ⟨by decide, by decide⟩ ⟨Nat.le_refl 0, Nat.le_refl 0⟩ (Nat.le_of_ble_eq_true rfl) ?_
  refine jx_if_ne (tgt := 15) E dX4_opens_6 (by decide) (fun hc2 => ?_) (fun hc2 => ?_)
  · rw [if_neg hc2] at hF
    refine jx_aload_n E dX4_opens_15 0 rfl ?_
    refine jx_getr (C := RX4) (T := TX4) (M := 11) (k := 0) E dX4_opens_16 (Nat.le_of_ble_eq_true rfl) s_X0 rfl iX4 (by decide) rfl (List.mem_cons_of_mem _ tw_195) rfl ?_
    refine jx_iload_n E dX4_opens_19 1 rfl ?_
    obtain ⟨⟨r3, v3⟩, hc3, hF⟩ := jx_bind hF
    try dsimp only at hF
    refine jx_callNi (As := [.int x1]) (st := []) (h := 1) E dX4_opens_20 1 rfl (k_X3_isTaken hI 1 jx_T1 x1 v1 r3 v3 hc3) (gb_N tw_51) rfl rfl rfl (ex_m4 (jx_ex E)) (List.mem_cons_of_mem _ tw_33) (List.mem_cons_of_mem _ tw_52) (List.mem_cons_of_mem _ tw_53) dd_X3_isTaken.2 rfl (Nat.le_of_ble_eq_true rfl) s_X1 rfl ⟨by decide, by decide⟩ ⟨Nat.le_refl 0, Nat.le_refl 0⟩ (Nat.le_of_ble_eq_true rfl) ?_
    refine jx_if_ne (tgt := 32) E dX4_opens_23 (by decide) (fun hc4 => ?_) (fun hc4 => ?_)
    · rw [if_neg hc4] at hF
      refine jx_aload_n E dX4_opens_32 0 rfl ?_
      refine jx_getr (C := RX4) (T := TX4) (M := 11) (k := 0) E dX4_opens_33 (Nat.le_of_ble_eq_true rfl) s_X0 rfl iX4 (by decide) rfl (List.mem_cons_of_mem _ tw_195) rfl ?_
      refine jx_getrN (C := RX3) (T := TX3) (M := 8) (k := 0) E dX4_opens_36 (Nat.le_of_ble_eq_true rfl) s_X1 rfl iX3 (by decide) rfl (ex_f0 (jx_ex E)) rfl ?_
      refine jx_iconst (x := 0) E dX4_opens_39 (by decide) ?_
      refine jx_aald (h' := 4) E dX4_opens_40 (Nat.le_of_ble_eq_true rfl) s_X2 (show ¬ ((0 : Int32) < 0 ∨ 4 ≤ Int32.toNatClampNeg 0) by decide) rfl ?_
      refine jx_iload_n E dX4_opens_41 1 rfl ?_
      obtain ⟨hg5, hF⟩ := jx_guard hF
      refine jx_iald (h := 4) (j := (Int32.toNatClampNeg x1)) E dX4_opens_42 (Nat.le_of_ble_eq_true rfl) s_X4 hg5 rfl ?_
      refine jx_istore_n (lv' := [(2, .int (v3 4 (Int32.toNatClampNeg x1))), (0, .ref (ad 0)), (1, .int x1)]) E dX4_opens_43 (by decide) rfl ?_
      refine jx_iconst (x := 0) E dX4_opens_44 (by decide) ?_
      refine jx_istore_n (lv' := [(3, .int 0), (2, .int (v3 4 (Int32.toNatClampNeg x1))), (0, .ref (ad 0)), (1, .int x1)]) E dX4_opens_45 (by decide) rfl ?_
      refine jx_iconst (x := 0) E dX4_opens_46 (by decide) ?_
      refine jx_istore (lv' := [(4, .int 0), (3, .int 0), (2, .int (v3 4 (Int32.toNatClampNeg x1))), (0, .ref (ad 0)), (1, .int x1)]) E dX4_opens_47 (by decide) rfl ?_
      refine jx_sub [3, 4, 2, 1, 0] rfl ?_
      exact (key 100000) x1 (v3 4 (Int32.toNatClampNeg x1)) 0 0 v3 hF
    · rw [if_pos hc4] at hF
      refine jx_aload_n E dX4_opens_26 0 rfl ?_
      refine jx_iconst (x := 3) E dX4_opens_27 (by decide) ?_
      obtain ⟨⟨r6, v6⟩, hc6, hF⟩ := jx_bind hF
      try dsimp only at hF
      refine jx_callVi (As := [.int 3]) (st := []) (h := 0) E dX4_opens_28 1 rfl (k_X4_finding hI 3 v3 r6 v6 hc6) (gb_V (List.mem_cons_of_mem _ tw_192) (List.mem_cons_of_mem _ tw_193) (List.mem_cons_of_mem _ tw_194) (List.mem_cons_of_mem _ tw_190) tw_191) rfl rfl rfl dd_X4_finding rfl (Nat.le_of_ble_eq_true rfl) s_X0 rfl ⟨by decide, by decide⟩ ⟨Nat.le_refl 0, Nat.le_refl 0⟩ (Nat.le_of_ble_eq_true rfl) ?_
      obtain ⟨rfl, rfl⟩ := jx_out hF
      exact jx_iret E dX4_opens_31 rfl
  · rw [if_pos hc2] at hF
    refine jx_aload_n E dX4_opens_9 0 rfl ?_
    refine jx_iconst (x := 0) E dX4_opens_10 (by decide) ?_
    obtain ⟨⟨r7, v7⟩, hc7, hF⟩ := jx_bind hF
    try dsimp only at hF
    refine jx_callVi (As := [.int 0]) (st := []) (h := 0) E dX4_opens_11 1 rfl (k_X4_finding hI 0 v1 r7 v7 hc7) (gb_V (List.mem_cons_of_mem _ tw_192) (List.mem_cons_of_mem _ tw_193) (List.mem_cons_of_mem _ tw_194) (List.mem_cons_of_mem _ tw_190) tw_191) rfl rfl rfl dd_X4_finding rfl (Nat.le_of_ble_eq_true rfl) s_X0 rfl ⟨by decide, by decide⟩ ⟨Nat.le_refl 0, Nat.le_refl 0⟩ (Nat.le_of_ble_eq_true rfl) ?_
    obtain ⟨rfl, rfl⟩ := jx_out hF
    exact jx_iret E dX4_opens_14 rfl
def f_X4_level_L  : Nat → Int32 → Int32 → Int32 → Int32 → Int32 → jx_V → Option (Int32 × jx_V)
  | 0, _, _, _, _, _, _ => none
  | n + 1, x1, x2, x3, x4, x5, v => (if 10 ≤ x5 then (if (x1 < 0 ∨ 10 ≤ Int32.toNatClampNeg x1) then none else (some (x3, (jx_up v 9 (Int32.toNatClampNeg x1) x2)))) else (if (x1 < 0 ∨ 10 ≤ Int32.toNatClampNeg x1) then none else ((f_X0_squaresInView 1 x1 (jx_up v 9 (Int32.toNatClampNeg x1) x5)).bind (fun (r8, v8) => (if r8 ≤ x4 then (f_X4_level_L n x1 x2 x3 x4 (x5 + 1) v8) else (f_X4_level_L n x1 x2 x5 r8 (x5 + 1) v8))))))
def f_X4_level (x1 : Int32) (v : jx_V) : Option (Int32 × jx_V) := ((f_X4_isWindow x1 v).bind (fun (r1, v1) => (if r1 = 0 then ((f_X4_finding 0 v1).bind (fun (r4, v4) => (some (r4, v4)))) else (if (x1 < 0 ∨ 10 ≤ Int32.toNatClampNeg x1) then none else (f_X4_level_L 100000 x1 (v1 9 (Int32.toNatClampNeg x1)) 0 (-1) 0 v1)))))
def rm_X4_level : Room := { frames := 4, cells := 0, slots := 0, locals := 97 }
set_option maxHeartbeats 4000000 in
set_option maxRecDepth 100000 in
theorem k_X4_level {l : Launch} {D : va_G} {cI cJ : ClassId} {ad : Nat → Nat} {A : Nat → Prop} {adK adV : Nat → Nat} (hI : jx_inj 67 ad A) (x1 : Int32) (v : jx_V) (r : Int32) (v' : jx_V) (hF : f_X4_level x1 v = some (r, v')) : jx_Ci l D vwCl 67 cI cJ ad shX A (ex_X adK adV A) yX4_level (Cond.code yX4_level cX4_level 7 (some .int) :: bigT) rm_X4_level [.ref (ad 0), .int x1] v r v' := by
  unfold f_X4_level at hF
  refine jx_enteri bigT RX4 cX4_level 7 (some .int) [(0, .ref (ad 0)), (1, .int x1)] hI (ex_X_ok adK adV A) (by decide +kernel) rfl (Nat.le_of_ble_eq_true rfl) rfl rfl ?_
  intro p e s m args below meth c E
  have iX3 : ∀ w ∈ u_ws RX3 TX3 8, w ∈ (Cond.code yX4_level cX4_level 7 (some .int) :: bigT) := fun w h => List.mem_cons_of_mem _ (uw_X3 w h)
  have iX4 : ∀ w ∈ u_ws RX4 TX4 11, w ∈ (Cond.code yX4_level cX4_level 7 (some .int) :: bigT) := fun w h => List.mem_cons_of_mem _ (uw_X4 w h)
  have key : ∀ n : Nat, (∀ (x1 : Int32) (x2 : Int32) (x3 : Int32) (x4 : Int32) (x5 : Int32) (v : jx_V), f_X4_level_L  n  x1 x2 x3 x4 x5 v = some (r, v') → jx_J p l e rm_X4_level s m args below meth c D vwCl 67 cI cJ ad shX A 0 0 7 (MQ below (va_Qi (fun (r1 : Int32) (_ : Unit) => r1 = r) (fun _ t => va_P D vwCl (jx_ws 67 cI cJ ad shX v') t.heap) A) args s 0 0 A) v 34 [(0, .ref (ad 0)), (1, .int x1), (2, .int x2), (3, .int x3), (4, .int x4), (5, .int x5)] []) := by
    intro n
    induction n with
    | zero =>
      exact (fun _ _ _ _ _ _ h => by cases h)
    | succ n ih =>
      intro x1 x2 x3 x4 x5 v hF
      rw [f_X4_level_L] at hF
      refine jx_iload E dX4_level_34 5 rfl ?_
      refine jx_bipush (x := 10) E dX4_level_36 (by decide) ?_
      refine jx_icmp_ge (tgt := 88) E dX4_level_38 (by decide) (fun hc5 => ?_) (fun hc5 => ?_)
      · rw [if_pos hc5] at hF
        refine jx_aload_n E dX4_level_88 0 rfl ?_
        refine jx_getr (C := RX4) (T := TX4) (M := 11) (k := 0) E dX4_level_89 (Nat.le_of_ble_eq_true rfl) s_X0 rfl iX4 (by decide) rfl (List.mem_cons_of_mem _ tw_195) rfl ?_
        refine jx_getrN (C := RX3) (T := TX3) (M := 8) (k := 1) E dX4_level_92 (Nat.le_of_ble_eq_true rfl) s_X1 rfl iX3 (by decide) rfl (ex_f3 (jx_ex E)) rfl ?_
        refine jx_iconst (x := 1) E dX4_level_95 (by decide) ?_
        refine jx_aald (h' := 9) E dX4_level_96 (Nat.le_of_ble_eq_true rfl) s_X3 (show ¬ ((1 : Int32) < 0 ∨ 6 ≤ Int32.toNatClampNeg 1) by decide) rfl ?_
        refine jx_iload_n E dX4_level_97 1 rfl ?_
        refine jx_iload_n E dX4_level_98 2 rfl ?_
        obtain ⟨hg6, hF⟩ := jx_guard hF
        refine jx_iast (h := 9) (j := (Int32.toNatClampNeg x1)) E dX4_level_99 (Nat.le_of_ble_eq_true rfl) s_X9 hg6 rfl ?_
        refine jx_iload_n E dX4_level_100 3 rfl ?_
        obtain ⟨rfl, rfl⟩ := jx_out hF
        exact jx_iret E dX4_level_101 rfl
      · rw [if_neg hc5] at hF
        refine jx_aload_n E dX4_level_41 0 rfl ?_
        refine jx_getr (C := RX4) (T := TX4) (M := 11) (k := 0) E dX4_level_42 (Nat.le_of_ble_eq_true rfl) s_X0 rfl iX4 (by decide) rfl (List.mem_cons_of_mem _ tw_195) rfl ?_
        refine jx_getrN (C := RX3) (T := TX3) (M := 8) (k := 1) E dX4_level_45 (Nat.le_of_ble_eq_true rfl) s_X1 rfl iX3 (by decide) rfl (ex_f3 (jx_ex E)) rfl ?_
        refine jx_iconst (x := 1) E dX4_level_48 (by decide) ?_
        refine jx_aald (h' := 9) E dX4_level_49 (Nat.le_of_ble_eq_true rfl) s_X3 (show ¬ ((1 : Int32) < 0 ∨ 6 ≤ Int32.toNatClampNeg 1) by decide) rfl ?_
        refine jx_iload_n E dX4_level_50 1 rfl ?_
        refine jx_iload E dX4_level_51 5 rfl ?_
        obtain ⟨hg7, hF⟩ := jx_guard hF
        refine jx_iast (h := 9) (j := (Int32.toNatClampNeg x1)) E dX4_level_53 (Nat.le_of_ble_eq_true rfl) s_X9 hg7 rfl ?_
        refine jx_aload_n E dX4_level_54 0 rfl ?_
        refine jx_getr (C := RX4) (T := TX4) (M := 11) (k := 3) E dX4_level_55 (Nat.le_of_ble_eq_true rfl) s_X0 rfl iX4 (by decide) rfl (List.mem_cons_of_mem _ tw_209) rfl ?_
        refine jx_aload_n E dX4_level_58 0 rfl ?_
        refine jx_getr (C := RX4) (T := TX4) (M := 11) (k := 0) E dX4_level_59 (Nat.le_of_ble_eq_true rfl) s_X0 rfl iX4 (by decide) rfl (List.mem_cons_of_mem _ tw_195) rfl ?_
        refine jx_iload_n E dX4_level_62 1 rfl ?_
        obtain ⟨⟨r8, v8⟩, hc8, hF⟩ := jx_bind hF
        try dsimp only at hF
        refine jx_callNi (As := [.ref (ad 1), .int x1]) (st := []) (h := 49) E dX4_level_63 2 rfl (k_X0_squaresInView hI 1 jx_T1 x1 (jx_up v 9 (Int32.toNatClampNeg x1) x5) r8 v8 hc8) (gb_N tw_69) rfl rfl rfl (ex_m17 (jx_ex E)) (List.mem_cons_of_mem _ tw_49) (List.mem_cons_of_mem _ tw_71) (List.mem_cons_of_mem _ tw_72) dd_X0_squaresInView.2 rfl (Nat.le_of_ble_eq_true rfl) s_X49 rfl ⟨by decide, by decide⟩ ⟨Nat.le_refl 0, Nat.le_refl 0⟩ (Nat.le_of_ble_eq_true rfl) ?_
        refine jx_istore (lv' := [(6, .int r8), (0, .ref (ad 0)), (1, .int x1), (2, .int x2), (3, .int x3), (4, .int x4), (5, .int x5)]) E dX4_level_66 (by decide) rfl ?_
        refine jx_iload E dX4_level_68 0 rfl ?_
        refine jx_iload E dX4_level_70 5 rfl ?_
        refine jx_icmp_le (tgt := 82) E dX4_level_72 (by decide) (fun hc9 => ?_) (fun hc9 => ?_)
        · rw [if_pos hc9] at hF
          refine jx_iinc (y := (x5 + 1)) (lv' := [(5, .int (x5 + 1)), (6, .int r8), (0, .ref (ad 0)), (1, .int x1), (2, .int x2), (3, .int x3), (4, .int x4)]) E dX4_level_82 6 rfl rfl (by decide) rfl ?_
          refine jx_goto (tgt := 34) E dX4_level_85 (by decide) ?_
          refine jx_sub [2, 3, 4, 5, 6, 0] rfl ?_
          exact ih x1 x2 x3 x4 (x5 + 1) v8 hF
        · rw [if_neg hc9] at hF
          refine jx_iload E dX4_level_75 0 rfl ?_
          refine jx_istore (lv' := [(4, .int r8), (6, .int r8), (0, .ref (ad 0)), (1, .int x1), (2, .int x2), (3, .int x3), (5, .int x5)]) E dX4_level_77 (by decide) rfl ?_
          refine jx_iload E dX4_level_79 6 rfl ?_
          refine jx_istore_n (lv' := [(3, .int x5), (4, .int r8), (6, .int r8), (0, .ref (ad 0)), (1, .int x1), (2, .int x2), (5, .int x5)]) E dX4_level_81 (by decide) rfl ?_
          refine jx_iinc (y := (x5 + 1)) (lv' := [(5, .int (x5 + 1)), (3, .int x5), (4, .int r8), (6, .int r8), (0, .ref (ad 0)), (1, .int x1), (2, .int x2)]) E dX4_level_82 6 rfl rfl (by decide) rfl ?_
          refine jx_goto (tgt := 34) E dX4_level_85 (by decide) ?_
          refine jx_sub [4, 5, 6, 1, 2, 0] rfl ?_
          exact ih x1 x2 x5 r8 (x5 + 1) v8 hF
  refine jx_aload_n E dX4_level_0 0 rfl ?_
  refine jx_iload_n E dX4_level_1 1 rfl ?_
  obtain ⟨⟨r1, v1⟩, hc1, hF⟩ := jx_bind hF
  try dsimp only at hF
  refine jx_callVi (As := [.int x1]) (st := []) (h := 0) E dX4_level_2 1 rfl (k_X4_isWindow hI x1 v r1 v1 hc1) (gb_V (List.mem_cons_of_mem _ tw_203) (List.mem_cons_of_mem _ tw_204) (List.mem_cons_of_mem _ tw_205) (List.mem_cons_of_mem _ tw_190) tw_202) rfl rfl rfl dd_X4_isWindow rfl (Nat.le_of_ble_eq_true rfl) s_X0 rfl ⟨by decide, by decide⟩ ⟨Nat.le_refl 0, Nat.le_refl 0⟩ (Nat.le_of_ble_eq_true rfl) ?_
  refine jx_if_ne (tgt := 14) E dX4_level_5 (by decide) (fun hc2 => ?_) (fun hc2 => ?_)
  · rw [if_neg hc2] at hF
    refine jx_aload_n E dX4_level_14 0 rfl ?_
    refine jx_getr (C := RX4) (T := TX4) (M := 11) (k := 0) E dX4_level_15 (Nat.le_of_ble_eq_true rfl) s_X0 rfl iX4 (by decide) rfl (List.mem_cons_of_mem _ tw_195) rfl ?_
    refine jx_getrN (C := RX3) (T := TX3) (M := 8) (k := 1) E dX4_level_18 (Nat.le_of_ble_eq_true rfl) s_X1 rfl iX3 (by decide) rfl (ex_f3 (jx_ex E)) rfl ?_
    refine jx_iconst (x := 1) E dX4_level_21 (by decide) ?_
    refine jx_aald (h' := 9) E dX4_level_22 (Nat.le_of_ble_eq_true rfl) s_X3 (show ¬ ((1 : Int32) < 0 ∨ 6 ≤ Int32.toNatClampNeg 1) by decide) rfl ?_
    refine jx_iload_n E dX4_level_23 1 rfl ?_
    obtain ⟨hg3, hF⟩ := jx_guard hF
    refine jx_iald (h := 9) (j := (Int32.toNatClampNeg x1)) E dX4_level_24 (Nat.le_of_ble_eq_true rfl) s_X9 hg3 rfl ?_
    refine jx_istore_n (lv' := [(2, .int (v1 9 (Int32.toNatClampNeg x1))), (0, .ref (ad 0)), (1, .int x1)]) E dX4_level_25 (by decide) rfl ?_
    refine jx_iconst (x := 0) E dX4_level_26 (by decide) ?_
    refine jx_istore_n (lv' := [(3, .int 0), (2, .int (v1 9 (Int32.toNatClampNeg x1))), (0, .ref (ad 0)), (1, .int x1)]) E dX4_level_27 (by decide) rfl ?_
    refine jx_iconst (x := -1) E dX4_level_28 (by decide) ?_
    refine jx_istore (lv' := [(4, .int (-1)), (3, .int 0), (2, .int (v1 9 (Int32.toNatClampNeg x1))), (0, .ref (ad 0)), (1, .int x1)]) E dX4_level_29 (by decide) rfl ?_
    refine jx_iconst (x := 0) E dX4_level_31 (by decide) ?_
    refine jx_istore (lv' := [(5, .int 0), (4, .int (-1)), (3, .int 0), (2, .int (v1 9 (Int32.toNatClampNeg x1))), (0, .ref (ad 0)), (1, .int x1)]) E dX4_level_32 (by decide) rfl ?_
    refine jx_sub [4, 5, 3, 2, 1, 0] rfl ?_
    exact (key 100000) x1 (v1 9 (Int32.toNatClampNeg x1)) 0 (-1) 0 v1 hF
  · rw [if_pos hc2] at hF
    refine jx_aload_n E dX4_level_8 0 rfl ?_
    refine jx_iconst (x := 0) E dX4_level_9 (by decide) ?_
    obtain ⟨⟨r4, v4⟩, hc4, hF⟩ := jx_bind hF
    try dsimp only at hF
    refine jx_callVi (As := [.int 0]) (st := []) (h := 0) E dX4_level_10 1 rfl (k_X4_finding hI 0 v1 r4 v4 hc4) (gb_V (List.mem_cons_of_mem _ tw_192) (List.mem_cons_of_mem _ tw_193) (List.mem_cons_of_mem _ tw_194) (List.mem_cons_of_mem _ tw_190) tw_191) rfl rfl rfl dd_X4_finding rfl (Nat.le_of_ble_eq_true rfl) s_X0 rfl ⟨by decide, by decide⟩ ⟨Nat.le_refl 0, Nat.le_refl 0⟩ (Nat.le_of_ble_eq_true rfl) ?_
    obtain ⟨rfl, rfl⟩ := jx_out hF
    exact jx_iret E dX4_level_13 rfl
def f_X4_cheapest_L  : Nat → Int32 → Int32 → Int32 → Int32 → Int32 → jx_V → Option (Int32 × jx_V)
  | 0, _, _, _, _, _, _ => none
  | n + 1, x1, x2, x3, x4, x5, v => (if 4 ≤ x5 then (if (x1 < 0 ∨ 10 ≤ Int32.toNatClampNeg x1) then none else (some (x3, (jx_up v 10 (Int32.toNatClampNeg x1) x2)))) else (if (x1 < 0 ∨ 10 ≤ Int32.toNatClampNeg x1) then none else ((f_X0_pay 1 x1 66 (jx_up v 10 (Int32.toNatClampNeg x1) x5)).bind (fun (r8, v8) => (if x5 = 0 then (f_X4_cheapest_L n x1 x2 x5 r8 (x5 + 1) v8) else (if x4 ≤ r8 then (f_X4_cheapest_L n x1 x2 x3 x4 (x5 + 1) v8) else (f_X4_cheapest_L n x1 x2 x5 r8 (x5 + 1) v8)))))))
def f_X4_cheapest (x1 : Int32) (v : jx_V) : Option (Int32 × jx_V) := ((f_X4_isWindow x1 v).bind (fun (r1, v1) => (if r1 = 0 then ((f_X4_finding 0 v1).bind (fun (r4, v4) => (some (r4, v4)))) else (if (x1 < 0 ∨ 10 ≤ Int32.toNatClampNeg x1) then none else (f_X4_cheapest_L 100000 x1 (v1 10 (Int32.toNatClampNeg x1)) 0 0 0 v1)))))
def rm_X4_cheapest : Room := { frames := 4, cells := 0, slots := 0, locals := 101 }
set_option maxHeartbeats 4000000 in
set_option maxRecDepth 100000 in
theorem k_X4_cheapest {l : Launch} {D : va_G} {cI cJ : ClassId} {ad : Nat → Nat} {A : Nat → Prop} {adK adV : Nat → Nat} (hI : jx_inj 67 ad A) (x1 : Int32) (v : jx_V) (r : Int32) (v' : jx_V) (hF : f_X4_cheapest x1 v = some (r, v')) : jx_Ci l D vwCl 67 cI cJ ad shX A (ex_X adK adV A) yX4_cheapest (Cond.code yX4_cheapest cX4_cheapest 7 (some .int) :: bigT) rm_X4_cheapest [.ref (ad 0), .int x1] v r v' := by
  unfold f_X4_cheapest at hF
  refine jx_enteri bigT RX4 cX4_cheapest 7 (some .int) [(0, .ref (ad 0)), (1, .int x1)] hI (ex_X_ok adK adV A) (by decide +kernel) rfl (Nat.le_of_ble_eq_true rfl) rfl rfl ?_
  intro p e s m args below meth c E
  have iX3 : ∀ w ∈ u_ws RX3 TX3 8, w ∈ (Cond.code yX4_cheapest cX4_cheapest 7 (some .int) :: bigT) := fun w h => List.mem_cons_of_mem _ (uw_X3 w h)
  have iX4 : ∀ w ∈ u_ws RX4 TX4 11, w ∈ (Cond.code yX4_cheapest cX4_cheapest 7 (some .int) :: bigT) := fun w h => List.mem_cons_of_mem _ (uw_X4 w h)
  have key : ∀ n : Nat, (∀ (x1 : Int32) (x2 : Int32) (x3 : Int32) (x4 : Int32) (x5 : Int32) (v : jx_V), f_X4_cheapest_L  n  x1 x2 x3 x4 x5 v = some (r, v') → jx_J p l e rm_X4_cheapest s m args below meth c D vwCl 67 cI cJ ad shX A 0 0 7 (MQ below (va_Qi (fun (r1 : Int32) (_ : Unit) => r1 = r) (fun _ t => va_P D vwCl (jx_ws 67 cI cJ ad shX v') t.heap) A) args s 0 0 A) v 34 [(0, .ref (ad 0)), (1, .int x1), (2, .int x2), (3, .int x3), (4, .int x4), (5, .int x5)] []) := by
    intro n
    induction n with
    | zero =>
      exact (fun _ _ _ _ _ _ h => by cases h)
    | succ n ih =>
      intro x1 x2 x3 x4 x5 v hF
      rw [f_X4_cheapest_L] at hF
      refine jx_iload E dX4_cheapest_34 5 rfl ?_
      refine jx_iconst (x := 4) E dX4_cheapest_36 (by decide) ?_
      refine jx_icmp_ge (tgt := 96) E dX4_cheapest_37 (by decide) (fun hc5 => ?_) (fun hc5 => ?_)
      · rw [if_pos hc5] at hF
        refine jx_aload_n E dX4_cheapest_96 0 rfl ?_
        refine jx_getr (C := RX4) (T := TX4) (M := 11) (k := 0) E dX4_cheapest_97 (Nat.le_of_ble_eq_true rfl) s_X0 rfl iX4 (by decide) rfl (List.mem_cons_of_mem _ tw_195) rfl ?_
        refine jx_getrN (C := RX3) (T := TX3) (M := 8) (k := 1) E dX4_cheapest_100 (Nat.le_of_ble_eq_true rfl) s_X1 rfl iX3 (by decide) rfl (ex_f3 (jx_ex E)) rfl ?_
        refine jx_iconst (x := 2) E dX4_cheapest_103 (by decide) ?_
        refine jx_aald (h' := 10) E dX4_cheapest_104 (Nat.le_of_ble_eq_true rfl) s_X3 (show ¬ ((2 : Int32) < 0 ∨ 6 ≤ Int32.toNatClampNeg 2) by decide) rfl ?_
        refine jx_iload_n E dX4_cheapest_105 1 rfl ?_
        refine jx_iload_n E dX4_cheapest_106 2 rfl ?_
        obtain ⟨hg6, hF⟩ := jx_guard hF
        refine jx_iast (h := 10) (j := (Int32.toNatClampNeg x1)) E dX4_cheapest_107 (Nat.le_of_ble_eq_true rfl) s_X10 hg6 rfl ?_
        refine jx_iload_n E dX4_cheapest_108 3 rfl ?_
        obtain ⟨rfl, rfl⟩ := jx_out hF
        exact jx_iret E dX4_cheapest_109 rfl
      · rw [if_neg hc5] at hF
        refine jx_aload_n E dX4_cheapest_40 0 rfl ?_
        refine jx_getr (C := RX4) (T := TX4) (M := 11) (k := 0) E dX4_cheapest_41 (Nat.le_of_ble_eq_true rfl) s_X0 rfl iX4 (by decide) rfl (List.mem_cons_of_mem _ tw_195) rfl ?_
        refine jx_getrN (C := RX3) (T := TX3) (M := 8) (k := 1) E dX4_cheapest_44 (Nat.le_of_ble_eq_true rfl) s_X1 rfl iX3 (by decide) rfl (ex_f3 (jx_ex E)) rfl ?_
        refine jx_iconst (x := 2) E dX4_cheapest_47 (by decide) ?_
        refine jx_aald (h' := 10) E dX4_cheapest_48 (Nat.le_of_ble_eq_true rfl) s_X3 (show ¬ ((2 : Int32) < 0 ∨ 6 ≤ Int32.toNatClampNeg 2) by decide) rfl ?_
        refine jx_iload_n E dX4_cheapest_49 1 rfl ?_
        refine jx_iload E dX4_cheapest_50 5 rfl ?_
        obtain ⟨hg7, hF⟩ := jx_guard hF
        refine jx_iast (h := 10) (j := (Int32.toNatClampNeg x1)) E dX4_cheapest_52 (Nat.le_of_ble_eq_true rfl) s_X10 hg7 rfl ?_
        refine jx_aload_n E dX4_cheapest_53 0 rfl ?_
        refine jx_getr (C := RX4) (T := TX4) (M := 11) (k := 3) E dX4_cheapest_54 (Nat.le_of_ble_eq_true rfl) s_X0 rfl iX4 (by decide) rfl (List.mem_cons_of_mem _ tw_209) rfl ?_
        refine jx_aload_n E dX4_cheapest_57 0 rfl ?_
        refine jx_getr (C := RX4) (T := TX4) (M := 11) (k := 0) E dX4_cheapest_58 (Nat.le_of_ble_eq_true rfl) s_X0 rfl iX4 (by decide) rfl (List.mem_cons_of_mem _ tw_195) rfl ?_
        refine jx_iload_n E dX4_cheapest_61 1 rfl ?_
        refine jx_aload_n E dX4_cheapest_62 0 rfl ?_
        refine jx_getr (C := RX4) (T := TX4) (M := 11) (k := 9) E dX4_cheapest_63 (Nat.le_of_ble_eq_true rfl) s_X0 rfl iX4 (by decide) rfl (List.mem_cons_of_mem _ tw_216) rfl ?_
        obtain ⟨⟨r8, v8⟩, hc8, hF⟩ := jx_bind hF
        try dsimp only at hF
        refine jx_callNi (As := [.ref (ad 1), .int x1, .ref (ad 66)]) (st := []) (h := 49) E dX4_cheapest_66 3 rfl (k_X0_pay hI 1 jx_T1 x1 66 s_X66 (Nat.le_of_ble_eq_true rfl) (jx_up v 10 (Int32.toNatClampNeg x1) x5) r8 v8 hc8) (gb_N tw_77) rfl rfl rfl (ex_m20 (jx_ex E)) (List.mem_cons_of_mem _ tw_49) (List.mem_cons_of_mem _ tw_79) (List.mem_cons_of_mem _ tw_80) dd_X0_pay.2 rfl (Nat.le_of_ble_eq_true rfl) s_X49 rfl ⟨by decide, by decide⟩ ⟨Nat.le_refl 0, Nat.le_refl 0⟩ (Nat.le_of_ble_eq_true rfl) ?_
        refine jx_istore (lv' := [(6, .int r8), (0, .ref (ad 0)), (1, .int x1), (2, .int x2), (3, .int x3), (4, .int x4), (5, .int x5)]) E dX4_cheapest_69 (by decide) rfl ?_
        refine jx_iload E dX4_cheapest_71 6 rfl ?_
        refine jx_if_eq (tgt := 83) E dX4_cheapest_73 (by decide) (fun hc9 => ?_) (fun hc9 => ?_)
        · rw [if_pos hc9] at hF
          refine jx_iload E dX4_cheapest_83 0 rfl ?_
          refine jx_istore (lv' := [(4, .int r8), (6, .int r8), (0, .ref (ad 0)), (1, .int x1), (2, .int x2), (3, .int x3), (5, .int x5)]) E dX4_cheapest_85 (by decide) rfl ?_
          refine jx_iload E dX4_cheapest_87 6 rfl ?_
          refine jx_istore_n (lv' := [(3, .int x5), (4, .int r8), (6, .int r8), (0, .ref (ad 0)), (1, .int x1), (2, .int x2), (5, .int x5)]) E dX4_cheapest_89 (by decide) rfl ?_
          refine jx_iinc (y := (x5 + 1)) (lv' := [(5, .int (x5 + 1)), (3, .int x5), (4, .int r8), (6, .int r8), (0, .ref (ad 0)), (1, .int x1), (2, .int x2)]) E dX4_cheapest_90 6 rfl rfl (by decide) rfl ?_
          refine jx_goto (tgt := 34) E dX4_cheapest_93 (by decide) ?_
          refine jx_sub [4, 5, 6, 1, 2, 0] rfl ?_
          exact ih x1 x2 x5 r8 (x5 + 1) v8 hF
        · rw [if_neg hc9] at hF
          refine jx_iload E dX4_cheapest_76 0 rfl ?_
          refine jx_iload E dX4_cheapest_78 5 rfl ?_
          refine jx_icmp_ge (tgt := 90) E dX4_cheapest_80 (by decide) (fun hc10 => ?_) (fun hc10 => ?_)
          · rw [if_pos hc10] at hF
            refine jx_iinc (y := (x5 + 1)) (lv' := [(5, .int (x5 + 1)), (6, .int r8), (0, .ref (ad 0)), (1, .int x1), (2, .int x2), (3, .int x3), (4, .int x4)]) E dX4_cheapest_90 6 rfl rfl (by decide) rfl ?_
            refine jx_goto (tgt := 34) E dX4_cheapest_93 (by decide) ?_
            refine jx_sub [2, 3, 4, 5, 6, 0] rfl ?_
            exact ih x1 x2 x3 x4 (x5 + 1) v8 hF
          · rw [if_neg hc10] at hF
            refine jx_iload E dX4_cheapest_83 0 rfl ?_
            refine jx_istore (lv' := [(4, .int r8), (6, .int r8), (0, .ref (ad 0)), (1, .int x1), (2, .int x2), (3, .int x3), (5, .int x5)]) E dX4_cheapest_85 (by decide) rfl ?_
            refine jx_iload E dX4_cheapest_87 6 rfl ?_
            refine jx_istore_n (lv' := [(3, .int x5), (4, .int r8), (6, .int r8), (0, .ref (ad 0)), (1, .int x1), (2, .int x2), (5, .int x5)]) E dX4_cheapest_89 (by decide) rfl ?_
            refine jx_iinc (y := (x5 + 1)) (lv' := [(5, .int (x5 + 1)), (3, .int x5), (4, .int r8), (6, .int r8), (0, .ref (ad 0)), (1, .int x1), (2, .int x2)]) E dX4_cheapest_90 6 rfl rfl (by decide) rfl ?_
            refine jx_goto (tgt := 34) E dX4_cheapest_93 (by decide) ?_
            refine jx_sub [4, 5, 6, 1, 2, 0] rfl ?_
            exact ih x1 x2 x5 r8 (x5 + 1) v8 hF
  refine jx_aload_n E dX4_cheapest_0 0 rfl ?_
  refine jx_iload_n E dX4_cheapest_1 1 rfl ?_
  obtain ⟨⟨r1, v1⟩, hc1, hF⟩ := jx_bind hF
  try dsimp only at hF
  refine jx_callVi (As := [.int x1]) (st := []) (h := 0) E dX4_cheapest_2 1 rfl (k_X4_isWindow hI x1 v r1 v1 hc1) (gb_V (List.mem_cons_of_mem _ tw_203) (List.mem_cons_of_mem _ tw_204) (List.mem_cons_of_mem _ tw_205) (List.mem_cons_of_mem _ tw_190) tw_202) rfl rfl rfl dd_X4_isWindow rfl (Nat.le_of_ble_eq_true rfl) s_X0 rfl ⟨by decide, by decide⟩ ⟨Nat.le_refl 0, Nat.le_refl 0⟩ (Nat.le_of_ble_eq_true rfl) ?_
  refine jx_if_ne (tgt := 14) E dX4_cheapest_5 (by decide) (fun hc2 => ?_) (fun hc2 => ?_)
  · rw [if_neg hc2] at hF
    refine jx_aload_n E dX4_cheapest_14 0 rfl ?_
    refine jx_getr (C := RX4) (T := TX4) (M := 11) (k := 0) E dX4_cheapest_15 (Nat.le_of_ble_eq_true rfl) s_X0 rfl iX4 (by decide) rfl (List.mem_cons_of_mem _ tw_195) rfl ?_
    refine jx_getrN (C := RX3) (T := TX3) (M := 8) (k := 1) E dX4_cheapest_18 (Nat.le_of_ble_eq_true rfl) s_X1 rfl iX3 (by decide) rfl (ex_f3 (jx_ex E)) rfl ?_
    refine jx_iconst (x := 2) E dX4_cheapest_21 (by decide) ?_
    refine jx_aald (h' := 10) E dX4_cheapest_22 (Nat.le_of_ble_eq_true rfl) s_X3 (show ¬ ((2 : Int32) < 0 ∨ 6 ≤ Int32.toNatClampNeg 2) by decide) rfl ?_
    refine jx_iload_n E dX4_cheapest_23 1 rfl ?_
    obtain ⟨hg3, hF⟩ := jx_guard hF
    refine jx_iald (h := 10) (j := (Int32.toNatClampNeg x1)) E dX4_cheapest_24 (Nat.le_of_ble_eq_true rfl) s_X10 hg3 rfl ?_
    refine jx_istore_n (lv' := [(2, .int (v1 10 (Int32.toNatClampNeg x1))), (0, .ref (ad 0)), (1, .int x1)]) E dX4_cheapest_25 (by decide) rfl ?_
    refine jx_iconst (x := 0) E dX4_cheapest_26 (by decide) ?_
    refine jx_istore_n (lv' := [(3, .int 0), (2, .int (v1 10 (Int32.toNatClampNeg x1))), (0, .ref (ad 0)), (1, .int x1)]) E dX4_cheapest_27 (by decide) rfl ?_
    refine jx_iconst (x := 0) E dX4_cheapest_28 (by decide) ?_
    refine jx_istore (lv' := [(4, .int 0), (3, .int 0), (2, .int (v1 10 (Int32.toNatClampNeg x1))), (0, .ref (ad 0)), (1, .int x1)]) E dX4_cheapest_29 (by decide) rfl ?_
    refine jx_iconst (x := 0) E dX4_cheapest_31 (by decide) ?_
    refine jx_istore (lv' := [(5, .int 0), (4, .int 0), (3, .int 0), (2, .int (v1 10 (Int32.toNatClampNeg x1))), (0, .ref (ad 0)), (1, .int x1)]) E dX4_cheapest_32 (by decide) rfl ?_
    refine jx_sub [4, 5, 3, 2, 1, 0] rfl ?_
    exact (key 100000) x1 (v1 10 (Int32.toNatClampNeg x1)) 0 0 0 v1 hF
  · rw [if_pos hc2] at hF
    refine jx_aload_n E dX4_cheapest_8 0 rfl ?_
    refine jx_iconst (x := 0) E dX4_cheapest_9 (by decide) ?_
    obtain ⟨⟨r4, v4⟩, hc4, hF⟩ := jx_bind hF
    try dsimp only at hF
    refine jx_callVi (As := [.int 0]) (st := []) (h := 0) E dX4_cheapest_10 1 rfl (k_X4_finding hI 0 v1 r4 v4 hc4) (gb_V (List.mem_cons_of_mem _ tw_192) (List.mem_cons_of_mem _ tw_193) (List.mem_cons_of_mem _ tw_194) (List.mem_cons_of_mem _ tw_190) tw_191) rfl rfl rfl dd_X4_finding rfl (Nat.le_of_ble_eq_true rfl) s_X0 rfl ⟨by decide, by decide⟩ ⟨Nat.le_refl 0, Nat.le_refl 0⟩ (Nat.le_of_ble_eq_true rfl) ?_
    obtain ⟨rfl, rfl⟩ := jx_out hF
    exact jx_iret E dX4_cheapest_13 rfl
def f_X4_site_L  : Nat → Int32 → Int32 → Int32 → Int32 → Int32 → Int32 → jx_V → Option (Int32 × jx_V)
  | 0, _, _, _, _, _, _, _ => none
  | n + 1, x1, x2, x3, x4, x5, x6, v => (if 25 ≤ x6 then (if 0 ≤ x4 then (some (x4, v)) else ((f_X4_finding 3 v).bind (fun (r12, v12) => (some (r12, v12))))) else ((f_X3_isTaken 1 x6 v).bind (fun (r13, v13) => (if r13 = 0 then ((f_X3_put 1 x6 x1 x2 x3 0 v13).bind (fun v15 => ((f_X0_gainsInto 1 65 v15).bind (fun (r16, v16) => ((f_X3_takeOff 1 x6 v16).bind (fun v17 => (if x4 < 0 then (if (x2 < 0 ∨ 4 ≤ Int32.toNatClampNeg x2) then none else (f_X4_site_L n x1 x2 x3 x6 (v17 65 (Int32.toNatClampNeg x2)) (x6 + 1) v17)) else (if (x2 < 0 ∨ 4 ≤ Int32.toNatClampNeg x2) then none else (if (v17 65 (Int32.toNatClampNeg x2)) ≤ x5 then (f_X4_site_L n x1 x2 x3 x4 x5 (x6 + 1) v17) else (if (x2 < 0 ∨ 4 ≤ Int32.toNatClampNeg x2) then none else (f_X4_site_L n x1 x2 x3 x6 (v17 65 (Int32.toNatClampNeg x2)) (x6 + 1) v17))))))))))) else (f_X4_site_L n x1 x2 x3 x4 x5 (x6 + 1) v13)))))
def f_X4_site (x1 : Int32) (x2 : Int32) (x3 : Int32) (v : jx_V) : Option (Int32 × jx_V) := ((f_X4_within x1 7 v).bind (fun (r1, v1) => (if r1 = 0 then ((f_X4_finding 0 v1).bind (fun (r3, v3) => (some (r3, v3)))) else ((f_X4_within x2 4 v1).bind (fun (r4, v4) => (if r4 = 0 then ((f_X4_finding 0 v4).bind (fun (r6, v6) => (some (r6, v6)))) else ((f_X4_within x3 10 v4).bind (fun (r7, v7) => (if r7 = 0 then ((f_X4_finding 0 v7).bind (fun (r9, v9) => (some (r9, v9)))) else (f_X4_site_L 100000 x1 x2 x3 (-1) 0 0 v7))))))))))
def rm_X4_site : Room := { frames := 5, cells := 0, slots := 0, locals := 125 }
set_option maxHeartbeats 4000000 in
set_option maxRecDepth 100000 in
theorem k_X4_site {l : Launch} {D : va_G} {cI cJ : ClassId} {ad : Nat → Nat} {A : Nat → Prop} {adK adV : Nat → Nat} (hI : jx_inj 67 ad A) (x1 : Int32) (x2 : Int32) (x3 : Int32) (v : jx_V) (r : Int32) (v' : jx_V) (hF : f_X4_site x1 x2 x3 v = some (r, v')) : jx_Ci l D vwCl 67 cI cJ ad shX A (ex_X adK adV A) yX4_site (Cond.code yX4_site cX4_site 7 (some .int) :: bigT) rm_X4_site [.ref (ad 0), .int x1, .int x2, .int x3] v r v' := by
  unfold f_X4_site at hF
  refine jx_enteri bigT RX4 cX4_site 7 (some .int) [(0, .ref (ad 0)), (1, .int x1), (2, .int x2), (3, .int x3)] hI (ex_X_ok adK adV A) (by decide +kernel) rfl (Nat.le_of_ble_eq_true rfl) rfl rfl ?_
  intro p e s m args below meth c E
  have iX4 : ∀ w ∈ u_ws RX4 TX4 11, w ∈ (Cond.code yX4_site cX4_site 7 (some .int) :: bigT) := fun w h => List.mem_cons_of_mem _ (uw_X4 w h)
  have key : ∀ n : Nat, (∀ (x1 : Int32) (x2 : Int32) (x3 : Int32) (x4 : Int32) (x5 : Int32) (x6 : Int32) (v : jx_V), f_X4_site_L  n  x1 x2 x3 x4 x5 x6 v = some (r, v') → jx_J p l e rm_X4_site s m args below meth c D vwCl 67 cI cJ ad shX A 0 0 7 (MQ below (va_Qi (fun (r1 : Int32) (_ : Unit) => r1 = r) (fun _ t => va_P D vwCl (jx_ws 67 cI cJ ad shX v') t.heap) A) args s 0 0 A) v 41 [(0, .ref (ad 0)), (1, .int x1), (2, .int x2), (3, .int x3), (4, .int x4), (5, .int x5), (6, .int x6)] []) := by
    intro n
    induction n with
    | zero =>
      exact (fun _ _ _ _ _ _ _ h => by cases h)
    | succ n ih =>
      intro x1 x2 x3 x4 x5 x6 v hF
      rw [f_X4_site_L] at hF
      refine jx_iload E dX4_site_41 6 rfl ?_
      refine jx_bipush (x := 25) E dX4_site_43 (by decide) ?_
      refine jx_icmp_ge (tgt := 135) E dX4_site_45 (by decide) (fun hc10 => ?_) (fun hc10 => ?_)
      · rw [if_pos hc10] at hF
        refine jx_iload E dX4_site_135 4 rfl ?_
        refine jx_if_ge (tgt := 148) E dX4_site_137 (by decide) (fun hc11 => ?_) (fun hc11 => ?_)
        · rw [if_pos hc11] at hF
          refine jx_iload E dX4_site_148 4 rfl ?_
          obtain ⟨rfl, rfl⟩ := jx_out hF
          exact jx_iret E dX4_site_150 rfl
        · rw [if_neg hc11] at hF
          refine jx_aload_n E dX4_site_140 0 rfl ?_
          refine jx_iconst (x := 3) E dX4_site_141 (by decide) ?_
          obtain ⟨⟨r12, v12⟩, hc12, hF⟩ := jx_bind hF
          try dsimp only at hF
          refine jx_callVi (As := [.int 3]) (st := []) (h := 0) E dX4_site_142 1 rfl (k_X4_finding hI 3 v r12 v12 hc12) (gb_V (List.mem_cons_of_mem _ tw_192) (List.mem_cons_of_mem _ tw_193) (List.mem_cons_of_mem _ tw_194) (List.mem_cons_of_mem _ tw_190) tw_191) rfl rfl rfl dd_X4_finding rfl (Nat.le_of_ble_eq_true rfl) s_X0 rfl ⟨by decide, by decide⟩ ⟨Nat.le_refl 0, Nat.le_refl 0⟩ (Nat.le_of_ble_eq_true rfl) ?_
          refine jx_goto (tgt := 150) E dX4_site_145 (by decide) ?_
          obtain ⟨rfl, rfl⟩ := jx_out hF
          exact jx_iret E dX4_site_150 rfl
      · rw [if_neg hc10] at hF
        refine jx_aload_n E dX4_site_48 0 rfl ?_
        refine jx_getr (C := RX4) (T := TX4) (M := 11) (k := 0) E dX4_site_49 (Nat.le_of_ble_eq_true rfl) s_X0 rfl iX4 (by decide) rfl (List.mem_cons_of_mem _ tw_195) rfl ?_
        refine jx_iload E dX4_site_52 6 rfl ?_
        obtain ⟨⟨r13, v13⟩, hc13, hF⟩ := jx_bind hF
        try dsimp only at hF
        refine jx_callNi (As := [.int x6]) (st := []) (h := 1) E dX4_site_54 1 rfl (k_X3_isTaken hI 1 jx_T1 x6 v r13 v13 hc13) (gb_N tw_51) rfl rfl rfl (ex_m4 (jx_ex E)) (List.mem_cons_of_mem _ tw_33) (List.mem_cons_of_mem _ tw_52) (List.mem_cons_of_mem _ tw_53) dd_X3_isTaken.2 rfl (Nat.le_of_ble_eq_true rfl) s_X1 rfl ⟨by decide, by decide⟩ ⟨Nat.le_refl 0, Nat.le_refl 0⟩ (Nat.le_of_ble_eq_true rfl) ?_
        refine jx_if_eq (tgt := 63) E dX4_site_57 (by decide) (fun hc14 => ?_) (fun hc14 => ?_)
        · rw [if_pos hc14] at hF
          refine jx_aload_n E dX4_site_63 0 rfl ?_
          refine jx_getr (C := RX4) (T := TX4) (M := 11) (k := 0) E dX4_site_64 (Nat.le_of_ble_eq_true rfl) s_X0 rfl iX4 (by decide) rfl (List.mem_cons_of_mem _ tw_195) rfl ?_
          refine jx_iload E dX4_site_67 6 rfl ?_
          refine jx_iload_n E dX4_site_69 1 rfl ?_
          refine jx_iload_n E dX4_site_70 2 rfl ?_
          refine jx_iload_n E dX4_site_71 3 rfl ?_
          refine jx_iconst (x := 0) E dX4_site_72 (by decide) ?_
          obtain ⟨v15, hc15, hF⟩ := jx_bind hF
          try dsimp only at hF
          refine jx_callNv (As := [.int x6, .int x1, .int x2, .int x3, .int 0]) (st := []) (h := 1) E dX4_site_73 5 rfl (k_X3_put hI 1 jx_T1 x6 x1 x2 x3 0 v13 v15 hc15) (gb_N tw_137) rfl rfl rfl (ex_m5 (jx_ex E)) (List.mem_cons_of_mem _ tw_33) (List.mem_cons_of_mem _ tw_138) (List.mem_cons_of_mem _ tw_139) dd_X3_put.2 rfl (Nat.le_of_ble_eq_true rfl) s_X1 rfl ⟨by decide, by decide⟩ ⟨Nat.le_refl 0, Nat.le_refl 0⟩ (Nat.le_of_ble_eq_true rfl) ?_
          refine jx_aload_n E dX4_site_76 0 rfl ?_
          refine jx_getr (C := RX4) (T := TX4) (M := 11) (k := 3) E dX4_site_77 (Nat.le_of_ble_eq_true rfl) s_X0 rfl iX4 (by decide) rfl (List.mem_cons_of_mem _ tw_209) rfl ?_
          refine jx_aload_n E dX4_site_80 0 rfl ?_
          refine jx_getr (C := RX4) (T := TX4) (M := 11) (k := 0) E dX4_site_81 (Nat.le_of_ble_eq_true rfl) s_X0 rfl iX4 (by decide) rfl (List.mem_cons_of_mem _ tw_195) rfl ?_
          refine jx_aload_n E dX4_site_84 0 rfl ?_
          refine jx_getr (C := RX4) (T := TX4) (M := 11) (k := 8) E dX4_site_85 (Nat.le_of_ble_eq_true rfl) s_X0 rfl iX4 (by decide) rfl (List.mem_cons_of_mem _ tw_217) rfl ?_
          obtain ⟨⟨r16, v16⟩, hc16, hF⟩ := jx_bind hF
          try dsimp only at hF
          refine jx_callNi (As := [.ref (ad 1), .ref (ad 65)]) (st := []) (h := 49) E dX4_site_88 2 rfl (k_X0_gainsInto hI 1 jx_T1 65 s_X65 (Nat.le_of_ble_eq_true rfl) v15 r16 v16 hc16) (gb_N tw_218) rfl rfl rfl (ex_m22 (jx_ex E)) (List.mem_cons_of_mem _ tw_49) (List.mem_cons_of_mem _ tw_219) (List.mem_cons_of_mem _ tw_220) dd_X0_gainsInto.2 rfl (Nat.le_of_ble_eq_true rfl) s_X49 rfl ⟨by decide, by decide⟩ ⟨Nat.le_refl 0, Nat.le_refl 0⟩ (Nat.le_of_ble_eq_true rfl) ?_
          refine jx_pop E dX4_site_91 rfl ?_
          refine jx_aload_n E dX4_site_92 0 rfl ?_
          refine jx_getr (C := RX4) (T := TX4) (M := 11) (k := 0) E dX4_site_93 (Nat.le_of_ble_eq_true rfl) s_X0 rfl iX4 (by decide) rfl (List.mem_cons_of_mem _ tw_195) rfl ?_
          refine jx_iload E dX4_site_96 6 rfl ?_
          obtain ⟨v17, hc17, hF⟩ := jx_bind hF
          try dsimp only at hF
          refine jx_callNv (As := [.int x6]) (st := []) (h := 1) E dX4_site_98 1 rfl (k_X3_takeOff hI 1 jx_T1 x6 v16 v17 hc17) (gb_N tw_145) rfl rfl rfl (ex_m7 (jx_ex E)) (List.mem_cons_of_mem _ tw_33) (List.mem_cons_of_mem _ tw_146) (List.mem_cons_of_mem _ tw_147) dd_X3_takeOff.2 rfl (Nat.le_of_ble_eq_true rfl) s_X1 rfl ⟨by decide, by decide⟩ ⟨Nat.le_refl 0, Nat.le_refl 0⟩ (Nat.le_of_ble_eq_true rfl) ?_
          refine jx_iload E dX4_site_101 4 rfl ?_
          refine jx_if_lt (tgt := 117) E dX4_site_103 (by decide) (fun hc18 => ?_) (fun hc18 => ?_)
          · rw [if_pos hc18] at hF
            refine jx_aload_n E dX4_site_117 0 rfl ?_
            refine jx_getr (C := RX4) (T := TX4) (M := 11) (k := 8) E dX4_site_118 (Nat.le_of_ble_eq_true rfl) s_X0 rfl iX4 (by decide) rfl (List.mem_cons_of_mem _ tw_217) rfl ?_
            refine jx_iload_n E dX4_site_121 2 rfl ?_
            obtain ⟨hg19, hF⟩ := jx_guard hF
            refine jx_iald (h := 65) (j := (Int32.toNatClampNeg x2)) E dX4_site_122 (Nat.le_of_ble_eq_true rfl) s_X65 hg19 rfl ?_
            refine jx_istore (lv' := [(5, .int (v17 65 (Int32.toNatClampNeg x2))), (0, .ref (ad 0)), (1, .int x1), (2, .int x2), (3, .int x3), (4, .int x4), (6, .int x6)]) E dX4_site_123 (by decide) rfl ?_
            refine jx_iload E dX4_site_125 6 rfl ?_
            refine jx_istore (lv' := [(4, .int x6), (5, .int (v17 65 (Int32.toNatClampNeg x2))), (0, .ref (ad 0)), (1, .int x1), (2, .int x2), (3, .int x3), (6, .int x6)]) E dX4_site_127 (by decide) rfl ?_
            refine jx_iinc (y := (x6 + 1)) (lv' := [(6, .int (x6 + 1)), (4, .int x6), (5, .int (v17 65 (Int32.toNatClampNeg x2))), (0, .ref (ad 0)), (1, .int x1), (2, .int x2), (3, .int x3)]) E dX4_site_129 6 rfl rfl (by decide) rfl ?_
            refine jx_goto (tgt := 41) E dX4_site_132 (by decide) ?_
            refine jx_sub [3, 4, 5, 6, 1, 2, 0] rfl ?_
            exact ih x1 x2 x3 x6 (v17 65 (Int32.toNatClampNeg x2)) (x6 + 1) v17 hF
          · rw [if_neg hc18] at hF
            refine jx_aload_n E dX4_site_106 0 rfl ?_
            refine jx_getr (C := RX4) (T := TX4) (M := 11) (k := 8) E dX4_site_107 (Nat.le_of_ble_eq_true rfl) s_X0 rfl iX4 (by decide) rfl (List.mem_cons_of_mem _ tw_217) rfl ?_
            refine jx_iload_n E dX4_site_110 2 rfl ?_
            obtain ⟨hg20, hF⟩ := jx_guard hF
            refine jx_iald (h := 65) (j := (Int32.toNatClampNeg x2)) E dX4_site_111 (Nat.le_of_ble_eq_true rfl) s_X65 hg20 rfl ?_
            refine jx_iload E dX4_site_112 5 rfl ?_
            refine jx_icmp_le (tgt := 129) E dX4_site_114 (by decide) (fun hc21 => ?_) (fun hc21 => ?_)
            · rw [if_pos hc21] at hF
              refine jx_iinc (y := (x6 + 1)) (lv' := [(6, .int (x6 + 1)), (0, .ref (ad 0)), (1, .int x1), (2, .int x2), (3, .int x3), (4, .int x4), (5, .int x5)]) E dX4_site_129 6 rfl rfl (by decide) rfl ?_
              refine jx_goto (tgt := 41) E dX4_site_132 (by decide) ?_
              refine jx_sub [1, 2, 3, 4, 5, 6, 0] rfl ?_
              exact ih x1 x2 x3 x4 x5 (x6 + 1) v17 hF
            · rw [if_neg hc21] at hF
              refine jx_aload_n E dX4_site_117 0 rfl ?_
              refine jx_getr (C := RX4) (T := TX4) (M := 11) (k := 8) E dX4_site_118 (Nat.le_of_ble_eq_true rfl) s_X0 rfl iX4 (by decide) rfl (List.mem_cons_of_mem _ tw_217) rfl ?_
              refine jx_iload_n E dX4_site_121 2 rfl ?_
              obtain ⟨hg22, hF⟩ := jx_guard hF
              refine jx_iald (h := 65) (j := (Int32.toNatClampNeg x2)) E dX4_site_122 (Nat.le_of_ble_eq_true rfl) s_X65 hg22 rfl ?_
              refine jx_istore (lv' := [(5, .int (v17 65 (Int32.toNatClampNeg x2))), (0, .ref (ad 0)), (1, .int x1), (2, .int x2), (3, .int x3), (4, .int x4), (6, .int x6)]) E dX4_site_123 (by decide) rfl ?_
              refine jx_iload E dX4_site_125 6 rfl ?_
              refine jx_istore (lv' := [(4, .int x6), (5, .int (v17 65 (Int32.toNatClampNeg x2))), (0, .ref (ad 0)), (1, .int x1), (2, .int x2), (3, .int x3), (6, .int x6)]) E dX4_site_127 (by decide) rfl ?_
              refine jx_iinc (y := (x6 + 1)) (lv' := [(6, .int (x6 + 1)), (4, .int x6), (5, .int (v17 65 (Int32.toNatClampNeg x2))), (0, .ref (ad 0)), (1, .int x1), (2, .int x2), (3, .int x3)]) E dX4_site_129 6 rfl rfl (by decide) rfl ?_
              refine jx_goto (tgt := 41) E dX4_site_132 (by decide) ?_
              refine jx_sub [3, 4, 5, 6, 1, 2, 0] rfl ?_
              exact ih x1 x2 x3 x6 (v17 65 (Int32.toNatClampNeg x2)) (x6 + 1) v17 hF
        · rw [if_neg hc14] at hF
          refine jx_goto (tgt := 129) E dX4_site_60 (by decide) ?_
          refine jx_iinc (y := (x6 + 1)) (lv' := [(6, .int (x6 + 1)), (0, .ref (ad 0)), (1, .int x1), (2, .int x2), (3, .int x3), (4, .int x4), (5, .int x5)]) E dX4_site_129 6 rfl rfl (by decide) rfl ?_
          refine jx_goto (tgt := 41) E dX4_site_132 (by decide) ?_
          refine jx_sub [1, 2, 3, 4, 5, 6, 0] rfl ?_
          exact ih x1 x2 x3 x4 x5 (x6 + 1) v13 hF
  refine jx_iload_n E dX4_site_0 1 rfl ?_
  refine jx_bipush (x := 7) E dX4_site_1 (by decide) ?_
  obtain ⟨⟨r1, v1⟩, hc1, hF⟩ := jx_bind hF
  try dsimp only at hF
  refine jx_callSi (As := [.int x1, .int 7]) (st := []) E dX4_site_3 2 rfl (k_X4_within hI x1 7 v r1 v1 hc1) (gb_S (List.mem_cons_of_mem _ tw_188) (List.mem_cons_of_mem _ tw_189) (List.mem_cons_of_mem _ tw_190) tw_187) rfl rfl rfl dd_X4_within rfl ⟨by decide, by decide⟩ ⟨Nat.le_refl 0, Nat.le_refl 0⟩ (Nat.le_of_ble_eq_true rfl) ?_
  refine jx_if_eq (tgt := 26) E dX4_site_6 (by decide) (fun hc2 => ?_) (fun hc2 => ?_)
  · rw [if_pos hc2] at hF
    refine jx_aload_n E dX4_site_26 0 rfl ?_
    refine jx_iconst (x := 0) E dX4_site_27 (by decide) ?_
    obtain ⟨⟨r3, v3⟩, hc3, hF⟩ := jx_bind hF
    try dsimp only at hF
    refine jx_callVi (As := [.int 0]) (st := []) (h := 0) E dX4_site_28 1 rfl (k_X4_finding hI 0 v1 r3 v3 hc3) (gb_V (List.mem_cons_of_mem _ tw_192) (List.mem_cons_of_mem _ tw_193) (List.mem_cons_of_mem _ tw_194) (List.mem_cons_of_mem _ tw_190) tw_191) rfl rfl rfl dd_X4_finding rfl (Nat.le_of_ble_eq_true rfl) s_X0 rfl ⟨by decide, by decide⟩ ⟨Nat.le_refl 0, Nat.le_refl 0⟩ (Nat.le_of_ble_eq_true rfl) ?_
    obtain ⟨rfl, rfl⟩ := jx_out hF
    exact jx_iret E dX4_site_31 rfl
  · rw [if_neg hc2] at hF
    refine jx_iload_n E dX4_site_9 2 rfl ?_
    refine jx_iconst (x := 4) E dX4_site_10 (by decide) ?_
    obtain ⟨⟨r4, v4⟩, hc4, hF⟩ := jx_bind hF
    try dsimp only at hF
    refine jx_callSi (As := [.int x2, .int 4]) (st := []) E dX4_site_11 2 rfl (k_X4_within hI x2 4 v1 r4 v4 hc4) (gb_S (List.mem_cons_of_mem _ tw_188) (List.mem_cons_of_mem _ tw_189) (List.mem_cons_of_mem _ tw_190) tw_187) rfl rfl rfl dd_X4_within rfl ⟨by decide, by decide⟩ ⟨Nat.le_refl 0, Nat.le_refl 0⟩ (Nat.le_of_ble_eq_true rfl) ?_
    refine jx_if_eq (tgt := 26) E dX4_site_14 (by decide) (fun hc5 => ?_) (fun hc5 => ?_)
    · rw [if_pos hc5] at hF
      refine jx_aload_n E dX4_site_26 0 rfl ?_
      refine jx_iconst (x := 0) E dX4_site_27 (by decide) ?_
      obtain ⟨⟨r6, v6⟩, hc6, hF⟩ := jx_bind hF
      try dsimp only at hF
      refine jx_callVi (As := [.int 0]) (st := []) (h := 0) E dX4_site_28 1 rfl (k_X4_finding hI 0 v4 r6 v6 hc6) (gb_V (List.mem_cons_of_mem _ tw_192) (List.mem_cons_of_mem _ tw_193) (List.mem_cons_of_mem _ tw_194) (List.mem_cons_of_mem _ tw_190) tw_191) rfl rfl rfl dd_X4_finding rfl (Nat.le_of_ble_eq_true rfl) s_X0 rfl ⟨by decide, by decide⟩ ⟨Nat.le_refl 0, Nat.le_refl 0⟩ (Nat.le_of_ble_eq_true rfl) ?_
      obtain ⟨rfl, rfl⟩ := jx_out hF
      exact jx_iret E dX4_site_31 rfl
    · rw [if_neg hc5] at hF
      refine jx_iload_n E dX4_site_17 3 rfl ?_
      refine jx_bipush (x := 10) E dX4_site_18 (by decide) ?_
      obtain ⟨⟨r7, v7⟩, hc7, hF⟩ := jx_bind hF
      try dsimp only at hF
      refine jx_callSi (As := [.int x3, .int 10]) (st := []) E dX4_site_20 2 rfl (k_X4_within hI x3 10 v4 r7 v7 hc7) (gb_S (List.mem_cons_of_mem _ tw_188) (List.mem_cons_of_mem _ tw_189) (List.mem_cons_of_mem _ tw_190) tw_187) rfl rfl rfl dd_X4_within rfl ⟨by decide, by decide⟩ ⟨Nat.le_refl 0, Nat.le_refl 0⟩ (Nat.le_of_ble_eq_true rfl) ?_
      refine jx_if_ne (tgt := 32) E dX4_site_23 (by decide) (fun hc8 => ?_) (fun hc8 => ?_)
      · rw [if_neg hc8] at hF
        refine jx_iconst (x := -1) E dX4_site_32 (by decide) ?_
        refine jx_istore (lv' := [(4, .int (-1)), (0, .ref (ad 0)), (1, .int x1), (2, .int x2), (3, .int x3)]) E dX4_site_33 (by decide) rfl ?_
        refine jx_iconst (x := 0) E dX4_site_35 (by decide) ?_
        refine jx_istore (lv' := [(5, .int 0), (4, .int (-1)), (0, .ref (ad 0)), (1, .int x1), (2, .int x2), (3, .int x3)]) E dX4_site_36 (by decide) rfl ?_
        refine jx_iconst (x := 0) E dX4_site_38 (by decide) ?_
        refine jx_istore (lv' := [(6, .int 0), (5, .int 0), (4, .int (-1)), (0, .ref (ad 0)), (1, .int x1), (2, .int x2), (3, .int x3)]) E dX4_site_39 (by decide) rfl ?_
        refine jx_sub [3, 4, 5, 6, 2, 1, 0] rfl ?_
        exact (key 100000) x1 x2 x3 (-1) 0 0 v7 hF
      · rw [if_pos hc8] at hF
        refine jx_aload_n E dX4_site_26 0 rfl ?_
        refine jx_iconst (x := 0) E dX4_site_27 (by decide) ?_
        obtain ⟨⟨r9, v9⟩, hc9, hF⟩ := jx_bind hF
        try dsimp only at hF
        refine jx_callVi (As := [.int 0]) (st := []) (h := 0) E dX4_site_28 1 rfl (k_X4_finding hI 0 v7 r9 v9 hc9) (gb_V (List.mem_cons_of_mem _ tw_192) (List.mem_cons_of_mem _ tw_193) (List.mem_cons_of_mem _ tw_194) (List.mem_cons_of_mem _ tw_190) tw_191) rfl rfl rfl dd_X4_finding rfl (Nat.le_of_ble_eq_true rfl) s_X0 rfl ⟨by decide, by decide⟩ ⟨Nat.le_refl 0, Nat.le_refl 0⟩ (Nat.le_of_ble_eq_true rfl) ?_
        obtain ⟨rfl, rfl⟩ := jx_out hF
        exact jx_iret E dX4_site_31 rfl
def f_X4_worst_L  : Nat → Int32 → Int32 → Int32 → Int32 → Int32 → jx_V → Option (Int32 × jx_V)
  | 0, _, _, _, _, _, _ => none
  | n + 1, x1, x2, x3, x4, x5, v => (if 12 ≤ x5 then (some (x3, (jx_up v 1 6 x2))) else ((f_X0_gainsInto 1 65 (jx_up v 1 6 (x2 + x5))).bind (fun (r7, v7) => (if x5 = 0 then (if (x1 < 0 ∨ 4 ≤ Int32.toNatClampNeg x1) then none else (f_X4_worst_L n x1 x2 x5 (v7 65 (Int32.toNatClampNeg x1)) (x5 + 1) v7)) else (if (x1 < 0 ∨ 4 ≤ Int32.toNatClampNeg x1) then none else (if x4 ≤ (v7 65 (Int32.toNatClampNeg x1)) then (f_X4_worst_L n x1 x2 x3 x4 (x5 + 1) v7) else (if (x1 < 0 ∨ 4 ≤ Int32.toNatClampNeg x1) then none else (f_X4_worst_L n x1 x2 x5 (v7 65 (Int32.toNatClampNeg x1)) (x5 + 1) v7))))))))
def f_X4_worst (x1 : Int32) (v : jx_V) : Option (Int32 × jx_V) := ((f_X4_within x1 4 v).bind (fun (r1, v1) => (if r1 = 0 then ((f_X4_finding 0 v1).bind (fun (r5, v5) => (some (r5, v5)))) else (if (((v1 1 6) + 12) - 1) ≤ 999 then (f_X4_worst_L 100000 x1 (v1 1 6) 0 0 0 v1) else ((f_X4_finding 4 v1).bind (fun (r4, v4) => (some (r4, v4))))))))
def rm_X4_worst : Room := { frames := 5, cells := 0, slots := 0, locals := 125 }
set_option maxHeartbeats 4000000 in
set_option maxRecDepth 100000 in
theorem k_X4_worst {l : Launch} {D : va_G} {cI cJ : ClassId} {ad : Nat → Nat} {A : Nat → Prop} {adK adV : Nat → Nat} (hI : jx_inj 67 ad A) (x1 : Int32) (v : jx_V) (r : Int32) (v' : jx_V) (hF : f_X4_worst x1 v = some (r, v')) : jx_Ci l D vwCl 67 cI cJ ad shX A (ex_X adK adV A) yX4_worst (Cond.code yX4_worst cX4_worst 6 (some .int) :: bigT) rm_X4_worst [.ref (ad 0), .int x1] v r v' := by
  unfold f_X4_worst at hF
  refine jx_enteri bigT RX4 cX4_worst 6 (some .int) [(0, .ref (ad 0)), (1, .int x1)] hI (ex_X_ok adK adV A) (by decide +kernel) rfl (Nat.le_of_ble_eq_true rfl) rfl rfl ?_
  intro p e s m args below meth c E
  have iX3 : ∀ w ∈ u_ws RX3 TX3 8, w ∈ (Cond.code yX4_worst cX4_worst 6 (some .int) :: bigT) := fun w h => List.mem_cons_of_mem _ (uw_X3 w h)
  have iX4 : ∀ w ∈ u_ws RX4 TX4 11, w ∈ (Cond.code yX4_worst cX4_worst 6 (some .int) :: bigT) := fun w h => List.mem_cons_of_mem _ (uw_X4 w h)
  have key : ∀ n : Nat, (∀ (x1 : Int32) (x2 : Int32) (x3 : Int32) (x4 : Int32) (x5 : Int32) (v : jx_V), f_X4_worst_L  n  x1 x2 x3 x4 x5 v = some (r, v') → jx_J p l e rm_X4_worst s m args below meth c D vwCl 67 cI cJ ad shX A 0 0 6 (MQ below (va_Qi (fun (r1 : Int32) (_ : Unit) => r1 = r) (fun _ t => va_P D vwCl (jx_ws 67 cI cJ ad shX v') t.heap) A) args s 0 0 A) v 54 [(0, .ref (ad 0)), (1, .int x1), (2, .int x2), (3, .int x3), (4, .int x4), (5, .int x5)] []) := by
    intro n
    induction n with
    | zero =>
      exact (fun _ _ _ _ _ _ h => by cases h)
    | succ n ih =>
      intro x1 x2 x3 x4 x5 v hF
      rw [f_X4_worst_L] at hF
      refine jx_iload E dX4_worst_54 5 rfl ?_
      refine jx_bipush (x := 12) E dX4_worst_56 (by decide) ?_
      refine jx_icmp_ge (tgt := 121) E dX4_worst_58 (by decide) (fun hc6 => ?_) (fun hc6 => ?_)
      · rw [if_pos hc6] at hF
        refine jx_aload_n E dX4_worst_121 0 rfl ?_
        refine jx_getr (C := RX4) (T := TX4) (M := 11) (k := 0) E dX4_worst_122 (Nat.le_of_ble_eq_true rfl) s_X0 rfl iX4 (by decide) rfl (List.mem_cons_of_mem _ tw_195) rfl ?_
        refine jx_iload_n E dX4_worst_125 2 rfl ?_
        refine jx_putiN (C := RX3) (T := TX3) (M := 8) (k := 6) (ty := .int) E tyX3 dX4_worst_126 (Nat.le_of_ble_eq_true rfl) s_X1 rfl iX3 (by decide) rfl (ex_f12 (jx_ex E)) tyX3_ok nmX3 rfl (by decide +kernel) rfl rfl rfl ?_
        refine jx_iload_n E dX4_worst_129 3 rfl ?_
        obtain ⟨rfl, rfl⟩ := jx_out hF
        exact jx_iret E dX4_worst_130 rfl
      · rw [if_neg hc6] at hF
        refine jx_aload_n E dX4_worst_61 0 rfl ?_
        refine jx_getr (C := RX4) (T := TX4) (M := 11) (k := 0) E dX4_worst_62 (Nat.le_of_ble_eq_true rfl) s_X0 rfl iX4 (by decide) rfl (List.mem_cons_of_mem _ tw_195) rfl ?_
        refine jx_iload_n E dX4_worst_65 2 rfl ?_
        refine jx_iload E dX4_worst_66 5 rfl ?_
        refine jx_iadd E dX4_worst_68 ?_
        refine jx_putiN (C := RX3) (T := TX3) (M := 8) (k := 6) (ty := .int) E tyX3 dX4_worst_69 (Nat.le_of_ble_eq_true rfl) s_X1 rfl iX3 (by decide) rfl (ex_f12 (jx_ex E)) tyX3_ok nmX3 rfl (by decide +kernel) rfl rfl rfl ?_
        refine jx_aload_n E dX4_worst_72 0 rfl ?_
        refine jx_getr (C := RX4) (T := TX4) (M := 11) (k := 3) E dX4_worst_73 (Nat.le_of_ble_eq_true rfl) s_X0 rfl iX4 (by decide) rfl (List.mem_cons_of_mem _ tw_209) rfl ?_
        refine jx_aload_n E dX4_worst_76 0 rfl ?_
        refine jx_getr (C := RX4) (T := TX4) (M := 11) (k := 0) E dX4_worst_77 (Nat.le_of_ble_eq_true rfl) s_X0 rfl iX4 (by decide) rfl (List.mem_cons_of_mem _ tw_195) rfl ?_
        refine jx_aload_n E dX4_worst_80 0 rfl ?_
        refine jx_getr (C := RX4) (T := TX4) (M := 11) (k := 8) E dX4_worst_81 (Nat.le_of_ble_eq_true rfl) s_X0 rfl iX4 (by decide) rfl (List.mem_cons_of_mem _ tw_217) rfl ?_
        obtain ⟨⟨r7, v7⟩, hc7, hF⟩ := jx_bind hF
        try dsimp only at hF
        refine jx_callNi (As := [.ref (ad 1), .ref (ad 65)]) (st := []) (h := 49) E dX4_worst_84 2 rfl (k_X0_gainsInto hI 1 jx_T1 65 s_X65 (Nat.le_of_ble_eq_true rfl) (jx_up v 1 6 (x2 + x5)) r7 v7 hc7) (gb_N tw_218) rfl rfl rfl (ex_m22 (jx_ex E)) (List.mem_cons_of_mem _ tw_49) (List.mem_cons_of_mem _ tw_219) (List.mem_cons_of_mem _ tw_220) dd_X0_gainsInto.2 rfl (Nat.le_of_ble_eq_true rfl) s_X49 rfl ⟨by decide, by decide⟩ ⟨Nat.le_refl 0, Nat.le_refl 0⟩ (Nat.le_of_ble_eq_true rfl) ?_
        refine jx_pop E dX4_worst_87 rfl ?_
        refine jx_iload E dX4_worst_88 5 rfl ?_
        refine jx_if_eq (tgt := 104) E dX4_worst_90 (by decide) (fun hc8 => ?_) (fun hc8 => ?_)
        · rw [if_pos hc8] at hF
          refine jx_aload_n E dX4_worst_104 0 rfl ?_
          refine jx_getr (C := RX4) (T := TX4) (M := 11) (k := 8) E dX4_worst_105 (Nat.le_of_ble_eq_true rfl) s_X0 rfl iX4 (by decide) rfl (List.mem_cons_of_mem _ tw_217) rfl ?_
          refine jx_iload_n E dX4_worst_108 1 rfl ?_
          obtain ⟨hg9, hF⟩ := jx_guard hF
          refine jx_iald (h := 65) (j := (Int32.toNatClampNeg x1)) E dX4_worst_109 (Nat.le_of_ble_eq_true rfl) s_X65 hg9 rfl ?_
          refine jx_istore (lv' := [(4, .int (v7 65 (Int32.toNatClampNeg x1))), (0, .ref (ad 0)), (1, .int x1), (2, .int x2), (3, .int x3), (5, .int x5)]) E dX4_worst_110 (by decide) rfl ?_
          refine jx_iload E dX4_worst_112 5 rfl ?_
          refine jx_istore_n (lv' := [(3, .int x5), (4, .int (v7 65 (Int32.toNatClampNeg x1))), (0, .ref (ad 0)), (1, .int x1), (2, .int x2), (5, .int x5)]) E dX4_worst_114 (by decide) rfl ?_
          refine jx_iinc (y := (x5 + 1)) (lv' := [(5, .int (x5 + 1)), (3, .int x5), (4, .int (v7 65 (Int32.toNatClampNeg x1))), (0, .ref (ad 0)), (1, .int x1), (2, .int x2)]) E dX4_worst_115 5 rfl rfl (by decide) rfl ?_
          refine jx_goto (tgt := 54) E dX4_worst_118 (by decide) ?_
          refine jx_sub [3, 4, 5, 1, 2, 0] rfl ?_
          exact ih x1 x2 x5 (v7 65 (Int32.toNatClampNeg x1)) (x5 + 1) v7 hF
        · rw [if_neg hc8] at hF
          refine jx_aload_n E dX4_worst_93 0 rfl ?_
          refine jx_getr (C := RX4) (T := TX4) (M := 11) (k := 8) E dX4_worst_94 (Nat.le_of_ble_eq_true rfl) s_X0 rfl iX4 (by decide) rfl (List.mem_cons_of_mem _ tw_217) rfl ?_
          refine jx_iload_n E dX4_worst_97 1 rfl ?_
          obtain ⟨hg10, hF⟩ := jx_guard hF
          refine jx_iald (h := 65) (j := (Int32.toNatClampNeg x1)) E dX4_worst_98 (Nat.le_of_ble_eq_true rfl) s_X65 hg10 rfl ?_
          refine jx_iload E dX4_worst_99 4 rfl ?_
          refine jx_icmp_ge (tgt := 115) E dX4_worst_101 (by decide) (fun hc11 => ?_) (fun hc11 => ?_)
          · rw [if_pos hc11] at hF
            refine jx_iinc (y := (x5 + 1)) (lv' := [(5, .int (x5 + 1)), (0, .ref (ad 0)), (1, .int x1), (2, .int x2), (3, .int x3), (4, .int x4)]) E dX4_worst_115 5 rfl rfl (by decide) rfl ?_
            refine jx_goto (tgt := 54) E dX4_worst_118 (by decide) ?_
            refine jx_sub [1, 2, 3, 4, 5, 0] rfl ?_
            exact ih x1 x2 x3 x4 (x5 + 1) v7 hF
          · rw [if_neg hc11] at hF
            refine jx_aload_n E dX4_worst_104 0 rfl ?_
            refine jx_getr (C := RX4) (T := TX4) (M := 11) (k := 8) E dX4_worst_105 (Nat.le_of_ble_eq_true rfl) s_X0 rfl iX4 (by decide) rfl (List.mem_cons_of_mem _ tw_217) rfl ?_
            refine jx_iload_n E dX4_worst_108 1 rfl ?_
            obtain ⟨hg12, hF⟩ := jx_guard hF
            refine jx_iald (h := 65) (j := (Int32.toNatClampNeg x1)) E dX4_worst_109 (Nat.le_of_ble_eq_true rfl) s_X65 hg12 rfl ?_
            refine jx_istore (lv' := [(4, .int (v7 65 (Int32.toNatClampNeg x1))), (0, .ref (ad 0)), (1, .int x1), (2, .int x2), (3, .int x3), (5, .int x5)]) E dX4_worst_110 (by decide) rfl ?_
            refine jx_iload E dX4_worst_112 5 rfl ?_
            refine jx_istore_n (lv' := [(3, .int x5), (4, .int (v7 65 (Int32.toNatClampNeg x1))), (0, .ref (ad 0)), (1, .int x1), (2, .int x2), (5, .int x5)]) E dX4_worst_114 (by decide) rfl ?_
            refine jx_iinc (y := (x5 + 1)) (lv' := [(5, .int (x5 + 1)), (3, .int x5), (4, .int (v7 65 (Int32.toNatClampNeg x1))), (0, .ref (ad 0)), (1, .int x1), (2, .int x2)]) E dX4_worst_115 5 rfl rfl (by decide) rfl ?_
            refine jx_goto (tgt := 54) E dX4_worst_118 (by decide) ?_
            refine jx_sub [3, 4, 5, 1, 2, 0] rfl ?_
            exact ih x1 x2 x5 (v7 65 (Int32.toNatClampNeg x1)) (x5 + 1) v7 hF
  refine jx_iload_n E dX4_worst_0 1 rfl ?_
  refine jx_iconst (x := 4) E dX4_worst_1 (by decide) ?_
  obtain ⟨⟨r1, v1⟩, hc1, hF⟩ := jx_bind hF
  try dsimp only at hF
  refine jx_callSi (As := [.int x1, .int 4]) (st := []) E dX4_worst_2 2 rfl (k_X4_within hI x1 4 v r1 v1 hc1) (gb_S (List.mem_cons_of_mem _ tw_188) (List.mem_cons_of_mem _ tw_189) (List.mem_cons_of_mem _ tw_190) tw_187) rfl rfl rfl dd_X4_within rfl ⟨by decide, by decide⟩ ⟨Nat.le_refl 0, Nat.le_refl 0⟩ (Nat.le_of_ble_eq_true rfl) ?_
  refine jx_if_ne (tgt := 14) E dX4_worst_5 (by decide) (fun hc2 => ?_) (fun hc2 => ?_)
  · rw [if_neg hc2] at hF
    refine jx_aload_n E dX4_worst_14 0 rfl ?_
    refine jx_getr (C := RX4) (T := TX4) (M := 11) (k := 0) E dX4_worst_15 (Nat.le_of_ble_eq_true rfl) s_X0 rfl iX4 (by decide) rfl (List.mem_cons_of_mem _ tw_195) rfl ?_
    refine jx_getiN (C := RX3) (T := TX3) (M := 8) (k := 6) E dX4_worst_18 (Nat.le_of_ble_eq_true rfl) s_X1 rfl iX3 (by decide) rfl (ex_f12 (jx_ex E)) rfl ?_
    refine jx_bipush (x := 12) E dX4_worst_21 (by decide) ?_
    refine jx_iadd E dX4_worst_23 ?_
    refine jx_iconst (x := 1) E dX4_worst_24 (by decide) ?_
    refine jx_isub E dX4_worst_25 ?_
    refine jx_sipush (x := 999) E dX4_worst_26 (by decide) ?_
    refine jx_icmp_le (tgt := 38) E dX4_worst_29 (by decide) (fun hc3 => ?_) (fun hc3 => ?_)
    · rw [if_pos hc3] at hF
      refine jx_aload_n E dX4_worst_38 0 rfl ?_
      refine jx_getr (C := RX4) (T := TX4) (M := 11) (k := 0) E dX4_worst_39 (Nat.le_of_ble_eq_true rfl) s_X0 rfl iX4 (by decide) rfl (List.mem_cons_of_mem _ tw_195) rfl ?_
      refine jx_getiN (C := RX3) (T := TX3) (M := 8) (k := 6) E dX4_worst_42 (Nat.le_of_ble_eq_true rfl) s_X1 rfl iX3 (by decide) rfl (ex_f12 (jx_ex E)) rfl ?_
      refine jx_istore_n (lv' := [(2, .int (v1 1 6)), (0, .ref (ad 0)), (1, .int x1)]) E dX4_worst_45 (by decide) rfl ?_
      refine jx_iconst (x := 0) E dX4_worst_46 (by decide) ?_
      refine jx_istore_n (lv' := [(3, .int 0), (2, .int (v1 1 6)), (0, .ref (ad 0)), (1, .int x1)]) E dX4_worst_47 (by decide) rfl ?_
      refine jx_iconst (x := 0) E dX4_worst_48 (by decide) ?_
      refine jx_istore (lv' := [(4, .int 0), (3, .int 0), (2, .int (v1 1 6)), (0, .ref (ad 0)), (1, .int x1)]) E dX4_worst_49 (by decide) rfl ?_
      refine jx_iconst (x := 0) E dX4_worst_51 (by decide) ?_
      refine jx_istore (lv' := [(5, .int 0), (4, .int 0), (3, .int 0), (2, .int (v1 1 6)), (0, .ref (ad 0)), (1, .int x1)]) E dX4_worst_52 (by decide) rfl ?_
      refine jx_sub [4, 5, 3, 2, 1, 0] rfl ?_
      exact (key 100000) x1 (v1 1 6) 0 0 0 v1 hF
    · rw [if_neg hc3] at hF
      refine jx_aload_n E dX4_worst_32 0 rfl ?_
      refine jx_iconst (x := 4) E dX4_worst_33 (by decide) ?_
      obtain ⟨⟨r4, v4⟩, hc4, hF⟩ := jx_bind hF
      try dsimp only at hF
      refine jx_callVi (As := [.int 4]) (st := []) (h := 0) E dX4_worst_34 1 rfl (k_X4_finding hI 4 v1 r4 v4 hc4) (gb_V (List.mem_cons_of_mem _ tw_192) (List.mem_cons_of_mem _ tw_193) (List.mem_cons_of_mem _ tw_194) (List.mem_cons_of_mem _ tw_190) tw_191) rfl rfl rfl dd_X4_finding rfl (Nat.le_of_ble_eq_true rfl) s_X0 rfl ⟨by decide, by decide⟩ ⟨Nat.le_refl 0, Nat.le_refl 0⟩ (Nat.le_of_ble_eq_true rfl) ?_
      obtain ⟨rfl, rfl⟩ := jx_out hF
      exact jx_iret E dX4_worst_37 rfl
  · rw [if_pos hc2] at hF
    refine jx_aload_n E dX4_worst_8 0 rfl ?_
    refine jx_iconst (x := 0) E dX4_worst_9 (by decide) ?_
    obtain ⟨⟨r5, v5⟩, hc5, hF⟩ := jx_bind hF
    try dsimp only at hF
    refine jx_callVi (As := [.int 0]) (st := []) (h := 0) E dX4_worst_10 1 rfl (k_X4_finding hI 0 v1 r5 v5 hc5) (gb_V (List.mem_cons_of_mem _ tw_192) (List.mem_cons_of_mem _ tw_193) (List.mem_cons_of_mem _ tw_194) (List.mem_cons_of_mem _ tw_190) tw_191) rfl rfl rfl dd_X4_finding rfl (Nat.le_of_ble_eq_true rfl) s_X0 rfl ⟨by decide, by decide⟩ ⟨Nat.le_refl 0, Nat.le_refl 0⟩ (Nat.le_of_ble_eq_true rfl) ?_
    obtain ⟨rfl, rfl⟩ := jx_out hF
    exact jx_iret E dX4_worst_13 rfl
def f_X4_bothGainIfLower (x1 : Int32) (x2 : Int32) (v : jx_V) : Option (Int32 × jx_V) := ((f_X3_lower 1 x1 v).bind (fun (r1, v1) => ((f_X3_lower 1 x2 v1).bind (fun (r2, v2) => ((f_X0_gainsInto 1 65 v2).bind (fun (r3, v3) => (if (x1 < 0 ∨ 25 ≤ Int32.toNatClampNeg x1) then none else (if (x1 < 0 ∨ 25 ≤ Int32.toNatClampNeg x1) then none else (if (x2 < 0 ∨ 25 ≤ Int32.toNatClampNeg x2) then none else (if (x2 < 0 ∨ 25 ≤ Int32.toNatClampNeg x2) then none else (if (x1 < 0 ∨ 25 ≤ Int32.toNatClampNeg x1) then none else (if (x2 < 0 ∨ 25 ≤ Int32.toNatClampNeg x2) then none else (if (((jx_up (jx_up v3 6 (Int32.toNatClampNeg x1) ((v3 6 (Int32.toNatClampNeg x1)) + r1)) 6 (Int32.toNatClampNeg x2) (((jx_up v3 6 (Int32.toNatClampNeg x1) ((v3 6 (Int32.toNatClampNeg x1)) + r1)) 6 (Int32.toNatClampNeg x2)) + r2)) 5 (Int32.toNatClampNeg x1)) < 0 ∨ 4 ≤ Int32.toNatClampNeg ((jx_up (jx_up v3 6 (Int32.toNatClampNeg x1) ((v3 6 (Int32.toNatClampNeg x1)) + r1)) 6 (Int32.toNatClampNeg x2) (((jx_up v3 6 (Int32.toNatClampNeg x1) ((v3 6 (Int32.toNatClampNeg x1)) + r1)) 6 (Int32.toNatClampNeg x2)) + r2)) 5 (Int32.toNatClampNeg x1))) then none else (if (((jx_up (jx_up v3 6 (Int32.toNatClampNeg x1) ((v3 6 (Int32.toNatClampNeg x1)) + r1)) 6 (Int32.toNatClampNeg x2) (((jx_up v3 6 (Int32.toNatClampNeg x1) ((v3 6 (Int32.toNatClampNeg x1)) + r1)) 6 (Int32.toNatClampNeg x2)) + r2)) 5 (Int32.toNatClampNeg x1)) < 0 ∨ 4 ≤ Int32.toNatClampNeg ((jx_up (jx_up v3 6 (Int32.toNatClampNeg x1) ((v3 6 (Int32.toNatClampNeg x1)) + r1)) 6 (Int32.toNatClampNeg x2) (((jx_up v3 6 (Int32.toNatClampNeg x1) ((v3 6 (Int32.toNatClampNeg x1)) + r1)) 6 (Int32.toNatClampNeg x2)) + r2)) 5 (Int32.toNatClampNeg x1))) then none else (if ((jx_up (jx_up v3 6 (Int32.toNatClampNeg x1) ((v3 6 (Int32.toNatClampNeg x1)) + r1)) 6 (Int32.toNatClampNeg x2) (((jx_up v3 6 (Int32.toNatClampNeg x1) ((v3 6 (Int32.toNatClampNeg x1)) + r1)) 6 (Int32.toNatClampNeg x2)) + r2)) 65 (Int32.toNatClampNeg ((jx_up (jx_up v3 6 (Int32.toNatClampNeg x1) ((v3 6 (Int32.toNatClampNeg x1)) + r1)) 6 (Int32.toNatClampNeg x2) (((jx_up v3 6 (Int32.toNatClampNeg x1) ((v3 6 (Int32.toNatClampNeg x1)) + r1)) 6 (Int32.toNatClampNeg x2)) + r2)) 5 (Int32.toNatClampNeg x1)))) ≤ ((jx_up (jx_up v3 6 (Int32.toNatClampNeg x1) ((v3 6 (Int32.toNatClampNeg x1)) + r1)) 6 (Int32.toNatClampNeg x2) (((jx_up v3 6 (Int32.toNatClampNeg x1) ((v3 6 (Int32.toNatClampNeg x1)) + r1)) 6 (Int32.toNatClampNeg x2)) + r2)) 64 (Int32.toNatClampNeg ((jx_up (jx_up v3 6 (Int32.toNatClampNeg x1) ((v3 6 (Int32.toNatClampNeg x1)) + r1)) 6 (Int32.toNatClampNeg x2) (((jx_up v3 6 (Int32.toNatClampNeg x1) ((v3 6 (Int32.toNatClampNeg x1)) + r1)) 6 (Int32.toNatClampNeg x2)) + r2)) 5 (Int32.toNatClampNeg x1)))) then (some (0, (jx_up (jx_up v3 6 (Int32.toNatClampNeg x1) ((v3 6 (Int32.toNatClampNeg x1)) + r1)) 6 (Int32.toNatClampNeg x2) (((jx_up v3 6 (Int32.toNatClampNeg x1) ((v3 6 (Int32.toNatClampNeg x1)) + r1)) 6 (Int32.toNatClampNeg x2)) + r2)))) else (if (((jx_up (jx_up v3 6 (Int32.toNatClampNeg x1) ((v3 6 (Int32.toNatClampNeg x1)) + r1)) 6 (Int32.toNatClampNeg x2) (((jx_up v3 6 (Int32.toNatClampNeg x1) ((v3 6 (Int32.toNatClampNeg x1)) + r1)) 6 (Int32.toNatClampNeg x2)) + r2)) 5 (Int32.toNatClampNeg x2)) < 0 ∨ 4 ≤ Int32.toNatClampNeg ((jx_up (jx_up v3 6 (Int32.toNatClampNeg x1) ((v3 6 (Int32.toNatClampNeg x1)) + r1)) 6 (Int32.toNatClampNeg x2) (((jx_up v3 6 (Int32.toNatClampNeg x1) ((v3 6 (Int32.toNatClampNeg x1)) + r1)) 6 (Int32.toNatClampNeg x2)) + r2)) 5 (Int32.toNatClampNeg x2))) then none else (if (((jx_up (jx_up v3 6 (Int32.toNatClampNeg x1) ((v3 6 (Int32.toNatClampNeg x1)) + r1)) 6 (Int32.toNatClampNeg x2) (((jx_up v3 6 (Int32.toNatClampNeg x1) ((v3 6 (Int32.toNatClampNeg x1)) + r1)) 6 (Int32.toNatClampNeg x2)) + r2)) 5 (Int32.toNatClampNeg x2)) < 0 ∨ 4 ≤ Int32.toNatClampNeg ((jx_up (jx_up v3 6 (Int32.toNatClampNeg x1) ((v3 6 (Int32.toNatClampNeg x1)) + r1)) 6 (Int32.toNatClampNeg x2) (((jx_up v3 6 (Int32.toNatClampNeg x1) ((v3 6 (Int32.toNatClampNeg x1)) + r1)) 6 (Int32.toNatClampNeg x2)) + r2)) 5 (Int32.toNatClampNeg x2))) then none else (if ((jx_up (jx_up v3 6 (Int32.toNatClampNeg x1) ((v3 6 (Int32.toNatClampNeg x1)) + r1)) 6 (Int32.toNatClampNeg x2) (((jx_up v3 6 (Int32.toNatClampNeg x1) ((v3 6 (Int32.toNatClampNeg x1)) + r1)) 6 (Int32.toNatClampNeg x2)) + r2)) 65 (Int32.toNatClampNeg ((jx_up (jx_up v3 6 (Int32.toNatClampNeg x1) ((v3 6 (Int32.toNatClampNeg x1)) + r1)) 6 (Int32.toNatClampNeg x2) (((jx_up v3 6 (Int32.toNatClampNeg x1) ((v3 6 (Int32.toNatClampNeg x1)) + r1)) 6 (Int32.toNatClampNeg x2)) + r2)) 5 (Int32.toNatClampNeg x2)))) ≤ ((jx_up (jx_up v3 6 (Int32.toNatClampNeg x1) ((v3 6 (Int32.toNatClampNeg x1)) + r1)) 6 (Int32.toNatClampNeg x2) (((jx_up v3 6 (Int32.toNatClampNeg x1) ((v3 6 (Int32.toNatClampNeg x1)) + r1)) 6 (Int32.toNatClampNeg x2)) + r2)) 64 (Int32.toNatClampNeg ((jx_up (jx_up v3 6 (Int32.toNatClampNeg x1) ((v3 6 (Int32.toNatClampNeg x1)) + r1)) 6 (Int32.toNatClampNeg x2) (((jx_up v3 6 (Int32.toNatClampNeg x1) ((v3 6 (Int32.toNatClampNeg x1)) + r1)) 6 (Int32.toNatClampNeg x2)) + r2)) 5 (Int32.toNatClampNeg x2)))) then (some (0, (jx_up (jx_up v3 6 (Int32.toNatClampNeg x1) ((v3 6 (Int32.toNatClampNeg x1)) + r1)) 6 (Int32.toNatClampNeg x2) (((jx_up v3 6 (Int32.toNatClampNeg x1) ((v3 6 (Int32.toNatClampNeg x1)) + r1)) 6 (Int32.toNatClampNeg x2)) + r2)))) else (some (1, (jx_up (jx_up v3 6 (Int32.toNatClampNeg x1) ((v3 6 (Int32.toNatClampNeg x1)) + r1)) 6 (Int32.toNatClampNeg x2) (((jx_up v3 6 (Int32.toNatClampNeg x1) ((v3 6 (Int32.toNatClampNeg x1)) + r1)) 6 (Int32.toNatClampNeg x2)) + r2))))))))))))))))))))))
def rm_X4_bothGainIfLower : Room := { frames := 5, cells := 0, slots := 0, locals := 125 }
set_option maxHeartbeats 4000000 in
set_option maxRecDepth 100000 in
theorem k_X4_bothGainIfLower {l : Launch} {D : va_G} {cI cJ : ClassId} {ad : Nat → Nat} {A : Nat → Prop} {adK adV : Nat → Nat} (hI : jx_inj 67 ad A) (x1 : Int32) (x2 : Int32) (v : jx_V) (r : Int32) (v' : jx_V) (hF : f_X4_bothGainIfLower x1 x2 v = some (r, v')) : jx_Ci l D vwCl 67 cI cJ ad shX A (ex_X adK adV A) yX4_bothGainIfLower (Cond.code yX4_bothGainIfLower cX4_bothGainIfLower 7 (some .boolean) :: bigT) rm_X4_bothGainIfLower [.ref (ad 0), .int x1, .int x2] v r v' := by
  unfold f_X4_bothGainIfLower at hF
  refine jx_enteri bigT RX4 cX4_bothGainIfLower 7 (some .boolean) [(0, .ref (ad 0)), (1, .int x1), (2, .int x2)] hI (ex_X_ok adK adV A) (by decide +kernel) rfl (Nat.le_of_ble_eq_true rfl) rfl rfl ?_
  intro p e s m args below meth c E
  have iX3 : ∀ w ∈ u_ws RX3 TX3 8, w ∈ (Cond.code yX4_bothGainIfLower cX4_bothGainIfLower 7 (some .boolean) :: bigT) := fun w h => List.mem_cons_of_mem _ (uw_X3 w h)
  have iX4 : ∀ w ∈ u_ws RX4 TX4 11, w ∈ (Cond.code yX4_bothGainIfLower cX4_bothGainIfLower 7 (some .boolean) :: bigT) := fun w h => List.mem_cons_of_mem _ (uw_X4 w h)
  refine jx_aload_n E dX4_bothGainIfLower_0 0 rfl ?_
  refine jx_getr (C := RX4) (T := TX4) (M := 11) (k := 0) E dX4_bothGainIfLower_1 (Nat.le_of_ble_eq_true rfl) s_X0 rfl iX4 (by decide) rfl (List.mem_cons_of_mem _ tw_195) rfl ?_
  refine jx_iload_n E dX4_bothGainIfLower_4 1 rfl ?_
  obtain ⟨⟨r1, v1⟩, hc1, hF⟩ := jx_bind hF
  try dsimp only at hF
  refine jx_callNi (As := [.int x1]) (st := []) (h := 1) E dX4_bothGainIfLower_5 1 rfl (k_X3_lower hI 1 jx_T1 x1 v r1 v1 hc1) (gb_N tw_258) rfl rfl rfl (ex_m29 (jx_ex E)) (List.mem_cons_of_mem _ tw_33) (List.mem_cons_of_mem _ tw_259) (List.mem_cons_of_mem _ tw_260) dd_X3_lower.2 rfl (Nat.le_of_ble_eq_true rfl) s_X1 rfl ⟨by decide, by decide⟩ ⟨Nat.le_refl 0, Nat.le_refl 0⟩ (Nat.le_of_ble_eq_true rfl) ?_
  refine jx_istore_n (lv' := [(3, .int r1), (0, .ref (ad 0)), (1, .int x1), (2, .int x2)]) E dX4_bothGainIfLower_8 (by decide) rfl ?_
  refine jx_aload_n E dX4_bothGainIfLower_9 1 rfl ?_
  refine jx_getr (C := RX4) (T := TX4) (M := 11) (k := 0) E dX4_bothGainIfLower_10 (Nat.le_of_ble_eq_true rfl) s_X0 rfl iX4 (by decide) rfl (List.mem_cons_of_mem _ tw_195) rfl ?_
  refine jx_iload_n E dX4_bothGainIfLower_13 3 rfl ?_
  obtain ⟨⟨r2, v2⟩, hc2, hF⟩ := jx_bind hF
  try dsimp only at hF
  refine jx_callNi (As := [.int x2]) (st := []) (h := 1) E dX4_bothGainIfLower_14 1 rfl (k_X3_lower hI 1 jx_T1 x2 v1 r2 v2 hc2) (gb_N tw_258) rfl rfl rfl (ex_m29 (jx_ex E)) (List.mem_cons_of_mem _ tw_33) (List.mem_cons_of_mem _ tw_259) (List.mem_cons_of_mem _ tw_260) dd_X3_lower.2 rfl (Nat.le_of_ble_eq_true rfl) s_X1 rfl ⟨by decide, by decide⟩ ⟨Nat.le_refl 0, Nat.le_refl 0⟩ (Nat.le_of_ble_eq_true rfl) ?_
  refine jx_istore (lv' := [(4, .int r2), (3, .int r1), (0, .ref (ad 0)), (1, .int x1), (2, .int x2)]) E dX4_bothGainIfLower_17 (by decide) rfl ?_
  refine jx_aload_n E dX4_bothGainIfLower_19 2 rfl ?_
  refine jx_getr (C := RX4) (T := TX4) (M := 11) (k := 3) E dX4_bothGainIfLower_20 (Nat.le_of_ble_eq_true rfl) s_X0 rfl iX4 (by decide) rfl (List.mem_cons_of_mem _ tw_209) rfl ?_
  refine jx_aload_n E dX4_bothGainIfLower_23 2 rfl ?_
  refine jx_getr (C := RX4) (T := TX4) (M := 11) (k := 0) E dX4_bothGainIfLower_24 (Nat.le_of_ble_eq_true rfl) s_X0 rfl iX4 (by decide) rfl (List.mem_cons_of_mem _ tw_195) rfl ?_
  refine jx_aload_n E dX4_bothGainIfLower_27 2 rfl ?_
  refine jx_getr (C := RX4) (T := TX4) (M := 11) (k := 8) E dX4_bothGainIfLower_28 (Nat.le_of_ble_eq_true rfl) s_X0 rfl iX4 (by decide) rfl (List.mem_cons_of_mem _ tw_217) rfl ?_
  obtain ⟨⟨r3, v3⟩, hc3, hF⟩ := jx_bind hF
  try dsimp only at hF
  refine jx_callNi (As := [.ref (ad 1), .ref (ad 65)]) (st := []) (h := 49) E dX4_bothGainIfLower_31 2 rfl (k_X0_gainsInto hI 1 jx_T1 65 s_X65 (Nat.le_of_ble_eq_true rfl) v2 r3 v3 hc3) (gb_N tw_218) rfl rfl rfl (ex_m22 (jx_ex E)) (List.mem_cons_of_mem _ tw_49) (List.mem_cons_of_mem _ tw_219) (List.mem_cons_of_mem _ tw_220) dd_X0_gainsInto.2 rfl (Nat.le_of_ble_eq_true rfl) s_X49 rfl ⟨by decide, by decide⟩ ⟨Nat.le_refl 0, Nat.le_refl 0⟩ (Nat.le_of_ble_eq_true rfl) ?_
  refine jx_pop E dX4_bothGainIfLower_34 rfl ?_
  refine jx_aload_n E dX4_bothGainIfLower_35 2 rfl ?_
  refine jx_getr (C := RX4) (T := TX4) (M := 11) (k := 0) E dX4_bothGainIfLower_36 (Nat.le_of_ble_eq_true rfl) s_X0 rfl iX4 (by decide) rfl (List.mem_cons_of_mem _ tw_195) rfl ?_
  refine jx_getrN (C := RX3) (T := TX3) (M := 8) (k := 0) E dX4_bothGainIfLower_39 (Nat.le_of_ble_eq_true rfl) s_X1 rfl iX3 (by decide) rfl (ex_f0 (jx_ex E)) rfl ?_
  refine jx_iconst (x := 2) E dX4_bothGainIfLower_42 (by decide) ?_
  refine jx_aald (h' := 6) E dX4_bothGainIfLower_43 (Nat.le_of_ble_eq_true rfl) s_X2 (show ¬ ((2 : Int32) < 0 ∨ 4 ≤ Int32.toNatClampNeg 2) by decide) rfl ?_
  refine jx_iload_n E dX4_bothGainIfLower_44 3 rfl ?_
  refine jx_dup2 E dX4_bothGainIfLower_45 rfl rfl ?_
  obtain ⟨hg4, hF⟩ := jx_guard hF
  refine jx_iald (h := 6) (j := (Int32.toNatClampNeg x1)) E dX4_bothGainIfLower_46 (Nat.le_of_ble_eq_true rfl) s_X6 hg4 rfl ?_
  refine jx_iload_n E dX4_bothGainIfLower_47 1 rfl ?_
  refine jx_iadd E dX4_bothGainIfLower_48 ?_
  obtain ⟨hg5, hF⟩ := jx_guard hF
  refine jx_iast (h := 6) (j := (Int32.toNatClampNeg x1)) E dX4_bothGainIfLower_49 (Nat.le_of_ble_eq_true rfl) s_X6 hg5 rfl ?_
  refine jx_aload_n E dX4_bothGainIfLower_50 2 rfl ?_
  refine jx_getr (C := RX4) (T := TX4) (M := 11) (k := 0) E dX4_bothGainIfLower_51 (Nat.le_of_ble_eq_true rfl) s_X0 rfl iX4 (by decide) rfl (List.mem_cons_of_mem _ tw_195) rfl ?_
  refine jx_getrN (C := RX3) (T := TX3) (M := 8) (k := 0) E dX4_bothGainIfLower_54 (Nat.le_of_ble_eq_true rfl) s_X1 rfl iX3 (by decide) rfl (ex_f0 (jx_ex E)) rfl ?_
  refine jx_iconst (x := 2) E dX4_bothGainIfLower_57 (by decide) ?_
  refine jx_aald (h' := 6) E dX4_bothGainIfLower_58 (Nat.le_of_ble_eq_true rfl) s_X2 (show ¬ ((2 : Int32) < 0 ∨ 4 ≤ Int32.toNatClampNeg 2) by decide) rfl ?_
  refine jx_iload_n E dX4_bothGainIfLower_59 4 rfl ?_
  refine jx_dup2 E dX4_bothGainIfLower_60 rfl rfl ?_
  obtain ⟨hg6, hF⟩ := jx_guard hF
  refine jx_iald (h := 6) (j := (Int32.toNatClampNeg x2)) E dX4_bothGainIfLower_61 (Nat.le_of_ble_eq_true rfl) s_X6 hg6 rfl ?_
  refine jx_iload E dX4_bothGainIfLower_62 0 rfl ?_
  refine jx_iadd E dX4_bothGainIfLower_64 ?_
  obtain ⟨hg7, hF⟩ := jx_guard hF
  refine jx_iast (h := 6) (j := (Int32.toNatClampNeg x2)) E dX4_bothGainIfLower_65 (Nat.le_of_ble_eq_true rfl) s_X6 hg7 rfl ?_
  refine jx_aload_n E dX4_bothGainIfLower_66 2 rfl ?_
  refine jx_getr (C := RX4) (T := TX4) (M := 11) (k := 0) E dX4_bothGainIfLower_67 (Nat.le_of_ble_eq_true rfl) s_X0 rfl iX4 (by decide) rfl (List.mem_cons_of_mem _ tw_195) rfl ?_
  refine jx_getrN (C := RX3) (T := TX3) (M := 8) (k := 0) E dX4_bothGainIfLower_70 (Nat.le_of_ble_eq_true rfl) s_X1 rfl iX3 (by decide) rfl (ex_f0 (jx_ex E)) rfl ?_
  refine jx_iconst (x := 1) E dX4_bothGainIfLower_73 (by decide) ?_
  refine jx_aald (h' := 5) E dX4_bothGainIfLower_74 (Nat.le_of_ble_eq_true rfl) s_X2 (show ¬ ((1 : Int32) < 0 ∨ 4 ≤ Int32.toNatClampNeg 1) by decide) rfl ?_
  refine jx_iload_n E dX4_bothGainIfLower_75 3 rfl ?_
  obtain ⟨hg8, hF⟩ := jx_guard hF
  refine jx_iald (h := 5) (j := (Int32.toNatClampNeg x1)) E dX4_bothGainIfLower_76 (Nat.le_of_ble_eq_true rfl) s_X5 hg8 rfl ?_
  refine jx_istore (lv' := [(5, .int ((jx_up (jx_up v3 6 (Int32.toNatClampNeg x1) ((v3 6 (Int32.toNatClampNeg x1)) + r1)) 6 (Int32.toNatClampNeg x2) (((jx_up v3 6 (Int32.toNatClampNeg x1) ((v3 6 (Int32.toNatClampNeg x1)) + r1)) 6 (Int32.toNatClampNeg x2)) + r2)) 5 (Int32.toNatClampNeg x1))), (4, .int r2), (3, .int r1), (0, .ref (ad 0)), (1, .int x1), (2, .int x2)]) E dX4_bothGainIfLower_77 (by decide) rfl ?_
  refine jx_aload_n E dX4_bothGainIfLower_79 3 rfl ?_
  refine jx_getr (C := RX4) (T := TX4) (M := 11) (k := 0) E dX4_bothGainIfLower_80 (Nat.le_of_ble_eq_true rfl) s_X0 rfl iX4 (by decide) rfl (List.mem_cons_of_mem _ tw_195) rfl ?_
  refine jx_getrN (C := RX3) (T := TX3) (M := 8) (k := 0) E dX4_bothGainIfLower_83 (Nat.le_of_ble_eq_true rfl) s_X1 rfl iX3 (by decide) rfl (ex_f0 (jx_ex E)) rfl ?_
  refine jx_iconst (x := 1) E dX4_bothGainIfLower_86 (by decide) ?_
  refine jx_aald (h' := 5) E dX4_bothGainIfLower_87 (Nat.le_of_ble_eq_true rfl) s_X2 (show ¬ ((1 : Int32) < 0 ∨ 4 ≤ Int32.toNatClampNeg 1) by decide) rfl ?_
  refine jx_iload_n E dX4_bothGainIfLower_88 5 rfl ?_
  obtain ⟨hg9, hF⟩ := jx_guard hF
  refine jx_iald (h := 5) (j := (Int32.toNatClampNeg x2)) E dX4_bothGainIfLower_89 (Nat.le_of_ble_eq_true rfl) s_X5 hg9 rfl ?_
  refine jx_istore (lv' := [(6, .int ((jx_up (jx_up v3 6 (Int32.toNatClampNeg x1) ((v3 6 (Int32.toNatClampNeg x1)) + r1)) 6 (Int32.toNatClampNeg x2) (((jx_up v3 6 (Int32.toNatClampNeg x1) ((v3 6 (Int32.toNatClampNeg x1)) + r1)) 6 (Int32.toNatClampNeg x2)) + r2)) 5 (Int32.toNatClampNeg x2))), (5, .int ((jx_up (jx_up v3 6 (Int32.toNatClampNeg x1) ((v3 6 (Int32.toNatClampNeg x1)) + r1)) 6 (Int32.toNatClampNeg x2) (((jx_up v3 6 (Int32.toNatClampNeg x1) ((v3 6 (Int32.toNatClampNeg x1)) + r1)) 6 (Int32.toNatClampNeg x2)) + r2)) 5 (Int32.toNatClampNeg x1))), (4, .int r2), (3, .int r1), (0, .ref (ad 0)), (1, .int x1), (2, .int x2)]) E dX4_bothGainIfLower_90 (by decide) rfl ?_
  refine jx_aload_n E dX4_bothGainIfLower_92 4 rfl ?_
  refine jx_getr (C := RX4) (T := TX4) (M := 11) (k := 8) E dX4_bothGainIfLower_93 (Nat.le_of_ble_eq_true rfl) s_X0 rfl iX4 (by decide) rfl (List.mem_cons_of_mem _ tw_217) rfl ?_
  refine jx_iload E dX4_bothGainIfLower_96 1 rfl ?_
  obtain ⟨hg10, hF⟩ := jx_guard hF
  refine jx_iald (h := 65) (j := (Int32.toNatClampNeg ((jx_up (jx_up v3 6 (Int32.toNatClampNeg x1) ((v3 6 (Int32.toNatClampNeg x1)) + r1)) 6 (Int32.toNatClampNeg x2) (((jx_up v3 6 (Int32.toNatClampNeg x1) ((v3 6 (Int32.toNatClampNeg x1)) + r1)) 6 (Int32.toNatClampNeg x2)) + r2)) 5 (Int32.toNatClampNeg x1)))) E dX4_bothGainIfLower_98 (Nat.le_of_ble_eq_true rfl) s_X65 hg10 rfl ?_
  refine jx_aload_n E dX4_bothGainIfLower_99 4 rfl ?_
  refine jx_getr (C := RX4) (T := TX4) (M := 11) (k := 7) E dX4_bothGainIfLower_100 (Nat.le_of_ble_eq_true rfl) s_X0 rfl iX4 (by decide) rfl (List.mem_cons_of_mem _ tw_253) rfl ?_
  refine jx_iload E dX4_bothGainIfLower_103 1 rfl ?_
  obtain ⟨hg11, hF⟩ := jx_guard hF
  refine jx_iald (h := 64) (j := (Int32.toNatClampNeg ((jx_up (jx_up v3 6 (Int32.toNatClampNeg x1) ((v3 6 (Int32.toNatClampNeg x1)) + r1)) 6 (Int32.toNatClampNeg x2) (((jx_up v3 6 (Int32.toNatClampNeg x1) ((v3 6 (Int32.toNatClampNeg x1)) + r1)) 6 (Int32.toNatClampNeg x2)) + r2)) 5 (Int32.toNatClampNeg x1)))) E dX4_bothGainIfLower_105 (Nat.le_of_ble_eq_true rfl) s_X64 hg11 rfl ?_
  refine jx_icmp_le (tgt := 130) E dX4_bothGainIfLower_106 (by decide) (fun hc12 => ?_) (fun hc12 => ?_)
  · rw [if_pos hc12] at hF
    refine jx_iconst (x := 0) E dX4_bothGainIfLower_130 (by decide) ?_
    obtain ⟨rfl, rfl⟩ := jx_out hF
    exact jx_zret E dX4_bothGainIfLower_131 rfl (Or.inl rfl)
  · rw [if_neg hc12] at hF
    refine jx_aload_n E dX4_bothGainIfLower_109 4 rfl ?_
    refine jx_getr (C := RX4) (T := TX4) (M := 11) (k := 8) E dX4_bothGainIfLower_110 (Nat.le_of_ble_eq_true rfl) s_X0 rfl iX4 (by decide) rfl (List.mem_cons_of_mem _ tw_217) rfl ?_
    refine jx_iload E dX4_bothGainIfLower_113 0 rfl ?_
    obtain ⟨hg13, hF⟩ := jx_guard hF
    refine jx_iald (h := 65) (j := (Int32.toNatClampNeg ((jx_up (jx_up v3 6 (Int32.toNatClampNeg x1) ((v3 6 (Int32.toNatClampNeg x1)) + r1)) 6 (Int32.toNatClampNeg x2) (((jx_up v3 6 (Int32.toNatClampNeg x1) ((v3 6 (Int32.toNatClampNeg x1)) + r1)) 6 (Int32.toNatClampNeg x2)) + r2)) 5 (Int32.toNatClampNeg x2)))) E dX4_bothGainIfLower_115 (Nat.le_of_ble_eq_true rfl) s_X65 hg13 rfl ?_
    refine jx_aload_n E dX4_bothGainIfLower_116 4 rfl ?_
    refine jx_getr (C := RX4) (T := TX4) (M := 11) (k := 7) E dX4_bothGainIfLower_117 (Nat.le_of_ble_eq_true rfl) s_X0 rfl iX4 (by decide) rfl (List.mem_cons_of_mem _ tw_253) rfl ?_
    refine jx_iload E dX4_bothGainIfLower_120 0 rfl ?_
    obtain ⟨hg14, hF⟩ := jx_guard hF
    refine jx_iald (h := 64) (j := (Int32.toNatClampNeg ((jx_up (jx_up v3 6 (Int32.toNatClampNeg x1) ((v3 6 (Int32.toNatClampNeg x1)) + r1)) 6 (Int32.toNatClampNeg x2) (((jx_up v3 6 (Int32.toNatClampNeg x1) ((v3 6 (Int32.toNatClampNeg x1)) + r1)) 6 (Int32.toNatClampNeg x2)) + r2)) 5 (Int32.toNatClampNeg x2)))) E dX4_bothGainIfLower_122 (Nat.le_of_ble_eq_true rfl) s_X64 hg14 rfl ?_
    refine jx_icmp_le (tgt := 130) E dX4_bothGainIfLower_123 (by decide) (fun hc15 => ?_) (fun hc15 => ?_)
    · rw [if_pos hc15] at hF
      refine jx_iconst (x := 0) E dX4_bothGainIfLower_130 (by decide) ?_
      obtain ⟨rfl, rfl⟩ := jx_out hF
      exact jx_zret E dX4_bothGainIfLower_131 rfl (Or.inl rfl)
    · rw [if_neg hc15] at hF
      refine jx_iconst (x := 1) E dX4_bothGainIfLower_126 (by decide) ?_
      refine jx_goto (tgt := 131) E dX4_bothGainIfLower_127 (by decide) ?_
      obtain ⟨rfl, rfl⟩ := jx_out hF
      exact jx_zret E dX4_bothGainIfLower_131 rfl (Or.inr rfl)
def f_X4_trade_L  : Nat → Nat → Int32 → Int32 → Int32 → Int32 → jx_V → Option (Int32 × jx_V)
  | 0, _, _, _, _, _, _ => none
  | n + 1, tag, x1, x2, x3, x4, v => (if tag = 0 then (if 25 ≤ x3 then ((f_X4_finding 3 v).bind (fun (r11, v11) => (some (r11, v11)))) else ((f_X3_isOwnersLot 1 x3 x1 v).bind (fun (r12, v12) => (if r12 = 0 then (f_X4_trade_L n 0 x1 x2 (x3 + 1) 0 v12) else (f_X4_trade_L n 1 x1 x2 x3 0 v12))))) else (if tag = 1 then (if 25 ≤ x4 then (f_X4_trade_L n 0 x1 x2 (x3 + 1) 0 v) else ((f_X3_isOwnersLot 1 x4 x2 v).bind (fun (r15, v15) => (if r15 = 0 then (f_X4_trade_L n 1 x1 x2 x3 (x4 + 1) v15) else ((f_X4_bothGainIfLower x3 x4 v15).bind (fun (r17, v17) => (if r17 = 0 then (f_X4_trade_L n 1 x1 x2 x3 (x4 + 1) v17) else (some (((100 * x3) + x4), v17))))))))) else none))
def f_X4_trade (x1 : Int32) (x2 : Int32) (v : jx_V) : Option (Int32 × jx_V) := ((f_X4_within x1 4 v).bind (fun (r1, v1) => (if r1 = 0 then ((f_X4_finding 0 v1).bind (fun (r3, v3) => (some (r3, v3)))) else ((f_X4_within x2 4 v1).bind (fun (r4, v4) => (if r4 = 0 then ((f_X4_finding 0 v4).bind (fun (r6, v6) => (some (r6, v6)))) else (if x1 = x2 then ((f_X4_finding 0 v4).bind (fun (r9, v9) => (some (r9, v9)))) else ((f_X0_gainsInto 1 64 v4).bind (fun (r8, v8) => (f_X4_trade_L 100000 0 x1 x2 0 0 v8))))))))))
def rm_X4_trade : Room := { frames := 6, cells := 0, slots := 0, locals := 151 }
set_option maxHeartbeats 4000000 in
set_option maxRecDepth 100000 in
theorem k_X4_trade {l : Launch} {D : va_G} {cI cJ : ClassId} {ad : Nat → Nat} {A : Nat → Prop} {adK adV : Nat → Nat} (hI : jx_inj 67 ad A) (x1 : Int32) (x2 : Int32) (v : jx_V) (r : Int32) (v' : jx_V) (hF : f_X4_trade x1 x2 v = some (r, v')) : jx_Ci l D vwCl 67 cI cJ ad shX A (ex_X adK adV A) yX4_trade (Cond.code yX4_trade cX4_trade 5 (some .int) :: bigT) rm_X4_trade [.ref (ad 0), .int x1, .int x2] v r v' := by
  unfold f_X4_trade at hF
  refine jx_enteri bigT RX4 cX4_trade 5 (some .int) [(0, .ref (ad 0)), (1, .int x1), (2, .int x2)] hI (ex_X_ok adK adV A) (by decide +kernel) rfl (Nat.le_of_ble_eq_true rfl) rfl rfl ?_
  intro p e s m args below meth c E
  have iX4 : ∀ w ∈ u_ws RX4 TX4 11, w ∈ (Cond.code yX4_trade cX4_trade 5 (some .int) :: bigT) := fun w h => List.mem_cons_of_mem _ (uw_X4 w h)
  have key : ∀ n : Nat, (∀ (x1 : Int32) (x2 : Int32) (x3 : Int32) (v : jx_V), f_X4_trade_L  n 0 x1 x2 x3 0 v = some (r, v') → jx_J p l e rm_X4_trade s m args below meth c D vwCl 67 cI cJ ad shX A 0 0 5 (MQ below (va_Qi (fun (r1 : Int32) (_ : Unit) => r1 = r) (fun _ t => va_P D vwCl (jx_ws 67 cI cJ ad shX v') t.heap) A) args s 0 0 A) v 45 [(0, .ref (ad 0)), (1, .int x1), (2, .int x2), (3, .int x3)] []) ∧ (∀ (x1 : Int32) (x2 : Int32) (x3 : Int32) (x4 : Int32) (v : jx_V), f_X4_trade_L  n 1 x1 x2 x3 x4 v = some (r, v') → jx_J p l e rm_X4_trade s m args below meth c D vwCl 67 cI cJ ad shX A 0 0 5 (MQ below (va_Qi (fun (r1 : Int32) (_ : Unit) => r1 = r) (fun _ t => va_P D vwCl (jx_ws 67 cI cJ ad shX v') t.heap) A) args s 0 0 A) v 69 [(0, .ref (ad 0)), (1, .int x1), (2, .int x2), (3, .int x3), (4, .int x4)] []) := by
    intro n
    induction n with
    | zero =>
      exact ⟨(fun _ _ _ _ h => by cases h), (fun _ _ _ _ _ h => by cases h)⟩
    | succ n ih =>
      refine ⟨?_, ?_⟩
      · intro x1 x2 x3 v hF
        rw [f_X4_trade_L] at hF
        rw [if_pos rfl] at hF
        refine jx_iload_n E dX4_trade_45 3 rfl ?_
        refine jx_bipush (x := 25) E dX4_trade_46 (by decide) ?_
        refine jx_icmp_ge (tgt := 119) E dX4_trade_48 (by decide) (fun hc10 => ?_) (fun hc10 => ?_)
        · rw [if_pos hc10] at hF
          refine jx_aload_n E dX4_trade_119 0 rfl ?_
          refine jx_iconst (x := 3) E dX4_trade_120 (by decide) ?_
          obtain ⟨⟨r11, v11⟩, hc11, hF⟩ := jx_bind hF
          try dsimp only at hF
          refine jx_callVi (As := [.int 3]) (st := []) (h := 0) E dX4_trade_121 1 rfl (k_X4_finding hI 3 v r11 v11 hc11) (gb_V (List.mem_cons_of_mem _ tw_192) (List.mem_cons_of_mem _ tw_193) (List.mem_cons_of_mem _ tw_194) (List.mem_cons_of_mem _ tw_190) tw_191) rfl rfl rfl dd_X4_finding rfl (Nat.le_of_ble_eq_true rfl) s_X0 rfl ⟨by decide, by decide⟩ ⟨Nat.le_refl 0, Nat.le_refl 0⟩ (Nat.le_of_ble_eq_true rfl) ?_
          obtain ⟨rfl, rfl⟩ := jx_out hF
          exact jx_iret E dX4_trade_124 rfl
        · rw [if_neg hc10] at hF
          refine jx_aload_n E dX4_trade_51 0 rfl ?_
          refine jx_getr (C := RX4) (T := TX4) (M := 11) (k := 0) E dX4_trade_52 (Nat.le_of_ble_eq_true rfl) s_X0 rfl iX4 (by decide) rfl (List.mem_cons_of_mem _ tw_195) rfl ?_
          refine jx_iload_n E dX4_trade_55 3 rfl ?_
          refine jx_iload_n E dX4_trade_56 1 rfl ?_
          obtain ⟨⟨r12, v12⟩, hc12, hF⟩ := jx_bind hF
          try dsimp only at hF
          refine jx_callNi (As := [.int x3, .int x1]) (st := []) (h := 1) E dX4_trade_57 2 rfl (k_X3_isOwnersLot hI 1 jx_T1 x3 x1 v r12 v12 hc12) (gb_N tw_261) rfl rfl rfl (ex_m28 (jx_ex E)) (List.mem_cons_of_mem _ tw_33) (List.mem_cons_of_mem _ tw_262) (List.mem_cons_of_mem _ tw_263) dd_X3_isOwnersLot.2 rfl (Nat.le_of_ble_eq_true rfl) s_X1 rfl ⟨by decide, by decide⟩ ⟨Nat.le_refl 0, Nat.le_refl 0⟩ (Nat.le_of_ble_eq_true rfl) ?_
          refine jx_if_ne (tgt := 66) E dX4_trade_60 (by decide) (fun hc13 => ?_) (fun hc13 => ?_)
          · rw [if_neg hc13] at hF
            refine jx_iconst (x := 0) E dX4_trade_66 (by decide) ?_
            refine jx_istore (lv' := [(4, .int 0), (0, .ref (ad 0)), (1, .int x1), (2, .int x2), (3, .int x3)]) E dX4_trade_67 (by decide) rfl ?_
            refine jx_sub [1, 2, 3, 4, 0] rfl ?_
            exact ih.2 x1 x2 x3 0 v12 hF
          · rw [if_pos hc13] at hF
            refine jx_goto (tgt := 113) E dX4_trade_63 (by decide) ?_
            refine jx_iinc (y := (x3 + 1)) (lv' := [(3, .int (x3 + 1)), (0, .ref (ad 0)), (1, .int x1), (2, .int x2)]) E dX4_trade_113 3 rfl rfl (by decide) rfl ?_
            refine jx_goto (tgt := 45) E dX4_trade_116 (by decide) ?_
            refine jx_sub [1, 2, 3, 0] rfl ?_
            exact ih.1 x1 x2 (x3 + 1) v12 hF
      · intro x1 x2 x3 x4 v hF
        rw [f_X4_trade_L] at hF
        rw [if_neg (by decide), if_pos rfl] at hF
        refine jx_iload E dX4_trade_69 4 rfl ?_
        refine jx_bipush (x := 25) E dX4_trade_71 (by decide) ?_
        refine jx_icmp_ge (tgt := 113) E dX4_trade_73 (by decide) (fun hc14 => ?_) (fun hc14 => ?_)
        · rw [if_pos hc14] at hF
          refine jx_iinc (y := (x3 + 1)) (lv' := [(3, .int (x3 + 1)), (0, .ref (ad 0)), (1, .int x1), (2, .int x2), (4, .int x4)]) E dX4_trade_113 3 rfl rfl (by decide) rfl ?_
          refine jx_goto (tgt := 45) E dX4_trade_116 (by decide) ?_
          refine jx_sub [1, 2, 3, 0] rfl ?_
          exact ih.1 x1 x2 (x3 + 1) v hF
        · rw [if_neg hc14] at hF
          refine jx_aload_n E dX4_trade_76 0 rfl ?_
          refine jx_getr (C := RX4) (T := TX4) (M := 11) (k := 0) E dX4_trade_77 (Nat.le_of_ble_eq_true rfl) s_X0 rfl iX4 (by decide) rfl (List.mem_cons_of_mem _ tw_195) rfl ?_
          refine jx_iload E dX4_trade_80 4 rfl ?_
          refine jx_iload_n E dX4_trade_82 2 rfl ?_
          obtain ⟨⟨r15, v15⟩, hc15, hF⟩ := jx_bind hF
          try dsimp only at hF
          refine jx_callNi (As := [.int x4, .int x2]) (st := []) (h := 1) E dX4_trade_83 2 rfl (k_X3_isOwnersLot hI 1 jx_T1 x4 x2 v r15 v15 hc15) (gb_N tw_261) rfl rfl rfl (ex_m28 (jx_ex E)) (List.mem_cons_of_mem _ tw_33) (List.mem_cons_of_mem _ tw_262) (List.mem_cons_of_mem _ tw_263) dd_X3_isOwnersLot.2 rfl (Nat.le_of_ble_eq_true rfl) s_X1 rfl ⟨by decide, by decide⟩ ⟨Nat.le_refl 0, Nat.le_refl 0⟩ (Nat.le_of_ble_eq_true rfl) ?_
          refine jx_if_eq (tgt := 107) E dX4_trade_86 (by decide) (fun hc16 => ?_) (fun hc16 => ?_)
          · rw [if_pos hc16] at hF
            refine jx_iinc (y := (x4 + 1)) (lv' := [(4, .int (x4 + 1)), (0, .ref (ad 0)), (1, .int x1), (2, .int x2), (3, .int x3)]) E dX4_trade_107 4 rfl rfl (by decide) rfl ?_
            refine jx_goto (tgt := 69) E dX4_trade_110 (by decide) ?_
            refine jx_sub [1, 2, 3, 4, 0] rfl ?_
            exact ih.2 x1 x2 x3 (x4 + 1) v15 hF
          · rw [if_neg hc16] at hF
            refine jx_aload_n E dX4_trade_89 0 rfl ?_
            refine jx_iload_n E dX4_trade_90 3 rfl ?_
            refine jx_iload E dX4_trade_91 4 rfl ?_
            obtain ⟨⟨r17, v17⟩, hc17, hF⟩ := jx_bind hF
            try dsimp only at hF
            refine jx_callVi (As := [.int x3, .int x4]) (st := []) (h := 0) E dX4_trade_93 2 rfl (k_X4_bothGainIfLower hI x3 x4 v15 r17 v17 hc17) (gb_V (List.mem_cons_of_mem _ tw_265) (List.mem_cons_of_mem _ tw_266) (List.mem_cons_of_mem _ tw_267) (List.mem_cons_of_mem _ tw_190) tw_264) rfl rfl rfl dd_X4_bothGainIfLower rfl (Nat.le_of_ble_eq_true rfl) s_X0 rfl ⟨by decide, by decide⟩ ⟨Nat.le_refl 0, Nat.le_refl 0⟩ (Nat.le_of_ble_eq_true rfl) ?_
            refine jx_if_eq (tgt := 107) E dX4_trade_96 (by decide) (fun hc18 => ?_) (fun hc18 => ?_)
            · rw [if_pos hc18] at hF
              refine jx_iinc (y := (x4 + 1)) (lv' := [(4, .int (x4 + 1)), (0, .ref (ad 0)), (1, .int x1), (2, .int x2), (3, .int x3)]) E dX4_trade_107 4 rfl rfl (by decide) rfl ?_
              refine jx_goto (tgt := 69) E dX4_trade_110 (by decide) ?_
              refine jx_sub [1, 2, 3, 4, 0] rfl ?_
              exact ih.2 x1 x2 x3 (x4 + 1) v17 hF
            · rw [if_neg hc18] at hF
              refine jx_bipush (x := 100) E dX4_trade_99 (by decide) ?_
              refine jx_iload_n E dX4_trade_101 3 rfl ?_
              refine jx_imul E dX4_trade_102 ?_
              refine jx_iload E dX4_trade_103 4 rfl ?_
              refine jx_iadd E dX4_trade_105 ?_
              obtain ⟨rfl, rfl⟩ := jx_out hF
              exact jx_iret E dX4_trade_106 rfl
  refine jx_iload_n E dX4_trade_0 1 rfl ?_
  refine jx_iconst (x := 4) E dX4_trade_1 (by decide) ?_
  obtain ⟨⟨r1, v1⟩, hc1, hF⟩ := jx_bind hF
  try dsimp only at hF
  refine jx_callSi (As := [.int x1, .int 4]) (st := []) E dX4_trade_2 2 rfl (k_X4_within hI x1 4 v r1 v1 hc1) (gb_S (List.mem_cons_of_mem _ tw_188) (List.mem_cons_of_mem _ tw_189) (List.mem_cons_of_mem _ tw_190) tw_187) rfl rfl rfl dd_X4_within rfl ⟨by decide, by decide⟩ ⟨Nat.le_refl 0, Nat.le_refl 0⟩ (Nat.le_of_ble_eq_true rfl) ?_
  refine jx_if_eq (tgt := 21) E dX4_trade_5 (by decide) (fun hc2 => ?_) (fun hc2 => ?_)
  · rw [if_pos hc2] at hF
    refine jx_aload_n E dX4_trade_21 0 rfl ?_
    refine jx_iconst (x := 0) E dX4_trade_22 (by decide) ?_
    obtain ⟨⟨r3, v3⟩, hc3, hF⟩ := jx_bind hF
    try dsimp only at hF
    refine jx_callVi (As := [.int 0]) (st := []) (h := 0) E dX4_trade_23 1 rfl (k_X4_finding hI 0 v1 r3 v3 hc3) (gb_V (List.mem_cons_of_mem _ tw_192) (List.mem_cons_of_mem _ tw_193) (List.mem_cons_of_mem _ tw_194) (List.mem_cons_of_mem _ tw_190) tw_191) rfl rfl rfl dd_X4_finding rfl (Nat.le_of_ble_eq_true rfl) s_X0 rfl ⟨by decide, by decide⟩ ⟨Nat.le_refl 0, Nat.le_refl 0⟩ (Nat.le_of_ble_eq_true rfl) ?_
    obtain ⟨rfl, rfl⟩ := jx_out hF
    exact jx_iret E dX4_trade_26 rfl
  · rw [if_neg hc2] at hF
    refine jx_iload_n E dX4_trade_8 2 rfl ?_
    refine jx_iconst (x := 4) E dX4_trade_9 (by decide) ?_
    obtain ⟨⟨r4, v4⟩, hc4, hF⟩ := jx_bind hF
    try dsimp only at hF
    refine jx_callSi (As := [.int x2, .int 4]) (st := []) E dX4_trade_10 2 rfl (k_X4_within hI x2 4 v1 r4 v4 hc4) (gb_S (List.mem_cons_of_mem _ tw_188) (List.mem_cons_of_mem _ tw_189) (List.mem_cons_of_mem _ tw_190) tw_187) rfl rfl rfl dd_X4_within rfl ⟨by decide, by decide⟩ ⟨Nat.le_refl 0, Nat.le_refl 0⟩ (Nat.le_of_ble_eq_true rfl) ?_
    refine jx_if_eq (tgt := 21) E dX4_trade_13 (by decide) (fun hc5 => ?_) (fun hc5 => ?_)
    · rw [if_pos hc5] at hF
      refine jx_aload_n E dX4_trade_21 0 rfl ?_
      refine jx_iconst (x := 0) E dX4_trade_22 (by decide) ?_
      obtain ⟨⟨r6, v6⟩, hc6, hF⟩ := jx_bind hF
      try dsimp only at hF
      refine jx_callVi (As := [.int 0]) (st := []) (h := 0) E dX4_trade_23 1 rfl (k_X4_finding hI 0 v4 r6 v6 hc6) (gb_V (List.mem_cons_of_mem _ tw_192) (List.mem_cons_of_mem _ tw_193) (List.mem_cons_of_mem _ tw_194) (List.mem_cons_of_mem _ tw_190) tw_191) rfl rfl rfl dd_X4_finding rfl (Nat.le_of_ble_eq_true rfl) s_X0 rfl ⟨by decide, by decide⟩ ⟨Nat.le_refl 0, Nat.le_refl 0⟩ (Nat.le_of_ble_eq_true rfl) ?_
      obtain ⟨rfl, rfl⟩ := jx_out hF
      exact jx_iret E dX4_trade_26 rfl
    · rw [if_neg hc5] at hF
      refine jx_iload_n E dX4_trade_16 1 rfl ?_
      refine jx_iload_n E dX4_trade_17 2 rfl ?_
      refine jx_icmp_ne (tgt := 27) E dX4_trade_18 (by decide) (fun hc7 => ?_) (fun hc7 => ?_)
      · rw [if_neg hc7] at hF
        refine jx_aload_n E dX4_trade_27 0 rfl ?_
        refine jx_getr (C := RX4) (T := TX4) (M := 11) (k := 3) E dX4_trade_28 (Nat.le_of_ble_eq_true rfl) s_X0 rfl iX4 (by decide) rfl (List.mem_cons_of_mem _ tw_209) rfl ?_
        refine jx_aload_n E dX4_trade_31 0 rfl ?_
        refine jx_getr (C := RX4) (T := TX4) (M := 11) (k := 0) E dX4_trade_32 (Nat.le_of_ble_eq_true rfl) s_X0 rfl iX4 (by decide) rfl (List.mem_cons_of_mem _ tw_195) rfl ?_
        refine jx_aload_n E dX4_trade_35 0 rfl ?_
        refine jx_getr (C := RX4) (T := TX4) (M := 11) (k := 7) E dX4_trade_36 (Nat.le_of_ble_eq_true rfl) s_X0 rfl iX4 (by decide) rfl (List.mem_cons_of_mem _ tw_253) rfl ?_
        obtain ⟨⟨r8, v8⟩, hc8, hF⟩ := jx_bind hF
        try dsimp only at hF
        refine jx_callNi (As := [.ref (ad 1), .ref (ad 64)]) (st := []) (h := 49) E dX4_trade_39 2 rfl (k_X0_gainsInto hI 1 jx_T1 64 s_X64 (Nat.le_of_ble_eq_true rfl) v4 r8 v8 hc8) (gb_N tw_218) rfl rfl rfl (ex_m22 (jx_ex E)) (List.mem_cons_of_mem _ tw_49) (List.mem_cons_of_mem _ tw_219) (List.mem_cons_of_mem _ tw_220) dd_X0_gainsInto.2 rfl (Nat.le_of_ble_eq_true rfl) s_X49 rfl ⟨by decide, by decide⟩ ⟨Nat.le_refl 0, Nat.le_refl 0⟩ (Nat.le_of_ble_eq_true rfl) ?_
        refine jx_pop E dX4_trade_42 rfl ?_
        refine jx_iconst (x := 0) E dX4_trade_43 (by decide) ?_
        refine jx_istore_n (lv' := [(3, .int 0), (0, .ref (ad 0)), (1, .int x1), (2, .int x2)]) E dX4_trade_44 (by decide) rfl ?_
        refine jx_sub [1, 2, 3, 0] rfl ?_
        exact (key 100000).1 x1 x2 0 v8 hF
      · rw [if_pos hc7] at hF
        refine jx_aload_n E dX4_trade_21 0 rfl ?_
        refine jx_iconst (x := 0) E dX4_trade_22 (by decide) ?_
        obtain ⟨⟨r9, v9⟩, hc9, hF⟩ := jx_bind hF
        try dsimp only at hF
        refine jx_callVi (As := [.int 0]) (st := []) (h := 0) E dX4_trade_23 1 rfl (k_X4_finding hI 0 v4 r9 v9 hc9) (gb_V (List.mem_cons_of_mem _ tw_192) (List.mem_cons_of_mem _ tw_193) (List.mem_cons_of_mem _ tw_194) (List.mem_cons_of_mem _ tw_190) tw_191) rfl rfl rfl dd_X4_finding rfl (Nat.le_of_ble_eq_true rfl) s_X0 rfl ⟨by decide, by decide⟩ ⟨Nat.le_refl 0, Nat.le_refl 0⟩ (Nat.le_of_ble_eq_true rfl) ?_
        obtain ⟨rfl, rfl⟩ := jx_out hF
        exact jx_iret E dX4_trade_26 rfl
def f_X4_swap_L  : Nat → Int32 → Int32 → Int32 → Int32 → jx_V → Option (Int32 × jx_V)
  | 0, _, _, _, _, _ => none
  | n + 1, x1, x2, x3, x4, v => (if 4 ≤ x4 then (some (x3, v)) else (if (x4 < 0 ∨ 4 ≤ Int32.toNatClampNeg x4) then none else (if (x4 < 0 ∨ 4 ≤ Int32.toNatClampNeg x4) then none else ((f_J6_compare_7cf53 (v 65 (Int32.toNatClampNeg x4)) (v 64 (Int32.toNatClampNeg x4)) v).bind (fun (r20, v20) => (f_X4_swap_L n x1 x2 (x3 + r20) (x4 + 1) v20))))))
def f_X4_swap (x1 : Int32) (x2 : Int32) (v : jx_V) : Option (Int32 × jx_V) := ((f_X4_within x1 25 v).bind (fun (r1, v1) => (if r1 = 0 then ((f_X4_finding 0 v1).bind (fun (r3, v3) => (some (r3, v3)))) else ((f_X4_within x2 25 v1).bind (fun (r4, v4) => (if r4 = 0 then ((f_X4_finding 0 v4).bind (fun (r16, v16) => (some (r16, v16)))) else ((f_X3_isTaken 1 x1 v4).bind (fun (r6, v6) => (if r6 = 0 then ((f_X4_finding 3 v6).bind (fun (r8, v8) => (some (r8, v8)))) else ((f_X3_isTaken 1 x2 v6).bind (fun (r9, v9) => (if r9 = 0 then ((f_X4_finding 3 v9).bind (fun (r15, v15) => (some (r15, v15)))) else ((f_X0_gainsInto 1 64 v9).bind (fun (r11, v11) => ((f_X3_exchange 1 x1 x2 v11).bind (fun v12 => ((f_X0_gainsInto 1 65 v12).bind (fun (r13, v13) => ((f_X3_exchange 1 x1 x2 v13).bind (fun v14 => (f_X4_swap_L 100000 x1 x2 0 0 v14)))))))))))))))))))))
def rm_X4_swap : Room := { frames := 5, cells := 0, slots := 0, locals := 125 }
set_option maxHeartbeats 4000000 in
set_option maxRecDepth 100000 in
theorem k_X4_swap {l : Launch} {D : va_G} {cI cJ : ClassId} {ad : Nat → Nat} {A : Nat → Prop} {adK adV : Nat → Nat} (hI : jx_inj 67 ad A) (x1 : Int32) (x2 : Int32) (v : jx_V) (r : Int32) (v' : jx_V) (hF : f_X4_swap x1 x2 v = some (r, v')) : jx_Ci l D vwCl 67 cI cJ ad shX A (ex_X adK adV A) yX4_swap (Cond.code yX4_swap cX4_swap 5 (some .int) :: bigT) rm_X4_swap [.ref (ad 0), .int x1, .int x2] v r v' := by
  unfold f_X4_swap at hF
  refine jx_enteri bigT RX4 cX4_swap 5 (some .int) [(0, .ref (ad 0)), (1, .int x1), (2, .int x2)] hI (ex_X_ok adK adV A) (by decide +kernel) rfl (Nat.le_of_ble_eq_true rfl) rfl rfl ?_
  intro p e s m args below meth c E
  have iX4 : ∀ w ∈ u_ws RX4 TX4 11, w ∈ (Cond.code yX4_swap cX4_swap 5 (some .int) :: bigT) := fun w h => List.mem_cons_of_mem _ (uw_X4 w h)
  have key : ∀ n : Nat, (∀ (x1 : Int32) (x2 : Int32) (x3 : Int32) (x4 : Int32) (v : jx_V), f_X4_swap_L  n  x1 x2 x3 x4 v = some (r, v') → jx_J p l e rm_X4_swap s m args below meth c D vwCl 67 cI cJ ad shX A 0 0 5 (MQ below (va_Qi (fun (r1 : Int32) (_ : Unit) => r1 = r) (fun _ t => va_P D vwCl (jx_ws 67 cI cJ ad shX v') t.heap) A) args s 0 0 A) v 107 [(0, .ref (ad 0)), (1, .int x1), (2, .int x2), (3, .int x3), (4, .int x4)] []) := by
    intro n
    induction n with
    | zero =>
      exact (fun _ _ _ _ _ h => by cases h)
    | succ n ih =>
      intro x1 x2 x3 x4 v hF
      rw [f_X4_swap_L] at hF
      refine jx_iload E dX4_swap_107 4 rfl ?_
      refine jx_iconst (x := 4) E dX4_swap_109 (by decide) ?_
      refine jx_icmp_ge (tgt := 139) E dX4_swap_110 (by decide) (fun hc17 => ?_) (fun hc17 => ?_)
      · rw [if_pos hc17] at hF
        refine jx_iload_n E dX4_swap_139 3 rfl ?_
        obtain ⟨rfl, rfl⟩ := jx_out hF
        exact jx_iret E dX4_swap_140 rfl
      · rw [if_neg hc17] at hF
        refine jx_iload_n E dX4_swap_113 3 rfl ?_
        refine jx_aload_n E dX4_swap_114 0 rfl ?_
        refine jx_getr (C := RX4) (T := TX4) (M := 11) (k := 8) E dX4_swap_115 (Nat.le_of_ble_eq_true rfl) s_X0 rfl iX4 (by decide) rfl (List.mem_cons_of_mem _ tw_217) rfl ?_
        refine jx_iload E dX4_swap_118 4 rfl ?_
        obtain ⟨hg18, hF⟩ := jx_guard hF
        refine jx_iald (h := 65) (j := (Int32.toNatClampNeg x4)) E dX4_swap_120 (Nat.le_of_ble_eq_true rfl) s_X65 hg18 rfl ?_
        refine jx_aload_n E dX4_swap_121 0 rfl ?_
        refine jx_getr (C := RX4) (T := TX4) (M := 11) (k := 7) E dX4_swap_122 (Nat.le_of_ble_eq_true rfl) s_X0 rfl iX4 (by decide) rfl (List.mem_cons_of_mem _ tw_253) rfl ?_
        refine jx_iload E dX4_swap_125 4 rfl ?_
        obtain ⟨hg19, hF⟩ := jx_guard hF
        refine jx_iald (h := 64) (j := (Int32.toNatClampNeg x4)) E dX4_swap_127 (Nat.le_of_ble_eq_true rfl) s_X64 hg19 rfl ?_
        obtain ⟨⟨r20, v20⟩, hc20, hF⟩ := jx_bind hF
        try dsimp only at hF
        refine jx_callTi (As := [.int (v 65 (Int32.toNatClampNeg x4)), .int (v 64 (Int32.toNatClampNeg x4))]) (st := [.int x3]) E dX4_swap_128 2 rfl (k_J6_compare_7cf53 hI (v 65 (Int32.toNatClampNeg x4)) (v 64 (Int32.toNatClampNeg x4)) v r20 v20 hc20) (gb_N tw_271) rfl rfl rfl (List.mem_cons_of_mem _ tw_272) (List.mem_cons_of_mem _ tw_273) (List.mem_cons_of_mem _ tw_257) dd_J6_compare_7cf53.2 rfl ⟨by decide, by decide⟩ ⟨Nat.le_refl 0, Nat.le_refl 0⟩ (Nat.le_of_ble_eq_true rfl) ?_
        refine jx_iadd E dX4_swap_131 ?_
        refine jx_istore_n (lv' := [(3, .int (x3 + r20)), (0, .ref (ad 0)), (1, .int x1), (2, .int x2), (4, .int x4)]) E dX4_swap_132 (by decide) rfl ?_
        refine jx_iinc (y := (x4 + 1)) (lv' := [(4, .int (x4 + 1)), (3, .int (x3 + r20)), (0, .ref (ad 0)), (1, .int x1), (2, .int x2)]) E dX4_swap_133 4 rfl rfl (by decide) rfl ?_
        refine jx_goto (tgt := 107) E dX4_swap_136 (by decide) ?_
        refine jx_sub [2, 3, 4, 1, 0] rfl ?_
        exact ih x1 x2 (x3 + r20) (x4 + 1) v20 hF
  refine jx_iload_n E dX4_swap_0 1 rfl ?_
  refine jx_bipush (x := 25) E dX4_swap_1 (by decide) ?_
  obtain ⟨⟨r1, v1⟩, hc1, hF⟩ := jx_bind hF
  try dsimp only at hF
  refine jx_callSi (As := [.int x1, .int 25]) (st := []) E dX4_swap_3 2 rfl (k_X4_within hI x1 25 v r1 v1 hc1) (gb_S (List.mem_cons_of_mem _ tw_188) (List.mem_cons_of_mem _ tw_189) (List.mem_cons_of_mem _ tw_190) tw_187) rfl rfl rfl dd_X4_within rfl ⟨by decide, by decide⟩ ⟨Nat.le_refl 0, Nat.le_refl 0⟩ (Nat.le_of_ble_eq_true rfl) ?_
  refine jx_if_eq (tgt := 18) E dX4_swap_6 (by decide) (fun hc2 => ?_) (fun hc2 => ?_)
  · rw [if_pos hc2] at hF
    refine jx_aload_n E dX4_swap_18 0 rfl ?_
    refine jx_iconst (x := 0) E dX4_swap_19 (by decide) ?_
    obtain ⟨⟨r3, v3⟩, hc3, hF⟩ := jx_bind hF
    try dsimp only at hF
    refine jx_callVi (As := [.int 0]) (st := []) (h := 0) E dX4_swap_20 1 rfl (k_X4_finding hI 0 v1 r3 v3 hc3) (gb_V (List.mem_cons_of_mem _ tw_192) (List.mem_cons_of_mem _ tw_193) (List.mem_cons_of_mem _ tw_194) (List.mem_cons_of_mem _ tw_190) tw_191) rfl rfl rfl dd_X4_finding rfl (Nat.le_of_ble_eq_true rfl) s_X0 rfl ⟨by decide, by decide⟩ ⟨Nat.le_refl 0, Nat.le_refl 0⟩ (Nat.le_of_ble_eq_true rfl) ?_
    obtain ⟨rfl, rfl⟩ := jx_out hF
    exact jx_iret E dX4_swap_23 rfl
  · rw [if_neg hc2] at hF
    refine jx_iload_n E dX4_swap_9 2 rfl ?_
    refine jx_bipush (x := 25) E dX4_swap_10 (by decide) ?_
    obtain ⟨⟨r4, v4⟩, hc4, hF⟩ := jx_bind hF
    try dsimp only at hF
    refine jx_callSi (As := [.int x2, .int 25]) (st := []) E dX4_swap_12 2 rfl (k_X4_within hI x2 25 v1 r4 v4 hc4) (gb_S (List.mem_cons_of_mem _ tw_188) (List.mem_cons_of_mem _ tw_189) (List.mem_cons_of_mem _ tw_190) tw_187) rfl rfl rfl dd_X4_within rfl ⟨by decide, by decide⟩ ⟨Nat.le_refl 0, Nat.le_refl 0⟩ (Nat.le_of_ble_eq_true rfl) ?_
    refine jx_if_ne (tgt := 24) E dX4_swap_15 (by decide) (fun hc5 => ?_) (fun hc5 => ?_)
    · rw [if_neg hc5] at hF
      refine jx_aload_n E dX4_swap_24 0 rfl ?_
      refine jx_getr (C := RX4) (T := TX4) (M := 11) (k := 0) E dX4_swap_25 (Nat.le_of_ble_eq_true rfl) s_X0 rfl iX4 (by decide) rfl (List.mem_cons_of_mem _ tw_195) rfl ?_
      refine jx_iload_n E dX4_swap_28 1 rfl ?_
      obtain ⟨⟨r6, v6⟩, hc6, hF⟩ := jx_bind hF
      try dsimp only at hF
      refine jx_callNi (As := [.int x1]) (st := []) (h := 1) E dX4_swap_29 1 rfl (k_X3_isTaken hI 1 jx_T1 x1 v4 r6 v6 hc6) (gb_N tw_51) rfl rfl rfl (ex_m4 (jx_ex E)) (List.mem_cons_of_mem _ tw_33) (List.mem_cons_of_mem _ tw_52) (List.mem_cons_of_mem _ tw_53) dd_X3_isTaken.2 rfl (Nat.le_of_ble_eq_true rfl) s_X1 rfl ⟨by decide, by decide⟩ ⟨Nat.le_refl 0, Nat.le_refl 0⟩ (Nat.le_of_ble_eq_true rfl) ?_
      refine jx_if_eq (tgt := 46) E dX4_swap_32 (by decide) (fun hc7 => ?_) (fun hc7 => ?_)
      · rw [if_pos hc7] at hF
        refine jx_aload_n E dX4_swap_46 0 rfl ?_
        refine jx_iconst (x := 3) E dX4_swap_47 (by decide) ?_
        obtain ⟨⟨r8, v8⟩, hc8, hF⟩ := jx_bind hF
        try dsimp only at hF
        refine jx_callVi (As := [.int 3]) (st := []) (h := 0) E dX4_swap_48 1 rfl (k_X4_finding hI 3 v6 r8 v8 hc8) (gb_V (List.mem_cons_of_mem _ tw_192) (List.mem_cons_of_mem _ tw_193) (List.mem_cons_of_mem _ tw_194) (List.mem_cons_of_mem _ tw_190) tw_191) rfl rfl rfl dd_X4_finding rfl (Nat.le_of_ble_eq_true rfl) s_X0 rfl ⟨by decide, by decide⟩ ⟨Nat.le_refl 0, Nat.le_refl 0⟩ (Nat.le_of_ble_eq_true rfl) ?_
        obtain ⟨rfl, rfl⟩ := jx_out hF
        exact jx_iret E dX4_swap_51 rfl
      · rw [if_neg hc7] at hF
        refine jx_aload_n E dX4_swap_35 0 rfl ?_
        refine jx_getr (C := RX4) (T := TX4) (M := 11) (k := 0) E dX4_swap_36 (Nat.le_of_ble_eq_true rfl) s_X0 rfl iX4 (by decide) rfl (List.mem_cons_of_mem _ tw_195) rfl ?_
        refine jx_iload_n E dX4_swap_39 2 rfl ?_
        obtain ⟨⟨r9, v9⟩, hc9, hF⟩ := jx_bind hF
        try dsimp only at hF
        refine jx_callNi (As := [.int x2]) (st := []) (h := 1) E dX4_swap_40 1 rfl (k_X3_isTaken hI 1 jx_T1 x2 v6 r9 v9 hc9) (gb_N tw_51) rfl rfl rfl (ex_m4 (jx_ex E)) (List.mem_cons_of_mem _ tw_33) (List.mem_cons_of_mem _ tw_52) (List.mem_cons_of_mem _ tw_53) dd_X3_isTaken.2 rfl (Nat.le_of_ble_eq_true rfl) s_X1 rfl ⟨by decide, by decide⟩ ⟨Nat.le_refl 0, Nat.le_refl 0⟩ (Nat.le_of_ble_eq_true rfl) ?_
        refine jx_if_ne (tgt := 52) E dX4_swap_43 (by decide) (fun hc10 => ?_) (fun hc10 => ?_)
        · rw [if_neg hc10] at hF
          refine jx_aload_n E dX4_swap_52 0 rfl ?_
          refine jx_getr (C := RX4) (T := TX4) (M := 11) (k := 3) E dX4_swap_53 (Nat.le_of_ble_eq_true rfl) s_X0 rfl iX4 (by decide) rfl (List.mem_cons_of_mem _ tw_209) rfl ?_
          refine jx_aload_n E dX4_swap_56 0 rfl ?_
          refine jx_getr (C := RX4) (T := TX4) (M := 11) (k := 0) E dX4_swap_57 (Nat.le_of_ble_eq_true rfl) s_X0 rfl iX4 (by decide) rfl (List.mem_cons_of_mem _ tw_195) rfl ?_
          refine jx_aload_n E dX4_swap_60 0 rfl ?_
          refine jx_getr (C := RX4) (T := TX4) (M := 11) (k := 7) E dX4_swap_61 (Nat.le_of_ble_eq_true rfl) s_X0 rfl iX4 (by decide) rfl (List.mem_cons_of_mem _ tw_253) rfl ?_
          obtain ⟨⟨r11, v11⟩, hc11, hF⟩ := jx_bind hF
          try dsimp only at hF
          refine jx_callNi (As := [.ref (ad 1), .ref (ad 64)]) (st := []) (h := 49) E dX4_swap_64 2 rfl (k_X0_gainsInto hI 1 jx_T1 64 s_X64 (Nat.le_of_ble_eq_true rfl) v9 r11 v11 hc11) (gb_N tw_218) rfl rfl rfl (ex_m22 (jx_ex E)) (List.mem_cons_of_mem _ tw_49) (List.mem_cons_of_mem _ tw_219) (List.mem_cons_of_mem _ tw_220) dd_X0_gainsInto.2 rfl (Nat.le_of_ble_eq_true rfl) s_X49 rfl ⟨by decide, by decide⟩ ⟨Nat.le_refl 0, Nat.le_refl 0⟩ (Nat.le_of_ble_eq_true rfl) ?_
          refine jx_pop E dX4_swap_67 rfl ?_
          refine jx_aload_n E dX4_swap_68 0 rfl ?_
          refine jx_getr (C := RX4) (T := TX4) (M := 11) (k := 0) E dX4_swap_69 (Nat.le_of_ble_eq_true rfl) s_X0 rfl iX4 (by decide) rfl (List.mem_cons_of_mem _ tw_195) rfl ?_
          refine jx_iload_n E dX4_swap_72 1 rfl ?_
          refine jx_iload_n E dX4_swap_73 2 rfl ?_
          obtain ⟨v12, hc12, hF⟩ := jx_bind hF
          try dsimp only at hF
          refine jx_callNv (As := [.int x1, .int x2]) (st := []) (h := 1) E dX4_swap_74 2 rfl (k_X3_exchange hI 1 jx_T1 x1 x2 v11 v12 hc12) (gb_N tw_268) rfl rfl rfl (ex_m30 (jx_ex E)) (List.mem_cons_of_mem _ tw_33) (List.mem_cons_of_mem _ tw_269) (List.mem_cons_of_mem _ tw_270) dd_X3_exchange.2 rfl (Nat.le_of_ble_eq_true rfl) s_X1 rfl ⟨by decide, by decide⟩ ⟨Nat.le_refl 0, Nat.le_refl 0⟩ (Nat.le_of_ble_eq_true rfl) ?_
          refine jx_aload_n E dX4_swap_77 0 rfl ?_
          refine jx_getr (C := RX4) (T := TX4) (M := 11) (k := 3) E dX4_swap_78 (Nat.le_of_ble_eq_true rfl) s_X0 rfl iX4 (by decide) rfl (List.mem_cons_of_mem _ tw_209) rfl ?_
          refine jx_aload_n E dX4_swap_81 0 rfl ?_
          refine jx_getr (C := RX4) (T := TX4) (M := 11) (k := 0) E dX4_swap_82 (Nat.le_of_ble_eq_true rfl) s_X0 rfl iX4 (by decide) rfl (List.mem_cons_of_mem _ tw_195) rfl ?_
          refine jx_aload_n E dX4_swap_85 0 rfl ?_
          refine jx_getr (C := RX4) (T := TX4) (M := 11) (k := 8) E dX4_swap_86 (Nat.le_of_ble_eq_true rfl) s_X0 rfl iX4 (by decide) rfl (List.mem_cons_of_mem _ tw_217) rfl ?_
          obtain ⟨⟨r13, v13⟩, hc13, hF⟩ := jx_bind hF
          try dsimp only at hF
          refine jx_callNi (As := [.ref (ad 1), .ref (ad 65)]) (st := []) (h := 49) E dX4_swap_89 2 rfl (k_X0_gainsInto hI 1 jx_T1 65 s_X65 (Nat.le_of_ble_eq_true rfl) v12 r13 v13 hc13) (gb_N tw_218) rfl rfl rfl (ex_m22 (jx_ex E)) (List.mem_cons_of_mem _ tw_49) (List.mem_cons_of_mem _ tw_219) (List.mem_cons_of_mem _ tw_220) dd_X0_gainsInto.2 rfl (Nat.le_of_ble_eq_true rfl) s_X49 rfl ⟨by decide, by decide⟩ ⟨Nat.le_refl 0, Nat.le_refl 0⟩ (Nat.le_of_ble_eq_true rfl) ?_
          refine jx_pop E dX4_swap_92 rfl ?_
          refine jx_aload_n E dX4_swap_93 0 rfl ?_
          refine jx_getr (C := RX4) (T := TX4) (M := 11) (k := 0) E dX4_swap_94 (Nat.le_of_ble_eq_true rfl) s_X0 rfl iX4 (by decide) rfl (List.mem_cons_of_mem _ tw_195) rfl ?_
          refine jx_iload_n E dX4_swap_97 1 rfl ?_
          refine jx_iload_n E dX4_swap_98 2 rfl ?_
          obtain ⟨v14, hc14, hF⟩ := jx_bind hF
          try dsimp only at hF
          refine jx_callNv (As := [.int x1, .int x2]) (st := []) (h := 1) E dX4_swap_99 2 rfl (k_X3_exchange hI 1 jx_T1 x1 x2 v13 v14 hc14) (gb_N tw_268) rfl rfl rfl (ex_m30 (jx_ex E)) (List.mem_cons_of_mem _ tw_33) (List.mem_cons_of_mem _ tw_269) (List.mem_cons_of_mem _ tw_270) dd_X3_exchange.2 rfl (Nat.le_of_ble_eq_true rfl) s_X1 rfl ⟨by decide, by decide⟩ ⟨Nat.le_refl 0, Nat.le_refl 0⟩ (Nat.le_of_ble_eq_true rfl) ?_
          refine jx_iconst (x := 0) E dX4_swap_102 (by decide) ?_
          refine jx_istore_n (lv' := [(3, .int 0), (0, .ref (ad 0)), (1, .int x1), (2, .int x2)]) E dX4_swap_103 (by decide) rfl ?_
          refine jx_iconst (x := 0) E dX4_swap_104 (by decide) ?_
          refine jx_istore (lv' := [(4, .int 0), (3, .int 0), (0, .ref (ad 0)), (1, .int x1), (2, .int x2)]) E dX4_swap_105 (by decide) rfl ?_
          refine jx_sub [2, 3, 4, 1, 0] rfl ?_
          exact (key 100000) x1 x2 0 0 v14 hF
        · rw [if_pos hc10] at hF
          refine jx_aload_n E dX4_swap_46 0 rfl ?_
          refine jx_iconst (x := 3) E dX4_swap_47 (by decide) ?_
          obtain ⟨⟨r15, v15⟩, hc15, hF⟩ := jx_bind hF
          try dsimp only at hF
          refine jx_callVi (As := [.int 3]) (st := []) (h := 0) E dX4_swap_48 1 rfl (k_X4_finding hI 3 v9 r15 v15 hc15) (gb_V (List.mem_cons_of_mem _ tw_192) (List.mem_cons_of_mem _ tw_193) (List.mem_cons_of_mem _ tw_194) (List.mem_cons_of_mem _ tw_190) tw_191) rfl rfl rfl dd_X4_finding rfl (Nat.le_of_ble_eq_true rfl) s_X0 rfl ⟨by decide, by decide⟩ ⟨Nat.le_refl 0, Nat.le_refl 0⟩ (Nat.le_of_ble_eq_true rfl) ?_
          obtain ⟨rfl, rfl⟩ := jx_out hF
          exact jx_iret E dX4_swap_51 rfl
    · rw [if_pos hc5] at hF
      refine jx_aload_n E dX4_swap_18 0 rfl ?_
      refine jx_iconst (x := 0) E dX4_swap_19 (by decide) ?_
      obtain ⟨⟨r16, v16⟩, hc16, hF⟩ := jx_bind hF
      try dsimp only at hF
      refine jx_callVi (As := [.int 0]) (st := []) (h := 0) E dX4_swap_20 1 rfl (k_X4_finding hI 0 v4 r16 v16 hc16) (gb_V (List.mem_cons_of_mem _ tw_192) (List.mem_cons_of_mem _ tw_193) (List.mem_cons_of_mem _ tw_194) (List.mem_cons_of_mem _ tw_190) tw_191) rfl rfl rfl dd_X4_finding rfl (Nat.le_of_ble_eq_true rfl) s_X0 rfl ⟨by decide, by decide⟩ ⟨Nat.le_refl 0, Nat.le_refl 0⟩ (Nat.le_of_ble_eq_true rfl) ?_
      obtain ⟨rfl, rfl⟩ := jx_out hF
      exact jx_iret E dX4_swap_23 rfl
def f_X4_spill_L  : Nat → Int32 → Int32 → Int32 → jx_V → Option (Int32 × jx_V)
  | 0, _, _, _, _ => none
  | n + 1, x1, x2, x3, v => (if x1 ≤ x3 then ((f_X0_gainsInto 1 65 v).bind (fun (r9, v9) => (some (r9, v9)))) else ((f_X3_draw 1 v).bind (fun (r10, v10) => (if x2 = 0 then none else ((f_X3_lotOfThing 1 (r10 - r10 / x2 * x2) v10).bind (fun (r12, v12) => ((f_X3_draw 1 v12).bind (fun (r13, v13) => (if r12 < 0 then (f_X4_spill_L n x1 x2 (x3 + 1) v13) else (if (r12 < 0 ∨ 25 ≤ Int32.toNatClampNeg r12) then none else (f_X4_spill_L n x1 x2 (x3 + 1) (jx_up v13 7 (Int32.toNatClampNeg r12) (r13 - r13 / 4 * 4)))))))))))))
def f_X4_spill (x1 : Int32) (v : jx_V) : Option (Int32 × jx_V) := (if x1 < 1 then ((f_X4_finding 0 v).bind (fun (r2, v2) => (some (r2, v2)))) else (if x1 ≤ 12 then ((f_X3_thingCount 1 v).bind (fun (r4, v4) => (if r4 = 0 then ((f_X4_finding 4 v4).bind (fun (r6, v6) => (some (r6, v6)))) else (f_X4_spill_L 100000 x1 r4 0 v4)))) else ((f_X4_finding 0 v).bind (fun (r7, v7) => (some (r7, v7))))))
def rm_X4_spill : Room := { frames := 5, cells := 0, slots := 0, locals := 125 }
set_option maxHeartbeats 4000000 in
set_option maxRecDepth 100000 in
theorem k_X4_spill {l : Launch} {D : va_G} {cI cJ : ClassId} {ad : Nat → Nat} {A : Nat → Prop} {adK adV : Nat → Nat} (hI : jx_inj 67 ad A) (x1 : Int32) (v : jx_V) (r : Int32) (v' : jx_V) (hF : f_X4_spill x1 v = some (r, v')) : jx_Ci l D vwCl 67 cI cJ ad shX A (ex_X adK adV A) yX4_spill (Cond.code yX4_spill cX4_spill 6 (some .int) :: bigT) rm_X4_spill [.ref (ad 0), .int x1] v r v' := by
  unfold f_X4_spill at hF
  refine jx_enteri bigT RX4 cX4_spill 6 (some .int) [(0, .ref (ad 0)), (1, .int x1)] hI (ex_X_ok adK adV A) (by decide +kernel) rfl (Nat.le_of_ble_eq_true rfl) rfl rfl ?_
  intro p e s m args below meth c E
  have iX3 : ∀ w ∈ u_ws RX3 TX3 8, w ∈ (Cond.code yX4_spill cX4_spill 6 (some .int) :: bigT) := fun w h => List.mem_cons_of_mem _ (uw_X3 w h)
  have iX4 : ∀ w ∈ u_ws RX4 TX4 11, w ∈ (Cond.code yX4_spill cX4_spill 6 (some .int) :: bigT) := fun w h => List.mem_cons_of_mem _ (uw_X4 w h)
  have key : ∀ n : Nat, (∀ (x1 : Int32) (x2 : Int32) (x3 : Int32) (v : jx_V), f_X4_spill_L  n  x1 x2 x3 v = some (r, v') → jx_J p l e rm_X4_spill s m args below meth c D vwCl 67 cI cJ ad shX A 0 0 6 (MQ below (va_Qi (fun (r1 : Int32) (_ : Unit) => r1 = r) (fun _ t => va_P D vwCl (jx_ws 67 cI cJ ad shX v') t.heap) A) args s 0 0 A) v 37 [(0, .ref (ad 0)), (1, .int x1), (2, .int x2), (3, .int x3)] []) := by
    intro n
    induction n with
    | zero =>
      exact (fun _ _ _ _ h => by cases h)
    | succ n ih =>
      intro x1 x2 x3 v hF
      rw [f_X4_spill_L] at hF
      refine jx_iload_n E dX4_spill_37 3 rfl ?_
      refine jx_iload_n E dX4_spill_38 1 rfl ?_
      refine jx_icmp_ge (tgt := 96) E dX4_spill_39 (by decide) (fun hc8 => ?_) (fun hc8 => ?_)
      · rw [if_pos hc8] at hF
        refine jx_aload_n E dX4_spill_96 0 rfl ?_
        refine jx_getr (C := RX4) (T := TX4) (M := 11) (k := 3) E dX4_spill_97 (Nat.le_of_ble_eq_true rfl) s_X0 rfl iX4 (by decide) rfl (List.mem_cons_of_mem _ tw_209) rfl ?_
        refine jx_aload_n E dX4_spill_100 0 rfl ?_
        refine jx_getr (C := RX4) (T := TX4) (M := 11) (k := 0) E dX4_spill_101 (Nat.le_of_ble_eq_true rfl) s_X0 rfl iX4 (by decide) rfl (List.mem_cons_of_mem _ tw_195) rfl ?_
        refine jx_aload_n E dX4_spill_104 0 rfl ?_
        refine jx_getr (C := RX4) (T := TX4) (M := 11) (k := 8) E dX4_spill_105 (Nat.le_of_ble_eq_true rfl) s_X0 rfl iX4 (by decide) rfl (List.mem_cons_of_mem _ tw_217) rfl ?_
        obtain ⟨⟨r9, v9⟩, hc9, hF⟩ := jx_bind hF
        try dsimp only at hF
        refine jx_callNi (As := [.ref (ad 1), .ref (ad 65)]) (st := []) (h := 49) E dX4_spill_108 2 rfl (k_X0_gainsInto hI 1 jx_T1 65 s_X65 (Nat.le_of_ble_eq_true rfl) v r9 v9 hc9) (gb_N tw_218) rfl rfl rfl (ex_m22 (jx_ex E)) (List.mem_cons_of_mem _ tw_49) (List.mem_cons_of_mem _ tw_219) (List.mem_cons_of_mem _ tw_220) dd_X0_gainsInto.2 rfl (Nat.le_of_ble_eq_true rfl) s_X49 rfl ⟨by decide, by decide⟩ ⟨Nat.le_refl 0, Nat.le_refl 0⟩ (Nat.le_of_ble_eq_true rfl) ?_
        obtain ⟨rfl, rfl⟩ := jx_out hF
        exact jx_iret E dX4_spill_111 rfl
      · rw [if_neg hc8] at hF
        refine jx_aload_n E dX4_spill_42 0 rfl ?_
        refine jx_getr (C := RX4) (T := TX4) (M := 11) (k := 0) E dX4_spill_43 (Nat.le_of_ble_eq_true rfl) s_X0 rfl iX4 (by decide) rfl (List.mem_cons_of_mem _ tw_195) rfl ?_
        refine jx_aload_n E dX4_spill_46 0 rfl ?_
        refine jx_getr (C := RX4) (T := TX4) (M := 11) (k := 0) E dX4_spill_47 (Nat.le_of_ble_eq_true rfl) s_X0 rfl iX4 (by decide) rfl (List.mem_cons_of_mem _ tw_195) rfl ?_
        obtain ⟨⟨r10, v10⟩, hc10, hF⟩ := jx_bind hF
        try dsimp only at hF
        refine jx_callNi (As := []) (st := [.ref (ad 1)]) (h := 1) E dX4_spill_50 0 rfl (k_X3_draw hI 1 jx_T1 v r10 v10 hc10) (gb_N tw_274) rfl rfl rfl (ex_m31 (jx_ex E)) (List.mem_cons_of_mem _ tw_33) (List.mem_cons_of_mem _ tw_275) (List.mem_cons_of_mem _ tw_276) dd_X3_draw.2 rfl (Nat.le_of_ble_eq_true rfl) s_X1 rfl ⟨by decide, by decide⟩ ⟨Nat.le_refl 0, Nat.le_refl 0⟩ (Nat.le_of_ble_eq_true rfl) ?_
        refine jx_iload_n E dX4_spill_53 2 rfl ?_
        obtain ⟨hg11, hF⟩ := jx_guard hF
        refine jx_irem E dX4_spill_54 hg11 ?_
        obtain ⟨⟨r12, v12⟩, hc12, hF⟩ := jx_bind hF
        try dsimp only at hF
        refine jx_callNi (As := [.int (r10 - r10 / x2 * x2)]) (st := []) (h := 1) E dX4_spill_55 1 rfl (k_X3_lotOfThing hI 1 jx_T1 (r10 - r10 / x2 * x2) v10 r12 v12 hc12) (gb_N tw_277) rfl rfl rfl (ex_m32 (jx_ex E)) (List.mem_cons_of_mem _ tw_33) (List.mem_cons_of_mem _ tw_278) (List.mem_cons_of_mem _ tw_279) dd_X3_lotOfThing.2 rfl (Nat.le_of_ble_eq_true rfl) s_X1 rfl ⟨by decide, by decide⟩ ⟨Nat.le_refl 0, Nat.le_refl 0⟩ (Nat.le_of_ble_eq_true rfl) ?_
        refine jx_istore (lv' := [(4, .int r12), (0, .ref (ad 0)), (1, .int x1), (2, .int x2), (3, .int x3)]) E dX4_spill_58 (by decide) rfl ?_
        refine jx_aload_n E dX4_spill_60 1 rfl ?_
        refine jx_getr (C := RX4) (T := TX4) (M := 11) (k := 0) E dX4_spill_61 (Nat.le_of_ble_eq_true rfl) s_X0 rfl iX4 (by decide) rfl (List.mem_cons_of_mem _ tw_195) rfl ?_
        obtain ⟨⟨r13, v13⟩, hc13, hF⟩ := jx_bind hF
        try dsimp only at hF
        refine jx_callNi (As := []) (st := []) (h := 1) E dX4_spill_64 0 rfl (k_X3_draw hI 1 jx_T1 v12 r13 v13 hc13) (gb_N tw_274) rfl rfl rfl (ex_m31 (jx_ex E)) (List.mem_cons_of_mem _ tw_33) (List.mem_cons_of_mem _ tw_275) (List.mem_cons_of_mem _ tw_276) dd_X3_draw.2 rfl (Nat.le_of_ble_eq_true rfl) s_X1 rfl ⟨by decide, by decide⟩ ⟨Nat.le_refl 0, Nat.le_refl 0⟩ (Nat.le_of_ble_eq_true rfl) ?_
        refine jx_iconst (x := 4) E dX4_spill_67 (by decide) ?_
        refine jx_irem E dX4_spill_68 (by decide) ?_
        refine jx_istore (lv' := [(5, .int (r13 - r13 / 4 * 4)), (4, .int r12), (0, .ref (ad 0)), (1, .int x1), (2, .int x2), (3, .int x3)]) E dX4_spill_69 (by decide) rfl ?_
        refine jx_iload E dX4_spill_71 1 rfl ?_
        refine jx_if_lt (tgt := 90) E dX4_spill_73 (by decide) (fun hc14 => ?_) (fun hc14 => ?_)
        · rw [if_pos hc14] at hF
          refine jx_iinc (y := (x3 + 1)) (lv' := [(3, .int (x3 + 1)), (5, .int (r13 - r13 / 4 * 4)), (4, .int r12), (0, .ref (ad 0)), (1, .int x1), (2, .int x2)]) E dX4_spill_90 5 rfl rfl (by decide) rfl ?_
          refine jx_goto (tgt := 37) E dX4_spill_93 (by decide) ?_
          refine jx_sub [3, 4, 5, 0] rfl ?_
          exact ih x1 x2 (x3 + 1) v13 hF
        · rw [if_neg hc14] at hF
          refine jx_aload_n E dX4_spill_76 2 rfl ?_
          refine jx_getr (C := RX4) (T := TX4) (M := 11) (k := 0) E dX4_spill_77 (Nat.le_of_ble_eq_true rfl) s_X0 rfl iX4 (by decide) rfl (List.mem_cons_of_mem _ tw_195) rfl ?_
          refine jx_getrN (C := RX3) (T := TX3) (M := 8) (k := 0) E dX4_spill_80 (Nat.le_of_ble_eq_true rfl) s_X1 rfl iX3 (by decide) rfl (ex_f0 (jx_ex E)) rfl ?_
          refine jx_iconst (x := 3) E dX4_spill_83 (by decide) ?_
          refine jx_aald (h' := 7) E dX4_spill_84 (Nat.le_of_ble_eq_true rfl) s_X2 (show ¬ ((3 : Int32) < 0 ∨ 4 ≤ Int32.toNatClampNeg 3) by decide) rfl ?_
          refine jx_iload E dX4_spill_85 1 rfl ?_
          refine jx_iload E dX4_spill_87 0 rfl ?_
          obtain ⟨hg15, hF⟩ := jx_guard hF
          refine jx_iast (h := 7) (j := (Int32.toNatClampNeg r12)) E dX4_spill_89 (Nat.le_of_ble_eq_true rfl) s_X7 hg15 rfl ?_
          refine jx_iinc (y := (x3 + 1)) (lv' := [(3, .int (x3 + 1)), (5, .int (r13 - r13 / 4 * 4)), (4, .int r12), (0, .ref (ad 0)), (1, .int x1), (2, .int x2)]) E dX4_spill_90 5 rfl rfl (by decide) rfl ?_
          refine jx_goto (tgt := 37) E dX4_spill_93 (by decide) ?_
          refine jx_sub [3, 4, 5, 0] rfl ?_
          exact ih x1 x2 (x3 + 1) (jx_up v13 7 (Int32.toNatClampNeg r12) (r13 - r13 / 4 * 4)) hF
  refine jx_iload_n E dX4_spill_0 1 rfl ?_
  refine jx_iconst (x := 1) E dX4_spill_1 (by decide) ?_
  refine jx_icmp_lt (tgt := 11) E dX4_spill_2 (by decide) (fun hc1 => ?_) (fun hc1 => ?_)
  · rw [if_pos hc1] at hF
    refine jx_aload_n E dX4_spill_11 0 rfl ?_
    refine jx_iconst (x := 0) E dX4_spill_12 (by decide) ?_
    obtain ⟨⟨r2, v2⟩, hc2, hF⟩ := jx_bind hF
    try dsimp only at hF
    refine jx_callVi (As := [.int 0]) (st := []) (h := 0) E dX4_spill_13 1 rfl (k_X4_finding hI 0 v r2 v2 hc2) (gb_V (List.mem_cons_of_mem _ tw_192) (List.mem_cons_of_mem _ tw_193) (List.mem_cons_of_mem _ tw_194) (List.mem_cons_of_mem _ tw_190) tw_191) rfl rfl rfl dd_X4_finding rfl (Nat.le_of_ble_eq_true rfl) s_X0 rfl ⟨by decide, by decide⟩ ⟨Nat.le_refl 0, Nat.le_refl 0⟩ (Nat.le_of_ble_eq_true rfl) ?_
    obtain ⟨rfl, rfl⟩ := jx_out hF
    exact jx_iret E dX4_spill_16 rfl
  · rw [if_neg hc1] at hF
    refine jx_iload_n E dX4_spill_5 1 rfl ?_
    refine jx_bipush (x := 12) E dX4_spill_6 (by decide) ?_
    refine jx_icmp_le (tgt := 17) E dX4_spill_8 (by decide) (fun hc3 => ?_) (fun hc3 => ?_)
    · rw [if_pos hc3] at hF
      refine jx_aload_n E dX4_spill_17 0 rfl ?_
      refine jx_getr (C := RX4) (T := TX4) (M := 11) (k := 0) E dX4_spill_18 (Nat.le_of_ble_eq_true rfl) s_X0 rfl iX4 (by decide) rfl (List.mem_cons_of_mem _ tw_195) rfl ?_
      obtain ⟨⟨r4, v4⟩, hc4, hF⟩ := jx_bind hF
      try dsimp only at hF
      refine jx_callNi (As := []) (st := []) (h := 1) E dX4_spill_21 0 rfl (k_X3_thingCount hI 1 jx_T1 v r4 v4 hc4) (gb_N tw_196) rfl rfl rfl (ex_m6 (jx_ex E)) (List.mem_cons_of_mem _ tw_33) (List.mem_cons_of_mem _ tw_197) (List.mem_cons_of_mem _ tw_198) dd_X3_thingCount.2 rfl (Nat.le_of_ble_eq_true rfl) s_X1 rfl ⟨by decide, by decide⟩ ⟨Nat.le_refl 0, Nat.le_refl 0⟩ (Nat.le_of_ble_eq_true rfl) ?_
      refine jx_istore_n (lv' := [(2, .int r4), (0, .ref (ad 0)), (1, .int x1)]) E dX4_spill_24 (by decide) rfl ?_
      refine jx_iload_n E dX4_spill_25 0 rfl ?_
      refine jx_if_ne (tgt := 35) E dX4_spill_26 (by decide) (fun hc5 => ?_) (fun hc5 => ?_)
      · rw [if_neg hc5] at hF
        refine jx_iconst (x := 0) E dX4_spill_35 (by decide) ?_
        refine jx_istore_n (lv' := [(3, .int 0), (2, .int r4), (0, .ref (ad 0)), (1, .int x1)]) E dX4_spill_36 (by decide) rfl ?_
        refine jx_sub [2, 3, 1, 0] rfl ?_
        exact (key 100000) x1 r4 0 v4 hF
      · rw [if_pos hc5] at hF
        refine jx_aload_n E dX4_spill_29 1 rfl ?_
        refine jx_iconst (x := 4) E dX4_spill_30 (by decide) ?_
        obtain ⟨⟨r6, v6⟩, hc6, hF⟩ := jx_bind hF
        try dsimp only at hF
        refine jx_callVi (As := [.int 4]) (st := []) (h := 0) E dX4_spill_31 1 rfl (k_X4_finding hI 4 v4 r6 v6 hc6) (gb_V (List.mem_cons_of_mem _ tw_192) (List.mem_cons_of_mem _ tw_193) (List.mem_cons_of_mem _ tw_194) (List.mem_cons_of_mem _ tw_190) tw_191) rfl rfl rfl dd_X4_finding rfl (Nat.le_of_ble_eq_true rfl) s_X0 rfl ⟨by decide, by decide⟩ ⟨Nat.le_refl 0, Nat.le_refl 0⟩ (Nat.le_of_ble_eq_true rfl) ?_
        obtain ⟨rfl, rfl⟩ := jx_out hF
        exact jx_iret E dX4_spill_34 rfl
    · rw [if_neg hc3] at hF
      refine jx_aload_n E dX4_spill_11 0 rfl ?_
      refine jx_iconst (x := 0) E dX4_spill_12 (by decide) ?_
      obtain ⟨⟨r7, v7⟩, hc7, hF⟩ := jx_bind hF
      try dsimp only at hF
      refine jx_callVi (As := [.int 0]) (st := []) (h := 0) E dX4_spill_13 1 rfl (k_X4_finding hI 0 v r7 v7 hc7) (gb_V (List.mem_cons_of_mem _ tw_192) (List.mem_cons_of_mem _ tw_193) (List.mem_cons_of_mem _ tw_194) (List.mem_cons_of_mem _ tw_190) tw_191) rfl rfl rfl dd_X4_finding rfl (Nat.le_of_ble_eq_true rfl) s_X0 rfl ⟨by decide, by decide⟩ ⟨Nat.le_refl 0, Nat.le_refl 0⟩ (Nat.le_of_ble_eq_true rfl) ?_
      obtain ⟨rfl, rfl⟩ := jx_out hF
      exact jx_iret E dX4_spill_16 rfl
def f_X4_seed (x1 : Int32) (v : jx_V) : Option (Int32 × jx_V) := (some ((v 1 7), (jx_up v 1 7 x1)))
def rm_X4_seed : Room := { frames := 0, cells := 0, slots := 0, locals := 0 }
set_option maxHeartbeats 4000000 in
set_option maxRecDepth 100000 in
theorem k_X4_seed {l : Launch} {D : va_G} {cI cJ : ClassId} {ad : Nat → Nat} {A : Nat → Prop} {adK adV : Nat → Nat} (hI : jx_inj 67 ad A) (x1 : Int32) (v : jx_V) (r : Int32) (v' : jx_V) (hF : f_X4_seed x1 v = some (r, v')) : jx_Ci l D vwCl 67 cI cJ ad shX A (ex_X adK adV A) yX4_seed (Cond.code yX4_seed cX4_seed 3 (some .int) :: bigT) rm_X4_seed [.ref (ad 0), .int x1] v r v' := by
  unfold f_X4_seed at hF
  refine jx_enteri bigT RX4 cX4_seed 3 (some .int) [(0, .ref (ad 0)), (1, .int x1)] hI (ex_X_ok adK adV A) (by decide +kernel) rfl (Nat.le_of_ble_eq_true rfl) rfl rfl ?_
  intro p e s m args below meth c E
  have iX3 : ∀ w ∈ u_ws RX3 TX3 8, w ∈ (Cond.code yX4_seed cX4_seed 3 (some .int) :: bigT) := fun w h => List.mem_cons_of_mem _ (uw_X3 w h)
  have iX4 : ∀ w ∈ u_ws RX4 TX4 11, w ∈ (Cond.code yX4_seed cX4_seed 3 (some .int) :: bigT) := fun w h => List.mem_cons_of_mem _ (uw_X4 w h)
  refine jx_aload_n E dX4_seed_0 0 rfl ?_
  refine jx_getr (C := RX4) (T := TX4) (M := 11) (k := 0) E dX4_seed_1 (Nat.le_of_ble_eq_true rfl) s_X0 rfl iX4 (by decide) rfl (List.mem_cons_of_mem _ tw_195) rfl ?_
  refine jx_getiN (C := RX3) (T := TX3) (M := 8) (k := 7) E dX4_seed_4 (Nat.le_of_ble_eq_true rfl) s_X1 rfl iX3 (by decide) rfl (ex_f13 (jx_ex E)) rfl ?_
  refine jx_istore_n (lv' := [(2, .int (v 1 7)), (0, .ref (ad 0)), (1, .int x1)]) E dX4_seed_7 (by decide) rfl ?_
  refine jx_aload_n E dX4_seed_8 1 rfl ?_
  refine jx_getr (C := RX4) (T := TX4) (M := 11) (k := 0) E dX4_seed_9 (Nat.le_of_ble_eq_true rfl) s_X0 rfl iX4 (by decide) rfl (List.mem_cons_of_mem _ tw_195) rfl ?_
  refine jx_iload_n E dX4_seed_12 2 rfl ?_
  refine jx_putiN (C := RX3) (T := TX3) (M := 8) (k := 7) (ty := .int) E tyX3 dX4_seed_13 (Nat.le_of_ble_eq_true rfl) s_X1 rfl iX3 (by decide) rfl (ex_f13 (jx_ex E)) tyX3_ok nmX3 rfl (by decide +kernel) rfl rfl rfl ?_
  refine jx_iload_n E dX4_seed_16 0 rfl ?_
  obtain ⟨rfl, rfl⟩ := jx_out hF
  exact jx_iret E dX4_seed_17 rfl
def f_X4_feed_L  : Nat → Int32 → Int32 → Int32 → jx_V → Option (Int32 × jx_V)
  | 0, _, _, _, _ => none
  | n + 1, x1, x2, x3, v => (if x3 < 0 then (some ((v 53 1), v)) else ((f_X2_append ((Int32.toUInt32 x1 >>> (Int32.toUInt32 (8 * x3) &&& Int32.toUInt32 31)).toInt32 &&& 255) v).bind (fun v8 => (f_X4_feed_L n x1 x2 (x3 + (-1)) v8))))
def f_X4_feed (x1 : Int32) (x2 : Int32) (v : jx_V) : Option (Int32 × jx_V) := (if x2 < 1 then ((f_X4_finding 0 v).bind (fun (r2, v2) => (some (r2, v2)))) else (if x2 ≤ 4 then (if ((v 53 1) + x2) ≤ 120 then (f_X4_feed_L 100000 x1 x2 (x2 - 1) v) else ((f_X4_finding 1 v).bind (fun (r5, v5) => (some (r5, v5))))) else ((f_X4_finding 0 v).bind (fun (r6, v6) => (some (r6, v6))))))
def rm_X4_feed : Room := { frames := 1, cells := 0, slots := 0, locals := 21 }
set_option maxHeartbeats 4000000 in
set_option maxRecDepth 100000 in
theorem k_X4_feed {l : Launch} {D : va_G} {cI cJ : ClassId} {ad : Nat → Nat} {A : Nat → Prop} {adK adV : Nat → Nat} (hI : jx_inj 67 ad A) (x1 : Int32) (x2 : Int32) (v : jx_V) (r : Int32) (v' : jx_V) (hF : f_X4_feed x1 x2 v = some (r, v')) : jx_Ci l D vwCl 67 cI cJ ad shX A (ex_X adK adV A) yX4_feed (Cond.code yX4_feed cX4_feed 4 (some .int) :: bigT) rm_X4_feed [.ref (ad 0), .int x1, .int x2] v r v' := by
  unfold f_X4_feed at hF
  refine jx_enteri bigT RX4 cX4_feed 4 (some .int) [(0, .ref (ad 0)), (1, .int x1), (2, .int x2)] hI (ex_X_ok adK adV A) (by decide +kernel) rfl (Nat.le_of_ble_eq_true rfl) rfl rfl ?_
  intro p e s m args below meth c E
  have iX2 : ∀ w ∈ u_ws RX2 TX2 7, w ∈ (Cond.code yX4_feed cX4_feed 4 (some .int) :: bigT) := fun w h => List.mem_cons_of_mem _ (uw_X2 w h)
  have iX4 : ∀ w ∈ u_ws RX4 TX4 11, w ∈ (Cond.code yX4_feed cX4_feed 4 (some .int) :: bigT) := fun w h => List.mem_cons_of_mem _ (uw_X4 w h)
  have key : ∀ n : Nat, (∀ (x1 : Int32) (x2 : Int32) (x3 : Int32) (v : jx_V), f_X4_feed_L  n  x1 x2 x3 v = some (r, v') → jx_J p l e rm_X4_feed s m args below meth c D vwCl 67 cI cJ ad shX A 0 0 4 (MQ below (va_Qi (fun (r1 : Int32) (_ : Unit) => r1 = r) (fun _ t => va_P D vwCl (jx_ws 67 cI cJ ad shX v') t.heap) A) args s 0 0 A) v 40 [(0, .ref (ad 0)), (1, .int x1), (2, .int x2), (3, .int x3)] []) := by
    intro n
    induction n with
    | zero =>
      exact (fun _ _ _ _ h => by cases h)
    | succ n ih =>
      intro x1 x2 x3 v hF
      rw [f_X4_feed_L] at hF
      refine jx_iload_n E dX4_feed_40 3 rfl ?_
      refine jx_if_lt (tgt := 67) E dX4_feed_41 (by decide) (fun hc7 => ?_) (fun hc7 => ?_)
      · rw [if_pos hc7] at hF
        refine jx_aload_n E dX4_feed_67 0 rfl ?_
        refine jx_getr (C := RX4) (T := TX4) (M := 11) (k := 4) E dX4_feed_68 (Nat.le_of_ble_eq_true rfl) s_X0 rfl iX4 (by decide) rfl (List.mem_cons_of_mem _ tw_280) rfl ?_
        refine jx_getiN (C := RX2) (T := TX2) (M := 7) (k := 1) E dX4_feed_71 (Nat.le_of_ble_eq_true rfl) s_X53 rfl iX2 (by decide) rfl (ex_f14 (jx_ex E)) rfl ?_
        obtain ⟨rfl, rfl⟩ := jx_out hF
        exact jx_iret E dX4_feed_74 rfl
      · rw [if_neg hc7] at hF
        refine jx_aload_n E dX4_feed_44 0 rfl ?_
        refine jx_getr (C := RX4) (T := TX4) (M := 11) (k := 4) E dX4_feed_45 (Nat.le_of_ble_eq_true rfl) s_X0 rfl iX4 (by decide) rfl (List.mem_cons_of_mem _ tw_280) rfl ?_
        refine jx_iload_n E dX4_feed_48 1 rfl ?_
        refine jx_bipush (x := 8) E dX4_feed_49 (by decide) ?_
        refine jx_iload_n E dX4_feed_51 3 rfl ?_
        refine jx_imul E dX4_feed_52 ?_
        refine jx_iushr E dX4_feed_53 ?_
        refine jx_sipush (x := 255) E dX4_feed_54 (by decide) ?_
        refine jx_iand E dX4_feed_57 ?_
        obtain ⟨v8, hc8, hF⟩ := jx_bind hF
        try dsimp only at hF
        refine jx_callNv (As := [.int ((Int32.toUInt32 x1 >>> (Int32.toUInt32 (8 * x3) &&& Int32.toUInt32 31)).toInt32 &&& 255)]) (st := []) (h := 53) E dX4_feed_58 1 rfl (k_X2_append hI ((Int32.toUInt32 x1 >>> (Int32.toUInt32 (8 * x3) &&& Int32.toUInt32 31)).toInt32 &&& 255) v v8 hc8) (gb_N tw_281) rfl rfl rfl (ex_m33 (jx_ex E)) (List.mem_cons_of_mem _ tw_100) (List.mem_cons_of_mem _ tw_282) (List.mem_cons_of_mem _ tw_283) dd_X2_append.2 rfl (Nat.le_of_ble_eq_true rfl) s_X53 rfl ⟨by decide, by decide⟩ ⟨Nat.le_refl 0, Nat.le_refl 0⟩ (Nat.le_of_ble_eq_true rfl) ?_
        refine jx_iinc (y := (x3 + (-1))) (lv' := [(3, .int (x3 + (-1))), (0, .ref (ad 0)), (1, .int x1), (2, .int x2)]) E dX4_feed_61 3 rfl rfl (by decide) rfl ?_
        refine jx_goto (tgt := 40) E dX4_feed_64 (by decide) ?_
        refine jx_sub [1, 2, 3, 0] rfl ?_
        exact ih x1 x2 (x3 + (-1)) v8 hF
  refine jx_iload_n E dX4_feed_0 2 rfl ?_
  refine jx_iconst (x := 1) E dX4_feed_1 (by decide) ?_
  refine jx_icmp_lt (tgt := 10) E dX4_feed_2 (by decide) (fun hc1 => ?_) (fun hc1 => ?_)
  · rw [if_pos hc1] at hF
    refine jx_aload_n E dX4_feed_10 0 rfl ?_
    refine jx_iconst (x := 0) E dX4_feed_11 (by decide) ?_
    obtain ⟨⟨r2, v2⟩, hc2, hF⟩ := jx_bind hF
    try dsimp only at hF
    refine jx_callVi (As := [.int 0]) (st := []) (h := 0) E dX4_feed_12 1 rfl (k_X4_finding hI 0 v r2 v2 hc2) (gb_V (List.mem_cons_of_mem _ tw_192) (List.mem_cons_of_mem _ tw_193) (List.mem_cons_of_mem _ tw_194) (List.mem_cons_of_mem _ tw_190) tw_191) rfl rfl rfl dd_X4_finding rfl (Nat.le_of_ble_eq_true rfl) s_X0 rfl ⟨by decide, by decide⟩ ⟨Nat.le_refl 0, Nat.le_refl 0⟩ (Nat.le_of_ble_eq_true rfl) ?_
    obtain ⟨rfl, rfl⟩ := jx_out hF
    exact jx_iret E dX4_feed_15 rfl
  · rw [if_neg hc1] at hF
    refine jx_iload_n E dX4_feed_5 2 rfl ?_
    refine jx_iconst (x := 4) E dX4_feed_6 (by decide) ?_
    refine jx_icmp_le (tgt := 16) E dX4_feed_7 (by decide) (fun hc3 => ?_) (fun hc3 => ?_)
    · rw [if_pos hc3] at hF
      refine jx_aload_n E dX4_feed_16 0 rfl ?_
      refine jx_getr (C := RX4) (T := TX4) (M := 11) (k := 4) E dX4_feed_17 (Nat.le_of_ble_eq_true rfl) s_X0 rfl iX4 (by decide) rfl (List.mem_cons_of_mem _ tw_280) rfl ?_
      refine jx_getiN (C := RX2) (T := TX2) (M := 7) (k := 1) E dX4_feed_20 (Nat.le_of_ble_eq_true rfl) s_X53 rfl iX2 (by decide) rfl (ex_f14 (jx_ex E)) rfl ?_
      refine jx_iload_n E dX4_feed_23 2 rfl ?_
      refine jx_iadd E dX4_feed_24 ?_
      refine jx_bipush (x := 120) E dX4_feed_25 (by decide) ?_
      refine jx_icmp_le (tgt := 36) E dX4_feed_27 (by decide) (fun hc4 => ?_) (fun hc4 => ?_)
      · rw [if_pos hc4] at hF
        refine jx_iload_n E dX4_feed_36 2 rfl ?_
        refine jx_iconst (x := 1) E dX4_feed_37 (by decide) ?_
        refine jx_isub E dX4_feed_38 ?_
        refine jx_istore_n (lv' := [(3, .int (x2 - 1)), (0, .ref (ad 0)), (1, .int x1), (2, .int x2)]) E dX4_feed_39 (by decide) rfl ?_
        refine jx_sub [1, 2, 3, 0] rfl ?_
        exact (key 100000) x1 x2 (x2 - 1) v hF
      · rw [if_neg hc4] at hF
        refine jx_aload_n E dX4_feed_30 0 rfl ?_
        refine jx_iconst (x := 1) E dX4_feed_31 (by decide) ?_
        obtain ⟨⟨r5, v5⟩, hc5, hF⟩ := jx_bind hF
        try dsimp only at hF
        refine jx_callVi (As := [.int 1]) (st := []) (h := 0) E dX4_feed_32 1 rfl (k_X4_finding hI 1 v r5 v5 hc5) (gb_V (List.mem_cons_of_mem _ tw_192) (List.mem_cons_of_mem _ tw_193) (List.mem_cons_of_mem _ tw_194) (List.mem_cons_of_mem _ tw_190) tw_191) rfl rfl rfl dd_X4_finding rfl (Nat.le_of_ble_eq_true rfl) s_X0 rfl ⟨by decide, by decide⟩ ⟨Nat.le_refl 0, Nat.le_refl 0⟩ (Nat.le_of_ble_eq_true rfl) ?_
        obtain ⟨rfl, rfl⟩ := jx_out hF
        exact jx_iret E dX4_feed_35 rfl
    · rw [if_neg hc3] at hF
      refine jx_aload_n E dX4_feed_10 0 rfl ?_
      refine jx_iconst (x := 0) E dX4_feed_11 (by decide) ?_
      obtain ⟨⟨r6, v6⟩, hc6, hF⟩ := jx_bind hF
      try dsimp only at hF
      refine jx_callVi (As := [.int 0]) (st := []) (h := 0) E dX4_feed_12 1 rfl (k_X4_finding hI 0 v r6 v6 hc6) (gb_V (List.mem_cons_of_mem _ tw_192) (List.mem_cons_of_mem _ tw_193) (List.mem_cons_of_mem _ tw_194) (List.mem_cons_of_mem _ tw_190) tw_191) rfl rfl rfl dd_X4_finding rfl (Nat.le_of_ble_eq_true rfl) s_X0 rfl ⟨by decide, by decide⟩ ⟨Nat.le_refl 0, Nat.le_refl 0⟩ (Nat.le_of_ble_eq_true rfl) ?_
      obtain ⟨rfl, rfl⟩ := jx_out hF
      exact jx_iret E dX4_feed_15 rfl
def f_X4_wipe  (v : jx_V) : Option (Int32 × jx_V) := (some ((v 53 1), (jx_up v 53 1 0)))
def rm_X4_wipe : Room := { frames := 0, cells := 0, slots := 0, locals := 0 }
set_option maxHeartbeats 4000000 in
set_option maxRecDepth 100000 in
theorem k_X4_wipe {l : Launch} {D : va_G} {cI cJ : ClassId} {ad : Nat → Nat} {A : Nat → Prop} {adK adV : Nat → Nat} (hI : jx_inj 67 ad A)  (v : jx_V) (r : Int32) (v' : jx_V) (hF : f_X4_wipe  v = some (r, v')) : jx_Ci l D vwCl 67 cI cJ ad shX A (ex_X adK adV A) yX4_wipe (Cond.code yX4_wipe cX4_wipe 2 (some .int) :: bigT) rm_X4_wipe [.ref (ad 0)] v r v' := by
  unfold f_X4_wipe at hF
  refine jx_enteri bigT RX4 cX4_wipe 2 (some .int) [(0, .ref (ad 0))] hI (ex_X_ok adK adV A) (by decide +kernel) rfl (Nat.le_of_ble_eq_true rfl) rfl rfl ?_
  intro p e s m args below meth c E
  have iX2 : ∀ w ∈ u_ws RX2 TX2 7, w ∈ (Cond.code yX4_wipe cX4_wipe 2 (some .int) :: bigT) := fun w h => List.mem_cons_of_mem _ (uw_X2 w h)
  have iX4 : ∀ w ∈ u_ws RX4 TX4 11, w ∈ (Cond.code yX4_wipe cX4_wipe 2 (some .int) :: bigT) := fun w h => List.mem_cons_of_mem _ (uw_X4 w h)
  refine jx_aload_n E dX4_wipe_0 0 rfl ?_
  refine jx_getr (C := RX4) (T := TX4) (M := 11) (k := 4) E dX4_wipe_1 (Nat.le_of_ble_eq_true rfl) s_X0 rfl iX4 (by decide) rfl (List.mem_cons_of_mem _ tw_280) rfl ?_
  refine jx_getiN (C := RX2) (T := TX2) (M := 7) (k := 1) E dX4_wipe_4 (Nat.le_of_ble_eq_true rfl) s_X53 rfl iX2 (by decide) rfl (ex_f14 (jx_ex E)) rfl ?_
  refine jx_istore_n (lv' := [(1, .int (v 53 1)), (0, .ref (ad 0))]) E dX4_wipe_7 (by decide) rfl ?_
  refine jx_aload_n E dX4_wipe_8 1 rfl ?_
  refine jx_getr (C := RX4) (T := TX4) (M := 11) (k := 4) E dX4_wipe_9 (Nat.le_of_ble_eq_true rfl) s_X0 rfl iX4 (by decide) rfl (List.mem_cons_of_mem _ tw_280) rfl ?_
  refine jx_iconst (x := 0) E dX4_wipe_12 (by decide) ?_
  refine jx_putiN (C := RX2) (T := TX2) (M := 7) (k := 1) (ty := .int) E tyX2 dX4_wipe_13 (Nat.le_of_ble_eq_true rfl) s_X53 rfl iX2 (by decide) rfl (ex_f14 (jx_ex E)) tyX2_ok nmX2 rfl (by decide +kernel) rfl rfl rfl ?_
  refine jx_iload_n E dX4_wipe_16 0 rfl ?_
  obtain ⟨rfl, rfl⟩ := jx_out hF
  exact jx_iret E dX4_wipe_17 rfl
def f_X4_text  (v : jx_V) : Option (Int32 × jx_V) := ((f_X3_become 33 1 v).bind (fun v1 => ((f_X2_readText 33 v1).bind (fun (r2, v2) => (if ((jx_up v2 53 1 0) 53 6) < 0 then ((f_X3_become 1 33 (jx_up v2 53 1 0)).bind (fun v4 => (some (r2, v4)))) else (some (((-1) - ((jx_up v2 53 1 0) 53 6)), (jx_up v2 53 1 0))))))))
def rm_X4_text : Room := { frames := 9, cells := 0, slots := 0, locals := 198 }
set_option maxHeartbeats 4000000 in
set_option maxRecDepth 100000 in
theorem k_X4_text {l : Launch} {D : va_G} {cI cJ : ClassId} {ad : Nat → Nat} {A : Nat → Prop} {adK adV : Nat → Nat} (hI : jx_inj 67 ad A)  (v : jx_V) (r : Int32) (v' : jx_V) (hF : f_X4_text  v = some (r, v')) : jx_Ci l D vwCl 67 cI cJ ad shX A (ex_X adK adV A) yX4_text (Cond.code yX4_text cX4_text 2 (some .int) :: bigT) rm_X4_text [.ref (ad 0)] v r v' := by
  unfold f_X4_text at hF
  refine jx_enteri bigT RX4 cX4_text 2 (some .int) [(0, .ref (ad 0))] hI (ex_X_ok adK adV A) (by decide +kernel) rfl (Nat.le_of_ble_eq_true rfl) rfl rfl ?_
  intro p e s m args below meth c E
  have iX2 : ∀ w ∈ u_ws RX2 TX2 7, w ∈ (Cond.code yX4_text cX4_text 2 (some .int) :: bigT) := fun w h => List.mem_cons_of_mem _ (uw_X2 w h)
  have iX4 : ∀ w ∈ u_ws RX4 TX4 11, w ∈ (Cond.code yX4_text cX4_text 2 (some .int) :: bigT) := fun w h => List.mem_cons_of_mem _ (uw_X4 w h)
  refine jx_aload_n E dX4_text_0 0 rfl ?_
  refine jx_getr (C := RX4) (T := TX4) (M := 11) (k := 2) E dX4_text_1 (Nat.le_of_ble_eq_true rfl) s_X0 rfl iX4 (by decide) rfl (List.mem_cons_of_mem _ tw_234) rfl ?_
  refine jx_aload_n E dX4_text_4 0 rfl ?_
  refine jx_getr (C := RX4) (T := TX4) (M := 11) (k := 0) E dX4_text_5 (Nat.le_of_ble_eq_true rfl) s_X0 rfl iX4 (by decide) rfl (List.mem_cons_of_mem _ tw_195) rfl ?_
  obtain ⟨v1, hc1, hF⟩ := jx_bind hF
  try dsimp only at hF
  refine jx_callNv (As := [.ref (ad 1)]) (st := []) (h := 33) E dX4_text_8 1 rfl (k_X3_become hI 33 jx_T33 1 jx_T1 v v1 hc1) (gb_N tw_235) rfl rfl rfl (ex_m26 (jx_ex E)) (List.mem_cons_of_mem _ tw_33) (List.mem_cons_of_mem _ tw_236) (List.mem_cons_of_mem _ tw_237) dd_X3_become.2 rfl (Nat.le_of_ble_eq_true rfl) s_X33 rfl ⟨by decide, by decide⟩ ⟨Nat.le_refl 0, Nat.le_refl 0⟩ (Nat.le_of_ble_eq_true rfl) ?_
  refine jx_aload_n E dX4_text_11 0 rfl ?_
  refine jx_getr (C := RX4) (T := TX4) (M := 11) (k := 4) E dX4_text_12 (Nat.le_of_ble_eq_true rfl) s_X0 rfl iX4 (by decide) rfl (List.mem_cons_of_mem _ tw_280) rfl ?_
  refine jx_aload_n E dX4_text_15 0 rfl ?_
  refine jx_getr (C := RX4) (T := TX4) (M := 11) (k := 2) E dX4_text_16 (Nat.le_of_ble_eq_true rfl) s_X0 rfl iX4 (by decide) rfl (List.mem_cons_of_mem _ tw_234) rfl ?_
  obtain ⟨⟨r2, v2⟩, hc2, hF⟩ := jx_bind hF
  try dsimp only at hF
  refine jx_callNi (As := [.ref (ad 33)]) (st := []) (h := 53) E dX4_text_19 1 rfl (k_X2_readText hI 33 jx_T33 v1 r2 v2 hc2) (gb_N tw_284) rfl rfl rfl (ex_m34 (jx_ex E)) (List.mem_cons_of_mem _ tw_100) (List.mem_cons_of_mem _ tw_285) (List.mem_cons_of_mem _ tw_286) dd_X2_readText.2 rfl (Nat.le_of_ble_eq_true rfl) s_X53 rfl ⟨by decide, by decide⟩ ⟨Nat.le_refl 0, Nat.le_refl 0⟩ (Nat.le_of_ble_eq_true rfl) ?_
  refine jx_istore_n (lv' := [(1, .int r2), (0, .ref (ad 0))]) E dX4_text_22 (by decide) rfl ?_
  refine jx_aload_n E dX4_text_23 1 rfl ?_
  refine jx_getr (C := RX4) (T := TX4) (M := 11) (k := 4) E dX4_text_24 (Nat.le_of_ble_eq_true rfl) s_X0 rfl iX4 (by decide) rfl (List.mem_cons_of_mem _ tw_280) rfl ?_
  refine jx_iconst (x := 0) E dX4_text_27 (by decide) ?_
  refine jx_putiN (C := RX2) (T := TX2) (M := 7) (k := 1) (ty := .int) E tyX2 dX4_text_28 (Nat.le_of_ble_eq_true rfl) s_X53 rfl iX2 (by decide) rfl (ex_f14 (jx_ex E)) tyX2_ok nmX2 rfl (by decide +kernel) rfl rfl rfl ?_
  refine jx_aload_n E dX4_text_31 1 rfl ?_
  refine jx_getr (C := RX4) (T := TX4) (M := 11) (k := 4) E dX4_text_32 (Nat.le_of_ble_eq_true rfl) s_X0 rfl iX4 (by decide) rfl (List.mem_cons_of_mem _ tw_280) rfl ?_
  refine jx_getiN (C := RX2) (T := TX2) (M := 7) (k := 6) E dX4_text_35 (Nat.le_of_ble_eq_true rfl) s_X53 rfl iX2 (by decide) rfl (ex_f15 (jx_ex E)) rfl ?_
  refine jx_if_lt (tgt := 51) E dX4_text_38 (by decide) (fun hc3 => ?_) (fun hc3 => ?_)
  · rw [if_pos hc3] at hF
    refine jx_aload_n E dX4_text_51 1 rfl ?_
    refine jx_getr (C := RX4) (T := TX4) (M := 11) (k := 0) E dX4_text_52 (Nat.le_of_ble_eq_true rfl) s_X0 rfl iX4 (by decide) rfl (List.mem_cons_of_mem _ tw_195) rfl ?_
    refine jx_aload_n E dX4_text_55 1 rfl ?_
    refine jx_getr (C := RX4) (T := TX4) (M := 11) (k := 2) E dX4_text_56 (Nat.le_of_ble_eq_true rfl) s_X0 rfl iX4 (by decide) rfl (List.mem_cons_of_mem _ tw_234) rfl ?_
    obtain ⟨v4, hc4, hF⟩ := jx_bind hF
    try dsimp only at hF
    refine jx_callNv (As := [.ref (ad 33)]) (st := []) (h := 1) E dX4_text_59 1 rfl (k_X3_become hI 1 jx_T1 33 jx_T33 (jx_up v2 53 1 0) v4 hc4) (gb_N tw_235) rfl rfl rfl (ex_m26 (jx_ex E)) (List.mem_cons_of_mem _ tw_33) (List.mem_cons_of_mem _ tw_236) (List.mem_cons_of_mem _ tw_237) dd_X3_become.2 rfl (Nat.le_of_ble_eq_true rfl) s_X1 rfl ⟨by decide, by decide⟩ ⟨Nat.le_refl 0, Nat.le_refl 0⟩ (Nat.le_of_ble_eq_true rfl) ?_
    refine jx_iload_n E dX4_text_62 0 rfl ?_
    obtain ⟨rfl, rfl⟩ := jx_out hF
    exact jx_iret E dX4_text_63 rfl
  · rw [if_neg hc3] at hF
    refine jx_iconst (x := -1) E dX4_text_41 (by decide) ?_
    refine jx_aload_n E dX4_text_42 1 rfl ?_
    refine jx_getr (C := RX4) (T := TX4) (M := 11) (k := 4) E dX4_text_43 (Nat.le_of_ble_eq_true rfl) s_X0 rfl iX4 (by decide) rfl (List.mem_cons_of_mem _ tw_280) rfl ?_
    refine jx_getiN (C := RX2) (T := TX2) (M := 7) (k := 6) E dX4_text_46 (Nat.le_of_ble_eq_true rfl) s_X53 rfl iX2 (by decide) rfl (ex_f15 (jx_ex E)) rfl ?_
    refine jx_isub E dX4_text_49 ?_
    obtain ⟨rfl, rfl⟩ := jx_out hF
    exact jx_iret E dX4_text_50 rfl
def f_X4_hold (x1 : Int32) (x2 : Int32) (v : jx_V) : Option (Int32 × jx_V) := ((f_X4_within x1 10 v).bind (fun (r1, v1) => (if r1 = 0 then ((f_X4_finding 0 v1).bind (fun (r3, v3) => (some (r3, v3)))) else (if x2 < (-1) then ((f_X4_finding 0 v1).bind (fun (r5, v5) => (some (r5, v5)))) else (if x2 < 25 then (if (x1 < 0 ∨ 10 ≤ Int32.toNatClampNeg x1) then none else (some (1, (jx_up v1 16 (Int32.toNatClampNeg x1) x2)))) else ((f_X4_finding 0 v1).bind (fun (r8, v8) => (some (r8, v8)))))))))
def rm_X4_hold : Room := { frames := 1, cells := 0, slots := 0, locals := 21 }
set_option maxHeartbeats 4000000 in
set_option maxRecDepth 100000 in
theorem k_X4_hold {l : Launch} {D : va_G} {cI cJ : ClassId} {ad : Nat → Nat} {A : Nat → Prop} {adK adV : Nat → Nat} (hI : jx_inj 67 ad A) (x1 : Int32) (x2 : Int32) (v : jx_V) (r : Int32) (v' : jx_V) (hF : f_X4_hold x1 x2 v = some (r, v')) : jx_Ci l D vwCl 67 cI cJ ad shX A (ex_X adK adV A) yX4_hold (Cond.code yX4_hold cX4_hold 3 (some .int) :: bigT) rm_X4_hold [.ref (ad 0), .int x1, .int x2] v r v' := by
  unfold f_X4_hold at hF
  refine jx_enteri bigT RX4 cX4_hold 3 (some .int) [(0, .ref (ad 0)), (1, .int x1), (2, .int x2)] hI (ex_X_ok adK adV A) (by decide +kernel) rfl (Nat.le_of_ble_eq_true rfl) rfl rfl ?_
  intro p e s m args below meth c E
  have iX3 : ∀ w ∈ u_ws RX3 TX3 8, w ∈ (Cond.code yX4_hold cX4_hold 3 (some .int) :: bigT) := fun w h => List.mem_cons_of_mem _ (uw_X3 w h)
  have iX4 : ∀ w ∈ u_ws RX4 TX4 11, w ∈ (Cond.code yX4_hold cX4_hold 3 (some .int) :: bigT) := fun w h => List.mem_cons_of_mem _ (uw_X4 w h)
  refine jx_iload_n E dX4_hold_0 1 rfl ?_
  refine jx_bipush (x := 10) E dX4_hold_1 (by decide) ?_
  obtain ⟨⟨r1, v1⟩, hc1, hF⟩ := jx_bind hF
  try dsimp only at hF
  refine jx_callSi (As := [.int x1, .int 10]) (st := []) E dX4_hold_3 2 rfl (k_X4_within hI x1 10 v r1 v1 hc1) (gb_S (List.mem_cons_of_mem _ tw_188) (List.mem_cons_of_mem _ tw_189) (List.mem_cons_of_mem _ tw_190) tw_187) rfl rfl rfl dd_X4_within rfl ⟨by decide, by decide⟩ ⟨Nat.le_refl 0, Nat.le_refl 0⟩ (Nat.le_of_ble_eq_true rfl) ?_
  refine jx_if_eq (tgt := 20) E dX4_hold_6 (by decide) (fun hc2 => ?_) (fun hc2 => ?_)
  · rw [if_pos hc2] at hF
    refine jx_aload_n E dX4_hold_20 0 rfl ?_
    refine jx_iconst (x := 0) E dX4_hold_21 (by decide) ?_
    obtain ⟨⟨r3, v3⟩, hc3, hF⟩ := jx_bind hF
    try dsimp only at hF
    refine jx_callVi (As := [.int 0]) (st := []) (h := 0) E dX4_hold_22 1 rfl (k_X4_finding hI 0 v1 r3 v3 hc3) (gb_V (List.mem_cons_of_mem _ tw_192) (List.mem_cons_of_mem _ tw_193) (List.mem_cons_of_mem _ tw_194) (List.mem_cons_of_mem _ tw_190) tw_191) rfl rfl rfl dd_X4_finding rfl (Nat.le_of_ble_eq_true rfl) s_X0 rfl ⟨by decide, by decide⟩ ⟨Nat.le_refl 0, Nat.le_refl 0⟩ (Nat.le_of_ble_eq_true rfl) ?_
    obtain ⟨rfl, rfl⟩ := jx_out hF
    exact jx_iret E dX4_hold_25 rfl
  · rw [if_neg hc2] at hF
    refine jx_iload_n E dX4_hold_9 2 rfl ?_
    refine jx_iconst (x := -1) E dX4_hold_10 (by decide) ?_
    refine jx_icmp_lt (tgt := 20) E dX4_hold_11 (by decide) (fun hc4 => ?_) (fun hc4 => ?_)
    · rw [if_pos hc4] at hF
      refine jx_aload_n E dX4_hold_20 0 rfl ?_
      refine jx_iconst (x := 0) E dX4_hold_21 (by decide) ?_
      obtain ⟨⟨r5, v5⟩, hc5, hF⟩ := jx_bind hF
      try dsimp only at hF
      refine jx_callVi (As := [.int 0]) (st := []) (h := 0) E dX4_hold_22 1 rfl (k_X4_finding hI 0 v1 r5 v5 hc5) (gb_V (List.mem_cons_of_mem _ tw_192) (List.mem_cons_of_mem _ tw_193) (List.mem_cons_of_mem _ tw_194) (List.mem_cons_of_mem _ tw_190) tw_191) rfl rfl rfl dd_X4_finding rfl (Nat.le_of_ble_eq_true rfl) s_X0 rfl ⟨by decide, by decide⟩ ⟨Nat.le_refl 0, Nat.le_refl 0⟩ (Nat.le_of_ble_eq_true rfl) ?_
      obtain ⟨rfl, rfl⟩ := jx_out hF
      exact jx_iret E dX4_hold_25 rfl
    · rw [if_neg hc4] at hF
      refine jx_iload_n E dX4_hold_14 2 rfl ?_
      refine jx_bipush (x := 25) E dX4_hold_15 (by decide) ?_
      refine jx_icmp_lt (tgt := 26) E dX4_hold_17 (by decide) (fun hc6 => ?_) (fun hc6 => ?_)
      · rw [if_pos hc6] at hF
        refine jx_aload_n E dX4_hold_26 0 rfl ?_
        refine jx_getr (C := RX4) (T := TX4) (M := 11) (k := 0) E dX4_hold_27 (Nat.le_of_ble_eq_true rfl) s_X0 rfl iX4 (by decide) rfl (List.mem_cons_of_mem _ tw_195) rfl ?_
        refine jx_getrN (C := RX3) (T := TX3) (M := 8) (k := 4) E dX4_hold_30 (Nat.le_of_ble_eq_true rfl) s_X1 rfl iX3 (by decide) rfl (ex_f8 (jx_ex E)) rfl ?_
        refine jx_iload_n E dX4_hold_33 1 rfl ?_
        refine jx_iload_n E dX4_hold_34 2 rfl ?_
        obtain ⟨hg7, hF⟩ := jx_guard hF
        refine jx_iast (h := 16) (j := (Int32.toNatClampNeg x1)) E dX4_hold_35 (Nat.le_of_ble_eq_true rfl) s_X16 hg7 rfl ?_
        refine jx_iconst (x := 1) E dX4_hold_36 (by decide) ?_
        obtain ⟨rfl, rfl⟩ := jx_out hF
        exact jx_iret E dX4_hold_37 rfl
      · rw [if_neg hc6] at hF
        refine jx_aload_n E dX4_hold_20 0 rfl ?_
        refine jx_iconst (x := 0) E dX4_hold_21 (by decide) ?_
        obtain ⟨⟨r8, v8⟩, hc8, hF⟩ := jx_bind hF
        try dsimp only at hF
        refine jx_callVi (As := [.int 0]) (st := []) (h := 0) E dX4_hold_22 1 rfl (k_X4_finding hI 0 v1 r8 v8 hc8) (gb_V (List.mem_cons_of_mem _ tw_192) (List.mem_cons_of_mem _ tw_193) (List.mem_cons_of_mem _ tw_194) (List.mem_cons_of_mem _ tw_190) tw_191) rfl rfl rfl dd_X4_finding rfl (Nat.le_of_ble_eq_true rfl) s_X0 rfl ⟨by decide, by decide⟩ ⟨Nat.le_refl 0, Nat.le_refl 0⟩ (Nat.le_of_ble_eq_true rfl) ?_
        obtain ⟨rfl, rfl⟩ := jx_out hF
        exact jx_iret E dX4_hold_25 rfl
def f_X4_kindAbove (x0 : Int32) (v : jx_V) : Option (Int32 × jx_V) := (if x0 = 3 then (some (1, v)) else (if x0 = 4 then (some (2, v)) else (if x0 = 5 then (some (0, v)) else (if x0 = 6 then (some (5, v)) else (some (0, v))))))
def rm_X4_kindAbove : Room := { frames := 0, cells := 0, slots := 0, locals := 0 }
set_option maxHeartbeats 4000000 in
set_option maxRecDepth 100000 in
theorem k_X4_kindAbove {l : Launch} {D : va_G} {cI cJ : ClassId} {ad : Nat → Nat} {A : Nat → Prop} {adK adV : Nat → Nat} (hI : jx_inj 67 ad A) (x0 : Int32) (v : jx_V) (r : Int32) (v' : jx_V) (hF : f_X4_kindAbove x0 v = some (r, v')) : jx_Ci l D vwCl 67 cI cJ ad shX A (ex_X adK adV A) yX4_kindAbove (Cond.code yX4_kindAbove cX4_kindAbove 1 (some .int) :: bigT) rm_X4_kindAbove [.int x0] v r v' := by
  unfold f_X4_kindAbove at hF
  refine jx_enteri bigT RX4 cX4_kindAbove 1 (some .int) [(0, .int x0)] hI (ex_X_ok adK adV A) (by decide +kernel) rfl (Nat.le_of_ble_eq_true rfl) rfl rfl ?_
  intro p e s m args below meth c E
  refine jx_iload_n E dX4_kindAbove_0 0 rfl ?_
  by_cases hc1 : x0 = 3
  · rw [if_pos hc1] at hF
    refine jx_tableIn (tgt := 32) (z := 3) E dX4_kindAbove_1 hc1 (by decide) (by decide) rfl (by decide) ?_
    refine jx_iconst (x := 1) E dX4_kindAbove_32 (by decide) ?_
    obtain ⟨rfl, rfl⟩ := jx_out hF
    exact jx_iret E dX4_kindAbove_33 rfl
  rw [if_neg hc1] at hF
  by_cases hc2 : x0 = 4
  · rw [if_pos hc2] at hF
    refine jx_tableIn (tgt := 34) (z := 4) E dX4_kindAbove_1 hc2 (by decide) (by decide) rfl (by decide) ?_
    refine jx_iconst (x := 2) E dX4_kindAbove_34 (by decide) ?_
    obtain ⟨rfl, rfl⟩ := jx_out hF
    exact jx_iret E dX4_kindAbove_35 rfl
  rw [if_neg hc2] at hF
  by_cases hc3 : x0 = 5
  · rw [if_pos hc3] at hF
    refine jx_tableIn (tgt := 38) (z := 5) E dX4_kindAbove_1 hc3 (by decide) (by decide) rfl (by decide) ?_
    refine jx_iconst (x := 0) E dX4_kindAbove_38 (by decide) ?_
    obtain ⟨rfl, rfl⟩ := jx_out hF
    exact jx_iret E dX4_kindAbove_39 rfl
  rw [if_neg hc3] at hF
  by_cases hc4 : x0 = 6
  · rw [if_pos hc4] at hF
    refine jx_tableIn (tgt := 36) (z := 6) E dX4_kindAbove_1 hc4 (by decide) (by decide) rfl (by decide) ?_
    refine jx_iconst (x := 5) E dX4_kindAbove_36 (by decide) ?_
    obtain ⟨rfl, rfl⟩ := jx_out hF
    exact jx_iret E dX4_kindAbove_37 rfl
  rw [if_neg hc4] at hF
  refine jx_tableOut (tgt := 38) E dX4_kindAbove_1 (by have hz1 := jx_ne hc1 (k := 3) (by decide); have hz2 := jx_ne hc2 (k := 4) (by decide); have hz3 := jx_ne hc3 (k := 5) (by decide); have hz4 := jx_ne hc4 (k := 6) (by decide); omega) (by decide) ?_
  refine jx_iconst (x := 0) E dX4_kindAbove_38 (by decide) ?_
  obtain ⟨rfl, rfl⟩ := jx_out hF
  exact jx_iret E dX4_kindAbove_39 rfl
def f_X4_isOfKind (x0 : Int32) (x1 : Int32) (v : jx_V) : Option (Int32 × jx_V) := (if x1 = 0 then (some (1, v)) else (if x0 = x1 then (some (1, v)) else ((f_X4_kindAbove x0 v).bind (fun (r3, v3) => (if r3 = x1 then (some (1, v3)) else (some (0, v3)))))))
def rm_X4_isOfKind : Room := { frames := 1, cells := 0, slots := 0, locals := 20 }
set_option maxHeartbeats 4000000 in
set_option maxRecDepth 100000 in
theorem k_X4_isOfKind {l : Launch} {D : va_G} {cI cJ : ClassId} {ad : Nat → Nat} {A : Nat → Prop} {adK adV : Nat → Nat} (hI : jx_inj 67 ad A) (x0 : Int32) (x1 : Int32) (v : jx_V) (r : Int32) (v' : jx_V) (hF : f_X4_isOfKind x0 x1 v = some (r, v')) : jx_Ci l D vwCl 67 cI cJ ad shX A (ex_X adK adV A) yX4_isOfKind (Cond.code yX4_isOfKind cX4_isOfKind 2 (some .boolean) :: bigT) rm_X4_isOfKind [.int x0, .int x1] v r v' := by
  unfold f_X4_isOfKind at hF
  refine jx_enteri bigT RX4 cX4_isOfKind 2 (some .boolean) [(0, .int x0), (1, .int x1)] hI (ex_X_ok adK adV A) (by decide +kernel) rfl (Nat.le_of_ble_eq_true rfl) rfl rfl ?_
  intro p e s m args below meth c E
  refine jx_iload_n E dX4_isOfKind_0 1 rfl ?_
  refine jx_if_eq (tgt := 17) E dX4_isOfKind_1 (by decide) (fun hc1 => ?_) (fun hc1 => ?_)
  · rw [if_pos hc1] at hF
    refine jx_iconst (x := 1) E dX4_isOfKind_17 (by decide) ?_
    refine jx_goto (tgt := 22) E dX4_isOfKind_18 (by decide) ?_
    obtain ⟨rfl, rfl⟩ := jx_out hF
    exact jx_zret E dX4_isOfKind_22 rfl (Or.inr rfl)
  · rw [if_neg hc1] at hF
    refine jx_iload_n E dX4_isOfKind_4 0 rfl ?_
    refine jx_iload_n E dX4_isOfKind_5 1 rfl ?_
    refine jx_icmp_eq (tgt := 17) E dX4_isOfKind_6 (by decide) (fun hc2 => ?_) (fun hc2 => ?_)
    · rw [if_pos hc2] at hF
      refine jx_iconst (x := 1) E dX4_isOfKind_17 (by decide) ?_
      refine jx_goto (tgt := 22) E dX4_isOfKind_18 (by decide) ?_
      obtain ⟨rfl, rfl⟩ := jx_out hF
      exact jx_zret E dX4_isOfKind_22 rfl (Or.inr rfl)
    · rw [if_neg hc2] at hF
      refine jx_iload_n E dX4_isOfKind_9 0 rfl ?_
      obtain ⟨⟨r3, v3⟩, hc3, hF⟩ := jx_bind hF
      try dsimp only at hF
      refine jx_callSi (As := [.int x0]) (st := []) E dX4_isOfKind_10 1 rfl (k_X4_kindAbove hI x0 v r3 v3 hc3) (gb_S (List.mem_cons_of_mem _ tw_288) (List.mem_cons_of_mem _ tw_289) (List.mem_cons_of_mem _ tw_190) tw_287) rfl rfl rfl dd_X4_kindAbove rfl ⟨by decide, by decide⟩ ⟨Nat.le_refl 0, Nat.le_refl 0⟩ (Nat.le_of_ble_eq_true rfl) ?_
      refine jx_iload_n E dX4_isOfKind_13 1 rfl ?_
      refine jx_icmp_ne (tgt := 21) E dX4_isOfKind_14 (by decide) (fun hc4 => ?_) (fun hc4 => ?_)
      · rw [if_neg hc4] at hF
        refine jx_iconst (x := 0) E dX4_isOfKind_21 (by decide) ?_
        obtain ⟨rfl, rfl⟩ := jx_out hF
        exact jx_zret E dX4_isOfKind_22 rfl (Or.inl rfl)
      · rw [if_pos hc4] at hF
        refine jx_iconst (x := 1) E dX4_isOfKind_17 (by decide) ?_
        refine jx_goto (tgt := 22) E dX4_isOfKind_18 (by decide) ?_
        obtain ⟨rfl, rfl⟩ := jx_out hF
        exact jx_zret E dX4_isOfKind_22 rfl (Or.inr rfl)
def f_X4_as (x1 : Int32) (x2 : Int32) (v : jx_V) : Option (Int32 × jx_V) := ((f_X4_within x1 10 v).bind (fun (r1, v1) => (if r1 = 0 then ((f_X4_finding 0 v1).bind (fun (r3, v3) => (some (r3, v3)))) else ((f_X4_within x2 7 v1).bind (fun (r4, v4) => (if r4 = 0 then ((f_X4_finding 0 v4).bind (fun (r16, v16) => (some (r16, v16)))) else (if (x1 < 0 ∨ 10 ≤ Int32.toNatClampNeg x1) then none else (if (v4 16 (Int32.toNatClampNeg x1)) < 0 then ((f_X4_finding 5 v4).bind (fun (r8, v8) => (some (r8, v8)))) else ((f_X3_isTaken 1 (v4 16 (Int32.toNatClampNeg x1)) v4).bind (fun (r9, v9) => (if r9 = 0 then ((f_X4_finding 5 v9).bind (fun (r15, v15) => (some (r15, v15)))) else (if ((v4 16 (Int32.toNatClampNeg x1)) < 0 ∨ 25 ≤ Int32.toNatClampNeg (v4 16 (Int32.toNatClampNeg x1))) then none else ((f_X4_isOfKind (v9 4 (Int32.toNatClampNeg (v4 16 (Int32.toNatClampNeg x1)))) x2 v9).bind (fun (r12, v12) => (if r12 = 0 then ((f_X4_finding 2 v12).bind (fun (r14, v14) => (some (r14, v14)))) else (some ((v4 16 (Int32.toNatClampNeg x1)), v12)))))))))))))))))
def rm_X4_as : Room := { frames := 2, cells := 0, slots := 0, locals := 41 }
set_option maxHeartbeats 4000000 in
set_option maxRecDepth 100000 in
theorem k_X4_as {l : Launch} {D : va_G} {cI cJ : ClassId} {ad : Nat → Nat} {A : Nat → Prop} {adK adV : Nat → Nat} (hI : jx_inj 67 ad A) (x1 : Int32) (x2 : Int32) (v : jx_V) (r : Int32) (v' : jx_V) (hF : f_X4_as x1 x2 v = some (r, v')) : jx_Ci l D vwCl 67 cI cJ ad shX A (ex_X adK adV A) yX4_as (Cond.code yX4_as cX4_as 4 (some .int) :: bigT) rm_X4_as [.ref (ad 0), .int x1, .int x2] v r v' := by
  unfold f_X4_as at hF
  refine jx_enteri bigT RX4 cX4_as 4 (some .int) [(0, .ref (ad 0)), (1, .int x1), (2, .int x2)] hI (ex_X_ok adK adV A) (by decide +kernel) rfl (Nat.le_of_ble_eq_true rfl) rfl rfl ?_
  intro p e s m args below meth c E
  have iX3 : ∀ w ∈ u_ws RX3 TX3 8, w ∈ (Cond.code yX4_as cX4_as 4 (some .int) :: bigT) := fun w h => List.mem_cons_of_mem _ (uw_X3 w h)
  have iX4 : ∀ w ∈ u_ws RX4 TX4 11, w ∈ (Cond.code yX4_as cX4_as 4 (some .int) :: bigT) := fun w h => List.mem_cons_of_mem _ (uw_X4 w h)
  refine jx_iload_n E dX4_as_0 1 rfl ?_
  refine jx_bipush (x := 10) E dX4_as_1 (by decide) ?_
  obtain ⟨⟨r1, v1⟩, hc1, hF⟩ := jx_bind hF
  try dsimp only at hF
  refine jx_callSi (As := [.int x1, .int 10]) (st := []) E dX4_as_3 2 rfl (k_X4_within hI x1 10 v r1 v1 hc1) (gb_S (List.mem_cons_of_mem _ tw_188) (List.mem_cons_of_mem _ tw_189) (List.mem_cons_of_mem _ tw_190) tw_187) rfl rfl rfl dd_X4_within rfl ⟨by decide, by decide⟩ ⟨Nat.le_refl 0, Nat.le_refl 0⟩ (Nat.le_of_ble_eq_true rfl) ?_
  refine jx_if_eq (tgt := 18) E dX4_as_6 (by decide) (fun hc2 => ?_) (fun hc2 => ?_)
  · rw [if_pos hc2] at hF
    refine jx_aload_n E dX4_as_18 0 rfl ?_
    refine jx_iconst (x := 0) E dX4_as_19 (by decide) ?_
    obtain ⟨⟨r3, v3⟩, hc3, hF⟩ := jx_bind hF
    try dsimp only at hF
    refine jx_callVi (As := [.int 0]) (st := []) (h := 0) E dX4_as_20 1 rfl (k_X4_finding hI 0 v1 r3 v3 hc3) (gb_V (List.mem_cons_of_mem _ tw_192) (List.mem_cons_of_mem _ tw_193) (List.mem_cons_of_mem _ tw_194) (List.mem_cons_of_mem _ tw_190) tw_191) rfl rfl rfl dd_X4_finding rfl (Nat.le_of_ble_eq_true rfl) s_X0 rfl ⟨by decide, by decide⟩ ⟨Nat.le_refl 0, Nat.le_refl 0⟩ (Nat.le_of_ble_eq_true rfl) ?_
    obtain ⟨rfl, rfl⟩ := jx_out hF
    exact jx_iret E dX4_as_23 rfl
  · rw [if_neg hc2] at hF
    refine jx_iload_n E dX4_as_9 2 rfl ?_
    refine jx_bipush (x := 7) E dX4_as_10 (by decide) ?_
    obtain ⟨⟨r4, v4⟩, hc4, hF⟩ := jx_bind hF
    try dsimp only at hF
    refine jx_callSi (As := [.int x2, .int 7]) (st := []) E dX4_as_12 2 rfl (k_X4_within hI x2 7 v1 r4 v4 hc4) (gb_S (List.mem_cons_of_mem _ tw_188) (List.mem_cons_of_mem _ tw_189) (List.mem_cons_of_mem _ tw_190) tw_187) rfl rfl rfl dd_X4_within rfl ⟨by decide, by decide⟩ ⟨Nat.le_refl 0, Nat.le_refl 0⟩ (Nat.le_of_ble_eq_true rfl) ?_
    refine jx_if_ne (tgt := 24) E dX4_as_15 (by decide) (fun hc5 => ?_) (fun hc5 => ?_)
    · rw [if_neg hc5] at hF
      refine jx_aload_n E dX4_as_24 0 rfl ?_
      refine jx_getr (C := RX4) (T := TX4) (M := 11) (k := 0) E dX4_as_25 (Nat.le_of_ble_eq_true rfl) s_X0 rfl iX4 (by decide) rfl (List.mem_cons_of_mem _ tw_195) rfl ?_
      refine jx_getrN (C := RX3) (T := TX3) (M := 8) (k := 4) E dX4_as_28 (Nat.le_of_ble_eq_true rfl) s_X1 rfl iX3 (by decide) rfl (ex_f8 (jx_ex E)) rfl ?_
      refine jx_iload_n E dX4_as_31 1 rfl ?_
      obtain ⟨hg6, hF⟩ := jx_guard hF
      refine jx_iald (h := 16) (j := (Int32.toNatClampNeg x1)) E dX4_as_32 (Nat.le_of_ble_eq_true rfl) s_X16 hg6 rfl ?_
      refine jx_istore_n (lv' := [(3, .int (v4 16 (Int32.toNatClampNeg x1))), (0, .ref (ad 0)), (1, .int x1), (2, .int x2)]) E dX4_as_33 (by decide) rfl ?_
      refine jx_iload_n E dX4_as_34 0 rfl ?_
      refine jx_if_lt (tgt := 49) E dX4_as_35 (by decide) (fun hc7 => ?_) (fun hc7 => ?_)
      · rw [if_pos hc7] at hF
        refine jx_aload_n E dX4_as_49 1 rfl ?_
        refine jx_iconst (x := 5) E dX4_as_50 (by decide) ?_
        obtain ⟨⟨r8, v8⟩, hc8, hF⟩ := jx_bind hF
        try dsimp only at hF
        refine jx_callVi (As := [.int 5]) (st := []) (h := 0) E dX4_as_51 1 rfl (k_X4_finding hI 5 v4 r8 v8 hc8) (gb_V (List.mem_cons_of_mem _ tw_192) (List.mem_cons_of_mem _ tw_193) (List.mem_cons_of_mem _ tw_194) (List.mem_cons_of_mem _ tw_190) tw_191) rfl rfl rfl dd_X4_finding rfl (Nat.le_of_ble_eq_true rfl) s_X0 rfl ⟨by decide, by decide⟩ ⟨Nat.le_refl 0, Nat.le_refl 0⟩ (Nat.le_of_ble_eq_true rfl) ?_
        obtain ⟨rfl, rfl⟩ := jx_out hF
        exact jx_iret E dX4_as_54 rfl
      · rw [if_neg hc7] at hF
        refine jx_aload_n E dX4_as_38 1 rfl ?_
        refine jx_getr (C := RX4) (T := TX4) (M := 11) (k := 0) E dX4_as_39 (Nat.le_of_ble_eq_true rfl) s_X0 rfl iX4 (by decide) rfl (List.mem_cons_of_mem _ tw_195) rfl ?_
        refine jx_iload_n E dX4_as_42 0 rfl ?_
        obtain ⟨⟨r9, v9⟩, hc9, hF⟩ := jx_bind hF
        try dsimp only at hF
        refine jx_callNi (As := [.int (v4 16 (Int32.toNatClampNeg x1))]) (st := []) (h := 1) E dX4_as_43 1 rfl (k_X3_isTaken hI 1 jx_T1 (v4 16 (Int32.toNatClampNeg x1)) v4 r9 v9 hc9) (gb_N tw_51) rfl rfl rfl (ex_m4 (jx_ex E)) (List.mem_cons_of_mem _ tw_33) (List.mem_cons_of_mem _ tw_52) (List.mem_cons_of_mem _ tw_53) dd_X3_isTaken.2 rfl (Nat.le_of_ble_eq_true rfl) s_X1 rfl ⟨by decide, by decide⟩ ⟨Nat.le_refl 0, Nat.le_refl 0⟩ (Nat.le_of_ble_eq_true rfl) ?_
        refine jx_if_ne (tgt := 55) E dX4_as_46 (by decide) (fun hc10 => ?_) (fun hc10 => ?_)
        · rw [if_neg hc10] at hF
          refine jx_aload_n E dX4_as_55 1 rfl ?_
          refine jx_getr (C := RX4) (T := TX4) (M := 11) (k := 0) E dX4_as_56 (Nat.le_of_ble_eq_true rfl) s_X0 rfl iX4 (by decide) rfl (List.mem_cons_of_mem _ tw_195) rfl ?_
          refine jx_getrN (C := RX3) (T := TX3) (M := 8) (k := 0) E dX4_as_59 (Nat.le_of_ble_eq_true rfl) s_X1 rfl iX3 (by decide) rfl (ex_f0 (jx_ex E)) rfl ?_
          refine jx_iconst (x := 0) E dX4_as_62 (by decide) ?_
          refine jx_aald (h' := 4) E dX4_as_63 (Nat.le_of_ble_eq_true rfl) s_X2 (show ¬ ((0 : Int32) < 0 ∨ 4 ≤ Int32.toNatClampNeg 0) by decide) rfl ?_
          refine jx_iload_n E dX4_as_64 0 rfl ?_
          obtain ⟨hg11, hF⟩ := jx_guard hF
          refine jx_iald (h := 4) (j := (Int32.toNatClampNeg (v4 16 (Int32.toNatClampNeg x1)))) E dX4_as_65 (Nat.le_of_ble_eq_true rfl) s_X4 hg11 rfl ?_
          refine jx_iload_n E dX4_as_66 3 rfl ?_
          obtain ⟨⟨r12, v12⟩, hc12, hF⟩ := jx_bind hF
          try dsimp only at hF
          refine jx_callSi (As := [.int (v9 4 (Int32.toNatClampNeg (v4 16 (Int32.toNatClampNeg x1)))), .int x2]) (st := []) E dX4_as_67 2 rfl (k_X4_isOfKind hI (v9 4 (Int32.toNatClampNeg (v4 16 (Int32.toNatClampNeg x1)))) x2 v9 r12 v12 hc12) (gb_S (List.mem_cons_of_mem _ tw_291) (List.mem_cons_of_mem _ tw_292) (List.mem_cons_of_mem _ tw_190) tw_290) rfl rfl rfl dd_X4_isOfKind rfl ⟨by decide, by decide⟩ ⟨Nat.le_refl 0, Nat.le_refl 0⟩ (Nat.le_of_ble_eq_true rfl) ?_
          refine jx_if_eq (tgt := 77) E dX4_as_70 (by decide) (fun hc13 => ?_) (fun hc13 => ?_)
          · rw [if_pos hc13] at hF
            refine jx_aload_n E dX4_as_77 1 rfl ?_
            refine jx_iconst (x := 2) E dX4_as_78 (by decide) ?_
            obtain ⟨⟨r14, v14⟩, hc14, hF⟩ := jx_bind hF
            try dsimp only at hF
            refine jx_callVi (As := [.int 2]) (st := []) (h := 0) E dX4_as_79 1 rfl (k_X4_finding hI 2 v12 r14 v14 hc14) (gb_V (List.mem_cons_of_mem _ tw_192) (List.mem_cons_of_mem _ tw_193) (List.mem_cons_of_mem _ tw_194) (List.mem_cons_of_mem _ tw_190) tw_191) rfl rfl rfl dd_X4_finding rfl (Nat.le_of_ble_eq_true rfl) s_X0 rfl ⟨by decide, by decide⟩ ⟨Nat.le_refl 0, Nat.le_refl 0⟩ (Nat.le_of_ble_eq_true rfl) ?_
            obtain ⟨rfl, rfl⟩ := jx_out hF
            exact jx_iret E dX4_as_82 rfl
          · rw [if_neg hc13] at hF
            refine jx_iload_n E dX4_as_73 0 rfl ?_
            refine jx_goto (tgt := 82) E dX4_as_74 (by decide) ?_
            obtain ⟨rfl, rfl⟩ := jx_out hF
            exact jx_iret E dX4_as_82 rfl
        · rw [if_pos hc10] at hF
          refine jx_aload_n E dX4_as_49 1 rfl ?_
          refine jx_iconst (x := 5) E dX4_as_50 (by decide) ?_
          obtain ⟨⟨r15, v15⟩, hc15, hF⟩ := jx_bind hF
          try dsimp only at hF
          refine jx_callVi (As := [.int 5]) (st := []) (h := 0) E dX4_as_51 1 rfl (k_X4_finding hI 5 v9 r15 v15 hc15) (gb_V (List.mem_cons_of_mem _ tw_192) (List.mem_cons_of_mem _ tw_193) (List.mem_cons_of_mem _ tw_194) (List.mem_cons_of_mem _ tw_190) tw_191) rfl rfl rfl dd_X4_finding rfl (Nat.le_of_ble_eq_true rfl) s_X0 rfl ⟨by decide, by decide⟩ ⟨Nat.le_refl 0, Nat.le_refl 0⟩ (Nat.le_of_ble_eq_true rfl) ?_
          obtain ⟨rfl, rfl⟩ := jx_out hF
          exact jx_iret E dX4_as_54 rfl
    · rw [if_pos hc5] at hF
      refine jx_aload_n E dX4_as_18 0 rfl ?_
      refine jx_iconst (x := 0) E dX4_as_19 (by decide) ?_
      obtain ⟨⟨r16, v16⟩, hc16, hF⟩ := jx_bind hF
      try dsimp only at hF
      refine jx_callVi (As := [.int 0]) (st := []) (h := 0) E dX4_as_20 1 rfl (k_X4_finding hI 0 v4 r16 v16 hc16) (gb_V (List.mem_cons_of_mem _ tw_192) (List.mem_cons_of_mem _ tw_193) (List.mem_cons_of_mem _ tw_194) (List.mem_cons_of_mem _ tw_190) tw_191) rfl rfl rfl dd_X4_finding rfl (Nat.le_of_ble_eq_true rfl) s_X0 rfl ⟨by decide, by decide⟩ ⟨Nat.le_refl 0, Nat.le_refl 0⟩ (Nat.le_of_ble_eq_true rfl) ?_
      obtain ⟨rfl, rfl⟩ := jx_out hF
      exact jx_iret E dX4_as_23 rfl
def f_X4_sheet (x1 : Int32) (x2 : Int32) (x3 : Int32) (v : jx_V) : Option (Int32 × jx_V) := ((f_X4_within x1 4 v).bind (fun (r1, v1) => (if r1 = 0 then ((f_X4_finding 0 v1).bind (fun (r3, v3) => (some (r3, v3)))) else (if x2 = 0 then (if 0 ≤ x3 then (if x3 ≤ 40 then ((f_X1_begin x1 x2 x3 v1).bind (fun v7 => (if (x1 < 0 ∨ 4 ≤ Int32.toNatClampNeg x1) then none else (some ((v7 62 (Int32.toNatClampNeg x1)), v7))))) else ((f_X4_finding 0 v1).bind (fun (r9, v9) => (some (r9, v9))))) else ((f_X4_finding 6 v1).bind (fun (r10, v10) => (some (r10, v10))))) else (if x2 = 8 then (if 0 ≤ x3 then (if x3 ≤ 40 then ((f_X1_begin x1 x2 x3 v1).bind (fun v14 => (if (x1 < 0 ∨ 4 ≤ Int32.toNatClampNeg x1) then none else (some ((v14 62 (Int32.toNatClampNeg x1)), v14))))) else ((f_X4_finding 0 v1).bind (fun (r16, v16) => (some (r16, v16))))) else ((f_X4_finding 6 v1).bind (fun (r17, v17) => (some (r17, v17))))) else (if x2 = 16 then (if 0 ≤ x3 then (if x3 ≤ 40 then ((f_X1_begin x1 x2 x3 v1).bind (fun v21 => (if (x1 < 0 ∨ 4 ≤ Int32.toNatClampNeg x1) then none else (some ((v21 62 (Int32.toNatClampNeg x1)), v21))))) else ((f_X4_finding 0 v1).bind (fun (r23, v23) => (some (r23, v23))))) else ((f_X4_finding 6 v1).bind (fun (r24, v24) => (some (r24, v24))))) else (if x2 = 32 then (if 0 ≤ x3 then (if x3 ≤ 40 then ((f_X1_begin x1 x2 x3 v1).bind (fun v28 => (if (x1 < 0 ∨ 4 ≤ Int32.toNatClampNeg x1) then none else (some ((v28 62 (Int32.toNatClampNeg x1)), v28))))) else ((f_X4_finding 0 v1).bind (fun (r30, v30) => (some (r30, v30))))) else ((f_X4_finding 6 v1).bind (fun (r31, v31) => (some (r31, v31))))) else ((f_X4_finding 0 v1).bind (fun (r32, v32) => (some (r32, v32)))))))))))
def rm_X4_sheet : Room := { frames := 1, cells := 0, slots := 0, locals := 24 }
set_option maxHeartbeats 4000000 in
set_option maxRecDepth 100000 in
theorem k_X4_sheet {l : Launch} {D : va_G} {cI cJ : ClassId} {ad : Nat → Nat} {A : Nat → Prop} {adK adV : Nat → Nat} (hI : jx_inj 67 ad A) (x1 : Int32) (x2 : Int32) (x3 : Int32) (v : jx_V) (r : Int32) (v' : jx_V) (hF : f_X4_sheet x1 x2 x3 v = some (r, v')) : jx_Ci l D vwCl 67 cI cJ ad shX A (ex_X adK adV A) yX4_sheet (Cond.code yX4_sheet cX4_sheet 4 (some .int) :: bigT) rm_X4_sheet [.ref (ad 0), .int x1, .int x2, .int x3] v r v' := by
  unfold f_X4_sheet at hF
  refine jx_enteri bigT RX4 cX4_sheet 4 (some .int) [(0, .ref (ad 0)), (1, .int x1), (2, .int x2), (3, .int x3)] hI (ex_X_ok adK adV A) (by decide +kernel) rfl (Nat.le_of_ble_eq_true rfl) rfl rfl ?_
  intro p e s m args below meth c E
  have iX1 : ∀ w ∈ u_ws RX1 TX1 3, w ∈ (Cond.code yX4_sheet cX4_sheet 4 (some .int) :: bigT) := fun w h => List.mem_cons_of_mem _ (uw_X1 w h)
  have iX4 : ∀ w ∈ u_ws RX4 TX4 11, w ∈ (Cond.code yX4_sheet cX4_sheet 4 (some .int) :: bigT) := fun w h => List.mem_cons_of_mem _ (uw_X4 w h)
  refine jx_iload_n E dX4_sheet_0 1 rfl ?_
  refine jx_iconst (x := 4) E dX4_sheet_1 (by decide) ?_
  obtain ⟨⟨r1, v1⟩, hc1, hF⟩ := jx_bind hF
  try dsimp only at hF
  refine jx_callSi (As := [.int x1, .int 4]) (st := []) E dX4_sheet_2 2 rfl (k_X4_within hI x1 4 v r1 v1 hc1) (gb_S (List.mem_cons_of_mem _ tw_188) (List.mem_cons_of_mem _ tw_189) (List.mem_cons_of_mem _ tw_190) tw_187) rfl rfl rfl dd_X4_within rfl ⟨by decide, by decide⟩ ⟨Nat.le_refl 0, Nat.le_refl 0⟩ (Nat.le_of_ble_eq_true rfl) ?_
  refine jx_if_eq (tgt := 30) E dX4_sheet_5 (by decide) (fun hc2 => ?_) (fun hc2 => ?_)
  · rw [if_pos hc2] at hF
    refine jx_aload_n E dX4_sheet_30 0 rfl ?_
    refine jx_iconst (x := 0) E dX4_sheet_31 (by decide) ?_
    obtain ⟨⟨r3, v3⟩, hc3, hF⟩ := jx_bind hF
    try dsimp only at hF
    refine jx_callVi (As := [.int 0]) (st := []) (h := 0) E dX4_sheet_32 1 rfl (k_X4_finding hI 0 v1 r3 v3 hc3) (gb_V (List.mem_cons_of_mem _ tw_192) (List.mem_cons_of_mem _ tw_193) (List.mem_cons_of_mem _ tw_194) (List.mem_cons_of_mem _ tw_190) tw_191) rfl rfl rfl dd_X4_finding rfl (Nat.le_of_ble_eq_true rfl) s_X0 rfl ⟨by decide, by decide⟩ ⟨Nat.le_refl 0, Nat.le_refl 0⟩ (Nat.le_of_ble_eq_true rfl) ?_
    obtain ⟨rfl, rfl⟩ := jx_out hF
    exact jx_iret E dX4_sheet_35 rfl
  · rw [if_neg hc2] at hF
    refine jx_iload_n E dX4_sheet_8 2 rfl ?_
    refine jx_if_eq (tgt := 36) E dX4_sheet_9 (by decide) (fun hc4 => ?_) (fun hc4 => ?_)
    · rw [if_pos hc4] at hF
      refine jx_iload_n E dX4_sheet_36 3 rfl ?_
      refine jx_if_ge (tgt := 47) E dX4_sheet_37 (by decide) (fun hc5 => ?_) (fun hc5 => ?_)
      · rw [if_pos hc5] at hF
        refine jx_iload_n E dX4_sheet_47 3 rfl ?_
        refine jx_bipush (x := 40) E dX4_sheet_48 (by decide) ?_
        refine jx_icmp_le (tgt := 59) E dX4_sheet_50 (by decide) (fun hc6 => ?_) (fun hc6 => ?_)
        · rw [if_pos hc6] at hF
          refine jx_aload_n E dX4_sheet_59 0 rfl ?_
          refine jx_getr (C := RX4) (T := TX4) (M := 11) (k := 5) E dX4_sheet_60 (Nat.le_of_ble_eq_true rfl) s_X0 rfl iX4 (by decide) rfl (List.mem_cons_of_mem _ tw_293) rfl ?_
          refine jx_iload_n E dX4_sheet_63 1 rfl ?_
          refine jx_iload_n E dX4_sheet_64 2 rfl ?_
          refine jx_iload_n E dX4_sheet_65 3 rfl ?_
          obtain ⟨v7, hc7, hF⟩ := jx_bind hF
          try dsimp only at hF
          refine jx_callNv (As := [.int x1, .int x2, .int x3]) (st := []) (h := 55) E dX4_sheet_66 3 rfl (k_X1_begin hI x1 x2 x3 v1 v7 hc7) (gb_N tw_294) rfl rfl rfl (ex_m39 (jx_ex E)) (List.mem_cons_of_mem _ tw_295) (List.mem_cons_of_mem _ tw_296) (List.mem_cons_of_mem _ tw_297) dd_X1_begin.2 rfl (Nat.le_of_ble_eq_true rfl) s_X55 rfl ⟨by decide, by decide⟩ ⟨Nat.le_refl 0, Nat.le_refl 0⟩ (Nat.le_of_ble_eq_true rfl) ?_
          refine jx_aload_n E dX4_sheet_69 0 rfl ?_
          refine jx_getr (C := RX4) (T := TX4) (M := 11) (k := 5) E dX4_sheet_70 (Nat.le_of_ble_eq_true rfl) s_X0 rfl iX4 (by decide) rfl (List.mem_cons_of_mem _ tw_293) rfl ?_
          refine jx_getrN (C := RX1) (T := TX1) (M := 3) (k := 2) E dX4_sheet_73 (Nat.le_of_ble_eq_true rfl) s_X55 rfl iX1 (by decide) rfl (ex_f18 (jx_ex E)) rfl ?_
          refine jx_iload_n E dX4_sheet_76 1 rfl ?_
          obtain ⟨hg8, hF⟩ := jx_guard hF
          refine jx_iald (h := 62) (j := (Int32.toNatClampNeg x1)) E dX4_sheet_77 (Nat.le_of_ble_eq_true rfl) s_X62 hg8 rfl ?_
          obtain ⟨rfl, rfl⟩ := jx_out hF
          exact jx_iret E dX4_sheet_78 rfl
        · rw [if_neg hc6] at hF
          refine jx_aload_n E dX4_sheet_53 0 rfl ?_
          refine jx_iconst (x := 0) E dX4_sheet_54 (by decide) ?_
          obtain ⟨⟨r9, v9⟩, hc9, hF⟩ := jx_bind hF
          try dsimp only at hF
          refine jx_callVi (As := [.int 0]) (st := []) (h := 0) E dX4_sheet_55 1 rfl (k_X4_finding hI 0 v1 r9 v9 hc9) (gb_V (List.mem_cons_of_mem _ tw_192) (List.mem_cons_of_mem _ tw_193) (List.mem_cons_of_mem _ tw_194) (List.mem_cons_of_mem _ tw_190) tw_191) rfl rfl rfl dd_X4_finding rfl (Nat.le_of_ble_eq_true rfl) s_X0 rfl ⟨by decide, by decide⟩ ⟨Nat.le_refl 0, Nat.le_refl 0⟩ (Nat.le_of_ble_eq_true rfl) ?_
          obtain ⟨rfl, rfl⟩ := jx_out hF
          exact jx_iret E dX4_sheet_58 rfl
      · rw [if_neg hc5] at hF
        refine jx_aload_n E dX4_sheet_40 0 rfl ?_
        refine jx_bipush (x := 6) E dX4_sheet_41 (by decide) ?_
        obtain ⟨⟨r10, v10⟩, hc10, hF⟩ := jx_bind hF
        try dsimp only at hF
        refine jx_callVi (As := [.int 6]) (st := []) (h := 0) E dX4_sheet_43 1 rfl (k_X4_finding hI 6 v1 r10 v10 hc10) (gb_V (List.mem_cons_of_mem _ tw_192) (List.mem_cons_of_mem _ tw_193) (List.mem_cons_of_mem _ tw_194) (List.mem_cons_of_mem _ tw_190) tw_191) rfl rfl rfl dd_X4_finding rfl (Nat.le_of_ble_eq_true rfl) s_X0 rfl ⟨by decide, by decide⟩ ⟨Nat.le_refl 0, Nat.le_refl 0⟩ (Nat.le_of_ble_eq_true rfl) ?_
        obtain ⟨rfl, rfl⟩ := jx_out hF
        exact jx_iret E dX4_sheet_46 rfl
    · rw [if_neg hc4] at hF
      refine jx_iload_n E dX4_sheet_12 2 rfl ?_
      refine jx_bipush (x := 8) E dX4_sheet_13 (by decide) ?_
      refine jx_icmp_eq (tgt := 36) E dX4_sheet_15 (by decide) (fun hc11 => ?_) (fun hc11 => ?_)
      · rw [if_pos hc11] at hF
        refine jx_iload_n E dX4_sheet_36 3 rfl ?_
        refine jx_if_ge (tgt := 47) E dX4_sheet_37 (by decide) (fun hc12 => ?_) (fun hc12 => ?_)
        · rw [if_pos hc12] at hF
          refine jx_iload_n E dX4_sheet_47 3 rfl ?_
          refine jx_bipush (x := 40) E dX4_sheet_48 (by decide) ?_
          refine jx_icmp_le (tgt := 59) E dX4_sheet_50 (by decide) (fun hc13 => ?_) (fun hc13 => ?_)
          · rw [if_pos hc13] at hF
            refine jx_aload_n E dX4_sheet_59 0 rfl ?_
            refine jx_getr (C := RX4) (T := TX4) (M := 11) (k := 5) E dX4_sheet_60 (Nat.le_of_ble_eq_true rfl) s_X0 rfl iX4 (by decide) rfl (List.mem_cons_of_mem _ tw_293) rfl ?_
            refine jx_iload_n E dX4_sheet_63 1 rfl ?_
            refine jx_iload_n E dX4_sheet_64 2 rfl ?_
            refine jx_iload_n E dX4_sheet_65 3 rfl ?_
            obtain ⟨v14, hc14, hF⟩ := jx_bind hF
            try dsimp only at hF
            refine jx_callNv (As := [.int x1, .int x2, .int x3]) (st := []) (h := 55) E dX4_sheet_66 3 rfl (k_X1_begin hI x1 x2 x3 v1 v14 hc14) (gb_N tw_294) rfl rfl rfl (ex_m39 (jx_ex E)) (List.mem_cons_of_mem _ tw_295) (List.mem_cons_of_mem _ tw_296) (List.mem_cons_of_mem _ tw_297) dd_X1_begin.2 rfl (Nat.le_of_ble_eq_true rfl) s_X55 rfl ⟨by decide, by decide⟩ ⟨Nat.le_refl 0, Nat.le_refl 0⟩ (Nat.le_of_ble_eq_true rfl) ?_
            refine jx_aload_n E dX4_sheet_69 0 rfl ?_
            refine jx_getr (C := RX4) (T := TX4) (M := 11) (k := 5) E dX4_sheet_70 (Nat.le_of_ble_eq_true rfl) s_X0 rfl iX4 (by decide) rfl (List.mem_cons_of_mem _ tw_293) rfl ?_
            refine jx_getrN (C := RX1) (T := TX1) (M := 3) (k := 2) E dX4_sheet_73 (Nat.le_of_ble_eq_true rfl) s_X55 rfl iX1 (by decide) rfl (ex_f18 (jx_ex E)) rfl ?_
            refine jx_iload_n E dX4_sheet_76 1 rfl ?_
            obtain ⟨hg15, hF⟩ := jx_guard hF
            refine jx_iald (h := 62) (j := (Int32.toNatClampNeg x1)) E dX4_sheet_77 (Nat.le_of_ble_eq_true rfl) s_X62 hg15 rfl ?_
            obtain ⟨rfl, rfl⟩ := jx_out hF
            exact jx_iret E dX4_sheet_78 rfl
          · rw [if_neg hc13] at hF
            refine jx_aload_n E dX4_sheet_53 0 rfl ?_
            refine jx_iconst (x := 0) E dX4_sheet_54 (by decide) ?_
            obtain ⟨⟨r16, v16⟩, hc16, hF⟩ := jx_bind hF
            try dsimp only at hF
            refine jx_callVi (As := [.int 0]) (st := []) (h := 0) E dX4_sheet_55 1 rfl (k_X4_finding hI 0 v1 r16 v16 hc16) (gb_V (List.mem_cons_of_mem _ tw_192) (List.mem_cons_of_mem _ tw_193) (List.mem_cons_of_mem _ tw_194) (List.mem_cons_of_mem _ tw_190) tw_191) rfl rfl rfl dd_X4_finding rfl (Nat.le_of_ble_eq_true rfl) s_X0 rfl ⟨by decide, by decide⟩ ⟨Nat.le_refl 0, Nat.le_refl 0⟩ (Nat.le_of_ble_eq_true rfl) ?_
            obtain ⟨rfl, rfl⟩ := jx_out hF
            exact jx_iret E dX4_sheet_58 rfl
        · rw [if_neg hc12] at hF
          refine jx_aload_n E dX4_sheet_40 0 rfl ?_
          refine jx_bipush (x := 6) E dX4_sheet_41 (by decide) ?_
          obtain ⟨⟨r17, v17⟩, hc17, hF⟩ := jx_bind hF
          try dsimp only at hF
          refine jx_callVi (As := [.int 6]) (st := []) (h := 0) E dX4_sheet_43 1 rfl (k_X4_finding hI 6 v1 r17 v17 hc17) (gb_V (List.mem_cons_of_mem _ tw_192) (List.mem_cons_of_mem _ tw_193) (List.mem_cons_of_mem _ tw_194) (List.mem_cons_of_mem _ tw_190) tw_191) rfl rfl rfl dd_X4_finding rfl (Nat.le_of_ble_eq_true rfl) s_X0 rfl ⟨by decide, by decide⟩ ⟨Nat.le_refl 0, Nat.le_refl 0⟩ (Nat.le_of_ble_eq_true rfl) ?_
          obtain ⟨rfl, rfl⟩ := jx_out hF
          exact jx_iret E dX4_sheet_46 rfl
      · rw [if_neg hc11] at hF
        refine jx_iload_n E dX4_sheet_18 2 rfl ?_
        refine jx_bipush (x := 16) E dX4_sheet_19 (by decide) ?_
        refine jx_icmp_eq (tgt := 36) E dX4_sheet_21 (by decide) (fun hc18 => ?_) (fun hc18 => ?_)
        · rw [if_pos hc18] at hF
          refine jx_iload_n E dX4_sheet_36 3 rfl ?_
          refine jx_if_ge (tgt := 47) E dX4_sheet_37 (by decide) (fun hc19 => ?_) (fun hc19 => ?_)
          · rw [if_pos hc19] at hF
            refine jx_iload_n E dX4_sheet_47 3 rfl ?_
            refine jx_bipush (x := 40) E dX4_sheet_48 (by decide) ?_
            refine jx_icmp_le (tgt := 59) E dX4_sheet_50 (by decide) (fun hc20 => ?_) (fun hc20 => ?_)
            · rw [if_pos hc20] at hF
              refine jx_aload_n E dX4_sheet_59 0 rfl ?_
              refine jx_getr (C := RX4) (T := TX4) (M := 11) (k := 5) E dX4_sheet_60 (Nat.le_of_ble_eq_true rfl) s_X0 rfl iX4 (by decide) rfl (List.mem_cons_of_mem _ tw_293) rfl ?_
              refine jx_iload_n E dX4_sheet_63 1 rfl ?_
              refine jx_iload_n E dX4_sheet_64 2 rfl ?_
              refine jx_iload_n E dX4_sheet_65 3 rfl ?_
              obtain ⟨v21, hc21, hF⟩ := jx_bind hF
              try dsimp only at hF
              refine jx_callNv (As := [.int x1, .int x2, .int x3]) (st := []) (h := 55) E dX4_sheet_66 3 rfl (k_X1_begin hI x1 x2 x3 v1 v21 hc21) (gb_N tw_294) rfl rfl rfl (ex_m39 (jx_ex E)) (List.mem_cons_of_mem _ tw_295) (List.mem_cons_of_mem _ tw_296) (List.mem_cons_of_mem _ tw_297) dd_X1_begin.2 rfl (Nat.le_of_ble_eq_true rfl) s_X55 rfl ⟨by decide, by decide⟩ ⟨Nat.le_refl 0, Nat.le_refl 0⟩ (Nat.le_of_ble_eq_true rfl) ?_
              refine jx_aload_n E dX4_sheet_69 0 rfl ?_
              refine jx_getr (C := RX4) (T := TX4) (M := 11) (k := 5) E dX4_sheet_70 (Nat.le_of_ble_eq_true rfl) s_X0 rfl iX4 (by decide) rfl (List.mem_cons_of_mem _ tw_293) rfl ?_
              refine jx_getrN (C := RX1) (T := TX1) (M := 3) (k := 2) E dX4_sheet_73 (Nat.le_of_ble_eq_true rfl) s_X55 rfl iX1 (by decide) rfl (ex_f18 (jx_ex E)) rfl ?_
              refine jx_iload_n E dX4_sheet_76 1 rfl ?_
              obtain ⟨hg22, hF⟩ := jx_guard hF
              refine jx_iald (h := 62) (j := (Int32.toNatClampNeg x1)) E dX4_sheet_77 (Nat.le_of_ble_eq_true rfl) s_X62 hg22 rfl ?_
              obtain ⟨rfl, rfl⟩ := jx_out hF
              exact jx_iret E dX4_sheet_78 rfl
            · rw [if_neg hc20] at hF
              refine jx_aload_n E dX4_sheet_53 0 rfl ?_
              refine jx_iconst (x := 0) E dX4_sheet_54 (by decide) ?_
              obtain ⟨⟨r23, v23⟩, hc23, hF⟩ := jx_bind hF
              try dsimp only at hF
              refine jx_callVi (As := [.int 0]) (st := []) (h := 0) E dX4_sheet_55 1 rfl (k_X4_finding hI 0 v1 r23 v23 hc23) (gb_V (List.mem_cons_of_mem _ tw_192) (List.mem_cons_of_mem _ tw_193) (List.mem_cons_of_mem _ tw_194) (List.mem_cons_of_mem _ tw_190) tw_191) rfl rfl rfl dd_X4_finding rfl (Nat.le_of_ble_eq_true rfl) s_X0 rfl ⟨by decide, by decide⟩ ⟨Nat.le_refl 0, Nat.le_refl 0⟩ (Nat.le_of_ble_eq_true rfl) ?_
              obtain ⟨rfl, rfl⟩ := jx_out hF
              exact jx_iret E dX4_sheet_58 rfl
          · rw [if_neg hc19] at hF
            refine jx_aload_n E dX4_sheet_40 0 rfl ?_
            refine jx_bipush (x := 6) E dX4_sheet_41 (by decide) ?_
            obtain ⟨⟨r24, v24⟩, hc24, hF⟩ := jx_bind hF
            try dsimp only at hF
            refine jx_callVi (As := [.int 6]) (st := []) (h := 0) E dX4_sheet_43 1 rfl (k_X4_finding hI 6 v1 r24 v24 hc24) (gb_V (List.mem_cons_of_mem _ tw_192) (List.mem_cons_of_mem _ tw_193) (List.mem_cons_of_mem _ tw_194) (List.mem_cons_of_mem _ tw_190) tw_191) rfl rfl rfl dd_X4_finding rfl (Nat.le_of_ble_eq_true rfl) s_X0 rfl ⟨by decide, by decide⟩ ⟨Nat.le_refl 0, Nat.le_refl 0⟩ (Nat.le_of_ble_eq_true rfl) ?_
            obtain ⟨rfl, rfl⟩ := jx_out hF
            exact jx_iret E dX4_sheet_46 rfl
        · rw [if_neg hc18] at hF
          refine jx_iload_n E dX4_sheet_24 2 rfl ?_
          refine jx_bipush (x := 32) E dX4_sheet_25 (by decide) ?_
          refine jx_icmp_eq (tgt := 36) E dX4_sheet_27 (by decide) (fun hc25 => ?_) (fun hc25 => ?_)
          · rw [if_pos hc25] at hF
            refine jx_iload_n E dX4_sheet_36 3 rfl ?_
            refine jx_if_ge (tgt := 47) E dX4_sheet_37 (by decide) (fun hc26 => ?_) (fun hc26 => ?_)
            · rw [if_pos hc26] at hF
              refine jx_iload_n E dX4_sheet_47 3 rfl ?_
              refine jx_bipush (x := 40) E dX4_sheet_48 (by decide) ?_
              refine jx_icmp_le (tgt := 59) E dX4_sheet_50 (by decide) (fun hc27 => ?_) (fun hc27 => ?_)
              · rw [if_pos hc27] at hF
                refine jx_aload_n E dX4_sheet_59 0 rfl ?_
                refine jx_getr (C := RX4) (T := TX4) (M := 11) (k := 5) E dX4_sheet_60 (Nat.le_of_ble_eq_true rfl) s_X0 rfl iX4 (by decide) rfl (List.mem_cons_of_mem _ tw_293) rfl ?_
                refine jx_iload_n E dX4_sheet_63 1 rfl ?_
                refine jx_iload_n E dX4_sheet_64 2 rfl ?_
                refine jx_iload_n E dX4_sheet_65 3 rfl ?_
                obtain ⟨v28, hc28, hF⟩ := jx_bind hF
                try dsimp only at hF
                refine jx_callNv (As := [.int x1, .int x2, .int x3]) (st := []) (h := 55) E dX4_sheet_66 3 rfl (k_X1_begin hI x1 x2 x3 v1 v28 hc28) (gb_N tw_294) rfl rfl rfl (ex_m39 (jx_ex E)) (List.mem_cons_of_mem _ tw_295) (List.mem_cons_of_mem _ tw_296) (List.mem_cons_of_mem _ tw_297) dd_X1_begin.2 rfl (Nat.le_of_ble_eq_true rfl) s_X55 rfl ⟨by decide, by decide⟩ ⟨Nat.le_refl 0, Nat.le_refl 0⟩ (Nat.le_of_ble_eq_true rfl) ?_
                refine jx_aload_n E dX4_sheet_69 0 rfl ?_
                refine jx_getr (C := RX4) (T := TX4) (M := 11) (k := 5) E dX4_sheet_70 (Nat.le_of_ble_eq_true rfl) s_X0 rfl iX4 (by decide) rfl (List.mem_cons_of_mem _ tw_293) rfl ?_
                refine jx_getrN (C := RX1) (T := TX1) (M := 3) (k := 2) E dX4_sheet_73 (Nat.le_of_ble_eq_true rfl) s_X55 rfl iX1 (by decide) rfl (ex_f18 (jx_ex E)) rfl ?_
                refine jx_iload_n E dX4_sheet_76 1 rfl ?_
                obtain ⟨hg29, hF⟩ := jx_guard hF
                refine jx_iald (h := 62) (j := (Int32.toNatClampNeg x1)) E dX4_sheet_77 (Nat.le_of_ble_eq_true rfl) s_X62 hg29 rfl ?_
                obtain ⟨rfl, rfl⟩ := jx_out hF
                exact jx_iret E dX4_sheet_78 rfl
              · rw [if_neg hc27] at hF
                refine jx_aload_n E dX4_sheet_53 0 rfl ?_
                refine jx_iconst (x := 0) E dX4_sheet_54 (by decide) ?_
                obtain ⟨⟨r30, v30⟩, hc30, hF⟩ := jx_bind hF
                try dsimp only at hF
                refine jx_callVi (As := [.int 0]) (st := []) (h := 0) E dX4_sheet_55 1 rfl (k_X4_finding hI 0 v1 r30 v30 hc30) (gb_V (List.mem_cons_of_mem _ tw_192) (List.mem_cons_of_mem _ tw_193) (List.mem_cons_of_mem _ tw_194) (List.mem_cons_of_mem _ tw_190) tw_191) rfl rfl rfl dd_X4_finding rfl (Nat.le_of_ble_eq_true rfl) s_X0 rfl ⟨by decide, by decide⟩ ⟨Nat.le_refl 0, Nat.le_refl 0⟩ (Nat.le_of_ble_eq_true rfl) ?_
                obtain ⟨rfl, rfl⟩ := jx_out hF
                exact jx_iret E dX4_sheet_58 rfl
            · rw [if_neg hc26] at hF
              refine jx_aload_n E dX4_sheet_40 0 rfl ?_
              refine jx_bipush (x := 6) E dX4_sheet_41 (by decide) ?_
              obtain ⟨⟨r31, v31⟩, hc31, hF⟩ := jx_bind hF
              try dsimp only at hF
              refine jx_callVi (As := [.int 6]) (st := []) (h := 0) E dX4_sheet_43 1 rfl (k_X4_finding hI 6 v1 r31 v31 hc31) (gb_V (List.mem_cons_of_mem _ tw_192) (List.mem_cons_of_mem _ tw_193) (List.mem_cons_of_mem _ tw_194) (List.mem_cons_of_mem _ tw_190) tw_191) rfl rfl rfl dd_X4_finding rfl (Nat.le_of_ble_eq_true rfl) s_X0 rfl ⟨by decide, by decide⟩ ⟨Nat.le_refl 0, Nat.le_refl 0⟩ (Nat.le_of_ble_eq_true rfl) ?_
              obtain ⟨rfl, rfl⟩ := jx_out hF
              exact jx_iret E dX4_sheet_46 rfl
          · rw [if_neg hc25] at hF
            refine jx_aload_n E dX4_sheet_30 0 rfl ?_
            refine jx_iconst (x := 0) E dX4_sheet_31 (by decide) ?_
            obtain ⟨⟨r32, v32⟩, hc32, hF⟩ := jx_bind hF
            try dsimp only at hF
            refine jx_callVi (As := [.int 0]) (st := []) (h := 0) E dX4_sheet_32 1 rfl (k_X4_finding hI 0 v1 r32 v32 hc32) (gb_V (List.mem_cons_of_mem _ tw_192) (List.mem_cons_of_mem _ tw_193) (List.mem_cons_of_mem _ tw_194) (List.mem_cons_of_mem _ tw_190) tw_191) rfl rfl rfl dd_X4_finding rfl (Nat.le_of_ble_eq_true rfl) s_X0 rfl ⟨by decide, by decide⟩ ⟨Nat.le_refl 0, Nat.le_refl 0⟩ (Nat.le_of_ble_eq_true rfl) ?_
            obtain ⟨rfl, rfl⟩ := jx_out hF
            exact jx_iret E dX4_sheet_35 rfl
def f_X4_write (x1 : Int32) (x2 : Int32) (x3 : Int32) (v : jx_V) : Option (Int32 × jx_V) := ((f_X4_within x1 4 v).bind (fun (r1, v1) => (if r1 = 0 then ((f_X4_finding 0 v1).bind (fun (r11, v11) => (some (r11, v11)))) else ((f_X1_isMissing x1 v1).bind (fun (r3, v3) => (if r3 = 0 then (if (x1 < 0 ∨ 4 ≤ Int32.toNatClampNeg x1) then none else ((f_X4_within x2 (v3 62 (Int32.toNatClampNeg x1)) v3).bind (fun (r6, v6) => (if r6 = 0 then ((f_X4_finding 0 v6).bind (fun (r9, v9) => (some (r9, v9)))) else ((f_X1_store x1 x2 x3 v6).bind (fun v8 => (some (1, v8)))))))) else ((f_X4_finding 5 v3).bind (fun (r10, v10) => (some (r10, v10))))))))))
def rm_X4_write : Room := { frames := 1, cells := 0, slots := 0, locals := 23 }
set_option maxHeartbeats 4000000 in
set_option maxRecDepth 100000 in
theorem k_X4_write {l : Launch} {D : va_G} {cI cJ : ClassId} {ad : Nat → Nat} {A : Nat → Prop} {adK adV : Nat → Nat} (hI : jx_inj 67 ad A) (x1 : Int32) (x2 : Int32) (x3 : Int32) (v : jx_V) (r : Int32) (v' : jx_V) (hF : f_X4_write x1 x2 x3 v = some (r, v')) : jx_Ci l D vwCl 67 cI cJ ad shX A (ex_X adK adV A) yX4_write (Cond.code yX4_write cX4_write 4 (some .int) :: bigT) rm_X4_write [.ref (ad 0), .int x1, .int x2, .int x3] v r v' := by
  unfold f_X4_write at hF
  refine jx_enteri bigT RX4 cX4_write 4 (some .int) [(0, .ref (ad 0)), (1, .int x1), (2, .int x2), (3, .int x3)] hI (ex_X_ok adK adV A) (by decide +kernel) rfl (Nat.le_of_ble_eq_true rfl) rfl rfl ?_
  intro p e s m args below meth c E
  have iX1 : ∀ w ∈ u_ws RX1 TX1 3, w ∈ (Cond.code yX4_write cX4_write 4 (some .int) :: bigT) := fun w h => List.mem_cons_of_mem _ (uw_X1 w h)
  have iX4 : ∀ w ∈ u_ws RX4 TX4 11, w ∈ (Cond.code yX4_write cX4_write 4 (some .int) :: bigT) := fun w h => List.mem_cons_of_mem _ (uw_X4 w h)
  refine jx_iload_n E dX4_write_0 1 rfl ?_
  refine jx_iconst (x := 4) E dX4_write_1 (by decide) ?_
  obtain ⟨⟨r1, v1⟩, hc1, hF⟩ := jx_bind hF
  try dsimp only at hF
  refine jx_callSi (As := [.int x1, .int 4]) (st := []) E dX4_write_2 2 rfl (k_X4_within hI x1 4 v r1 v1 hc1) (gb_S (List.mem_cons_of_mem _ tw_188) (List.mem_cons_of_mem _ tw_189) (List.mem_cons_of_mem _ tw_190) tw_187) rfl rfl rfl dd_X4_within rfl ⟨by decide, by decide⟩ ⟨Nat.le_refl 0, Nat.le_refl 0⟩ (Nat.le_of_ble_eq_true rfl) ?_
  refine jx_if_ne (tgt := 14) E dX4_write_5 (by decide) (fun hc2 => ?_) (fun hc2 => ?_)
  · rw [if_neg hc2] at hF
    refine jx_aload_n E dX4_write_14 0 rfl ?_
    refine jx_getr (C := RX4) (T := TX4) (M := 11) (k := 5) E dX4_write_15 (Nat.le_of_ble_eq_true rfl) s_X0 rfl iX4 (by decide) rfl (List.mem_cons_of_mem _ tw_293) rfl ?_
    refine jx_iload_n E dX4_write_18 1 rfl ?_
    obtain ⟨⟨r3, v3⟩, hc3, hF⟩ := jx_bind hF
    try dsimp only at hF
    refine jx_callNi (As := [.int x1]) (st := []) (h := 55) E dX4_write_19 1 rfl (k_X1_isMissing hI x1 v1 r3 v3 hc3) (gb_N tw_298) rfl rfl rfl (ex_m40 (jx_ex E)) (List.mem_cons_of_mem _ tw_295) (List.mem_cons_of_mem _ tw_299) (List.mem_cons_of_mem _ tw_300) dd_X1_isMissing.2 rfl (Nat.le_of_ble_eq_true rfl) s_X55 rfl ⟨by decide, by decide⟩ ⟨Nat.le_refl 0, Nat.le_refl 0⟩ (Nat.le_of_ble_eq_true rfl) ?_
    refine jx_if_eq (tgt := 31) E dX4_write_22 (by decide) (fun hc4 => ?_) (fun hc4 => ?_)
    · rw [if_pos hc4] at hF
      refine jx_iload_n E dX4_write_31 2 rfl ?_
      refine jx_aload_n E dX4_write_32 0 rfl ?_
      refine jx_getr (C := RX4) (T := TX4) (M := 11) (k := 5) E dX4_write_33 (Nat.le_of_ble_eq_true rfl) s_X0 rfl iX4 (by decide) rfl (List.mem_cons_of_mem _ tw_293) rfl ?_
      refine jx_getrN (C := RX1) (T := TX1) (M := 3) (k := 2) E dX4_write_36 (Nat.le_of_ble_eq_true rfl) s_X55 rfl iX1 (by decide) rfl (ex_f18 (jx_ex E)) rfl ?_
      refine jx_iload_n E dX4_write_39 1 rfl ?_
      obtain ⟨hg5, hF⟩ := jx_guard hF
      refine jx_iald (h := 62) (j := (Int32.toNatClampNeg x1)) E dX4_write_40 (Nat.le_of_ble_eq_true rfl) s_X62 hg5 rfl ?_
      obtain ⟨⟨r6, v6⟩, hc6, hF⟩ := jx_bind hF
      try dsimp only at hF
      refine jx_callSi (As := [.int x2, .int (v3 62 (Int32.toNatClampNeg x1))]) (st := []) E dX4_write_41 2 rfl (k_X4_within hI x2 (v3 62 (Int32.toNatClampNeg x1)) v3 r6 v6 hc6) (gb_S (List.mem_cons_of_mem _ tw_188) (List.mem_cons_of_mem _ tw_189) (List.mem_cons_of_mem _ tw_190) tw_187) rfl rfl rfl dd_X4_within rfl ⟨by decide, by decide⟩ ⟨Nat.le_refl 0, Nat.le_refl 0⟩ (Nat.le_of_ble_eq_true rfl) ?_
      refine jx_if_ne (tgt := 53) E dX4_write_44 (by decide) (fun hc7 => ?_) (fun hc7 => ?_)
      · rw [if_neg hc7] at hF
        refine jx_aload_n E dX4_write_53 0 rfl ?_
        refine jx_getr (C := RX4) (T := TX4) (M := 11) (k := 5) E dX4_write_54 (Nat.le_of_ble_eq_true rfl) s_X0 rfl iX4 (by decide) rfl (List.mem_cons_of_mem _ tw_293) rfl ?_
        refine jx_iload_n E dX4_write_57 1 rfl ?_
        refine jx_iload_n E dX4_write_58 2 rfl ?_
        refine jx_iload_n E dX4_write_59 3 rfl ?_
        obtain ⟨v8, hc8, hF⟩ := jx_bind hF
        try dsimp only at hF
        refine jx_callNv (As := [.int x1, .int x2, .int x3]) (st := []) (h := 55) E dX4_write_60 3 rfl (k_X1_store hI x1 x2 x3 v6 v8 hc8) (gb_N tw_301) rfl rfl rfl (ex_m41 (jx_ex E)) (List.mem_cons_of_mem _ tw_295) (List.mem_cons_of_mem _ tw_302) (List.mem_cons_of_mem _ tw_303) dd_X1_store.2 rfl (Nat.le_of_ble_eq_true rfl) s_X55 rfl ⟨by decide, by decide⟩ ⟨Nat.le_refl 0, Nat.le_refl 0⟩ (Nat.le_of_ble_eq_true rfl) ?_
        refine jx_iconst (x := 1) E dX4_write_63 (by decide) ?_
        obtain ⟨rfl, rfl⟩ := jx_out hF
        exact jx_iret E dX4_write_64 rfl
      · rw [if_pos hc7] at hF
        refine jx_aload_n E dX4_write_47 0 rfl ?_
        refine jx_iconst (x := 0) E dX4_write_48 (by decide) ?_
        obtain ⟨⟨r9, v9⟩, hc9, hF⟩ := jx_bind hF
        try dsimp only at hF
        refine jx_callVi (As := [.int 0]) (st := []) (h := 0) E dX4_write_49 1 rfl (k_X4_finding hI 0 v6 r9 v9 hc9) (gb_V (List.mem_cons_of_mem _ tw_192) (List.mem_cons_of_mem _ tw_193) (List.mem_cons_of_mem _ tw_194) (List.mem_cons_of_mem _ tw_190) tw_191) rfl rfl rfl dd_X4_finding rfl (Nat.le_of_ble_eq_true rfl) s_X0 rfl ⟨by decide, by decide⟩ ⟨Nat.le_refl 0, Nat.le_refl 0⟩ (Nat.le_of_ble_eq_true rfl) ?_
        obtain ⟨rfl, rfl⟩ := jx_out hF
        exact jx_iret E dX4_write_52 rfl
    · rw [if_neg hc4] at hF
      refine jx_aload_n E dX4_write_25 0 rfl ?_
      refine jx_iconst (x := 5) E dX4_write_26 (by decide) ?_
      obtain ⟨⟨r10, v10⟩, hc10, hF⟩ := jx_bind hF
      try dsimp only at hF
      refine jx_callVi (As := [.int 5]) (st := []) (h := 0) E dX4_write_27 1 rfl (k_X4_finding hI 5 v3 r10 v10 hc10) (gb_V (List.mem_cons_of_mem _ tw_192) (List.mem_cons_of_mem _ tw_193) (List.mem_cons_of_mem _ tw_194) (List.mem_cons_of_mem _ tw_190) tw_191) rfl rfl rfl dd_X4_finding rfl (Nat.le_of_ble_eq_true rfl) s_X0 rfl ⟨by decide, by decide⟩ ⟨Nat.le_refl 0, Nat.le_refl 0⟩ (Nat.le_of_ble_eq_true rfl) ?_
      obtain ⟨rfl, rfl⟩ := jx_out hF
      exact jx_iret E dX4_write_30 rfl
  · rw [if_pos hc2] at hF
    refine jx_aload_n E dX4_write_8 0 rfl ?_
    refine jx_iconst (x := 0) E dX4_write_9 (by decide) ?_
    obtain ⟨⟨r11, v11⟩, hc11, hF⟩ := jx_bind hF
    try dsimp only at hF
    refine jx_callVi (As := [.int 0]) (st := []) (h := 0) E dX4_write_10 1 rfl (k_X4_finding hI 0 v1 r11 v11 hc11) (gb_V (List.mem_cons_of_mem _ tw_192) (List.mem_cons_of_mem _ tw_193) (List.mem_cons_of_mem _ tw_194) (List.mem_cons_of_mem _ tw_190) tw_191) rfl rfl rfl dd_X4_finding rfl (Nat.le_of_ble_eq_true rfl) s_X0 rfl ⟨by decide, by decide⟩ ⟨Nat.le_refl 0, Nat.le_refl 0⟩ (Nat.le_of_ble_eq_true rfl) ?_
    obtain ⟨rfl, rfl⟩ := jx_out hF
    exact jx_iret E dX4_write_13 rfl
def f_X4_copy (x1 : Int32) (x2 : Int32) (x3 : Int32) (x4 : Int32) (x5 : Int32) (v : jx_V) : Option (Int32 × jx_V) := ((f_X4_within x1 4 v).bind (fun (r1, v1) => (if r1 = 0 then ((f_X4_finding 0 v1).bind (fun (r3, v3) => (some (r3, v3)))) else ((f_X4_within x3 4 v1).bind (fun (r4, v4) => (if r4 = 0 then ((f_X4_finding 0 v4).bind (fun (r25, v25) => (some (r25, v25)))) else ((f_X1_isMissing x1 v4).bind (fun (r6, v6) => (if r6 = 0 then ((f_X1_isMissing x3 v6).bind (fun (r9, v9) => (if r9 = 0 then (if (x1 < 0 ∨ 4 ≤ Int32.toNatClampNeg x1) then none else (if (x3 < 0 ∨ 4 ≤ Int32.toNatClampNeg x3) then none else (if (v9 61 (Int32.toNatClampNeg x1)) = (v9 61 (Int32.toNatClampNeg x3)) then ((f_X1_hasRange x1 x2 x5 v9).bind (fun (r14, v14) => (if r14 = 0 then ((f_X4_finding 0 v14).bind (fun (r16, v16) => (some (r16, v16)))) else ((f_X1_hasRange x3 x4 x5 v14).bind (fun (r17, v17) => (if r17 = 0 then ((f_X4_finding 0 v17).bind (fun (r22, v22) => (some (r22, v22)))) else (if (x1 < 0 ∨ 4 ≤ (x1).toNatClampNeg) then none else (if (x3 < 0 ∨ 4 ≤ (x3).toNatClampNeg) then none else (if ¬ (¬ x2 < 0 ∧ ¬ x4 < 0 ∧ ¬ x5 < 0 ∧ Int32.toNatClampNeg x2 + Int32.toNatClampNeg x5 ≤ 40 ∧ Int32.toNatClampNeg x4 + Int32.toNatClampNeg x5 ≤ 40) then none else (some (x5, (jx_set v17 (57 + (x3).toNatClampNeg) (va_cpy (v17 (57 + (x1).toNatClampNeg)) (v17 (57 + (x3).toNatClampNeg)) (Int32.toNatClampNeg x2) (Int32.toNatClampNeg x4) (Int32.toNatClampNeg x5)))))))))))))) else ((f_X4_finding 2 v9).bind (fun (r23, v23) => (some (r23, v23))))))) else ((f_X4_finding 5 v9).bind (fun (r24, v24) => (some (r24, v24))))))) else ((f_X4_finding 5 v6).bind (fun (r8, v8) => (some (r8, v8)))))))))))))
def rm_X4_copy : Room := { frames := 1, cells := 0, slots := 0, locals := 60 }
set_option maxHeartbeats 4000000 in
set_option maxRecDepth 100000 in
theorem k_X4_copy {l : Launch} {D : va_G} {cI cJ : ClassId} {ad : Nat → Nat} {A : Nat → Prop} {adK adV : Nat → Nat} (hI : jx_inj 67 ad A) (x1 : Int32) (x2 : Int32) (x3 : Int32) (x4 : Int32) (x5 : Int32) (v : jx_V) (r : Int32) (v' : jx_V) (hF : f_X4_copy x1 x2 x3 x4 x5 v = some (r, v')) : jx_Ci l D vwCl 67 cI cJ ad shX A (ex_X adK adV A) yX4_copy (Cond.code yX4_copy cX4_copy 6 (some .int) :: bigT) rm_X4_copy [.ref (ad 0), .int x1, .int x2, .int x3, .int x4, .int x5] v r v' := by
  unfold f_X4_copy at hF
  refine jx_enteri bigT RX4 cX4_copy 6 (some .int) [(0, .ref (ad 0)), (1, .int x1), (2, .int x2), (3, .int x3), (4, .int x4), (5, .int x5)] hI (ex_X_ok adK adV A) (by decide +kernel) rfl (Nat.le_of_ble_eq_true rfl) rfl rfl ?_
  intro p e s m args below meth c E
  have iX1 : ∀ w ∈ u_ws RX1 TX1 3, w ∈ (Cond.code yX4_copy cX4_copy 6 (some .int) :: bigT) := fun w h => List.mem_cons_of_mem _ (uw_X1 w h)
  have iX4 : ∀ w ∈ u_ws RX4 TX4 11, w ∈ (Cond.code yX4_copy cX4_copy 6 (some .int) :: bigT) := fun w h => List.mem_cons_of_mem _ (uw_X4 w h)
  refine jx_iload_n E dX4_copy_0 1 rfl ?_
  refine jx_iconst (x := 4) E dX4_copy_1 (by decide) ?_
  obtain ⟨⟨r1, v1⟩, hc1, hF⟩ := jx_bind hF
  try dsimp only at hF
  refine jx_callSi (As := [.int x1, .int 4]) (st := []) E dX4_copy_2 2 rfl (k_X4_within hI x1 4 v r1 v1 hc1) (gb_S (List.mem_cons_of_mem _ tw_188) (List.mem_cons_of_mem _ tw_189) (List.mem_cons_of_mem _ tw_190) tw_187) rfl rfl rfl dd_X4_within rfl ⟨by decide, by decide⟩ ⟨Nat.le_refl 0, Nat.le_refl 0⟩ (Nat.le_of_ble_eq_true rfl) ?_
  refine jx_if_eq (tgt := 16) E dX4_copy_5 (by decide) (fun hc2 => ?_) (fun hc2 => ?_)
  · rw [if_pos hc2] at hF
    refine jx_aload_n E dX4_copy_16 0 rfl ?_
    refine jx_iconst (x := 0) E dX4_copy_17 (by decide) ?_
    obtain ⟨⟨r3, v3⟩, hc3, hF⟩ := jx_bind hF
    try dsimp only at hF
    refine jx_callVi (As := [.int 0]) (st := []) (h := 0) E dX4_copy_18 1 rfl (k_X4_finding hI 0 v1 r3 v3 hc3) (gb_V (List.mem_cons_of_mem _ tw_192) (List.mem_cons_of_mem _ tw_193) (List.mem_cons_of_mem _ tw_194) (List.mem_cons_of_mem _ tw_190) tw_191) rfl rfl rfl dd_X4_finding rfl (Nat.le_of_ble_eq_true rfl) s_X0 rfl ⟨by decide, by decide⟩ ⟨Nat.le_refl 0, Nat.le_refl 0⟩ (Nat.le_of_ble_eq_true rfl) ?_
    obtain ⟨rfl, rfl⟩ := jx_out hF
    exact jx_iret E dX4_copy_21 rfl
  · rw [if_neg hc2] at hF
    refine jx_iload_n E dX4_copy_8 3 rfl ?_
    refine jx_iconst (x := 4) E dX4_copy_9 (by decide) ?_
    obtain ⟨⟨r4, v4⟩, hc4, hF⟩ := jx_bind hF
    try dsimp only at hF
    refine jx_callSi (As := [.int x3, .int 4]) (st := []) E dX4_copy_10 2 rfl (k_X4_within hI x3 4 v1 r4 v4 hc4) (gb_S (List.mem_cons_of_mem _ tw_188) (List.mem_cons_of_mem _ tw_189) (List.mem_cons_of_mem _ tw_190) tw_187) rfl rfl rfl dd_X4_within rfl ⟨by decide, by decide⟩ ⟨Nat.le_refl 0, Nat.le_refl 0⟩ (Nat.le_of_ble_eq_true rfl) ?_
    refine jx_if_ne (tgt := 22) E dX4_copy_13 (by decide) (fun hc5 => ?_) (fun hc5 => ?_)
    · rw [if_neg hc5] at hF
      refine jx_aload_n E dX4_copy_22 0 rfl ?_
      refine jx_getr (C := RX4) (T := TX4) (M := 11) (k := 5) E dX4_copy_23 (Nat.le_of_ble_eq_true rfl) s_X0 rfl iX4 (by decide) rfl (List.mem_cons_of_mem _ tw_293) rfl ?_
      refine jx_iload_n E dX4_copy_26 1 rfl ?_
      obtain ⟨⟨r6, v6⟩, hc6, hF⟩ := jx_bind hF
      try dsimp only at hF
      refine jx_callNi (As := [.int x1]) (st := []) (h := 55) E dX4_copy_27 1 rfl (k_X1_isMissing hI x1 v4 r6 v6 hc6) (gb_N tw_298) rfl rfl rfl (ex_m40 (jx_ex E)) (List.mem_cons_of_mem _ tw_295) (List.mem_cons_of_mem _ tw_299) (List.mem_cons_of_mem _ tw_300) dd_X1_isMissing.2 rfl (Nat.le_of_ble_eq_true rfl) s_X55 rfl ⟨by decide, by decide⟩ ⟨Nat.le_refl 0, Nat.le_refl 0⟩ (Nat.le_of_ble_eq_true rfl) ?_
      refine jx_if_ne (tgt := 44) E dX4_copy_30 (by decide) (fun hc7 => ?_) (fun hc7 => ?_)
      · rw [if_neg hc7] at hF
        refine jx_aload_n E dX4_copy_44 0 rfl ?_
        refine jx_iconst (x := 5) E dX4_copy_45 (by decide) ?_
        obtain ⟨⟨r8, v8⟩, hc8, hF⟩ := jx_bind hF
        try dsimp only at hF
        refine jx_callVi (As := [.int 5]) (st := []) (h := 0) E dX4_copy_46 1 rfl (k_X4_finding hI 5 v6 r8 v8 hc8) (gb_V (List.mem_cons_of_mem _ tw_192) (List.mem_cons_of_mem _ tw_193) (List.mem_cons_of_mem _ tw_194) (List.mem_cons_of_mem _ tw_190) tw_191) rfl rfl rfl dd_X4_finding rfl (Nat.le_of_ble_eq_true rfl) s_X0 rfl ⟨by decide, by decide⟩ ⟨Nat.le_refl 0, Nat.le_refl 0⟩ (Nat.le_of_ble_eq_true rfl) ?_
        obtain ⟨rfl, rfl⟩ := jx_out hF
        exact jx_iret E dX4_copy_49 rfl
      · rw [if_pos hc7] at hF
        refine jx_aload_n E dX4_copy_33 0 rfl ?_
        refine jx_getr (C := RX4) (T := TX4) (M := 11) (k := 5) E dX4_copy_34 (Nat.le_of_ble_eq_true rfl) s_X0 rfl iX4 (by decide) rfl (List.mem_cons_of_mem _ tw_293) rfl ?_
        refine jx_iload_n E dX4_copy_37 3 rfl ?_
        obtain ⟨⟨r9, v9⟩, hc9, hF⟩ := jx_bind hF
        try dsimp only at hF
        refine jx_callNi (As := [.int x3]) (st := []) (h := 55) E dX4_copy_38 1 rfl (k_X1_isMissing hI x3 v6 r9 v9 hc9) (gb_N tw_298) rfl rfl rfl (ex_m40 (jx_ex E)) (List.mem_cons_of_mem _ tw_295) (List.mem_cons_of_mem _ tw_299) (List.mem_cons_of_mem _ tw_300) dd_X1_isMissing.2 rfl (Nat.le_of_ble_eq_true rfl) s_X55 rfl ⟨by decide, by decide⟩ ⟨Nat.le_refl 0, Nat.le_refl 0⟩ (Nat.le_of_ble_eq_true rfl) ?_
        refine jx_if_eq (tgt := 50) E dX4_copy_41 (by decide) (fun hc10 => ?_) (fun hc10 => ?_)
        · rw [if_pos hc10] at hF
          refine jx_aload_n E dX4_copy_50 0 rfl ?_
          refine jx_getr (C := RX4) (T := TX4) (M := 11) (k := 5) E dX4_copy_51 (Nat.le_of_ble_eq_true rfl) s_X0 rfl iX4 (by decide) rfl (List.mem_cons_of_mem _ tw_293) rfl ?_
          refine jx_getrN (C := RX1) (T := TX1) (M := 3) (k := 1) E dX4_copy_54 (Nat.le_of_ble_eq_true rfl) s_X55 rfl iX1 (by decide) rfl (ex_f17 (jx_ex E)) rfl ?_
          refine jx_iload_n E dX4_copy_57 1 rfl ?_
          obtain ⟨hg11, hF⟩ := jx_guard hF
          refine jx_iald (h := 61) (j := (Int32.toNatClampNeg x1)) E dX4_copy_58 (Nat.le_of_ble_eq_true rfl) s_X61 hg11 rfl ?_
          refine jx_aload_n E dX4_copy_59 0 rfl ?_
          refine jx_getr (C := RX4) (T := TX4) (M := 11) (k := 5) E dX4_copy_60 (Nat.le_of_ble_eq_true rfl) s_X0 rfl iX4 (by decide) rfl (List.mem_cons_of_mem _ tw_293) rfl ?_
          refine jx_getrN (C := RX1) (T := TX1) (M := 3) (k := 1) E dX4_copy_63 (Nat.le_of_ble_eq_true rfl) s_X55 rfl iX1 (by decide) rfl (ex_f17 (jx_ex E)) rfl ?_
          refine jx_iload_n E dX4_copy_66 3 rfl ?_
          obtain ⟨hg12, hF⟩ := jx_guard hF
          refine jx_iald (h := 61) (j := (Int32.toNatClampNeg x3)) E dX4_copy_67 (Nat.le_of_ble_eq_true rfl) s_X61 hg12 rfl ?_
          refine jx_icmp_eq (tgt := 77) E dX4_copy_68 (by decide) (fun hc13 => ?_) (fun hc13 => ?_)
          · rw [if_pos hc13] at hF
            refine jx_aload_n E dX4_copy_77 0 rfl ?_
            refine jx_getr (C := RX4) (T := TX4) (M := 11) (k := 5) E dX4_copy_78 (Nat.le_of_ble_eq_true rfl) s_X0 rfl iX4 (by decide) rfl (List.mem_cons_of_mem _ tw_293) rfl ?_
            refine jx_iload_n E dX4_copy_81 1 rfl ?_
            refine jx_iload_n E dX4_copy_82 2 rfl ?_
            refine jx_iload E dX4_copy_83 5 rfl ?_
            obtain ⟨⟨r14, v14⟩, hc14, hF⟩ := jx_bind hF
            try dsimp only at hF
            refine jx_callNi (As := [.int x1, .int x2, .int x5]) (st := []) (h := 55) E dX4_copy_85 3 rfl (k_X1_hasRange hI x1 x2 x5 v9 r14 v14 hc14) (gb_N tw_304) rfl rfl rfl (ex_m42 (jx_ex E)) (List.mem_cons_of_mem _ tw_295) (List.mem_cons_of_mem _ tw_305) (List.mem_cons_of_mem _ tw_306) dd_X1_hasRange.2 rfl (Nat.le_of_ble_eq_true rfl) s_X55 rfl ⟨by decide, by decide⟩ ⟨Nat.le_refl 0, Nat.le_refl 0⟩ (Nat.le_of_ble_eq_true rfl) ?_
            refine jx_if_eq (tgt := 106) E dX4_copy_88 (by decide) (fun hc15 => ?_) (fun hc15 => ?_)
            · rw [if_pos hc15] at hF
              refine jx_aload_n E dX4_copy_106 0 rfl ?_
              refine jx_iconst (x := 0) E dX4_copy_107 (by decide) ?_
              obtain ⟨⟨r16, v16⟩, hc16, hF⟩ := jx_bind hF
              try dsimp only at hF
              refine jx_callVi (As := [.int 0]) (st := []) (h := 0) E dX4_copy_108 1 rfl (k_X4_finding hI 0 v14 r16 v16 hc16) (gb_V (List.mem_cons_of_mem _ tw_192) (List.mem_cons_of_mem _ tw_193) (List.mem_cons_of_mem _ tw_194) (List.mem_cons_of_mem _ tw_190) tw_191) rfl rfl rfl dd_X4_finding rfl (Nat.le_of_ble_eq_true rfl) s_X0 rfl ⟨by decide, by decide⟩ ⟨Nat.le_refl 0, Nat.le_refl 0⟩ (Nat.le_of_ble_eq_true rfl) ?_
              obtain ⟨rfl, rfl⟩ := jx_out hF
              exact jx_iret E dX4_copy_111 rfl
            · rw [if_neg hc15] at hF
              refine jx_aload_n E dX4_copy_91 0 rfl ?_
              refine jx_getr (C := RX4) (T := TX4) (M := 11) (k := 5) E dX4_copy_92 (Nat.le_of_ble_eq_true rfl) s_X0 rfl iX4 (by decide) rfl (List.mem_cons_of_mem _ tw_293) rfl ?_
              refine jx_iload_n E dX4_copy_95 3 rfl ?_
              refine jx_iload E dX4_copy_96 4 rfl ?_
              refine jx_iload E dX4_copy_98 5 rfl ?_
              obtain ⟨⟨r17, v17⟩, hc17, hF⟩ := jx_bind hF
              try dsimp only at hF
              refine jx_callNi (As := [.int x3, .int x4, .int x5]) (st := []) (h := 55) E dX4_copy_100 3 rfl (k_X1_hasRange hI x3 x4 x5 v14 r17 v17 hc17) (gb_N tw_304) rfl rfl rfl (ex_m42 (jx_ex E)) (List.mem_cons_of_mem _ tw_295) (List.mem_cons_of_mem _ tw_305) (List.mem_cons_of_mem _ tw_306) dd_X1_hasRange.2 rfl (Nat.le_of_ble_eq_true rfl) s_X55 rfl ⟨by decide, by decide⟩ ⟨Nat.le_refl 0, Nat.le_refl 0⟩ (Nat.le_of_ble_eq_true rfl) ?_
              refine jx_if_ne (tgt := 112) E dX4_copy_103 (by decide) (fun hc18 => ?_) (fun hc18 => ?_)
              · rw [if_neg hc18] at hF
                refine jx_aload_n E dX4_copy_112 0 rfl ?_
                refine jx_getr (C := RX4) (T := TX4) (M := 11) (k := 5) E dX4_copy_113 (Nat.le_of_ble_eq_true rfl) s_X0 rfl iX4 (by decide) rfl (List.mem_cons_of_mem _ tw_293) rfl ?_
                refine jx_getrN (C := RX1) (T := TX1) (M := 3) (k := 0) E dX4_copy_116 (Nat.le_of_ble_eq_true rfl) s_X55 rfl iX1 (by decide) rfl (ex_f16 (jx_ex E)) rfl ?_
                refine jx_iload_n E dX4_copy_119 1 rfl ?_
                obtain ⟨hg19, hF⟩ := jx_guard hF
                refine jx_aald (h' := (57 + (x1).toNatClampNeg)) E dX4_copy_120 (Nat.le_of_ble_eq_true rfl) s_X56 hg19 (l_Sr (l_lt hg19)) ?_
                refine jx_iload_n E dX4_copy_121 2 rfl ?_
                refine jx_aload_n E dX4_copy_122 0 rfl ?_
                refine jx_getr (C := RX4) (T := TX4) (M := 11) (k := 5) E dX4_copy_123 (Nat.le_of_ble_eq_true rfl) s_X0 rfl iX4 (by decide) rfl (List.mem_cons_of_mem _ tw_293) rfl ?_
                refine jx_getrN (C := RX1) (T := TX1) (M := 3) (k := 0) E dX4_copy_126 (Nat.le_of_ble_eq_true rfl) s_X55 rfl iX1 (by decide) rfl (ex_f16 (jx_ex E)) rfl ?_
                refine jx_iload_n E dX4_copy_129 3 rfl ?_
                obtain ⟨hg20, hF⟩ := jx_guard hF
                refine jx_aald (h' := (57 + (x3).toNatClampNeg)) E dX4_copy_130 (Nat.le_of_ble_eq_true rfl) s_X56 hg20 (l_Sr (l_lt hg20)) ?_
                refine jx_iload E dX4_copy_131 4 rfl ?_
                refine jx_iload E dX4_copy_133 5 rfl ?_
                obtain ⟨hg21, hF⟩ := jx_guard hF
                have hg21 := Decidable.not_not.mp hg21
                refine jx_copy (h0 := (57 + (x1).toNatClampNeg)) (h1 := (57 + (x3).toNatClampNeg)) (st := []) E dX4_copy_135 (List.mem_cons_of_mem _ tw_307) (List.mem_cons_of_mem _ tw_173) (List.mem_cons_of_mem _ tw_174) (List.mem_cons_of_mem _ tw_175) (n_Sr (l_lt hg19)) (s_Sr (l_lt hg19)) (n_Sr (l_lt hg20)) (s_Sr (l_lt hg20)) hg21.1 hg21.2.1 hg21.2.2.1 hg21.2.2.2.1 hg21.2.2.2.2 (by decide) (by decide) ?_
                refine jx_iload E dX4_copy_138 5 rfl ?_
                obtain ⟨rfl, rfl⟩ := jx_out hF
                exact jx_iret E dX4_copy_140 rfl
              · rw [if_pos hc18] at hF
                refine jx_aload_n E dX4_copy_106 0 rfl ?_
                refine jx_iconst (x := 0) E dX4_copy_107 (by decide) ?_
                obtain ⟨⟨r22, v22⟩, hc22, hF⟩ := jx_bind hF
                try dsimp only at hF
                refine jx_callVi (As := [.int 0]) (st := []) (h := 0) E dX4_copy_108 1 rfl (k_X4_finding hI 0 v17 r22 v22 hc22) (gb_V (List.mem_cons_of_mem _ tw_192) (List.mem_cons_of_mem _ tw_193) (List.mem_cons_of_mem _ tw_194) (List.mem_cons_of_mem _ tw_190) tw_191) rfl rfl rfl dd_X4_finding rfl (Nat.le_of_ble_eq_true rfl) s_X0 rfl ⟨by decide, by decide⟩ ⟨Nat.le_refl 0, Nat.le_refl 0⟩ (Nat.le_of_ble_eq_true rfl) ?_
                obtain ⟨rfl, rfl⟩ := jx_out hF
                exact jx_iret E dX4_copy_111 rfl
          · rw [if_neg hc13] at hF
            refine jx_aload_n E dX4_copy_71 0 rfl ?_
            refine jx_iconst (x := 2) E dX4_copy_72 (by decide) ?_
            obtain ⟨⟨r23, v23⟩, hc23, hF⟩ := jx_bind hF
            try dsimp only at hF
            refine jx_callVi (As := [.int 2]) (st := []) (h := 0) E dX4_copy_73 1 rfl (k_X4_finding hI 2 v9 r23 v23 hc23) (gb_V (List.mem_cons_of_mem _ tw_192) (List.mem_cons_of_mem _ tw_193) (List.mem_cons_of_mem _ tw_194) (List.mem_cons_of_mem _ tw_190) tw_191) rfl rfl rfl dd_X4_finding rfl (Nat.le_of_ble_eq_true rfl) s_X0 rfl ⟨by decide, by decide⟩ ⟨Nat.le_refl 0, Nat.le_refl 0⟩ (Nat.le_of_ble_eq_true rfl) ?_
            obtain ⟨rfl, rfl⟩ := jx_out hF
            exact jx_iret E dX4_copy_76 rfl
        · rw [if_neg hc10] at hF
          refine jx_aload_n E dX4_copy_44 0 rfl ?_
          refine jx_iconst (x := 5) E dX4_copy_45 (by decide) ?_
          obtain ⟨⟨r24, v24⟩, hc24, hF⟩ := jx_bind hF
          try dsimp only at hF
          refine jx_callVi (As := [.int 5]) (st := []) (h := 0) E dX4_copy_46 1 rfl (k_X4_finding hI 5 v9 r24 v24 hc24) (gb_V (List.mem_cons_of_mem _ tw_192) (List.mem_cons_of_mem _ tw_193) (List.mem_cons_of_mem _ tw_194) (List.mem_cons_of_mem _ tw_190) tw_191) rfl rfl rfl dd_X4_finding rfl (Nat.le_of_ble_eq_true rfl) s_X0 rfl ⟨by decide, by decide⟩ ⟨Nat.le_refl 0, Nat.le_refl 0⟩ (Nat.le_of_ble_eq_true rfl) ?_
          obtain ⟨rfl, rfl⟩ := jx_out hF
          exact jx_iret E dX4_copy_49 rfl
    · rw [if_pos hc5] at hF
      refine jx_aload_n E dX4_copy_16 0 rfl ?_
      refine jx_iconst (x := 0) E dX4_copy_17 (by decide) ?_
      obtain ⟨⟨r25, v25⟩, hc25, hF⟩ := jx_bind hF
      try dsimp only at hF
      refine jx_callVi (As := [.int 0]) (st := []) (h := 0) E dX4_copy_18 1 rfl (k_X4_finding hI 0 v4 r25 v25 hc25) (gb_V (List.mem_cons_of_mem _ tw_192) (List.mem_cons_of_mem _ tw_193) (List.mem_cons_of_mem _ tw_194) (List.mem_cons_of_mem _ tw_190) tw_191) rfl rfl rfl dd_X4_finding rfl (Nat.le_of_ble_eq_true rfl) s_X0 rfl ⟨by decide, by decide⟩ ⟨Nat.le_refl 0, Nat.le_refl 0⟩ (Nat.le_of_ble_eq_true rfl) ?_
      obtain ⟨rfl, rfl⟩ := jx_out hF
      exact jx_iret E dX4_copy_21 rfl
def f_X4_load_L  : Nat → Int32 → Int32 → Int32 → Int32 → jx_V → Option (Int32 × jx_V)
  | 0, _, _, _, _, _ => none
  | n + 1, x1, x2, x3, x4, v => (if (x1 < 0 ∨ 4 ≤ Int32.toNatClampNeg x1) then none else (if (v 62 (Int32.toNatClampNeg x1)) ≤ x4 then (some (x3, v)) else (if 25 ≤ (x2 + x4) then (some (x3, v)) else (if (x1 < 0 ∨ 4 ≤ (x1).toNatClampNeg) then none else (if (x4 < 0 ∨ 40 ≤ Int32.toNatClampNeg x4) then none else ((f_X4_within (v (57 + (x1).toNatClampNeg) (Int32.toNatClampNeg x4)) 10 v).bind (fun (r15, v15) => (if r15 = 0 then (some (x3, v15)) else ((f_X3_isTaken 1 (x2 + x4) v15).bind (fun (r17, v17) => (if r17 = 0 then (f_X4_load_L n x1 x2 x3 (x4 + 1) v17) else (if ((x2 + x4) < 0 ∨ 25 ≤ Int32.toNatClampNeg (x2 + x4)) then none else (f_X4_load_L n x1 x2 (x3 + 1) (x4 + 1) (jx_up v17 6 (Int32.toNatClampNeg (x2 + x4)) (v (57 + (x1).toNatClampNeg) (Int32.toNatClampNeg x4))))))))))))))))
def f_X4_load (x1 : Int32) (x2 : Int32) (v : jx_V) : Option (Int32 × jx_V) := ((f_X4_within x1 4 v).bind (fun (r1, v1) => (if r1 = 0 then ((f_X4_finding 0 v1).bind (fun (r9, v9) => (some (r9, v9)))) else ((f_X1_isMissing x1 v1).bind (fun (r3, v3) => (if r3 = 0 then ((f_X4_within x2 25 v3).bind (fun (r5, v5) => (if r5 = 0 then ((f_X4_finding 0 v5).bind (fun (r7, v7) => (some (r7, v7)))) else (f_X4_load_L 100000 x1 x2 0 0 v5)))) else ((f_X4_finding 5 v3).bind (fun (r8, v8) => (some (r8, v8))))))))))
def rm_X4_load : Room := { frames := 1, cells := 0, slots := 0, locals := 21 }
set_option maxHeartbeats 4000000 in
set_option maxRecDepth 100000 in
theorem k_X4_load {l : Launch} {D : va_G} {cI cJ : ClassId} {ad : Nat → Nat} {A : Nat → Prop} {adK adV : Nat → Nat} (hI : jx_inj 67 ad A) (x1 : Int32) (x2 : Int32) (v : jx_V) (r : Int32) (v' : jx_V) (hF : f_X4_load x1 x2 v = some (r, v')) : jx_Ci l D vwCl 67 cI cJ ad shX A (ex_X adK adV A) yX4_load (Cond.code yX4_load cX4_load 6 (some .int) :: bigT) rm_X4_load [.ref (ad 0), .int x1, .int x2] v r v' := by
  unfold f_X4_load at hF
  refine jx_enteri bigT RX4 cX4_load 6 (some .int) [(0, .ref (ad 0)), (1, .int x1), (2, .int x2)] hI (ex_X_ok adK adV A) (by decide +kernel) rfl (Nat.le_of_ble_eq_true rfl) rfl rfl ?_
  intro p e s m args below meth c E
  have iX1 : ∀ w ∈ u_ws RX1 TX1 3, w ∈ (Cond.code yX4_load cX4_load 6 (some .int) :: bigT) := fun w h => List.mem_cons_of_mem _ (uw_X1 w h)
  have iX3 : ∀ w ∈ u_ws RX3 TX3 8, w ∈ (Cond.code yX4_load cX4_load 6 (some .int) :: bigT) := fun w h => List.mem_cons_of_mem _ (uw_X3 w h)
  have iX4 : ∀ w ∈ u_ws RX4 TX4 11, w ∈ (Cond.code yX4_load cX4_load 6 (some .int) :: bigT) := fun w h => List.mem_cons_of_mem _ (uw_X4 w h)
  have key : ∀ n : Nat, (∀ (x1 : Int32) (x2 : Int32) (x3 : Int32) (x4 : Int32) (v : jx_V), f_X4_load_L  n  x1 x2 x3 x4 v = some (r, v') → jx_J p l e rm_X4_load s m args below meth c D vwCl 67 cI cJ ad shX A 0 0 6 (MQ below (va_Qi (fun (r1 : Int32) (_ : Unit) => r1 = r) (fun _ t => va_P D vwCl (jx_ws 67 cI cJ ad shX v') t.heap) A) args s 0 0 A) v 51 [(0, .ref (ad 0)), (1, .int x1), (2, .int x2), (3, .int x3), (4, .int x4)] []) := by
    intro n
    induction n with
    | zero =>
      exact (fun _ _ _ _ _ h => by cases h)
    | succ n ih =>
      intro x1 x2 x3 x4 v hF
      rw [f_X4_load_L] at hF
      refine jx_iload E dX4_load_51 4 rfl ?_
      refine jx_aload_n E dX4_load_53 0 rfl ?_
      refine jx_getr (C := RX4) (T := TX4) (M := 11) (k := 5) E dX4_load_54 (Nat.le_of_ble_eq_true rfl) s_X0 rfl iX4 (by decide) rfl (List.mem_cons_of_mem _ tw_293) rfl ?_
      refine jx_getrN (C := RX1) (T := TX1) (M := 3) (k := 2) E dX4_load_57 (Nat.le_of_ble_eq_true rfl) s_X55 rfl iX1 (by decide) rfl (ex_f18 (jx_ex E)) rfl ?_
      refine jx_iload_n E dX4_load_60 1 rfl ?_
      obtain ⟨hg10, hF⟩ := jx_guard hF
      refine jx_iald (h := 62) (j := (Int32.toNatClampNeg x1)) E dX4_load_61 (Nat.le_of_ble_eq_true rfl) s_X62 hg10 rfl ?_
      refine jx_icmp_ge (tgt := 140) E dX4_load_62 (by decide) (fun hc11 => ?_) (fun hc11 => ?_)
      · rw [if_pos hc11] at hF
        refine jx_iload_n E dX4_load_140 3 rfl ?_
        obtain ⟨rfl, rfl⟩ := jx_out hF
        exact jx_iret E dX4_load_141 rfl
      · rw [if_neg hc11] at hF
        refine jx_iload_n E dX4_load_65 2 rfl ?_
        refine jx_iload E dX4_load_66 4 rfl ?_
        refine jx_iadd E dX4_load_68 ?_
        refine jx_bipush (x := 25) E dX4_load_69 (by decide) ?_
        refine jx_icmp_ge (tgt := 140) E dX4_load_71 (by decide) (fun hc12 => ?_) (fun hc12 => ?_)
        · rw [if_pos hc12] at hF
          refine jx_iload_n E dX4_load_140 3 rfl ?_
          obtain ⟨rfl, rfl⟩ := jx_out hF
          exact jx_iret E dX4_load_141 rfl
        · rw [if_neg hc12] at hF
          refine jx_aload_n E dX4_load_74 0 rfl ?_
          refine jx_getr (C := RX4) (T := TX4) (M := 11) (k := 5) E dX4_load_75 (Nat.le_of_ble_eq_true rfl) s_X0 rfl iX4 (by decide) rfl (List.mem_cons_of_mem _ tw_293) rfl ?_
          refine jx_getrN (C := RX1) (T := TX1) (M := 3) (k := 0) E dX4_load_78 (Nat.le_of_ble_eq_true rfl) s_X55 rfl iX1 (by decide) rfl (ex_f16 (jx_ex E)) rfl ?_
          refine jx_iload_n E dX4_load_81 1 rfl ?_
          obtain ⟨hg13, hF⟩ := jx_guard hF
          refine jx_aald (h' := (57 + (x1).toNatClampNeg)) E dX4_load_82 (Nat.le_of_ble_eq_true rfl) s_X56 hg13 (l_Sr (l_lt hg13)) ?_
          refine jx_iload E dX4_load_83 4 rfl ?_
          obtain ⟨hg14, hF⟩ := jx_guard hF
          refine jx_iald (h := (57 + (x1).toNatClampNeg)) (j := (Int32.toNatClampNeg x4)) E dX4_load_85 (n_Sr (l_lt hg13)) (s_Sr (l_lt hg13)) hg14 rfl ?_
          refine jx_istore (lv' := [(5, .int (v (57 + (x1).toNatClampNeg) (Int32.toNatClampNeg x4))), (0, .ref (ad 0)), (1, .int x1), (2, .int x2), (3, .int x3), (4, .int x4)]) E dX4_load_86 (by decide) rfl ?_
          refine jx_iload E dX4_load_88 0 rfl ?_
          refine jx_bipush (x := 10) E dX4_load_90 (by decide) ?_
          obtain ⟨⟨r15, v15⟩, hc15, hF⟩ := jx_bind hF
          try dsimp only at hF
          refine jx_callSi (As := [.int (v (57 + (x1).toNatClampNeg) (Int32.toNatClampNeg x4)), .int 10]) (st := []) E dX4_load_92 2 rfl (k_X4_within hI (v (57 + (x1).toNatClampNeg) (Int32.toNatClampNeg x4)) 10 v r15 v15 hc15) (gb_S (List.mem_cons_of_mem _ tw_188) (List.mem_cons_of_mem _ tw_189) (List.mem_cons_of_mem _ tw_190) tw_187) rfl rfl rfl dd_X4_within rfl ⟨by decide, by decide⟩ ⟨Nat.le_refl 0, Nat.le_refl 0⟩ (Nat.le_of_ble_eq_true rfl) ?_
          refine jx_if_ne (tgt := 101) E dX4_load_95 (by decide) (fun hc16 => ?_) (fun hc16 => ?_)
          · rw [if_neg hc16] at hF
            refine jx_aload_n E dX4_load_101 1 rfl ?_
            refine jx_getr (C := RX4) (T := TX4) (M := 11) (k := 0) E dX4_load_102 (Nat.le_of_ble_eq_true rfl) s_X0 rfl iX4 (by decide) rfl (List.mem_cons_of_mem _ tw_195) rfl ?_
            refine jx_iload_n E dX4_load_105 3 rfl ?_
            refine jx_iload E dX4_load_106 5 rfl ?_
            refine jx_iadd E dX4_load_108 ?_
            obtain ⟨⟨r17, v17⟩, hc17, hF⟩ := jx_bind hF
            try dsimp only at hF
            refine jx_callNi (As := [.int (x2 + x4)]) (st := []) (h := 1) E dX4_load_109 1 rfl (k_X3_isTaken hI 1 jx_T1 (x2 + x4) v15 r17 v17 hc17) (gb_N tw_51) rfl rfl rfl (ex_m4 (jx_ex E)) (List.mem_cons_of_mem _ tw_33) (List.mem_cons_of_mem _ tw_52) (List.mem_cons_of_mem _ tw_53) dd_X3_isTaken.2 rfl (Nat.le_of_ble_eq_true rfl) s_X1 rfl ⟨by decide, by decide⟩ ⟨Nat.le_refl 0, Nat.le_refl 0⟩ (Nat.le_of_ble_eq_true rfl) ?_
            refine jx_if_eq (tgt := 134) E dX4_load_112 (by decide) (fun hc18 => ?_) (fun hc18 => ?_)
            · rw [if_pos hc18] at hF
              refine jx_iinc (y := (x4 + 1)) (lv' := [(4, .int (x4 + 1)), (5, .int (v (57 + (x1).toNatClampNeg) (Int32.toNatClampNeg x4))), (0, .ref (ad 0)), (1, .int x1), (2, .int x2), (3, .int x3)]) E dX4_load_134 5 rfl rfl (by decide) rfl ?_
              refine jx_goto (tgt := 51) E dX4_load_137 (by decide) ?_
              refine jx_sub [2, 3, 4, 5, 0] rfl ?_
              exact ih x1 x2 x3 (x4 + 1) v17 hF
            · rw [if_neg hc18] at hF
              refine jx_aload_n E dX4_load_115 1 rfl ?_
              refine jx_getr (C := RX4) (T := TX4) (M := 11) (k := 0) E dX4_load_116 (Nat.le_of_ble_eq_true rfl) s_X0 rfl iX4 (by decide) rfl (List.mem_cons_of_mem _ tw_195) rfl ?_
              refine jx_getrN (C := RX3) (T := TX3) (M := 8) (k := 0) E dX4_load_119 (Nat.le_of_ble_eq_true rfl) s_X1 rfl iX3 (by decide) rfl (ex_f0 (jx_ex E)) rfl ?_
              refine jx_iconst (x := 2) E dX4_load_122 (by decide) ?_
              refine jx_aald (h' := 6) E dX4_load_123 (Nat.le_of_ble_eq_true rfl) s_X2 (show ¬ ((2 : Int32) < 0 ∨ 4 ≤ Int32.toNatClampNeg 2) by decide) rfl ?_
              refine jx_iload_n E dX4_load_124 3 rfl ?_
              refine jx_iload E dX4_load_125 5 rfl ?_
              refine jx_iadd E dX4_load_127 ?_
              refine jx_iload E dX4_load_128 0 rfl ?_
              obtain ⟨hg19, hF⟩ := jx_guard hF
              refine jx_iast (h := 6) (j := (Int32.toNatClampNeg (x2 + x4))) E dX4_load_130 (Nat.le_of_ble_eq_true rfl) s_X6 hg19 rfl ?_
              refine jx_iinc (y := (x3 + 1)) (lv' := [(3, .int (x3 + 1)), (5, .int (v (57 + (x1).toNatClampNeg) (Int32.toNatClampNeg x4))), (0, .ref (ad 0)), (1, .int x1), (2, .int x2), (4, .int x4)]) E dX4_load_131 4 rfl rfl (by decide) rfl ?_
              refine jx_iinc (y := (x4 + 1)) (lv' := [(4, .int (x4 + 1)), (3, .int (x3 + 1)), (5, .int (v (57 + (x1).toNatClampNeg) (Int32.toNatClampNeg x4))), (0, .ref (ad 0)), (1, .int x1), (2, .int x2)]) E dX4_load_134 5 rfl rfl (by decide) rfl ?_
              refine jx_goto (tgt := 51) E dX4_load_137 (by decide) ?_
              refine jx_sub [3, 4, 5, 1, 0] rfl ?_
              exact ih x1 x2 (x3 + 1) (x4 + 1) (jx_up v17 6 (Int32.toNatClampNeg (x2 + x4)) (v (57 + (x1).toNatClampNeg) (Int32.toNatClampNeg x4))) hF
          · rw [if_pos hc16] at hF
            refine jx_goto (tgt := 140) E dX4_load_98 (by decide) ?_
            refine jx_iload_n E dX4_load_140 4 rfl ?_
            obtain ⟨rfl, rfl⟩ := jx_out hF
            exact jx_iret E dX4_load_141 rfl
  refine jx_iload_n E dX4_load_0 1 rfl ?_
  refine jx_iconst (x := 4) E dX4_load_1 (by decide) ?_
  obtain ⟨⟨r1, v1⟩, hc1, hF⟩ := jx_bind hF
  try dsimp only at hF
  refine jx_callSi (As := [.int x1, .int 4]) (st := []) E dX4_load_2 2 rfl (k_X4_within hI x1 4 v r1 v1 hc1) (gb_S (List.mem_cons_of_mem _ tw_188) (List.mem_cons_of_mem _ tw_189) (List.mem_cons_of_mem _ tw_190) tw_187) rfl rfl rfl dd_X4_within rfl ⟨by decide, by decide⟩ ⟨Nat.le_refl 0, Nat.le_refl 0⟩ (Nat.le_of_ble_eq_true rfl) ?_
  refine jx_if_ne (tgt := 14) E dX4_load_5 (by decide) (fun hc2 => ?_) (fun hc2 => ?_)
  · rw [if_neg hc2] at hF
    refine jx_aload_n E dX4_load_14 0 rfl ?_
    refine jx_getr (C := RX4) (T := TX4) (M := 11) (k := 5) E dX4_load_15 (Nat.le_of_ble_eq_true rfl) s_X0 rfl iX4 (by decide) rfl (List.mem_cons_of_mem _ tw_293) rfl ?_
    refine jx_iload_n E dX4_load_18 1 rfl ?_
    obtain ⟨⟨r3, v3⟩, hc3, hF⟩ := jx_bind hF
    try dsimp only at hF
    refine jx_callNi (As := [.int x1]) (st := []) (h := 55) E dX4_load_19 1 rfl (k_X1_isMissing hI x1 v1 r3 v3 hc3) (gb_N tw_298) rfl rfl rfl (ex_m40 (jx_ex E)) (List.mem_cons_of_mem _ tw_295) (List.mem_cons_of_mem _ tw_299) (List.mem_cons_of_mem _ tw_300) dd_X1_isMissing.2 rfl (Nat.le_of_ble_eq_true rfl) s_X55 rfl ⟨by decide, by decide⟩ ⟨Nat.le_refl 0, Nat.le_refl 0⟩ (Nat.le_of_ble_eq_true rfl) ?_
    refine jx_if_eq (tgt := 31) E dX4_load_22 (by decide) (fun hc4 => ?_) (fun hc4 => ?_)
    · rw [if_pos hc4] at hF
      refine jx_iload_n E dX4_load_31 2 rfl ?_
      refine jx_bipush (x := 25) E dX4_load_32 (by decide) ?_
      obtain ⟨⟨r5, v5⟩, hc5, hF⟩ := jx_bind hF
      try dsimp only at hF
      refine jx_callSi (As := [.int x2, .int 25]) (st := []) E dX4_load_34 2 rfl (k_X4_within hI x2 25 v3 r5 v5 hc5) (gb_S (List.mem_cons_of_mem _ tw_188) (List.mem_cons_of_mem _ tw_189) (List.mem_cons_of_mem _ tw_190) tw_187) rfl rfl rfl dd_X4_within rfl ⟨by decide, by decide⟩ ⟨Nat.le_refl 0, Nat.le_refl 0⟩ (Nat.le_of_ble_eq_true rfl) ?_
      refine jx_if_ne (tgt := 46) E dX4_load_37 (by decide) (fun hc6 => ?_) (fun hc6 => ?_)
      · rw [if_neg hc6] at hF
        refine jx_iconst (x := 0) E dX4_load_46 (by decide) ?_
        refine jx_istore_n (lv' := [(3, .int 0), (0, .ref (ad 0)), (1, .int x1), (2, .int x2)]) E dX4_load_47 (by decide) rfl ?_
        refine jx_iconst (x := 0) E dX4_load_48 (by decide) ?_
        refine jx_istore (lv' := [(4, .int 0), (3, .int 0), (0, .ref (ad 0)), (1, .int x1), (2, .int x2)]) E dX4_load_49 (by decide) rfl ?_
        refine jx_sub [2, 3, 4, 1, 0] rfl ?_
        exact (key 100000) x1 x2 0 0 v5 hF
      · rw [if_pos hc6] at hF
        refine jx_aload_n E dX4_load_40 0 rfl ?_
        refine jx_iconst (x := 0) E dX4_load_41 (by decide) ?_
        obtain ⟨⟨r7, v7⟩, hc7, hF⟩ := jx_bind hF
        try dsimp only at hF
        refine jx_callVi (As := [.int 0]) (st := []) (h := 0) E dX4_load_42 1 rfl (k_X4_finding hI 0 v5 r7 v7 hc7) (gb_V (List.mem_cons_of_mem _ tw_192) (List.mem_cons_of_mem _ tw_193) (List.mem_cons_of_mem _ tw_194) (List.mem_cons_of_mem _ tw_190) tw_191) rfl rfl rfl dd_X4_finding rfl (Nat.le_of_ble_eq_true rfl) s_X0 rfl ⟨by decide, by decide⟩ ⟨Nat.le_refl 0, Nat.le_refl 0⟩ (Nat.le_of_ble_eq_true rfl) ?_
        obtain ⟨rfl, rfl⟩ := jx_out hF
        exact jx_iret E dX4_load_45 rfl
    · rw [if_neg hc4] at hF
      refine jx_aload_n E dX4_load_25 0 rfl ?_
      refine jx_iconst (x := 5) E dX4_load_26 (by decide) ?_
      obtain ⟨⟨r8, v8⟩, hc8, hF⟩ := jx_bind hF
      try dsimp only at hF
      refine jx_callVi (As := [.int 5]) (st := []) (h := 0) E dX4_load_27 1 rfl (k_X4_finding hI 5 v3 r8 v8 hc8) (gb_V (List.mem_cons_of_mem _ tw_192) (List.mem_cons_of_mem _ tw_193) (List.mem_cons_of_mem _ tw_194) (List.mem_cons_of_mem _ tw_190) tw_191) rfl rfl rfl dd_X4_finding rfl (Nat.le_of_ble_eq_true rfl) s_X0 rfl ⟨by decide, by decide⟩ ⟨Nat.le_refl 0, Nat.le_refl 0⟩ (Nat.le_of_ble_eq_true rfl) ?_
      obtain ⟨rfl, rfl⟩ := jx_out hF
      exact jx_iret E dX4_load_30 rfl
  · rw [if_pos hc2] at hF
    refine jx_aload_n E dX4_load_8 0 rfl ?_
    refine jx_iconst (x := 0) E dX4_load_9 (by decide) ?_
    obtain ⟨⟨r9, v9⟩, hc9, hF⟩ := jx_bind hF
    try dsimp only at hF
    refine jx_callVi (As := [.int 0]) (st := []) (h := 0) E dX4_load_10 1 rfl (k_X4_finding hI 0 v1 r9 v9 hc9) (gb_V (List.mem_cons_of_mem _ tw_192) (List.mem_cons_of_mem _ tw_193) (List.mem_cons_of_mem _ tw_194) (List.mem_cons_of_mem _ tw_190) tw_191) rfl rfl rfl dd_X4_finding rfl (Nat.le_of_ble_eq_true rfl) s_X0 rfl ⟨by decide, by decide⟩ ⟨Nat.le_refl 0, Nat.le_refl 0⟩ (Nat.le_of_ble_eq_true rfl) ?_
    obtain ⟨rfl, rfl⟩ := jx_out hF
    exact jx_iret E dX4_load_13 rfl
def f_X4_judge_L  : Nat → Int32 → Int32 → Int32 → jx_V → Option (Int32 × jx_V)
  | 0, _, _, _, _ => none
  | n + 1, x1, x2, x3, v => (if (x1 < 0 ∨ 4 ≤ Int32.toNatClampNeg x1) then none else (if (v 62 (Int32.toNatClampNeg x1)) ≤ x3 then (if x3 = 4 then (if (x1 < 0 ∨ 4 ≤ Int32.toNatClampNeg x1) then none else (if (v 62 (Int32.toNatClampNeg x1)) = 4 then (some (0, v)) else (some ((1 + x3), v)))) else (some ((1 + x3), v))) else (if 4 ≤ x3 then (if x3 = 4 then (if (x1 < 0 ∨ 4 ≤ Int32.toNatClampNeg x1) then none else (if (v 62 (Int32.toNatClampNeg x1)) = 4 then (some (0, v)) else (some ((1 + x3), v)))) else (some ((1 + x3), v))) else (if (x1 < 0 ∨ 4 ≤ (x1).toNatClampNeg) then none else (if (x3 < 0 ∨ 40 ≤ Int32.toNatClampNeg x3) then none else ((f_X0_squareSet (x3 + 1) v).bind (fun (r22, v22) => (if (v (57 + (x1).toNatClampNeg) (Int32.toNatClampNeg x3)) = r22 then (f_X4_judge_L n x1 x2 (x3 + 1) v22) else (if x3 = 4 then (if (x1 < 0 ∨ 4 ≤ Int32.toNatClampNeg x1) then none else (if (v22 62 (Int32.toNatClampNeg x1)) = 4 then (some (0, v22)) else (some ((1 + x3), v22)))) else (some ((1 + x3), v22)))))))))))
def f_X4_judge (x1 : Int32) (x2 : Int32) (v : jx_V) : Option (Int32 × jx_V) := ((f_X4_within x1 4 v).bind (fun (r1, v1) => (if r1 = 0 then ((f_X4_finding 0 v1).bind (fun (r10, v10) => (some (r10, v10)))) else ((f_X1_isMissing x1 v1).bind (fun (r3, v3) => (if r3 = 0 then ((f_X4_isWindow x2 v3).bind (fun (r5, v5) => (if r5 = 0 then ((f_X4_finding 0 v5).bind (fun (r8, v8) => (some (r8, v8)))) else ((f_X0_look 1 x2 v5).bind (fun v7 => (f_X4_judge_L 100000 x1 x2 0 v7)))))) else ((f_X4_finding 5 v3).bind (fun (r9, v9) => (some (r9, v9))))))))))
def rm_X4_judge : Room := { frames := 3, cells := 0, slots := 0, locals := 73 }
set_option maxHeartbeats 4000000 in
set_option maxRecDepth 100000 in
theorem k_X4_judge {l : Launch} {D : va_G} {cI cJ : ClassId} {ad : Nat → Nat} {A : Nat → Prop} {adK adV : Nat → Nat} (hI : jx_inj 67 ad A) (x1 : Int32) (x2 : Int32) (v : jx_V) (r : Int32) (v' : jx_V) (hF : f_X4_judge x1 x2 v = some (r, v')) : jx_Ci l D vwCl 67 cI cJ ad shX A (ex_X adK adV A) yX4_judge (Cond.code yX4_judge cX4_judge 4 (some .int) :: bigT) rm_X4_judge [.ref (ad 0), .int x1, .int x2] v r v' := by
  unfold f_X4_judge at hF
  refine jx_enteri bigT RX4 cX4_judge 4 (some .int) [(0, .ref (ad 0)), (1, .int x1), (2, .int x2)] hI (ex_X_ok adK adV A) (by decide +kernel) rfl (Nat.le_of_ble_eq_true rfl) rfl rfl ?_
  intro p e s m args below meth c E
  have iX1 : ∀ w ∈ u_ws RX1 TX1 3, w ∈ (Cond.code yX4_judge cX4_judge 4 (some .int) :: bigT) := fun w h => List.mem_cons_of_mem _ (uw_X1 w h)
  have iX4 : ∀ w ∈ u_ws RX4 TX4 11, w ∈ (Cond.code yX4_judge cX4_judge 4 (some .int) :: bigT) := fun w h => List.mem_cons_of_mem _ (uw_X4 w h)
  have key : ∀ n : Nat, (∀ (x1 : Int32) (x2 : Int32) (x3 : Int32) (v : jx_V), f_X4_judge_L  n  x1 x2 x3 v = some (r, v') → jx_J p l e rm_X4_judge s m args below meth c D vwCl 67 cI cJ ad shX A 0 0 4 (MQ below (va_Qi (fun (r1 : Int32) (_ : Unit) => r1 = r) (fun _ t => va_P D vwCl (jx_ws 67 cI cJ ad shX v') t.heap) A) args s 0 0 A) v 59 [(0, .ref (ad 0)), (1, .int x1), (2, .int x2), (3, .int x3)] []) := by
    intro n
    induction n with
    | zero =>
      exact (fun _ _ _ _ h => by cases h)
    | succ n ih =>
      intro x1 x2 x3 v hF
      rw [f_X4_judge_L] at hF
      refine jx_iload_n E dX4_judge_59 3 rfl ?_
      refine jx_aload_n E dX4_judge_60 0 rfl ?_
      refine jx_getr (C := RX4) (T := TX4) (M := 11) (k := 5) E dX4_judge_61 (Nat.le_of_ble_eq_true rfl) s_X0 rfl iX4 (by decide) rfl (List.mem_cons_of_mem _ tw_293) rfl ?_
      refine jx_getrN (C := RX1) (T := TX1) (M := 3) (k := 2) E dX4_judge_64 (Nat.le_of_ble_eq_true rfl) s_X55 rfl iX1 (by decide) rfl (ex_f18 (jx_ex E)) rfl ?_
      refine jx_iload_n E dX4_judge_67 1 rfl ?_
      obtain ⟨hg11, hF⟩ := jx_guard hF
      refine jx_iald (h := 62) (j := (Int32.toNatClampNeg x1)) E dX4_judge_68 (Nat.le_of_ble_eq_true rfl) s_X62 hg11 rfl ?_
      refine jx_icmp_ge (tgt := 107) E dX4_judge_69 (by decide) (fun hc12 => ?_) (fun hc12 => ?_)
      · rw [if_pos hc12] at hF
        refine jx_iload_n E dX4_judge_107 3 rfl ?_
        refine jx_iconst (x := 4) E dX4_judge_108 (by decide) ?_
        refine jx_icmp_ne (tgt := 129) E dX4_judge_109 (by decide) (fun hc13 => ?_) (fun hc13 => ?_)
        · rw [if_neg hc13] at hF
          refine jx_iconst (x := 1) E dX4_judge_129 (by decide) ?_
          refine jx_iload_n E dX4_judge_130 3 rfl ?_
          refine jx_iadd E dX4_judge_131 ?_
          obtain ⟨rfl, rfl⟩ := jx_out hF
          exact jx_iret E dX4_judge_132 rfl
        · rw [if_pos hc13] at hF
          refine jx_aload_n E dX4_judge_112 0 rfl ?_
          refine jx_getr (C := RX4) (T := TX4) (M := 11) (k := 5) E dX4_judge_113 (Nat.le_of_ble_eq_true rfl) s_X0 rfl iX4 (by decide) rfl (List.mem_cons_of_mem _ tw_293) rfl ?_
          refine jx_getrN (C := RX1) (T := TX1) (M := 3) (k := 2) E dX4_judge_116 (Nat.le_of_ble_eq_true rfl) s_X55 rfl iX1 (by decide) rfl (ex_f18 (jx_ex E)) rfl ?_
          refine jx_iload_n E dX4_judge_119 1 rfl ?_
          obtain ⟨hg14, hF⟩ := jx_guard hF
          refine jx_iald (h := 62) (j := (Int32.toNatClampNeg x1)) E dX4_judge_120 (Nat.le_of_ble_eq_true rfl) s_X62 hg14 rfl ?_
          refine jx_iconst (x := 4) E dX4_judge_121 (by decide) ?_
          refine jx_icmp_ne (tgt := 129) E dX4_judge_122 (by decide) (fun hc15 => ?_) (fun hc15 => ?_)
          · rw [if_neg hc15] at hF
            refine jx_iconst (x := 1) E dX4_judge_129 (by decide) ?_
            refine jx_iload_n E dX4_judge_130 3 rfl ?_
            refine jx_iadd E dX4_judge_131 ?_
            obtain ⟨rfl, rfl⟩ := jx_out hF
            exact jx_iret E dX4_judge_132 rfl
          · rw [if_pos hc15] at hF
            refine jx_iconst (x := 0) E dX4_judge_125 (by decide) ?_
            refine jx_goto (tgt := 132) E dX4_judge_126 (by decide) ?_
            obtain ⟨rfl, rfl⟩ := jx_out hF
            exact jx_iret E dX4_judge_132 rfl
      · rw [if_neg hc12] at hF
        refine jx_iload_n E dX4_judge_72 3 rfl ?_
        refine jx_iconst (x := 4) E dX4_judge_73 (by decide) ?_
        refine jx_icmp_ge (tgt := 107) E dX4_judge_74 (by decide) (fun hc16 => ?_) (fun hc16 => ?_)
        · rw [if_pos hc16] at hF
          refine jx_iload_n E dX4_judge_107 3 rfl ?_
          refine jx_iconst (x := 4) E dX4_judge_108 (by decide) ?_
          refine jx_icmp_ne (tgt := 129) E dX4_judge_109 (by decide) (fun hc17 => ?_) (fun hc17 => ?_)
          · rw [if_neg hc17] at hF
            refine jx_iconst (x := 1) E dX4_judge_129 (by decide) ?_
            refine jx_iload_n E dX4_judge_130 3 rfl ?_
            refine jx_iadd E dX4_judge_131 ?_
            obtain ⟨rfl, rfl⟩ := jx_out hF
            exact jx_iret E dX4_judge_132 rfl
          · rw [if_pos hc17] at hF
            refine jx_aload_n E dX4_judge_112 0 rfl ?_
            refine jx_getr (C := RX4) (T := TX4) (M := 11) (k := 5) E dX4_judge_113 (Nat.le_of_ble_eq_true rfl) s_X0 rfl iX4 (by decide) rfl (List.mem_cons_of_mem _ tw_293) rfl ?_
            refine jx_getrN (C := RX1) (T := TX1) (M := 3) (k := 2) E dX4_judge_116 (Nat.le_of_ble_eq_true rfl) s_X55 rfl iX1 (by decide) rfl (ex_f18 (jx_ex E)) rfl ?_
            refine jx_iload_n E dX4_judge_119 1 rfl ?_
            obtain ⟨hg18, hF⟩ := jx_guard hF
            refine jx_iald (h := 62) (j := (Int32.toNatClampNeg x1)) E dX4_judge_120 (Nat.le_of_ble_eq_true rfl) s_X62 hg18 rfl ?_
            refine jx_iconst (x := 4) E dX4_judge_121 (by decide) ?_
            refine jx_icmp_ne (tgt := 129) E dX4_judge_122 (by decide) (fun hc19 => ?_) (fun hc19 => ?_)
            · rw [if_neg hc19] at hF
              refine jx_iconst (x := 1) E dX4_judge_129 (by decide) ?_
              refine jx_iload_n E dX4_judge_130 3 rfl ?_
              refine jx_iadd E dX4_judge_131 ?_
              obtain ⟨rfl, rfl⟩ := jx_out hF
              exact jx_iret E dX4_judge_132 rfl
            · rw [if_pos hc19] at hF
              refine jx_iconst (x := 0) E dX4_judge_125 (by decide) ?_
              refine jx_goto (tgt := 132) E dX4_judge_126 (by decide) ?_
              obtain ⟨rfl, rfl⟩ := jx_out hF
              exact jx_iret E dX4_judge_132 rfl
        · rw [if_neg hc16] at hF
          refine jx_aload_n E dX4_judge_77 0 rfl ?_
          refine jx_getr (C := RX4) (T := TX4) (M := 11) (k := 5) E dX4_judge_78 (Nat.le_of_ble_eq_true rfl) s_X0 rfl iX4 (by decide) rfl (List.mem_cons_of_mem _ tw_293) rfl ?_
          refine jx_getrN (C := RX1) (T := TX1) (M := 3) (k := 0) E dX4_judge_81 (Nat.le_of_ble_eq_true rfl) s_X55 rfl iX1 (by decide) rfl (ex_f16 (jx_ex E)) rfl ?_
          refine jx_iload_n E dX4_judge_84 1 rfl ?_
          obtain ⟨hg20, hF⟩ := jx_guard hF
          refine jx_aald (h' := (57 + (x1).toNatClampNeg)) E dX4_judge_85 (Nat.le_of_ble_eq_true rfl) s_X56 hg20 (l_Sr (l_lt hg20)) ?_
          refine jx_iload_n E dX4_judge_86 3 rfl ?_
          obtain ⟨hg21, hF⟩ := jx_guard hF
          refine jx_iald (h := (57 + (x1).toNatClampNeg)) (j := (Int32.toNatClampNeg x3)) E dX4_judge_87 (n_Sr (l_lt hg20)) (s_Sr (l_lt hg20)) hg21 rfl ?_
          refine jx_aload_n E dX4_judge_88 0 rfl ?_
          refine jx_getr (C := RX4) (T := TX4) (M := 11) (k := 3) E dX4_judge_89 (Nat.le_of_ble_eq_true rfl) s_X0 rfl iX4 (by decide) rfl (List.mem_cons_of_mem _ tw_209) rfl ?_
          refine jx_iload_n E dX4_judge_92 3 rfl ?_
          refine jx_iconst (x := 1) E dX4_judge_93 (by decide) ?_
          refine jx_iadd E dX4_judge_94 ?_
          obtain ⟨⟨r22, v22⟩, hc22, hF⟩ := jx_bind hF
          try dsimp only at hF
          refine jx_callNi (As := [.int (x3 + 1)]) (st := [.int (v (57 + (x1).toNatClampNeg) (Int32.toNatClampNeg x3))]) (h := 49) E dX4_judge_95 1 rfl (k_X0_squareSet hI (x3 + 1) v r22 v22 hc22) (gb_N tw_210) rfl rfl rfl (ex_m16 (jx_ex E)) (List.mem_cons_of_mem _ tw_49) (List.mem_cons_of_mem _ tw_211) (List.mem_cons_of_mem _ tw_212) dd_X0_squareSet.2 rfl (Nat.le_of_ble_eq_true rfl) s_X49 rfl ⟨by decide, by decide⟩ ⟨Nat.le_refl 0, Nat.le_refl 0⟩ (Nat.le_of_ble_eq_true rfl) ?_
          refine jx_icmp_ne (tgt := 107) E dX4_judge_98 (by decide) (fun hc23 => ?_) (fun hc23 => ?_)
          · rw [if_neg hc23] at hF
            refine jx_iload_n E dX4_judge_107 3 rfl ?_
            refine jx_iconst (x := 4) E dX4_judge_108 (by decide) ?_
            refine jx_icmp_ne (tgt := 129) E dX4_judge_109 (by decide) (fun hc24 => ?_) (fun hc24 => ?_)
            · rw [if_neg hc24] at hF
              refine jx_iconst (x := 1) E dX4_judge_129 (by decide) ?_
              refine jx_iload_n E dX4_judge_130 3 rfl ?_
              refine jx_iadd E dX4_judge_131 ?_
              obtain ⟨rfl, rfl⟩ := jx_out hF
              exact jx_iret E dX4_judge_132 rfl
            · rw [if_pos hc24] at hF
              refine jx_aload_n E dX4_judge_112 0 rfl ?_
              refine jx_getr (C := RX4) (T := TX4) (M := 11) (k := 5) E dX4_judge_113 (Nat.le_of_ble_eq_true rfl) s_X0 rfl iX4 (by decide) rfl (List.mem_cons_of_mem _ tw_293) rfl ?_
              refine jx_getrN (C := RX1) (T := TX1) (M := 3) (k := 2) E dX4_judge_116 (Nat.le_of_ble_eq_true rfl) s_X55 rfl iX1 (by decide) rfl (ex_f18 (jx_ex E)) rfl ?_
              refine jx_iload_n E dX4_judge_119 1 rfl ?_
              obtain ⟨hg25, hF⟩ := jx_guard hF
              refine jx_iald (h := 62) (j := (Int32.toNatClampNeg x1)) E dX4_judge_120 (Nat.le_of_ble_eq_true rfl) s_X62 hg25 rfl ?_
              refine jx_iconst (x := 4) E dX4_judge_121 (by decide) ?_
              refine jx_icmp_ne (tgt := 129) E dX4_judge_122 (by decide) (fun hc26 => ?_) (fun hc26 => ?_)
              · rw [if_neg hc26] at hF
                refine jx_iconst (x := 1) E dX4_judge_129 (by decide) ?_
                refine jx_iload_n E dX4_judge_130 3 rfl ?_
                refine jx_iadd E dX4_judge_131 ?_
                obtain ⟨rfl, rfl⟩ := jx_out hF
                exact jx_iret E dX4_judge_132 rfl
              · rw [if_pos hc26] at hF
                refine jx_iconst (x := 0) E dX4_judge_125 (by decide) ?_
                refine jx_goto (tgt := 132) E dX4_judge_126 (by decide) ?_
                obtain ⟨rfl, rfl⟩ := jx_out hF
                exact jx_iret E dX4_judge_132 rfl
          · rw [if_pos hc23] at hF
            refine jx_iinc (y := (x3 + 1)) (lv' := [(3, .int (x3 + 1)), (0, .ref (ad 0)), (1, .int x1), (2, .int x2)]) E dX4_judge_101 3 rfl rfl (by decide) rfl ?_
            refine jx_goto (tgt := 59) E dX4_judge_104 (by decide) ?_
            refine jx_sub [1, 2, 3, 0] rfl ?_
            exact ih x1 x2 (x3 + 1) v22 hF
  refine jx_iload_n E dX4_judge_0 1 rfl ?_
  refine jx_iconst (x := 4) E dX4_judge_1 (by decide) ?_
  obtain ⟨⟨r1, v1⟩, hc1, hF⟩ := jx_bind hF
  try dsimp only at hF
  refine jx_callSi (As := [.int x1, .int 4]) (st := []) E dX4_judge_2 2 rfl (k_X4_within hI x1 4 v r1 v1 hc1) (gb_S (List.mem_cons_of_mem _ tw_188) (List.mem_cons_of_mem _ tw_189) (List.mem_cons_of_mem _ tw_190) tw_187) rfl rfl rfl dd_X4_within rfl ⟨by decide, by decide⟩ ⟨Nat.le_refl 0, Nat.le_refl 0⟩ (Nat.le_of_ble_eq_true rfl) ?_
  refine jx_if_ne (tgt := 14) E dX4_judge_5 (by decide) (fun hc2 => ?_) (fun hc2 => ?_)
  · rw [if_neg hc2] at hF
    refine jx_aload_n E dX4_judge_14 0 rfl ?_
    refine jx_getr (C := RX4) (T := TX4) (M := 11) (k := 5) E dX4_judge_15 (Nat.le_of_ble_eq_true rfl) s_X0 rfl iX4 (by decide) rfl (List.mem_cons_of_mem _ tw_293) rfl ?_
    refine jx_iload_n E dX4_judge_18 1 rfl ?_
    obtain ⟨⟨r3, v3⟩, hc3, hF⟩ := jx_bind hF
    try dsimp only at hF
    refine jx_callNi (As := [.int x1]) (st := []) (h := 55) E dX4_judge_19 1 rfl (k_X1_isMissing hI x1 v1 r3 v3 hc3) (gb_N tw_298) rfl rfl rfl (ex_m40 (jx_ex E)) (List.mem_cons_of_mem _ tw_295) (List.mem_cons_of_mem _ tw_299) (List.mem_cons_of_mem _ tw_300) dd_X1_isMissing.2 rfl (Nat.le_of_ble_eq_true rfl) s_X55 rfl ⟨by decide, by decide⟩ ⟨Nat.le_refl 0, Nat.le_refl 0⟩ (Nat.le_of_ble_eq_true rfl) ?_
    refine jx_if_eq (tgt := 31) E dX4_judge_22 (by decide) (fun hc4 => ?_) (fun hc4 => ?_)
    · rw [if_pos hc4] at hF
      refine jx_aload_n E dX4_judge_31 0 rfl ?_
      refine jx_iload_n E dX4_judge_32 2 rfl ?_
      obtain ⟨⟨r5, v5⟩, hc5, hF⟩ := jx_bind hF
      try dsimp only at hF
      refine jx_callVi (As := [.int x2]) (st := []) (h := 0) E dX4_judge_33 1 rfl (k_X4_isWindow hI x2 v3 r5 v5 hc5) (gb_V (List.mem_cons_of_mem _ tw_203) (List.mem_cons_of_mem _ tw_204) (List.mem_cons_of_mem _ tw_205) (List.mem_cons_of_mem _ tw_190) tw_202) rfl rfl rfl dd_X4_isWindow rfl (Nat.le_of_ble_eq_true rfl) s_X0 rfl ⟨by decide, by decide⟩ ⟨Nat.le_refl 0, Nat.le_refl 0⟩ (Nat.le_of_ble_eq_true rfl) ?_
      refine jx_if_ne (tgt := 45) E dX4_judge_36 (by decide) (fun hc6 => ?_) (fun hc6 => ?_)
      · rw [if_neg hc6] at hF
        refine jx_aload_n E dX4_judge_45 0 rfl ?_
        refine jx_getr (C := RX4) (T := TX4) (M := 11) (k := 3) E dX4_judge_46 (Nat.le_of_ble_eq_true rfl) s_X0 rfl iX4 (by decide) rfl (List.mem_cons_of_mem _ tw_209) rfl ?_
        refine jx_aload_n E dX4_judge_49 0 rfl ?_
        refine jx_getr (C := RX4) (T := TX4) (M := 11) (k := 0) E dX4_judge_50 (Nat.le_of_ble_eq_true rfl) s_X0 rfl iX4 (by decide) rfl (List.mem_cons_of_mem _ tw_195) rfl ?_
        refine jx_iload_n E dX4_judge_53 2 rfl ?_
        obtain ⟨v7, hc7, hF⟩ := jx_bind hF
        try dsimp only at hF
        refine jx_callNv (As := [.ref (ad 1), .int x2]) (st := []) (h := 49) E dX4_judge_54 2 rfl (k_X0_look hI 1 jx_T1 x2 v5 v7 hc7) (gb_N tw_65) rfl rfl rfl (ex_m15 (jx_ex E)) (List.mem_cons_of_mem _ tw_49) (List.mem_cons_of_mem _ tw_67) (List.mem_cons_of_mem _ tw_68) dd_X0_look.2 rfl (Nat.le_of_ble_eq_true rfl) s_X49 rfl ⟨by decide, by decide⟩ ⟨Nat.le_refl 0, Nat.le_refl 0⟩ (Nat.le_of_ble_eq_true rfl) ?_
        refine jx_iconst (x := 0) E dX4_judge_57 (by decide) ?_
        refine jx_istore_n (lv' := [(3, .int 0), (0, .ref (ad 0)), (1, .int x1), (2, .int x2)]) E dX4_judge_58 (by decide) rfl ?_
        refine jx_sub [1, 2, 3, 0] rfl ?_
        exact (key 100000) x1 x2 0 v7 hF
      · rw [if_pos hc6] at hF
        refine jx_aload_n E dX4_judge_39 0 rfl ?_
        refine jx_iconst (x := 0) E dX4_judge_40 (by decide) ?_
        obtain ⟨⟨r8, v8⟩, hc8, hF⟩ := jx_bind hF
        try dsimp only at hF
        refine jx_callVi (As := [.int 0]) (st := []) (h := 0) E dX4_judge_41 1 rfl (k_X4_finding hI 0 v5 r8 v8 hc8) (gb_V (List.mem_cons_of_mem _ tw_192) (List.mem_cons_of_mem _ tw_193) (List.mem_cons_of_mem _ tw_194) (List.mem_cons_of_mem _ tw_190) tw_191) rfl rfl rfl dd_X4_finding rfl (Nat.le_of_ble_eq_true rfl) s_X0 rfl ⟨by decide, by decide⟩ ⟨Nat.le_refl 0, Nat.le_refl 0⟩ (Nat.le_of_ble_eq_true rfl) ?_
        obtain ⟨rfl, rfl⟩ := jx_out hF
        exact jx_iret E dX4_judge_44 rfl
    · rw [if_neg hc4] at hF
      refine jx_aload_n E dX4_judge_25 0 rfl ?_
      refine jx_iconst (x := 5) E dX4_judge_26 (by decide) ?_
      obtain ⟨⟨r9, v9⟩, hc9, hF⟩ := jx_bind hF
      try dsimp only at hF
      refine jx_callVi (As := [.int 5]) (st := []) (h := 0) E dX4_judge_27 1 rfl (k_X4_finding hI 5 v3 r9 v9 hc9) (gb_V (List.mem_cons_of_mem _ tw_192) (List.mem_cons_of_mem _ tw_193) (List.mem_cons_of_mem _ tw_194) (List.mem_cons_of_mem _ tw_190) tw_191) rfl rfl rfl dd_X4_finding rfl (Nat.le_of_ble_eq_true rfl) s_X0 rfl ⟨by decide, by decide⟩ ⟨Nat.le_refl 0, Nat.le_refl 0⟩ (Nat.le_of_ble_eq_true rfl) ?_
      obtain ⟨rfl, rfl⟩ := jx_out hF
      exact jx_iret E dX4_judge_30 rfl
  · rw [if_pos hc2] at hF
    refine jx_aload_n E dX4_judge_8 0 rfl ?_
    refine jx_iconst (x := 0) E dX4_judge_9 (by decide) ?_
    obtain ⟨⟨r10, v10⟩, hc10, hF⟩ := jx_bind hF
    try dsimp only at hF
    refine jx_callVi (As := [.int 0]) (st := []) (h := 0) E dX4_judge_10 1 rfl (k_X4_finding hI 0 v1 r10 v10 hc10) (gb_V (List.mem_cons_of_mem _ tw_192) (List.mem_cons_of_mem _ tw_193) (List.mem_cons_of_mem _ tw_194) (List.mem_cons_of_mem _ tw_190) tw_191) rfl rfl rfl dd_X4_finding rfl (Nat.le_of_ble_eq_true rfl) s_X0 rfl ⟨by decide, by decide⟩ ⟨Nat.le_refl 0, Nat.le_refl 0⟩ (Nat.le_of_ble_eq_true rfl) ?_
    obtain ⟨rfl, rfl⟩ := jx_out hF
    exact jx_iret E dX4_judge_13 rfl
def f_X4_image  (v : jx_V) : Option (Int32 × jx_V) := ((f_X3_become 17 1 v).bind (fun v1 => (some (1, (jx_up v1 0 10 1)))))
def rm_X4_image : Room := { frames := 2, cells := 0, slots := 0, locals := 82 }
set_option maxHeartbeats 4000000 in
set_option maxRecDepth 100000 in
theorem k_X4_image {l : Launch} {D : va_G} {cI cJ : ClassId} {ad : Nat → Nat} {A : Nat → Prop} {adK adV : Nat → Nat} (hI : jx_inj 67 ad A)  (v : jx_V) (r : Int32) (v' : jx_V) (hF : f_X4_image  v = some (r, v')) : jx_Ci l D vwCl 67 cI cJ ad shX A (ex_X adK adV A) yX4_image (Cond.code yX4_image cX4_image 1 (some .int) :: bigT) rm_X4_image [.ref (ad 0)] v r v' := by
  unfold f_X4_image at hF
  refine jx_enteri bigT RX4 cX4_image 1 (some .int) [(0, .ref (ad 0))] hI (ex_X_ok adK adV A) (by decide +kernel) rfl (Nat.le_of_ble_eq_true rfl) rfl rfl ?_
  intro p e s m args below meth c E
  have iX4 : ∀ w ∈ u_ws RX4 TX4 11, w ∈ (Cond.code yX4_image cX4_image 1 (some .int) :: bigT) := fun w h => List.mem_cons_of_mem _ (uw_X4 w h)
  refine jx_aload_n E dX4_image_0 0 rfl ?_
  refine jx_getr (C := RX4) (T := TX4) (M := 11) (k := 1) E dX4_image_1 (Nat.le_of_ble_eq_true rfl) s_X0 rfl iX4 (by decide) rfl (List.mem_cons_of_mem _ tw_308) rfl ?_
  refine jx_aload_n E dX4_image_4 0 rfl ?_
  refine jx_getr (C := RX4) (T := TX4) (M := 11) (k := 0) E dX4_image_5 (Nat.le_of_ble_eq_true rfl) s_X0 rfl iX4 (by decide) rfl (List.mem_cons_of_mem _ tw_195) rfl ?_
  obtain ⟨v1, hc1, hF⟩ := jx_bind hF
  try dsimp only at hF
  refine jx_callNv (As := [.ref (ad 1)]) (st := []) (h := 17) E dX4_image_8 1 rfl (k_X3_become hI 17 jx_T17 1 jx_T1 v v1 hc1) (gb_N tw_235) rfl rfl rfl (ex_m26 (jx_ex E)) (List.mem_cons_of_mem _ tw_33) (List.mem_cons_of_mem _ tw_236) (List.mem_cons_of_mem _ tw_237) dd_X3_become.2 rfl (Nat.le_of_ble_eq_true rfl) s_X17 rfl ⟨by decide, by decide⟩ ⟨Nat.le_refl 0, Nat.le_refl 0⟩ (Nat.le_of_ble_eq_true rfl) ?_
  refine jx_aload_n E dX4_image_11 0 rfl ?_
  refine jx_iconst (x := 1) E dX4_image_12 (by decide) ?_
  refine jx_puti (C := RX4) (T := TX4) (M := 11) (k := 10) (ty := .boolean) E tyX4 dX4_image_13 (Nat.le_of_ble_eq_true rfl) s_X0 rfl iX4 (by decide) rfl (List.mem_cons_of_mem _ tw_309) tyX4_ok nmX4 rfl (by decide +kernel) rfl rfl rfl ?_
  refine jx_iconst (x := 1) E dX4_image_16 (by decide) ?_
  obtain ⟨rfl, rfl⟩ := jx_out hF
  exact jx_iret E dX4_image_17 rfl
def f_X4_undo  (v : jx_V) : Option (Int32 × jx_V) := (if (v 0 10) = 0 then ((f_X4_finding 3 v).bind (fun (r3, v3) => (some (r3, v3)))) else ((f_X3_become 1 17 v).bind (fun v2 => (some ((v2 1 6), v2)))))
def rm_X4_undo : Room := { frames := 2, cells := 0, slots := 0, locals := 82 }
set_option maxHeartbeats 4000000 in
set_option maxRecDepth 100000 in
theorem k_X4_undo {l : Launch} {D : va_G} {cI cJ : ClassId} {ad : Nat → Nat} {A : Nat → Prop} {adK adV : Nat → Nat} (hI : jx_inj 67 ad A)  (v : jx_V) (r : Int32) (v' : jx_V) (hF : f_X4_undo  v = some (r, v')) : jx_Ci l D vwCl 67 cI cJ ad shX A (ex_X adK adV A) yX4_undo (Cond.code yX4_undo cX4_undo 1 (some .int) :: bigT) rm_X4_undo [.ref (ad 0)] v r v' := by
  unfold f_X4_undo at hF
  refine jx_enteri bigT RX4 cX4_undo 1 (some .int) [(0, .ref (ad 0))] hI (ex_X_ok adK adV A) (by decide +kernel) rfl (Nat.le_of_ble_eq_true rfl) rfl rfl ?_
  intro p e s m args below meth c E
  have iX3 : ∀ w ∈ u_ws RX3 TX3 8, w ∈ (Cond.code yX4_undo cX4_undo 1 (some .int) :: bigT) := fun w h => List.mem_cons_of_mem _ (uw_X3 w h)
  have iX4 : ∀ w ∈ u_ws RX4 TX4 11, w ∈ (Cond.code yX4_undo cX4_undo 1 (some .int) :: bigT) := fun w h => List.mem_cons_of_mem _ (uw_X4 w h)
  refine jx_aload_n E dX4_undo_0 0 rfl ?_
  refine jx_geti (C := RX4) (T := TX4) (M := 11) (k := 10) E dX4_undo_1 (Nat.le_of_ble_eq_true rfl) s_X0 rfl iX4 (by decide) rfl (List.mem_cons_of_mem _ tw_309) rfl ?_
  refine jx_if_ne (tgt := 13) E dX4_undo_4 (by decide) (fun hc1 => ?_) (fun hc1 => ?_)
  · rw [if_neg hc1] at hF
    refine jx_aload_n E dX4_undo_13 0 rfl ?_
    refine jx_getr (C := RX4) (T := TX4) (M := 11) (k := 0) E dX4_undo_14 (Nat.le_of_ble_eq_true rfl) s_X0 rfl iX4 (by decide) rfl (List.mem_cons_of_mem _ tw_195) rfl ?_
    refine jx_aload_n E dX4_undo_17 0 rfl ?_
    refine jx_getr (C := RX4) (T := TX4) (M := 11) (k := 1) E dX4_undo_18 (Nat.le_of_ble_eq_true rfl) s_X0 rfl iX4 (by decide) rfl (List.mem_cons_of_mem _ tw_308) rfl ?_
    obtain ⟨v2, hc2, hF⟩ := jx_bind hF
    try dsimp only at hF
    refine jx_callNv (As := [.ref (ad 17)]) (st := []) (h := 1) E dX4_undo_21 1 rfl (k_X3_become hI 1 jx_T1 17 jx_T17 v v2 hc2) (gb_N tw_235) rfl rfl rfl (ex_m26 (jx_ex E)) (List.mem_cons_of_mem _ tw_33) (List.mem_cons_of_mem _ tw_236) (List.mem_cons_of_mem _ tw_237) dd_X3_become.2 rfl (Nat.le_of_ble_eq_true rfl) s_X1 rfl ⟨by decide, by decide⟩ ⟨Nat.le_refl 0, Nat.le_refl 0⟩ (Nat.le_of_ble_eq_true rfl) ?_
    refine jx_aload_n E dX4_undo_24 0 rfl ?_
    refine jx_getr (C := RX4) (T := TX4) (M := 11) (k := 0) E dX4_undo_25 (Nat.le_of_ble_eq_true rfl) s_X0 rfl iX4 (by decide) rfl (List.mem_cons_of_mem _ tw_195) rfl ?_
    refine jx_getiN (C := RX3) (T := TX3) (M := 8) (k := 6) E dX4_undo_28 (Nat.le_of_ble_eq_true rfl) s_X1 rfl iX3 (by decide) rfl (ex_f12 (jx_ex E)) rfl ?_
    obtain ⟨rfl, rfl⟩ := jx_out hF
    exact jx_iret E dX4_undo_31 rfl
  · rw [if_pos hc1] at hF
    refine jx_aload_n E dX4_undo_7 0 rfl ?_
    refine jx_iconst (x := 3) E dX4_undo_8 (by decide) ?_
    obtain ⟨⟨r3, v3⟩, hc3, hF⟩ := jx_bind hF
    try dsimp only at hF
    refine jx_callVi (As := [.int 3]) (st := []) (h := 0) E dX4_undo_9 1 rfl (k_X4_finding hI 3 v r3 v3 hc3) (gb_V (List.mem_cons_of_mem _ tw_192) (List.mem_cons_of_mem _ tw_193) (List.mem_cons_of_mem _ tw_194) (List.mem_cons_of_mem _ tw_190) tw_191) rfl rfl rfl dd_X4_finding rfl (Nat.le_of_ble_eq_true rfl) s_X0 rfl ⟨by decide, by decide⟩ ⟨Nat.le_refl 0, Nat.le_refl 0⟩ (Nat.le_of_ble_eq_true rfl) ?_
    obtain ⟨rfl, rfl⟩ := jx_out hF
    exact jx_iret E dX4_undo_12 rfl
def f_X4_tear  (v : jx_V) : Option (Int32 × jx_V) := (if (v 0 10) = 0 then (some (0, (jx_up v 0 10 0))) else (some (1, (jx_up v 0 10 0))))
def rm_X4_tear : Room := { frames := 0, cells := 0, slots := 0, locals := 0 }
set_option maxHeartbeats 4000000 in
set_option maxRecDepth 100000 in
theorem k_X4_tear {l : Launch} {D : va_G} {cI cJ : ClassId} {ad : Nat → Nat} {A : Nat → Prop} {adK adV : Nat → Nat} (hI : jx_inj 67 ad A)  (v : jx_V) (r : Int32) (v' : jx_V) (hF : f_X4_tear  v = some (r, v')) : jx_Ci l D vwCl 67 cI cJ ad shX A (ex_X adK adV A) yX4_tear (Cond.code yX4_tear cX4_tear 2 (some .int) :: bigT) rm_X4_tear [.ref (ad 0)] v r v' := by
  unfold f_X4_tear at hF
  refine jx_enteri bigT RX4 cX4_tear 2 (some .int) [(0, .ref (ad 0))] hI (ex_X_ok adK adV A) (by decide +kernel) rfl (Nat.le_of_ble_eq_true rfl) rfl rfl ?_
  intro p e s m args below meth c E
  have iX4 : ∀ w ∈ u_ws RX4 TX4 11, w ∈ (Cond.code yX4_tear cX4_tear 2 (some .int) :: bigT) := fun w h => List.mem_cons_of_mem _ (uw_X4 w h)
  refine jx_aload_n E dX4_tear_0 0 rfl ?_
  refine jx_geti (C := RX4) (T := TX4) (M := 11) (k := 10) E dX4_tear_1 (Nat.le_of_ble_eq_true rfl) s_X0 rfl iX4 (by decide) rfl (List.mem_cons_of_mem _ tw_309) rfl ?_
  refine jx_if_eq (tgt := 11) E dX4_tear_4 (by decide) (fun hc1 => ?_) (fun hc1 => ?_)
  · rw [if_pos hc1] at hF
    refine jx_iconst (x := 0) E dX4_tear_11 (by decide) ?_
    refine jx_istore_n (lv' := [(1, .int 0), (0, .ref (ad 0))]) E dX4_tear_12 (by decide) rfl ?_
    refine jx_aload_n E dX4_tear_13 1 rfl ?_
    refine jx_iconst (x := 0) E dX4_tear_14 (by decide) ?_
    refine jx_puti (C := RX4) (T := TX4) (M := 11) (k := 10) (ty := .boolean) E tyX4 dX4_tear_15 (Nat.le_of_ble_eq_true rfl) s_X0 rfl iX4 (by decide) rfl (List.mem_cons_of_mem _ tw_309) tyX4_ok nmX4 rfl (by decide +kernel) rfl rfl rfl ?_
    refine jx_iload_n E dX4_tear_18 0 rfl ?_
    obtain ⟨rfl, rfl⟩ := jx_out hF
    exact jx_iret E dX4_tear_19 rfl
  · rw [if_neg hc1] at hF
    refine jx_iconst (x := 1) E dX4_tear_7 (by decide) ?_
    refine jx_goto (tgt := 12) E dX4_tear_8 (by decide) ?_
    refine jx_istore_n (lv' := [(1, .int 1), (0, .ref (ad 0))]) E dX4_tear_12 (by decide) rfl ?_
    refine jx_aload_n E dX4_tear_13 1 rfl ?_
    refine jx_iconst (x := 0) E dX4_tear_14 (by decide) ?_
    refine jx_puti (C := RX4) (T := TX4) (M := 11) (k := 10) (ty := .boolean) E tyX4 dX4_tear_15 (Nat.le_of_ble_eq_true rfl) s_X0 rfl iX4 (by decide) rfl (List.mem_cons_of_mem _ tw_309) tyX4_ok nmX4 rfl (by decide +kernel) rfl rfl rfl ?_
    refine jx_iload_n E dX4_tear_18 0 rfl ?_
    obtain ⟨rfl, rfl⟩ := jx_out hF
    exact jx_iret E dX4_tear_19 rfl
def f_X4_count (x1 : Int32) (v : jx_V) : Option (Int32 × jx_V) := (if x1 = 0 then (some ((v 1 6), v)) else (if x1 = 1 then ((f_X3_thingCount 1 v).bind (fun (r3, v3) => (some (r3, v3)))) else (if x1 = 2 then (some ((v 1 5), v)) else (if x1 = 3 then ((f_X3_heightOfAll 1 v).bind (fun (r6, v6) => (some (r6, v6)))) else (if x1 = 4 then ((f_X3_contractCount 1 v).bind (fun (r8, v8) => (some (r8, v8)))) else (if x1 = 5 then (some ((v 53 1), v)) else (if x1 = 6 then (some ((v 1 7), v)) else (if x1 = 7 then ((f_X3_spotsInUse 1 v).bind (fun (r12, v12) => (some (r12, v12)))) else ((f_X4_finding 0 v).bind (fun (r13, v13) => (some (r13, v13))))))))))))
def rm_X4_count : Room := { frames := 2, cells := 0, slots := 0, locals := 43 }
set_option maxHeartbeats 4000000 in
set_option maxRecDepth 100000 in
theorem k_X4_count {l : Launch} {D : va_G} {cI cJ : ClassId} {ad : Nat → Nat} {A : Nat → Prop} {adK adV : Nat → Nat} (hI : jx_inj 67 ad A) (x1 : Int32) (v : jx_V) (r : Int32) (v' : jx_V) (hF : f_X4_count x1 v = some (r, v')) : jx_Ci l D vwCl 67 cI cJ ad shX A (ex_X adK adV A) yX4_count (Cond.code yX4_count cX4_count 2 (some .int) :: bigT) rm_X4_count [.ref (ad 0), .int x1] v r v' := by
  unfold f_X4_count at hF
  refine jx_enteri bigT RX4 cX4_count 2 (some .int) [(0, .ref (ad 0)), (1, .int x1)] hI (ex_X_ok adK adV A) (by decide +kernel) rfl (Nat.le_of_ble_eq_true rfl) rfl rfl ?_
  intro p e s m args below meth c E
  have iX2 : ∀ w ∈ u_ws RX2 TX2 7, w ∈ (Cond.code yX4_count cX4_count 2 (some .int) :: bigT) := fun w h => List.mem_cons_of_mem _ (uw_X2 w h)
  have iX3 : ∀ w ∈ u_ws RX3 TX3 8, w ∈ (Cond.code yX4_count cX4_count 2 (some .int) :: bigT) := fun w h => List.mem_cons_of_mem _ (uw_X3 w h)
  have iX4 : ∀ w ∈ u_ws RX4 TX4 11, w ∈ (Cond.code yX4_count cX4_count 2 (some .int) :: bigT) := fun w h => List.mem_cons_of_mem _ (uw_X4 w h)
  refine jx_iload_n E dX4_count_0 1 rfl ?_
  by_cases hc1 : x1 = 0
  · rw [if_pos hc1] at hF
    refine jx_tableIn (tgt := 48) (z := 0) E dX4_count_1 hc1 (by decide) (by decide) rfl (by decide) ?_
    refine jx_aload_n E dX4_count_48 0 rfl ?_
    refine jx_getr (C := RX4) (T := TX4) (M := 11) (k := 0) E dX4_count_49 (Nat.le_of_ble_eq_true rfl) s_X0 rfl iX4 (by decide) rfl (List.mem_cons_of_mem _ tw_195) rfl ?_
    refine jx_getiN (C := RX3) (T := TX3) (M := 8) (k := 6) E dX4_count_52 (Nat.le_of_ble_eq_true rfl) s_X1 rfl iX3 (by decide) rfl (ex_f12 (jx_ex E)) rfl ?_
    obtain ⟨rfl, rfl⟩ := jx_out hF
    exact jx_iret E dX4_count_55 rfl
  rw [if_neg hc1] at hF
  by_cases hc2 : x1 = 1
  · rw [if_pos hc2] at hF
    refine jx_tableIn (tgt := 56) (z := 1) E dX4_count_1 hc2 (by decide) (by decide) rfl (by decide) ?_
    refine jx_aload_n E dX4_count_56 0 rfl ?_
    refine jx_getr (C := RX4) (T := TX4) (M := 11) (k := 0) E dX4_count_57 (Nat.le_of_ble_eq_true rfl) s_X0 rfl iX4 (by decide) rfl (List.mem_cons_of_mem _ tw_195) rfl ?_
    obtain ⟨⟨r3, v3⟩, hc3, hF⟩ := jx_bind hF
    try dsimp only at hF
    refine jx_callNi (As := []) (st := []) (h := 1) E dX4_count_60 0 rfl (k_X3_thingCount hI 1 jx_T1 v r3 v3 hc3) (gb_N tw_196) rfl rfl rfl (ex_m6 (jx_ex E)) (List.mem_cons_of_mem _ tw_33) (List.mem_cons_of_mem _ tw_197) (List.mem_cons_of_mem _ tw_198) dd_X3_thingCount.2 rfl (Nat.le_of_ble_eq_true rfl) s_X1 rfl ⟨by decide, by decide⟩ ⟨Nat.le_refl 0, Nat.le_refl 0⟩ (Nat.le_of_ble_eq_true rfl) ?_
    obtain ⟨rfl, rfl⟩ := jx_out hF
    exact jx_iret E dX4_count_63 rfl
  rw [if_neg hc2] at hF
  by_cases hc4 : x1 = 2
  · rw [if_pos hc4] at hF
    refine jx_tableIn (tgt := 64) (z := 2) E dX4_count_1 hc4 (by decide) (by decide) rfl (by decide) ?_
    refine jx_aload_n E dX4_count_64 0 rfl ?_
    refine jx_getr (C := RX4) (T := TX4) (M := 11) (k := 0) E dX4_count_65 (Nat.le_of_ble_eq_true rfl) s_X0 rfl iX4 (by decide) rfl (List.mem_cons_of_mem _ tw_195) rfl ?_
    refine jx_getiN (C := RX3) (T := TX3) (M := 8) (k := 5) E dX4_count_68 (Nat.le_of_ble_eq_true rfl) s_X1 rfl iX3 (by decide) rfl (ex_f10 (jx_ex E)) rfl ?_
    obtain ⟨rfl, rfl⟩ := jx_out hF
    exact jx_iret E dX4_count_71 rfl
  rw [if_neg hc4] at hF
  by_cases hc5 : x1 = 3
  · rw [if_pos hc5] at hF
    refine jx_tableIn (tgt := 72) (z := 3) E dX4_count_1 hc5 (by decide) (by decide) rfl (by decide) ?_
    refine jx_aload_n E dX4_count_72 0 rfl ?_
    refine jx_getr (C := RX4) (T := TX4) (M := 11) (k := 0) E dX4_count_73 (Nat.le_of_ble_eq_true rfl) s_X0 rfl iX4 (by decide) rfl (List.mem_cons_of_mem _ tw_195) rfl ?_
    obtain ⟨⟨r6, v6⟩, hc6, hF⟩ := jx_bind hF
    try dsimp only at hF
    refine jx_callNi (As := []) (st := []) (h := 1) E dX4_count_76 0 rfl (k_X3_heightOfAll hI 1 jx_T1 v r6 v6 hc6) (gb_N tw_310) rfl rfl rfl (ex_m43 (jx_ex E)) (List.mem_cons_of_mem _ tw_33) (List.mem_cons_of_mem _ tw_311) (List.mem_cons_of_mem _ tw_312) dd_X3_heightOfAll.2 rfl (Nat.le_of_ble_eq_true rfl) s_X1 rfl ⟨by decide, by decide⟩ ⟨Nat.le_refl 0, Nat.le_refl 0⟩ (Nat.le_of_ble_eq_true rfl) ?_
    obtain ⟨rfl, rfl⟩ := jx_out hF
    exact jx_iret E dX4_count_79 rfl
  rw [if_neg hc5] at hF
  by_cases hc7 : x1 = 4
  · rw [if_pos hc7] at hF
    refine jx_tableIn (tgt := 80) (z := 4) E dX4_count_1 hc7 (by decide) (by decide) rfl (by decide) ?_
    refine jx_aload_n E dX4_count_80 0 rfl ?_
    refine jx_getr (C := RX4) (T := TX4) (M := 11) (k := 0) E dX4_count_81 (Nat.le_of_ble_eq_true rfl) s_X0 rfl iX4 (by decide) rfl (List.mem_cons_of_mem _ tw_195) rfl ?_
    obtain ⟨⟨r8, v8⟩, hc8, hF⟩ := jx_bind hF
    try dsimp only at hF
    refine jx_callNi (As := []) (st := []) (h := 1) E dX4_count_84 0 rfl (k_X3_contractCount hI 1 jx_T1 v r8 v8 hc8) (gb_N tw_313) rfl rfl rfl (ex_m44 (jx_ex E)) (List.mem_cons_of_mem _ tw_33) (List.mem_cons_of_mem _ tw_314) (List.mem_cons_of_mem _ tw_315) dd_X3_contractCount.2 rfl (Nat.le_of_ble_eq_true rfl) s_X1 rfl ⟨by decide, by decide⟩ ⟨Nat.le_refl 0, Nat.le_refl 0⟩ (Nat.le_of_ble_eq_true rfl) ?_
    obtain ⟨rfl, rfl⟩ := jx_out hF
    exact jx_iret E dX4_count_87 rfl
  rw [if_neg hc7] at hF
  by_cases hc9 : x1 = 5
  · rw [if_pos hc9] at hF
    refine jx_tableIn (tgt := 88) (z := 5) E dX4_count_1 hc9 (by decide) (by decide) rfl (by decide) ?_
    refine jx_aload_n E dX4_count_88 0 rfl ?_
    refine jx_getr (C := RX4) (T := TX4) (M := 11) (k := 4) E dX4_count_89 (Nat.le_of_ble_eq_true rfl) s_X0 rfl iX4 (by decide) rfl (List.mem_cons_of_mem _ tw_280) rfl ?_
    refine jx_getiN (C := RX2) (T := TX2) (M := 7) (k := 1) E dX4_count_92 (Nat.le_of_ble_eq_true rfl) s_X53 rfl iX2 (by decide) rfl (ex_f14 (jx_ex E)) rfl ?_
    obtain ⟨rfl, rfl⟩ := jx_out hF
    exact jx_iret E dX4_count_95 rfl
  rw [if_neg hc9] at hF
  by_cases hc10 : x1 = 6
  · rw [if_pos hc10] at hF
    refine jx_tableIn (tgt := 96) (z := 6) E dX4_count_1 hc10 (by decide) (by decide) rfl (by decide) ?_
    refine jx_aload_n E dX4_count_96 0 rfl ?_
    refine jx_getr (C := RX4) (T := TX4) (M := 11) (k := 0) E dX4_count_97 (Nat.le_of_ble_eq_true rfl) s_X0 rfl iX4 (by decide) rfl (List.mem_cons_of_mem _ tw_195) rfl ?_
    refine jx_getiN (C := RX3) (T := TX3) (M := 8) (k := 7) E dX4_count_100 (Nat.le_of_ble_eq_true rfl) s_X1 rfl iX3 (by decide) rfl (ex_f13 (jx_ex E)) rfl ?_
    obtain ⟨rfl, rfl⟩ := jx_out hF
    exact jx_iret E dX4_count_103 rfl
  rw [if_neg hc10] at hF
  by_cases hc11 : x1 = 7
  · rw [if_pos hc11] at hF
    refine jx_tableIn (tgt := 104) (z := 7) E dX4_count_1 hc11 (by decide) (by decide) rfl (by decide) ?_
    refine jx_aload_n E dX4_count_104 0 rfl ?_
    refine jx_getr (C := RX4) (T := TX4) (M := 11) (k := 0) E dX4_count_105 (Nat.le_of_ble_eq_true rfl) s_X0 rfl iX4 (by decide) rfl (List.mem_cons_of_mem _ tw_195) rfl ?_
    obtain ⟨⟨r12, v12⟩, hc12, hF⟩ := jx_bind hF
    try dsimp only at hF
    refine jx_callNi (As := []) (st := []) (h := 1) E dX4_count_108 0 rfl (k_X3_spotsInUse hI 1 jx_T1 v r12 v12 hc12) (gb_N tw_316) rfl rfl rfl (ex_m45 (jx_ex E)) (List.mem_cons_of_mem _ tw_33) (List.mem_cons_of_mem _ tw_317) (List.mem_cons_of_mem _ tw_318) dd_X3_spotsInUse.2 rfl (Nat.le_of_ble_eq_true rfl) s_X1 rfl ⟨by decide, by decide⟩ ⟨Nat.le_refl 0, Nat.le_refl 0⟩ (Nat.le_of_ble_eq_true rfl) ?_
    obtain ⟨rfl, rfl⟩ := jx_out hF
    exact jx_iret E dX4_count_111 rfl
  rw [if_neg hc11] at hF
  refine jx_tableOut (tgt := 112) E dX4_count_1 (by have hz1 := jx_ne hc1 (k := 0) (by decide); have hz2 := jx_ne hc2 (k := 1) (by decide); have hz4 := jx_ne hc4 (k := 2) (by decide); have hz5 := jx_ne hc5 (k := 3) (by decide); have hz7 := jx_ne hc7 (k := 4) (by decide); have hz9 := jx_ne hc9 (k := 5) (by decide); have hz10 := jx_ne hc10 (k := 6) (by decide); have hz11 := jx_ne hc11 (k := 7) (by decide); omega) (by decide) ?_
  refine jx_aload_n E dX4_count_112 0 rfl ?_
  refine jx_iconst (x := 0) E dX4_count_113 (by decide) ?_
  obtain ⟨⟨r13, v13⟩, hc13, hF⟩ := jx_bind hF
  try dsimp only at hF
  refine jx_callVi (As := [.int 0]) (st := []) (h := 0) E dX4_count_114 1 rfl (k_X4_finding hI 0 v r13 v13 hc13) (gb_V (List.mem_cons_of_mem _ tw_192) (List.mem_cons_of_mem _ tw_193) (List.mem_cons_of_mem _ tw_194) (List.mem_cons_of_mem _ tw_190) tw_191) rfl rfl rfl dd_X4_finding rfl (Nat.le_of_ble_eq_true rfl) s_X0 rfl ⟨by decide, by decide⟩ ⟨Nat.le_refl 0, Nat.le_refl 0⟩ (Nat.le_of_ble_eq_true rfl) ?_
  obtain ⟨rfl, rfl⟩ := jx_out hF
  exact jx_iret E dX4_count_117 rfl
def f_X4_status_L  : Nat → Int32 → Int32 → Int32 → jx_V → Option (Int32 × jx_V)
  | 0, _, _, _, _ => none
  | n + 1, x1, x2, x3, v => (if 7 ≤ x3 then (some (x2, v)) else (if (x3 < 0 ∨ 7 ≤ Int32.toNatClampNeg x3) then none else (f_X4_status_L n x1 (x2 + (v 63 (Int32.toNatClampNeg x3))) (x3 + 1) v)))
def f_X4_status (x1 : Int32) (v : jx_V) : Option (Int32 × jx_V) := (if x1 = (-1) then (f_X4_status_L 100000 x1 0 0 v) else ((f_X4_within x1 7 v).bind (fun (r2, v2) => (if r2 = 0 then ((f_X4_finding 0 v2).bind (fun (r4, v4) => (some (r4, v4)))) else (if (x1 < 0 ∨ 7 ≤ Int32.toNatClampNeg x1) then none else (some ((v2 63 (Int32.toNatClampNeg x1)), v2)))))))
def rm_X4_status : Room := { frames := 1, cells := 0, slots := 0, locals := 21 }
set_option maxHeartbeats 4000000 in
set_option maxRecDepth 100000 in
theorem k_X4_status {l : Launch} {D : va_G} {cI cJ : ClassId} {ad : Nat → Nat} {A : Nat → Prop} {adK adV : Nat → Nat} (hI : jx_inj 67 ad A) (x1 : Int32) (v : jx_V) (r : Int32) (v' : jx_V) (hF : f_X4_status x1 v = some (r, v')) : jx_Ci l D vwCl 67 cI cJ ad shX A (ex_X adK adV A) yX4_status (Cond.code yX4_status cX4_status 4 (some .int) :: bigT) rm_X4_status [.ref (ad 0), .int x1] v r v' := by
  unfold f_X4_status at hF
  refine jx_enteri bigT RX4 cX4_status 4 (some .int) [(0, .ref (ad 0)), (1, .int x1)] hI (ex_X_ok adK adV A) (by decide +kernel) rfl (Nat.le_of_ble_eq_true rfl) rfl rfl ?_
  intro p e s m args below meth c E
  have iX4 : ∀ w ∈ u_ws RX4 TX4 11, w ∈ (Cond.code yX4_status cX4_status 4 (some .int) :: bigT) := fun w h => List.mem_cons_of_mem _ (uw_X4 w h)
  have key : ∀ n : Nat, (∀ (x1 : Int32) (x2 : Int32) (x3 : Int32) (v : jx_V), f_X4_status_L  n  x1 x2 x3 v = some (r, v') → jx_J p l e rm_X4_status s m args below meth c D vwCl 67 cI cJ ad shX A 0 0 4 (MQ below (va_Qi (fun (r1 : Int32) (_ : Unit) => r1 = r) (fun _ t => va_P D vwCl (jx_ws 67 cI cJ ad shX v') t.heap) A) args s 0 0 A) v 9 [(0, .ref (ad 0)), (1, .int x1), (2, .int x2), (3, .int x3)] []) := by
    intro n
    induction n with
    | zero =>
      exact (fun _ _ _ _ h => by cases h)
    | succ n ih =>
      intro x1 x2 x3 v hF
      rw [f_X4_status_L] at hF
      refine jx_iload_n E dX4_status_9 3 rfl ?_
      refine jx_bipush (x := 7) E dX4_status_10 (by decide) ?_
      refine jx_icmp_ge (tgt := 30) E dX4_status_12 (by decide) (fun hc6 => ?_) (fun hc6 => ?_)
      · rw [if_pos hc6] at hF
        refine jx_iload_n E dX4_status_30 2 rfl ?_
        obtain ⟨rfl, rfl⟩ := jx_out hF
        exact jx_iret E dX4_status_31 rfl
      · rw [if_neg hc6] at hF
        refine jx_iload_n E dX4_status_15 2 rfl ?_
        refine jx_aload_n E dX4_status_16 0 rfl ?_
        refine jx_getr (C := RX4) (T := TX4) (M := 11) (k := 6) E dX4_status_17 (Nat.le_of_ble_eq_true rfl) s_X0 rfl iX4 (by decide) rfl (List.mem_cons_of_mem _ tw_185) rfl ?_
        refine jx_iload_n E dX4_status_20 3 rfl ?_
        obtain ⟨hg7, hF⟩ := jx_guard hF
        refine jx_iald (h := 63) (j := (Int32.toNatClampNeg x3)) E dX4_status_21 (Nat.le_of_ble_eq_true rfl) s_X63 hg7 rfl ?_
        refine jx_iadd E dX4_status_22 ?_
        refine jx_istore_n (lv' := [(2, .int (x2 + (v 63 (Int32.toNatClampNeg x3)))), (0, .ref (ad 0)), (1, .int x1), (3, .int x3)]) E dX4_status_23 (by decide) rfl ?_
        refine jx_iinc (y := (x3 + 1)) (lv' := [(3, .int (x3 + 1)), (2, .int (x2 + (v 63 (Int32.toNatClampNeg x3)))), (0, .ref (ad 0)), (1, .int x1)]) E dX4_status_24 3 rfl rfl (by decide) rfl ?_
        refine jx_goto (tgt := 9) E dX4_status_27 (by decide) ?_
        refine jx_sub [2, 3, 1, 0] rfl ?_
        exact ih x1 (x2 + (v 63 (Int32.toNatClampNeg x3))) (x3 + 1) v hF
  refine jx_iload_n E dX4_status_0 1 rfl ?_
  refine jx_iconst (x := -1) E dX4_status_1 (by decide) ?_
  refine jx_icmp_ne (tgt := 32) E dX4_status_2 (by decide) (fun hc1 => ?_) (fun hc1 => ?_)
  · rw [if_neg hc1] at hF
    refine jx_iload_n E dX4_status_32 1 rfl ?_
    refine jx_bipush (x := 7) E dX4_status_33 (by decide) ?_
    obtain ⟨⟨r2, v2⟩, hc2, hF⟩ := jx_bind hF
    try dsimp only at hF
    refine jx_callSi (As := [.int x1, .int 7]) (st := []) E dX4_status_35 2 rfl (k_X4_within hI x1 7 v r2 v2 hc2) (gb_S (List.mem_cons_of_mem _ tw_188) (List.mem_cons_of_mem _ tw_189) (List.mem_cons_of_mem _ tw_190) tw_187) rfl rfl rfl dd_X4_within rfl ⟨by decide, by decide⟩ ⟨Nat.le_refl 0, Nat.le_refl 0⟩ (Nat.le_of_ble_eq_true rfl) ?_
    refine jx_if_eq (tgt := 50) E dX4_status_38 (by decide) (fun hc3 => ?_) (fun hc3 => ?_)
    · rw [if_pos hc3] at hF
      refine jx_aload_n E dX4_status_50 0 rfl ?_
      refine jx_iconst (x := 0) E dX4_status_51 (by decide) ?_
      obtain ⟨⟨r4, v4⟩, hc4, hF⟩ := jx_bind hF
      try dsimp only at hF
      refine jx_callVi (As := [.int 0]) (st := []) (h := 0) E dX4_status_52 1 rfl (k_X4_finding hI 0 v2 r4 v4 hc4) (gb_V (List.mem_cons_of_mem _ tw_192) (List.mem_cons_of_mem _ tw_193) (List.mem_cons_of_mem _ tw_194) (List.mem_cons_of_mem _ tw_190) tw_191) rfl rfl rfl dd_X4_finding rfl (Nat.le_of_ble_eq_true rfl) s_X0 rfl ⟨by decide, by decide⟩ ⟨Nat.le_refl 0, Nat.le_refl 0⟩ (Nat.le_of_ble_eq_true rfl) ?_
      obtain ⟨rfl, rfl⟩ := jx_out hF
      exact jx_iret E dX4_status_55 rfl
    · rw [if_neg hc3] at hF
      refine jx_aload_n E dX4_status_41 0 rfl ?_
      refine jx_getr (C := RX4) (T := TX4) (M := 11) (k := 6) E dX4_status_42 (Nat.le_of_ble_eq_true rfl) s_X0 rfl iX4 (by decide) rfl (List.mem_cons_of_mem _ tw_185) rfl ?_
      refine jx_iload_n E dX4_status_45 1 rfl ?_
      obtain ⟨hg5, hF⟩ := jx_guard hF
      refine jx_iald (h := 63) (j := (Int32.toNatClampNeg x1)) E dX4_status_46 (Nat.le_of_ble_eq_true rfl) s_X63 hg5 rfl ?_
      refine jx_goto (tgt := 55) E dX4_status_47 (by decide) ?_
      obtain ⟨rfl, rfl⟩ := jx_out hF
      exact jx_iret E dX4_status_55 rfl
  · rw [if_pos hc1] at hF
    refine jx_iconst (x := 0) E dX4_status_5 (by decide) ?_
    refine jx_istore_n (lv' := [(2, .int 0), (0, .ref (ad 0)), (1, .int x1)]) E dX4_status_6 (by decide) rfl ?_
    refine jx_iconst (x := 0) E dX4_status_7 (by decide) ?_
    refine jx_istore_n (lv' := [(3, .int 0), (2, .int 0), (0, .ref (ad 0)), (1, .int x1)]) E dX4_status_8 (by decide) rfl ?_
    refine jx_sub [2, 3, 1, 0] rfl ?_
    exact (key 100000) x1 0 0 v hF
def f_X5_in (x0 : Int64) (x2 : Int64) (x4 : Int64) (v : jx_V) : Option (Int32 × jx_V) := (if (lg_cmp x0 x2) < 0 then (some (0, v)) else (if 0 < (lg_cmp x0 x4) then (some (0, v)) else (some (1, v))))
def rm_X5_in : Room := { frames := 0, cells := 0, slots := 0, locals := 0 }
set_option maxHeartbeats 4000000 in
set_option maxRecDepth 100000 in
theorem k_X5_in {l : Launch} {D : va_G} {cI cJ : ClassId} {ad : Nat → Nat} {A : Nat → Prop} (hI : jx_inj 13 ad A) (x0 : Int64) (x2 : Int64) (x4 : Int64) (v : jx_V) (r : Int32) (v' : jx_V) (hF : f_X5_in x0 x2 x4 v = some (r, v')) : jx_Ci l D vwCl 13 cI cJ ad shM A ex_M yX5_in (Cond.code yX5_in cX5_in 6 (some .boolean) :: bigT) rm_X5_in [.long x0, .long x2, .long x4] v r v' := by
  unfold f_X5_in at hF
  refine jx_enteri bigT RX5 cX5_in 6 (some .boolean) [(0, .long x0), (2, .long x2), (4, .long x4)] hI (ex_M_ok A) (by decide +kernel) rfl (Nat.le_of_ble_eq_true rfl) rfl rfl ?_
  intro p e s m args below meth c E
  refine jx_lload_n E dX5_in_0 0 rfl ?_
  refine jx_lload_n E dX5_in_1 1 rfl ?_
  refine jx_lcmp E dX5_in_2 ?_
  refine jx_if_lt (tgt := 17) E dX5_in_3 (by decide) (fun hc1 => ?_) (fun hc1 => ?_)
  · rw [if_pos hc1] at hF
    refine jx_iconst (x := 0) E dX5_in_17 (by decide) ?_
    obtain ⟨rfl, rfl⟩ := jx_out hF
    exact jx_zret E dX5_in_18 rfl (Or.inl rfl)
  · rw [if_neg hc1] at hF
    refine jx_lload_n E dX5_in_6 0 rfl ?_
    refine jx_lload E dX5_in_7 2 rfl ?_
    refine jx_lcmp E dX5_in_9 ?_
    refine jx_if_gt (tgt := 17) E dX5_in_10 (by decide) (fun hc2 => ?_) (fun hc2 => ?_)
    · rw [if_pos hc2] at hF
      refine jx_iconst (x := 0) E dX5_in_17 (by decide) ?_
      obtain ⟨rfl, rfl⟩ := jx_out hF
      exact jx_zret E dX5_in_18 rfl (Or.inl rfl)
    · rw [if_neg hc2] at hF
      refine jx_iconst (x := 1) E dX5_in_13 (by decide) ?_
      refine jx_goto (tgt := 18) E dX5_in_14 (by decide) ?_
      obtain ⟨rfl, rfl⟩ := jx_out hF
      exact jx_zret E dX5_in_18 rfl (Or.inr rfl)
def f_X5_finds (x1 : Int32) (v : jx_V) : Option (Int32 × jx_V) := (if (((-1000001) - x1) < 0 ∨ 7 ≤ Int32.toNatClampNeg ((-1000001) - x1)) then none else (if (((-1000001) - x1) < 0 ∨ 7 ≤ Int32.toNatClampNeg ((-1000001) - x1)) then none else (some (x1, (jx_up v 4 (Int32.toNatClampNeg ((-1000001) - x1)) ((v 4 (Int32.toNatClampNeg ((-1000001) - x1))) + 1))))))
def rm_X5_finds : Room := { frames := 0, cells := 0, slots := 0, locals := 0 }
set_option maxHeartbeats 4000000 in
set_option maxRecDepth 100000 in
theorem k_X5_finds {l : Launch} {D : va_G} {cI cJ : ClassId} {ad : Nat → Nat} {A : Nat → Prop} (hI : jx_inj 13 ad A) (x1 : Int32) (v : jx_V) (r : Int32) (v' : jx_V) (hF : f_X5_finds x1 v = some (r, v')) : jx_Ci l D vwCl 13 cI cJ ad shM A ex_M yX5_finds (Cond.code yX5_finds cX5_finds 2 (some .int) :: bigT) rm_X5_finds [.ref (ad 0), .int x1] v r v' := by
  unfold f_X5_finds at hF
  refine jx_enteri bigT RX5 cX5_finds 2 (some .int) [(0, .ref (ad 0)), (1, .int x1)] hI (ex_M_ok A) (by decide +kernel) rfl (Nat.le_of_ble_eq_true rfl) rfl rfl ?_
  intro p e s m args below meth c E
  have iX5 : ∀ w ∈ u_ws RX5 TX5 21, w ∈ (Cond.code yX5_finds cX5_finds 2 (some .int) :: bigT) := fun w h => List.mem_cons_of_mem _ (uw_X5 w h)
  refine jx_aload_n E dX5_finds_0 0 rfl ?_
  refine jx_getr (C := RX5) (T := TX5) (M := 21) (k := 3) E dX5_finds_1 (Nat.le_of_ble_eq_true rfl) s_M0 rfl iX5 (by decide) rfl (List.mem_cons_of_mem _ tw_319) rfl ?_
  refine jx_ldc (x := -1000001) E dX5_finds_4 (List.mem_cons_of_mem _ tw_320) ?_
  refine jx_iload_n E dX5_finds_6 1 rfl ?_
  refine jx_isub E dX5_finds_7 ?_
  refine jx_dup2 E dX5_finds_8 rfl rfl ?_
  obtain ⟨hg1, hF⟩ := jx_guard hF
  refine jx_iald (h := 4) (j := (Int32.toNatClampNeg ((-1000001) - x1))) E dX5_finds_9 (Nat.le_of_ble_eq_true rfl) s_M4 hg1 rfl ?_
  refine jx_iconst (x := 1) E dX5_finds_10 (by decide) ?_
  refine jx_iadd E dX5_finds_11 ?_
  obtain ⟨hg2, hF⟩ := jx_guard hF
  refine jx_iast (h := 4) (j := (Int32.toNatClampNeg ((-1000001) - x1))) E dX5_finds_12 (Nat.le_of_ble_eq_true rfl) s_M4 hg2 rfl ?_
  refine jx_iload_n E dX5_finds_13 1 rfl ?_
  obtain ⟨rfl, rfl⟩ := jx_out hF
  exact jx_iret E dX5_finds_14 rfl
def f_X5_isLot (x0 : Int32) (v : jx_V) : Option (Int32 × jx_V) := ((f_X5_in (Int32.toInt64 x0) 0 24 v).bind (fun (r1, v1) => (if ¬ (r1 = 0 ∨ r1 = 1) then none else some (r1, v1))))
def rm_X5_isLot : Room := { frames := 1, cells := 0, slots := 0, locals := 25 }
set_option maxHeartbeats 4000000 in
set_option maxRecDepth 100000 in
theorem k_X5_isLot {l : Launch} {D : va_G} {cI cJ : ClassId} {ad : Nat → Nat} {A : Nat → Prop} (hI : jx_inj 13 ad A) (x0 : Int32) (v : jx_V) (r : Int32) (v' : jx_V) (hF : f_X5_isLot x0 v = some (r, v')) : jx_Ci l D vwCl 13 cI cJ ad shM A ex_M yX5_isLot (Cond.code yX5_isLot cX5_isLot 1 (some .boolean) :: bigT) rm_X5_isLot [.int x0] v r v' := by
  unfold f_X5_isLot at hF
  refine jx_enteri bigT RX5 cX5_isLot 1 (some .boolean) [(0, .int x0)] hI (ex_M_ok A) (by decide +kernel) rfl (Nat.le_of_ble_eq_true rfl) rfl rfl ?_
  intro p e s m args below meth c E
  refine jx_iload_n E dX5_isLot_0 0 rfl ?_
  refine jx_i2l E dX5_isLot_1 ?_
  refine jx_lconst (x := 0) E dX5_isLot_2 (by decide) ?_
  refine jx_ldc2 (x := 24) E dX5_isLot_3 (List.mem_cons_of_mem _ tw_321) ?_
  obtain ⟨⟨r1, v1⟩, hc1, hF⟩ := jx_bind hF
  try dsimp only at hF
  refine jx_callSi (As := [.long (Int32.toInt64 x0), .long 0, .long 24]) (st := []) E dX5_isLot_6 3 rfl (k_X5_in hI (Int32.toInt64 x0) 0 24 v r1 v1 hc1) (gb_S (List.mem_cons_of_mem _ tw_323) (List.mem_cons_of_mem _ tw_324) (List.mem_cons_of_mem _ tw_325) tw_322) rfl rfl rfl dd_X5_in rfl ⟨by decide, by decide⟩ ⟨Nat.le_refl 0, Nat.le_refl 0⟩ (Nat.le_of_ble_eq_true rfl) ?_
  obtain ⟨hg2, hF⟩ := jx_guard hF
  obtain ⟨rfl, rfl⟩ := jx_out hF
  exact jx_zret E dX5_isLot_9 rfl (Decidable.not_not.mp hg2)
def f_X5_isOwner (x0 : Int32) (v : jx_V) : Option (Int32 × jx_V) := ((f_X5_in (Int32.toInt64 x0) 0 3 v).bind (fun (r1, v1) => (if ¬ (r1 = 0 ∨ r1 = 1) then none else some (r1, v1))))
def rm_X5_isOwner : Room := { frames := 1, cells := 0, slots := 0, locals := 25 }
set_option maxHeartbeats 4000000 in
set_option maxRecDepth 100000 in
theorem k_X5_isOwner {l : Launch} {D : va_G} {cI cJ : ClassId} {ad : Nat → Nat} {A : Nat → Prop} (hI : jx_inj 13 ad A) (x0 : Int32) (v : jx_V) (r : Int32) (v' : jx_V) (hF : f_X5_isOwner x0 v = some (r, v')) : jx_Ci l D vwCl 13 cI cJ ad shM A ex_M yX5_isOwner (Cond.code yX5_isOwner cX5_isOwner 1 (some .boolean) :: bigT) rm_X5_isOwner [.int x0] v r v' := by
  unfold f_X5_isOwner at hF
  refine jx_enteri bigT RX5 cX5_isOwner 1 (some .boolean) [(0, .int x0)] hI (ex_M_ok A) (by decide +kernel) rfl (Nat.le_of_ble_eq_true rfl) rfl rfl ?_
  intro p e s m args below meth c E
  refine jx_iload_n E dX5_isOwner_0 0 rfl ?_
  refine jx_i2l E dX5_isOwner_1 ?_
  refine jx_lconst (x := 0) E dX5_isOwner_2 (by decide) ?_
  refine jx_ldc2 (x := 3) E dX5_isOwner_3 (List.mem_cons_of_mem _ tw_326) ?_
  obtain ⟨⟨r1, v1⟩, hc1, hF⟩ := jx_bind hF
  try dsimp only at hF
  refine jx_callSi (As := [.long (Int32.toInt64 x0), .long 0, .long 3]) (st := []) E dX5_isOwner_6 3 rfl (k_X5_in hI (Int32.toInt64 x0) 0 3 v r1 v1 hc1) (gb_S (List.mem_cons_of_mem _ tw_323) (List.mem_cons_of_mem _ tw_324) (List.mem_cons_of_mem _ tw_325) tw_322) rfl rfl rfl dd_X5_in rfl ⟨by decide, by decide⟩ ⟨Nat.le_refl 0, Nat.le_refl 0⟩ (Nat.le_of_ble_eq_true rfl) ?_
  obtain ⟨hg2, hF⟩ := jx_guard hF
  obtain ⟨rfl, rfl⟩ := jx_out hF
  exact jx_zret E dX5_isOwner_9 rfl (Decidable.not_not.mp hg2)
def f_X5_isHeight (x0 : Int32) (v : jx_V) : Option (Int32 × jx_V) := ((f_X5_in (Int32.toInt64 x0) 0 9 v).bind (fun (r1, v1) => (if ¬ (r1 = 0 ∨ r1 = 1) then none else some (r1, v1))))
def rm_X5_isHeight : Room := { frames := 1, cells := 0, slots := 0, locals := 25 }
set_option maxHeartbeats 4000000 in
set_option maxRecDepth 100000 in
theorem k_X5_isHeight {l : Launch} {D : va_G} {cI cJ : ClassId} {ad : Nat → Nat} {A : Nat → Prop} (hI : jx_inj 13 ad A) (x0 : Int32) (v : jx_V) (r : Int32) (v' : jx_V) (hF : f_X5_isHeight x0 v = some (r, v')) : jx_Ci l D vwCl 13 cI cJ ad shM A ex_M yX5_isHeight (Cond.code yX5_isHeight cX5_isHeight 1 (some .boolean) :: bigT) rm_X5_isHeight [.int x0] v r v' := by
  unfold f_X5_isHeight at hF
  refine jx_enteri bigT RX5 cX5_isHeight 1 (some .boolean) [(0, .int x0)] hI (ex_M_ok A) (by decide +kernel) rfl (Nat.le_of_ble_eq_true rfl) rfl rfl ?_
  intro p e s m args below meth c E
  refine jx_iload_n E dX5_isHeight_0 0 rfl ?_
  refine jx_i2l E dX5_isHeight_1 ?_
  refine jx_lconst (x := 0) E dX5_isHeight_2 (by decide) ?_
  refine jx_ldc2 (x := 9) E dX5_isHeight_3 (List.mem_cons_of_mem _ tw_327) ?_
  obtain ⟨⟨r1, v1⟩, hc1, hF⟩ := jx_bind hF
  try dsimp only at hF
  refine jx_callSi (As := [.long (Int32.toInt64 x0), .long 0, .long 9]) (st := []) E dX5_isHeight_6 3 rfl (k_X5_in hI (Int32.toInt64 x0) 0 9 v r1 v1 hc1) (gb_S (List.mem_cons_of_mem _ tw_323) (List.mem_cons_of_mem _ tw_324) (List.mem_cons_of_mem _ tw_325) tw_322) rfl rfl rfl dd_X5_in rfl ⟨by decide, by decide⟩ ⟨Nat.le_refl 0, Nat.le_refl 0⟩ (Nat.le_of_ble_eq_true rfl) ?_
  obtain ⟨hg2, hF⟩ := jx_guard hF
  obtain ⟨rfl, rfl⟩ := jx_out hF
  exact jx_zret E dX5_isHeight_9 rfl (Decidable.not_not.mp hg2)
def f_X5_isWindow (x1 : Int32) (v : jx_V) : Option (Int32 × jx_V) := ((f_X5_in (Int32.toInt64 x1) 0 (Int32.toInt64 ((v 1 1) - 1)) v).bind (fun (r1, v1) => (if ¬ (r1 = 0 ∨ r1 = 1) then none else some (r1, v1))))
def rm_X5_isWindow : Room := { frames := 1, cells := 0, slots := 0, locals := 25 }
set_option maxHeartbeats 4000000 in
set_option maxRecDepth 100000 in
theorem k_X5_isWindow {l : Launch} {D : va_G} {cI cJ : ClassId} {ad : Nat → Nat} {A : Nat → Prop} (hI : jx_inj 13 ad A) (x1 : Int32) (v : jx_V) (r : Int32) (v' : jx_V) (hF : f_X5_isWindow x1 v = some (r, v')) : jx_Ci l D vwCl 13 cI cJ ad shM A ex_M yX5_isWindow (Cond.code yX5_isWindow cX5_isWindow 2 (some .boolean) :: bigT) rm_X5_isWindow [.ref (ad 0), .int x1] v r v' := by
  unfold f_X5_isWindow at hF
  refine jx_enteri bigT RX5 cX5_isWindow 2 (some .boolean) [(0, .ref (ad 0)), (1, .int x1)] hI (ex_M_ok A) (by decide +kernel) rfl (Nat.le_of_ble_eq_true rfl) rfl rfl ?_
  intro p e s m args below meth c E
  have iX5 : ∀ w ∈ u_ws RX5 TX5 21, w ∈ (Cond.code yX5_isWindow cX5_isWindow 2 (some .boolean) :: bigT) := fun w h => List.mem_cons_of_mem _ (uw_X5 w h)
  refine jx_iload_n E dX5_isWindow_0 1 rfl ?_
  refine jx_i2l E dX5_isWindow_1 ?_
  refine jx_lconst (x := 0) E dX5_isWindow_2 (by decide) ?_
  refine jx_aload_n E dX5_isWindow_3 0 rfl ?_
  refine jx_getr (C := RX5) (T := TX5) (M := 21) (k := 0) E dX5_isWindow_4 (Nat.le_of_ble_eq_true rfl) s_M0 rfl iX5 (by decide) rfl (List.mem_cons_of_mem _ tw_328) rfl ?_
  refine jx_iconst (x := 1) E dX5_isWindow_7 (by decide) ?_
  refine jx_iald (h := 1) (j := 1) E dX5_isWindow_8 (Nat.le_of_ble_eq_true rfl) s_M1 (by decide) (by decide) ?_
  refine jx_iconst (x := 1) E dX5_isWindow_9 (by decide) ?_
  refine jx_isub E dX5_isWindow_10 ?_
  refine jx_i2l E dX5_isWindow_11 ?_
  obtain ⟨⟨r1, v1⟩, hc1, hF⟩ := jx_bind hF
  try dsimp only at hF
  refine jx_callSi (As := [.long (Int32.toInt64 x1), .long 0, .long (Int32.toInt64 ((v 1 1) - 1))]) (st := []) E dX5_isWindow_12 3 rfl (k_X5_in hI (Int32.toInt64 x1) 0 (Int32.toInt64 ((v 1 1) - 1)) v r1 v1 hc1) (gb_S (List.mem_cons_of_mem _ tw_323) (List.mem_cons_of_mem _ tw_324) (List.mem_cons_of_mem _ tw_325) tw_322) rfl rfl rfl dd_X5_in rfl ⟨by decide, by decide⟩ ⟨Nat.le_refl 0, Nat.le_refl 0⟩ (Nat.le_of_ble_eq_true rfl) ?_
  obtain ⟨hg2, hF⟩ := jx_guard hF
  obtain ⟨rfl, rfl⟩ := jx_out hF
  exact jx_zret E dX5_isWindow_15 rfl (Decidable.not_not.mp hg2)
def f_X5_ones_L  : Nat → Int32 → Int32 → Int32 → jx_V → Option (Int32 × jx_V)
  | 0, _, _, _, _ => none
  | n + 1, x0, x1, x2, v => (if x2 = 0 then (some (x1, v)) else (f_X5_ones_L n x0 (x1 + 1) (x2 &&& (x2 - 1)) v))
def f_X5_ones (x0 : Int32) (v : jx_V) : Option (Int32 × jx_V) := (f_X5_ones_L 100000 x0 0 x0 v)
def rm_X5_ones : Room := { frames := 0, cells := 0, slots := 0, locals := 0 }
set_option maxHeartbeats 4000000 in
set_option maxRecDepth 100000 in
theorem k_X5_ones {l : Launch} {D : va_G} {cI cJ : ClassId} {ad : Nat → Nat} {A : Nat → Prop} (hI : jx_inj 13 ad A) (x0 : Int32) (v : jx_V) (r : Int32) (v' : jx_V) (hF : f_X5_ones x0 v = some (r, v')) : jx_Ci l D vwCl 13 cI cJ ad shM A ex_M yX5_ones (Cond.code yX5_ones cX5_ones 3 (some .int) :: bigT) rm_X5_ones [.int x0] v r v' := by
  unfold f_X5_ones at hF
  refine jx_enteri bigT RX5 cX5_ones 3 (some .int) [(0, .int x0)] hI (ex_M_ok A) (by decide +kernel) rfl (Nat.le_of_ble_eq_true rfl) rfl rfl ?_
  intro p e s m args below meth c E
  have key : ∀ n : Nat, (∀ (x0 : Int32) (x1 : Int32) (x2 : Int32) (v : jx_V), f_X5_ones_L  n  x0 x1 x2 v = some (r, v') → jx_J p l e rm_X5_ones s m args below meth c D vwCl 13 cI cJ ad shM A 0 0 3 (MQ below (va_Qi (fun (r1 : Int32) (_ : Unit) => r1 = r) (fun _ t => va_P D vwCl (jx_ws 13 cI cJ ad shM v') t.heap) A) args s 0 0 A) v 4 [(0, .int x0), (1, .int x1), (2, .int x2)] []) := by
    intro n
    induction n with
    | zero =>
      exact (fun _ _ _ _ h => by cases h)
    | succ n ih =>
      intro x0 x1 x2 v hF
      rw [f_X5_ones_L] at hF
      refine jx_iload_n E dX5_ones_4 2 rfl ?_
      refine jx_if_eq (tgt := 20) E dX5_ones_5 (by decide) (fun hc1 => ?_) (fun hc1 => ?_)
      · rw [if_pos hc1] at hF
        refine jx_iload_n E dX5_ones_20 1 rfl ?_
        obtain ⟨rfl, rfl⟩ := jx_out hF
        exact jx_iret E dX5_ones_21 rfl
      · rw [if_neg hc1] at hF
        refine jx_iinc (y := (x1 + 1)) (lv' := [(1, .int (x1 + 1)), (0, .int x0), (2, .int x2)]) E dX5_ones_8 1 rfl rfl (by decide) rfl ?_
        refine jx_iload_n E dX5_ones_11 2 rfl ?_
        refine jx_iload_n E dX5_ones_12 2 rfl ?_
        refine jx_iconst (x := 1) E dX5_ones_13 (by decide) ?_
        refine jx_isub E dX5_ones_14 ?_
        refine jx_iand E dX5_ones_15 ?_
        refine jx_istore_n (lv' := [(2, .int (x2 &&& (x2 - 1))), (1, .int (x1 + 1)), (0, .int x0)]) E dX5_ones_16 (by decide) rfl ?_
        refine jx_goto (tgt := 4) E dX5_ones_17 (by decide) ?_
        refine jx_sub [2, 1, 0] rfl ?_
        exact ih x0 (x1 + 1) (x2 &&& (x2 - 1)) v hF
  refine jx_iconst (x := 0) E dX5_ones_0 (by decide) ?_
  refine jx_istore_n (lv' := [(1, .int 0), (0, .int x0)]) E dX5_ones_1 (by decide) rfl ?_
  refine jx_iload_n E dX5_ones_2 1 rfl ?_
  refine jx_istore_n (lv' := [(2, .int x0), (1, .int 0), (0, .int x0)]) E dX5_ones_3 (by decide) rfl ?_
  refine jx_sub [2, 1, 0] rfl ?_
  exact (key 100000) x0 0 x0 v hF
def f_X5_draw  (v : jx_V) : Option (Int32 × jx_V) := (some ((Int32.toUInt32 ((jx_up v 1 2 (((v 1 2) * 1103515245) + 12345)) 1 2) >>> (Int32.toUInt32 8 &&& Int32.toUInt32 31)).toInt32, (jx_up v 1 2 (((v 1 2) * 1103515245) + 12345))))
def rm_X5_draw : Room := { frames := 0, cells := 0, slots := 0, locals := 0 }
set_option maxHeartbeats 4000000 in
set_option maxRecDepth 100000 in
theorem k_X5_draw {l : Launch} {D : va_G} {cI cJ : ClassId} {ad : Nat → Nat} {A : Nat → Prop} (hI : jx_inj 13 ad A)  (v : jx_V) (r : Int32) (v' : jx_V) (hF : f_X5_draw  v = some (r, v')) : jx_Ci l D vwCl 13 cI cJ ad shM A ex_M yX5_draw (Cond.code yX5_draw cX5_draw 1 (some .int) :: bigT) rm_X5_draw [.ref (ad 0)] v r v' := by
  unfold f_X5_draw at hF
  refine jx_enteri bigT RX5 cX5_draw 1 (some .int) [(0, .ref (ad 0))] hI (ex_M_ok A) (by decide +kernel) rfl (Nat.le_of_ble_eq_true rfl) rfl rfl ?_
  intro p e s m args below meth c E
  have iX5 : ∀ w ∈ u_ws RX5 TX5 21, w ∈ (Cond.code yX5_draw cX5_draw 1 (some .int) :: bigT) := fun w h => List.mem_cons_of_mem _ (uw_X5 w h)
  refine jx_aload_n E dX5_draw_0 0 rfl ?_
  refine jx_getr (C := RX5) (T := TX5) (M := 21) (k := 0) E dX5_draw_1 (Nat.le_of_ble_eq_true rfl) s_M0 rfl iX5 (by decide) rfl (List.mem_cons_of_mem _ tw_328) rfl ?_
  refine jx_iconst (x := 2) E dX5_draw_4 (by decide) ?_
  refine jx_aload_n E dX5_draw_5 0 rfl ?_
  refine jx_getr (C := RX5) (T := TX5) (M := 21) (k := 0) E dX5_draw_6 (Nat.le_of_ble_eq_true rfl) s_M0 rfl iX5 (by decide) rfl (List.mem_cons_of_mem _ tw_328) rfl ?_
  refine jx_iconst (x := 2) E dX5_draw_9 (by decide) ?_
  refine jx_iald (h := 1) (j := 2) E dX5_draw_10 (Nat.le_of_ble_eq_true rfl) s_M1 (by decide) (by decide) ?_
  refine jx_ldc (x := 1103515245) E dX5_draw_11 (List.mem_cons_of_mem _ tw_329) ?_
  refine jx_imul E dX5_draw_13 ?_
  refine jx_sipush (x := 12345) E dX5_draw_14 (by decide) ?_
  refine jx_iadd E dX5_draw_17 ?_
  refine jx_iast (h := 1) (j := 2) E dX5_draw_18 (Nat.le_of_ble_eq_true rfl) s_M1 (by decide) (by decide) ?_
  refine jx_aload_n E dX5_draw_19 0 rfl ?_
  refine jx_getr (C := RX5) (T := TX5) (M := 21) (k := 0) E dX5_draw_20 (Nat.le_of_ble_eq_true rfl) s_M0 rfl iX5 (by decide) rfl (List.mem_cons_of_mem _ tw_328) rfl ?_
  refine jx_iconst (x := 2) E dX5_draw_23 (by decide) ?_
  refine jx_iald (h := 1) (j := 2) E dX5_draw_24 (Nat.le_of_ble_eq_true rfl) s_M1 (by decide) (by decide) ?_
  refine jx_bipush (x := 8) E dX5_draw_25 (by decide) ?_
  refine jx_iushr E dX5_draw_27 ?_
  obtain ⟨rfl, rfl⟩ := jx_out hF
  exact jx_iret E dX5_draw_28 rfl
def f_X5_puts_L  : Nat → Int32 → jx_V → Option (jx_V)
  | 0, _, _ => none
  | n + 1, x1, v => (if 181 ≤ x1 then (some v) else (if (x1 < 0 ∨ 181 ≤ Int32.toNatClampNeg x1) then none else (if (x1 < 0 ∨ 181 ≤ Int32.toNatClampNeg x1) then none else (f_X5_puts_L n (x1 + 1) (jx_up v 3 (Int32.toNatClampNeg x1) (v 1 (Int32.toNatClampNeg x1)))))))
def f_X5_puts  (v : jx_V) : Option (jx_V) := (f_X5_puts_L 100000 0 v)
def rm_X5_puts : Room := { frames := 0, cells := 0, slots := 0, locals := 0 }
set_option maxHeartbeats 4000000 in
set_option maxRecDepth 100000 in
theorem k_X5_puts {l : Launch} {D : va_G} {cI cJ : ClassId} {ad : Nat → Nat} {A : Nat → Prop} (hI : jx_inj 13 ad A)  (v : jx_V) (v' : jx_V) (hF : f_X5_puts  v = some v') : jx_Cv l D vwCl 13 cI cJ ad shM A ex_M yX5_puts (Cond.code yX5_puts cX5_puts 2 (none) :: bigT) rm_X5_puts [.ref (ad 0)] v v' := by
  unfold f_X5_puts at hF
  refine jx_enterv bigT RX5 cX5_puts 2 (none) [(0, .ref (ad 0))] hI (ex_M_ok A) (by decide +kernel) rfl (Nat.le_of_ble_eq_true rfl) rfl rfl ?_
  intro p e s m args below meth c E
  have iX5 : ∀ w ∈ u_ws RX5 TX5 21, w ∈ (Cond.code yX5_puts cX5_puts 2 (none) :: bigT) := fun w h => List.mem_cons_of_mem _ (uw_X5 w h)
  have key : ∀ n : Nat, (∀ (x1 : Int32) (v : jx_V), f_X5_puts_L  n  x1 v = some v' → jx_J p l e rm_X5_puts s m args below meth c D vwCl 13 cI cJ ad shM A 0 0 2 (MQ below (va_Qv (fun (_ : Unit) => True) (fun _ t => va_P D vwCl (jx_ws 13 cI cJ ad shM v') t.heap) A) args s 0 0 A) v 2 [(0, .ref (ad 0)), (1, .int x1)] []) := by
    intro n
    induction n with
    | zero =>
      exact (fun _ _ h => by cases h)
    | succ n ih =>
      intro x1 v hF
      rw [f_X5_puts_L] at hF
      refine jx_iload_n E dX5_puts_2 1 rfl ?_
      refine jx_sipush (x := 181) E dX5_puts_3 (by decide) ?_
      refine jx_icmp_ge (tgt := 27) E dX5_puts_6 (by decide) (fun hc1 => ?_) (fun hc1 => ?_)
      · rw [if_pos hc1] at hF
        obtain rfl := Option.some.inj hF
        exact jx_vret E dX5_puts_27 rfl
      · rw [if_neg hc1] at hF
        refine jx_aload_n E dX5_puts_9 0 rfl ?_
        refine jx_getr (C := RX5) (T := TX5) (M := 21) (k := 2) E dX5_puts_10 (Nat.le_of_ble_eq_true rfl) s_M0 rfl iX5 (by decide) rfl (List.mem_cons_of_mem _ tw_330) rfl ?_
        refine jx_iload_n E dX5_puts_13 1 rfl ?_
        refine jx_aload_n E dX5_puts_14 0 rfl ?_
        refine jx_getr (C := RX5) (T := TX5) (M := 21) (k := 0) E dX5_puts_15 (Nat.le_of_ble_eq_true rfl) s_M0 rfl iX5 (by decide) rfl (List.mem_cons_of_mem _ tw_328) rfl ?_
        refine jx_iload_n E dX5_puts_18 1 rfl ?_
        obtain ⟨hg2, hF⟩ := jx_guard hF
        refine jx_iald (h := 1) (j := (Int32.toNatClampNeg x1)) E dX5_puts_19 (Nat.le_of_ble_eq_true rfl) s_M1 hg2 rfl ?_
        obtain ⟨hg3, hF⟩ := jx_guard hF
        refine jx_iast (h := 3) (j := (Int32.toNatClampNeg x1)) E dX5_puts_20 (Nat.le_of_ble_eq_true rfl) s_M3 hg3 rfl ?_
        refine jx_iinc (y := (x1 + 1)) (lv' := [(1, .int (x1 + 1)), (0, .ref (ad 0))]) E dX5_puts_21 1 rfl rfl (by decide) rfl ?_
        refine jx_goto (tgt := 2) E dX5_puts_24 (by decide) ?_
        refine jx_sub [1, 0] rfl ?_
        exact ih (x1 + 1) (jx_up v 3 (Int32.toNatClampNeg x1) (v 1 (Int32.toNatClampNeg x1))) hF
  refine jx_iconst (x := 0) E dX5_puts_0 (by decide) ?_
  refine jx_istore_n (lv' := [(1, .int 0), (0, .ref (ad 0))]) E dX5_puts_1 (by decide) rfl ?_
  refine jx_sub [1, 0] rfl ?_
  exact (key 100000) 0 v hF
def f_X5_putsBack_L  : Nat → Int32 → jx_V → Option (jx_V)
  | 0, _, _ => none
  | n + 1, x1, v => (if 181 ≤ x1 then (some v) else (if (x1 < 0 ∨ 181 ≤ Int32.toNatClampNeg x1) then none else (if (x1 < 0 ∨ 181 ≤ Int32.toNatClampNeg x1) then none else (f_X5_putsBack_L n (x1 + 1) (jx_up v 1 (Int32.toNatClampNeg x1) (v 3 (Int32.toNatClampNeg x1)))))))
def f_X5_putsBack  (v : jx_V) : Option (jx_V) := (f_X5_putsBack_L 100000 0 v)
def rm_X5_putsBack : Room := { frames := 0, cells := 0, slots := 0, locals := 0 }
set_option maxHeartbeats 4000000 in
set_option maxRecDepth 100000 in
theorem k_X5_putsBack {l : Launch} {D : va_G} {cI cJ : ClassId} {ad : Nat → Nat} {A : Nat → Prop} (hI : jx_inj 13 ad A)  (v : jx_V) (v' : jx_V) (hF : f_X5_putsBack  v = some v') : jx_Cv l D vwCl 13 cI cJ ad shM A ex_M yX5_putsBack (Cond.code yX5_putsBack cX5_putsBack 2 (none) :: bigT) rm_X5_putsBack [.ref (ad 0)] v v' := by
  unfold f_X5_putsBack at hF
  refine jx_enterv bigT RX5 cX5_putsBack 2 (none) [(0, .ref (ad 0))] hI (ex_M_ok A) (by decide +kernel) rfl (Nat.le_of_ble_eq_true rfl) rfl rfl ?_
  intro p e s m args below meth c E
  have iX5 : ∀ w ∈ u_ws RX5 TX5 21, w ∈ (Cond.code yX5_putsBack cX5_putsBack 2 (none) :: bigT) := fun w h => List.mem_cons_of_mem _ (uw_X5 w h)
  have key : ∀ n : Nat, (∀ (x1 : Int32) (v : jx_V), f_X5_putsBack_L  n  x1 v = some v' → jx_J p l e rm_X5_putsBack s m args below meth c D vwCl 13 cI cJ ad shM A 0 0 2 (MQ below (va_Qv (fun (_ : Unit) => True) (fun _ t => va_P D vwCl (jx_ws 13 cI cJ ad shM v') t.heap) A) args s 0 0 A) v 2 [(0, .ref (ad 0)), (1, .int x1)] []) := by
    intro n
    induction n with
    | zero =>
      exact (fun _ _ h => by cases h)
    | succ n ih =>
      intro x1 v hF
      rw [f_X5_putsBack_L] at hF
      refine jx_iload_n E dX5_putsBack_2 1 rfl ?_
      refine jx_sipush (x := 181) E dX5_putsBack_3 (by decide) ?_
      refine jx_icmp_ge (tgt := 27) E dX5_putsBack_6 (by decide) (fun hc1 => ?_) (fun hc1 => ?_)
      · rw [if_pos hc1] at hF
        obtain rfl := Option.some.inj hF
        exact jx_vret E dX5_putsBack_27 rfl
      · rw [if_neg hc1] at hF
        refine jx_aload_n E dX5_putsBack_9 0 rfl ?_
        refine jx_getr (C := RX5) (T := TX5) (M := 21) (k := 0) E dX5_putsBack_10 (Nat.le_of_ble_eq_true rfl) s_M0 rfl iX5 (by decide) rfl (List.mem_cons_of_mem _ tw_328) rfl ?_
        refine jx_iload_n E dX5_putsBack_13 1 rfl ?_
        refine jx_aload_n E dX5_putsBack_14 0 rfl ?_
        refine jx_getr (C := RX5) (T := TX5) (M := 21) (k := 2) E dX5_putsBack_15 (Nat.le_of_ble_eq_true rfl) s_M0 rfl iX5 (by decide) rfl (List.mem_cons_of_mem _ tw_330) rfl ?_
        refine jx_iload_n E dX5_putsBack_18 1 rfl ?_
        obtain ⟨hg2, hF⟩ := jx_guard hF
        refine jx_iald (h := 3) (j := (Int32.toNatClampNeg x1)) E dX5_putsBack_19 (Nat.le_of_ble_eq_true rfl) s_M3 hg2 rfl ?_
        obtain ⟨hg3, hF⟩ := jx_guard hF
        refine jx_iast (h := 1) (j := (Int32.toNatClampNeg x1)) E dX5_putsBack_20 (Nat.le_of_ble_eq_true rfl) s_M1 hg3 rfl ?_
        refine jx_iinc (y := (x1 + 1)) (lv' := [(1, .int (x1 + 1)), (0, .ref (ad 0))]) E dX5_putsBack_21 1 rfl rfl (by decide) rfl ?_
        refine jx_goto (tgt := 2) E dX5_putsBack_24 (by decide) ?_
        refine jx_sub [1, 0] rfl ?_
        exact ih (x1 + 1) (jx_up v 1 (Int32.toNatClampNeg x1) (v 3 (Int32.toNatClampNeg x1))) hF
  refine jx_iconst (x := 0) E dX5_putsBack_0 (by decide) ?_
  refine jx_istore_n (lv' := [(1, .int 0), (0, .ref (ad 0))]) E dX5_putsBack_1 (by decide) rfl ?_
  refine jx_sub [1, 0] rfl ?_
  exact (key 100000) 0 v hF
def f_X5_at (x0 : Int32) (x1 : Int32) (v : jx_V) : Option (Int32 × jx_V) := (some (((11 + (4 * x0)) + x1), v))
def rm_X5_at : Room := { frames := 0, cells := 0, slots := 0, locals := 0 }
set_option maxHeartbeats 4000000 in
set_option maxRecDepth 100000 in
theorem k_X5_at {l : Launch} {D : va_G} {cI cJ : ClassId} {ad : Nat → Nat} {A : Nat → Prop} (hI : jx_inj 13 ad A) (x0 : Int32) (x1 : Int32) (v : jx_V) (r : Int32) (v' : jx_V) (hF : f_X5_at x0 x1 v = some (r, v')) : jx_Ci l D vwCl 13 cI cJ ad shM A ex_M yX5_at (Cond.code yX5_at cX5_at 2 (some .int) :: bigT) rm_X5_at [.int x0, .int x1] v r v' := by
  unfold f_X5_at at hF
  refine jx_enteri bigT RX5 cX5_at 2 (some .int) [(0, .int x0), (1, .int x1)] hI (ex_M_ok A) (by decide +kernel) rfl (Nat.le_of_ble_eq_true rfl) rfl rfl ?_
  intro p e s m args below meth c E
  refine jx_bipush (x := 11) E dX5_at_0 (by decide) ?_
  refine jx_iconst (x := 4) E dX5_at_2 (by decide) ?_
  refine jx_iload_n E dX5_at_3 0 rfl ?_
  refine jx_imul E dX5_at_4 ?_
  refine jx_iadd E dX5_at_5 ?_
  refine jx_iload_n E dX5_at_6 1 rfl ?_
  refine jx_iadd E dX5_at_7 ?_
  obtain ⟨rfl, rfl⟩ := jx_out hF
  exact jx_iret E dX5_at_8 rfl
def f_X5_its (x1 : Int32) (x2 : Int32) (v : jx_V) : Option (Int32 × jx_V) := ((f_X5_at x1 x2 v).bind (fun (r1, v1) => (if (r1 < 0 ∨ 181 ≤ Int32.toNatClampNeg r1) then none else (some ((v1 1 (Int32.toNatClampNeg r1)), v1)))))
def rm_X5_its : Room := { frames := 1, cells := 0, slots := 0, locals := 21 }
set_option maxHeartbeats 4000000 in
set_option maxRecDepth 100000 in
theorem k_X5_its {l : Launch} {D : va_G} {cI cJ : ClassId} {ad : Nat → Nat} {A : Nat → Prop} (hI : jx_inj 13 ad A) (x1 : Int32) (x2 : Int32) (v : jx_V) (r : Int32) (v' : jx_V) (hF : f_X5_its x1 x2 v = some (r, v')) : jx_Ci l D vwCl 13 cI cJ ad shM A ex_M yX5_its (Cond.code yX5_its cX5_its 3 (some .int) :: bigT) rm_X5_its [.ref (ad 0), .int x1, .int x2] v r v' := by
  unfold f_X5_its at hF
  refine jx_enteri bigT RX5 cX5_its 3 (some .int) [(0, .ref (ad 0)), (1, .int x1), (2, .int x2)] hI (ex_M_ok A) (by decide +kernel) rfl (Nat.le_of_ble_eq_true rfl) rfl rfl ?_
  intro p e s m args below meth c E
  have iX5 : ∀ w ∈ u_ws RX5 TX5 21, w ∈ (Cond.code yX5_its cX5_its 3 (some .int) :: bigT) := fun w h => List.mem_cons_of_mem _ (uw_X5 w h)
  refine jx_aload_n E dX5_its_0 0 rfl ?_
  refine jx_getr (C := RX5) (T := TX5) (M := 21) (k := 0) E dX5_its_1 (Nat.le_of_ble_eq_true rfl) s_M0 rfl iX5 (by decide) rfl (List.mem_cons_of_mem _ tw_328) rfl ?_
  refine jx_iload_n E dX5_its_4 1 rfl ?_
  refine jx_iload_n E dX5_its_5 2 rfl ?_
  obtain ⟨⟨r1, v1⟩, hc1, hF⟩ := jx_bind hF
  try dsimp only at hF
  refine jx_callSi (As := [.int x1, .int x2]) (st := [.ref (ad 1)]) E dX5_its_6 2 rfl (k_X5_at hI x1 x2 v r1 v1 hc1) (gb_S (List.mem_cons_of_mem _ tw_332) (List.mem_cons_of_mem _ tw_333) (List.mem_cons_of_mem _ tw_325) tw_331) rfl rfl rfl dd_X5_at rfl ⟨by decide, by decide⟩ ⟨Nat.le_refl 0, Nat.le_refl 0⟩ (Nat.le_of_ble_eq_true rfl) ?_
  obtain ⟨hg2, hF⟩ := jx_guard hF
  refine jx_iald (h := 1) (j := (Int32.toNatClampNeg r1)) E dX5_its_9 (Nat.le_of_ble_eq_true rfl) s_M1 hg2 rfl ?_
  obtain ⟨rfl, rfl⟩ := jx_out hF
  exact jx_iret E dX5_its_10 rfl
def f_X5_isThing (x1 : Int32) (v : jx_V) : Option (Int32 × jx_V) := ((f_X5_its x1 0 v).bind (fun (r1, v1) => (if r1 < 0 then (some (0, v1)) else (some (1, v1)))))
def rm_X5_isThing : Room := { frames := 2, cells := 0, slots := 0, locals := 43 }
set_option maxHeartbeats 4000000 in
set_option maxRecDepth 100000 in
theorem k_X5_isThing {l : Launch} {D : va_G} {cI cJ : ClassId} {ad : Nat → Nat} {A : Nat → Prop} (hI : jx_inj 13 ad A) (x1 : Int32) (v : jx_V) (r : Int32) (v' : jx_V) (hF : f_X5_isThing x1 v = some (r, v')) : jx_Ci l D vwCl 13 cI cJ ad shM A ex_M yX5_isThing (Cond.code yX5_isThing cX5_isThing 2 (some .boolean) :: bigT) rm_X5_isThing [.ref (ad 0), .int x1] v r v' := by
  unfold f_X5_isThing at hF
  refine jx_enteri bigT RX5 cX5_isThing 2 (some .boolean) [(0, .ref (ad 0)), (1, .int x1)] hI (ex_M_ok A) (by decide +kernel) rfl (Nat.le_of_ble_eq_true rfl) rfl rfl ?_
  intro p e s m args below meth c E
  refine jx_aload_n E dX5_isThing_0 0 rfl ?_
  refine jx_iload_n E dX5_isThing_1 1 rfl ?_
  refine jx_iconst (x := 0) E dX5_isThing_2 (by decide) ?_
  obtain ⟨⟨r1, v1⟩, hc1, hF⟩ := jx_bind hF
  try dsimp only at hF
  refine jx_callVi (As := [.int x1, .int 0]) (st := []) (h := 0) E dX5_isThing_3 2 rfl (k_X5_its hI x1 0 v r1 v1 hc1) (gb_V (List.mem_cons_of_mem _ tw_335) (List.mem_cons_of_mem _ tw_336) (List.mem_cons_of_mem _ tw_337) (List.mem_cons_of_mem _ tw_325) tw_334) rfl rfl rfl dd_X5_its rfl (Nat.le_of_ble_eq_true rfl) s_M0 rfl ⟨by decide, by decide⟩ ⟨Nat.le_refl 0, Nat.le_refl 0⟩ (Nat.le_of_ble_eq_true rfl) ?_
  refine jx_if_lt (tgt := 13) E dX5_isThing_6 (by decide) (fun hc2 => ?_) (fun hc2 => ?_)
  · rw [if_pos hc2] at hF
    refine jx_iconst (x := 0) E dX5_isThing_13 (by decide) ?_
    obtain ⟨rfl, rfl⟩ := jx_out hF
    exact jx_zret E dX5_isThing_14 rfl (Or.inl rfl)
  · rw [if_neg hc2] at hF
    refine jx_iconst (x := 1) E dX5_isThing_9 (by decide) ?_
    refine jx_goto (tgt := 14) E dX5_isThing_10 (by decide) ?_
    obtain ⟨rfl, rfl⟩ := jx_out hF
    exact jx_zret E dX5_isThing_14 rfl (Or.inr rfl)
def f_X5_things_L  : Nat → Int32 → Int32 → jx_V → Option (Int32 × jx_V)
  | 0, _, _, _ => none
  | n + 1, x1, x2, v => (if 25 ≤ x2 then (some (x1, v)) else ((f_X5_isThing x2 v).bind (fun (r2, v2) => (if r2 = 0 then (f_X5_things_L n (x1 + 0) (x2 + 1) v2) else (f_X5_things_L n (x1 + 1) (x2 + 1) v2)))))
def f_X5_things  (v : jx_V) : Option (Int32 × jx_V) := (f_X5_things_L 100000 0 0 v)
def rm_X5_things : Room := { frames := 3, cells := 0, slots := 0, locals := 64 }
set_option maxHeartbeats 4000000 in
set_option maxRecDepth 100000 in
theorem k_X5_things {l : Launch} {D : va_G} {cI cJ : ClassId} {ad : Nat → Nat} {A : Nat → Prop} (hI : jx_inj 13 ad A)  (v : jx_V) (r : Int32) (v' : jx_V) (hF : f_X5_things  v = some (r, v')) : jx_Ci l D vwCl 13 cI cJ ad shM A ex_M yX5_things (Cond.code yX5_things cX5_things 3 (some .int) :: bigT) rm_X5_things [.ref (ad 0)] v r v' := by
  unfold f_X5_things at hF
  refine jx_enteri bigT RX5 cX5_things 3 (some .int) [(0, .ref (ad 0))] hI (ex_M_ok A) (by decide +kernel) rfl (Nat.le_of_ble_eq_true rfl) rfl rfl ?_
  intro p e s m args below meth c E
  have key : ∀ n : Nat, (∀ (x1 : Int32) (x2 : Int32) (v : jx_V), f_X5_things_L  n  x1 x2 v = some (r, v') → jx_J p l e rm_X5_things s m args below meth c D vwCl 13 cI cJ ad shM A 0 0 3 (MQ below (va_Qi (fun (r1 : Int32) (_ : Unit) => r1 = r) (fun _ t => va_P D vwCl (jx_ws 13 cI cJ ad shM v') t.heap) A) args s 0 0 A) v 4 [(0, .ref (ad 0)), (1, .int x1), (2, .int x2)] []) := by
    intro n
    induction n with
    | zero =>
      exact (fun _ _ _ h => by cases h)
    | succ n ih =>
      intro x1 x2 v hF
      rw [f_X5_things_L] at hF
      refine jx_iload_n E dX5_things_4 2 rfl ?_
      refine jx_bipush (x := 25) E dX5_things_5 (by decide) ?_
      refine jx_icmp_ge (tgt := 32) E dX5_things_7 (by decide) (fun hc1 => ?_) (fun hc1 => ?_)
      · rw [if_pos hc1] at hF
        refine jx_iload_n E dX5_things_32 1 rfl ?_
        obtain ⟨rfl, rfl⟩ := jx_out hF
        exact jx_iret E dX5_things_33 rfl
      · rw [if_neg hc1] at hF
        refine jx_iload_n E dX5_things_10 1 rfl ?_
        refine jx_aload_n E dX5_things_11 0 rfl ?_
        refine jx_iload_n E dX5_things_12 2 rfl ?_
        obtain ⟨⟨r2, v2⟩, hc2, hF⟩ := jx_bind hF
        try dsimp only at hF
        refine jx_callVi (As := [.int x2]) (st := [.int x1]) (h := 0) E dX5_things_13 1 rfl (k_X5_isThing hI x2 v r2 v2 hc2) (gb_V (List.mem_cons_of_mem _ tw_339) (List.mem_cons_of_mem _ tw_340) (List.mem_cons_of_mem _ tw_341) (List.mem_cons_of_mem _ tw_325) tw_338) rfl rfl rfl dd_X5_isThing rfl (Nat.le_of_ble_eq_true rfl) s_M0 rfl ⟨by decide, by decide⟩ ⟨Nat.le_refl 0, Nat.le_refl 0⟩ (Nat.le_of_ble_eq_true rfl) ?_
        refine jx_if_eq (tgt := 23) E dX5_things_16 (by decide) (fun hc3 => ?_) (fun hc3 => ?_)
        · rw [if_pos hc3] at hF
          refine jx_iconst (x := 0) E dX5_things_23 (by decide) ?_
          refine jx_iadd E dX5_things_24 ?_
          refine jx_istore_n (lv' := [(1, .int (x1 + 0)), (0, .ref (ad 0)), (2, .int x2)]) E dX5_things_25 (by decide) rfl ?_
          refine jx_iinc (y := (x2 + 1)) (lv' := [(2, .int (x2 + 1)), (1, .int (x1 + 0)), (0, .ref (ad 0))]) E dX5_things_26 2 rfl rfl (by decide) rfl ?_
          refine jx_goto (tgt := 4) E dX5_things_29 (by decide) ?_
          refine jx_sub [2, 1, 0] rfl ?_
          exact ih (x1 + 0) (x2 + 1) v2 hF
        · rw [if_neg hc3] at hF
          refine jx_iconst (x := 1) E dX5_things_19 (by decide) ?_
          refine jx_goto (tgt := 24) E dX5_things_20 (by decide) ?_
          refine jx_iadd E dX5_things_24 ?_
          refine jx_istore_n (lv' := [(1, .int (x1 + 1)), (0, .ref (ad 0)), (2, .int x2)]) E dX5_things_25 (by decide) rfl ?_
          refine jx_iinc (y := (x2 + 1)) (lv' := [(2, .int (x2 + 1)), (1, .int (x1 + 1)), (0, .ref (ad 0))]) E dX5_things_26 2 rfl rfl (by decide) rfl ?_
          refine jx_goto (tgt := 4) E dX5_things_29 (by decide) ?_
          refine jx_sub [2, 1, 0] rfl ?_
          exact ih (x1 + 1) (x2 + 1) v2 hF
  refine jx_iconst (x := 0) E dX5_things_0 (by decide) ?_
  refine jx_istore_n (lv' := [(1, .int 0), (0, .ref (ad 0))]) E dX5_things_1 (by decide) rfl ?_
  refine jx_iconst (x := 0) E dX5_things_2 (by decide) ?_
  refine jx_istore_n (lv' := [(2, .int 0), (1, .int 0), (0, .ref (ad 0))]) E dX5_things_3 (by decide) rfl ?_
  refine jx_sub [2, 1, 0] rfl ?_
  exact (key 100000) 0 0 v hF
def f_X5_builds (x1 : Int32) (x2 : Int32) (x3 : Int32) (x4 : Int32) (x5 : Int32) (v : jx_V) : Option (jx_V) := ((f_X5_at x1 0 v).bind (fun (r1, v1) => (if (r1 < 0 ∨ 181 ≤ Int32.toNatClampNeg r1) then none else ((f_X5_at x1 1 (jx_up v1 1 (Int32.toNatClampNeg r1) x2)).bind (fun (r3, v3) => (if (r3 < 0 ∨ 181 ≤ Int32.toNatClampNeg r3) then none else ((f_X5_at x1 2 (jx_up v3 1 (Int32.toNatClampNeg r3) x3)).bind (fun (r5, v5) => (if (r5 < 0 ∨ 181 ≤ Int32.toNatClampNeg r5) then none else ((f_X5_at x1 3 (jx_up v5 1 (Int32.toNatClampNeg r5) x4)).bind (fun (r7, v7) => (if (r7 < 0 ∨ 181 ≤ Int32.toNatClampNeg r7) then none else (some (jx_up v7 1 (Int32.toNatClampNeg r7) x5))))))))))))))
def rm_X5_builds : Room := { frames := 1, cells := 0, slots := 0, locals := 21 }
set_option maxHeartbeats 4000000 in
set_option maxRecDepth 100000 in
theorem k_X5_builds {l : Launch} {D : va_G} {cI cJ : ClassId} {ad : Nat → Nat} {A : Nat → Prop} (hI : jx_inj 13 ad A) (x1 : Int32) (x2 : Int32) (x3 : Int32) (x4 : Int32) (x5 : Int32) (v : jx_V) (v' : jx_V) (hF : f_X5_builds x1 x2 x3 x4 x5 v = some v') : jx_Cv l D vwCl 13 cI cJ ad shM A ex_M yX5_builds (Cond.code yX5_builds cX5_builds 6 (none) :: bigT) rm_X5_builds [.ref (ad 0), .int x1, .int x2, .int x3, .int x4, .int x5] v v' := by
  unfold f_X5_builds at hF
  refine jx_enterv bigT RX5 cX5_builds 6 (none) [(0, .ref (ad 0)), (1, .int x1), (2, .int x2), (3, .int x3), (4, .int x4), (5, .int x5)] hI (ex_M_ok A) (by decide +kernel) rfl (Nat.le_of_ble_eq_true rfl) rfl rfl ?_
  intro p e s m args below meth c E
  have iX5 : ∀ w ∈ u_ws RX5 TX5 21, w ∈ (Cond.code yX5_builds cX5_builds 6 (none) :: bigT) := fun w h => List.mem_cons_of_mem _ (uw_X5 w h)
  refine jx_aload_n E dX5_builds_0 0 rfl ?_
  refine jx_getr (C := RX5) (T := TX5) (M := 21) (k := 0) E dX5_builds_1 (Nat.le_of_ble_eq_true rfl) s_M0 rfl iX5 (by decide) rfl (List.mem_cons_of_mem _ tw_328) rfl ?_
  refine jx_iload_n E dX5_builds_4 1 rfl ?_
  refine jx_iconst (x := 0) E dX5_builds_5 (by decide) ?_
  obtain ⟨⟨r1, v1⟩, hc1, hF⟩ := jx_bind hF
  try dsimp only at hF
  refine jx_callSi (As := [.int x1, .int 0]) (st := [.ref (ad 1)]) E dX5_builds_6 2 rfl (k_X5_at hI x1 0 v r1 v1 hc1) (gb_S (List.mem_cons_of_mem _ tw_332) (List.mem_cons_of_mem _ tw_333) (List.mem_cons_of_mem _ tw_325) tw_331) rfl rfl rfl dd_X5_at rfl ⟨by decide, by decide⟩ ⟨Nat.le_refl 0, Nat.le_refl 0⟩ (Nat.le_of_ble_eq_true rfl) ?_
  refine jx_iload_n E dX5_builds_9 2 rfl ?_
  obtain ⟨hg2, hF⟩ := jx_guard hF
  refine jx_iast (h := 1) (j := (Int32.toNatClampNeg r1)) E dX5_builds_10 (Nat.le_of_ble_eq_true rfl) s_M1 hg2 rfl ?_
  refine jx_aload_n E dX5_builds_11 0 rfl ?_
  refine jx_getr (C := RX5) (T := TX5) (M := 21) (k := 0) E dX5_builds_12 (Nat.le_of_ble_eq_true rfl) s_M0 rfl iX5 (by decide) rfl (List.mem_cons_of_mem _ tw_328) rfl ?_
  refine jx_iload_n E dX5_builds_15 1 rfl ?_
  refine jx_iconst (x := 1) E dX5_builds_16 (by decide) ?_
  obtain ⟨⟨r3, v3⟩, hc3, hF⟩ := jx_bind hF
  try dsimp only at hF
  refine jx_callSi (As := [.int x1, .int 1]) (st := [.ref (ad 1)]) E dX5_builds_17 2 rfl (k_X5_at hI x1 1 (jx_up v1 1 (Int32.toNatClampNeg r1) x2) r3 v3 hc3) (gb_S (List.mem_cons_of_mem _ tw_332) (List.mem_cons_of_mem _ tw_333) (List.mem_cons_of_mem _ tw_325) tw_331) rfl rfl rfl dd_X5_at rfl ⟨by decide, by decide⟩ ⟨Nat.le_refl 0, Nat.le_refl 0⟩ (Nat.le_of_ble_eq_true rfl) ?_
  refine jx_iload_n E dX5_builds_20 3 rfl ?_
  obtain ⟨hg4, hF⟩ := jx_guard hF
  refine jx_iast (h := 1) (j := (Int32.toNatClampNeg r3)) E dX5_builds_21 (Nat.le_of_ble_eq_true rfl) s_M1 hg4 rfl ?_
  refine jx_aload_n E dX5_builds_22 0 rfl ?_
  refine jx_getr (C := RX5) (T := TX5) (M := 21) (k := 0) E dX5_builds_23 (Nat.le_of_ble_eq_true rfl) s_M0 rfl iX5 (by decide) rfl (List.mem_cons_of_mem _ tw_328) rfl ?_
  refine jx_iload_n E dX5_builds_26 1 rfl ?_
  refine jx_iconst (x := 2) E dX5_builds_27 (by decide) ?_
  obtain ⟨⟨r5, v5⟩, hc5, hF⟩ := jx_bind hF
  try dsimp only at hF
  refine jx_callSi (As := [.int x1, .int 2]) (st := [.ref (ad 1)]) E dX5_builds_28 2 rfl (k_X5_at hI x1 2 (jx_up v3 1 (Int32.toNatClampNeg r3) x3) r5 v5 hc5) (gb_S (List.mem_cons_of_mem _ tw_332) (List.mem_cons_of_mem _ tw_333) (List.mem_cons_of_mem _ tw_325) tw_331) rfl rfl rfl dd_X5_at rfl ⟨by decide, by decide⟩ ⟨Nat.le_refl 0, Nat.le_refl 0⟩ (Nat.le_of_ble_eq_true rfl) ?_
  refine jx_iload E dX5_builds_31 4 rfl ?_
  obtain ⟨hg6, hF⟩ := jx_guard hF
  refine jx_iast (h := 1) (j := (Int32.toNatClampNeg r5)) E dX5_builds_33 (Nat.le_of_ble_eq_true rfl) s_M1 hg6 rfl ?_
  refine jx_aload_n E dX5_builds_34 0 rfl ?_
  refine jx_getr (C := RX5) (T := TX5) (M := 21) (k := 0) E dX5_builds_35 (Nat.le_of_ble_eq_true rfl) s_M0 rfl iX5 (by decide) rfl (List.mem_cons_of_mem _ tw_328) rfl ?_
  refine jx_iload_n E dX5_builds_38 1 rfl ?_
  refine jx_iconst (x := 3) E dX5_builds_39 (by decide) ?_
  obtain ⟨⟨r7, v7⟩, hc7, hF⟩ := jx_bind hF
  try dsimp only at hF
  refine jx_callSi (As := [.int x1, .int 3]) (st := [.ref (ad 1)]) E dX5_builds_40 2 rfl (k_X5_at hI x1 3 (jx_up v5 1 (Int32.toNatClampNeg r5) x4) r7 v7 hc7) (gb_S (List.mem_cons_of_mem _ tw_332) (List.mem_cons_of_mem _ tw_333) (List.mem_cons_of_mem _ tw_325) tw_331) rfl rfl rfl dd_X5_at rfl ⟨by decide, by decide⟩ ⟨Nat.le_refl 0, Nat.le_refl 0⟩ (Nat.le_of_ble_eq_true rfl) ?_
  refine jx_iload E dX5_builds_43 5 rfl ?_
  obtain ⟨hg8, hF⟩ := jx_guard hF
  refine jx_iast (h := 1) (j := (Int32.toNatClampNeg r7)) E dX5_builds_45 (Nat.le_of_ble_eq_true rfl) s_M1 hg8 rfl ?_
  obtain rfl := Option.some.inj hF
  exact jx_vret E dX5_builds_46 rfl
def f_X5_build (x1 : Int32) (x2 : Int32) (x3 : Int32) (x4 : Int32) (v : jx_V) : Option (Int32 × jx_V) := ((f_X5_in (Int32.toInt64 x1) 0 6 v).bind (fun (r1, v1) => (if r1 = 0 then ((f_X5_finds (-1000001) v1).bind (fun (r3, v3) => (some (r3, v3)))) else ((f_X5_isLot x2 v1).bind (fun (r4, v4) => (if r4 = 0 then ((f_X5_finds (-1000001) v4).bind (fun (r6, v6) => (some (r6, v6)))) else ((f_X5_isOwner x3 v4).bind (fun (r7, v7) => (if r7 = 0 then ((f_X5_finds (-1000001) v7).bind (fun (r9, v9) => (some (r9, v9)))) else ((f_X5_isHeight x4 v7).bind (fun (r10, v10) => (if r10 = 0 then ((f_X5_finds (-1000001) v10).bind (fun (r17, v17) => (some (r17, v17)))) else ((f_X5_isThing x2 v10).bind (fun (r12, v12) => (if r12 = 0 then ((f_X5_builds x2 x1 x3 x4 0 v12).bind (fun v14 => ((f_X5_things v14).bind (fun (r15, v15) => (some (r15, v15)))))) else ((f_X5_finds (-1000005) v12).bind (fun (r16, v16) => (some (r16, v16)))))))))))))))))))
def rm_X5_build : Room := { frames := 4, cells := 0, slots := 0, locals := 86 }
set_option maxHeartbeats 4000000 in
set_option maxRecDepth 100000 in
theorem k_X5_build {l : Launch} {D : va_G} {cI cJ : ClassId} {ad : Nat → Nat} {A : Nat → Prop} (hI : jx_inj 13 ad A) (x1 : Int32) (x2 : Int32) (x3 : Int32) (x4 : Int32) (v : jx_V) (r : Int32) (v' : jx_V) (hF : f_X5_build x1 x2 x3 x4 v = some (r, v')) : jx_Ci l D vwCl 13 cI cJ ad shM A ex_M yX5_build (Cond.code yX5_build cX5_build 5 (some .int) :: bigT) rm_X5_build [.ref (ad 0), .int x1, .int x2, .int x3, .int x4] v r v' := by
  unfold f_X5_build at hF
  refine jx_enteri bigT RX5 cX5_build 5 (some .int) [(0, .ref (ad 0)), (1, .int x1), (2, .int x2), (3, .int x3), (4, .int x4)] hI (ex_M_ok A) (by decide +kernel) rfl (Nat.le_of_ble_eq_true rfl) rfl rfl ?_
  intro p e s m args below meth c E
  refine jx_iload_n E dX5_build_0 1 rfl ?_
  refine jx_i2l E dX5_build_1 ?_
  refine jx_lconst (x := 0) E dX5_build_2 (by decide) ?_
  refine jx_ldc2 (x := 6) E dX5_build_3 (List.mem_cons_of_mem _ tw_342) ?_
  obtain ⟨⟨r1, v1⟩, hc1, hF⟩ := jx_bind hF
  try dsimp only at hF
  refine jx_callSi (As := [.long (Int32.toInt64 x1), .long 0, .long 6]) (st := []) E dX5_build_6 3 rfl (k_X5_in hI (Int32.toInt64 x1) 0 6 v r1 v1 hc1) (gb_S (List.mem_cons_of_mem _ tw_323) (List.mem_cons_of_mem _ tw_324) (List.mem_cons_of_mem _ tw_325) tw_322) rfl rfl rfl dd_X5_in rfl ⟨by decide, by decide⟩ ⟨Nat.le_refl 0, Nat.le_refl 0⟩ (Nat.le_of_ble_eq_true rfl) ?_
  refine jx_if_eq (tgt := 34) E dX5_build_9 (by decide) (fun hc2 => ?_) (fun hc2 => ?_)
  · rw [if_pos hc2] at hF
    refine jx_aload_n E dX5_build_34 0 rfl ?_
    refine jx_ldc (x := -1000001) E dX5_build_35 (List.mem_cons_of_mem _ tw_320) ?_
    obtain ⟨⟨r3, v3⟩, hc3, hF⟩ := jx_bind hF
    try dsimp only at hF
    refine jx_callVi (As := [.int (-1000001)]) (st := []) (h := 0) E dX5_build_37 1 rfl (k_X5_finds hI (-1000001) v1 r3 v3 hc3) (gb_V (List.mem_cons_of_mem _ tw_344) (List.mem_cons_of_mem _ tw_345) (List.mem_cons_of_mem _ tw_346) (List.mem_cons_of_mem _ tw_325) tw_343) rfl rfl rfl dd_X5_finds rfl (Nat.le_of_ble_eq_true rfl) s_M0 rfl ⟨by decide, by decide⟩ ⟨Nat.le_refl 0, Nat.le_refl 0⟩ (Nat.le_of_ble_eq_true rfl) ?_
    obtain ⟨rfl, rfl⟩ := jx_out hF
    exact jx_iret E dX5_build_40 rfl
  · rw [if_neg hc2] at hF
    refine jx_iload_n E dX5_build_12 2 rfl ?_
    obtain ⟨⟨r4, v4⟩, hc4, hF⟩ := jx_bind hF
    try dsimp only at hF
    refine jx_callSi (As := [.int x2]) (st := []) E dX5_build_13 1 rfl (k_X5_isLot hI x2 v1 r4 v4 hc4) (gb_S (List.mem_cons_of_mem _ tw_348) (List.mem_cons_of_mem _ tw_349) (List.mem_cons_of_mem _ tw_325) tw_347) rfl rfl rfl dd_X5_isLot rfl ⟨by decide, by decide⟩ ⟨Nat.le_refl 0, Nat.le_refl 0⟩ (Nat.le_of_ble_eq_true rfl) ?_
    refine jx_if_eq (tgt := 34) E dX5_build_16 (by decide) (fun hc5 => ?_) (fun hc5 => ?_)
    · rw [if_pos hc5] at hF
      refine jx_aload_n E dX5_build_34 0 rfl ?_
      refine jx_ldc (x := -1000001) E dX5_build_35 (List.mem_cons_of_mem _ tw_320) ?_
      obtain ⟨⟨r6, v6⟩, hc6, hF⟩ := jx_bind hF
      try dsimp only at hF
      refine jx_callVi (As := [.int (-1000001)]) (st := []) (h := 0) E dX5_build_37 1 rfl (k_X5_finds hI (-1000001) v4 r6 v6 hc6) (gb_V (List.mem_cons_of_mem _ tw_344) (List.mem_cons_of_mem _ tw_345) (List.mem_cons_of_mem _ tw_346) (List.mem_cons_of_mem _ tw_325) tw_343) rfl rfl rfl dd_X5_finds rfl (Nat.le_of_ble_eq_true rfl) s_M0 rfl ⟨by decide, by decide⟩ ⟨Nat.le_refl 0, Nat.le_refl 0⟩ (Nat.le_of_ble_eq_true rfl) ?_
      obtain ⟨rfl, rfl⟩ := jx_out hF
      exact jx_iret E dX5_build_40 rfl
    · rw [if_neg hc5] at hF
      refine jx_iload_n E dX5_build_19 3 rfl ?_
      obtain ⟨⟨r7, v7⟩, hc7, hF⟩ := jx_bind hF
      try dsimp only at hF
      refine jx_callSi (As := [.int x3]) (st := []) E dX5_build_20 1 rfl (k_X5_isOwner hI x3 v4 r7 v7 hc7) (gb_S (List.mem_cons_of_mem _ tw_351) (List.mem_cons_of_mem _ tw_352) (List.mem_cons_of_mem _ tw_325) tw_350) rfl rfl rfl dd_X5_isOwner rfl ⟨by decide, by decide⟩ ⟨Nat.le_refl 0, Nat.le_refl 0⟩ (Nat.le_of_ble_eq_true rfl) ?_
      refine jx_if_eq (tgt := 34) E dX5_build_23 (by decide) (fun hc8 => ?_) (fun hc8 => ?_)
      · rw [if_pos hc8] at hF
        refine jx_aload_n E dX5_build_34 0 rfl ?_
        refine jx_ldc (x := -1000001) E dX5_build_35 (List.mem_cons_of_mem _ tw_320) ?_
        obtain ⟨⟨r9, v9⟩, hc9, hF⟩ := jx_bind hF
        try dsimp only at hF
        refine jx_callVi (As := [.int (-1000001)]) (st := []) (h := 0) E dX5_build_37 1 rfl (k_X5_finds hI (-1000001) v7 r9 v9 hc9) (gb_V (List.mem_cons_of_mem _ tw_344) (List.mem_cons_of_mem _ tw_345) (List.mem_cons_of_mem _ tw_346) (List.mem_cons_of_mem _ tw_325) tw_343) rfl rfl rfl dd_X5_finds rfl (Nat.le_of_ble_eq_true rfl) s_M0 rfl ⟨by decide, by decide⟩ ⟨Nat.le_refl 0, Nat.le_refl 0⟩ (Nat.le_of_ble_eq_true rfl) ?_
        obtain ⟨rfl, rfl⟩ := jx_out hF
        exact jx_iret E dX5_build_40 rfl
      · rw [if_neg hc8] at hF
        refine jx_iload E dX5_build_26 4 rfl ?_
        obtain ⟨⟨r10, v10⟩, hc10, hF⟩ := jx_bind hF
        try dsimp only at hF
        refine jx_callSi (As := [.int x4]) (st := []) E dX5_build_28 1 rfl (k_X5_isHeight hI x4 v7 r10 v10 hc10) (gb_S (List.mem_cons_of_mem _ tw_354) (List.mem_cons_of_mem _ tw_355) (List.mem_cons_of_mem _ tw_325) tw_353) rfl rfl rfl dd_X5_isHeight rfl ⟨by decide, by decide⟩ ⟨Nat.le_refl 0, Nat.le_refl 0⟩ (Nat.le_of_ble_eq_true rfl) ?_
        refine jx_if_ne (tgt := 41) E dX5_build_31 (by decide) (fun hc11 => ?_) (fun hc11 => ?_)
        · rw [if_neg hc11] at hF
          refine jx_aload_n E dX5_build_41 0 rfl ?_
          refine jx_iload_n E dX5_build_42 2 rfl ?_
          obtain ⟨⟨r12, v12⟩, hc12, hF⟩ := jx_bind hF
          try dsimp only at hF
          refine jx_callVi (As := [.int x2]) (st := []) (h := 0) E dX5_build_43 1 rfl (k_X5_isThing hI x2 v10 r12 v12 hc12) (gb_V (List.mem_cons_of_mem _ tw_339) (List.mem_cons_of_mem _ tw_340) (List.mem_cons_of_mem _ tw_341) (List.mem_cons_of_mem _ tw_325) tw_338) rfl rfl rfl dd_X5_isThing rfl (Nat.le_of_ble_eq_true rfl) s_M0 rfl ⟨by decide, by decide⟩ ⟨Nat.le_refl 0, Nat.le_refl 0⟩ (Nat.le_of_ble_eq_true rfl) ?_
          refine jx_if_eq (tgt := 56) E dX5_build_46 (by decide) (fun hc13 => ?_) (fun hc13 => ?_)
          · rw [if_pos hc13] at hF
            refine jx_aload_n E dX5_build_56 0 rfl ?_
            refine jx_iload_n E dX5_build_57 2 rfl ?_
            refine jx_iload_n E dX5_build_58 1 rfl ?_
            refine jx_iload_n E dX5_build_59 3 rfl ?_
            refine jx_iload E dX5_build_60 4 rfl ?_
            refine jx_iconst (x := 0) E dX5_build_62 (by decide) ?_
            obtain ⟨v14, hc14, hF⟩ := jx_bind hF
            try dsimp only at hF
            refine jx_callVv (As := [.int x2, .int x1, .int x3, .int x4, .int 0]) (st := []) (h := 0) E dX5_build_63 5 rfl (k_X5_builds hI x2 x1 x3 x4 0 v12 v14 hc14) (gb_V (List.mem_cons_of_mem _ tw_357) (List.mem_cons_of_mem _ tw_358) (List.mem_cons_of_mem _ tw_359) (List.mem_cons_of_mem _ tw_325) tw_356) rfl rfl rfl dd_X5_builds rfl (Nat.le_of_ble_eq_true rfl) s_M0 rfl ⟨by decide, by decide⟩ ⟨Nat.le_refl 0, Nat.le_refl 0⟩ (Nat.le_of_ble_eq_true rfl) ?_
            refine jx_aload_n E dX5_build_66 0 rfl ?_
            obtain ⟨⟨r15, v15⟩, hc15, hF⟩ := jx_bind hF
            try dsimp only at hF
            refine jx_callVi (As := []) (st := []) (h := 0) E dX5_build_67 0 rfl (k_X5_things hI  v14 r15 v15 hc15) (gb_V (List.mem_cons_of_mem _ tw_361) (List.mem_cons_of_mem _ tw_362) (List.mem_cons_of_mem _ tw_363) (List.mem_cons_of_mem _ tw_325) tw_360) rfl rfl rfl dd_X5_things rfl (Nat.le_of_ble_eq_true rfl) s_M0 rfl ⟨by decide, by decide⟩ ⟨Nat.le_refl 0, Nat.le_refl 0⟩ (Nat.le_of_ble_eq_true rfl) ?_
            obtain ⟨rfl, rfl⟩ := jx_out hF
            exact jx_iret E dX5_build_70 rfl
          · rw [if_neg hc13] at hF
            refine jx_aload_n E dX5_build_49 0 rfl ?_
            refine jx_ldc (x := -1000005) E dX5_build_50 (List.mem_cons_of_mem _ tw_364) ?_
            obtain ⟨⟨r16, v16⟩, hc16, hF⟩ := jx_bind hF
            try dsimp only at hF
            refine jx_callVi (As := [.int (-1000005)]) (st := []) (h := 0) E dX5_build_52 1 rfl (k_X5_finds hI (-1000005) v12 r16 v16 hc16) (gb_V (List.mem_cons_of_mem _ tw_344) (List.mem_cons_of_mem _ tw_345) (List.mem_cons_of_mem _ tw_346) (List.mem_cons_of_mem _ tw_325) tw_343) rfl rfl rfl dd_X5_finds rfl (Nat.le_of_ble_eq_true rfl) s_M0 rfl ⟨by decide, by decide⟩ ⟨Nat.le_refl 0, Nat.le_refl 0⟩ (Nat.le_of_ble_eq_true rfl) ?_
            obtain ⟨rfl, rfl⟩ := jx_out hF
            exact jx_iret E dX5_build_55 rfl
        · rw [if_pos hc11] at hF
          refine jx_aload_n E dX5_build_34 0 rfl ?_
          refine jx_ldc (x := -1000001) E dX5_build_35 (List.mem_cons_of_mem _ tw_320) ?_
          obtain ⟨⟨r17, v17⟩, hc17, hF⟩ := jx_bind hF
          try dsimp only at hF
          refine jx_callVi (As := [.int (-1000001)]) (st := []) (h := 0) E dX5_build_37 1 rfl (k_X5_finds hI (-1000001) v10 r17 v17 hc17) (gb_V (List.mem_cons_of_mem _ tw_344) (List.mem_cons_of_mem _ tw_345) (List.mem_cons_of_mem _ tw_346) (List.mem_cons_of_mem _ tw_325) tw_343) rfl rfl rfl dd_X5_finds rfl (Nat.le_of_ble_eq_true rfl) s_M0 rfl ⟨by decide, by decide⟩ ⟨Nat.le_refl 0, Nat.le_refl 0⟩ (Nat.le_of_ble_eq_true rfl) ?_
          obtain ⟨rfl, rfl⟩ := jx_out hF
          exact jx_iret E dX5_build_40 rfl
def f_X5_lotWrong (x1 : Int32) (v : jx_V) : Option (Int32 × jx_V) := ((f_X5_isLot x1 v).bind (fun (r1, v1) => (if r1 = 0 then (some ((-1000001), v1)) else ((f_X5_isThing x1 v1).bind (fun (r3, v3) => (if r3 = 0 then (some ((-1000004), v3)) else (some (0, v3))))))))
def rm_X5_lotWrong : Room := { frames := 3, cells := 0, slots := 0, locals := 64 }
set_option maxHeartbeats 4000000 in
set_option maxRecDepth 100000 in
theorem k_X5_lotWrong {l : Launch} {D : va_G} {cI cJ : ClassId} {ad : Nat → Nat} {A : Nat → Prop} (hI : jx_inj 13 ad A) (x1 : Int32) (v : jx_V) (r : Int32) (v' : jx_V) (hF : f_X5_lotWrong x1 v = some (r, v')) : jx_Ci l D vwCl 13 cI cJ ad shM A ex_M yX5_lotWrong (Cond.code yX5_lotWrong cX5_lotWrong 2 (some .int) :: bigT) rm_X5_lotWrong [.ref (ad 0), .int x1] v r v' := by
  unfold f_X5_lotWrong at hF
  refine jx_enteri bigT RX5 cX5_lotWrong 2 (some .int) [(0, .ref (ad 0)), (1, .int x1)] hI (ex_M_ok A) (by decide +kernel) rfl (Nat.le_of_ble_eq_true rfl) rfl rfl ?_
  intro p e s m args below meth c E
  refine jx_iload_n E dX5_lotWrong_0 1 rfl ?_
  obtain ⟨⟨r1, v1⟩, hc1, hF⟩ := jx_bind hF
  try dsimp only at hF
  refine jx_callSi (As := [.int x1]) (st := []) E dX5_lotWrong_1 1 rfl (k_X5_isLot hI x1 v r1 v1 hc1) (gb_S (List.mem_cons_of_mem _ tw_348) (List.mem_cons_of_mem _ tw_349) (List.mem_cons_of_mem _ tw_325) tw_347) rfl rfl rfl dd_X5_isLot rfl ⟨by decide, by decide⟩ ⟨Nat.le_refl 0, Nat.le_refl 0⟩ (Nat.le_of_ble_eq_true rfl) ?_
  refine jx_if_ne (tgt := 12) E dX5_lotWrong_4 (by decide) (fun hc2 => ?_) (fun hc2 => ?_)
  · rw [if_neg hc2] at hF
    refine jx_aload_n E dX5_lotWrong_12 0 rfl ?_
    refine jx_iload_n E dX5_lotWrong_13 1 rfl ?_
    obtain ⟨⟨r3, v3⟩, hc3, hF⟩ := jx_bind hF
    try dsimp only at hF
    refine jx_callVi (As := [.int x1]) (st := []) (h := 0) E dX5_lotWrong_14 1 rfl (k_X5_isThing hI x1 v1 r3 v3 hc3) (gb_V (List.mem_cons_of_mem _ tw_339) (List.mem_cons_of_mem _ tw_340) (List.mem_cons_of_mem _ tw_341) (List.mem_cons_of_mem _ tw_325) tw_338) rfl rfl rfl dd_X5_isThing rfl (Nat.le_of_ble_eq_true rfl) s_M0 rfl ⟨by decide, by decide⟩ ⟨Nat.le_refl 0, Nat.le_refl 0⟩ (Nat.le_of_ble_eq_true rfl) ?_
    refine jx_if_eq (tgt := 24) E dX5_lotWrong_17 (by decide) (fun hc4 => ?_) (fun hc4 => ?_)
    · rw [if_pos hc4] at hF
      refine jx_ldc (x := -1000004) E dX5_lotWrong_24 (List.mem_cons_of_mem _ tw_365) ?_
      obtain ⟨rfl, rfl⟩ := jx_out hF
      exact jx_iret E dX5_lotWrong_26 rfl
    · rw [if_neg hc4] at hF
      refine jx_iconst (x := 0) E dX5_lotWrong_20 (by decide) ?_
      refine jx_goto (tgt := 26) E dX5_lotWrong_21 (by decide) ?_
      obtain ⟨rfl, rfl⟩ := jx_out hF
      exact jx_iret E dX5_lotWrong_26 rfl
  · rw [if_pos hc2] at hF
    refine jx_ldc (x := -1000001) E dX5_lotWrong_7 (List.mem_cons_of_mem _ tw_320) ?_
    refine jx_goto (tgt := 26) E dX5_lotWrong_9 (by decide) ?_
    obtain ⟨rfl, rfl⟩ := jx_out hF
    exact jx_iret E dX5_lotWrong_26 rfl
def f_X5_clear (x1 : Int32) (v : jx_V) : Option (Int32 × jx_V) := ((f_X5_lotWrong x1 v).bind (fun (r1, v1) => (if r1 = 0 then ((f_X5_at x1 0 v1).bind (fun (r3, v3) => (if (r3 < 0 ∨ 181 ≤ Int32.toNatClampNeg r3) then none else ((f_X5_its x1 2 (jx_up v3 1 (Int32.toNatClampNeg r3) (-1))).bind (fun (r5, v5) => (some (r5, v5))))))) else ((f_X5_finds r1 v1).bind (fun (r6, v6) => (some (r6, v6)))))))
def rm_X5_clear : Room := { frames := 4, cells := 0, slots := 0, locals := 85 }
set_option maxHeartbeats 4000000 in
set_option maxRecDepth 100000 in
theorem k_X5_clear {l : Launch} {D : va_G} {cI cJ : ClassId} {ad : Nat → Nat} {A : Nat → Prop} (hI : jx_inj 13 ad A) (x1 : Int32) (v : jx_V) (r : Int32) (v' : jx_V) (hF : f_X5_clear x1 v = some (r, v')) : jx_Ci l D vwCl 13 cI cJ ad shM A ex_M yX5_clear (Cond.code yX5_clear cX5_clear 3 (some .int) :: bigT) rm_X5_clear [.ref (ad 0), .int x1] v r v' := by
  unfold f_X5_clear at hF
  refine jx_enteri bigT RX5 cX5_clear 3 (some .int) [(0, .ref (ad 0)), (1, .int x1)] hI (ex_M_ok A) (by decide +kernel) rfl (Nat.le_of_ble_eq_true rfl) rfl rfl ?_
  intro p e s m args below meth c E
  have iX5 : ∀ w ∈ u_ws RX5 TX5 21, w ∈ (Cond.code yX5_clear cX5_clear 3 (some .int) :: bigT) := fun w h => List.mem_cons_of_mem _ (uw_X5 w h)
  refine jx_aload_n E dX5_clear_0 0 rfl ?_
  refine jx_iload_n E dX5_clear_1 1 rfl ?_
  obtain ⟨⟨r1, v1⟩, hc1, hF⟩ := jx_bind hF
  try dsimp only at hF
  refine jx_callVi (As := [.int x1]) (st := []) (h := 0) E dX5_clear_2 1 rfl (k_X5_lotWrong hI x1 v r1 v1 hc1) (gb_V (List.mem_cons_of_mem _ tw_367) (List.mem_cons_of_mem _ tw_368) (List.mem_cons_of_mem _ tw_369) (List.mem_cons_of_mem _ tw_325) tw_366) rfl rfl rfl dd_X5_lotWrong rfl (Nat.le_of_ble_eq_true rfl) s_M0 rfl ⟨by decide, by decide⟩ ⟨Nat.le_refl 0, Nat.le_refl 0⟩ (Nat.le_of_ble_eq_true rfl) ?_
  refine jx_istore_n (lv' := [(2, .int r1), (0, .ref (ad 0)), (1, .int x1)]) E dX5_clear_5 (by decide) rfl ?_
  refine jx_iload_n E dX5_clear_6 0 rfl ?_
  refine jx_if_eq (tgt := 16) E dX5_clear_7 (by decide) (fun hc2 => ?_) (fun hc2 => ?_)
  · rw [if_pos hc2] at hF
    refine jx_aload_n E dX5_clear_16 1 rfl ?_
    refine jx_getr (C := RX5) (T := TX5) (M := 21) (k := 0) E dX5_clear_17 (Nat.le_of_ble_eq_true rfl) s_M0 rfl iX5 (by decide) rfl (List.mem_cons_of_mem _ tw_328) rfl ?_
    refine jx_iload_n E dX5_clear_20 2 rfl ?_
    refine jx_iconst (x := 0) E dX5_clear_21 (by decide) ?_
    obtain ⟨⟨r3, v3⟩, hc3, hF⟩ := jx_bind hF
    try dsimp only at hF
    refine jx_callSi (As := [.int x1, .int 0]) (st := [.ref (ad 1)]) E dX5_clear_22 2 rfl (k_X5_at hI x1 0 v1 r3 v3 hc3) (gb_S (List.mem_cons_of_mem _ tw_332) (List.mem_cons_of_mem _ tw_333) (List.mem_cons_of_mem _ tw_325) tw_331) rfl rfl rfl dd_X5_at rfl ⟨by decide, by decide⟩ ⟨Nat.le_refl 0, Nat.le_refl 0⟩ (Nat.le_of_ble_eq_true rfl) ?_
    refine jx_iconst (x := -1) E dX5_clear_25 (by decide) ?_
    obtain ⟨hg4, hF⟩ := jx_guard hF
    refine jx_iast (h := 1) (j := (Int32.toNatClampNeg r3)) E dX5_clear_26 (Nat.le_of_ble_eq_true rfl) s_M1 hg4 rfl ?_
    refine jx_aload_n E dX5_clear_27 1 rfl ?_
    refine jx_iload_n E dX5_clear_28 2 rfl ?_
    refine jx_iconst (x := 2) E dX5_clear_29 (by decide) ?_
    obtain ⟨⟨r5, v5⟩, hc5, hF⟩ := jx_bind hF
    try dsimp only at hF
    refine jx_callVi (As := [.int x1, .int 2]) (st := []) (h := 0) E dX5_clear_30 2 rfl (k_X5_its hI x1 2 (jx_up v3 1 (Int32.toNatClampNeg r3) (-1)) r5 v5 hc5) (gb_V (List.mem_cons_of_mem _ tw_335) (List.mem_cons_of_mem _ tw_336) (List.mem_cons_of_mem _ tw_337) (List.mem_cons_of_mem _ tw_325) tw_334) rfl rfl rfl dd_X5_its rfl (Nat.le_of_ble_eq_true rfl) s_M0 rfl ⟨by decide, by decide⟩ ⟨Nat.le_refl 0, Nat.le_refl 0⟩ (Nat.le_of_ble_eq_true rfl) ?_
    obtain ⟨rfl, rfl⟩ := jx_out hF
    exact jx_iret E dX5_clear_33 rfl
  · rw [if_neg hc2] at hF
    refine jx_aload_n E dX5_clear_10 1 rfl ?_
    refine jx_iload_n E dX5_clear_11 0 rfl ?_
    obtain ⟨⟨r6, v6⟩, hc6, hF⟩ := jx_bind hF
    try dsimp only at hF
    refine jx_callVi (As := [.int r1]) (st := []) (h := 0) E dX5_clear_12 1 rfl (k_X5_finds hI r1 v1 r6 v6 hc6) (gb_V (List.mem_cons_of_mem _ tw_344) (List.mem_cons_of_mem _ tw_345) (List.mem_cons_of_mem _ tw_346) (List.mem_cons_of_mem _ tw_325) tw_343) rfl rfl rfl dd_X5_finds rfl (Nat.le_of_ble_eq_true rfl) s_M0 rfl ⟨by decide, by decide⟩ ⟨Nat.le_refl 0, Nat.le_refl 0⟩ (Nat.le_of_ble_eq_true rfl) ?_
    obtain ⟨rfl, rfl⟩ := jx_out hF
    exact jx_iret E dX5_clear_15 rfl
def f_X5_isSummer  (v : jx_V) : Option (Int32 × jx_V) := ((f_X5_in (Int32.toInt64 ((v 1 0) - (v 1 0) / 12 * 12)) 3 8 v).bind (fun (r1, v1) => (if ¬ (r1 = 0 ∨ r1 = 1) then none else some (r1, v1))))
def rm_X5_isSummer : Room := { frames := 1, cells := 0, slots := 0, locals := 25 }
set_option maxHeartbeats 4000000 in
set_option maxRecDepth 100000 in
theorem k_X5_isSummer {l : Launch} {D : va_G} {cI cJ : ClassId} {ad : Nat → Nat} {A : Nat → Prop} (hI : jx_inj 13 ad A)  (v : jx_V) (r : Int32) (v' : jx_V) (hF : f_X5_isSummer  v = some (r, v')) : jx_Ci l D vwCl 13 cI cJ ad shM A ex_M yX5_isSummer (Cond.code yX5_isSummer cX5_isSummer 1 (some .boolean) :: bigT) rm_X5_isSummer [.ref (ad 0)] v r v' := by
  unfold f_X5_isSummer at hF
  refine jx_enteri bigT RX5 cX5_isSummer 1 (some .boolean) [(0, .ref (ad 0))] hI (ex_M_ok A) (by decide +kernel) rfl (Nat.le_of_ble_eq_true rfl) rfl rfl ?_
  intro p e s m args below meth c E
  have iX5 : ∀ w ∈ u_ws RX5 TX5 21, w ∈ (Cond.code yX5_isSummer cX5_isSummer 1 (some .boolean) :: bigT) := fun w h => List.mem_cons_of_mem _ (uw_X5 w h)
  refine jx_aload_n E dX5_isSummer_0 0 rfl ?_
  refine jx_getr (C := RX5) (T := TX5) (M := 21) (k := 0) E dX5_isSummer_1 (Nat.le_of_ble_eq_true rfl) s_M0 rfl iX5 (by decide) rfl (List.mem_cons_of_mem _ tw_328) rfl ?_
  refine jx_iconst (x := 0) E dX5_isSummer_4 (by decide) ?_
  refine jx_iald (h := 1) (j := 0) E dX5_isSummer_5 (Nat.le_of_ble_eq_true rfl) s_M1 (by decide) (by decide) ?_
  refine jx_bipush (x := 12) E dX5_isSummer_6 (by decide) ?_
  refine jx_irem E dX5_isSummer_8 (by decide) ?_
  refine jx_i2l E dX5_isSummer_9 ?_
  refine jx_ldc2 (x := 3) E dX5_isSummer_10 (List.mem_cons_of_mem _ tw_326) ?_
  refine jx_ldc2 (x := 8) E dX5_isSummer_13 (List.mem_cons_of_mem _ tw_370) ?_
  obtain ⟨⟨r1, v1⟩, hc1, hF⟩ := jx_bind hF
  try dsimp only at hF
  refine jx_callSi (As := [.long (Int32.toInt64 ((v 1 0) - (v 1 0) / 12 * 12)), .long 3, .long 8]) (st := []) E dX5_isSummer_16 3 rfl (k_X5_in hI (Int32.toInt64 ((v 1 0) - (v 1 0) / 12 * 12)) 3 8 v r1 v1 hc1) (gb_S (List.mem_cons_of_mem _ tw_323) (List.mem_cons_of_mem _ tw_324) (List.mem_cons_of_mem _ tw_325) tw_322) rfl rfl rfl dd_X5_in rfl ⟨by decide, by decide⟩ ⟨Nat.le_refl 0, Nat.le_refl 0⟩ (Nat.le_of_ble_eq_true rfl) ?_
  obtain ⟨hg2, hF⟩ := jx_guard hF
  obtain ⟨rfl, rfl⟩ := jx_out hF
  exact jx_zret E dX5_isSummer_19 rfl (Decidable.not_not.mp hg2)
def f_X5_stands (x1 : Int32) (v : jx_V) : Option (Int32 × jx_V) := ((f_X5_its x1 2 v).bind (fun (r1, v1) => ((f_X5_its x1 0 v1).bind (fun (r2, v2) => (if r2 = 1 then ((f_X5_isSummer v2).bind (fun (r4, v4) => (if r4 = 0 then (if 9 ≤ (r1 + 0) then (some (9, v4)) else (some ((r1 + 0), v4))) else (if 9 ≤ (r1 + 2) then (some (9, v4)) else (some ((r1 + 2), v4)))))) else (if r2 = 2 then (if 9 ≤ r1 then (some (9, v2)) else (some (r1, v2))) else (if r2 = 3 then ((f_X5_isSummer v2).bind (fun (r11, v11) => (if r11 = 0 then (if 9 ≤ (r1 + 0) then (some (9, v11)) else (some ((r1 + 0), v11))) else (if 9 ≤ (r1 + 2) then (some (9, v11)) else (some ((r1 + 2), v11)))))) else (if r2 = 4 then (if ((v2 1 0) - (v2 1 0) / 2 * 2) = 1 then (if (9 : Int32) ≤ (0 : Int32) then (some (9, v2)) else (some (0, v2))) else (if 9 ≤ r1 then (some (9, v2)) else (some (r1, v2)))) else (if r2 = 5 then (if 9 ≤ r1 then (some (9, v2)) else (some (r1, v2))) else (if r2 = 6 then (if 9 ≤ (r1 + 3) then (some (9, v2)) else (some ((r1 + 3), v2))) else (if 9 ≤ r1 then (some (9, v2)) else (some (r1, v2)))))))))))))
def rm_X5_stands : Room := { frames := 2, cells := 0, slots := 0, locals := 45 }
set_option maxHeartbeats 4000000 in
set_option maxRecDepth 100000 in
theorem k_X5_stands {l : Launch} {D : va_G} {cI cJ : ClassId} {ad : Nat → Nat} {A : Nat → Prop} (hI : jx_inj 13 ad A) (x1 : Int32) (v : jx_V) (r : Int32) (v' : jx_V) (hF : f_X5_stands x1 v = some (r, v')) : jx_Ci l D vwCl 13 cI cJ ad shM A ex_M yX5_stands (Cond.code yX5_stands cX5_stands 4 (some .int) :: bigT) rm_X5_stands [.ref (ad 0), .int x1] v r v' := by
  unfold f_X5_stands at hF
  refine jx_enteri bigT RX5 cX5_stands 4 (some .int) [(0, .ref (ad 0)), (1, .int x1)] hI (ex_M_ok A) (by decide +kernel) rfl (Nat.le_of_ble_eq_true rfl) rfl rfl ?_
  intro p e s m args below meth c E
  have iX5 : ∀ w ∈ u_ws RX5 TX5 21, w ∈ (Cond.code yX5_stands cX5_stands 4 (some .int) :: bigT) := fun w h => List.mem_cons_of_mem _ (uw_X5 w h)
  refine jx_aload_n E dX5_stands_0 0 rfl ?_
  refine jx_iload_n E dX5_stands_1 1 rfl ?_
  refine jx_iconst (x := 2) E dX5_stands_2 (by decide) ?_
  obtain ⟨⟨r1, v1⟩, hc1, hF⟩ := jx_bind hF
  try dsimp only at hF
  refine jx_callVi (As := [.int x1, .int 2]) (st := []) (h := 0) E dX5_stands_3 2 rfl (k_X5_its hI x1 2 v r1 v1 hc1) (gb_V (List.mem_cons_of_mem _ tw_335) (List.mem_cons_of_mem _ tw_336) (List.mem_cons_of_mem _ tw_337) (List.mem_cons_of_mem _ tw_325) tw_334) rfl rfl rfl dd_X5_its rfl (Nat.le_of_ble_eq_true rfl) s_M0 rfl ⟨by decide, by decide⟩ ⟨Nat.le_refl 0, Nat.le_refl 0⟩ (Nat.le_of_ble_eq_true rfl) ?_
  refine jx_istore_n (lv' := [(2, .int r1), (0, .ref (ad 0)), (1, .int x1)]) E dX5_stands_6 (by decide) rfl ?_
  refine jx_iload_n E dX5_stands_7 0 rfl ?_
  refine jx_istore_n (lv' := [(3, .int r1), (2, .int r1), (0, .ref (ad 0)), (1, .int x1)]) E dX5_stands_8 (by decide) rfl ?_
  refine jx_aload_n E dX5_stands_9 2 rfl ?_
  refine jx_iload_n E dX5_stands_10 3 rfl ?_
  refine jx_iconst (x := 0) E dX5_stands_11 (by decide) ?_
  obtain ⟨⟨r2, v2⟩, hc2, hF⟩ := jx_bind hF
  try dsimp only at hF
  refine jx_callVi (As := [.int x1, .int 0]) (st := []) (h := 0) E dX5_stands_12 2 rfl (k_X5_its hI x1 0 v1 r2 v2 hc2) (gb_V (List.mem_cons_of_mem _ tw_335) (List.mem_cons_of_mem _ tw_336) (List.mem_cons_of_mem _ tw_337) (List.mem_cons_of_mem _ tw_325) tw_334) rfl rfl rfl dd_X5_its rfl (Nat.le_of_ble_eq_true rfl) s_M0 rfl ⟨by decide, by decide⟩ ⟨Nat.le_refl 0, Nat.le_refl 0⟩ (Nat.le_of_ble_eq_true rfl) ?_
  by_cases hc3 : r2 = 1
  · rw [if_pos hc3] at hF
    refine jx_tableIn (tgt := 52) (z := 1) E dX5_stands_15 hc3 (by decide) (by decide) rfl (by decide) ?_
    refine jx_iload_n E dX5_stands_52 1 rfl ?_
    refine jx_aload_n E dX5_stands_53 2 rfl ?_
    obtain ⟨⟨r4, v4⟩, hc4, hF⟩ := jx_bind hF
    try dsimp only at hF
    refine jx_callVi (As := []) (st := [.int r1]) (h := 0) E dX5_stands_54 0 rfl (k_X5_isSummer hI  v2 r4 v4 hc4) (gb_V (List.mem_cons_of_mem _ tw_372) (List.mem_cons_of_mem _ tw_373) (List.mem_cons_of_mem _ tw_374) (List.mem_cons_of_mem _ tw_325) tw_371) rfl rfl rfl dd_X5_isSummer rfl (Nat.le_of_ble_eq_true rfl) s_M0 rfl ⟨by decide, by decide⟩ ⟨Nat.le_refl 0, Nat.le_refl 0⟩ (Nat.le_of_ble_eq_true rfl) ?_
    refine jx_if_eq (tgt := 64) E dX5_stands_57 (by decide) (fun hc5 => ?_) (fun hc5 => ?_)
    · rw [if_pos hc5] at hF
      refine jx_iconst (x := 0) E dX5_stands_64 (by decide) ?_
      refine jx_iadd E dX5_stands_65 ?_
      refine jx_istore_n (lv' := [(3, .int (r1 + 0)), (2, .int r1), (0, .ref (ad 0)), (1, .int x1)]) E dX5_stands_66 (by decide) rfl ?_
      refine jx_goto (tgt := 98) E dX5_stands_67 (by decide) ?_
      refine jx_iload_n E dX5_stands_98 0 rfl ?_
      refine jx_bipush (x := 9) E dX5_stands_99 (by decide) ?_
      refine jx_icmp_ge (tgt := 108) E dX5_stands_101 (by decide) (fun hc6 => ?_) (fun hc6 => ?_)
      · rw [if_pos hc6] at hF
        refine jx_bipush (x := 9) E dX5_stands_108 (by decide) ?_
        obtain ⟨rfl, rfl⟩ := jx_out hF
        exact jx_iret E dX5_stands_110 rfl
      · rw [if_neg hc6] at hF
        refine jx_iload_n E dX5_stands_104 0 rfl ?_
        refine jx_goto (tgt := 110) E dX5_stands_105 (by decide) ?_
        obtain ⟨rfl, rfl⟩ := jx_out hF
        exact jx_iret E dX5_stands_110 rfl
    · rw [if_neg hc5] at hF
      refine jx_iconst (x := 2) E dX5_stands_60 (by decide) ?_
      refine jx_goto (tgt := 65) E dX5_stands_61 (by decide) ?_
      refine jx_iadd E dX5_stands_65 ?_
      refine jx_istore_n (lv' := [(3, .int (r1 + 2)), (2, .int r1), (0, .ref (ad 0)), (1, .int x1)]) E dX5_stands_66 (by decide) rfl ?_
      refine jx_goto (tgt := 98) E dX5_stands_67 (by decide) ?_
      refine jx_iload_n E dX5_stands_98 0 rfl ?_
      refine jx_bipush (x := 9) E dX5_stands_99 (by decide) ?_
      refine jx_icmp_ge (tgt := 108) E dX5_stands_101 (by decide) (fun hc7 => ?_) (fun hc7 => ?_)
      · rw [if_pos hc7] at hF
        refine jx_bipush (x := 9) E dX5_stands_108 (by decide) ?_
        obtain ⟨rfl, rfl⟩ := jx_out hF
        exact jx_iret E dX5_stands_110 rfl
      · rw [if_neg hc7] at hF
        refine jx_iload_n E dX5_stands_104 0 rfl ?_
        refine jx_goto (tgt := 110) E dX5_stands_105 (by decide) ?_
        obtain ⟨rfl, rfl⟩ := jx_out hF
        exact jx_iret E dX5_stands_110 rfl
  rw [if_neg hc3] at hF
  by_cases hc8 : r2 = 2
  · rw [if_pos hc8] at hF
    refine jx_tableIn (tgt := 98) (z := 2) E dX5_stands_15 hc8 (by decide) (by decide) rfl (by decide) ?_
    refine jx_iload_n E dX5_stands_98 0 rfl ?_
    refine jx_bipush (x := 9) E dX5_stands_99 (by decide) ?_
    refine jx_icmp_ge (tgt := 108) E dX5_stands_101 (by decide) (fun hc9 => ?_) (fun hc9 => ?_)
    · rw [if_pos hc9] at hF
      refine jx_bipush (x := 9) E dX5_stands_108 (by decide) ?_
      obtain ⟨rfl, rfl⟩ := jx_out hF
      exact jx_iret E dX5_stands_110 rfl
    · rw [if_neg hc9] at hF
      refine jx_iload_n E dX5_stands_104 0 rfl ?_
      refine jx_goto (tgt := 110) E dX5_stands_105 (by decide) ?_
      obtain ⟨rfl, rfl⟩ := jx_out hF
      exact jx_iret E dX5_stands_110 rfl
  rw [if_neg hc8] at hF
  by_cases hc10 : r2 = 3
  · rw [if_pos hc10] at hF
    refine jx_tableIn (tgt := 52) (z := 3) E dX5_stands_15 hc10 (by decide) (by decide) rfl (by decide) ?_
    refine jx_iload_n E dX5_stands_52 1 rfl ?_
    refine jx_aload_n E dX5_stands_53 2 rfl ?_
    obtain ⟨⟨r11, v11⟩, hc11, hF⟩ := jx_bind hF
    try dsimp only at hF
    refine jx_callVi (As := []) (st := [.int r1]) (h := 0) E dX5_stands_54 0 rfl (k_X5_isSummer hI  v2 r11 v11 hc11) (gb_V (List.mem_cons_of_mem _ tw_372) (List.mem_cons_of_mem _ tw_373) (List.mem_cons_of_mem _ tw_374) (List.mem_cons_of_mem _ tw_325) tw_371) rfl rfl rfl dd_X5_isSummer rfl (Nat.le_of_ble_eq_true rfl) s_M0 rfl ⟨by decide, by decide⟩ ⟨Nat.le_refl 0, Nat.le_refl 0⟩ (Nat.le_of_ble_eq_true rfl) ?_
    refine jx_if_eq (tgt := 64) E dX5_stands_57 (by decide) (fun hc12 => ?_) (fun hc12 => ?_)
    · rw [if_pos hc12] at hF
      refine jx_iconst (x := 0) E dX5_stands_64 (by decide) ?_
      refine jx_iadd E dX5_stands_65 ?_
      refine jx_istore_n (lv' := [(3, .int (r1 + 0)), (2, .int r1), (0, .ref (ad 0)), (1, .int x1)]) E dX5_stands_66 (by decide) rfl ?_
      refine jx_goto (tgt := 98) E dX5_stands_67 (by decide) ?_
      refine jx_iload_n E dX5_stands_98 0 rfl ?_
      refine jx_bipush (x := 9) E dX5_stands_99 (by decide) ?_
      refine jx_icmp_ge (tgt := 108) E dX5_stands_101 (by decide) (fun hc13 => ?_) (fun hc13 => ?_)
      · rw [if_pos hc13] at hF
        refine jx_bipush (x := 9) E dX5_stands_108 (by decide) ?_
        obtain ⟨rfl, rfl⟩ := jx_out hF
        exact jx_iret E dX5_stands_110 rfl
      · rw [if_neg hc13] at hF
        refine jx_iload_n E dX5_stands_104 0 rfl ?_
        refine jx_goto (tgt := 110) E dX5_stands_105 (by decide) ?_
        obtain ⟨rfl, rfl⟩ := jx_out hF
        exact jx_iret E dX5_stands_110 rfl
    · rw [if_neg hc12] at hF
      refine jx_iconst (x := 2) E dX5_stands_60 (by decide) ?_
      refine jx_goto (tgt := 65) E dX5_stands_61 (by decide) ?_
      refine jx_iadd E dX5_stands_65 ?_
      refine jx_istore_n (lv' := [(3, .int (r1 + 2)), (2, .int r1), (0, .ref (ad 0)), (1, .int x1)]) E dX5_stands_66 (by decide) rfl ?_
      refine jx_goto (tgt := 98) E dX5_stands_67 (by decide) ?_
      refine jx_iload_n E dX5_stands_98 0 rfl ?_
      refine jx_bipush (x := 9) E dX5_stands_99 (by decide) ?_
      refine jx_icmp_ge (tgt := 108) E dX5_stands_101 (by decide) (fun hc14 => ?_) (fun hc14 => ?_)
      · rw [if_pos hc14] at hF
        refine jx_bipush (x := 9) E dX5_stands_108 (by decide) ?_
        obtain ⟨rfl, rfl⟩ := jx_out hF
        exact jx_iret E dX5_stands_110 rfl
      · rw [if_neg hc14] at hF
        refine jx_iload_n E dX5_stands_104 0 rfl ?_
        refine jx_goto (tgt := 110) E dX5_stands_105 (by decide) ?_
        obtain ⟨rfl, rfl⟩ := jx_out hF
        exact jx_iret E dX5_stands_110 rfl
  rw [if_neg hc10] at hF
  by_cases hc15 : r2 = 4
  · rw [if_pos hc15] at hF
    refine jx_tableIn (tgt := 70) (z := 4) E dX5_stands_15 hc15 (by decide) (by decide) rfl (by decide) ?_
    refine jx_aload_n E dX5_stands_70 2 rfl ?_
    refine jx_getr (C := RX5) (T := TX5) (M := 21) (k := 0) E dX5_stands_71 (Nat.le_of_ble_eq_true rfl) s_M0 rfl iX5 (by decide) rfl (List.mem_cons_of_mem _ tw_328) rfl ?_
    refine jx_iconst (x := 0) E dX5_stands_74 (by decide) ?_
    refine jx_iald (h := 1) (j := 0) E dX5_stands_75 (Nat.le_of_ble_eq_true rfl) s_M1 (by decide) (by decide) ?_
    refine jx_iconst (x := 2) E dX5_stands_76 (by decide) ?_
    refine jx_irem E dX5_stands_77 (by decide) ?_
    refine jx_iconst (x := 1) E dX5_stands_78 (by decide) ?_
    refine jx_icmp_ne (tgt := 86) E dX5_stands_79 (by decide) (fun hc16 => ?_) (fun hc16 => ?_)
    · rw [if_neg hc16] at hF
      refine jx_iload_n E dX5_stands_86 1 rfl ?_
      refine jx_istore_n (lv' := [(3, .int r1), (2, .int r1), (0, .ref (ad 0)), (1, .int x1)]) E dX5_stands_87 (by decide) rfl ?_
      refine jx_goto (tgt := 98) E dX5_stands_88 (by decide) ?_
      refine jx_iload_n E dX5_stands_98 0 rfl ?_
      refine jx_bipush (x := 9) E dX5_stands_99 (by decide) ?_
      refine jx_icmp_ge (tgt := 108) E dX5_stands_101 (by decide) (fun hc17 => ?_) (fun hc17 => ?_)
      · rw [if_pos hc17] at hF
        refine jx_bipush (x := 9) E dX5_stands_108 (by decide) ?_
        obtain ⟨rfl, rfl⟩ := jx_out hF
        exact jx_iret E dX5_stands_110 rfl
      · rw [if_neg hc17] at hF
        refine jx_iload_n E dX5_stands_104 0 rfl ?_
        refine jx_goto (tgt := 110) E dX5_stands_105 (by decide) ?_
        obtain ⟨rfl, rfl⟩ := jx_out hF
        exact jx_iret E dX5_stands_110 rfl
    · rw [if_pos hc16] at hF
      refine jx_iconst (x := 0) E dX5_stands_82 (by decide) ?_
      refine jx_goto (tgt := 87) E dX5_stands_83 (by decide) ?_
      refine jx_istore_n (lv' := [(3, .int 0), (2, .int r1), (0, .ref (ad 0)), (1, .int x1)]) E dX5_stands_87 (by decide) rfl ?_
      refine jx_goto (tgt := 98) E dX5_stands_88 (by decide) ?_
      refine jx_iload_n E dX5_stands_98 0 rfl ?_
      refine jx_bipush (x := 9) E dX5_stands_99 (by decide) ?_
      refine jx_icmp_ge (tgt := 108) E dX5_stands_101 (by decide) (fun hc18 => ?_) (fun hc18 => ?_)
      · rw [if_pos hc18] at hF
        refine jx_bipush (x := 9) E dX5_stands_108 (by decide) ?_
        obtain ⟨rfl, rfl⟩ := jx_out hF
        exact jx_iret E dX5_stands_110 rfl
      · rw [if_neg hc18] at hF
        refine jx_iload_n E dX5_stands_104 0 rfl ?_
        refine jx_goto (tgt := 110) E dX5_stands_105 (by decide) ?_
        obtain ⟨rfl, rfl⟩ := jx_out hF
        exact jx_iret E dX5_stands_110 rfl
  rw [if_neg hc15] at hF
  by_cases hc19 : r2 = 5
  · rw [if_pos hc19] at hF
    refine jx_tableIn (tgt := 98) (z := 5) E dX5_stands_15 hc19 (by decide) (by decide) rfl (by decide) ?_
    refine jx_iload_n E dX5_stands_98 0 rfl ?_
    refine jx_bipush (x := 9) E dX5_stands_99 (by decide) ?_
    refine jx_icmp_ge (tgt := 108) E dX5_stands_101 (by decide) (fun hc20 => ?_) (fun hc20 => ?_)
    · rw [if_pos hc20] at hF
      refine jx_bipush (x := 9) E dX5_stands_108 (by decide) ?_
      obtain ⟨rfl, rfl⟩ := jx_out hF
      exact jx_iret E dX5_stands_110 rfl
    · rw [if_neg hc20] at hF
      refine jx_iload_n E dX5_stands_104 0 rfl ?_
      refine jx_goto (tgt := 110) E dX5_stands_105 (by decide) ?_
      obtain ⟨rfl, rfl⟩ := jx_out hF
      exact jx_iret E dX5_stands_110 rfl
  rw [if_neg hc19] at hF
  by_cases hc21 : r2 = 6
  · rw [if_pos hc21] at hF
    refine jx_tableIn (tgt := 91) (z := 6) E dX5_stands_15 hc21 (by decide) (by decide) rfl (by decide) ?_
    refine jx_iload_n E dX5_stands_91 1 rfl ?_
    refine jx_iconst (x := 3) E dX5_stands_92 (by decide) ?_
    refine jx_iadd E dX5_stands_93 ?_
    refine jx_istore_n (lv' := [(3, .int (r1 + 3)), (2, .int r1), (0, .ref (ad 0)), (1, .int x1)]) E dX5_stands_94 (by decide) rfl ?_
    refine jx_goto (tgt := 98) E dX5_stands_95 (by decide) ?_
    refine jx_iload_n E dX5_stands_98 0 rfl ?_
    refine jx_bipush (x := 9) E dX5_stands_99 (by decide) ?_
    refine jx_icmp_ge (tgt := 108) E dX5_stands_101 (by decide) (fun hc22 => ?_) (fun hc22 => ?_)
    · rw [if_pos hc22] at hF
      refine jx_bipush (x := 9) E dX5_stands_108 (by decide) ?_
      obtain ⟨rfl, rfl⟩ := jx_out hF
      exact jx_iret E dX5_stands_110 rfl
    · rw [if_neg hc22] at hF
      refine jx_iload_n E dX5_stands_104 0 rfl ?_
      refine jx_goto (tgt := 110) E dX5_stands_105 (by decide) ?_
      obtain ⟨rfl, rfl⟩ := jx_out hF
      exact jx_iret E dX5_stands_110 rfl
  rw [if_neg hc21] at hF
  refine jx_tableOut (tgt := 98) E dX5_stands_15 (by have hz3 := jx_ne hc3 (k := 1) (by decide); have hz8 := jx_ne hc8 (k := 2) (by decide); have hz10 := jx_ne hc10 (k := 3) (by decide); have hz15 := jx_ne hc15 (k := 4) (by decide); have hz19 := jx_ne hc19 (k := 5) (by decide); have hz21 := jx_ne hc21 (k := 6) (by decide); omega) (by decide) ?_
  refine jx_iload_n E dX5_stands_98 0 rfl ?_
  refine jx_bipush (x := 9) E dX5_stands_99 (by decide) ?_
  refine jx_icmp_ge (tgt := 108) E dX5_stands_101 (by decide) (fun hc23 => ?_) (fun hc23 => ?_)
  · rw [if_pos hc23] at hF
    refine jx_bipush (x := 9) E dX5_stands_108 (by decide) ?_
    obtain ⟨rfl, rfl⟩ := jx_out hF
    exact jx_iret E dX5_stands_110 rfl
  · rw [if_neg hc23] at hF
    refine jx_iload_n E dX5_stands_104 0 rfl ?_
    refine jx_goto (tgt := 110) E dX5_stands_105 (by decide) ?_
    obtain ⟨rfl, rfl⟩ := jx_out hF
    exact jx_iret E dX5_stands_110 rfl
def f_X5_grows (x1 : Int32) (v : jx_V) : Option (Int32 × jx_V) := ((f_X5_its x1 0 v).bind (fun (r1, v1) => (if r1 = 1 then (if ((v1 1 0) - (v1 1 0) / 4 * 4) = 3 then (some (1, v1)) else (if r1 = 3 then (if ((v1 1 0) - (v1 1 0) / 4 * 4) = 1 then (some (1, v1)) else (some (0, v1))) else (some (0, v1)))) else (if r1 = 3 then (if ((v1 1 0) - (v1 1 0) / 4 * 4) = 3 then (some (1, v1)) else (if r1 = 3 then (if ((v1 1 0) - (v1 1 0) / 4 * 4) = 1 then (some (1, v1)) else (some (0, v1))) else (some (0, v1)))) else (if r1 = 3 then (if ((v1 1 0) - (v1 1 0) / 4 * 4) = 1 then (some (1, v1)) else (some (0, v1))) else (some (0, v1)))))))
def rm_X5_grows : Room := { frames := 2, cells := 0, slots := 0, locals := 43 }
set_option maxHeartbeats 4000000 in
set_option maxRecDepth 100000 in
theorem k_X5_grows {l : Launch} {D : va_G} {cI cJ : ClassId} {ad : Nat → Nat} {A : Nat → Prop} (hI : jx_inj 13 ad A) (x1 : Int32) (v : jx_V) (r : Int32) (v' : jx_V) (hF : f_X5_grows x1 v = some (r, v')) : jx_Ci l D vwCl 13 cI cJ ad shM A ex_M yX5_grows (Cond.code yX5_grows cX5_grows 4 (some .int) :: bigT) rm_X5_grows [.ref (ad 0), .int x1] v r v' := by
  unfold f_X5_grows at hF
  refine jx_enteri bigT RX5 cX5_grows 4 (some .int) [(0, .ref (ad 0)), (1, .int x1)] hI (ex_M_ok A) (by decide +kernel) rfl (Nat.le_of_ble_eq_true rfl) rfl rfl ?_
  intro p e s m args below meth c E
  have iX5 : ∀ w ∈ u_ws RX5 TX5 21, w ∈ (Cond.code yX5_grows cX5_grows 4 (some .int) :: bigT) := fun w h => List.mem_cons_of_mem _ (uw_X5 w h)
  refine jx_aload_n E dX5_grows_0 0 rfl ?_
  refine jx_iload_n E dX5_grows_1 1 rfl ?_
  refine jx_iconst (x := 0) E dX5_grows_2 (by decide) ?_
  obtain ⟨⟨r1, v1⟩, hc1, hF⟩ := jx_bind hF
  try dsimp only at hF
  refine jx_callVi (As := [.int x1, .int 0]) (st := []) (h := 0) E dX5_grows_3 2 rfl (k_X5_its hI x1 0 v r1 v1 hc1) (gb_V (List.mem_cons_of_mem _ tw_335) (List.mem_cons_of_mem _ tw_336) (List.mem_cons_of_mem _ tw_337) (List.mem_cons_of_mem _ tw_325) tw_334) rfl rfl rfl dd_X5_its rfl (Nat.le_of_ble_eq_true rfl) s_M0 rfl ⟨by decide, by decide⟩ ⟨Nat.le_refl 0, Nat.le_refl 0⟩ (Nat.le_of_ble_eq_true rfl) ?_
  refine jx_istore_n (lv' := [(2, .int r1), (0, .ref (ad 0)), (1, .int x1)]) E dX5_grows_6 (by decide) rfl ?_
  refine jx_aload_n E dX5_grows_7 1 rfl ?_
  refine jx_getr (C := RX5) (T := TX5) (M := 21) (k := 0) E dX5_grows_8 (Nat.le_of_ble_eq_true rfl) s_M0 rfl iX5 (by decide) rfl (List.mem_cons_of_mem _ tw_328) rfl ?_
  refine jx_iconst (x := 0) E dX5_grows_11 (by decide) ?_
  refine jx_iald (h := 1) (j := 0) E dX5_grows_12 (Nat.le_of_ble_eq_true rfl) s_M1 (by decide) (by decide) ?_
  refine jx_iconst (x := 4) E dX5_grows_13 (by decide) ?_
  refine jx_irem E dX5_grows_14 (by decide) ?_
  refine jx_istore_n (lv' := [(3, .int ((v1 1 0) - (v1 1 0) / 4 * 4)), (2, .int r1), (0, .ref (ad 0)), (1, .int x1)]) E dX5_grows_15 (by decide) rfl ?_
  refine jx_iload_n E dX5_grows_16 1 rfl ?_
  refine jx_iconst (x := 1) E dX5_grows_17 (by decide) ?_
  refine jx_icmp_eq (tgt := 26) E dX5_grows_18 (by decide) (fun hc2 => ?_) (fun hc2 => ?_)
  · rw [if_pos hc2] at hF
    refine jx_iload_n E dX5_grows_26 0 rfl ?_
    refine jx_iconst (x := 3) E dX5_grows_27 (by decide) ?_
    refine jx_icmp_eq (tgt := 41) E dX5_grows_28 (by decide) (fun hc3 => ?_) (fun hc3 => ?_)
    · rw [if_pos hc3] at hF
      refine jx_iconst (x := 1) E dX5_grows_41 (by decide) ?_
      refine jx_goto (tgt := 46) E dX5_grows_42 (by decide) ?_
      obtain ⟨rfl, rfl⟩ := jx_out hF
      exact jx_iret E dX5_grows_46 rfl
    · rw [if_neg hc3] at hF
      refine jx_iload_n E dX5_grows_31 1 rfl ?_
      refine jx_iconst (x := 3) E dX5_grows_32 (by decide) ?_
      refine jx_icmp_ne (tgt := 45) E dX5_grows_33 (by decide) (fun hc4 => ?_) (fun hc4 => ?_)
      · rw [if_neg hc4] at hF
        refine jx_iconst (x := 0) E dX5_grows_45 (by decide) ?_
        obtain ⟨rfl, rfl⟩ := jx_out hF
        exact jx_iret E dX5_grows_46 rfl
      · rw [if_pos hc4] at hF
        refine jx_iload_n E dX5_grows_36 0 rfl ?_
        refine jx_iconst (x := 1) E dX5_grows_37 (by decide) ?_
        refine jx_icmp_ne (tgt := 45) E dX5_grows_38 (by decide) (fun hc5 => ?_) (fun hc5 => ?_)
        · rw [if_neg hc5] at hF
          refine jx_iconst (x := 0) E dX5_grows_45 (by decide) ?_
          obtain ⟨rfl, rfl⟩ := jx_out hF
          exact jx_iret E dX5_grows_46 rfl
        · rw [if_pos hc5] at hF
          refine jx_iconst (x := 1) E dX5_grows_41 (by decide) ?_
          refine jx_goto (tgt := 46) E dX5_grows_42 (by decide) ?_
          obtain ⟨rfl, rfl⟩ := jx_out hF
          exact jx_iret E dX5_grows_46 rfl
  · rw [if_neg hc2] at hF
    refine jx_iload_n E dX5_grows_21 1 rfl ?_
    refine jx_iconst (x := 3) E dX5_grows_22 (by decide) ?_
    refine jx_icmp_ne (tgt := 31) E dX5_grows_23 (by decide) (fun hc6 => ?_) (fun hc6 => ?_)
    · rw [if_neg hc6] at hF
      refine jx_iload_n E dX5_grows_31 1 rfl ?_
      refine jx_iconst (x := 3) E dX5_grows_32 (by decide) ?_
      refine jx_icmp_ne (tgt := 45) E dX5_grows_33 (by decide) (fun hc7 => ?_) (fun hc7 => ?_)
      · rw [if_neg hc7] at hF
        refine jx_iconst (x := 0) E dX5_grows_45 (by decide) ?_
        obtain ⟨rfl, rfl⟩ := jx_out hF
        exact jx_iret E dX5_grows_46 rfl
      · rw [if_pos hc7] at hF
        refine jx_iload_n E dX5_grows_36 0 rfl ?_
        refine jx_iconst (x := 1) E dX5_grows_37 (by decide) ?_
        refine jx_icmp_ne (tgt := 45) E dX5_grows_38 (by decide) (fun hc8 => ?_) (fun hc8 => ?_)
        · rw [if_neg hc8] at hF
          refine jx_iconst (x := 0) E dX5_grows_45 (by decide) ?_
          obtain ⟨rfl, rfl⟩ := jx_out hF
          exact jx_iret E dX5_grows_46 rfl
        · rw [if_pos hc8] at hF
          refine jx_iconst (x := 1) E dX5_grows_41 (by decide) ?_
          refine jx_goto (tgt := 46) E dX5_grows_42 (by decide) ?_
          obtain ⟨rfl, rfl⟩ := jx_out hF
          exact jx_iret E dX5_grows_46 rfl
    · rw [if_pos hc6] at hF
      refine jx_iload_n E dX5_grows_26 0 rfl ?_
      refine jx_iconst (x := 3) E dX5_grows_27 (by decide) ?_
      refine jx_icmp_eq (tgt := 41) E dX5_grows_28 (by decide) (fun hc9 => ?_) (fun hc9 => ?_)
      · rw [if_pos hc9] at hF
        refine jx_iconst (x := 1) E dX5_grows_41 (by decide) ?_
        refine jx_goto (tgt := 46) E dX5_grows_42 (by decide) ?_
        obtain ⟨rfl, rfl⟩ := jx_out hF
        exact jx_iret E dX5_grows_46 rfl
      · rw [if_neg hc9] at hF
        refine jx_iload_n E dX5_grows_31 1 rfl ?_
        refine jx_iconst (x := 3) E dX5_grows_32 (by decide) ?_
        refine jx_icmp_ne (tgt := 45) E dX5_grows_33 (by decide) (fun hc10 => ?_) (fun hc10 => ?_)
        · rw [if_neg hc10] at hF
          refine jx_iconst (x := 0) E dX5_grows_45 (by decide) ?_
          obtain ⟨rfl, rfl⟩ := jx_out hF
          exact jx_iret E dX5_grows_46 rfl
        · rw [if_pos hc10] at hF
          refine jx_iload_n E dX5_grows_36 0 rfl ?_
          refine jx_iconst (x := 1) E dX5_grows_37 (by decide) ?_
          refine jx_icmp_ne (tgt := 45) E dX5_grows_38 (by decide) (fun hc11 => ?_) (fun hc11 => ?_)
          · rw [if_neg hc11] at hF
            refine jx_iconst (x := 0) E dX5_grows_45 (by decide) ?_
            obtain ⟨rfl, rfl⟩ := jx_out hF
            exact jx_iret E dX5_grows_46 rfl
          · rw [if_pos hc11] at hF
            refine jx_iconst (x := 1) E dX5_grows_41 (by decide) ?_
            refine jx_goto (tgt := 46) E dX5_grows_42 (by decide) ?_
            obtain ⟨rfl, rfl⟩ := jx_out hF
            exact jx_iret E dX5_grows_46 rfl
def f_X5_priceOf (x1 : Int32) (v : jx_V) : Option (Int32 × jx_V) := ((f_X5_its x1 3 v).bind (fun (r1, v1) => (if ((3 + r1) < 0 ∨ 181 ≤ Int32.toNatClampNeg (3 + r1)) then none else ((f_X5_its x1 0 v1).bind (fun (r3, v3) => (if r3 = 1 then ((f_X5_isSummer v3).bind (fun (r5, v5) => (if r5 = 0 then (some (((v1 1 (Int32.toNatClampNeg (3 + r1))) + 0), v5)) else (some (((v1 1 (Int32.toNatClampNeg (3 + r1))) + 1), v5))))) else (if r3 = 2 then ((f_X5_its x1 3 v3).bind (fun (r8, v8) => (if r8 = 0 then (some (0, v8)) else (some ((v1 1 (Int32.toNatClampNeg (3 + r1))), v8))))) else (if r3 = 3 then ((f_X5_isSummer v3).bind (fun (r11, v11) => (if r11 = 0 then (some (((v1 1 (Int32.toNatClampNeg (3 + r1))) + 0), v11)) else (some (((v1 1 (Int32.toNatClampNeg (3 + r1))) + 1), v11))))) else (if r3 = 4 then ((f_X5_its x1 3 v3).bind (fun (r14, v14) => (if r14 = 0 then (some (0, v14)) else (some ((v1 1 (Int32.toNatClampNeg (3 + r1))), v14))))) else (if r3 = 5 then (some ((2 * (v1 1 (Int32.toNatClampNeg (3 + r1)))), v3)) else (if r3 = 6 then (some ((2 * (v1 1 (Int32.toNatClampNeg (3 + r1)))), v3)) else (some ((v1 1 (Int32.toNatClampNeg (3 + r1))), v3)))))))))))))
def rm_X5_priceOf : Room := { frames := 2, cells := 0, slots := 0, locals := 45 }
set_option maxHeartbeats 4000000 in
set_option maxRecDepth 100000 in
theorem k_X5_priceOf {l : Launch} {D : va_G} {cI cJ : ClassId} {ad : Nat → Nat} {A : Nat → Prop} (hI : jx_inj 13 ad A) (x1 : Int32) (v : jx_V) (r : Int32) (v' : jx_V) (hF : f_X5_priceOf x1 v = some (r, v')) : jx_Ci l D vwCl 13 cI cJ ad shM A ex_M yX5_priceOf (Cond.code yX5_priceOf cX5_priceOf 3 (some .int) :: bigT) rm_X5_priceOf [.ref (ad 0), .int x1] v r v' := by
  unfold f_X5_priceOf at hF
  refine jx_enteri bigT RX5 cX5_priceOf 3 (some .int) [(0, .ref (ad 0)), (1, .int x1)] hI (ex_M_ok A) (by decide +kernel) rfl (Nat.le_of_ble_eq_true rfl) rfl rfl ?_
  intro p e s m args below meth c E
  have iX5 : ∀ w ∈ u_ws RX5 TX5 21, w ∈ (Cond.code yX5_priceOf cX5_priceOf 3 (some .int) :: bigT) := fun w h => List.mem_cons_of_mem _ (uw_X5 w h)
  refine jx_aload_n E dX5_priceOf_0 0 rfl ?_
  refine jx_getr (C := RX5) (T := TX5) (M := 21) (k := 0) E dX5_priceOf_1 (Nat.le_of_ble_eq_true rfl) s_M0 rfl iX5 (by decide) rfl (List.mem_cons_of_mem _ tw_328) rfl ?_
  refine jx_iconst (x := 3) E dX5_priceOf_4 (by decide) ?_
  refine jx_aload_n E dX5_priceOf_5 0 rfl ?_
  refine jx_iload_n E dX5_priceOf_6 1 rfl ?_
  refine jx_iconst (x := 3) E dX5_priceOf_7 (by decide) ?_
  obtain ⟨⟨r1, v1⟩, hc1, hF⟩ := jx_bind hF
  try dsimp only at hF
  refine jx_callVi (As := [.int x1, .int 3]) (st := [.int 3, .ref (ad 1)]) (h := 0) E dX5_priceOf_8 2 rfl (k_X5_its hI x1 3 v r1 v1 hc1) (gb_V (List.mem_cons_of_mem _ tw_335) (List.mem_cons_of_mem _ tw_336) (List.mem_cons_of_mem _ tw_337) (List.mem_cons_of_mem _ tw_325) tw_334) rfl rfl rfl dd_X5_its rfl (Nat.le_of_ble_eq_true rfl) s_M0 rfl ⟨by decide, by decide⟩ ⟨Nat.le_refl 0, Nat.le_refl 0⟩ (Nat.le_of_ble_eq_true rfl) ?_
  refine jx_iadd E dX5_priceOf_11 ?_
  obtain ⟨hg2, hF⟩ := jx_guard hF
  refine jx_iald (h := 1) (j := (Int32.toNatClampNeg (3 + r1))) E dX5_priceOf_12 (Nat.le_of_ble_eq_true rfl) s_M1 hg2 rfl ?_
  refine jx_istore_n (lv' := [(2, .int (v1 1 (Int32.toNatClampNeg (3 + r1)))), (0, .ref (ad 0)), (1, .int x1)]) E dX5_priceOf_13 (by decide) rfl ?_
  refine jx_aload_n E dX5_priceOf_14 1 rfl ?_
  refine jx_iload_n E dX5_priceOf_15 2 rfl ?_
  refine jx_iconst (x := 0) E dX5_priceOf_16 (by decide) ?_
  obtain ⟨⟨r3, v3⟩, hc3, hF⟩ := jx_bind hF
  try dsimp only at hF
  refine jx_callVi (As := [.int x1, .int 0]) (st := []) (h := 0) E dX5_priceOf_17 2 rfl (k_X5_its hI x1 0 v1 r3 v3 hc3) (gb_V (List.mem_cons_of_mem _ tw_335) (List.mem_cons_of_mem _ tw_336) (List.mem_cons_of_mem _ tw_337) (List.mem_cons_of_mem _ tw_325) tw_334) rfl rfl rfl dd_X5_its rfl (Nat.le_of_ble_eq_true rfl) s_M0 rfl ⟨by decide, by decide⟩ ⟨Nat.le_refl 0, Nat.le_refl 0⟩ (Nat.le_of_ble_eq_true rfl) ?_
  by_cases hc4 : r3 = 1
  · rw [if_pos hc4] at hF
    refine jx_tableIn (tgt := 60) (z := 1) E dX5_priceOf_20 hc4 (by decide) (by decide) rfl (by decide) ?_
    refine jx_iload_n E dX5_priceOf_60 0 rfl ?_
    refine jx_aload_n E dX5_priceOf_61 1 rfl ?_
    obtain ⟨⟨r5, v5⟩, hc5, hF⟩ := jx_bind hF
    try dsimp only at hF
    refine jx_callVi (As := []) (st := [.int (v1 1 (Int32.toNatClampNeg (3 + r1)))]) (h := 0) E dX5_priceOf_62 0 rfl (k_X5_isSummer hI  v3 r5 v5 hc5) (gb_V (List.mem_cons_of_mem _ tw_372) (List.mem_cons_of_mem _ tw_373) (List.mem_cons_of_mem _ tw_374) (List.mem_cons_of_mem _ tw_325) tw_371) rfl rfl rfl dd_X5_isSummer rfl (Nat.le_of_ble_eq_true rfl) s_M0 rfl ⟨by decide, by decide⟩ ⟨Nat.le_refl 0, Nat.le_refl 0⟩ (Nat.le_of_ble_eq_true rfl) ?_
    refine jx_if_eq (tgt := 72) E dX5_priceOf_65 (by decide) (fun hc6 => ?_) (fun hc6 => ?_)
    · rw [if_pos hc6] at hF
      refine jx_iconst (x := 0) E dX5_priceOf_72 (by decide) ?_
      refine jx_iadd E dX5_priceOf_73 ?_
      obtain ⟨rfl, rfl⟩ := jx_out hF
      exact jx_iret E dX5_priceOf_74 rfl
    · rw [if_neg hc6] at hF
      refine jx_iconst (x := 1) E dX5_priceOf_68 (by decide) ?_
      refine jx_goto (tgt := 73) E dX5_priceOf_69 (by decide) ?_
      refine jx_iadd E dX5_priceOf_73 ?_
      obtain ⟨rfl, rfl⟩ := jx_out hF
      exact jx_iret E dX5_priceOf_74 rfl
  rw [if_neg hc4] at hF
  by_cases hc7 : r3 = 2
  · rw [if_pos hc7] at hF
    refine jx_tableIn (tgt := 75) (z := 2) E dX5_priceOf_20 hc7 (by decide) (by decide) rfl (by decide) ?_
    refine jx_aload_n E dX5_priceOf_75 1 rfl ?_
    refine jx_iload_n E dX5_priceOf_76 2 rfl ?_
    refine jx_iconst (x := 3) E dX5_priceOf_77 (by decide) ?_
    obtain ⟨⟨r8, v8⟩, hc8, hF⟩ := jx_bind hF
    try dsimp only at hF
    refine jx_callVi (As := [.int x1, .int 3]) (st := []) (h := 0) E dX5_priceOf_78 2 rfl (k_X5_its hI x1 3 v3 r8 v8 hc8) (gb_V (List.mem_cons_of_mem _ tw_335) (List.mem_cons_of_mem _ tw_336) (List.mem_cons_of_mem _ tw_337) (List.mem_cons_of_mem _ tw_325) tw_334) rfl rfl rfl dd_X5_its rfl (Nat.le_of_ble_eq_true rfl) s_M0 rfl ⟨by decide, by decide⟩ ⟨Nat.le_refl 0, Nat.le_refl 0⟩ (Nat.le_of_ble_eq_true rfl) ?_
    refine jx_if_ne (tgt := 88) E dX5_priceOf_81 (by decide) (fun hc9 => ?_) (fun hc9 => ?_)
    · rw [if_neg hc9] at hF
      refine jx_iload_n E dX5_priceOf_88 0 rfl ?_
      obtain ⟨rfl, rfl⟩ := jx_out hF
      exact jx_iret E dX5_priceOf_89 rfl
    · rw [if_pos hc9] at hF
      refine jx_iconst (x := 0) E dX5_priceOf_84 (by decide) ?_
      refine jx_goto (tgt := 89) E dX5_priceOf_85 (by decide) ?_
      obtain ⟨rfl, rfl⟩ := jx_out hF
      exact jx_iret E dX5_priceOf_89 rfl
  rw [if_neg hc7] at hF
  by_cases hc10 : r3 = 3
  · rw [if_pos hc10] at hF
    refine jx_tableIn (tgt := 60) (z := 3) E dX5_priceOf_20 hc10 (by decide) (by decide) rfl (by decide) ?_
    refine jx_iload_n E dX5_priceOf_60 0 rfl ?_
    refine jx_aload_n E dX5_priceOf_61 1 rfl ?_
    obtain ⟨⟨r11, v11⟩, hc11, hF⟩ := jx_bind hF
    try dsimp only at hF
    refine jx_callVi (As := []) (st := [.int (v1 1 (Int32.toNatClampNeg (3 + r1)))]) (h := 0) E dX5_priceOf_62 0 rfl (k_X5_isSummer hI  v3 r11 v11 hc11) (gb_V (List.mem_cons_of_mem _ tw_372) (List.mem_cons_of_mem _ tw_373) (List.mem_cons_of_mem _ tw_374) (List.mem_cons_of_mem _ tw_325) tw_371) rfl rfl rfl dd_X5_isSummer rfl (Nat.le_of_ble_eq_true rfl) s_M0 rfl ⟨by decide, by decide⟩ ⟨Nat.le_refl 0, Nat.le_refl 0⟩ (Nat.le_of_ble_eq_true rfl) ?_
    refine jx_if_eq (tgt := 72) E dX5_priceOf_65 (by decide) (fun hc12 => ?_) (fun hc12 => ?_)
    · rw [if_pos hc12] at hF
      refine jx_iconst (x := 0) E dX5_priceOf_72 (by decide) ?_
      refine jx_iadd E dX5_priceOf_73 ?_
      obtain ⟨rfl, rfl⟩ := jx_out hF
      exact jx_iret E dX5_priceOf_74 rfl
    · rw [if_neg hc12] at hF
      refine jx_iconst (x := 1) E dX5_priceOf_68 (by decide) ?_
      refine jx_goto (tgt := 73) E dX5_priceOf_69 (by decide) ?_
      refine jx_iadd E dX5_priceOf_73 ?_
      obtain ⟨rfl, rfl⟩ := jx_out hF
      exact jx_iret E dX5_priceOf_74 rfl
  rw [if_neg hc10] at hF
  by_cases hc13 : r3 = 4
  · rw [if_pos hc13] at hF
    refine jx_tableIn (tgt := 75) (z := 4) E dX5_priceOf_20 hc13 (by decide) (by decide) rfl (by decide) ?_
    refine jx_aload_n E dX5_priceOf_75 1 rfl ?_
    refine jx_iload_n E dX5_priceOf_76 2 rfl ?_
    refine jx_iconst (x := 3) E dX5_priceOf_77 (by decide) ?_
    obtain ⟨⟨r14, v14⟩, hc14, hF⟩ := jx_bind hF
    try dsimp only at hF
    refine jx_callVi (As := [.int x1, .int 3]) (st := []) (h := 0) E dX5_priceOf_78 2 rfl (k_X5_its hI x1 3 v3 r14 v14 hc14) (gb_V (List.mem_cons_of_mem _ tw_335) (List.mem_cons_of_mem _ tw_336) (List.mem_cons_of_mem _ tw_337) (List.mem_cons_of_mem _ tw_325) tw_334) rfl rfl rfl dd_X5_its rfl (Nat.le_of_ble_eq_true rfl) s_M0 rfl ⟨by decide, by decide⟩ ⟨Nat.le_refl 0, Nat.le_refl 0⟩ (Nat.le_of_ble_eq_true rfl) ?_
    refine jx_if_ne (tgt := 88) E dX5_priceOf_81 (by decide) (fun hc15 => ?_) (fun hc15 => ?_)
    · rw [if_neg hc15] at hF
      refine jx_iload_n E dX5_priceOf_88 0 rfl ?_
      obtain ⟨rfl, rfl⟩ := jx_out hF
      exact jx_iret E dX5_priceOf_89 rfl
    · rw [if_pos hc15] at hF
      refine jx_iconst (x := 0) E dX5_priceOf_84 (by decide) ?_
      refine jx_goto (tgt := 89) E dX5_priceOf_85 (by decide) ?_
      obtain ⟨rfl, rfl⟩ := jx_out hF
      exact jx_iret E dX5_priceOf_89 rfl
  rw [if_neg hc13] at hF
  by_cases hc16 : r3 = 5
  · rw [if_pos hc16] at hF
    refine jx_tableIn (tgt := 90) (z := 5) E dX5_priceOf_20 hc16 (by decide) (by decide) rfl (by decide) ?_
    refine jx_iconst (x := 2) E dX5_priceOf_90 (by decide) ?_
    refine jx_iload_n E dX5_priceOf_91 0 rfl ?_
    refine jx_imul E dX5_priceOf_92 ?_
    obtain ⟨rfl, rfl⟩ := jx_out hF
    exact jx_iret E dX5_priceOf_93 rfl
  rw [if_neg hc16] at hF
  by_cases hc17 : r3 = 6
  · rw [if_pos hc17] at hF
    refine jx_tableIn (tgt := 90) (z := 6) E dX5_priceOf_20 hc17 (by decide) (by decide) rfl (by decide) ?_
    refine jx_iconst (x := 2) E dX5_priceOf_90 (by decide) ?_
    refine jx_iload_n E dX5_priceOf_91 0 rfl ?_
    refine jx_imul E dX5_priceOf_92 ?_
    obtain ⟨rfl, rfl⟩ := jx_out hF
    exact jx_iret E dX5_priceOf_93 rfl
  rw [if_neg hc17] at hF
  refine jx_tableOut (tgt := 94) E dX5_priceOf_20 (by have hz4 := jx_ne hc4 (k := 1) (by decide); have hz7 := jx_ne hc7 (k := 2) (by decide); have hz10 := jx_ne hc10 (k := 3) (by decide); have hz13 := jx_ne hc13 (k := 4) (by decide); have hz16 := jx_ne hc16 (k := 5) (by decide); have hz17 := jx_ne hc17 (k := 6) (by decide); omega) (by decide) ?_
  refine jx_iload_n E dX5_priceOf_94 0 rfl ?_
  obtain ⟨rfl, rfl⟩ := jx_out hF
  exact jx_iret E dX5_priceOf_95 rfl
def f_X5_of (x1 : Int32) (x2 : Int32) (v : jx_V) : Option (Int32 × jx_V) := ((f_X5_in (Int32.toInt64 x2) 0 6 v).bind (fun (r1, v1) => (if r1 = 0 then (if (-1000001 : Int32) = 0 then (if 4 ≤ x2 then (if x2 = 4 then ((f_X5_stands x1 v1).bind (fun (r19, v19) => (some (r19, v19)))) else (if x2 = 5 then ((f_X5_priceOf x1 v1).bind (fun (r18, v18) => (some (r18, v18)))) else ((f_X5_grows x1 v1).bind (fun (r17, v17) => (some (r17, v17)))))) else ((f_X5_its x1 x2 v1).bind (fun (r20, v20) => (some (r20, v20))))) else ((f_X5_finds (-1000001) v1).bind (fun (r21, v21) => (some (r21, v21))))) else ((f_X5_lotWrong x1 v1).bind (fun (r3, v3) => (if r3 = 0 then (if 4 ≤ x2 then (if x2 = 4 then ((f_X5_stands x1 v3).bind (fun (r10, v10) => (some (r10, v10)))) else (if x2 = 5 then ((f_X5_priceOf x1 v3).bind (fun (r9, v9) => (some (r9, v9)))) else ((f_X5_grows x1 v3).bind (fun (r8, v8) => (some (r8, v8)))))) else ((f_X5_its x1 x2 v3).bind (fun (r11, v11) => (some (r11, v11))))) else ((f_X5_finds r3 v3).bind (fun (r12, v12) => (some (r12, v12))))))))))
def rm_X5_of : Room := { frames := 4, cells := 0, slots := 0, locals := 85 }
set_option maxHeartbeats 4000000 in
set_option maxRecDepth 100000 in
theorem k_X5_of {l : Launch} {D : va_G} {cI cJ : ClassId} {ad : Nat → Nat} {A : Nat → Prop} (hI : jx_inj 13 ad A) (x1 : Int32) (x2 : Int32) (v : jx_V) (r : Int32) (v' : jx_V) (hF : f_X5_of x1 x2 v = some (r, v')) : jx_Ci l D vwCl 13 cI cJ ad shM A ex_M yX5_of (Cond.code yX5_of cX5_of 4 (some .int) :: bigT) rm_X5_of [.ref (ad 0), .int x1, .int x2] v r v' := by
  unfold f_X5_of at hF
  refine jx_enteri bigT RX5 cX5_of 4 (some .int) [(0, .ref (ad 0)), (1, .int x1), (2, .int x2)] hI (ex_M_ok A) (by decide +kernel) rfl (Nat.le_of_ble_eq_true rfl) rfl rfl ?_
  intro p e s m args below meth c E
  refine jx_iload_n E dX5_of_0 2 rfl ?_
  refine jx_i2l E dX5_of_1 ?_
  refine jx_lconst (x := 0) E dX5_of_2 (by decide) ?_
  refine jx_ldc2 (x := 6) E dX5_of_3 (List.mem_cons_of_mem _ tw_342) ?_
  obtain ⟨⟨r1, v1⟩, hc1, hF⟩ := jx_bind hF
  try dsimp only at hF
  refine jx_callSi (As := [.long (Int32.toInt64 x2), .long 0, .long 6]) (st := []) E dX5_of_6 3 rfl (k_X5_in hI (Int32.toInt64 x2) 0 6 v r1 v1 hc1) (gb_S (List.mem_cons_of_mem _ tw_323) (List.mem_cons_of_mem _ tw_324) (List.mem_cons_of_mem _ tw_325) tw_322) rfl rfl rfl dd_X5_in rfl ⟨by decide, by decide⟩ ⟨Nat.le_refl 0, Nat.le_refl 0⟩ (Nat.le_of_ble_eq_true rfl) ?_
  refine jx_if_ne (tgt := 17) E dX5_of_9 (by decide) (fun hc2 => ?_) (fun hc2 => ?_)
  · rw [if_neg hc2] at hF
    refine jx_aload_n E dX5_of_17 0 rfl ?_
    refine jx_iload_n E dX5_of_18 1 rfl ?_
    obtain ⟨⟨r3, v3⟩, hc3, hF⟩ := jx_bind hF
    try dsimp only at hF
    refine jx_callVi (As := [.int x1]) (st := []) (h := 0) E dX5_of_19 1 rfl (k_X5_lotWrong hI x1 v1 r3 v3 hc3) (gb_V (List.mem_cons_of_mem _ tw_367) (List.mem_cons_of_mem _ tw_368) (List.mem_cons_of_mem _ tw_369) (List.mem_cons_of_mem _ tw_325) tw_366) rfl rfl rfl dd_X5_lotWrong rfl (Nat.le_of_ble_eq_true rfl) s_M0 rfl ⟨by decide, by decide⟩ ⟨Nat.le_refl 0, Nat.le_refl 0⟩ (Nat.le_of_ble_eq_true rfl) ?_
    refine jx_istore_n (lv' := [(3, .int r3), (0, .ref (ad 0)), (1, .int x1), (2, .int x2)]) E dX5_of_22 (by decide) rfl ?_
    refine jx_iload_n E dX5_of_23 0 rfl ?_
    refine jx_if_eq (tgt := 33) E dX5_of_24 (by decide) (fun hc4 => ?_) (fun hc4 => ?_)
    · rw [if_pos hc4] at hF
      refine jx_iload_n E dX5_of_33 3 rfl ?_
      refine jx_iconst (x := 4) E dX5_of_34 (by decide) ?_
      refine jx_icmp_ge (tgt := 47) E dX5_of_35 (by decide) (fun hc5 => ?_) (fun hc5 => ?_)
      · rw [if_pos hc5] at hF
        refine jx_iload_n E dX5_of_47 3 rfl ?_
        refine jx_iconst (x := 4) E dX5_of_48 (by decide) ?_
        refine jx_icmp_ne (tgt := 60) E dX5_of_49 (by decide) (fun hc6 => ?_) (fun hc6 => ?_)
        · rw [if_neg hc6] at hF
          refine jx_iload_n E dX5_of_60 3 rfl ?_
          refine jx_iconst (x := 5) E dX5_of_61 (by decide) ?_
          refine jx_icmp_ne (tgt := 73) E dX5_of_62 (by decide) (fun hc7 => ?_) (fun hc7 => ?_)
          · rw [if_neg hc7] at hF
            refine jx_aload_n E dX5_of_73 1 rfl ?_
            refine jx_iload_n E dX5_of_74 2 rfl ?_
            obtain ⟨⟨r8, v8⟩, hc8, hF⟩ := jx_bind hF
            try dsimp only at hF
            refine jx_callVi (As := [.int x1]) (st := []) (h := 0) E dX5_of_75 1 rfl (k_X5_grows hI x1 v3 r8 v8 hc8) (gb_V (List.mem_cons_of_mem _ tw_376) (List.mem_cons_of_mem _ tw_377) (List.mem_cons_of_mem _ tw_378) (List.mem_cons_of_mem _ tw_325) tw_375) rfl rfl rfl dd_X5_grows rfl (Nat.le_of_ble_eq_true rfl) s_M0 rfl ⟨by decide, by decide⟩ ⟨Nat.le_refl 0, Nat.le_refl 0⟩ (Nat.le_of_ble_eq_true rfl) ?_
            obtain ⟨rfl, rfl⟩ := jx_out hF
            exact jx_iret E dX5_of_78 rfl
          · rw [if_pos hc7] at hF
            refine jx_aload_n E dX5_of_65 1 rfl ?_
            refine jx_iload_n E dX5_of_66 2 rfl ?_
            obtain ⟨⟨r9, v9⟩, hc9, hF⟩ := jx_bind hF
            try dsimp only at hF
            refine jx_callVi (As := [.int x1]) (st := []) (h := 0) E dX5_of_67 1 rfl (k_X5_priceOf hI x1 v3 r9 v9 hc9) (gb_V (List.mem_cons_of_mem _ tw_380) (List.mem_cons_of_mem _ tw_381) (List.mem_cons_of_mem _ tw_382) (List.mem_cons_of_mem _ tw_325) tw_379) rfl rfl rfl dd_X5_priceOf rfl (Nat.le_of_ble_eq_true rfl) s_M0 rfl ⟨by decide, by decide⟩ ⟨Nat.le_refl 0, Nat.le_refl 0⟩ (Nat.le_of_ble_eq_true rfl) ?_
            refine jx_goto (tgt := 78) E dX5_of_70 (by decide) ?_
            obtain ⟨rfl, rfl⟩ := jx_out hF
            exact jx_iret E dX5_of_78 rfl
        · rw [if_pos hc6] at hF
          refine jx_aload_n E dX5_of_52 1 rfl ?_
          refine jx_iload_n E dX5_of_53 2 rfl ?_
          obtain ⟨⟨r10, v10⟩, hc10, hF⟩ := jx_bind hF
          try dsimp only at hF
          refine jx_callVi (As := [.int x1]) (st := []) (h := 0) E dX5_of_54 1 rfl (k_X5_stands hI x1 v3 r10 v10 hc10) (gb_V (List.mem_cons_of_mem _ tw_384) (List.mem_cons_of_mem _ tw_385) (List.mem_cons_of_mem _ tw_386) (List.mem_cons_of_mem _ tw_325) tw_383) rfl rfl rfl dd_X5_stands rfl (Nat.le_of_ble_eq_true rfl) s_M0 rfl ⟨by decide, by decide⟩ ⟨Nat.le_refl 0, Nat.le_refl 0⟩ (Nat.le_of_ble_eq_true rfl) ?_
          refine jx_goto (tgt := 78) E dX5_of_57 (by decide) ?_
          obtain ⟨rfl, rfl⟩ := jx_out hF
          exact jx_iret E dX5_of_78 rfl
      · rw [if_neg hc5] at hF
        refine jx_aload_n E dX5_of_38 1 rfl ?_
        refine jx_iload_n E dX5_of_39 2 rfl ?_
        refine jx_iload_n E dX5_of_40 3 rfl ?_
        obtain ⟨⟨r11, v11⟩, hc11, hF⟩ := jx_bind hF
        try dsimp only at hF
        refine jx_callVi (As := [.int x1, .int x2]) (st := []) (h := 0) E dX5_of_41 2 rfl (k_X5_its hI x1 x2 v3 r11 v11 hc11) (gb_V (List.mem_cons_of_mem _ tw_335) (List.mem_cons_of_mem _ tw_336) (List.mem_cons_of_mem _ tw_337) (List.mem_cons_of_mem _ tw_325) tw_334) rfl rfl rfl dd_X5_its rfl (Nat.le_of_ble_eq_true rfl) s_M0 rfl ⟨by decide, by decide⟩ ⟨Nat.le_refl 0, Nat.le_refl 0⟩ (Nat.le_of_ble_eq_true rfl) ?_
        refine jx_goto (tgt := 78) E dX5_of_44 (by decide) ?_
        obtain ⟨rfl, rfl⟩ := jx_out hF
        exact jx_iret E dX5_of_78 rfl
    · rw [if_neg hc4] at hF
      refine jx_aload_n E dX5_of_27 1 rfl ?_
      refine jx_iload_n E dX5_of_28 0 rfl ?_
      obtain ⟨⟨r12, v12⟩, hc12, hF⟩ := jx_bind hF
      try dsimp only at hF
      refine jx_callVi (As := [.int r3]) (st := []) (h := 0) E dX5_of_29 1 rfl (k_X5_finds hI r3 v3 r12 v12 hc12) (gb_V (List.mem_cons_of_mem _ tw_344) (List.mem_cons_of_mem _ tw_345) (List.mem_cons_of_mem _ tw_346) (List.mem_cons_of_mem _ tw_325) tw_343) rfl rfl rfl dd_X5_finds rfl (Nat.le_of_ble_eq_true rfl) s_M0 rfl ⟨by decide, by decide⟩ ⟨Nat.le_refl 0, Nat.le_refl 0⟩ (Nat.le_of_ble_eq_true rfl) ?_
      obtain ⟨rfl, rfl⟩ := jx_out hF
      exact jx_iret E dX5_of_32 rfl
  · rw [if_pos hc2] at hF
    refine jx_ldc (x := -1000001) E dX5_of_12 (List.mem_cons_of_mem _ tw_320) ?_
    refine jx_goto (tgt := 22) E dX5_of_14 (by decide) ?_
    refine jx_istore_n (lv' := [(3, .int (-1000001)), (0, .ref (ad 0)), (1, .int x1), (2, .int x2)]) E dX5_of_22 (by decide) rfl ?_
    refine jx_iload_n E dX5_of_23 0 rfl ?_
    refine jx_if_eq (tgt := 33) E dX5_of_24 (by decide) (fun hc13 => ?_) (fun hc13 => ?_)
    · rw [if_pos hc13] at hF
      refine jx_iload_n E dX5_of_33 3 rfl ?_
      refine jx_iconst (x := 4) E dX5_of_34 (by decide) ?_
      refine jx_icmp_ge (tgt := 47) E dX5_of_35 (by decide) (fun hc14 => ?_) (fun hc14 => ?_)
      · rw [if_pos hc14] at hF
        refine jx_iload_n E dX5_of_47 3 rfl ?_
        refine jx_iconst (x := 4) E dX5_of_48 (by decide) ?_
        refine jx_icmp_ne (tgt := 60) E dX5_of_49 (by decide) (fun hc15 => ?_) (fun hc15 => ?_)
        · rw [if_neg hc15] at hF
          refine jx_iload_n E dX5_of_60 3 rfl ?_
          refine jx_iconst (x := 5) E dX5_of_61 (by decide) ?_
          refine jx_icmp_ne (tgt := 73) E dX5_of_62 (by decide) (fun hc16 => ?_) (fun hc16 => ?_)
          · rw [if_neg hc16] at hF
            refine jx_aload_n E dX5_of_73 1 rfl ?_
            refine jx_iload_n E dX5_of_74 2 rfl ?_
            obtain ⟨⟨r17, v17⟩, hc17, hF⟩ := jx_bind hF
            try dsimp only at hF
            refine jx_callVi (As := [.int x1]) (st := []) (h := 0) E dX5_of_75 1 rfl (k_X5_grows hI x1 v1 r17 v17 hc17) (gb_V (List.mem_cons_of_mem _ tw_376) (List.mem_cons_of_mem _ tw_377) (List.mem_cons_of_mem _ tw_378) (List.mem_cons_of_mem _ tw_325) tw_375) rfl rfl rfl dd_X5_grows rfl (Nat.le_of_ble_eq_true rfl) s_M0 rfl ⟨by decide, by decide⟩ ⟨Nat.le_refl 0, Nat.le_refl 0⟩ (Nat.le_of_ble_eq_true rfl) ?_
            obtain ⟨rfl, rfl⟩ := jx_out hF
            exact jx_iret E dX5_of_78 rfl
          · rw [if_pos hc16] at hF
            refine jx_aload_n E dX5_of_65 1 rfl ?_
            refine jx_iload_n E dX5_of_66 2 rfl ?_
            obtain ⟨⟨r18, v18⟩, hc18, hF⟩ := jx_bind hF
            try dsimp only at hF
            refine jx_callVi (As := [.int x1]) (st := []) (h := 0) E dX5_of_67 1 rfl (k_X5_priceOf hI x1 v1 r18 v18 hc18) (gb_V (List.mem_cons_of_mem _ tw_380) (List.mem_cons_of_mem _ tw_381) (List.mem_cons_of_mem _ tw_382) (List.mem_cons_of_mem _ tw_325) tw_379) rfl rfl rfl dd_X5_priceOf rfl (Nat.le_of_ble_eq_true rfl) s_M0 rfl ⟨by decide, by decide⟩ ⟨Nat.le_refl 0, Nat.le_refl 0⟩ (Nat.le_of_ble_eq_true rfl) ?_
            refine jx_goto (tgt := 78) E dX5_of_70 (by decide) ?_
            obtain ⟨rfl, rfl⟩ := jx_out hF
            exact jx_iret E dX5_of_78 rfl
        · rw [if_pos hc15] at hF
          refine jx_aload_n E dX5_of_52 1 rfl ?_
          refine jx_iload_n E dX5_of_53 2 rfl ?_
          obtain ⟨⟨r19, v19⟩, hc19, hF⟩ := jx_bind hF
          try dsimp only at hF
          refine jx_callVi (As := [.int x1]) (st := []) (h := 0) E dX5_of_54 1 rfl (k_X5_stands hI x1 v1 r19 v19 hc19) (gb_V (List.mem_cons_of_mem _ tw_384) (List.mem_cons_of_mem _ tw_385) (List.mem_cons_of_mem _ tw_386) (List.mem_cons_of_mem _ tw_325) tw_383) rfl rfl rfl dd_X5_stands rfl (Nat.le_of_ble_eq_true rfl) s_M0 rfl ⟨by decide, by decide⟩ ⟨Nat.le_refl 0, Nat.le_refl 0⟩ (Nat.le_of_ble_eq_true rfl) ?_
          refine jx_goto (tgt := 78) E dX5_of_57 (by decide) ?_
          obtain ⟨rfl, rfl⟩ := jx_out hF
          exact jx_iret E dX5_of_78 rfl
      · rw [if_neg hc14] at hF
        refine jx_aload_n E dX5_of_38 1 rfl ?_
        refine jx_iload_n E dX5_of_39 2 rfl ?_
        refine jx_iload_n E dX5_of_40 3 rfl ?_
        obtain ⟨⟨r20, v20⟩, hc20, hF⟩ := jx_bind hF
        try dsimp only at hF
        refine jx_callVi (As := [.int x1, .int x2]) (st := []) (h := 0) E dX5_of_41 2 rfl (k_X5_its hI x1 x2 v1 r20 v20 hc20) (gb_V (List.mem_cons_of_mem _ tw_335) (List.mem_cons_of_mem _ tw_336) (List.mem_cons_of_mem _ tw_337) (List.mem_cons_of_mem _ tw_325) tw_334) rfl rfl rfl dd_X5_its rfl (Nat.le_of_ble_eq_true rfl) s_M0 rfl ⟨by decide, by decide⟩ ⟨Nat.le_refl 0, Nat.le_refl 0⟩ (Nat.le_of_ble_eq_true rfl) ?_
        refine jx_goto (tgt := 78) E dX5_of_44 (by decide) ?_
        obtain ⟨rfl, rfl⟩ := jx_out hF
        exact jx_iret E dX5_of_78 rfl
    · rw [if_neg hc13] at hF
      refine jx_aload_n E dX5_of_27 1 rfl ?_
      refine jx_iload_n E dX5_of_28 0 rfl ?_
      obtain ⟨⟨r21, v21⟩, hc21, hF⟩ := jx_bind hF
      try dsimp only at hF
      refine jx_callVi (As := [.int (-1000001)]) (st := []) (h := 0) E dX5_of_29 1 rfl (k_X5_finds hI (-1000001) v1 r21 v21 hc21) (gb_V (List.mem_cons_of_mem _ tw_344) (List.mem_cons_of_mem _ tw_345) (List.mem_cons_of_mem _ tw_346) (List.mem_cons_of_mem _ tw_325) tw_343) rfl rfl rfl dd_X5_finds rfl (Nat.le_of_ble_eq_true rfl) s_M0 rfl ⟨by decide, by decide⟩ ⟨Nat.le_refl 0, Nat.le_refl 0⟩ (Nat.le_of_ble_eq_true rfl) ?_
      obtain ⟨rfl, rfl⟩ := jx_out hF
      exact jx_iret E dX5_of_32 rfl
