def f_X2_readThing (h1 : Nat) (x2 : Int32) (v : jx_V) : Option (jx_V) := ((f_X2_nextToken v).bind (fun v1 => ((f_X2_takeWord 7 v1).bind (fun v2 => ((f_X2_takeLot h1 0 v2).bind (fun (r3, v3) => ((f_X2_takeWord 8 v3).bind (fun v4 => ((f_X2_takeNumber 4 v4).bind (fun (r5, v5) => ((f_X2_takeWord 9 v5).bind (fun v6 => ((f_X2_takeNumber 10 v6).bind (fun (r7, v7) => ((f_X2_isWord 10 v7).bind (fun (r8, v8) => (if r8 = 0 then (if 0 ≤ (v8 53 6) then (some v8) else ((f_X3_put h1 r3 x2 r5 r7 0 v8).bind (fun v11 => (some v11)))) else ((f_X2_takeWord 10 v8).bind (fun v12 => ((f_X2_takeNumber 4 v12).bind (fun (r13, v13) => (if 0 ≤ (v13 53 6) then (some v13) else ((f_X3_put h1 r3 x2 r5 r7 r13 v13).bind (fun v15 => (some v15)))))))))))))))))))))))))
def rm_X2_readThing : Room := { frames := 6, cells := 0, slots := 0, locals := 128 }
set_option maxHeartbeats 4000000 in
set_option maxRecDepth 100000 in
theorem k_X2_readThing {l : Launch} {D : va_G} {cI cJ : ClassId} {ad : Nat → Nat} {A : Nat → Prop} {adK adV : Nat → Nat} (hI : jx_inj 67 ad A) (h1 : Nat) (hT1 : jx_T h1) (x2 : Int32) (v : jx_V) (v' : jx_V) (hF : f_X2_readThing h1 x2 v = some v') : jx_Cv l D vwCl 67 cI cJ ad shX A (ex_X adK adV A) yX2_readThing (Cond.code yX2_readThing cX2_readThing 7 (none) :: bigT) rm_X2_readThing [.ref (ad 53), .ref (ad h1), .int x2] v v' := by
  unfold f_X2_readThing at hF
  refine jx_enterv bigT RX2 cX2_readThing 7 (none) [(0, .ref (ad 53)), (1, .ref (ad h1)), (2, .int x2)] hI (ex_X_ok adK adV A) (by decide +kernel) rfl (Nat.le_of_ble_eq_true rfl) rfl rfl ?_
  intro p e s m args below meth c E
  have iX2 : ∀ w ∈ u_ws RX2 TX2 7, w ∈ (Cond.code yX2_readThing cX2_readThing 7 (none) :: bigT) := fun w h => List.mem_cons_of_mem _ (uw_X2 w h)
  refine jx_aload_n E dX2_readThing_0 0 rfl ?_
  obtain ⟨v1, hc1, hF⟩ := jx_bind hF
  try dsimp only at hF
  refine jx_callVv (As := []) (st := []) (h := 53) E dX2_readThing_1 0 rfl (k_X2_nextToken hI  v v1 hc1) (gb_V (List.mem_cons_of_mem _ tw_122) (List.mem_cons_of_mem _ tw_123) (List.mem_cons_of_mem _ tw_124) (List.mem_cons_of_mem _ tw_100) tw_121) rfl rfl rfl dd_X2_nextToken rfl (Nat.le_of_ble_eq_true rfl) s_X53 rfl ⟨by decide, by decide⟩ ⟨Nat.le_refl 0, Nat.le_refl 0⟩ (Nat.le_of_ble_eq_true rfl) ?_
  refine jx_aload_n E dX2_readThing_4 0 rfl ?_
  refine jx_ldcS (q := adK 7) E dX2_readThing_5 ((jx_ex E).2.2.1 7 (by decide)) ?_
  obtain ⟨v2, hc2, hF⟩ := jx_bind hF
  try dsimp only at hF
  refine jx_callVv (As := [.ref (adK 7)]) (st := []) (h := 53) E dX2_readThing_7 1 rfl (k_X2_takeWord hI 7 (by decide) v1 v2 hc2) (gb_V (List.mem_cons_of_mem _ tw_126) (List.mem_cons_of_mem _ tw_127) (List.mem_cons_of_mem _ tw_128) (List.mem_cons_of_mem _ tw_100) tw_125) rfl rfl rfl dd_X2_takeWord rfl (Nat.le_of_ble_eq_true rfl) s_X53 rfl ⟨by decide, by decide⟩ ⟨Nat.le_refl 0, Nat.le_refl 0⟩ (Nat.le_of_ble_eq_true rfl) ?_
  refine jx_aload_n E dX2_readThing_10 0 rfl ?_
  refine jx_aload_n E dX2_readThing_11 1 rfl ?_
  refine jx_iconst (x := 0) E dX2_readThing_12 (by decide) ?_
  obtain ⟨⟨r3, v3⟩, hc3, hF⟩ := jx_bind hF
  try dsimp only at hF
  refine jx_callVi (As := [.ref (ad h1), .int 0]) (st := []) (h := 53) E dX2_readThing_13 2 rfl (k_X2_takeLot hI h1 hT1 0 v2 r3 v3 hc3) (gb_V (List.mem_cons_of_mem _ tw_130) (List.mem_cons_of_mem _ tw_131) (List.mem_cons_of_mem _ tw_132) (List.mem_cons_of_mem _ tw_100) tw_129) rfl rfl rfl dd_X2_takeLot rfl (Nat.le_of_ble_eq_true rfl) s_X53 rfl ⟨by decide, by decide⟩ ⟨Nat.le_refl 0, Nat.le_refl 0⟩ (Nat.le_of_ble_eq_true rfl) ?_
  refine jx_istore_n (lv' := [(3, .int r3), (0, .ref (ad 53)), (1, .ref (ad h1)), (2, .int x2)]) E dX2_readThing_16 (by decide) rfl ?_
  refine jx_aload_n E dX2_readThing_17 1 rfl ?_
  refine jx_ldcS (q := adK 8) E dX2_readThing_18 ((jx_ex E).2.2.1 8 (by decide)) ?_
  obtain ⟨v4, hc4, hF⟩ := jx_bind hF
  try dsimp only at hF
  refine jx_callVv (As := [.ref (adK 8)]) (st := []) (h := 53) E dX2_readThing_20 1 rfl (k_X2_takeWord hI 8 (by decide) v3 v4 hc4) (gb_V (List.mem_cons_of_mem _ tw_126) (List.mem_cons_of_mem _ tw_127) (List.mem_cons_of_mem _ tw_128) (List.mem_cons_of_mem _ tw_100) tw_125) rfl rfl rfl dd_X2_takeWord rfl (Nat.le_of_ble_eq_true rfl) s_X53 rfl ⟨by decide, by decide⟩ ⟨Nat.le_refl 0, Nat.le_refl 0⟩ (Nat.le_of_ble_eq_true rfl) ?_
  refine jx_aload_n E dX2_readThing_23 1 rfl ?_
  refine jx_iconst (x := 4) E dX2_readThing_24 (by decide) ?_
  obtain ⟨⟨r5, v5⟩, hc5, hF⟩ := jx_bind hF
  try dsimp only at hF
  refine jx_callVi (As := [.int 4]) (st := []) (h := 53) E dX2_readThing_25 1 rfl (k_X2_takeNumber hI 4 v4 r5 v5 hc5) (gb_V (List.mem_cons_of_mem _ tw_134) (List.mem_cons_of_mem _ tw_135) (List.mem_cons_of_mem _ tw_136) (List.mem_cons_of_mem _ tw_100) tw_133) rfl rfl rfl dd_X2_takeNumber rfl (Nat.le_of_ble_eq_true rfl) s_X53 rfl ⟨by decide, by decide⟩ ⟨Nat.le_refl 0, Nat.le_refl 0⟩ (Nat.le_of_ble_eq_true rfl) ?_
  refine jx_istore (lv' := [(4, .int r5), (3, .int r3), (0, .ref (ad 53)), (1, .ref (ad h1)), (2, .int x2)]) E dX2_readThing_28 (by decide) rfl ?_
  refine jx_aload_n E dX2_readThing_30 2 rfl ?_
  refine jx_ldcS (q := adK 9) E dX2_readThing_31 ((jx_ex E).2.2.1 9 (by decide)) ?_
  obtain ⟨v6, hc6, hF⟩ := jx_bind hF
  try dsimp only at hF
  refine jx_callVv (As := [.ref (adK 9)]) (st := []) (h := 53) E dX2_readThing_33 1 rfl (k_X2_takeWord hI 9 (by decide) v5 v6 hc6) (gb_V (List.mem_cons_of_mem _ tw_126) (List.mem_cons_of_mem _ tw_127) (List.mem_cons_of_mem _ tw_128) (List.mem_cons_of_mem _ tw_100) tw_125) rfl rfl rfl dd_X2_takeWord rfl (Nat.le_of_ble_eq_true rfl) s_X53 rfl ⟨by decide, by decide⟩ ⟨Nat.le_refl 0, Nat.le_refl 0⟩ (Nat.le_of_ble_eq_true rfl) ?_
  refine jx_aload_n E dX2_readThing_36 2 rfl ?_
  refine jx_bipush (x := 10) E dX2_readThing_37 (by decide) ?_
  obtain ⟨⟨r7, v7⟩, hc7, hF⟩ := jx_bind hF
  try dsimp only at hF
  refine jx_callVi (As := [.int 10]) (st := []) (h := 53) E dX2_readThing_39 1 rfl (k_X2_takeNumber hI 10 v6 r7 v7 hc7) (gb_V (List.mem_cons_of_mem _ tw_134) (List.mem_cons_of_mem _ tw_135) (List.mem_cons_of_mem _ tw_136) (List.mem_cons_of_mem _ tw_100) tw_133) rfl rfl rfl dd_X2_takeNumber rfl (Nat.le_of_ble_eq_true rfl) s_X53 rfl ⟨by decide, by decide⟩ ⟨Nat.le_refl 0, Nat.le_refl 0⟩ (Nat.le_of_ble_eq_true rfl) ?_
  refine jx_istore (lv' := [(5, .int r7), (4, .int r5), (3, .int r3), (0, .ref (ad 53)), (1, .ref (ad h1)), (2, .int x2)]) E dX2_readThing_42 (by decide) rfl ?_
  refine jx_iconst (x := 0) E dX2_readThing_44 (by decide) ?_
  refine jx_istore (lv' := [(6, .int 0), (5, .int r7), (4, .int r5), (3, .int r3), (0, .ref (ad 53)), (1, .ref (ad h1)), (2, .int x2)]) E dX2_readThing_45 (by decide) rfl ?_
  refine jx_aload_n E dX2_readThing_47 4 rfl ?_
  refine jx_ldcS (q := adK 10) E dX2_readThing_48 ((jx_ex E).2.2.1 10 (by decide)) ?_
  obtain ⟨⟨r8, v8⟩, hc8, hF⟩ := jx_bind hF
  try dsimp only at hF
  refine jx_callVi (As := [.ref (adK 10)]) (st := []) (h := 53) E dX2_readThing_50 1 rfl (k_X2_isWord hI 10 (by decide) v7 r8 v8 hc8) (gb_V (List.mem_cons_of_mem _ tw_113) (List.mem_cons_of_mem _ tw_114) (List.mem_cons_of_mem _ tw_115) (List.mem_cons_of_mem _ tw_100) tw_112) rfl rfl rfl dd_X2_isWord rfl (Nat.le_of_ble_eq_true rfl) s_X53 rfl ⟨by decide, by decide⟩ ⟨Nat.le_refl 0, Nat.le_refl 0⟩ (Nat.le_of_ble_eq_true rfl) ?_
  refine jx_if_eq (tgt := 69) E dX2_readThing_53 (by decide) (fun hc9 => ?_) (fun hc9 => ?_)
  · rw [if_pos hc9] at hF
    refine jx_aload_n E dX2_readThing_69 4 rfl ?_
    refine jx_geti (C := RX2) (T := TX2) (M := 7) (k := 6) E dX2_readThing_70 (Nat.le_of_ble_eq_true rfl) s_X53 rfl iX2 (by decide) rfl (List.mem_cons_of_mem _ tw_116) rfl ?_
    refine jx_if_ge (tgt := 88) E dX2_readThing_73 (by decide) (fun hc10 => ?_) (fun hc10 => ?_)
    · rw [if_pos hc10] at hF
      obtain rfl := Option.some.inj hF
      exact jx_vret E dX2_readThing_88 rfl
    · rw [if_neg hc10] at hF
      refine jx_aload_n E dX2_readThing_76 5 rfl ?_
      refine jx_iload_n E dX2_readThing_77 3 rfl ?_
      refine jx_iload_n E dX2_readThing_78 6 rfl ?_
      refine jx_iload E dX2_readThing_79 2 rfl ?_
      refine jx_iload E dX2_readThing_81 1 rfl ?_
      refine jx_iload E dX2_readThing_83 0 rfl ?_
      obtain ⟨v11, hc11, hF⟩ := jx_bind hF
      try dsimp only at hF
      refine jx_callNv (As := [.int r3, .int x2, .int r5, .int r7, .int 0]) (st := []) (h := h1) E dX2_readThing_85 5 rfl (k_X3_put hI h1 hT1 r3 x2 r5 r7 0 v8 v11 hc11) (gb_N tw_137) rfl rfl rfl (ex_m36 (jx_ex E)) (List.mem_cons_of_mem _ tw_33) (List.mem_cons_of_mem _ tw_138) (List.mem_cons_of_mem _ tw_139) dd_X3_put.2 rfl (n_T0 hT1) (s_T0 hT1) rfl ⟨by decide, by decide⟩ ⟨Nat.le_refl 0, Nat.le_refl 0⟩ (Nat.le_of_ble_eq_true rfl) ?_
      obtain rfl := Option.some.inj hF
      exact jx_vret E dX2_readThing_88 rfl
  · rw [if_neg hc9] at hF
    refine jx_aload_n E dX2_readThing_56 4 rfl ?_
    refine jx_ldcS (q := adK 10) E dX2_readThing_57 ((jx_ex E).2.2.1 10 (by decide)) ?_
    obtain ⟨v12, hc12, hF⟩ := jx_bind hF
    try dsimp only at hF
    refine jx_callVv (As := [.ref (adK 10)]) (st := []) (h := 53) E dX2_readThing_59 1 rfl (k_X2_takeWord hI 10 (by decide) v8 v12 hc12) (gb_V (List.mem_cons_of_mem _ tw_126) (List.mem_cons_of_mem _ tw_127) (List.mem_cons_of_mem _ tw_128) (List.mem_cons_of_mem _ tw_100) tw_125) rfl rfl rfl dd_X2_takeWord rfl (Nat.le_of_ble_eq_true rfl) s_X53 rfl ⟨by decide, by decide⟩ ⟨Nat.le_refl 0, Nat.le_refl 0⟩ (Nat.le_of_ble_eq_true rfl) ?_
    refine jx_aload_n E dX2_readThing_62 4 rfl ?_
    refine jx_iconst (x := 4) E dX2_readThing_63 (by decide) ?_
    obtain ⟨⟨r13, v13⟩, hc13, hF⟩ := jx_bind hF
    try dsimp only at hF
    refine jx_callVi (As := [.int 4]) (st := []) (h := 53) E dX2_readThing_64 1 rfl (k_X2_takeNumber hI 4 v12 r13 v13 hc13) (gb_V (List.mem_cons_of_mem _ tw_134) (List.mem_cons_of_mem _ tw_135) (List.mem_cons_of_mem _ tw_136) (List.mem_cons_of_mem _ tw_100) tw_133) rfl rfl rfl dd_X2_takeNumber rfl (Nat.le_of_ble_eq_true rfl) s_X53 rfl ⟨by decide, by decide⟩ ⟨Nat.le_refl 0, Nat.le_refl 0⟩ (Nat.le_of_ble_eq_true rfl) ?_
    refine jx_istore (lv' := [(6, .int r13), (5, .int r7), (4, .int r5), (3, .int r3), (0, .ref (ad 53)), (1, .ref (ad h1)), (2, .int x2)]) E dX2_readThing_67 (by decide) rfl ?_
    refine jx_aload_n E dX2_readThing_69 4 rfl ?_
    refine jx_geti (C := RX2) (T := TX2) (M := 7) (k := 6) E dX2_readThing_70 (Nat.le_of_ble_eq_true rfl) s_X53 rfl iX2 (by decide) rfl (List.mem_cons_of_mem _ tw_116) rfl ?_
    refine jx_if_ge (tgt := 88) E dX2_readThing_73 (by decide) (fun hc14 => ?_) (fun hc14 => ?_)
    · rw [if_pos hc14] at hF
      obtain rfl := Option.some.inj hF
      exact jx_vret E dX2_readThing_88 rfl
    · rw [if_neg hc14] at hF
      refine jx_aload_n E dX2_readThing_76 5 rfl ?_
      refine jx_iload_n E dX2_readThing_77 3 rfl ?_
      refine jx_iload_n E dX2_readThing_78 6 rfl ?_
      refine jx_iload E dX2_readThing_79 2 rfl ?_
      refine jx_iload E dX2_readThing_81 1 rfl ?_
      refine jx_iload E dX2_readThing_83 0 rfl ?_
      obtain ⟨v15, hc15, hF⟩ := jx_bind hF
      try dsimp only at hF
      refine jx_callNv (As := [.int r3, .int x2, .int r5, .int r7, .int r13]) (st := []) (h := h1) E dX2_readThing_85 5 rfl (k_X3_put hI h1 hT1 r3 x2 r5 r7 r13 v13 v15 hc15) (gb_N tw_137) rfl rfl rfl (ex_m36 (jx_ex E)) (List.mem_cons_of_mem _ tw_33) (List.mem_cons_of_mem _ tw_138) (List.mem_cons_of_mem _ tw_139) dd_X3_put.2 rfl (n_T0 hT1) (s_T0 hT1) rfl ⟨by decide, by decide⟩ ⟨Nat.le_refl 0, Nat.le_refl 0⟩ (Nat.le_of_ble_eq_true rfl) ?_
      obtain rfl := Option.some.inj hF
      exact jx_vret E dX2_readThing_88 rfl
def f_X3_addWindow (h0 : Nat) (x1 : Int32) (x2 : Int32) (x3 : Int32) (x4 : Int32) (v : jx_V) : Option (jx_V) := (if 10 ≤ (v h0 5) then (some v) else (if ((v h0 5) < 0 ∨ 10 ≤ Int32.toNatClampNeg (v h0 5)) then none else (if (((jx_up v (h0 + 7) (Int32.toNatClampNeg (v h0 5)) x1) h0 5) < 0 ∨ 10 ≤ Int32.toNatClampNeg ((jx_up v (h0 + 7) (Int32.toNatClampNeg (v h0 5)) x1) h0 5)) then none else (if (((jx_up (jx_up v (h0 + 7) (Int32.toNatClampNeg (v h0 5)) x1) (h0 + 8) (Int32.toNatClampNeg ((jx_up v (h0 + 7) (Int32.toNatClampNeg (v h0 5)) x1) h0 5)) x2) h0 5) < 0 ∨ 10 ≤ Int32.toNatClampNeg ((jx_up (jx_up v (h0 + 7) (Int32.toNatClampNeg (v h0 5)) x1) (h0 + 8) (Int32.toNatClampNeg ((jx_up v (h0 + 7) (Int32.toNatClampNeg (v h0 5)) x1) h0 5)) x2) h0 5)) then none else (if (((jx_up (jx_up (jx_up v (h0 + 7) (Int32.toNatClampNeg (v h0 5)) x1) (h0 + 8) (Int32.toNatClampNeg ((jx_up v (h0 + 7) (Int32.toNatClampNeg (v h0 5)) x1) h0 5)) x2) (h0 + 9) (Int32.toNatClampNeg ((jx_up (jx_up v (h0 + 7) (Int32.toNatClampNeg (v h0 5)) x1) (h0 + 8) (Int32.toNatClampNeg ((jx_up v (h0 + 7) (Int32.toNatClampNeg (v h0 5)) x1) h0 5)) x2) h0 5)) x3) h0 5) < 0 ∨ 10 ≤ Int32.toNatClampNeg ((jx_up (jx_up (jx_up v (h0 + 7) (Int32.toNatClampNeg (v h0 5)) x1) (h0 + 8) (Int32.toNatClampNeg ((jx_up v (h0 + 7) (Int32.toNatClampNeg (v h0 5)) x1) h0 5)) x2) (h0 + 9) (Int32.toNatClampNeg ((jx_up (jx_up v (h0 + 7) (Int32.toNatClampNeg (v h0 5)) x1) (h0 + 8) (Int32.toNatClampNeg ((jx_up v (h0 + 7) (Int32.toNatClampNeg (v h0 5)) x1) h0 5)) x2) h0 5)) x3) h0 5)) then none else (if (((jx_up (jx_up (jx_up (jx_up v (h0 + 7) (Int32.toNatClampNeg (v h0 5)) x1) (h0 + 8) (Int32.toNatClampNeg ((jx_up v (h0 + 7) (Int32.toNatClampNeg (v h0 5)) x1) h0 5)) x2) (h0 + 9) (Int32.toNatClampNeg ((jx_up (jx_up v (h0 + 7) (Int32.toNatClampNeg (v h0 5)) x1) (h0 + 8) (Int32.toNatClampNeg ((jx_up v (h0 + 7) (Int32.toNatClampNeg (v h0 5)) x1) h0 5)) x2) h0 5)) x3) (h0 + 10) (Int32.toNatClampNeg ((jx_up (jx_up (jx_up v (h0 + 7) (Int32.toNatClampNeg (v h0 5)) x1) (h0 + 8) (Int32.toNatClampNeg ((jx_up v (h0 + 7) (Int32.toNatClampNeg (v h0 5)) x1) h0 5)) x2) (h0 + 9) (Int32.toNatClampNeg ((jx_up (jx_up v (h0 + 7) (Int32.toNatClampNeg (v h0 5)) x1) (h0 + 8) (Int32.toNatClampNeg ((jx_up v (h0 + 7) (Int32.toNatClampNeg (v h0 5)) x1) h0 5)) x2) h0 5)) x3) h0 5)) x4) h0 5) < 0 ∨ 10 ≤ Int32.toNatClampNeg ((jx_up (jx_up (jx_up (jx_up v (h0 + 7) (Int32.toNatClampNeg (v h0 5)) x1) (h0 + 8) (Int32.toNatClampNeg ((jx_up v (h0 + 7) (Int32.toNatClampNeg (v h0 5)) x1) h0 5)) x2) (h0 + 9) (Int32.toNatClampNeg ((jx_up (jx_up v (h0 + 7) (Int32.toNatClampNeg (v h0 5)) x1) (h0 + 8) (Int32.toNatClampNeg ((jx_up v (h0 + 7) (Int32.toNatClampNeg (v h0 5)) x1) h0 5)) x2) h0 5)) x3) (h0 + 10) (Int32.toNatClampNeg ((jx_up (jx_up (jx_up v (h0 + 7) (Int32.toNatClampNeg (v h0 5)) x1) (h0 + 8) (Int32.toNatClampNeg ((jx_up v (h0 + 7) (Int32.toNatClampNeg (v h0 5)) x1) h0 5)) x2) (h0 + 9) (Int32.toNatClampNeg ((jx_up (jx_up v (h0 + 7) (Int32.toNatClampNeg (v h0 5)) x1) (h0 + 8) (Int32.toNatClampNeg ((jx_up v (h0 + 7) (Int32.toNatClampNeg (v h0 5)) x1) h0 5)) x2) h0 5)) x3) h0 5)) x4) h0 5)) then none else (if (((jx_up (jx_up (jx_up (jx_up (jx_up v (h0 + 7) (Int32.toNatClampNeg (v h0 5)) x1) (h0 + 8) (Int32.toNatClampNeg ((jx_up v (h0 + 7) (Int32.toNatClampNeg (v h0 5)) x1) h0 5)) x2) (h0 + 9) (Int32.toNatClampNeg ((jx_up (jx_up v (h0 + 7) (Int32.toNatClampNeg (v h0 5)) x1) (h0 + 8) (Int32.toNatClampNeg ((jx_up v (h0 + 7) (Int32.toNatClampNeg (v h0 5)) x1) h0 5)) x2) h0 5)) x3) (h0 + 10) (Int32.toNatClampNeg ((jx_up (jx_up (jx_up v (h0 + 7) (Int32.toNatClampNeg (v h0 5)) x1) (h0 + 8) (Int32.toNatClampNeg ((jx_up v (h0 + 7) (Int32.toNatClampNeg (v h0 5)) x1) h0 5)) x2) (h0 + 9) (Int32.toNatClampNeg ((jx_up (jx_up v (h0 + 7) (Int32.toNatClampNeg (v h0 5)) x1) (h0 + 8) (Int32.toNatClampNeg ((jx_up v (h0 + 7) (Int32.toNatClampNeg (v h0 5)) x1) h0 5)) x2) h0 5)) x3) h0 5)) x4) (h0 + 11) (Int32.toNatClampNeg ((jx_up (jx_up (jx_up (jx_up v (h0 + 7) (Int32.toNatClampNeg (v h0 5)) x1) (h0 + 8) (Int32.toNatClampNeg ((jx_up v (h0 + 7) (Int32.toNatClampNeg (v h0 5)) x1) h0 5)) x2) (h0 + 9) (Int32.toNatClampNeg ((jx_up (jx_up v (h0 + 7) (Int32.toNatClampNeg (v h0 5)) x1) (h0 + 8) (Int32.toNatClampNeg ((jx_up v (h0 + 7) (Int32.toNatClampNeg (v h0 5)) x1) h0 5)) x2) h0 5)) x3) (h0 + 10) (Int32.toNatClampNeg ((jx_up (jx_up (jx_up v (h0 + 7) (Int32.toNatClampNeg (v h0 5)) x1) (h0 + 8) (Int32.toNatClampNeg ((jx_up v (h0 + 7) (Int32.toNatClampNeg (v h0 5)) x1) h0 5)) x2) (h0 + 9) (Int32.toNatClampNeg ((jx_up (jx_up v (h0 + 7) (Int32.toNatClampNeg (v h0 5)) x1) (h0 + 8) (Int32.toNatClampNeg ((jx_up v (h0 + 7) (Int32.toNatClampNeg (v h0 5)) x1) h0 5)) x2) h0 5)) x3) h0 5)) x4) h0 5)) (-1)) h0 5) < 0 ∨ 10 ≤ Int32.toNatClampNeg ((jx_up (jx_up (jx_up (jx_up (jx_up v (h0 + 7) (Int32.toNatClampNeg (v h0 5)) x1) (h0 + 8) (Int32.toNatClampNeg ((jx_up v (h0 + 7) (Int32.toNatClampNeg (v h0 5)) x1) h0 5)) x2) (h0 + 9) (Int32.toNatClampNeg ((jx_up (jx_up v (h0 + 7) (Int32.toNatClampNeg (v h0 5)) x1) (h0 + 8) (Int32.toNatClampNeg ((jx_up v (h0 + 7) (Int32.toNatClampNeg (v h0 5)) x1) h0 5)) x2) h0 5)) x3) (h0 + 10) (Int32.toNatClampNeg ((jx_up (jx_up (jx_up v (h0 + 7) (Int32.toNatClampNeg (v h0 5)) x1) (h0 + 8) (Int32.toNatClampNeg ((jx_up v (h0 + 7) (Int32.toNatClampNeg (v h0 5)) x1) h0 5)) x2) (h0 + 9) (Int32.toNatClampNeg ((jx_up (jx_up v (h0 + 7) (Int32.toNatClampNeg (v h0 5)) x1) (h0 + 8) (Int32.toNatClampNeg ((jx_up v (h0 + 7) (Int32.toNatClampNeg (v h0 5)) x1) h0 5)) x2) h0 5)) x3) h0 5)) x4) (h0 + 11) (Int32.toNatClampNeg ((jx_up (jx_up (jx_up (jx_up v (h0 + 7) (Int32.toNatClampNeg (v h0 5)) x1) (h0 + 8) (Int32.toNatClampNeg ((jx_up v (h0 + 7) (Int32.toNatClampNeg (v h0 5)) x1) h0 5)) x2) (h0 + 9) (Int32.toNatClampNeg ((jx_up (jx_up v (h0 + 7) (Int32.toNatClampNeg (v h0 5)) x1) (h0 + 8) (Int32.toNatClampNeg ((jx_up v (h0 + 7) (Int32.toNatClampNeg (v h0 5)) x1) h0 5)) x2) h0 5)) x3) (h0 + 10) (Int32.toNatClampNeg ((jx_up (jx_up (jx_up v (h0 + 7) (Int32.toNatClampNeg (v h0 5)) x1) (h0 + 8) (Int32.toNatClampNeg ((jx_up v (h0 + 7) (Int32.toNatClampNeg (v h0 5)) x1) h0 5)) x2) (h0 + 9) (Int32.toNatClampNeg ((jx_up (jx_up v (h0 + 7) (Int32.toNatClampNeg (v h0 5)) x1) (h0 + 8) (Int32.toNatClampNeg ((jx_up v (h0 + 7) (Int32.toNatClampNeg (v h0 5)) x1) h0 5)) x2) h0 5)) x3) h0 5)) x4) h0 5)) (-1)) h0 5)) then none else (some (jx_up (jx_up (jx_up (jx_up (jx_up (jx_up (jx_up v (h0 + 7) (Int32.toNatClampNeg (v h0 5)) x1) (h0 + 8) (Int32.toNatClampNeg ((jx_up v (h0 + 7) (Int32.toNatClampNeg (v h0 5)) x1) h0 5)) x2) (h0 + 9) (Int32.toNatClampNeg ((jx_up (jx_up v (h0 + 7) (Int32.toNatClampNeg (v h0 5)) x1) (h0 + 8) (Int32.toNatClampNeg ((jx_up v (h0 + 7) (Int32.toNatClampNeg (v h0 5)) x1) h0 5)) x2) h0 5)) x3) (h0 + 10) (Int32.toNatClampNeg ((jx_up (jx_up (jx_up v (h0 + 7) (Int32.toNatClampNeg (v h0 5)) x1) (h0 + 8) (Int32.toNatClampNeg ((jx_up v (h0 + 7) (Int32.toNatClampNeg (v h0 5)) x1) h0 5)) x2) (h0 + 9) (Int32.toNatClampNeg ((jx_up (jx_up v (h0 + 7) (Int32.toNatClampNeg (v h0 5)) x1) (h0 + 8) (Int32.toNatClampNeg ((jx_up v (h0 + 7) (Int32.toNatClampNeg (v h0 5)) x1) h0 5)) x2) h0 5)) x3) h0 5)) x4) (h0 + 11) (Int32.toNatClampNeg ((jx_up (jx_up (jx_up (jx_up v (h0 + 7) (Int32.toNatClampNeg (v h0 5)) x1) (h0 + 8) (Int32.toNatClampNeg ((jx_up v (h0 + 7) (Int32.toNatClampNeg (v h0 5)) x1) h0 5)) x2) (h0 + 9) (Int32.toNatClampNeg ((jx_up (jx_up v (h0 + 7) (Int32.toNatClampNeg (v h0 5)) x1) (h0 + 8) (Int32.toNatClampNeg ((jx_up v (h0 + 7) (Int32.toNatClampNeg (v h0 5)) x1) h0 5)) x2) h0 5)) x3) (h0 + 10) (Int32.toNatClampNeg ((jx_up (jx_up (jx_up v (h0 + 7) (Int32.toNatClampNeg (v h0 5)) x1) (h0 + 8) (Int32.toNatClampNeg ((jx_up v (h0 + 7) (Int32.toNatClampNeg (v h0 5)) x1) h0 5)) x2) (h0 + 9) (Int32.toNatClampNeg ((jx_up (jx_up v (h0 + 7) (Int32.toNatClampNeg (v h0 5)) x1) (h0 + 8) (Int32.toNatClampNeg ((jx_up v (h0 + 7) (Int32.toNatClampNeg (v h0 5)) x1) h0 5)) x2) h0 5)) x3) h0 5)) x4) h0 5)) (-1)) (h0 + 12) (Int32.toNatClampNeg ((jx_up (jx_up (jx_up (jx_up (jx_up v (h0 + 7) (Int32.toNatClampNeg (v h0 5)) x1) (h0 + 8) (Int32.toNatClampNeg ((jx_up v (h0 + 7) (Int32.toNatClampNeg (v h0 5)) x1) h0 5)) x2) (h0 + 9) (Int32.toNatClampNeg ((jx_up (jx_up v (h0 + 7) (Int32.toNatClampNeg (v h0 5)) x1) (h0 + 8) (Int32.toNatClampNeg ((jx_up v (h0 + 7) (Int32.toNatClampNeg (v h0 5)) x1) h0 5)) x2) h0 5)) x3) (h0 + 10) (Int32.toNatClampNeg ((jx_up (jx_up (jx_up v (h0 + 7) (Int32.toNatClampNeg (v h0 5)) x1) (h0 + 8) (Int32.toNatClampNeg ((jx_up v (h0 + 7) (Int32.toNatClampNeg (v h0 5)) x1) h0 5)) x2) (h0 + 9) (Int32.toNatClampNeg ((jx_up (jx_up v (h0 + 7) (Int32.toNatClampNeg (v h0 5)) x1) (h0 + 8) (Int32.toNatClampNeg ((jx_up v (h0 + 7) (Int32.toNatClampNeg (v h0 5)) x1) h0 5)) x2) h0 5)) x3) h0 5)) x4) (h0 + 11) (Int32.toNatClampNeg ((jx_up (jx_up (jx_up (jx_up v (h0 + 7) (Int32.toNatClampNeg (v h0 5)) x1) (h0 + 8) (Int32.toNatClampNeg ((jx_up v (h0 + 7) (Int32.toNatClampNeg (v h0 5)) x1) h0 5)) x2) (h0 + 9) (Int32.toNatClampNeg ((jx_up (jx_up v (h0 + 7) (Int32.toNatClampNeg (v h0 5)) x1) (h0 + 8) (Int32.toNatClampNeg ((jx_up v (h0 + 7) (Int32.toNatClampNeg (v h0 5)) x1) h0 5)) x2) h0 5)) x3) (h0 + 10) (Int32.toNatClampNeg ((jx_up (jx_up (jx_up v (h0 + 7) (Int32.toNatClampNeg (v h0 5)) x1) (h0 + 8) (Int32.toNatClampNeg ((jx_up v (h0 + 7) (Int32.toNatClampNeg (v h0 5)) x1) h0 5)) x2) (h0 + 9) (Int32.toNatClampNeg ((jx_up (jx_up v (h0 + 7) (Int32.toNatClampNeg (v h0 5)) x1) (h0 + 8) (Int32.toNatClampNeg ((jx_up v (h0 + 7) (Int32.toNatClampNeg (v h0 5)) x1) h0 5)) x2) h0 5)) x3) h0 5)) x4) h0 5)) (-1)) h0 5)) 0) h0 5 (((jx_up (jx_up (jx_up (jx_up (jx_up (jx_up v (h0 + 7) (Int32.toNatClampNeg (v h0 5)) x1) (h0 + 8) (Int32.toNatClampNeg ((jx_up v (h0 + 7) (Int32.toNatClampNeg (v h0 5)) x1) h0 5)) x2) (h0 + 9) (Int32.toNatClampNeg ((jx_up (jx_up v (h0 + 7) (Int32.toNatClampNeg (v h0 5)) x1) (h0 + 8) (Int32.toNatClampNeg ((jx_up v (h0 + 7) (Int32.toNatClampNeg (v h0 5)) x1) h0 5)) x2) h0 5)) x3) (h0 + 10) (Int32.toNatClampNeg ((jx_up (jx_up (jx_up v (h0 + 7) (Int32.toNatClampNeg (v h0 5)) x1) (h0 + 8) (Int32.toNatClampNeg ((jx_up v (h0 + 7) (Int32.toNatClampNeg (v h0 5)) x1) h0 5)) x2) (h0 + 9) (Int32.toNatClampNeg ((jx_up (jx_up v (h0 + 7) (Int32.toNatClampNeg (v h0 5)) x1) (h0 + 8) (Int32.toNatClampNeg ((jx_up v (h0 + 7) (Int32.toNatClampNeg (v h0 5)) x1) h0 5)) x2) h0 5)) x3) h0 5)) x4) (h0 + 11) (Int32.toNatClampNeg ((jx_up (jx_up (jx_up (jx_up v (h0 + 7) (Int32.toNatClampNeg (v h0 5)) x1) (h0 + 8) (Int32.toNatClampNeg ((jx_up v (h0 + 7) (Int32.toNatClampNeg (v h0 5)) x1) h0 5)) x2) (h0 + 9) (Int32.toNatClampNeg ((jx_up (jx_up v (h0 + 7) (Int32.toNatClampNeg (v h0 5)) x1) (h0 + 8) (Int32.toNatClampNeg ((jx_up v (h0 + 7) (Int32.toNatClampNeg (v h0 5)) x1) h0 5)) x2) h0 5)) x3) (h0 + 10) (Int32.toNatClampNeg ((jx_up (jx_up (jx_up v (h0 + 7) (Int32.toNatClampNeg (v h0 5)) x1) (h0 + 8) (Int32.toNatClampNeg ((jx_up v (h0 + 7) (Int32.toNatClampNeg (v h0 5)) x1) h0 5)) x2) (h0 + 9) (Int32.toNatClampNeg ((jx_up (jx_up v (h0 + 7) (Int32.toNatClampNeg (v h0 5)) x1) (h0 + 8) (Int32.toNatClampNeg ((jx_up v (h0 + 7) (Int32.toNatClampNeg (v h0 5)) x1) h0 5)) x2) h0 5)) x3) h0 5)) x4) h0 5)) (-1)) (h0 + 12) (Int32.toNatClampNeg ((jx_up (jx_up (jx_up (jx_up (jx_up v (h0 + 7) (Int32.toNatClampNeg (v h0 5)) x1) (h0 + 8) (Int32.toNatClampNeg ((jx_up v (h0 + 7) (Int32.toNatClampNeg (v h0 5)) x1) h0 5)) x2) (h0 + 9) (Int32.toNatClampNeg ((jx_up (jx_up v (h0 + 7) (Int32.toNatClampNeg (v h0 5)) x1) (h0 + 8) (Int32.toNatClampNeg ((jx_up v (h0 + 7) (Int32.toNatClampNeg (v h0 5)) x1) h0 5)) x2) h0 5)) x3) (h0 + 10) (Int32.toNatClampNeg ((jx_up (jx_up (jx_up v (h0 + 7) (Int32.toNatClampNeg (v h0 5)) x1) (h0 + 8) (Int32.toNatClampNeg ((jx_up v (h0 + 7) (Int32.toNatClampNeg (v h0 5)) x1) h0 5)) x2) (h0 + 9) (Int32.toNatClampNeg ((jx_up (jx_up v (h0 + 7) (Int32.toNatClampNeg (v h0 5)) x1) (h0 + 8) (Int32.toNatClampNeg ((jx_up v (h0 + 7) (Int32.toNatClampNeg (v h0 5)) x1) h0 5)) x2) h0 5)) x3) h0 5)) x4) (h0 + 11) (Int32.toNatClampNeg ((jx_up (jx_up (jx_up (jx_up v (h0 + 7) (Int32.toNatClampNeg (v h0 5)) x1) (h0 + 8) (Int32.toNatClampNeg ((jx_up v (h0 + 7) (Int32.toNatClampNeg (v h0 5)) x1) h0 5)) x2) (h0 + 9) (Int32.toNatClampNeg ((jx_up (jx_up v (h0 + 7) (Int32.toNatClampNeg (v h0 5)) x1) (h0 + 8) (Int32.toNatClampNeg ((jx_up v (h0 + 7) (Int32.toNatClampNeg (v h0 5)) x1) h0 5)) x2) h0 5)) x3) (h0 + 10) (Int32.toNatClampNeg ((jx_up (jx_up (jx_up v (h0 + 7) (Int32.toNatClampNeg (v h0 5)) x1) (h0 + 8) (Int32.toNatClampNeg ((jx_up v (h0 + 7) (Int32.toNatClampNeg (v h0 5)) x1) h0 5)) x2) (h0 + 9) (Int32.toNatClampNeg ((jx_up (jx_up v (h0 + 7) (Int32.toNatClampNeg (v h0 5)) x1) (h0 + 8) (Int32.toNatClampNeg ((jx_up v (h0 + 7) (Int32.toNatClampNeg (v h0 5)) x1) h0 5)) x2) h0 5)) x3) h0 5)) x4) h0 5)) (-1)) h0 5)) 0) h0 5) + 1))))))))))
def rm_X3_addWindow : Room := { frames := 0, cells := 0, slots := 0, locals := 0 }
set_option maxHeartbeats 4000000 in
set_option maxRecDepth 100000 in
theorem k_X3_addWindow {l : Launch} {D : va_G} {cI cJ : ClassId} {ad : Nat → Nat} {A : Nat → Prop} {adK adV : Nat → Nat} (hI : jx_inj 67 ad A) (h0 : Nat) (hT0 : jx_T h0) (x1 : Int32) (x2 : Int32) (x3 : Int32) (x4 : Int32) (v : jx_V) (v' : jx_V) (hF : f_X3_addWindow h0 x1 x2 x3 x4 v = some v') : jx_Cv l D vwCl 67 cI cJ ad shX A (ex_X adK adV A) yX3_addWindow (Cond.code yX3_addWindow cX3_addWindow 5 (none) :: bigT) rm_X3_addWindow [.ref (ad h0), .int x1, .int x2, .int x3, .int x4] v v' := by
  unfold f_X3_addWindow at hF
  refine jx_enterv bigT RX3 cX3_addWindow 5 (none) [(0, .ref (ad h0)), (1, .int x1), (2, .int x2), (3, .int x3), (4, .int x4)] hI (ex_X_ok adK adV A) (by decide +kernel) rfl (Nat.le_of_ble_eq_true rfl) rfl rfl ?_
  intro p e s m args below meth c E
  have iX3 : ∀ w ∈ u_ws RX3 TX3 8, w ∈ (Cond.code yX3_addWindow cX3_addWindow 5 (none) :: bigT) := fun w h => List.mem_cons_of_mem _ (uw_X3 w h)
  refine jx_aload_n E dX3_addWindow_0 0 rfl ?_
  refine jx_geti (C := RX3) (T := TX3) (M := 8) (k := 5) E dX3_addWindow_1 (n_T0 hT0) (s_T0 hT0) rfl iX3 (by decide) rfl (List.mem_cons_of_mem _ tw_140) rfl ?_
  refine jx_bipush (x := 10) E dX3_addWindow_4 (by decide) ?_
  refine jx_icmp_ge (tgt := 92) E dX3_addWindow_6 (by decide) (fun hc1 => ?_) (fun hc1 => ?_)
  · rw [if_pos hc1] at hF
    obtain rfl := Option.some.inj hF
    exact jx_vret E dX3_addWindow_92 rfl
  · rw [if_neg hc1] at hF
    refine jx_aload_n E dX3_addWindow_9 0 rfl ?_
    refine jx_getr (C := RX3) (T := TX3) (M := 8) (k := 1) E dX3_addWindow_10 (n_T0 hT0) (s_T0 hT0) rfl iX3 (by decide) rfl (List.mem_cons_of_mem _ tw_141) rfl ?_
    refine jx_iconst (x := 0) E dX3_addWindow_13 (by decide) ?_
    refine jx_aald (h' := (h0 + 7)) E dX3_addWindow_14 (n_T2 hT0) (s_T2 hT0) (show ¬ ((0 : Int32) < 0 ∨ 6 ≤ Int32.toNatClampNeg 0) by decide) rfl ?_
    refine jx_aload_n E dX3_addWindow_15 0 rfl ?_
    refine jx_geti (C := RX3) (T := TX3) (M := 8) (k := 5) E dX3_addWindow_16 (n_T0 hT0) (s_T0 hT0) rfl iX3 (by decide) rfl (List.mem_cons_of_mem _ tw_140) rfl ?_
    refine jx_iload_n E dX3_addWindow_19 1 rfl ?_
    obtain ⟨hg2, hF⟩ := jx_guard hF
    refine jx_iast (h := (h0 + 7)) (j := (Int32.toNatClampNeg (v h0 5))) E dX3_addWindow_20 (n_T7 hT0) (s_T7 hT0) hg2 rfl ?_
    refine jx_aload_n E dX3_addWindow_21 0 rfl ?_
    refine jx_getr (C := RX3) (T := TX3) (M := 8) (k := 1) E dX3_addWindow_22 (n_T0 hT0) (s_T0 hT0) rfl iX3 (by decide) rfl (List.mem_cons_of_mem _ tw_141) rfl ?_
    refine jx_iconst (x := 1) E dX3_addWindow_25 (by decide) ?_
    refine jx_aald (h' := (h0 + 8)) E dX3_addWindow_26 (n_T2 hT0) (s_T2 hT0) (show ¬ ((1 : Int32) < 0 ∨ 6 ≤ Int32.toNatClampNeg 1) by decide) rfl ?_
    refine jx_aload_n E dX3_addWindow_27 0 rfl ?_
    refine jx_geti (C := RX3) (T := TX3) (M := 8) (k := 5) E dX3_addWindow_28 (n_T0 hT0) (s_T0 hT0) rfl iX3 (by decide) rfl (List.mem_cons_of_mem _ tw_140) rfl ?_
    refine jx_iload_n E dX3_addWindow_31 2 rfl ?_
    obtain ⟨hg3, hF⟩ := jx_guard hF
    refine jx_iast (h := (h0 + 8)) (j := (Int32.toNatClampNeg ((jx_up v (h0 + 7) (Int32.toNatClampNeg (v h0 5)) x1) h0 5))) E dX3_addWindow_32 (n_T8 hT0) (s_T8 hT0) hg3 rfl ?_
    refine jx_aload_n E dX3_addWindow_33 0 rfl ?_
    refine jx_getr (C := RX3) (T := TX3) (M := 8) (k := 1) E dX3_addWindow_34 (n_T0 hT0) (s_T0 hT0) rfl iX3 (by decide) rfl (List.mem_cons_of_mem _ tw_141) rfl ?_
    refine jx_iconst (x := 2) E dX3_addWindow_37 (by decide) ?_
    refine jx_aald (h' := (h0 + 9)) E dX3_addWindow_38 (n_T2 hT0) (s_T2 hT0) (show ¬ ((2 : Int32) < 0 ∨ 6 ≤ Int32.toNatClampNeg 2) by decide) rfl ?_
    refine jx_aload_n E dX3_addWindow_39 0 rfl ?_
    refine jx_geti (C := RX3) (T := TX3) (M := 8) (k := 5) E dX3_addWindow_40 (n_T0 hT0) (s_T0 hT0) rfl iX3 (by decide) rfl (List.mem_cons_of_mem _ tw_140) rfl ?_
    refine jx_iload_n E dX3_addWindow_43 3 rfl ?_
    obtain ⟨hg4, hF⟩ := jx_guard hF
    refine jx_iast (h := (h0 + 9)) (j := (Int32.toNatClampNeg ((jx_up (jx_up v (h0 + 7) (Int32.toNatClampNeg (v h0 5)) x1) (h0 + 8) (Int32.toNatClampNeg ((jx_up v (h0 + 7) (Int32.toNatClampNeg (v h0 5)) x1) h0 5)) x2) h0 5))) E dX3_addWindow_44 (n_T9 hT0) (s_T9 hT0) hg4 rfl ?_
    refine jx_aload_n E dX3_addWindow_45 0 rfl ?_
    refine jx_getr (C := RX3) (T := TX3) (M := 8) (k := 1) E dX3_addWindow_46 (n_T0 hT0) (s_T0 hT0) rfl iX3 (by decide) rfl (List.mem_cons_of_mem _ tw_141) rfl ?_
    refine jx_iconst (x := 3) E dX3_addWindow_49 (by decide) ?_
    refine jx_aald (h' := (h0 + 10)) E dX3_addWindow_50 (n_T2 hT0) (s_T2 hT0) (show ¬ ((3 : Int32) < 0 ∨ 6 ≤ Int32.toNatClampNeg 3) by decide) rfl ?_
    refine jx_aload_n E dX3_addWindow_51 0 rfl ?_
    refine jx_geti (C := RX3) (T := TX3) (M := 8) (k := 5) E dX3_addWindow_52 (n_T0 hT0) (s_T0 hT0) rfl iX3 (by decide) rfl (List.mem_cons_of_mem _ tw_140) rfl ?_
    refine jx_iload E dX3_addWindow_55 4 rfl ?_
    obtain ⟨hg5, hF⟩ := jx_guard hF
    refine jx_iast (h := (h0 + 10)) (j := (Int32.toNatClampNeg ((jx_up (jx_up (jx_up v (h0 + 7) (Int32.toNatClampNeg (v h0 5)) x1) (h0 + 8) (Int32.toNatClampNeg ((jx_up v (h0 + 7) (Int32.toNatClampNeg (v h0 5)) x1) h0 5)) x2) (h0 + 9) (Int32.toNatClampNeg ((jx_up (jx_up v (h0 + 7) (Int32.toNatClampNeg (v h0 5)) x1) (h0 + 8) (Int32.toNatClampNeg ((jx_up v (h0 + 7) (Int32.toNatClampNeg (v h0 5)) x1) h0 5)) x2) h0 5)) x3) h0 5))) E dX3_addWindow_57 (n_T10 hT0) (s_T10 hT0) hg5 rfl ?_
    refine jx_aload_n E dX3_addWindow_58 0 rfl ?_
    refine jx_getr (C := RX3) (T := TX3) (M := 8) (k := 1) E dX3_addWindow_59 (n_T0 hT0) (s_T0 hT0) rfl iX3 (by decide) rfl (List.mem_cons_of_mem _ tw_141) rfl ?_
    refine jx_iconst (x := 4) E dX3_addWindow_62 (by decide) ?_
    refine jx_aald (h' := (h0 + 11)) E dX3_addWindow_63 (n_T2 hT0) (s_T2 hT0) (show ¬ ((4 : Int32) < 0 ∨ 6 ≤ Int32.toNatClampNeg 4) by decide) rfl ?_
    refine jx_aload_n E dX3_addWindow_64 0 rfl ?_
    refine jx_geti (C := RX3) (T := TX3) (M := 8) (k := 5) E dX3_addWindow_65 (n_T0 hT0) (s_T0 hT0) rfl iX3 (by decide) rfl (List.mem_cons_of_mem _ tw_140) rfl ?_
    refine jx_iconst (x := -1) E dX3_addWindow_68 (by decide) ?_
    obtain ⟨hg6, hF⟩ := jx_guard hF
    refine jx_iast (h := (h0 + 11)) (j := (Int32.toNatClampNeg ((jx_up (jx_up (jx_up (jx_up v (h0 + 7) (Int32.toNatClampNeg (v h0 5)) x1) (h0 + 8) (Int32.toNatClampNeg ((jx_up v (h0 + 7) (Int32.toNatClampNeg (v h0 5)) x1) h0 5)) x2) (h0 + 9) (Int32.toNatClampNeg ((jx_up (jx_up v (h0 + 7) (Int32.toNatClampNeg (v h0 5)) x1) (h0 + 8) (Int32.toNatClampNeg ((jx_up v (h0 + 7) (Int32.toNatClampNeg (v h0 5)) x1) h0 5)) x2) h0 5)) x3) (h0 + 10) (Int32.toNatClampNeg ((jx_up (jx_up (jx_up v (h0 + 7) (Int32.toNatClampNeg (v h0 5)) x1) (h0 + 8) (Int32.toNatClampNeg ((jx_up v (h0 + 7) (Int32.toNatClampNeg (v h0 5)) x1) h0 5)) x2) (h0 + 9) (Int32.toNatClampNeg ((jx_up (jx_up v (h0 + 7) (Int32.toNatClampNeg (v h0 5)) x1) (h0 + 8) (Int32.toNatClampNeg ((jx_up v (h0 + 7) (Int32.toNatClampNeg (v h0 5)) x1) h0 5)) x2) h0 5)) x3) h0 5)) x4) h0 5))) E dX3_addWindow_69 (n_T11 hT0) (s_T11 hT0) hg6 rfl ?_
    refine jx_aload_n E dX3_addWindow_70 0 rfl ?_
    refine jx_getr (C := RX3) (T := TX3) (M := 8) (k := 1) E dX3_addWindow_71 (n_T0 hT0) (s_T0 hT0) rfl iX3 (by decide) rfl (List.mem_cons_of_mem _ tw_141) rfl ?_
    refine jx_iconst (x := 5) E dX3_addWindow_74 (by decide) ?_
    refine jx_aald (h' := (h0 + 12)) E dX3_addWindow_75 (n_T2 hT0) (s_T2 hT0) (show ¬ ((5 : Int32) < 0 ∨ 6 ≤ Int32.toNatClampNeg 5) by decide) rfl ?_
    refine jx_aload_n E dX3_addWindow_76 0 rfl ?_
    refine jx_geti (C := RX3) (T := TX3) (M := 8) (k := 5) E dX3_addWindow_77 (n_T0 hT0) (s_T0 hT0) rfl iX3 (by decide) rfl (List.mem_cons_of_mem _ tw_140) rfl ?_
    refine jx_iconst (x := 0) E dX3_addWindow_80 (by decide) ?_
    obtain ⟨hg7, hF⟩ := jx_guard hF
    refine jx_iast (h := (h0 + 12)) (j := (Int32.toNatClampNeg ((jx_up (jx_up (jx_up (jx_up (jx_up v (h0 + 7) (Int32.toNatClampNeg (v h0 5)) x1) (h0 + 8) (Int32.toNatClampNeg ((jx_up v (h0 + 7) (Int32.toNatClampNeg (v h0 5)) x1) h0 5)) x2) (h0 + 9) (Int32.toNatClampNeg ((jx_up (jx_up v (h0 + 7) (Int32.toNatClampNeg (v h0 5)) x1) (h0 + 8) (Int32.toNatClampNeg ((jx_up v (h0 + 7) (Int32.toNatClampNeg (v h0 5)) x1) h0 5)) x2) h0 5)) x3) (h0 + 10) (Int32.toNatClampNeg ((jx_up (jx_up (jx_up v (h0 + 7) (Int32.toNatClampNeg (v h0 5)) x1) (h0 + 8) (Int32.toNatClampNeg ((jx_up v (h0 + 7) (Int32.toNatClampNeg (v h0 5)) x1) h0 5)) x2) (h0 + 9) (Int32.toNatClampNeg ((jx_up (jx_up v (h0 + 7) (Int32.toNatClampNeg (v h0 5)) x1) (h0 + 8) (Int32.toNatClampNeg ((jx_up v (h0 + 7) (Int32.toNatClampNeg (v h0 5)) x1) h0 5)) x2) h0 5)) x3) h0 5)) x4) (h0 + 11) (Int32.toNatClampNeg ((jx_up (jx_up (jx_up (jx_up v (h0 + 7) (Int32.toNatClampNeg (v h0 5)) x1) (h0 + 8) (Int32.toNatClampNeg ((jx_up v (h0 + 7) (Int32.toNatClampNeg (v h0 5)) x1) h0 5)) x2) (h0 + 9) (Int32.toNatClampNeg ((jx_up (jx_up v (h0 + 7) (Int32.toNatClampNeg (v h0 5)) x1) (h0 + 8) (Int32.toNatClampNeg ((jx_up v (h0 + 7) (Int32.toNatClampNeg (v h0 5)) x1) h0 5)) x2) h0 5)) x3) (h0 + 10) (Int32.toNatClampNeg ((jx_up (jx_up (jx_up v (h0 + 7) (Int32.toNatClampNeg (v h0 5)) x1) (h0 + 8) (Int32.toNatClampNeg ((jx_up v (h0 + 7) (Int32.toNatClampNeg (v h0 5)) x1) h0 5)) x2) (h0 + 9) (Int32.toNatClampNeg ((jx_up (jx_up v (h0 + 7) (Int32.toNatClampNeg (v h0 5)) x1) (h0 + 8) (Int32.toNatClampNeg ((jx_up v (h0 + 7) (Int32.toNatClampNeg (v h0 5)) x1) h0 5)) x2) h0 5)) x3) h0 5)) x4) h0 5)) (-1)) h0 5))) E dX3_addWindow_81 (n_T12 hT0) (s_T12 hT0) hg7 rfl ?_
    refine jx_aload_n E dX3_addWindow_82 0 rfl ?_
    refine jx_dup E dX3_addWindow_83 rfl ?_
    refine jx_geti (C := RX3) (T := TX3) (M := 8) (k := 5) E dX3_addWindow_84 (n_T0 hT0) (s_T0 hT0) rfl iX3 (by decide) rfl (List.mem_cons_of_mem _ tw_140) rfl ?_
    refine jx_iconst (x := 1) E dX3_addWindow_87 (by decide) ?_
    refine jx_iadd E dX3_addWindow_88 ?_
    refine jx_puti (C := RX3) (T := TX3) (M := 8) (k := 5) (ty := .int) E tyX3 dX3_addWindow_89 (n_T0 hT0) (s_T0 hT0) rfl iX3 (by decide) rfl (List.mem_cons_of_mem _ tw_140) tyX3_ok nmX3 rfl (by decide +kernel) rfl rfl rfl ?_
    obtain rfl := Option.some.inj hF
    exact jx_vret E dX3_addWindow_92 rfl
def f_X2_readWindow (h1 : Nat) (v : jx_V) : Option (jx_V) := ((f_X2_nextToken v).bind (fun v1 => ((f_X2_takeWord 7 v1).bind (fun v2 => ((f_X2_takeNumber 25 v2).bind (fun (r3, v3) => ((f_X2_takeWord 12 v3).bind (fun v4 => ((f_X2_takeNumber 10 v4).bind (fun (r5, v5) => ((f_X2_takeWord 13 v5).bind (fun v6 => ((f_X2_takeNumber 4 v6).bind (fun (r7, v7) => ((f_X2_takeWord 14 v7).bind (fun v8 => ((f_X2_takeNumber 4 v8).bind (fun (r9, v9) => (if 0 ≤ (v9 53 6) then (some v9) else ((f_X3_addWindow h1 r3 r5 r7 r9 v9).bind (fun v11 => (some v11))))))))))))))))))))))
def rm_X2_readWindow : Room := { frames := 6, cells := 0, slots := 0, locals := 128 }
set_option maxHeartbeats 4000000 in
set_option maxRecDepth 100000 in
theorem k_X2_readWindow {l : Launch} {D : va_G} {cI cJ : ClassId} {ad : Nat → Nat} {A : Nat → Prop} {adK adV : Nat → Nat} (hI : jx_inj 67 ad A) (h1 : Nat) (hT1 : jx_T h1) (v : jx_V) (v' : jx_V) (hF : f_X2_readWindow h1 v = some v') : jx_Cv l D vwCl 67 cI cJ ad shX A (ex_X adK adV A) yX2_readWindow (Cond.code yX2_readWindow cX2_readWindow 6 (none) :: bigT) rm_X2_readWindow [.ref (ad 53), .ref (ad h1)] v v' := by
  unfold f_X2_readWindow at hF
  refine jx_enterv bigT RX2 cX2_readWindow 6 (none) [(0, .ref (ad 53)), (1, .ref (ad h1))] hI (ex_X_ok adK adV A) (by decide +kernel) rfl (Nat.le_of_ble_eq_true rfl) rfl rfl ?_
  intro p e s m args below meth c E
  have iX2 : ∀ w ∈ u_ws RX2 TX2 7, w ∈ (Cond.code yX2_readWindow cX2_readWindow 6 (none) :: bigT) := fun w h => List.mem_cons_of_mem _ (uw_X2 w h)
  refine jx_aload_n E dX2_readWindow_0 0 rfl ?_
  obtain ⟨v1, hc1, hF⟩ := jx_bind hF
  try dsimp only at hF
  refine jx_callVv (As := []) (st := []) (h := 53) E dX2_readWindow_1 0 rfl (k_X2_nextToken hI  v v1 hc1) (gb_V (List.mem_cons_of_mem _ tw_122) (List.mem_cons_of_mem _ tw_123) (List.mem_cons_of_mem _ tw_124) (List.mem_cons_of_mem _ tw_100) tw_121) rfl rfl rfl dd_X2_nextToken rfl (Nat.le_of_ble_eq_true rfl) s_X53 rfl ⟨by decide, by decide⟩ ⟨Nat.le_refl 0, Nat.le_refl 0⟩ (Nat.le_of_ble_eq_true rfl) ?_
  refine jx_aload_n E dX2_readWindow_4 0 rfl ?_
  refine jx_ldcS (q := adK 7) E dX2_readWindow_5 ((jx_ex E).2.2.1 7 (by decide)) ?_
  obtain ⟨v2, hc2, hF⟩ := jx_bind hF
  try dsimp only at hF
  refine jx_callVv (As := [.ref (adK 7)]) (st := []) (h := 53) E dX2_readWindow_7 1 rfl (k_X2_takeWord hI 7 (by decide) v1 v2 hc2) (gb_V (List.mem_cons_of_mem _ tw_126) (List.mem_cons_of_mem _ tw_127) (List.mem_cons_of_mem _ tw_128) (List.mem_cons_of_mem _ tw_100) tw_125) rfl rfl rfl dd_X2_takeWord rfl (Nat.le_of_ble_eq_true rfl) s_X53 rfl ⟨by decide, by decide⟩ ⟨Nat.le_refl 0, Nat.le_refl 0⟩ (Nat.le_of_ble_eq_true rfl) ?_
  refine jx_aload_n E dX2_readWindow_10 0 rfl ?_
  refine jx_bipush (x := 25) E dX2_readWindow_11 (by decide) ?_
  obtain ⟨⟨r3, v3⟩, hc3, hF⟩ := jx_bind hF
  try dsimp only at hF
  refine jx_callVi (As := [.int 25]) (st := []) (h := 53) E dX2_readWindow_13 1 rfl (k_X2_takeNumber hI 25 v2 r3 v3 hc3) (gb_V (List.mem_cons_of_mem _ tw_134) (List.mem_cons_of_mem _ tw_135) (List.mem_cons_of_mem _ tw_136) (List.mem_cons_of_mem _ tw_100) tw_133) rfl rfl rfl dd_X2_takeNumber rfl (Nat.le_of_ble_eq_true rfl) s_X53 rfl ⟨by decide, by decide⟩ ⟨Nat.le_refl 0, Nat.le_refl 0⟩ (Nat.le_of_ble_eq_true rfl) ?_
  refine jx_istore_n (lv' := [(2, .int r3), (0, .ref (ad 53)), (1, .ref (ad h1))]) E dX2_readWindow_16 (by decide) rfl ?_
  refine jx_aload_n E dX2_readWindow_17 1 rfl ?_
  refine jx_ldcS (q := adK 12) E dX2_readWindow_18 ((jx_ex E).2.2.1 12 (by decide)) ?_
  obtain ⟨v4, hc4, hF⟩ := jx_bind hF
  try dsimp only at hF
  refine jx_callVv (As := [.ref (adK 12)]) (st := []) (h := 53) E dX2_readWindow_20 1 rfl (k_X2_takeWord hI 12 (by decide) v3 v4 hc4) (gb_V (List.mem_cons_of_mem _ tw_126) (List.mem_cons_of_mem _ tw_127) (List.mem_cons_of_mem _ tw_128) (List.mem_cons_of_mem _ tw_100) tw_125) rfl rfl rfl dd_X2_takeWord rfl (Nat.le_of_ble_eq_true rfl) s_X53 rfl ⟨by decide, by decide⟩ ⟨Nat.le_refl 0, Nat.le_refl 0⟩ (Nat.le_of_ble_eq_true rfl) ?_
  refine jx_aload_n E dX2_readWindow_23 1 rfl ?_
  refine jx_bipush (x := 10) E dX2_readWindow_24 (by decide) ?_
  obtain ⟨⟨r5, v5⟩, hc5, hF⟩ := jx_bind hF
  try dsimp only at hF
  refine jx_callVi (As := [.int 10]) (st := []) (h := 53) E dX2_readWindow_26 1 rfl (k_X2_takeNumber hI 10 v4 r5 v5 hc5) (gb_V (List.mem_cons_of_mem _ tw_134) (List.mem_cons_of_mem _ tw_135) (List.mem_cons_of_mem _ tw_136) (List.mem_cons_of_mem _ tw_100) tw_133) rfl rfl rfl dd_X2_takeNumber rfl (Nat.le_of_ble_eq_true rfl) s_X53 rfl ⟨by decide, by decide⟩ ⟨Nat.le_refl 0, Nat.le_refl 0⟩ (Nat.le_of_ble_eq_true rfl) ?_
  refine jx_istore_n (lv' := [(3, .int r5), (2, .int r3), (0, .ref (ad 53)), (1, .ref (ad h1))]) E dX2_readWindow_29 (by decide) rfl ?_
  refine jx_aload_n E dX2_readWindow_30 2 rfl ?_
  refine jx_ldcS (q := adK 13) E dX2_readWindow_31 ((jx_ex E).2.2.1 13 (by decide)) ?_
  obtain ⟨v6, hc6, hF⟩ := jx_bind hF
  try dsimp only at hF
  refine jx_callVv (As := [.ref (adK 13)]) (st := []) (h := 53) E dX2_readWindow_33 1 rfl (k_X2_takeWord hI 13 (by decide) v5 v6 hc6) (gb_V (List.mem_cons_of_mem _ tw_126) (List.mem_cons_of_mem _ tw_127) (List.mem_cons_of_mem _ tw_128) (List.mem_cons_of_mem _ tw_100) tw_125) rfl rfl rfl dd_X2_takeWord rfl (Nat.le_of_ble_eq_true rfl) s_X53 rfl ⟨by decide, by decide⟩ ⟨Nat.le_refl 0, Nat.le_refl 0⟩ (Nat.le_of_ble_eq_true rfl) ?_
  refine jx_aload_n E dX2_readWindow_36 2 rfl ?_
  refine jx_iconst (x := 4) E dX2_readWindow_37 (by decide) ?_
  obtain ⟨⟨r7, v7⟩, hc7, hF⟩ := jx_bind hF
  try dsimp only at hF
  refine jx_callVi (As := [.int 4]) (st := []) (h := 53) E dX2_readWindow_38 1 rfl (k_X2_takeNumber hI 4 v6 r7 v7 hc7) (gb_V (List.mem_cons_of_mem _ tw_134) (List.mem_cons_of_mem _ tw_135) (List.mem_cons_of_mem _ tw_136) (List.mem_cons_of_mem _ tw_100) tw_133) rfl rfl rfl dd_X2_takeNumber rfl (Nat.le_of_ble_eq_true rfl) s_X53 rfl ⟨by decide, by decide⟩ ⟨Nat.le_refl 0, Nat.le_refl 0⟩ (Nat.le_of_ble_eq_true rfl) ?_
  refine jx_istore (lv' := [(4, .int r7), (3, .int r5), (2, .int r3), (0, .ref (ad 53)), (1, .ref (ad h1))]) E dX2_readWindow_41 (by decide) rfl ?_
  refine jx_aload_n E dX2_readWindow_43 3 rfl ?_
  refine jx_ldcS (q := adK 14) E dX2_readWindow_44 ((jx_ex E).2.2.1 14 (by decide)) ?_
  obtain ⟨v8, hc8, hF⟩ := jx_bind hF
  try dsimp only at hF
  refine jx_callVv (As := [.ref (adK 14)]) (st := []) (h := 53) E dX2_readWindow_46 1 rfl (k_X2_takeWord hI 14 (by decide) v7 v8 hc8) (gb_V (List.mem_cons_of_mem _ tw_126) (List.mem_cons_of_mem _ tw_127) (List.mem_cons_of_mem _ tw_128) (List.mem_cons_of_mem _ tw_100) tw_125) rfl rfl rfl dd_X2_takeWord rfl (Nat.le_of_ble_eq_true rfl) s_X53 rfl ⟨by decide, by decide⟩ ⟨Nat.le_refl 0, Nat.le_refl 0⟩ (Nat.le_of_ble_eq_true rfl) ?_
  refine jx_aload_n E dX2_readWindow_49 3 rfl ?_
  refine jx_iconst (x := 4) E dX2_readWindow_50 (by decide) ?_
  obtain ⟨⟨r9, v9⟩, hc9, hF⟩ := jx_bind hF
  try dsimp only at hF
  refine jx_callVi (As := [.int 4]) (st := []) (h := 53) E dX2_readWindow_51 1 rfl (k_X2_takeNumber hI 4 v8 r9 v9 hc9) (gb_V (List.mem_cons_of_mem _ tw_134) (List.mem_cons_of_mem _ tw_135) (List.mem_cons_of_mem _ tw_136) (List.mem_cons_of_mem _ tw_100) tw_133) rfl rfl rfl dd_X2_takeNumber rfl (Nat.le_of_ble_eq_true rfl) s_X53 rfl ⟨by decide, by decide⟩ ⟨Nat.le_refl 0, Nat.le_refl 0⟩ (Nat.le_of_ble_eq_true rfl) ?_
  refine jx_istore (lv' := [(5, .int r9), (4, .int r7), (3, .int r5), (2, .int r3), (0, .ref (ad 53)), (1, .ref (ad h1))]) E dX2_readWindow_54 (by decide) rfl ?_
  refine jx_aload_n E dX2_readWindow_56 4 rfl ?_
  refine jx_geti (C := RX2) (T := TX2) (M := 7) (k := 6) E dX2_readWindow_57 (Nat.le_of_ble_eq_true rfl) s_X53 rfl iX2 (by decide) rfl (List.mem_cons_of_mem _ tw_116) rfl ?_
  refine jx_if_ge (tgt := 73) E dX2_readWindow_60 (by decide) (fun hc10 => ?_) (fun hc10 => ?_)
  · rw [if_pos hc10] at hF
    obtain rfl := Option.some.inj hF
    exact jx_vret E dX2_readWindow_73 rfl
  · rw [if_neg hc10] at hF
    refine jx_aload_n E dX2_readWindow_63 5 rfl ?_
    refine jx_iload_n E dX2_readWindow_64 3 rfl ?_
    refine jx_iload_n E dX2_readWindow_65 2 rfl ?_
    refine jx_iload E dX2_readWindow_66 1 rfl ?_
    refine jx_iload E dX2_readWindow_68 0 rfl ?_
    obtain ⟨v11, hc11, hF⟩ := jx_bind hF
    try dsimp only at hF
    refine jx_callNv (As := [.int r3, .int r5, .int r7, .int r9]) (st := []) (h := h1) E dX2_readWindow_70 4 rfl (k_X3_addWindow hI h1 hT1 r3 r5 r7 r9 v9 v11 hc11) (gb_N tw_142) rfl rfl rfl (ex_m37 (jx_ex E)) (List.mem_cons_of_mem _ tw_33) (List.mem_cons_of_mem _ tw_143) (List.mem_cons_of_mem _ tw_144) dd_X3_addWindow.2 rfl (n_T0 hT1) (s_T0 hT1) rfl ⟨by decide, by decide⟩ ⟨Nat.le_refl 0, Nat.le_refl 0⟩ (Nat.le_of_ble_eq_true rfl) ?_
    obtain rfl := Option.some.inj hF
    exact jx_vret E dX2_readWindow_73 rfl
def f_X2_readPrice (h1 : Nat) (v : jx_V) : Option (jx_V) := ((f_X2_nextToken v).bind (fun v1 => ((f_X2_takeNumber 4 v1).bind (fun (r2, v2) => ((f_X2_takeNumber 100 v2).bind (fun (r3, v3) => (if 0 ≤ (v3 53 6) then (some v3) else (if (r2 < 0 ∨ 4 ≤ Int32.toNatClampNeg r2) then none else (some (jx_up v3 (h1 + 13) (Int32.toNatClampNeg r2) r3))))))))))
def rm_X2_readPrice : Room := { frames := 3, cells := 0, slots := 0, locals := 64 }
set_option maxHeartbeats 4000000 in
set_option maxRecDepth 100000 in
theorem k_X2_readPrice {l : Launch} {D : va_G} {cI cJ : ClassId} {ad : Nat → Nat} {A : Nat → Prop} {adK adV : Nat → Nat} (hI : jx_inj 67 ad A) (h1 : Nat) (hT1 : jx_T h1) (v : jx_V) (v' : jx_V) (hF : f_X2_readPrice h1 v = some v') : jx_Cv l D vwCl 67 cI cJ ad shX A (ex_X adK adV A) yX2_readPrice (Cond.code yX2_readPrice cX2_readPrice 4 (none) :: bigT) rm_X2_readPrice [.ref (ad 53), .ref (ad h1)] v v' := by
  unfold f_X2_readPrice at hF
  refine jx_enterv bigT RX2 cX2_readPrice 4 (none) [(0, .ref (ad 53)), (1, .ref (ad h1))] hI (ex_X_ok adK adV A) (by decide +kernel) rfl (Nat.le_of_ble_eq_true rfl) rfl rfl ?_
  intro p e s m args below meth c E
  have iX2 : ∀ w ∈ u_ws RX2 TX2 7, w ∈ (Cond.code yX2_readPrice cX2_readPrice 4 (none) :: bigT) := fun w h => List.mem_cons_of_mem _ (uw_X2 w h)
  have iX3 : ∀ w ∈ u_ws RX3 TX3 8, w ∈ (Cond.code yX2_readPrice cX2_readPrice 4 (none) :: bigT) := fun w h => List.mem_cons_of_mem _ (uw_X3 w h)
  refine jx_aload_n E dX2_readPrice_0 0 rfl ?_
  obtain ⟨v1, hc1, hF⟩ := jx_bind hF
  try dsimp only at hF
  refine jx_callVv (As := []) (st := []) (h := 53) E dX2_readPrice_1 0 rfl (k_X2_nextToken hI  v v1 hc1) (gb_V (List.mem_cons_of_mem _ tw_122) (List.mem_cons_of_mem _ tw_123) (List.mem_cons_of_mem _ tw_124) (List.mem_cons_of_mem _ tw_100) tw_121) rfl rfl rfl dd_X2_nextToken rfl (Nat.le_of_ble_eq_true rfl) s_X53 rfl ⟨by decide, by decide⟩ ⟨Nat.le_refl 0, Nat.le_refl 0⟩ (Nat.le_of_ble_eq_true rfl) ?_
  refine jx_aload_n E dX2_readPrice_4 0 rfl ?_
  refine jx_iconst (x := 4) E dX2_readPrice_5 (by decide) ?_
  obtain ⟨⟨r2, v2⟩, hc2, hF⟩ := jx_bind hF
  try dsimp only at hF
  refine jx_callVi (As := [.int 4]) (st := []) (h := 53) E dX2_readPrice_6 1 rfl (k_X2_takeNumber hI 4 v1 r2 v2 hc2) (gb_V (List.mem_cons_of_mem _ tw_134) (List.mem_cons_of_mem _ tw_135) (List.mem_cons_of_mem _ tw_136) (List.mem_cons_of_mem _ tw_100) tw_133) rfl rfl rfl dd_X2_takeNumber rfl (Nat.le_of_ble_eq_true rfl) s_X53 rfl ⟨by decide, by decide⟩ ⟨Nat.le_refl 0, Nat.le_refl 0⟩ (Nat.le_of_ble_eq_true rfl) ?_
  refine jx_istore_n (lv' := [(2, .int r2), (0, .ref (ad 53)), (1, .ref (ad h1))]) E dX2_readPrice_9 (by decide) rfl ?_
  refine jx_aload_n E dX2_readPrice_10 1 rfl ?_
  refine jx_bipush (x := 100) E dX2_readPrice_11 (by decide) ?_
  obtain ⟨⟨r3, v3⟩, hc3, hF⟩ := jx_bind hF
  try dsimp only at hF
  refine jx_callVi (As := [.int 100]) (st := []) (h := 53) E dX2_readPrice_13 1 rfl (k_X2_takeNumber hI 100 v2 r3 v3 hc3) (gb_V (List.mem_cons_of_mem _ tw_134) (List.mem_cons_of_mem _ tw_135) (List.mem_cons_of_mem _ tw_136) (List.mem_cons_of_mem _ tw_100) tw_133) rfl rfl rfl dd_X2_takeNumber rfl (Nat.le_of_ble_eq_true rfl) s_X53 rfl ⟨by decide, by decide⟩ ⟨Nat.le_refl 0, Nat.le_refl 0⟩ (Nat.le_of_ble_eq_true rfl) ?_
  refine jx_istore_n (lv' := [(3, .int r3), (2, .int r2), (0, .ref (ad 53)), (1, .ref (ad h1))]) E dX2_readPrice_16 (by decide) rfl ?_
  refine jx_aload_n E dX2_readPrice_17 2 rfl ?_
  refine jx_geti (C := RX2) (T := TX2) (M := 7) (k := 6) E dX2_readPrice_18 (Nat.le_of_ble_eq_true rfl) s_X53 rfl iX2 (by decide) rfl (List.mem_cons_of_mem _ tw_116) rfl ?_
  refine jx_if_ge (tgt := 31) E dX2_readPrice_21 (by decide) (fun hc4 => ?_) (fun hc4 => ?_)
  · rw [if_pos hc4] at hF
    obtain rfl := Option.some.inj hF
    exact jx_vret E dX2_readPrice_31 rfl
  · rw [if_neg hc4] at hF
    refine jx_aload_n E dX2_readPrice_24 3 rfl ?_
    refine jx_getrN (C := RX3) (T := TX3) (M := 8) (k := 2) E dX2_readPrice_25 (n_T0 hT1) (s_T0 hT1) rfl iX3 (by decide) rfl (ex_f5 (jx_ex E)) rfl ?_
    refine jx_iload_n E dX2_readPrice_28 1 rfl ?_
    refine jx_iload_n E dX2_readPrice_29 0 rfl ?_
    obtain ⟨hg5, hF⟩ := jx_guard hF
    refine jx_iast (h := (h1 + 13)) (j := (Int32.toNatClampNeg r2)) E dX2_readPrice_30 (n_T13 hT1) (s_T13 hT1) hg5 rfl ?_
    obtain rfl := Option.some.inj hF
    exact jx_vret E dX2_readPrice_31 rfl
def f_X3_takeOff (h0 : Nat) (x1 : Int32) (v : jx_V) : Option (jx_V) := (if (x1 < 0 ∨ 25 ≤ Int32.toNatClampNeg x1) then none else (some (jx_up v (h0 + 3) (Int32.toNatClampNeg x1) (-1))))
def rm_X3_takeOff : Room := { frames := 0, cells := 0, slots := 0, locals := 0 }
set_option maxHeartbeats 4000000 in
set_option maxRecDepth 100000 in
theorem k_X3_takeOff {l : Launch} {D : va_G} {cI cJ : ClassId} {ad : Nat → Nat} {A : Nat → Prop} {adK adV : Nat → Nat} (hI : jx_inj 67 ad A) (h0 : Nat) (hT0 : jx_T h0) (x1 : Int32) (v : jx_V) (v' : jx_V) (hF : f_X3_takeOff h0 x1 v = some v') : jx_Cv l D vwCl 67 cI cJ ad shX A (ex_X adK adV A) yX3_takeOff (Cond.code yX3_takeOff cX3_takeOff 2 (none) :: bigT) rm_X3_takeOff [.ref (ad h0), .int x1] v v' := by
  unfold f_X3_takeOff at hF
  refine jx_enterv bigT RX3 cX3_takeOff 2 (none) [(0, .ref (ad h0)), (1, .int x1)] hI (ex_X_ok adK adV A) (by decide +kernel) rfl (Nat.le_of_ble_eq_true rfl) rfl rfl ?_
  intro p e s m args below meth c E
  have iX3 : ∀ w ∈ u_ws RX3 TX3 8, w ∈ (Cond.code yX3_takeOff cX3_takeOff 2 (none) :: bigT) := fun w h => List.mem_cons_of_mem _ (uw_X3 w h)
  refine jx_aload_n E dX3_takeOff_0 0 rfl ?_
  refine jx_getr (C := RX3) (T := TX3) (M := 8) (k := 0) E dX3_takeOff_1 (n_T0 hT0) (s_T0 hT0) rfl iX3 (by decide) rfl (List.mem_cons_of_mem _ tw_27) rfl ?_
  refine jx_iconst (x := 0) E dX3_takeOff_4 (by decide) ?_
  refine jx_aald (h' := (h0 + 3)) E dX3_takeOff_5 (n_T1 hT0) (s_T1 hT0) (show ¬ ((0 : Int32) < 0 ∨ 4 ≤ Int32.toNatClampNeg 0) by decide) rfl ?_
  refine jx_iload_n E dX3_takeOff_6 1 rfl ?_
  refine jx_iconst (x := -1) E dX3_takeOff_7 (by decide) ?_
  obtain ⟨hg1, hF⟩ := jx_guard hF
  refine jx_iast (h := (h0 + 3)) (j := (Int32.toNatClampNeg x1)) E dX3_takeOff_8 (n_T3 hT0) (s_T3 hT0) hg1 rfl ?_
  obtain rfl := Option.some.inj hF
  exact jx_vret E dX3_takeOff_9 rfl
def f_X2_readClear (h1 : Nat) (v : jx_V) : Option (jx_V) := ((f_X2_nextToken v).bind (fun v1 => ((f_X2_takeLot h1 1 v1).bind (fun (r2, v2) => (if 0 ≤ (v2 53 6) then (some v2) else ((f_X3_takeOff h1 r2 v2).bind (fun v4 => (some v4))))))))
def rm_X2_readClear : Room := { frames := 3, cells := 0, slots := 0, locals := 65 }
set_option maxHeartbeats 4000000 in
set_option maxRecDepth 100000 in
theorem k_X2_readClear {l : Launch} {D : va_G} {cI cJ : ClassId} {ad : Nat → Nat} {A : Nat → Prop} {adK adV : Nat → Nat} (hI : jx_inj 67 ad A) (h1 : Nat) (hT1 : jx_T h1) (v : jx_V) (v' : jx_V) (hF : f_X2_readClear h1 v = some v') : jx_Cv l D vwCl 67 cI cJ ad shX A (ex_X adK adV A) yX2_readClear (Cond.code yX2_readClear cX2_readClear 3 (none) :: bigT) rm_X2_readClear [.ref (ad 53), .ref (ad h1)] v v' := by
  unfold f_X2_readClear at hF
  refine jx_enterv bigT RX2 cX2_readClear 3 (none) [(0, .ref (ad 53)), (1, .ref (ad h1))] hI (ex_X_ok adK adV A) (by decide +kernel) rfl (Nat.le_of_ble_eq_true rfl) rfl rfl ?_
  intro p e s m args below meth c E
  have iX2 : ∀ w ∈ u_ws RX2 TX2 7, w ∈ (Cond.code yX2_readClear cX2_readClear 3 (none) :: bigT) := fun w h => List.mem_cons_of_mem _ (uw_X2 w h)
  refine jx_aload_n E dX2_readClear_0 0 rfl ?_
  obtain ⟨v1, hc1, hF⟩ := jx_bind hF
  try dsimp only at hF
  refine jx_callVv (As := []) (st := []) (h := 53) E dX2_readClear_1 0 rfl (k_X2_nextToken hI  v v1 hc1) (gb_V (List.mem_cons_of_mem _ tw_122) (List.mem_cons_of_mem _ tw_123) (List.mem_cons_of_mem _ tw_124) (List.mem_cons_of_mem _ tw_100) tw_121) rfl rfl rfl dd_X2_nextToken rfl (Nat.le_of_ble_eq_true rfl) s_X53 rfl ⟨by decide, by decide⟩ ⟨Nat.le_refl 0, Nat.le_refl 0⟩ (Nat.le_of_ble_eq_true rfl) ?_
  refine jx_aload_n E dX2_readClear_4 0 rfl ?_
  refine jx_aload_n E dX2_readClear_5 1 rfl ?_
  refine jx_iconst (x := 1) E dX2_readClear_6 (by decide) ?_
  obtain ⟨⟨r2, v2⟩, hc2, hF⟩ := jx_bind hF
  try dsimp only at hF
  refine jx_callVi (As := [.ref (ad h1), .int 1]) (st := []) (h := 53) E dX2_readClear_7 2 rfl (k_X2_takeLot hI h1 hT1 1 v1 r2 v2 hc2) (gb_V (List.mem_cons_of_mem _ tw_130) (List.mem_cons_of_mem _ tw_131) (List.mem_cons_of_mem _ tw_132) (List.mem_cons_of_mem _ tw_100) tw_129) rfl rfl rfl dd_X2_takeLot rfl (Nat.le_of_ble_eq_true rfl) s_X53 rfl ⟨by decide, by decide⟩ ⟨Nat.le_refl 0, Nat.le_refl 0⟩ (Nat.le_of_ble_eq_true rfl) ?_
  refine jx_istore_n (lv' := [(2, .int r2), (0, .ref (ad 53)), (1, .ref (ad h1))]) E dX2_readClear_10 (by decide) rfl ?_
  refine jx_aload_n E dX2_readClear_11 1 rfl ?_
  refine jx_geti (C := RX2) (T := TX2) (M := 7) (k := 6) E dX2_readClear_12 (Nat.le_of_ble_eq_true rfl) s_X53 rfl iX2 (by decide) rfl (List.mem_cons_of_mem _ tw_116) rfl ?_
  refine jx_if_ge (tgt := 23) E dX2_readClear_15 (by decide) (fun hc3 => ?_) (fun hc3 => ?_)
  · rw [if_pos hc3] at hF
    obtain rfl := Option.some.inj hF
    exact jx_vret E dX2_readClear_23 rfl
  · rw [if_neg hc3] at hF
    refine jx_aload_n E dX2_readClear_18 2 rfl ?_
    refine jx_iload_n E dX2_readClear_19 0 rfl ?_
    obtain ⟨v4, hc4, hF⟩ := jx_bind hF
    try dsimp only at hF
    refine jx_callNv (As := [.int r2]) (st := []) (h := h1) E dX2_readClear_20 1 rfl (k_X3_takeOff hI h1 hT1 r2 v2 v4 hc4) (gb_N tw_145) rfl rfl rfl (ex_m38 (jx_ex E)) (List.mem_cons_of_mem _ tw_33) (List.mem_cons_of_mem _ tw_146) (List.mem_cons_of_mem _ tw_147) dd_X3_takeOff.2 rfl (n_T0 hT1) (s_T0 hT1) rfl ⟨by decide, by decide⟩ ⟨Nat.le_refl 0, Nat.le_refl 0⟩ (Nat.le_of_ble_eq_true rfl) ?_
    obtain rfl := Option.some.inj hF
    exact jx_vret E dX2_readClear_23 rfl
def f_X2_readItem (h1 : Nat) (v : jx_V) : Option (jx_V) := ((f_X2_kindOfWord v).bind (fun (r1, v1) => (if r1 < 0 then ((f_X2_isWord 11 v1).bind (fun (r3, v3) => (if r3 = 0 then ((f_X2_isWord 15 v3).bind (fun (r5, v5) => (if r5 = 0 then ((f_X2_isWord 16 v5).bind (fun (r7, v7) => (if r7 = 0 then ((f_X2_failHere v7).bind (fun v9 => (some v9))) else ((f_X2_readClear h1 v7).bind (fun v10 => (some v10)))))) else ((f_X2_readPrice h1 v5).bind (fun v11 => (some v11)))))) else (if 10 ≤ (v3 h1 5) then ((f_X2_isWord 15 v3).bind (fun (r13, v13) => (if r13 = 0 then ((f_X2_isWord 16 v13).bind (fun (r15, v15) => (if r15 = 0 then ((f_X2_failHere v15).bind (fun v17 => (some v17))) else ((f_X2_readClear h1 v15).bind (fun v18 => (some v18)))))) else ((f_X2_readPrice h1 v13).bind (fun v19 => (some v19)))))) else ((f_X2_readWindow h1 v3).bind (fun v20 => (some v20))))))) else ((f_X2_readThing h1 r1 v1).bind (fun v21 => (some v21))))))
def rm_X2_readItem : Room := { frames := 7, cells := 0, slots := 0, locals := 154 }
set_option maxHeartbeats 4000000 in
set_option maxRecDepth 100000 in
theorem k_X2_readItem {l : Launch} {D : va_G} {cI cJ : ClassId} {ad : Nat → Nat} {A : Nat → Prop} {adK adV : Nat → Nat} (hI : jx_inj 67 ad A) (h1 : Nat) (hT1 : jx_T h1) (v : jx_V) (v' : jx_V) (hF : f_X2_readItem h1 v = some v') : jx_Cv l D vwCl 67 cI cJ ad shX A (ex_X adK adV A) yX2_readItem (Cond.code yX2_readItem cX2_readItem 3 (none) :: bigT) rm_X2_readItem [.ref (ad 53), .ref (ad h1)] v v' := by
  unfold f_X2_readItem at hF
  refine jx_enterv bigT RX2 cX2_readItem 3 (none) [(0, .ref (ad 53)), (1, .ref (ad h1))] hI (ex_X_ok adK adV A) (by decide +kernel) rfl (Nat.le_of_ble_eq_true rfl) rfl rfl ?_
  intro p e s m args below meth c E
  have iX3 : ∀ w ∈ u_ws RX3 TX3 8, w ∈ (Cond.code yX2_readItem cX2_readItem 3 (none) :: bigT) := fun w h => List.mem_cons_of_mem _ (uw_X3 w h)
  refine jx_aload_n E dX2_readItem_0 0 rfl ?_
  obtain ⟨⟨r1, v1⟩, hc1, hF⟩ := jx_bind hF
  try dsimp only at hF
  refine jx_callVi (As := []) (st := []) (h := 53) E dX2_readItem_1 0 rfl (k_X2_kindOfWord hI  v r1 v1 hc1) (gb_V (List.mem_cons_of_mem _ tw_149) (List.mem_cons_of_mem _ tw_150) (List.mem_cons_of_mem _ tw_151) (List.mem_cons_of_mem _ tw_100) tw_148) rfl rfl rfl dd_X2_kindOfWord rfl (Nat.le_of_ble_eq_true rfl) s_X53 rfl ⟨by decide, by decide⟩ ⟨Nat.le_refl 0, Nat.le_refl 0⟩ (Nat.le_of_ble_eq_true rfl) ?_
  refine jx_istore_n (lv' := [(2, .int r1), (0, .ref (ad 53)), (1, .ref (ad h1))]) E dX2_readItem_4 (by decide) rfl ?_
  refine jx_iload_n E dX2_readItem_5 0 rfl ?_
  refine jx_if_lt (tgt := 18) E dX2_readItem_6 (by decide) (fun hc2 => ?_) (fun hc2 => ?_)
  · rw [if_pos hc2] at hF
    refine jx_aload_n E dX2_readItem_18 1 rfl ?_
    refine jx_ldcS (q := adK 11) E dX2_readItem_19 ((jx_ex E).2.2.1 11 (by decide)) ?_
    obtain ⟨⟨r3, v3⟩, hc3, hF⟩ := jx_bind hF
    try dsimp only at hF
    refine jx_callVi (As := [.ref (adK 11)]) (st := []) (h := 53) E dX2_readItem_21 1 rfl (k_X2_isWord hI 11 (by decide) v1 r3 v3 hc3) (gb_V (List.mem_cons_of_mem _ tw_113) (List.mem_cons_of_mem _ tw_114) (List.mem_cons_of_mem _ tw_115) (List.mem_cons_of_mem _ tw_100) tw_112) rfl rfl rfl dd_X2_isWord rfl (Nat.le_of_ble_eq_true rfl) s_X53 rfl ⟨by decide, by decide⟩ ⟨Nat.le_refl 0, Nat.le_refl 0⟩ (Nat.le_of_ble_eq_true rfl) ?_
    refine jx_if_eq (tgt := 44) E dX2_readItem_24 (by decide) (fun hc4 => ?_) (fun hc4 => ?_)
    · rw [if_pos hc4] at hF
      refine jx_aload_n E dX2_readItem_44 1 rfl ?_
      refine jx_ldcS (q := adK 15) E dX2_readItem_45 ((jx_ex E).2.2.1 15 (by decide)) ?_
      obtain ⟨⟨r5, v5⟩, hc5, hF⟩ := jx_bind hF
      try dsimp only at hF
      refine jx_callVi (As := [.ref (adK 15)]) (st := []) (h := 53) E dX2_readItem_47 1 rfl (k_X2_isWord hI 15 (by decide) v3 r5 v5 hc5) (gb_V (List.mem_cons_of_mem _ tw_113) (List.mem_cons_of_mem _ tw_114) (List.mem_cons_of_mem _ tw_115) (List.mem_cons_of_mem _ tw_100) tw_112) rfl rfl rfl dd_X2_isWord rfl (Nat.le_of_ble_eq_true rfl) s_X53 rfl ⟨by decide, by decide⟩ ⟨Nat.le_refl 0, Nat.le_refl 0⟩ (Nat.le_of_ble_eq_true rfl) ?_
      refine jx_if_eq (tgt := 61) E dX2_readItem_50 (by decide) (fun hc6 => ?_) (fun hc6 => ?_)
      · rw [if_pos hc6] at hF
        refine jx_aload_n E dX2_readItem_61 1 rfl ?_
        refine jx_ldcS (q := adK 16) E dX2_readItem_62 ((jx_ex E).2.2.1 16 (by decide)) ?_
        obtain ⟨⟨r7, v7⟩, hc7, hF⟩ := jx_bind hF
        try dsimp only at hF
        refine jx_callVi (As := [.ref (adK 16)]) (st := []) (h := 53) E dX2_readItem_64 1 rfl (k_X2_isWord hI 16 (by decide) v5 r7 v7 hc7) (gb_V (List.mem_cons_of_mem _ tw_113) (List.mem_cons_of_mem _ tw_114) (List.mem_cons_of_mem _ tw_115) (List.mem_cons_of_mem _ tw_100) tw_112) rfl rfl rfl dd_X2_isWord rfl (Nat.le_of_ble_eq_true rfl) s_X53 rfl ⟨by decide, by decide⟩ ⟨Nat.le_refl 0, Nat.le_refl 0⟩ (Nat.le_of_ble_eq_true rfl) ?_
        refine jx_if_eq (tgt := 78) E dX2_readItem_67 (by decide) (fun hc8 => ?_) (fun hc8 => ?_)
        · rw [if_pos hc8] at hF
          refine jx_aload_n E dX2_readItem_78 1 rfl ?_
          obtain ⟨v9, hc9, hF⟩ := jx_bind hF
          try dsimp only at hF
          refine jx_callVv (As := []) (st := []) (h := 53) E dX2_readItem_79 0 rfl (k_X2_failHere hI  v7 v9 hc9) (gb_V (List.mem_cons_of_mem _ tw_118) (List.mem_cons_of_mem _ tw_119) (List.mem_cons_of_mem _ tw_120) (List.mem_cons_of_mem _ tw_100) tw_117) rfl rfl rfl dd_X2_failHere rfl (Nat.le_of_ble_eq_true rfl) s_X53 rfl ⟨by decide, by decide⟩ ⟨Nat.le_refl 0, Nat.le_refl 0⟩ (Nat.le_of_ble_eq_true rfl) ?_
          obtain rfl := Option.some.inj hF
          exact jx_vret E dX2_readItem_82 rfl
        · rw [if_neg hc8] at hF
          refine jx_aload_n E dX2_readItem_70 1 rfl ?_
          refine jx_aload_n E dX2_readItem_71 2 rfl ?_
          obtain ⟨v10, hc10, hF⟩ := jx_bind hF
          try dsimp only at hF
          refine jx_callVv (As := [.ref (ad h1)]) (st := []) (h := 53) E dX2_readItem_72 1 rfl (k_X2_readClear hI h1 hT1 v7 v10 hc10) (gb_V (List.mem_cons_of_mem _ tw_153) (List.mem_cons_of_mem _ tw_154) (List.mem_cons_of_mem _ tw_155) (List.mem_cons_of_mem _ tw_100) tw_152) rfl rfl rfl dd_X2_readClear rfl (Nat.le_of_ble_eq_true rfl) s_X53 rfl ⟨by decide, by decide⟩ ⟨Nat.le_refl 0, Nat.le_refl 0⟩ (Nat.le_of_ble_eq_true rfl) ?_
          refine jx_goto (tgt := 82) E dX2_readItem_75 (by decide) ?_
          obtain rfl := Option.some.inj hF
          exact jx_vret E dX2_readItem_82 rfl
      · rw [if_neg hc6] at hF
        refine jx_aload_n E dX2_readItem_53 1 rfl ?_
        refine jx_aload_n E dX2_readItem_54 2 rfl ?_
        obtain ⟨v11, hc11, hF⟩ := jx_bind hF
        try dsimp only at hF
        refine jx_callVv (As := [.ref (ad h1)]) (st := []) (h := 53) E dX2_readItem_55 1 rfl (k_X2_readPrice hI h1 hT1 v5 v11 hc11) (gb_V (List.mem_cons_of_mem _ tw_157) (List.mem_cons_of_mem _ tw_158) (List.mem_cons_of_mem _ tw_159) (List.mem_cons_of_mem _ tw_100) tw_156) rfl rfl rfl dd_X2_readPrice rfl (Nat.le_of_ble_eq_true rfl) s_X53 rfl ⟨by decide, by decide⟩ ⟨Nat.le_refl 0, Nat.le_refl 0⟩ (Nat.le_of_ble_eq_true rfl) ?_
        refine jx_goto (tgt := 82) E dX2_readItem_58 (by decide) ?_
        obtain rfl := Option.some.inj hF
        exact jx_vret E dX2_readItem_82 rfl
    · rw [if_neg hc4] at hF
      refine jx_aload_n E dX2_readItem_27 2 rfl ?_
      refine jx_getiN (C := RX3) (T := TX3) (M := 8) (k := 5) E dX2_readItem_28 (n_T0 hT1) (s_T0 hT1) rfl iX3 (by decide) rfl (ex_f9 (jx_ex E)) rfl ?_
      refine jx_bipush (x := 10) E dX2_readItem_31 (by decide) ?_
      refine jx_icmp_ge (tgt := 44) E dX2_readItem_33 (by decide) (fun hc12 => ?_) (fun hc12 => ?_)
      · rw [if_pos hc12] at hF
        refine jx_aload_n E dX2_readItem_44 1 rfl ?_
        refine jx_ldcS (q := adK 15) E dX2_readItem_45 ((jx_ex E).2.2.1 15 (by decide)) ?_
        obtain ⟨⟨r13, v13⟩, hc13, hF⟩ := jx_bind hF
        try dsimp only at hF
        refine jx_callVi (As := [.ref (adK 15)]) (st := []) (h := 53) E dX2_readItem_47 1 rfl (k_X2_isWord hI 15 (by decide) v3 r13 v13 hc13) (gb_V (List.mem_cons_of_mem _ tw_113) (List.mem_cons_of_mem _ tw_114) (List.mem_cons_of_mem _ tw_115) (List.mem_cons_of_mem _ tw_100) tw_112) rfl rfl rfl dd_X2_isWord rfl (Nat.le_of_ble_eq_true rfl) s_X53 rfl ⟨by decide, by decide⟩ ⟨Nat.le_refl 0, Nat.le_refl 0⟩ (Nat.le_of_ble_eq_true rfl) ?_
        refine jx_if_eq (tgt := 61) E dX2_readItem_50 (by decide) (fun hc14 => ?_) (fun hc14 => ?_)
        · rw [if_pos hc14] at hF
          refine jx_aload_n E dX2_readItem_61 1 rfl ?_
          refine jx_ldcS (q := adK 16) E dX2_readItem_62 ((jx_ex E).2.2.1 16 (by decide)) ?_
          obtain ⟨⟨r15, v15⟩, hc15, hF⟩ := jx_bind hF
          try dsimp only at hF
          refine jx_callVi (As := [.ref (adK 16)]) (st := []) (h := 53) E dX2_readItem_64 1 rfl (k_X2_isWord hI 16 (by decide) v13 r15 v15 hc15) (gb_V (List.mem_cons_of_mem _ tw_113) (List.mem_cons_of_mem _ tw_114) (List.mem_cons_of_mem _ tw_115) (List.mem_cons_of_mem _ tw_100) tw_112) rfl rfl rfl dd_X2_isWord rfl (Nat.le_of_ble_eq_true rfl) s_X53 rfl ⟨by decide, by decide⟩ ⟨Nat.le_refl 0, Nat.le_refl 0⟩ (Nat.le_of_ble_eq_true rfl) ?_
          refine jx_if_eq (tgt := 78) E dX2_readItem_67 (by decide) (fun hc16 => ?_) (fun hc16 => ?_)
          · rw [if_pos hc16] at hF
            refine jx_aload_n E dX2_readItem_78 1 rfl ?_
            obtain ⟨v17, hc17, hF⟩ := jx_bind hF
            try dsimp only at hF
            refine jx_callVv (As := []) (st := []) (h := 53) E dX2_readItem_79 0 rfl (k_X2_failHere hI  v15 v17 hc17) (gb_V (List.mem_cons_of_mem _ tw_118) (List.mem_cons_of_mem _ tw_119) (List.mem_cons_of_mem _ tw_120) (List.mem_cons_of_mem _ tw_100) tw_117) rfl rfl rfl dd_X2_failHere rfl (Nat.le_of_ble_eq_true rfl) s_X53 rfl ⟨by decide, by decide⟩ ⟨Nat.le_refl 0, Nat.le_refl 0⟩ (Nat.le_of_ble_eq_true rfl) ?_
            obtain rfl := Option.some.inj hF
            exact jx_vret E dX2_readItem_82 rfl
          · rw [if_neg hc16] at hF
            refine jx_aload_n E dX2_readItem_70 1 rfl ?_
            refine jx_aload_n E dX2_readItem_71 2 rfl ?_
            obtain ⟨v18, hc18, hF⟩ := jx_bind hF
            try dsimp only at hF
            refine jx_callVv (As := [.ref (ad h1)]) (st := []) (h := 53) E dX2_readItem_72 1 rfl (k_X2_readClear hI h1 hT1 v15 v18 hc18) (gb_V (List.mem_cons_of_mem _ tw_153) (List.mem_cons_of_mem _ tw_154) (List.mem_cons_of_mem _ tw_155) (List.mem_cons_of_mem _ tw_100) tw_152) rfl rfl rfl dd_X2_readClear rfl (Nat.le_of_ble_eq_true rfl) s_X53 rfl ⟨by decide, by decide⟩ ⟨Nat.le_refl 0, Nat.le_refl 0⟩ (Nat.le_of_ble_eq_true rfl) ?_
            refine jx_goto (tgt := 82) E dX2_readItem_75 (by decide) ?_
            obtain rfl := Option.some.inj hF
            exact jx_vret E dX2_readItem_82 rfl
        · rw [if_neg hc14] at hF
          refine jx_aload_n E dX2_readItem_53 1 rfl ?_
          refine jx_aload_n E dX2_readItem_54 2 rfl ?_
          obtain ⟨v19, hc19, hF⟩ := jx_bind hF
          try dsimp only at hF
          refine jx_callVv (As := [.ref (ad h1)]) (st := []) (h := 53) E dX2_readItem_55 1 rfl (k_X2_readPrice hI h1 hT1 v13 v19 hc19) (gb_V (List.mem_cons_of_mem _ tw_157) (List.mem_cons_of_mem _ tw_158) (List.mem_cons_of_mem _ tw_159) (List.mem_cons_of_mem _ tw_100) tw_156) rfl rfl rfl dd_X2_readPrice rfl (Nat.le_of_ble_eq_true rfl) s_X53 rfl ⟨by decide, by decide⟩ ⟨Nat.le_refl 0, Nat.le_refl 0⟩ (Nat.le_of_ble_eq_true rfl) ?_
          refine jx_goto (tgt := 82) E dX2_readItem_58 (by decide) ?_
          obtain rfl := Option.some.inj hF
          exact jx_vret E dX2_readItem_82 rfl
      · rw [if_neg hc12] at hF
        refine jx_aload_n E dX2_readItem_36 1 rfl ?_
        refine jx_aload_n E dX2_readItem_37 2 rfl ?_
        obtain ⟨v20, hc20, hF⟩ := jx_bind hF
        try dsimp only at hF
        refine jx_callVv (As := [.ref (ad h1)]) (st := []) (h := 53) E dX2_readItem_38 1 rfl (k_X2_readWindow hI h1 hT1 v3 v20 hc20) (gb_V (List.mem_cons_of_mem _ tw_161) (List.mem_cons_of_mem _ tw_162) (List.mem_cons_of_mem _ tw_163) (List.mem_cons_of_mem _ tw_100) tw_160) rfl rfl rfl dd_X2_readWindow rfl (Nat.le_of_ble_eq_true rfl) s_X53 rfl ⟨by decide, by decide⟩ ⟨Nat.le_refl 0, Nat.le_refl 0⟩ (Nat.le_of_ble_eq_true rfl) ?_
        refine jx_goto (tgt := 82) E dX2_readItem_41 (by decide) ?_
        obtain rfl := Option.some.inj hF
        exact jx_vret E dX2_readItem_82 rfl
  · rw [if_neg hc2] at hF
    refine jx_aload_n E dX2_readItem_9 1 rfl ?_
    refine jx_aload_n E dX2_readItem_10 2 rfl ?_
    refine jx_iload_n E dX2_readItem_11 0 rfl ?_
    obtain ⟨v21, hc21, hF⟩ := jx_bind hF
    try dsimp only at hF
    refine jx_callVv (As := [.ref (ad h1), .int r1]) (st := []) (h := 53) E dX2_readItem_12 2 rfl (k_X2_readThing hI h1 hT1 r1 v1 v21 hc21) (gb_V (List.mem_cons_of_mem _ tw_165) (List.mem_cons_of_mem _ tw_166) (List.mem_cons_of_mem _ tw_167) (List.mem_cons_of_mem _ tw_100) tw_164) rfl rfl rfl dd_X2_readThing rfl (Nat.le_of_ble_eq_true rfl) s_X53 rfl ⟨by decide, by decide⟩ ⟨Nat.le_refl 0, Nat.le_refl 0⟩ (Nat.le_of_ble_eq_true rfl) ?_
    refine jx_goto (tgt := 82) E dX2_readItem_15 (by decide) ?_
    obtain rfl := Option.some.inj hF
    exact jx_vret E dX2_readItem_82 rfl
def f_X2_readText_L (h1 : Nat) : Nat → Int32 → jx_V → Option (Int32 × jx_V)
  | 0, _, _ => none
  | n + 1, x2, v => (if 0 ≤ (v 53 6) then (if (v 53 2) = 0 then (some (x2, v)) else ((f_X2_failHere v).bind (fun v5 => (some (x2, v5))))) else (if (v 53 2) = 3 then (if 120 ≤ x2 then (if (v 53 2) = 0 then (some (x2, v)) else ((f_X2_failHere v).bind (fun v11 => (some (x2, v11))))) else ((f_X2_nextToken v).bind (fun v12 => ((f_X2_readItem h1 v12).bind (fun v13 => (f_X2_readText_L h1 n (x2 + 1) v13)))))) else (if (v 53 2) = 0 then (some (x2, v)) else ((f_X2_failHere v).bind (fun v8 => (some (x2, v8)))))))
def f_X2_readText (h1 : Nat) (v : jx_V) : Option (Int32 × jx_V) := ((f_X2_nextToken (jx_up (jx_up v 53 6 (-1)) 53 4 0)).bind (fun v1 => ((f_X2_readItem h1 v1).bind (fun v2 => (f_X2_readText_L h1 100000 1 v2)))))
def rm_X2_readText : Room := { frames := 8, cells := 0, slots := 0, locals := 176 }
set_option maxHeartbeats 4000000 in
set_option maxRecDepth 100000 in
theorem k_X2_readText {l : Launch} {D : va_G} {cI cJ : ClassId} {ad : Nat → Nat} {A : Nat → Prop} {adK adV : Nat → Nat} (hI : jx_inj 67 ad A) (h1 : Nat) (hT1 : jx_T h1) (v : jx_V) (r : Int32) (v' : jx_V) (hF : f_X2_readText h1 v = some (r, v')) : jx_Ci l D vwCl 67 cI cJ ad shX A (ex_X adK adV A) yX2_readText (Cond.code yX2_readText cX2_readText 3 (some .int) :: bigT) rm_X2_readText [.ref (ad 53), .ref (ad h1)] v r v' := by
  unfold f_X2_readText at hF
  refine jx_enteri bigT RX2 cX2_readText 3 (some .int) [(0, .ref (ad 53)), (1, .ref (ad h1))] hI (ex_X_ok adK adV A) (by decide +kernel) rfl (Nat.le_of_ble_eq_true rfl) rfl rfl ?_
  intro p e s m args below meth c E
  have iX2 : ∀ w ∈ u_ws RX2 TX2 7, w ∈ (Cond.code yX2_readText cX2_readText 3 (some .int) :: bigT) := fun w h => List.mem_cons_of_mem _ (uw_X2 w h)
  have key : ∀ n : Nat, (∀ (x2 : Int32) (v : jx_V), f_X2_readText_L h1 n  x2 v = some (r, v') → jx_J p l e rm_X2_readText s m args below meth c D vwCl 67 cI cJ ad shX A 0 0 3 (MQ below (va_Qi (fun (r1 : Int32) (_ : Unit) => r1 = r) (fun _ t => va_P D vwCl (jx_ws 67 cI cJ ad shX v') t.heap) A) args s 0 0 A) v 21 [(0, .ref (ad 53)), (1, .ref (ad h1)), (2, .int x2)] []) := by
    intro n
    induction n with
    | zero =>
      exact (fun _ _ h => by cases h)
    | succ n ih =>
      intro x2 v hF
      rw [f_X2_readText_L] at hF
      refine jx_aload_n E dX2_readText_21 0 rfl ?_
      refine jx_geti (C := RX2) (T := TX2) (M := 7) (k := 6) E dX2_readText_22 (Nat.le_of_ble_eq_true rfl) s_X53 rfl iX2 (by decide) rfl (List.mem_cons_of_mem _ tw_116) rfl ?_
      refine jx_if_ge (tgt := 57) E dX2_readText_25 (by decide) (fun hc3 => ?_) (fun hc3 => ?_)
      · rw [if_pos hc3] at hF
        refine jx_aload_n E dX2_readText_57 0 rfl ?_
        refine jx_geti (C := RX2) (T := TX2) (M := 7) (k := 2) E dX2_readText_58 (Nat.le_of_ble_eq_true rfl) s_X53 rfl iX2 (by decide) rfl (List.mem_cons_of_mem _ tw_101) rfl ?_
        refine jx_if_eq (tgt := 68) E dX2_readText_61 (by decide) (fun hc4 => ?_) (fun hc4 => ?_)
        · rw [if_pos hc4] at hF
          refine jx_iload_n E dX2_readText_68 2 rfl ?_
          obtain ⟨rfl, rfl⟩ := jx_out hF
          exact jx_iret E dX2_readText_69 rfl
        · rw [if_neg hc4] at hF
          refine jx_aload_n E dX2_readText_64 0 rfl ?_
          obtain ⟨v5, hc5, hF⟩ := jx_bind hF
          try dsimp only at hF
          refine jx_callVv (As := []) (st := []) (h := 53) E dX2_readText_65 0 rfl (k_X2_failHere hI  v v5 hc5) (gb_V (List.mem_cons_of_mem _ tw_118) (List.mem_cons_of_mem _ tw_119) (List.mem_cons_of_mem _ tw_120) (List.mem_cons_of_mem _ tw_100) tw_117) rfl rfl rfl dd_X2_failHere rfl (Nat.le_of_ble_eq_true rfl) s_X53 rfl ⟨by decide, by decide⟩ ⟨Nat.le_refl 0, Nat.le_refl 0⟩ (Nat.le_of_ble_eq_true rfl) ?_
          refine jx_iload_n E dX2_readText_68 2 rfl ?_
          obtain ⟨rfl, rfl⟩ := jx_out hF
          exact jx_iret E dX2_readText_69 rfl
      · rw [if_neg hc3] at hF
        refine jx_aload_n E dX2_readText_28 0 rfl ?_
        refine jx_geti (C := RX2) (T := TX2) (M := 7) (k := 2) E dX2_readText_29 (Nat.le_of_ble_eq_true rfl) s_X53 rfl iX2 (by decide) rfl (List.mem_cons_of_mem _ tw_101) rfl ?_
        refine jx_iconst (x := 3) E dX2_readText_32 (by decide) ?_
        refine jx_icmp_ne (tgt := 57) E dX2_readText_33 (by decide) (fun hc6 => ?_) (fun hc6 => ?_)
        · rw [if_neg hc6] at hF
          refine jx_aload_n E dX2_readText_57 0 rfl ?_
          refine jx_geti (C := RX2) (T := TX2) (M := 7) (k := 2) E dX2_readText_58 (Nat.le_of_ble_eq_true rfl) s_X53 rfl iX2 (by decide) rfl (List.mem_cons_of_mem _ tw_101) rfl ?_
          refine jx_if_eq (tgt := 68) E dX2_readText_61 (by decide) (fun hc7 => ?_) (fun hc7 => ?_)
          · rw [if_pos hc7] at hF
            refine jx_iload_n E dX2_readText_68 2 rfl ?_
            obtain ⟨rfl, rfl⟩ := jx_out hF
            exact jx_iret E dX2_readText_69 rfl
          · rw [if_neg hc7] at hF
            refine jx_aload_n E dX2_readText_64 0 rfl ?_
            obtain ⟨v8, hc8, hF⟩ := jx_bind hF
            try dsimp only at hF
            refine jx_callVv (As := []) (st := []) (h := 53) E dX2_readText_65 0 rfl (k_X2_failHere hI  v v8 hc8) (gb_V (List.mem_cons_of_mem _ tw_118) (List.mem_cons_of_mem _ tw_119) (List.mem_cons_of_mem _ tw_120) (List.mem_cons_of_mem _ tw_100) tw_117) rfl rfl rfl dd_X2_failHere rfl (Nat.le_of_ble_eq_true rfl) s_X53 rfl ⟨by decide, by decide⟩ ⟨Nat.le_refl 0, Nat.le_refl 0⟩ (Nat.le_of_ble_eq_true rfl) ?_
            refine jx_iload_n E dX2_readText_68 2 rfl ?_
            obtain ⟨rfl, rfl⟩ := jx_out hF
            exact jx_iret E dX2_readText_69 rfl
        · rw [if_pos hc6] at hF
          refine jx_iload_n E dX2_readText_36 2 rfl ?_
          refine jx_bipush (x := 120) E dX2_readText_37 (by decide) ?_
          refine jx_icmp_ge (tgt := 57) E dX2_readText_39 (by decide) (fun hc9 => ?_) (fun hc9 => ?_)
          · rw [if_pos hc9] at hF
            refine jx_aload_n E dX2_readText_57 0 rfl ?_
            refine jx_geti (C := RX2) (T := TX2) (M := 7) (k := 2) E dX2_readText_58 (Nat.le_of_ble_eq_true rfl) s_X53 rfl iX2 (by decide) rfl (List.mem_cons_of_mem _ tw_101) rfl ?_
            refine jx_if_eq (tgt := 68) E dX2_readText_61 (by decide) (fun hc10 => ?_) (fun hc10 => ?_)
            · rw [if_pos hc10] at hF
              refine jx_iload_n E dX2_readText_68 2 rfl ?_
              obtain ⟨rfl, rfl⟩ := jx_out hF
              exact jx_iret E dX2_readText_69 rfl
            · rw [if_neg hc10] at hF
              refine jx_aload_n E dX2_readText_64 0 rfl ?_
              obtain ⟨v11, hc11, hF⟩ := jx_bind hF
              try dsimp only at hF
              refine jx_callVv (As := []) (st := []) (h := 53) E dX2_readText_65 0 rfl (k_X2_failHere hI  v v11 hc11) (gb_V (List.mem_cons_of_mem _ tw_118) (List.mem_cons_of_mem _ tw_119) (List.mem_cons_of_mem _ tw_120) (List.mem_cons_of_mem _ tw_100) tw_117) rfl rfl rfl dd_X2_failHere rfl (Nat.le_of_ble_eq_true rfl) s_X53 rfl ⟨by decide, by decide⟩ ⟨Nat.le_refl 0, Nat.le_refl 0⟩ (Nat.le_of_ble_eq_true rfl) ?_
              refine jx_iload_n E dX2_readText_68 2 rfl ?_
              obtain ⟨rfl, rfl⟩ := jx_out hF
              exact jx_iret E dX2_readText_69 rfl
          · rw [if_neg hc9] at hF
            refine jx_aload_n E dX2_readText_42 0 rfl ?_
            obtain ⟨v12, hc12, hF⟩ := jx_bind hF
            try dsimp only at hF
            refine jx_callVv (As := []) (st := []) (h := 53) E dX2_readText_43 0 rfl (k_X2_nextToken hI  v v12 hc12) (gb_V (List.mem_cons_of_mem _ tw_122) (List.mem_cons_of_mem _ tw_123) (List.mem_cons_of_mem _ tw_124) (List.mem_cons_of_mem _ tw_100) tw_121) rfl rfl rfl dd_X2_nextToken rfl (Nat.le_of_ble_eq_true rfl) s_X53 rfl ⟨by decide, by decide⟩ ⟨Nat.le_refl 0, Nat.le_refl 0⟩ (Nat.le_of_ble_eq_true rfl) ?_
            refine jx_aload_n E dX2_readText_46 0 rfl ?_
            refine jx_aload_n E dX2_readText_47 1 rfl ?_
            obtain ⟨v13, hc13, hF⟩ := jx_bind hF
            try dsimp only at hF
            refine jx_callVv (As := [.ref (ad h1)]) (st := []) (h := 53) E dX2_readText_48 1 rfl (k_X2_readItem hI h1 hT1 v12 v13 hc13) (gb_V (List.mem_cons_of_mem _ tw_169) (List.mem_cons_of_mem _ tw_170) (List.mem_cons_of_mem _ tw_171) (List.mem_cons_of_mem _ tw_100) tw_168) rfl rfl rfl dd_X2_readItem rfl (Nat.le_of_ble_eq_true rfl) s_X53 rfl ⟨by decide, by decide⟩ ⟨Nat.le_refl 0, Nat.le_refl 0⟩ (Nat.le_of_ble_eq_true rfl) ?_
            refine jx_iinc (y := (x2 + 1)) (lv' := [(2, .int (x2 + 1)), (0, .ref (ad 53)), (1, .ref (ad h1))]) E dX2_readText_51 2 rfl rfl (by decide) rfl ?_
            refine jx_goto (tgt := 21) E dX2_readText_54 (by decide) ?_
            refine jx_sub [1, 2, 0] rfl ?_
            exact ih (x2 + 1) v13 hF
  refine jx_aload_n E dX2_readText_0 0 rfl ?_
  refine jx_iconst (x := -1) E dX2_readText_1 (by decide) ?_
  refine jx_puti (C := RX2) (T := TX2) (M := 7) (k := 6) (ty := .int) E tyX2 dX2_readText_2 (Nat.le_of_ble_eq_true rfl) s_X53 rfl iX2 (by decide) rfl (List.mem_cons_of_mem _ tw_116) tyX2_ok nmX2 rfl (by decide +kernel) rfl rfl rfl ?_
  refine jx_aload_n E dX2_readText_5 0 rfl ?_
  refine jx_iconst (x := 0) E dX2_readText_6 (by decide) ?_
  refine jx_puti (C := RX2) (T := TX2) (M := 7) (k := 4) (ty := .int) E tyX2 dX2_readText_7 (Nat.le_of_ble_eq_true rfl) s_X53 rfl iX2 (by decide) rfl (List.mem_cons_of_mem _ tw_94) tyX2_ok nmX2 rfl (by decide +kernel) rfl rfl rfl ?_
  refine jx_aload_n E dX2_readText_10 0 rfl ?_
  obtain ⟨v1, hc1, hF⟩ := jx_bind hF
  try dsimp only at hF
  refine jx_callVv (As := []) (st := []) (h := 53) E dX2_readText_11 0 rfl (k_X2_nextToken hI  (jx_up (jx_up v 53 6 (-1)) 53 4 0) v1 hc1) (gb_V (List.mem_cons_of_mem _ tw_122) (List.mem_cons_of_mem _ tw_123) (List.mem_cons_of_mem _ tw_124) (List.mem_cons_of_mem _ tw_100) tw_121) rfl rfl rfl dd_X2_nextToken rfl (Nat.le_of_ble_eq_true rfl) s_X53 rfl ⟨by decide, by decide⟩ ⟨Nat.le_refl 0, Nat.le_refl 0⟩ (Nat.le_of_ble_eq_true rfl) ?_
  refine jx_aload_n E dX2_readText_14 0 rfl ?_
  refine jx_aload_n E dX2_readText_15 1 rfl ?_
  obtain ⟨v2, hc2, hF⟩ := jx_bind hF
  try dsimp only at hF
  refine jx_callVv (As := [.ref (ad h1)]) (st := []) (h := 53) E dX2_readText_16 1 rfl (k_X2_readItem hI h1 hT1 v1 v2 hc2) (gb_V (List.mem_cons_of_mem _ tw_169) (List.mem_cons_of_mem _ tw_170) (List.mem_cons_of_mem _ tw_171) (List.mem_cons_of_mem _ tw_100) tw_168) rfl rfl rfl dd_X2_readItem rfl (Nat.le_of_ble_eq_true rfl) s_X53 rfl ⟨by decide, by decide⟩ ⟨Nat.le_refl 0, Nat.le_refl 0⟩ (Nat.le_of_ble_eq_true rfl) ?_
  refine jx_iconst (x := 1) E dX2_readText_19 (by decide) ?_
  refine jx_istore_n (lv' := [(2, .int 1), (0, .ref (ad 53)), (1, .ref (ad h1))]) E dX2_readText_20 (by decide) rfl ?_
  refine jx_sub [1, 2, 0] rfl ?_
  exact (key 100000) 1 v2 hF
def f_X3_become_L (h0 : Nat) (h1 : Nat) : Nat → Nat → Int32 → jx_V → Option (jx_V)
  | 0, _, _, _ => none
  | n + 1, tag, x2, v => (if tag = 0 then (if 4 ≤ x2 then (f_X3_become_L h0 h1 n 1 0 v) else (if (x2 < 0 ∨ 4 ≤ (x2).toNatClampNeg) then none else (if (x2 < 0 ∨ 4 ≤ (x2).toNatClampNeg) then none else (f_X3_become_L h0 h1 n 0 (x2 + 1) (jx_set v (h0 + 3 + (x2).toNatClampNeg) (va_cpy (v (h1 + 3 + (x2).toNatClampNeg)) (v (h0 + 3 + (x2).toNatClampNeg)) (Int32.toNatClampNeg 0) (Int32.toNatClampNeg 0) (Int32.toNatClampNeg 25))))))) else (if tag = 1 then (if 6 ≤ x2 then (some (jx_up (jx_up (jx_up (jx_set (jx_set (jx_set v (h0 + 13) (va_cpy (v (h1 + 13)) (v (h0 + 13)) (Int32.toNatClampNeg 0) (Int32.toNatClampNeg 0) (Int32.toNatClampNeg 4))) (h0 + 14) (va_cpy ((jx_set v (h0 + 13) (va_cpy (v (h1 + 13)) (v (h0 + 13)) (Int32.toNatClampNeg 0) (Int32.toNatClampNeg 0) (Int32.toNatClampNeg 4))) (h1 + 14)) ((jx_set v (h0 + 13) (va_cpy (v (h1 + 13)) (v (h0 + 13)) (Int32.toNatClampNeg 0) (Int32.toNatClampNeg 0) (Int32.toNatClampNeg 4))) (h0 + 14)) (Int32.toNatClampNeg 0) (Int32.toNatClampNeg 0) (Int32.toNatClampNeg 4))) (h0 + 15) (va_cpy ((jx_set (jx_set v (h0 + 13) (va_cpy (v (h1 + 13)) (v (h0 + 13)) (Int32.toNatClampNeg 0) (Int32.toNatClampNeg 0) (Int32.toNatClampNeg 4))) (h0 + 14) (va_cpy ((jx_set v (h0 + 13) (va_cpy (v (h1 + 13)) (v (h0 + 13)) (Int32.toNatClampNeg 0) (Int32.toNatClampNeg 0) (Int32.toNatClampNeg 4))) (h1 + 14)) ((jx_set v (h0 + 13) (va_cpy (v (h1 + 13)) (v (h0 + 13)) (Int32.toNatClampNeg 0) (Int32.toNatClampNeg 0) (Int32.toNatClampNeg 4))) (h0 + 14)) (Int32.toNatClampNeg 0) (Int32.toNatClampNeg 0) (Int32.toNatClampNeg 4))) (h1 + 15)) ((jx_set (jx_set v (h0 + 13) (va_cpy (v (h1 + 13)) (v (h0 + 13)) (Int32.toNatClampNeg 0) (Int32.toNatClampNeg 0) (Int32.toNatClampNeg 4))) (h0 + 14) (va_cpy ((jx_set v (h0 + 13) (va_cpy (v (h1 + 13)) (v (h0 + 13)) (Int32.toNatClampNeg 0) (Int32.toNatClampNeg 0) (Int32.toNatClampNeg 4))) (h1 + 14)) ((jx_set v (h0 + 13) (va_cpy (v (h1 + 13)) (v (h0 + 13)) (Int32.toNatClampNeg 0) (Int32.toNatClampNeg 0) (Int32.toNatClampNeg 4))) (h0 + 14)) (Int32.toNatClampNeg 0) (Int32.toNatClampNeg 0) (Int32.toNatClampNeg 4))) (h0 + 15)) (Int32.toNatClampNeg 0) (Int32.toNatClampNeg 0) (Int32.toNatClampNeg 10))) h0 5 ((jx_set (jx_set (jx_set v (h0 + 13) (va_cpy (v (h1 + 13)) (v (h0 + 13)) (Int32.toNatClampNeg 0) (Int32.toNatClampNeg 0) (Int32.toNatClampNeg 4))) (h0 + 14) (va_cpy ((jx_set v (h0 + 13) (va_cpy (v (h1 + 13)) (v (h0 + 13)) (Int32.toNatClampNeg 0) (Int32.toNatClampNeg 0) (Int32.toNatClampNeg 4))) (h1 + 14)) ((jx_set v (h0 + 13) (va_cpy (v (h1 + 13)) (v (h0 + 13)) (Int32.toNatClampNeg 0) (Int32.toNatClampNeg 0) (Int32.toNatClampNeg 4))) (h0 + 14)) (Int32.toNatClampNeg 0) (Int32.toNatClampNeg 0) (Int32.toNatClampNeg 4))) (h0 + 15) (va_cpy ((jx_set (jx_set v (h0 + 13) (va_cpy (v (h1 + 13)) (v (h0 + 13)) (Int32.toNatClampNeg 0) (Int32.toNatClampNeg 0) (Int32.toNatClampNeg 4))) (h0 + 14) (va_cpy ((jx_set v (h0 + 13) (va_cpy (v (h1 + 13)) (v (h0 + 13)) (Int32.toNatClampNeg 0) (Int32.toNatClampNeg 0) (Int32.toNatClampNeg 4))) (h1 + 14)) ((jx_set v (h0 + 13) (va_cpy (v (h1 + 13)) (v (h0 + 13)) (Int32.toNatClampNeg 0) (Int32.toNatClampNeg 0) (Int32.toNatClampNeg 4))) (h0 + 14)) (Int32.toNatClampNeg 0) (Int32.toNatClampNeg 0) (Int32.toNatClampNeg 4))) (h1 + 15)) ((jx_set (jx_set v (h0 + 13) (va_cpy (v (h1 + 13)) (v (h0 + 13)) (Int32.toNatClampNeg 0) (Int32.toNatClampNeg 0) (Int32.toNatClampNeg 4))) (h0 + 14) (va_cpy ((jx_set v (h0 + 13) (va_cpy (v (h1 + 13)) (v (h0 + 13)) (Int32.toNatClampNeg 0) (Int32.toNatClampNeg 0) (Int32.toNatClampNeg 4))) (h1 + 14)) ((jx_set v (h0 + 13) (va_cpy (v (h1 + 13)) (v (h0 + 13)) (Int32.toNatClampNeg 0) (Int32.toNatClampNeg 0) (Int32.toNatClampNeg 4))) (h0 + 14)) (Int32.toNatClampNeg 0) (Int32.toNatClampNeg 0) (Int32.toNatClampNeg 4))) (h0 + 15)) (Int32.toNatClampNeg 0) (Int32.toNatClampNeg 0) (Int32.toNatClampNeg 10))) h1 5)) h0 6 ((jx_up (jx_set (jx_set (jx_set v (h0 + 13) (va_cpy (v (h1 + 13)) (v (h0 + 13)) (Int32.toNatClampNeg 0) (Int32.toNatClampNeg 0) (Int32.toNatClampNeg 4))) (h0 + 14) (va_cpy ((jx_set v (h0 + 13) (va_cpy (v (h1 + 13)) (v (h0 + 13)) (Int32.toNatClampNeg 0) (Int32.toNatClampNeg 0) (Int32.toNatClampNeg 4))) (h1 + 14)) ((jx_set v (h0 + 13) (va_cpy (v (h1 + 13)) (v (h0 + 13)) (Int32.toNatClampNeg 0) (Int32.toNatClampNeg 0) (Int32.toNatClampNeg 4))) (h0 + 14)) (Int32.toNatClampNeg 0) (Int32.toNatClampNeg 0) (Int32.toNatClampNeg 4))) (h0 + 15) (va_cpy ((jx_set (jx_set v (h0 + 13) (va_cpy (v (h1 + 13)) (v (h0 + 13)) (Int32.toNatClampNeg 0) (Int32.toNatClampNeg 0) (Int32.toNatClampNeg 4))) (h0 + 14) (va_cpy ((jx_set v (h0 + 13) (va_cpy (v (h1 + 13)) (v (h0 + 13)) (Int32.toNatClampNeg 0) (Int32.toNatClampNeg 0) (Int32.toNatClampNeg 4))) (h1 + 14)) ((jx_set v (h0 + 13) (va_cpy (v (h1 + 13)) (v (h0 + 13)) (Int32.toNatClampNeg 0) (Int32.toNatClampNeg 0) (Int32.toNatClampNeg 4))) (h0 + 14)) (Int32.toNatClampNeg 0) (Int32.toNatClampNeg 0) (Int32.toNatClampNeg 4))) (h1 + 15)) ((jx_set (jx_set v (h0 + 13) (va_cpy (v (h1 + 13)) (v (h0 + 13)) (Int32.toNatClampNeg 0) (Int32.toNatClampNeg 0) (Int32.toNatClampNeg 4))) (h0 + 14) (va_cpy ((jx_set v (h0 + 13) (va_cpy (v (h1 + 13)) (v (h0 + 13)) (Int32.toNatClampNeg 0) (Int32.toNatClampNeg 0) (Int32.toNatClampNeg 4))) (h1 + 14)) ((jx_set v (h0 + 13) (va_cpy (v (h1 + 13)) (v (h0 + 13)) (Int32.toNatClampNeg 0) (Int32.toNatClampNeg 0) (Int32.toNatClampNeg 4))) (h0 + 14)) (Int32.toNatClampNeg 0) (Int32.toNatClampNeg 0) (Int32.toNatClampNeg 4))) (h0 + 15)) (Int32.toNatClampNeg 0) (Int32.toNatClampNeg 0) (Int32.toNatClampNeg 10))) h0 5 ((jx_set (jx_set (jx_set v (h0 + 13) (va_cpy (v (h1 + 13)) (v (h0 + 13)) (Int32.toNatClampNeg 0) (Int32.toNatClampNeg 0) (Int32.toNatClampNeg 4))) (h0 + 14) (va_cpy ((jx_set v (h0 + 13) (va_cpy (v (h1 + 13)) (v (h0 + 13)) (Int32.toNatClampNeg 0) (Int32.toNatClampNeg 0) (Int32.toNatClampNeg 4))) (h1 + 14)) ((jx_set v (h0 + 13) (va_cpy (v (h1 + 13)) (v (h0 + 13)) (Int32.toNatClampNeg 0) (Int32.toNatClampNeg 0) (Int32.toNatClampNeg 4))) (h0 + 14)) (Int32.toNatClampNeg 0) (Int32.toNatClampNeg 0) (Int32.toNatClampNeg 4))) (h0 + 15) (va_cpy ((jx_set (jx_set v (h0 + 13) (va_cpy (v (h1 + 13)) (v (h0 + 13)) (Int32.toNatClampNeg 0) (Int32.toNatClampNeg 0) (Int32.toNatClampNeg 4))) (h0 + 14) (va_cpy ((jx_set v (h0 + 13) (va_cpy (v (h1 + 13)) (v (h0 + 13)) (Int32.toNatClampNeg 0) (Int32.toNatClampNeg 0) (Int32.toNatClampNeg 4))) (h1 + 14)) ((jx_set v (h0 + 13) (va_cpy (v (h1 + 13)) (v (h0 + 13)) (Int32.toNatClampNeg 0) (Int32.toNatClampNeg 0) (Int32.toNatClampNeg 4))) (h0 + 14)) (Int32.toNatClampNeg 0) (Int32.toNatClampNeg 0) (Int32.toNatClampNeg 4))) (h1 + 15)) ((jx_set (jx_set v (h0 + 13) (va_cpy (v (h1 + 13)) (v (h0 + 13)) (Int32.toNatClampNeg 0) (Int32.toNatClampNeg 0) (Int32.toNatClampNeg 4))) (h0 + 14) (va_cpy ((jx_set v (h0 + 13) (va_cpy (v (h1 + 13)) (v (h0 + 13)) (Int32.toNatClampNeg 0) (Int32.toNatClampNeg 0) (Int32.toNatClampNeg 4))) (h1 + 14)) ((jx_set v (h0 + 13) (va_cpy (v (h1 + 13)) (v (h0 + 13)) (Int32.toNatClampNeg 0) (Int32.toNatClampNeg 0) (Int32.toNatClampNeg 4))) (h0 + 14)) (Int32.toNatClampNeg 0) (Int32.toNatClampNeg 0) (Int32.toNatClampNeg 4))) (h0 + 15)) (Int32.toNatClampNeg 0) (Int32.toNatClampNeg 0) (Int32.toNatClampNeg 10))) h1 5)) h1 6)) h0 7 ((jx_up (jx_up (jx_set (jx_set (jx_set v (h0 + 13) (va_cpy (v (h1 + 13)) (v (h0 + 13)) (Int32.toNatClampNeg 0) (Int32.toNatClampNeg 0) (Int32.toNatClampNeg 4))) (h0 + 14) (va_cpy ((jx_set v (h0 + 13) (va_cpy (v (h1 + 13)) (v (h0 + 13)) (Int32.toNatClampNeg 0) (Int32.toNatClampNeg 0) (Int32.toNatClampNeg 4))) (h1 + 14)) ((jx_set v (h0 + 13) (va_cpy (v (h1 + 13)) (v (h0 + 13)) (Int32.toNatClampNeg 0) (Int32.toNatClampNeg 0) (Int32.toNatClampNeg 4))) (h0 + 14)) (Int32.toNatClampNeg 0) (Int32.toNatClampNeg 0) (Int32.toNatClampNeg 4))) (h0 + 15) (va_cpy ((jx_set (jx_set v (h0 + 13) (va_cpy (v (h1 + 13)) (v (h0 + 13)) (Int32.toNatClampNeg 0) (Int32.toNatClampNeg 0) (Int32.toNatClampNeg 4))) (h0 + 14) (va_cpy ((jx_set v (h0 + 13) (va_cpy (v (h1 + 13)) (v (h0 + 13)) (Int32.toNatClampNeg 0) (Int32.toNatClampNeg 0) (Int32.toNatClampNeg 4))) (h1 + 14)) ((jx_set v (h0 + 13) (va_cpy (v (h1 + 13)) (v (h0 + 13)) (Int32.toNatClampNeg 0) (Int32.toNatClampNeg 0) (Int32.toNatClampNeg 4))) (h0 + 14)) (Int32.toNatClampNeg 0) (Int32.toNatClampNeg 0) (Int32.toNatClampNeg 4))) (h1 + 15)) ((jx_set (jx_set v (h0 + 13) (va_cpy (v (h1 + 13)) (v (h0 + 13)) (Int32.toNatClampNeg 0) (Int32.toNatClampNeg 0) (Int32.toNatClampNeg 4))) (h0 + 14) (va_cpy ((jx_set v (h0 + 13) (va_cpy (v (h1 + 13)) (v (h0 + 13)) (Int32.toNatClampNeg 0) (Int32.toNatClampNeg 0) (Int32.toNatClampNeg 4))) (h1 + 14)) ((jx_set v (h0 + 13) (va_cpy (v (h1 + 13)) (v (h0 + 13)) (Int32.toNatClampNeg 0) (Int32.toNatClampNeg 0) (Int32.toNatClampNeg 4))) (h0 + 14)) (Int32.toNatClampNeg 0) (Int32.toNatClampNeg 0) (Int32.toNatClampNeg 4))) (h0 + 15)) (Int32.toNatClampNeg 0) (Int32.toNatClampNeg 0) (Int32.toNatClampNeg 10))) h0 5 ((jx_set (jx_set (jx_set v (h0 + 13) (va_cpy (v (h1 + 13)) (v (h0 + 13)) (Int32.toNatClampNeg 0) (Int32.toNatClampNeg 0) (Int32.toNatClampNeg 4))) (h0 + 14) (va_cpy ((jx_set v (h0 + 13) (va_cpy (v (h1 + 13)) (v (h0 + 13)) (Int32.toNatClampNeg 0) (Int32.toNatClampNeg 0) (Int32.toNatClampNeg 4))) (h1 + 14)) ((jx_set v (h0 + 13) (va_cpy (v (h1 + 13)) (v (h0 + 13)) (Int32.toNatClampNeg 0) (Int32.toNatClampNeg 0) (Int32.toNatClampNeg 4))) (h0 + 14)) (Int32.toNatClampNeg 0) (Int32.toNatClampNeg 0) (Int32.toNatClampNeg 4))) (h0 + 15) (va_cpy ((jx_set (jx_set v (h0 + 13) (va_cpy (v (h1 + 13)) (v (h0 + 13)) (Int32.toNatClampNeg 0) (Int32.toNatClampNeg 0) (Int32.toNatClampNeg 4))) (h0 + 14) (va_cpy ((jx_set v (h0 + 13) (va_cpy (v (h1 + 13)) (v (h0 + 13)) (Int32.toNatClampNeg 0) (Int32.toNatClampNeg 0) (Int32.toNatClampNeg 4))) (h1 + 14)) ((jx_set v (h0 + 13) (va_cpy (v (h1 + 13)) (v (h0 + 13)) (Int32.toNatClampNeg 0) (Int32.toNatClampNeg 0) (Int32.toNatClampNeg 4))) (h0 + 14)) (Int32.toNatClampNeg 0) (Int32.toNatClampNeg 0) (Int32.toNatClampNeg 4))) (h1 + 15)) ((jx_set (jx_set v (h0 + 13) (va_cpy (v (h1 + 13)) (v (h0 + 13)) (Int32.toNatClampNeg 0) (Int32.toNatClampNeg 0) (Int32.toNatClampNeg 4))) (h0 + 14) (va_cpy ((jx_set v (h0 + 13) (va_cpy (v (h1 + 13)) (v (h0 + 13)) (Int32.toNatClampNeg 0) (Int32.toNatClampNeg 0) (Int32.toNatClampNeg 4))) (h1 + 14)) ((jx_set v (h0 + 13) (va_cpy (v (h1 + 13)) (v (h0 + 13)) (Int32.toNatClampNeg 0) (Int32.toNatClampNeg 0) (Int32.toNatClampNeg 4))) (h0 + 14)) (Int32.toNatClampNeg 0) (Int32.toNatClampNeg 0) (Int32.toNatClampNeg 4))) (h0 + 15)) (Int32.toNatClampNeg 0) (Int32.toNatClampNeg 0) (Int32.toNatClampNeg 10))) h1 5)) h0 6 ((jx_up (jx_set (jx_set (jx_set v (h0 + 13) (va_cpy (v (h1 + 13)) (v (h0 + 13)) (Int32.toNatClampNeg 0) (Int32.toNatClampNeg 0) (Int32.toNatClampNeg 4))) (h0 + 14) (va_cpy ((jx_set v (h0 + 13) (va_cpy (v (h1 + 13)) (v (h0 + 13)) (Int32.toNatClampNeg 0) (Int32.toNatClampNeg 0) (Int32.toNatClampNeg 4))) (h1 + 14)) ((jx_set v (h0 + 13) (va_cpy (v (h1 + 13)) (v (h0 + 13)) (Int32.toNatClampNeg 0) (Int32.toNatClampNeg 0) (Int32.toNatClampNeg 4))) (h0 + 14)) (Int32.toNatClampNeg 0) (Int32.toNatClampNeg 0) (Int32.toNatClampNeg 4))) (h0 + 15) (va_cpy ((jx_set (jx_set v (h0 + 13) (va_cpy (v (h1 + 13)) (v (h0 + 13)) (Int32.toNatClampNeg 0) (Int32.toNatClampNeg 0) (Int32.toNatClampNeg 4))) (h0 + 14) (va_cpy ((jx_set v (h0 + 13) (va_cpy (v (h1 + 13)) (v (h0 + 13)) (Int32.toNatClampNeg 0) (Int32.toNatClampNeg 0) (Int32.toNatClampNeg 4))) (h1 + 14)) ((jx_set v (h0 + 13) (va_cpy (v (h1 + 13)) (v (h0 + 13)) (Int32.toNatClampNeg 0) (Int32.toNatClampNeg 0) (Int32.toNatClampNeg 4))) (h0 + 14)) (Int32.toNatClampNeg 0) (Int32.toNatClampNeg 0) (Int32.toNatClampNeg 4))) (h1 + 15)) ((jx_set (jx_set v (h0 + 13) (va_cpy (v (h1 + 13)) (v (h0 + 13)) (Int32.toNatClampNeg 0) (Int32.toNatClampNeg 0) (Int32.toNatClampNeg 4))) (h0 + 14) (va_cpy ((jx_set v (h0 + 13) (va_cpy (v (h1 + 13)) (v (h0 + 13)) (Int32.toNatClampNeg 0) (Int32.toNatClampNeg 0) (Int32.toNatClampNeg 4))) (h1 + 14)) ((jx_set v (h0 + 13) (va_cpy (v (h1 + 13)) (v (h0 + 13)) (Int32.toNatClampNeg 0) (Int32.toNatClampNeg 0) (Int32.toNatClampNeg 4))) (h0 + 14)) (Int32.toNatClampNeg 0) (Int32.toNatClampNeg 0) (Int32.toNatClampNeg 4))) (h0 + 15)) (Int32.toNatClampNeg 0) (Int32.toNatClampNeg 0) (Int32.toNatClampNeg 10))) h0 5 ((jx_set (jx_set (jx_set v (h0 + 13) (va_cpy (v (h1 + 13)) (v (h0 + 13)) (Int32.toNatClampNeg 0) (Int32.toNatClampNeg 0) (Int32.toNatClampNeg 4))) (h0 + 14) (va_cpy ((jx_set v (h0 + 13) (va_cpy (v (h1 + 13)) (v (h0 + 13)) (Int32.toNatClampNeg 0) (Int32.toNatClampNeg 0) (Int32.toNatClampNeg 4))) (h1 + 14)) ((jx_set v (h0 + 13) (va_cpy (v (h1 + 13)) (v (h0 + 13)) (Int32.toNatClampNeg 0) (Int32.toNatClampNeg 0) (Int32.toNatClampNeg 4))) (h0 + 14)) (Int32.toNatClampNeg 0) (Int32.toNatClampNeg 0) (Int32.toNatClampNeg 4))) (h0 + 15) (va_cpy ((jx_set (jx_set v (h0 + 13) (va_cpy (v (h1 + 13)) (v (h0 + 13)) (Int32.toNatClampNeg 0) (Int32.toNatClampNeg 0) (Int32.toNatClampNeg 4))) (h0 + 14) (va_cpy ((jx_set v (h0 + 13) (va_cpy (v (h1 + 13)) (v (h0 + 13)) (Int32.toNatClampNeg 0) (Int32.toNatClampNeg 0) (Int32.toNatClampNeg 4))) (h1 + 14)) ((jx_set v (h0 + 13) (va_cpy (v (h1 + 13)) (v (h0 + 13)) (Int32.toNatClampNeg 0) (Int32.toNatClampNeg 0) (Int32.toNatClampNeg 4))) (h0 + 14)) (Int32.toNatClampNeg 0) (Int32.toNatClampNeg 0) (Int32.toNatClampNeg 4))) (h1 + 15)) ((jx_set (jx_set v (h0 + 13) (va_cpy (v (h1 + 13)) (v (h0 + 13)) (Int32.toNatClampNeg 0) (Int32.toNatClampNeg 0) (Int32.toNatClampNeg 4))) (h0 + 14) (va_cpy ((jx_set v (h0 + 13) (va_cpy (v (h1 + 13)) (v (h0 + 13)) (Int32.toNatClampNeg 0) (Int32.toNatClampNeg 0) (Int32.toNatClampNeg 4))) (h1 + 14)) ((jx_set v (h0 + 13) (va_cpy (v (h1 + 13)) (v (h0 + 13)) (Int32.toNatClampNeg 0) (Int32.toNatClampNeg 0) (Int32.toNatClampNeg 4))) (h0 + 14)) (Int32.toNatClampNeg 0) (Int32.toNatClampNeg 0) (Int32.toNatClampNeg 4))) (h0 + 15)) (Int32.toNatClampNeg 0) (Int32.toNatClampNeg 0) (Int32.toNatClampNeg 10))) h1 5)) h1 6)) h1 7))) else (if (x2 < 0 ∨ 6 ≤ (x2).toNatClampNeg) then none else (if (x2 < 0 ∨ 6 ≤ (x2).toNatClampNeg) then none else (f_X3_become_L h0 h1 n 1 (x2 + 1) (jx_set v (h0 + 7 + (x2).toNatClampNeg) (va_cpy (v (h1 + 7 + (x2).toNatClampNeg)) (v (h0 + 7 + (x2).toNatClampNeg)) (Int32.toNatClampNeg 0) (Int32.toNatClampNeg 0) (Int32.toNatClampNeg 10))))))) else none))
def f_X3_become (h0 : Nat) (h1 : Nat) (v : jx_V) : Option (jx_V) := (f_X3_become_L h0 h1 100000 0 0 v)
def rm_X3_become : Room := { frames := 1, cells := 0, slots := 0, locals := 60 }
set_option maxHeartbeats 4000000 in
set_option maxRecDepth 100000 in
theorem k_X3_become {l : Launch} {D : va_G} {cI cJ : ClassId} {ad : Nat → Nat} {A : Nat → Prop} {adK adV : Nat → Nat} (hI : jx_inj 67 ad A) (h0 : Nat) (hT0 : jx_T h0) (h1 : Nat) (hT1 : jx_T h1) (v : jx_V) (v' : jx_V) (hF : f_X3_become h0 h1 v = some v') : jx_Cv l D vwCl 67 cI cJ ad shX A (ex_X adK adV A) yX3_become (Cond.code yX3_become cX3_become 3 (none) :: bigT) rm_X3_become [.ref (ad h0), .ref (ad h1)] v v' := by
  unfold f_X3_become at hF
  refine jx_enterv bigT RX3 cX3_become 3 (none) [(0, .ref (ad h0)), (1, .ref (ad h1))] hI (ex_X_ok adK adV A) (by decide +kernel) rfl (Nat.le_of_ble_eq_true rfl) rfl rfl ?_
  intro p e s m args below meth c E
  have iX3 : ∀ w ∈ u_ws RX3 TX3 8, w ∈ (Cond.code yX3_become cX3_become 3 (none) :: bigT) := fun w h => List.mem_cons_of_mem _ (uw_X3 w h)
  have key : ∀ n : Nat, (∀ (x2 : Int32) (v : jx_V), f_X3_become_L h0 h1 n 0 x2 v = some v' → jx_J p l e rm_X3_become s m args below meth c D vwCl 67 cI cJ ad shX A 0 0 3 (MQ below (va_Qv (fun (_ : Unit) => True) (fun _ t => va_P D vwCl (jx_ws 67 cI cJ ad shX v') t.heap) A) args s 0 0 A) v 2 [(0, .ref (ad h0)), (1, .ref (ad h1)), (2, .int x2)] []) ∧ (∀ (x2 : Int32) (v : jx_V), f_X3_become_L h0 h1 n 1 x2 v = some v' → jx_J p l e rm_X3_become s m args below meth c D vwCl 67 cI cJ ad shX A 0 0 3 (MQ below (va_Qv (fun (_ : Unit) => True) (fun _ t => va_P D vwCl (jx_ws 67 cI cJ ad shX v') t.heap) A) args s 0 0 A) v 34 [(0, .ref (ad h0)), (1, .ref (ad h1)), (2, .int x2)] []) := by
    intro n
    induction n with
    | zero =>
      exact ⟨(fun _ _ h => by cases h), (fun _ _ h => by cases h)⟩
    | succ n ih =>
      refine ⟨?_, ?_⟩
      · intro x2 v hF
        rw [f_X3_become_L] at hF
        rw [if_pos rfl] at hF
        refine jx_iload_n E dX3_become_2 2 rfl ?_
        refine jx_iconst (x := 4) E dX3_become_3 (by decide) ?_
        refine jx_icmp_ge (tgt := 32) E dX3_become_4 (by decide) (fun hc1 => ?_) (fun hc1 => ?_)
        · rw [if_pos hc1] at hF
          refine jx_iconst (x := 0) E dX3_become_32 (by decide) ?_
          refine jx_istore_n (lv' := [(2, .int 0), (0, .ref (ad h0)), (1, .ref (ad h1))]) E dX3_become_33 (by decide) rfl ?_
          refine jx_sub [1, 2, 0] rfl ?_
          exact ih.2 0 v hF
        · rw [if_neg hc1] at hF
          refine jx_aload_n E dX3_become_7 1 rfl ?_
          refine jx_getr (C := RX3) (T := TX3) (M := 8) (k := 0) E dX3_become_8 (n_T0 hT1) (s_T0 hT1) rfl iX3 (by decide) rfl (List.mem_cons_of_mem _ tw_27) rfl ?_
          refine jx_iload_n E dX3_become_11 2 rfl ?_
          obtain ⟨hg2, hF⟩ := jx_guard hF
          refine jx_aald (h' := (h1 + 3 + (x2).toNatClampNeg)) E dX3_become_12 (n_T1 hT1) (s_T1 hT1) hg2 (l_Tr (t := h1) (l_lt hg2)) ?_
          refine jx_iconst (x := 0) E dX3_become_13 (by decide) ?_
          refine jx_aload_n E dX3_become_14 0 rfl ?_
          refine jx_getr (C := RX3) (T := TX3) (M := 8) (k := 0) E dX3_become_15 (n_T0 hT0) (s_T0 hT0) rfl iX3 (by decide) rfl (List.mem_cons_of_mem _ tw_27) rfl ?_
          refine jx_iload_n E dX3_become_18 2 rfl ?_
          obtain ⟨hg3, hF⟩ := jx_guard hF
          refine jx_aald (h' := (h0 + 3 + (x2).toNatClampNeg)) E dX3_become_19 (n_T1 hT0) (s_T1 hT0) hg3 (l_Tr (t := h0) (l_lt hg3)) ?_
          refine jx_iconst (x := 0) E dX3_become_20 (by decide) ?_
          refine jx_bipush (x := 25) E dX3_become_21 (by decide) ?_
          refine jx_copy (h0 := (h1 + 3 + (x2).toNatClampNeg)) (h1 := (h0 + 3 + (x2).toNatClampNeg)) (st := []) E dX3_become_23 (List.mem_cons_of_mem _ tw_172) (List.mem_cons_of_mem _ tw_173) (List.mem_cons_of_mem _ tw_174) (List.mem_cons_of_mem _ tw_175) (n_Tr hT1 (l_lt hg2)) (s_Tr hT1 (l_lt hg2)) (n_Tr hT0 (l_lt hg3)) (s_Tr hT0 (l_lt hg3)) (by decide) (by decide) (by decide) (by decide) (by decide) (by decide) (by decide) ?_
          refine jx_iinc (y := (x2 + 1)) (lv' := [(2, .int (x2 + 1)), (0, .ref (ad h0)), (1, .ref (ad h1))]) E dX3_become_26 2 rfl rfl (by decide) rfl ?_
          refine jx_goto (tgt := 2) E dX3_become_29 (by decide) ?_
          refine jx_sub [1, 2, 0] rfl ?_
          exact ih.1 (x2 + 1) (jx_set v (h0 + 3 + (x2).toNatClampNeg) (va_cpy (v (h1 + 3 + (x2).toNatClampNeg)) (v (h0 + 3 + (x2).toNatClampNeg)) (Int32.toNatClampNeg 0) (Int32.toNatClampNeg 0) (Int32.toNatClampNeg 25))) hF
      · intro x2 v hF
        rw [f_X3_become_L] at hF
        rw [if_neg (by decide), if_pos rfl] at hF
        refine jx_iload_n E dX3_become_34 2 rfl ?_
        refine jx_bipush (x := 6) E dX3_become_35 (by decide) ?_
        refine jx_icmp_ge (tgt := 65) E dX3_become_37 (by decide) (fun hc4 => ?_) (fun hc4 => ?_)
        · rw [if_pos hc4] at hF
          refine jx_aload_n E dX3_become_65 1 rfl ?_
          refine jx_getr (C := RX3) (T := TX3) (M := 8) (k := 2) E dX3_become_66 (n_T0 hT1) (s_T0 hT1) rfl iX3 (by decide) rfl (List.mem_cons_of_mem _ tw_73) rfl ?_
          refine jx_iconst (x := 0) E dX3_become_69 (by decide) ?_
          refine jx_aload_n E dX3_become_70 0 rfl ?_
          refine jx_getr (C := RX3) (T := TX3) (M := 8) (k := 2) E dX3_become_71 (n_T0 hT0) (s_T0 hT0) rfl iX3 (by decide) rfl (List.mem_cons_of_mem _ tw_73) rfl ?_
          refine jx_iconst (x := 0) E dX3_become_74 (by decide) ?_
          refine jx_iconst (x := 4) E dX3_become_75 (by decide) ?_
          refine jx_copy (h0 := (h1 + 13)) (h1 := (h0 + 13)) (st := []) E dX3_become_76 (List.mem_cons_of_mem _ tw_172) (List.mem_cons_of_mem _ tw_173) (List.mem_cons_of_mem _ tw_174) (List.mem_cons_of_mem _ tw_175) (n_T13 hT1) (s_T13 hT1) (n_T13 hT0) (s_T13 hT0) (by decide) (by decide) (by decide) (by decide) (by decide) (by decide) (by decide) ?_
          refine jx_aload_n E dX3_become_79 1 rfl ?_
          refine jx_getr (C := RX3) (T := TX3) (M := 8) (k := 3) E dX3_become_80 (n_T0 hT1) (s_T0 hT1) rfl iX3 (by decide) rfl (List.mem_cons_of_mem _ tw_176) rfl ?_
          refine jx_iconst (x := 0) E dX3_become_83 (by decide) ?_
          refine jx_aload_n E dX3_become_84 0 rfl ?_
          refine jx_getr (C := RX3) (T := TX3) (M := 8) (k := 3) E dX3_become_85 (n_T0 hT0) (s_T0 hT0) rfl iX3 (by decide) rfl (List.mem_cons_of_mem _ tw_176) rfl ?_
          refine jx_iconst (x := 0) E dX3_become_88 (by decide) ?_
          refine jx_iconst (x := 4) E dX3_become_89 (by decide) ?_
          refine jx_copy (h0 := (h1 + 14)) (h1 := (h0 + 14)) (st := []) E dX3_become_90 (List.mem_cons_of_mem _ tw_172) (List.mem_cons_of_mem _ tw_173) (List.mem_cons_of_mem _ tw_174) (List.mem_cons_of_mem _ tw_175) (n_T14 hT1) (s_T14 hT1) (n_T14 hT0) (s_T14 hT0) (by decide) (by decide) (by decide) (by decide) (by decide) (by decide) (by decide) ?_
          refine jx_aload_n E dX3_become_93 1 rfl ?_
          refine jx_getr (C := RX3) (T := TX3) (M := 8) (k := 4) E dX3_become_94 (n_T0 hT1) (s_T0 hT1) rfl iX3 (by decide) rfl (List.mem_cons_of_mem _ tw_177) rfl ?_
          refine jx_iconst (x := 0) E dX3_become_97 (by decide) ?_
          refine jx_aload_n E dX3_become_98 0 rfl ?_
          refine jx_getr (C := RX3) (T := TX3) (M := 8) (k := 4) E dX3_become_99 (n_T0 hT0) (s_T0 hT0) rfl iX3 (by decide) rfl (List.mem_cons_of_mem _ tw_177) rfl ?_
          refine jx_iconst (x := 0) E dX3_become_102 (by decide) ?_
          refine jx_bipush (x := 10) E dX3_become_103 (by decide) ?_
          refine jx_copy (h0 := (h1 + 15)) (h1 := (h0 + 15)) (st := []) E dX3_become_105 (List.mem_cons_of_mem _ tw_172) (List.mem_cons_of_mem _ tw_173) (List.mem_cons_of_mem _ tw_174) (List.mem_cons_of_mem _ tw_175) (n_T15 hT1) (s_T15 hT1) (n_T15 hT0) (s_T15 hT0) (by decide) (by decide) (by decide) (by decide) (by decide) (by decide) (by decide) ?_
          refine jx_aload_n E dX3_become_108 0 rfl ?_
          refine jx_aload_n E dX3_become_109 1 rfl ?_
          refine jx_geti (C := RX3) (T := TX3) (M := 8) (k := 5) E dX3_become_110 (n_T0 hT1) (s_T0 hT1) rfl iX3 (by decide) rfl (List.mem_cons_of_mem _ tw_140) rfl ?_
          refine jx_puti (C := RX3) (T := TX3) (M := 8) (k := 5) (ty := .int) E tyX3 dX3_become_113 (n_T0 hT0) (s_T0 hT0) rfl iX3 (by decide) rfl (List.mem_cons_of_mem _ tw_140) tyX3_ok nmX3 rfl (by decide +kernel) rfl rfl rfl ?_
          refine jx_aload_n E dX3_become_116 0 rfl ?_
          refine jx_aload_n E dX3_become_117 1 rfl ?_
          refine jx_geti (C := RX3) (T := TX3) (M := 8) (k := 6) E dX3_become_118 (n_T0 hT1) (s_T0 hT1) rfl iX3 (by decide) rfl (List.mem_cons_of_mem _ tw_28) rfl ?_
          refine jx_puti (C := RX3) (T := TX3) (M := 8) (k := 6) (ty := .int) E tyX3 dX3_become_121 (n_T0 hT0) (s_T0 hT0) rfl iX3 (by decide) rfl (List.mem_cons_of_mem _ tw_28) tyX3_ok nmX3 rfl (by decide +kernel) rfl rfl rfl ?_
          refine jx_aload_n E dX3_become_124 0 rfl ?_
          refine jx_aload_n E dX3_become_125 1 rfl ?_
          refine jx_geti (C := RX3) (T := TX3) (M := 8) (k := 7) E dX3_become_126 (n_T0 hT1) (s_T0 hT1) rfl iX3 (by decide) rfl (List.mem_cons_of_mem _ tw_178) rfl ?_
          refine jx_puti (C := RX3) (T := TX3) (M := 8) (k := 7) (ty := .int) E tyX3 dX3_become_129 (n_T0 hT0) (s_T0 hT0) rfl iX3 (by decide) rfl (List.mem_cons_of_mem _ tw_178) tyX3_ok nmX3 rfl (by decide +kernel) rfl rfl rfl ?_
          obtain rfl := Option.some.inj hF
          exact jx_vret E dX3_become_132 rfl
        · rw [if_neg hc4] at hF
          refine jx_aload_n E dX3_become_40 1 rfl ?_
          refine jx_getr (C := RX3) (T := TX3) (M := 8) (k := 1) E dX3_become_41 (n_T0 hT1) (s_T0 hT1) rfl iX3 (by decide) rfl (List.mem_cons_of_mem _ tw_141) rfl ?_
          refine jx_iload_n E dX3_become_44 2 rfl ?_
          obtain ⟨hg5, hF⟩ := jx_guard hF
          refine jx_aald (h' := (h1 + 7 + (x2).toNatClampNeg)) E dX3_become_45 (n_T2 hT1) (s_T2 hT1) hg5 (l_Tw (t := h1) (l_lt hg5)) ?_
          refine jx_iconst (x := 0) E dX3_become_46 (by decide) ?_
          refine jx_aload_n E dX3_become_47 0 rfl ?_
          refine jx_getr (C := RX3) (T := TX3) (M := 8) (k := 1) E dX3_become_48 (n_T0 hT0) (s_T0 hT0) rfl iX3 (by decide) rfl (List.mem_cons_of_mem _ tw_141) rfl ?_
          refine jx_iload_n E dX3_become_51 2 rfl ?_
          obtain ⟨hg6, hF⟩ := jx_guard hF
          refine jx_aald (h' := (h0 + 7 + (x2).toNatClampNeg)) E dX3_become_52 (n_T2 hT0) (s_T2 hT0) hg6 (l_Tw (t := h0) (l_lt hg6)) ?_
          refine jx_iconst (x := 0) E dX3_become_53 (by decide) ?_
          refine jx_bipush (x := 10) E dX3_become_54 (by decide) ?_
          refine jx_copy (h0 := (h1 + 7 + (x2).toNatClampNeg)) (h1 := (h0 + 7 + (x2).toNatClampNeg)) (st := []) E dX3_become_56 (List.mem_cons_of_mem _ tw_172) (List.mem_cons_of_mem _ tw_173) (List.mem_cons_of_mem _ tw_174) (List.mem_cons_of_mem _ tw_175) (n_Tw hT1 (l_lt hg5)) (s_Tw hT1 (l_lt hg5)) (n_Tw hT0 (l_lt hg6)) (s_Tw hT0 (l_lt hg6)) (by decide) (by decide) (by decide) (by decide) (by decide) (by decide) (by decide) ?_
          refine jx_iinc (y := (x2 + 1)) (lv' := [(2, .int (x2 + 1)), (0, .ref (ad h0)), (1, .ref (ad h1))]) E dX3_become_59 2 rfl rfl (by decide) rfl ?_
          refine jx_goto (tgt := 34) E dX3_become_62 (by decide) ?_
          refine jx_sub [1, 2, 0] rfl ?_
          exact ih.2 (x2 + 1) (jx_set v (h0 + 7 + (x2).toNatClampNeg) (va_cpy (v (h1 + 7 + (x2).toNatClampNeg)) (v (h0 + 7 + (x2).toNatClampNeg)) (Int32.toNatClampNeg 0) (Int32.toNatClampNeg 0) (Int32.toNatClampNeg 10))) hF
  refine jx_iconst (x := 0) E dX3_become_0 (by decide) ?_
  refine jx_istore_n (lv' := [(2, .int 0), (0, .ref (ad h0)), (1, .ref (ad h1))]) E dX3_become_1 (by decide) rfl ?_
  refine jx_sub [1, 2, 0] rfl ?_
  exact (key 100000).1 0 v hF
def f_X3_isOwnersLot (h0 : Nat) (x1 : Int32) (x2 : Int32) (v : jx_V) : Option (Int32 × jx_V) := ((f_X3_isTaken h0 x1 v).bind (fun (r1, v1) => (if r1 = 0 then (some (0, v1)) else (if (x1 < 0 ∨ 25 ≤ Int32.toNatClampNeg x1) then none else (if (v1 (h0 + 4) (Int32.toNatClampNeg x1)) = x2 then (some (1, v1)) else (some (0, v1)))))))
def rm_X3_isOwnersLot : Room := { frames := 1, cells := 0, slots := 0, locals := 21 }
set_option maxHeartbeats 4000000 in
set_option maxRecDepth 100000 in
theorem k_X3_isOwnersLot {l : Launch} {D : va_G} {cI cJ : ClassId} {ad : Nat → Nat} {A : Nat → Prop} {adK adV : Nat → Nat} (hI : jx_inj 67 ad A) (h0 : Nat) (hT0 : jx_T h0) (x1 : Int32) (x2 : Int32) (v : jx_V) (r : Int32) (v' : jx_V) (hF : f_X3_isOwnersLot h0 x1 x2 v = some (r, v')) : jx_Ci l D vwCl 67 cI cJ ad shX A (ex_X adK adV A) yX3_isOwnersLot (Cond.code yX3_isOwnersLot cX3_isOwnersLot 3 (some .boolean) :: bigT) rm_X3_isOwnersLot [.ref (ad h0), .int x1, .int x2] v r v' := by
  unfold f_X3_isOwnersLot at hF
  refine jx_enteri bigT RX3 cX3_isOwnersLot 3 (some .boolean) [(0, .ref (ad h0)), (1, .int x1), (2, .int x2)] hI (ex_X_ok adK adV A) (by decide +kernel) rfl (Nat.le_of_ble_eq_true rfl) rfl rfl ?_
  intro p e s m args below meth c E
  have iX3 : ∀ w ∈ u_ws RX3 TX3 8, w ∈ (Cond.code yX3_isOwnersLot cX3_isOwnersLot 3 (some .boolean) :: bigT) := fun w h => List.mem_cons_of_mem _ (uw_X3 w h)
  refine jx_aload_n E dX3_isOwnersLot_0 0 rfl ?_
  refine jx_iload_n E dX3_isOwnersLot_1 1 rfl ?_
  obtain ⟨⟨r1, v1⟩, hc1, hF⟩ := jx_bind hF
  try dsimp only at hF
  refine jx_callVi (As := [.int x1]) (st := []) (h := h0) E dX3_isOwnersLot_2 1 rfl (k_X3_isTaken hI h0 hT0 x1 v r1 v1 hc1) (gb_V (List.mem_cons_of_mem _ tw_179) (List.mem_cons_of_mem _ tw_52) (List.mem_cons_of_mem _ tw_53) (List.mem_cons_of_mem _ tw_33) tw_51) rfl rfl rfl dd_X3_isTaken rfl (n_T0 hT0) (s_T0 hT0) rfl ⟨by decide, by decide⟩ ⟨Nat.le_refl 0, Nat.le_refl 0⟩ (Nat.le_of_ble_eq_true rfl) ?_
  refine jx_if_eq (tgt := 24) E dX3_isOwnersLot_5 (by decide) (fun hc2 => ?_) (fun hc2 => ?_)
  · rw [if_pos hc2] at hF
    refine jx_iconst (x := 0) E dX3_isOwnersLot_24 (by decide) ?_
    obtain ⟨rfl, rfl⟩ := jx_out hF
    exact jx_zret E dX3_isOwnersLot_25 rfl (Or.inl rfl)
  · rw [if_neg hc2] at hF
    refine jx_aload_n E dX3_isOwnersLot_8 0 rfl ?_
    refine jx_getr (C := RX3) (T := TX3) (M := 8) (k := 0) E dX3_isOwnersLot_9 (n_T0 hT0) (s_T0 hT0) rfl iX3 (by decide) rfl (List.mem_cons_of_mem _ tw_27) rfl ?_
    refine jx_iconst (x := 1) E dX3_isOwnersLot_12 (by decide) ?_
    refine jx_aald (h' := (h0 + 4)) E dX3_isOwnersLot_13 (n_T1 hT0) (s_T1 hT0) (show ¬ ((1 : Int32) < 0 ∨ 4 ≤ Int32.toNatClampNeg 1) by decide) rfl ?_
    refine jx_iload_n E dX3_isOwnersLot_14 1 rfl ?_
    obtain ⟨hg3, hF⟩ := jx_guard hF
    refine jx_iald (h := (h0 + 4)) (j := (Int32.toNatClampNeg x1)) E dX3_isOwnersLot_15 (n_T4 hT0) (s_T4 hT0) hg3 rfl ?_
    refine jx_iload_n E dX3_isOwnersLot_16 2 rfl ?_
    refine jx_icmp_ne (tgt := 24) E dX3_isOwnersLot_17 (by decide) (fun hc4 => ?_) (fun hc4 => ?_)
    · rw [if_neg hc4] at hF
      refine jx_iconst (x := 0) E dX3_isOwnersLot_24 (by decide) ?_
      obtain ⟨rfl, rfl⟩ := jx_out hF
      exact jx_zret E dX3_isOwnersLot_25 rfl (Or.inl rfl)
    · rw [if_pos hc4] at hF
      refine jx_iconst (x := 1) E dX3_isOwnersLot_20 (by decide) ?_
      refine jx_goto (tgt := 25) E dX3_isOwnersLot_21 (by decide) ?_
      obtain ⟨rfl, rfl⟩ := jx_out hF
      exact jx_zret E dX3_isOwnersLot_25 rfl (Or.inr rfl)
def f_X3_exchange_L (h0 : Nat) : Nat → Int32 → Int32 → Int32 → jx_V → Option (jx_V)
  | 0, _, _, _, _ => none
  | n + 1, x1, x2, x3, v => (if 4 ≤ x3 then (some v) else (if (x3 < 0 ∨ 4 ≤ (x3).toNatClampNeg) then none else (if (x1 < 0 ∨ 25 ≤ Int32.toNatClampNeg x1) then none else (if (x3 < 0 ∨ 4 ≤ (x3).toNatClampNeg) then none else (if (x3 < 0 ∨ 4 ≤ (x3).toNatClampNeg) then none else (if (x2 < 0 ∨ 25 ≤ Int32.toNatClampNeg x2) then none else (if (x1 < 0 ∨ 25 ≤ Int32.toNatClampNeg x1) then none else (if (x3 < 0 ∨ 4 ≤ (x3).toNatClampNeg) then none else (if (x2 < 0 ∨ 25 ≤ Int32.toNatClampNeg x2) then none else (f_X3_exchange_L h0 n x1 x2 (x3 + 1) (jx_up (jx_up v (h0 + 3 + (x3).toNatClampNeg) (Int32.toNatClampNeg x1) (v (h0 + 3 + (x3).toNatClampNeg) (Int32.toNatClampNeg x2))) (h0 + 3 + (x3).toNatClampNeg) (Int32.toNatClampNeg x2) (v (h0 + 3 + (x3).toNatClampNeg) (Int32.toNatClampNeg x1)))))))))))))
def f_X3_exchange (h0 : Nat) (x1 : Int32) (x2 : Int32) (v : jx_V) : Option (jx_V) := (f_X3_exchange_L h0 100000 x1 x2 0 v)
def rm_X3_exchange : Room := { frames := 0, cells := 0, slots := 0, locals := 0 }
set_option maxHeartbeats 4000000 in
set_option maxRecDepth 100000 in
theorem k_X3_exchange {l : Launch} {D : va_G} {cI cJ : ClassId} {ad : Nat → Nat} {A : Nat → Prop} {adK adV : Nat → Nat} (hI : jx_inj 67 ad A) (h0 : Nat) (hT0 : jx_T h0) (x1 : Int32) (x2 : Int32) (v : jx_V) (v' : jx_V) (hF : f_X3_exchange h0 x1 x2 v = some v') : jx_Cv l D vwCl 67 cI cJ ad shX A (ex_X adK adV A) yX3_exchange (Cond.code yX3_exchange cX3_exchange 5 (none) :: bigT) rm_X3_exchange [.ref (ad h0), .int x1, .int x2] v v' := by
  unfold f_X3_exchange at hF
  refine jx_enterv bigT RX3 cX3_exchange 5 (none) [(0, .ref (ad h0)), (1, .int x1), (2, .int x2)] hI (ex_X_ok adK adV A) (by decide +kernel) rfl (Nat.le_of_ble_eq_true rfl) rfl rfl ?_
  intro p e s m args below meth c E
  have iX3 : ∀ w ∈ u_ws RX3 TX3 8, w ∈ (Cond.code yX3_exchange cX3_exchange 5 (none) :: bigT) := fun w h => List.mem_cons_of_mem _ (uw_X3 w h)
  have key : ∀ n : Nat, (∀ (x1 : Int32) (x2 : Int32) (x3 : Int32) (v : jx_V), f_X3_exchange_L h0 n  x1 x2 x3 v = some v' → jx_J p l e rm_X3_exchange s m args below meth c D vwCl 67 cI cJ ad shX A 0 0 5 (MQ below (va_Qv (fun (_ : Unit) => True) (fun _ t => va_P D vwCl (jx_ws 67 cI cJ ad shX v') t.heap) A) args s 0 0 A) v 2 [(0, .ref (ad h0)), (1, .int x1), (2, .int x2), (3, .int x3)] []) := by
    intro n
    induction n with
    | zero =>
      exact (fun _ _ _ _ h => by cases h)
    | succ n ih =>
      intro x1 x2 x3 v hF
      rw [f_X3_exchange_L] at hF
      refine jx_iload_n E dX3_exchange_2 3 rfl ?_
      refine jx_iconst (x := 4) E dX3_exchange_3 (by decide) ?_
      refine jx_icmp_ge (tgt := 49) E dX3_exchange_4 (by decide) (fun hc1 => ?_) (fun hc1 => ?_)
      · rw [if_pos hc1] at hF
        obtain rfl := Option.some.inj hF
        exact jx_vret E dX3_exchange_49 rfl
      · rw [if_neg hc1] at hF
        refine jx_aload_n E dX3_exchange_7 0 rfl ?_
        refine jx_getr (C := RX3) (T := TX3) (M := 8) (k := 0) E dX3_exchange_8 (n_T0 hT0) (s_T0 hT0) rfl iX3 (by decide) rfl (List.mem_cons_of_mem _ tw_27) rfl ?_
        refine jx_iload_n E dX3_exchange_11 3 rfl ?_
        obtain ⟨hg2, hF⟩ := jx_guard hF
        refine jx_aald (h' := (h0 + 3 + (x3).toNatClampNeg)) E dX3_exchange_12 (n_T1 hT0) (s_T1 hT0) hg2 (l_Tr (t := h0) (l_lt hg2)) ?_
        refine jx_iload_n E dX3_exchange_13 1 rfl ?_
        obtain ⟨hg3, hF⟩ := jx_guard hF
        refine jx_iald (h := (h0 + 3 + (x3).toNatClampNeg)) (j := (Int32.toNatClampNeg x1)) E dX3_exchange_14 (n_Tr hT0 (l_lt hg2)) (s_Tr hT0 (l_lt hg2)) hg3 rfl ?_
        refine jx_istore (lv' := [(4, .int (v (h0 + 3 + (x3).toNatClampNeg) (Int32.toNatClampNeg x1))), (0, .ref (ad h0)), (1, .int x1), (2, .int x2), (3, .int x3)]) E dX3_exchange_15 (by decide) rfl ?_
        refine jx_aload_n E dX3_exchange_17 1 rfl ?_
        refine jx_getr (C := RX3) (T := TX3) (M := 8) (k := 0) E dX3_exchange_18 (n_T0 hT0) (s_T0 hT0) rfl iX3 (by decide) rfl (List.mem_cons_of_mem _ tw_27) rfl ?_
        refine jx_iload_n E dX3_exchange_21 4 rfl ?_
        obtain ⟨hg4, hF⟩ := jx_guard hF
        refine jx_aald (h' := (h0 + 3 + (x3).toNatClampNeg)) E dX3_exchange_22 (n_T1 hT0) (s_T1 hT0) hg4 (l_Tr (t := h0) (l_lt hg4)) ?_
        refine jx_iload_n E dX3_exchange_23 2 rfl ?_
        refine jx_aload_n E dX3_exchange_24 1 rfl ?_
        refine jx_getr (C := RX3) (T := TX3) (M := 8) (k := 0) E dX3_exchange_25 (n_T0 hT0) (s_T0 hT0) rfl iX3 (by decide) rfl (List.mem_cons_of_mem _ tw_27) rfl ?_
        refine jx_iload_n E dX3_exchange_28 4 rfl ?_
        obtain ⟨hg5, hF⟩ := jx_guard hF
        refine jx_aald (h' := (h0 + 3 + (x3).toNatClampNeg)) E dX3_exchange_29 (n_T1 hT0) (s_T1 hT0) hg5 (l_Tr (t := h0) (l_lt hg5)) ?_
        refine jx_iload_n E dX3_exchange_30 3 rfl ?_
        obtain ⟨hg6, hF⟩ := jx_guard hF
        refine jx_iald (h := (h0 + 3 + (x3).toNatClampNeg)) (j := (Int32.toNatClampNeg x2)) E dX3_exchange_31 (n_Tr hT0 (l_lt hg5)) (s_Tr hT0 (l_lt hg5)) hg6 rfl ?_
        obtain ⟨hg7, hF⟩ := jx_guard hF
        refine jx_iast (h := (h0 + 3 + (x3).toNatClampNeg)) (j := (Int32.toNatClampNeg x1)) E dX3_exchange_32 (n_Tr hT0 (l_lt hg4)) (s_Tr hT0 (l_lt hg4)) hg7 rfl ?_
        refine jx_aload_n E dX3_exchange_33 1 rfl ?_
        refine jx_getr (C := RX3) (T := TX3) (M := 8) (k := 0) E dX3_exchange_34 (n_T0 hT0) (s_T0 hT0) rfl iX3 (by decide) rfl (List.mem_cons_of_mem _ tw_27) rfl ?_
        refine jx_iload_n E dX3_exchange_37 4 rfl ?_
        obtain ⟨hg8, hF⟩ := jx_guard hF
        refine jx_aald (h' := (h0 + 3 + (x3).toNatClampNeg)) E dX3_exchange_38 (n_T1 hT0) (s_T1 hT0) hg8 (l_Tr (t := h0) (l_lt hg8)) ?_
        refine jx_iload_n E dX3_exchange_39 3 rfl ?_
        refine jx_iload E dX3_exchange_40 0 rfl ?_
        obtain ⟨hg9, hF⟩ := jx_guard hF
        refine jx_iast (h := (h0 + 3 + (x3).toNatClampNeg)) (j := (Int32.toNatClampNeg x2)) E dX3_exchange_42 (n_Tr hT0 (l_lt hg8)) (s_Tr hT0 (l_lt hg8)) hg9 rfl ?_
        refine jx_iinc (y := (x3 + 1)) (lv' := [(3, .int (x3 + 1)), (4, .int (v (h0 + 3 + (x3).toNatClampNeg) (Int32.toNatClampNeg x1))), (0, .ref (ad h0)), (1, .int x1), (2, .int x2)]) E dX3_exchange_43 4 rfl rfl (by decide) rfl ?_
        refine jx_goto (tgt := 2) E dX3_exchange_46 (by decide) ?_
        refine jx_sub [2, 3, 4, 0] rfl ?_
        exact ih x1 x2 (x3 + 1) (jx_up (jx_up v (h0 + 3 + (x3).toNatClampNeg) (Int32.toNatClampNeg x1) (v (h0 + 3 + (x3).toNatClampNeg) (Int32.toNatClampNeg x2))) (h0 + 3 + (x3).toNatClampNeg) (Int32.toNatClampNeg x2) (v (h0 + 3 + (x3).toNatClampNeg) (Int32.toNatClampNeg x1))) hF
  refine jx_iconst (x := 0) E dX3_exchange_0 (by decide) ?_
  refine jx_istore_n (lv' := [(3, .int 0), (0, .ref (ad h0)), (1, .int x1), (2, .int x2)]) E dX3_exchange_1 (by decide) rfl ?_
  refine jx_sub [1, 2, 3, 0] rfl ?_
  exact (key 100000) x1 x2 0 v hF
def f_X3_lower (h0 : Nat) (x1 : Int32) (v : jx_V) : Option (Int32 × jx_V) := (if (x1 < 0 ∨ 25 ≤ Int32.toNatClampNeg x1) then none else (if (v (h0 + 5) (Int32.toNatClampNeg x1)) ≤ 0 then (if (x1 < 0 ∨ 25 ≤ Int32.toNatClampNeg x1) then none else (if (x1 < 0 ∨ 25 ≤ Int32.toNatClampNeg x1) then none else (some (0, (jx_up v (h0 + 5) (Int32.toNatClampNeg x1) ((v (h0 + 5) (Int32.toNatClampNeg x1)) - 0)))))) else (if (x1 < 0 ∨ 25 ≤ Int32.toNatClampNeg x1) then none else (if (x1 < 0 ∨ 25 ≤ Int32.toNatClampNeg x1) then none else (some (1, (jx_up v (h0 + 5) (Int32.toNatClampNeg x1) ((v (h0 + 5) (Int32.toNatClampNeg x1)) - 1))))))))
def rm_X3_lower : Room := { frames := 0, cells := 0, slots := 0, locals := 0 }
set_option maxHeartbeats 4000000 in
set_option maxRecDepth 100000 in
theorem k_X3_lower {l : Launch} {D : va_G} {cI cJ : ClassId} {ad : Nat → Nat} {A : Nat → Prop} {adK adV : Nat → Nat} (hI : jx_inj 67 ad A) (h0 : Nat) (hT0 : jx_T h0) (x1 : Int32) (v : jx_V) (r : Int32) (v' : jx_V) (hF : f_X3_lower h0 x1 v = some (r, v')) : jx_Ci l D vwCl 67 cI cJ ad shX A (ex_X adK adV A) yX3_lower (Cond.code yX3_lower cX3_lower 3 (some .int) :: bigT) rm_X3_lower [.ref (ad h0), .int x1] v r v' := by
  unfold f_X3_lower at hF
  refine jx_enteri bigT RX3 cX3_lower 3 (some .int) [(0, .ref (ad h0)), (1, .int x1)] hI (ex_X_ok adK adV A) (by decide +kernel) rfl (Nat.le_of_ble_eq_true rfl) rfl rfl ?_
  intro p e s m args below meth c E
  have iX3 : ∀ w ∈ u_ws RX3 TX3 8, w ∈ (Cond.code yX3_lower cX3_lower 3 (some .int) :: bigT) := fun w h => List.mem_cons_of_mem _ (uw_X3 w h)
  refine jx_aload_n E dX3_lower_0 0 rfl ?_
  refine jx_getr (C := RX3) (T := TX3) (M := 8) (k := 0) E dX3_lower_1 (n_T0 hT0) (s_T0 hT0) rfl iX3 (by decide) rfl (List.mem_cons_of_mem _ tw_27) rfl ?_
  refine jx_iconst (x := 2) E dX3_lower_4 (by decide) ?_
  refine jx_aald (h' := (h0 + 5)) E dX3_lower_5 (n_T1 hT0) (s_T1 hT0) (show ¬ ((2 : Int32) < 0 ∨ 4 ≤ Int32.toNatClampNeg 2) by decide) rfl ?_
  refine jx_iload_n E dX3_lower_6 1 rfl ?_
  obtain ⟨hg1, hF⟩ := jx_guard hF
  refine jx_iald (h := (h0 + 5)) (j := (Int32.toNatClampNeg x1)) E dX3_lower_7 (n_T5 hT0) (s_T5 hT0) hg1 rfl ?_
  refine jx_if_le (tgt := 15) E dX3_lower_8 (by decide) (fun hc2 => ?_) (fun hc2 => ?_)
  · rw [if_pos hc2] at hF
    refine jx_iconst (x := 0) E dX3_lower_15 (by decide) ?_
    refine jx_istore_n (lv' := [(2, .int 0), (0, .ref (ad h0)), (1, .int x1)]) E dX3_lower_16 (by decide) rfl ?_
    refine jx_aload_n E dX3_lower_17 1 rfl ?_
    refine jx_getr (C := RX3) (T := TX3) (M := 8) (k := 0) E dX3_lower_18 (n_T0 hT0) (s_T0 hT0) rfl iX3 (by decide) rfl (List.mem_cons_of_mem _ tw_27) rfl ?_
    refine jx_iconst (x := 2) E dX3_lower_21 (by decide) ?_
    refine jx_aald (h' := (h0 + 5)) E dX3_lower_22 (n_T1 hT0) (s_T1 hT0) (show ¬ ((2 : Int32) < 0 ∨ 4 ≤ Int32.toNatClampNeg 2) by decide) rfl ?_
    refine jx_iload_n E dX3_lower_23 2 rfl ?_
    refine jx_dup2 E dX3_lower_24 rfl rfl ?_
    obtain ⟨hg3, hF⟩ := jx_guard hF
    refine jx_iald (h := (h0 + 5)) (j := (Int32.toNatClampNeg x1)) E dX3_lower_25 (n_T5 hT0) (s_T5 hT0) hg3 rfl ?_
    refine jx_iload_n E dX3_lower_26 0 rfl ?_
    refine jx_isub E dX3_lower_27 ?_
    obtain ⟨hg4, hF⟩ := jx_guard hF
    refine jx_iast (h := (h0 + 5)) (j := (Int32.toNatClampNeg x1)) E dX3_lower_28 (n_T5 hT0) (s_T5 hT0) hg4 rfl ?_
    refine jx_iload_n E dX3_lower_29 0 rfl ?_
    obtain ⟨rfl, rfl⟩ := jx_out hF
    exact jx_iret E dX3_lower_30 rfl
  · rw [if_neg hc2] at hF
    refine jx_iconst (x := 1) E dX3_lower_11 (by decide) ?_
    refine jx_goto (tgt := 16) E dX3_lower_12 (by decide) ?_
    refine jx_istore_n (lv' := [(2, .int 1), (0, .ref (ad h0)), (1, .int x1)]) E dX3_lower_16 (by decide) rfl ?_
    refine jx_aload_n E dX3_lower_17 1 rfl ?_
    refine jx_getr (C := RX3) (T := TX3) (M := 8) (k := 0) E dX3_lower_18 (n_T0 hT0) (s_T0 hT0) rfl iX3 (by decide) rfl (List.mem_cons_of_mem _ tw_27) rfl ?_
    refine jx_iconst (x := 2) E dX3_lower_21 (by decide) ?_
    refine jx_aald (h' := (h0 + 5)) E dX3_lower_22 (n_T1 hT0) (s_T1 hT0) (show ¬ ((2 : Int32) < 0 ∨ 4 ≤ Int32.toNatClampNeg 2) by decide) rfl ?_
    refine jx_iload_n E dX3_lower_23 2 rfl ?_
    refine jx_dup2 E dX3_lower_24 rfl rfl ?_
    obtain ⟨hg5, hF⟩ := jx_guard hF
    refine jx_iald (h := (h0 + 5)) (j := (Int32.toNatClampNeg x1)) E dX3_lower_25 (n_T5 hT0) (s_T5 hT0) hg5 rfl ?_
    refine jx_iload_n E dX3_lower_26 0 rfl ?_
    refine jx_isub E dX3_lower_27 ?_
    obtain ⟨hg6, hF⟩ := jx_guard hF
    refine jx_iast (h := (h0 + 5)) (j := (Int32.toNatClampNeg x1)) E dX3_lower_28 (n_T5 hT0) (s_T5 hT0) hg6 rfl ?_
    refine jx_iload_n E dX3_lower_29 0 rfl ?_
    obtain ⟨rfl, rfl⟩ := jx_out hF
    exact jx_iret E dX3_lower_30 rfl
def f_X3_growth (h0 : Nat) (x1 : Int32) (v : jx_V) : Option (Int32 × jx_V) := (if (x1 < 0 ∨ 25 ≤ Int32.toNatClampNeg x1) then none else (if (v (h0 + 3) (Int32.toNatClampNeg x1)) = 1 then (if ((v h0 6) - (v h0 6) / 4 * 4) = 3 then (some (1, v)) else (some (0, v))) else (if (v (h0 + 3) (Int32.toNatClampNeg x1)) = 3 then (if ((v h0 6) - (v h0 6) / 4 * 4) = 3 then (some (1, v)) else (if ((v h0 6) - (v h0 6) / 4 * 4) = 1 then (some (1, v)) else (some (0, v)))) else (some (0, v)))))
def rm_X3_growth : Room := { frames := 0, cells := 0, slots := 0, locals := 0 }
set_option maxHeartbeats 4000000 in
set_option maxRecDepth 100000 in
theorem k_X3_growth {l : Launch} {D : va_G} {cI cJ : ClassId} {ad : Nat → Nat} {A : Nat → Prop} {adK adV : Nat → Nat} (hI : jx_inj 67 ad A) (h0 : Nat) (hT0 : jx_T h0) (x1 : Int32) (v : jx_V) (r : Int32) (v' : jx_V) (hF : f_X3_growth h0 x1 v = some (r, v')) : jx_Ci l D vwCl 67 cI cJ ad shX A (ex_X adK adV A) yX3_growth (Cond.code yX3_growth cX3_growth 3 (some .int) :: bigT) rm_X3_growth [.ref (ad h0), .int x1] v r v' := by
  unfold f_X3_growth at hF
  refine jx_enteri bigT RX3 cX3_growth 3 (some .int) [(0, .ref (ad h0)), (1, .int x1)] hI (ex_X_ok adK adV A) (by decide +kernel) rfl (Nat.le_of_ble_eq_true rfl) rfl rfl ?_
  intro p e s m args below meth c E
  have iX3 : ∀ w ∈ u_ws RX3 TX3 8, w ∈ (Cond.code yX3_growth cX3_growth 3 (some .int) :: bigT) := fun w h => List.mem_cons_of_mem _ (uw_X3 w h)
  refine jx_aload_n E dX3_growth_0 0 rfl ?_
  refine jx_geti (C := RX3) (T := TX3) (M := 8) (k := 6) E dX3_growth_1 (n_T0 hT0) (s_T0 hT0) rfl iX3 (by decide) rfl (List.mem_cons_of_mem _ tw_28) rfl ?_
  refine jx_iconst (x := 4) E dX3_growth_4 (by decide) ?_
  refine jx_irem E dX3_growth_5 (by decide) ?_
  refine jx_istore_n (lv' := [(2, .int ((v h0 6) - (v h0 6) / 4 * 4)), (0, .ref (ad h0)), (1, .int x1)]) E dX3_growth_6 (by decide) rfl ?_
  refine jx_aload_n E dX3_growth_7 1 rfl ?_
  refine jx_getr (C := RX3) (T := TX3) (M := 8) (k := 0) E dX3_growth_8 (n_T0 hT0) (s_T0 hT0) rfl iX3 (by decide) rfl (List.mem_cons_of_mem _ tw_27) rfl ?_
  refine jx_iconst (x := 0) E dX3_growth_11 (by decide) ?_
  refine jx_aald (h' := (h0 + 3)) E dX3_growth_12 (n_T1 hT0) (s_T1 hT0) (show ¬ ((0 : Int32) < 0 ∨ 4 ≤ Int32.toNatClampNeg 0) by decide) rfl ?_
  refine jx_iload_n E dX3_growth_13 2 rfl ?_
  obtain ⟨hg1, hF⟩ := jx_guard hF
  refine jx_iald (h := (h0 + 3)) (j := (Int32.toNatClampNeg x1)) E dX3_growth_14 (n_T3 hT0) (s_T3 hT0) hg1 rfl ?_
  by_cases hc2 : (v (h0 + 3) (Int32.toNatClampNeg x1)) = 1
  · rw [if_pos hc2] at hF
    refine jx_lookup (tgt := 40) (off := 25) E dX3_growth_15 rfl (by rw [hc2]; rfl) (by decide) ?_
    refine jx_iload_n E dX3_growth_40 0 rfl ?_
    refine jx_iconst (x := 3) E dX3_growth_41 (by decide) ?_
    refine jx_icmp_ne (tgt := 49) E dX3_growth_42 (by decide) (fun hc3 => ?_) (fun hc3 => ?_)
    · rw [if_neg hc3] at hF
      refine jx_iconst (x := 0) E dX3_growth_49 (by decide) ?_
      obtain ⟨rfl, rfl⟩ := jx_out hF
      exact jx_iret E dX3_growth_50 rfl
    · rw [if_pos hc3] at hF
      refine jx_iconst (x := 1) E dX3_growth_45 (by decide) ?_
      refine jx_goto (tgt := 50) E dX3_growth_46 (by decide) ?_
      obtain ⟨rfl, rfl⟩ := jx_out hF
      exact jx_iret E dX3_growth_50 rfl
  rw [if_neg hc2] at hF
  by_cases hc4 : (v (h0 + 3) (Int32.toNatClampNeg x1)) = 3
  · rw [if_pos hc4] at hF
    refine jx_lookup (tgt := 51) (off := 36) E dX3_growth_15 rfl (by rw [hc4]; rfl) (by decide) ?_
    refine jx_iload_n E dX3_growth_51 0 rfl ?_
    refine jx_iconst (x := 3) E dX3_growth_52 (by decide) ?_
    refine jx_icmp_eq (tgt := 61) E dX3_growth_53 (by decide) (fun hc5 => ?_) (fun hc5 => ?_)
    · rw [if_pos hc5] at hF
      refine jx_iconst (x := 1) E dX3_growth_61 (by decide) ?_
      refine jx_goto (tgt := 66) E dX3_growth_62 (by decide) ?_
      obtain ⟨rfl, rfl⟩ := jx_out hF
      exact jx_iret E dX3_growth_66 rfl
    · rw [if_neg hc5] at hF
      refine jx_iload_n E dX3_growth_56 0 rfl ?_
      refine jx_iconst (x := 1) E dX3_growth_57 (by decide) ?_
      refine jx_icmp_ne (tgt := 65) E dX3_growth_58 (by decide) (fun hc6 => ?_) (fun hc6 => ?_)
      · rw [if_neg hc6] at hF
        refine jx_iconst (x := 0) E dX3_growth_65 (by decide) ?_
        obtain ⟨rfl, rfl⟩ := jx_out hF
        exact jx_iret E dX3_growth_66 rfl
      · rw [if_pos hc6] at hF
        refine jx_iconst (x := 1) E dX3_growth_61 (by decide) ?_
        refine jx_goto (tgt := 66) E dX3_growth_62 (by decide) ?_
        obtain ⟨rfl, rfl⟩ := jx_out hF
        exact jx_iret E dX3_growth_66 rfl
  rw [if_neg hc4] at hF
  refine jx_lookup (tgt := 67) (off := 52) E dX3_growth_15 rfl (by have hz2 := jx_ne hc2 (k := 1) (by decide); have hy2 : ¬ (1 : Int) = Int32.toInt (v (h0 + 3) (Int32.toNatClampNeg x1)) := fun q => hz2 q.symm; have hz4 := jx_ne hc4 (k := 3) (by decide); have hy4 : ¬ (3 : Int) = Int32.toInt (v (h0 + 3) (Int32.toNatClampNeg x1)) := fun q => hz4 q.symm; simp [Op.lookupswitch.offset, hz2, hy2, hz4, hy4]) (by decide) ?_
  refine jx_iconst (x := 0) E dX3_growth_67 (by decide) ?_
  obtain ⟨rfl, rfl⟩ := jx_out hF
  exact jx_iret E dX3_growth_68 rfl
def f_X3_growAll_L (h0 : Nat) : Nat → Int32 → jx_V → Option (jx_V)
  | 0, _, _ => none
  | n + 1, x1, v => (if 25 ≤ x1 then (some (jx_up v h0 6 ((v h0 6) + 1))) else ((f_X3_isTaken h0 x1 v).bind (fun (r2, v2) => (if r2 = 0 then (f_X3_growAll_L h0 n (x1 + 1) v2) else (if (x1 < 0 ∨ 25 ≤ Int32.toNatClampNeg x1) then none else ((f_X3_growth h0 x1 v2).bind (fun (r5, v5) => ((f_J9_min_7cf53 9 ((v2 (h0 + 5) (Int32.toNatClampNeg x1)) + r5) v5).bind (fun (r6, v6) => (if (x1 < 0 ∨ 25 ≤ Int32.toNatClampNeg x1) then none else (f_X3_growAll_L h0 n (x1 + 1) (jx_up v6 (h0 + 5) (Int32.toNatClampNeg x1) r6))))))))))))
def f_X3_growAll (h0 : Nat) (v : jx_V) : Option (jx_V) := (f_X3_growAll_L h0 100000 0 v)
def rm_X3_growAll : Room := { frames := 1, cells := 0, slots := 0, locals := 22 }
set_option maxHeartbeats 4000000 in
set_option maxRecDepth 100000 in
theorem k_X3_growAll {l : Launch} {D : va_G} {cI cJ : ClassId} {ad : Nat → Nat} {A : Nat → Prop} {adK adV : Nat → Nat} (hI : jx_inj 67 ad A) (h0 : Nat) (hT0 : jx_T h0) (v : jx_V) (v' : jx_V) (hF : f_X3_growAll h0 v = some v') : jx_Cv l D vwCl 67 cI cJ ad shX A (ex_X adK adV A) yX3_growAll (Cond.code yX3_growAll cX3_growAll 2 (none) :: bigT) rm_X3_growAll [.ref (ad h0)] v v' := by
  unfold f_X3_growAll at hF
  refine jx_enterv bigT RX3 cX3_growAll 2 (none) [(0, .ref (ad h0))] hI (ex_X_ok adK adV A) (by decide +kernel) rfl (Nat.le_of_ble_eq_true rfl) rfl rfl ?_
  intro p e s m args below meth c E
  have iX3 : ∀ w ∈ u_ws RX3 TX3 8, w ∈ (Cond.code yX3_growAll cX3_growAll 2 (none) :: bigT) := fun w h => List.mem_cons_of_mem _ (uw_X3 w h)
  have key : ∀ n : Nat, (∀ (x1 : Int32) (v : jx_V), f_X3_growAll_L h0 n  x1 v = some v' → jx_J p l e rm_X3_growAll s m args below meth c D vwCl 67 cI cJ ad shX A 0 0 2 (MQ below (va_Qv (fun (_ : Unit) => True) (fun _ t => va_P D vwCl (jx_ws 67 cI cJ ad shX v') t.heap) A) args s 0 0 A) v 2 [(0, .ref (ad h0)), (1, .int x1)] []) := by
    intro n
    induction n with
    | zero =>
      exact (fun _ _ h => by cases h)
    | succ n ih =>
      intro x1 v hF
      rw [f_X3_growAll_L] at hF
      refine jx_iload_n E dX3_growAll_2 1 rfl ?_
      refine jx_bipush (x := 25) E dX3_growAll_3 (by decide) ?_
      refine jx_icmp_ge (tgt := 49) E dX3_growAll_5 (by decide) (fun hc1 => ?_) (fun hc1 => ?_)
      · rw [if_pos hc1] at hF
        refine jx_aload_n E dX3_growAll_49 0 rfl ?_
        refine jx_dup E dX3_growAll_50 rfl ?_
        refine jx_geti (C := RX3) (T := TX3) (M := 8) (k := 6) E dX3_growAll_51 (n_T0 hT0) (s_T0 hT0) rfl iX3 (by decide) rfl (List.mem_cons_of_mem _ tw_28) rfl ?_
        refine jx_iconst (x := 1) E dX3_growAll_54 (by decide) ?_
        refine jx_iadd E dX3_growAll_55 ?_
        refine jx_puti (C := RX3) (T := TX3) (M := 8) (k := 6) (ty := .int) E tyX3 dX3_growAll_56 (n_T0 hT0) (s_T0 hT0) rfl iX3 (by decide) rfl (List.mem_cons_of_mem _ tw_28) tyX3_ok nmX3 rfl (by decide +kernel) rfl rfl rfl ?_
        obtain rfl := Option.some.inj hF
        exact jx_vret E dX3_growAll_59 rfl
      · rw [if_neg hc1] at hF
        refine jx_aload_n E dX3_growAll_8 0 rfl ?_
        refine jx_iload_n E dX3_growAll_9 1 rfl ?_
        obtain ⟨⟨r2, v2⟩, hc2, hF⟩ := jx_bind hF
        try dsimp only at hF
        refine jx_callVi (As := [.int x1]) (st := []) (h := h0) E dX3_growAll_10 1 rfl (k_X3_isTaken hI h0 hT0 x1 v r2 v2 hc2) (gb_V (List.mem_cons_of_mem _ tw_179) (List.mem_cons_of_mem _ tw_52) (List.mem_cons_of_mem _ tw_53) (List.mem_cons_of_mem _ tw_33) tw_51) rfl rfl rfl dd_X3_isTaken rfl (n_T0 hT0) (s_T0 hT0) rfl ⟨by decide, by decide⟩ ⟨Nat.le_refl 0, Nat.le_refl 0⟩ (Nat.le_of_ble_eq_true rfl) ?_
        refine jx_if_eq (tgt := 43) E dX3_growAll_13 (by decide) (fun hc3 => ?_) (fun hc3 => ?_)
        · rw [if_pos hc3] at hF
          refine jx_iinc (y := (x1 + 1)) (lv' := [(1, .int (x1 + 1)), (0, .ref (ad h0))]) E dX3_growAll_43 1 rfl rfl (by decide) rfl ?_
          refine jx_goto (tgt := 2) E dX3_growAll_46 (by decide) ?_
          refine jx_sub [1, 0] rfl ?_
          exact ih (x1 + 1) v2 hF
        · rw [if_neg hc3] at hF
          refine jx_aload_n E dX3_growAll_16 0 rfl ?_
          refine jx_getr (C := RX3) (T := TX3) (M := 8) (k := 0) E dX3_growAll_17 (n_T0 hT0) (s_T0 hT0) rfl iX3 (by decide) rfl (List.mem_cons_of_mem _ tw_27) rfl ?_
          refine jx_iconst (x := 2) E dX3_growAll_20 (by decide) ?_
          refine jx_aald (h' := (h0 + 5)) E dX3_growAll_21 (n_T1 hT0) (s_T1 hT0) (show ¬ ((2 : Int32) < 0 ∨ 4 ≤ Int32.toNatClampNeg 2) by decide) rfl ?_
          refine jx_iload_n E dX3_growAll_22 1 rfl ?_
          refine jx_bipush (x := 9) E dX3_growAll_23 (by decide) ?_
          refine jx_aload_n E dX3_growAll_25 0 rfl ?_
          refine jx_getr (C := RX3) (T := TX3) (M := 8) (k := 0) E dX3_growAll_26 (n_T0 hT0) (s_T0 hT0) rfl iX3 (by decide) rfl (List.mem_cons_of_mem _ tw_27) rfl ?_
          refine jx_iconst (x := 2) E dX3_growAll_29 (by decide) ?_
          refine jx_aald (h' := (h0 + 5)) E dX3_growAll_30 (n_T1 hT0) (s_T1 hT0) (show ¬ ((2 : Int32) < 0 ∨ 4 ≤ Int32.toNatClampNeg 2) by decide) rfl ?_
          refine jx_iload_n E dX3_growAll_31 1 rfl ?_
          obtain ⟨hg4, hF⟩ := jx_guard hF
          refine jx_iald (h := (h0 + 5)) (j := (Int32.toNatClampNeg x1)) E dX3_growAll_32 (n_T5 hT0) (s_T5 hT0) hg4 rfl ?_
          refine jx_aload_n E dX3_growAll_33 0 rfl ?_
          refine jx_iload_n E dX3_growAll_34 1 rfl ?_
          obtain ⟨⟨r5, v5⟩, hc5, hF⟩ := jx_bind hF
          try dsimp only at hF
          refine jx_callVi (As := [.int x1]) (st := [.int (v2 (h0 + 5) (Int32.toNatClampNeg x1)), .int 9, .int x1, .ref (ad (h0 + 5))]) (h := h0) E dX3_growAll_35 1 rfl (k_X3_growth hI h0 hT0 x1 v2 r5 v5 hc5) (gb_V (List.mem_cons_of_mem _ tw_181) (List.mem_cons_of_mem _ tw_182) (List.mem_cons_of_mem _ tw_183) (List.mem_cons_of_mem _ tw_33) tw_180) rfl rfl rfl dd_X3_growth rfl (n_T0 hT0) (s_T0 hT0) rfl ⟨by decide, by decide⟩ ⟨Nat.le_refl 0, Nat.le_refl 0⟩ (Nat.le_of_ble_eq_true rfl) ?_
          refine jx_iadd E dX3_growAll_38 ?_
          obtain ⟨⟨r6, v6⟩, hc6, hF⟩ := jx_bind hF
          try dsimp only at hF
          refine jx_callTi (As := [.int 9, .int ((v2 (h0 + 5) (Int32.toNatClampNeg x1)) + r5)]) (st := [.int x1, .ref (ad (h0 + 5))]) E dX3_growAll_39 2 rfl (k_J9_min_7cf53 hI 9 ((v2 (h0 + 5) (Int32.toNatClampNeg x1)) + r5) v5 r6 v6 hc6) (gb_N tw_34) rfl rfl rfl (List.mem_cons_of_mem _ tw_35) (List.mem_cons_of_mem _ tw_36) (List.mem_cons_of_mem _ tw_37) dd_J9_min_7cf53.2 rfl ⟨by decide, by decide⟩ ⟨Nat.le_refl 0, Nat.le_refl 0⟩ (Nat.le_of_ble_eq_true rfl) ?_
          obtain ⟨hg7, hF⟩ := jx_guard hF
          refine jx_iast (h := (h0 + 5)) (j := (Int32.toNatClampNeg x1)) E dX3_growAll_42 (n_T5 hT0) (s_T5 hT0) hg7 rfl ?_
          refine jx_iinc (y := (x1 + 1)) (lv' := [(1, .int (x1 + 1)), (0, .ref (ad h0))]) E dX3_growAll_43 1 rfl rfl (by decide) rfl ?_
          refine jx_goto (tgt := 2) E dX3_growAll_46 (by decide) ?_
          refine jx_sub [1, 0] rfl ?_
          exact ih (x1 + 1) (jx_up v6 (h0 + 5) (Int32.toNatClampNeg x1) r6) hF
  refine jx_iconst (x := 0) E dX3_growAll_0 (by decide) ?_
  refine jx_istore_n (lv' := [(1, .int 0), (0, .ref (ad h0))]) E dX3_growAll_1 (by decide) rfl ?_
  refine jx_sub [1, 0] rfl ?_
  exact (key 100000) 0 v hF
def f_X3_draw (h0 : Nat) (v : jx_V) : Option (Int32 × jx_V) := (some ((Int32.toUInt32 ((jx_up v h0 7 (((v h0 7) * 1103515245) + 12345)) h0 7) >>> (Int32.toUInt32 8 &&& Int32.toUInt32 31)).toInt32, (jx_up v h0 7 (((v h0 7) * 1103515245) + 12345))))
def rm_X3_draw : Room := { frames := 0, cells := 0, slots := 0, locals := 0 }
set_option maxHeartbeats 4000000 in
set_option maxRecDepth 100000 in
theorem k_X3_draw {l : Launch} {D : va_G} {cI cJ : ClassId} {ad : Nat → Nat} {A : Nat → Prop} {adK adV : Nat → Nat} (hI : jx_inj 67 ad A) (h0 : Nat) (hT0 : jx_T h0) (v : jx_V) (r : Int32) (v' : jx_V) (hF : f_X3_draw h0 v = some (r, v')) : jx_Ci l D vwCl 67 cI cJ ad shX A (ex_X adK adV A) yX3_draw (Cond.code yX3_draw cX3_draw 1 (some .int) :: bigT) rm_X3_draw [.ref (ad h0)] v r v' := by
  unfold f_X3_draw at hF
  refine jx_enteri bigT RX3 cX3_draw 1 (some .int) [(0, .ref (ad h0))] hI (ex_X_ok adK adV A) (by decide +kernel) rfl (Nat.le_of_ble_eq_true rfl) rfl rfl ?_
  intro p e s m args below meth c E
  have iX3 : ∀ w ∈ u_ws RX3 TX3 8, w ∈ (Cond.code yX3_draw cX3_draw 1 (some .int) :: bigT) := fun w h => List.mem_cons_of_mem _ (uw_X3 w h)
  refine jx_aload_n E dX3_draw_0 0 rfl ?_
  refine jx_aload_n E dX3_draw_1 0 rfl ?_
  refine jx_geti (C := RX3) (T := TX3) (M := 8) (k := 7) E dX3_draw_2 (n_T0 hT0) (s_T0 hT0) rfl iX3 (by decide) rfl (List.mem_cons_of_mem _ tw_178) rfl ?_
  refine jx_ldc (x := 1103515245) E dX3_draw_5 (List.mem_cons_of_mem _ tw_184) ?_
  refine jx_imul E dX3_draw_7 ?_
  refine jx_sipush (x := 12345) E dX3_draw_8 (by decide) ?_
  refine jx_iadd E dX3_draw_11 ?_
  refine jx_puti (C := RX3) (T := TX3) (M := 8) (k := 7) (ty := .int) E tyX3 dX3_draw_12 (n_T0 hT0) (s_T0 hT0) rfl iX3 (by decide) rfl (List.mem_cons_of_mem _ tw_178) tyX3_ok nmX3 rfl (by decide +kernel) rfl rfl rfl ?_
  refine jx_aload_n E dX3_draw_15 0 rfl ?_
  refine jx_geti (C := RX3) (T := TX3) (M := 8) (k := 7) E dX3_draw_16 (n_T0 hT0) (s_T0 hT0) rfl iX3 (by decide) rfl (List.mem_cons_of_mem _ tw_178) rfl ?_
  refine jx_bipush (x := 8) E dX3_draw_19 (by decide) ?_
  refine jx_iushr E dX3_draw_21 ?_
  obtain ⟨rfl, rfl⟩ := jx_out hF
  exact jx_iret E dX3_draw_22 rfl
def f_X3_lotOfThing_L (h0 : Nat) : Nat → Int32 → Int32 → Int32 → jx_V → Option (Int32 × jx_V)
  | 0, _, _, _, _ => none
  | n + 1, x1, x2, x3, v => (if 25 ≤ x3 then (some ((-1), v)) else ((f_X3_isTaken h0 x3 v).bind (fun (r2, v2) => (if r2 = 0 then (f_X3_lotOfThing_L h0 n x1 x2 (x3 + 1) v2) else (if x2 = 0 then (some (x3, v2)) else (f_X3_lotOfThing_L h0 n x1 (x2 + (-1)) (x3 + 1) v2))))))
def f_X3_lotOfThing (h0 : Nat) (x1 : Int32) (v : jx_V) : Option (Int32 × jx_V) := (f_X3_lotOfThing_L h0 100000 x1 x1 0 v)
def rm_X3_lotOfThing : Room := { frames := 1, cells := 0, slots := 0, locals := 21 }
set_option maxHeartbeats 4000000 in
set_option maxRecDepth 100000 in
theorem k_X3_lotOfThing {l : Launch} {D : va_G} {cI cJ : ClassId} {ad : Nat → Nat} {A : Nat → Prop} {adK adV : Nat → Nat} (hI : jx_inj 67 ad A) (h0 : Nat) (hT0 : jx_T h0) (x1 : Int32) (v : jx_V) (r : Int32) (v' : jx_V) (hF : f_X3_lotOfThing h0 x1 v = some (r, v')) : jx_Ci l D vwCl 67 cI cJ ad shX A (ex_X adK adV A) yX3_lotOfThing (Cond.code yX3_lotOfThing cX3_lotOfThing 4 (some .int) :: bigT) rm_X3_lotOfThing [.ref (ad h0), .int x1] v r v' := by
  unfold f_X3_lotOfThing at hF
  refine jx_enteri bigT RX3 cX3_lotOfThing 4 (some .int) [(0, .ref (ad h0)), (1, .int x1)] hI (ex_X_ok adK adV A) (by decide +kernel) rfl (Nat.le_of_ble_eq_true rfl) rfl rfl ?_
  intro p e s m args below meth c E
  have key : ∀ n : Nat, (∀ (x1 : Int32) (x2 : Int32) (x3 : Int32) (v : jx_V), f_X3_lotOfThing_L h0 n  x1 x2 x3 v = some (r, v') → jx_J p l e rm_X3_lotOfThing s m args below meth c D vwCl 67 cI cJ ad shX A 0 0 4 (MQ below (va_Qi (fun (r1 : Int32) (_ : Unit) => r1 = r) (fun _ t => va_P D vwCl (jx_ws 67 cI cJ ad shX v') t.heap) A) args s 0 0 A) v 4 [(0, .ref (ad h0)), (1, .int x1), (2, .int x2), (3, .int x3)] []) := by
    intro n
    induction n with
    | zero =>
      exact (fun _ _ _ _ h => by cases h)
    | succ n ih =>
      intro x1 x2 x3 v hF
      rw [f_X3_lotOfThing_L] at hF
      refine jx_iload_n E dX3_lotOfThing_4 3 rfl ?_
      refine jx_bipush (x := 25) E dX3_lotOfThing_5 (by decide) ?_
      refine jx_icmp_ge (tgt := 33) E dX3_lotOfThing_7 (by decide) (fun hc1 => ?_) (fun hc1 => ?_)
      · rw [if_pos hc1] at hF
        refine jx_iconst (x := -1) E dX3_lotOfThing_33 (by decide) ?_
        obtain ⟨rfl, rfl⟩ := jx_out hF
        exact jx_iret E dX3_lotOfThing_34 rfl
      · rw [if_neg hc1] at hF
        refine jx_aload_n E dX3_lotOfThing_10 0 rfl ?_
        refine jx_iload_n E dX3_lotOfThing_11 3 rfl ?_
        obtain ⟨⟨r2, v2⟩, hc2, hF⟩ := jx_bind hF
        try dsimp only at hF
        refine jx_callVi (As := [.int x3]) (st := []) (h := h0) E dX3_lotOfThing_12 1 rfl (k_X3_isTaken hI h0 hT0 x3 v r2 v2 hc2) (gb_V (List.mem_cons_of_mem _ tw_179) (List.mem_cons_of_mem _ tw_52) (List.mem_cons_of_mem _ tw_53) (List.mem_cons_of_mem _ tw_33) tw_51) rfl rfl rfl dd_X3_isTaken rfl (n_T0 hT0) (s_T0 hT0) rfl ⟨by decide, by decide⟩ ⟨Nat.le_refl 0, Nat.le_refl 0⟩ (Nat.le_of_ble_eq_true rfl) ?_
        refine jx_if_eq (tgt := 27) E dX3_lotOfThing_15 (by decide) (fun hc3 => ?_) (fun hc3 => ?_)
        · rw [if_pos hc3] at hF
          refine jx_iinc (y := (x3 + 1)) (lv' := [(3, .int (x3 + 1)), (0, .ref (ad h0)), (1, .int x1), (2, .int x2)]) E dX3_lotOfThing_27 3 rfl rfl (by decide) rfl ?_
          refine jx_goto (tgt := 4) E dX3_lotOfThing_30 (by decide) ?_
          refine jx_sub [1, 2, 3, 0] rfl ?_
          exact ih x1 x2 (x3 + 1) v2 hF
        · rw [if_neg hc3] at hF
          refine jx_iload_n E dX3_lotOfThing_18 2 rfl ?_
          refine jx_if_ne (tgt := 24) E dX3_lotOfThing_19 (by decide) (fun hc4 => ?_) (fun hc4 => ?_)
          · rw [if_neg hc4] at hF
            refine jx_iinc (y := (x2 + (-1))) (lv' := [(2, .int (x2 + (-1))), (0, .ref (ad h0)), (1, .int x1), (3, .int x3)]) E dX3_lotOfThing_24 2 rfl rfl (by decide) rfl ?_
            refine jx_iinc (y := (x3 + 1)) (lv' := [(3, .int (x3 + 1)), (2, .int (x2 + (-1))), (0, .ref (ad h0)), (1, .int x1)]) E dX3_lotOfThing_27 3 rfl rfl (by decide) rfl ?_
            refine jx_goto (tgt := 4) E dX3_lotOfThing_30 (by decide) ?_
            refine jx_sub [2, 3, 1, 0] rfl ?_
            exact ih x1 (x2 + (-1)) (x3 + 1) v2 hF
          · rw [if_pos hc4] at hF
            refine jx_iload_n E dX3_lotOfThing_22 3 rfl ?_
            obtain ⟨rfl, rfl⟩ := jx_out hF
            exact jx_iret E dX3_lotOfThing_23 rfl
  refine jx_iload_n E dX3_lotOfThing_0 1 rfl ?_
  refine jx_istore_n (lv' := [(2, .int x1), (0, .ref (ad h0)), (1, .int x1)]) E dX3_lotOfThing_1 (by decide) rfl ?_
  refine jx_iconst (x := 0) E dX3_lotOfThing_2 (by decide) ?_
  refine jx_istore_n (lv' := [(3, .int 0), (2, .int x1), (0, .ref (ad h0)), (1, .int x1)]) E dX3_lotOfThing_3 (by decide) rfl ?_
  refine jx_sub [2, 3, 1, 0] rfl ?_
  exact (key 100000) x1 x1 0 v hF
def f_X3_thingCount_L (h0 : Nat) : Nat → Int32 → Int32 → jx_V → Option (Int32 × jx_V)
  | 0, _, _, _ => none
  | n + 1, x1, x2, v => (if 25 ≤ x2 then (some (x1, v)) else ((f_X3_isTaken h0 x2 v).bind (fun (r2, v2) => (if r2 = 0 then (f_X3_thingCount_L h0 n (x1 + 0) (x2 + 1) v2) else (f_X3_thingCount_L h0 n (x1 + 1) (x2 + 1) v2)))))
def f_X3_thingCount (h0 : Nat) (v : jx_V) : Option (Int32 × jx_V) := (f_X3_thingCount_L h0 100000 0 0 v)
def rm_X3_thingCount : Room := { frames := 1, cells := 0, slots := 0, locals := 21 }
set_option maxHeartbeats 4000000 in
set_option maxRecDepth 100000 in
theorem k_X3_thingCount {l : Launch} {D : va_G} {cI cJ : ClassId} {ad : Nat → Nat} {A : Nat → Prop} {adK adV : Nat → Nat} (hI : jx_inj 67 ad A) (h0 : Nat) (hT0 : jx_T h0) (v : jx_V) (r : Int32) (v' : jx_V) (hF : f_X3_thingCount h0 v = some (r, v')) : jx_Ci l D vwCl 67 cI cJ ad shX A (ex_X adK adV A) yX3_thingCount (Cond.code yX3_thingCount cX3_thingCount 3 (some .int) :: bigT) rm_X3_thingCount [.ref (ad h0)] v r v' := by
  unfold f_X3_thingCount at hF
  refine jx_enteri bigT RX3 cX3_thingCount 3 (some .int) [(0, .ref (ad h0))] hI (ex_X_ok adK adV A) (by decide +kernel) rfl (Nat.le_of_ble_eq_true rfl) rfl rfl ?_
  intro p e s m args below meth c E
  have key : ∀ n : Nat, (∀ (x1 : Int32) (x2 : Int32) (v : jx_V), f_X3_thingCount_L h0 n  x1 x2 v = some (r, v') → jx_J p l e rm_X3_thingCount s m args below meth c D vwCl 67 cI cJ ad shX A 0 0 3 (MQ below (va_Qi (fun (r1 : Int32) (_ : Unit) => r1 = r) (fun _ t => va_P D vwCl (jx_ws 67 cI cJ ad shX v') t.heap) A) args s 0 0 A) v 4 [(0, .ref (ad h0)), (1, .int x1), (2, .int x2)] []) := by
    intro n
    induction n with
    | zero =>
      exact (fun _ _ _ h => by cases h)
    | succ n ih =>
      intro x1 x2 v hF
      rw [f_X3_thingCount_L] at hF
      refine jx_iload_n E dX3_thingCount_4 2 rfl ?_
      refine jx_bipush (x := 25) E dX3_thingCount_5 (by decide) ?_
      refine jx_icmp_ge (tgt := 32) E dX3_thingCount_7 (by decide) (fun hc1 => ?_) (fun hc1 => ?_)
      · rw [if_pos hc1] at hF
        refine jx_iload_n E dX3_thingCount_32 1 rfl ?_
        obtain ⟨rfl, rfl⟩ := jx_out hF
        exact jx_iret E dX3_thingCount_33 rfl
      · rw [if_neg hc1] at hF
        refine jx_iload_n E dX3_thingCount_10 1 rfl ?_
        refine jx_aload_n E dX3_thingCount_11 0 rfl ?_
        refine jx_iload_n E dX3_thingCount_12 2 rfl ?_
        obtain ⟨⟨r2, v2⟩, hc2, hF⟩ := jx_bind hF
        try dsimp only at hF
        refine jx_callVi (As := [.int x2]) (st := [.int x1]) (h := h0) E dX3_thingCount_13 1 rfl (k_X3_isTaken hI h0 hT0 x2 v r2 v2 hc2) (gb_V (List.mem_cons_of_mem _ tw_179) (List.mem_cons_of_mem _ tw_52) (List.mem_cons_of_mem _ tw_53) (List.mem_cons_of_mem _ tw_33) tw_51) rfl rfl rfl dd_X3_isTaken rfl (n_T0 hT0) (s_T0 hT0) rfl ⟨by decide, by decide⟩ ⟨Nat.le_refl 0, Nat.le_refl 0⟩ (Nat.le_of_ble_eq_true rfl) ?_
        refine jx_if_eq (tgt := 23) E dX3_thingCount_16 (by decide) (fun hc3 => ?_) (fun hc3 => ?_)
        · rw [if_pos hc3] at hF
          refine jx_iconst (x := 0) E dX3_thingCount_23 (by decide) ?_
          refine jx_iadd E dX3_thingCount_24 ?_
          refine jx_istore_n (lv' := [(1, .int (x1 + 0)), (0, .ref (ad h0)), (2, .int x2)]) E dX3_thingCount_25 (by decide) rfl ?_
          refine jx_iinc (y := (x2 + 1)) (lv' := [(2, .int (x2 + 1)), (1, .int (x1 + 0)), (0, .ref (ad h0))]) E dX3_thingCount_26 2 rfl rfl (by decide) rfl ?_
          refine jx_goto (tgt := 4) E dX3_thingCount_29 (by decide) ?_
          refine jx_sub [2, 1, 0] rfl ?_
          exact ih (x1 + 0) (x2 + 1) v2 hF
        · rw [if_neg hc3] at hF
          refine jx_iconst (x := 1) E dX3_thingCount_19 (by decide) ?_
          refine jx_goto (tgt := 24) E dX3_thingCount_20 (by decide) ?_
          refine jx_iadd E dX3_thingCount_24 ?_
          refine jx_istore_n (lv' := [(1, .int (x1 + 1)), (0, .ref (ad h0)), (2, .int x2)]) E dX3_thingCount_25 (by decide) rfl ?_
          refine jx_iinc (y := (x2 + 1)) (lv' := [(2, .int (x2 + 1)), (1, .int (x1 + 1)), (0, .ref (ad h0))]) E dX3_thingCount_26 2 rfl rfl (by decide) rfl ?_
          refine jx_goto (tgt := 4) E dX3_thingCount_29 (by decide) ?_
          refine jx_sub [2, 1, 0] rfl ?_
          exact ih (x1 + 1) (x2 + 1) v2 hF
  refine jx_iconst (x := 0) E dX3_thingCount_0 (by decide) ?_
  refine jx_istore_n (lv' := [(1, .int 0), (0, .ref (ad h0))]) E dX3_thingCount_1 (by decide) rfl ?_
  refine jx_iconst (x := 0) E dX3_thingCount_2 (by decide) ?_
  refine jx_istore_n (lv' := [(2, .int 0), (1, .int 0), (0, .ref (ad h0))]) E dX3_thingCount_3 (by decide) rfl ?_
  refine jx_sub [2, 1, 0] rfl ?_
  exact (key 100000) 0 0 v hF
def f_X3_heightOfAll_L (h0 : Nat) : Nat → Int32 → Int32 → jx_V → Option (Int32 × jx_V)
  | 0, _, _, _ => none
  | n + 1, x1, x2, v => (if 25 ≤ x2 then (some (x1, v)) else ((f_X3_isTaken h0 x2 v).bind (fun (r2, v2) => (if r2 = 0 then (f_X3_heightOfAll_L h0 n (x1 + 0) (x2 + 1) v2) else (if (x2 < 0 ∨ 25 ≤ Int32.toNatClampNeg x2) then none else (f_X3_heightOfAll_L h0 n (x1 + (v2 (h0 + 5) (Int32.toNatClampNeg x2))) (x2 + 1) v2))))))
def f_X3_heightOfAll (h0 : Nat) (v : jx_V) : Option (Int32 × jx_V) := (f_X3_heightOfAll_L h0 100000 0 0 v)
def rm_X3_heightOfAll : Room := { frames := 1, cells := 0, slots := 0, locals := 21 }
set_option maxHeartbeats 4000000 in
set_option maxRecDepth 100000 in
theorem k_X3_heightOfAll {l : Launch} {D : va_G} {cI cJ : ClassId} {ad : Nat → Nat} {A : Nat → Prop} {adK adV : Nat → Nat} (hI : jx_inj 67 ad A) (h0 : Nat) (hT0 : jx_T h0) (v : jx_V) (r : Int32) (v' : jx_V) (hF : f_X3_heightOfAll h0 v = some (r, v')) : jx_Ci l D vwCl 67 cI cJ ad shX A (ex_X adK adV A) yX3_heightOfAll (Cond.code yX3_heightOfAll cX3_heightOfAll 3 (some .int) :: bigT) rm_X3_heightOfAll [.ref (ad h0)] v r v' := by
  unfold f_X3_heightOfAll at hF
  refine jx_enteri bigT RX3 cX3_heightOfAll 3 (some .int) [(0, .ref (ad h0))] hI (ex_X_ok adK adV A) (by decide +kernel) rfl (Nat.le_of_ble_eq_true rfl) rfl rfl ?_
  intro p e s m args below meth c E
  have iX3 : ∀ w ∈ u_ws RX3 TX3 8, w ∈ (Cond.code yX3_heightOfAll cX3_heightOfAll 3 (some .int) :: bigT) := fun w h => List.mem_cons_of_mem _ (uw_X3 w h)
  have key : ∀ n : Nat, (∀ (x1 : Int32) (x2 : Int32) (v : jx_V), f_X3_heightOfAll_L h0 n  x1 x2 v = some (r, v') → jx_J p l e rm_X3_heightOfAll s m args below meth c D vwCl 67 cI cJ ad shX A 0 0 3 (MQ below (va_Qi (fun (r1 : Int32) (_ : Unit) => r1 = r) (fun _ t => va_P D vwCl (jx_ws 67 cI cJ ad shX v') t.heap) A) args s 0 0 A) v 4 [(0, .ref (ad h0)), (1, .int x1), (2, .int x2)] []) := by
    intro n
    induction n with
    | zero =>
      exact (fun _ _ _ h => by cases h)
    | succ n ih =>
      intro x1 x2 v hF
      rw [f_X3_heightOfAll_L] at hF
      refine jx_iload_n E dX3_heightOfAll_4 2 rfl ?_
      refine jx_bipush (x := 25) E dX3_heightOfAll_5 (by decide) ?_
      refine jx_icmp_ge (tgt := 39) E dX3_heightOfAll_7 (by decide) (fun hc1 => ?_) (fun hc1 => ?_)
      · rw [if_pos hc1] at hF
        refine jx_iload_n E dX3_heightOfAll_39 1 rfl ?_
        obtain ⟨rfl, rfl⟩ := jx_out hF
        exact jx_iret E dX3_heightOfAll_40 rfl
      · rw [if_neg hc1] at hF
        refine jx_iload_n E dX3_heightOfAll_10 1 rfl ?_
        refine jx_aload_n E dX3_heightOfAll_11 0 rfl ?_
        refine jx_iload_n E dX3_heightOfAll_12 2 rfl ?_
        obtain ⟨⟨r2, v2⟩, hc2, hF⟩ := jx_bind hF
        try dsimp only at hF
        refine jx_callVi (As := [.int x2]) (st := [.int x1]) (h := h0) E dX3_heightOfAll_13 1 rfl (k_X3_isTaken hI h0 hT0 x2 v r2 v2 hc2) (gb_V (List.mem_cons_of_mem _ tw_179) (List.mem_cons_of_mem _ tw_52) (List.mem_cons_of_mem _ tw_53) (List.mem_cons_of_mem _ tw_33) tw_51) rfl rfl rfl dd_X3_isTaken rfl (n_T0 hT0) (s_T0 hT0) rfl ⟨by decide, by decide⟩ ⟨Nat.le_refl 0, Nat.le_refl 0⟩ (Nat.le_of_ble_eq_true rfl) ?_
        refine jx_if_eq (tgt := 30) E dX3_heightOfAll_16 (by decide) (fun hc3 => ?_) (fun hc3 => ?_)
        · rw [if_pos hc3] at hF
          refine jx_iconst (x := 0) E dX3_heightOfAll_30 (by decide) ?_
          refine jx_iadd E dX3_heightOfAll_31 ?_
          refine jx_istore_n (lv' := [(1, .int (x1 + 0)), (0, .ref (ad h0)), (2, .int x2)]) E dX3_heightOfAll_32 (by decide) rfl ?_
          refine jx_iinc (y := (x2 + 1)) (lv' := [(2, .int (x2 + 1)), (1, .int (x1 + 0)), (0, .ref (ad h0))]) E dX3_heightOfAll_33 2 rfl rfl (by decide) rfl ?_
          refine jx_goto (tgt := 4) E dX3_heightOfAll_36 (by decide) ?_
          refine jx_sub [2, 1, 0] rfl ?_
          exact ih (x1 + 0) (x2 + 1) v2 hF
        · rw [if_neg hc3] at hF
          refine jx_aload_n E dX3_heightOfAll_19 0 rfl ?_
          refine jx_getr (C := RX3) (T := TX3) (M := 8) (k := 0) E dX3_heightOfAll_20 (n_T0 hT0) (s_T0 hT0) rfl iX3 (by decide) rfl (List.mem_cons_of_mem _ tw_27) rfl ?_
          refine jx_iconst (x := 2) E dX3_heightOfAll_23 (by decide) ?_
          refine jx_aald (h' := (h0 + 5)) E dX3_heightOfAll_24 (n_T1 hT0) (s_T1 hT0) (show ¬ ((2 : Int32) < 0 ∨ 4 ≤ Int32.toNatClampNeg 2) by decide) rfl ?_
          refine jx_iload_n E dX3_heightOfAll_25 2 rfl ?_
          obtain ⟨hg4, hF⟩ := jx_guard hF
          refine jx_iald (h := (h0 + 5)) (j := (Int32.toNatClampNeg x2)) E dX3_heightOfAll_26 (n_T5 hT0) (s_T5 hT0) hg4 rfl ?_
          refine jx_goto (tgt := 31) E dX3_heightOfAll_27 (by decide) ?_
          refine jx_iadd E dX3_heightOfAll_31 ?_
          refine jx_istore_n (lv' := [(1, .int (x1 + (v2 (h0 + 5) (Int32.toNatClampNeg x2)))), (0, .ref (ad h0)), (2, .int x2)]) E dX3_heightOfAll_32 (by decide) rfl ?_
          refine jx_iinc (y := (x2 + 1)) (lv' := [(2, .int (x2 + 1)), (1, .int (x1 + (v2 (h0 + 5) (Int32.toNatClampNeg x2)))), (0, .ref (ad h0))]) E dX3_heightOfAll_33 2 rfl rfl (by decide) rfl ?_
          refine jx_goto (tgt := 4) E dX3_heightOfAll_36 (by decide) ?_
          refine jx_sub [2, 1, 0] rfl ?_
          exact ih (x1 + (v2 (h0 + 5) (Int32.toNatClampNeg x2))) (x2 + 1) v2 hF
  refine jx_iconst (x := 0) E dX3_heightOfAll_0 (by decide) ?_
  refine jx_istore_n (lv' := [(1, .int 0), (0, .ref (ad h0))]) E dX3_heightOfAll_1 (by decide) rfl ?_
  refine jx_iconst (x := 0) E dX3_heightOfAll_2 (by decide) ?_
  refine jx_istore_n (lv' := [(2, .int 0), (1, .int 0), (0, .ref (ad h0))]) E dX3_heightOfAll_3 (by decide) rfl ?_
  refine jx_sub [2, 1, 0] rfl ?_
  exact (key 100000) 0 0 v hF
def f_X3_contractCount_L (h0 : Nat) : Nat → Int32 → Int32 → jx_V → Option (Int32 × jx_V)
  | 0, _, _, _ => none
  | n + 1, x1, x2, v => (if (v h0 5) ≤ x2 then (some (x1, v)) else (if (x2 < 0 ∨ 10 ≤ Int32.toNatClampNeg x2) then none else (if (v (h0 + 11) (Int32.toNatClampNeg x2)) < 0 then (f_X3_contractCount_L h0 n (x1 + 0) (x2 + 1) v) else (f_X3_contractCount_L h0 n (x1 + 1) (x2 + 1) v))))
def f_X3_contractCount (h0 : Nat) (v : jx_V) : Option (Int32 × jx_V) := (f_X3_contractCount_L h0 100000 0 0 v)
def rm_X3_contractCount : Room := { frames := 0, cells := 0, slots := 0, locals := 0 }
set_option maxHeartbeats 4000000 in
set_option maxRecDepth 100000 in
theorem k_X3_contractCount {l : Launch} {D : va_G} {cI cJ : ClassId} {ad : Nat → Nat} {A : Nat → Prop} {adK adV : Nat → Nat} (hI : jx_inj 67 ad A) (h0 : Nat) (hT0 : jx_T h0) (v : jx_V) (r : Int32) (v' : jx_V) (hF : f_X3_contractCount h0 v = some (r, v')) : jx_Ci l D vwCl 67 cI cJ ad shX A (ex_X adK adV A) yX3_contractCount (Cond.code yX3_contractCount cX3_contractCount 3 (some .int) :: bigT) rm_X3_contractCount [.ref (ad h0)] v r v' := by
  unfold f_X3_contractCount at hF
  refine jx_enteri bigT RX3 cX3_contractCount 3 (some .int) [(0, .ref (ad h0))] hI (ex_X_ok adK adV A) (by decide +kernel) rfl (Nat.le_of_ble_eq_true rfl) rfl rfl ?_
  intro p e s m args below meth c E
  have iX3 : ∀ w ∈ u_ws RX3 TX3 8, w ∈ (Cond.code yX3_contractCount cX3_contractCount 3 (some .int) :: bigT) := fun w h => List.mem_cons_of_mem _ (uw_X3 w h)
  have key : ∀ n : Nat, (∀ (x1 : Int32) (x2 : Int32) (v : jx_V), f_X3_contractCount_L h0 n  x1 x2 v = some (r, v') → jx_J p l e rm_X3_contractCount s m args below meth c D vwCl 67 cI cJ ad shX A 0 0 3 (MQ below (va_Qi (fun (r1 : Int32) (_ : Unit) => r1 = r) (fun _ t => va_P D vwCl (jx_ws 67 cI cJ ad shX v') t.heap) A) args s 0 0 A) v 4 [(0, .ref (ad h0)), (1, .int x1), (2, .int x2)] []) := by
    intro n
    induction n with
    | zero =>
      exact (fun _ _ _ h => by cases h)
    | succ n ih =>
      intro x1 x2 v hF
      rw [f_X3_contractCount_L] at hF
      refine jx_iload_n E dX3_contractCount_4 2 rfl ?_
      refine jx_aload_n E dX3_contractCount_5 0 rfl ?_
      refine jx_geti (C := RX3) (T := TX3) (M := 8) (k := 5) E dX3_contractCount_6 (n_T0 hT0) (s_T0 hT0) rfl iX3 (by decide) rfl (List.mem_cons_of_mem _ tw_140) rfl ?_
      refine jx_icmp_ge (tgt := 37) E dX3_contractCount_9 (by decide) (fun hc1 => ?_) (fun hc1 => ?_)
      · rw [if_pos hc1] at hF
        refine jx_iload_n E dX3_contractCount_37 1 rfl ?_
        obtain ⟨rfl, rfl⟩ := jx_out hF
        exact jx_iret E dX3_contractCount_38 rfl
      · rw [if_neg hc1] at hF
        refine jx_iload_n E dX3_contractCount_12 1 rfl ?_
        refine jx_aload_n E dX3_contractCount_13 0 rfl ?_
        refine jx_getr (C := RX3) (T := TX3) (M := 8) (k := 1) E dX3_contractCount_14 (n_T0 hT0) (s_T0 hT0) rfl iX3 (by decide) rfl (List.mem_cons_of_mem _ tw_141) rfl ?_
        refine jx_iconst (x := 4) E dX3_contractCount_17 (by decide) ?_
        refine jx_aald (h' := (h0 + 11)) E dX3_contractCount_18 (n_T2 hT0) (s_T2 hT0) (show ¬ ((4 : Int32) < 0 ∨ 6 ≤ Int32.toNatClampNeg 4) by decide) rfl ?_
        refine jx_iload_n E dX3_contractCount_19 2 rfl ?_
        obtain ⟨hg2, hF⟩ := jx_guard hF
        refine jx_iald (h := (h0 + 11)) (j := (Int32.toNatClampNeg x2)) E dX3_contractCount_20 (n_T11 hT0) (s_T11 hT0) hg2 rfl ?_
        refine jx_if_lt (tgt := 28) E dX3_contractCount_21 (by decide) (fun hc3 => ?_) (fun hc3 => ?_)
        · rw [if_pos hc3] at hF
          refine jx_iconst (x := 0) E dX3_contractCount_28 (by decide) ?_
          refine jx_iadd E dX3_contractCount_29 ?_
          refine jx_istore_n (lv' := [(1, .int (x1 + 0)), (0, .ref (ad h0)), (2, .int x2)]) E dX3_contractCount_30 (by decide) rfl ?_
          refine jx_iinc (y := (x2 + 1)) (lv' := [(2, .int (x2 + 1)), (1, .int (x1 + 0)), (0, .ref (ad h0))]) E dX3_contractCount_31 2 rfl rfl (by decide) rfl ?_
          refine jx_goto (tgt := 4) E dX3_contractCount_34 (by decide) ?_
          refine jx_sub [2, 1, 0] rfl ?_
          exact ih (x1 + 0) (x2 + 1) v hF
        · rw [if_neg hc3] at hF
          refine jx_iconst (x := 1) E dX3_contractCount_24 (by decide) ?_
          refine jx_goto (tgt := 29) E dX3_contractCount_25 (by decide) ?_
          refine jx_iadd E dX3_contractCount_29 ?_
          refine jx_istore_n (lv' := [(1, .int (x1 + 1)), (0, .ref (ad h0)), (2, .int x2)]) E dX3_contractCount_30 (by decide) rfl ?_
          refine jx_iinc (y := (x2 + 1)) (lv' := [(2, .int (x2 + 1)), (1, .int (x1 + 1)), (0, .ref (ad h0))]) E dX3_contractCount_31 2 rfl rfl (by decide) rfl ?_
          refine jx_goto (tgt := 4) E dX3_contractCount_34 (by decide) ?_
          refine jx_sub [2, 1, 0] rfl ?_
          exact ih (x1 + 1) (x2 + 1) v hF
  refine jx_iconst (x := 0) E dX3_contractCount_0 (by decide) ?_
  refine jx_istore_n (lv' := [(1, .int 0), (0, .ref (ad h0))]) E dX3_contractCount_1 (by decide) rfl ?_
  refine jx_iconst (x := 0) E dX3_contractCount_2 (by decide) ?_
  refine jx_istore_n (lv' := [(2, .int 0), (1, .int 0), (0, .ref (ad h0))]) E dX3_contractCount_3 (by decide) rfl ?_
  refine jx_sub [2, 1, 0] rfl ?_
  exact (key 100000) 0 0 v hF
