def f_X5_judge_L  : Nat → Int32 → Int32 → Int32 → Int32 → jx_V → Option (Int32 × jx_V)
  | 0, _, _, _, _, _ => none
  | n + 1, x1, x2, x3, x4, v => (if (x1 < 0 ∨ 4 ≤ Int32.toNatClampNeg x1) then none else (if (v 10 (Int32.toNatClampNeg x1)) ≤ x4 then (if (x1 < 0 ∨ 4 ≤ Int32.toNatClampNeg x1) then none else (if x4 = (v 10 (Int32.toNatClampNeg x1)) then (if x4 = 4 then (some (0, v)) else (some ((1 + x4), v))) else (some ((1 + x4), v)))) else (if 4 ≤ x4 then (if (x1 < 0 ∨ 4 ≤ Int32.toNatClampNeg x1) then none else (if x4 = (v 10 (Int32.toNatClampNeg x1)) then (if x4 = 4 then (some (0, v)) else (some ((1 + x4), v))) else (some ((1 + x4), v)))) else (if (((40 * x1) + x4) < 0 ∨ 160 ≤ Int32.toNatClampNeg ((40 * x1) + x4)) then none else ((f_X5_seen x2 (x4 + 1) v).bind (fun (r17, v17) => (if (v 11 (Int32.toNatClampNeg ((40 * x1) + x4))) = r17 then (f_X5_judge_L n x1 x2 x3 (x4 + 1) v17) else (if (x1 < 0 ∨ 4 ≤ Int32.toNatClampNeg x1) then none else (if x4 = (v17 10 (Int32.toNatClampNeg x1)) then (if x4 = 4 then (some (0, v17)) else (some ((1 + x4), v17))) else (some ((1 + x4), v17)))))))))))
def f_X5_judge (x1 : Int32) (x2 : Int32) (v : jx_V) : Option (Int32 × jx_V) := ((f_X5_wrong x1 v).bind (fun (r1, v1) => (if r1 = 0 then ((f_X5_isWindow x2 v1).bind (fun (r3, v3) => (if r3 = 0 then ((f_X5_finds (-1000001) v3).bind (fun (r5, v5) => (some (r5, v5)))) else (f_X5_judge_L 100000 x1 x2 r1 0 v3)))) else ((f_X5_finds r1 v1).bind (fun (r6, v6) => (some (r6, v6)))))))
def rm_X5_judge : Room := { frames := 4, cells := 0, slots := 0, locals := 98 }
set_option maxHeartbeats 4000000 in
set_option maxRecDepth 100000 in
theorem k_X5_judge {l : Launch} {D : va_G} {cI cJ : ClassId} {ad : Nat → Nat} {A : Nat → Prop} (hI : jx_inj 13 ad A) (x1 : Int32) (x2 : Int32) (v : jx_V) (r : Int32) (v' : jx_V) (hF : f_X5_judge x1 x2 v = some (r, v')) : jx_Ci l D vwCl 13 cI cJ ad shM A ex_M yX5_judge (Cond.code yX5_judge cX5_judge 5 (some .int) :: bigT) rm_X5_judge [.ref (ad 0), .int x1, .int x2] v r v' := by
  unfold f_X5_judge at hF
  refine jx_enteri bigT RX5 cX5_judge 5 (some .int) [(0, .ref (ad 0)), (1, .int x1), (2, .int x2)] hI (ex_M_ok A) (by decide +kernel) rfl (Nat.le_of_ble_eq_true rfl) rfl rfl ?_
  intro p e s m args below meth c E
  have iX5 : ∀ w ∈ u_ws RX5 TX5 21, w ∈ (Cond.code yX5_judge cX5_judge 5 (some .int) :: bigT) := fun w h => List.mem_cons_of_mem _ (uw_X5 w h)
  have key : ∀ n : Nat, (∀ (x1 : Int32) (x2 : Int32) (x3 : Int32) (x4 : Int32) (v : jx_V), f_X5_judge_L  n  x1 x2 x3 x4 v = some (r, v') → jx_J p l e rm_X5_judge s m args below meth c D vwCl 13 cI cJ ad shM A 0 0 5 (MQ below (va_Qi (fun (r1 : Int32) (_ : Unit) => r1 = r) (fun _ t => va_P D vwCl (jx_ws 13 cI cJ ad shM v') t.heap) A) args s 0 0 A) v 34 [(0, .ref (ad 0)), (1, .int x1), (2, .int x2), (3, .int x3), (4, .int x4)] []) := by
    intro n
    induction n with
    | zero =>
      exact (fun _ _ _ _ _ h => by cases h)
    | succ n ih =>
      intro x1 x2 x3 x4 v hF
      rw [f_X5_judge_L] at hF
      refine jx_iload E dX5_judge_34 4 rfl ?_
      refine jx_aload_n E dX5_judge_36 0 rfl ?_
      refine jx_getr (C := RX5) (T := TX5) (M := 21) (k := 18) E dX5_judge_37 (Nat.le_of_ble_eq_true rfl) s_M0 rfl iX5 (by decide) rfl (List.mem_cons_of_mem _ tw_584) rfl ?_
      refine jx_iload_n E dX5_judge_40 1 rfl ?_
      obtain ⟨hg7, hF⟩ := jx_guard hF
      refine jx_iald (h := 10) (j := (Int32.toNatClampNeg x1)) E dX5_judge_41 (Nat.le_of_ble_eq_true rfl) s_M10 hg7 rfl ?_
      refine jx_icmp_ge (tgt := 81) E dX5_judge_42 (by decide) (fun hc8 => ?_) (fun hc8 => ?_)
      · rw [if_pos hc8] at hF
        refine jx_iload E dX5_judge_81 4 rfl ?_
        refine jx_aload_n E dX5_judge_83 0 rfl ?_
        refine jx_getr (C := RX5) (T := TX5) (M := 21) (k := 18) E dX5_judge_84 (Nat.le_of_ble_eq_true rfl) s_M0 rfl iX5 (by decide) rfl (List.mem_cons_of_mem _ tw_584) rfl ?_
        refine jx_iload_n E dX5_judge_87 1 rfl ?_
        obtain ⟨hg9, hF⟩ := jx_guard hF
        refine jx_iald (h := 10) (j := (Int32.toNatClampNeg x1)) E dX5_judge_88 (Nat.le_of_ble_eq_true rfl) s_M10 hg9 rfl ?_
        refine jx_icmp_ne (tgt := 102) E dX5_judge_89 (by decide) (fun hc10 => ?_) (fun hc10 => ?_)
        · rw [if_neg hc10] at hF
          refine jx_iconst (x := 1) E dX5_judge_102 (by decide) ?_
          refine jx_iload E dX5_judge_103 4 rfl ?_
          refine jx_iadd E dX5_judge_105 ?_
          obtain ⟨rfl, rfl⟩ := jx_out hF
          exact jx_iret E dX5_judge_106 rfl
        · rw [if_pos hc10] at hF
          refine jx_iload E dX5_judge_92 4 rfl ?_
          refine jx_iconst (x := 4) E dX5_judge_94 (by decide) ?_
          refine jx_icmp_ne (tgt := 102) E dX5_judge_95 (by decide) (fun hc11 => ?_) (fun hc11 => ?_)
          · rw [if_neg hc11] at hF
            refine jx_iconst (x := 1) E dX5_judge_102 (by decide) ?_
            refine jx_iload E dX5_judge_103 4 rfl ?_
            refine jx_iadd E dX5_judge_105 ?_
            obtain ⟨rfl, rfl⟩ := jx_out hF
            exact jx_iret E dX5_judge_106 rfl
          · rw [if_pos hc11] at hF
            refine jx_iconst (x := 0) E dX5_judge_98 (by decide) ?_
            refine jx_goto (tgt := 106) E dX5_judge_99 (by decide) ?_
            obtain ⟨rfl, rfl⟩ := jx_out hF
            exact jx_iret E dX5_judge_106 rfl
      · rw [if_neg hc8] at hF
        refine jx_iload E dX5_judge_45 4 rfl ?_
        refine jx_iconst (x := 4) E dX5_judge_47 (by decide) ?_
        refine jx_icmp_ge (tgt := 81) E dX5_judge_48 (by decide) (fun hc12 => ?_) (fun hc12 => ?_)
        · rw [if_pos hc12] at hF
          refine jx_iload E dX5_judge_81 4 rfl ?_
          refine jx_aload_n E dX5_judge_83 0 rfl ?_
          refine jx_getr (C := RX5) (T := TX5) (M := 21) (k := 18) E dX5_judge_84 (Nat.le_of_ble_eq_true rfl) s_M0 rfl iX5 (by decide) rfl (List.mem_cons_of_mem _ tw_584) rfl ?_
          refine jx_iload_n E dX5_judge_87 1 rfl ?_
          obtain ⟨hg13, hF⟩ := jx_guard hF
          refine jx_iald (h := 10) (j := (Int32.toNatClampNeg x1)) E dX5_judge_88 (Nat.le_of_ble_eq_true rfl) s_M10 hg13 rfl ?_
          refine jx_icmp_ne (tgt := 102) E dX5_judge_89 (by decide) (fun hc14 => ?_) (fun hc14 => ?_)
          · rw [if_neg hc14] at hF
            refine jx_iconst (x := 1) E dX5_judge_102 (by decide) ?_
            refine jx_iload E dX5_judge_103 4 rfl ?_
            refine jx_iadd E dX5_judge_105 ?_
            obtain ⟨rfl, rfl⟩ := jx_out hF
            exact jx_iret E dX5_judge_106 rfl
          · rw [if_pos hc14] at hF
            refine jx_iload E dX5_judge_92 4 rfl ?_
            refine jx_iconst (x := 4) E dX5_judge_94 (by decide) ?_
            refine jx_icmp_ne (tgt := 102) E dX5_judge_95 (by decide) (fun hc15 => ?_) (fun hc15 => ?_)
            · rw [if_neg hc15] at hF
              refine jx_iconst (x := 1) E dX5_judge_102 (by decide) ?_
              refine jx_iload E dX5_judge_103 4 rfl ?_
              refine jx_iadd E dX5_judge_105 ?_
              obtain ⟨rfl, rfl⟩ := jx_out hF
              exact jx_iret E dX5_judge_106 rfl
            · rw [if_pos hc15] at hF
              refine jx_iconst (x := 0) E dX5_judge_98 (by decide) ?_
              refine jx_goto (tgt := 106) E dX5_judge_99 (by decide) ?_
              obtain ⟨rfl, rfl⟩ := jx_out hF
              exact jx_iret E dX5_judge_106 rfl
        · rw [if_neg hc12] at hF
          refine jx_aload_n E dX5_judge_51 0 rfl ?_
          refine jx_getr (C := RX5) (T := TX5) (M := 21) (k := 19) E dX5_judge_52 (Nat.le_of_ble_eq_true rfl) s_M0 rfl iX5 (by decide) rfl (List.mem_cons_of_mem _ tw_586) rfl ?_
          refine jx_bipush (x := 40) E dX5_judge_55 (by decide) ?_
          refine jx_iload_n E dX5_judge_57 1 rfl ?_
          refine jx_imul E dX5_judge_58 ?_
          refine jx_iload E dX5_judge_59 4 rfl ?_
          refine jx_iadd E dX5_judge_61 ?_
          obtain ⟨hg16, hF⟩ := jx_guard hF
          refine jx_iald (h := 11) (j := (Int32.toNatClampNeg ((40 * x1) + x4))) E dX5_judge_62 (Nat.le_of_ble_eq_true rfl) s_M11 hg16 rfl ?_
          refine jx_aload_n E dX5_judge_63 0 rfl ?_
          refine jx_iload_n E dX5_judge_64 2 rfl ?_
          refine jx_iload E dX5_judge_65 4 rfl ?_
          refine jx_iconst (x := 1) E dX5_judge_67 (by decide) ?_
          refine jx_iadd E dX5_judge_68 ?_
          obtain ⟨⟨r17, v17⟩, hc17, hF⟩ := jx_bind hF
          try dsimp only at hF
          refine jx_callVi (As := [.int x2, .int (x4 + 1)]) (st := [.int (v 11 (Int32.toNatClampNeg ((40 * x1) + x4)))]) (h := 0) E dX5_judge_69 2 rfl (k_X5_seen hI x2 (x4 + 1) v r17 v17 hc17) (gb_V (List.mem_cons_of_mem _ tw_414) (List.mem_cons_of_mem _ tw_415) (List.mem_cons_of_mem _ tw_416) (List.mem_cons_of_mem _ tw_325) tw_413) rfl rfl rfl dd_X5_seen rfl (Nat.le_of_ble_eq_true rfl) s_M0 rfl ⟨by decide, by decide⟩ ⟨Nat.le_refl 0, Nat.le_refl 0⟩ (Nat.le_of_ble_eq_true rfl) ?_
          refine jx_icmp_ne (tgt := 81) E dX5_judge_72 (by decide) (fun hc18 => ?_) (fun hc18 => ?_)
          · rw [if_neg hc18] at hF
            refine jx_iload E dX5_judge_81 4 rfl ?_
            refine jx_aload_n E dX5_judge_83 0 rfl ?_
            refine jx_getr (C := RX5) (T := TX5) (M := 21) (k := 18) E dX5_judge_84 (Nat.le_of_ble_eq_true rfl) s_M0 rfl iX5 (by decide) rfl (List.mem_cons_of_mem _ tw_584) rfl ?_
            refine jx_iload_n E dX5_judge_87 1 rfl ?_
            obtain ⟨hg19, hF⟩ := jx_guard hF
            refine jx_iald (h := 10) (j := (Int32.toNatClampNeg x1)) E dX5_judge_88 (Nat.le_of_ble_eq_true rfl) s_M10 hg19 rfl ?_
            refine jx_icmp_ne (tgt := 102) E dX5_judge_89 (by decide) (fun hc20 => ?_) (fun hc20 => ?_)
            · rw [if_neg hc20] at hF
              refine jx_iconst (x := 1) E dX5_judge_102 (by decide) ?_
              refine jx_iload E dX5_judge_103 4 rfl ?_
              refine jx_iadd E dX5_judge_105 ?_
              obtain ⟨rfl, rfl⟩ := jx_out hF
              exact jx_iret E dX5_judge_106 rfl
            · rw [if_pos hc20] at hF
              refine jx_iload E dX5_judge_92 4 rfl ?_
              refine jx_iconst (x := 4) E dX5_judge_94 (by decide) ?_
              refine jx_icmp_ne (tgt := 102) E dX5_judge_95 (by decide) (fun hc21 => ?_) (fun hc21 => ?_)
              · rw [if_neg hc21] at hF
                refine jx_iconst (x := 1) E dX5_judge_102 (by decide) ?_
                refine jx_iload E dX5_judge_103 4 rfl ?_
                refine jx_iadd E dX5_judge_105 ?_
                obtain ⟨rfl, rfl⟩ := jx_out hF
                exact jx_iret E dX5_judge_106 rfl
              · rw [if_pos hc21] at hF
                refine jx_iconst (x := 0) E dX5_judge_98 (by decide) ?_
                refine jx_goto (tgt := 106) E dX5_judge_99 (by decide) ?_
                obtain ⟨rfl, rfl⟩ := jx_out hF
                exact jx_iret E dX5_judge_106 rfl
          · rw [if_pos hc18] at hF
            refine jx_iinc (y := (x4 + 1)) (lv' := [(4, .int (x4 + 1)), (0, .ref (ad 0)), (1, .int x1), (2, .int x2), (3, .int x3)]) E dX5_judge_75 4 rfl rfl (by decide) rfl ?_
            refine jx_goto (tgt := 34) E dX5_judge_78 (by decide) ?_
            refine jx_sub [1, 2, 3, 4, 0] rfl ?_
            exact ih x1 x2 x3 (x4 + 1) v17 hF
  refine jx_aload_n E dX5_judge_0 0 rfl ?_
  refine jx_iload_n E dX5_judge_1 1 rfl ?_
  obtain ⟨⟨r1, v1⟩, hc1, hF⟩ := jx_bind hF
  try dsimp only at hF
  refine jx_callVi (As := [.int x1]) (st := []) (h := 0) E dX5_judge_2 1 rfl (k_X5_wrong hI x1 v r1 v1 hc1) (gb_V (List.mem_cons_of_mem _ tw_588) (List.mem_cons_of_mem _ tw_589) (List.mem_cons_of_mem _ tw_590) (List.mem_cons_of_mem _ tw_325) tw_587) rfl rfl rfl dd_X5_wrong rfl (Nat.le_of_ble_eq_true rfl) s_M0 rfl ⟨by decide, by decide⟩ ⟨Nat.le_refl 0, Nat.le_refl 0⟩ (Nat.le_of_ble_eq_true rfl) ?_
  refine jx_istore_n (lv' := [(3, .int r1), (0, .ref (ad 0)), (1, .int x1), (2, .int x2)]) E dX5_judge_5 (by decide) rfl ?_
  refine jx_iload_n E dX5_judge_6 0 rfl ?_
  refine jx_if_eq (tgt := 16) E dX5_judge_7 (by decide) (fun hc2 => ?_) (fun hc2 => ?_)
  · rw [if_pos hc2] at hF
    refine jx_aload_n E dX5_judge_16 1 rfl ?_
    refine jx_iload_n E dX5_judge_17 3 rfl ?_
    obtain ⟨⟨r3, v3⟩, hc3, hF⟩ := jx_bind hF
    try dsimp only at hF
    refine jx_callVi (As := [.int x2]) (st := []) (h := 0) E dX5_judge_18 1 rfl (k_X5_isWindow hI x2 v1 r3 v3 hc3) (gb_V (List.mem_cons_of_mem _ tw_397) (List.mem_cons_of_mem _ tw_398) (List.mem_cons_of_mem _ tw_399) (List.mem_cons_of_mem _ tw_325) tw_396) rfl rfl rfl dd_X5_isWindow rfl (Nat.le_of_ble_eq_true rfl) s_M0 rfl ⟨by decide, by decide⟩ ⟨Nat.le_refl 0, Nat.le_refl 0⟩ (Nat.le_of_ble_eq_true rfl) ?_
    refine jx_if_ne (tgt := 31) E dX5_judge_21 (by decide) (fun hc4 => ?_) (fun hc4 => ?_)
    · rw [if_neg hc4] at hF
      refine jx_iconst (x := 0) E dX5_judge_31 (by decide) ?_
      refine jx_istore (lv' := [(4, .int 0), (3, .int r1), (0, .ref (ad 0)), (1, .int x1), (2, .int x2)]) E dX5_judge_32 (by decide) rfl ?_
      refine jx_sub [2, 3, 4, 1, 0] rfl ?_
      exact (key 100000) x1 x2 r1 0 v3 hF
    · rw [if_pos hc4] at hF
      refine jx_aload_n E dX5_judge_24 1 rfl ?_
      refine jx_ldc (x := -1000001) E dX5_judge_25 (List.mem_cons_of_mem _ tw_320) ?_
      obtain ⟨⟨r5, v5⟩, hc5, hF⟩ := jx_bind hF
      try dsimp only at hF
      refine jx_callVi (As := [.int (-1000001)]) (st := []) (h := 0) E dX5_judge_27 1 rfl (k_X5_finds hI (-1000001) v3 r5 v5 hc5) (gb_V (List.mem_cons_of_mem _ tw_344) (List.mem_cons_of_mem _ tw_345) (List.mem_cons_of_mem _ tw_346) (List.mem_cons_of_mem _ tw_325) tw_343) rfl rfl rfl dd_X5_finds rfl (Nat.le_of_ble_eq_true rfl) s_M0 rfl ⟨by decide, by decide⟩ ⟨Nat.le_refl 0, Nat.le_refl 0⟩ (Nat.le_of_ble_eq_true rfl) ?_
      obtain ⟨rfl, rfl⟩ := jx_out hF
      exact jx_iret E dX5_judge_30 rfl
  · rw [if_neg hc2] at hF
    refine jx_aload_n E dX5_judge_10 1 rfl ?_
    refine jx_iload_n E dX5_judge_11 0 rfl ?_
    obtain ⟨⟨r6, v6⟩, hc6, hF⟩ := jx_bind hF
    try dsimp only at hF
    refine jx_callVi (As := [.int r1]) (st := []) (h := 0) E dX5_judge_12 1 rfl (k_X5_finds hI r1 v1 r6 v6 hc6) (gb_V (List.mem_cons_of_mem _ tw_344) (List.mem_cons_of_mem _ tw_345) (List.mem_cons_of_mem _ tw_346) (List.mem_cons_of_mem _ tw_325) tw_343) rfl rfl rfl dd_X5_finds rfl (Nat.le_of_ble_eq_true rfl) s_M0 rfl ⟨by decide, by decide⟩ ⟨Nat.le_refl 0, Nat.le_refl 0⟩ (Nat.le_of_ble_eq_true rfl) ?_
    obtain ⟨rfl, rfl⟩ := jx_out hF
    exact jx_iret E dX5_judge_15 rfl
def f_X5_image_L  : Nat → Int32 → jx_V → Option (Int32 × jx_V)
  | 0, _, _ => none
  | n + 1, x1, v => (if 181 ≤ x1 then (some (1, (jx_up v 0 4 1))) else (if (x1 < 0 ∨ 181 ≤ Int32.toNatClampNeg x1) then none else (if (x1 < 0 ∨ 181 ≤ Int32.toNatClampNeg x1) then none else (f_X5_image_L n (x1 + 1) (jx_up v 2 (Int32.toNatClampNeg x1) (v 1 (Int32.toNatClampNeg x1)))))))
def f_X5_image  (v : jx_V) : Option (Int32 × jx_V) := (f_X5_image_L 100000 0 v)
def rm_X5_image : Room := { frames := 0, cells := 0, slots := 0, locals := 0 }
set_option maxHeartbeats 4000000 in
set_option maxRecDepth 100000 in
theorem k_X5_image {l : Launch} {D : va_G} {cI cJ : ClassId} {ad : Nat → Nat} {A : Nat → Prop} (hI : jx_inj 13 ad A)  (v : jx_V) (r : Int32) (v' : jx_V) (hF : f_X5_image  v = some (r, v')) : jx_Ci l D vwCl 13 cI cJ ad shM A ex_M yX5_image (Cond.code yX5_image cX5_image 2 (some .int) :: bigT) rm_X5_image [.ref (ad 0)] v r v' := by
  unfold f_X5_image at hF
  refine jx_enteri bigT RX5 cX5_image 2 (some .int) [(0, .ref (ad 0))] hI (ex_M_ok A) (by decide +kernel) rfl (Nat.le_of_ble_eq_true rfl) rfl rfl ?_
  intro p e s m args below meth c E
  have iX5 : ∀ w ∈ u_ws RX5 TX5 21, w ∈ (Cond.code yX5_image cX5_image 2 (some .int) :: bigT) := fun w h => List.mem_cons_of_mem _ (uw_X5 w h)
  have key : ∀ n : Nat, (∀ (x1 : Int32) (v : jx_V), f_X5_image_L  n  x1 v = some (r, v') → jx_J p l e rm_X5_image s m args below meth c D vwCl 13 cI cJ ad shM A 0 0 2 (MQ below (va_Qi (fun (r1 : Int32) (_ : Unit) => r1 = r) (fun _ t => va_P D vwCl (jx_ws 13 cI cJ ad shM v') t.heap) A) args s 0 0 A) v 2 [(0, .ref (ad 0)), (1, .int x1)] []) := by
    intro n
    induction n with
    | zero =>
      exact (fun _ _ h => by cases h)
    | succ n ih =>
      intro x1 v hF
      rw [f_X5_image_L] at hF
      refine jx_iload_n E dX5_image_2 1 rfl ?_
      refine jx_sipush (x := 181) E dX5_image_3 (by decide) ?_
      refine jx_icmp_ge (tgt := 27) E dX5_image_6 (by decide) (fun hc1 => ?_) (fun hc1 => ?_)
      · rw [if_pos hc1] at hF
        refine jx_aload_n E dX5_image_27 0 rfl ?_
        refine jx_iconst (x := 1) E dX5_image_28 (by decide) ?_
        refine jx_puti (C := RX5) (T := TX5) (M := 21) (k := 4) (ty := .boolean) E tyX5 dX5_image_29 (Nat.le_of_ble_eq_true rfl) s_M0 rfl iX5 (by decide) rfl (List.mem_cons_of_mem _ tw_595) tyX5_ok nmX5 rfl (by decide +kernel) rfl rfl rfl ?_
        refine jx_iconst (x := 1) E dX5_image_32 (by decide) ?_
        obtain ⟨rfl, rfl⟩ := jx_out hF
        exact jx_iret E dX5_image_33 rfl
      · rw [if_neg hc1] at hF
        refine jx_aload_n E dX5_image_9 0 rfl ?_
        refine jx_getr (C := RX5) (T := TX5) (M := 21) (k := 1) E dX5_image_10 (Nat.le_of_ble_eq_true rfl) s_M0 rfl iX5 (by decide) rfl (List.mem_cons_of_mem _ tw_596) rfl ?_
        refine jx_iload_n E dX5_image_13 1 rfl ?_
        refine jx_aload_n E dX5_image_14 0 rfl ?_
        refine jx_getr (C := RX5) (T := TX5) (M := 21) (k := 0) E dX5_image_15 (Nat.le_of_ble_eq_true rfl) s_M0 rfl iX5 (by decide) rfl (List.mem_cons_of_mem _ tw_328) rfl ?_
        refine jx_iload_n E dX5_image_18 1 rfl ?_
        obtain ⟨hg2, hF⟩ := jx_guard hF
        refine jx_iald (h := 1) (j := (Int32.toNatClampNeg x1)) E dX5_image_19 (Nat.le_of_ble_eq_true rfl) s_M1 hg2 rfl ?_
        obtain ⟨hg3, hF⟩ := jx_guard hF
        refine jx_iast (h := 2) (j := (Int32.toNatClampNeg x1)) E dX5_image_20 (Nat.le_of_ble_eq_true rfl) s_M2 hg3 rfl ?_
        refine jx_iinc (y := (x1 + 1)) (lv' := [(1, .int (x1 + 1)), (0, .ref (ad 0))]) E dX5_image_21 1 rfl rfl (by decide) rfl ?_
        refine jx_goto (tgt := 2) E dX5_image_24 (by decide) ?_
        refine jx_sub [1, 0] rfl ?_
        exact ih (x1 + 1) (jx_up v 2 (Int32.toNatClampNeg x1) (v 1 (Int32.toNatClampNeg x1))) hF
  refine jx_iconst (x := 0) E dX5_image_0 (by decide) ?_
  refine jx_istore_n (lv' := [(1, .int 0), (0, .ref (ad 0))]) E dX5_image_1 (by decide) rfl ?_
  refine jx_sub [1, 0] rfl ?_
  exact (key 100000) 0 v hF
def f_X5_undo_L  : Nat → Int32 → jx_V → Option (Int32 × jx_V)
  | 0, _, _ => none
  | n + 1, x1, v => (if 181 ≤ x1 then (some ((v 1 0), v)) else (if (x1 < 0 ∨ 181 ≤ Int32.toNatClampNeg x1) then none else (if (x1 < 0 ∨ 181 ≤ Int32.toNatClampNeg x1) then none else (f_X5_undo_L n (x1 + 1) (jx_up v 1 (Int32.toNatClampNeg x1) (v 2 (Int32.toNatClampNeg x1)))))))
def f_X5_undo  (v : jx_V) : Option (Int32 × jx_V) := (if (v 0 4) = 0 then ((f_X5_finds (-1000004) v).bind (fun (r2, v2) => (some (r2, v2)))) else (f_X5_undo_L 100000 0 v))
def rm_X5_undo : Room := { frames := 1, cells := 0, slots := 0, locals := 21 }
set_option maxHeartbeats 4000000 in
set_option maxRecDepth 100000 in
theorem k_X5_undo {l : Launch} {D : va_G} {cI cJ : ClassId} {ad : Nat → Nat} {A : Nat → Prop} (hI : jx_inj 13 ad A)  (v : jx_V) (r : Int32) (v' : jx_V) (hF : f_X5_undo  v = some (r, v')) : jx_Ci l D vwCl 13 cI cJ ad shM A ex_M yX5_undo (Cond.code yX5_undo cX5_undo 2 (some .int) :: bigT) rm_X5_undo [.ref (ad 0)] v r v' := by
  unfold f_X5_undo at hF
  refine jx_enteri bigT RX5 cX5_undo 2 (some .int) [(0, .ref (ad 0))] hI (ex_M_ok A) (by decide +kernel) rfl (Nat.le_of_ble_eq_true rfl) rfl rfl ?_
  intro p e s m args below meth c E
  have iX5 : ∀ w ∈ u_ws RX5 TX5 21, w ∈ (Cond.code yX5_undo cX5_undo 2 (some .int) :: bigT) := fun w h => List.mem_cons_of_mem _ (uw_X5 w h)
  have key : ∀ n : Nat, (∀ (x1 : Int32) (v : jx_V), f_X5_undo_L  n  x1 v = some (r, v') → jx_J p l e rm_X5_undo s m args below meth c D vwCl 13 cI cJ ad shM A 0 0 2 (MQ below (va_Qi (fun (r1 : Int32) (_ : Unit) => r1 = r) (fun _ t => va_P D vwCl (jx_ws 13 cI cJ ad shM v') t.heap) A) args s 0 0 A) v 16 [(0, .ref (ad 0)), (1, .int x1)] []) := by
    intro n
    induction n with
    | zero =>
      exact (fun _ _ h => by cases h)
    | succ n ih =>
      intro x1 v hF
      rw [f_X5_undo_L] at hF
      refine jx_iload_n E dX5_undo_16 1 rfl ?_
      refine jx_sipush (x := 181) E dX5_undo_17 (by decide) ?_
      refine jx_icmp_ge (tgt := 41) E dX5_undo_20 (by decide) (fun hc3 => ?_) (fun hc3 => ?_)
      · rw [if_pos hc3] at hF
        refine jx_aload_n E dX5_undo_41 0 rfl ?_
        refine jx_getr (C := RX5) (T := TX5) (M := 21) (k := 0) E dX5_undo_42 (Nat.le_of_ble_eq_true rfl) s_M0 rfl iX5 (by decide) rfl (List.mem_cons_of_mem _ tw_328) rfl ?_
        refine jx_iconst (x := 0) E dX5_undo_45 (by decide) ?_
        refine jx_iald (h := 1) (j := 0) E dX5_undo_46 (Nat.le_of_ble_eq_true rfl) s_M1 (by decide) (by decide) ?_
        obtain ⟨rfl, rfl⟩ := jx_out hF
        exact jx_iret E dX5_undo_47 rfl
      · rw [if_neg hc3] at hF
        refine jx_aload_n E dX5_undo_23 0 rfl ?_
        refine jx_getr (C := RX5) (T := TX5) (M := 21) (k := 0) E dX5_undo_24 (Nat.le_of_ble_eq_true rfl) s_M0 rfl iX5 (by decide) rfl (List.mem_cons_of_mem _ tw_328) rfl ?_
        refine jx_iload_n E dX5_undo_27 1 rfl ?_
        refine jx_aload_n E dX5_undo_28 0 rfl ?_
        refine jx_getr (C := RX5) (T := TX5) (M := 21) (k := 1) E dX5_undo_29 (Nat.le_of_ble_eq_true rfl) s_M0 rfl iX5 (by decide) rfl (List.mem_cons_of_mem _ tw_596) rfl ?_
        refine jx_iload_n E dX5_undo_32 1 rfl ?_
        obtain ⟨hg4, hF⟩ := jx_guard hF
        refine jx_iald (h := 2) (j := (Int32.toNatClampNeg x1)) E dX5_undo_33 (Nat.le_of_ble_eq_true rfl) s_M2 hg4 rfl ?_
        obtain ⟨hg5, hF⟩ := jx_guard hF
        refine jx_iast (h := 1) (j := (Int32.toNatClampNeg x1)) E dX5_undo_34 (Nat.le_of_ble_eq_true rfl) s_M1 hg5 rfl ?_
        refine jx_iinc (y := (x1 + 1)) (lv' := [(1, .int (x1 + 1)), (0, .ref (ad 0))]) E dX5_undo_35 1 rfl rfl (by decide) rfl ?_
        refine jx_goto (tgt := 16) E dX5_undo_38 (by decide) ?_
        refine jx_sub [1, 0] rfl ?_
        exact ih (x1 + 1) (jx_up v 1 (Int32.toNatClampNeg x1) (v 2 (Int32.toNatClampNeg x1))) hF
  refine jx_aload_n E dX5_undo_0 0 rfl ?_
  refine jx_geti (C := RX5) (T := TX5) (M := 21) (k := 4) E dX5_undo_1 (Nat.le_of_ble_eq_true rfl) s_M0 rfl iX5 (by decide) rfl (List.mem_cons_of_mem _ tw_595) rfl ?_
  refine jx_if_ne (tgt := 14) E dX5_undo_4 (by decide) (fun hc1 => ?_) (fun hc1 => ?_)
  · rw [if_neg hc1] at hF
    refine jx_iconst (x := 0) E dX5_undo_14 (by decide) ?_
    refine jx_istore_n (lv' := [(1, .int 0), (0, .ref (ad 0))]) E dX5_undo_15 (by decide) rfl ?_
    refine jx_sub [1, 0] rfl ?_
    exact (key 100000) 0 v hF
  · rw [if_pos hc1] at hF
    refine jx_aload_n E dX5_undo_7 0 rfl ?_
    refine jx_ldc (x := -1000004) E dX5_undo_8 (List.mem_cons_of_mem _ tw_365) ?_
    obtain ⟨⟨r2, v2⟩, hc2, hF⟩ := jx_bind hF
    try dsimp only at hF
    refine jx_callVi (As := [.int (-1000004)]) (st := []) (h := 0) E dX5_undo_10 1 rfl (k_X5_finds hI (-1000004) v r2 v2 hc2) (gb_V (List.mem_cons_of_mem _ tw_344) (List.mem_cons_of_mem _ tw_345) (List.mem_cons_of_mem _ tw_346) (List.mem_cons_of_mem _ tw_325) tw_343) rfl rfl rfl dd_X5_finds rfl (Nat.le_of_ble_eq_true rfl) s_M0 rfl ⟨by decide, by decide⟩ ⟨Nat.le_refl 0, Nat.le_refl 0⟩ (Nat.le_of_ble_eq_true rfl) ?_
    obtain ⟨rfl, rfl⟩ := jx_out hF
    exact jx_iret E dX5_undo_13 rfl
def f_X5_tear  (v : jx_V) : Option (Int32 × jx_V) := (if (v 0 4) = 0 then (some (0, (jx_up v 0 4 0))) else (some (1, (jx_up v 0 4 0))))
def rm_X5_tear : Room := { frames := 0, cells := 0, slots := 0, locals := 0 }
set_option maxHeartbeats 4000000 in
set_option maxRecDepth 100000 in
theorem k_X5_tear {l : Launch} {D : va_G} {cI cJ : ClassId} {ad : Nat → Nat} {A : Nat → Prop} (hI : jx_inj 13 ad A)  (v : jx_V) (r : Int32) (v' : jx_V) (hF : f_X5_tear  v = some (r, v')) : jx_Ci l D vwCl 13 cI cJ ad shM A ex_M yX5_tear (Cond.code yX5_tear cX5_tear 2 (some .int) :: bigT) rm_X5_tear [.ref (ad 0)] v r v' := by
  unfold f_X5_tear at hF
  refine jx_enteri bigT RX5 cX5_tear 2 (some .int) [(0, .ref (ad 0))] hI (ex_M_ok A) (by decide +kernel) rfl (Nat.le_of_ble_eq_true rfl) rfl rfl ?_
  intro p e s m args below meth c E
  have iX5 : ∀ w ∈ u_ws RX5 TX5 21, w ∈ (Cond.code yX5_tear cX5_tear 2 (some .int) :: bigT) := fun w h => List.mem_cons_of_mem _ (uw_X5 w h)
  refine jx_aload_n E dX5_tear_0 0 rfl ?_
  refine jx_geti (C := RX5) (T := TX5) (M := 21) (k := 4) E dX5_tear_1 (Nat.le_of_ble_eq_true rfl) s_M0 rfl iX5 (by decide) rfl (List.mem_cons_of_mem _ tw_595) rfl ?_
  refine jx_if_eq (tgt := 11) E dX5_tear_4 (by decide) (fun hc1 => ?_) (fun hc1 => ?_)
  · rw [if_pos hc1] at hF
    refine jx_iconst (x := 0) E dX5_tear_11 (by decide) ?_
    refine jx_istore_n (lv' := [(1, .int 0), (0, .ref (ad 0))]) E dX5_tear_12 (by decide) rfl ?_
    refine jx_aload_n E dX5_tear_13 1 rfl ?_
    refine jx_iconst (x := 0) E dX5_tear_14 (by decide) ?_
    refine jx_puti (C := RX5) (T := TX5) (M := 21) (k := 4) (ty := .boolean) E tyX5 dX5_tear_15 (Nat.le_of_ble_eq_true rfl) s_M0 rfl iX5 (by decide) rfl (List.mem_cons_of_mem _ tw_595) tyX5_ok nmX5 rfl (by decide +kernel) rfl rfl rfl ?_
    refine jx_iload_n E dX5_tear_18 0 rfl ?_
    obtain ⟨rfl, rfl⟩ := jx_out hF
    exact jx_iret E dX5_tear_19 rfl
  · rw [if_neg hc1] at hF
    refine jx_iconst (x := 1) E dX5_tear_7 (by decide) ?_
    refine jx_goto (tgt := 12) E dX5_tear_8 (by decide) ?_
    refine jx_istore_n (lv' := [(1, .int 1), (0, .ref (ad 0))]) E dX5_tear_12 (by decide) rfl ?_
    refine jx_aload_n E dX5_tear_13 1 rfl ?_
    refine jx_iconst (x := 0) E dX5_tear_14 (by decide) ?_
    refine jx_puti (C := RX5) (T := TX5) (M := 21) (k := 4) (ty := .boolean) E tyX5 dX5_tear_15 (Nat.le_of_ble_eq_true rfl) s_M0 rfl iX5 (by decide) rfl (List.mem_cons_of_mem _ tw_595) tyX5_ok nmX5 rfl (by decide +kernel) rfl rfl rfl ?_
    refine jx_iload_n E dX5_tear_18 0 rfl ?_
    obtain ⟨rfl, rfl⟩ := jx_out hF
    exact jx_iret E dX5_tear_19 rfl
def f_X5_heights_L  : Nat → Int32 → Int32 → jx_V → Option (Int32 × jx_V)
  | 0, _, _, _ => none
  | n + 1, x1, x2, v => (if 25 ≤ x2 then (some (x1, v)) else ((f_X5_isThing x2 v).bind (fun (r2, v2) => (if r2 = 0 then (f_X5_heights_L n (x1 + 0) (x2 + 1) v2) else ((f_X5_its x2 2 v2).bind (fun (r4, v4) => (f_X5_heights_L n (x1 + r4) (x2 + 1) v4)))))))
def f_X5_heights  (v : jx_V) : Option (Int32 × jx_V) := (f_X5_heights_L 100000 0 0 v)
def rm_X5_heights : Room := { frames := 3, cells := 0, slots := 0, locals := 64 }
set_option maxHeartbeats 4000000 in
set_option maxRecDepth 100000 in
theorem k_X5_heights {l : Launch} {D : va_G} {cI cJ : ClassId} {ad : Nat → Nat} {A : Nat → Prop} (hI : jx_inj 13 ad A)  (v : jx_V) (r : Int32) (v' : jx_V) (hF : f_X5_heights  v = some (r, v')) : jx_Ci l D vwCl 13 cI cJ ad shM A ex_M yX5_heights (Cond.code yX5_heights cX5_heights 3 (some .int) :: bigT) rm_X5_heights [.ref (ad 0)] v r v' := by
  unfold f_X5_heights at hF
  refine jx_enteri bigT RX5 cX5_heights 3 (some .int) [(0, .ref (ad 0))] hI (ex_M_ok A) (by decide +kernel) rfl (Nat.le_of_ble_eq_true rfl) rfl rfl ?_
  intro p e s m args below meth c E
  have key : ∀ n : Nat, (∀ (x1 : Int32) (x2 : Int32) (v : jx_V), f_X5_heights_L  n  x1 x2 v = some (r, v') → jx_J p l e rm_X5_heights s m args below meth c D vwCl 13 cI cJ ad shM A 0 0 3 (MQ below (va_Qi (fun (r1 : Int32) (_ : Unit) => r1 = r) (fun _ t => va_P D vwCl (jx_ws 13 cI cJ ad shM v') t.heap) A) args s 0 0 A) v 4 [(0, .ref (ad 0)), (1, .int x1), (2, .int x2)] []) := by
    intro n
    induction n with
    | zero =>
      exact (fun _ _ _ h => by cases h)
    | succ n ih =>
      intro x1 x2 v hF
      rw [f_X5_heights_L] at hF
      refine jx_iload_n E dX5_heights_4 2 rfl ?_
      refine jx_bipush (x := 25) E dX5_heights_5 (by decide) ?_
      refine jx_icmp_ge (tgt := 37) E dX5_heights_7 (by decide) (fun hc1 => ?_) (fun hc1 => ?_)
      · rw [if_pos hc1] at hF
        refine jx_iload_n E dX5_heights_37 1 rfl ?_
        obtain ⟨rfl, rfl⟩ := jx_out hF
        exact jx_iret E dX5_heights_38 rfl
      · rw [if_neg hc1] at hF
        refine jx_iload_n E dX5_heights_10 1 rfl ?_
        refine jx_aload_n E dX5_heights_11 0 rfl ?_
        refine jx_iload_n E dX5_heights_12 2 rfl ?_
        obtain ⟨⟨r2, v2⟩, hc2, hF⟩ := jx_bind hF
        try dsimp only at hF
        refine jx_callVi (As := [.int x2]) (st := [.int x1]) (h := 0) E dX5_heights_13 1 rfl (k_X5_isThing hI x2 v r2 v2 hc2) (gb_V (List.mem_cons_of_mem _ tw_339) (List.mem_cons_of_mem _ tw_340) (List.mem_cons_of_mem _ tw_341) (List.mem_cons_of_mem _ tw_325) tw_338) rfl rfl rfl dd_X5_isThing rfl (Nat.le_of_ble_eq_true rfl) s_M0 rfl ⟨by decide, by decide⟩ ⟨Nat.le_refl 0, Nat.le_refl 0⟩ (Nat.le_of_ble_eq_true rfl) ?_
        refine jx_if_eq (tgt := 28) E dX5_heights_16 (by decide) (fun hc3 => ?_) (fun hc3 => ?_)
        · rw [if_pos hc3] at hF
          refine jx_iconst (x := 0) E dX5_heights_28 (by decide) ?_
          refine jx_iadd E dX5_heights_29 ?_
          refine jx_istore_n (lv' := [(1, .int (x1 + 0)), (0, .ref (ad 0)), (2, .int x2)]) E dX5_heights_30 (by decide) rfl ?_
          refine jx_iinc (y := (x2 + 1)) (lv' := [(2, .int (x2 + 1)), (1, .int (x1 + 0)), (0, .ref (ad 0))]) E dX5_heights_31 2 rfl rfl (by decide) rfl ?_
          refine jx_goto (tgt := 4) E dX5_heights_34 (by decide) ?_
          refine jx_sub [2, 1, 0] rfl ?_
          exact ih (x1 + 0) (x2 + 1) v2 hF
        · rw [if_neg hc3] at hF
          refine jx_aload_n E dX5_heights_19 0 rfl ?_
          refine jx_iload_n E dX5_heights_20 2 rfl ?_
          refine jx_iconst (x := 2) E dX5_heights_21 (by decide) ?_
          obtain ⟨⟨r4, v4⟩, hc4, hF⟩ := jx_bind hF
          try dsimp only at hF
          refine jx_callVi (As := [.int x2, .int 2]) (st := [.int x1]) (h := 0) E dX5_heights_22 2 rfl (k_X5_its hI x2 2 v2 r4 v4 hc4) (gb_V (List.mem_cons_of_mem _ tw_335) (List.mem_cons_of_mem _ tw_336) (List.mem_cons_of_mem _ tw_337) (List.mem_cons_of_mem _ tw_325) tw_334) rfl rfl rfl dd_X5_its rfl (Nat.le_of_ble_eq_true rfl) s_M0 rfl ⟨by decide, by decide⟩ ⟨Nat.le_refl 0, Nat.le_refl 0⟩ (Nat.le_of_ble_eq_true rfl) ?_
          refine jx_goto (tgt := 29) E dX5_heights_25 (by decide) ?_
          refine jx_iadd E dX5_heights_29 ?_
          refine jx_istore_n (lv' := [(1, .int (x1 + r4)), (0, .ref (ad 0)), (2, .int x2)]) E dX5_heights_30 (by decide) rfl ?_
          refine jx_iinc (y := (x2 + 1)) (lv' := [(2, .int (x2 + 1)), (1, .int (x1 + r4)), (0, .ref (ad 0))]) E dX5_heights_31 2 rfl rfl (by decide) rfl ?_
          refine jx_goto (tgt := 4) E dX5_heights_34 (by decide) ?_
          refine jx_sub [2, 1, 0] rfl ?_
          exact ih (x1 + r4) (x2 + 1) v4 hF
  refine jx_iconst (x := 0) E dX5_heights_0 (by decide) ?_
  refine jx_istore_n (lv' := [(1, .int 0), (0, .ref (ad 0))]) E dX5_heights_1 (by decide) rfl ?_
  refine jx_iconst (x := 0) E dX5_heights_2 (by decide) ?_
  refine jx_istore_n (lv' := [(2, .int 0), (1, .int 0), (0, .ref (ad 0))]) E dX5_heights_3 (by decide) rfl ?_
  refine jx_sub [2, 1, 0] rfl ?_
  exact (key 100000) 0 0 v hF
def f_X5_contracts_L  : Nat → Int32 → Int32 → jx_V → Option (Int32 × jx_V)
  | 0, _, _, _ => none
  | n + 1, x1, x2, v => (if (v 1 1) ≤ x2 then (some (x1, v)) else ((f_X5_told x2 4 v).bind (fun (r2, v2) => (if 0 ≤ r2 then (f_X5_contracts_L n (x1 + 1) (x2 + 1) v2) else (f_X5_contracts_L n (x1 + 0) (x2 + 1) v2)))))
def f_X5_contracts  (v : jx_V) : Option (Int32 × jx_V) := (f_X5_contracts_L 100000 0 0 v)
def rm_X5_contracts : Room := { frames := 2, cells := 0, slots := 0, locals := 43 }
set_option maxHeartbeats 4000000 in
set_option maxRecDepth 100000 in
theorem k_X5_contracts {l : Launch} {D : va_G} {cI cJ : ClassId} {ad : Nat → Nat} {A : Nat → Prop} (hI : jx_inj 13 ad A)  (v : jx_V) (r : Int32) (v' : jx_V) (hF : f_X5_contracts  v = some (r, v')) : jx_Ci l D vwCl 13 cI cJ ad shM A ex_M yX5_contracts (Cond.code yX5_contracts cX5_contracts 3 (some .int) :: bigT) rm_X5_contracts [.ref (ad 0)] v r v' := by
  unfold f_X5_contracts at hF
  refine jx_enteri bigT RX5 cX5_contracts 3 (some .int) [(0, .ref (ad 0))] hI (ex_M_ok A) (by decide +kernel) rfl (Nat.le_of_ble_eq_true rfl) rfl rfl ?_
  intro p e s m args below meth c E
  have iX5 : ∀ w ∈ u_ws RX5 TX5 21, w ∈ (Cond.code yX5_contracts cX5_contracts 3 (some .int) :: bigT) := fun w h => List.mem_cons_of_mem _ (uw_X5 w h)
  have key : ∀ n : Nat, (∀ (x1 : Int32) (x2 : Int32) (v : jx_V), f_X5_contracts_L  n  x1 x2 v = some (r, v') → jx_J p l e rm_X5_contracts s m args below meth c D vwCl 13 cI cJ ad shM A 0 0 3 (MQ below (va_Qi (fun (r1 : Int32) (_ : Unit) => r1 = r) (fun _ t => va_P D vwCl (jx_ws 13 cI cJ ad shM v') t.heap) A) args s 0 0 A) v 4 [(0, .ref (ad 0)), (1, .int x1), (2, .int x2)] []) := by
    intro n
    induction n with
    | zero =>
      exact (fun _ _ _ h => by cases h)
    | succ n ih =>
      intro x1 x2 v hF
      rw [f_X5_contracts_L] at hF
      refine jx_iload_n E dX5_contracts_4 2 rfl ?_
      refine jx_aload_n E dX5_contracts_5 0 rfl ?_
      refine jx_getr (C := RX5) (T := TX5) (M := 21) (k := 0) E dX5_contracts_6 (Nat.le_of_ble_eq_true rfl) s_M0 rfl iX5 (by decide) rfl (List.mem_cons_of_mem _ tw_328) rfl ?_
      refine jx_iconst (x := 1) E dX5_contracts_9 (by decide) ?_
      refine jx_iald (h := 1) (j := 1) E dX5_contracts_10 (Nat.le_of_ble_eq_true rfl) s_M1 (by decide) (by decide) ?_
      refine jx_icmp_ge (tgt := 37) E dX5_contracts_11 (by decide) (fun hc1 => ?_) (fun hc1 => ?_)
      · rw [if_pos hc1] at hF
        refine jx_iload_n E dX5_contracts_37 1 rfl ?_
        obtain ⟨rfl, rfl⟩ := jx_out hF
        exact jx_iret E dX5_contracts_38 rfl
      · rw [if_neg hc1] at hF
        refine jx_iload_n E dX5_contracts_14 1 rfl ?_
        refine jx_aload_n E dX5_contracts_15 0 rfl ?_
        refine jx_iload_n E dX5_contracts_16 2 rfl ?_
        refine jx_iconst (x := 4) E dX5_contracts_17 (by decide) ?_
        obtain ⟨⟨r2, v2⟩, hc2, hF⟩ := jx_bind hF
        try dsimp only at hF
        refine jx_callVi (As := [.int x2, .int 4]) (st := [.int x1]) (h := 0) E dX5_contracts_18 2 rfl (k_X5_told hI x2 4 v r2 v2 hc2) (gb_V (List.mem_cons_of_mem _ tw_402) (List.mem_cons_of_mem _ tw_403) (List.mem_cons_of_mem _ tw_404) (List.mem_cons_of_mem _ tw_325) tw_401) rfl rfl rfl dd_X5_told rfl (Nat.le_of_ble_eq_true rfl) s_M0 rfl ⟨by decide, by decide⟩ ⟨Nat.le_refl 0, Nat.le_refl 0⟩ (Nat.le_of_ble_eq_true rfl) ?_
        refine jx_if_ge (tgt := 28) E dX5_contracts_21 (by decide) (fun hc3 => ?_) (fun hc3 => ?_)
        · rw [if_pos hc3] at hF
          refine jx_iconst (x := 1) E dX5_contracts_28 (by decide) ?_
          refine jx_iadd E dX5_contracts_29 ?_
          refine jx_istore_n (lv' := [(1, .int (x1 + 1)), (0, .ref (ad 0)), (2, .int x2)]) E dX5_contracts_30 (by decide) rfl ?_
          refine jx_iinc (y := (x2 + 1)) (lv' := [(2, .int (x2 + 1)), (1, .int (x1 + 1)), (0, .ref (ad 0))]) E dX5_contracts_31 2 rfl rfl (by decide) rfl ?_
          refine jx_goto (tgt := 4) E dX5_contracts_34 (by decide) ?_
          refine jx_sub [2, 1, 0] rfl ?_
          exact ih (x1 + 1) (x2 + 1) v2 hF
        · rw [if_neg hc3] at hF
          refine jx_iconst (x := 0) E dX5_contracts_24 (by decide) ?_
          refine jx_goto (tgt := 29) E dX5_contracts_25 (by decide) ?_
          refine jx_iadd E dX5_contracts_29 ?_
          refine jx_istore_n (lv' := [(1, .int (x1 + 0)), (0, .ref (ad 0)), (2, .int x2)]) E dX5_contracts_30 (by decide) rfl ?_
          refine jx_iinc (y := (x2 + 1)) (lv' := [(2, .int (x2 + 1)), (1, .int (x1 + 0)), (0, .ref (ad 0))]) E dX5_contracts_31 2 rfl rfl (by decide) rfl ?_
          refine jx_goto (tgt := 4) E dX5_contracts_34 (by decide) ?_
          refine jx_sub [2, 1, 0] rfl ?_
          exact ih (x1 + 0) (x2 + 1) v2 hF
  refine jx_iconst (x := 0) E dX5_contracts_0 (by decide) ?_
  refine jx_istore_n (lv' := [(1, .int 0), (0, .ref (ad 0))]) E dX5_contracts_1 (by decide) rfl ?_
  refine jx_iconst (x := 0) E dX5_contracts_2 (by decide) ?_
  refine jx_istore_n (lv' := [(2, .int 0), (1, .int 0), (0, .ref (ad 0))]) E dX5_contracts_3 (by decide) rfl ?_
  refine jx_sub [2, 1, 0] rfl ?_
  exact (key 100000) 0 0 v hF
def f_X5_held_L  : Nat → Int32 → Int32 → jx_V → Option (Int32 × jx_V)
  | 0, _, _, _ => none
  | n + 1, x1, x2, v => (if 10 ≤ x2 then (some (x1, v)) else (if ((171 + x2) < 0 ∨ 181 ≤ Int32.toNatClampNeg (171 + x2)) then none else (if 0 ≤ (v 1 (Int32.toNatClampNeg (171 + x2))) then (f_X5_held_L n (x1 + 1) (x2 + 1) v) else (f_X5_held_L n (x1 + 0) (x2 + 1) v))))
def f_X5_held  (v : jx_V) : Option (Int32 × jx_V) := (f_X5_held_L 100000 0 0 v)
def rm_X5_held : Room := { frames := 0, cells := 0, slots := 0, locals := 0 }
set_option maxHeartbeats 4000000 in
set_option maxRecDepth 100000 in
theorem k_X5_held {l : Launch} {D : va_G} {cI cJ : ClassId} {ad : Nat → Nat} {A : Nat → Prop} (hI : jx_inj 13 ad A)  (v : jx_V) (r : Int32) (v' : jx_V) (hF : f_X5_held  v = some (r, v')) : jx_Ci l D vwCl 13 cI cJ ad shM A ex_M yX5_held (Cond.code yX5_held cX5_held 3 (some .int) :: bigT) rm_X5_held [.ref (ad 0)] v r v' := by
  unfold f_X5_held at hF
  refine jx_enteri bigT RX5 cX5_held 3 (some .int) [(0, .ref (ad 0))] hI (ex_M_ok A) (by decide +kernel) rfl (Nat.le_of_ble_eq_true rfl) rfl rfl ?_
  intro p e s m args below meth c E
  have iX5 : ∀ w ∈ u_ws RX5 TX5 21, w ∈ (Cond.code yX5_held cX5_held 3 (some .int) :: bigT) := fun w h => List.mem_cons_of_mem _ (uw_X5 w h)
  have key : ∀ n : Nat, (∀ (x1 : Int32) (x2 : Int32) (v : jx_V), f_X5_held_L  n  x1 x2 v = some (r, v') → jx_J p l e rm_X5_held s m args below meth c D vwCl 13 cI cJ ad shM A 0 0 3 (MQ below (va_Qi (fun (r1 : Int32) (_ : Unit) => r1 = r) (fun _ t => va_P D vwCl (jx_ws 13 cI cJ ad shM v') t.heap) A) args s 0 0 A) v 4 [(0, .ref (ad 0)), (1, .int x1), (2, .int x2)] []) := by
    intro n
    induction n with
    | zero =>
      exact (fun _ _ _ h => by cases h)
    | succ n ih =>
      intro x1 x2 v hF
      rw [f_X5_held_L] at hF
      refine jx_iload_n E dX5_held_4 2 rfl ?_
      refine jx_bipush (x := 10) E dX5_held_5 (by decide) ?_
      refine jx_icmp_ge (tgt := 37) E dX5_held_7 (by decide) (fun hc1 => ?_) (fun hc1 => ?_)
      · rw [if_pos hc1] at hF
        refine jx_iload_n E dX5_held_37 1 rfl ?_
        obtain ⟨rfl, rfl⟩ := jx_out hF
        exact jx_iret E dX5_held_38 rfl
      · rw [if_neg hc1] at hF
        refine jx_iload_n E dX5_held_10 1 rfl ?_
        refine jx_aload_n E dX5_held_11 0 rfl ?_
        refine jx_getr (C := RX5) (T := TX5) (M := 21) (k := 0) E dX5_held_12 (Nat.le_of_ble_eq_true rfl) s_M0 rfl iX5 (by decide) rfl (List.mem_cons_of_mem _ tw_328) rfl ?_
        refine jx_sipush (x := 171) E dX5_held_15 (by decide) ?_
        refine jx_iload_n E dX5_held_18 2 rfl ?_
        refine jx_iadd E dX5_held_19 ?_
        obtain ⟨hg2, hF⟩ := jx_guard hF
        refine jx_iald (h := 1) (j := (Int32.toNatClampNeg (171 + x2))) E dX5_held_20 (Nat.le_of_ble_eq_true rfl) s_M1 hg2 rfl ?_
        refine jx_if_ge (tgt := 28) E dX5_held_21 (by decide) (fun hc3 => ?_) (fun hc3 => ?_)
        · rw [if_pos hc3] at hF
          refine jx_iconst (x := 1) E dX5_held_28 (by decide) ?_
          refine jx_iadd E dX5_held_29 ?_
          refine jx_istore_n (lv' := [(1, .int (x1 + 1)), (0, .ref (ad 0)), (2, .int x2)]) E dX5_held_30 (by decide) rfl ?_
          refine jx_iinc (y := (x2 + 1)) (lv' := [(2, .int (x2 + 1)), (1, .int (x1 + 1)), (0, .ref (ad 0))]) E dX5_held_31 2 rfl rfl (by decide) rfl ?_
          refine jx_goto (tgt := 4) E dX5_held_34 (by decide) ?_
          refine jx_sub [2, 1, 0] rfl ?_
          exact ih (x1 + 1) (x2 + 1) v hF
        · rw [if_neg hc3] at hF
          refine jx_iconst (x := 0) E dX5_held_24 (by decide) ?_
          refine jx_goto (tgt := 29) E dX5_held_25 (by decide) ?_
          refine jx_iadd E dX5_held_29 ?_
          refine jx_istore_n (lv' := [(1, .int (x1 + 0)), (0, .ref (ad 0)), (2, .int x2)]) E dX5_held_30 (by decide) rfl ?_
          refine jx_iinc (y := (x2 + 1)) (lv' := [(2, .int (x2 + 1)), (1, .int (x1 + 0)), (0, .ref (ad 0))]) E dX5_held_31 2 rfl rfl (by decide) rfl ?_
          refine jx_goto (tgt := 4) E dX5_held_34 (by decide) ?_
          refine jx_sub [2, 1, 0] rfl ?_
          exact ih (x1 + 0) (x2 + 1) v hF
  refine jx_iconst (x := 0) E dX5_held_0 (by decide) ?_
  refine jx_istore_n (lv' := [(1, .int 0), (0, .ref (ad 0))]) E dX5_held_1 (by decide) rfl ?_
  refine jx_iconst (x := 0) E dX5_held_2 (by decide) ?_
  refine jx_istore_n (lv' := [(2, .int 0), (1, .int 0), (0, .ref (ad 0))]) E dX5_held_3 (by decide) rfl ?_
  refine jx_sub [2, 1, 0] rfl ?_
  exact (key 100000) 0 0 v hF
def f_X5_count (x1 : Int32) (v : jx_V) : Option (Int32 × jx_V) := (if x1 = 0 then (some ((v 1 0), v)) else (if x1 = 1 then ((f_X5_things v).bind (fun (r3, v3) => (some (r3, v3)))) else (if x1 = 2 then (some ((v 1 1), v)) else (if x1 = 3 then ((f_X5_heights v).bind (fun (r6, v6) => (some (r6, v6)))) else (if x1 = 4 then ((f_X5_contracts v).bind (fun (r8, v8) => (some (r8, v8)))) else (if x1 = 5 then (some ((v 0 12), v)) else (if x1 = 6 then (some ((v 1 2), v)) else (if x1 = 7 then ((f_X5_held v).bind (fun (r12, v12) => (some (r12, v12)))) else ((f_X5_finds (-1000001) v).bind (fun (r13, v13) => (some (r13, v13))))))))))))
def rm_X5_count : Room := { frames := 4, cells := 0, slots := 0, locals := 86 }
set_option maxHeartbeats 4000000 in
set_option maxRecDepth 100000 in
theorem k_X5_count {l : Launch} {D : va_G} {cI cJ : ClassId} {ad : Nat → Nat} {A : Nat → Prop} (hI : jx_inj 13 ad A) (x1 : Int32) (v : jx_V) (r : Int32) (v' : jx_V) (hF : f_X5_count x1 v = some (r, v')) : jx_Ci l D vwCl 13 cI cJ ad shM A ex_M yX5_count (Cond.code yX5_count cX5_count 2 (some .int) :: bigT) rm_X5_count [.ref (ad 0), .int x1] v r v' := by
  unfold f_X5_count at hF
  refine jx_enteri bigT RX5 cX5_count 2 (some .int) [(0, .ref (ad 0)), (1, .int x1)] hI (ex_M_ok A) (by decide +kernel) rfl (Nat.le_of_ble_eq_true rfl) rfl rfl ?_
  intro p e s m args below meth c E
  have iX5 : ∀ w ∈ u_ws RX5 TX5 21, w ∈ (Cond.code yX5_count cX5_count 2 (some .int) :: bigT) := fun w h => List.mem_cons_of_mem _ (uw_X5 w h)
  refine jx_iload_n E dX5_count_0 1 rfl ?_
  by_cases hc1 : x1 = 0
  · rw [if_pos hc1] at hF
    refine jx_tableIn (tgt := 48) (z := 0) E dX5_count_1 hc1 (by decide) (by decide) rfl (by decide) ?_
    refine jx_aload_n E dX5_count_48 0 rfl ?_
    refine jx_getr (C := RX5) (T := TX5) (M := 21) (k := 0) E dX5_count_49 (Nat.le_of_ble_eq_true rfl) s_M0 rfl iX5 (by decide) rfl (List.mem_cons_of_mem _ tw_328) rfl ?_
    refine jx_iconst (x := 0) E dX5_count_52 (by decide) ?_
    refine jx_iald (h := 1) (j := 0) E dX5_count_53 (Nat.le_of_ble_eq_true rfl) s_M1 (by decide) (by decide) ?_
    obtain ⟨rfl, rfl⟩ := jx_out hF
    exact jx_iret E dX5_count_54 rfl
  rw [if_neg hc1] at hF
  by_cases hc2 : x1 = 1
  · rw [if_pos hc2] at hF
    refine jx_tableIn (tgt := 55) (z := 1) E dX5_count_1 hc2 (by decide) (by decide) rfl (by decide) ?_
    refine jx_aload_n E dX5_count_55 0 rfl ?_
    obtain ⟨⟨r3, v3⟩, hc3, hF⟩ := jx_bind hF
    try dsimp only at hF
    refine jx_callVi (As := []) (st := []) (h := 0) E dX5_count_56 0 rfl (k_X5_things hI  v r3 v3 hc3) (gb_V (List.mem_cons_of_mem _ tw_361) (List.mem_cons_of_mem _ tw_362) (List.mem_cons_of_mem _ tw_363) (List.mem_cons_of_mem _ tw_325) tw_360) rfl rfl rfl dd_X5_things rfl (Nat.le_of_ble_eq_true rfl) s_M0 rfl ⟨by decide, by decide⟩ ⟨Nat.le_refl 0, Nat.le_refl 0⟩ (Nat.le_of_ble_eq_true rfl) ?_
    obtain ⟨rfl, rfl⟩ := jx_out hF
    exact jx_iret E dX5_count_59 rfl
  rw [if_neg hc2] at hF
  by_cases hc4 : x1 = 2
  · rw [if_pos hc4] at hF
    refine jx_tableIn (tgt := 60) (z := 2) E dX5_count_1 hc4 (by decide) (by decide) rfl (by decide) ?_
    refine jx_aload_n E dX5_count_60 0 rfl ?_
    refine jx_getr (C := RX5) (T := TX5) (M := 21) (k := 0) E dX5_count_61 (Nat.le_of_ble_eq_true rfl) s_M0 rfl iX5 (by decide) rfl (List.mem_cons_of_mem _ tw_328) rfl ?_
    refine jx_iconst (x := 1) E dX5_count_64 (by decide) ?_
    refine jx_iald (h := 1) (j := 1) E dX5_count_65 (Nat.le_of_ble_eq_true rfl) s_M1 (by decide) (by decide) ?_
    obtain ⟨rfl, rfl⟩ := jx_out hF
    exact jx_iret E dX5_count_66 rfl
  rw [if_neg hc4] at hF
  by_cases hc5 : x1 = 3
  · rw [if_pos hc5] at hF
    refine jx_tableIn (tgt := 67) (z := 3) E dX5_count_1 hc5 (by decide) (by decide) rfl (by decide) ?_
    refine jx_aload_n E dX5_count_67 0 rfl ?_
    obtain ⟨⟨r6, v6⟩, hc6, hF⟩ := jx_bind hF
    try dsimp only at hF
    refine jx_callVi (As := []) (st := []) (h := 0) E dX5_count_68 0 rfl (k_X5_heights hI  v r6 v6 hc6) (gb_V (List.mem_cons_of_mem _ tw_598) (List.mem_cons_of_mem _ tw_599) (List.mem_cons_of_mem _ tw_600) (List.mem_cons_of_mem _ tw_325) tw_597) rfl rfl rfl dd_X5_heights rfl (Nat.le_of_ble_eq_true rfl) s_M0 rfl ⟨by decide, by decide⟩ ⟨Nat.le_refl 0, Nat.le_refl 0⟩ (Nat.le_of_ble_eq_true rfl) ?_
    obtain ⟨rfl, rfl⟩ := jx_out hF
    exact jx_iret E dX5_count_71 rfl
  rw [if_neg hc5] at hF
  by_cases hc7 : x1 = 4
  · rw [if_pos hc7] at hF
    refine jx_tableIn (tgt := 72) (z := 4) E dX5_count_1 hc7 (by decide) (by decide) rfl (by decide) ?_
    refine jx_aload_n E dX5_count_72 0 rfl ?_
    obtain ⟨⟨r8, v8⟩, hc8, hF⟩ := jx_bind hF
    try dsimp only at hF
    refine jx_callVi (As := []) (st := []) (h := 0) E dX5_count_73 0 rfl (k_X5_contracts hI  v r8 v8 hc8) (gb_V (List.mem_cons_of_mem _ tw_602) (List.mem_cons_of_mem _ tw_603) (List.mem_cons_of_mem _ tw_604) (List.mem_cons_of_mem _ tw_325) tw_601) rfl rfl rfl dd_X5_contracts rfl (Nat.le_of_ble_eq_true rfl) s_M0 rfl ⟨by decide, by decide⟩ ⟨Nat.le_refl 0, Nat.le_refl 0⟩ (Nat.le_of_ble_eq_true rfl) ?_
    obtain ⟨rfl, rfl⟩ := jx_out hF
    exact jx_iret E dX5_count_76 rfl
  rw [if_neg hc7] at hF
  by_cases hc9 : x1 = 5
  · rw [if_pos hc9] at hF
    refine jx_tableIn (tgt := 77) (z := 5) E dX5_count_1 hc9 (by decide) (by decide) rfl (by decide) ?_
    refine jx_aload_n E dX5_count_77 0 rfl ?_
    refine jx_geti (C := RX5) (T := TX5) (M := 21) (k := 12) E dX5_count_78 (Nat.le_of_ble_eq_true rfl) s_M0 rfl iX5 (by decide) rfl (List.mem_cons_of_mem _ tw_495) rfl ?_
    obtain ⟨rfl, rfl⟩ := jx_out hF
    exact jx_iret E dX5_count_81 rfl
  rw [if_neg hc9] at hF
  by_cases hc10 : x1 = 6
  · rw [if_pos hc10] at hF
    refine jx_tableIn (tgt := 82) (z := 6) E dX5_count_1 hc10 (by decide) (by decide) rfl (by decide) ?_
    refine jx_aload_n E dX5_count_82 0 rfl ?_
    refine jx_getr (C := RX5) (T := TX5) (M := 21) (k := 0) E dX5_count_83 (Nat.le_of_ble_eq_true rfl) s_M0 rfl iX5 (by decide) rfl (List.mem_cons_of_mem _ tw_328) rfl ?_
    refine jx_iconst (x := 2) E dX5_count_86 (by decide) ?_
    refine jx_iald (h := 1) (j := 2) E dX5_count_87 (Nat.le_of_ble_eq_true rfl) s_M1 (by decide) (by decide) ?_
    obtain ⟨rfl, rfl⟩ := jx_out hF
    exact jx_iret E dX5_count_88 rfl
  rw [if_neg hc10] at hF
  by_cases hc11 : x1 = 7
  · rw [if_pos hc11] at hF
    refine jx_tableIn (tgt := 89) (z := 7) E dX5_count_1 hc11 (by decide) (by decide) rfl (by decide) ?_
    refine jx_aload_n E dX5_count_89 0 rfl ?_
    obtain ⟨⟨r12, v12⟩, hc12, hF⟩ := jx_bind hF
    try dsimp only at hF
    refine jx_callVi (As := []) (st := []) (h := 0) E dX5_count_90 0 rfl (k_X5_held hI  v r12 v12 hc12) (gb_V (List.mem_cons_of_mem _ tw_606) (List.mem_cons_of_mem _ tw_607) (List.mem_cons_of_mem _ tw_608) (List.mem_cons_of_mem _ tw_325) tw_605) rfl rfl rfl dd_X5_held rfl (Nat.le_of_ble_eq_true rfl) s_M0 rfl ⟨by decide, by decide⟩ ⟨Nat.le_refl 0, Nat.le_refl 0⟩ (Nat.le_of_ble_eq_true rfl) ?_
    obtain ⟨rfl, rfl⟩ := jx_out hF
    exact jx_iret E dX5_count_93 rfl
  rw [if_neg hc11] at hF
  refine jx_tableOut (tgt := 94) E dX5_count_1 (by have hz1 := jx_ne hc1 (k := 0) (by decide); have hz2 := jx_ne hc2 (k := 1) (by decide); have hz4 := jx_ne hc4 (k := 2) (by decide); have hz5 := jx_ne hc5 (k := 3) (by decide); have hz7 := jx_ne hc7 (k := 4) (by decide); have hz9 := jx_ne hc9 (k := 5) (by decide); have hz10 := jx_ne hc10 (k := 6) (by decide); have hz11 := jx_ne hc11 (k := 7) (by decide); omega) (by decide) ?_
  refine jx_aload_n E dX5_count_94 0 rfl ?_
  refine jx_ldc (x := -1000001) E dX5_count_95 (List.mem_cons_of_mem _ tw_320) ?_
  obtain ⟨⟨r13, v13⟩, hc13, hF⟩ := jx_bind hF
  try dsimp only at hF
  refine jx_callVi (As := [.int (-1000001)]) (st := []) (h := 0) E dX5_count_97 1 rfl (k_X5_finds hI (-1000001) v r13 v13 hc13) (gb_V (List.mem_cons_of_mem _ tw_344) (List.mem_cons_of_mem _ tw_345) (List.mem_cons_of_mem _ tw_346) (List.mem_cons_of_mem _ tw_325) tw_343) rfl rfl rfl dd_X5_finds rfl (Nat.le_of_ble_eq_true rfl) s_M0 rfl ⟨by decide, by decide⟩ ⟨Nat.le_refl 0, Nat.le_refl 0⟩ (Nat.le_of_ble_eq_true rfl) ?_
  obtain ⟨rfl, rfl⟩ := jx_out hF
  exact jx_iret E dX5_count_100 rfl
def f_X5_status_L  : Nat → Int32 → Int32 → Int32 → jx_V → Option (Int32 × jx_V)
  | 0, _, _, _, _ => none
  | n + 1, x1, x2, x3, v => (if 7 ≤ x3 then (some (x2, v)) else (if x1 < 0 then (if (x3 < 0 ∨ 7 ≤ Int32.toNatClampNeg x3) then none else (f_X5_status_L n x1 (x2 + (v 4 (Int32.toNatClampNeg x3))) (x3 + 1) v)) else (if x3 = x1 then (if (x3 < 0 ∨ 7 ≤ Int32.toNatClampNeg x3) then none else (f_X5_status_L n x1 (x2 + (v 4 (Int32.toNatClampNeg x3))) (x3 + 1) v)) else (f_X5_status_L n x1 (x2 + 0) (x3 + 1) v))))
def f_X5_status (x1 : Int32) (v : jx_V) : Option (Int32 × jx_V) := ((f_X5_in (Int32.toInt64 x1) (-1) 6 v).bind (fun (r1, v1) => (if r1 = 0 then ((f_X5_finds (-1000001) v1).bind (fun (r3, v3) => (some (r3, v3)))) else (f_X5_status_L 100000 x1 0 0 v1))))
def rm_X5_status : Room := { frames := 1, cells := 0, slots := 0, locals := 25 }
set_option maxHeartbeats 4000000 in
set_option maxRecDepth 100000 in
theorem k_X5_status {l : Launch} {D : va_G} {cI cJ : ClassId} {ad : Nat → Nat} {A : Nat → Prop} (hI : jx_inj 13 ad A) (x1 : Int32) (v : jx_V) (r : Int32) (v' : jx_V) (hF : f_X5_status x1 v = some (r, v')) : jx_Ci l D vwCl 13 cI cJ ad shM A ex_M yX5_status (Cond.code yX5_status cX5_status 4 (some .int) :: bigT) rm_X5_status [.ref (ad 0), .int x1] v r v' := by
  unfold f_X5_status at hF
  refine jx_enteri bigT RX5 cX5_status 4 (some .int) [(0, .ref (ad 0)), (1, .int x1)] hI (ex_M_ok A) (by decide +kernel) rfl (Nat.le_of_ble_eq_true rfl) rfl rfl ?_
  intro p e s m args below meth c E
  have iX5 : ∀ w ∈ u_ws RX5 TX5 21, w ∈ (Cond.code yX5_status cX5_status 4 (some .int) :: bigT) := fun w h => List.mem_cons_of_mem _ (uw_X5 w h)
  have key : ∀ n : Nat, (∀ (x1 : Int32) (x2 : Int32) (x3 : Int32) (v : jx_V), f_X5_status_L  n  x1 x2 x3 v = some (r, v') → jx_J p l e rm_X5_status s m args below meth c D vwCl 13 cI cJ ad shM A 0 0 4 (MQ below (va_Qi (fun (r1 : Int32) (_ : Unit) => r1 = r) (fun _ t => va_P D vwCl (jx_ws 13 cI cJ ad shM v') t.heap) A) args s 0 0 A) v 25 [(0, .ref (ad 0)), (1, .int x1), (2, .int x2), (3, .int x3)] []) := by
    intro n
    induction n with
    | zero =>
      exact (fun _ _ _ _ h => by cases h)
    | succ n ih =>
      intro x1 x2 x3 v hF
      rw [f_X5_status_L] at hF
      refine jx_iload_n E dX5_status_25 3 rfl ?_
      refine jx_bipush (x := 7) E dX5_status_26 (by decide) ?_
      refine jx_icmp_ge (tgt := 59) E dX5_status_28 (by decide) (fun hc4 => ?_) (fun hc4 => ?_)
      · rw [if_pos hc4] at hF
        refine jx_iload_n E dX5_status_59 2 rfl ?_
        obtain ⟨rfl, rfl⟩ := jx_out hF
        exact jx_iret E dX5_status_60 rfl
      · rw [if_neg hc4] at hF
        refine jx_iload_n E dX5_status_31 2 rfl ?_
        refine jx_iload_n E dX5_status_32 1 rfl ?_
        refine jx_if_lt (tgt := 41) E dX5_status_33 (by decide) (fun hc5 => ?_) (fun hc5 => ?_)
        · rw [if_pos hc5] at hF
          refine jx_aload_n E dX5_status_41 0 rfl ?_
          refine jx_getr (C := RX5) (T := TX5) (M := 21) (k := 3) E dX5_status_42 (Nat.le_of_ble_eq_true rfl) s_M0 rfl iX5 (by decide) rfl (List.mem_cons_of_mem _ tw_319) rfl ?_
          refine jx_iload_n E dX5_status_45 3 rfl ?_
          obtain ⟨hg6, hF⟩ := jx_guard hF
          refine jx_iald (h := 4) (j := (Int32.toNatClampNeg x3)) E dX5_status_46 (Nat.le_of_ble_eq_true rfl) s_M4 hg6 rfl ?_
          refine jx_goto (tgt := 51) E dX5_status_47 (by decide) ?_
          refine jx_iadd E dX5_status_51 ?_
          refine jx_istore_n (lv' := [(2, .int (x2 + (v 4 (Int32.toNatClampNeg x3)))), (0, .ref (ad 0)), (1, .int x1), (3, .int x3)]) E dX5_status_52 (by decide) rfl ?_
          refine jx_iinc (y := (x3 + 1)) (lv' := [(3, .int (x3 + 1)), (2, .int (x2 + (v 4 (Int32.toNatClampNeg x3)))), (0, .ref (ad 0)), (1, .int x1)]) E dX5_status_53 3 rfl rfl (by decide) rfl ?_
          refine jx_goto (tgt := 25) E dX5_status_56 (by decide) ?_
          refine jx_sub [2, 3, 1, 0] rfl ?_
          exact ih x1 (x2 + (v 4 (Int32.toNatClampNeg x3))) (x3 + 1) v hF
        · rw [if_neg hc5] at hF
          refine jx_iload_n E dX5_status_36 3 rfl ?_
          refine jx_iload_n E dX5_status_37 1 rfl ?_
          refine jx_icmp_ne (tgt := 50) E dX5_status_38 (by decide) (fun hc7 => ?_) (fun hc7 => ?_)
          · rw [if_neg hc7] at hF
            refine jx_iconst (x := 0) E dX5_status_50 (by decide) ?_
            refine jx_iadd E dX5_status_51 ?_
            refine jx_istore_n (lv' := [(2, .int (x2 + 0)), (0, .ref (ad 0)), (1, .int x1), (3, .int x3)]) E dX5_status_52 (by decide) rfl ?_
            refine jx_iinc (y := (x3 + 1)) (lv' := [(3, .int (x3 + 1)), (2, .int (x2 + 0)), (0, .ref (ad 0)), (1, .int x1)]) E dX5_status_53 3 rfl rfl (by decide) rfl ?_
            refine jx_goto (tgt := 25) E dX5_status_56 (by decide) ?_
            refine jx_sub [2, 3, 1, 0] rfl ?_
            exact ih x1 (x2 + 0) (x3 + 1) v hF
          · rw [if_pos hc7] at hF
            refine jx_aload_n E dX5_status_41 0 rfl ?_
            refine jx_getr (C := RX5) (T := TX5) (M := 21) (k := 3) E dX5_status_42 (Nat.le_of_ble_eq_true rfl) s_M0 rfl iX5 (by decide) rfl (List.mem_cons_of_mem _ tw_319) rfl ?_
            refine jx_iload_n E dX5_status_45 3 rfl ?_
            obtain ⟨hg8, hF⟩ := jx_guard hF
            refine jx_iald (h := 4) (j := (Int32.toNatClampNeg x3)) E dX5_status_46 (Nat.le_of_ble_eq_true rfl) s_M4 hg8 rfl ?_
            refine jx_goto (tgt := 51) E dX5_status_47 (by decide) ?_
            refine jx_iadd E dX5_status_51 ?_
            refine jx_istore_n (lv' := [(2, .int (x2 + (v 4 (Int32.toNatClampNeg x3)))), (0, .ref (ad 0)), (1, .int x1), (3, .int x3)]) E dX5_status_52 (by decide) rfl ?_
            refine jx_iinc (y := (x3 + 1)) (lv' := [(3, .int (x3 + 1)), (2, .int (x2 + (v 4 (Int32.toNatClampNeg x3)))), (0, .ref (ad 0)), (1, .int x1)]) E dX5_status_53 3 rfl rfl (by decide) rfl ?_
            refine jx_goto (tgt := 25) E dX5_status_56 (by decide) ?_
            refine jx_sub [2, 3, 1, 0] rfl ?_
            exact ih x1 (x2 + (v 4 (Int32.toNatClampNeg x3))) (x3 + 1) v hF
  refine jx_iload_n E dX5_status_0 1 rfl ?_
  refine jx_i2l E dX5_status_1 ?_
  refine jx_ldc2 (x := -1) E dX5_status_2 (List.mem_cons_of_mem _ tw_425) ?_
  refine jx_ldc2 (x := 6) E dX5_status_5 (List.mem_cons_of_mem _ tw_342) ?_
  obtain ⟨⟨r1, v1⟩, hc1, hF⟩ := jx_bind hF
  try dsimp only at hF
  refine jx_callSi (As := [.long (Int32.toInt64 x1), .long (-1), .long 6]) (st := []) E dX5_status_8 3 rfl (k_X5_in hI (Int32.toInt64 x1) (-1) 6 v r1 v1 hc1) (gb_S (List.mem_cons_of_mem _ tw_323) (List.mem_cons_of_mem _ tw_324) (List.mem_cons_of_mem _ tw_325) tw_322) rfl rfl rfl dd_X5_in rfl ⟨by decide, by decide⟩ ⟨Nat.le_refl 0, Nat.le_refl 0⟩ (Nat.le_of_ble_eq_true rfl) ?_
  refine jx_if_ne (tgt := 21) E dX5_status_11 (by decide) (fun hc2 => ?_) (fun hc2 => ?_)
  · rw [if_neg hc2] at hF
    refine jx_iconst (x := 0) E dX5_status_21 (by decide) ?_
    refine jx_istore_n (lv' := [(2, .int 0), (0, .ref (ad 0)), (1, .int x1)]) E dX5_status_22 (by decide) rfl ?_
    refine jx_iconst (x := 0) E dX5_status_23 (by decide) ?_
    refine jx_istore_n (lv' := [(3, .int 0), (2, .int 0), (0, .ref (ad 0)), (1, .int x1)]) E dX5_status_24 (by decide) rfl ?_
    refine jx_sub [2, 3, 1, 0] rfl ?_
    exact (key 100000) x1 0 0 v1 hF
  · rw [if_pos hc2] at hF
    refine jx_aload_n E dX5_status_14 0 rfl ?_
    refine jx_ldc (x := -1000001) E dX5_status_15 (List.mem_cons_of_mem _ tw_320) ?_
    obtain ⟨⟨r3, v3⟩, hc3, hF⟩ := jx_bind hF
    try dsimp only at hF
    refine jx_callVi (As := [.int (-1000001)]) (st := []) (h := 0) E dX5_status_17 1 rfl (k_X5_finds hI (-1000001) v1 r3 v3 hc3) (gb_V (List.mem_cons_of_mem _ tw_344) (List.mem_cons_of_mem _ tw_345) (List.mem_cons_of_mem _ tw_346) (List.mem_cons_of_mem _ tw_325) tw_343) rfl rfl rfl dd_X5_finds rfl (Nat.le_of_ble_eq_true rfl) s_M0 rfl ⟨by decide, by decide⟩ ⟨Nat.le_refl 0, Nat.le_refl 0⟩ (Nat.le_of_ble_eq_true rfl) ?_
    obtain ⟨rfl, rfl⟩ := jx_out hF
    exact jx_iret E dX5_status_20 rfl
