def f_X5_in (x0 : Int64) (x2 : Int64) (x4 : Int64) (v : jx_V) : Option (Int32 × jx_V) := (if (lg_cmp x0 x2) < 0 then (some (0, v)) else (if 0 < (lg_cmp x0 x4) then (some (0, v)) else (some (1, v))))
def rm_X5_in : Room := { frames := 0, cells := 0, slots := 0, locals := 0 }
set_option maxHeartbeats 4000000 in
set_option maxRecDepth 100000 in
theorem k_X5_in {l : Launch} {D : va_G} {cI cJ : ClassId} {ad : Nat → Nat} {A : Nat → Prop} (hI : jx_inj 13 ad A) (x0 : Int64) (x2 : Int64) (x4 : Int64) (v : jx_V) (r : Int32) (v' : jx_V) (hF : f_X5_in x0 x2 x4 v = some (r, v')) : jx_Ci l D vwCl 13 cI cJ ad shM A ex_M yX5_in (Cond.code yX5_in cX5_in 6 (some .boolean) :: bigT) rm_X5_in [.long x0, .long x2, .long x4] v r v' := by
  unfold f_X5_in at hF
  refine jx_enteri bigT RX5 cX5_in 6 (some .boolean) [(0, .long x0), (2, .long x2), (4, .long x4)] hI (ex_M_ok A) (by decide +kernel) rfl (Nat.le_of_ble_eq_true rfl) rfl rfl ?_
  intro p e s m args below meth c E
  refine jx_lload_n E dX5_in_0 0 rfl ?_
  refine jx_lload_n E dX5_in_1 1 rfl ?_
  refine jx_lcmp E dX5_in_2 ?_
  refine jx_if_lt (tgt := 17) E dX5_in_3 (by decide) (fun hc1 => ?_) (fun hc1 => ?_)
  · rw [if_pos hc1] at hF
    refine jx_iconst (x := 0) E dX5_in_17 (by decide) ?_
    obtain ⟨rfl, rfl⟩ := jx_out hF
    exact jx_zret E dX5_in_18 rfl (Or.inl rfl)
  · rw [if_neg hc1] at hF
    refine jx_lload_n E dX5_in_6 0 rfl ?_
    refine jx_lload E dX5_in_7 2 rfl ?_
    refine jx_lcmp E dX5_in_9 ?_
    refine jx_if_gt (tgt := 17) E dX5_in_10 (by decide) (fun hc2 => ?_) (fun hc2 => ?_)
    · rw [if_pos hc2] at hF
      refine jx_iconst (x := 0) E dX5_in_17 (by decide) ?_
      obtain ⟨rfl, rfl⟩ := jx_out hF
      exact jx_zret E dX5_in_18 rfl (Or.inl rfl)
    · rw [if_neg hc2] at hF
      refine jx_iconst (x := 1) E dX5_in_13 (by decide) ?_
      refine jx_goto (tgt := 18) E dX5_in_14 (by decide) ?_
      obtain ⟨rfl, rfl⟩ := jx_out hF
      exact jx_zret E dX5_in_18 rfl (Or.inr rfl)
def f_X5_finds (x1 : Int32) (v : jx_V) : Option (Int32 × jx_V) := (if (((-1000001) - x1) < 0 ∨ 7 ≤ Int32.toNatClampNeg ((-1000001) - x1)) then none else (if (((-1000001) - x1) < 0 ∨ 7 ≤ Int32.toNatClampNeg ((-1000001) - x1)) then none else (some (x1, (jx_up v 4 (Int32.toNatClampNeg ((-1000001) - x1)) ((v 4 (Int32.toNatClampNeg ((-1000001) - x1))) + 1))))))
def rm_X5_finds : Room := { frames := 0, cells := 0, slots := 0, locals := 0 }
set_option maxHeartbeats 4000000 in
set_option maxRecDepth 100000 in
theorem k_X5_finds {l : Launch} {D : va_G} {cI cJ : ClassId} {ad : Nat → Nat} {A : Nat → Prop} (hI : jx_inj 13 ad A) (x1 : Int32) (v : jx_V) (r : Int32) (v' : jx_V) (hF : f_X5_finds x1 v = some (r, v')) : jx_Ci l D vwCl 13 cI cJ ad shM A ex_M yX5_finds (Cond.code yX5_finds cX5_finds 2 (some .int) :: bigT) rm_X5_finds [.ref (ad 0), .int x1] v r v' := by
  unfold f_X5_finds at hF
  refine jx_enteri bigT RX5 cX5_finds 2 (some .int) [(0, .ref (ad 0)), (1, .int x1)] hI (ex_M_ok A) (by decide +kernel) rfl (Nat.le_of_ble_eq_true rfl) rfl rfl ?_
  intro p e s m args below meth c E
  have iX5 : ∀ w ∈ u_ws RX5 TX5 21, w ∈ (Cond.code yX5_finds cX5_finds 2 (some .int) :: bigT) := fun w h => List.mem_cons_of_mem _ (uw_X5 w h)
  refine jx_aload_n E dX5_finds_0 0 rfl ?_
  refine jx_getr (C := RX5) (T := TX5) (M := 21) (k := 3) E dX5_finds_1 (Nat.le_of_ble_eq_true rfl) s_M0 rfl iX5 (by decide) rfl (List.mem_cons_of_mem _ tw_319) rfl ?_
  refine jx_ldc (x := -1000001) E dX5_finds_4 (List.mem_cons_of_mem _ tw_320) ?_
  refine jx_iload_n E dX5_finds_6 1 rfl ?_
  refine jx_isub E dX5_finds_7 ?_
  refine jx_dup2 E dX5_finds_8 rfl rfl ?_
  obtain ⟨hg1, hF⟩ := jx_guard hF
  refine jx_iald (h := 4) (j := (Int32.toNatClampNeg ((-1000001) - x1))) E dX5_finds_9 (Nat.le_of_ble_eq_true rfl) s_M4 hg1 rfl ?_
  refine jx_iconst (x := 1) E dX5_finds_10 (by decide) ?_
  refine jx_iadd E dX5_finds_11 ?_
  obtain ⟨hg2, hF⟩ := jx_guard hF
  refine jx_iast (h := 4) (j := (Int32.toNatClampNeg ((-1000001) - x1))) E dX5_finds_12 (Nat.le_of_ble_eq_true rfl) s_M4 hg2 rfl ?_
  refine jx_iload_n E dX5_finds_13 1 rfl ?_
  obtain ⟨rfl, rfl⟩ := jx_out hF
  exact jx_iret E dX5_finds_14 rfl
def f_X5_isLot (x0 : Int32) (v : jx_V) : Option (Int32 × jx_V) := ((f_X5_in (Int32.toInt64 x0) 0 24 v).bind (fun (r1, v1) => (if ¬ (r1 = 0 ∨ r1 = 1) then none else some (r1, v1))))
def rm_X5_isLot : Room := { frames := 1, cells := 0, slots := 0, locals := 25 }
set_option maxHeartbeats 4000000 in
set_option maxRecDepth 100000 in
theorem k_X5_isLot {l : Launch} {D : va_G} {cI cJ : ClassId} {ad : Nat → Nat} {A : Nat → Prop} (hI : jx_inj 13 ad A) (x0 : Int32) (v : jx_V) (r : Int32) (v' : jx_V) (hF : f_X5_isLot x0 v = some (r, v')) : jx_Ci l D vwCl 13 cI cJ ad shM A ex_M yX5_isLot (Cond.code yX5_isLot cX5_isLot 1 (some .boolean) :: bigT) rm_X5_isLot [.int x0] v r v' := by
  unfold f_X5_isLot at hF
  refine jx_enteri bigT RX5 cX5_isLot 1 (some .boolean) [(0, .int x0)] hI (ex_M_ok A) (by decide +kernel) rfl (Nat.le_of_ble_eq_true rfl) rfl rfl ?_
  intro p e s m args below meth c E
  refine jx_iload_n E dX5_isLot_0 0 rfl ?_
  refine jx_i2l E dX5_isLot_1 ?_
  refine jx_lconst (x := 0) E dX5_isLot_2 (by decide) ?_
  refine jx_ldc2 (x := 24) E dX5_isLot_3 (List.mem_cons_of_mem _ tw_321) ?_
  obtain ⟨⟨r1, v1⟩, hc1, hF⟩ := jx_bind hF
  try dsimp only at hF
  refine jx_callSi (As := [.long (Int32.toInt64 x0), .long 0, .long 24]) (st := []) E dX5_isLot_6 3 rfl (k_X5_in hI (Int32.toInt64 x0) 0 24 v r1 v1 hc1) (gb_S (List.mem_cons_of_mem _ tw_323) (List.mem_cons_of_mem _ tw_324) (List.mem_cons_of_mem _ tw_325) tw_322) rfl rfl rfl dd_X5_in rfl ⟨by decide, by decide⟩ ⟨Nat.le_refl 0, Nat.le_refl 0⟩ (Nat.le_of_ble_eq_true rfl) ?_
  obtain ⟨hg2, hF⟩ := jx_guard hF
  obtain ⟨rfl, rfl⟩ := jx_out hF
  exact jx_zret E dX5_isLot_9 rfl (Decidable.not_not.mp hg2)
def f_X5_isOwner (x0 : Int32) (v : jx_V) : Option (Int32 × jx_V) := ((f_X5_in (Int32.toInt64 x0) 0 3 v).bind (fun (r1, v1) => (if ¬ (r1 = 0 ∨ r1 = 1) then none else some (r1, v1))))
def rm_X5_isOwner : Room := { frames := 1, cells := 0, slots := 0, locals := 25 }
set_option maxHeartbeats 4000000 in
set_option maxRecDepth 100000 in
theorem k_X5_isOwner {l : Launch} {D : va_G} {cI cJ : ClassId} {ad : Nat → Nat} {A : Nat → Prop} (hI : jx_inj 13 ad A) (x0 : Int32) (v : jx_V) (r : Int32) (v' : jx_V) (hF : f_X5_isOwner x0 v = some (r, v')) : jx_Ci l D vwCl 13 cI cJ ad shM A ex_M yX5_isOwner (Cond.code yX5_isOwner cX5_isOwner 1 (some .boolean) :: bigT) rm_X5_isOwner [.int x0] v r v' := by
  unfold f_X5_isOwner at hF
  refine jx_enteri bigT RX5 cX5_isOwner 1 (some .boolean) [(0, .int x0)] hI (ex_M_ok A) (by decide +kernel) rfl (Nat.le_of_ble_eq_true rfl) rfl rfl ?_
  intro p e s m args below meth c E
  refine jx_iload_n E dX5_isOwner_0 0 rfl ?_
  refine jx_i2l E dX5_isOwner_1 ?_
  refine jx_lconst (x := 0) E dX5_isOwner_2 (by decide) ?_
  refine jx_ldc2 (x := 3) E dX5_isOwner_3 (List.mem_cons_of_mem _ tw_326) ?_
  obtain ⟨⟨r1, v1⟩, hc1, hF⟩ := jx_bind hF
  try dsimp only at hF
  refine jx_callSi (As := [.long (Int32.toInt64 x0), .long 0, .long 3]) (st := []) E dX5_isOwner_6 3 rfl (k_X5_in hI (Int32.toInt64 x0) 0 3 v r1 v1 hc1) (gb_S (List.mem_cons_of_mem _ tw_323) (List.mem_cons_of_mem _ tw_324) (List.mem_cons_of_mem _ tw_325) tw_322) rfl rfl rfl dd_X5_in rfl ⟨by decide, by decide⟩ ⟨Nat.le_refl 0, Nat.le_refl 0⟩ (Nat.le_of_ble_eq_true rfl) ?_
  obtain ⟨hg2, hF⟩ := jx_guard hF
  obtain ⟨rfl, rfl⟩ := jx_out hF
  exact jx_zret E dX5_isOwner_9 rfl (Decidable.not_not.mp hg2)
def f_X5_isHeight (x0 : Int32) (v : jx_V) : Option (Int32 × jx_V) := ((f_X5_in (Int32.toInt64 x0) 0 9 v).bind (fun (r1, v1) => (if ¬ (r1 = 0 ∨ r1 = 1) then none else some (r1, v1))))
def rm_X5_isHeight : Room := { frames := 1, cells := 0, slots := 0, locals := 25 }
set_option maxHeartbeats 4000000 in
set_option maxRecDepth 100000 in
theorem k_X5_isHeight {l : Launch} {D : va_G} {cI cJ : ClassId} {ad : Nat → Nat} {A : Nat → Prop} (hI : jx_inj 13 ad A) (x0 : Int32) (v : jx_V) (r : Int32) (v' : jx_V) (hF : f_X5_isHeight x0 v = some (r, v')) : jx_Ci l D vwCl 13 cI cJ ad shM A ex_M yX5_isHeight (Cond.code yX5_isHeight cX5_isHeight 1 (some .boolean) :: bigT) rm_X5_isHeight [.int x0] v r v' := by
  unfold f_X5_isHeight at hF
  refine jx_enteri bigT RX5 cX5_isHeight 1 (some .boolean) [(0, .int x0)] hI (ex_M_ok A) (by decide +kernel) rfl (Nat.le_of_ble_eq_true rfl) rfl rfl ?_
  intro p e s m args below meth c E
  refine jx_iload_n E dX5_isHeight_0 0 rfl ?_
  refine jx_i2l E dX5_isHeight_1 ?_
  refine jx_lconst (x := 0) E dX5_isHeight_2 (by decide) ?_
  refine jx_ldc2 (x := 9) E dX5_isHeight_3 (List.mem_cons_of_mem _ tw_327) ?_
  obtain ⟨⟨r1, v1⟩, hc1, hF⟩ := jx_bind hF
  try dsimp only at hF
  refine jx_callSi (As := [.long (Int32.toInt64 x0), .long 0, .long 9]) (st := []) E dX5_isHeight_6 3 rfl (k_X5_in hI (Int32.toInt64 x0) 0 9 v r1 v1 hc1) (gb_S (List.mem_cons_of_mem _ tw_323) (List.mem_cons_of_mem _ tw_324) (List.mem_cons_of_mem _ tw_325) tw_322) rfl rfl rfl dd_X5_in rfl ⟨by decide, by decide⟩ ⟨Nat.le_refl 0, Nat.le_refl 0⟩ (Nat.le_of_ble_eq_true rfl) ?_
  obtain ⟨hg2, hF⟩ := jx_guard hF
  obtain ⟨rfl, rfl⟩ := jx_out hF
  exact jx_zret E dX5_isHeight_9 rfl (Decidable.not_not.mp hg2)
def f_X5_isWindow (x1 : Int32) (v : jx_V) : Option (Int32 × jx_V) := ((f_X5_in (Int32.toInt64 x1) 0 (Int32.toInt64 ((v 1 1) - 1)) v).bind (fun (r1, v1) => (if ¬ (r1 = 0 ∨ r1 = 1) then none else some (r1, v1))))
def rm_X5_isWindow : Room := { frames := 1, cells := 0, slots := 0, locals := 25 }
set_option maxHeartbeats 4000000 in
set_option maxRecDepth 100000 in
theorem k_X5_isWindow {l : Launch} {D : va_G} {cI cJ : ClassId} {ad : Nat → Nat} {A : Nat → Prop} (hI : jx_inj 13 ad A) (x1 : Int32) (v : jx_V) (r : Int32) (v' : jx_V) (hF : f_X5_isWindow x1 v = some (r, v')) : jx_Ci l D vwCl 13 cI cJ ad shM A ex_M yX5_isWindow (Cond.code yX5_isWindow cX5_isWindow 2 (some .boolean) :: bigT) rm_X5_isWindow [.ref (ad 0), .int x1] v r v' := by
  unfold f_X5_isWindow at hF
  refine jx_enteri bigT RX5 cX5_isWindow 2 (some .boolean) [(0, .ref (ad 0)), (1, .int x1)] hI (ex_M_ok A) (by decide +kernel) rfl (Nat.le_of_ble_eq_true rfl) rfl rfl ?_
  intro p e s m args below meth c E
  have iX5 : ∀ w ∈ u_ws RX5 TX5 21, w ∈ (Cond.code yX5_isWindow cX5_isWindow 2 (some .boolean) :: bigT) := fun w h => List.mem_cons_of_mem _ (uw_X5 w h)
  refine jx_iload_n E dX5_isWindow_0 1 rfl ?_
  refine jx_i2l E dX5_isWindow_1 ?_
  refine jx_lconst (x := 0) E dX5_isWindow_2 (by decide) ?_
  refine jx_aload_n E dX5_isWindow_3 0 rfl ?_
  refine jx_getr (C := RX5) (T := TX5) (M := 21) (k := 0) E dX5_isWindow_4 (Nat.le_of_ble_eq_true rfl) s_M0 rfl iX5 (by decide) rfl (List.mem_cons_of_mem _ tw_328) rfl ?_
  refine jx_iconst (x := 1) E dX5_isWindow_7 (by decide) ?_
  refine jx_iald (h := 1) (j := 1) E dX5_isWindow_8 (Nat.le_of_ble_eq_true rfl) s_M1 (by decide) (by decide) ?_
  refine jx_iconst (x := 1) E dX5_isWindow_9 (by decide) ?_
  refine jx_isub E dX5_isWindow_10 ?_
  refine jx_i2l E dX5_isWindow_11 ?_
  obtain ⟨⟨r1, v1⟩, hc1, hF⟩ := jx_bind hF
  try dsimp only at hF
  refine jx_callSi (As := [.long (Int32.toInt64 x1), .long 0, .long (Int32.toInt64 ((v 1 1) - 1))]) (st := []) E dX5_isWindow_12 3 rfl (k_X5_in hI (Int32.toInt64 x1) 0 (Int32.toInt64 ((v 1 1) - 1)) v r1 v1 hc1) (gb_S (List.mem_cons_of_mem _ tw_323) (List.mem_cons_of_mem _ tw_324) (List.mem_cons_of_mem _ tw_325) tw_322) rfl rfl rfl dd_X5_in rfl ⟨by decide, by decide⟩ ⟨Nat.le_refl 0, Nat.le_refl 0⟩ (Nat.le_of_ble_eq_true rfl) ?_
  obtain ⟨hg2, hF⟩ := jx_guard hF
  obtain ⟨rfl, rfl⟩ := jx_out hF
  exact jx_zret E dX5_isWindow_15 rfl (Decidable.not_not.mp hg2)
def f_X5_ones_L  : Nat → Int32 → Int32 → Int32 → jx_V → Option (Int32 × jx_V)
  | 0, _, _, _, _ => none
  | n + 1, x0, x1, x2, v => (if x2 = 0 then (some (x1, v)) else (f_X5_ones_L n x0 (x1 + 1) (x2 &&& (x2 - 1)) v))
def f_X5_ones (x0 : Int32) (v : jx_V) : Option (Int32 × jx_V) := (f_X5_ones_L 100000 x0 0 x0 v)
def rm_X5_ones : Room := { frames := 0, cells := 0, slots := 0, locals := 0 }
set_option maxHeartbeats 4000000 in
set_option maxRecDepth 100000 in
theorem k_X5_ones {l : Launch} {D : va_G} {cI cJ : ClassId} {ad : Nat → Nat} {A : Nat → Prop} (hI : jx_inj 13 ad A) (x0 : Int32) (v : jx_V) (r : Int32) (v' : jx_V) (hF : f_X5_ones x0 v = some (r, v')) : jx_Ci l D vwCl 13 cI cJ ad shM A ex_M yX5_ones (Cond.code yX5_ones cX5_ones 3 (some .int) :: bigT) rm_X5_ones [.int x0] v r v' := by
  unfold f_X5_ones at hF
  refine jx_enteri bigT RX5 cX5_ones 3 (some .int) [(0, .int x0)] hI (ex_M_ok A) (by decide +kernel) rfl (Nat.le_of_ble_eq_true rfl) rfl rfl ?_
  intro p e s m args below meth c E
  have key : ∀ n : Nat, (∀ (x0 : Int32) (x1 : Int32) (x2 : Int32) (v : jx_V), f_X5_ones_L  n  x0 x1 x2 v = some (r, v') → jx_J p l e rm_X5_ones s m args below meth c D vwCl 13 cI cJ ad shM A 0 0 3 (MQ below (va_Qi (fun (r1 : Int32) (_ : Unit) => r1 = r) (fun _ t => va_P D vwCl (jx_ws 13 cI cJ ad shM v') t.heap) A) args s 0 0 A) v 4 [(0, .int x0), (1, .int x1), (2, .int x2)] []) := by
    intro n
    induction n with
    | zero =>
      exact (fun _ _ _ _ h => by cases h)
    | succ n ih =>
      intro x0 x1 x2 v hF
      rw [f_X5_ones_L] at hF
      refine jx_iload_n E dX5_ones_4 2 rfl ?_
      refine jx_if_eq (tgt := 20) E dX5_ones_5 (by decide) (fun hc1 => ?_) (fun hc1 => ?_)
      · rw [if_pos hc1] at hF
        refine jx_iload_n E dX5_ones_20 1 rfl ?_
        obtain ⟨rfl, rfl⟩ := jx_out hF
        exact jx_iret E dX5_ones_21 rfl
      · rw [if_neg hc1] at hF
        refine jx_iinc (y := (x1 + 1)) (lv' := [(1, .int (x1 + 1)), (0, .int x0), (2, .int x2)]) E dX5_ones_8 1 rfl rfl (by decide) rfl ?_
        refine jx_iload_n E dX5_ones_11 2 rfl ?_
        refine jx_iload_n E dX5_ones_12 2 rfl ?_
        refine jx_iconst (x := 1) E dX5_ones_13 (by decide) ?_
        refine jx_isub E dX5_ones_14 ?_
        refine jx_iand E dX5_ones_15 ?_
        refine jx_istore_n (lv' := [(2, .int (x2 &&& (x2 - 1))), (1, .int (x1 + 1)), (0, .int x0)]) E dX5_ones_16 (by decide) rfl ?_
        refine jx_goto (tgt := 4) E dX5_ones_17 (by decide) ?_
        refine jx_sub [2, 1, 0] rfl ?_
        exact ih x0 (x1 + 1) (x2 &&& (x2 - 1)) v hF
  refine jx_iconst (x := 0) E dX5_ones_0 (by decide) ?_
  refine jx_istore_n (lv' := [(1, .int 0), (0, .int x0)]) E dX5_ones_1 (by decide) rfl ?_
  refine jx_iload_n E dX5_ones_2 1 rfl ?_
  refine jx_istore_n (lv' := [(2, .int x0), (1, .int 0), (0, .int x0)]) E dX5_ones_3 (by decide) rfl ?_
  refine jx_sub [2, 1, 0] rfl ?_
  exact (key 100000) x0 0 x0 v hF
def f_X5_draw  (v : jx_V) : Option (Int32 × jx_V) := (some ((Int32.toUInt32 ((jx_up v 1 2 (((v 1 2) * 1103515245) + 12345)) 1 2) >>> (Int32.toUInt32 8 &&& Int32.toUInt32 31)).toInt32, (jx_up v 1 2 (((v 1 2) * 1103515245) + 12345))))
def rm_X5_draw : Room := { frames := 0, cells := 0, slots := 0, locals := 0 }
set_option maxHeartbeats 4000000 in
set_option maxRecDepth 100000 in
theorem k_X5_draw {l : Launch} {D : va_G} {cI cJ : ClassId} {ad : Nat → Nat} {A : Nat → Prop} (hI : jx_inj 13 ad A)  (v : jx_V) (r : Int32) (v' : jx_V) (hF : f_X5_draw  v = some (r, v')) : jx_Ci l D vwCl 13 cI cJ ad shM A ex_M yX5_draw (Cond.code yX5_draw cX5_draw 1 (some .int) :: bigT) rm_X5_draw [.ref (ad 0)] v r v' := by
  unfold f_X5_draw at hF
  refine jx_enteri bigT RX5 cX5_draw 1 (some .int) [(0, .ref (ad 0))] hI (ex_M_ok A) (by decide +kernel) rfl (Nat.le_of_ble_eq_true rfl) rfl rfl ?_
  intro p e s m args below meth c E
  have iX5 : ∀ w ∈ u_ws RX5 TX5 21, w ∈ (Cond.code yX5_draw cX5_draw 1 (some .int) :: bigT) := fun w h => List.mem_cons_of_mem _ (uw_X5 w h)
  refine jx_aload_n E dX5_draw_0 0 rfl ?_
  refine jx_getr (C := RX5) (T := TX5) (M := 21) (k := 0) E dX5_draw_1 (Nat.le_of_ble_eq_true rfl) s_M0 rfl iX5 (by decide) rfl (List.mem_cons_of_mem _ tw_328) rfl ?_
  refine jx_iconst (x := 2) E dX5_draw_4 (by decide) ?_
  refine jx_aload_n E dX5_draw_5 0 rfl ?_
  refine jx_getr (C := RX5) (T := TX5) (M := 21) (k := 0) E dX5_draw_6 (Nat.le_of_ble_eq_true rfl) s_M0 rfl iX5 (by decide) rfl (List.mem_cons_of_mem _ tw_328) rfl ?_
  refine jx_iconst (x := 2) E dX5_draw_9 (by decide) ?_
  refine jx_iald (h := 1) (j := 2) E dX5_draw_10 (Nat.le_of_ble_eq_true rfl) s_M1 (by decide) (by decide) ?_
  refine jx_ldc (x := 1103515245) E dX5_draw_11 (List.mem_cons_of_mem _ tw_329) ?_
  refine jx_imul E dX5_draw_13 ?_
  refine jx_sipush (x := 12345) E dX5_draw_14 (by decide) ?_
  refine jx_iadd E dX5_draw_17 ?_
  refine jx_iast (h := 1) (j := 2) E dX5_draw_18 (Nat.le_of_ble_eq_true rfl) s_M1 (by decide) (by decide) ?_
  refine jx_aload_n E dX5_draw_19 0 rfl ?_
  refine jx_getr (C := RX5) (T := TX5) (M := 21) (k := 0) E dX5_draw_20 (Nat.le_of_ble_eq_true rfl) s_M0 rfl iX5 (by decide) rfl (List.mem_cons_of_mem _ tw_328) rfl ?_
  refine jx_iconst (x := 2) E dX5_draw_23 (by decide) ?_
  refine jx_iald (h := 1) (j := 2) E dX5_draw_24 (Nat.le_of_ble_eq_true rfl) s_M1 (by decide) (by decide) ?_
  refine jx_bipush (x := 8) E dX5_draw_25 (by decide) ?_
  refine jx_iushr E dX5_draw_27 ?_
  obtain ⟨rfl, rfl⟩ := jx_out hF
  exact jx_iret E dX5_draw_28 rfl
def f_X5_puts_L  : Nat → Int32 → jx_V → Option (jx_V)
  | 0, _, _ => none
  | n + 1, x1, v => (if 181 ≤ x1 then (some v) else (if (x1 < 0 ∨ 181 ≤ Int32.toNatClampNeg x1) then none else (if (x1 < 0 ∨ 181 ≤ Int32.toNatClampNeg x1) then none else (f_X5_puts_L n (x1 + 1) (jx_up v 3 (Int32.toNatClampNeg x1) (v 1 (Int32.toNatClampNeg x1)))))))
def f_X5_puts  (v : jx_V) : Option (jx_V) := (f_X5_puts_L 100000 0 v)
def rm_X5_puts : Room := { frames := 0, cells := 0, slots := 0, locals := 0 }
set_option maxHeartbeats 4000000 in
set_option maxRecDepth 100000 in
theorem k_X5_puts {l : Launch} {D : va_G} {cI cJ : ClassId} {ad : Nat → Nat} {A : Nat → Prop} (hI : jx_inj 13 ad A)  (v : jx_V) (v' : jx_V) (hF : f_X5_puts  v = some v') : jx_Cv l D vwCl 13 cI cJ ad shM A ex_M yX5_puts (Cond.code yX5_puts cX5_puts 2 (none) :: bigT) rm_X5_puts [.ref (ad 0)] v v' := by
  unfold f_X5_puts at hF
  refine jx_enterv bigT RX5 cX5_puts 2 (none) [(0, .ref (ad 0))] hI (ex_M_ok A) (by decide +kernel) rfl (Nat.le_of_ble_eq_true rfl) rfl rfl ?_
  intro p e s m args below meth c E
  have iX5 : ∀ w ∈ u_ws RX5 TX5 21, w ∈ (Cond.code yX5_puts cX5_puts 2 (none) :: bigT) := fun w h => List.mem_cons_of_mem _ (uw_X5 w h)
  have key : ∀ n : Nat, (∀ (x1 : Int32) (v : jx_V), f_X5_puts_L  n  x1 v = some v' → jx_J p l e rm_X5_puts s m args below meth c D vwCl 13 cI cJ ad shM A 0 0 2 (MQ below (va_Qv (fun (_ : Unit) => True) (fun _ t => va_P D vwCl (jx_ws 13 cI cJ ad shM v') t.heap) A) args s 0 0 A) v 2 [(0, .ref (ad 0)), (1, .int x1)] []) := by
    intro n
    induction n with
    | zero =>
      exact (fun _ _ h => by cases h)
    | succ n ih =>
      intro x1 v hF
      rw [f_X5_puts_L] at hF
      refine jx_iload_n E dX5_puts_2 1 rfl ?_
      refine jx_sipush (x := 181) E dX5_puts_3 (by decide) ?_
      refine jx_icmp_ge (tgt := 27) E dX5_puts_6 (by decide) (fun hc1 => ?_) (fun hc1 => ?_)
      · rw [if_pos hc1] at hF
        obtain rfl := Option.some.inj hF
        exact jx_vret E dX5_puts_27 rfl
      · rw [if_neg hc1] at hF
        refine jx_aload_n E dX5_puts_9 0 rfl ?_
        refine jx_getr (C := RX5) (T := TX5) (M := 21) (k := 2) E dX5_puts_10 (Nat.le_of_ble_eq_true rfl) s_M0 rfl iX5 (by decide) rfl (List.mem_cons_of_mem _ tw_330) rfl ?_
        refine jx_iload_n E dX5_puts_13 1 rfl ?_
        refine jx_aload_n E dX5_puts_14 0 rfl ?_
        refine jx_getr (C := RX5) (T := TX5) (M := 21) (k := 0) E dX5_puts_15 (Nat.le_of_ble_eq_true rfl) s_M0 rfl iX5 (by decide) rfl (List.mem_cons_of_mem _ tw_328) rfl ?_
        refine jx_iload_n E dX5_puts_18 1 rfl ?_
        obtain ⟨hg2, hF⟩ := jx_guard hF
        refine jx_iald (h := 1) (j := (Int32.toNatClampNeg x1)) E dX5_puts_19 (Nat.le_of_ble_eq_true rfl) s_M1 hg2 rfl ?_
        obtain ⟨hg3, hF⟩ := jx_guard hF
        refine jx_iast (h := 3) (j := (Int32.toNatClampNeg x1)) E dX5_puts_20 (Nat.le_of_ble_eq_true rfl) s_M3 hg3 rfl ?_
        refine jx_iinc (y := (x1 + 1)) (lv' := [(1, .int (x1 + 1)), (0, .ref (ad 0))]) E dX5_puts_21 1 rfl rfl (by decide) rfl ?_
        refine jx_goto (tgt := 2) E dX5_puts_24 (by decide) ?_
        refine jx_sub [1, 0] rfl ?_
        exact ih (x1 + 1) (jx_up v 3 (Int32.toNatClampNeg x1) (v 1 (Int32.toNatClampNeg x1))) hF
  refine jx_iconst (x := 0) E dX5_puts_0 (by decide) ?_
  refine jx_istore_n (lv' := [(1, .int 0), (0, .ref (ad 0))]) E dX5_puts_1 (by decide) rfl ?_
  refine jx_sub [1, 0] rfl ?_
  exact (key 100000) 0 v hF
def f_X5_putsBack_L  : Nat → Int32 → jx_V → Option (jx_V)
  | 0, _, _ => none
  | n + 1, x1, v => (if 181 ≤ x1 then (some v) else (if (x1 < 0 ∨ 181 ≤ Int32.toNatClampNeg x1) then none else (if (x1 < 0 ∨ 181 ≤ Int32.toNatClampNeg x1) then none else (f_X5_putsBack_L n (x1 + 1) (jx_up v 1 (Int32.toNatClampNeg x1) (v 3 (Int32.toNatClampNeg x1)))))))
def f_X5_putsBack  (v : jx_V) : Option (jx_V) := (f_X5_putsBack_L 100000 0 v)
def rm_X5_putsBack : Room := { frames := 0, cells := 0, slots := 0, locals := 0 }
set_option maxHeartbeats 4000000 in
set_option maxRecDepth 100000 in
theorem k_X5_putsBack {l : Launch} {D : va_G} {cI cJ : ClassId} {ad : Nat → Nat} {A : Nat → Prop} (hI : jx_inj 13 ad A)  (v : jx_V) (v' : jx_V) (hF : f_X5_putsBack  v = some v') : jx_Cv l D vwCl 13 cI cJ ad shM A ex_M yX5_putsBack (Cond.code yX5_putsBack cX5_putsBack 2 (none) :: bigT) rm_X5_putsBack [.ref (ad 0)] v v' := by
  unfold f_X5_putsBack at hF
  refine jx_enterv bigT RX5 cX5_putsBack 2 (none) [(0, .ref (ad 0))] hI (ex_M_ok A) (by decide +kernel) rfl (Nat.le_of_ble_eq_true rfl) rfl rfl ?_
  intro p e s m args below meth c E
  have iX5 : ∀ w ∈ u_ws RX5 TX5 21, w ∈ (Cond.code yX5_putsBack cX5_putsBack 2 (none) :: bigT) := fun w h => List.mem_cons_of_mem _ (uw_X5 w h)
  have key : ∀ n : Nat, (∀ (x1 : Int32) (v : jx_V), f_X5_putsBack_L  n  x1 v = some v' → jx_J p l e rm_X5_putsBack s m args below meth c D vwCl 13 cI cJ ad shM A 0 0 2 (MQ below (va_Qv (fun (_ : Unit) => True) (fun _ t => va_P D vwCl (jx_ws 13 cI cJ ad shM v') t.heap) A) args s 0 0 A) v 2 [(0, .ref (ad 0)), (1, .int x1)] []) := by
    intro n
    induction n with
    | zero =>
      exact (fun _ _ h => by cases h)
    | succ n ih =>
      intro x1 v hF
      rw [f_X5_putsBack_L] at hF
      refine jx_iload_n E dX5_putsBack_2 1 rfl ?_
      refine jx_sipush (x := 181) E dX5_putsBack_3 (by decide) ?_
      refine jx_icmp_ge (tgt := 27) E dX5_putsBack_6 (by decide) (fun hc1 => ?_) (fun hc1 => ?_)
      · rw [if_pos hc1] at hF
        obtain rfl := Option.some.inj hF
        exact jx_vret E dX5_putsBack_27 rfl
      · rw [if_neg hc1] at hF
        refine jx_aload_n E dX5_putsBack_9 0 rfl ?_
        refine jx_getr (C := RX5) (T := TX5) (M := 21) (k := 0) E dX5_putsBack_10 (Nat.le_of_ble_eq_true rfl) s_M0 rfl iX5 (by decide) rfl (List.mem_cons_of_mem _ tw_328) rfl ?_
        refine jx_iload_n E dX5_putsBack_13 1 rfl ?_
        refine jx_aload_n E dX5_putsBack_14 0 rfl ?_
        refine jx_getr (C := RX5) (T := TX5) (M := 21) (k := 2) E dX5_putsBack_15 (Nat.le_of_ble_eq_true rfl) s_M0 rfl iX5 (by decide) rfl (List.mem_cons_of_mem _ tw_330) rfl ?_
        refine jx_iload_n E dX5_putsBack_18 1 rfl ?_
        obtain ⟨hg2, hF⟩ := jx_guard hF
        refine jx_iald (h := 3) (j := (Int32.toNatClampNeg x1)) E dX5_putsBack_19 (Nat.le_of_ble_eq_true rfl) s_M3 hg2 rfl ?_
        obtain ⟨hg3, hF⟩ := jx_guard hF
        refine jx_iast (h := 1) (j := (Int32.toNatClampNeg x1)) E dX5_putsBack_20 (Nat.le_of_ble_eq_true rfl) s_M1 hg3 rfl ?_
        refine jx_iinc (y := (x1 + 1)) (lv' := [(1, .int (x1 + 1)), (0, .ref (ad 0))]) E dX5_putsBack_21 1 rfl rfl (by decide) rfl ?_
        refine jx_goto (tgt := 2) E dX5_putsBack_24 (by decide) ?_
        refine jx_sub [1, 0] rfl ?_
        exact ih (x1 + 1) (jx_up v 1 (Int32.toNatClampNeg x1) (v 3 (Int32.toNatClampNeg x1))) hF
  refine jx_iconst (x := 0) E dX5_putsBack_0 (by decide) ?_
  refine jx_istore_n (lv' := [(1, .int 0), (0, .ref (ad 0))]) E dX5_putsBack_1 (by decide) rfl ?_
  refine jx_sub [1, 0] rfl ?_
  exact (key 100000) 0 v hF
def f_X5_at (x0 : Int32) (x1 : Int32) (v : jx_V) : Option (Int32 × jx_V) := (some (((11 + (4 * x0)) + x1), v))
def rm_X5_at : Room := { frames := 0, cells := 0, slots := 0, locals := 0 }
set_option maxHeartbeats 4000000 in
set_option maxRecDepth 100000 in
theorem k_X5_at {l : Launch} {D : va_G} {cI cJ : ClassId} {ad : Nat → Nat} {A : Nat → Prop} (hI : jx_inj 13 ad A) (x0 : Int32) (x1 : Int32) (v : jx_V) (r : Int32) (v' : jx_V) (hF : f_X5_at x0 x1 v = some (r, v')) : jx_Ci l D vwCl 13 cI cJ ad shM A ex_M yX5_at (Cond.code yX5_at cX5_at 2 (some .int) :: bigT) rm_X5_at [.int x0, .int x1] v r v' := by
  unfold f_X5_at at hF
  refine jx_enteri bigT RX5 cX5_at 2 (some .int) [(0, .int x0), (1, .int x1)] hI (ex_M_ok A) (by decide +kernel) rfl (Nat.le_of_ble_eq_true rfl) rfl rfl ?_
  intro p e s m args below meth c E
  refine jx_bipush (x := 11) E dX5_at_0 (by decide) ?_
  refine jx_iconst (x := 4) E dX5_at_2 (by decide) ?_
  refine jx_iload_n E dX5_at_3 0 rfl ?_
  refine jx_imul E dX5_at_4 ?_
  refine jx_iadd E dX5_at_5 ?_
  refine jx_iload_n E dX5_at_6 1 rfl ?_
  refine jx_iadd E dX5_at_7 ?_
  obtain ⟨rfl, rfl⟩ := jx_out hF
  exact jx_iret E dX5_at_8 rfl
def f_X5_its (x1 : Int32) (x2 : Int32) (v : jx_V) : Option (Int32 × jx_V) := ((f_X5_at x1 x2 v).bind (fun (r1, v1) => (if (r1 < 0 ∨ 181 ≤ Int32.toNatClampNeg r1) then none else (some ((v1 1 (Int32.toNatClampNeg r1)), v1)))))
def rm_X5_its : Room := { frames := 1, cells := 0, slots := 0, locals := 21 }
set_option maxHeartbeats 4000000 in
set_option maxRecDepth 100000 in
theorem k_X5_its {l : Launch} {D : va_G} {cI cJ : ClassId} {ad : Nat → Nat} {A : Nat → Prop} (hI : jx_inj 13 ad A) (x1 : Int32) (x2 : Int32) (v : jx_V) (r : Int32) (v' : jx_V) (hF : f_X5_its x1 x2 v = some (r, v')) : jx_Ci l D vwCl 13 cI cJ ad shM A ex_M yX5_its (Cond.code yX5_its cX5_its 3 (some .int) :: bigT) rm_X5_its [.ref (ad 0), .int x1, .int x2] v r v' := by
  unfold f_X5_its at hF
  refine jx_enteri bigT RX5 cX5_its 3 (some .int) [(0, .ref (ad 0)), (1, .int x1), (2, .int x2)] hI (ex_M_ok A) (by decide +kernel) rfl (Nat.le_of_ble_eq_true rfl) rfl rfl ?_
  intro p e s m args below meth c E
  have iX5 : ∀ w ∈ u_ws RX5 TX5 21, w ∈ (Cond.code yX5_its cX5_its 3 (some .int) :: bigT) := fun w h => List.mem_cons_of_mem _ (uw_X5 w h)
  refine jx_aload_n E dX5_its_0 0 rfl ?_
  refine jx_getr (C := RX5) (T := TX5) (M := 21) (k := 0) E dX5_its_1 (Nat.le_of_ble_eq_true rfl) s_M0 rfl iX5 (by decide) rfl (List.mem_cons_of_mem _ tw_328) rfl ?_
  refine jx_iload_n E dX5_its_4 1 rfl ?_
  refine jx_iload_n E dX5_its_5 2 rfl ?_
  obtain ⟨⟨r1, v1⟩, hc1, hF⟩ := jx_bind hF
  try dsimp only at hF
  refine jx_callSi (As := [.int x1, .int x2]) (st := [.ref (ad 1)]) E dX5_its_6 2 rfl (k_X5_at hI x1 x2 v r1 v1 hc1) (gb_S (List.mem_cons_of_mem _ tw_332) (List.mem_cons_of_mem _ tw_333) (List.mem_cons_of_mem _ tw_325) tw_331) rfl rfl rfl dd_X5_at rfl ⟨by decide, by decide⟩ ⟨Nat.le_refl 0, Nat.le_refl 0⟩ (Nat.le_of_ble_eq_true rfl) ?_
  obtain ⟨hg2, hF⟩ := jx_guard hF
  refine jx_iald (h := 1) (j := (Int32.toNatClampNeg r1)) E dX5_its_9 (Nat.le_of_ble_eq_true rfl) s_M1 hg2 rfl ?_
  obtain ⟨rfl, rfl⟩ := jx_out hF
  exact jx_iret E dX5_its_10 rfl
def f_X5_isThing (x1 : Int32) (v : jx_V) : Option (Int32 × jx_V) := ((f_X5_its x1 0 v).bind (fun (r1, v1) => (if r1 < 0 then (some (0, v1)) else (some (1, v1)))))
def rm_X5_isThing : Room := { frames := 2, cells := 0, slots := 0, locals := 43 }
set_option maxHeartbeats 4000000 in
set_option maxRecDepth 100000 in
theorem k_X5_isThing {l : Launch} {D : va_G} {cI cJ : ClassId} {ad : Nat → Nat} {A : Nat → Prop} (hI : jx_inj 13 ad A) (x1 : Int32) (v : jx_V) (r : Int32) (v' : jx_V) (hF : f_X5_isThing x1 v = some (r, v')) : jx_Ci l D vwCl 13 cI cJ ad shM A ex_M yX5_isThing (Cond.code yX5_isThing cX5_isThing 2 (some .boolean) :: bigT) rm_X5_isThing [.ref (ad 0), .int x1] v r v' := by
  unfold f_X5_isThing at hF
  refine jx_enteri bigT RX5 cX5_isThing 2 (some .boolean) [(0, .ref (ad 0)), (1, .int x1)] hI (ex_M_ok A) (by decide +kernel) rfl (Nat.le_of_ble_eq_true rfl) rfl rfl ?_
  intro p e s m args below meth c E
  refine jx_aload_n E dX5_isThing_0 0 rfl ?_
  refine jx_iload_n E dX5_isThing_1 1 rfl ?_
  refine jx_iconst (x := 0) E dX5_isThing_2 (by decide) ?_
  obtain ⟨⟨r1, v1⟩, hc1, hF⟩ := jx_bind hF
  try dsimp only at hF
  refine jx_callVi (As := [.int x1, .int 0]) (st := []) (h := 0) E dX5_isThing_3 2 rfl (k_X5_its hI x1 0 v r1 v1 hc1) (gb_V (List.mem_cons_of_mem _ tw_335) (List.mem_cons_of_mem _ tw_336) (List.mem_cons_of_mem _ tw_337) (List.mem_cons_of_mem _ tw_325) tw_334) rfl rfl rfl dd_X5_its rfl (Nat.le_of_ble_eq_true rfl) s_M0 rfl ⟨by decide, by decide⟩ ⟨Nat.le_refl 0, Nat.le_refl 0⟩ (Nat.le_of_ble_eq_true rfl) ?_
  refine jx_if_lt (tgt := 13) E dX5_isThing_6 (by decide) (fun hc2 => ?_) (fun hc2 => ?_)
  · rw [if_pos hc2] at hF
    refine jx_iconst (x := 0) E dX5_isThing_13 (by decide) ?_
    obtain ⟨rfl, rfl⟩ := jx_out hF
    exact jx_zret E dX5_isThing_14 rfl (Or.inl rfl)
  · rw [if_neg hc2] at hF
    refine jx_iconst (x := 1) E dX5_isThing_9 (by decide) ?_
    refine jx_goto (tgt := 14) E dX5_isThing_10 (by decide) ?_
    obtain ⟨rfl, rfl⟩ := jx_out hF
    exact jx_zret E dX5_isThing_14 rfl (Or.inr rfl)
def f_X5_things_L  : Nat → Int32 → Int32 → jx_V → Option (Int32 × jx_V)
  | 0, _, _, _ => none
  | n + 1, x1, x2, v => (if 25 ≤ x2 then (some (x1, v)) else ((f_X5_isThing x2 v).bind (fun (r2, v2) => (if r2 = 0 then (f_X5_things_L n (x1 + 0) (x2 + 1) v2) else (f_X5_things_L n (x1 + 1) (x2 + 1) v2)))))
def f_X5_things  (v : jx_V) : Option (Int32 × jx_V) := (f_X5_things_L 100000 0 0 v)
def rm_X5_things : Room := { frames := 3, cells := 0, slots := 0, locals := 64 }
set_option maxHeartbeats 4000000 in
set_option maxRecDepth 100000 in
theorem k_X5_things {l : Launch} {D : va_G} {cI cJ : ClassId} {ad : Nat → Nat} {A : Nat → Prop} (hI : jx_inj 13 ad A)  (v : jx_V) (r : Int32) (v' : jx_V) (hF : f_X5_things  v = some (r, v')) : jx_Ci l D vwCl 13 cI cJ ad shM A ex_M yX5_things (Cond.code yX5_things cX5_things 3 (some .int) :: bigT) rm_X5_things [.ref (ad 0)] v r v' := by
  unfold f_X5_things at hF
  refine jx_enteri bigT RX5 cX5_things 3 (some .int) [(0, .ref (ad 0))] hI (ex_M_ok A) (by decide +kernel) rfl (Nat.le_of_ble_eq_true rfl) rfl rfl ?_
  intro p e s m args below meth c E
  have key : ∀ n : Nat, (∀ (x1 : Int32) (x2 : Int32) (v : jx_V), f_X5_things_L  n  x1 x2 v = some (r, v') → jx_J p l e rm_X5_things s m args below meth c D vwCl 13 cI cJ ad shM A 0 0 3 (MQ below (va_Qi (fun (r1 : Int32) (_ : Unit) => r1 = r) (fun _ t => va_P D vwCl (jx_ws 13 cI cJ ad shM v') t.heap) A) args s 0 0 A) v 4 [(0, .ref (ad 0)), (1, .int x1), (2, .int x2)] []) := by
    intro n
    induction n with
    | zero =>
      exact (fun _ _ _ h => by cases h)
    | succ n ih =>
      intro x1 x2 v hF
      rw [f_X5_things_L] at hF
      refine jx_iload_n E dX5_things_4 2 rfl ?_
      refine jx_bipush (x := 25) E dX5_things_5 (by decide) ?_
      refine jx_icmp_ge (tgt := 32) E dX5_things_7 (by decide) (fun hc1 => ?_) (fun hc1 => ?_)
      · rw [if_pos hc1] at hF
        refine jx_iload_n E dX5_things_32 1 rfl ?_
        obtain ⟨rfl, rfl⟩ := jx_out hF
        exact jx_iret E dX5_things_33 rfl
      · rw [if_neg hc1] at hF
        refine jx_iload_n E dX5_things_10 1 rfl ?_
        refine jx_aload_n E dX5_things_11 0 rfl ?_
        refine jx_iload_n E dX5_things_12 2 rfl ?_
        obtain ⟨⟨r2, v2⟩, hc2, hF⟩ := jx_bind hF
        try dsimp only at hF
        refine jx_callVi (As := [.int x2]) (st := [.int x1]) (h := 0) E dX5_things_13 1 rfl (k_X5_isThing hI x2 v r2 v2 hc2) (gb_V (List.mem_cons_of_mem _ tw_339) (List.mem_cons_of_mem _ tw_340) (List.mem_cons_of_mem _ tw_341) (List.mem_cons_of_mem _ tw_325) tw_338) rfl rfl rfl dd_X5_isThing rfl (Nat.le_of_ble_eq_true rfl) s_M0 rfl ⟨by decide, by decide⟩ ⟨Nat.le_refl 0, Nat.le_refl 0⟩ (Nat.le_of_ble_eq_true rfl) ?_
        refine jx_if_eq (tgt := 23) E dX5_things_16 (by decide) (fun hc3 => ?_) (fun hc3 => ?_)
        · rw [if_pos hc3] at hF
          refine jx_iconst (x := 0) E dX5_things_23 (by decide) ?_
          refine jx_iadd E dX5_things_24 ?_
          refine jx_istore_n (lv' := [(1, .int (x1 + 0)), (0, .ref (ad 0)), (2, .int x2)]) E dX5_things_25 (by decide) rfl ?_
          refine jx_iinc (y := (x2 + 1)) (lv' := [(2, .int (x2 + 1)), (1, .int (x1 + 0)), (0, .ref (ad 0))]) E dX5_things_26 2 rfl rfl (by decide) rfl ?_
          refine jx_goto (tgt := 4) E dX5_things_29 (by decide) ?_
          refine jx_sub [2, 1, 0] rfl ?_
          exact ih (x1 + 0) (x2 + 1) v2 hF
        · rw [if_neg hc3] at hF
          refine jx_iconst (x := 1) E dX5_things_19 (by decide) ?_
          refine jx_goto (tgt := 24) E dX5_things_20 (by decide) ?_
          refine jx_iadd E dX5_things_24 ?_
          refine jx_istore_n (lv' := [(1, .int (x1 + 1)), (0, .ref (ad 0)), (2, .int x2)]) E dX5_things_25 (by decide) rfl ?_
          refine jx_iinc (y := (x2 + 1)) (lv' := [(2, .int (x2 + 1)), (1, .int (x1 + 1)), (0, .ref (ad 0))]) E dX5_things_26 2 rfl rfl (by decide) rfl ?_
          refine jx_goto (tgt := 4) E dX5_things_29 (by decide) ?_
          refine jx_sub [2, 1, 0] rfl ?_
          exact ih (x1 + 1) (x2 + 1) v2 hF
  refine jx_iconst (x := 0) E dX5_things_0 (by decide) ?_
  refine jx_istore_n (lv' := [(1, .int 0), (0, .ref (ad 0))]) E dX5_things_1 (by decide) rfl ?_
  refine jx_iconst (x := 0) E dX5_things_2 (by decide) ?_
  refine jx_istore_n (lv' := [(2, .int 0), (1, .int 0), (0, .ref (ad 0))]) E dX5_things_3 (by decide) rfl ?_
  refine jx_sub [2, 1, 0] rfl ?_
  exact (key 100000) 0 0 v hF
def f_X5_builds (x1 : Int32) (x2 : Int32) (x3 : Int32) (x4 : Int32) (x5 : Int32) (v : jx_V) : Option (jx_V) := ((f_X5_at x1 0 v).bind (fun (r1, v1) => (if (r1 < 0 ∨ 181 ≤ Int32.toNatClampNeg r1) then none else ((f_X5_at x1 1 (jx_up v1 1 (Int32.toNatClampNeg r1) x2)).bind (fun (r3, v3) => (if (r3 < 0 ∨ 181 ≤ Int32.toNatClampNeg r3) then none else ((f_X5_at x1 2 (jx_up v3 1 (Int32.toNatClampNeg r3) x3)).bind (fun (r5, v5) => (if (r5 < 0 ∨ 181 ≤ Int32.toNatClampNeg r5) then none else ((f_X5_at x1 3 (jx_up v5 1 (Int32.toNatClampNeg r5) x4)).bind (fun (r7, v7) => (if (r7 < 0 ∨ 181 ≤ Int32.toNatClampNeg r7) then none else (some (jx_up v7 1 (Int32.toNatClampNeg r7) x5))))))))))))))
def rm_X5_builds : Room := { frames := 1, cells := 0, slots := 0, locals := 21 }
set_option maxHeartbeats 4000000 in
set_option maxRecDepth 100000 in
theorem k_X5_builds {l : Launch} {D : va_G} {cI cJ : ClassId} {ad : Nat → Nat} {A : Nat → Prop} (hI : jx_inj 13 ad A) (x1 : Int32) (x2 : Int32) (x3 : Int32) (x4 : Int32) (x5 : Int32) (v : jx_V) (v' : jx_V) (hF : f_X5_builds x1 x2 x3 x4 x5 v = some v') : jx_Cv l D vwCl 13 cI cJ ad shM A ex_M yX5_builds (Cond.code yX5_builds cX5_builds 6 (none) :: bigT) rm_X5_builds [.ref (ad 0), .int x1, .int x2, .int x3, .int x4, .int x5] v v' := by
  unfold f_X5_builds at hF
  refine jx_enterv bigT RX5 cX5_builds 6 (none) [(0, .ref (ad 0)), (1, .int x1), (2, .int x2), (3, .int x3), (4, .int x4), (5, .int x5)] hI (ex_M_ok A) (by decide +kernel) rfl (Nat.le_of_ble_eq_true rfl) rfl rfl ?_
  intro p e s m args below meth c E
  have iX5 : ∀ w ∈ u_ws RX5 TX5 21, w ∈ (Cond.code yX5_builds cX5_builds 6 (none) :: bigT) := fun w h => List.mem_cons_of_mem _ (uw_X5 w h)
  refine jx_aload_n E dX5_builds_0 0 rfl ?_
  refine jx_getr (C := RX5) (T := TX5) (M := 21) (k := 0) E dX5_builds_1 (Nat.le_of_ble_eq_true rfl) s_M0 rfl iX5 (by decide) rfl (List.mem_cons_of_mem _ tw_328) rfl ?_
  refine jx_iload_n E dX5_builds_4 1 rfl ?_
  refine jx_iconst (x := 0) E dX5_builds_5 (by decide) ?_
  obtain ⟨⟨r1, v1⟩, hc1, hF⟩ := jx_bind hF
  try dsimp only at hF
  refine jx_callSi (As := [.int x1, .int 0]) (st := [.ref (ad 1)]) E dX5_builds_6 2 rfl (k_X5_at hI x1 0 v r1 v1 hc1) (gb_S (List.mem_cons_of_mem _ tw_332) (List.mem_cons_of_mem _ tw_333) (List.mem_cons_of_mem _ tw_325) tw_331) rfl rfl rfl dd_X5_at rfl ⟨by decide, by decide⟩ ⟨Nat.le_refl 0, Nat.le_refl 0⟩ (Nat.le_of_ble_eq_true rfl) ?_
  refine jx_iload_n E dX5_builds_9 2 rfl ?_
  obtain ⟨hg2, hF⟩ := jx_guard hF
  refine jx_iast (h := 1) (j := (Int32.toNatClampNeg r1)) E dX5_builds_10 (Nat.le_of_ble_eq_true rfl) s_M1 hg2 rfl ?_
  refine jx_aload_n E dX5_builds_11 0 rfl ?_
  refine jx_getr (C := RX5) (T := TX5) (M := 21) (k := 0) E dX5_builds_12 (Nat.le_of_ble_eq_true rfl) s_M0 rfl iX5 (by decide) rfl (List.mem_cons_of_mem _ tw_328) rfl ?_
  refine jx_iload_n E dX5_builds_15 1 rfl ?_
  refine jx_iconst (x := 1) E dX5_builds_16 (by decide) ?_
  obtain ⟨⟨r3, v3⟩, hc3, hF⟩ := jx_bind hF
  try dsimp only at hF
  refine jx_callSi (As := [.int x1, .int 1]) (st := [.ref (ad 1)]) E dX5_builds_17 2 rfl (k_X5_at hI x1 1 (jx_up v1 1 (Int32.toNatClampNeg r1) x2) r3 v3 hc3) (gb_S (List.mem_cons_of_mem _ tw_332) (List.mem_cons_of_mem _ tw_333) (List.mem_cons_of_mem _ tw_325) tw_331) rfl rfl rfl dd_X5_at rfl ⟨by decide, by decide⟩ ⟨Nat.le_refl 0, Nat.le_refl 0⟩ (Nat.le_of_ble_eq_true rfl) ?_
  refine jx_iload_n E dX5_builds_20 3 rfl ?_
  obtain ⟨hg4, hF⟩ := jx_guard hF
  refine jx_iast (h := 1) (j := (Int32.toNatClampNeg r3)) E dX5_builds_21 (Nat.le_of_ble_eq_true rfl) s_M1 hg4 rfl ?_
  refine jx_aload_n E dX5_builds_22 0 rfl ?_
  refine jx_getr (C := RX5) (T := TX5) (M := 21) (k := 0) E dX5_builds_23 (Nat.le_of_ble_eq_true rfl) s_M0 rfl iX5 (by decide) rfl (List.mem_cons_of_mem _ tw_328) rfl ?_
  refine jx_iload_n E dX5_builds_26 1 rfl ?_
  refine jx_iconst (x := 2) E dX5_builds_27 (by decide) ?_
  obtain ⟨⟨r5, v5⟩, hc5, hF⟩ := jx_bind hF
  try dsimp only at hF
  refine jx_callSi (As := [.int x1, .int 2]) (st := [.ref (ad 1)]) E dX5_builds_28 2 rfl (k_X5_at hI x1 2 (jx_up v3 1 (Int32.toNatClampNeg r3) x3) r5 v5 hc5) (gb_S (List.mem_cons_of_mem _ tw_332) (List.mem_cons_of_mem _ tw_333) (List.mem_cons_of_mem _ tw_325) tw_331) rfl rfl rfl dd_X5_at rfl ⟨by decide, by decide⟩ ⟨Nat.le_refl 0, Nat.le_refl 0⟩ (Nat.le_of_ble_eq_true rfl) ?_
  refine jx_iload E dX5_builds_31 4 rfl ?_
  obtain ⟨hg6, hF⟩ := jx_guard hF
  refine jx_iast (h := 1) (j := (Int32.toNatClampNeg r5)) E dX5_builds_33 (Nat.le_of_ble_eq_true rfl) s_M1 hg6 rfl ?_
  refine jx_aload_n E dX5_builds_34 0 rfl ?_
  refine jx_getr (C := RX5) (T := TX5) (M := 21) (k := 0) E dX5_builds_35 (Nat.le_of_ble_eq_true rfl) s_M0 rfl iX5 (by decide) rfl (List.mem_cons_of_mem _ tw_328) rfl ?_
  refine jx_iload_n E dX5_builds_38 1 rfl ?_
  refine jx_iconst (x := 3) E dX5_builds_39 (by decide) ?_
  obtain ⟨⟨r7, v7⟩, hc7, hF⟩ := jx_bind hF
  try dsimp only at hF
  refine jx_callSi (As := [.int x1, .int 3]) (st := [.ref (ad 1)]) E dX5_builds_40 2 rfl (k_X5_at hI x1 3 (jx_up v5 1 (Int32.toNatClampNeg r5) x4) r7 v7 hc7) (gb_S (List.mem_cons_of_mem _ tw_332) (List.mem_cons_of_mem _ tw_333) (List.mem_cons_of_mem _ tw_325) tw_331) rfl rfl rfl dd_X5_at rfl ⟨by decide, by decide⟩ ⟨Nat.le_refl 0, Nat.le_refl 0⟩ (Nat.le_of_ble_eq_true rfl) ?_
  refine jx_iload E dX5_builds_43 5 rfl ?_
  obtain ⟨hg8, hF⟩ := jx_guard hF
  refine jx_iast (h := 1) (j := (Int32.toNatClampNeg r7)) E dX5_builds_45 (Nat.le_of_ble_eq_true rfl) s_M1 hg8 rfl ?_
  obtain rfl := Option.some.inj hF
  exact jx_vret E dX5_builds_46 rfl
def f_X5_build (x1 : Int32) (x2 : Int32) (x3 : Int32) (x4 : Int32) (v : jx_V) : Option (Int32 × jx_V) := ((f_X5_in (Int32.toInt64 x1) 0 6 v).bind (fun (r1, v1) => (if r1 = 0 then ((f_X5_finds (-1000001) v1).bind (fun (r3, v3) => (some (r3, v3)))) else ((f_X5_isLot x2 v1).bind (fun (r4, v4) => (if r4 = 0 then ((f_X5_finds (-1000001) v4).bind (fun (r6, v6) => (some (r6, v6)))) else ((f_X5_isOwner x3 v4).bind (fun (r7, v7) => (if r7 = 0 then ((f_X5_finds (-1000001) v7).bind (fun (r9, v9) => (some (r9, v9)))) else ((f_X5_isHeight x4 v7).bind (fun (r10, v10) => (if r10 = 0 then ((f_X5_finds (-1000001) v10).bind (fun (r17, v17) => (some (r17, v17)))) else ((f_X5_isThing x2 v10).bind (fun (r12, v12) => (if r12 = 0 then ((f_X5_builds x2 x1 x3 x4 0 v12).bind (fun v14 => ((f_X5_things v14).bind (fun (r15, v15) => (some (r15, v15)))))) else ((f_X5_finds (-1000005) v12).bind (fun (r16, v16) => (some (r16, v16)))))))))))))))))))
def rm_X5_build : Room := { frames := 4, cells := 0, slots := 0, locals := 86 }
set_option maxHeartbeats 4000000 in
set_option maxRecDepth 100000 in
theorem k_X5_build {l : Launch} {D : va_G} {cI cJ : ClassId} {ad : Nat → Nat} {A : Nat → Prop} (hI : jx_inj 13 ad A) (x1 : Int32) (x2 : Int32) (x3 : Int32) (x4 : Int32) (v : jx_V) (r : Int32) (v' : jx_V) (hF : f_X5_build x1 x2 x3 x4 v = some (r, v')) : jx_Ci l D vwCl 13 cI cJ ad shM A ex_M yX5_build (Cond.code yX5_build cX5_build 5 (some .int) :: bigT) rm_X5_build [.ref (ad 0), .int x1, .int x2, .int x3, .int x4] v r v' := by
  unfold f_X5_build at hF
  refine jx_enteri bigT RX5 cX5_build 5 (some .int) [(0, .ref (ad 0)), (1, .int x1), (2, .int x2), (3, .int x3), (4, .int x4)] hI (ex_M_ok A) (by decide +kernel) rfl (Nat.le_of_ble_eq_true rfl) rfl rfl ?_
  intro p e s m args below meth c E
  refine jx_iload_n E dX5_build_0 1 rfl ?_
  refine jx_i2l E dX5_build_1 ?_
  refine jx_lconst (x := 0) E dX5_build_2 (by decide) ?_
  refine jx_ldc2 (x := 6) E dX5_build_3 (List.mem_cons_of_mem _ tw_342) ?_
  obtain ⟨⟨r1, v1⟩, hc1, hF⟩ := jx_bind hF
  try dsimp only at hF
  refine jx_callSi (As := [.long (Int32.toInt64 x1), .long 0, .long 6]) (st := []) E dX5_build_6 3 rfl (k_X5_in hI (Int32.toInt64 x1) 0 6 v r1 v1 hc1) (gb_S (List.mem_cons_of_mem _ tw_323) (List.mem_cons_of_mem _ tw_324) (List.mem_cons_of_mem _ tw_325) tw_322) rfl rfl rfl dd_X5_in rfl ⟨by decide, by decide⟩ ⟨Nat.le_refl 0, Nat.le_refl 0⟩ (Nat.le_of_ble_eq_true rfl) ?_
  refine jx_if_eq (tgt := 34) E dX5_build_9 (by decide) (fun hc2 => ?_) (fun hc2 => ?_)
  · rw [if_pos hc2] at hF
    refine jx_aload_n E dX5_build_34 0 rfl ?_
    refine jx_ldc (x := -1000001) E dX5_build_35 (List.mem_cons_of_mem _ tw_320) ?_
    obtain ⟨⟨r3, v3⟩, hc3, hF⟩ := jx_bind hF
    try dsimp only at hF
    refine jx_callVi (As := [.int (-1000001)]) (st := []) (h := 0) E dX5_build_37 1 rfl (k_X5_finds hI (-1000001) v1 r3 v3 hc3) (gb_V (List.mem_cons_of_mem _ tw_344) (List.mem_cons_of_mem _ tw_345) (List.mem_cons_of_mem _ tw_346) (List.mem_cons_of_mem _ tw_325) tw_343) rfl rfl rfl dd_X5_finds rfl (Nat.le_of_ble_eq_true rfl) s_M0 rfl ⟨by decide, by decide⟩ ⟨Nat.le_refl 0, Nat.le_refl 0⟩ (Nat.le_of_ble_eq_true rfl) ?_
    obtain ⟨rfl, rfl⟩ := jx_out hF
    exact jx_iret E dX5_build_40 rfl
  · rw [if_neg hc2] at hF
    refine jx_iload_n E dX5_build_12 2 rfl ?_
    obtain ⟨⟨r4, v4⟩, hc4, hF⟩ := jx_bind hF
    try dsimp only at hF
    refine jx_callSi (As := [.int x2]) (st := []) E dX5_build_13 1 rfl (k_X5_isLot hI x2 v1 r4 v4 hc4) (gb_S (List.mem_cons_of_mem _ tw_348) (List.mem_cons_of_mem _ tw_349) (List.mem_cons_of_mem _ tw_325) tw_347) rfl rfl rfl dd_X5_isLot rfl ⟨by decide, by decide⟩ ⟨Nat.le_refl 0, Nat.le_refl 0⟩ (Nat.le_of_ble_eq_true rfl) ?_
    refine jx_if_eq (tgt := 34) E dX5_build_16 (by decide) (fun hc5 => ?_) (fun hc5 => ?_)
    · rw [if_pos hc5] at hF
      refine jx_aload_n E dX5_build_34 0 rfl ?_
      refine jx_ldc (x := -1000001) E dX5_build_35 (List.mem_cons_of_mem _ tw_320) ?_
      obtain ⟨⟨r6, v6⟩, hc6, hF⟩ := jx_bind hF
      try dsimp only at hF
      refine jx_callVi (As := [.int (-1000001)]) (st := []) (h := 0) E dX5_build_37 1 rfl (k_X5_finds hI (-1000001) v4 r6 v6 hc6) (gb_V (List.mem_cons_of_mem _ tw_344) (List.mem_cons_of_mem _ tw_345) (List.mem_cons_of_mem _ tw_346) (List.mem_cons_of_mem _ tw_325) tw_343) rfl rfl rfl dd_X5_finds rfl (Nat.le_of_ble_eq_true rfl) s_M0 rfl ⟨by decide, by decide⟩ ⟨Nat.le_refl 0, Nat.le_refl 0⟩ (Nat.le_of_ble_eq_true rfl) ?_
      obtain ⟨rfl, rfl⟩ := jx_out hF
      exact jx_iret E dX5_build_40 rfl
    · rw [if_neg hc5] at hF
      refine jx_iload_n E dX5_build_19 3 rfl ?_
      obtain ⟨⟨r7, v7⟩, hc7, hF⟩ := jx_bind hF
      try dsimp only at hF
      refine jx_callSi (As := [.int x3]) (st := []) E dX5_build_20 1 rfl (k_X5_isOwner hI x3 v4 r7 v7 hc7) (gb_S (List.mem_cons_of_mem _ tw_351) (List.mem_cons_of_mem _ tw_352) (List.mem_cons_of_mem _ tw_325) tw_350) rfl rfl rfl dd_X5_isOwner rfl ⟨by decide, by decide⟩ ⟨Nat.le_refl 0, Nat.le_refl 0⟩ (Nat.le_of_ble_eq_true rfl) ?_
      refine jx_if_eq (tgt := 34) E dX5_build_23 (by decide) (fun hc8 => ?_) (fun hc8 => ?_)
      · rw [if_pos hc8] at hF
        refine jx_aload_n E dX5_build_34 0 rfl ?_
        refine jx_ldc (x := -1000001) E dX5_build_35 (List.mem_cons_of_mem _ tw_320) ?_
        obtain ⟨⟨r9, v9⟩, hc9, hF⟩ := jx_bind hF
        try dsimp only at hF
        refine jx_callVi (As := [.int (-1000001)]) (st := []) (h := 0) E dX5_build_37 1 rfl (k_X5_finds hI (-1000001) v7 r9 v9 hc9) (gb_V (List.mem_cons_of_mem _ tw_344) (List.mem_cons_of_mem _ tw_345) (List.mem_cons_of_mem _ tw_346) (List.mem_cons_of_mem _ tw_325) tw_343) rfl rfl rfl dd_X5_finds rfl (Nat.le_of_ble_eq_true rfl) s_M0 rfl ⟨by decide, by decide⟩ ⟨Nat.le_refl 0, Nat.le_refl 0⟩ (Nat.le_of_ble_eq_true rfl) ?_
        obtain ⟨rfl, rfl⟩ := jx_out hF
        exact jx_iret E dX5_build_40 rfl
      · rw [if_neg hc8] at hF
        refine jx_iload E dX5_build_26 4 rfl ?_
        obtain ⟨⟨r10, v10⟩, hc10, hF⟩ := jx_bind hF
        try dsimp only at hF
        refine jx_callSi (As := [.int x4]) (st := []) E dX5_build_28 1 rfl (k_X5_isHeight hI x4 v7 r10 v10 hc10) (gb_S (List.mem_cons_of_mem _ tw_354) (List.mem_cons_of_mem _ tw_355) (List.mem_cons_of_mem _ tw_325) tw_353) rfl rfl rfl dd_X5_isHeight rfl ⟨by decide, by decide⟩ ⟨Nat.le_refl 0, Nat.le_refl 0⟩ (Nat.le_of_ble_eq_true rfl) ?_
        refine jx_if_ne (tgt := 41) E dX5_build_31 (by decide) (fun hc11 => ?_) (fun hc11 => ?_)
        · rw [if_neg hc11] at hF
          refine jx_aload_n E dX5_build_41 0 rfl ?_
          refine jx_iload_n E dX5_build_42 2 rfl ?_
          obtain ⟨⟨r12, v12⟩, hc12, hF⟩ := jx_bind hF
          try dsimp only at hF
          refine jx_callVi (As := [.int x2]) (st := []) (h := 0) E dX5_build_43 1 rfl (k_X5_isThing hI x2 v10 r12 v12 hc12) (gb_V (List.mem_cons_of_mem _ tw_339) (List.mem_cons_of_mem _ tw_340) (List.mem_cons_of_mem _ tw_341) (List.mem_cons_of_mem _ tw_325) tw_338) rfl rfl rfl dd_X5_isThing rfl (Nat.le_of_ble_eq_true rfl) s_M0 rfl ⟨by decide, by decide⟩ ⟨Nat.le_refl 0, Nat.le_refl 0⟩ (Nat.le_of_ble_eq_true rfl) ?_
          refine jx_if_eq (tgt := 56) E dX5_build_46 (by decide) (fun hc13 => ?_) (fun hc13 => ?_)
          · rw [if_pos hc13] at hF
            refine jx_aload_n E dX5_build_56 0 rfl ?_
            refine jx_iload_n E dX5_build_57 2 rfl ?_
            refine jx_iload_n E dX5_build_58 1 rfl ?_
            refine jx_iload_n E dX5_build_59 3 rfl ?_
            refine jx_iload E dX5_build_60 4 rfl ?_
            refine jx_iconst (x := 0) E dX5_build_62 (by decide) ?_
            obtain ⟨v14, hc14, hF⟩ := jx_bind hF
            try dsimp only at hF
            refine jx_callVv (As := [.int x2, .int x1, .int x3, .int x4, .int 0]) (st := []) (h := 0) E dX5_build_63 5 rfl (k_X5_builds hI x2 x1 x3 x4 0 v12 v14 hc14) (gb_V (List.mem_cons_of_mem _ tw_357) (List.mem_cons_of_mem _ tw_358) (List.mem_cons_of_mem _ tw_359) (List.mem_cons_of_mem _ tw_325) tw_356) rfl rfl rfl dd_X5_builds rfl (Nat.le_of_ble_eq_true rfl) s_M0 rfl ⟨by decide, by decide⟩ ⟨Nat.le_refl 0, Nat.le_refl 0⟩ (Nat.le_of_ble_eq_true rfl) ?_
            refine jx_aload_n E dX5_build_66 0 rfl ?_
            obtain ⟨⟨r15, v15⟩, hc15, hF⟩ := jx_bind hF
            try dsimp only at hF
            refine jx_callVi (As := []) (st := []) (h := 0) E dX5_build_67 0 rfl (k_X5_things hI  v14 r15 v15 hc15) (gb_V (List.mem_cons_of_mem _ tw_361) (List.mem_cons_of_mem _ tw_362) (List.mem_cons_of_mem _ tw_363) (List.mem_cons_of_mem _ tw_325) tw_360) rfl rfl rfl dd_X5_things rfl (Nat.le_of_ble_eq_true rfl) s_M0 rfl ⟨by decide, by decide⟩ ⟨Nat.le_refl 0, Nat.le_refl 0⟩ (Nat.le_of_ble_eq_true rfl) ?_
            obtain ⟨rfl, rfl⟩ := jx_out hF
            exact jx_iret E dX5_build_70 rfl
          · rw [if_neg hc13] at hF
            refine jx_aload_n E dX5_build_49 0 rfl ?_
            refine jx_ldc (x := -1000005) E dX5_build_50 (List.mem_cons_of_mem _ tw_364) ?_
            obtain ⟨⟨r16, v16⟩, hc16, hF⟩ := jx_bind hF
            try dsimp only at hF
            refine jx_callVi (As := [.int (-1000005)]) (st := []) (h := 0) E dX5_build_52 1 rfl (k_X5_finds hI (-1000005) v12 r16 v16 hc16) (gb_V (List.mem_cons_of_mem _ tw_344) (List.mem_cons_of_mem _ tw_345) (List.mem_cons_of_mem _ tw_346) (List.mem_cons_of_mem _ tw_325) tw_343) rfl rfl rfl dd_X5_finds rfl (Nat.le_of_ble_eq_true rfl) s_M0 rfl ⟨by decide, by decide⟩ ⟨Nat.le_refl 0, Nat.le_refl 0⟩ (Nat.le_of_ble_eq_true rfl) ?_
            obtain ⟨rfl, rfl⟩ := jx_out hF
            exact jx_iret E dX5_build_55 rfl
        · rw [if_pos hc11] at hF
          refine jx_aload_n E dX5_build_34 0 rfl ?_
          refine jx_ldc (x := -1000001) E dX5_build_35 (List.mem_cons_of_mem _ tw_320) ?_
          obtain ⟨⟨r17, v17⟩, hc17, hF⟩ := jx_bind hF
          try dsimp only at hF
          refine jx_callVi (As := [.int (-1000001)]) (st := []) (h := 0) E dX5_build_37 1 rfl (k_X5_finds hI (-1000001) v10 r17 v17 hc17) (gb_V (List.mem_cons_of_mem _ tw_344) (List.mem_cons_of_mem _ tw_345) (List.mem_cons_of_mem _ tw_346) (List.mem_cons_of_mem _ tw_325) tw_343) rfl rfl rfl dd_X5_finds rfl (Nat.le_of_ble_eq_true rfl) s_M0 rfl ⟨by decide, by decide⟩ ⟨Nat.le_refl 0, Nat.le_refl 0⟩ (Nat.le_of_ble_eq_true rfl) ?_
          obtain ⟨rfl, rfl⟩ := jx_out hF
          exact jx_iret E dX5_build_40 rfl
def f_X5_lotWrong (x1 : Int32) (v : jx_V) : Option (Int32 × jx_V) := ((f_X5_isLot x1 v).bind (fun (r1, v1) => (if r1 = 0 then (some ((-1000001), v1)) else ((f_X5_isThing x1 v1).bind (fun (r3, v3) => (if r3 = 0 then (some ((-1000004), v3)) else (some (0, v3))))))))
def rm_X5_lotWrong : Room := { frames := 3, cells := 0, slots := 0, locals := 64 }
set_option maxHeartbeats 4000000 in
set_option maxRecDepth 100000 in
theorem k_X5_lotWrong {l : Launch} {D : va_G} {cI cJ : ClassId} {ad : Nat → Nat} {A : Nat → Prop} (hI : jx_inj 13 ad A) (x1 : Int32) (v : jx_V) (r : Int32) (v' : jx_V) (hF : f_X5_lotWrong x1 v = some (r, v')) : jx_Ci l D vwCl 13 cI cJ ad shM A ex_M yX5_lotWrong (Cond.code yX5_lotWrong cX5_lotWrong 2 (some .int) :: bigT) rm_X5_lotWrong [.ref (ad 0), .int x1] v r v' := by
  unfold f_X5_lotWrong at hF
  refine jx_enteri bigT RX5 cX5_lotWrong 2 (some .int) [(0, .ref (ad 0)), (1, .int x1)] hI (ex_M_ok A) (by decide +kernel) rfl (Nat.le_of_ble_eq_true rfl) rfl rfl ?_
  intro p e s m args below meth c E
  refine jx_iload_n E dX5_lotWrong_0 1 rfl ?_
  obtain ⟨⟨r1, v1⟩, hc1, hF⟩ := jx_bind hF
  try dsimp only at hF
  refine jx_callSi (As := [.int x1]) (st := []) E dX5_lotWrong_1 1 rfl (k_X5_isLot hI x1 v r1 v1 hc1) (gb_S (List.mem_cons_of_mem _ tw_348) (List.mem_cons_of_mem _ tw_349) (List.mem_cons_of_mem _ tw_325) tw_347) rfl rfl rfl dd_X5_isLot rfl ⟨by decide, by decide⟩ ⟨Nat.le_refl 0, Nat.le_refl 0⟩ (Nat.le_of_ble_eq_true rfl) ?_
  refine jx_if_ne (tgt := 12) E dX5_lotWrong_4 (by decide) (fun hc2 => ?_) (fun hc2 => ?_)
  · rw [if_neg hc2] at hF
    refine jx_aload_n E dX5_lotWrong_12 0 rfl ?_
    refine jx_iload_n E dX5_lotWrong_13 1 rfl ?_
    obtain ⟨⟨r3, v3⟩, hc3, hF⟩ := jx_bind hF
    try dsimp only at hF
    refine jx_callVi (As := [.int x1]) (st := []) (h := 0) E dX5_lotWrong_14 1 rfl (k_X5_isThing hI x1 v1 r3 v3 hc3) (gb_V (List.mem_cons_of_mem _ tw_339) (List.mem_cons_of_mem _ tw_340) (List.mem_cons_of_mem _ tw_341) (List.mem_cons_of_mem _ tw_325) tw_338) rfl rfl rfl dd_X5_isThing rfl (Nat.le_of_ble_eq_true rfl) s_M0 rfl ⟨by decide, by decide⟩ ⟨Nat.le_refl 0, Nat.le_refl 0⟩ (Nat.le_of_ble_eq_true rfl) ?_
    refine jx_if_eq (tgt := 24) E dX5_lotWrong_17 (by decide) (fun hc4 => ?_) (fun hc4 => ?_)
    · rw [if_pos hc4] at hF
      refine jx_ldc (x := -1000004) E dX5_lotWrong_24 (List.mem_cons_of_mem _ tw_365) ?_
      obtain ⟨rfl, rfl⟩ := jx_out hF
      exact jx_iret E dX5_lotWrong_26 rfl
    · rw [if_neg hc4] at hF
      refine jx_iconst (x := 0) E dX5_lotWrong_20 (by decide) ?_
      refine jx_goto (tgt := 26) E dX5_lotWrong_21 (by decide) ?_
      obtain ⟨rfl, rfl⟩ := jx_out hF
      exact jx_iret E dX5_lotWrong_26 rfl
  · rw [if_pos hc2] at hF
    refine jx_ldc (x := -1000001) E dX5_lotWrong_7 (List.mem_cons_of_mem _ tw_320) ?_
    refine jx_goto (tgt := 26) E dX5_lotWrong_9 (by decide) ?_
    obtain ⟨rfl, rfl⟩ := jx_out hF
    exact jx_iret E dX5_lotWrong_26 rfl
def f_X5_clear (x1 : Int32) (v : jx_V) : Option (Int32 × jx_V) := ((f_X5_lotWrong x1 v).bind (fun (r1, v1) => (if r1 = 0 then ((f_X5_at x1 0 v1).bind (fun (r3, v3) => (if (r3 < 0 ∨ 181 ≤ Int32.toNatClampNeg r3) then none else ((f_X5_its x1 2 (jx_up v3 1 (Int32.toNatClampNeg r3) (-1))).bind (fun (r5, v5) => (some (r5, v5))))))) else ((f_X5_finds r1 v1).bind (fun (r6, v6) => (some (r6, v6)))))))
def rm_X5_clear : Room := { frames := 4, cells := 0, slots := 0, locals := 85 }
set_option maxHeartbeats 4000000 in
set_option maxRecDepth 100000 in
theorem k_X5_clear {l : Launch} {D : va_G} {cI cJ : ClassId} {ad : Nat → Nat} {A : Nat → Prop} (hI : jx_inj 13 ad A) (x1 : Int32) (v : jx_V) (r : Int32) (v' : jx_V) (hF : f_X5_clear x1 v = some (r, v')) : jx_Ci l D vwCl 13 cI cJ ad shM A ex_M yX5_clear (Cond.code yX5_clear cX5_clear 3 (some .int) :: bigT) rm_X5_clear [.ref (ad 0), .int x1] v r v' := by
  unfold f_X5_clear at hF
  refine jx_enteri bigT RX5 cX5_clear 3 (some .int) [(0, .ref (ad 0)), (1, .int x1)] hI (ex_M_ok A) (by decide +kernel) rfl (Nat.le_of_ble_eq_true rfl) rfl rfl ?_
  intro p e s m args below meth c E
  have iX5 : ∀ w ∈ u_ws RX5 TX5 21, w ∈ (Cond.code yX5_clear cX5_clear 3 (some .int) :: bigT) := fun w h => List.mem_cons_of_mem _ (uw_X5 w h)
  refine jx_aload_n E dX5_clear_0 0 rfl ?_
  refine jx_iload_n E dX5_clear_1 1 rfl ?_
  obtain ⟨⟨r1, v1⟩, hc1, hF⟩ := jx_bind hF
  try dsimp only at hF
  refine jx_callVi (As := [.int x1]) (st := []) (h := 0) E dX5_clear_2 1 rfl (k_X5_lotWrong hI x1 v r1 v1 hc1) (gb_V (List.mem_cons_of_mem _ tw_367) (List.mem_cons_of_mem _ tw_368) (List.mem_cons_of_mem _ tw_369) (List.mem_cons_of_mem _ tw_325) tw_366) rfl rfl rfl dd_X5_lotWrong rfl (Nat.le_of_ble_eq_true rfl) s_M0 rfl ⟨by decide, by decide⟩ ⟨Nat.le_refl 0, Nat.le_refl 0⟩ (Nat.le_of_ble_eq_true rfl) ?_
  refine jx_istore_n (lv' := [(2, .int r1), (0, .ref (ad 0)), (1, .int x1)]) E dX5_clear_5 (by decide) rfl ?_
  refine jx_iload_n E dX5_clear_6 0 rfl ?_
  refine jx_if_eq (tgt := 16) E dX5_clear_7 (by decide) (fun hc2 => ?_) (fun hc2 => ?_)
  · rw [if_pos hc2] at hF
    refine jx_aload_n E dX5_clear_16 1 rfl ?_
    refine jx_getr (C := RX5) (T := TX5) (M := 21) (k := 0) E dX5_clear_17 (Nat.le_of_ble_eq_true rfl) s_M0 rfl iX5 (by decide) rfl (List.mem_cons_of_mem _ tw_328) rfl ?_
    refine jx_iload_n E dX5_clear_20 2 rfl ?_
    refine jx_iconst (x := 0) E dX5_clear_21 (by decide) ?_
    obtain ⟨⟨r3, v3⟩, hc3, hF⟩ := jx_bind hF
    try dsimp only at hF
    refine jx_callSi (As := [.int x1, .int 0]) (st := [.ref (ad 1)]) E dX5_clear_22 2 rfl (k_X5_at hI x1 0 v1 r3 v3 hc3) (gb_S (List.mem_cons_of_mem _ tw_332) (List.mem_cons_of_mem _ tw_333) (List.mem_cons_of_mem _ tw_325) tw_331) rfl rfl rfl dd_X5_at rfl ⟨by decide, by decide⟩ ⟨Nat.le_refl 0, Nat.le_refl 0⟩ (Nat.le_of_ble_eq_true rfl) ?_
    refine jx_iconst (x := -1) E dX5_clear_25 (by decide) ?_
    obtain ⟨hg4, hF⟩ := jx_guard hF
    refine jx_iast (h := 1) (j := (Int32.toNatClampNeg r3)) E dX5_clear_26 (Nat.le_of_ble_eq_true rfl) s_M1 hg4 rfl ?_
    refine jx_aload_n E dX5_clear_27 1 rfl ?_
    refine jx_iload_n E dX5_clear_28 2 rfl ?_
    refine jx_iconst (x := 2) E dX5_clear_29 (by decide) ?_
    obtain ⟨⟨r5, v5⟩, hc5, hF⟩ := jx_bind hF
    try dsimp only at hF
    refine jx_callVi (As := [.int x1, .int 2]) (st := []) (h := 0) E dX5_clear_30 2 rfl (k_X5_its hI x1 2 (jx_up v3 1 (Int32.toNatClampNeg r3) (-1)) r5 v5 hc5) (gb_V (List.mem_cons_of_mem _ tw_335) (List.mem_cons_of_mem _ tw_336) (List.mem_cons_of_mem _ tw_337) (List.mem_cons_of_mem _ tw_325) tw_334) rfl rfl rfl dd_X5_its rfl (Nat.le_of_ble_eq_true rfl) s_M0 rfl ⟨by decide, by decide⟩ ⟨Nat.le_refl 0, Nat.le_refl 0⟩ (Nat.le_of_ble_eq_true rfl) ?_
    obtain ⟨rfl, rfl⟩ := jx_out hF
    exact jx_iret E dX5_clear_33 rfl
  · rw [if_neg hc2] at hF
    refine jx_aload_n E dX5_clear_10 1 rfl ?_
    refine jx_iload_n E dX5_clear_11 0 rfl ?_
    obtain ⟨⟨r6, v6⟩, hc6, hF⟩ := jx_bind hF
    try dsimp only at hF
    refine jx_callVi (As := [.int r1]) (st := []) (h := 0) E dX5_clear_12 1 rfl (k_X5_finds hI r1 v1 r6 v6 hc6) (gb_V (List.mem_cons_of_mem _ tw_344) (List.mem_cons_of_mem _ tw_345) (List.mem_cons_of_mem _ tw_346) (List.mem_cons_of_mem _ tw_325) tw_343) rfl rfl rfl dd_X5_finds rfl (Nat.le_of_ble_eq_true rfl) s_M0 rfl ⟨by decide, by decide⟩ ⟨Nat.le_refl 0, Nat.le_refl 0⟩ (Nat.le_of_ble_eq_true rfl) ?_
    obtain ⟨rfl, rfl⟩ := jx_out hF
    exact jx_iret E dX5_clear_15 rfl
def f_X5_isSummer  (v : jx_V) : Option (Int32 × jx_V) := ((f_X5_in (Int32.toInt64 ((v 1 0) - (v 1 0) / 12 * 12)) 3 8 v).bind (fun (r1, v1) => (if ¬ (r1 = 0 ∨ r1 = 1) then none else some (r1, v1))))
def rm_X5_isSummer : Room := { frames := 1, cells := 0, slots := 0, locals := 25 }
set_option maxHeartbeats 4000000 in
set_option maxRecDepth 100000 in
theorem k_X5_isSummer {l : Launch} {D : va_G} {cI cJ : ClassId} {ad : Nat → Nat} {A : Nat → Prop} (hI : jx_inj 13 ad A)  (v : jx_V) (r : Int32) (v' : jx_V) (hF : f_X5_isSummer  v = some (r, v')) : jx_Ci l D vwCl 13 cI cJ ad shM A ex_M yX5_isSummer (Cond.code yX5_isSummer cX5_isSummer 1 (some .boolean) :: bigT) rm_X5_isSummer [.ref (ad 0)] v r v' := by
  unfold f_X5_isSummer at hF
  refine jx_enteri bigT RX5 cX5_isSummer 1 (some .boolean) [(0, .ref (ad 0))] hI (ex_M_ok A) (by decide +kernel) rfl (Nat.le_of_ble_eq_true rfl) rfl rfl ?_
  intro p e s m args below meth c E
  have iX5 : ∀ w ∈ u_ws RX5 TX5 21, w ∈ (Cond.code yX5_isSummer cX5_isSummer 1 (some .boolean) :: bigT) := fun w h => List.mem_cons_of_mem _ (uw_X5 w h)
  refine jx_aload_n E dX5_isSummer_0 0 rfl ?_
  refine jx_getr (C := RX5) (T := TX5) (M := 21) (k := 0) E dX5_isSummer_1 (Nat.le_of_ble_eq_true rfl) s_M0 rfl iX5 (by decide) rfl (List.mem_cons_of_mem _ tw_328) rfl ?_
  refine jx_iconst (x := 0) E dX5_isSummer_4 (by decide) ?_
  refine jx_iald (h := 1) (j := 0) E dX5_isSummer_5 (Nat.le_of_ble_eq_true rfl) s_M1 (by decide) (by decide) ?_
  refine jx_bipush (x := 12) E dX5_isSummer_6 (by decide) ?_
  refine jx_irem E dX5_isSummer_8 (by decide) ?_
  refine jx_i2l E dX5_isSummer_9 ?_
  refine jx_ldc2 (x := 3) E dX5_isSummer_10 (List.mem_cons_of_mem _ tw_326) ?_
  refine jx_ldc2 (x := 8) E dX5_isSummer_13 (List.mem_cons_of_mem _ tw_370) ?_
  obtain ⟨⟨r1, v1⟩, hc1, hF⟩ := jx_bind hF
  try dsimp only at hF
  refine jx_callSi (As := [.long (Int32.toInt64 ((v 1 0) - (v 1 0) / 12 * 12)), .long 3, .long 8]) (st := []) E dX5_isSummer_16 3 rfl (k_X5_in hI (Int32.toInt64 ((v 1 0) - (v 1 0) / 12 * 12)) 3 8 v r1 v1 hc1) (gb_S (List.mem_cons_of_mem _ tw_323) (List.mem_cons_of_mem _ tw_324) (List.mem_cons_of_mem _ tw_325) tw_322) rfl rfl rfl dd_X5_in rfl ⟨by decide, by decide⟩ ⟨Nat.le_refl 0, Nat.le_refl 0⟩ (Nat.le_of_ble_eq_true rfl) ?_
  obtain ⟨hg2, hF⟩ := jx_guard hF
  obtain ⟨rfl, rfl⟩ := jx_out hF
  exact jx_zret E dX5_isSummer_19 rfl (Decidable.not_not.mp hg2)
def f_X5_stands (x1 : Int32) (v : jx_V) : Option (Int32 × jx_V) := ((f_X5_its x1 2 v).bind (fun (r1, v1) => ((f_X5_its x1 0 v1).bind (fun (r2, v2) => (if r2 = 1 then ((f_X5_isSummer v2).bind (fun (r4, v4) => (if r4 = 0 then (if 9 ≤ (r1 + 0) then (some (9, v4)) else (some ((r1 + 0), v4))) else (if 9 ≤ (r1 + 2) then (some (9, v4)) else (some ((r1 + 2), v4)))))) else (if r2 = 2 then (if 9 ≤ r1 then (some (9, v2)) else (some (r1, v2))) else (if r2 = 3 then ((f_X5_isSummer v2).bind (fun (r11, v11) => (if r11 = 0 then (if 9 ≤ (r1 + 0) then (some (9, v11)) else (some ((r1 + 0), v11))) else (if 9 ≤ (r1 + 2) then (some (9, v11)) else (some ((r1 + 2), v11)))))) else (if r2 = 4 then (if ((v2 1 0) - (v2 1 0) / 2 * 2) = 1 then (if (9 : Int32) ≤ (0 : Int32) then (some (9, v2)) else (some (0, v2))) else (if 9 ≤ r1 then (some (9, v2)) else (some (r1, v2)))) else (if r2 = 5 then (if 9 ≤ r1 then (some (9, v2)) else (some (r1, v2))) else (if r2 = 6 then (if 9 ≤ (r1 + 3) then (some (9, v2)) else (some ((r1 + 3), v2))) else (if 9 ≤ r1 then (some (9, v2)) else (some (r1, v2)))))))))))))
def rm_X5_stands : Room := { frames := 2, cells := 0, slots := 0, locals := 45 }
set_option maxHeartbeats 4000000 in
set_option maxRecDepth 100000 in
theorem k_X5_stands {l : Launch} {D : va_G} {cI cJ : ClassId} {ad : Nat → Nat} {A : Nat → Prop} (hI : jx_inj 13 ad A) (x1 : Int32) (v : jx_V) (r : Int32) (v' : jx_V) (hF : f_X5_stands x1 v = some (r, v')) : jx_Ci l D vwCl 13 cI cJ ad shM A ex_M yX5_stands (Cond.code yX5_stands cX5_stands 4 (some .int) :: bigT) rm_X5_stands [.ref (ad 0), .int x1] v r v' := by
  unfold f_X5_stands at hF
  refine jx_enteri bigT RX5 cX5_stands 4 (some .int) [(0, .ref (ad 0)), (1, .int x1)] hI (ex_M_ok A) (by decide +kernel) rfl (Nat.le_of_ble_eq_true rfl) rfl rfl ?_
  intro p e s m args below meth c E
  have iX5 : ∀ w ∈ u_ws RX5 TX5 21, w ∈ (Cond.code yX5_stands cX5_stands 4 (some .int) :: bigT) := fun w h => List.mem_cons_of_mem _ (uw_X5 w h)
  refine jx_aload_n E dX5_stands_0 0 rfl ?_
  refine jx_iload_n E dX5_stands_1 1 rfl ?_
  refine jx_iconst (x := 2) E dX5_stands_2 (by decide) ?_
  obtain ⟨⟨r1, v1⟩, hc1, hF⟩ := jx_bind hF
  try dsimp only at hF
  refine jx_callVi (As := [.int x1, .int 2]) (st := []) (h := 0) E dX5_stands_3 2 rfl (k_X5_its hI x1 2 v r1 v1 hc1) (gb_V (List.mem_cons_of_mem _ tw_335) (List.mem_cons_of_mem _ tw_336) (List.mem_cons_of_mem _ tw_337) (List.mem_cons_of_mem _ tw_325) tw_334) rfl rfl rfl dd_X5_its rfl (Nat.le_of_ble_eq_true rfl) s_M0 rfl ⟨by decide, by decide⟩ ⟨Nat.le_refl 0, Nat.le_refl 0⟩ (Nat.le_of_ble_eq_true rfl) ?_
  refine jx_istore_n (lv' := [(2, .int r1), (0, .ref (ad 0)), (1, .int x1)]) E dX5_stands_6 (by decide) rfl ?_
  refine jx_iload_n E dX5_stands_7 0 rfl ?_
  refine jx_istore_n (lv' := [(3, .int r1), (2, .int r1), (0, .ref (ad 0)), (1, .int x1)]) E dX5_stands_8 (by decide) rfl ?_
  refine jx_aload_n E dX5_stands_9 2 rfl ?_
  refine jx_iload_n E dX5_stands_10 3 rfl ?_
  refine jx_iconst (x := 0) E dX5_stands_11 (by decide) ?_
  obtain ⟨⟨r2, v2⟩, hc2, hF⟩ := jx_bind hF
  try dsimp only at hF
  refine jx_callVi (As := [.int x1, .int 0]) (st := []) (h := 0) E dX5_stands_12 2 rfl (k_X5_its hI x1 0 v1 r2 v2 hc2) (gb_V (List.mem_cons_of_mem _ tw_335) (List.mem_cons_of_mem _ tw_336) (List.mem_cons_of_mem _ tw_337) (List.mem_cons_of_mem _ tw_325) tw_334) rfl rfl rfl dd_X5_its rfl (Nat.le_of_ble_eq_true rfl) s_M0 rfl ⟨by decide, by decide⟩ ⟨Nat.le_refl 0, Nat.le_refl 0⟩ (Nat.le_of_ble_eq_true rfl) ?_
  by_cases hc3 : r2 = 1
  · rw [if_pos hc3] at hF
    refine jx_tableIn (tgt := 52) (z := 1) E dX5_stands_15 hc3 (by decide) (by decide) rfl (by decide) ?_
    refine jx_iload_n E dX5_stands_52 1 rfl ?_
    refine jx_aload_n E dX5_stands_53 2 rfl ?_
    obtain ⟨⟨r4, v4⟩, hc4, hF⟩ := jx_bind hF
    try dsimp only at hF
    refine jx_callVi (As := []) (st := [.int r1]) (h := 0) E dX5_stands_54 0 rfl (k_X5_isSummer hI  v2 r4 v4 hc4) (gb_V (List.mem_cons_of_mem _ tw_372) (List.mem_cons_of_mem _ tw_373) (List.mem_cons_of_mem _ tw_374) (List.mem_cons_of_mem _ tw_325) tw_371) rfl rfl rfl dd_X5_isSummer rfl (Nat.le_of_ble_eq_true rfl) s_M0 rfl ⟨by decide, by decide⟩ ⟨Nat.le_refl 0, Nat.le_refl 0⟩ (Nat.le_of_ble_eq_true rfl) ?_
    refine jx_if_eq (tgt := 64) E dX5_stands_57 (by decide) (fun hc5 => ?_) (fun hc5 => ?_)
    · rw [if_pos hc5] at hF
      refine jx_iconst (x := 0) E dX5_stands_64 (by decide) ?_
      refine jx_iadd E dX5_stands_65 ?_
      refine jx_istore_n (lv' := [(3, .int (r1 + 0)), (2, .int r1), (0, .ref (ad 0)), (1, .int x1)]) E dX5_stands_66 (by decide) rfl ?_
      refine jx_goto (tgt := 98) E dX5_stands_67 (by decide) ?_
      refine jx_iload_n E dX5_stands_98 0 rfl ?_
      refine jx_bipush (x := 9) E dX5_stands_99 (by decide) ?_
      refine jx_icmp_ge (tgt := 108) E dX5_stands_101 (by decide) (fun hc6 => ?_) (fun hc6 => ?_)
      · rw [if_pos hc6] at hF
        refine jx_bipush (x := 9) E dX5_stands_108 (by decide) ?_
        obtain ⟨rfl, rfl⟩ := jx_out hF
        exact jx_iret E dX5_stands_110 rfl
      · rw [if_neg hc6] at hF
        refine jx_iload_n E dX5_stands_104 0 rfl ?_
        refine jx_goto (tgt := 110) E dX5_stands_105 (by decide) ?_
        obtain ⟨rfl, rfl⟩ := jx_out hF
        exact jx_iret E dX5_stands_110 rfl
    · rw [if_neg hc5] at hF
      refine jx_iconst (x := 2) E dX5_stands_60 (by decide) ?_
      refine jx_goto (tgt := 65) E dX5_stands_61 (by decide) ?_
      refine jx_iadd E dX5_stands_65 ?_
      refine jx_istore_n (lv' := [(3, .int (r1 + 2)), (2, .int r1), (0, .ref (ad 0)), (1, .int x1)]) E dX5_stands_66 (by decide) rfl ?_
      refine jx_goto (tgt := 98) E dX5_stands_67 (by decide) ?_
      refine jx_iload_n E dX5_stands_98 0 rfl ?_
      refine jx_bipush (x := 9) E dX5_stands_99 (by decide) ?_
      refine jx_icmp_ge (tgt := 108) E dX5_stands_101 (by decide) (fun hc7 => ?_) (fun hc7 => ?_)
      · rw [if_pos hc7] at hF
        refine jx_bipush (x := 9) E dX5_stands_108 (by decide) ?_
        obtain ⟨rfl, rfl⟩ := jx_out hF
        exact jx_iret E dX5_stands_110 rfl
      · rw [if_neg hc7] at hF
        refine jx_iload_n E dX5_stands_104 0 rfl ?_
        refine jx_goto (tgt := 110) E dX5_stands_105 (by decide) ?_
        obtain ⟨rfl, rfl⟩ := jx_out hF
        exact jx_iret E dX5_stands_110 rfl
  rw [if_neg hc3] at hF
  by_cases hc8 : r2 = 2
  · rw [if_pos hc8] at hF
    refine jx_tableIn (tgt := 98) (z := 2) E dX5_stands_15 hc8 (by decide) (by decide) rfl (by decide) ?_
    refine jx_iload_n E dX5_stands_98 0 rfl ?_
    refine jx_bipush (x := 9) E dX5_stands_99 (by decide) ?_
    refine jx_icmp_ge (tgt := 108) E dX5_stands_101 (by decide) (fun hc9 => ?_) (fun hc9 => ?_)
    · rw [if_pos hc9] at hF
      refine jx_bipush (x := 9) E dX5_stands_108 (by decide) ?_
      obtain ⟨rfl, rfl⟩ := jx_out hF
      exact jx_iret E dX5_stands_110 rfl
    · rw [if_neg hc9] at hF
      refine jx_iload_n E dX5_stands_104 0 rfl ?_
      refine jx_goto (tgt := 110) E dX5_stands_105 (by decide) ?_
      obtain ⟨rfl, rfl⟩ := jx_out hF
      exact jx_iret E dX5_stands_110 rfl
  rw [if_neg hc8] at hF
  by_cases hc10 : r2 = 3
  · rw [if_pos hc10] at hF
    refine jx_tableIn (tgt := 52) (z := 3) E dX5_stands_15 hc10 (by decide) (by decide) rfl (by decide) ?_
    refine jx_iload_n E dX5_stands_52 1 rfl ?_
    refine jx_aload_n E dX5_stands_53 2 rfl ?_
    obtain ⟨⟨r11, v11⟩, hc11, hF⟩ := jx_bind hF
    try dsimp only at hF
    refine jx_callVi (As := []) (st := [.int r1]) (h := 0) E dX5_stands_54 0 rfl (k_X5_isSummer hI  v2 r11 v11 hc11) (gb_V (List.mem_cons_of_mem _ tw_372) (List.mem_cons_of_mem _ tw_373) (List.mem_cons_of_mem _ tw_374) (List.mem_cons_of_mem _ tw_325) tw_371) rfl rfl rfl dd_X5_isSummer rfl (Nat.le_of_ble_eq_true rfl) s_M0 rfl ⟨by decide, by decide⟩ ⟨Nat.le_refl 0, Nat.le_refl 0⟩ (Nat.le_of_ble_eq_true rfl) ?_
    refine jx_if_eq (tgt := 64) E dX5_stands_57 (by decide) (fun hc12 => ?_) (fun hc12 => ?_)
    · rw [if_pos hc12] at hF
      refine jx_iconst (x := 0) E dX5_stands_64 (by decide) ?_
      refine jx_iadd E dX5_stands_65 ?_
      refine jx_istore_n (lv' := [(3, .int (r1 + 0)), (2, .int r1), (0, .ref (ad 0)), (1, .int x1)]) E dX5_stands_66 (by decide) rfl ?_
      refine jx_goto (tgt := 98) E dX5_stands_67 (by decide) ?_
      refine jx_iload_n E dX5_stands_98 0 rfl ?_
      refine jx_bipush (x := 9) E dX5_stands_99 (by decide) ?_
      refine jx_icmp_ge (tgt := 108) E dX5_stands_101 (by decide) (fun hc13 => ?_) (fun hc13 => ?_)
      · rw [if_pos hc13] at hF
        refine jx_bipush (x := 9) E dX5_stands_108 (by decide) ?_
        obtain ⟨rfl, rfl⟩ := jx_out hF
        exact jx_iret E dX5_stands_110 rfl
      · rw [if_neg hc13] at hF
        refine jx_iload_n E dX5_stands_104 0 rfl ?_
        refine jx_goto (tgt := 110) E dX5_stands_105 (by decide) ?_
        obtain ⟨rfl, rfl⟩ := jx_out hF
        exact jx_iret E dX5_stands_110 rfl
    · rw [if_neg hc12] at hF
      refine jx_iconst (x := 2) E dX5_stands_60 (by decide) ?_
      refine jx_goto (tgt := 65) E dX5_stands_61 (by decide) ?_
      refine jx_iadd E dX5_stands_65 ?_
      refine jx_istore_n (lv' := [(3, .int (r1 + 2)), (2, .int r1), (0, .ref (ad 0)), (1, .int x1)]) E dX5_stands_66 (by decide) rfl ?_
      refine jx_goto (tgt := 98) E dX5_stands_67 (by decide) ?_
      refine jx_iload_n E dX5_stands_98 0 rfl ?_
      refine jx_bipush (x := 9) E dX5_stands_99 (by decide) ?_
      refine jx_icmp_ge (tgt := 108) E dX5_stands_101 (by decide) (fun hc14 => ?_) (fun hc14 => ?_)
      · rw [if_pos hc14] at hF
        refine jx_bipush (x := 9) E dX5_stands_108 (by decide) ?_
        obtain ⟨rfl, rfl⟩ := jx_out hF
        exact jx_iret E dX5_stands_110 rfl
      · rw [if_neg hc14] at hF
        refine jx_iload_n E dX5_stands_104 0 rfl ?_
        refine jx_goto (tgt := 110) E dX5_stands_105 (by decide) ?_
        obtain ⟨rfl, rfl⟩ := jx_out hF
        exact jx_iret E dX5_stands_110 rfl
  rw [if_neg hc10] at hF
  by_cases hc15 : r2 = 4
  · rw [if_pos hc15] at hF
    refine jx_tableIn (tgt := 70) (z := 4) E dX5_stands_15 hc15 (by decide) (by decide) rfl (by decide) ?_
    refine jx_aload_n E dX5_stands_70 2 rfl ?_
    refine jx_getr (C := RX5) (T := TX5) (M := 21) (k := 0) E dX5_stands_71 (Nat.le_of_ble_eq_true rfl) s_M0 rfl iX5 (by decide) rfl (List.mem_cons_of_mem _ tw_328) rfl ?_
    refine jx_iconst (x := 0) E dX5_stands_74 (by decide) ?_
    refine jx_iald (h := 1) (j := 0) E dX5_stands_75 (Nat.le_of_ble_eq_true rfl) s_M1 (by decide) (by decide) ?_
    refine jx_iconst (x := 2) E dX5_stands_76 (by decide) ?_
    refine jx_irem E dX5_stands_77 (by decide) ?_
    refine jx_iconst (x := 1) E dX5_stands_78 (by decide) ?_
    refine jx_icmp_ne (tgt := 86) E dX5_stands_79 (by decide) (fun hc16 => ?_) (fun hc16 => ?_)
    · rw [if_neg hc16] at hF
      refine jx_iload_n E dX5_stands_86 1 rfl ?_
      refine jx_istore_n (lv' := [(3, .int r1), (2, .int r1), (0, .ref (ad 0)), (1, .int x1)]) E dX5_stands_87 (by decide) rfl ?_
      refine jx_goto (tgt := 98) E dX5_stands_88 (by decide) ?_
      refine jx_iload_n E dX5_stands_98 0 rfl ?_
      refine jx_bipush (x := 9) E dX5_stands_99 (by decide) ?_
      refine jx_icmp_ge (tgt := 108) E dX5_stands_101 (by decide) (fun hc17 => ?_) (fun hc17 => ?_)
      · rw [if_pos hc17] at hF
        refine jx_bipush (x := 9) E dX5_stands_108 (by decide) ?_
        obtain ⟨rfl, rfl⟩ := jx_out hF
        exact jx_iret E dX5_stands_110 rfl
      · rw [if_neg hc17] at hF
        refine jx_iload_n E dX5_stands_104 0 rfl ?_
        refine jx_goto (tgt := 110) E dX5_stands_105 (by decide) ?_
        obtain ⟨rfl, rfl⟩ := jx_out hF
        exact jx_iret E dX5_stands_110 rfl
    · rw [if_pos hc16] at hF
      refine jx_iconst (x := 0) E dX5_stands_82 (by decide) ?_
      refine jx_goto (tgt := 87) E dX5_stands_83 (by decide) ?_
      refine jx_istore_n (lv' := [(3, .int 0), (2, .int r1), (0, .ref (ad 0)), (1, .int x1)]) E dX5_stands_87 (by decide) rfl ?_
      refine jx_goto (tgt := 98) E dX5_stands_88 (by decide) ?_
      refine jx_iload_n E dX5_stands_98 0 rfl ?_
      refine jx_bipush (x := 9) E dX5_stands_99 (by decide) ?_
      refine jx_icmp_ge (tgt := 108) E dX5_stands_101 (by decide) (fun hc18 => ?_) (fun hc18 => ?_)
      · rw [if_pos hc18] at hF
        refine jx_bipush (x := 9) E dX5_stands_108 (by decide) ?_
        obtain ⟨rfl, rfl⟩ := jx_out hF
        exact jx_iret E dX5_stands_110 rfl
      · rw [if_neg hc18] at hF
        refine jx_iload_n E dX5_stands_104 0 rfl ?_
        refine jx_goto (tgt := 110) E dX5_stands_105 (by decide) ?_
        obtain ⟨rfl, rfl⟩ := jx_out hF
        exact jx_iret E dX5_stands_110 rfl
  rw [if_neg hc15] at hF
  by_cases hc19 : r2 = 5
  · rw [if_pos hc19] at hF
    refine jx_tableIn (tgt := 98) (z := 5) E dX5_stands_15 hc19 (by decide) (by decide) rfl (by decide) ?_
    refine jx_iload_n E dX5_stands_98 0 rfl ?_
    refine jx_bipush (x := 9) E dX5_stands_99 (by decide) ?_
    refine jx_icmp_ge (tgt := 108) E dX5_stands_101 (by decide) (fun hc20 => ?_) (fun hc20 => ?_)
    · rw [if_pos hc20] at hF
      refine jx_bipush (x := 9) E dX5_stands_108 (by decide) ?_
      obtain ⟨rfl, rfl⟩ := jx_out hF
      exact jx_iret E dX5_stands_110 rfl
    · rw [if_neg hc20] at hF
      refine jx_iload_n E dX5_stands_104 0 rfl ?_
      refine jx_goto (tgt := 110) E dX5_stands_105 (by decide) ?_
      obtain ⟨rfl, rfl⟩ := jx_out hF
      exact jx_iret E dX5_stands_110 rfl
  rw [if_neg hc19] at hF
  by_cases hc21 : r2 = 6
  · rw [if_pos hc21] at hF
    refine jx_tableIn (tgt := 91) (z := 6) E dX5_stands_15 hc21 (by decide) (by decide) rfl (by decide) ?_
    refine jx_iload_n E dX5_stands_91 1 rfl ?_
    refine jx_iconst (x := 3) E dX5_stands_92 (by decide) ?_
    refine jx_iadd E dX5_stands_93 ?_
    refine jx_istore_n (lv' := [(3, .int (r1 + 3)), (2, .int r1), (0, .ref (ad 0)), (1, .int x1)]) E dX5_stands_94 (by decide) rfl ?_
    refine jx_goto (tgt := 98) E dX5_stands_95 (by decide) ?_
    refine jx_iload_n E dX5_stands_98 0 rfl ?_
    refine jx_bipush (x := 9) E dX5_stands_99 (by decide) ?_
    refine jx_icmp_ge (tgt := 108) E dX5_stands_101 (by decide) (fun hc22 => ?_) (fun hc22 => ?_)
    · rw [if_pos hc22] at hF
      refine jx_bipush (x := 9) E dX5_stands_108 (by decide) ?_
      obtain ⟨rfl, rfl⟩ := jx_out hF
      exact jx_iret E dX5_stands_110 rfl
    · rw [if_neg hc22] at hF
      refine jx_iload_n E dX5_stands_104 0 rfl ?_
      refine jx_goto (tgt := 110) E dX5_stands_105 (by decide) ?_
      obtain ⟨rfl, rfl⟩ := jx_out hF
      exact jx_iret E dX5_stands_110 rfl
  rw [if_neg hc21] at hF
  refine jx_tableOut (tgt := 98) E dX5_stands_15 (by have hz3 := jx_ne hc3 (k := 1) (by decide); have hz8 := jx_ne hc8 (k := 2) (by decide); have hz10 := jx_ne hc10 (k := 3) (by decide); have hz15 := jx_ne hc15 (k := 4) (by decide); have hz19 := jx_ne hc19 (k := 5) (by decide); have hz21 := jx_ne hc21 (k := 6) (by decide); omega) (by decide) ?_
  refine jx_iload_n E dX5_stands_98 0 rfl ?_
  refine jx_bipush (x := 9) E dX5_stands_99 (by decide) ?_
  refine jx_icmp_ge (tgt := 108) E dX5_stands_101 (by decide) (fun hc23 => ?_) (fun hc23 => ?_)
  · rw [if_pos hc23] at hF
    refine jx_bipush (x := 9) E dX5_stands_108 (by decide) ?_
    obtain ⟨rfl, rfl⟩ := jx_out hF
    exact jx_iret E dX5_stands_110 rfl
  · rw [if_neg hc23] at hF
    refine jx_iload_n E dX5_stands_104 0 rfl ?_
    refine jx_goto (tgt := 110) E dX5_stands_105 (by decide) ?_
    obtain ⟨rfl, rfl⟩ := jx_out hF
    exact jx_iret E dX5_stands_110 rfl
def f_X5_grows (x1 : Int32) (v : jx_V) : Option (Int32 × jx_V) := ((f_X5_its x1 0 v).bind (fun (r1, v1) => (if r1 = 1 then (if ((v1 1 0) - (v1 1 0) / 4 * 4) = 3 then (some (1, v1)) else (if r1 = 3 then (if ((v1 1 0) - (v1 1 0) / 4 * 4) = 1 then (some (1, v1)) else (some (0, v1))) else (some (0, v1)))) else (if r1 = 3 then (if ((v1 1 0) - (v1 1 0) / 4 * 4) = 3 then (some (1, v1)) else (if r1 = 3 then (if ((v1 1 0) - (v1 1 0) / 4 * 4) = 1 then (some (1, v1)) else (some (0, v1))) else (some (0, v1)))) else (if r1 = 3 then (if ((v1 1 0) - (v1 1 0) / 4 * 4) = 1 then (some (1, v1)) else (some (0, v1))) else (some (0, v1)))))))
def rm_X5_grows : Room := { frames := 2, cells := 0, slots := 0, locals := 43 }
set_option maxHeartbeats 4000000 in
set_option maxRecDepth 100000 in
theorem k_X5_grows {l : Launch} {D : va_G} {cI cJ : ClassId} {ad : Nat → Nat} {A : Nat → Prop} (hI : jx_inj 13 ad A) (x1 : Int32) (v : jx_V) (r : Int32) (v' : jx_V) (hF : f_X5_grows x1 v = some (r, v')) : jx_Ci l D vwCl 13 cI cJ ad shM A ex_M yX5_grows (Cond.code yX5_grows cX5_grows 4 (some .int) :: bigT) rm_X5_grows [.ref (ad 0), .int x1] v r v' := by
  unfold f_X5_grows at hF
  refine jx_enteri bigT RX5 cX5_grows 4 (some .int) [(0, .ref (ad 0)), (1, .int x1)] hI (ex_M_ok A) (by decide +kernel) rfl (Nat.le_of_ble_eq_true rfl) rfl rfl ?_
  intro p e s m args below meth c E
  have iX5 : ∀ w ∈ u_ws RX5 TX5 21, w ∈ (Cond.code yX5_grows cX5_grows 4 (some .int) :: bigT) := fun w h => List.mem_cons_of_mem _ (uw_X5 w h)
  refine jx_aload_n E dX5_grows_0 0 rfl ?_
  refine jx_iload_n E dX5_grows_1 1 rfl ?_
  refine jx_iconst (x := 0) E dX5_grows_2 (by decide) ?_
  obtain ⟨⟨r1, v1⟩, hc1, hF⟩ := jx_bind hF
  try dsimp only at hF
  refine jx_callVi (As := [.int x1, .int 0]) (st := []) (h := 0) E dX5_grows_3 2 rfl (k_X5_its hI x1 0 v r1 v1 hc1) (gb_V (List.mem_cons_of_mem _ tw_335) (List.mem_cons_of_mem _ tw_336) (List.mem_cons_of_mem _ tw_337) (List.mem_cons_of_mem _ tw_325) tw_334) rfl rfl rfl dd_X5_its rfl (Nat.le_of_ble_eq_true rfl) s_M0 rfl ⟨by decide, by decide⟩ ⟨Nat.le_refl 0, Nat.le_refl 0⟩ (Nat.le_of_ble_eq_true rfl) ?_
  refine jx_istore_n (lv' := [(2, .int r1), (0, .ref (ad 0)), (1, .int x1)]) E dX5_grows_6 (by decide) rfl ?_
  refine jx_aload_n E dX5_grows_7 1 rfl ?_
  refine jx_getr (C := RX5) (T := TX5) (M := 21) (k := 0) E dX5_grows_8 (Nat.le_of_ble_eq_true rfl) s_M0 rfl iX5 (by decide) rfl (List.mem_cons_of_mem _ tw_328) rfl ?_
  refine jx_iconst (x := 0) E dX5_grows_11 (by decide) ?_
  refine jx_iald (h := 1) (j := 0) E dX5_grows_12 (Nat.le_of_ble_eq_true rfl) s_M1 (by decide) (by decide) ?_
  refine jx_iconst (x := 4) E dX5_grows_13 (by decide) ?_
  refine jx_irem E dX5_grows_14 (by decide) ?_
  refine jx_istore_n (lv' := [(3, .int ((v1 1 0) - (v1 1 0) / 4 * 4)), (2, .int r1), (0, .ref (ad 0)), (1, .int x1)]) E dX5_grows_15 (by decide) rfl ?_
  refine jx_iload_n E dX5_grows_16 1 rfl ?_
  refine jx_iconst (x := 1) E dX5_grows_17 (by decide) ?_
  refine jx_icmp_eq (tgt := 26) E dX5_grows_18 (by decide) (fun hc2 => ?_) (fun hc2 => ?_)
  · rw [if_pos hc2] at hF
    refine jx_iload_n E dX5_grows_26 0 rfl ?_
    refine jx_iconst (x := 3) E dX5_grows_27 (by decide) ?_
    refine jx_icmp_eq (tgt := 41) E dX5_grows_28 (by decide) (fun hc3 => ?_) (fun hc3 => ?_)
    · rw [if_pos hc3] at hF
      refine jx_iconst (x := 1) E dX5_grows_41 (by decide) ?_
      refine jx_goto (tgt := 46) E dX5_grows_42 (by decide) ?_
      obtain ⟨rfl, rfl⟩ := jx_out hF
      exact jx_iret E dX5_grows_46 rfl
    · rw [if_neg hc3] at hF
      refine jx_iload_n E dX5_grows_31 1 rfl ?_
      refine jx_iconst (x := 3) E dX5_grows_32 (by decide) ?_
      refine jx_icmp_ne (tgt := 45) E dX5_grows_33 (by decide) (fun hc4 => ?_) (fun hc4 => ?_)
      · rw [if_neg hc4] at hF
        refine jx_iconst (x := 0) E dX5_grows_45 (by decide) ?_
        obtain ⟨rfl, rfl⟩ := jx_out hF
        exact jx_iret E dX5_grows_46 rfl
      · rw [if_pos hc4] at hF
        refine jx_iload_n E dX5_grows_36 0 rfl ?_
        refine jx_iconst (x := 1) E dX5_grows_37 (by decide) ?_
        refine jx_icmp_ne (tgt := 45) E dX5_grows_38 (by decide) (fun hc5 => ?_) (fun hc5 => ?_)
        · rw [if_neg hc5] at hF
          refine jx_iconst (x := 0) E dX5_grows_45 (by decide) ?_
          obtain ⟨rfl, rfl⟩ := jx_out hF
          exact jx_iret E dX5_grows_46 rfl
        · rw [if_pos hc5] at hF
          refine jx_iconst (x := 1) E dX5_grows_41 (by decide) ?_
          refine jx_goto (tgt := 46) E dX5_grows_42 (by decide) ?_
          obtain ⟨rfl, rfl⟩ := jx_out hF
          exact jx_iret E dX5_grows_46 rfl
  · rw [if_neg hc2] at hF
    refine jx_iload_n E dX5_grows_21 1 rfl ?_
    refine jx_iconst (x := 3) E dX5_grows_22 (by decide) ?_
    refine jx_icmp_ne (tgt := 31) E dX5_grows_23 (by decide) (fun hc6 => ?_) (fun hc6 => ?_)
    · rw [if_neg hc6] at hF
      refine jx_iload_n E dX5_grows_31 1 rfl ?_
      refine jx_iconst (x := 3) E dX5_grows_32 (by decide) ?_
      refine jx_icmp_ne (tgt := 45) E dX5_grows_33 (by decide) (fun hc7 => ?_) (fun hc7 => ?_)
      · rw [if_neg hc7] at hF
        refine jx_iconst (x := 0) E dX5_grows_45 (by decide) ?_
        obtain ⟨rfl, rfl⟩ := jx_out hF
        exact jx_iret E dX5_grows_46 rfl
      · rw [if_pos hc7] at hF
        refine jx_iload_n E dX5_grows_36 0 rfl ?_
        refine jx_iconst (x := 1) E dX5_grows_37 (by decide) ?_
        refine jx_icmp_ne (tgt := 45) E dX5_grows_38 (by decide) (fun hc8 => ?_) (fun hc8 => ?_)
        · rw [if_neg hc8] at hF
          refine jx_iconst (x := 0) E dX5_grows_45 (by decide) ?_
          obtain ⟨rfl, rfl⟩ := jx_out hF
          exact jx_iret E dX5_grows_46 rfl
        · rw [if_pos hc8] at hF
          refine jx_iconst (x := 1) E dX5_grows_41 (by decide) ?_
          refine jx_goto (tgt := 46) E dX5_grows_42 (by decide) ?_
          obtain ⟨rfl, rfl⟩ := jx_out hF
          exact jx_iret E dX5_grows_46 rfl
    · rw [if_pos hc6] at hF
      refine jx_iload_n E dX5_grows_26 0 rfl ?_
      refine jx_iconst (x := 3) E dX5_grows_27 (by decide) ?_
      refine jx_icmp_eq (tgt := 41) E dX5_grows_28 (by decide) (fun hc9 => ?_) (fun hc9 => ?_)
      · rw [if_pos hc9] at hF
        refine jx_iconst (x := 1) E dX5_grows_41 (by decide) ?_
        refine jx_goto (tgt := 46) E dX5_grows_42 (by decide) ?_
        obtain ⟨rfl, rfl⟩ := jx_out hF
        exact jx_iret E dX5_grows_46 rfl
      · rw [if_neg hc9] at hF
        refine jx_iload_n E dX5_grows_31 1 rfl ?_
        refine jx_iconst (x := 3) E dX5_grows_32 (by decide) ?_
        refine jx_icmp_ne (tgt := 45) E dX5_grows_33 (by decide) (fun hc10 => ?_) (fun hc10 => ?_)
        · rw [if_neg hc10] at hF
          refine jx_iconst (x := 0) E dX5_grows_45 (by decide) ?_
          obtain ⟨rfl, rfl⟩ := jx_out hF
          exact jx_iret E dX5_grows_46 rfl
        · rw [if_pos hc10] at hF
          refine jx_iload_n E dX5_grows_36 0 rfl ?_
          refine jx_iconst (x := 1) E dX5_grows_37 (by decide) ?_
          refine jx_icmp_ne (tgt := 45) E dX5_grows_38 (by decide) (fun hc11 => ?_) (fun hc11 => ?_)
          · rw [if_neg hc11] at hF
            refine jx_iconst (x := 0) E dX5_grows_45 (by decide) ?_
            obtain ⟨rfl, rfl⟩ := jx_out hF
            exact jx_iret E dX5_grows_46 rfl
          · rw [if_pos hc11] at hF
            refine jx_iconst (x := 1) E dX5_grows_41 (by decide) ?_
            refine jx_goto (tgt := 46) E dX5_grows_42 (by decide) ?_
            obtain ⟨rfl, rfl⟩ := jx_out hF
            exact jx_iret E dX5_grows_46 rfl
def f_X5_priceOf (x1 : Int32) (v : jx_V) : Option (Int32 × jx_V) := ((f_X5_its x1 3 v).bind (fun (r1, v1) => (if ((3 + r1) < 0 ∨ 181 ≤ Int32.toNatClampNeg (3 + r1)) then none else ((f_X5_its x1 0 v1).bind (fun (r3, v3) => (if r3 = 1 then ((f_X5_isSummer v3).bind (fun (r5, v5) => (if r5 = 0 then (some (((v1 1 (Int32.toNatClampNeg (3 + r1))) + 0), v5)) else (some (((v1 1 (Int32.toNatClampNeg (3 + r1))) + 1), v5))))) else (if r3 = 2 then ((f_X5_its x1 3 v3).bind (fun (r8, v8) => (if r8 = 0 then (some (0, v8)) else (some ((v1 1 (Int32.toNatClampNeg (3 + r1))), v8))))) else (if r3 = 3 then ((f_X5_isSummer v3).bind (fun (r11, v11) => (if r11 = 0 then (some (((v1 1 (Int32.toNatClampNeg (3 + r1))) + 0), v11)) else (some (((v1 1 (Int32.toNatClampNeg (3 + r1))) + 1), v11))))) else (if r3 = 4 then ((f_X5_its x1 3 v3).bind (fun (r14, v14) => (if r14 = 0 then (some (0, v14)) else (some ((v1 1 (Int32.toNatClampNeg (3 + r1))), v14))))) else (if r3 = 5 then (some ((2 * (v1 1 (Int32.toNatClampNeg (3 + r1)))), v3)) else (if r3 = 6 then (some ((2 * (v1 1 (Int32.toNatClampNeg (3 + r1)))), v3)) else (some ((v1 1 (Int32.toNatClampNeg (3 + r1))), v3)))))))))))))
def rm_X5_priceOf : Room := { frames := 2, cells := 0, slots := 0, locals := 45 }
set_option maxHeartbeats 4000000 in
set_option maxRecDepth 100000 in
theorem k_X5_priceOf {l : Launch} {D : va_G} {cI cJ : ClassId} {ad : Nat → Nat} {A : Nat → Prop} (hI : jx_inj 13 ad A) (x1 : Int32) (v : jx_V) (r : Int32) (v' : jx_V) (hF : f_X5_priceOf x1 v = some (r, v')) : jx_Ci l D vwCl 13 cI cJ ad shM A ex_M yX5_priceOf (Cond.code yX5_priceOf cX5_priceOf 3 (some .int) :: bigT) rm_X5_priceOf [.ref (ad 0), .int x1] v r v' := by
  unfold f_X5_priceOf at hF
  refine jx_enteri bigT RX5 cX5_priceOf 3 (some .int) [(0, .ref (ad 0)), (1, .int x1)] hI (ex_M_ok A) (by decide +kernel) rfl (Nat.le_of_ble_eq_true rfl) rfl rfl ?_
  intro p e s m args below meth c E
  have iX5 : ∀ w ∈ u_ws RX5 TX5 21, w ∈ (Cond.code yX5_priceOf cX5_priceOf 3 (some .int) :: bigT) := fun w h => List.mem_cons_of_mem _ (uw_X5 w h)
  refine jx_aload_n E dX5_priceOf_0 0 rfl ?_
  refine jx_getr (C := RX5) (T := TX5) (M := 21) (k := 0) E dX5_priceOf_1 (Nat.le_of_ble_eq_true rfl) s_M0 rfl iX5 (by decide) rfl (List.mem_cons_of_mem _ tw_328) rfl ?_
  refine jx_iconst (x := 3) E dX5_priceOf_4 (by decide) ?_
  refine jx_aload_n E dX5_priceOf_5 0 rfl ?_
  refine jx_iload_n E dX5_priceOf_6 1 rfl ?_
  refine jx_iconst (x := 3) E dX5_priceOf_7 (by decide) ?_
  obtain ⟨⟨r1, v1⟩, hc1, hF⟩ := jx_bind hF
  try dsimp only at hF
  refine jx_callVi (As := [.int x1, .int 3]) (st := [.int 3, .ref (ad 1)]) (h := 0) E dX5_priceOf_8 2 rfl (k_X5_its hI x1 3 v r1 v1 hc1) (gb_V (List.mem_cons_of_mem _ tw_335) (List.mem_cons_of_mem _ tw_336) (List.mem_cons_of_mem _ tw_337) (List.mem_cons_of_mem _ tw_325) tw_334) rfl rfl rfl dd_X5_its rfl (Nat.le_of_ble_eq_true rfl) s_M0 rfl ⟨by decide, by decide⟩ ⟨Nat.le_refl 0, Nat.le_refl 0⟩ (Nat.le_of_ble_eq_true rfl) ?_
  refine jx_iadd E dX5_priceOf_11 ?_
  obtain ⟨hg2, hF⟩ := jx_guard hF
  refine jx_iald (h := 1) (j := (Int32.toNatClampNeg (3 + r1))) E dX5_priceOf_12 (Nat.le_of_ble_eq_true rfl) s_M1 hg2 rfl ?_
  refine jx_istore_n (lv' := [(2, .int (v1 1 (Int32.toNatClampNeg (3 + r1)))), (0, .ref (ad 0)), (1, .int x1)]) E dX5_priceOf_13 (by decide) rfl ?_
  refine jx_aload_n E dX5_priceOf_14 1 rfl ?_
  refine jx_iload_n E dX5_priceOf_15 2 rfl ?_
  refine jx_iconst (x := 0) E dX5_priceOf_16 (by decide) ?_
  obtain ⟨⟨r3, v3⟩, hc3, hF⟩ := jx_bind hF
  try dsimp only at hF
  refine jx_callVi (As := [.int x1, .int 0]) (st := []) (h := 0) E dX5_priceOf_17 2 rfl (k_X5_its hI x1 0 v1 r3 v3 hc3) (gb_V (List.mem_cons_of_mem _ tw_335) (List.mem_cons_of_mem _ tw_336) (List.mem_cons_of_mem _ tw_337) (List.mem_cons_of_mem _ tw_325) tw_334) rfl rfl rfl dd_X5_its rfl (Nat.le_of_ble_eq_true rfl) s_M0 rfl ⟨by decide, by decide⟩ ⟨Nat.le_refl 0, Nat.le_refl 0⟩ (Nat.le_of_ble_eq_true rfl) ?_
  by_cases hc4 : r3 = 1
  · rw [if_pos hc4] at hF
    refine jx_tableIn (tgt := 60) (z := 1) E dX5_priceOf_20 hc4 (by decide) (by decide) rfl (by decide) ?_
    refine jx_iload_n E dX5_priceOf_60 0 rfl ?_
    refine jx_aload_n E dX5_priceOf_61 1 rfl ?_
    obtain ⟨⟨r5, v5⟩, hc5, hF⟩ := jx_bind hF
    try dsimp only at hF
    refine jx_callVi (As := []) (st := [.int (v1 1 (Int32.toNatClampNeg (3 + r1)))]) (h := 0) E dX5_priceOf_62 0 rfl (k_X5_isSummer hI  v3 r5 v5 hc5) (gb_V (List.mem_cons_of_mem _ tw_372) (List.mem_cons_of_mem _ tw_373) (List.mem_cons_of_mem _ tw_374) (List.mem_cons_of_mem _ tw_325) tw_371) rfl rfl rfl dd_X5_isSummer rfl (Nat.le_of_ble_eq_true rfl) s_M0 rfl ⟨by decide, by decide⟩ ⟨Nat.le_refl 0, Nat.le_refl 0⟩ (Nat.le_of_ble_eq_true rfl) ?_
    refine jx_if_eq (tgt := 72) E dX5_priceOf_65 (by decide) (fun hc6 => ?_) (fun hc6 => ?_)
    · rw [if_pos hc6] at hF
      refine jx_iconst (x := 0) E dX5_priceOf_72 (by decide) ?_
      refine jx_iadd E dX5_priceOf_73 ?_
      obtain ⟨rfl, rfl⟩ := jx_out hF
      exact jx_iret E dX5_priceOf_74 rfl
    · rw [if_neg hc6] at hF
      refine jx_iconst (x := 1) E dX5_priceOf_68 (by decide) ?_
      refine jx_goto (tgt := 73) E dX5_priceOf_69 (by decide) ?_
      refine jx_iadd E dX5_priceOf_73 ?_
      obtain ⟨rfl, rfl⟩ := jx_out hF
      exact jx_iret E dX5_priceOf_74 rfl
  rw [if_neg hc4] at hF
  by_cases hc7 : r3 = 2
  · rw [if_pos hc7] at hF
    refine jx_tableIn (tgt := 75) (z := 2) E dX5_priceOf_20 hc7 (by decide) (by decide) rfl (by decide) ?_
    refine jx_aload_n E dX5_priceOf_75 1 rfl ?_
    refine jx_iload_n E dX5_priceOf_76 2 rfl ?_
    refine jx_iconst (x := 3) E dX5_priceOf_77 (by decide) ?_
    obtain ⟨⟨r8, v8⟩, hc8, hF⟩ := jx_bind hF
    try dsimp only at hF
    refine jx_callVi (As := [.int x1, .int 3]) (st := []) (h := 0) E dX5_priceOf_78 2 rfl (k_X5_its hI x1 3 v3 r8 v8 hc8) (gb_V (List.mem_cons_of_mem _ tw_335) (List.mem_cons_of_mem _ tw_336) (List.mem_cons_of_mem _ tw_337) (List.mem_cons_of_mem _ tw_325) tw_334) rfl rfl rfl dd_X5_its rfl (Nat.le_of_ble_eq_true rfl) s_M0 rfl ⟨by decide, by decide⟩ ⟨Nat.le_refl 0, Nat.le_refl 0⟩ (Nat.le_of_ble_eq_true rfl) ?_
    refine jx_if_ne (tgt := 88) E dX5_priceOf_81 (by decide) (fun hc9 => ?_) (fun hc9 => ?_)
    · rw [if_neg hc9] at hF
      refine jx_iload_n E dX5_priceOf_88 0 rfl ?_
      obtain ⟨rfl, rfl⟩ := jx_out hF
      exact jx_iret E dX5_priceOf_89 rfl
    · rw [if_pos hc9] at hF
      refine jx_iconst (x := 0) E dX5_priceOf_84 (by decide) ?_
      refine jx_goto (tgt := 89) E dX5_priceOf_85 (by decide) ?_
      obtain ⟨rfl, rfl⟩ := jx_out hF
      exact jx_iret E dX5_priceOf_89 rfl
  rw [if_neg hc7] at hF
  by_cases hc10 : r3 = 3
  · rw [if_pos hc10] at hF
    refine jx_tableIn (tgt := 60) (z := 3) E dX5_priceOf_20 hc10 (by decide) (by decide) rfl (by decide) ?_
    refine jx_iload_n E dX5_priceOf_60 0 rfl ?_
    refine jx_aload_n E dX5_priceOf_61 1 rfl ?_
    obtain ⟨⟨r11, v11⟩, hc11, hF⟩ := jx_bind hF
    try dsimp only at hF
    refine jx_callVi (As := []) (st := [.int (v1 1 (Int32.toNatClampNeg (3 + r1)))]) (h := 0) E dX5_priceOf_62 0 rfl (k_X5_isSummer hI  v3 r11 v11 hc11) (gb_V (List.mem_cons_of_mem _ tw_372) (List.mem_cons_of_mem _ tw_373) (List.mem_cons_of_mem _ tw_374) (List.mem_cons_of_mem _ tw_325) tw_371) rfl rfl rfl dd_X5_isSummer rfl (Nat.le_of_ble_eq_true rfl) s_M0 rfl ⟨by decide, by decide⟩ ⟨Nat.le_refl 0, Nat.le_refl 0⟩ (Nat.le_of_ble_eq_true rfl) ?_
    refine jx_if_eq (tgt := 72) E dX5_priceOf_65 (by decide) (fun hc12 => ?_) (fun hc12 => ?_)
    · rw [if_pos hc12] at hF
      refine jx_iconst (x := 0) E dX5_priceOf_72 (by decide) ?_
      refine jx_iadd E dX5_priceOf_73 ?_
      obtain ⟨rfl, rfl⟩ := jx_out hF
      exact jx_iret E dX5_priceOf_74 rfl
    · rw [if_neg hc12] at hF
      refine jx_iconst (x := 1) E dX5_priceOf_68 (by decide) ?_
      refine jx_goto (tgt := 73) E dX5_priceOf_69 (by decide) ?_
      refine jx_iadd E dX5_priceOf_73 ?_
      obtain ⟨rfl, rfl⟩ := jx_out hF
      exact jx_iret E dX5_priceOf_74 rfl
  rw [if_neg hc10] at hF
  by_cases hc13 : r3 = 4
  · rw [if_pos hc13] at hF
    refine jx_tableIn (tgt := 75) (z := 4) E dX5_priceOf_20 hc13 (by decide) (by decide) rfl (by decide) ?_
    refine jx_aload_n E dX5_priceOf_75 1 rfl ?_
    refine jx_iload_n E dX5_priceOf_76 2 rfl ?_
    refine jx_iconst (x := 3) E dX5_priceOf_77 (by decide) ?_
    obtain ⟨⟨r14, v14⟩, hc14, hF⟩ := jx_bind hF
    try dsimp only at hF
    refine jx_callVi (As := [.int x1, .int 3]) (st := []) (h := 0) E dX5_priceOf_78 2 rfl (k_X5_its hI x1 3 v3 r14 v14 hc14) (gb_V (List.mem_cons_of_mem _ tw_335) (List.mem_cons_of_mem _ tw_336) (List.mem_cons_of_mem _ tw_337) (List.mem_cons_of_mem _ tw_325) tw_334) rfl rfl rfl dd_X5_its rfl (Nat.le_of_ble_eq_true rfl) s_M0 rfl ⟨by decide, by decide⟩ ⟨Nat.le_refl 0, Nat.le_refl 0⟩ (Nat.le_of_ble_eq_true rfl) ?_
    refine jx_if_ne (tgt := 88) E dX5_priceOf_81 (by decide) (fun hc15 => ?_) (fun hc15 => ?_)
    · rw [if_neg hc15] at hF
      refine jx_iload_n E dX5_priceOf_88 0 rfl ?_
      obtain ⟨rfl, rfl⟩ := jx_out hF
      exact jx_iret E dX5_priceOf_89 rfl
    · rw [if_pos hc15] at hF
      refine jx_iconst (x := 0) E dX5_priceOf_84 (by decide) ?_
      refine jx_goto (tgt := 89) E dX5_priceOf_85 (by decide) ?_
      obtain ⟨rfl, rfl⟩ := jx_out hF
      exact jx_iret E dX5_priceOf_89 rfl
  rw [if_neg hc13] at hF
  by_cases hc16 : r3 = 5
  · rw [if_pos hc16] at hF
    refine jx_tableIn (tgt := 90) (z := 5) E dX5_priceOf_20 hc16 (by decide) (by decide) rfl (by decide) ?_
    refine jx_iconst (x := 2) E dX5_priceOf_90 (by decide) ?_
    refine jx_iload_n E dX5_priceOf_91 0 rfl ?_
    refine jx_imul E dX5_priceOf_92 ?_
    obtain ⟨rfl, rfl⟩ := jx_out hF
    exact jx_iret E dX5_priceOf_93 rfl
  rw [if_neg hc16] at hF
  by_cases hc17 : r3 = 6
  · rw [if_pos hc17] at hF
    refine jx_tableIn (tgt := 90) (z := 6) E dX5_priceOf_20 hc17 (by decide) (by decide) rfl (by decide) ?_
    refine jx_iconst (x := 2) E dX5_priceOf_90 (by decide) ?_
    refine jx_iload_n E dX5_priceOf_91 0 rfl ?_
    refine jx_imul E dX5_priceOf_92 ?_
    obtain ⟨rfl, rfl⟩ := jx_out hF
    exact jx_iret E dX5_priceOf_93 rfl
  rw [if_neg hc17] at hF
  refine jx_tableOut (tgt := 94) E dX5_priceOf_20 (by have hz4 := jx_ne hc4 (k := 1) (by decide); have hz7 := jx_ne hc7 (k := 2) (by decide); have hz10 := jx_ne hc10 (k := 3) (by decide); have hz13 := jx_ne hc13 (k := 4) (by decide); have hz16 := jx_ne hc16 (k := 5) (by decide); have hz17 := jx_ne hc17 (k := 6) (by decide); omega) (by decide) ?_
  refine jx_iload_n E dX5_priceOf_94 0 rfl ?_
  obtain ⟨rfl, rfl⟩ := jx_out hF
  exact jx_iret E dX5_priceOf_95 rfl
def f_X5_of (x1 : Int32) (x2 : Int32) (v : jx_V) : Option (Int32 × jx_V) := ((f_X5_in (Int32.toInt64 x2) 0 6 v).bind (fun (r1, v1) => (if r1 = 0 then (if (-1000001 : Int32) = 0 then (if 4 ≤ x2 then (if x2 = 4 then ((f_X5_stands x1 v1).bind (fun (r19, v19) => (some (r19, v19)))) else (if x2 = 5 then ((f_X5_priceOf x1 v1).bind (fun (r18, v18) => (some (r18, v18)))) else ((f_X5_grows x1 v1).bind (fun (r17, v17) => (some (r17, v17)))))) else ((f_X5_its x1 x2 v1).bind (fun (r20, v20) => (some (r20, v20))))) else ((f_X5_finds (-1000001) v1).bind (fun (r21, v21) => (some (r21, v21))))) else ((f_X5_lotWrong x1 v1).bind (fun (r3, v3) => (if r3 = 0 then (if 4 ≤ x2 then (if x2 = 4 then ((f_X5_stands x1 v3).bind (fun (r10, v10) => (some (r10, v10)))) else (if x2 = 5 then ((f_X5_priceOf x1 v3).bind (fun (r9, v9) => (some (r9, v9)))) else ((f_X5_grows x1 v3).bind (fun (r8, v8) => (some (r8, v8)))))) else ((f_X5_its x1 x2 v3).bind (fun (r11, v11) => (some (r11, v11))))) else ((f_X5_finds r3 v3).bind (fun (r12, v12) => (some (r12, v12))))))))))
def rm_X5_of : Room := { frames := 4, cells := 0, slots := 0, locals := 85 }
set_option maxHeartbeats 4000000 in
set_option maxRecDepth 100000 in
theorem k_X5_of {l : Launch} {D : va_G} {cI cJ : ClassId} {ad : Nat → Nat} {A : Nat → Prop} (hI : jx_inj 13 ad A) (x1 : Int32) (x2 : Int32) (v : jx_V) (r : Int32) (v' : jx_V) (hF : f_X5_of x1 x2 v = some (r, v')) : jx_Ci l D vwCl 13 cI cJ ad shM A ex_M yX5_of (Cond.code yX5_of cX5_of 4 (some .int) :: bigT) rm_X5_of [.ref (ad 0), .int x1, .int x2] v r v' := by
  unfold f_X5_of at hF
  refine jx_enteri bigT RX5 cX5_of 4 (some .int) [(0, .ref (ad 0)), (1, .int x1), (2, .int x2)] hI (ex_M_ok A) (by decide +kernel) rfl (Nat.le_of_ble_eq_true rfl) rfl rfl ?_
  intro p e s m args below meth c E
  refine jx_iload_n E dX5_of_0 2 rfl ?_
  refine jx_i2l E dX5_of_1 ?_
  refine jx_lconst (x := 0) E dX5_of_2 (by decide) ?_
  refine jx_ldc2 (x := 6) E dX5_of_3 (List.mem_cons_of_mem _ tw_342) ?_
  obtain ⟨⟨r1, v1⟩, hc1, hF⟩ := jx_bind hF
  try dsimp only at hF
  refine jx_callSi (As := [.long (Int32.toInt64 x2), .long 0, .long 6]) (st := []) E dX5_of_6 3 rfl (k_X5_in hI (Int32.toInt64 x2) 0 6 v r1 v1 hc1) (gb_S (List.mem_cons_of_mem _ tw_323) (List.mem_cons_of_mem _ tw_324) (List.mem_cons_of_mem _ tw_325) tw_322) rfl rfl rfl dd_X5_in rfl ⟨by decide, by decide⟩ ⟨Nat.le_refl 0, Nat.le_refl 0⟩ (Nat.le_of_ble_eq_true rfl) ?_
  refine jx_if_ne (tgt := 17) E dX5_of_9 (by decide) (fun hc2 => ?_) (fun hc2 => ?_)
  · rw [if_neg hc2] at hF
    refine jx_aload_n E dX5_of_17 0 rfl ?_
    refine jx_iload_n E dX5_of_18 1 rfl ?_
    obtain ⟨⟨r3, v3⟩, hc3, hF⟩ := jx_bind hF
    try dsimp only at hF
    refine jx_callVi (As := [.int x1]) (st := []) (h := 0) E dX5_of_19 1 rfl (k_X5_lotWrong hI x1 v1 r3 v3 hc3) (gb_V (List.mem_cons_of_mem _ tw_367) (List.mem_cons_of_mem _ tw_368) (List.mem_cons_of_mem _ tw_369) (List.mem_cons_of_mem _ tw_325) tw_366) rfl rfl rfl dd_X5_lotWrong rfl (Nat.le_of_ble_eq_true rfl) s_M0 rfl ⟨by decide, by decide⟩ ⟨Nat.le_refl 0, Nat.le_refl 0⟩ (Nat.le_of_ble_eq_true rfl) ?_
    refine jx_istore_n (lv' := [(3, .int r3), (0, .ref (ad 0)), (1, .int x1), (2, .int x2)]) E dX5_of_22 (by decide) rfl ?_
    refine jx_iload_n E dX5_of_23 0 rfl ?_
    refine jx_if_eq (tgt := 33) E dX5_of_24 (by decide) (fun hc4 => ?_) (fun hc4 => ?_)
    · rw [if_pos hc4] at hF
      refine jx_iload_n E dX5_of_33 3 rfl ?_
      refine jx_iconst (x := 4) E dX5_of_34 (by decide) ?_
      refine jx_icmp_ge (tgt := 47) E dX5_of_35 (by decide) (fun hc5 => ?_) (fun hc5 => ?_)
      · rw [if_pos hc5] at hF
        refine jx_iload_n E dX5_of_47 3 rfl ?_
        refine jx_iconst (x := 4) E dX5_of_48 (by decide) ?_
        refine jx_icmp_ne (tgt := 60) E dX5_of_49 (by decide) (fun hc6 => ?_) (fun hc6 => ?_)
        · rw [if_neg hc6] at hF
          refine jx_iload_n E dX5_of_60 3 rfl ?_
          refine jx_iconst (x := 5) E dX5_of_61 (by decide) ?_
          refine jx_icmp_ne (tgt := 73) E dX5_of_62 (by decide) (fun hc7 => ?_) (fun hc7 => ?_)
          · rw [if_neg hc7] at hF
            refine jx_aload_n E dX5_of_73 1 rfl ?_
            refine jx_iload_n E dX5_of_74 2 rfl ?_
            obtain ⟨⟨r8, v8⟩, hc8, hF⟩ := jx_bind hF
            try dsimp only at hF
            refine jx_callVi (As := [.int x1]) (st := []) (h := 0) E dX5_of_75 1 rfl (k_X5_grows hI x1 v3 r8 v8 hc8) (gb_V (List.mem_cons_of_mem _ tw_376) (List.mem_cons_of_mem _ tw_377) (List.mem_cons_of_mem _ tw_378) (List.mem_cons_of_mem _ tw_325) tw_375) rfl rfl rfl dd_X5_grows rfl (Nat.le_of_ble_eq_true rfl) s_M0 rfl ⟨by decide, by decide⟩ ⟨Nat.le_refl 0, Nat.le_refl 0⟩ (Nat.le_of_ble_eq_true rfl) ?_
            obtain ⟨rfl, rfl⟩ := jx_out hF
            exact jx_iret E dX5_of_78 rfl
          · rw [if_pos hc7] at hF
            refine jx_aload_n E dX5_of_65 1 rfl ?_
            refine jx_iload_n E dX5_of_66 2 rfl ?_
            obtain ⟨⟨r9, v9⟩, hc9, hF⟩ := jx_bind hF
            try dsimp only at hF
            refine jx_callVi (As := [.int x1]) (st := []) (h := 0) E dX5_of_67 1 rfl (k_X5_priceOf hI x1 v3 r9 v9 hc9) (gb_V (List.mem_cons_of_mem _ tw_380) (List.mem_cons_of_mem _ tw_381) (List.mem_cons_of_mem _ tw_382) (List.mem_cons_of_mem _ tw_325) tw_379) rfl rfl rfl dd_X5_priceOf rfl (Nat.le_of_ble_eq_true rfl) s_M0 rfl ⟨by decide, by decide⟩ ⟨Nat.le_refl 0, Nat.le_refl 0⟩ (Nat.le_of_ble_eq_true rfl) ?_
            refine jx_goto (tgt := 78) E dX5_of_70 (by decide) ?_
            obtain ⟨rfl, rfl⟩ := jx_out hF
            exact jx_iret E dX5_of_78 rfl
        · rw [if_pos hc6] at hF
          refine jx_aload_n E dX5_of_52 1 rfl ?_
          refine jx_iload_n E dX5_of_53 2 rfl ?_
          obtain ⟨⟨r10, v10⟩, hc10, hF⟩ := jx_bind hF
          try dsimp only at hF
          refine jx_callVi (As := [.int x1]) (st := []) (h := 0) E dX5_of_54 1 rfl (k_X5_stands hI x1 v3 r10 v10 hc10) (gb_V (List.mem_cons_of_mem _ tw_384) (List.mem_cons_of_mem _ tw_385) (List.mem_cons_of_mem _ tw_386) (List.mem_cons_of_mem _ tw_325) tw_383) rfl rfl rfl dd_X5_stands rfl (Nat.le_of_ble_eq_true rfl) s_M0 rfl ⟨by decide, by decide⟩ ⟨Nat.le_refl 0, Nat.le_refl 0⟩ (Nat.le_of_ble_eq_true rfl) ?_
          refine jx_goto (tgt := 78) E dX5_of_57 (by decide) ?_
          obtain ⟨rfl, rfl⟩ := jx_out hF
          exact jx_iret E dX5_of_78 rfl
      · rw [if_neg hc5] at hF
        refine jx_aload_n E dX5_of_38 1 rfl ?_
        refine jx_iload_n E dX5_of_39 2 rfl ?_
        refine jx_iload_n E dX5_of_40 3 rfl ?_
        obtain ⟨⟨r11, v11⟩, hc11, hF⟩ := jx_bind hF
        try dsimp only at hF
        refine jx_callVi (As := [.int x1, .int x2]) (st := []) (h := 0) E dX5_of_41 2 rfl (k_X5_its hI x1 x2 v3 r11 v11 hc11) (gb_V (List.mem_cons_of_mem _ tw_335) (List.mem_cons_of_mem _ tw_336) (List.mem_cons_of_mem _ tw_337) (List.mem_cons_of_mem _ tw_325) tw_334) rfl rfl rfl dd_X5_its rfl (Nat.le_of_ble_eq_true rfl) s_M0 rfl ⟨by decide, by decide⟩ ⟨Nat.le_refl 0, Nat.le_refl 0⟩ (Nat.le_of_ble_eq_true rfl) ?_
        refine jx_goto (tgt := 78) E dX5_of_44 (by decide) ?_
        obtain ⟨rfl, rfl⟩ := jx_out hF
        exact jx_iret E dX5_of_78 rfl
    · rw [if_neg hc4] at hF
      refine jx_aload_n E dX5_of_27 1 rfl ?_
      refine jx_iload_n E dX5_of_28 0 rfl ?_
      obtain ⟨⟨r12, v12⟩, hc12, hF⟩ := jx_bind hF
      try dsimp only at hF
      refine jx_callVi (As := [.int r3]) (st := []) (h := 0) E dX5_of_29 1 rfl (k_X5_finds hI r3 v3 r12 v12 hc12) (gb_V (List.mem_cons_of_mem _ tw_344) (List.mem_cons_of_mem _ tw_345) (List.mem_cons_of_mem _ tw_346) (List.mem_cons_of_mem _ tw_325) tw_343) rfl rfl rfl dd_X5_finds rfl (Nat.le_of_ble_eq_true rfl) s_M0 rfl ⟨by decide, by decide⟩ ⟨Nat.le_refl 0, Nat.le_refl 0⟩ (Nat.le_of_ble_eq_true rfl) ?_
      obtain ⟨rfl, rfl⟩ := jx_out hF
      exact jx_iret E dX5_of_32 rfl
  · rw [if_pos hc2] at hF
    refine jx_ldc (x := -1000001) E dX5_of_12 (List.mem_cons_of_mem _ tw_320) ?_
    refine jx_goto (tgt := 22) E dX5_of_14 (by decide) ?_
    refine jx_istore_n (lv' := [(3, .int (-1000001)), (0, .ref (ad 0)), (1, .int x1), (2, .int x2)]) E dX5_of_22 (by decide) rfl ?_
    refine jx_iload_n E dX5_of_23 0 rfl ?_
    refine jx_if_eq (tgt := 33) E dX5_of_24 (by decide) (fun hc13 => ?_) (fun hc13 => ?_)
    · rw [if_pos hc13] at hF
      refine jx_iload_n E dX5_of_33 3 rfl ?_
      refine jx_iconst (x := 4) E dX5_of_34 (by decide) ?_
      refine jx_icmp_ge (tgt := 47) E dX5_of_35 (by decide) (fun hc14 => ?_) (fun hc14 => ?_)
      · rw [if_pos hc14] at hF
        refine jx_iload_n E dX5_of_47 3 rfl ?_
        refine jx_iconst (x := 4) E dX5_of_48 (by decide) ?_
        refine jx_icmp_ne (tgt := 60) E dX5_of_49 (by decide) (fun hc15 => ?_) (fun hc15 => ?_)
        · rw [if_neg hc15] at hF
          refine jx_iload_n E dX5_of_60 3 rfl ?_
          refine jx_iconst (x := 5) E dX5_of_61 (by decide) ?_
          refine jx_icmp_ne (tgt := 73) E dX5_of_62 (by decide) (fun hc16 => ?_) (fun hc16 => ?_)
          · rw [if_neg hc16] at hF
            refine jx_aload_n E dX5_of_73 1 rfl ?_
            refine jx_iload_n E dX5_of_74 2 rfl ?_
            obtain ⟨⟨r17, v17⟩, hc17, hF⟩ := jx_bind hF
            try dsimp only at hF
            refine jx_callVi (As := [.int x1]) (st := []) (h := 0) E dX5_of_75 1 rfl (k_X5_grows hI x1 v1 r17 v17 hc17) (gb_V (List.mem_cons_of_mem _ tw_376) (List.mem_cons_of_mem _ tw_377) (List.mem_cons_of_mem _ tw_378) (List.mem_cons_of_mem _ tw_325) tw_375) rfl rfl rfl dd_X5_grows rfl (Nat.le_of_ble_eq_true rfl) s_M0 rfl ⟨by decide, by decide⟩ ⟨Nat.le_refl 0, Nat.le_refl 0⟩ (Nat.le_of_ble_eq_true rfl) ?_
            obtain ⟨rfl, rfl⟩ := jx_out hF
            exact jx_iret E dX5_of_78 rfl
          · rw [if_pos hc16] at hF
            refine jx_aload_n E dX5_of_65 1 rfl ?_
            refine jx_iload_n E dX5_of_66 2 rfl ?_
            obtain ⟨⟨r18, v18⟩, hc18, hF⟩ := jx_bind hF
            try dsimp only at hF
            refine jx_callVi (As := [.int x1]) (st := []) (h := 0) E dX5_of_67 1 rfl (k_X5_priceOf hI x1 v1 r18 v18 hc18) (gb_V (List.mem_cons_of_mem _ tw_380) (List.mem_cons_of_mem _ tw_381) (List.mem_cons_of_mem _ tw_382) (List.mem_cons_of_mem _ tw_325) tw_379) rfl rfl rfl dd_X5_priceOf rfl (Nat.le_of_ble_eq_true rfl) s_M0 rfl ⟨by decide, by decide⟩ ⟨Nat.le_refl 0, Nat.le_refl 0⟩ (Nat.le_of_ble_eq_true rfl) ?_
            refine jx_goto (tgt := 78) E dX5_of_70 (by decide) ?_
            obtain ⟨rfl, rfl⟩ := jx_out hF
            exact jx_iret E dX5_of_78 rfl
        · rw [if_pos hc15] at hF
          refine jx_aload_n E dX5_of_52 1 rfl ?_
          refine jx_iload_n E dX5_of_53 2 rfl ?_
          obtain ⟨⟨r19, v19⟩, hc19, hF⟩ := jx_bind hF
          try dsimp only at hF
          refine jx_callVi (As := [.int x1]) (st := []) (h := 0) E dX5_of_54 1 rfl (k_X5_stands hI x1 v1 r19 v19 hc19) (gb_V (List.mem_cons_of_mem _ tw_384) (List.mem_cons_of_mem _ tw_385) (List.mem_cons_of_mem _ tw_386) (List.mem_cons_of_mem _ tw_325) tw_383) rfl rfl rfl dd_X5_stands rfl (Nat.le_of_ble_eq_true rfl) s_M0 rfl ⟨by decide, by decide⟩ ⟨Nat.le_refl 0, Nat.le_refl 0⟩ (Nat.le_of_ble_eq_true rfl) ?_
          refine jx_goto (tgt := 78) E dX5_of_57 (by decide) ?_
          obtain ⟨rfl, rfl⟩ := jx_out hF
          exact jx_iret E dX5_of_78 rfl
      · rw [if_neg hc14] at hF
        refine jx_aload_n E dX5_of_38 1 rfl ?_
        refine jx_iload_n E dX5_of_39 2 rfl ?_
        refine jx_iload_n E dX5_of_40 3 rfl ?_
        obtain ⟨⟨r20, v20⟩, hc20, hF⟩ := jx_bind hF
        try dsimp only at hF
        refine jx_callVi (As := [.int x1, .int x2]) (st := []) (h := 0) E dX5_of_41 2 rfl (k_X5_its hI x1 x2 v1 r20 v20 hc20) (gb_V (List.mem_cons_of_mem _ tw_335) (List.mem_cons_of_mem _ tw_336) (List.mem_cons_of_mem _ tw_337) (List.mem_cons_of_mem _ tw_325) tw_334) rfl rfl rfl dd_X5_its rfl (Nat.le_of_ble_eq_true rfl) s_M0 rfl ⟨by decide, by decide⟩ ⟨Nat.le_refl 0, Nat.le_refl 0⟩ (Nat.le_of_ble_eq_true rfl) ?_
        refine jx_goto (tgt := 78) E dX5_of_44 (by decide) ?_
        obtain ⟨rfl, rfl⟩ := jx_out hF
        exact jx_iret E dX5_of_78 rfl
    · rw [if_neg hc13] at hF
      refine jx_aload_n E dX5_of_27 1 rfl ?_
      refine jx_iload_n E dX5_of_28 0 rfl ?_
      obtain ⟨⟨r21, v21⟩, hc21, hF⟩ := jx_bind hF
      try dsimp only at hF
      refine jx_callVi (As := [.int (-1000001)]) (st := []) (h := 0) E dX5_of_29 1 rfl (k_X5_finds hI (-1000001) v1 r21 v21 hc21) (gb_V (List.mem_cons_of_mem _ tw_344) (List.mem_cons_of_mem _ tw_345) (List.mem_cons_of_mem _ tw_346) (List.mem_cons_of_mem _ tw_325) tw_343) rfl rfl rfl dd_X5_finds rfl (Nat.le_of_ble_eq_true rfl) s_M0 rfl ⟨by decide, by decide⟩ ⟨Nat.le_refl 0, Nat.le_refl 0⟩ (Nat.le_of_ble_eq_true rfl) ?_
      obtain ⟨rfl, rfl⟩ := jx_out hF
      exact jx_iret E dX5_of_32 rfl
