def f_X5_at (x0 : Int32) (x1 : Int32) (v : jx_V) : Option (Int32 × jx_V) := (some (((11 + (4 * x0)) + x1), v))
def rm_X5_at : Room := { frames := 0, cells := 0, slots := 0, locals := 0 }
set_option maxHeartbeats 4000000 in
set_option maxRecDepth 100000 in
theorem k_X5_at {l : Launch} {D : va_G} {cI cJ : ClassId} {ad : Nat → Nat} {A : Nat → Prop} (hI : jx_inj 13 ad A) (x0 : Int32) (x1 : Int32) (v : jx_V) (r : Int32) (v' : jx_V) (hF : f_X5_at x0 x1 v = some (r, v')) : jx_Ci l D vwCl 13 cI cJ ad shM A ex_M yX5_at (Cond.code yX5_at cX5_at 2 (some .int) :: bigT) rm_X5_at [.int x0, .int x1] v r v' := by
  unfold f_X5_at at hF
  refine jx_enteri bigT RX5 cX5_at 2 (some .int) [(0, .int x0), (1, .int x1)] hI (ex_M_ok A) (by decide +kernel) rfl (Nat.le_of_ble_eq_true rfl) rfl rfl ?_
  intro p e s m args below meth c E
  refine jx_bipush (x := 11) E dX5_at_0 (by decide) ?_
  refine jx_iconst (x := 4) E dX5_at_2 (by decide) ?_
  refine jx_iload_n E dX5_at_3 0 rfl ?_
  refine jx_imul E dX5_at_4 ?_
  refine jx_iadd E dX5_at_5 ?_
  refine jx_iload_n E dX5_at_6 1 rfl ?_
  refine jx_iadd E dX5_at_7 ?_
  obtain ⟨rfl, rfl⟩ := jx_out hF
  exact jx_iret E dX5_at_8 rfl
