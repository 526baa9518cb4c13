theorem tw_609 : Cond.methodLink RX0 3 Lib.objectInit ∈ bigT := bt_of 75 (by decide +kernel) rfl
theorem tw_610 : Cond.instanceMethod Lib.objectInit ∈ bigT := bt_of 20 (by decide +kernel) rfl
theorem tw_611 : Cond.code Lib.objectInit ⟨#[0xb1]⟩ 1 none ∈ bigT := bt_of 21 (by decide +kernel) rfl
theorem tw_612 : Cond.arrayClass .int ∈ bigT := bt_of 69 (by decide +kernel) rfl
theorem tw_613 : Cond.methodLink RX2 3 Lib.objectInit ∈ bigT := bt_of 91 (by decide +kernel) rfl
theorem tw_614 : Cond.methodLink RX1 3 Lib.objectInit ∈ bigT := bt_of 121 (by decide +kernel) rfl
theorem tw_615 : Cond.classLink RX1 9 "[[I" ∈ bigT := bt_of 122 (by decide +kernel) rfl
theorem tw_616 : Cond.methodLink RX3 3 Lib.objectInit ∈ bigT := bt_of 27 (by decide +kernel) rfl
theorem tw_617 : Cond.classLink RX3 9 "[[I" ∈ bigT := bt_of 28 (by decide +kernel) rfl
theorem tw_618 : Cond.methodLink RX5 1 Lib.objectInit ∈ bigT := bt_of 730 (by decide +kernel) rfl
theorem tw_619 : Cond.methodLink RX4 1 Lib.objectInit ∈ bigT := bt_of 19 (by decide +kernel) rfl
theorem tw_620 : Cond.classLink RX4 7 RX3 ∈ bigT := bt_of 22 (by decide +kernel) rfl
theorem tw_621 : Cond.instantiable RX3 8 ∈ bigT := bt_of 23 (by decide +kernel) rfl
theorem tw_622 : Cond.code yX3_init cX3_init 2 (none) ∈ bigT := bt_of 26 (by decide +kernel) rfl
theorem tw_623 : Cond.instanceMethod yX3_init ∈ bigT := bt_of 25 (by decide +kernel) rfl
theorem tw_624 : Cond.classLink RX4 22 RX0 ∈ bigT := bt_of 70 (by decide +kernel) rfl
theorem tw_625 : Cond.instantiable RX0 3 ∈ bigT := bt_of 71 (by decide +kernel) rfl
theorem tw_626 : Cond.code yX0_init cX0_init 1 (none) ∈ bigT := bt_of 74 (by decide +kernel) rfl
theorem tw_627 : Cond.instanceMethod yX0_init ∈ bigT := bt_of 73 (by decide +kernel) rfl
theorem tw_628 : Cond.classLink RX4 29 RX2 ∈ bigT := bt_of 86 (by decide +kernel) rfl
theorem tw_629 : Cond.instantiable RX2 7 ∈ bigT := bt_of 87 (by decide +kernel) rfl
theorem tw_630 : Cond.code yX2_init cX2_init 1 (none) ∈ bigT := bt_of 90 (by decide +kernel) rfl
theorem tw_631 : Cond.instanceMethod yX2_init ∈ bigT := bt_of 89 (by decide +kernel) rfl
theorem tw_632 : Cond.classLink RX4 36 RX1 ∈ bigT := bt_of 116 (by decide +kernel) rfl
theorem tw_633 : Cond.instantiable RX1 3 ∈ bigT := bt_of 117 (by decide +kernel) rfl
theorem tw_634 : Cond.code yX1_init cX1_init 1 (none) ∈ bigT := bt_of 120 (by decide +kernel) rfl
theorem tw_635 : Cond.instanceMethod yX1_init ∈ bigT := bt_of 119 (by decide +kernel) rfl
theorem dd_X0_init : yX0_init.cls = RX0 ∧ yX0_init.cls ≠ "java/lang/invoke/MethodHandle" ∧ yX0_init.cls ≠ "java/lang/invoke/VarHandle" ∧ (parseMethodDescriptor yX0_init.desc).map (fun d => d.parameters.length) = some 0 := by decide +kernel
theorem dd_X1_init : yX1_init.cls = RX1 ∧ yX1_init.cls ≠ "java/lang/invoke/MethodHandle" ∧ yX1_init.cls ≠ "java/lang/invoke/VarHandle" ∧ (parseMethodDescriptor yX1_init.desc).map (fun d => d.parameters.length) = some 0 := by decide +kernel
theorem dd_X2_init : yX2_init.cls = RX2 ∧ yX2_init.cls ≠ "java/lang/invoke/MethodHandle" ∧ yX2_init.cls ≠ "java/lang/invoke/VarHandle" ∧ (parseMethodDescriptor yX2_init.desc).map (fun d => d.parameters.length) = some 0 := by decide +kernel
theorem dd_X3_init : yX3_init.cls = RX3 ∧ yX3_init.cls ≠ "java/lang/invoke/MethodHandle" ∧ yX3_init.cls ≠ "java/lang/invoke/VarHandle" ∧ (parseMethodDescriptor yX3_init.desc).map (fun d => d.parameters.length) = some 0 := by decide +kernel
theorem dd_X4_init : yX4_init.cls = RX4 ∧ yX4_init.cls ≠ "java/lang/invoke/MethodHandle" ∧ yX4_init.cls ≠ "java/lang/invoke/VarHandle" ∧ (parseMethodDescriptor yX4_init.desc).map (fun d => d.parameters.length) = some 0 := by decide +kernel
theorem dd_X5_init : yX5_init.cls = RX5 ∧ yX5_init.cls ≠ "java/lang/invoke/MethodHandle" ∧ yX5_init.cls ≠ "java/lang/invoke/VarHandle" ∧ (parseMethodDescriptor yX5_init.desc).map (fun d => d.parameters.length) = some 0 := by decide +kernel
def shZl : List jx_Sh := [.inr (.inr (3, [some 1, some 2, some 13, some 14, some 15, none, none, none])), .inr (.inl [3, 4, 5, 6]), .inr (.inl [7, 8, 9, 10, 11, 12]), .inl 25, .inl 25, .inl 25, .inl 25, .inl 10, .inl 10, .inl 10, .inl 10, .inl 10, .inl 10, .inl 4, .inl 4, .inl 10]
def shZ (h : Nat) : jx_Sh := shZl.getD h (.inl 0)
theorem s_Z0 : shZ 0 = .inr (.inr (3, [some 1, some 2, some 13, some 14, some 15, none, none, none])) := rfl
theorem s_Z1 : shZ 1 = .inr (.inl [3, 4, 5, 6]) := rfl
theorem s_Z2 : shZ 2 = .inr (.inl [7, 8, 9, 10, 11, 12]) := rfl
theorem s_Z3 : shZ 3 = .inl 25 := rfl
theorem s_Z4 : shZ 4 = .inl 25 := rfl
theorem s_Z5 : shZ 5 = .inl 25 := rfl
theorem s_Z6 : shZ 6 = .inl 25 := rfl
theorem s_Z7 : shZ 7 = .inl 10 := rfl
theorem s_Z8 : shZ 8 = .inl 10 := rfl
theorem s_Z9 : shZ 9 = .inl 10 := rfl
theorem s_Z10 : shZ 10 = .inl 10 := rfl
theorem s_Z11 : shZ 11 = .inl 10 := rfl
theorem s_Z12 : shZ 12 = .inl 10 := rfl
theorem s_Z13 : shZ 13 = .inl 4 := rfl
theorem s_Z14 : shZ 14 = .inl 4 := rfl
theorem s_Z15 : shZ 15 = .inl 10 := rfl
def shX0l : List jx_Sh := [.inr (.inr (0, [some 1, some 2, some 3])), .inl 5, .inl 5, .inl 5]
def shX0 (h : Nat) : jx_Sh := shX0l.getD h (.inl 0)
def shX2l : List jx_Sh := [.inr (.inr (2, [some 1, none, none, none, none, none, none])), .inl 120]
def shX2 (h : Nat) : jx_Sh := shX2l.getD h (.inl 0)
def shX1l : List jx_Sh := [.inr (.inr (1, [some 1, some 6, some 7])), .inr (.inl [2, 3, 4, 5]), .inl 40, .inl 40, .inl 40, .inl 40, .inl 4, .inl 4]
def shX1 (h : Nat) : jx_Sh := shX1l.getD h (.inl 0)
def rm_X3_init : Room := { frames := 1, cells := 15, slots := 188, locals := 12 }
def rm_X0_init : Room := { frames := 1, cells := 3, slots := 15, locals := 12 }
def rm_X2_init : Room := { frames := 1, cells := 1, slots := 120, locals := 12 }
def rm_X1_init : Room := { frames := 1, cells := 7, slots := 172, locals := 12 }
def rm_X4_init : Room := { frames := 2, cells := 66, slots := 927, locals := 40 }
def rm_X5_init : Room := { frames := 1, cells := 12, slots := 890, locals := 30 }
theorem jn_eq {p : Program} {l : Launch} {e : Env} {R : Room} {s : State} {m : MethodId} {args : Array Value} {below : List Frame} {meth : Method} {c : Code} {Q : State → Prop} {D : va_G} {cl : List vw_C} {A : Nat → Prop} {kc ks nL : Nat} {ws ws2 : va_W} {pc : Nat} {lv : List (Nat × Value)} {st : List Value} (h : ws = ws2) (k : jn_N p l e R s m args below meth c D cl A kc ks nL Q ws2 pc lv st) : jn_N p l e R s m args below meth c D cl A kc ks nL Q ws pc lv st := h ▸ k
theorem jn_P {D : va_G} {cl : List vw_C} {N : Nat} {cI cJ : ClassId} {ad : Nat → Nat} {sh : Nat → jx_Sh} {v : jx_V} {H : Heap} (h : ∀ h, h < N → va_at D cl (ad h, jx_ct cI cJ ad v h (sh h)) H) : va_P D cl (jx_ws N cI cJ ad sh v) H := fun k q hq => by
  obtain ⟨hk, rfl⟩ := jx_ws_get hq
  exact h k hk
theorem jn_inj {ws : va_W} {A : Nat → Prop} {N : Nat} {a : Nat → Nat} (pi : Nat → Nat) (hpi : ∀ i, i < N → ∀ j, j < N → pi i = pi j → i = j) (hw : ∀ i, i < N → ∃ e, ws[pi i]? = some (a i, e)) (hD : va_D A ws) : jx_inj N a A := by
  refine ⟨fun i j hi hj h => ?_, fun i hi => ?_⟩
  · obtain ⟨e1, h1⟩ := hw i hi
    obtain ⟨e2, h2⟩ := hw j hj
    exact hpi i hi j hj (hD.1 _ _ _ _ h1 h2 h)
  · obtain ⟨e1, h1⟩ := hw i hi
    exact hD.2 _ _ h1
theorem jx_arrV {c : ClassId} {n : Nat} {f g : Nat → Value} (h : ∀ j, j < n → f j = g j) : arrV c n f = arrV c n g := by
  unfold arrV
  congr 1
  apply Array.ext
  · simp
  · intro i h1 h2
    simp at h1 h2 ⊢
    exact h i h1
def jx_len (x : jx_Sh) : Nat := match x with | .inl n => n | .inr (.inl _) => 0 | .inr (.inr (_, fs)) => fs.length
/-- the world says nothing of places that aren't there -/
theorem jx_cong {D : va_G} {cl : List vw_C} {N : Nat} {cI cJ : ClassId} {ad : Nat → Nat} {sh : Nat → jx_Sh} {v w : jx_V} {H : Heap} (h : ∀ h, h < N → ∀ k, k < jx_len (sh h) → v h k = w h k) (hP : va_P D cl (jx_ws N cI cJ ad sh v) H) : va_P D cl (jx_ws N cI cJ ad sh w) H := by
  refine jn_P (fun i hi => ?_)
  have h1 := hP i _ (jx_at hi rfl)
  have h2 := h i hi
  revert h1 h2
  generalize sh i = x
  intro h1 h2
  rcases x with n | hs | ⟨ci, fs⟩
  · have h1 : H[ad i]? = some (vp_cell cI (n, .inl (v i))) := h1
    show H[ad i]? = some (vp_cell cI (n, .inl (w i)))
    rw [h1]
    congr 1
    show arrV cI n (fun j => .int (v i j)) = arrV cI n (fun j => .int (w i j))
    exact jx_arrV (fun j hj => by rw [h2 j hj])
  · exact h1
  · have e : jx_fv ad v i fs = jx_fv ad w i fs := by
      apply List.ext_getElem?
      intro k
      rw [jx_fv_get, jx_fv_get]
      cases hk : fs[k]? with
      | none => rfl
      | some o =>
        cases o with
        | some _ => rfl
        | none =>
          have := h2 k ((List.getElem?_eq_some_iff.mp hk).1)
          simp [this]
    show va_at D cl (ad i, .inr (ci, jx_fv ad w i fs)) H
    rw [← e]
    exact h1
theorem jn_rows4 {r a : Nat → Nat} {h0 h1 h2 h3 : Nat} (e0 : a h0 = r 0) (e1 : a h1 = r 1) (e2 : a h2 = r 2) (e3 : a h3 = r 3) : (fun i => if i < 4 then some (r i) else none) = (fun i => ([h0, h1, h2, h3][i]?).map a) := by
  funext i
  match i with
  | 0 => simp [e0]
  | 1 => simp [e1]
  | 2 => simp [e2]
  | 3 => simp [e3]
  | k + 4 => simp
theorem jn_rows6 {r a : Nat → Nat} {h0 h1 h2 h3 h4 h5 : Nat} (e0 : a h0 = r 0) (e1 : a h1 = r 1) (e2 : a h2 = r 2) (e3 : a h3 = r 3) (e4 : a h4 = r 4) (e5 : a h5 = r 5) : (fun i => if i < 6 then some (r i) else none) = (fun i => ([h0, h1, h2, h3, h4, h5][i]?).map a) := by
  funext i
  match i with
  | 0 => simp [e0]
  | 1 => simp [e1]
  | 2 => simp [e2]
  | 3 => simp [e3]
  | 4 => simp [e4]
  | 5 => simp [e5]
  | k + 6 => simp
theorem ex_cm0 {U : State} (h : ex_C U) : va_Nw (.methodLinkNest RX4 9 yX3_init "WindowViews") U := h.1 ("WindowViews", 9, yX3_init, "WindowViews") (List.mem_of_getElem? (i := 0) rfl)
theorem ex_cm1 {U : State} (h : ex_C U) : va_Nw (.methodLinkNest RX4 24 yX0_init "WindowViews") U := h.1 ("WindowViews", 24, yX0_init, "WindowViews") (List.mem_of_getElem? (i := 1) rfl)
theorem ex_cm2 {U : State} (h : ex_C U) : va_Nw (.methodLinkNest RX4 31 yX2_init "WindowViews") U := h.1 ("WindowViews", 31, yX2_init, "WindowViews") (List.mem_of_getElem? (i := 2) rfl)
theorem ex_cm3 {U : State} (h : ex_C U) : va_Nw (.methodLinkNest RX4 38 yX1_init "WindowViews") U := h.1 ("WindowViews", 38, yX1_init, "WindowViews") (List.mem_of_getElem? (i := 3) rfl)
def f_X3_init_L : Nat → Nat → Int32 → jx_V → Option jx_V
  | 0, _, _, _ => none
  | n + 1, tag, x1, v => (if tag = 0 then (if 25 ≤ x1 then (f_X3_init_L n 1 0 v) else (if (x1 < 0 ∨ 25 ≤ Int32.toNatClampNeg x1) then none else (f_X3_init_L n 0 (x1 + 1) (jx_up v 3 (Int32.toNatClampNeg x1) (-1))))) else (if tag = 1 then (if 4 ≤ x1 then (f_X3_init_L n 2 0 v) else (if (x1 < 0 ∨ 4 ≤ Int32.toNatClampNeg x1) then none else (f_X3_init_L n 1 (x1 + 1) (jx_up v 13 (Int32.toNatClampNeg x1) (x1 + 1))))) else (if tag = 2 then (if 10 ≤ x1 then (some v) else (if (x1 < 0 ∨ 10 ≤ Int32.toNatClampNeg x1) then none else (f_X3_init_L n 2 (x1 + 1) (jx_up v 15 (Int32.toNatClampNeg x1) (-1))))) else none)))
def f_X3_init (v : jx_V) : Option jx_V := (f_X3_init_L 1000 0 0 v)
set_option maxHeartbeats 4000000 in
set_option maxRecDepth 100000 in
theorem j_X3_init {p : Program} {l : Launch} {e : Env} {s : State} {m : MethodId} {args : Array Value} {below : List Frame} {meth : Method} {c : Code} {Q : State → Prop} {D : va_G} {cI cJ : ClassId} {ad : Nat → Nat} {A : Nat → Prop} {Ex : State → Prop} (E : jx_E p s m args meth c cX3_init 2 RX3 (Cond.code yX3_init cX3_init 2 none :: bigT) none D vwCl 16 cI cJ ad A Ex) (hI : jx_inj 16 ad A) (v v' : jx_V) (hF : f_X3_init v = some v') (kend : jx_J p l e rm_X3_init s m args below meth c D vwCl 16 cI cJ ad shZ A (0 + 1 + 4 + 1 + 6 + 1 + 1 + 1) (0 + 4 + 4 * 25 + 6 + 6 * 10 + 4 + 4 + 10) 2 Q v' 130 [(0, .ref (ad 0))] []) : jx_J p l e rm_X3_init s m args below meth c D vwCl 16 cI cJ ad shZ A (0 + 1 + 4 + 1 + 6 + 1 + 1 + 1) (0 + 4 + 4 * 25 + 6 + 6 * 10 + 4 + 4 + 10) 2 Q v 64 [(0, .ref (ad 0))] [] := by
  unfold f_X3_init at hF
  have iX3 : ∀ w ∈ u_ws RX3 TX3 8, w ∈ (Cond.code yX3_init cX3_init 2 none :: bigT) := fun w h => List.mem_cons_of_mem _ (uw_X3 w h)
  have key : ∀ n : Nat, (∀ (x1 : Int32) (v : jx_V), f_X3_init_L n 0 x1 v = some v' → jx_J p l e rm_X3_init s m args below meth c D vwCl 16 cI cJ ad shZ A (0 + 1 + 4 + 1 + 6 + 1 + 1 + 1) (0 + 4 + 4 * 25 + 6 + 6 * 10 + 4 + 4 + 10) 2 Q v 66 [(0, .ref (ad 0)), (1, .int x1)] []) ∧ (∀ (x1 : Int32) (v : jx_V), f_X3_init_L n 1 x1 v = some v' → jx_J p l e rm_X3_init s m args below meth c D vwCl 16 cI cJ ad shZ A (0 + 1 + 4 + 1 + 6 + 1 + 1 + 1) (0 + 4 + 4 * 25 + 6 + 6 * 10 + 4 + 4 + 10) 2 Q v 89 [(0, .ref (ad 0)), (1, .int x1)] []) ∧ (∀ (x1 : Int32) (v : jx_V), f_X3_init_L n 2 x1 v = some v' → jx_J p l e rm_X3_init s m args below meth c D vwCl 16 cI cJ ad shZ A (0 + 1 + 4 + 1 + 6 + 1 + 1 + 1) (0 + 4 + 4 * 25 + 6 + 6 * 10 + 4 + 4 + 10) 2 Q v 111 [(0, .ref (ad 0)), (1, .int x1)] []) := by
    intro n
    induction n with
    | zero =>
      exact ⟨(fun _ _ h => by cases h), (fun _ _ h => by cases h), (fun _ _ h => by cases h)⟩
    | succ n ih =>
      refine ⟨?_, ?_, ?_⟩
      · intro x1 v hF
        rw [f_X3_init_L] at hF
        rw [if_pos rfl] at hF
        refine jx_iload_n E dX3_init_66 1 rfl ?_
        refine jx_bipush (x := 25) E dX3_init_67 (by decide) ?_
        refine jx_icmp_ge (tgt := 87) E dX3_init_69 (by decide) (fun hc1 => ?_) (fun hc1 => ?_)
        · rw [if_pos hc1] at hF
          refine jx_iconst (x := 0) E dX3_init_87 (by decide) ?_
          refine jx_istore_n (lv' := [(1, .int 0), (0, .ref (ad 0))]) E dX3_init_88 (by decide) rfl ?_
          refine jx_sub [1, 0] rfl ?_
          exact ih.2.1 0 v hF
        · rw [if_neg hc1] at hF
          refine jx_aload_n E dX3_init_72 0 rfl ?_
          refine jx_getr (C := RX3) (T := TX3) (M := 8) (k := 0) E dX3_init_73 (Nat.le_of_ble_eq_true rfl) s_Z0 rfl iX3 (by decide) rfl (List.mem_cons_of_mem _ tw_27) rfl ?_
          refine jx_iconst (x := 0) E dX3_init_76 (by decide) ?_
          refine jx_aald (h' := 3) E dX3_init_77 (Nat.le_of_ble_eq_true rfl) s_Z1 (show ¬ ((0 : Int32) < 0 ∨ 4 ≤ Int32.toNatClampNeg 0) by decide) rfl ?_
          refine jx_iload_n E dX3_init_78 1 rfl ?_
          refine jx_iconst (x := -1) E dX3_init_79 (by decide) ?_
          obtain ⟨hg2, hF⟩ := jx_guard hF
          refine jx_iast (h := 3) (j := (Int32.toNatClampNeg x1)) E dX3_init_80 (Nat.le_of_ble_eq_true rfl) s_Z3 hg2 rfl ?_
          refine jx_iinc (y := (x1 + 1)) (lv' := [(1, .int (x1 + 1)), (0, .ref (ad 0))]) E dX3_init_81 1 rfl rfl (by decide) rfl ?_
          refine jx_goto (tgt := 66) E dX3_init_84 (by decide) ?_
          refine jx_sub [1, 0] rfl ?_
          exact ih.1 (x1 + 1) (jx_up v 3 (Int32.toNatClampNeg x1) (-1)) hF
      · intro x1 v hF
        rw [f_X3_init_L] at hF
        rw [if_neg (by decide), if_pos rfl] at hF
        refine jx_iload_n E dX3_init_89 1 rfl ?_
        refine jx_iconst (x := 4) E dX3_init_90 (by decide) ?_
        refine jx_icmp_ge (tgt := 109) E dX3_init_91 (by decide) (fun hc3 => ?_) (fun hc3 => ?_)
        · rw [if_pos hc3] at hF
          refine jx_iconst (x := 0) E dX3_init_109 (by decide) ?_
          refine jx_istore_n (lv' := [(1, .int 0), (0, .ref (ad 0))]) E dX3_init_110 (by decide) rfl ?_
          refine jx_sub [1, 0] rfl ?_
          exact ih.2.2 0 v hF
        · rw [if_neg hc3] at hF
          refine jx_aload_n E dX3_init_94 0 rfl ?_
          refine jx_getr (C := RX3) (T := TX3) (M := 8) (k := 2) E dX3_init_95 (Nat.le_of_ble_eq_true rfl) s_Z0 rfl iX3 (by decide) rfl (List.mem_cons_of_mem _ tw_73) rfl ?_
          refine jx_iload_n E dX3_init_98 1 rfl ?_
          refine jx_iload_n E dX3_init_99 1 rfl ?_
          refine jx_iconst (x := 1) E dX3_init_100 (by decide) ?_
          refine jx_iadd E dX3_init_101 ?_
          obtain ⟨hg4, hF⟩ := jx_guard hF
          refine jx_iast (h := 13) (j := (Int32.toNatClampNeg x1)) E dX3_init_102 (Nat.le_of_ble_eq_true rfl) s_Z13 hg4 rfl ?_
          refine jx_iinc (y := (x1 + 1)) (lv' := [(1, .int (x1 + 1)), (0, .ref (ad 0))]) E dX3_init_103 1 rfl rfl (by decide) rfl ?_
          refine jx_goto (tgt := 89) E dX3_init_106 (by decide) ?_
          refine jx_sub [1, 0] rfl ?_
          exact ih.2.1 (x1 + 1) (jx_up v 13 (Int32.toNatClampNeg x1) (x1 + 1)) hF
      · intro x1 v hF
        rw [f_X3_init_L] at hF
        rw [if_neg (by decide), if_neg (by decide), if_pos rfl] at hF
        refine jx_iload_n E dX3_init_111 1 rfl ?_
        refine jx_bipush (x := 10) E dX3_init_112 (by decide) ?_
        refine jx_icmp_ge (tgt := 130) E dX3_init_114 (by decide) (fun hc5 => ?_) (fun hc5 => ?_)
        · rw [if_pos hc5] at hF
          obtain rfl := Option.some.inj hF
          exact jx_sub [0] rfl kend
        · rw [if_neg hc5] at hF
          refine jx_aload_n E dX3_init_117 0 rfl ?_
          refine jx_getr (C := RX3) (T := TX3) (M := 8) (k := 4) E dX3_init_118 (Nat.le_of_ble_eq_true rfl) s_Z0 rfl iX3 (by decide) rfl (List.mem_cons_of_mem _ tw_177) rfl ?_
          refine jx_iload_n E dX3_init_121 1 rfl ?_
          refine jx_iconst (x := -1) E dX3_init_122 (by decide) ?_
          obtain ⟨hg6, hF⟩ := jx_guard hF
          refine jx_iast (h := 15) (j := (Int32.toNatClampNeg x1)) E dX3_init_123 (Nat.le_of_ble_eq_true rfl) s_Z15 hg6 rfl ?_
          refine jx_iinc (y := (x1 + 1)) (lv' := [(1, .int (x1 + 1)), (0, .ref (ad 0))]) E dX3_init_124 1 rfl rfl (by decide) rfl ?_
          refine jx_goto (tgt := 111) E dX3_init_127 (by decide) ?_
          refine jx_sub [1, 0] rfl ?_
          exact ih.2.2 (x1 + 1) (jx_up v 15 (Int32.toNatClampNeg x1) (-1)) hF
  refine jx_iconst (x := 0) E dX3_init_64 (by decide) ?_
  refine jx_istore_n (lv' := [(1, .int 0), (0, .ref (ad 0))]) E dX3_init_65 (by decide) rfl ?_
  refine jx_sub [1, 0] rfl ?_
  exact (key 1000).1 0 v hF
def f_X5_init_L : Nat → Nat → Int32 → jx_V → Option jx_V
  | 0, _, _, _ => none
  | n + 1, tag, x1, v => (if tag = 0 then (if 4 ≤ x1 then (f_X5_init_L n 1 0 v) else (if ((3 + x1) < 0 ∨ 181 ≤ Int32.toNatClampNeg (3 + x1)) then none else (f_X5_init_L n 0 (x1 + 1) (jx_up v 1 (Int32.toNatClampNeg (3 + x1)) (x1 + 1))))) else (if tag = 1 then (if 25 ≤ x1 then (f_X5_init_L n 2 0 v) else ((f_X5_at x1 0 v).bind (fun (r4, v4) => (if (r4 < 0 ∨ 181 ≤ Int32.toNatClampNeg r4) then none else (f_X5_init_L n 1 (x1 + 1) (jx_up v4 1 (Int32.toNatClampNeg r4) (-1))))))) else (if tag = 2 then (if 10 ≤ x1 then (some v) else (if ((171 + x1) < 0 ∨ 181 ≤ Int32.toNatClampNeg (171 + x1)) then none else (f_X5_init_L n 2 (x1 + 1) (jx_up v 1 (Int32.toNatClampNeg (171 + x1)) (-1))))) else none)))
def f_X5_init (v : jx_V) : Option jx_V := (f_X5_init_L 1000 0 0 (jx_up v 1 2 1))
set_option maxHeartbeats 4000000 in
set_option maxRecDepth 100000 in
theorem j_X5_init {p : Program} {l : Launch} {e : Env} {s : State} {m : MethodId} {args : Array Value} {below : List Frame} {meth : Method} {c : Code} {Q : State → Prop} {D : va_G} {cI cJ : ClassId} {ad : Nat → Nat} {A : Nat → Prop} (E : jx_E p s m args meth c cX5_init 2 RX5 (Cond.code yX5_init cX5_init 2 none :: bigT) none D vwCl 13 cI cJ ad A ex_M) (hI : jx_inj 13 ad A) (v v' : jx_V) (hF : f_X5_init v = some v') (kend : jx_J p l e rm_X5_init s m args below meth c D vwCl 13 cI cJ ad shM A (0 + 1 + 1 + 1 + 1 + 1 + 1 + 1 + 1 + 1 + 1 + 1 + 1) (0 + 181 + 181 + 181 + 7 + 4 + 4 + 4 + 120 + 4 + 4 + 160 + 40) 2 Q v' 180 [(0, .ref (ad 0))] []) : jx_J p l e rm_X5_init s m args below meth c D vwCl 13 cI cJ ad shM A (0 + 1 + 1 + 1 + 1 + 1 + 1 + 1 + 1 + 1 + 1 + 1 + 1) (0 + 181 + 181 + 181 + 7 + 4 + 4 + 4 + 120 + 4 + 4 + 160 + 40) 2 Q v 99 [(0, .ref (ad 0))] [] := by
  unfold f_X5_init at hF
  have iX5 : ∀ w ∈ u_ws RX5 TX5 21, w ∈ (Cond.code yX5_init cX5_init 2 none :: bigT) := fun w h => List.mem_cons_of_mem _ (uw_X5 w h)
  have key : ∀ n : Nat, (∀ (x1 : Int32) (v : jx_V), f_X5_init_L n 0 x1 v = some v' → jx_J p l e rm_X5_init s m args below meth c D vwCl 13 cI cJ ad shM A (0 + 1 + 1 + 1 + 1 + 1 + 1 + 1 + 1 + 1 + 1 + 1 + 1) (0 + 181 + 181 + 181 + 7 + 4 + 4 + 4 + 120 + 4 + 4 + 160 + 40) 2 Q v 108 [(0, .ref (ad 0)), (1, .int x1)] []) ∧ (∀ (x1 : Int32) (v : jx_V), f_X5_init_L n 1 x1 v = some v' → jx_J p l e rm_X5_init s m args below meth c D vwCl 13 cI cJ ad shM A (0 + 1 + 1 + 1 + 1 + 1 + 1 + 1 + 1 + 1 + 1 + 1 + 1) (0 + 181 + 181 + 181 + 7 + 4 + 4 + 4 + 120 + 4 + 4 + 160 + 40) 2 Q v 132 [(0, .ref (ad 0)), (1, .int x1)] []) ∧ (∀ (x1 : Int32) (v : jx_V), f_X5_init_L n 2 x1 v = some v' → jx_J p l e rm_X5_init s m args below meth c D vwCl 13 cI cJ ad shM A (0 + 1 + 1 + 1 + 1 + 1 + 1 + 1 + 1 + 1 + 1 + 1 + 1) (0 + 181 + 181 + 181 + 7 + 4 + 4 + 4 + 120 + 4 + 4 + 160 + 40) 2 Q v 157 [(0, .ref (ad 0)), (1, .int x1)] []) := by
    intro n
    induction n with
    | zero =>
      exact ⟨(fun _ _ h => by cases h), (fun _ _ h => by cases h), (fun _ _ h => by cases h)⟩
    | succ n ih =>
      refine ⟨?_, ?_, ?_⟩
      · intro x1 v hF
        rw [f_X5_init_L] at hF
        rw [if_pos rfl] at hF
        refine jx_iload_n E dX5_init_108 1 rfl ?_
        refine jx_iconst (x := 4) E dX5_init_109 (by decide) ?_
        refine jx_icmp_ge (tgt := 130) E dX5_init_110 (by decide) (fun hc1 => ?_) (fun hc1 => ?_)
        · rw [if_pos hc1] at hF
          refine jx_iconst (x := 0) E dX5_init_130 (by decide) ?_
          refine jx_istore_n (lv' := [(1, .int 0), (0, .ref (ad 0))]) E dX5_init_131 (by decide) rfl ?_
          refine jx_sub [1, 0] rfl ?_
          exact ih.2.1 0 v hF
        · rw [if_neg hc1] at hF
          refine jx_aload_n E dX5_init_113 0 rfl ?_
          refine jx_getr (C := RX5) (T := TX5) (M := 21) (k := 0) E dX5_init_114 (Nat.le_of_ble_eq_true rfl) s_M0 rfl iX5 (by decide) rfl (List.mem_cons_of_mem _ tw_328) rfl ?_
          refine jx_iconst (x := 3) E dX5_init_117 (by decide) ?_
          refine jx_iload_n E dX5_init_118 1 rfl ?_
          refine jx_iadd E dX5_init_119 ?_
          refine jx_iload_n E dX5_init_120 1 rfl ?_
          refine jx_iconst (x := 1) E dX5_init_121 (by decide) ?_
          refine jx_iadd E dX5_init_122 ?_
          obtain ⟨hg2, hF⟩ := jx_guard hF
          refine jx_iast (h := 1) (j := (Int32.toNatClampNeg (3 + x1))) E dX5_init_123 (Nat.le_of_ble_eq_true rfl) s_M1 hg2 rfl ?_
          refine jx_iinc (y := (x1 + 1)) (lv' := [(1, .int (x1 + 1)), (0, .ref (ad 0))]) E dX5_init_124 1 rfl rfl (by decide) rfl ?_
          refine jx_goto (tgt := 108) E dX5_init_127 (by decide) ?_
          refine jx_sub [1, 0] rfl ?_
          exact ih.1 (x1 + 1) (jx_up v 1 (Int32.toNatClampNeg (3 + x1)) (x1 + 1)) hF
      · intro x1 v hF
        rw [f_X5_init_L] at hF
        rw [if_neg (by decide), if_pos rfl] at hF
        refine jx_iload_n E dX5_init_132 1 rfl ?_
        refine jx_bipush (x := 25) E dX5_init_133 (by decide) ?_
        refine jx_icmp_ge (tgt := 155) E dX5_init_135 (by decide) (fun hc3 => ?_) (fun hc3 => ?_)
        · rw [if_pos hc3] at hF
          refine jx_iconst (x := 0) E dX5_init_155 (by decide) ?_
          refine jx_istore_n (lv' := [(1, .int 0), (0, .ref (ad 0))]) E dX5_init_156 (by decide) rfl ?_
          refine jx_sub [1, 0] rfl ?_
          exact ih.2.2 0 v hF
        · rw [if_neg hc3] at hF
          refine jx_aload_n E dX5_init_138 0 rfl ?_
          refine jx_getr (C := RX5) (T := TX5) (M := 21) (k := 0) E dX5_init_139 (Nat.le_of_ble_eq_true rfl) s_M0 rfl iX5 (by decide) rfl (List.mem_cons_of_mem _ tw_328) rfl ?_
          refine jx_iload_n E dX5_init_142 1 rfl ?_
          refine jx_iconst (x := 0) E dX5_init_143 (by decide) ?_
          obtain ⟨⟨r4, v4⟩, hc4, hF⟩ := jx_bind hF
          try dsimp only at hF
          refine jx_callSi (As := [.int x1, .int 0]) (st := [.ref (ad 1)]) E dX5_init_144 2 rfl (k_X5_at hI x1 0 v r4 v4 hc4) (gb_S (List.mem_cons_of_mem _ tw_332) (List.mem_cons_of_mem _ tw_333) (List.mem_cons_of_mem _ tw_325) tw_331) rfl rfl rfl dd_X5_at rfl ⟨by decide, by decide⟩ ⟨by decide, by decide⟩ (Nat.le_of_ble_eq_true rfl) ?_
          refine jx_iconst (x := -1) E dX5_init_147 (by decide) ?_
          obtain ⟨hg5, hF⟩ := jx_guard hF
          refine jx_iast (h := 1) (j := (Int32.toNatClampNeg r4)) E dX5_init_148 (Nat.le_of_ble_eq_true rfl) s_M1 hg5 rfl ?_
          refine jx_iinc (y := (x1 + 1)) (lv' := [(1, .int (x1 + 1)), (0, .ref (ad 0))]) E dX5_init_149 1 rfl rfl (by decide) rfl ?_
          refine jx_goto (tgt := 132) E dX5_init_152 (by decide) ?_
          refine jx_sub [1, 0] rfl ?_
          exact ih.2.1 (x1 + 1) (jx_up v4 1 (Int32.toNatClampNeg r4) (-1)) hF
      · intro x1 v hF
        rw [f_X5_init_L] at hF
        rw [if_neg (by decide), if_neg (by decide), if_pos rfl] at hF
        refine jx_iload_n E dX5_init_157 1 rfl ?_
        refine jx_bipush (x := 10) E dX5_init_158 (by decide) ?_
        refine jx_icmp_ge (tgt := 180) E dX5_init_160 (by decide) (fun hc6 => ?_) (fun hc6 => ?_)
        · rw [if_pos hc6] at hF
          obtain rfl := Option.some.inj hF
          exact jx_sub [0] rfl kend
        · rw [if_neg hc6] at hF
          refine jx_aload_n E dX5_init_163 0 rfl ?_
          refine jx_getr (C := RX5) (T := TX5) (M := 21) (k := 0) E dX5_init_164 (Nat.le_of_ble_eq_true rfl) s_M0 rfl iX5 (by decide) rfl (List.mem_cons_of_mem _ tw_328) rfl ?_
          refine jx_sipush (x := 171) E dX5_init_167 (by decide) ?_
          refine jx_iload_n E dX5_init_170 1 rfl ?_
          refine jx_iadd E dX5_init_171 ?_
          refine jx_iconst (x := -1) E dX5_init_172 (by decide) ?_
          obtain ⟨hg7, hF⟩ := jx_guard hF
          refine jx_iast (h := 1) (j := (Int32.toNatClampNeg (171 + x1))) E dX5_init_173 (Nat.le_of_ble_eq_true rfl) s_M1 hg7 rfl ?_
          refine jx_iinc (y := (x1 + 1)) (lv' := [(1, .int (x1 + 1)), (0, .ref (ad 0))]) E dX5_init_174 1 rfl rfl (by decide) rfl ?_
          refine jx_goto (tgt := 157) E dX5_init_177 (by decide) ?_
          refine jx_sub [1, 0] rfl ?_
          exact ih.2.2 (x1 + 1) (jx_up v 1 (Int32.toNatClampNeg (171 + x1)) (-1)) hF
  refine jx_aload_n E dX5_init_99 0 rfl ?_
  refine jx_getr (C := RX5) (T := TX5) (M := 21) (k := 0) E dX5_init_100 (Nat.le_of_ble_eq_true rfl) s_M0 rfl iX5 (by decide) rfl (List.mem_cons_of_mem _ tw_328) rfl ?_
  refine jx_iconst (x := 2) E dX5_init_103 (by decide) ?_
  refine jx_iconst (x := 1) E dX5_init_104 (by decide) ?_
  refine jx_iast (h := 1) (j := 2) E dX5_init_105 (Nat.le_of_ble_eq_true rfl) s_M1 (by decide) (by decide) ?_
  refine jx_iconst (x := 0) E dX5_init_106 (by decide) ?_
  refine jx_istore_n (lv' := [(1, .int 0), (0, .ref (ad 0))]) E dX5_init_107 (by decide) rfl ?_
  refine jx_sub [1, 0] rfl ?_
  exact (key 1000).1 0 (jx_up v 1 2 1) hF
