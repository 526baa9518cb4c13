/-! Constructors: walks over worlds that grow. Own work (va_mna is the printed row, its word taken as it stands in the tables). -/
def vr_up {α : Type} (f : Nat → α) (l : List Nat) (v : α) : Nat → α := fun a => if a ∈ l then v else f a
theorem vr_up_in {α : Type} {f : Nat → α} {l : List Nat} {v : α} {a : Nat} (h : a ∈ l) : vr_up f l v a = v := if_pos h
theorem vr_up_ne {α : Type} {f : Nat → α} {l : List Nat} {v : α} {a : Nat} (h : a ∉ l) : vr_up f l v a = f a := if_neg h
theorem vr_rows {L l : List Nat} {f : Nat → va_E} {e : va_E} (h : ∀ a, a ∈ l → a ∉ L) : va_pl L f ++ l.map (fun a => (a, e)) = va_pl (L ++ l) (vr_up f l e) := by
  unfold va_pl
  rw [List.map_append]
  congr 1
  · apply List.map_congr_left
    intro a ha
    rw [vr_up_ne (fun q => h a q ha)]
  · apply List.map_congr_left
    intro a ha
    rw [vr_up_in ha]
theorem vr_lay {X rows : va_W} {x : Nat × va_E} {pl : va_W} {D : va_G} {cl : List vw_C} {H : Heap} (hP : va_P D cl (((X ++ pl) ++ [x]) ++ rows) H) : va_P D cl ((X ++ [x]) ++ (pl ++ rows)) H := by
  rw [List.append_assoc (X ++ pl)] at hP
  have h := va_P.swap hP
  rw [← List.append_assoc X] at h
  have h2 := va_P.swap h
  rw [List.append_assoc (X ++ [x])] at h2
  exact h2
theorem vr_layD {X rows : va_W} {x : Nat × va_E} {pl : va_W} {A : Nat → Prop} (hD : va_D A (((X ++ pl) ++ [x]) ++ rows)) : va_D A ((X ++ [x]) ++ (pl ++ rows)) := by
  rw [List.append_assoc (X ++ pl)] at hD
  have h := va_D.swap hD
  rw [← List.append_assoc X] at h
  have h2 := va_D.swap h
  rw [List.append_assoc (X ++ [x])] at h2
  exact h2
theorem vr_outer (c : ClassId) (N h0 : Nat) : ∀ i : Nat, Jvm.Free.Multi.outerC c N h0 i = arrV c N (fun j => va_rf (if j < i then some (h0 + 1 + j) else none))
  | 0 => by
    show ({ cls := c, slots := Array.replicate N .null, vm := .none } : Cell) = _
    rw [arrV_new]
    refine congrArg (arrV c N) (funext fun j => ?_)
    simp [va_rf]
  | i + 1 => by
    show (Jvm.Free.Multi.outerC c N h0 i).setSlot i (.ref (h0 + 1 + i)) = _
    rw [vr_outer c N h0 i, arrV_store]
    refine congrArg (arrV c N) (funext fun j => ?_)
    by_cases e : j = i
    · subst e
      simp [updV, va_rf]
    · by_cases h : j < i
      · simp [updV, e, h, Nat.lt_succ_of_lt h]
      · simp [updV, e, h, show ¬ j < i + 1 by omega]
section VGM
variable {p : Program} {l : Launch} {e : Env} {R : Room} {s : State} {m : MethodId} {args : Array Value} {below : List Frame} {meth : Method} {c : Code} {H : Heap} {locs : List Loc} {cells slots : Nat} {Q : State → Prop}
variable {cc : ByteArray} {pc : Nat} {ls : Array Slot} {rest : List Value} {D : va_G} {cl : List vw_C} {A : Nat → Prop} {a : Nat} {tys : List (ClassId × FieldType)} {ws : va_W} {H0 : Heap}
theorem va_mna {X : va_W} {L : List Nat} {f : Nat → va_E} {cc : ByteArray} (hexec : p.tables.exec = Jvm.exec) (hb : c.code = cc) {own : String} {index : Nat} {ty : FieldType} {cy : ClassId} (hown : s.vm.findClass own = some m.cls) (hclink : (Cond.classLink own index ("[" ++ (FieldType.array ty).toString)).before args s = true) (hover : (Cond.arrayOver (.array ty)).before args s = true) (harr : (Cond.arrayClass ty).before args s = true) (hcy : s.vm.findClass (FieldType.array ty).toString = some cy)
    (hK : va_K D cl tys s) (hP : va_P D cl (X ++ va_pl L f) H) (hD : va_D A (X ++ va_pl L f)) (hS : va_S A H0 H locs) (hA : ∀ q, H0.size ≤ q → A q) {n k : Int32} {N' K' : Nat} {z : vp_A} (hn : ¬ n < 0) (hk : ¬ k < 0) (hN : n.toNatClampNeg = N') (hM : k.toNatClampNeg = K')
    (hb1 : N' * 4 ≤ 536870912) (hb2 : K' * componentBytes ty ≤ 536870912) (hb3 : K' ≤ 536870912) (hdf : fits ty (defaultValue ty) = true) (hdd : (defaultValue ty).isDefault = true) (hcells : cells + (1 + N') ≤ R.cells) (hslots : slots + (N' + N' * K') ≤ R.slots) (hz : ∀ c : ClassId, Jvm.Free.Multi.innerC c K' (defaultValue ty) = vp_cell c z) (hdg : decode cc pc = .ok (.multianewarray index 2, 4))
    (kk : ∀ (q : Nat) (r : Nat → Nat) (cA : ClassId) (H1 : Heap), (∀ i j : Nat, i < N' → j < N' → r i = r j → i = j) → (∀ i : Nat, i < N' → r i ∉ L) → va_K D cl (tys ++ [(cA, .array ty)]) s →
      va_P D cl ((X ++ [(q, .inl (cA, N', .inr (.inr (.inr (.inr (fun i => if i < N' then some (r i) else none))))))]) ++ va_pl (L ++ (List.range N').map r) (vr_up f ((List.range N').map r) (.inl (cy, z)))) H1 → va_D A ((X ++ [(q, .inl (cA, N', .inr (.inr (.inr (.inr (fun i => if i < N' then some (r i) else none))))))]) ++ va_pl (L ++ (List.range N').map r) (vr_up f ((List.range N').map r) (.inl (cy, z)))) → va_S A H0 H1 locs →
      W p l e R s m args below meth c H1 locs (cells + 1 + N') (slots + N' + N' * K') Q (F0 m (pc + 4) ls (.ref q :: rest))) : W p l e R s m args below meth c H locs cells slots Q (F0 m pc ls (.int k :: .int n :: rest)) := by
  subst hN
  subst hM
  intro T hT Xs
  obtain ⟨vm₁, cA, comp, -, fA, fC, hO, -, X', step⟩ := Xs.multianewarray2F hexec hown hclink hover harr (g := F0 m pc ls (.int k :: .int n :: rest)) rfl (by rw [hb]; exact hdg) rfl hn hk hb1 hb2 hb3 hdf hdd hcells hslots
  have ec : some cy = some comp := hcy.symm.trans fC
  cases ec
  generalize hF : Jvm.Free.Multi.fill (T.setVm vm₁) cA cy n.toNatClampNeg k.toNatClampNeg (defaultValue ty) n.toNatClampNeg = F at X' step
  have hTh : (T.setVm vm₁).heap = H := hT
  obtain ⟨f1, f2, -, -⟩ := Jvm.Free.Multi.fill_facts (T.setVm vm₁) cA cy n.toNatClampNeg k.toNatClampNeg (defaultValue ty) n.toNatClampNeg
  rw [hF, hTh] at f1 f2
  have hold : ∀ x : Nat, x < H.size → F.heap[x]? = H[x]? := fun x hx => by
    have := Jvm.Free.Multi.fill_old (T.setVm vm₁) cA cy n.toNatClampNeg k.toNatClampNeg (defaultValue ty) (a := x) (by rw [hTh]; exact hx) n.toNatClampNeg
    rw [hF, hTh] at this
    exact this
  have hrow : ∀ j : Nat, j < n.toNatClampNeg → F.heap[H.size + 1 + j]? = some (vp_cell cy z) := fun j hj => by
    have := Jvm.Free.Multi.fill_inner (T.setVm vm₁) cA cy n.toNatClampNeg k.toNatClampNeg (defaultValue ty) n.toNatClampNeg j hj
    rw [hF, hTh, hz] at this
    exact this
  have hout : Jvm.Free.Multi.outerC cA n.toNatClampNeg H.size n.toNatClampNeg = vp_cell cA (n.toNatClampNeg, .inr (.inr (.inr (.inr (fun i => if i < n.toNatClampNeg then some (H.size + 1 + i) else none))))) := by
    rw [vp_cell_q]
    exact vr_outer cA n.toNatClampNeg H.size n.toNatClampNeg
  rw [hout] at f2
  have hlt : ∀ a, a ∈ L → a < H.size := fun a ha => by
    obtain ⟨k9, hk9⟩ := va_pl_get (X := X) (f := f) ha
    exact (hP k9 _ hk9).lt
  have hnl : ∀ i : Nat, i < n.toNatClampNeg → H.size + 1 + i ∉ L := fun i _ h => by
    have := hlt _ h
    omega
  have hnm : ∀ a, a ∈ (List.range n.toNatClampNeg).map (fun i => H.size + 1 + i) → a ∉ L := fun a ha h => by
    obtain ⟨i, -, rfl⟩ := List.mem_map.mp ha
    have := hlt _ h
    omega
  have hP0 : va_P D cl (X ++ va_pl L f) F.heap := hP.kept (fun k9 x hx => hold x.1 ((hP k9 x hx).lt))
  have hP1 : va_P D cl ((X ++ va_pl L f) ++ [(H.size, .inl (cA, n.toNatClampNeg, .inr (.inr (.inr (.inr (fun i => if i < n.toNatClampNeg then some (H.size + 1 + i) else none))))))]) F.heap := hP0.app (fun k9 x hx => by
    have h0 : k9 < 1 := (List.getElem?_eq_some_iff.mp hx).1
    rw [show k9 = 0 by omega] at hx
    cases hx
    exact f2)
  have hP2 : va_P D cl (((X ++ va_pl L f) ++ [(H.size, .inl (cA, n.toNatClampNeg, .inr (.inr (.inr (.inr (fun i => if i < n.toNatClampNeg then some (H.size + 1 + i) else none))))))]) ++ ((List.range n.toNatClampNeg).map (fun i => H.size + 1 + i)).map (fun a => (a, .inl (cy, z)))) F.heap := hP1.app (fun k9 x hx => by
    obtain ⟨a, ha, rfl⟩ := List.mem_map.mp (List.mem_of_getElem? hx)
    obtain ⟨i, hi, rfl⟩ := List.mem_map.mp ha
    exact hrow i (List.mem_range.mp hi))
  have hD2 : va_D A (((X ++ va_pl L f) ++ [(H.size, .inl (cA, n.toNatClampNeg, .inr (.inr (.inr (.inr (fun i => if i < n.toNatClampNeg then some (H.size + 1 + i) else none))))))]) ++ ((List.range n.toNatClampNeg).map (fun i => H.size + 1 + i)).map (fun a => (a, .inl (cy, z)))) := by
    have hD1 := hD.push (e := .inl (cA, n.toNatClampNeg, .inr (.inr (.inr (.inr (fun i => if i < n.toNatClampNeg then some (H.size + 1 + i) else none)))))) hP rfl (hA _ hS.1)
    generalize hW1 : (X ++ va_pl L f) ++ [(H.size, .inl (cA, n.toNatClampNeg, .inr (.inr (.inr (.inr (fun i => if i < n.toNatClampNeg then some (H.size + 1 + i) else none))))))] = W1 at hD1 hP1 ⊢
    have hle : ∀ (k9 : Nat) (x : Nat × va_E), W1[k9]? = some x → x.1 ≤ H.size := fun k9 x hx => by
      rw [← hW1] at hx
      by_cases hl : k9 < (X ++ va_pl L f).length
      · rw [List.getElem?_append_left hl] at hx
        exact Nat.le_of_lt ((hP k9 x hx).lt)
      · rw [List.getElem?_append_right (by omega)] at hx
        have h0 : k9 - (X ++ va_pl L f).length < 1 := (List.getElem?_eq_some_iff.mp hx).1
        rw [show k9 - (X ++ va_pl L f).length = 0 by omega] at hx
        cases hx
        exact Nat.le_refl _
    have hr : ∀ (k9 : Nat) (x : Nat × va_E), (((List.range n.toNatClampNeg).map (fun i => H.size + 1 + i)).map (fun a => ((a, .inl (cy, z)) : Nat × va_E)))[k9]? = some x → x.1 = H.size + 1 + k9 := fun k9 x hx => by
      rw [List.getElem?_map, List.getElem?_map] at hx
      by_cases h9 : k9 < n.toNatClampNeg
      · rw [List.getElem?_range h9] at hx
        cases hx
        rfl
      · have hn0 : (List.range n.toNatClampNeg)[k9]? = none := List.getElem?_eq_none (by rw [List.length_range]; omega)
        rw [hn0] at hx
        cases hx
    refine ⟨fun i j x y hi hj hxy => ?_, fun k9 x hx => ?_⟩
    · by_cases h1 : i < W1.length <;> by_cases h2 : j < W1.length
      · rw [List.getElem?_append_left h1] at hi
        rw [List.getElem?_append_left h2] at hj
        exact hD1.1 i j x y hi hj hxy
      · rw [List.getElem?_append_left h1] at hi
        rw [List.getElem?_append_right (by omega)] at hj
        have := hle _ _ hi
        have := hr _ _ hj
        omega
      · rw [List.getElem?_append_right (by omega)] at hi
        rw [List.getElem?_append_left h2] at hj
        have := hle _ _ hj
        have := hr _ _ hi
        omega
      · rw [List.getElem?_append_right (by omega)] at hi hj
        have := hr _ _ hi
        have := hr _ _ hj
        omega
    · by_cases h1 : k9 < W1.length
      · rw [List.getElem?_append_left h1] at hx
        exact hD1.2 k9 x hx
      · rw [List.getElem?_append_right (by omega)] at hx
        have := hr _ _ hx
        exact hA _ (by have := hS.1; omega)
  have hAr : ArrOfT s cA (.array ty) := fun N9 z9 => by
    obtain ⟨-, k9, hk9, cm9, hkk9⟩ := (hO 0 0 0).1
    exact ⟨(fun q hq => by cases hq), k9, hk9, cm9, hkk9⟩
  have hK2 : va_K D cl (tys ++ [(cA, .array ty)]) s := ⟨hK.1, fun k9 x hx => by
    by_cases hl : k9 < tys.length
    · rw [List.getElem?_append_left hl] at hx
      exact hK.2 k9 x hx
    · rw [List.getElem?_append_right (by omega)] at hx
      have h0 : k9 - tys.length < 1 := (List.getElem?_eq_some_iff.mp hx).1
      rw [show k9 - tys.length = 0 by omega] at hx
      cases hx
      exact ⟨hAr, fA⟩⟩
  obtain ⟨t, a1, b1⟩ := kk H.size (fun i => H.size + 1 + i) cA F.heap (fun i j _ _ h => by have h9 : H.size + 1 + i = H.size + 1 + j := h; omega) hnl hK2 (by rw [← vr_rows hnm]; exact vr_lay hP2) (by rw [← vr_rows hnm]; exact vr_layD hD2) ⟨by rw [f1]; have := hS.1; omega, fun x h1 h2 => (hold x (Nat.lt_of_lt_of_le h1 hS.1)).trans (hS.2.1 x h1 h2), hS.2.2⟩ F rfl X'
  refine ⟨t, step t ?_, b1⟩
  have e : T.heap.size = H.size := by rw [hT]
  rw [e]
  exact a1
end VGM
def ex_C (U : State) : Prop := (∀ q ∈ ex_nml, va_Nw (.methodLinkNest q.1 q.2.1 q.2.2.1 q.2.2.2) U) ∧ (Cond.arrayOver (.array .int)).before #[] U = true
theorem ex_C_call {U : State} {g : JFrame} {mk : MethodId} {a : Array Value} (h : ex_C U) : ex_C (U.calling g mk a) := ⟨fun q hq => va_Nw.same rfl rfl (h.1 q hq), over_moved (u := U) (E := U.calling g mk a) (Vm.Alike.refl U.vm) h.2⟩
theorem ex_C_warm {s U : State} (hW : s.WarmedH U.vm) (h : ex_C s) : ex_C U := ⟨fun q hq => va_Nw.warmM hW (h.1 q hq), over_moved hW.alike h.2⟩
/-- what a constructor's walk has at hand -/
def jn_E (p : Program) (s : State) (m : MethodId) (args : Array Value) (meth : Method) (c : Code) (cc : ByteArray) (nL : Nat) (own : String) (Ts : List Cond) (D : va_G) (cl : List vw_C) (cI cJ : ClassId) (A : Nat → Prop) : Prop :=
  p.tables.exec = Jvm.exec ∧ c.code = cc ∧ c.maxLocals = nL ∧ s.vm.findClass own = some m.cls ∧ (∀ w ∈ Ts, w.before args s = true) ∧ meth.sig.returnType = none ∧ meth.locks = false ∧ va_K D cl (jx_tys cI cJ) s ∧ meth.name = "<init>" ∧ ex_C s ∧ ∀ q : Nat, s.heap.size ≤ q → A q
def jn_N (p : Program) (l : Launch) (e : Env) (R : Room) (s : State) (m : MethodId) (args : Array Value) (below : List Frame) (meth : Method) (c : Code) (D : va_G) (cl : List vw_C) (A : Nat → Prop) (kc ks nL : Nat) (Q : State → Prop) (ws : va_W) (pc : Nat) (lv : List (Nat × Value)) (st : List Value) : Prop :=
  ∀ (H : Heap) (locs : List Loc) (ls : Array Slot), va_P D cl ws H → va_D A ws → va_S A s.heap H locs → lv_has ls nL lv → W p l e R s m args below meth c H locs kc ks Q (F0 m pc ls st)
theorem jn_join {A0 : Nat → Prop} {D : va_G} {cl : List vw_C} {wr wc w1 : va_W} {H H1 : Heap} (hP : va_P D cl (wr ++ wc) H) (hD : va_D A0 (wr ++ wc)) (hk : ∀ q : Nat, q < H.size → ¬ va_A wc H.size q → H1[q]? = H[q]?) (hF : ∀ q, va_A wc H.size q → A0 q) (hP1 : va_P D cl w1 H1) (hD1 : va_D (va_A wc H.size) w1) : va_P D cl (wr ++ w1) H1 ∧ va_D A0 (wr ++ w1) := by
  refine va_join (ws := wr ++ wc) (wc := wc) (wr := wr) hP hD ((List.range wc.length).map (fun i => wr.length + i)) (List.range wr.length) ?_ ?_ ?_ ?_ hk hF hP1 hD1
  · apply List.ext_getElem?
    intro k
    rw [List.getElem?_map, List.getElem?_map, List.getElem?_map]
    by_cases hk2 : k < wc.length
    · rw [List.getElem?_range hk2]
      simp only [Option.map_some]
      rw [List.getElem?_append_right (by omega), Nat.add_sub_cancel_left]
      cases hw : wc[k]? with
      | none => rw [List.getElem?_eq_none_iff] at hw; omega
      | some x => rfl
    · rw [List.getElem?_eq_none (by rw [List.length_range]; omega), List.getElem?_eq_none (by omega)]
      rfl
  · apply List.ext_getElem?
    intro k
    rw [List.getElem?_map, List.getElem?_map]
    by_cases hk2 : k < wr.length
    · rw [List.getElem?_range hk2]
      simp only [Option.map_some]
      rw [List.getElem?_append_left hk2]
      cases hw : wr[k]? with
      | none => rw [List.getElem?_eq_none_iff] at hw; omega
      | some x => rfl
    · rw [List.getElem?_eq_none (by rw [List.length_range]; omega), List.getElem?_eq_none (by omega)]
      rfl
  · have hnd : ∀ n : Nat, (List.range n).Nodup := fun n => List.nodup_range
    have h2 : ∀ l : List Nat, l.Nodup → va_nd l = true := by
      intro l hl
      induction l with
      | nil => rfl
      | cons a t ih =>
        rw [List.nodup_cons] at hl
        simp [va_nd, ih hl.2, hl.1]
    exact h2 _ (hnd _)
  · intro i hi hc
    obtain ⟨j, -, hj⟩ := List.mem_map.mp hc
    have := List.mem_range.mp hi
    omega
/-- a constructor's contract -/
def jn_C (l : Launch) (D : va_G) (cl : List vw_C) (cI cJ : ClassId) (y : MethodName) (ws : List Cond) (rm : Room) (ci : Nat) (fs : List Value) (n : Nat) (sh : Nat → jx_Sh) (v0 : jx_V) (mc ms : Nat) : Prop :=
  ∀ q sz : Nat, Met l y ws rm (va_Pc [.ref q] (fun U => U.heap.size = sz ∧ va_P D cl [(q, .inr (ci, fs))] U.heap ∧ va_K D cl (jx_tys cI cJ) U ∧ ex_C U)) (va_Qv (fun (_ : Unit) => True) (fun _ t => ∃ a : Nat → Nat, a 0 = q ∧ va_P D cl (jx_ws n cI cJ a sh v0) t.heap ∧ va_D (va_A [(q, .inr (ci, fs))] sz) (jx_ws n cI cJ a sh v0)) (va_A [(q, .inr (ci, fs))] sz)) mc ms (va_A [(q, .inr (ci, fs))] sz)
section JN
variable {p : Program} {l : Launch} {e : Env} {R : Room} {s : State} {m : MethodId} {args : Array Value} {below : List Frame} {meth : Method} {c : Code} {Q : State → Prop} {D : va_G} {cl : List vw_C} {cI cJ : ClassId} {A : Nat → Prop} {kc ks nL : Nat} {cc : ByteArray} {own : String} {Ts : List Cond} {ws : va_W} {pc : Nat} {lv : List (Nat × Value)} {st : List Value}
theorem jn_iconst (E : jn_E p s m args meth c cc nL own Ts D cl cI cJ A) {n : Int} {x : Int32} (hd : decode cc pc = .ok (.iconst n, 1)) (hv : Int32.ofInt n = x) (k : jn_N p l e R s m args below meth c D cl A kc ks nL Q ws (pc + 1) lv (.int x :: st)) : jn_N p l e R s m args below meth c D cl A kc ks nL Q ws pc lv st := fun H locs ls hP hD hS hl => lv_iconst E.1 E.2.1 hd hv (k H locs ls hP hD hS hl)
theorem jn_bipush (E : jn_E p s m args meth c cc nL own Ts D cl cI cJ A) {n : Int} {x : Int32} (hd : decode cc pc = .ok (.bipush n, 2)) (hv : (Int8.ofInt n).toInt32 = x) (k : jn_N p l e R s m args below meth c D cl A kc ks nL Q ws (pc + 2) lv (.int x :: st)) : jn_N p l e R s m args below meth c D cl A kc ks nL Q ws pc lv st := fun H locs ls hP hD hS hl => lv_bipush E.1 E.2.1 hd hv (k H locs ls hP hD hS hl)
theorem jn_sipush (E : jn_E p s m args meth c cc nL own Ts D cl cI cJ A) {n : Int} {x : Int32} (hd : decode cc pc = .ok (.sipush n, 3)) (hv : (Int16.ofInt n).toInt32 = x) (k : jn_N p l e R s m args below meth c D cl A kc ks nL Q ws (pc + 3) lv (.int x :: st)) : jn_N p l e R s m args below meth c D cl A kc ks nL Q ws pc lv st := fun H locs ls hP hD hS hl => lv_sipush E.1 E.2.1 hd hv (k H locs ls hP hD hS hl)
theorem jn_aload_n (E : jn_E p s m args meth c cc nL own Ts D cl cI cJ A) {k : Fin 4} {x : Nat} (hd : decode cc pc = .ok (.aload_n k, 1)) (j : Nat) (hj : lv[j]? = some ((k : Nat), .ref x)) (kk : jn_N p l e R s m args below meth c D cl A kc ks nL Q ws (pc + 1) lv (.ref x :: st)) : jn_N p l e R s m args below meth c D cl A kc ks nL Q ws pc lv st := fun H locs ls hP hD hS hl => lv_aload_n E.1 E.2.1 hd rfl (lv_at hl j hj) (kk H locs ls hP hD hS hl)
theorem jn_dup (E : jn_E p s m args meth c cc nL own Ts D cl cI cJ A) {a : Value} (hd : decode cc pc = .ok (.dup, 1)) (h1 : a.category = 1) (k : jn_N p l e R s m args below meth c D cl A kc ks nL Q ws (pc + 1) lv (a :: a :: st)) : jn_N p l e R s m args below meth c D cl A kc ks nL Q ws pc lv (a :: st) := fun H locs ls hP hD hS hl => lv_dup E.1 E.2.1 hd h1 (k H locs ls hP hD hS hl)
theorem jn_objInit (E : jn_E p s m args meth c cc nL own Ts D cl cI cJ A) {idx a : Nat} (hd : decode cc pc = .ok (.invokespecial idx, 3)) (h1 : Cond.methodLink own idx Lib.objectInit ∈ Ts) (h2 : Cond.instanceMethod Lib.objectInit ∈ Ts) (h3 : Cond.code Lib.objectInit ⟨#[0xb1]⟩ 1 none ∈ Ts) (hf : 1 ≤ R.frames) (hlo : (st.map fun v => v.category).sum + 12 ≤ R.locals) (k : jn_N p l e R s m args below meth c D cl A kc ks nL Q ws (pc + 3) lv st) : jn_N p l e R s m args below meth c D cl A kc ks nL Q ws pc lv (.ref a :: st) := fun H locs ls hP hD hS hl => W.objInit E.1 E.2.1 E.2.2.2.1 (E.2.2.2.2.1 _ h1) (E.2.2.2.2.1 _ h2) (E.2.2.2.2.1 _ h3) rfl (hl.1.trans E.2.2.1.symm) rfl hd hf (by show 2 * 0 + _ + 12 ≤ _; omega) (k H locs ls hP hD hS hl)
theorem jn_new (E : jn_E p s m args meth c cc nL own Ts D cl cI cJ A) {index ci M : Nat} {C : String} {T : u_T} (ty : Nat → FieldType) {fs : List Value} (hd : decode cc pc = .ok (.new index, 3)) (hin : ∀ w ∈ u_ws C T M, w ∈ Ts) (hty : ∀ k, k < M → parseFieldDescriptor (T k).2.2.1 = some (ty k)) (h1 : Cond.classLink own index C ∈ Ts) (h2 : Cond.instantiable C M ∈ Ts) (h3 : Cond.initialized C ∈ Ts) (hc : cl[ci]? = some (C, T, M)) (hfs : ∀ j, j < M → defaultValue (ty j) = vp_V fs j) (hkc : kc + 1 ≤ R.cells) (hks : ks + M ≤ R.slots)
    (k : ∀ q, jn_N p l e R s m args below meth c D cl A (kc + 1) (ks + M) nL Q (ws ++ [(q, .inr (ci, fs))]) (pc + 3) lv (.ref q :: st)) : jn_N p l e R s m args below meth c D cl A kc ks nL Q ws pc lv st :=
  fun H locs ls hP hD hS hl => va_new E.1 E.2.1 E.2.2.2.2.1 hin ty hty E.2.2.2.1 (E.2.2.2.2.1 _ h1) (E.2.2.2.2.1 _ h2) (E.2.2.2.2.1 _ h3) E.2.2.2.2.2.2.2.1 hP hD hS E.2.2.2.2.2.2.2.2.2.2 hc hfs hkc hks hd (fun q H1 hP1 hD1 hS1 => k q H1 locs ls hP1 hD1 hS1 hl)
theorem jn_newa (E : jn_E p s m args meth c cc nL own Ts D cl cI cJ A) {n : Int32} {N' : Nat} (hd : decode cc pc = .ok (.newarray .int, 2)) (h1 : Cond.arrayClass .int ∈ Ts) (hn : ¬ n < 0) (hN : n.toNatClampNeg = N') (hb : N' * componentBytes .int ≤ 536870912) (hkc : kc + 1 ≤ R.cells) (hks : ks + N' ≤ R.slots)
    (k : ∀ q, jn_N p l e R s m args below meth c D cl A (kc + 1) (ks + N') nL Q (ws ++ [(q, .inl (cI, N', .inl (fun _ => 0)))]) (pc + 2) lv (.ref q :: st)) : jn_N p l e R s m args below meth c D cl A kc ks nL Q ws pc lv (.int n :: st) := by
  intro H locs ls hP hD hS hl
  refine va_newa (atype := .int) (ty := .int) (a0 := (N', .inl (fun _ => 0))) E.1 E.2.1 (E.2.2.2.2.1 _ h1) rfl E.2.2.2.2.2.2.2.1 hP hD hS E.2.2.2.2.2.2.2.2.2.2 (fun cA => rfl) hn hN hb hkc hks hd (fun q cA H1 hK1 hP1 hD1 hS1 => ?_)
  have e1 : s.vm.findClass ("[" ++ FieldType.int.toString) = some cA := (hK1.2 2 _ rfl).2
  have e2 : s.vm.findClass ("[" ++ FieldType.int.toString) = some cI := (E.2.2.2.2.2.2.2.1.2 0 _ rfl).2
  have e3 : cA = cI := Option.some.inj (e1.symm.trans e2)
  subst e3
  exact k q H1 locs ls hP1 hD1 hS1 hl
theorem jn_mna (E : jn_E p s m args meth c cc nL own Ts D cl cI cJ A) {index : Nat} {n k : Int32} {N' K' : Nat} (hd : decode cc pc = .ok (.multianewarray index 2, 4)) (h1 : Cond.classLink own index "[[I" ∈ Ts) (h2 : Cond.arrayClass .int ∈ Ts) (hn : ¬ n < 0) (hk : ¬ k < 0) (hN : n.toNatClampNeg = N') (hM : k.toNatClampNeg = K') (hb1 : N' * 4 ≤ 536870912) (hb2 : K' * componentBytes .int ≤ 536870912) (hb3 : K' ≤ 536870912) (hkc : kc + (1 + N') ≤ R.cells) (hks : ks + (N' + N' * K') ≤ R.slots)
    (kk : ∀ (q : Nat) (r : Nat → Nat), jn_N p l e R s m args below meth c D cl A (kc + 1 + N') (ks + N' + N' * K') nL Q (ws ++ ((q, .inl (cJ, N', .inr (.inr (.inr (.inr (fun i => if i < N' then some (r i) else none)))))) :: (List.range N').map (fun i => (r i, .inl (cI, K', .inl (fun _ => 0)))))) (pc + 4) lv (.ref q :: st)) : jn_N p l e R s m args below meth c D cl A kc ks nL Q ws pc lv (.int k :: .int n :: st) := by
  intro H locs ls hP hD hS hl
  have hP' : va_P D cl (ws ++ va_pl [] (fun _ => Sum.inl (cI, 0, .inl (fun _ => 0)))) H := by rw [show va_pl [] (fun _ => (Sum.inl (cI, 0, .inl (fun _ => 0)) : va_E)) = [] from rfl, List.append_nil]; exact hP
  have hD' : va_D A (ws ++ va_pl [] (fun _ => Sum.inl (cI, 0, .inl (fun _ => 0)))) := by rw [show va_pl [] (fun _ => (Sum.inl (cI, 0, .inl (fun _ => 0)) : va_E)) = [] from rfl, List.append_nil]; exact hD
  have hcI : s.vm.findClass (FieldType.array .int).toString = some cI := (E.2.2.2.2.2.2.2.1.2 0 _ rfl).2
  refine va_mna (ty := .int) (cy := cI) (z := (K', .inl (fun _ => 0))) E.1 E.2.1 E.2.2.2.1 (E.2.2.2.2.1 _ h1) (over_moved (Vm.Alike.refl s.vm) E.2.2.2.2.2.2.2.2.2.1.2) (E.2.2.2.2.1 _ h2) hcI E.2.2.2.2.2.2.2.1 hP' hD' hS E.2.2.2.2.2.2.2.2.2.2 hn hk hN hM hb1 hb2 hb3 rfl rfl hkc hks (fun c => ?_) hd (fun q r cA H1 hr _ hK1 hP1 hD1 hS1 => ?_)
  · show ({ cls := c, slots := Array.replicate K' (.int 0), vm := .none } : Cell) = vp_cell c (K', .inl (fun _ => 0))
    rw [arrV_new]
    rfl
  · have e1 : s.vm.findClass ("[" ++ (FieldType.array .int).toString) = some cA := (hK1.2 2 _ rfl).2
    have e2 : s.vm.findClass ("[" ++ (FieldType.array .int).toString) = some cJ := (E.2.2.2.2.2.2.2.1.2 1 _ rfl).2
    have e3 : cA = cJ := Option.some.inj (e1.symm.trans e2)
    subst e3
    have ew : ∀ f : Nat → va_E, va_pl ([] ++ (List.range N').map r) (vr_up f ((List.range N').map r) (.inl (cI, K', .inl (fun _ => 0)))) = (List.range N').map (fun i => (r i, .inl (cI, K', .inl (fun _ => 0)))) := by
      intro f
      unfold va_pl
      rw [List.nil_append, List.map_map]
      apply List.map_congr_left
      intro i hi
      show (r i, vr_up f _ _ (r i)) = _
      rw [vr_up_in (List.mem_map.mpr ⟨i, hi, rfl⟩)]
    rw [ew, List.append_assoc] at hP1 hD1
    exact kk q r H1 locs ls hP1 hD1 hS1 hl
theorem jn_putF (E : jn_E p s m args meth c cc nL own Ts D cl cI cJ A) {a ci k index M q : Nat} {fs : List Value} {T : u_T} {ty : FieldType} (ty0 : Nat → FieldType) (hd : decode cc pc = .ok (.putfield index, 3)) (hin : ∀ w ∈ u_ws own T M, w ∈ Ts) (hty : ∀ k, k < M → parseFieldDescriptor (T k).2.2.1 = some (ty0 k)) (hnm : ∀ a, a < M → ∀ b, b < M → a ≠ b → (T a).2.1 ≠ (T b).2.1) (hc : cl[ci]? = some (own, T, M)) (hk : k < M) (hC : (T k).1 = own) (hlink : Cond.fieldLink own index own (T k).2.1 (T k).2.2.1 ∈ Ts) (hfin : (T k).2.2.2 = true) (hdt : parseFieldDescriptor (T k).2.2.1 = some ty) (hn : narrow ty (.ref q) = .ref q) (hfit : fits ty (.ref q) = true) (hl0 : k < fs.length)
    (kk : jn_N p l e R s m args below meth c D cl A kc ks nL Q ((a, .inr (ci, fs.set k (.ref q))) :: ws) (pc + 3) lv st) : jn_N p l e R s m args below meth c D cl A kc ks nL Q ((a, .inr (ci, fs)) :: ws) pc lv (.ref q :: .ref a :: st) :=
  fun H locs ls hP hD hS hl => va_putF (T := T) (N := M) E.1 E.2.1 E.2.2.2.2.1 hin ty0 hty hnm E.2.2.2.1 E.2.2.2.2.2.2.2.1 hP hD hS 0 rfl hc k hk (E.2.2.2.2.1 _ hlink) (fun x hx => by rw [hC] at hx; exact hx) hfin E.2.2.2.2.2.2.2.2.1 hC hdt hn hfit hl0 hd (fun H1 locs1 hP1 hD1 hS1 => kk H1 locs1 ls hP1 hD1 hS1 hl)
theorem jn_puti (E : jn_E p s m args meth c cc nL own Ts D cl cI cJ A) {a ci k index M : Nat} {x : Int32} {fs : List Value} {T : u_T} {ty : FieldType} (ty0 : Nat → FieldType) (hd : decode cc pc = .ok (.putfield index, 3)) (hin : ∀ w ∈ u_ws own T M, w ∈ Ts) (hty : ∀ k, k < M → parseFieldDescriptor (T k).2.2.1 = some (ty0 k)) (hnm : ∀ a, a < M → ∀ b, b < M → a ≠ b → (T a).2.1 ≠ (T b).2.1) (hc : cl[ci]? = some (own, T, M)) (hk : k < M) (hC : (T k).1 = own) (hlink : Cond.fieldLink own index own (T k).2.1 (T k).2.2.1 ∈ Ts) (hfin : (T k).2.2.2 = false) (hdt : parseFieldDescriptor (T k).2.2.1 = some ty) (hn : narrow ty (.int x) = .int x) (hfit : fits ty (.int x) = true) (hl0 : k < fs.length)
    (kk : jn_N p l e R s m args below meth c D cl A kc ks nL Q ((a, .inr (ci, fs.set k (.int x))) :: ws) (pc + 3) lv st) : jn_N p l e R s m args below meth c D cl A kc ks nL Q ((a, .inr (ci, fs)) :: ws) pc lv (.int x :: .ref a :: st) :=
  fun H locs ls hP hD hS hl => va_put (T := T) (N := M) E.1 E.2.1 E.2.2.2.2.1 hin ty0 hty hnm E.2.2.2.1 E.2.2.2.2.2.2.2.1 hP hD hS 0 rfl hc k hk (E.2.2.2.2.1 _ hlink) (fun x hx => by rw [hC] at hx; exact hx) hfin hdt hn hfit hl0 hd (fun H1 locs1 hP1 hD1 hS1 => kk H1 locs1 ls hP1 hD1 hS1 hl)
theorem jn_callN (E : jn_E p s m args meth c cc nL own Ts D cl cI cJ A) {y : MethodName} {wsy ws' : List Cond} {rm : Room} {bytes : ByteArray} {maxL idx q ci n mc ms : Nat} {fs : List Value} {host : String} {sh : Nat → jx_Sh} {v0 : jx_V} (hd : decode cc pc = .ok (.invokespecial idx, 3)) (hM : jn_C l D cl cI cJ y wsy rm ci fs n sh v0 mc ms) (hG : GoodIn Ts wsy) (hw : wsy = Cond.code y bytes maxL none :: ws') (hrc : rm.cells = mc) (hrs : rm.slots = ms) (hlk : va_Nw (.methodLinkNest own idx y host) s) (hw1 : Cond.initialized y.cls ∈ Ts) (hw2 : Cond.instanceMethod y ∈ Ts) (hy1 : y.name = "<init>") (hdd : y.cls ≠ "java/lang/invoke/MethodHandle" ∧ y.cls ≠ "java/lang/invoke/VarHandle" ∧ (parseMethodDescriptor y.desc).map (fun d => d.parameters.length) = some 0) (hR : rm.frames + 1 ≤ R.frames ∧ 8 + (maxL + 11) + rm.locals ≤ R.locals) (hf : kc + mc ≤ R.cells ∧ ks + ms ≤ R.slots) (hst : (st.map fun v => v.category).sum ≤ 8)
    (kk : ∀ a : Nat → Nat, a 0 = q → jn_N p l e R s m args below meth c D cl A (kc + mc) (ks + ms) nL Q (ws ++ jx_ws n cI cJ a sh v0) (pc + 3) lv st) : jn_N p l e R s m args below meth c D cl A kc ks nL Q (ws ++ [(q, .inr (ci, fs))]) pc lv (.ref q :: st) := by
  intro H locs ls hP hD hS hl
  have hPc : va_P D cl [(q, .inr (ci, fs))] H := fun k x hx => hP (ws.length + k) x (by rw [List.getElem?_append_right (by omega), Nat.add_sub_cancel_left]; exact hx)
  have hFc : ∀ x, va_A [(q, .inr (ci, fs))] H.size x → A x := fun x hx => by
    rcases hx with ⟨k, e, hk⟩ | hx
    · exact hD.2 (ws.length + k) (x, e) (by rw [List.getElem?_append_right (by omega), Nat.add_sub_cancel_left]; exact hk)
    · exact E.2.2.2.2.2.2.2.2.2.2 x (Nat.le_trans hS.1 hx)
  refine va_callv (va_runIN (As := []) ⟨E.1, E.2.1, E.2.2.1, E.2.2.2.1, E.2.2.2.2.1⟩ (hM q H.size) ⟨va_cnB 0 E.2.2.2.2.1 hG hw hrc hrs hlk (E.2.2.2.2.1 _ hw1) hdd hR, hy1, E.2.2.2.2.1 _ hw2⟩ ⟨fun a U g mk x => ⟨x.1, x.2.1, x.2.2.1, va_K.moved (u := U) (U := U.calling g mk a) (Vm.Alike.refl U.vm) x.2.2.2.1, ex_C_call x.2.2.2.2⟩, fun U hU hW => ⟨rfl, by rw [hU], by rw [hU]; exact hPc, va_K.moved hW.alike E.2.2.2.2.2.2.2.1, ex_C_warm hW E.2.2.2.2.2.2.2.2.2.1⟩⟩ rfl rfl hl.1 rfl (lv_room hst) hd hf) hS (fun x _ h => hFc x h) hFc (fun u t H1 locs1 ht hvm _ hB hz1 hk1 hS1 => ?_)
  obtain ⟨a, ha, hP1, hD1⟩ := hB
  rw [ht] at hP1
  obtain ⟨hP2, hD2⟩ := jn_join hP hD hk1 hFc hP1 hD1
  exact kk a ha H1 locs1 ls hP2 hD2 hS1 hl
end JN
theorem jn_enter {l : Launch} {D : va_G} {cl : List vw_C} {cI cJ : ClassId} {y : MethodName} {wsy : List Cond} (ws' : List Cond) {rm : Room} {ci n mc ms : Nat} {fs : List Value} {sh : Nat → jx_Sh} {v0 : jx_V} (own : String) (cc : ByteArray) (maxL : Nat) (hy : plainName y.cls = true) (hw : wsy = Cond.code y cc maxL none :: ws') (hlen : 1 ≤ maxL) (hown : y.cls = own) (hname : y.name = "<init>")
    (body : ∀ (p : Program) (e : Env) (s : State) (m : MethodId) (args : Array Value) (below : List Frame) (meth : Method) (c : Code) (q : Nat) (A : Nat → Prop), jn_E p s m args meth c cc maxL own wsy D cl cI cJ A → jn_N p l e rm s m args below meth c D cl A 0 0 maxL (MQ below (va_Qv (fun (_ : Unit) => True) (fun _ t => ∃ a : Nat → Nat, a 0 = q ∧ va_P D cl (jx_ws n cI cJ a sh v0) t.heap ∧ va_D A (jx_ws n cI cJ a sh v0)) A) args s mc ms A) [(q, .inr (ci, fs))] 0 [(0, .ref q)] []) : jn_C l D cl cI cJ y wsy rm ci fs n sh v0 mc ms := by
  intro q sz
  refine Met.ofW (cc := cc) (maxL := maxL) (ret := none) hy hw ?_
  intro p e s m args below meth c s₁ B hml hv
  obtain ⟨rfl, hsz, hP, hK, hEx⟩ := hv
  subst hsz
  have hts := atoms_spec (ws := wsy) B.pre
  have ho : s.vm.findClass own = some m.cls := by rw [← hown]; exact findClass_of_methodNamed B.named
  have hin : meth.name = "<init>" := (name_of_methodNamed B.named B.method).1.trans hname
  have hl := lv_entry [.ref q] (n := maxL) hlen
  rw [lg_entry_eq]
  have hD : va_D (va_A [(q, .inr (ci, fs))] s.heap.size) [(q, .inr (ci, fs))] := by
    refine ⟨fun i j x y hi hj _ => ?_, fun k x hx => va_A.in hx⟩
    have h1 : i < 1 := (List.getElem?_eq_some_iff.mp hi).1
    have h2 : j < 1 := (List.getElem?_eq_some_iff.mp hj).1
    omega
  exact body p e s m _ below meth c q _ ⟨B.exec, B.bytes, hml, ho, hts, B.returns, B.notSynchronized, hK, hin, hEx, fun x hx => Or.inr hx⟩ s.heap [] _ hP hD va_S.rf hl
