/-! Rows on new T[n][m] as TURN prints them, the word of 'hover' as the tables have it; own work behind them. -/
def vr_up {α : Type} (f : Nat → α) (l : List Nat) (v : α) : Nat → α := fun a => if a ∈ l then v else f a
theorem vr_up_in {α : Type} {f : Nat → α} {l : List Nat} {v : α} {a : Nat} (h : a ∈ l) : vr_up f l v a = v := if_pos h
theorem vr_up_ne {α : Type} {f : Nat → α} {l : List Nat} {v : α} {a : Nat} (h : a ∉ l) : vr_up f l v a = f a := if_neg h
theorem vr_rows {L l : List Nat} {f : Nat → va_E} {e : va_E} (h : ∀ a, a ∈ l → a ∉ L) : va_pl L f ++ l.map (fun a => (a, e)) = va_pl (L ++ l) (vr_up f l e) := by
  unfold va_pl
  rw [List.map_append]
  congr 1
  · apply List.map_congr_left
    intro a ha
    rw [vr_up_ne (fun q => h a q ha)]
  · apply List.map_congr_left
    intro a ha
    rw [vr_up_in ha]
theorem vr_lay {X rows : va_W} {x : Nat × va_E} {pl : va_W} {D : va_G} {cl : List vw_C} {H : Heap} (hP : va_P D cl (((X ++ pl) ++ [x]) ++ rows) H) : va_P D cl ((X ++ [x]) ++ (pl ++ rows)) H := by
  rw [List.append_assoc (X ++ pl)] at hP
  have h := va_P.swap hP
  rw [← List.append_assoc X] at h
  have h2 := va_P.swap h
  rw [List.append_assoc (X ++ [x])] at h2
  exact h2
theorem vr_layD {X rows : va_W} {x : Nat × va_E} {pl : va_W} {A : Nat → Prop} (hD : va_D A (((X ++ pl) ++ [x]) ++ rows)) : va_D A ((X ++ [x]) ++ (pl ++ rows)) := by
  rw [List.append_assoc (X ++ pl)] at hD
  have h := va_D.swap hD
  rw [← List.append_assoc X] at h
  have h2 := va_D.swap h
  rw [List.append_assoc (X ++ [x])] at h2
  exact h2
theorem vr_outer (c : ClassId) (N h0 : Nat) : ∀ i : Nat, Jvm.Free.Multi.outerC c N h0 i = arrV c N (fun j => va_rf (if j < i then some (h0 + 1 + j) else none))
  | 0 => by
    show ({ cls := c, slots := Array.replicate N .null, vm := .none } : Cell) = _
    rw [arrV_new]
    refine congrArg (arrV c N) (funext fun j => ?_)
    simp [va_rf]
  | i + 1 => by
    show (Jvm.Free.Multi.outerC c N h0 i).setSlot i (.ref (h0 + 1 + i)) = _
    rw [vr_outer c N h0 i, arrV_store]
    refine congrArg (arrV c N) (funext fun j => ?_)
    by_cases e : j = i
    · subst e
      simp [updV, va_rf]
    · by_cases h : j < i
      · simp [updV, e, h, Nat.lt_succ_of_lt h]
      · simp [updV, e, h, show ¬ j < i + 1 by omega]
section VGM
variable {p : Program} {l : Launch} {e : Env} {R : Room} {s : State} {m : MethodId} {args : Array Value} {below : List Frame} {meth : Method} {c : Code} {H : Heap} {locs : List Loc} {cells slots : Nat} {Q : State → Prop}
variable {cc : ByteArray} {pc : Nat} {ls : Array Slot} {rest : List Value} {D : va_G} {cl : List vw_C} {A : Nat → Prop} {a : Nat} {tys : List (ClassId × FieldType)} {ws : va_W} {H0 : Heap}
theorem va_mna {X : va_W} {L : List Nat} {f : Nat → va_E} {cc : ByteArray} (hexec : p.tables.exec = Jvm.exec) (hb : c.code = cc) {own : String} {index : Nat} {ty : FieldType} {cy : ClassId} (hown : s.vm.findClass own = some m.cls) (hclink : (Cond.classLink own index ("[" ++ (FieldType.array ty).toString)).before args s = true) (hover : (Cond.arrayOver (.array ty)).before args s = true) (harr : (Cond.arrayClass ty).before args s = true) (hcy : s.vm.findClass (FieldType.array ty).toString = some cy)
    (hK : va_K D cl tys s) (hP : va_P D cl (X ++ va_pl L f) H) (hD : va_D A (X ++ va_pl L f)) (hS : va_S A H0 H locs) (hA : ∀ q, H0.size ≤ q → A q) {n k : Int32} {N' K' : Nat} {z : vp_A} (hn : ¬ n < 0) (hk : ¬ k < 0) (hN : n.toNatClampNeg = N') (hM : k.toNatClampNeg = K')
    (hb1 : N' * 4 ≤ 536870912) (hb2 : K' * componentBytes ty ≤ 536870912) (hb3 : K' ≤ 536870912) (hdf : fits ty (defaultValue ty) = true) (hdd : (defaultValue ty).isDefault = true) (hcells : cells + (1 + N') ≤ R.cells) (hslots : slots + (N' + N' * K') ≤ R.slots) (hz : ∀ c : ClassId, Jvm.Free.Multi.innerC c K' (defaultValue ty) = vp_cell c z) (hdg : decode cc pc = .ok (.multianewarray index 2, 4))
    (kk : ∀ (q : Nat) (r : Nat → Nat) (cA : ClassId) (H1 : Heap), (∀ i j : Nat, i < N' → j < N' → r i = r j → i = j) → (∀ i : Nat, i < N' → r i ∉ L) → va_K D cl (tys ++ [(cA, .array ty)]) s →
      va_P D cl ((X ++ [(q, .inl (cA, N', .inr (.inr (.inr (.inr (fun i => if i < N' then some (r i) else none))))))]) ++ va_pl (L ++ (List.range N').map r) (vr_up f ((List.range N').map r) (.inl (cy, z)))) H1 → va_D A ((X ++ [(q, .inl (cA, N', .inr (.inr (.inr (.inr (fun i => if i < N' then some (r i) else none))))))]) ++ va_pl (L ++ (List.range N').map r) (vr_up f ((List.range N').map r) (.inl (cy, z)))) → va_S A H0 H1 locs →
      W p l e R s m args below meth c H1 locs (cells + 1 + N') (slots + N' + N' * K') Q (F0 m (pc + 4) ls (.ref q :: rest))) : W p l e R s m args below meth c H locs cells slots Q (F0 m pc ls (.int k :: .int n :: rest)) := by
  subst hN
  subst hM
  intro T hT Xs
  obtain ⟨vm₁, cA, comp, -, fA, fC, hO, -, X', step⟩ := Xs.multianewarray2F hexec hown hclink hover harr (g := F0 m pc ls (.int k :: .int n :: rest)) rfl (by rw [hb]; exact hdg) rfl hn hk hb1 hb2 hb3 hdf hdd hcells hslots
  have ec : some cy = some comp := hcy.symm.trans fC
  cases ec
  generalize hF : Jvm.Free.Multi.fill (T.setVm vm₁) cA cy n.toNatClampNeg k.toNatClampNeg (defaultValue ty) n.toNatClampNeg = F at X' step
  have hTh : (T.setVm vm₁).heap = H := hT
  obtain ⟨f1, f2, -, -⟩ := Jvm.Free.Multi.fill_facts (T.setVm vm₁) cA cy n.toNatClampNeg k.toNatClampNeg (defaultValue ty) n.toNatClampNeg
  rw [hF, hTh] at f1 f2
  have hold : ∀ x : Nat, x < H.size → F.heap[x]? = H[x]? := fun x hx => by
    have := Jvm.Free.Multi.fill_old (T.setVm vm₁) cA cy n.toNatClampNeg k.toNatClampNeg (defaultValue ty) (a := x) (by rw [hTh]; exact hx) n.toNatClampNeg
    rw [hF, hTh] at this
    exact this
  have hrow : ∀ j : Nat, j < n.toNatClampNeg → F.heap[H.size + 1 + j]? = some (vp_cell cy z) := fun j hj => by
    have := Jvm.Free.Multi.fill_inner (T.setVm vm₁) cA cy n.toNatClampNeg k.toNatClampNeg (defaultValue ty) n.toNatClampNeg j hj
    rw [hF, hTh, hz] at this
    exact this
  have hout : Jvm.Free.Multi.outerC cA n.toNatClampNeg H.size n.toNatClampNeg = vp_cell cA (n.toNatClampNeg, .inr (.inr (.inr (.inr (fun i => if i < n.toNatClampNeg then some (H.size + 1 + i) else none))))) := by
    rw [vp_cell_q]
    exact vr_outer cA n.toNatClampNeg H.size n.toNatClampNeg
  rw [hout] at f2
  have hlt : ∀ a, a ∈ L → a < H.size := fun a ha => by
    obtain ⟨k9, hk9⟩ := va_pl_get (X := X) (f := f) ha
    exact (hP k9 _ hk9).lt
  have hnl : ∀ i : Nat, i < n.toNatClampNeg → H.size + 1 + i ∉ L := fun i _ h => by
    have := hlt _ h
    omega
  have hnm : ∀ a, a ∈ (List.range n.toNatClampNeg).map (fun i => H.size + 1 + i) → a ∉ L := fun a ha h => by
    obtain ⟨i, -, rfl⟩ := List.mem_map.mp ha
    have := hlt _ h
    omega
  have hP0 : va_P D cl (X ++ va_pl L f) F.heap := hP.kept (fun k9 x hx => hold x.1 ((hP k9 x hx).lt))
  have hP1 : va_P D cl ((X ++ va_pl L f) ++ [(H.size, .inl (cA, n.toNatClampNeg, .inr (.inr (.inr (.inr (fun i => if i < n.toNatClampNeg then some (H.size + 1 + i) else none))))))]) F.heap := hP0.app (fun k9 x hx => by
    have h0 : k9 < 1 := (List.getElem?_eq_some_iff.mp hx).1
    rw [show k9 = 0 by omega] at hx
    cases hx
    exact f2)
  have hP2 : va_P D cl (((X ++ va_pl L f) ++ [(H.size, .inl (cA, n.toNatClampNeg, .inr (.inr (.inr (.inr (fun i => if i < n.toNatClampNeg then some (H.size + 1 + i) else none))))))]) ++ ((List.range n.toNatClampNeg).map (fun i => H.size + 1 + i)).map (fun a => (a, .inl (cy, z)))) F.heap := hP1.app (fun k9 x hx => by
    obtain ⟨a, ha, rfl⟩ := List.mem_map.mp (List.mem_of_getElem? hx)
    obtain ⟨i, hi, rfl⟩ := List.mem_map.mp ha
    exact hrow i (List.mem_range.mp hi))
  have hD2 : va_D A (((X ++ va_pl L f) ++ [(H.size, .inl (cA, n.toNatClampNeg, .inr (.inr (.inr (.inr (fun i => if i < n.toNatClampNeg then some (H.size + 1 + i) else none))))))]) ++ ((List.range n.toNatClampNeg).map (fun i => H.size + 1 + i)).map (fun a => (a, .inl (cy, z)))) := by
    have hD1 := hD.push (e := .inl (cA, n.toNatClampNeg, .inr (.inr (.inr (.inr (fun i => if i < n.toNatClampNeg then some (H.size + 1 + i) else none)))))) hP rfl (hA _ hS.1)
    generalize hW1 : (X ++ va_pl L f) ++ [(H.size, .inl (cA, n.toNatClampNeg, .inr (.inr (.inr (.inr (fun i => if i < n.toNatClampNeg then some (H.size + 1 + i) else none))))))] = W1 at hD1 hP1 ⊢
    have hle : ∀ (k9 : Nat) (x : Nat × va_E), W1[k9]? = some x → x.1 ≤ H.size := fun k9 x hx => by
      rw [← hW1] at hx
      by_cases hl : k9 < (X ++ va_pl L f).length
      · rw [List.getElem?_append_left hl] at hx
        exact Nat.le_of_lt ((hP k9 x hx).lt)
      · rw [List.getElem?_append_right (by omega)] at hx
        have h0 : k9 - (X ++ va_pl L f).length < 1 := (List.getElem?_eq_some_iff.mp hx).1
        rw [show k9 - (X ++ va_pl L f).length = 0 by omega] at hx
        cases hx
        exact Nat.le_refl _
    have hr : ∀ (k9 : Nat) (x : Nat × va_E), (((List.range n.toNatClampNeg).map (fun i => H.size + 1 + i)).map (fun a => ((a, .inl (cy, z)) : Nat × va_E)))[k9]? = some x → x.1 = H.size + 1 + k9 := fun k9 x hx => by
      rw [List.getElem?_map, List.getElem?_map] at hx
      by_cases h9 : k9 < n.toNatClampNeg
      · rw [List.getElem?_range h9] at hx
        cases hx
        rfl
      · have hn0 : (List.range n.toNatClampNeg)[k9]? = none := List.getElem?_eq_none (by rw [List.length_range]; omega)
        rw [hn0] at hx
        cases hx
    refine ⟨fun i j x y hi hj hxy => ?_, fun k9 x hx => ?_⟩
    · by_cases h1 : i < W1.length <;> by_cases h2 : j < W1.length
      · rw [List.getElem?_append_left h1] at hi
        rw [List.getElem?_append_left h2] at hj
        exact hD1.1 i j x y hi hj hxy
      · rw [List.getElem?_append_left h1] at hi
        rw [List.getElem?_append_right (by omega)] at hj
        have := hle _ _ hi
        have := hr _ _ hj
        omega
      · rw [List.getElem?_append_right (by omega)] at hi
        rw [List.getElem?_append_left h2] at hj
        have := hle _ _ hj
        have := hr _ _ hi
        omega
      · rw [List.getElem?_append_right (by omega)] at hi hj
        have := hr _ _ hi
        have := hr _ _ hj
        omega
    · by_cases h1 : k9 < W1.length
      · rw [List.getElem?_append_left h1] at hx
        exact hD1.2 k9 x hx
      · rw [List.getElem?_append_right (by omega)] at hx
        have := hr _ _ hx
        exact hA _ (by have := hS.1; omega)
  have hAr : ArrOfT s cA (.array ty) := fun N9 z9 => by
    obtain ⟨-, k9, hk9, cm9, hkk9⟩ := (hO 0 0 0).1
    exact ⟨(fun q hq => by cases hq), k9, hk9, cm9, hkk9⟩
  have hK2 : va_K D cl (tys ++ [(cA, .array ty)]) s := ⟨hK.1, fun k9 x hx => by
    by_cases hl : k9 < tys.length
    · rw [List.getElem?_append_left hl] at hx
      exact hK.2 k9 x hx
    · rw [List.getElem?_append_right (by omega)] at hx
      have h0 : k9 - tys.length < 1 := (List.getElem?_eq_some_iff.mp hx).1
      rw [show k9 - tys.length = 0 by omega] at hx
      cases hx
      exact ⟨hAr, fA⟩⟩
  obtain ⟨t, a1, b1⟩ := kk H.size (fun i => H.size + 1 + i) cA F.heap (fun i j _ _ h => by have h9 : H.size + 1 + i = H.size + 1 + j := h; omega) hnl hK2 (by rw [← vr_rows hnm]; exact vr_lay hP2) (by rw [← vr_rows hnm]; exact vr_layD hD2) ⟨by rw [f1]; have := hS.1; omega, fun x h1 h2 => (hold x (Nat.lt_of_lt_of_le h1 hS.1)).trans (hS.2.1 x h1 h2), hS.2.2⟩ F rfl X'
  refine ⟨t, step t ?_, b1⟩
  have e : T.heap.size = H.size := by rw [hT]
  rw [e]
  exact a1
end VGM
/-! Constructors: walks over worlds that grow. Behind the rows on new T[n][m], which make.py takes from the text that TURN prints: own work. -/
def ex_C (U : State) : Prop := (∀ q ∈ ex_nml, va_Nw (.methodLinkNest q.1 q.2.1 q.2.2.1 q.2.2.2) U) ∧ (Cond.arrayOver (.array .int)).before #[] U = true
theorem ex_C_call {U : State} {g : JFrame} {mk : MethodId} {a : Array Value} (h : ex_C U) : ex_C (U.calling g mk a) := ⟨fun q hq => va_Nw.same rfl rfl (h.1 q hq), over_moved (u := U) (E := U.calling g mk a) (Vm.Alike.refl U.vm) h.2⟩
theorem ex_C_warm {s U : State} (hW : s.WarmedH U.vm) (h : ex_C s) : ex_C U := ⟨fun q hq => va_Nw.warmM hW (h.1 q hq), over_moved hW.alike h.2⟩
/-- what a constructor's walk has at hand -/
def jn_E (p : Program) (s : State) (m : MethodId) (args : Array Value) (meth : Method) (c : Code) (cc : ByteArray) (nL : Nat) (own : String) (Ts : List Cond) (D : va_G) (cl : List vw_C) (cI cJ : ClassId) (A : Nat → Prop) : Prop :=
  p.tables.exec = Jvm.exec ∧ c.code = cc ∧ c.maxLocals = nL ∧ s.vm.findClass own = some m.cls ∧ (∀ w ∈ Ts, w.before args s = true) ∧ meth.sig.returnType = none ∧ meth.locks = false ∧ va_K D cl (jx_tys cI cJ) s ∧ meth.name = "<init>" ∧ ex_C s ∧ ∀ q : Nat, s.heap.size ≤ q → A q
def jn_N (p : Program) (l : Launch) (e : Env) (R : Room) (s : State) (m : MethodId) (args : Array Value) (below : List Frame) (meth : Method) (c : Code) (D : va_G) (cl : List vw_C) (A : Nat → Prop) (kc ks nL : Nat) (Q : State → Prop) (ws : va_W) (pc : Nat) (lv : List (Nat × Value)) (st : List Value) : Prop :=
  ∀ (H : Heap) (locs : List Loc) (ls : Array Slot), va_P D cl ws H → va_D A ws → va_S A s.heap H locs → lv_has ls nL lv → W p l e R s m args below meth c H locs kc ks Q (F0 m pc ls st)
theorem jn_join {A0 : Nat → Prop} {D : va_G} {cl : List vw_C} {wr wc w1 : va_W} {H H1 : Heap} (hP : va_P D cl (wr ++ wc) H) (hD : va_D A0 (wr ++ wc)) (hk : ∀ q : Nat, q < H.size → ¬ va_A wc H.size q → H1[q]? = H[q]?) (hF : ∀ q, va_A wc H.size q → A0 q) (hP1 : va_P D cl w1 H1) (hD1 : va_D (va_A wc H.size) w1) : va_P D cl (wr ++ w1) H1 ∧ va_D A0 (wr ++ w1) := by
  refine va_join (ws := wr ++ wc) (wc := wc) (wr := wr) hP hD ((List.range wc.length).map (fun i => wr.length + i)) (List.range wr.length) ?_ ?_ ?_ ?_ hk hF hP1 hD1
  · apply List.ext_getElem?
    intro k
    rw [List.getElem?_map, List.getElem?_map, List.getElem?_map]
    by_cases hk2 : k < wc.length
    · rw [List.getElem?_range hk2]
      simp only [Option.map_some]
      rw [List.getElem?_append_right (by omega), Nat.add_sub_cancel_left]
      cases hw : wc[k]? with
      | none => rw [List.getElem?_eq_none_iff] at hw; omega
      | some x => rfl
    · rw [List.getElem?_eq_none (by rw [List.length_range]; omega), List.getElem?_eq_none (by omega)]
      rfl
  · apply List.ext_getElem?
    intro k
    rw [List.getElem?_map, List.getElem?_map]
    by_cases hk2 : k < wr.length
    · rw [List.getElem?_range hk2]
      simp only [Option.map_some]
      rw [List.getElem?_append_left hk2]
      cases hw : wr[k]? with
      | none => rw [List.getElem?_eq_none_iff] at hw; omega
      | some x => rfl
    · rw [List.getElem?_eq_none (by rw [List.length_range]; omega), List.getElem?_eq_none (by omega)]
      rfl
  · have hnd : ∀ n : Nat, (List.range n).Nodup := fun n => List.nodup_range
    have h2 : ∀ l : List Nat, l.Nodup → va_nd l = true := by
      intro l hl
      induction l with
      | nil => rfl
      | cons a t ih =>
        rw [List.nodup_cons] at hl
        simp [va_nd, ih hl.2, hl.1]
    exact h2 _ (hnd _)
  · intro i hi hc
    obtain ⟨j, -, hj⟩ := List.mem_map.mp hc
    have := List.mem_range.mp hi
    omega
/-- a constructor's contract -/
def jn_C (l : Launch) (D : va_G) (cl : List vw_C) (cI cJ : ClassId) (y : MethodName) (ws : List Cond) (rm : Room) (ci : Nat) (fs : List Value) (n : Nat) (sh : Nat → jx_Sh) (v0 : jx_V) (mc ms : Nat) : Prop :=
  ∀ q sz : Nat, Met l y ws rm (va_Pc [.ref q] (fun U => U.heap.size = sz ∧ va_P D cl [(q, .inr (ci, fs))] U.heap ∧ va_K D cl (jx_tys cI cJ) U ∧ ex_C U)) (va_Qv (fun (_ : Unit) => True) (fun _ t => ∃ a : Nat → Nat, a 0 = q ∧ va_P D cl (jx_ws n cI cJ a sh v0) t.heap ∧ va_D (va_A [(q, .inr (ci, fs))] sz) (jx_ws n cI cJ a sh v0)) (va_A [(q, .inr (ci, fs))] sz)) mc ms (va_A [(q, .inr (ci, fs))] sz)
section JN
variable {p : Program} {l : Launch} {e : Env} {R : Room} {s : State} {m : MethodId} {args : Array Value} {below : List Frame} {meth : Method} {c : Code} {Q : State → Prop} {D : va_G} {cl : List vw_C} {cI cJ : ClassId} {A : Nat → Prop} {kc ks nL : Nat} {cc : ByteArray} {own : String} {Ts : List Cond} {ws : va_W} {pc : Nat} {lv : List (Nat × Value)} {st : List Value}
theorem jn_iconst (E : jn_E p s m args meth c cc nL own Ts D cl cI cJ A) {n : Int} {x : Int32} (hd : decode cc pc = .ok (.iconst n, 1)) (hv : Int32.ofInt n = x) (k : jn_N p l e R s m args below meth c D cl A kc ks nL Q ws (pc + 1) lv (.int x :: st)) : jn_N p l e R s m args below meth c D cl A kc ks nL Q ws pc lv st := fun H locs ls hP hD hS hl => lv_iconst E.1 E.2.1 hd hv (k H locs ls hP hD hS hl)
theorem jn_bipush (E : jn_E p s m args meth c cc nL own Ts D cl cI cJ A) {n : Int} {x : Int32} (hd : decode cc pc = .ok (.bipush n, 2)) (hv : (Int8.ofInt n).toInt32 = x) (k : jn_N p l e R s m args below meth c D cl A kc ks nL Q ws (pc + 2) lv (.int x :: st)) : jn_N p l e R s m args below meth c D cl A kc ks nL Q ws pc lv st := fun H locs ls hP hD hS hl => lv_bipush E.1 E.2.1 hd hv (k H locs ls hP hD hS hl)
theorem jn_sipush (E : jn_E p s m args meth c cc nL own Ts D cl cI cJ A) {n : Int} {x : Int32} (hd : decode cc pc = .ok (.sipush n, 3)) (hv : (Int16.ofInt n).toInt32 = x) (k : jn_N p l e R s m args below meth c D cl A kc ks nL Q ws (pc + 3) lv (.int x :: st)) : jn_N p l e R s m args below meth c D cl A kc ks nL Q ws pc lv st := fun H locs ls hP hD hS hl => lv_sipush E.1 E.2.1 hd hv (k H locs ls hP hD hS hl)
theorem jn_aload_n (E : jn_E p s m args meth c cc nL own Ts D cl cI cJ A) {k : Fin 4} {x : Nat} (hd : decode cc pc = .ok (.aload_n k, 1)) (j : Nat) (hj : lv[j]? = some ((k : Nat), .ref x)) (kk : jn_N p l e R s m args below meth c D cl A kc ks nL Q ws (pc + 1) lv (.ref x :: st)) : jn_N p l e R s m args below meth c D cl A kc ks nL Q ws pc lv st := fun H locs ls hP hD hS hl => lv_aload_n E.1 E.2.1 hd rfl (lv_at hl j hj) (kk H locs ls hP hD hS hl)
theorem jn_dup (E : jn_E p s m args meth c cc nL own Ts D cl cI cJ A) {a : Value} (hd : decode cc pc = .ok (.dup, 1)) (h1 : a.category = 1) (k : jn_N p l e R s m args below meth c D cl A kc ks nL Q ws (pc + 1) lv (a :: a :: st)) : jn_N p l e R s m args below meth c D cl A kc ks nL Q ws pc lv (a :: st) := fun H locs ls hP hD hS hl => lv_dup E.1 E.2.1 hd h1 (k H locs ls hP hD hS hl)
theorem jn_objInit (E : jn_E p s m args meth c cc nL own Ts D cl cI cJ A) {idx a : Nat} (hd : decode cc pc = .ok (.invokespecial idx, 3)) (h1 : Cond.methodLink own idx Lib.objectInit ∈ Ts) (h2 : Cond.instanceMethod Lib.objectInit ∈ Ts) (h3 : Cond.code Lib.objectInit ⟨#[0xb1]⟩ 1 none ∈ Ts) (hf : 1 ≤ R.frames) (hlo : (st.map fun v => v.category).sum + 12 ≤ R.locals) (k : jn_N p l e R s m args below meth c D cl A kc ks nL Q ws (pc + 3) lv st) : jn_N p l e R s m args below meth c D cl A kc ks nL Q ws pc lv (.ref a :: st) := fun H locs ls hP hD hS hl => W.objInit E.1 E.2.1 E.2.2.2.1 (E.2.2.2.2.1 _ h1) (E.2.2.2.2.1 _ h2) (E.2.2.2.2.1 _ h3) rfl (hl.1.trans E.2.2.1.symm) rfl hd hf (by show 2 * 0 + _ + 12 ≤ _; omega) (k H locs ls hP hD hS hl)
theorem jn_new (E : jn_E p s m args meth c cc nL own Ts D cl cI cJ A) {index ci M : Nat} {C : String} {T : u_T} (ty : Nat → FieldType) {fs : List Value} (hd : decode cc pc = .ok (.new index, 3)) (hin : ∀ w ∈ u_ws C T M, w ∈ Ts) (hty : ∀ k, k < M → parseFieldDescriptor (T k).2.2.1 = some (ty k)) (h1 : Cond.classLink own index C ∈ Ts) (h2 : Cond.instantiable C M ∈ Ts) (h3 : Cond.initialized C ∈ Ts) (hc : cl[ci]? = some (C, T, M)) (hfs : ∀ j, j < M → defaultValue (ty j) = vp_V fs j) (hkc : kc + 1 ≤ R.cells) (hks : ks + M ≤ R.slots)
    (k : ∀ q, jn_N p l e R s m args below meth c D cl A (kc + 1) (ks + M) nL Q (ws ++ [(q, .inr (ci, fs))]) (pc + 3) lv (.ref q :: st)) : jn_N p l e R s m args below meth c D cl A kc ks nL Q ws pc lv st :=
  fun H locs ls hP hD hS hl => va_new E.1 E.2.1 E.2.2.2.2.1 hin ty hty E.2.2.2.1 (E.2.2.2.2.1 _ h1) (E.2.2.2.2.1 _ h2) (E.2.2.2.2.1 _ h3) E.2.2.2.2.2.2.2.1 hP hD hS E.2.2.2.2.2.2.2.2.2.2 hc hfs hkc hks hd (fun q H1 hP1 hD1 hS1 => k q H1 locs ls hP1 hD1 hS1 hl)
theorem jn_newa (E : jn_E p s m args meth c cc nL own Ts D cl cI cJ A) {n : Int32} {N' : Nat} (hd : decode cc pc = .ok (.newarray .int, 2)) (h1 : Cond.arrayClass .int ∈ Ts) (hn : ¬ n < 0) (hN : n.toNatClampNeg = N') (hb : N' * componentBytes .int ≤ 536870912) (hkc : kc + 1 ≤ R.cells) (hks : ks + N' ≤ R.slots)
    (k : ∀ q, jn_N p l e R s m args below meth c D cl A (kc + 1) (ks + N') nL Q (ws ++ [(q, .inl (cI, N', .inl (fun _ => 0)))]) (pc + 2) lv (.ref q :: st)) : jn_N p l e R s m args below meth c D cl A kc ks nL Q ws pc lv (.int n :: st) := by
  intro H locs ls hP hD hS hl
  refine va_newa (atype := .int) (ty := .int) (a0 := (N', .inl (fun _ => 0))) E.1 E.2.1 (E.2.2.2.2.1 _ h1) rfl E.2.2.2.2.2.2.2.1 hP hD hS E.2.2.2.2.2.2.2.2.2.2 (fun cA => rfl) hn hN hb hkc hks hd (fun q cA H1 hK1 hP1 hD1 hS1 => ?_)
  have e1 : s.vm.findClass ("[" ++ FieldType.int.toString) = some cA := (hK1.2 2 _ rfl).2
  have e2 : s.vm.findClass ("[" ++ FieldType.int.toString) = some cI := (E.2.2.2.2.2.2.2.1.2 0 _ rfl).2
  have e3 : cA = cI := Option.some.inj (e1.symm.trans e2)
  subst e3
  exact k q H1 locs ls hP1 hD1 hS1 hl
theorem jn_mna (E : jn_E p s m args meth c cc nL own Ts D cl cI cJ A) {index : Nat} {n k : Int32} {N' K' : Nat} (hd : decode cc pc = .ok (.multianewarray index 2, 4)) (h1 : Cond.classLink own index "[[I" ∈ Ts) (h2 : Cond.arrayClass .int ∈ Ts) (hn : ¬ n < 0) (hk : ¬ k < 0) (hN : n.toNatClampNeg = N') (hM : k.toNatClampNeg = K') (hb1 : N' * 4 ≤ 536870912) (hb2 : K' * componentBytes .int ≤ 536870912) (hb3 : K' ≤ 536870912) (hkc : kc + (1 + N') ≤ R.cells) (hks : ks + (N' + N' * K') ≤ R.slots)
    (kk : ∀ (q : Nat) (r : Nat → Nat), jn_N p l e R s m args below meth c D cl A (kc + 1 + N') (ks + N' + N' * K') nL Q (ws ++ ((q, .inl (cJ, N', .inr (.inr (.inr (.inr (fun i => if i < N' then some (r i) else none)))))) :: (List.range N').map (fun i => (r i, .inl (cI, K', .inl (fun _ => 0)))))) (pc + 4) lv (.ref q :: st)) : jn_N p l e R s m args below meth c D cl A kc ks nL Q ws pc lv (.int k :: .int n :: st) := by
  intro H locs ls hP hD hS hl
  have hP' : va_P D cl (ws ++ va_pl [] (fun _ => Sum.inl (cI, 0, .inl (fun _ => 0)))) H := by rw [show va_pl [] (fun _ => (Sum.inl (cI, 0, .inl (fun _ => 0)) : va_E)) = [] from rfl, List.append_nil]; exact hP
  have hD' : va_D A (ws ++ va_pl [] (fun _ => Sum.inl (cI, 0, .inl (fun _ => 0)))) := by rw [show va_pl [] (fun _ => (Sum.inl (cI, 0, .inl (fun _ => 0)) : va_E)) = [] from rfl, List.append_nil]; exact hD
  have hcI : s.vm.findClass (FieldType.array .int).toString = some cI := (E.2.2.2.2.2.2.2.1.2 0 _ rfl).2
  refine va_mna (ty := .int) (cy := cI) (z := (K', .inl (fun _ => 0))) E.1 E.2.1 E.2.2.2.1 (E.2.2.2.2.1 _ h1) (over_moved (Vm.Alike.refl s.vm) E.2.2.2.2.2.2.2.2.2.1.2) (E.2.2.2.2.1 _ h2) hcI E.2.2.2.2.2.2.2.1 hP' hD' hS E.2.2.2.2.2.2.2.2.2.2 hn hk hN hM hb1 hb2 hb3 rfl rfl hkc hks (fun c => ?_) hd (fun q r cA H1 hr _ hK1 hP1 hD1 hS1 => ?_)
  · show ({ cls := c, slots := Array.replicate K' (.int 0), vm := .none } : Cell) = vp_cell c (K', .inl (fun _ => 0))
    rw [arrV_new]
    rfl
  · have e1 : s.vm.findClass ("[" ++ (FieldType.array .int).toString) = some cA := (hK1.2 2 _ rfl).2
    have e2 : s.vm.findClass ("[" ++ (FieldType.array .int).toString) = some cJ := (E.2.2.2.2.2.2.2.1.2 1 _ rfl).2
    have e3 : cA = cJ := Option.some.inj (e1.symm.trans e2)
    subst e3
    have ew : ∀ f : Nat → va_E, va_pl ([] ++ (List.range N').map r) (vr_up f ((List.range N').map r) (.inl (cI, K', .inl (fun _ => 0)))) = (List.range N').map (fun i => (r i, .inl (cI, K', .inl (fun _ => 0)))) := by
      intro f
      unfold va_pl
      rw [List.nil_append, List.map_map]
      apply List.map_congr_left
      intro i hi
      show (r i, vr_up f _ _ (r i)) = _
      rw [vr_up_in (List.mem_map.mpr ⟨i, hi, rfl⟩)]
    rw [ew, List.append_assoc] at hP1 hD1
    exact kk q r H1 locs ls hP1 hD1 hS1 hl
theorem jn_putF (E : jn_E p s m args meth c cc nL own Ts D cl cI cJ A) {a ci k index M q : Nat} {fs : List Value} {T : u_T} {ty : FieldType} (ty0 : Nat → FieldType) (hd : decode cc pc = .ok (.putfield index, 3)) (hin : ∀ w ∈ u_ws own T M, w ∈ Ts) (hty : ∀ k, k < M → parseFieldDescriptor (T k).2.2.1 = some (ty0 k)) (hnm : ∀ a, a < M → ∀ b, b < M → a ≠ b → (T a).2.1 ≠ (T b).2.1) (hc : cl[ci]? = some (own, T, M)) (hk : k < M) (hC : (T k).1 = own) (hlink : Cond.fieldLink own index own (T k).2.1 (T k).2.2.1 ∈ Ts) (hfin : (T k).2.2.2 = true) (hdt : parseFieldDescriptor (T k).2.2.1 = some ty) (hn : narrow ty (.ref q) = .ref q) (hfit : fits ty (.ref q) = true) (hl0 : k < fs.length)
    (kk : jn_N p l e R s m args below meth c D cl A kc ks nL Q ((a, .inr (ci, fs.set k (.ref q))) :: ws) (pc + 3) lv st) : jn_N p l e R s m args below meth c D cl A kc ks nL Q ((a, .inr (ci, fs)) :: ws) pc lv (.ref q :: .ref a :: st) :=
  fun H locs ls hP hD hS hl => va_putF (T := T) (N := M) E.1 E.2.1 E.2.2.2.2.1 hin ty0 hty hnm E.2.2.2.1 E.2.2.2.2.2.2.2.1 hP hD hS 0 rfl hc k hk (E.2.2.2.2.1 _ hlink) (fun x hx => by rw [hC] at hx; exact hx) hfin E.2.2.2.2.2.2.2.2.1 hC hdt hn hfit hl0 hd (fun H1 locs1 hP1 hD1 hS1 => kk H1 locs1 ls hP1 hD1 hS1 hl)
theorem jn_puti (E : jn_E p s m args meth c cc nL own Ts D cl cI cJ A) {a ci k index M : Nat} {x : Int32} {fs : List Value} {T : u_T} {ty : FieldType} (ty0 : Nat → FieldType) (hd : decode cc pc = .ok (.putfield index, 3)) (hin : ∀ w ∈ u_ws own T M, w ∈ Ts) (hty : ∀ k, k < M → parseFieldDescriptor (T k).2.2.1 = some (ty0 k)) (hnm : ∀ a, a < M → ∀ b, b < M → a ≠ b → (T a).2.1 ≠ (T b).2.1) (hc : cl[ci]? = some (own, T, M)) (hk : k < M) (hC : (T k).1 = own) (hlink : Cond.fieldLink own index own (T k).2.1 (T k).2.2.1 ∈ Ts) (hfin : (T k).2.2.2 = false) (hdt : parseFieldDescriptor (T k).2.2.1 = some ty) (hn : narrow ty (.int x) = .int x) (hfit : fits ty (.int x) = true) (hl0 : k < fs.length)
    (kk : jn_N p l e R s m args below meth c D cl A kc ks nL Q ((a, .inr (ci, fs.set k (.int x))) :: ws) (pc + 3) lv st) : jn_N p l e R s m args below meth c D cl A kc ks nL Q ((a, .inr (ci, fs)) :: ws) pc lv (.int x :: .ref a :: st) :=
  fun H locs ls hP hD hS hl => va_put (T := T) (N := M) E.1 E.2.1 E.2.2.2.2.1 hin ty0 hty hnm E.2.2.2.1 E.2.2.2.2.2.2.2.1 hP hD hS 0 rfl hc k hk (E.2.2.2.2.1 _ hlink) (fun x hx => by rw [hC] at hx; exact hx) hfin hdt hn hfit hl0 hd (fun H1 locs1 hP1 hD1 hS1 => kk H1 locs1 ls hP1 hD1 hS1 hl)
theorem jn_callN (E : jn_E p s m args meth c cc nL own Ts D cl cI cJ A) {y : MethodName} {wsy ws' : List Cond} {rm : Room} {bytes : ByteArray} {maxL idx q ci n mc ms : Nat} {fs : List Value} {host : String} {sh : Nat → jx_Sh} {v0 : jx_V} (hd : decode cc pc = .ok (.invokespecial idx, 3)) (hM : jn_C l D cl cI cJ y wsy rm ci fs n sh v0 mc ms) (hG : GoodIn Ts wsy) (hw : wsy = Cond.code y bytes maxL none :: ws') (hrc : rm.cells = mc) (hrs : rm.slots = ms) (hlk : va_Nw (.methodLinkNest own idx y host) s) (hw1 : Cond.initialized y.cls ∈ Ts) (hw2 : Cond.instanceMethod y ∈ Ts) (hy1 : y.name = "<init>") (hdd : y.cls ≠ "java/lang/invoke/MethodHandle" ∧ y.cls ≠ "java/lang/invoke/VarHandle" ∧ (parseMethodDescriptor y.desc).map (fun d => d.parameters.length) = some 0) (hR : rm.frames + 1 ≤ R.frames ∧ 8 + (maxL + 11) + rm.locals ≤ R.locals) (hf : kc + mc ≤ R.cells ∧ ks + ms ≤ R.slots) (hst : (st.map fun v => v.category).sum ≤ 8)
    (kk : ∀ a : Nat → Nat, a 0 = q → jn_N p l e R s m args below meth c D cl A (kc + mc) (ks + ms) nL Q (ws ++ jx_ws n cI cJ a sh v0) (pc + 3) lv st) : jn_N p l e R s m args below meth c D cl A kc ks nL Q (ws ++ [(q, .inr (ci, fs))]) pc lv (.ref q :: st) := by
  intro H locs ls hP hD hS hl
  have hPc : va_P D cl [(q, .inr (ci, fs))] H := fun k x hx => hP (ws.length + k) x (by rw [List.getElem?_append_right (by omega), Nat.add_sub_cancel_left]; exact hx)
  have hFc : ∀ x, va_A [(q, .inr (ci, fs))] H.size x → A x := fun x hx => by
    rcases hx with ⟨k, e, hk⟩ | hx
    · exact hD.2 (ws.length + k) (x, e) (by rw [List.getElem?_append_right (by omega), Nat.add_sub_cancel_left]; exact hk)
    · exact E.2.2.2.2.2.2.2.2.2.2 x (Nat.le_trans hS.1 hx)
  refine va_callv (va_runIN (As := []) ⟨E.1, E.2.1, E.2.2.1, E.2.2.2.1, E.2.2.2.2.1⟩ (hM q H.size) ⟨va_cnB 0 E.2.2.2.2.1 hG hw hrc hrs hlk (E.2.2.2.2.1 _ hw1) hdd hR, hy1, E.2.2.2.2.1 _ hw2⟩ ⟨fun a U g mk x => ⟨x.1, x.2.1, x.2.2.1, va_K.moved (u := U) (U := U.calling g mk a) (Vm.Alike.refl U.vm) x.2.2.2.1, ex_C_call x.2.2.2.2⟩, fun U hU hW => ⟨rfl, by rw [hU], by rw [hU]; exact hPc, va_K.moved hW.alike E.2.2.2.2.2.2.2.1, ex_C_warm hW E.2.2.2.2.2.2.2.2.2.1⟩⟩ rfl rfl hl.1 rfl (lv_room hst) hd hf) hS (fun x _ h => hFc x h) hFc (fun u t H1 locs1 ht hvm _ hB hz1 hk1 hS1 => ?_)
  obtain ⟨a, ha, hP1, hD1⟩ := hB
  rw [ht] at hP1
  obtain ⟨hP2, hD2⟩ := jn_join hP hD hk1 hFc hP1 hD1
  exact kk a ha H1 locs1 ls hP2 hD2 hS1 hl
end JN
theorem jn_enter {l : Launch} {D : va_G} {cl : List vw_C} {cI cJ : ClassId} {y : MethodName} {wsy : List Cond} (ws' : List Cond) {rm : Room} {ci n mc ms : Nat} {fs : List Value} {sh : Nat → jx_Sh} {v0 : jx_V} (own : String) (cc : ByteArray) (maxL : Nat) (hy : plainName y.cls = true) (hw : wsy = Cond.code y cc maxL none :: ws') (hlen : 1 ≤ maxL) (hown : y.cls = own) (hname : y.name = "<init>")
    (body : ∀ (p : Program) (e : Env) (s : State) (m : MethodId) (args : Array Value) (below : List Frame) (meth : Method) (c : Code) (q : Nat) (A : Nat → Prop), jn_E p s m args meth c cc maxL own wsy D cl cI cJ A → jn_N p l e rm s m args below meth c D cl A 0 0 maxL (MQ below (va_Qv (fun (_ : Unit) => True) (fun _ t => ∃ a : Nat → Nat, a 0 = q ∧ va_P D cl (jx_ws n cI cJ a sh v0) t.heap ∧ va_D A (jx_ws n cI cJ a sh v0)) A) args s mc ms A) [(q, .inr (ci, fs))] 0 [(0, .ref q)] []) : jn_C l D cl cI cJ y wsy rm ci fs n sh v0 mc ms := by
  intro q sz
  refine Met.ofW (cc := cc) (maxL := maxL) (ret := none) hy hw ?_
  intro p e s m args below meth c s₁ B hml hv
  obtain ⟨rfl, hsz, hP, hK, hEx⟩ := hv
  subst hsz
  have hts := atoms_spec (ws := wsy) B.pre
  have ho : s.vm.findClass own = some m.cls := by rw [← hown]; exact findClass_of_methodNamed B.named
  have hin : meth.name = "<init>" := (name_of_methodNamed B.named B.method).1.trans hname
  have hl := lv_entry [.ref q] (n := maxL) hlen
  rw [lg_entry_eq]
  have hD : va_D (va_A [(q, .inr (ci, fs))] s.heap.size) [(q, .inr (ci, fs))] := by
    refine ⟨fun i j x y hi hj _ => ?_, fun k x hx => va_A.in hx⟩
    have h1 : i < 1 := (List.getElem?_eq_some_iff.mp hi).1
    have h2 : j < 1 := (List.getElem?_eq_some_iff.mp hj).1
    omega
  exact body p e s m _ below meth c q _ ⟨B.exec, B.bytes, hml, ho, hts, B.returns, B.notSynchronized, hK, hin, hEx, fun x hx => Or.inr hx⟩ s.heap [] _ hP hD va_S.rf hl
set_option maxRecDepth 100000 in
theorem tg_24 : Cond.methodLink RX4 1 Lib.objectInit ∈ bigT ∧ Cond.instanceMethod Lib.objectInit ∈ bigT ∧ Cond.code Lib.objectInit ⟨#[0xb1]⟩ 1 none ∈ bigT ∧ Cond.classLink RX4 7 RX3 ∈ bigT ∧ Cond.instantiable RX3 8 ∈ bigT ∧ Cond.instanceMethod yX3_init ∈ bigT ∧ Cond.code yX3_init cX3_init 2 (none) ∈ bigT ∧ Cond.methodLink RX3 3 Lib.objectInit ∈ bigT ∧ Cond.classLink RX3 9 "[[I" ∈ bigT ∧ Cond.arrayClass .int ∈ bigT ∧ Cond.classLink RX4 22 RX0 ∈ bigT ∧ Cond.instantiable RX0 3 ∈ bigT ∧ Cond.instanceMethod yX0_init ∈ bigT ∧ Cond.code yX0_init cX0_init 1 (none) ∈ bigT ∧ Cond.methodLink RX0 3 Lib.objectInit ∈ bigT ∧ Cond.classLink RX4 29 RX2 ∈ bigT ∧ Cond.instantiable RX2 7 ∈ bigT ∧ Cond.instanceMethod yX2_init ∈ bigT ∧ Cond.code yX2_init cX2_init 1 (none) ∈ bigT ∧ Cond.methodLink RX2 3 Lib.objectInit ∈ bigT ∧ Cond.classLink RX4 36 RX1 ∈ bigT ∧ Cond.instantiable RX1 3 ∈ bigT ∧ Cond.instanceMethod yX1_init ∈ bigT ∧ Cond.code yX1_init cX1_init 1 (none) ∈ bigT ∧ True := by
  have h := tb_alls tables_1_1 tp_1 [19, 0, 0, 0, 0, 1, 0, 0, 0, 40, 0, 0, 1, 0, 0, 10, 0, 1, 0, 0, 24, 0, 1, 0] [Cond.methodLink RX4 1 Lib.objectInit, Cond.instanceMethod Lib.objectInit, Cond.code Lib.objectInit ⟨#[0xb1]⟩ 1 none, Cond.classLink RX4 7 RX3, Cond.instantiable RX3 8, Cond.instanceMethod yX3_init, Cond.code yX3_init cX3_init 2 (none), Cond.methodLink RX3 3 Lib.objectInit, Cond.classLink RX3 9 "[[I", Cond.arrayClass .int, Cond.classLink RX4 22 RX0, Cond.instantiable RX0 3, Cond.instanceMethod yX0_init, Cond.code yX0_init cX0_init 1 (none), Cond.methodLink RX0 3 Lib.objectInit, Cond.classLink RX4 29 RX2, Cond.instantiable RX2 7, Cond.instanceMethod yX2_init, Cond.code yX2_init cX2_init 1 (none), Cond.methodLink RX2 3 Lib.objectInit, Cond.classLink RX4 36 RX1, Cond.instantiable RX1 3, Cond.instanceMethod yX1_init, Cond.code yX1_init cX1_init 1 (none)] rfl (by decide +kernel)
  exact h
theorem tw_619 : Cond.methodLink RX4 1 Lib.objectInit ∈ bigT := tg_24.1
theorem tw_610 : Cond.instanceMethod Lib.objectInit ∈ bigT := tg_24.2.1
theorem tw_611 : Cond.code Lib.objectInit ⟨#[0xb1]⟩ 1 none ∈ bigT := tg_24.2.2.1
theorem tw_620 : Cond.classLink RX4 7 RX3 ∈ bigT := tg_24.2.2.2.1
theorem tw_621 : Cond.instantiable RX3 8 ∈ bigT := tg_24.2.2.2.2.1
theorem tw_623 : Cond.instanceMethod yX3_init ∈ bigT := tg_24.2.2.2.2.2.1
theorem tw_622 : Cond.code yX3_init cX3_init 2 (none) ∈ bigT := tg_24.2.2.2.2.2.2.1
theorem tw_616 : Cond.methodLink RX3 3 Lib.objectInit ∈ bigT := tg_24.2.2.2.2.2.2.2.1
theorem tw_617 : Cond.classLink RX3 9 "[[I" ∈ bigT := tg_24.2.2.2.2.2.2.2.2.1
theorem tw_612 : Cond.arrayClass .int ∈ bigT := tg_24.2.2.2.2.2.2.2.2.2.1
theorem tw_624 : Cond.classLink RX4 22 RX0 ∈ bigT := tg_24.2.2.2.2.2.2.2.2.2.2.1
theorem tw_625 : Cond.instantiable RX0 3 ∈ bigT := tg_24.2.2.2.2.2.2.2.2.2.2.2.1
theorem tw_627 : Cond.instanceMethod yX0_init ∈ bigT := tg_24.2.2.2.2.2.2.2.2.2.2.2.2.1
theorem tw_626 : Cond.code yX0_init cX0_init 1 (none) ∈ bigT := tg_24.2.2.2.2.2.2.2.2.2.2.2.2.2.1
theorem tw_609 : Cond.methodLink RX0 3 Lib.objectInit ∈ bigT := tg_24.2.2.2.2.2.2.2.2.2.2.2.2.2.2.1
theorem tw_628 : Cond.classLink RX4 29 RX2 ∈ bigT := tg_24.2.2.2.2.2.2.2.2.2.2.2.2.2.2.2.1
theorem tw_629 : Cond.instantiable RX2 7 ∈ bigT := tg_24.2.2.2.2.2.2.2.2.2.2.2.2.2.2.2.2.1
theorem tw_631 : Cond.instanceMethod yX2_init ∈ bigT := tg_24.2.2.2.2.2.2.2.2.2.2.2.2.2.2.2.2.2.1
theorem tw_630 : Cond.code yX2_init cX2_init 1 (none) ∈ bigT := tg_24.2.2.2.2.2.2.2.2.2.2.2.2.2.2.2.2.2.2.1
theorem tw_613 : Cond.methodLink RX2 3 Lib.objectInit ∈ bigT := tg_24.2.2.2.2.2.2.2.2.2.2.2.2.2.2.2.2.2.2.2.1
theorem tw_632 : Cond.classLink RX4 36 RX1 ∈ bigT := tg_24.2.2.2.2.2.2.2.2.2.2.2.2.2.2.2.2.2.2.2.2.1
theorem tw_633 : Cond.instantiable RX1 3 ∈ bigT := tg_24.2.2.2.2.2.2.2.2.2.2.2.2.2.2.2.2.2.2.2.2.2.1
theorem tw_635 : Cond.instanceMethod yX1_init ∈ bigT := tg_24.2.2.2.2.2.2.2.2.2.2.2.2.2.2.2.2.2.2.2.2.2.2.1
theorem tw_634 : Cond.code yX1_init cX1_init 1 (none) ∈ bigT := tg_24.2.2.2.2.2.2.2.2.2.2.2.2.2.2.2.2.2.2.2.2.2.2.2.1
set_option maxRecDepth 100000 in
theorem tg_25 : Cond.methodLink RX1 3 Lib.objectInit ∈ bigT ∧ Cond.classLink RX1 9 "[[I" ∈ bigT ∧ True := by
  have h := tb_alls tables_1_1 tp_1 [121, 0] [Cond.methodLink RX1 3 Lib.objectInit, Cond.classLink RX1 9 "[[I"] rfl (by decide +kernel)
  exact h
theorem tw_614 : Cond.methodLink RX1 3 Lib.objectInit ∈ bigT := tg_25.1
theorem tw_615 : Cond.classLink RX1 9 "[[I" ∈ bigT := tg_25.2.1
set_option maxRecDepth 100000 in
theorem tg_26 : Cond.methodLink RX5 1 Lib.objectInit ∈ bigT ∧ True := by
  have h := tb_alls tables_1_4 tp_4 [10] [Cond.methodLink RX5 1 Lib.objectInit] rfl (by decide +kernel)
  exact h
theorem tw_618 : Cond.methodLink RX5 1 Lib.objectInit ∈ bigT := tg_26.1
theorem dd_X0_init : yX0_init.cls = RX0 ∧ yX0_init.cls ≠ "java/lang/invoke/MethodHandle" ∧ yX0_init.cls ≠ "java/lang/invoke/VarHandle" ∧ (parseMethodDescriptor yX0_init.desc).map (fun d => d.parameters.length) = some 0 := ⟨rfl, dc_X0.1, dc_X0.2, dp_14⟩
theorem dd_X1_init : yX1_init.cls = RX1 ∧ yX1_init.cls ≠ "java/lang/invoke/MethodHandle" ∧ yX1_init.cls ≠ "java/lang/invoke/VarHandle" ∧ (parseMethodDescriptor yX1_init.desc).map (fun d => d.parameters.length) = some 0 := ⟨rfl, dc_X1.1, dc_X1.2, dp_14⟩
theorem dd_X2_init : yX2_init.cls = RX2 ∧ yX2_init.cls ≠ "java/lang/invoke/MethodHandle" ∧ yX2_init.cls ≠ "java/lang/invoke/VarHandle" ∧ (parseMethodDescriptor yX2_init.desc).map (fun d => d.parameters.length) = some 0 := ⟨rfl, dc_X2.1, dc_X2.2, dp_14⟩
theorem dd_X3_init : yX3_init.cls = RX3 ∧ yX3_init.cls ≠ "java/lang/invoke/MethodHandle" ∧ yX3_init.cls ≠ "java/lang/invoke/VarHandle" ∧ (parseMethodDescriptor yX3_init.desc).map (fun d => d.parameters.length) = some 0 := ⟨rfl, dc_X3.1, dc_X3.2, dp_14⟩
theorem dd_X4_init : yX4_init.cls = RX4 ∧ yX4_init.cls ≠ "java/lang/invoke/MethodHandle" ∧ yX4_init.cls ≠ "java/lang/invoke/VarHandle" ∧ (parseMethodDescriptor yX4_init.desc).map (fun d => d.parameters.length) = some 0 := ⟨rfl, dc_X4.1, dc_X4.2, dp_14⟩
theorem dd_X5_init : yX5_init.cls = RX5 ∧ yX5_init.cls ≠ "java/lang/invoke/MethodHandle" ∧ yX5_init.cls ≠ "java/lang/invoke/VarHandle" ∧ (parseMethodDescriptor yX5_init.desc).map (fun d => d.parameters.length) = some 0 := ⟨rfl, dc_X5.1, dc_X5.2, dp_14⟩
def shZl : List jx_Sh := [.inr (.inr (3, [some 1, some 2, some 13, some 14, some 15, none, none, none])), .inr (.inl [3, 4, 5, 6]), .inr (.inl [7, 8, 9, 10, 11, 12]), .inl 25, .inl 25, .inl 25, .inl 25, .inl 10, .inl 10, .inl 10, .inl 10, .inl 10, .inl 10, .inl 4, .inl 4, .inl 10]
def shZ (h : Nat) : jx_Sh := shZl.getD h (.inl 0)
theorem s_Z0 : shZ 0 = .inr (.inr (3, [some 1, some 2, some 13, some 14, some 15, none, none, none])) := rfl
theorem s_Z1 : shZ 1 = .inr (.inl [3, 4, 5, 6]) := rfl
theorem s_Z2 : shZ 2 = .inr (.inl [7, 8, 9, 10, 11, 12]) := rfl
theorem s_Z3 : shZ 3 = .inl 25 := rfl
theorem s_Z4 : shZ 4 = .inl 25 := rfl
theorem s_Z5 : shZ 5 = .inl 25 := rfl
theorem s_Z6 : shZ 6 = .inl 25 := rfl
theorem s_Z7 : shZ 7 = .inl 10 := rfl
theorem s_Z8 : shZ 8 = .inl 10 := rfl
theorem s_Z9 : shZ 9 = .inl 10 := rfl
theorem s_Z10 : shZ 10 = .inl 10 := rfl
theorem s_Z11 : shZ 11 = .inl 10 := rfl
theorem s_Z12 : shZ 12 = .inl 10 := rfl
theorem s_Z13 : shZ 13 = .inl 4 := rfl
theorem s_Z14 : shZ 14 = .inl 4 := rfl
theorem s_Z15 : shZ 15 = .inl 10 := rfl
def shX0l : List jx_Sh := [.inr (.inr (0, [some 1, some 2, some 3])), .inl 5, .inl 5, .inl 5]
def shX0 (h : Nat) : jx_Sh := shX0l.getD h (.inl 0)
def shX2l : List jx_Sh := [.inr (.inr (2, [some 1, none, none, none, none, none, none])), .inl 120]
def shX2 (h : Nat) : jx_Sh := shX2l.getD h (.inl 0)
def shX1l : List jx_Sh := [.inr (.inr (1, [some 1, some 6, some 7])), .inr (.inl [2, 3, 4, 5]), .inl 40, .inl 40, .inl 40, .inl 40, .inl 4, .inl 4]
def shX1 (h : Nat) : jx_Sh := shX1l.getD h (.inl 0)
def rm_X3_init : Room := { frames := 1, cells := 15, slots := 188, locals := 12 }
def rm_X0_init : Room := { frames := 1, cells := 3, slots := 15, locals := 12 }
def rm_X2_init : Room := { frames := 1, cells := 1, slots := 120, locals := 12 }
def rm_X1_init : Room := { frames := 1, cells := 7, slots := 172, locals := 12 }
def rm_X4_init : Room := { frames := 2, cells := 66, slots := 927, locals := 40 }
def rm_X5_init : Room := { frames := 1, cells := 12, slots := 890, locals := 30 }
theorem jn_eq {p : Program} {l : Launch} {e : Env} {R : Room} {s : State} {m : MethodId} {args : Array Value} {below : List Frame} {meth : Method} {c : Code} {Q : State → Prop} {D : va_G} {cl : List vw_C} {A : Nat → Prop} {kc ks nL : Nat} {ws ws2 : va_W} {pc : Nat} {lv : List (Nat × Value)} {st : List Value} (h : ws = ws2) (k : jn_N p l e R s m args below meth c D cl A kc ks nL Q ws2 pc lv st) : jn_N p l e R s m args below meth c D cl A kc ks nL Q ws pc lv st := h ▸ k
theorem jn_P {D : va_G} {cl : List vw_C} {N : Nat} {cI cJ : ClassId} {ad : Nat → Nat} {sh : Nat → jx_Sh} {v : jx_V} {H : Heap} (h : ∀ h, h < N → va_at D cl (ad h, jx_ct cI cJ ad v h (sh h)) H) : va_P D cl (jx_ws N cI cJ ad sh v) H := fun k q hq => by
  obtain ⟨hk, rfl⟩ := jx_ws_get hq
  exact h k hk
theorem jn_inj {ws : va_W} {A : Nat → Prop} {N : Nat} {a : Nat → Nat} (pi : Nat → Nat) (hpi : ∀ i, i < N → ∀ j, j < N → pi i = pi j → i = j) (hw : ∀ i, i < N → ∃ e, ws[pi i]? = some (a i, e)) (hD : va_D A ws) : jx_inj N a A := by
  refine ⟨fun i j hi hj h => ?_, fun i hi => ?_⟩
  · obtain ⟨e1, h1⟩ := hw i hi
    obtain ⟨e2, h2⟩ := hw j hj
    exact hpi i hi j hj (hD.1 _ _ _ _ h1 h2 h)
  · obtain ⟨e1, h1⟩ := hw i hi
    exact hD.2 _ _ h1
theorem jx_arrV {c : ClassId} {n : Nat} {f g : Nat → Value} (h : ∀ j, j < n → f j = g j) : arrV c n f = arrV c n g := by
  unfold arrV
  congr 1
  apply Array.ext
  · simp
  · intro i h1 h2
    simp at h1 h2 ⊢
    exact h i h1
def jx_len (x : jx_Sh) : Nat := match x with | .inl n => n | .inr (.inl _) => 0 | .inr (.inr (_, fs)) => fs.length
/-- the world says nothing of places that aren't there -/
theorem jx_cong {D : va_G} {cl : List vw_C} {N : Nat} {cI cJ : ClassId} {ad : Nat → Nat} {sh : Nat → jx_Sh} {v w : jx_V} {H : Heap} (h : ∀ h, h < N → ∀ k, k < jx_len (sh h) → v h k = w h k) (hP : va_P D cl (jx_ws N cI cJ ad sh v) H) : va_P D cl (jx_ws N cI cJ ad sh w) H := by
  refine jn_P (fun i hi => ?_)
  have h1 := hP i _ (jx_at hi rfl)
  have h2 := h i hi
  revert h1 h2
  generalize sh i = x
  intro h1 h2
  rcases x with n | hs | ⟨ci, fs⟩
  · have h1 : H[ad i]? = some (vp_cell cI (n, .inl (v i))) := h1
    show H[ad i]? = some (vp_cell cI (n, .inl (w i)))
    rw [h1]
    congr 1
    show arrV cI n (fun j => .int (v i j)) = arrV cI n (fun j => .int (w i j))
    exact jx_arrV (fun j hj => by rw [h2 j hj])
  · exact h1
  · have e : jx_fv ad v i fs = jx_fv ad w i fs := by
      apply List.ext_getElem?
      intro k
      rw [jx_fv_get, jx_fv_get]
      cases hk : fs[k]? with
      | none => rfl
      | some o =>
        cases o with
        | some _ => rfl
        | none =>
          have := h2 k ((List.getElem?_eq_some_iff.mp hk).1)
          simp [this]
    show va_at D cl (ad i, .inr (ci, jx_fv ad w i fs)) H
    rw [← e]
    exact h1
theorem jn_rows4 {r a : Nat → Nat} {h0 h1 h2 h3 : Nat} (e0 : a h0 = r 0) (e1 : a h1 = r 1) (e2 : a h2 = r 2) (e3 : a h3 = r 3) : (fun i => if i < 4 then some (r i) else none) = (fun i => ([h0, h1, h2, h3][i]?).map a) := by
  funext i
  match i with
  | 0 => simp [e0]
  | 1 => simp [e1]
  | 2 => simp [e2]
  | 3 => simp [e3]
  | k + 4 => simp
theorem jn_rows6 {r a : Nat → Nat} {h0 h1 h2 h3 h4 h5 : Nat} (e0 : a h0 = r 0) (e1 : a h1 = r 1) (e2 : a h2 = r 2) (e3 : a h3 = r 3) (e4 : a h4 = r 4) (e5 : a h5 = r 5) : (fun i => if i < 6 then some (r i) else none) = (fun i => ([h0, h1, h2, h3, h4, h5][i]?).map a) := by
  funext i
  match i with
  | 0 => simp [e0]
  | 1 => simp [e1]
  | 2 => simp [e2]
  | 3 => simp [e3]
  | 4 => simp [e4]
  | 5 => simp [e5]
  | k + 6 => simp
theorem ex_cm0 {U : State} (h : ex_C U) : va_Nw (.methodLinkNest RX4 9 yX3_init "WindowViews") U := h.1 ("WindowViews", 9, yX3_init, "WindowViews") (List.mem_of_getElem? (i := 0) rfl)
theorem ex_cm1 {U : State} (h : ex_C U) : va_Nw (.methodLinkNest RX4 24 yX0_init "WindowViews") U := h.1 ("WindowViews", 24, yX0_init, "WindowViews") (List.mem_of_getElem? (i := 1) rfl)
theorem ex_cm2 {U : State} (h : ex_C U) : va_Nw (.methodLinkNest RX4 31 yX2_init "WindowViews") U := h.1 ("WindowViews", 31, yX2_init, "WindowViews") (List.mem_of_getElem? (i := 2) rfl)
theorem ex_cm3 {U : State} (h : ex_C U) : va_Nw (.methodLinkNest RX4 38 yX1_init "WindowViews") U := h.1 ("WindowViews", 38, yX1_init, "WindowViews") (List.mem_of_getElem? (i := 3) rfl)
def f_X3_init_L : Nat → Nat → Int32 → jx_V → Option jx_V
  | 0, _, _, _ => none
  | n + 1, tag, x1, v => (if tag = 0 then (if 25 ≤ x1 then (f_X3_init_L n 1 0 v) else (if (x1 < 0 ∨ 25 ≤ Int32.toNatClampNeg x1) then none else (f_X3_init_L n 0 (x1 + 1) (jx_up v 3 (Int32.toNatClampNeg x1) (-1))))) else (if tag = 1 then (if 4 ≤ x1 then (f_X3_init_L n 2 0 v) else (if (x1 < 0 ∨ 4 ≤ Int32.toNatClampNeg x1) then none else (f_X3_init_L n 1 (x1 + 1) (jx_up v 13 (Int32.toNatClampNeg x1) (x1 + 1))))) else (if tag = 2 then (if 10 ≤ x1 then (some v) else (if (x1 < 0 ∨ 10 ≤ Int32.toNatClampNeg x1) then none else (f_X3_init_L n 2 (x1 + 1) (jx_up v 15 (Int32.toNatClampNeg x1) (-1))))) else none)))
def f_X3_init (v : jx_V) : Option jx_V := (f_X3_init_L 1000 0 0 v)
set_option maxHeartbeats 4000000 in
set_option maxRecDepth 100000 in
theorem j_X3_init {p : Program} {l : Launch} {e : Env} {s : State} {m : MethodId} {args : Array Value} {below : List Frame} {meth : Method} {c : Code} {Q : State → Prop} {D : va_G} {cI cJ : ClassId} {ad : Nat → Nat} {A : Nat → Prop} {Ex : State → Prop} (E : jx_E p s m args meth c cX3_init 2 RX3 (Cond.code yX3_init cX3_init 2 none :: bigT) none D vwCl 16 cI cJ ad A Ex) (hI : jx_inj 16 ad A) (v v' : jx_V) (hF : f_X3_init v = some v') (kend : jx_J p l e rm_X3_init s m args below meth c D vwCl 16 cI cJ ad shZ A (0 + 1 + 4 + 1 + 6 + 1 + 1 + 1) (0 + 4 + 4 * 25 + 6 + 6 * 10 + 4 + 4 + 10) 2 Q v' 130 [(0, .ref (ad 0))] []) : jx_J p l e rm_X3_init s m args below meth c D vwCl 16 cI cJ ad shZ A (0 + 1 + 4 + 1 + 6 + 1 + 1 + 1) (0 + 4 + 4 * 25 + 6 + 6 * 10 + 4 + 4 + 10) 2 Q v 64 [(0, .ref (ad 0))] [] := by
  unfold f_X3_init at hF
  have iX3 : ∀ w ∈ u_ws RX3 TX3 8, w ∈ (Cond.code yX3_init cX3_init 2 none :: bigT) := fun w h => List.mem_cons_of_mem _ (uw_X3 w h)
  have key : ∀ n : Nat, (∀ (x1 : Int32) (v : jx_V), f_X3_init_L n 0 x1 v = some v' → jx_J p l e rm_X3_init s m args below meth c D vwCl 16 cI cJ ad shZ A (0 + 1 + 4 + 1 + 6 + 1 + 1 + 1) (0 + 4 + 4 * 25 + 6 + 6 * 10 + 4 + 4 + 10) 2 Q v 66 [(0, .ref (ad 0)), (1, .int x1)] []) ∧ (∀ (x1 : Int32) (v : jx_V), f_X3_init_L n 1 x1 v = some v' → jx_J p l e rm_X3_init s m args below meth c D vwCl 16 cI cJ ad shZ A (0 + 1 + 4 + 1 + 6 + 1 + 1 + 1) (0 + 4 + 4 * 25 + 6 + 6 * 10 + 4 + 4 + 10) 2 Q v 89 [(0, .ref (ad 0)), (1, .int x1)] []) ∧ (∀ (x1 : Int32) (v : jx_V), f_X3_init_L n 2 x1 v = some v' → jx_J p l e rm_X3_init s m args below meth c D vwCl 16 cI cJ ad shZ A (0 + 1 + 4 + 1 + 6 + 1 + 1 + 1) (0 + 4 + 4 * 25 + 6 + 6 * 10 + 4 + 4 + 10) 2 Q v 111 [(0, .ref (ad 0)), (1, .int x1)] []) := by
    intro n
    induction n with
    | zero =>
      exact ⟨(fun _ _ h => by cases h), (fun _ _ h => by cases h), (fun _ _ h => by cases h)⟩
    | succ n ih =>
      refine ⟨?_, ?_, ?_⟩
      · intro x1 v hF
        rw [f_X3_init_L] at hF
        rw [if_pos rfl] at hF
        refine jx_iload_n E dX3_init_66 1 rfl ?_
        refine jx_bipush (x := 25) E dX3_init_67 (by decide) ?_
        refine jx_icmp_ge (tgt := 87) E dX3_init_69 (by decide) (fun hc1 => ?_) (fun hc1 => ?_)
        · rw [if_pos hc1] at hF
          refine jx_iconst (x := 0) E dX3_init_87 (by decide) ?_
          refine jx_istore_n (lv' := [(1, .int 0), (0, .ref (ad 0))]) E dX3_init_88 (by decide) rfl ?_
          refine jx_sub [1, 0] rfl ?_
          exact ih.2.1 0 v hF
        · rw [if_neg hc1] at hF
          refine jx_aload_n E dX3_init_72 0 rfl ?_
          refine jx_getr (C := RX3) (T := TX3) (M := 8) (k := 0) E dX3_init_73 (Nat.le_of_ble_eq_true rfl) s_Z0 rfl iX3 (by decide) rfl (List.mem_cons_of_mem _ tw_27) rfl ?_
          refine jx_iconst (x := 0) E dX3_init_76 (by decide) ?_
          refine jx_aald (h' := 3) E dX3_init_77 (Nat.le_of_ble_eq_true rfl) s_Z1 (show ¬ ((0 : Int32) < 0 ∨ 4 ≤ Int32.toNatClampNeg 0) by decide) rfl ?_
          refine jx_iload_n E dX3_init_78 1 rfl ?_
          refine jx_iconst (x := -1) E dX3_init_79 (by decide) ?_
          obtain ⟨hg2, hF⟩ := jx_guard hF
          refine jx_iast (h := 3) (j := (Int32.toNatClampNeg x1)) E dX3_init_80 (Nat.le_of_ble_eq_true rfl) s_Z3 hg2 rfl ?_
          refine jx_iinc (y := (x1 + 1)) (lv' := [(1, .int (x1 + 1)), (0, .ref (ad 0))]) E dX3_init_81 1 rfl rfl (by decide) rfl ?_
          refine jx_goto (tgt := 66) E dX3_init_84 (by decide) ?_
          refine jx_sub [1, 0] rfl ?_
          exact ih.1 (x1 + 1) (jx_up v 3 (Int32.toNatClampNeg x1) (-1)) hF
      · intro x1 v hF
        rw [f_X3_init_L] at hF
        rw [if_neg (by decide), if_pos rfl] at hF
        refine jx_iload_n E dX3_init_89 1 rfl ?_
        refine jx_iconst (x := 4) E dX3_init_90 (by decide) ?_
        refine jx_icmp_ge (tgt := 109) E dX3_init_91 (by decide) (fun hc3 => ?_) (fun hc3 => ?_)
        · rw [if_pos hc3] at hF
          refine jx_iconst (x := 0) E dX3_init_109 (by decide) ?_
          refine jx_istore_n (lv' := [(1, .int 0), (0, .ref (ad 0))]) E dX3_init_110 (by decide) rfl ?_
          refine jx_sub [1, 0] rfl ?_
          exact ih.2.2 0 v hF
        · rw [if_neg hc3] at hF
          refine jx_aload_n E dX3_init_94 0 rfl ?_
          refine jx_getr (C := RX3) (T := TX3) (M := 8) (k := 2) E dX3_init_95 (Nat.le_of_ble_eq_true rfl) s_Z0 rfl iX3 (by decide) rfl (List.mem_cons_of_mem _ tw_73) rfl ?_
          refine jx_iload_n E dX3_init_98 1 rfl ?_
          refine jx_iload_n E dX3_init_99 1 rfl ?_
          refine jx_iconst (x := 1) E dX3_init_100 (by decide) ?_
          refine jx_iadd E dX3_init_101 ?_
          obtain ⟨hg4, hF⟩ := jx_guard hF
          refine jx_iast (h := 13) (j := (Int32.toNatClampNeg x1)) E dX3_init_102 (Nat.le_of_ble_eq_true rfl) s_Z13 hg4 rfl ?_
          refine jx_iinc (y := (x1 + 1)) (lv' := [(1, .int (x1 + 1)), (0, .ref (ad 0))]) E dX3_init_103 1 rfl rfl (by decide) rfl ?_
          refine jx_goto (tgt := 89) E dX3_init_106 (by decide) ?_
          refine jx_sub [1, 0] rfl ?_
          exact ih.2.1 (x1 + 1) (jx_up v 13 (Int32.toNatClampNeg x1) (x1 + 1)) hF
      · intro x1 v hF
        rw [f_X3_init_L] at hF
        rw [if_neg (by decide), if_neg (by decide), if_pos rfl] at hF
        refine jx_iload_n E dX3_init_111 1 rfl ?_
        refine jx_bipush (x := 10) E dX3_init_112 (by decide) ?_
        refine jx_icmp_ge (tgt := 130) E dX3_init_114 (by decide) (fun hc5 => ?_) (fun hc5 => ?_)
        · rw [if_pos hc5] at hF
          obtain rfl := Option.some.inj hF
          exact jx_sub [0] rfl kend
        · rw [if_neg hc5] at hF
          refine jx_aload_n E dX3_init_117 0 rfl ?_
          refine jx_getr (C := RX3) (T := TX3) (M := 8) (k := 4) E dX3_init_118 (Nat.le_of_ble_eq_true rfl) s_Z0 rfl iX3 (by decide) rfl (List.mem_cons_of_mem _ tw_177) rfl ?_
          refine jx_iload_n E dX3_init_121 1 rfl ?_
          refine jx_iconst (x := -1) E dX3_init_122 (by decide) ?_
          obtain ⟨hg6, hF⟩ := jx_guard hF
          refine jx_iast (h := 15) (j := (Int32.toNatClampNeg x1)) E dX3_init_123 (Nat.le_of_ble_eq_true rfl) s_Z15 hg6 rfl ?_
          refine jx_iinc (y := (x1 + 1)) (lv' := [(1, .int (x1 + 1)), (0, .ref (ad 0))]) E dX3_init_124 1 rfl rfl (by decide) rfl ?_
          refine jx_goto (tgt := 111) E dX3_init_127 (by decide) ?_
          refine jx_sub [1, 0] rfl ?_
          exact ih.2.2 (x1 + 1) (jx_up v 15 (Int32.toNatClampNeg x1) (-1)) hF
  refine jx_iconst (x := 0) E dX3_init_64 (by decide) ?_
  refine jx_istore_n (lv' := [(1, .int 0), (0, .ref (ad 0))]) E dX3_init_65 (by decide) rfl ?_
  refine jx_sub [1, 0] rfl ?_
  exact (key 1000).1 0 v hF
def f_X5_init_L : Nat → Nat → Int32 → jx_V → Option jx_V
  | 0, _, _, _ => none
  | n + 1, tag, x1, v => (if tag = 0 then (if 4 ≤ x1 then (f_X5_init_L n 1 0 v) else (if ((3 + x1) < 0 ∨ 181 ≤ Int32.toNatClampNeg (3 + x1)) then none else (f_X5_init_L n 0 (x1 + 1) (jx_up v 1 (Int32.toNatClampNeg (3 + x1)) (x1 + 1))))) else (if tag = 1 then (if 25 ≤ x1 then (f_X5_init_L n 2 0 v) else ((f_X5_at x1 0 v).bind (fun (r4, v4) => (if (r4 < 0 ∨ 181 ≤ Int32.toNatClampNeg r4) then none else (f_X5_init_L n 1 (x1 + 1) (jx_up v4 1 (Int32.toNatClampNeg r4) (-1))))))) else (if tag = 2 then (if 10 ≤ x1 then (some v) else (if ((171 + x1) < 0 ∨ 181 ≤ Int32.toNatClampNeg (171 + x1)) then none else (f_X5_init_L n 2 (x1 + 1) (jx_up v 1 (Int32.toNatClampNeg (171 + x1)) (-1))))) else none)))
def f_X5_init (v : jx_V) : Option jx_V := (f_X5_init_L 1000 0 0 (jx_up v 1 2 1))
set_option maxHeartbeats 4000000 in
set_option maxRecDepth 100000 in
theorem j_X5_init {p : Program} {l : Launch} {e : Env} {s : State} {m : MethodId} {args : Array Value} {below : List Frame} {meth : Method} {c : Code} {Q : State → Prop} {D : va_G} {cI cJ : ClassId} {ad : Nat → Nat} {A : Nat → Prop} (E : jx_E p s m args meth c cX5_init 2 RX5 (Cond.code yX5_init cX5_init 2 none :: bigT) none D vwCl 13 cI cJ ad A ex_M) (hI : jx_inj 13 ad A) (v v' : jx_V) (hF : f_X5_init v = some v') (kend : jx_J p l e rm_X5_init s m args below meth c D vwCl 13 cI cJ ad shM A (0 + 1 + 1 + 1 + 1 + 1 + 1 + 1 + 1 + 1 + 1 + 1 + 1) (0 + 181 + 181 + 181 + 7 + 4 + 4 + 4 + 120 + 4 + 4 + 160 + 40) 2 Q v' 180 [(0, .ref (ad 0))] []) : jx_J p l e rm_X5_init s m args below meth c D vwCl 13 cI cJ ad shM A (0 + 1 + 1 + 1 + 1 + 1 + 1 + 1 + 1 + 1 + 1 + 1 + 1) (0 + 181 + 181 + 181 + 7 + 4 + 4 + 4 + 120 + 4 + 4 + 160 + 40) 2 Q v 99 [(0, .ref (ad 0))] [] := by
  unfold f_X5_init at hF
  have iX5 : ∀ w ∈ u_ws RX5 TX5 21, w ∈ (Cond.code yX5_init cX5_init 2 none :: bigT) := fun w h => List.mem_cons_of_mem _ (uw_X5 w h)
  have key : ∀ n : Nat, (∀ (x1 : Int32) (v : jx_V), f_X5_init_L n 0 x1 v = some v' → jx_J p l e rm_X5_init s m args below meth c D vwCl 13 cI cJ ad shM A (0 + 1 + 1 + 1 + 1 + 1 + 1 + 1 + 1 + 1 + 1 + 1 + 1) (0 + 181 + 181 + 181 + 7 + 4 + 4 + 4 + 120 + 4 + 4 + 160 + 40) 2 Q v 108 [(0, .ref (ad 0)), (1, .int x1)] []) ∧ (∀ (x1 : Int32) (v : jx_V), f_X5_init_L n 1 x1 v = some v' → jx_J p l e rm_X5_init s m args below meth c D vwCl 13 cI cJ ad shM A (0 + 1 + 1 + 1 + 1 + 1 + 1 + 1 + 1 + 1 + 1 + 1 + 1) (0 + 181 + 181 + 181 + 7 + 4 + 4 + 4 + 120 + 4 + 4 + 160 + 40) 2 Q v 132 [(0, .ref (ad 0)), (1, .int x1)] []) ∧ (∀ (x1 : Int32) (v : jx_V), f_X5_init_L n 2 x1 v = some v' → jx_J p l e rm_X5_init s m args below meth c D vwCl 13 cI cJ ad shM A (0 + 1 + 1 + 1 + 1 + 1 + 1 + 1 + 1 + 1 + 1 + 1 + 1) (0 + 181 + 181 + 181 + 7 + 4 + 4 + 4 + 120 + 4 + 4 + 160 + 40) 2 Q v 157 [(0, .ref (ad 0)), (1, .int x1)] []) := by
    intro n
    induction n with
    | zero =>
      exact ⟨(fun _ _ h => by cases h), (fun _ _ h => by cases h), (fun _ _ h => by cases h)⟩
    | succ n ih =>
      refine ⟨?_, ?_, ?_⟩
      · intro x1 v hF
        rw [f_X5_init_L] at hF
        rw [if_pos rfl] at hF
        refine jx_iload_n E dX5_init_108 1 rfl ?_
        refine jx_iconst (x := 4) E dX5_init_109 (by decide) ?_
        refine jx_icmp_ge (tgt := 130) E dX5_init_110 (by decide) (fun hc1 => ?_) (fun hc1 => ?_)
        · rw [if_pos hc1] at hF
          refine jx_iconst (x := 0) E dX5_init_130 (by decide) ?_
          refine jx_istore_n (lv' := [(1, .int 0), (0, .ref (ad 0))]) E dX5_init_131 (by decide) rfl ?_
          refine jx_sub [1, 0] rfl ?_
          exact ih.2.1 0 v hF
        · rw [if_neg hc1] at hF
          refine jx_aload_n E dX5_init_113 0 rfl ?_
          refine jx_getr (C := RX5) (T := TX5) (M := 21) (k := 0) E dX5_init_114 (Nat.le_of_ble_eq_true rfl) s_M0 rfl iX5 (by decide) rfl (List.mem_cons_of_mem _ tw_328) rfl ?_
          refine jx_iconst (x := 3) E dX5_init_117 (by decide) ?_
          refine jx_iload_n E dX5_init_118 1 rfl ?_
          refine jx_iadd E dX5_init_119 ?_
          refine jx_iload_n E dX5_init_120 1 rfl ?_
          refine jx_iconst (x := 1) E dX5_init_121 (by decide) ?_
          refine jx_iadd E dX5_init_122 ?_
          obtain ⟨hg2, hF⟩ := jx_guard hF
          refine jx_iast (h := 1) (j := (Int32.toNatClampNeg (3 + x1))) E dX5_init_123 (Nat.le_of_ble_eq_true rfl) s_M1 hg2 rfl ?_
          refine jx_iinc (y := (x1 + 1)) (lv' := [(1, .int (x1 + 1)), (0, .ref (ad 0))]) E dX5_init_124 1 rfl rfl (by decide) rfl ?_
          refine jx_goto (tgt := 108) E dX5_init_127 (by decide) ?_
          refine jx_sub [1, 0] rfl ?_
          exact ih.1 (x1 + 1) (jx_up v 1 (Int32.toNatClampNeg (3 + x1)) (x1 + 1)) hF
      · intro x1 v hF
        rw [f_X5_init_L] at hF
        rw [if_neg (by decide), if_pos rfl] at hF
        refine jx_iload_n E dX5_init_132 1 rfl ?_
        refine jx_bipush (x := 25) E dX5_init_133 (by decide) ?_
        refine jx_icmp_ge (tgt := 155) E dX5_init_135 (by decide) (fun hc3 => ?_) (fun hc3 => ?_)
        · rw [if_pos hc3] at hF
          refine jx_iconst (x := 0) E dX5_init_155 (by decide) ?_
          refine jx_istore_n (lv' := [(1, .int 0), (0, .ref (ad 0))]) E dX5_init_156 (by decide) rfl ?_
          refine jx_sub [1, 0] rfl ?_
          exact ih.2.2 0 v hF
        · rw [if_neg hc3] at hF
          refine jx_aload_n E dX5_init_138 0 rfl ?_
          refine jx_getr (C := RX5) (T := TX5) (M := 21) (k := 0) E dX5_init_139 (Nat.le_of_ble_eq_true rfl) s_M0 rfl iX5 (by decide) rfl (List.mem_cons_of_mem _ tw_328) rfl ?_
          refine jx_iload_n E dX5_init_142 1 rfl ?_
          refine jx_iconst (x := 0) E dX5_init_143 (by decide) ?_
          obtain ⟨⟨r4, v4⟩, hc4, hF⟩ := jx_bind hF
          try dsimp only at hF
          refine jx_callSi (As := [.int x1, .int 0]) (st := [.ref (ad 1)]) E dX5_init_144 2 rfl (k_X5_at hI x1 0 v r4 v4 hc4) (gb_S (List.mem_cons_of_mem _ tw_332) (List.mem_cons_of_mem _ tw_333) (List.mem_cons_of_mem _ tw_325) tw_331) rfl rfl rfl dd_X5_at rfl ⟨by decide, by decide⟩ ⟨by decide, by decide⟩ (Nat.le_of_ble_eq_true rfl) ?_
          refine jx_iconst (x := -1) E dX5_init_147 (by decide) ?_
          obtain ⟨hg5, hF⟩ := jx_guard hF
          refine jx_iast (h := 1) (j := (Int32.toNatClampNeg r4)) E dX5_init_148 (Nat.le_of_ble_eq_true rfl) s_M1 hg5 rfl ?_
          refine jx_iinc (y := (x1 + 1)) (lv' := [(1, .int (x1 + 1)), (0, .ref (ad 0))]) E dX5_init_149 1 rfl rfl (by decide) rfl ?_
          refine jx_goto (tgt := 132) E dX5_init_152 (by decide) ?_
          refine jx_sub [1, 0] rfl ?_
          exact ih.2.1 (x1 + 1) (jx_up v4 1 (Int32.toNatClampNeg r4) (-1)) hF
      · intro x1 v hF
        rw [f_X5_init_L] at hF
        rw [if_neg (by decide), if_neg (by decide), if_pos rfl] at hF
        refine jx_iload_n E dX5_init_157 1 rfl ?_
        refine jx_bipush (x := 10) E dX5_init_158 (by decide) ?_
        refine jx_icmp_ge (tgt := 180) E dX5_init_160 (by decide) (fun hc6 => ?_) (fun hc6 => ?_)
        · rw [if_pos hc6] at hF
          obtain rfl := Option.some.inj hF
          exact jx_sub [0] rfl kend
        · rw [if_neg hc6] at hF
          refine jx_aload_n E dX5_init_163 0 rfl ?_
          refine jx_getr (C := RX5) (T := TX5) (M := 21) (k := 0) E dX5_init_164 (Nat.le_of_ble_eq_true rfl) s_M0 rfl iX5 (by decide) rfl (List.mem_cons_of_mem _ tw_328) rfl ?_
          refine jx_sipush (x := 171) E dX5_init_167 (by decide) ?_
          refine jx_iload_n E dX5_init_170 1 rfl ?_
          refine jx_iadd E dX5_init_171 ?_
          refine jx_iconst (x := -1) E dX5_init_172 (by decide) ?_
          obtain ⟨hg7, hF⟩ := jx_guard hF
          refine jx_iast (h := 1) (j := (Int32.toNatClampNeg (171 + x1))) E dX5_init_173 (Nat.le_of_ble_eq_true rfl) s_M1 hg7 rfl ?_
          refine jx_iinc (y := (x1 + 1)) (lv' := [(1, .int (x1 + 1)), (0, .ref (ad 0))]) E dX5_init_174 1 rfl rfl (by decide) rfl ?_
          refine jx_goto (tgt := 157) E dX5_init_177 (by decide) ?_
          refine jx_sub [1, 0] rfl ?_
          exact ih.2.2 (x1 + 1) (jx_up v 1 (Int32.toNatClampNeg (171 + x1)) (-1)) hF
  refine jx_aload_n E dX5_init_99 0 rfl ?_
  refine jx_getr (C := RX5) (T := TX5) (M := 21) (k := 0) E dX5_init_100 (Nat.le_of_ble_eq_true rfl) s_M0 rfl iX5 (by decide) rfl (List.mem_cons_of_mem _ tw_328) rfl ?_
  refine jx_iconst (x := 2) E dX5_init_103 (by decide) ?_
  refine jx_iconst (x := 1) E dX5_init_104 (by decide) ?_
  refine jx_iast (h := 1) (j := 2) E dX5_init_105 (Nat.le_of_ble_eq_true rfl) s_M1 (by decide) (by decide) ?_
  refine jx_iconst (x := 0) E dX5_init_106 (by decide) ?_
  refine jx_istore_n (lv' := [(1, .int 0), (0, .ref (ad 0))]) E dX5_init_107 (by decide) rfl ?_
  refine jx_sub [1, 0] rfl ?_
  exact (key 1000).1 0 (jx_up v 1 2 1) hF
def v0_X3 : jx_V := fun h k => if h = 0 ∧ k = 7 then 1 else if h = 3 then -1 else if h = 13 then Int32.ofNat (k + 1) else if h = 15 then -1 else 0
def v0_X0 : jx_V := fun _ _ => 0
def v0_X1 : jx_V := fun _ _ => 0
def v0_X2 : jx_V := fun h k => if h = 0 ∧ k = 6 then -1 else 0
def v0_X4 : jx_V := fun h => if h < 1 then (fun _ => 0) else if h < 17 then v0_X3 (h - 1) else if h < 33 then v0_X3 (h - 17) else if h < 49 then v0_X3 (h - 33) else if h < 53 then v0_X0 (h - 49) else if h < 55 then v0_X2 (h - 53) else if h < 63 then v0_X1 (h - 55) else fun _ => 0
def v0_X5 : jx_V := fun h k => if h = 1 then (if k = 2 then 1 else if 3 ≤ k ∧ k < 7 then Int32.ofNat (k - 2) else if 11 ≤ k ∧ k < 111 ∧ (k - 11) % 4 = 0 then -1 else if 171 ≤ k then -1 else 0) else 0
def vs_X3 : jx_V := fun h k => if h = 0 ∧ k = 7 then 1 else 0
def vs_X5 : jx_V := fun _ _ => 0
theorem jn_outer {hs hs' : List Nat} {a b : Nat → Nat} (h : hs.map a = hs'.map b) : (fun i : Nat => (hs[i]?).map a) = (fun i : Nat => (hs'[i]?).map b) := by
  funext i
  rw [← List.getElem?_map, ← List.getElem?_map, h]
theorem jn_run {f : Option jx_V} {N : Nat} {sh : Nat → jx_Sh} {w : jx_V} (h : (match f with | some v => decide (∀ h, h < N → ∀ k, k < jx_len (sh h) → v h k = w h k) | none => false) = true) : ∃ v, f = some v ∧ ∀ h, h < N → ∀ k, k < jx_len (sh h) → v h k = w h k := by
  cases f with
  | none => cases h
  | some v => exact ⟨v, rfl, of_decide_eq_true h⟩
theorem jn_vret {p : Program} {l : Launch} {e : Env} {R : Room} {s : State} {m : MethodId} {args : Array Value} {below : List Frame} {meth : Method} {c : Code} {D : va_G} {cl : List vw_C} {cI cJ : ClassId} {A : Nat → Prop} {kc ks nL : Nat} {cc : ByteArray} {own : String} {Ts : List Cond} {ws : va_W} {pc q n : Nat} {lv : List (Nat × Value)} {sh : Nat → jx_Sh} {v0 : jx_V} (E : jn_E p s m args meth c cc nL own Ts D cl cI cJ A) (a : Nat → Nat) (ha : a 0 = q) (hd : decode cc pc = .ok (.return_, 1)) (hI : va_D A ws → jx_inj n a A) (h : ∀ H, va_P D cl ws H → va_P D cl (jx_ws n cI cJ a sh v0) H) : jn_N p l e R s m args below meth c D cl A kc ks nL (MQ below (va_Qv (fun (_ : Unit) => True) (fun _ t => ∃ a : Nat → Nat, a 0 = q ∧ va_P D cl (jx_ws n cI cJ a sh v0) t.heap ∧ va_D A (jx_ws n cI cJ a sh v0)) A) args s kc ks A) ws pc lv [] :=
  fun H locs ls hP hD hS hl => W.vret E.1 E.2.1 E.2.2.2.2.2.1 (fun t ht hW => ⟨⟨(), rfl, trivial, ⟨a, ha, by rw [ht]; exact h H hP, jx_D (hI hD)⟩⟩, hS.F ht⟩) hS.2.2 hd E.2.2.2.2.2.2.1
theorem run_X3 : ∃ v, f_X3_init vs_X3 = some v ∧ ∀ h, h < 16 → ∀ k, k < jx_len (shZ h) → v h k = v0_X3 h k := jn_run (by decide +kernel)
theorem run_X5 : ∃ v, f_X5_init vs_X5 = some v ∧ ∀ h, h < 13 → ∀ k, k < jx_len (shM h) → v h k = v0_X5 h k := jn_run (by decide +kernel)
set_option maxHeartbeats 4000000 in
set_option maxRecDepth 100000 in
theorem k_X0_init {l : Launch} {D : va_G} {cI cJ : ClassId} : jn_C l D vwCl cI cJ yX0_init (Cond.code yX0_init cX0_init 1 none :: bigT) rm_X0_init 0 [.null, .null, .null] 4 shX0 v0_X0 3 15 := by
  refine jn_enter bigT RX0 cX0_init 1 (by decide +kernel) rfl (by decide) rfl rfl ?_
  intro p e s m args below meth c q A E
  have iX0 : ∀ w ∈ u_ws RX0 TX0 3, w ∈ (Cond.code yX0_init cX0_init 1 none :: bigT) := fun w h => List.mem_cons_of_mem _ (uw_X0 w h)
  refine jn_aload_n E dX0_init_0 0 rfl ?_
  refine jn_objInit E dX0_init_1 (List.mem_cons_of_mem _ tw_609) (List.mem_cons_of_mem _ tw_610) (List.mem_cons_of_mem _ tw_611) (by decide) (by decide) ?_
  refine jn_aload_n E dX0_init_4 0 rfl ?_
  refine jn_iconst (x := 5) E dX0_init_5 (by decide) ?_
  refine jn_newa (N' := 5) E dX0_init_6 (List.mem_cons_of_mem _ tw_612) (by decide) (by decide) (by decide) (by decide) (by decide) (fun a1 => ?_)
  refine jn_eq (ws2 := (q, .inr (0, [.null, .null, .null])) :: [(a1, .inl (cI, 5, .inl (fun _ => 0)))]) rfl ?_
  refine jn_putF (k := 0) (ci := 0) (T := TX0) (M := 3) (ty := .array .int) E tyX0 dX0_init_8 iX0 tyX0_ok nmX0 rfl (by decide) rfl (List.mem_cons_of_mem _ tw_38) rfl (by decide +kernel) rfl rfl (Nat.le_of_ble_eq_true rfl) ?_
  refine jn_eq (ws2 := (q, .inr (0, [.ref a1, .null, .null])) :: [(a1, .inl (cI, 5, .inl (fun _ => 0)))]) rfl ?_
  refine jn_aload_n E dX0_init_11 0 rfl ?_
  refine jn_iconst (x := 5) E dX0_init_12 (by decide) ?_
  refine jn_newa (N' := 5) E dX0_init_13 (List.mem_cons_of_mem _ tw_612) (by decide) (by decide) (by decide) (by decide) (by decide) (fun a2 => ?_)
  refine jn_eq (ws2 := (q, .inr (0, [.ref a1, .null, .null])) :: [(a1, .inl (cI, 5, .inl (fun _ => 0))), (a2, .inl (cI, 5, .inl (fun _ => 0)))]) rfl ?_
  refine jn_putF (k := 1) (ci := 0) (T := TX0) (M := 3) (ty := .array .int) E tyX0 dX0_init_15 iX0 tyX0_ok nmX0 rfl (by decide) rfl (List.mem_cons_of_mem _ tw_39) rfl (by decide +kernel) rfl rfl (Nat.le_of_ble_eq_true rfl) ?_
  refine jn_eq (ws2 := (q, .inr (0, [.ref a1, .ref a2, .null])) :: [(a1, .inl (cI, 5, .inl (fun _ => 0))), (a2, .inl (cI, 5, .inl (fun _ => 0)))]) rfl ?_
  refine jn_aload_n E dX0_init_18 0 rfl ?_
  refine jn_iconst (x := 5) E dX0_init_19 (by decide) ?_
  refine jn_newa (N' := 5) E dX0_init_20 (List.mem_cons_of_mem _ tw_612) (by decide) (by decide) (by decide) (by decide) (by decide) (fun a3 => ?_)
  refine jn_eq (ws2 := (q, .inr (0, [.ref a1, .ref a2, .null])) :: [(a1, .inl (cI, 5, .inl (fun _ => 0))), (a2, .inl (cI, 5, .inl (fun _ => 0))), (a3, .inl (cI, 5, .inl (fun _ => 0)))]) rfl ?_
  refine jn_putF (k := 2) (ci := 0) (T := TX0) (M := 3) (ty := .array .int) E tyX0 dX0_init_22 iX0 tyX0_ok nmX0 rfl (by decide) rfl (List.mem_cons_of_mem _ tw_50) rfl (by decide +kernel) rfl rfl (Nat.le_of_ble_eq_true rfl) ?_
  refine jn_eq (ws2 := (q, .inr (0, [.ref a1, .ref a2, .ref a3])) :: [(a1, .inl (cI, 5, .inl (fun _ => 0))), (a2, .inl (cI, 5, .inl (fun _ => 0))), (a3, .inl (cI, 5, .inl (fun _ => 0)))]) rfl ?_
  obtain ⟨a, ea⟩ : ∃ a : Nat → Nat, a = fun h => [q, a1, a2, a3].getD h 0 := ⟨_, rfl⟩
  refine jn_vret (v0 := v0_X0) (sh := shX0) (n := 4) E a (by rw [ea]; rfl) dX0_init_25 (fun hD => jn_inj (fun i => i) (fun i _ j _ h => h) (fun i hi => ?_) hD) (fun H hP => jn_P (fun h hh => ?_))
  · subst ea
    exact match i, hi with
    | 0, _ => ⟨_, rfl⟩
    | 1, _ => ⟨_, rfl⟩
    | 2, _ => ⟨_, rfl⟩
    | 3, _ => ⟨_, rfl⟩
    | k9 + 4, h9 => absurd h9 (by omega)
  · subst ea
    exact match h, hh with
    | 0, _ => hP 0 _ rfl
    | 1, _ => hP 1 _ rfl
    | 2, _ => hP 2 _ rfl
    | 3, _ => hP 3 _ rfl
    | k9 + 4, h9 => absurd h9 (by omega)
set_option maxHeartbeats 4000000 in
set_option maxRecDepth 100000 in
theorem k_X2_init {l : Launch} {D : va_G} {cI cJ : ClassId} : jn_C l D vwCl cI cJ yX2_init (Cond.code yX2_init cX2_init 1 none :: bigT) rm_X2_init 2 [.null, .int 0, .int 0, .int 0, .int 0, .int 0, .int 0] 2 shX2 v0_X2 1 120 := by
  refine jn_enter bigT RX2 cX2_init 1 (by decide +kernel) rfl (by decide) rfl rfl ?_
  intro p e s m args below meth c q A E
  have iX2 : ∀ w ∈ u_ws RX2 TX2 7, w ∈ (Cond.code yX2_init cX2_init 1 none :: bigT) := fun w h => List.mem_cons_of_mem _ (uw_X2 w h)
  refine jn_aload_n E dX2_init_0 0 rfl ?_
  refine jn_objInit E dX2_init_1 (List.mem_cons_of_mem _ tw_613) (List.mem_cons_of_mem _ tw_610) (List.mem_cons_of_mem _ tw_611) (by decide) (by decide) ?_
  refine jn_aload_n E dX2_init_4 0 rfl ?_
  refine jn_bipush (x := 120) E dX2_init_5 (by decide) ?_
  refine jn_newa (N' := 120) E dX2_init_7 (List.mem_cons_of_mem _ tw_612) (by decide) (by decide) (by decide) (by decide) (by decide) (fun a1 => ?_)
  refine jn_eq (ws2 := (q, .inr (2, [.null, .int 0, .int 0, .int 0, .int 0, .int 0, .int 0])) :: [(a1, .inl (cI, 120, .inl (fun _ => 0)))]) rfl ?_
  refine jn_putF (k := 0) (ci := 2) (T := TX2) (M := 7) (ty := .array .int) E tyX2 dX2_init_9 iX2 tyX2_ok nmX2 rfl (by decide) rfl (List.mem_cons_of_mem _ tw_93) rfl (by decide +kernel) rfl rfl (Nat.le_of_ble_eq_true rfl) ?_
  refine jn_eq (ws2 := (q, .inr (2, [.ref a1, .int 0, .int 0, .int 0, .int 0, .int 0, .int 0])) :: [(a1, .inl (cI, 120, .inl (fun _ => 0)))]) rfl ?_
  refine jn_aload_n E dX2_init_12 0 rfl ?_
  refine jn_iconst (x := 0) E dX2_init_13 (by decide) ?_
  refine jn_puti (k := 1) (ci := 2) (T := TX2) (M := 7) (ty := .int) E tyX2 dX2_init_14 iX2 tyX2_ok nmX2 rfl (by decide) rfl (List.mem_cons_of_mem _ tw_92) rfl (by decide +kernel) rfl rfl (Nat.le_of_ble_eq_true rfl) ?_
  refine jn_eq (ws2 := (q, .inr (2, [.ref a1, .int 0, .int 0, .int 0, .int 0, .int 0, .int 0])) :: [(a1, .inl (cI, 120, .inl (fun _ => 0)))]) rfl ?_
  refine jn_aload_n E dX2_init_17 0 rfl ?_
  refine jn_iconst (x := 0) E dX2_init_18 (by decide) ?_
  refine jn_puti (k := 2) (ci := 2) (T := TX2) (M := 7) (ty := .int) E tyX2 dX2_init_19 iX2 tyX2_ok nmX2 rfl (by decide) rfl (List.mem_cons_of_mem _ tw_101) rfl (by decide +kernel) rfl rfl (Nat.le_of_ble_eq_true rfl) ?_
  refine jn_eq (ws2 := (q, .inr (2, [.ref a1, .int 0, .int 0, .int 0, .int 0, .int 0, .int 0])) :: [(a1, .inl (cI, 120, .inl (fun _ => 0)))]) rfl ?_
  refine jn_aload_n E dX2_init_22 0 rfl ?_
  refine jn_iconst (x := 0) E dX2_init_23 (by decide) ?_
  refine jn_puti (k := 3) (ci := 2) (T := TX2) (M := 7) (ty := .int) E tyX2 dX2_init_24 iX2 tyX2_ok nmX2 rfl (by decide) rfl (List.mem_cons_of_mem _ tw_95) rfl (by decide +kernel) rfl rfl (Nat.le_of_ble_eq_true rfl) ?_
  refine jn_eq (ws2 := (q, .inr (2, [.ref a1, .int 0, .int 0, .int 0, .int 0, .int 0, .int 0])) :: [(a1, .inl (cI, 120, .inl (fun _ => 0)))]) rfl ?_
  refine jn_aload_n E dX2_init_27 0 rfl ?_
  refine jn_iconst (x := 0) E dX2_init_28 (by decide) ?_
  refine jn_puti (k := 4) (ci := 2) (T := TX2) (M := 7) (ty := .int) E tyX2 dX2_init_29 iX2 tyX2_ok nmX2 rfl (by decide) rfl (List.mem_cons_of_mem _ tw_94) rfl (by decide +kernel) rfl rfl (Nat.le_of_ble_eq_true rfl) ?_
  refine jn_eq (ws2 := (q, .inr (2, [.ref a1, .int 0, .int 0, .int 0, .int 0, .int 0, .int 0])) :: [(a1, .inl (cI, 120, .inl (fun _ => 0)))]) rfl ?_
  refine jn_aload_n E dX2_init_32 0 rfl ?_
  refine jn_iconst (x := 0) E dX2_init_33 (by decide) ?_
  refine jn_puti (k := 5) (ci := 2) (T := TX2) (M := 7) (ty := .int) E tyX2 dX2_init_34 iX2 tyX2_ok nmX2 rfl (by decide) rfl (List.mem_cons_of_mem _ tw_102) rfl (by decide +kernel) rfl rfl (Nat.le_of_ble_eq_true rfl) ?_
  refine jn_eq (ws2 := (q, .inr (2, [.ref a1, .int 0, .int 0, .int 0, .int 0, .int 0, .int 0])) :: [(a1, .inl (cI, 120, .inl (fun _ => 0)))]) rfl ?_
  refine jn_aload_n E dX2_init_37 0 rfl ?_
  refine jn_iconst (x := -1) E dX2_init_38 (by decide) ?_
  refine jn_puti (k := 6) (ci := 2) (T := TX2) (M := 7) (ty := .int) E tyX2 dX2_init_39 iX2 tyX2_ok nmX2 rfl (by decide) rfl (List.mem_cons_of_mem _ tw_116) rfl (by decide +kernel) rfl rfl (Nat.le_of_ble_eq_true rfl) ?_
  refine jn_eq (ws2 := (q, .inr (2, [.ref a1, .int 0, .int 0, .int 0, .int 0, .int 0, .int (-1)])) :: [(a1, .inl (cI, 120, .inl (fun _ => 0)))]) rfl ?_
  obtain ⟨a, ea⟩ : ∃ a : Nat → Nat, a = fun h => [q, a1].getD h 0 := ⟨_, rfl⟩
  refine jn_vret (v0 := v0_X2) (sh := shX2) (n := 2) E a (by rw [ea]; rfl) dX2_init_42 (fun hD => jn_inj (fun i => i) (fun i _ j _ h => h) (fun i hi => ?_) hD) (fun H hP => jn_P (fun h hh => ?_))
  · subst ea
    exact match i, hi with
    | 0, _ => ⟨_, rfl⟩
    | 1, _ => ⟨_, rfl⟩
    | k9 + 2, h9 => absurd h9 (by omega)
  · subst ea
    exact match h, hh with
    | 0, _ => hP 0 _ rfl
    | 1, _ => hP 1 _ rfl
    | k9 + 2, h9 => absurd h9 (by omega)
set_option maxHeartbeats 4000000 in
set_option maxRecDepth 100000 in
theorem k_X1_init {l : Launch} {D : va_G} {cI cJ : ClassId} : jn_C l D vwCl cI cJ yX1_init (Cond.code yX1_init cX1_init 1 none :: bigT) rm_X1_init 1 [.null, .null, .null] 8 shX1 v0_X1 7 172 := by
  refine jn_enter bigT RX1 cX1_init 1 (by decide +kernel) rfl (by decide) rfl rfl ?_
  intro p e s m args below meth c q A E
  have iX1 : ∀ w ∈ u_ws RX1 TX1 3, w ∈ (Cond.code yX1_init cX1_init 1 none :: bigT) := fun w h => List.mem_cons_of_mem _ (uw_X1 w h)
  refine jn_aload_n E dX1_init_0 0 rfl ?_
  refine jn_objInit E dX1_init_1 (List.mem_cons_of_mem _ tw_614) (List.mem_cons_of_mem _ tw_610) (List.mem_cons_of_mem _ tw_611) (by decide) (by decide) ?_
  refine jn_aload_n E dX1_init_4 0 rfl ?_
  refine jn_iconst (x := 4) E dX1_init_5 (by decide) ?_
  refine jn_bipush (x := 40) E dX1_init_6 (by decide) ?_
  refine jn_mna (N' := 4) (K' := 40) E dX1_init_8 (List.mem_cons_of_mem _ tw_615) (List.mem_cons_of_mem _ tw_612) (by decide) (by decide) (by decide) (by decide) (by decide) (by decide) (by decide) (by decide) (by decide) (fun a1 r1 => ?_)
  refine jn_eq (ws2 := (q, .inr (1, [.null, .null, .null])) :: [(a1, .inl (cJ, 4, .inr (.inr (.inr (.inr (fun i => if i < 4 then some (r1 i) else none)))))), (r1 0, .inl (cI, 40, .inl (fun _ => 0))), (r1 1, .inl (cI, 40, .inl (fun _ => 0))), (r1 2, .inl (cI, 40, .inl (fun _ => 0))), (r1 3, .inl (cI, 40, .inl (fun _ => 0)))]) rfl ?_
  refine jn_putF (k := 0) (ci := 1) (T := TX1) (M := 3) (ty := .array (.array .int)) E tyX1 dX1_init_12 iX1 tyX1_ok nmX1 rfl (by decide) rfl (List.mem_cons_of_mem _ tw_91) rfl (by decide +kernel) rfl rfl (Nat.le_of_ble_eq_true rfl) ?_
  refine jn_eq (ws2 := (q, .inr (1, [.ref a1, .null, .null])) :: [(a1, .inl (cJ, 4, .inr (.inr (.inr (.inr (fun i => if i < 4 then some (r1 i) else none)))))), (r1 0, .inl (cI, 40, .inl (fun _ => 0))), (r1 1, .inl (cI, 40, .inl (fun _ => 0))), (r1 2, .inl (cI, 40, .inl (fun _ => 0))), (r1 3, .inl (cI, 40, .inl (fun _ => 0)))]) rfl ?_
  refine jn_aload_n E dX1_init_15 0 rfl ?_
  refine jn_iconst (x := 4) E dX1_init_16 (by decide) ?_
  refine jn_newa (N' := 4) E dX1_init_17 (List.mem_cons_of_mem _ tw_612) (by decide) (by decide) (by decide) (by decide) (by decide) (fun a2 => ?_)
  refine jn_eq (ws2 := (q, .inr (1, [.ref a1, .null, .null])) :: [(a1, .inl (cJ, 4, .inr (.inr (.inr (.inr (fun i => if i < 4 then some (r1 i) else none)))))), (r1 0, .inl (cI, 40, .inl (fun _ => 0))), (r1 1, .inl (cI, 40, .inl (fun _ => 0))), (r1 2, .inl (cI, 40, .inl (fun _ => 0))), (r1 3, .inl (cI, 40, .inl (fun _ => 0))), (a2, .inl (cI, 4, .inl (fun _ => 0)))]) rfl ?_
  refine jn_putF (k := 1) (ci := 1) (T := TX1) (M := 3) (ty := .array .int) E tyX1 dX1_init_19 iX1 tyX1_ok nmX1 rfl (by decide) rfl (List.mem_cons_of_mem _ tw_89) rfl (by decide +kernel) rfl rfl (Nat.le_of_ble_eq_true rfl) ?_
  refine jn_eq (ws2 := (q, .inr (1, [.ref a1, .ref a2, .null])) :: [(a1, .inl (cJ, 4, .inr (.inr (.inr (.inr (fun i => if i < 4 then some (r1 i) else none)))))), (r1 0, .inl (cI, 40, .inl (fun _ => 0))), (r1 1, .inl (cI, 40, .inl (fun _ => 0))), (r1 2, .inl (cI, 40, .inl (fun _ => 0))), (r1 3, .inl (cI, 40, .inl (fun _ => 0))), (a2, .inl (cI, 4, .inl (fun _ => 0)))]) rfl ?_
  refine jn_aload_n E dX1_init_22 0 rfl ?_
  refine jn_iconst (x := 4) E dX1_init_23 (by decide) ?_
  refine jn_newa (N' := 4) E dX1_init_24 (List.mem_cons_of_mem _ tw_612) (by decide) (by decide) (by decide) (by decide) (by decide) (fun a3 => ?_)
  refine jn_eq (ws2 := (q, .inr (1, [.ref a1, .ref a2, .null])) :: [(a1, .inl (cJ, 4, .inr (.inr (.inr (.inr (fun i => if i < 4 then some (r1 i) else none)))))), (r1 0, .inl (cI, 40, .inl (fun _ => 0))), (r1 1, .inl (cI, 40, .inl (fun _ => 0))), (r1 2, .inl (cI, 40, .inl (fun _ => 0))), (r1 3, .inl (cI, 40, .inl (fun _ => 0))), (a2, .inl (cI, 4, .inl (fun _ => 0))), (a3, .inl (cI, 4, .inl (fun _ => 0)))]) rfl ?_
  refine jn_putF (k := 2) (ci := 1) (T := TX1) (M := 3) (ty := .array .int) E tyX1 dX1_init_26 iX1 tyX1_ok nmX1 rfl (by decide) rfl (List.mem_cons_of_mem _ tw_90) rfl (by decide +kernel) rfl rfl (Nat.le_of_ble_eq_true rfl) ?_
  refine jn_eq (ws2 := (q, .inr (1, [.ref a1, .ref a2, .ref a3])) :: [(a1, .inl (cJ, 4, .inr (.inr (.inr (.inr (fun i => if i < 4 then some (r1 i) else none)))))), (r1 0, .inl (cI, 40, .inl (fun _ => 0))), (r1 1, .inl (cI, 40, .inl (fun _ => 0))), (r1 2, .inl (cI, 40, .inl (fun _ => 0))), (r1 3, .inl (cI, 40, .inl (fun _ => 0))), (a2, .inl (cI, 4, .inl (fun _ => 0))), (a3, .inl (cI, 4, .inl (fun _ => 0)))]) rfl ?_
  obtain ⟨a, ea⟩ : ∃ a : Nat → Nat, a = fun h => [q, a1, r1 0, r1 1, r1 2, r1 3, a2, a3].getD h 0 := ⟨_, rfl⟩
  refine jn_vret (v0 := v0_X1) (sh := shX1) (n := 8) E a (by rw [ea]; rfl) dX1_init_29 (fun hD => jn_inj (fun i => i) (fun i _ j _ h => h) (fun i hi => ?_) hD) (fun H hP => jn_P (fun h hh => ?_))
  · subst ea
    exact match i, hi with
    | 0, _ => ⟨_, rfl⟩
    | 1, _ => ⟨_, rfl⟩
    | 2, _ => ⟨_, rfl⟩
    | 3, _ => ⟨_, rfl⟩
    | 4, _ => ⟨_, rfl⟩
    | 5, _ => ⟨_, rfl⟩
    | 6, _ => ⟨_, rfl⟩
    | 7, _ => ⟨_, rfl⟩
    | k9 + 8, h9 => absurd h9 (by omega)
  · subst ea
    exact match h, hh with
    | 0, _ => hP 0 _ rfl
    | 1, _ => by
      have h9 := hP 1 _ rfl
      rw [jn_rows4 (r := r1) (a := fun h => [q, a1, r1 0, r1 1, r1 2, r1 3, a2, a3].getD h 0) (h0 := 2) (h1 := 3) (h2 := 4) (h3 := 5) rfl rfl rfl rfl] at h9
      exact h9
    | 2, _ => hP 2 _ rfl
    | 3, _ => hP 3 _ rfl
    | 4, _ => hP 4 _ rfl
    | 5, _ => hP 5 _ rfl
    | 6, _ => hP 6 _ rfl
    | 7, _ => hP 7 _ rfl
    | k9 + 8, h9 => absurd h9 (by omega)
set_option maxHeartbeats 4000000 in
set_option maxRecDepth 100000 in
theorem k_X3_init {l : Launch} {D : va_G} {cI cJ : ClassId} : jn_C l D vwCl cI cJ yX3_init (Cond.code yX3_init cX3_init 2 none :: bigT) rm_X3_init 3 [.null, .null, .null, .null, .null, .int 0, .int 0, .int 0] 16 shZ v0_X3 15 188 := by
  refine jn_enter bigT RX3 cX3_init 2 (by decide +kernel) rfl (by decide) rfl rfl ?_
  intro p e s m args below meth c q A E
  have iX3 : ∀ w ∈ u_ws RX3 TX3 8, w ∈ (Cond.code yX3_init cX3_init 2 none :: bigT) := fun w h => List.mem_cons_of_mem _ (uw_X3 w h)
  refine jn_aload_n E dX3_init_0 0 rfl ?_
  refine jn_objInit E dX3_init_1 (List.mem_cons_of_mem _ tw_616) (List.mem_cons_of_mem _ tw_610) (List.mem_cons_of_mem _ tw_611) (by decide) (by decide) ?_
  refine jn_aload_n E dX3_init_4 0 rfl ?_
  refine jn_iconst (x := 4) E dX3_init_5 (by decide) ?_
  refine jn_bipush (x := 25) E dX3_init_6 (by decide) ?_
  refine jn_mna (N' := 4) (K' := 25) E dX3_init_8 (List.mem_cons_of_mem _ tw_617) (List.mem_cons_of_mem _ tw_612) (by decide) (by decide) (by decide) (by decide) (by decide) (by decide) (by decide) (by decide) (by decide) (fun a1 r1 => ?_)
  refine jn_eq (ws2 := (q, .inr (3, [.null, .null, .null, .null, .null, .int 0, .int 0, .int 0])) :: [(a1, .inl (cJ, 4, .inr (.inr (.inr (.inr (fun i => if i < 4 then some (r1 i) else none)))))), (r1 0, .inl (cI, 25, .inl (fun _ => 0))), (r1 1, .inl (cI, 25, .inl (fun _ => 0))), (r1 2, .inl (cI, 25, .inl (fun _ => 0))), (r1 3, .inl (cI, 25, .inl (fun _ => 0)))]) rfl ?_
  refine jn_putF (k := 0) (ci := 3) (T := TX3) (M := 8) (ty := .array (.array .int)) E tyX3 dX3_init_12 iX3 tyX3_ok nmX3 rfl (by decide) rfl (List.mem_cons_of_mem _ tw_27) rfl (by decide +kernel) rfl rfl (Nat.le_of_ble_eq_true rfl) ?_
  refine jn_eq (ws2 := (q, .inr (3, [.ref a1, .null, .null, .null, .null, .int 0, .int 0, .int 0])) :: [(a1, .inl (cJ, 4, .inr (.inr (.inr (.inr (fun i => if i < 4 then some (r1 i) else none)))))), (r1 0, .inl (cI, 25, .inl (fun _ => 0))), (r1 1, .inl (cI, 25, .inl (fun _ => 0))), (r1 2, .inl (cI, 25, .inl (fun _ => 0))), (r1 3, .inl (cI, 25, .inl (fun _ => 0)))]) rfl ?_
  refine jn_aload_n E dX3_init_15 0 rfl ?_
  refine jn_bipush (x := 6) E dX3_init_16 (by decide) ?_
  refine jn_bipush (x := 10) E dX3_init_18 (by decide) ?_
  refine jn_mna (N' := 6) (K' := 10) E dX3_init_20 (List.mem_cons_of_mem _ tw_617) (List.mem_cons_of_mem _ tw_612) (by decide) (by decide) (by decide) (by decide) (by decide) (by decide) (by decide) (by decide) (by decide) (fun a2 r2 => ?_)
  refine jn_eq (ws2 := (q, .inr (3, [.ref a1, .null, .null, .null, .null, .int 0, .int 0, .int 0])) :: [(a1, .inl (cJ, 4, .inr (.inr (.inr (.inr (fun i => if i < 4 then some (r1 i) else none)))))), (r1 0, .inl (cI, 25, .inl (fun _ => 0))), (r1 1, .inl (cI, 25, .inl (fun _ => 0))), (r1 2, .inl (cI, 25, .inl (fun _ => 0))), (r1 3, .inl (cI, 25, .inl (fun _ => 0))), (a2, .inl (cJ, 6, .inr (.inr (.inr (.inr (fun i => if i < 6 then some (r2 i) else none)))))), (r2 0, .inl (cI, 10, .inl (fun _ => 0))), (r2 1, .inl (cI, 10, .inl (fun _ => 0))), (r2 2, .inl (cI, 10, .inl (fun _ => 0))), (r2 3, .inl (cI, 10, .inl (fun _ => 0))), (r2 4, .inl (cI, 10, .inl (fun _ => 0))), (r2 5, .inl (cI, 10, .inl (fun _ => 0)))]) rfl ?_
  refine jn_putF (k := 1) (ci := 3) (T := TX3) (M := 8) (ty := .array (.array .int)) E tyX3 dX3_init_24 iX3 tyX3_ok nmX3 rfl (by decide) rfl (List.mem_cons_of_mem _ tw_141) rfl (by decide +kernel) rfl rfl (Nat.le_of_ble_eq_true rfl) ?_
  refine jn_eq (ws2 := (q, .inr (3, [.ref a1, .ref a2, .null, .null, .null, .int 0, .int 0, .int 0])) :: [(a1, .inl (cJ, 4, .inr (.inr (.inr (.inr (fun i => if i < 4 then some (r1 i) else none)))))), (r1 0, .inl (cI, 25, .inl (fun _ => 0))), (r1 1, .inl (cI, 25, .inl (fun _ => 0))), (r1 2, .inl (cI, 25, .inl (fun _ => 0))), (r1 3, .inl (cI, 25, .inl (fun _ => 0))), (a2, .inl (cJ, 6, .inr (.inr (.inr (.inr (fun i => if i < 6 then some (r2 i) else none)))))), (r2 0, .inl (cI, 10, .inl (fun _ => 0))), (r2 1, .inl (cI, 10, .inl (fun _ => 0))), (r2 2, .inl (cI, 10, .inl (fun _ => 0))), (r2 3, .inl (cI, 10, .inl (fun _ => 0))), (r2 4, .inl (cI, 10, .inl (fun _ => 0))), (r2 5, .inl (cI, 10, .inl (fun _ => 0)))]) rfl ?_
  refine jn_aload_n E dX3_init_27 0 rfl ?_
  refine jn_iconst (x := 4) E dX3_init_28 (by decide) ?_
  refine jn_newa (N' := 4) E dX3_init_29 (List.mem_cons_of_mem _ tw_612) (by decide) (by decide) (by decide) (by decide) (by decide) (fun a3 => ?_)
  refine jn_eq (ws2 := (q, .inr (3, [.ref a1, .ref a2, .null, .null, .null, .int 0, .int 0, .int 0])) :: [(a1, .inl (cJ, 4, .inr (.inr (.inr (.inr (fun i => if i < 4 then some (r1 i) else none)))))), (r1 0, .inl (cI, 25, .inl (fun _ => 0))), (r1 1, .inl (cI, 25, .inl (fun _ => 0))), (r1 2, .inl (cI, 25, .inl (fun _ => 0))), (r1 3, .inl (cI, 25, .inl (fun _ => 0))), (a2, .inl (cJ, 6, .inr (.inr (.inr (.inr (fun i => if i < 6 then some (r2 i) else none)))))), (r2 0, .inl (cI, 10, .inl (fun _ => 0))), (r2 1, .inl (cI, 10, .inl (fun _ => 0))), (r2 2, .inl (cI, 10, .inl (fun _ => 0))), (r2 3, .inl (cI, 10, .inl (fun _ => 0))), (r2 4, .inl (cI, 10, .inl (fun _ => 0))), (r2 5, .inl (cI, 10, .inl (fun _ => 0))), (a3, .inl (cI, 4, .inl (fun _ => 0)))]) rfl ?_
  refine jn_putF (k := 2) (ci := 3) (T := TX3) (M := 8) (ty := .array .int) E tyX3 dX3_init_31 iX3 tyX3_ok nmX3 rfl (by decide) rfl (List.mem_cons_of_mem _ tw_73) rfl (by decide +kernel) rfl rfl (Nat.le_of_ble_eq_true rfl) ?_
  refine jn_eq (ws2 := (q, .inr (3, [.ref a1, .ref a2, .ref a3, .null, .null, .int 0, .int 0, .int 0])) :: [(a1, .inl (cJ, 4, .inr (.inr (.inr (.inr (fun i => if i < 4 then some (r1 i) else none)))))), (r1 0, .inl (cI, 25, .inl (fun _ => 0))), (r1 1, .inl (cI, 25, .inl (fun _ => 0))), (r1 2, .inl (cI, 25, .inl (fun _ => 0))), (r1 3, .inl (cI, 25, .inl (fun _ => 0))), (a2, .inl (cJ, 6, .inr (.inr (.inr (.inr (fun i => if i < 6 then some (r2 i) else none)))))), (r2 0, .inl (cI, 10, .inl (fun _ => 0))), (r2 1, .inl (cI, 10, .inl (fun _ => 0))), (r2 2, .inl (cI, 10, .inl (fun _ => 0))), (r2 3, .inl (cI, 10, .inl (fun _ => 0))), (r2 4, .inl (cI, 10, .inl (fun _ => 0))), (r2 5, .inl (cI, 10, .inl (fun _ => 0))), (a3, .inl (cI, 4, .inl (fun _ => 0)))]) rfl ?_
  refine jn_aload_n E dX3_init_34 0 rfl ?_
  refine jn_iconst (x := 4) E dX3_init_35 (by decide) ?_
  refine jn_newa (N' := 4) E dX3_init_36 (List.mem_cons_of_mem _ tw_612) (by decide) (by decide) (by decide) (by decide) (by decide) (fun a4 => ?_)
  refine jn_eq (ws2 := (q, .inr (3, [.ref a1, .ref a2, .ref a3, .null, .null, .int 0, .int 0, .int 0])) :: [(a1, .inl (cJ, 4, .inr (.inr (.inr (.inr (fun i => if i < 4 then some (r1 i) else none)))))), (r1 0, .inl (cI, 25, .inl (fun _ => 0))), (r1 1, .inl (cI, 25, .inl (fun _ => 0))), (r1 2, .inl (cI, 25, .inl (fun _ => 0))), (r1 3, .inl (cI, 25, .inl (fun _ => 0))), (a2, .inl (cJ, 6, .inr (.inr (.inr (.inr (fun i => if i < 6 then some (r2 i) else none)))))), (r2 0, .inl (cI, 10, .inl (fun _ => 0))), (r2 1, .inl (cI, 10, .inl (fun _ => 0))), (r2 2, .inl (cI, 10, .inl (fun _ => 0))), (r2 3, .inl (cI, 10, .inl (fun _ => 0))), (r2 4, .inl (cI, 10, .inl (fun _ => 0))), (r2 5, .inl (cI, 10, .inl (fun _ => 0))), (a3, .inl (cI, 4, .inl (fun _ => 0))), (a4, .inl (cI, 4, .inl (fun _ => 0)))]) rfl ?_
  refine jn_putF (k := 3) (ci := 3) (T := TX3) (M := 8) (ty := .array .int) E tyX3 dX3_init_38 iX3 tyX3_ok nmX3 rfl (by decide) rfl (List.mem_cons_of_mem _ tw_176) rfl (by decide +kernel) rfl rfl (Nat.le_of_ble_eq_true rfl) ?_
  refine jn_eq (ws2 := (q, .inr (3, [.ref a1, .ref a2, .ref a3, .ref a4, .null, .int 0, .int 0, .int 0])) :: [(a1, .inl (cJ, 4, .inr (.inr (.inr (.inr (fun i => if i < 4 then some (r1 i) else none)))))), (r1 0, .inl (cI, 25, .inl (fun _ => 0))), (r1 1, .inl (cI, 25, .inl (fun _ => 0))), (r1 2, .inl (cI, 25, .inl (fun _ => 0))), (r1 3, .inl (cI, 25, .inl (fun _ => 0))), (a2, .inl (cJ, 6, .inr (.inr (.inr (.inr (fun i => if i < 6 then some (r2 i) else none)))))), (r2 0, .inl (cI, 10, .inl (fun _ => 0))), (r2 1, .inl (cI, 10, .inl (fun _ => 0))), (r2 2, .inl (cI, 10, .inl (fun _ => 0))), (r2 3, .inl (cI, 10, .inl (fun _ => 0))), (r2 4, .inl (cI, 10, .inl (fun _ => 0))), (r2 5, .inl (cI, 10, .inl (fun _ => 0))), (a3, .inl (cI, 4, .inl (fun _ => 0))), (a4, .inl (cI, 4, .inl (fun _ => 0)))]) rfl ?_
  refine jn_aload_n E dX3_init_41 0 rfl ?_
  refine jn_bipush (x := 10) E dX3_init_42 (by decide) ?_
  refine jn_newa (N' := 10) E dX3_init_44 (List.mem_cons_of_mem _ tw_612) (by decide) (by decide) (by decide) (by decide) (by decide) (fun a5 => ?_)
  refine jn_eq (ws2 := (q, .inr (3, [.ref a1, .ref a2, .ref a3, .ref a4, .null, .int 0, .int 0, .int 0])) :: [(a1, .inl (cJ, 4, .inr (.inr (.inr (.inr (fun i => if i < 4 then some (r1 i) else none)))))), (r1 0, .inl (cI, 25, .inl (fun _ => 0))), (r1 1, .inl (cI, 25, .inl (fun _ => 0))), (r1 2, .inl (cI, 25, .inl (fun _ => 0))), (r1 3, .inl (cI, 25, .inl (fun _ => 0))), (a2, .inl (cJ, 6, .inr (.inr (.inr (.inr (fun i => if i < 6 then some (r2 i) else none)))))), (r2 0, .inl (cI, 10, .inl (fun _ => 0))), (r2 1, .inl (cI, 10, .inl (fun _ => 0))), (r2 2, .inl (cI, 10, .inl (fun _ => 0))), (r2 3, .inl (cI, 10, .inl (fun _ => 0))), (r2 4, .inl (cI, 10, .inl (fun _ => 0))), (r2 5, .inl (cI, 10, .inl (fun _ => 0))), (a3, .inl (cI, 4, .inl (fun _ => 0))), (a4, .inl (cI, 4, .inl (fun _ => 0))), (a5, .inl (cI, 10, .inl (fun _ => 0)))]) rfl ?_
  refine jn_putF (k := 4) (ci := 3) (T := TX3) (M := 8) (ty := .array .int) E tyX3 dX3_init_46 iX3 tyX3_ok nmX3 rfl (by decide) rfl (List.mem_cons_of_mem _ tw_177) rfl (by decide +kernel) rfl rfl (Nat.le_of_ble_eq_true rfl) ?_
  refine jn_eq (ws2 := (q, .inr (3, [.ref a1, .ref a2, .ref a3, .ref a4, .ref a5, .int 0, .int 0, .int 0])) :: [(a1, .inl (cJ, 4, .inr (.inr (.inr (.inr (fun i => if i < 4 then some (r1 i) else none)))))), (r1 0, .inl (cI, 25, .inl (fun _ => 0))), (r1 1, .inl (cI, 25, .inl (fun _ => 0))), (r1 2, .inl (cI, 25, .inl (fun _ => 0))), (r1 3, .inl (cI, 25, .inl (fun _ => 0))), (a2, .inl (cJ, 6, .inr (.inr (.inr (.inr (fun i => if i < 6 then some (r2 i) else none)))))), (r2 0, .inl (cI, 10, .inl (fun _ => 0))), (r2 1, .inl (cI, 10, .inl (fun _ => 0))), (r2 2, .inl (cI, 10, .inl (fun _ => 0))), (r2 3, .inl (cI, 10, .inl (fun _ => 0))), (r2 4, .inl (cI, 10, .inl (fun _ => 0))), (r2 5, .inl (cI, 10, .inl (fun _ => 0))), (a3, .inl (cI, 4, .inl (fun _ => 0))), (a4, .inl (cI, 4, .inl (fun _ => 0))), (a5, .inl (cI, 10, .inl (fun _ => 0)))]) rfl ?_
  refine jn_aload_n E dX3_init_49 0 rfl ?_
  refine jn_iconst (x := 0) E dX3_init_50 (by decide) ?_
  refine jn_puti (k := 5) (ci := 3) (T := TX3) (M := 8) (ty := .int) E tyX3 dX3_init_51 iX3 tyX3_ok nmX3 rfl (by decide) rfl (List.mem_cons_of_mem _ tw_140) rfl (by decide +kernel) rfl rfl (Nat.le_of_ble_eq_true rfl) ?_
  refine jn_eq (ws2 := (q, .inr (3, [.ref a1, .ref a2, .ref a3, .ref a4, .ref a5, .int 0, .int 0, .int 0])) :: [(a1, .inl (cJ, 4, .inr (.inr (.inr (.inr (fun i => if i < 4 then some (r1 i) else none)))))), (r1 0, .inl (cI, 25, .inl (fun _ => 0))), (r1 1, .inl (cI, 25, .inl (fun _ => 0))), (r1 2, .inl (cI, 25, .inl (fun _ => 0))), (r1 3, .inl (cI, 25, .inl (fun _ => 0))), (a2, .inl (cJ, 6, .inr (.inr (.inr (.inr (fun i => if i < 6 then some (r2 i) else none)))))), (r2 0, .inl (cI, 10, .inl (fun _ => 0))), (r2 1, .inl (cI, 10, .inl (fun _ => 0))), (r2 2, .inl (cI, 10, .inl (fun _ => 0))), (r2 3, .inl (cI, 10, .inl (fun _ => 0))), (r2 4, .inl (cI, 10, .inl (fun _ => 0))), (r2 5, .inl (cI, 10, .inl (fun _ => 0))), (a3, .inl (cI, 4, .inl (fun _ => 0))), (a4, .inl (cI, 4, .inl (fun _ => 0))), (a5, .inl (cI, 10, .inl (fun _ => 0)))]) rfl ?_
  refine jn_aload_n E dX3_init_54 0 rfl ?_
  refine jn_iconst (x := 0) E dX3_init_55 (by decide) ?_
  refine jn_puti (k := 6) (ci := 3) (T := TX3) (M := 8) (ty := .int) E tyX3 dX3_init_56 iX3 tyX3_ok nmX3 rfl (by decide) rfl (List.mem_cons_of_mem _ tw_28) rfl (by decide +kernel) rfl rfl (Nat.le_of_ble_eq_true rfl) ?_
  refine jn_eq (ws2 := (q, .inr (3, [.ref a1, .ref a2, .ref a3, .ref a4, .ref a5, .int 0, .int 0, .int 0])) :: [(a1, .inl (cJ, 4, .inr (.inr (.inr (.inr (fun i => if i < 4 then some (r1 i) else none)))))), (r1 0, .inl (cI, 25, .inl (fun _ => 0))), (r1 1, .inl (cI, 25, .inl (fun _ => 0))), (r1 2, .inl (cI, 25, .inl (fun _ => 0))), (r1 3, .inl (cI, 25, .inl (fun _ => 0))), (a2, .inl (cJ, 6, .inr (.inr (.inr (.inr (fun i => if i < 6 then some (r2 i) else none)))))), (r2 0, .inl (cI, 10, .inl (fun _ => 0))), (r2 1, .inl (cI, 10, .inl (fun _ => 0))), (r2 2, .inl (cI, 10, .inl (fun _ => 0))), (r2 3, .inl (cI, 10, .inl (fun _ => 0))), (r2 4, .inl (cI, 10, .inl (fun _ => 0))), (r2 5, .inl (cI, 10, .inl (fun _ => 0))), (a3, .inl (cI, 4, .inl (fun _ => 0))), (a4, .inl (cI, 4, .inl (fun _ => 0))), (a5, .inl (cI, 10, .inl (fun _ => 0)))]) rfl ?_
  refine jn_aload_n E dX3_init_59 0 rfl ?_
  refine jn_iconst (x := 1) E dX3_init_60 (by decide) ?_
  refine jn_puti (k := 7) (ci := 3) (T := TX3) (M := 8) (ty := .int) E tyX3 dX3_init_61 iX3 tyX3_ok nmX3 rfl (by decide) rfl (List.mem_cons_of_mem _ tw_178) rfl (by decide +kernel) rfl rfl (Nat.le_of_ble_eq_true rfl) ?_
  refine jn_eq (ws2 := (q, .inr (3, [.ref a1, .ref a2, .ref a3, .ref a4, .ref a5, .int 0, .int 0, .int 1])) :: [(a1, .inl (cJ, 4, .inr (.inr (.inr (.inr (fun i => if i < 4 then some (r1 i) else none)))))), (r1 0, .inl (cI, 25, .inl (fun _ => 0))), (r1 1, .inl (cI, 25, .inl (fun _ => 0))), (r1 2, .inl (cI, 25, .inl (fun _ => 0))), (r1 3, .inl (cI, 25, .inl (fun _ => 0))), (a2, .inl (cJ, 6, .inr (.inr (.inr (.inr (fun i => if i < 6 then some (r2 i) else none)))))), (r2 0, .inl (cI, 10, .inl (fun _ => 0))), (r2 1, .inl (cI, 10, .inl (fun _ => 0))), (r2 2, .inl (cI, 10, .inl (fun _ => 0))), (r2 3, .inl (cI, 10, .inl (fun _ => 0))), (r2 4, .inl (cI, 10, .inl (fun _ => 0))), (r2 5, .inl (cI, 10, .inl (fun _ => 0))), (a3, .inl (cI, 4, .inl (fun _ => 0))), (a4, .inl (cI, 4, .inl (fun _ => 0))), (a5, .inl (cI, 10, .inl (fun _ => 0)))]) rfl ?_
  intro H locs ls hP hD hS hl
  have hI : jx_inj 16 (fun h => [q, a1, a2, r1 0, r1 1, r1 2, r1 3, r2 0, r2 1, r2 2, r2 3, r2 4, r2 5, a3, a4, a5].getD h 0) A := jn_inj (fun i => [0, 1, 6, 2, 3, 4, 5, 7, 8, 9, 10, 11, 12, 13, 14, 15].getD i 0) (by decide) (fun i hi => match i, hi with
    | 0, _ => ⟨_, rfl⟩
    | 1, _ => ⟨_, rfl⟩
    | 2, _ => ⟨_, rfl⟩
    | 3, _ => ⟨_, rfl⟩
    | 4, _ => ⟨_, rfl⟩
    | 5, _ => ⟨_, rfl⟩
    | 6, _ => ⟨_, rfl⟩
    | 7, _ => ⟨_, rfl⟩
    | 8, _ => ⟨_, rfl⟩
    | 9, _ => ⟨_, rfl⟩
    | 10, _ => ⟨_, rfl⟩
    | 11, _ => ⟨_, rfl⟩
    | 12, _ => ⟨_, rfl⟩
    | 13, _ => ⟨_, rfl⟩
    | 14, _ => ⟨_, rfl⟩
    | 15, _ => ⟨_, rfl⟩
    | k9 + 16, h9 => absurd h9 (by omega)) hD
  have hPJ : va_P D vwCl (jx_ws 16 cI cJ (fun h => [q, a1, a2, r1 0, r1 1, r1 2, r1 3, r2 0, r2 1, r2 2, r2 3, r2 4, r2 5, a3, a4, a5].getD h 0) shZ vs_X3) H := jn_P (fun h hh => match h, hh with
    | 0, _ => hP 0 _ rfl
    | 1, _ => by
      have h9 := hP 1 _ rfl
      rw [jn_rows4 (r := r1) (a := (fun h => [q, a1, a2, r1 0, r1 1, r1 2, r1 3, r2 0, r2 1, r2 2, r2 3, r2 4, r2 5, a3, a4, a5].getD h 0)) (h0 := 3) (h1 := 4) (h2 := 5) (h3 := 6) rfl rfl rfl rfl] at h9
      exact h9
    | 2, _ => by
      have h9 := hP 6 _ rfl
      rw [jn_rows6 (r := r2) (a := (fun h => [q, a1, a2, r1 0, r1 1, r1 2, r1 3, r2 0, r2 1, r2 2, r2 3, r2 4, r2 5, a3, a4, a5].getD h 0)) (h0 := 7) (h1 := 8) (h2 := 9) (h3 := 10) (h4 := 11) (h5 := 12) rfl rfl rfl rfl rfl rfl] at h9
      exact h9
    | 3, _ => hP 2 _ rfl
    | 4, _ => hP 3 _ rfl
    | 5, _ => hP 4 _ rfl
    | 6, _ => hP 5 _ rfl
    | 7, _ => hP 7 _ rfl
    | 8, _ => hP 8 _ rfl
    | 9, _ => hP 9 _ rfl
    | 10, _ => hP 10 _ rfl
    | 11, _ => hP 11 _ rfl
    | 12, _ => hP 12 _ rfl
    | 13, _ => hP 13 _ rfl
    | 14, _ => hP 14 _ rfl
    | 15, _ => hP 15 _ rfl
    | k9 + 16, h9 => absurd h9 (by omega))
  obtain ⟨v', hf, hc⟩ := run_X3
  exact j_X3_init (ad := (fun h => [q, a1, a2, r1 0, r1 1, r1 2, r1 3, r2 0, r2 1, r2 2, r2 3, r2 4, r2 5, a3, a4, a5].getD h 0)) (A := A) (Q := MQ below (va_Qv (fun (_ : Unit) => True) (fun _ t => ∃ a : Nat → Nat, a 0 = q ∧ va_P D vwCl (jx_ws 16 cI cJ a shZ v0_X3) t.heap ∧ va_D A (jx_ws 16 cI cJ a shZ v0_X3)) A) args s 15 188 A) (cI := cI) (cJ := cJ) ⟨E.1, E.2.1, E.2.2.1, E.2.2.2.1, E.2.2.2.2.1, E.2.2.2.2.2.1, E.2.2.2.2.2.2.1, E.2.2.2.2.2.2.2.1, hI, trivial, (ex_M_ok A)⟩ hI vs_X3 v' hf (fun H1 locs1 ls1 hP1 hS1 hl1 => W.vret E.1 E.2.1 E.2.2.2.2.2.1 (fun t ht hW => ⟨⟨(), rfl, trivial, ⟨(fun h => [q, a1, a2, r1 0, r1 1, r1 2, r1 3, r2 0, r2 1, r2 2, r2 3, r2 4, r2 5, a3, a4, a5].getD h 0), rfl, jx_cong hc (by rw [ht]; exact hP1), jx_D hI⟩⟩, hS1.F ht⟩) hS1.2.2 dX3_init_130 E.2.2.2.2.2.2.1) H locs ls hPJ hS hl
set_option maxHeartbeats 4000000 in
set_option maxRecDepth 100000 in
theorem k_X5_init {l : Launch} {D : va_G} {cI cJ : ClassId} : jn_C l D vwCl cI cJ yX5_init (Cond.code yX5_init cX5_init 2 none :: bigT) rm_X5_init 5 [.null, .null, .null, .null, .int 0, .null, .int 0, .int 0, .int 0, .null, .null, .null, .int 0, .int 0, .int 0, .int 0, .int 0, .null, .null, .null, .null] 13 shM v0_X5 12 890 := by
  refine jn_enter bigT RX5 cX5_init 2 (by decide +kernel) rfl (by decide) rfl rfl ?_
  intro p e s m args below meth c q A E
  have iX5 : ∀ w ∈ u_ws RX5 TX5 21, w ∈ (Cond.code yX5_init cX5_init 2 none :: bigT) := fun w h => List.mem_cons_of_mem _ (uw_X5 w h)
  refine jn_aload_n E dX5_init_0 0 rfl ?_
  refine jn_objInit E dX5_init_1 (List.mem_cons_of_mem _ tw_618) (List.mem_cons_of_mem _ tw_610) (List.mem_cons_of_mem _ tw_611) (by decide) (by decide) ?_
  refine jn_aload_n E dX5_init_4 0 rfl ?_
  refine jn_sipush (x := 181) E dX5_init_5 (by decide) ?_
  refine jn_newa (N' := 181) E dX5_init_8 (List.mem_cons_of_mem _ tw_612) (by decide) (by decide) (by decide) (by decide) (by decide) (fun a1 => ?_)
  refine jn_eq (ws2 := (q, .inr (5, [.null, .null, .null, .null, .int 0, .null, .int 0, .int 0, .int 0, .null, .null, .null, .int 0, .int 0, .int 0, .int 0, .int 0, .null, .null, .null, .null])) :: [(a1, .inl (cI, 181, .inl (fun _ => 0)))]) rfl ?_
  refine jn_putF (k := 0) (ci := 5) (T := TX5) (M := 21) (ty := .array .int) E tyX5 dX5_init_10 iX5 tyX5_ok nmX5 rfl (by decide) rfl (List.mem_cons_of_mem _ tw_328) rfl (by decide +kernel) rfl rfl (Nat.le_of_ble_eq_true rfl) ?_
  refine jn_eq (ws2 := (q, .inr (5, [.ref a1, .null, .null, .null, .int 0, .null, .int 0, .int 0, .int 0, .null, .null, .null, .int 0, .int 0, .int 0, .int 0, .int 0, .null, .null, .null, .null])) :: [(a1, .inl (cI, 181, .inl (fun _ => 0)))]) rfl ?_
  refine jn_aload_n E dX5_init_13 0 rfl ?_
  refine jn_sipush (x := 181) E dX5_init_14 (by decide) ?_
  refine jn_newa (N' := 181) E dX5_init_17 (List.mem_cons_of_mem _ tw_612) (by decide) (by decide) (by decide) (by decide) (by decide) (fun a2 => ?_)
  refine jn_eq (ws2 := (q, .inr (5, [.ref a1, .null, .null, .null, .int 0, .null, .int 0, .int 0, .int 0, .null, .null, .null, .int 0, .int 0, .int 0, .int 0, .int 0, .null, .null, .null, .null])) :: [(a1, .inl (cI, 181, .inl (fun _ => 0))), (a2, .inl (cI, 181, .inl (fun _ => 0)))]) rfl ?_
  refine jn_putF (k := 1) (ci := 5) (T := TX5) (M := 21) (ty := .array .int) E tyX5 dX5_init_19 iX5 tyX5_ok nmX5 rfl (by decide) rfl (List.mem_cons_of_mem _ tw_596) rfl (by decide +kernel) rfl rfl (Nat.le_of_ble_eq_true rfl) ?_
  refine jn_eq (ws2 := (q, .inr (5, [.ref a1, .ref a2, .null, .null, .int 0, .null, .int 0, .int 0, .int 0, .null, .null, .null, .int 0, .int 0, .int 0, .int 0, .int 0, .null, .null, .null, .null])) :: [(a1, .inl (cI, 181, .inl (fun _ => 0))), (a2, .inl (cI, 181, .inl (fun _ => 0)))]) rfl ?_
  refine jn_aload_n E dX5_init_22 0 rfl ?_
  refine jn_sipush (x := 181) E dX5_init_23 (by decide) ?_
  refine jn_newa (N' := 181) E dX5_init_26 (List.mem_cons_of_mem _ tw_612) (by decide) (by decide) (by decide) (by decide) (by decide) (fun a3 => ?_)
  refine jn_eq (ws2 := (q, .inr (5, [.ref a1, .ref a2, .null, .null, .int 0, .null, .int 0, .int 0, .int 0, .null, .null, .null, .int 0, .int 0, .int 0, .int 0, .int 0, .null, .null, .null, .null])) :: [(a1, .inl (cI, 181, .inl (fun _ => 0))), (a2, .inl (cI, 181, .inl (fun _ => 0))), (a3, .inl (cI, 181, .inl (fun _ => 0)))]) rfl ?_
  refine jn_putF (k := 2) (ci := 5) (T := TX5) (M := 21) (ty := .array .int) E tyX5 dX5_init_28 iX5 tyX5_ok nmX5 rfl (by decide) rfl (List.mem_cons_of_mem _ tw_330) rfl (by decide +kernel) rfl rfl (Nat.le_of_ble_eq_true rfl) ?_
  refine jn_eq (ws2 := (q, .inr (5, [.ref a1, .ref a2, .ref a3, .null, .int 0, .null, .int 0, .int 0, .int 0, .null, .null, .null, .int 0, .int 0, .int 0, .int 0, .int 0, .null, .null, .null, .null])) :: [(a1, .inl (cI, 181, .inl (fun _ => 0))), (a2, .inl (cI, 181, .inl (fun _ => 0))), (a3, .inl (cI, 181, .inl (fun _ => 0)))]) rfl ?_
  refine jn_aload_n E dX5_init_31 0 rfl ?_
  refine jn_bipush (x := 7) E dX5_init_32 (by decide) ?_
  refine jn_newa (N' := 7) E dX5_init_34 (List.mem_cons_of_mem _ tw_612) (by decide) (by decide) (by decide) (by decide) (by decide) (fun a4 => ?_)
  refine jn_eq (ws2 := (q, .inr (5, [.ref a1, .ref a2, .ref a3, .null, .int 0, .null, .int 0, .int 0, .int 0, .null, .null, .null, .int 0, .int 0, .int 0, .int 0, .int 0, .null, .null, .null, .null])) :: [(a1, .inl (cI, 181, .inl (fun _ => 0))), (a2, .inl (cI, 181, .inl (fun _ => 0))), (a3, .inl (cI, 181, .inl (fun _ => 0))), (a4, .inl (cI, 7, .inl (fun _ => 0)))]) rfl ?_
  refine jn_putF (k := 3) (ci := 5) (T := TX5) (M := 21) (ty := .array .int) E tyX5 dX5_init_36 iX5 tyX5_ok nmX5 rfl (by decide) rfl (List.mem_cons_of_mem _ tw_319) rfl (by decide +kernel) rfl rfl (Nat.le_of_ble_eq_true rfl) ?_
  refine jn_eq (ws2 := (q, .inr (5, [.ref a1, .ref a2, .ref a3, .ref a4, .int 0, .null, .int 0, .int 0, .int 0, .null, .null, .null, .int 0, .int 0, .int 0, .int 0, .int 0, .null, .null, .null, .null])) :: [(a1, .inl (cI, 181, .inl (fun _ => 0))), (a2, .inl (cI, 181, .inl (fun _ => 0))), (a3, .inl (cI, 181, .inl (fun _ => 0))), (a4, .inl (cI, 7, .inl (fun _ => 0)))]) rfl ?_
  refine jn_aload_n E dX5_init_39 0 rfl ?_
  refine jn_iconst (x := 4) E dX5_init_40 (by decide) ?_
  refine jn_newa (N' := 4) E dX5_init_41 (List.mem_cons_of_mem _ tw_612) (by decide) (by decide) (by decide) (by decide) (by decide) (fun a5 => ?_)
  refine jn_eq (ws2 := (q, .inr (5, [.ref a1, .ref a2, .ref a3, .ref a4, .int 0, .null, .int 0, .int 0, .int 0, .null, .null, .null, .int 0, .int 0, .int 0, .int 0, .int 0, .null, .null, .null, .null])) :: [(a1, .inl (cI, 181, .inl (fun _ => 0))), (a2, .inl (cI, 181, .inl (fun _ => 0))), (a3, .inl (cI, 181, .inl (fun _ => 0))), (a4, .inl (cI, 7, .inl (fun _ => 0))), (a5, .inl (cI, 4, .inl (fun _ => 0)))]) rfl ?_
  refine jn_putF (k := 5) (ci := 5) (T := TX5) (M := 21) (ty := .array .int) E tyX5 dX5_init_43 iX5 tyX5_ok nmX5 rfl (by decide) rfl (List.mem_cons_of_mem _ tw_412) rfl (by decide +kernel) rfl rfl (Nat.le_of_ble_eq_true rfl) ?_
  refine jn_eq (ws2 := (q, .inr (5, [.ref a1, .ref a2, .ref a3, .ref a4, .int 0, .ref a5, .int 0, .int 0, .int 0, .null, .null, .null, .int 0, .int 0, .int 0, .int 0, .int 0, .null, .null, .null, .null])) :: [(a1, .inl (cI, 181, .inl (fun _ => 0))), (a2, .inl (cI, 181, .inl (fun _ => 0))), (a3, .inl (cI, 181, .inl (fun _ => 0))), (a4, .inl (cI, 7, .inl (fun _ => 0))), (a5, .inl (cI, 4, .inl (fun _ => 0)))]) rfl ?_
  refine jn_aload_n E dX5_init_46 0 rfl ?_
  refine jn_iconst (x := 4) E dX5_init_47 (by decide) ?_
  refine jn_newa (N' := 4) E dX5_init_48 (List.mem_cons_of_mem _ tw_612) (by decide) (by decide) (by decide) (by decide) (by decide) (fun a6 => ?_)
  refine jn_eq (ws2 := (q, .inr (5, [.ref a1, .ref a2, .ref a3, .ref a4, .int 0, .ref a5, .int 0, .int 0, .int 0, .null, .null, .null, .int 0, .int 0, .int 0, .int 0, .int 0, .null, .null, .null, .null])) :: [(a1, .inl (cI, 181, .inl (fun _ => 0))), (a2, .inl (cI, 181, .inl (fun _ => 0))), (a3, .inl (cI, 181, .inl (fun _ => 0))), (a4, .inl (cI, 7, .inl (fun _ => 0))), (a5, .inl (cI, 4, .inl (fun _ => 0))), (a6, .inl (cI, 4, .inl (fun _ => 0)))]) rfl ?_
  refine jn_putF (k := 9) (ci := 5) (T := TX5) (M := 21) (ty := .array .int) E tyX5 dX5_init_50 iX5 tyX5_ok nmX5 rfl (by decide) rfl (List.mem_cons_of_mem _ tw_420) rfl (by decide +kernel) rfl rfl (Nat.le_of_ble_eq_true rfl) ?_
  refine jn_eq (ws2 := (q, .inr (5, [.ref a1, .ref a2, .ref a3, .ref a4, .int 0, .ref a5, .int 0, .int 0, .int 0, .ref a6, .null, .null, .int 0, .int 0, .int 0, .int 0, .int 0, .null, .null, .null, .null])) :: [(a1, .inl (cI, 181, .inl (fun _ => 0))), (a2, .inl (cI, 181, .inl (fun _ => 0))), (a3, .inl (cI, 181, .inl (fun _ => 0))), (a4, .inl (cI, 7, .inl (fun _ => 0))), (a5, .inl (cI, 4, .inl (fun _ => 0))), (a6, .inl (cI, 4, .inl (fun _ => 0)))]) rfl ?_
  refine jn_aload_n E dX5_init_53 0 rfl ?_
  refine jn_iconst (x := 4) E dX5_init_54 (by decide) ?_
  refine jn_newa (N' := 4) E dX5_init_55 (List.mem_cons_of_mem _ tw_612) (by decide) (by decide) (by decide) (by decide) (by decide) (fun a7 => ?_)
  refine jn_eq (ws2 := (q, .inr (5, [.ref a1, .ref a2, .ref a3, .ref a4, .int 0, .ref a5, .int 0, .int 0, .int 0, .ref a6, .null, .null, .int 0, .int 0, .int 0, .int 0, .int 0, .null, .null, .null, .null])) :: [(a1, .inl (cI, 181, .inl (fun _ => 0))), (a2, .inl (cI, 181, .inl (fun _ => 0))), (a3, .inl (cI, 181, .inl (fun _ => 0))), (a4, .inl (cI, 7, .inl (fun _ => 0))), (a5, .inl (cI, 4, .inl (fun _ => 0))), (a6, .inl (cI, 4, .inl (fun _ => 0))), (a7, .inl (cI, 4, .inl (fun _ => 0)))]) rfl ?_
  refine jn_putF (k := 10) (ci := 5) (T := TX5) (M := 21) (ty := .array .int) E tyX5 dX5_init_57 iX5 tyX5_ok nmX5 rfl (by decide) rfl (List.mem_cons_of_mem _ tw_489) rfl (by decide +kernel) rfl rfl (Nat.le_of_ble_eq_true rfl) ?_
  refine jn_eq (ws2 := (q, .inr (5, [.ref a1, .ref a2, .ref a3, .ref a4, .int 0, .ref a5, .int 0, .int 0, .int 0, .ref a6, .ref a7, .null, .int 0, .int 0, .int 0, .int 0, .int 0, .null, .null, .null, .null])) :: [(a1, .inl (cI, 181, .inl (fun _ => 0))), (a2, .inl (cI, 181, .inl (fun _ => 0))), (a3, .inl (cI, 181, .inl (fun _ => 0))), (a4, .inl (cI, 7, .inl (fun _ => 0))), (a5, .inl (cI, 4, .inl (fun _ => 0))), (a6, .inl (cI, 4, .inl (fun _ => 0))), (a7, .inl (cI, 4, .inl (fun _ => 0)))]) rfl ?_
  refine jn_aload_n E dX5_init_60 0 rfl ?_
  refine jn_bipush (x := 120) E dX5_init_61 (by decide) ?_
  refine jn_newa (N' := 120) E dX5_init_63 (List.mem_cons_of_mem _ tw_612) (by decide) (by decide) (by decide) (by decide) (by decide) (fun a8 => ?_)
  refine jn_eq (ws2 := (q, .inr (5, [.ref a1, .ref a2, .ref a3, .ref a4, .int 0, .ref a5, .int 0, .int 0, .int 0, .ref a6, .ref a7, .null, .int 0, .int 0, .int 0, .int 0, .int 0, .null, .null, .null, .null])) :: [(a1, .inl (cI, 181, .inl (fun _ => 0))), (a2, .inl (cI, 181, .inl (fun _ => 0))), (a3, .inl (cI, 181, .inl (fun _ => 0))), (a4, .inl (cI, 7, .inl (fun _ => 0))), (a5, .inl (cI, 4, .inl (fun _ => 0))), (a6, .inl (cI, 4, .inl (fun _ => 0))), (a7, .inl (cI, 4, .inl (fun _ => 0))), (a8, .inl (cI, 120, .inl (fun _ => 0)))]) rfl ?_
  refine jn_putF (k := 11) (ci := 5) (T := TX5) (M := 21) (ty := .array .int) E tyX5 dX5_init_65 iX5 tyX5_ok nmX5 rfl (by decide) rfl (List.mem_cons_of_mem _ tw_496) rfl (by decide +kernel) rfl rfl (Nat.le_of_ble_eq_true rfl) ?_
  refine jn_eq (ws2 := (q, .inr (5, [.ref a1, .ref a2, .ref a3, .ref a4, .int 0, .ref a5, .int 0, .int 0, .int 0, .ref a6, .ref a7, .ref a8, .int 0, .int 0, .int 0, .int 0, .int 0, .null, .null, .null, .null])) :: [(a1, .inl (cI, 181, .inl (fun _ => 0))), (a2, .inl (cI, 181, .inl (fun _ => 0))), (a3, .inl (cI, 181, .inl (fun _ => 0))), (a4, .inl (cI, 7, .inl (fun _ => 0))), (a5, .inl (cI, 4, .inl (fun _ => 0))), (a6, .inl (cI, 4, .inl (fun _ => 0))), (a7, .inl (cI, 4, .inl (fun _ => 0))), (a8, .inl (cI, 120, .inl (fun _ => 0)))]) rfl ?_
  refine jn_aload_n E dX5_init_68 0 rfl ?_
  refine jn_iconst (x := 4) E dX5_init_69 (by decide) ?_
  refine jn_newa (N' := 4) E dX5_init_70 (List.mem_cons_of_mem _ tw_612) (by decide) (by decide) (by decide) (by decide) (by decide) (fun a9 => ?_)
  refine jn_eq (ws2 := (q, .inr (5, [.ref a1, .ref a2, .ref a3, .ref a4, .int 0, .ref a5, .int 0, .int 0, .int 0, .ref a6, .ref a7, .ref a8, .int 0, .int 0, .int 0, .int 0, .int 0, .null, .null, .null, .null])) :: [(a1, .inl (cI, 181, .inl (fun _ => 0))), (a2, .inl (cI, 181, .inl (fun _ => 0))), (a3, .inl (cI, 181, .inl (fun _ => 0))), (a4, .inl (cI, 7, .inl (fun _ => 0))), (a5, .inl (cI, 4, .inl (fun _ => 0))), (a6, .inl (cI, 4, .inl (fun _ => 0))), (a7, .inl (cI, 4, .inl (fun _ => 0))), (a8, .inl (cI, 120, .inl (fun _ => 0))), (a9, .inl (cI, 4, .inl (fun _ => 0)))]) rfl ?_
  refine jn_putF (k := 17) (ci := 5) (T := TX5) (M := 21) (ty := .array .int) E tyX5 dX5_init_72 iX5 tyX5_ok nmX5 rfl (by decide) rfl (List.mem_cons_of_mem _ tw_583) rfl (by decide +kernel) rfl rfl (Nat.le_of_ble_eq_true rfl) ?_
  refine jn_eq (ws2 := (q, .inr (5, [.ref a1, .ref a2, .ref a3, .ref a4, .int 0, .ref a5, .int 0, .int 0, .int 0, .ref a6, .ref a7, .ref a8, .int 0, .int 0, .int 0, .int 0, .int 0, .ref a9, .null, .null, .null])) :: [(a1, .inl (cI, 181, .inl (fun _ => 0))), (a2, .inl (cI, 181, .inl (fun _ => 0))), (a3, .inl (cI, 181, .inl (fun _ => 0))), (a4, .inl (cI, 7, .inl (fun _ => 0))), (a5, .inl (cI, 4, .inl (fun _ => 0))), (a6, .inl (cI, 4, .inl (fun _ => 0))), (a7, .inl (cI, 4, .inl (fun _ => 0))), (a8, .inl (cI, 120, .inl (fun _ => 0))), (a9, .inl (cI, 4, .inl (fun _ => 0)))]) rfl ?_
  refine jn_aload_n E dX5_init_75 0 rfl ?_
  refine jn_iconst (x := 4) E dX5_init_76 (by decide) ?_
  refine jn_newa (N' := 4) E dX5_init_77 (List.mem_cons_of_mem _ tw_612) (by decide) (by decide) (by decide) (by decide) (by decide) (fun a10 => ?_)
  refine jn_eq (ws2 := (q, .inr (5, [.ref a1, .ref a2, .ref a3, .ref a4, .int 0, .ref a5, .int 0, .int 0, .int 0, .ref a6, .ref a7, .ref a8, .int 0, .int 0, .int 0, .int 0, .int 0, .ref a9, .null, .null, .null])) :: [(a1, .inl (cI, 181, .inl (fun _ => 0))), (a2, .inl (cI, 181, .inl (fun _ => 0))), (a3, .inl (cI, 181, .inl (fun _ => 0))), (a4, .inl (cI, 7, .inl (fun _ => 0))), (a5, .inl (cI, 4, .inl (fun _ => 0))), (a6, .inl (cI, 4, .inl (fun _ => 0))), (a7, .inl (cI, 4, .inl (fun _ => 0))), (a8, .inl (cI, 120, .inl (fun _ => 0))), (a9, .inl (cI, 4, .inl (fun _ => 0))), (a10, .inl (cI, 4, .inl (fun _ => 0)))]) rfl ?_
  refine jn_putF (k := 18) (ci := 5) (T := TX5) (M := 21) (ty := .array .int) E tyX5 dX5_init_79 iX5 tyX5_ok nmX5 rfl (by decide) rfl (List.mem_cons_of_mem _ tw_584) rfl (by decide +kernel) rfl rfl (Nat.le_of_ble_eq_true rfl) ?_
  refine jn_eq (ws2 := (q, .inr (5, [.ref a1, .ref a2, .ref a3, .ref a4, .int 0, .ref a5, .int 0, .int 0, .int 0, .ref a6, .ref a7, .ref a8, .int 0, .int 0, .int 0, .int 0, .int 0, .ref a9, .ref a10, .null, .null])) :: [(a1, .inl (cI, 181, .inl (fun _ => 0))), (a2, .inl (cI, 181, .inl (fun _ => 0))), (a3, .inl (cI, 181, .inl (fun _ => 0))), (a4, .inl (cI, 7, .inl (fun _ => 0))), (a5, .inl (cI, 4, .inl (fun _ => 0))), (a6, .inl (cI, 4, .inl (fun _ => 0))), (a7, .inl (cI, 4, .inl (fun _ => 0))), (a8, .inl (cI, 120, .inl (fun _ => 0))), (a9, .inl (cI, 4, .inl (fun _ => 0))), (a10, .inl (cI, 4, .inl (fun _ => 0)))]) rfl ?_
  refine jn_aload_n E dX5_init_82 0 rfl ?_
  refine jn_sipush (x := 160) E dX5_init_83 (by decide) ?_
  refine jn_newa (N' := 160) E dX5_init_86 (List.mem_cons_of_mem _ tw_612) (by decide) (by decide) (by decide) (by decide) (by decide) (fun a11 => ?_)
  refine jn_eq (ws2 := (q, .inr (5, [.ref a1, .ref a2, .ref a3, .ref a4, .int 0, .ref a5, .int 0, .int 0, .int 0, .ref a6, .ref a7, .ref a8, .int 0, .int 0, .int 0, .int 0, .int 0, .ref a9, .ref a10, .null, .null])) :: [(a1, .inl (cI, 181, .inl (fun _ => 0))), (a2, .inl (cI, 181, .inl (fun _ => 0))), (a3, .inl (cI, 181, .inl (fun _ => 0))), (a4, .inl (cI, 7, .inl (fun _ => 0))), (a5, .inl (cI, 4, .inl (fun _ => 0))), (a6, .inl (cI, 4, .inl (fun _ => 0))), (a7, .inl (cI, 4, .inl (fun _ => 0))), (a8, .inl (cI, 120, .inl (fun _ => 0))), (a9, .inl (cI, 4, .inl (fun _ => 0))), (a10, .inl (cI, 4, .inl (fun _ => 0))), (a11, .inl (cI, 160, .inl (fun _ => 0)))]) rfl ?_
  refine jn_putF (k := 19) (ci := 5) (T := TX5) (M := 21) (ty := .array .int) E tyX5 dX5_init_88 iX5 tyX5_ok nmX5 rfl (by decide) rfl (List.mem_cons_of_mem _ tw_586) rfl (by decide +kernel) rfl rfl (Nat.le_of_ble_eq_true rfl) ?_
  refine jn_eq (ws2 := (q, .inr (5, [.ref a1, .ref a2, .ref a3, .ref a4, .int 0, .ref a5, .int 0, .int 0, .int 0, .ref a6, .ref a7, .ref a8, .int 0, .int 0, .int 0, .int 0, .int 0, .ref a9, .ref a10, .ref a11, .null])) :: [(a1, .inl (cI, 181, .inl (fun _ => 0))), (a2, .inl (cI, 181, .inl (fun _ => 0))), (a3, .inl (cI, 181, .inl (fun _ => 0))), (a4, .inl (cI, 7, .inl (fun _ => 0))), (a5, .inl (cI, 4, .inl (fun _ => 0))), (a6, .inl (cI, 4, .inl (fun _ => 0))), (a7, .inl (cI, 4, .inl (fun _ => 0))), (a8, .inl (cI, 120, .inl (fun _ => 0))), (a9, .inl (cI, 4, .inl (fun _ => 0))), (a10, .inl (cI, 4, .inl (fun _ => 0))), (a11, .inl (cI, 160, .inl (fun _ => 0)))]) rfl ?_
  refine jn_aload_n E dX5_init_91 0 rfl ?_
  refine jn_bipush (x := 40) E dX5_init_92 (by decide) ?_
  refine jn_newa (N' := 40) E dX5_init_94 (List.mem_cons_of_mem _ tw_612) (by decide) (by decide) (by decide) (by decide) (by decide) (fun a12 => ?_)
  refine jn_eq (ws2 := (q, .inr (5, [.ref a1, .ref a2, .ref a3, .ref a4, .int 0, .ref a5, .int 0, .int 0, .int 0, .ref a6, .ref a7, .ref a8, .int 0, .int 0, .int 0, .int 0, .int 0, .ref a9, .ref a10, .ref a11, .null])) :: [(a1, .inl (cI, 181, .inl (fun _ => 0))), (a2, .inl (cI, 181, .inl (fun _ => 0))), (a3, .inl (cI, 181, .inl (fun _ => 0))), (a4, .inl (cI, 7, .inl (fun _ => 0))), (a5, .inl (cI, 4, .inl (fun _ => 0))), (a6, .inl (cI, 4, .inl (fun _ => 0))), (a7, .inl (cI, 4, .inl (fun _ => 0))), (a8, .inl (cI, 120, .inl (fun _ => 0))), (a9, .inl (cI, 4, .inl (fun _ => 0))), (a10, .inl (cI, 4, .inl (fun _ => 0))), (a11, .inl (cI, 160, .inl (fun _ => 0))), (a12, .inl (cI, 40, .inl (fun _ => 0)))]) rfl ?_
  refine jn_putF (k := 20) (ci := 5) (T := TX5) (M := 21) (ty := .array .int) E tyX5 dX5_init_96 iX5 tyX5_ok nmX5 rfl (by decide) rfl (List.mem_cons_of_mem _ tw_594) rfl (by decide +kernel) rfl rfl (Nat.le_of_ble_eq_true rfl) ?_
  refine jn_eq (ws2 := (q, .inr (5, [.ref a1, .ref a2, .ref a3, .ref a4, .int 0, .ref a5, .int 0, .int 0, .int 0, .ref a6, .ref a7, .ref a8, .int 0, .int 0, .int 0, .int 0, .int 0, .ref a9, .ref a10, .ref a11, .ref a12])) :: [(a1, .inl (cI, 181, .inl (fun _ => 0))), (a2, .inl (cI, 181, .inl (fun _ => 0))), (a3, .inl (cI, 181, .inl (fun _ => 0))), (a4, .inl (cI, 7, .inl (fun _ => 0))), (a5, .inl (cI, 4, .inl (fun _ => 0))), (a6, .inl (cI, 4, .inl (fun _ => 0))), (a7, .inl (cI, 4, .inl (fun _ => 0))), (a8, .inl (cI, 120, .inl (fun _ => 0))), (a9, .inl (cI, 4, .inl (fun _ => 0))), (a10, .inl (cI, 4, .inl (fun _ => 0))), (a11, .inl (cI, 160, .inl (fun _ => 0))), (a12, .inl (cI, 40, .inl (fun _ => 0)))]) rfl ?_
  intro H locs ls hP hD hS hl
  have hI : jx_inj 13 (fun h => [q, a1, a2, a3, a4, a5, a6, a7, a8, a9, a10, a11, a12].getD h 0) A := jn_inj (fun i => i) (fun i _ j _ h => h) (fun i hi => match i, hi with
    | 0, _ => ⟨_, rfl⟩
    | 1, _ => ⟨_, rfl⟩
    | 2, _ => ⟨_, rfl⟩
    | 3, _ => ⟨_, rfl⟩
    | 4, _ => ⟨_, rfl⟩
    | 5, _ => ⟨_, rfl⟩
    | 6, _ => ⟨_, rfl⟩
    | 7, _ => ⟨_, rfl⟩
    | 8, _ => ⟨_, rfl⟩
    | 9, _ => ⟨_, rfl⟩
    | 10, _ => ⟨_, rfl⟩
    | 11, _ => ⟨_, rfl⟩
    | 12, _ => ⟨_, rfl⟩
    | k9 + 13, h9 => absurd h9 (by omega)) hD
  have hPJ : va_P D vwCl (jx_ws 13 cI cJ (fun h => [q, a1, a2, a3, a4, a5, a6, a7, a8, a9, a10, a11, a12].getD h 0) shM vs_X5) H := jn_P (fun h hh => match h, hh with
    | 0, _ => hP 0 _ rfl
    | 1, _ => hP 1 _ rfl
    | 2, _ => hP 2 _ rfl
    | 3, _ => hP 3 _ rfl
    | 4, _ => hP 4 _ rfl
    | 5, _ => hP 5 _ rfl
    | 6, _ => hP 6 _ rfl
    | 7, _ => hP 7 _ rfl
    | 8, _ => hP 8 _ rfl
    | 9, _ => hP 9 _ rfl
    | 10, _ => hP 10 _ rfl
    | 11, _ => hP 11 _ rfl
    | 12, _ => hP 12 _ rfl
    | k9 + 13, h9 => absurd h9 (by omega))
  obtain ⟨v', hf, hc⟩ := run_X5
  exact j_X5_init (ad := (fun h => [q, a1, a2, a3, a4, a5, a6, a7, a8, a9, a10, a11, a12].getD h 0)) (A := A) (Q := MQ below (va_Qv (fun (_ : Unit) => True) (fun _ t => ∃ a : Nat → Nat, a 0 = q ∧ va_P D vwCl (jx_ws 13 cI cJ a shM v0_X5) t.heap ∧ va_D A (jx_ws 13 cI cJ a shM v0_X5)) A) args s 12 890 A) (cI := cI) (cJ := cJ) ⟨E.1, E.2.1, E.2.2.1, E.2.2.2.1, E.2.2.2.2.1, E.2.2.2.2.2.1, E.2.2.2.2.2.2.1, E.2.2.2.2.2.2.2.1, hI, trivial, (ex_M_ok A)⟩ hI vs_X5 v' hf (fun H1 locs1 ls1 hP1 hS1 hl1 => W.vret E.1 E.2.1 E.2.2.2.2.2.1 (fun t ht hW => ⟨⟨(), rfl, trivial, ⟨(fun h => [q, a1, a2, a3, a4, a5, a6, a7, a8, a9, a10, a11, a12].getD h 0), rfl, jx_cong hc (by rw [ht]; exact hP1), jx_D hI⟩⟩, hS1.F ht⟩) hS1.2.2 dX5_init_180 E.2.2.2.2.2.2.1) H locs ls hPJ hS hl
set_option maxHeartbeats 4000000 in
set_option maxRecDepth 100000 in
theorem k_X4_init {l : Launch} {D : va_G} {cI cJ : ClassId} : jn_C l D vwCl cI cJ yX4_init (Cond.code yX4_init cX4_init 1 none :: bigT) rm_X4_init 4 [.null, .null, .null, .null, .null, .null, .null, .null, .null, .null, .int 0] 67 shX v0_X4 66 927 := by
  refine jn_enter bigT RX4 cX4_init 1 (by decide +kernel) rfl (by decide) rfl rfl ?_
  intro p e s m args below meth c q A E
  have iX0 : ∀ w ∈ u_ws RX0 TX0 3, w ∈ (Cond.code yX4_init cX4_init 1 none :: bigT) := fun w h => List.mem_cons_of_mem _ (uw_X0 w h)
  have iX1 : ∀ w ∈ u_ws RX1 TX1 3, w ∈ (Cond.code yX4_init cX4_init 1 none :: bigT) := fun w h => List.mem_cons_of_mem _ (uw_X1 w h)
  have iX2 : ∀ w ∈ u_ws RX2 TX2 7, w ∈ (Cond.code yX4_init cX4_init 1 none :: bigT) := fun w h => List.mem_cons_of_mem _ (uw_X2 w h)
  have iX3 : ∀ w ∈ u_ws RX3 TX3 8, w ∈ (Cond.code yX4_init cX4_init 1 none :: bigT) := fun w h => List.mem_cons_of_mem _ (uw_X3 w h)
  have iX4 : ∀ w ∈ u_ws RX4 TX4 11, w ∈ (Cond.code yX4_init cX4_init 1 none :: bigT) := fun w h => List.mem_cons_of_mem _ (uw_X4 w h)
  refine jn_aload_n E dX4_init_0 0 rfl ?_
  refine jn_objInit E dX4_init_1 (List.mem_cons_of_mem _ tw_619) (List.mem_cons_of_mem _ tw_610) (List.mem_cons_of_mem _ tw_611) (by decide) (by decide) ?_
  refine jn_aload_n E dX4_init_4 0 rfl ?_
  refine jn_new (ci := 3) (M := 8) (fs := [.null, .null, .null, .null, .null, .int 0, .int 0, .int 0]) E tyX3 dX4_init_5 iX3 tyX3_ok (List.mem_cons_of_mem _ tw_620) (List.mem_cons_of_mem _ tw_621) (List.mem_cons_of_mem _ tw_33) rfl (by decide) (by decide) (by decide) (fun q1 => ?_)
  refine jn_dup E dX4_init_8 rfl ?_
  refine jn_callN (ws := [(q, .inr (4, [.null, .null, .null, .null, .null, .null, .null, .null, .null, .null, .int 0]))]) E dX4_init_9 (k_X3_init (l := l) (D := D) (cI := cI) (cJ := cJ)) (gb_N tw_622) rfl rfl rfl (ex_cm0 E.2.2.2.2.2.2.2.2.2.1) (List.mem_cons_of_mem _ tw_33) (List.mem_cons_of_mem _ tw_623) rfl dd_X3_init.2 ⟨by decide, by decide⟩ ⟨by decide, by decide⟩ (Nat.le_of_ble_eq_true rfl) (fun b1 hb1 => ?_)
  subst hb1
  refine jn_eq (ws2 := (q, .inr (4, [.null, .null, .null, .null, .null, .null, .null, .null, .null, .null, .int 0])) :: (jx_ws 16 cI cJ b1 shZ v0_X3)) rfl ?_
  refine jn_putF (k := 0) (ci := 4) (T := TX4) (M := 11) (ty := .object "WindowViews$Town") E tyX4 dX4_init_12 iX4 tyX4_ok nmX4 rfl (by decide) rfl (List.mem_cons_of_mem _ tw_195) rfl (by decide +kernel) rfl rfl (Nat.le_of_ble_eq_true rfl) ?_
  refine jn_eq (ws2 := (q, .inr (4, [.ref (b1 0), .null, .null, .null, .null, .null, .null, .null, .null, .null, .int 0])) :: (jx_ws 16 cI cJ b1 shZ v0_X3)) rfl ?_
  refine jn_aload_n E dX4_init_15 0 rfl ?_
  refine jn_new (ci := 3) (M := 8) (fs := [.null, .null, .null, .null, .null, .int 0, .int 0, .int 0]) E tyX3 dX4_init_16 iX3 tyX3_ok (List.mem_cons_of_mem _ tw_620) (List.mem_cons_of_mem _ tw_621) (List.mem_cons_of_mem _ tw_33) rfl (by decide) (by decide) (by decide) (fun q2 => ?_)
  refine jn_dup E dX4_init_19 rfl ?_
  refine jn_callN (ws := (q, .inr (4, [.ref (b1 0), .null, .null, .null, .null, .null, .null, .null, .null, .null, .int 0])) :: (jx_ws 16 cI cJ b1 shZ v0_X3)) E dX4_init_20 (k_X3_init (l := l) (D := D) (cI := cI) (cJ := cJ)) (gb_N tw_622) rfl rfl rfl (ex_cm0 E.2.2.2.2.2.2.2.2.2.1) (List.mem_cons_of_mem _ tw_33) (List.mem_cons_of_mem _ tw_623) rfl dd_X3_init.2 ⟨by decide, by decide⟩ ⟨by decide, by decide⟩ (Nat.le_of_ble_eq_true rfl) (fun b2 hb2 => ?_)
  subst hb2
  refine jn_eq (ws2 := (q, .inr (4, [.ref (b1 0), .null, .null, .null, .null, .null, .null, .null, .null, .null, .int 0])) :: (jx_ws 16 cI cJ b1 shZ v0_X3 ++ jx_ws 16 cI cJ b2 shZ v0_X3)) rfl ?_
  refine jn_putF (k := 1) (ci := 4) (T := TX4) (M := 11) (ty := .object "WindowViews$Town") E tyX4 dX4_init_23 iX4 tyX4_ok nmX4 rfl (by decide) rfl (List.mem_cons_of_mem _ tw_308) rfl (by decide +kernel) rfl rfl (Nat.le_of_ble_eq_true rfl) ?_
  refine jn_eq (ws2 := (q, .inr (4, [.ref (b1 0), .ref (b2 0), .null, .null, .null, .null, .null, .null, .null, .null, .int 0])) :: (jx_ws 16 cI cJ b1 shZ v0_X3 ++ jx_ws 16 cI cJ b2 shZ v0_X3)) rfl ?_
  refine jn_aload_n E dX4_init_26 0 rfl ?_
  refine jn_new (ci := 3) (M := 8) (fs := [.null, .null, .null, .null, .null, .int 0, .int 0, .int 0]) E tyX3 dX4_init_27 iX3 tyX3_ok (List.mem_cons_of_mem _ tw_620) (List.mem_cons_of_mem _ tw_621) (List.mem_cons_of_mem _ tw_33) rfl (by decide) (by decide) (by decide) (fun q3 => ?_)
  refine jn_dup E dX4_init_30 rfl ?_
  refine jn_callN (ws := (q, .inr (4, [.ref (b1 0), .ref (b2 0), .null, .null, .null, .null, .null, .null, .null, .null, .int 0])) :: (jx_ws 16 cI cJ b1 shZ v0_X3 ++ jx_ws 16 cI cJ b2 shZ v0_X3)) E dX4_init_31 (k_X3_init (l := l) (D := D) (cI := cI) (cJ := cJ)) (gb_N tw_622) rfl rfl rfl (ex_cm0 E.2.2.2.2.2.2.2.2.2.1) (List.mem_cons_of_mem _ tw_33) (List.mem_cons_of_mem _ tw_623) rfl dd_X3_init.2 ⟨by decide, by decide⟩ ⟨by decide, by decide⟩ (Nat.le_of_ble_eq_true rfl) (fun b3 hb3 => ?_)
  subst hb3
  refine jn_eq (ws2 := (q, .inr (4, [.ref (b1 0), .ref (b2 0), .null, .null, .null, .null, .null, .null, .null, .null, .int 0])) :: (jx_ws 16 cI cJ b1 shZ v0_X3 ++ jx_ws 16 cI cJ b2 shZ v0_X3 ++ jx_ws 16 cI cJ b3 shZ v0_X3)) rfl ?_
  refine jn_putF (k := 2) (ci := 4) (T := TX4) (M := 11) (ty := .object "WindowViews$Town") E tyX4 dX4_init_34 iX4 tyX4_ok nmX4 rfl (by decide) rfl (List.mem_cons_of_mem _ tw_234) rfl (by decide +kernel) rfl rfl (Nat.le_of_ble_eq_true rfl) ?_
  refine jn_eq (ws2 := (q, .inr (4, [.ref (b1 0), .ref (b2 0), .ref (b3 0), .null, .null, .null, .null, .null, .null, .null, .int 0])) :: (jx_ws 16 cI cJ b1 shZ v0_X3 ++ jx_ws 16 cI cJ b2 shZ v0_X3 ++ jx_ws 16 cI cJ b3 shZ v0_X3)) rfl ?_
  refine jn_aload_n E dX4_init_37 0 rfl ?_
  refine jn_new (ci := 0) (M := 3) (fs := [.null, .null, .null]) E tyX0 dX4_init_38 iX0 tyX0_ok (List.mem_cons_of_mem _ tw_624) (List.mem_cons_of_mem _ tw_625) (List.mem_cons_of_mem _ tw_49) rfl (by decide) (by decide) (by decide) (fun q4 => ?_)
  refine jn_dup E dX4_init_41 rfl ?_
  refine jn_callN (ws := (q, .inr (4, [.ref (b1 0), .ref (b2 0), .ref (b3 0), .null, .null, .null, .null, .null, .null, .null, .int 0])) :: (jx_ws 16 cI cJ b1 shZ v0_X3 ++ jx_ws 16 cI cJ b2 shZ v0_X3 ++ jx_ws 16 cI cJ b3 shZ v0_X3)) E dX4_init_42 (k_X0_init (l := l) (D := D) (cI := cI) (cJ := cJ)) (gb_N tw_626) rfl rfl rfl (ex_cm1 E.2.2.2.2.2.2.2.2.2.1) (List.mem_cons_of_mem _ tw_49) (List.mem_cons_of_mem _ tw_627) rfl dd_X0_init.2 ⟨by decide, by decide⟩ ⟨by decide, by decide⟩ (Nat.le_of_ble_eq_true rfl) (fun b4 hb4 => ?_)
  subst hb4
  refine jn_eq (ws2 := (q, .inr (4, [.ref (b1 0), .ref (b2 0), .ref (b3 0), .null, .null, .null, .null, .null, .null, .null, .int 0])) :: (jx_ws 16 cI cJ b1 shZ v0_X3 ++ jx_ws 16 cI cJ b2 shZ v0_X3 ++ jx_ws 16 cI cJ b3 shZ v0_X3 ++ jx_ws 4 cI cJ b4 shX0 v0_X0)) rfl ?_
  refine jn_putF (k := 3) (ci := 4) (T := TX4) (M := 11) (ty := .object "WindowViews$Glance") E tyX4 dX4_init_45 iX4 tyX4_ok nmX4 rfl (by decide) rfl (List.mem_cons_of_mem _ tw_209) rfl (by decide +kernel) rfl rfl (Nat.le_of_ble_eq_true rfl) ?_
  refine jn_eq (ws2 := (q, .inr (4, [.ref (b1 0), .ref (b2 0), .ref (b3 0), .ref (b4 0), .null, .null, .null, .null, .null, .null, .int 0])) :: (jx_ws 16 cI cJ b1 shZ v0_X3 ++ jx_ws 16 cI cJ b2 shZ v0_X3 ++ jx_ws 16 cI cJ b3 shZ v0_X3 ++ jx_ws 4 cI cJ b4 shX0 v0_X0)) rfl ?_
  refine jn_aload_n E dX4_init_48 0 rfl ?_
  refine jn_new (ci := 2) (M := 7) (fs := [.null, .int 0, .int 0, .int 0, .int 0, .int 0, .int 0]) E tyX2 dX4_init_49 iX2 tyX2_ok (List.mem_cons_of_mem _ tw_628) (List.mem_cons_of_mem _ tw_629) (List.mem_cons_of_mem _ tw_100) rfl (by decide) (by decide) (by decide) (fun q5 => ?_)
  refine jn_dup E dX4_init_52 rfl ?_
  refine jn_callN (ws := (q, .inr (4, [.ref (b1 0), .ref (b2 0), .ref (b3 0), .ref (b4 0), .null, .null, .null, .null, .null, .null, .int 0])) :: (jx_ws 16 cI cJ b1 shZ v0_X3 ++ jx_ws 16 cI cJ b2 shZ v0_X3 ++ jx_ws 16 cI cJ b3 shZ v0_X3 ++ jx_ws 4 cI cJ b4 shX0 v0_X0)) E dX4_init_53 (k_X2_init (l := l) (D := D) (cI := cI) (cJ := cJ)) (gb_N tw_630) rfl rfl rfl (ex_cm2 E.2.2.2.2.2.2.2.2.2.1) (List.mem_cons_of_mem _ tw_100) (List.mem_cons_of_mem _ tw_631) rfl dd_X2_init.2 ⟨by decide, by decide⟩ ⟨by decide, by decide⟩ (Nat.le_of_ble_eq_true rfl) (fun b5 hb5 => ?_)
  subst hb5
  refine jn_eq (ws2 := (q, .inr (4, [.ref (b1 0), .ref (b2 0), .ref (b3 0), .ref (b4 0), .null, .null, .null, .null, .null, .null, .int 0])) :: (jx_ws 16 cI cJ b1 shZ v0_X3 ++ jx_ws 16 cI cJ b2 shZ v0_X3 ++ jx_ws 16 cI cJ b3 shZ v0_X3 ++ jx_ws 4 cI cJ b4 shX0 v0_X0 ++ jx_ws 2 cI cJ b5 shX2 v0_X2)) rfl ?_
  refine jn_putF (k := 4) (ci := 4) (T := TX4) (M := 11) (ty := .object "WindowViews$Tape") E tyX4 dX4_init_56 iX4 tyX4_ok nmX4 rfl (by decide) rfl (List.mem_cons_of_mem _ tw_280) rfl (by decide +kernel) rfl rfl (Nat.le_of_ble_eq_true rfl) ?_
  refine jn_eq (ws2 := (q, .inr (4, [.ref (b1 0), .ref (b2 0), .ref (b3 0), .ref (b4 0), .ref (b5 0), .null, .null, .null, .null, .null, .int 0])) :: (jx_ws 16 cI cJ b1 shZ v0_X3 ++ jx_ws 16 cI cJ b2 shZ v0_X3 ++ jx_ws 16 cI cJ b3 shZ v0_X3 ++ jx_ws 4 cI cJ b4 shX0 v0_X0 ++ jx_ws 2 cI cJ b5 shX2 v0_X2)) rfl ?_
  refine jn_aload_n E dX4_init_59 0 rfl ?_
  refine jn_new (ci := 1) (M := 3) (fs := [.null, .null, .null]) E tyX1 dX4_init_60 iX1 tyX1_ok (List.mem_cons_of_mem _ tw_632) (List.mem_cons_of_mem _ tw_633) (List.mem_cons_of_mem _ tw_295) rfl (by decide) (by decide) (by decide) (fun q6 => ?_)
  refine jn_dup E dX4_init_63 rfl ?_
  refine jn_callN (ws := (q, .inr (4, [.ref (b1 0), .ref (b2 0), .ref (b3 0), .ref (b4 0), .ref (b5 0), .null, .null, .null, .null, .null, .int 0])) :: (jx_ws 16 cI cJ b1 shZ v0_X3 ++ jx_ws 16 cI cJ b2 shZ v0_X3 ++ jx_ws 16 cI cJ b3 shZ v0_X3 ++ jx_ws 4 cI cJ b4 shX0 v0_X0 ++ jx_ws 2 cI cJ b5 shX2 v0_X2)) E dX4_init_64 (k_X1_init (l := l) (D := D) (cI := cI) (cJ := cJ)) (gb_N tw_634) rfl rfl rfl (ex_cm3 E.2.2.2.2.2.2.2.2.2.1) (List.mem_cons_of_mem _ tw_295) (List.mem_cons_of_mem _ tw_635) rfl dd_X1_init.2 ⟨by decide, by decide⟩ ⟨by decide, by decide⟩ (Nat.le_of_ble_eq_true rfl) (fun b6 hb6 => ?_)
  subst hb6
  refine jn_eq (ws2 := (q, .inr (4, [.ref (b1 0), .ref (b2 0), .ref (b3 0), .ref (b4 0), .ref (b5 0), .null, .null, .null, .null, .null, .int 0])) :: (jx_ws 16 cI cJ b1 shZ v0_X3 ++ jx_ws 16 cI cJ b2 shZ v0_X3 ++ jx_ws 16 cI cJ b3 shZ v0_X3 ++ jx_ws 4 cI cJ b4 shX0 v0_X0 ++ jx_ws 2 cI cJ b5 shX2 v0_X2 ++ jx_ws 8 cI cJ b6 shX1 v0_X1)) rfl ?_
  refine jn_putF (k := 5) (ci := 4) (T := TX4) (M := 11) (ty := .object "WindowViews$Sheets") E tyX4 dX4_init_67 iX4 tyX4_ok nmX4 rfl (by decide) rfl (List.mem_cons_of_mem _ tw_293) rfl (by decide +kernel) rfl rfl (Nat.le_of_ble_eq_true rfl) ?_
  refine jn_eq (ws2 := (q, .inr (4, [.ref (b1 0), .ref (b2 0), .ref (b3 0), .ref (b4 0), .ref (b5 0), .ref (b6 0), .null, .null, .null, .null, .int 0])) :: (jx_ws 16 cI cJ b1 shZ v0_X3 ++ jx_ws 16 cI cJ b2 shZ v0_X3 ++ jx_ws 16 cI cJ b3 shZ v0_X3 ++ jx_ws 4 cI cJ b4 shX0 v0_X0 ++ jx_ws 2 cI cJ b5 shX2 v0_X2 ++ jx_ws 8 cI cJ b6 shX1 v0_X1)) rfl ?_
  refine jn_aload_n E dX4_init_70 0 rfl ?_
  refine jn_bipush (x := 7) E dX4_init_71 (by decide) ?_
  refine jn_newa (N' := 7) E dX4_init_73 (List.mem_cons_of_mem _ tw_612) (by decide) (by decide) (by decide) (by decide) (by decide) (fun a7 => ?_)
  refine jn_eq (ws2 := (q, .inr (4, [.ref (b1 0), .ref (b2 0), .ref (b3 0), .ref (b4 0), .ref (b5 0), .ref (b6 0), .null, .null, .null, .null, .int 0])) :: (jx_ws 16 cI cJ b1 shZ v0_X3 ++ jx_ws 16 cI cJ b2 shZ v0_X3 ++ jx_ws 16 cI cJ b3 shZ v0_X3 ++ jx_ws 4 cI cJ b4 shX0 v0_X0 ++ jx_ws 2 cI cJ b5 shX2 v0_X2 ++ jx_ws 8 cI cJ b6 shX1 v0_X1 ++ [(a7, .inl (cI, 7, .inl (fun _ => 0)))])) rfl ?_
  refine jn_putF (k := 6) (ci := 4) (T := TX4) (M := 11) (ty := .array .int) E tyX4 dX4_init_75 iX4 tyX4_ok nmX4 rfl (by decide) rfl (List.mem_cons_of_mem _ tw_185) rfl (by decide +kernel) rfl rfl (Nat.le_of_ble_eq_true rfl) ?_
  refine jn_eq (ws2 := (q, .inr (4, [.ref (b1 0), .ref (b2 0), .ref (b3 0), .ref (b4 0), .ref (b5 0), .ref (b6 0), .ref a7, .null, .null, .null, .int 0])) :: (jx_ws 16 cI cJ b1 shZ v0_X3 ++ jx_ws 16 cI cJ b2 shZ v0_X3 ++ jx_ws 16 cI cJ b3 shZ v0_X3 ++ jx_ws 4 cI cJ b4 shX0 v0_X0 ++ jx_ws 2 cI cJ b5 shX2 v0_X2 ++ jx_ws 8 cI cJ b6 shX1 v0_X1 ++ [(a7, .inl (cI, 7, .inl (fun _ => 0)))])) rfl ?_
  refine jn_aload_n E dX4_init_78 0 rfl ?_
  refine jn_iconst (x := 4) E dX4_init_79 (by decide) ?_
  refine jn_newa (N' := 4) E dX4_init_80 (List.mem_cons_of_mem _ tw_612) (by decide) (by decide) (by decide) (by decide) (by decide) (fun a8 => ?_)
  refine jn_eq (ws2 := (q, .inr (4, [.ref (b1 0), .ref (b2 0), .ref (b3 0), .ref (b4 0), .ref (b5 0), .ref (b6 0), .ref a7, .null, .null, .null, .int 0])) :: (jx_ws 16 cI cJ b1 shZ v0_X3 ++ jx_ws 16 cI cJ b2 shZ v0_X3 ++ jx_ws 16 cI cJ b3 shZ v0_X3 ++ jx_ws 4 cI cJ b4 shX0 v0_X0 ++ jx_ws 2 cI cJ b5 shX2 v0_X2 ++ jx_ws 8 cI cJ b6 shX1 v0_X1 ++ [(a7, .inl (cI, 7, .inl (fun _ => 0))), (a8, .inl (cI, 4, .inl (fun _ => 0)))])) rfl ?_
  refine jn_putF (k := 7) (ci := 4) (T := TX4) (M := 11) (ty := .array .int) E tyX4 dX4_init_82 iX4 tyX4_ok nmX4 rfl (by decide) rfl (List.mem_cons_of_mem _ tw_253) rfl (by decide +kernel) rfl rfl (Nat.le_of_ble_eq_true rfl) ?_
  refine jn_eq (ws2 := (q, .inr (4, [.ref (b1 0), .ref (b2 0), .ref (b3 0), .ref (b4 0), .ref (b5 0), .ref (b6 0), .ref a7, .ref a8, .null, .null, .int 0])) :: (jx_ws 16 cI cJ b1 shZ v0_X3 ++ jx_ws 16 cI cJ b2 shZ v0_X3 ++ jx_ws 16 cI cJ b3 shZ v0_X3 ++ jx_ws 4 cI cJ b4 shX0 v0_X0 ++ jx_ws 2 cI cJ b5 shX2 v0_X2 ++ jx_ws 8 cI cJ b6 shX1 v0_X1 ++ [(a7, .inl (cI, 7, .inl (fun _ => 0))), (a8, .inl (cI, 4, .inl (fun _ => 0)))])) rfl ?_
  refine jn_aload_n E dX4_init_85 0 rfl ?_
  refine jn_iconst (x := 4) E dX4_init_86 (by decide) ?_
  refine jn_newa (N' := 4) E dX4_init_87 (List.mem_cons_of_mem _ tw_612) (by decide) (by decide) (by decide) (by decide) (by decide) (fun a9 => ?_)
  refine jn_eq (ws2 := (q, .inr (4, [.ref (b1 0), .ref (b2 0), .ref (b3 0), .ref (b4 0), .ref (b5 0), .ref (b6 0), .ref a7, .ref a8, .null, .null, .int 0])) :: (jx_ws 16 cI cJ b1 shZ v0_X3 ++ jx_ws 16 cI cJ b2 shZ v0_X3 ++ jx_ws 16 cI cJ b3 shZ v0_X3 ++ jx_ws 4 cI cJ b4 shX0 v0_X0 ++ jx_ws 2 cI cJ b5 shX2 v0_X2 ++ jx_ws 8 cI cJ b6 shX1 v0_X1 ++ [(a7, .inl (cI, 7, .inl (fun _ => 0))), (a8, .inl (cI, 4, .inl (fun _ => 0))), (a9, .inl (cI, 4, .inl (fun _ => 0)))])) rfl ?_
  refine jn_putF (k := 8) (ci := 4) (T := TX4) (M := 11) (ty := .array .int) E tyX4 dX4_init_89 iX4 tyX4_ok nmX4 rfl (by decide) rfl (List.mem_cons_of_mem _ tw_217) rfl (by decide +kernel) rfl rfl (Nat.le_of_ble_eq_true rfl) ?_
  refine jn_eq (ws2 := (q, .inr (4, [.ref (b1 0), .ref (b2 0), .ref (b3 0), .ref (b4 0), .ref (b5 0), .ref (b6 0), .ref a7, .ref a8, .ref a9, .null, .int 0])) :: (jx_ws 16 cI cJ b1 shZ v0_X3 ++ jx_ws 16 cI cJ b2 shZ v0_X3 ++ jx_ws 16 cI cJ b3 shZ v0_X3 ++ jx_ws 4 cI cJ b4 shX0 v0_X0 ++ jx_ws 2 cI cJ b5 shX2 v0_X2 ++ jx_ws 8 cI cJ b6 shX1 v0_X1 ++ [(a7, .inl (cI, 7, .inl (fun _ => 0))), (a8, .inl (cI, 4, .inl (fun _ => 0))), (a9, .inl (cI, 4, .inl (fun _ => 0)))])) rfl ?_
  refine jn_aload_n E dX4_init_92 0 rfl ?_
  refine jn_iconst (x := 4) E dX4_init_93 (by decide) ?_
  refine jn_newa (N' := 4) E dX4_init_94 (List.mem_cons_of_mem _ tw_612) (by decide) (by decide) (by decide) (by decide) (by decide) (fun a10 => ?_)
  refine jn_eq (ws2 := (q, .inr (4, [.ref (b1 0), .ref (b2 0), .ref (b3 0), .ref (b4 0), .ref (b5 0), .ref (b6 0), .ref a7, .ref a8, .ref a9, .null, .int 0])) :: (jx_ws 16 cI cJ b1 shZ v0_X3 ++ jx_ws 16 cI cJ b2 shZ v0_X3 ++ jx_ws 16 cI cJ b3 shZ v0_X3 ++ jx_ws 4 cI cJ b4 shX0 v0_X0 ++ jx_ws 2 cI cJ b5 shX2 v0_X2 ++ jx_ws 8 cI cJ b6 shX1 v0_X1 ++ [(a7, .inl (cI, 7, .inl (fun _ => 0))), (a8, .inl (cI, 4, .inl (fun _ => 0))), (a9, .inl (cI, 4, .inl (fun _ => 0))), (a10, .inl (cI, 4, .inl (fun _ => 0)))])) rfl ?_
  refine jn_putF (k := 9) (ci := 4) (T := TX4) (M := 11) (ty := .array .int) E tyX4 dX4_init_96 iX4 tyX4_ok nmX4 rfl (by decide) rfl (List.mem_cons_of_mem _ tw_216) rfl (by decide +kernel) rfl rfl (Nat.le_of_ble_eq_true rfl) ?_
  refine jn_eq (ws2 := (q, .inr (4, [.ref (b1 0), .ref (b2 0), .ref (b3 0), .ref (b4 0), .ref (b5 0), .ref (b6 0), .ref a7, .ref a8, .ref a9, .ref a10, .int 0])) :: (jx_ws 16 cI cJ b1 shZ v0_X3 ++ jx_ws 16 cI cJ b2 shZ v0_X3 ++ jx_ws 16 cI cJ b3 shZ v0_X3 ++ jx_ws 4 cI cJ b4 shX0 v0_X0 ++ jx_ws 2 cI cJ b5 shX2 v0_X2 ++ jx_ws 8 cI cJ b6 shX1 v0_X1 ++ [(a7, .inl (cI, 7, .inl (fun _ => 0))), (a8, .inl (cI, 4, .inl (fun _ => 0))), (a9, .inl (cI, 4, .inl (fun _ => 0))), (a10, .inl (cI, 4, .inl (fun _ => 0)))])) rfl ?_
  refine jn_aload_n E dX4_init_99 0 rfl ?_
  refine jn_iconst (x := 0) E dX4_init_100 (by decide) ?_
  refine jn_puti (k := 10) (ci := 4) (T := TX4) (M := 11) (ty := .boolean) E tyX4 dX4_init_101 iX4 tyX4_ok nmX4 rfl (by decide) rfl (List.mem_cons_of_mem _ tw_309) rfl (by decide +kernel) rfl rfl (Nat.le_of_ble_eq_true rfl) ?_
  refine jn_eq (ws2 := (q, .inr (4, [.ref (b1 0), .ref (b2 0), .ref (b3 0), .ref (b4 0), .ref (b5 0), .ref (b6 0), .ref a7, .ref a8, .ref a9, .ref a10, .int 0])) :: (jx_ws 16 cI cJ b1 shZ v0_X3 ++ jx_ws 16 cI cJ b2 shZ v0_X3 ++ jx_ws 16 cI cJ b3 shZ v0_X3 ++ jx_ws 4 cI cJ b4 shX0 v0_X0 ++ jx_ws 2 cI cJ b5 shX2 v0_X2 ++ jx_ws 8 cI cJ b6 shX1 v0_X1 ++ [(a7, .inl (cI, 7, .inl (fun _ => 0))), (a8, .inl (cI, 4, .inl (fun _ => 0))), (a9, .inl (cI, 4, .inl (fun _ => 0))), (a10, .inl (cI, 4, .inl (fun _ => 0)))])) rfl ?_
  refine jn_vret (v0 := v0_X4) (sh := shX) (n := 67) E (fun h => if h < 1 then q else if h < 17 then b1 (h - 1) else if h < 33 then b2 (h - 17) else if h < 49 then b3 (h - 33) else if h < 53 then b4 (h - 49) else if h < 55 then b5 (h - 53) else if h < 63 then b6 (h - 55) else [a7, a8, a9, a10].getD (h - 63) 0) rfl dX4_init_104 (fun hD => jn_inj (fun i => i) (fun i _ j _ h => h) (fun i hi => ?_) hD) (fun H hP => jn_P (fun h hh => ?_))
  · exact match i, hi with
    | 0, _ => ⟨_, rfl⟩
    | 1, _ => ⟨_, rfl⟩
    | 2, _ => ⟨_, rfl⟩
    | 3, _ => ⟨_, rfl⟩
    | 4, _ => ⟨_, rfl⟩
    | 5, _ => ⟨_, rfl⟩
    | 6, _ => ⟨_, rfl⟩
    | 7, _ => ⟨_, rfl⟩
    | 8, _ => ⟨_, rfl⟩
    | 9, _ => ⟨_, rfl⟩
    | 10, _ => ⟨_, rfl⟩
    | 11, _ => ⟨_, rfl⟩
    | 12, _ => ⟨_, rfl⟩
    | 13, _ => ⟨_, rfl⟩
    | 14, _ => ⟨_, rfl⟩
    | 15, _ => ⟨_, rfl⟩
    | 16, _ => ⟨_, rfl⟩
    | 17, _ => ⟨_, rfl⟩
    | 18, _ => ⟨_, rfl⟩
    | 19, _ => ⟨_, rfl⟩
    | 20, _ => ⟨_, rfl⟩
    | 21, _ => ⟨_, rfl⟩
    | 22, _ => ⟨_, rfl⟩
    | 23, _ => ⟨_, rfl⟩
    | 24, _ => ⟨_, rfl⟩
    | 25, _ => ⟨_, rfl⟩
    | 26, _ => ⟨_, rfl⟩
    | 27, _ => ⟨_, rfl⟩
    | 28, _ => ⟨_, rfl⟩
    | 29, _ => ⟨_, rfl⟩
    | 30, _ => ⟨_, rfl⟩
    | 31, _ => ⟨_, rfl⟩
    | 32, _ => ⟨_, rfl⟩
    | 33, _ => ⟨_, rfl⟩
    | 34, _ => ⟨_, rfl⟩
    | 35, _ => ⟨_, rfl⟩
    | 36, _ => ⟨_, rfl⟩
    | 37, _ => ⟨_, rfl⟩
    | 38, _ => ⟨_, rfl⟩
    | 39, _ => ⟨_, rfl⟩
    | 40, _ => ⟨_, rfl⟩
    | 41, _ => ⟨_, rfl⟩
    | 42, _ => ⟨_, rfl⟩
    | 43, _ => ⟨_, rfl⟩
    | 44, _ => ⟨_, rfl⟩
    | 45, _ => ⟨_, rfl⟩
    | 46, _ => ⟨_, rfl⟩
    | 47, _ => ⟨_, rfl⟩
    | 48, _ => ⟨_, rfl⟩
    | 49, _ => ⟨_, rfl⟩
    | 50, _ => ⟨_, rfl⟩
    | 51, _ => ⟨_, rfl⟩
    | 52, _ => ⟨_, rfl⟩
    | 53, _ => ⟨_, rfl⟩
    | 54, _ => ⟨_, rfl⟩
    | 55, _ => ⟨_, rfl⟩
    | 56, _ => ⟨_, rfl⟩
    | 57, _ => ⟨_, rfl⟩
    | 58, _ => ⟨_, rfl⟩
    | 59, _ => ⟨_, rfl⟩
    | 60, _ => ⟨_, rfl⟩
    | 61, _ => ⟨_, rfl⟩
    | 62, _ => ⟨_, rfl⟩
    | 63, _ => ⟨_, rfl⟩
    | 64, _ => ⟨_, rfl⟩
    | 65, _ => ⟨_, rfl⟩
    | 66, _ => ⟨_, rfl⟩
    | k9 + 67, h9 => absurd h9 (by omega)
  · exact match h, hh with
    | 0, _ => hP 0 _ rfl
    | 1, _ => hP 1 _ rfl
    | 2, _ => by
      have h9 : va_at D vwCl (b1 1, .inl (cJ, 4, .inr (.inr (.inr (.inr (fun i : Nat => ([3, 4, 5, 6][i]?).map b1)))))) H := hP 2 _ rfl
      rw [jn_outer (hs := [3, 4, 5, 6]) (a := b1) (hs' := [4, 5, 6, 7]) (b := (fun h => if h < 1 then q else if h < 17 then b1 (h - 1) else if h < 33 then b2 (h - 17) else if h < 49 then b3 (h - 33) else if h < 53 then b4 (h - 49) else if h < 55 then b5 (h - 53) else if h < 63 then b6 (h - 55) else [a7, a8, a9, a10].getD (h - 63) 0)) rfl] at h9
      exact h9
    | 3, _ => by
      have h9 : va_at D vwCl (b1 2, .inl (cJ, 6, .inr (.inr (.inr (.inr (fun i : Nat => ([7, 8, 9, 10, 11, 12][i]?).map b1)))))) H := hP 3 _ rfl
      rw [jn_outer (hs := [7, 8, 9, 10, 11, 12]) (a := b1) (hs' := [8, 9, 10, 11, 12, 13]) (b := (fun h => if h < 1 then q else if h < 17 then b1 (h - 1) else if h < 33 then b2 (h - 17) else if h < 49 then b3 (h - 33) else if h < 53 then b4 (h - 49) else if h < 55 then b5 (h - 53) else if h < 63 then b6 (h - 55) else [a7, a8, a9, a10].getD (h - 63) 0)) rfl] at h9
      exact h9
    | 4, _ => hP 4 _ rfl
    | 5, _ => hP 5 _ rfl
    | 6, _ => hP 6 _ rfl
    | 7, _ => hP 7 _ rfl
    | 8, _ => hP 8 _ rfl
    | 9, _ => hP 9 _ rfl
    | 10, _ => hP 10 _ rfl
    | 11, _ => hP 11 _ rfl
    | 12, _ => hP 12 _ rfl
    | 13, _ => hP 13 _ rfl
    | 14, _ => hP 14 _ rfl
    | 15, _ => hP 15 _ rfl
    | 16, _ => hP 16 _ rfl
    | 17, _ => hP 17 _ rfl
    | 18, _ => by
      have h9 : va_at D vwCl (b2 1, .inl (cJ, 4, .inr (.inr (.inr (.inr (fun i : Nat => ([3, 4, 5, 6][i]?).map b2)))))) H := hP 18 _ rfl
      rw [jn_outer (hs := [3, 4, 5, 6]) (a := b2) (hs' := [20, 21, 22, 23]) (b := (fun h => if h < 1 then q else if h < 17 then b1 (h - 1) else if h < 33 then b2 (h - 17) else if h < 49 then b3 (h - 33) else if h < 53 then b4 (h - 49) else if h < 55 then b5 (h - 53) else if h < 63 then b6 (h - 55) else [a7, a8, a9, a10].getD (h - 63) 0)) rfl] at h9
      exact h9
    | 19, _ => by
      have h9 : va_at D vwCl (b2 2, .inl (cJ, 6, .inr (.inr (.inr (.inr (fun i : Nat => ([7, 8, 9, 10, 11, 12][i]?).map b2)))))) H := hP 19 _ rfl
      rw [jn_outer (hs := [7, 8, 9, 10, 11, 12]) (a := b2) (hs' := [24, 25, 26, 27, 28, 29]) (b := (fun h => if h < 1 then q else if h < 17 then b1 (h - 1) else if h < 33 then b2 (h - 17) else if h < 49 then b3 (h - 33) else if h < 53 then b4 (h - 49) else if h < 55 then b5 (h - 53) else if h < 63 then b6 (h - 55) else [a7, a8, a9, a10].getD (h - 63) 0)) rfl] at h9
      exact h9
    | 20, _ => hP 20 _ rfl
    | 21, _ => hP 21 _ rfl
    | 22, _ => hP 22 _ rfl
    | 23, _ => hP 23 _ rfl
    | 24, _ => hP 24 _ rfl
    | 25, _ => hP 25 _ rfl
    | 26, _ => hP 26 _ rfl
    | 27, _ => hP 27 _ rfl
    | 28, _ => hP 28 _ rfl
    | 29, _ => hP 29 _ rfl
    | 30, _ => hP 30 _ rfl
    | 31, _ => hP 31 _ rfl
    | 32, _ => hP 32 _ rfl
    | 33, _ => hP 33 _ rfl
    | 34, _ => by
      have h9 : va_at D vwCl (b3 1, .inl (cJ, 4, .inr (.inr (.inr (.inr (fun i : Nat => ([3, 4, 5, 6][i]?).map b3)))))) H := hP 34 _ rfl
      rw [jn_outer (hs := [3, 4, 5, 6]) (a := b3) (hs' := [36, 37, 38, 39]) (b := (fun h => if h < 1 then q else if h < 17 then b1 (h - 1) else if h < 33 then b2 (h - 17) else if h < 49 then b3 (h - 33) else if h < 53 then b4 (h - 49) else if h < 55 then b5 (h - 53) else if h < 63 then b6 (h - 55) else [a7, a8, a9, a10].getD (h - 63) 0)) rfl] at h9
      exact h9
    | 35, _ => by
      have h9 : va_at D vwCl (b3 2, .inl (cJ, 6, .inr (.inr (.inr (.inr (fun i : Nat => ([7, 8, 9, 10, 11, 12][i]?).map b3)))))) H := hP 35 _ rfl
      rw [jn_outer (hs := [7, 8, 9, 10, 11, 12]) (a := b3) (hs' := [40, 41, 42, 43, 44, 45]) (b := (fun h => if h < 1 then q else if h < 17 then b1 (h - 1) else if h < 33 then b2 (h - 17) else if h < 49 then b3 (h - 33) else if h < 53 then b4 (h - 49) else if h < 55 then b5 (h - 53) else if h < 63 then b6 (h - 55) else [a7, a8, a9, a10].getD (h - 63) 0)) rfl] at h9
      exact h9
    | 36, _ => hP 36 _ rfl
    | 37, _ => hP 37 _ rfl
    | 38, _ => hP 38 _ rfl
    | 39, _ => hP 39 _ rfl
    | 40, _ => hP 40 _ rfl
    | 41, _ => hP 41 _ rfl
    | 42, _ => hP 42 _ rfl
    | 43, _ => hP 43 _ rfl
    | 44, _ => hP 44 _ rfl
    | 45, _ => hP 45 _ rfl
    | 46, _ => hP 46 _ rfl
    | 47, _ => hP 47 _ rfl
    | 48, _ => hP 48 _ rfl
    | 49, _ => hP 49 _ rfl
    | 50, _ => hP 50 _ rfl
    | 51, _ => hP 51 _ rfl
    | 52, _ => hP 52 _ rfl
    | 53, _ => hP 53 _ rfl
    | 54, _ => hP 54 _ rfl
    | 55, _ => hP 55 _ rfl
    | 56, _ => by
      have h9 : va_at D vwCl (b6 1, .inl (cJ, 4, .inr (.inr (.inr (.inr (fun i : Nat => ([2, 3, 4, 5][i]?).map b6)))))) H := hP 56 _ rfl
      rw [jn_outer (hs := [2, 3, 4, 5]) (a := b6) (hs' := [57, 58, 59, 60]) (b := (fun h => if h < 1 then q else if h < 17 then b1 (h - 1) else if h < 33 then b2 (h - 17) else if h < 49 then b3 (h - 33) else if h < 53 then b4 (h - 49) else if h < 55 then b5 (h - 53) else if h < 63 then b6 (h - 55) else [a7, a8, a9, a10].getD (h - 63) 0)) rfl] at h9
      exact h9
    | 57, _ => hP 57 _ rfl
    | 58, _ => hP 58 _ rfl
    | 59, _ => hP 59 _ rfl
    | 60, _ => hP 60 _ rfl
    | 61, _ => hP 61 _ rfl
    | 62, _ => hP 62 _ rfl
    | 63, _ => hP 63 _ rfl
    | 64, _ => hP 64 _ rfl
    | 65, _ => hP 65 _ rfl
    | 66, _ => hP 66 _ rfl
    | k9 + 67, h9 => absurd h9 (by omega)
