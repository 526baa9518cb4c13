theorem tw_1036 : Cond.code yX4_init cX4_init 1 (none) ∈ bigT := bt_of 18 (by decide +kernel) rfl
theorem tw_1037 : Cond.methodLink R_law 9 yX4_init ∈ bigT := bt_of 16 (by decide +kernel) rfl
theorem tw_1038 : Cond.instanceMethod yX4_init ∈ bigT := bt_of 17 (by decide +kernel) rfl
theorem tw_1039 : Cond.code yX5_init cX5_init 2 (none) ∈ bigT := bt_of 729 (by decide +kernel) rfl
theorem tw_1040 : Cond.methodLink R_law 12 yX5_init ∈ bigT := bt_of 727 (by decide +kernel) rfl
theorem tw_1041 : Cond.instanceMethod yX5_init ∈ bigT := bt_of 728 (by decide +kernel) rfl
/-! From the law's entry to its loop. Own work. -/
def ex_tm (i : Nat) : Term := .string RX2 (ex_si.getD i 0)
def sm_exo : List Nat := [0, 1, 2, 3, 4, 5, 6, 7, 8, 9, 10, 11, 12, 13, 14, 15, 16]
theorem sm_exm : ∀ i, i < 17 → i ∈ sm_exo := by decide +kernel
theorem sm_exa : ∀ w ∈ sm_exo.map (fun i => Cond.exactly (ex_tm i) "java/lang/String"), w ∈ flatC (Jvm.Cond.and given_1 narrow_1) := sb_all _ _ (by decide +kernel)
theorem sm_ex : ∀ i, i < 17 → Cond.exactly (ex_tm i) "java/lang/String" ∈ flatC (Jvm.Cond.and given_1 narrow_1) := fun i hi => sm_exa _ (List.mem_map.mpr ⟨i, sm_exm i hi, rfl⟩)
def sm_coo : List Nat := [0, 1, 2, 3, 4, 5, 6, 7, 8, 9, 10, 11, 12, 13, 14, 15, 16]
theorem sm_com : ∀ i, i < 17 → i ∈ sm_coo := by decide +kernel
theorem sm_coa : ∀ w ∈ sm_coo.map (fun i => Cond.eq (.field (ex_tm i) "java/lang/String" "coder" "B") (.int 0)), w ∈ flatC (Jvm.Cond.and given_1 narrow_1) := sb_all _ _ (by decide +kernel)
theorem sm_co : ∀ i, i < 17 → Cond.eq (.field (ex_tm i) "java/lang/String" "coder" "B") (.int 0) ∈ flatC (Jvm.Cond.and given_1 narrow_1) := fun i hi => sm_coa _ (List.mem_map.mpr ⟨i, sm_com i hi, rfl⟩)
def sm_aro : List Nat := [0, 1, 2, 3, 4, 5, 6, 7, 8, 9, 10, 11, 12, 13, 14, 15, 16]
theorem sm_arm : ∀ i, i < 17 → i ∈ sm_aro := by decide +kernel
theorem sm_ara : ∀ w ∈ sm_aro.map (fun i => Cond.arrayOf (.field (ex_tm i) "java/lang/String" "value" "[B") .byte), w ∈ flatC (Jvm.Cond.and given_1 narrow_1) := sb_all _ _ (by decide +kernel)
theorem sm_ar : ∀ i, i < 17 → Cond.arrayOf (.field (ex_tm i) "java/lang/String" "value" "[B") .byte ∈ flatC (Jvm.Cond.and given_1 narrow_1) := fun i hi => sm_ara _ (List.mem_map.mpr ⟨i, sm_arm i hi, rfl⟩)
def sm_leo : List Nat := [0, 1, 2, 3, 4, 5, 6, 7, 8, 9, 10, 11, 12, 13, 14, 15, 16]
theorem sm_lem : ∀ i, i < 17 → i ∈ sm_leo := by decide +kernel
theorem sm_lea : ∀ w ∈ sm_leo.map (fun i => Cond.eq (.length (.field (ex_tm i) "java/lang/String" "value" "[B")) (.int (Int32.ofNat (ex_len.getD i 0)))), w ∈ flatC (Jvm.Cond.and given_1 narrow_1) := sb_all _ _ (by decide +kernel)
theorem sm_le : ∀ i, i < 17 → Cond.eq (.length (.field (ex_tm i) "java/lang/String" "value" "[B")) (.int (Int32.ofNat (ex_len.getD i 0))) ∈ flatC (Jvm.Cond.and given_1 narrow_1) := fun i hi => sm_lea _ (List.mem_map.mpr ⟨i, sm_lem i hi, rfl⟩)
def sm_elo : List (Nat × Nat) := [(0, 0), (0, 1), (0, 2), (1, 0), (1, 1), (1, 2), (1, 3), (2, 0), (2, 1), (2, 2), (2, 3), (3, 0), (3, 1), (3, 2), (3, 3), (3, 4), (3, 5), (4, 0), (4, 1), (4, 2), (4, 3), (4, 4), (4, 5), (4, 6), (5, 0), (5, 1), (5, 2), (5, 3), (5, 4), (6, 0), (6, 1), (6, 2), (6, 3), (6, 4), (7, 0), (7, 1), (8, 0), (8, 1), (9, 0), (9, 1), (9, 2), (9, 3), (10, 0), (10, 1), (10, 2), (10, 3), (10, 4), (11, 0), (11, 1), (11, 2), (11, 3), (11, 4), (11, 5), (12, 0), (12, 1), (12, 2), (12, 3), (12, 4), (13, 0), (13, 1), (13, 2), (14, 0), (14, 1), (14, 2), (15, 0), (15, 1), (15, 2), (15, 3), (15, 4), (16, 0), (16, 1), (16, 2), (16, 3), (16, 4)]
theorem sm_elm : ∀ i, i < 17 → ∀ j, j < ex_len.getD i 0 → (i, j) ∈ sm_elo := by decide +kernel
theorem sm_ela : ∀ w ∈ sm_elo.map (fun q => Cond.eq (.elem (.field (ex_tm q.1) "java/lang/String" "value" "[B") (.int (Int32.ofNat q.2))) (.int ((ex_byt.getD q.1 []).getD q.2 0))), w ∈ flatC (Jvm.Cond.and given_1 narrow_1) := sb_all _ _ (by decide +kernel)
theorem sm_el : ∀ i, i < 17 → ∀ j, j < ex_len.getD i 0 → Cond.eq (.elem (.field (ex_tm i) "java/lang/String" "value" "[B") (.int (Int32.ofNat j))) (.int ((ex_byt.getD i []).getD j 0)) ∈ flatC (Jvm.Cond.and given_1 narrow_1) := fun i hi j hj => sm_ela _ (List.mem_map.mpr ⟨(i, j), sm_elm i hi j hj, rfl⟩)
def sm_ps : List (Nat × Nat) := [(0, 1), (0, 2), (1, 2), (0, 3), (1, 3), (2, 3), (0, 4), (1, 4), (2, 4), (3, 4), (0, 5), (1, 5), (2, 5), (3, 5), (4, 5), (0, 6), (1, 6), (2, 6), (3, 6), (4, 6), (5, 6), (0, 7), (1, 7), (2, 7), (3, 7), (4, 7), (5, 7), (6, 7), (0, 8), (1, 8), (2, 8), (3, 8), (4, 8), (5, 8), (6, 8), (7, 8), (0, 9), (1, 9), (2, 9), (3, 9), (4, 9), (5, 9), (6, 9), (7, 9), (8, 9), (0, 10), (1, 10), (2, 10), (3, 10), (4, 10), (5, 10), (6, 10), (7, 10), (8, 10), (9, 10), (0, 11), (1, 11), (2, 11), (3, 11), (4, 11), (5, 11), (6, 11), (7, 11), (8, 11), (9, 11), (10, 11), (0, 12), (1, 12), (2, 12), (3, 12), (4, 12), (5, 12), (6, 12), (7, 12), (8, 12), (9, 12), (10, 12), (11, 12), (0, 13), (1, 13), (2, 13), (3, 13), (4, 13), (5, 13), (6, 13), (7, 13), (8, 13), (9, 13), (10, 13), (11, 13), (12, 13), (0, 14), (1, 14), (2, 14), (3, 14), (4, 14), (5, 14), (6, 14), (7, 14), (8, 14), (9, 14), (10, 14), (11, 14), (12, 14), (13, 14), (0, 15), (1, 15), (2, 15), (3, 15), (4, 15), (5, 15), (6, 15), (7, 15), (8, 15), (9, 15), (10, 15), (11, 15), (12, 15), (13, 15), (14, 15), (0, 16), (1, 16), (2, 16), (3, 16), (4, 16), (5, 16), (6, 16), (7, 16), (8, 16), (9, 16), (10, 16), (11, 16), (12, 16), (13, 16), (14, 16), (15, 16)]
theorem sm_nm_ : ∀ j, j < 17 → ∀ i, i < j → (i, j) ∈ sm_ps := by decide +kernel
theorem sm_na : ∀ w ∈ sm_ps.map (fun q => Cond.not (Cond.eq (ex_tm q.1) (ex_tm q.2))), w ∈ flatC (Jvm.Cond.and given_1 narrow_1) := sb_all _ _ (by decide +kernel)
theorem sm_nl : ∀ i, i < 17 → ∀ j, j < 17 → i < j → Cond.not (Cond.eq (ex_tm i) (ex_tm j)) ∈ flatC (Jvm.Cond.and given_1 narrow_1) := fun i hi j hj h => sm_na _ (List.mem_map.mpr ⟨(i, j), sm_nm_ j hj i h, rfl⟩)
theorem sm_cs : Cond.eq (.static "java/lang/String" "COMPACT_STRINGS" "Z") (.int 1) ∈ flatC (Jvm.Cond.and given_1 narrow_1) := by decide +kernel
theorem sm_sf : Cond.isRef (.static "jdk/internal/util/Preconditions" "SIOOBE_FORMATTER" "Ljava/util/function/BiFunction;") ∈ flatC (Jvm.Cond.and given_1 narrow_1) := by decide +kernel
theorem sm_ln : ∀ i, i < 17 → ex_len.getD i 0 < 2 ^ 31 := by decide +kernel
theorem sm_nfa : ∀ w ∈ ex_nfl.map (fun q => Cond.fieldLinkNest q.1 q.2.1 q.2.2.1 q.2.2.2.1 q.2.2.2.2.1 q.2.2.2.2.2), w ∈ tables_1 := sb_all _ _ (by decide +kernel)
theorem sm_nf : ∀ q ∈ ex_nfl, Cond.fieldLinkNest q.1 q.2.1 q.2.2.1 q.2.2.2.1 q.2.2.2.2.1 q.2.2.2.2.2 ∈ tables_1 := fun q hq => sm_nfa _ (List.mem_map.mpr ⟨q, hq, rfl⟩)
theorem sm_nma : ∀ w ∈ ex_nml.map (fun q => Cond.methodLinkNest q.1 q.2.1 q.2.2.1 q.2.2.2), w ∈ tables_1 := sb_all _ _ (by decide +kernel)
theorem sm_nm : ∀ q ∈ ex_nml, Cond.methodLinkNest q.1 q.2.1 q.2.2.1 q.2.2.2 ∈ tables_1 := fun q hq => sm_nma _ (List.mem_map.mpr ⟨q, hq, rfl⟩)
theorem sm_sra : ∀ w ∈ sm_exo.map (fun i => Cond.stringRef RX2 (ex_si.getD i 0) (ex_st.getD i "")), w ∈ tables_1 := sb_all _ _ (by decide +kernel)
theorem sm_sr : ∀ i, i < 17 → Cond.stringRef RX2 (ex_si.getD i 0) (ex_st.getD i "") ∈ tables_1 := fun i hi => sm_sra _ (List.mem_map.mpr ⟨i, sm_exm i hi, rfl⟩)
theorem lt_of {w : Cond} (h : w ∈ tables_1) : w ∈ lw_tbl := List.mem_append_right _ h
theorem jl_exX {s : State} {args : Array Value} {A : Nat → Prop} (hts : ∀ w ∈ lw_tbl, w.before args s = true) (hgv : (Jvm.Cond.and given_1 narrow_1).before args s = true) (hA : ∀ a : Nat, a < s.heap.size → ¬ A a) : ∃ adK adV : Nat → Nat, ex_X adK adV A s := by
  have hs := flat_of_before _ hgv
  obtain ⟨adK, adV, h1, h2⟩ := vk_Sof (N := 17) (tm := ex_tm) (len := ex_len) (byt := ex_byt) (A := A) sm_ln (fun i hi => hs _ (sm_ex i hi)) (fun i hi => hs _ (sm_co i hi)) (fun i hi => hs _ (sm_ar i hi)) (fun i hi => hs _ (sm_le i hi)) (fun i hi j hj => hs _ (sm_el i hi j hj)) (fun i j hi hj hne => (Nat.lt_or_gt_of_ne hne).elim (fun h => Or.inl (hs _ (sm_nl i hi j hj h))) (fun h => Or.inr (hs _ (sm_nl j hj i hi h)))) hA
  exact ⟨adK, adV, fun q hq => va_Nw.of rfl (hts _ (lt_of (sm_nf q hq))), fun q hq => va_Nw.of rfl (hts _ (lt_of (sm_nm q hq))), fun j hj => vk_R.of (hts _ (lt_of (sm_sr j hj))) (h2 j hj), h1, va_Zof (hts (.laysStatic "java/lang/String" "COMPACT_STRINGS" "Z") (lt_of (by decide +kernel))) (hts (.initialized "java/lang/String") (lt_of (by decide +kernel))) (va_eqi (hs _ sm_cs)) hA, va_Zqof (hts (.laysStatic "jdk/internal/util/Preconditions" "SIOOBE_FORMATTER" "Ljava/util/function/BiFunction;") (lt_of (by decide +kernel))) (hts (.initialized "jdk/internal/util/Preconditions") (lt_of (by decide +kernel))) (hs _ sm_sf) hA⟩
theorem jl_exC {s : State} {args : Array Value} (hts : ∀ w ∈ lw_tbl, w.before args s = true) : ex_C s := ⟨fun q hq => va_Nw.of rfl (hts _ (lt_of (sm_nm q hq))), over_moved (Vm.Alike.refl s.vm) (hts (Cond.arrayOver (.array .int)) (lt_of (by decide +kernel)))⟩
theorem jl_K {s : State} {args : Array Value} (hts : ∀ w ∈ lw_tbl, w.before args s = true) : ∃ (D : va_G) (cI cJ : ClassId), va_K D vwCl (jx_tys cI cJ) s := by
  obtain ⟨cI, kI, compI, i1, i2, i3⟩ := Cond.arrayClass_spec (hts (Cond.arrayClass .int) (lt_of (by decide +kernel)))
  obtain ⟨compJ, cJ, kJ, -, -, j3, j4, j5⟩ := arrayOverA_spec (hts (Cond.arrayOver (.array .int)) (lt_of (by decide +kernel)))
  have uw : ∀ {C : String} {T : u_T} {N : Nat}, (∀ w ∈ u_ws C T N, w ∈ bigT) → ∀ w ∈ u_ws C T N, w ∈ lw_tbl := fun h w hw => (List.mem_filter.mp (h w hw)).1
  obtain ⟨c0, iS0, k0⟩ := u_known (C := RX0) (T := TX0) (N := 3) (n := 3) hts (uw uw_X0) (hts (.instantiable RX0 3) (lt_of (by decide +kernel)))
  obtain ⟨c1, iS1, k1⟩ := u_known (C := RX1) (T := TX1) (N := 3) (n := 3) hts (uw uw_X1) (hts (.instantiable RX1 3) (lt_of (by decide +kernel)))
  obtain ⟨c2, iS2, k2⟩ := u_known (C := RX2) (T := TX2) (N := 7) (n := 7) hts (uw uw_X2) (hts (.instantiable RX2 7) (lt_of (by decide +kernel)))
  obtain ⟨c3, iS3, k3⟩ := u_known (C := RX3) (T := TX3) (N := 8) (n := 8) hts (uw uw_X3) (hts (.instantiable RX3 8) (lt_of (by decide +kernel)))
  obtain ⟨c4, iS4, k4⟩ := u_known (C := RX4) (T := TX4) (N := 11) (n := 11) hts (uw uw_X4) (hts (.instantiable RX4 11) (lt_of (by decide +kernel)))
  obtain ⟨c5, iS5, k5⟩ := u_known (C := RX5) (T := TX5) (N := 21) (n := 21) hts (uw uw_X5) (hts (.instantiable RX5 21) (lt_of (by decide +kernel)))
  refine ⟨(fun k => [c0, c1, c2, c3, c4, c5].getD k 0, fun k => [iS0, iS1, iS2, iS3, iS4, iS5].getD k (fun _ => 0)), cI, cJ, fun k q hq => ?_, fun k q hq => ?_⟩
  · match k, hq with
    | 0, hq => cases hq; exact k0
    | 1, hq => cases hq; exact k1
    | 2, hq => cases hq; exact k2
    | 3, hq => cases hq; exact k3
    | 4, hq => cases hq; exact k4
    | 5, hq => cases hq; exact k5
    | k + 6, hq => simp [vwCl] at hq
  · match k, hq with
    | 0, hq => cases hq; exact ⟨fun N z => ⟨(fun q hq => by cases hq), kI, i2, compI, i3⟩, i1⟩
    | 1, hq => cases hq; exact ⟨fun N z => ⟨(fun q hq => by cases hq), kJ, j3, compJ, j4⟩, j5⟩
    | k + 2, hq => simp at hq
theorem jl_splitP {D : va_G} {cl : List vw_C} {w1 w2 : va_W} {H : Heap} (h : va_P D cl (w1 ++ w2) H) : va_P D cl w1 H ∧ va_P D cl w2 H := ⟨fun k q hq => h k q (by rw [List.getElem?_append_left ((List.getElem?_eq_some_iff.mp hq).1)]; exact hq), fun k q hq => h (w1.length + k) q (by rw [List.getElem?_append_right (by omega), Nat.add_sub_cancel_left]; exact hq)⟩
theorem jl_len {N : Nat} {cI cJ : ClassId} {ad : Nat → Nat} {sh : Nat → jx_Sh} {v : jx_V} : (jx_ws N cI cJ ad sh v).length = N := by unfold jx_ws; rw [List.length_map, List.length_range]
theorem jl_splitD {A : Nat → Prop} {N M : Nat} {cI cJ : ClassId} {a b : Nat → Nat} {sh sh' : Nat → jx_Sh} {v w : jx_V} (h : va_D A (jx_ws N cI cJ a sh v ++ jx_ws M cI cJ b sh' w)) : jx_inj N a A ∧ jx_inj M b A ∧ ∀ i, i < N → ∀ j, j < M → a i ≠ b j := by
  have g1 : ∀ i, i < N → (jx_ws N cI cJ a sh v ++ jx_ws M cI cJ b sh' w)[i]? = some (a i, jx_ct cI cJ a v i (sh i)) := fun i hi => by
    rw [List.getElem?_append_left (by rw [jl_len]; exact hi)]
    exact jx_at hi rfl
  have g2 : ∀ j, j < M → (jx_ws N cI cJ a sh v ++ jx_ws M cI cJ b sh' w)[N + j]? = some (b j, jx_ct cI cJ b w j (sh' j)) := fun j hj => by
    rw [List.getElem?_append_right (by rw [jl_len]; omega), jl_len, Nat.add_sub_cancel_left]
    exact jx_at hj rfl
  refine ⟨⟨fun i j hi hj e => h.1 i j _ _ (g1 i hi) (g1 j hj) e, fun i hi => h.2 i _ (g1 i hi)⟩, ⟨fun i j hi hj e => ?_, fun j hj => h.2 _ _ (g2 j hj)⟩, fun i hi j hj e => ?_⟩
  · have := h.1 _ _ _ _ (g2 i hi) (g2 j hj) e
    omega
  · have := h.1 _ _ _ _ (g1 i hi) (g2 j hj) e
    omega
/-- a constructor called by the law -/
theorem jl_ctor {p : Program} {l : Launch} {e : Env} {s : State} {m : MethodId} {args : Array Value} {below : List Frame} {meth : Method} {c : Code} {Q : State → Prop} {D : va_G} {cI cJ : ClassId} {A : Nat → Prop} {kc ks nL pc : Nat} {cc : ByteArray} {ws : va_W} {H : Heap} {locs : List Loc} {ls : Array Slot} {lv : List (Nat × Value)} {st : List Value} {y : MethodName} {rm : Room} {bytes : ByteArray} {maxL idx q ci n mc ms : Nat} {fs : List Value} {sh : Nat → jx_Sh} {v0 : jx_V}
    (hx : p.tables.exec = Jvm.exec) (hb : c.code = cc) (hml : c.maxLocals = nL) (hown : s.vm.findClass R_law = some m.cls) (hts : ∀ w ∈ lw_tbl, w.before args s = true) (hK : va_K D vwCl (jx_tys cI cJ) s) (hC : ex_C s) (hA : ∀ q, s.heap.size ≤ q → A q) (hd : decode cc pc = .ok (.invokespecial idx, 3)) (hM : jn_C l D vwCl cI cJ y (Cond.code y bytes maxL none :: bigT) rm ci fs n sh v0 mc ms) (hcw : Cond.code y bytes maxL none ∈ bigT) (hrc : rm.cells = mc) (hrs : rm.slots = ms) (h1 : Cond.methodLink R_law idx y ∈ bigT) (h2 : Cond.initialized y.cls ∈ bigT) (h3 : Cond.instanceMethod y ∈ bigT) (hy1 : y.name = "<init>") (hdd : y.cls ≠ "java/lang/invoke/MethodHandle" ∧ y.cls ≠ "java/lang/invoke/VarHandle" ∧ (parseMethodDescriptor y.desc).map (fun d => d.parameters.length) = some 0) (hR : rm.frames + 1 ≤ room_1.frames ∧ 8 + (maxL + 11) + rm.locals ≤ room_1.locals) (hf : kc + mc ≤ room_1.cells ∧ ks + ms ≤ room_1.slots) (hst : (st.map fun v => v.category).sum ≤ 8)
    (hP : va_P D vwCl (ws ++ [(q, .inr (ci, fs))]) H) (hD : va_D A (ws ++ [(q, .inr (ci, fs))])) (hS : va_S A s.heap H locs) (hl : lv_has ls nL lv)
    (kk : ∀ (a : Nat → Nat) (H1 : Heap) (locs1 : List Loc), a 0 = q → va_P D vwCl (ws ++ jx_ws n cI cJ a sh v0) H1 → va_D A (ws ++ jx_ws n cI cJ a sh v0) → va_S A s.heap H1 locs1 → W p l e room_1 s m args below meth c H1 locs1 (kc + mc) (ks + ms) Q (F0 m (pc + 3) ls st)) : W p l e room_1 s m args below meth c H locs kc ks Q (F0 m pc ls (.ref q :: st)) := by
  have hPc : va_P D vwCl [(q, .inr (ci, fs))] H := (jl_splitP hP).2
  have hFc : ∀ x, va_A [(q, .inr (ci, fs))] H.size x → A x := fun x hx => by
    rcases hx with ⟨k, e, hk⟩ | hx
    · exact hD.2 (ws.length + k) (x, e) (by rw [List.getElem?_append_right (by omega), Nat.add_sub_cancel_left]; exact hk)
    · exact hA x (Nat.le_trans hS.1 hx)
  have bm : ∀ {w : Cond}, w ∈ bigT → w.before args s = true := fun h => hts _ (List.mem_filter.mp h).1
  refine va_callv (va_runI (As := []) ⟨hx, hb, hml, hown, hts⟩ (hM q H.size) (cwI 0 hts (gl_N hcw) rfl hrc hrs (bm h2) (bm h1) (bm h3) hy1 hdd hR) ⟨fun a U g mk x => ⟨x.1, x.2.1, x.2.2.1, va_K.moved (u := U) (U := U.calling g mk a) (Vm.Alike.refl U.vm) x.2.2.2.1, ex_C_call x.2.2.2.2⟩, fun U hU hW => ⟨rfl, by rw [hU], by rw [hU]; exact hPc, va_K.moved hW.alike hK, ex_C_warm hW hC⟩⟩ rfl rfl hl.1 rfl (lv_room hst) hd hf) hS (fun x _ h => hFc x h) hFc (fun u t H1 locs1 ht hvm _ hB hz1 hk1 hS1 => ?_)
  obtain ⟨a, ha, hP1, hD1⟩ := hB
  rw [ht] at hP1
  obtain ⟨hP2, hD2⟩ := jn_join hP hD hk1 hFc hP1 hD1
  exact kk a H1 locs1 ha hP2 hD2 hS1
theorem jl_vp {j k L : Nat} {x : Int32} (hk : x = nI k) (h : 6 * j + k < L) (hL : L ≤ 100000) : vp_in (nI (6 * j) + x) L := by
  rw [hk, nI_add]
  exact vp_in_nI h (by omega)
set_option maxHeartbeats 4000000 in
set_option maxRecDepth 100000 in
theorem law_loop {p : Program} {l : Launch} {e : Env} {s : State} {m : MethodId} {below : List Frame} {meth : Method} {c : Code} {D : va_G} {cI cJ : ClassId} {adX adM adK adV : Nat → Nat} {b L : Nat} {xs : Nat → Int32} (hL : L ≤ 100000) (hr : meth.sig.returnType = ret) (hlocks : meth.locks = false) (E : jl_E p s m #[Value.ref b] c D cI cJ adX adM adK adV (fun q => s.heap.size ≤ q) b L xs) (Inv : Nat → jx_V → jx_V → Prop)
    (hstep : ∀ (j : Nat) (v w : jx_V) (a0 a1 a2 a3 a4 a5 : Int32), 6 * j + 6 ≤ L → Inv j v w → ∃ v' w', st_law (a0 &&& 63) a1 a2 a3 a4 a5 v w = some (v', w') ∧ Inv (j + 1) v' w') :
    ∀ (n j : Nat) (v w : jx_V), 6 * j ≤ L → L + 1 ≤ 6 * j + n → Inv j v w → jl_J p l e room_1 s m #[Value.ref b] below meth c D cI cJ adX adM (fun q => s.heap.size ≤ q) 80 1849 (lw_Z below #[Value.ref b] s) v w 18 [(0, .ref b), (1, .ref (adX 0)), (2, .ref (adM 0)), (3, .int (nI (6 * j)))] [] := by
  intro n
  induction n with
  | zero =>
    intro j v w h1 h2
    exact absurd h2 (by omega)
  | succ n ih =>
    intro j v w hj hn hI
    refine jl_iload_n E dL_law_18 3 rfl ?_
    refine jl_aload_n E dL_law_19 0 rfl ?_
    refine jl_slen E dL_law_20 ?_
    refine jl_bipush (x := 6) E dL_law_21 (by decide) ?_
    refine jl_isub E dL_law_23 ?_
    have e1 : (Int32.ofNat L - 6).toInt = (L : Int) - 6 := pk_sub_toInt (a := L) (b := 6) (by omega) (by decide)
    have e2 : (nI (6 * j)).toInt = ((6 * j : Nat) : Int) := nI_toInt (by omega)
    refine jl_icmp_gt (tgt := 1704) E dL_law_24 (by decide) (fun hc => ?_) (fun hc => ?_)
    · refine jl_iconst (x := 1) E dL_law_1704 (by decide) ?_
      intro H locs ls hP hM hS hl
      refine va_forget (fun q hq => hS.2.2 q hq) ?_
      refine W.widen (k := 600000) (n := 7302250) (by decide) (by decide) ?_
      exact lw_ret E.1 E.2.1 hr hlocks dL_law_1705
    · rw [Int32.lt_iff_toInt_lt, e1, e2] at hc
      have h6 : 6 * j + 6 ≤ L := by omega
      obtain ⟨v', w', hF, hI'⟩ := hstep j v w (xs (nI (6 * j)).toNatClampNeg) (xs (nI (6 * j) + 1).toNatClampNeg) (xs (nI (6 * j) + 2).toNatClampNeg) (xs (nI (6 * j) + 3).toNatClampNeg) (xs (nI (6 * j) + 4).toNatClampNeg) (xs (nI (6 * j) + 5).toNatClampNeg) h6 hI
      refine ls_law E (nI (6 * j)) (vp_in_nI (by omega) (by omega)) (jl_vp (k := 1) (by decide) (by omega) hL) (jl_vp (k := 2) (by decide) (by omega) hL) (jl_vp (k := 3) (by decide) (by omega) hL) (jl_vp (k := 4) (by decide) (by omega) hL) (jl_vp (k := 5) (by decide) (by omega) hL) v w v' w' ⟨by decide, by decide⟩ hF ?_
      refine jl_iinc (y := nI (6 * (j + 1))) (lv' := [(3, .int (nI (6 * (j + 1)))), (0, .ref b), (1, .ref (adX 0)), (2, .ref (adM 0))]) E dL_law_1698 3 rfl ?_ (by decide) rfl ?_
      · rw [show Int32.ofInt 6 = nI 6 by decide, nI_add]
        exact congrArg nI (by omega)
      refine jl_goto (tgt := 18) E dL_law_1701 (by decide) ?_
      refine jl_pick [1, 2, 3, 0] rfl ?_
      exact ih (j + 1) v' w' (by omega) (by omega) hI'
set_option maxHeartbeats 4000000 in
set_option maxRecDepth 100000 in
/-- the law, from its entry, out of what its calls answer -/
theorem law_start {p : Program} {e : Env} {s : State} {m : MethodId} {below : List Frame} {meth : Method} {c : Code} (l : Launch) {b L : Nat} {xs : Nat → Int32} (hL : L ≤ 100000) (C0 : lw_At p s m meth c b L xs) (Inv : Nat → jx_V → jx_V → Prop) (hI0 : Inv 0 v0_X4 v0_X5)
    (hstep : ∀ (j : Nat) (v w : jx_V) (a0 a1 a2 a3 a4 a5 : Int32), 6 * j + 6 ≤ L → Inv j v w → ∃ v' w', st_law (a0 &&& 63) a1 a2 a3 a4 a5 v w = some (v', w') ∧ Inv (j + 1) v' w') : W p l e room_1 s m #[Value.ref b] below meth c s.heap [] 0 0 (lw_Z below #[Value.ref b] s) (entryFrame m ([Value.ref b] : List Value).toArray 4) := by
  obtain ⟨hx, hb, hr, hml, hown, hts, hX, hbl, hlocks, hgv⟩ := C0
  have hA : ∀ q : Nat, s.heap.size ≤ q → (fun q : Nat => s.heap.size ≤ q) q := fun _ h => h
  have hbA : ¬ (fun q : Nat => s.heap.size ≤ q) b := Nat.not_le.mpr hbl
  obtain ⟨D, cI, cJ, hK⟩ := jl_K hts
  have hC := jl_exC hts
  obtain ⟨adK, adV, hEx⟩ := jl_exX (A := fun q : Nat => s.heap.size ≤ q) hts hgv (fun a ha h => Nat.not_le.mpr ha h)
  have uw : ∀ {C : String} {T : u_T} {N : Nat}, (∀ w ∈ u_ws C T N, w ∈ bigT) → ∀ w ∈ u_ws C T N, w ∈ lw_tbl := fun h w hw => (List.mem_filter.mp (h w hw)).1
  have hS : va_S (fun q : Nat => s.heap.size ≤ q) s.heap s.heap [] := va_S.rf
  have hP : va_P D vwCl [] s.heap := fun k q h => by simp at h
  have hD : va_D (fun q : Nat => s.heap.size ≤ q) [] := ⟨fun i j p q h => by simp at h, fun k q h => by simp at h⟩
  have hl := lv_entry ([.ref b]) (n := 4) (Nat.le_of_ble_eq_true rfl)
  rw [lg_entry_eq]
  generalize (lg_sl ([.ref b]) ++ List.replicate (4 - (lg_sl ([.ref b])).length) Slot.unset).toArray = ls at hl ⊢
  have hl : lv_has ls 4 [(0, .ref b)] := hl
  refine va_new (ci := 4) (fs := [.null, .null, .null, .null, .null, .null, .null, .null, .null, .null, .int 0]) (C := RX4) (T := TX4) (N := 11) hx hb hts (uw uw_X4) tyX4 tyX4_ok hown (hts (.classLink R_law 7 RX4) (lt_of (by decide +kernel))) (hts (.instantiable RX4 11) (lt_of (by decide +kernel))) (hts (.initialized RX4) (lt_of (by decide +kernel))) hK hP hD hS hA rfl (by decide) (by decide) (by decide) dL_law_0 (fun q1 H hP hD hS => ?_)
  refine lv_dup hx hb dL_law_3 rfl ?_
  refine jl_ctor (ws := []) (st := [.ref q1]) hx hb hml hown hts hK hC hA dL_law_4 k_X4_init tw_1036 rfl rfl tw_1037 tw_190 tw_1038 rfl dd_X4_init.2 ⟨by decide, by decide⟩ ⟨by decide, by decide⟩ (Nat.le_of_ble_eq_true rfl) hP hD hS hl (fun a H2 locs2 ha hP2 hD2 hS2 => ?_)
  subst ha
  refine lv_astore_n (lv' := [(1, .ref (a 0)), (0, .ref b)]) hx hb dL_law_7 rfl hl (by decide) rfl (fun ls hl => ?_)
  refine va_new (ci := 5) (fs := [.null, .null, .null, .null, .int 0, .null, .int 0, .int 0, .int 0, .null, .null, .null, .int 0, .int 0, .int 0, .int 0, .int 0, .null, .null, .null, .null]) (C := RX5) (T := TX5) (N := 21) hx hb hts (uw uw_X5) tyX5 tyX5_ok hown (hts (.classLink R_law 10 RX5) (lt_of (by decide +kernel))) (hts (.instantiable RX5 21) (lt_of (by decide +kernel))) (hts (.initialized RX5) (lt_of (by decide +kernel))) hK hP2 hD2 hS2 hA rfl (by decide) (by decide) (by decide) dL_law_8 (fun q2 H3 hP3 hD3 hS3 => ?_)
  refine lv_dup hx hb dL_law_11 rfl ?_
  refine jl_ctor (ws := [] ++ jx_ws 67 cI cJ a shX v0_X4) (st := [.ref q2]) hx hb hml hown hts hK hC hA dL_law_12 k_X5_init tw_1039 rfl rfl tw_1040 tw_325 tw_1041 rfl dd_X5_init.2 ⟨by decide, by decide⟩ ⟨by decide, by decide⟩ (Nat.le_of_ble_eq_true rfl) hP3 hD3 hS3 hl (fun a2 H4 locs4 ha2 hP4 hD4 hS4 => ?_)
  subst ha2
  refine lv_astore_n (lv' := [(2, .ref (a2 0)), (1, .ref (a 0)), (0, .ref b)]) hx hb dL_law_15 rfl hl (by decide) rfl (fun ls hl => ?_)
  refine lv_iconst (v := 0) hx hb dL_law_16 (by decide) ?_
  refine lv_istore_n (lv' := [(3, .int 0), (2, .ref (a2 0)), (1, .ref (a 0)), (0, .ref b)]) hx hb dL_law_17 rfl hl (by decide) rfl (fun ls hl => ?_)
  rw [List.nil_append] at hP4 hD4
  obtain ⟨i1, i2, i3⟩ := jl_splitD hD4
  obtain ⟨p1, p2⟩ := jl_splitP hP4
  exact law_loop (adX := a) (adM := a2) (adK := adK) (adV := adV) hL hr hlocks ⟨hx, hb, hml, hown, hts, hX, hbl, hbA, hK, i1, i2, i3, hEx⟩ Inv hstep (L + 1) 0 v0_X4 v0_X5 (Nat.zero_le _) (by omega) hI0 H4 locs4 ls p1 p2 hS4 (lv_sub hl [3, 2, 1, 0] rfl)
