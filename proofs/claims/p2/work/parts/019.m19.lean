def f_X5_seen_L  : Nat → Nat → Int32 → Int32 → Int32 → Int32 → Int32 → Int32 → Int32 → Int32 → Int32 → jx_V → Option (Int32 × jx_V)
  | 0, _, _, _, _, _, _, _, _, _, _, _ => none
  | n + 1, tag, x1, x2, x3, x4, x5, x6, x7, x8, x9, v => (if tag = 0 then (if x5 ≤ x7 then (some (x6, v)) else (f_X5_seen_L n 1 x1 x2 x3 x4 x5 x6 x7 1 1 v)) else (if tag = 1 then (if x2 ≤ x9 then (if x8 = 0 then (f_X5_seen_L n 0 x1 x2 x3 x4 x5 (x6 ||| 0) (x7 + 1) 0 0 v) else (f_X5_seen_L n 0 x1 x2 x3 x4 x5 (x6 ||| (1 <<< (x7 &&& 31))) (x7 + 1) 0 0 v)) else ((f_X5_told x1 0 v).bind (fun (r12, v12) => ((f_X5_told x1 2 v12).bind (fun (r13, v13) => ((f_X5_lotAt r12 r13 x9 v13).bind (fun (r14, v14) => (if x8 = 0 then (f_X5_seen_L n 1 x1 x2 x3 x4 x5 x6 x7 0 (x9 + 1) v14) else ((f_X5_isThing r14 v14).bind (fun (r16, v16) => (if r16 = 0 then (f_X5_seen_L n 1 x1 x2 x3 x4 x5 x6 x7 1 (x9 + 1) v16) else ((f_X5_stands r14 v16).bind (fun (r18, v18) => (if (((2 * x7) - (2 * x3)) * x9) ≤ ((((2 * r18) - (2 * x3)) - 1) * x2) then (f_X5_seen_L n 1 x1 x2 x3 x4 x5 x6 x7 0 (x9 + 1) v18) else (f_X5_seen_L n 1 x1 x2 x3 x4 x5 x6 x7 1 (x9 + 1) v18))))))))))))))) else none))
def f_X5_seen (x1 : Int32) (x2 : Int32) (v : jx_V) : Option (Int32 × jx_V) := ((f_X5_told x1 1 v).bind (fun (r1, v1) => ((f_X5_told x1 0 v1).bind (fun (r2, v2) => ((f_X5_told x1 2 v2).bind (fun (r3, v3) => ((f_X5_lotAt r2 r3 x2 v3).bind (fun (r4, v4) => (if r4 < 0 then (f_X5_seen_L 100000 0 x1 x2 r1 r4 0 0 0 0 0 v4) else ((f_X5_isThing r4 v4).bind (fun (r6, v6) => (if r6 = 0 then (f_X5_seen_L 100000 0 x1 x2 r1 r4 0 0 0 0 0 v6) else ((f_X5_stands r4 v6).bind (fun (r8, v8) => (f_X5_seen_L 100000 0 x1 x2 r1 r4 r8 0 0 0 0 v8)))))))))))))))
def rm_X5_seen : Room := { frames := 3, cells := 0, slots := 0, locals := 68 }
set_option maxHeartbeats 4000000 in
set_option maxRecDepth 100000 in
theorem k_X5_seen {l : Launch} {D : va_G} {cI cJ : ClassId} {ad : Nat → Nat} {A : Nat → Prop} (hI : jx_inj 13 ad A) (x1 : Int32) (x2 : Int32) (v : jx_V) (r : Int32) (v' : jx_V) (hF : f_X5_seen x1 x2 v = some (r, v')) : jx_Ci l D vwCl 13 cI cJ ad shM A ex_M yX5_seen (Cond.code yX5_seen cX5_seen 11 (some .int) :: bigT) rm_X5_seen [.ref (ad 0), .int x1, .int x2] v r v' := by
  unfold f_X5_seen at hF
  refine jx_enteri bigT RX5 cX5_seen 11 (some .int) [(0, .ref (ad 0)), (1, .int x1), (2, .int x2)] hI (ex_M_ok A) (by decide +kernel) rfl (Nat.le_of_ble_eq_true rfl) rfl rfl ?_
  intro p e s m args below meth c E
  have key : ∀ n : Nat, (∀ (x1 : Int32) (x2 : Int32) (x3 : Int32) (x4 : Int32) (x5 : Int32) (x6 : Int32) (x7 : Int32) (v : jx_V), f_X5_seen_L  n 0 x1 x2 x3 x4 x5 x6 x7 0 0 v = some (r, v') → jx_J p l e rm_X5_seen s m args below meth c D vwCl 13 cI cJ ad shM A 0 0 11 (MQ below (va_Qi (fun (r1 : Int32) (_ : Unit) => r1 = r) (fun _ t => va_P D vwCl (jx_ws 13 cI cJ ad shM v') t.heap) A) args s 0 0 A) v 57 [(0, .ref (ad 0)), (1, .int x1), (2, .int x2), (3, .int x3), (4, .int x4), (5, .int x5), (6, .int x6), (7, .int x7)] []) ∧ (∀ (x1 : Int32) (x2 : Int32) (x3 : Int32) (x4 : Int32) (x5 : Int32) (x6 : Int32) (x7 : Int32) (x8 : Int32) (x9 : Int32) (v : jx_V), f_X5_seen_L  n 1 x1 x2 x3 x4 x5 x6 x7 x8 x9 v = some (r, v') → jx_J p l e rm_X5_seen s m args below meth c D vwCl 13 cI cJ ad shM A 0 0 11 (MQ below (va_Qi (fun (r1 : Int32) (_ : Unit) => r1 = r) (fun _ t => va_P D vwCl (jx_ws 13 cI cJ ad shM v') t.heap) A) args s 0 0 A) v 70 [(0, .ref (ad 0)), (1, .int x1), (2, .int x2), (3, .int x3), (4, .int x4), (5, .int x5), (6, .int x6), (7, .int x7), (8, .int x8), (9, .int x9)] []) := by
    intro n
    induction n with
    | zero =>
      exact ⟨(fun _ _ _ _ _ _ _ _ h => by cases h), (fun _ _ _ _ _ _ _ _ _ _ h => by cases h)⟩
    | succ n ih =>
      refine ⟨?_, ?_⟩
      · intro x1 x2 x3 x4 x5 x6 x7 v hF
        rw [f_X5_seen_L] at hF
        rw [if_pos rfl] at hF
        refine jx_iload E dX5_seen_57 7 rfl ?_
        refine jx_iload E dX5_seen_59 5 rfl ?_
        refine jx_icmp_ge (tgt := 176) E dX5_seen_61 (by decide) (fun hc9 => ?_) (fun hc9 => ?_)
        · rw [if_pos hc9] at hF
          refine jx_iload E dX5_seen_176 6 rfl ?_
          obtain ⟨rfl, rfl⟩ := jx_out hF
          exact jx_iret E dX5_seen_178 rfl
        · rw [if_neg hc9] at hF
          refine jx_iconst (x := 1) E dX5_seen_64 (by decide) ?_
          refine jx_istore (lv' := [(8, .int 1), (0, .ref (ad 0)), (1, .int x1), (2, .int x2), (3, .int x3), (4, .int x4), (5, .int x5), (6, .int x6), (7, .int x7)]) E dX5_seen_65 (by decide) rfl ?_
          refine jx_iconst (x := 1) E dX5_seen_67 (by decide) ?_
          refine jx_istore (lv' := [(9, .int 1), (8, .int 1), (0, .ref (ad 0)), (1, .int x1), (2, .int x2), (3, .int x3), (4, .int x4), (5, .int x5), (6, .int x6), (7, .int x7)]) E dX5_seen_68 (by decide) rfl ?_
          refine jx_sub [2, 3, 4, 5, 6, 7, 8, 9, 1, 0] rfl ?_
          exact ih.2 x1 x2 x3 x4 x5 x6 x7 1 1 v hF
      · intro x1 x2 x3 x4 x5 x6 x7 x8 x9 v hF
        rw [f_X5_seen_L] at hF
        rw [if_neg (by decide), if_pos rfl] at hF
        refine jx_iload E dX5_seen_70 9 rfl ?_
        refine jx_iload_n E dX5_seen_72 2 rfl ?_
        refine jx_icmp_ge (tgt := 152) E dX5_seen_73 (by decide) (fun hc10 => ?_) (fun hc10 => ?_)
        · rw [if_pos hc10] at hF
          refine jx_iload E dX5_seen_152 6 rfl ?_
          refine jx_iload E dX5_seen_154 8 rfl ?_
          refine jx_if_eq (tgt := 166) E dX5_seen_156 (by decide) (fun hc11 => ?_) (fun hc11 => ?_)
          · rw [if_pos hc11] at hF
            refine jx_iconst (x := 0) E dX5_seen_166 (by decide) ?_
            refine jx_ior E dX5_seen_167 ?_
            refine jx_istore (lv' := [(6, .int (x6 ||| 0)), (0, .ref (ad 0)), (1, .int x1), (2, .int x2), (3, .int x3), (4, .int x4), (5, .int x5), (7, .int x7), (8, .int x8), (9, .int x9)]) E dX5_seen_168 (by decide) rfl ?_
            refine jx_iinc (y := (x7 + 1)) (lv' := [(7, .int (x7 + 1)), (6, .int (x6 ||| 0)), (0, .ref (ad 0)), (1, .int x1), (2, .int x2), (3, .int x3), (4, .int x4), (5, .int x5), (8, .int x8), (9, .int x9)]) E dX5_seen_170 7 rfl rfl (by decide) rfl ?_
            refine jx_goto (tgt := 57) E dX5_seen_173 (by decide) ?_
            refine jx_sub [2, 3, 4, 5, 6, 7, 1, 0] rfl ?_
            exact ih.1 x1 x2 x3 x4 x5 (x6 ||| 0) (x7 + 1) v hF
          · rw [if_neg hc11] at hF
            refine jx_iconst (x := 1) E dX5_seen_159 (by decide) ?_
            refine jx_iload E dX5_seen_160 7 rfl ?_
            refine jx_ishl E dX5_seen_162 ?_
            refine jx_goto (tgt := 167) E dX5_seen_163 (by decide) ?_
            refine jx_ior E dX5_seen_167 ?_
            refine jx_istore (lv' := [(6, .int (x6 ||| (1 <<< (x7 &&& 31)))), (0, .ref (ad 0)), (1, .int x1), (2, .int x2), (3, .int x3), (4, .int x4), (5, .int x5), (7, .int x7), (8, .int x8), (9, .int x9)]) E dX5_seen_168 (by decide) rfl ?_
            refine jx_iinc (y := (x7 + 1)) (lv' := [(7, .int (x7 + 1)), (6, .int (x6 ||| (1 <<< (x7 &&& 31)))), (0, .ref (ad 0)), (1, .int x1), (2, .int x2), (3, .int x3), (4, .int x4), (5, .int x5), (8, .int x8), (9, .int x9)]) E dX5_seen_170 7 rfl rfl (by decide) rfl ?_
            refine jx_goto (tgt := 57) E dX5_seen_173 (by decide) ?_
            refine jx_sub [2, 3, 4, 5, 6, 7, 1, 0] rfl ?_
            exact ih.1 x1 x2 x3 x4 x5 (x6 ||| (1 <<< (x7 &&& 31))) (x7 + 1) v hF
        · rw [if_neg hc10] at hF
          refine jx_aload_n E dX5_seen_76 0 rfl ?_
          refine jx_iload_n E dX5_seen_77 1 rfl ?_
          refine jx_iconst (x := 0) E dX5_seen_78 (by decide) ?_
          obtain ⟨⟨r12, v12⟩, hc12, hF⟩ := jx_bind hF
          try dsimp only at hF
          refine jx_callVi (As := [.int x1, .int 0]) (st := []) (h := 0) E dX5_seen_79 2 rfl (k_X5_told hI x1 0 v r12 v12 hc12) (gb_V (List.mem_cons_of_mem _ tw_402) (List.mem_cons_of_mem _ tw_403) (List.mem_cons_of_mem _ tw_404) (List.mem_cons_of_mem _ tw_325) tw_401) rfl rfl rfl dd_X5_told rfl (Nat.le_of_ble_eq_true rfl) s_M0 rfl ⟨by decide, by decide⟩ ⟨Nat.le_refl 0, Nat.le_refl 0⟩ (Nat.le_of_ble_eq_true rfl) ?_
          refine jx_aload_n E dX5_seen_82 0 rfl ?_
          refine jx_iload_n E dX5_seen_83 1 rfl ?_
          refine jx_iconst (x := 2) E dX5_seen_84 (by decide) ?_
          obtain ⟨⟨r13, v13⟩, hc13, hF⟩ := jx_bind hF
          try dsimp only at hF
          refine jx_callVi (As := [.int x1, .int 2]) (st := [.int r12]) (h := 0) E dX5_seen_85 2 rfl (k_X5_told hI x1 2 v12 r13 v13 hc13) (gb_V (List.mem_cons_of_mem _ tw_402) (List.mem_cons_of_mem _ tw_403) (List.mem_cons_of_mem _ tw_404) (List.mem_cons_of_mem _ tw_325) tw_401) rfl rfl rfl dd_X5_told rfl (Nat.le_of_ble_eq_true rfl) s_M0 rfl ⟨by decide, by decide⟩ ⟨Nat.le_refl 0, Nat.le_refl 0⟩ (Nat.le_of_ble_eq_true rfl) ?_
          refine jx_iload E dX5_seen_88 9 rfl ?_
          obtain ⟨⟨r14, v14⟩, hc14, hF⟩ := jx_bind hF
          try dsimp only at hF
          refine jx_callSi (As := [.int r12, .int r13, .int x9]) (st := []) E dX5_seen_90 3 rfl (k_X5_lotAt hI r12 r13 x9 v13 r14 v14 hc14) (gb_S (List.mem_cons_of_mem _ tw_407) (List.mem_cons_of_mem _ tw_408) (List.mem_cons_of_mem _ tw_325) tw_406) rfl rfl rfl dd_X5_lotAt rfl ⟨by decide, by decide⟩ ⟨Nat.le_refl 0, Nat.le_refl 0⟩ (Nat.le_of_ble_eq_true rfl) ?_
          refine jx_istore (lv' := [(10, .int r14), (0, .ref (ad 0)), (1, .int x1), (2, .int x2), (3, .int x3), (4, .int x4), (5, .int x5), (6, .int x6), (7, .int x7), (8, .int x8), (9, .int x9)]) E dX5_seen_93 (by decide) rfl ?_
          refine jx_iload E dX5_seen_95 9 rfl ?_
          refine jx_if_eq (tgt := 143) E dX5_seen_97 (by decide) (fun hc15 => ?_) (fun hc15 => ?_)
          · rw [if_pos hc15] at hF
            refine jx_iconst (x := 0) E dX5_seen_143 (by decide) ?_
            refine jx_istore (lv' := [(8, .int 0), (10, .int r14), (0, .ref (ad 0)), (1, .int x1), (2, .int x2), (3, .int x3), (4, .int x4), (5, .int x5), (6, .int x6), (7, .int x7), (9, .int x9)]) E dX5_seen_144 (by decide) rfl ?_
            refine jx_iinc (y := (x9 + 1)) (lv' := [(9, .int (x9 + 1)), (8, .int 0), (10, .int r14), (0, .ref (ad 0)), (1, .int x1), (2, .int x2), (3, .int x3), (4, .int x4), (5, .int x5), (6, .int x6), (7, .int x7)]) E dX5_seen_146 10 rfl rfl (by decide) rfl ?_
            refine jx_goto (tgt := 70) E dX5_seen_149 (by decide) ?_
            refine jx_sub [3, 4, 5, 6, 7, 8, 9, 10, 1, 0] rfl ?_
            exact ih.2 x1 x2 x3 x4 x5 x6 x7 0 (x9 + 1) v14 hF
          · rw [if_neg hc15] at hF
            refine jx_aload_n E dX5_seen_100 1 rfl ?_
            refine jx_iload E dX5_seen_101 0 rfl ?_
            obtain ⟨⟨r16, v16⟩, hc16, hF⟩ := jx_bind hF
            try dsimp only at hF
            refine jx_callVi (As := [.int r14]) (st := []) (h := 0) E dX5_seen_103 1 rfl (k_X5_isThing hI r14 v14 r16 v16 hc16) (gb_V (List.mem_cons_of_mem _ tw_339) (List.mem_cons_of_mem _ tw_340) (List.mem_cons_of_mem _ tw_341) (List.mem_cons_of_mem _ tw_325) tw_338) rfl rfl rfl dd_X5_isThing rfl (Nat.le_of_ble_eq_true rfl) s_M0 rfl ⟨by decide, by decide⟩ ⟨Nat.le_refl 0, Nat.le_refl 0⟩ (Nat.le_of_ble_eq_true rfl) ?_
            refine jx_if_eq (tgt := 139) E dX5_seen_106 (by decide) (fun hc17 => ?_) (fun hc17 => ?_)
            · rw [if_pos hc17] at hF
              refine jx_iconst (x := 1) E dX5_seen_139 (by decide) ?_
              refine jx_goto (tgt := 144) E dX5_seen_140 (by decide) ?_
              refine jx_istore (lv' := [(8, .int 1), (10, .int r14), (0, .ref (ad 0)), (1, .int x1), (2, .int x2), (3, .int x3), (4, .int x4), (5, .int x5), (6, .int x6), (7, .int x7), (9, .int x9)]) E dX5_seen_144 (by decide) rfl ?_
              refine jx_iinc (y := (x9 + 1)) (lv' := [(9, .int (x9 + 1)), (8, .int 1), (10, .int r14), (0, .ref (ad 0)), (1, .int x1), (2, .int x2), (3, .int x3), (4, .int x4), (5, .int x5), (6, .int x6), (7, .int x7)]) E dX5_seen_146 10 rfl rfl (by decide) rfl ?_
              refine jx_goto (tgt := 70) E dX5_seen_149 (by decide) ?_
              refine jx_sub [3, 4, 5, 6, 7, 8, 9, 10, 1, 0] rfl ?_
              exact ih.2 x1 x2 x3 x4 x5 x6 x7 1 (x9 + 1) v16 hF
            · rw [if_neg hc17] at hF
              refine jx_iconst (x := 2) E dX5_seen_109 (by decide) ?_
              refine jx_iload E dX5_seen_110 8 rfl ?_
              refine jx_imul E dX5_seen_112 ?_
              refine jx_iconst (x := 2) E dX5_seen_113 (by decide) ?_
              refine jx_iload_n E dX5_seen_114 4 rfl ?_
              refine jx_imul E dX5_seen_115 ?_
              refine jx_isub E dX5_seen_116 ?_
              refine jx_iload E dX5_seen_117 10 rfl ?_
              refine jx_imul E dX5_seen_119 ?_
              refine jx_iconst (x := 2) E dX5_seen_120 (by decide) ?_
              refine jx_aload_n E dX5_seen_121 1 rfl ?_
              refine jx_iload E dX5_seen_122 0 rfl ?_
              obtain ⟨⟨r18, v18⟩, hc18, hF⟩ := jx_bind hF
              try dsimp only at hF
              refine jx_callVi (As := [.int r14]) (st := [.int 2, .int (((2 * x7) - (2 * x3)) * x9)]) (h := 0) E dX5_seen_124 1 rfl (k_X5_stands hI r14 v16 r18 v18 hc18) (gb_V (List.mem_cons_of_mem _ tw_384) (List.mem_cons_of_mem _ tw_385) (List.mem_cons_of_mem _ tw_386) (List.mem_cons_of_mem _ tw_325) tw_383) rfl rfl rfl dd_X5_stands rfl (Nat.le_of_ble_eq_true rfl) s_M0 rfl ⟨by decide, by decide⟩ ⟨Nat.le_refl 0, Nat.le_refl 0⟩ (Nat.le_of_ble_eq_true rfl) ?_
              refine jx_imul E dX5_seen_127 ?_
              refine jx_iconst (x := 2) E dX5_seen_128 (by decide) ?_
              refine jx_iload_n E dX5_seen_129 4 rfl ?_
              refine jx_imul E dX5_seen_130 ?_
              refine jx_isub E dX5_seen_131 ?_
              refine jx_iconst (x := 1) E dX5_seen_132 (by decide) ?_
              refine jx_isub E dX5_seen_133 ?_
              refine jx_iload_n E dX5_seen_134 3 rfl ?_
              refine jx_imul E dX5_seen_135 ?_
              refine jx_icmp_le (tgt := 143) E dX5_seen_136 (by decide) (fun hc19 => ?_) (fun hc19 => ?_)
              · rw [if_pos hc19] at hF
                refine jx_iconst (x := 0) E dX5_seen_143 (by decide) ?_
                refine jx_istore (lv' := [(8, .int 0), (10, .int r14), (0, .ref (ad 0)), (1, .int x1), (2, .int x2), (3, .int x3), (4, .int x4), (5, .int x5), (6, .int x6), (7, .int x7), (9, .int x9)]) E dX5_seen_144 (by decide) rfl ?_
                refine jx_iinc (y := (x9 + 1)) (lv' := [(9, .int (x9 + 1)), (8, .int 0), (10, .int r14), (0, .ref (ad 0)), (1, .int x1), (2, .int x2), (3, .int x3), (4, .int x4), (5, .int x5), (6, .int x6), (7, .int x7)]) E dX5_seen_146 10 rfl rfl (by decide) rfl ?_
                refine jx_goto (tgt := 70) E dX5_seen_149 (by decide) ?_
                refine jx_sub [3, 4, 5, 6, 7, 8, 9, 10, 1, 0] rfl ?_
                exact ih.2 x1 x2 x3 x4 x5 x6 x7 0 (x9 + 1) v18 hF
              · rw [if_neg hc19] at hF
                refine jx_iconst (x := 1) E dX5_seen_139 (by decide) ?_
                refine jx_goto (tgt := 144) E dX5_seen_140 (by decide) ?_
                refine jx_istore (lv' := [(8, .int 1), (10, .int r14), (0, .ref (ad 0)), (1, .int x1), (2, .int x2), (3, .int x3), (4, .int x4), (5, .int x5), (6, .int x6), (7, .int x7), (9, .int x9)]) E dX5_seen_144 (by decide) rfl ?_
                refine jx_iinc (y := (x9 + 1)) (lv' := [(9, .int (x9 + 1)), (8, .int 1), (10, .int r14), (0, .ref (ad 0)), (1, .int x1), (2, .int x2), (3, .int x3), (4, .int x4), (5, .int x5), (6, .int x6), (7, .int x7)]) E dX5_seen_146 10 rfl rfl (by decide) rfl ?_
                refine jx_goto (tgt := 70) E dX5_seen_149 (by decide) ?_
                refine jx_sub [3, 4, 5, 6, 7, 8, 9, 10, 1, 0] rfl ?_
                exact ih.2 x1 x2 x3 x4 x5 x6 x7 1 (x9 + 1) v18 hF
  refine jx_aload_n E dX5_seen_0 0 rfl ?_
  refine jx_iload_n E dX5_seen_1 1 rfl ?_
  refine jx_iconst (x := 1) E dX5_seen_2 (by decide) ?_
  obtain ⟨⟨r1, v1⟩, hc1, hF⟩ := jx_bind hF
  try dsimp only at hF
  refine jx_callVi (As := [.int x1, .int 1]) (st := []) (h := 0) E dX5_seen_3 2 rfl (k_X5_told hI x1 1 v r1 v1 hc1) (gb_V (List.mem_cons_of_mem _ tw_402) (List.mem_cons_of_mem _ tw_403) (List.mem_cons_of_mem _ tw_404) (List.mem_cons_of_mem _ tw_325) tw_401) rfl rfl rfl dd_X5_told rfl (Nat.le_of_ble_eq_true rfl) s_M0 rfl ⟨by decide, by decide⟩ ⟨Nat.le_refl 0, Nat.le_refl 0⟩ (Nat.le_of_ble_eq_true rfl) ?_
  refine jx_istore_n (lv' := [(3, .int r1), (0, .ref (ad 0)), (1, .int x1), (2, .int x2)]) E dX5_seen_6 (by decide) rfl ?_
  refine jx_aload_n E dX5_seen_7 1 rfl ?_
  refine jx_iload_n E dX5_seen_8 2 rfl ?_
  refine jx_iconst (x := 0) E dX5_seen_9 (by decide) ?_
  obtain ⟨⟨r2, v2⟩, hc2, hF⟩ := jx_bind hF
  try dsimp only at hF
  refine jx_callVi (As := [.int x1, .int 0]) (st := []) (h := 0) E dX5_seen_10 2 rfl (k_X5_told hI x1 0 v1 r2 v2 hc2) (gb_V (List.mem_cons_of_mem _ tw_402) (List.mem_cons_of_mem _ tw_403) (List.mem_cons_of_mem _ tw_404) (List.mem_cons_of_mem _ tw_325) tw_401) rfl rfl rfl dd_X5_told rfl (Nat.le_of_ble_eq_true rfl) s_M0 rfl ⟨by decide, by decide⟩ ⟨Nat.le_refl 0, Nat.le_refl 0⟩ (Nat.le_of_ble_eq_true rfl) ?_
  refine jx_aload_n E dX5_seen_13 1 rfl ?_
  refine jx_iload_n E dX5_seen_14 2 rfl ?_
  refine jx_iconst (x := 2) E dX5_seen_15 (by decide) ?_
  obtain ⟨⟨r3, v3⟩, hc3, hF⟩ := jx_bind hF
  try dsimp only at hF
  refine jx_callVi (As := [.int x1, .int 2]) (st := [.int r2]) (h := 0) E dX5_seen_16 2 rfl (k_X5_told hI x1 2 v2 r3 v3 hc3) (gb_V (List.mem_cons_of_mem _ tw_402) (List.mem_cons_of_mem _ tw_403) (List.mem_cons_of_mem _ tw_404) (List.mem_cons_of_mem _ tw_325) tw_401) rfl rfl rfl dd_X5_told rfl (Nat.le_of_ble_eq_true rfl) s_M0 rfl ⟨by decide, by decide⟩ ⟨Nat.le_refl 0, Nat.le_refl 0⟩ (Nat.le_of_ble_eq_true rfl) ?_
  refine jx_iload_n E dX5_seen_19 3 rfl ?_
  obtain ⟨⟨r4, v4⟩, hc4, hF⟩ := jx_bind hF
  try dsimp only at hF
  refine jx_callSi (As := [.int r2, .int r3, .int x2]) (st := []) E dX5_seen_20 3 rfl (k_X5_lotAt hI r2 r3 x2 v3 r4 v4 hc4) (gb_S (List.mem_cons_of_mem _ tw_407) (List.mem_cons_of_mem _ tw_408) (List.mem_cons_of_mem _ tw_325) tw_406) rfl rfl rfl dd_X5_lotAt rfl ⟨by decide, by decide⟩ ⟨Nat.le_refl 0, Nat.le_refl 0⟩ (Nat.le_of_ble_eq_true rfl) ?_
  refine jx_istore (lv' := [(4, .int r4), (3, .int r1), (0, .ref (ad 0)), (1, .int x1), (2, .int x2)]) E dX5_seen_23 (by decide) rfl ?_
  refine jx_iload E dX5_seen_25 0 rfl ?_
  refine jx_if_lt (tgt := 48) E dX5_seen_27 (by decide) (fun hc5 => ?_) (fun hc5 => ?_)
  · rw [if_pos hc5] at hF
    refine jx_iconst (x := 0) E dX5_seen_48 (by decide) ?_
    refine jx_istore (lv' := [(5, .int 0), (4, .int r4), (3, .int r1), (0, .ref (ad 0)), (1, .int x1), (2, .int x2)]) E dX5_seen_49 (by decide) rfl ?_
    refine jx_iconst (x := 0) E dX5_seen_51 (by decide) ?_
    refine jx_istore (lv' := [(6, .int 0), (5, .int 0), (4, .int r4), (3, .int r1), (0, .ref (ad 0)), (1, .int x1), (2, .int x2)]) E dX5_seen_52 (by decide) rfl ?_
    refine jx_iconst (x := 0) E dX5_seen_54 (by decide) ?_
    refine jx_istore (lv' := [(7, .int 0), (6, .int 0), (5, .int 0), (4, .int r4), (3, .int r1), (0, .ref (ad 0)), (1, .int x1), (2, .int x2)]) E dX5_seen_55 (by decide) rfl ?_
    refine jx_sub [5, 6, 7, 4, 3, 2, 1, 0] rfl ?_
    exact (key 100000).1 x1 x2 r1 r4 0 0 0 v4 hF
  · rw [if_neg hc5] at hF
    refine jx_aload_n E dX5_seen_30 2 rfl ?_
    refine jx_iload E dX5_seen_31 0 rfl ?_
    obtain ⟨⟨r6, v6⟩, hc6, hF⟩ := jx_bind hF
    try dsimp only at hF
    refine jx_callVi (As := [.int r4]) (st := []) (h := 0) E dX5_seen_33 1 rfl (k_X5_isThing hI r4 v4 r6 v6 hc6) (gb_V (List.mem_cons_of_mem _ tw_339) (List.mem_cons_of_mem _ tw_340) (List.mem_cons_of_mem _ tw_341) (List.mem_cons_of_mem _ tw_325) tw_338) rfl rfl rfl dd_X5_isThing rfl (Nat.le_of_ble_eq_true rfl) s_M0 rfl ⟨by decide, by decide⟩ ⟨Nat.le_refl 0, Nat.le_refl 0⟩ (Nat.le_of_ble_eq_true rfl) ?_
    refine jx_if_eq (tgt := 48) E dX5_seen_36 (by decide) (fun hc7 => ?_) (fun hc7 => ?_)
    · rw [if_pos hc7] at hF
      refine jx_iconst (x := 0) E dX5_seen_48 (by decide) ?_
      refine jx_istore (lv' := [(5, .int 0), (4, .int r4), (3, .int r1), (0, .ref (ad 0)), (1, .int x1), (2, .int x2)]) E dX5_seen_49 (by decide) rfl ?_
      refine jx_iconst (x := 0) E dX5_seen_51 (by decide) ?_
      refine jx_istore (lv' := [(6, .int 0), (5, .int 0), (4, .int r4), (3, .int r1), (0, .ref (ad 0)), (1, .int x1), (2, .int x2)]) E dX5_seen_52 (by decide) rfl ?_
      refine jx_iconst (x := 0) E dX5_seen_54 (by decide) ?_
      refine jx_istore (lv' := [(7, .int 0), (6, .int 0), (5, .int 0), (4, .int r4), (3, .int r1), (0, .ref (ad 0)), (1, .int x1), (2, .int x2)]) E dX5_seen_55 (by decide) rfl ?_
      refine jx_sub [5, 6, 7, 4, 3, 2, 1, 0] rfl ?_
      exact (key 100000).1 x1 x2 r1 r4 0 0 0 v6 hF
    · rw [if_neg hc7] at hF
      refine jx_aload_n E dX5_seen_39 2 rfl ?_
      refine jx_iload E dX5_seen_40 0 rfl ?_
      obtain ⟨⟨r8, v8⟩, hc8, hF⟩ := jx_bind hF
      try dsimp only at hF
      refine jx_callVi (As := [.int r4]) (st := []) (h := 0) E dX5_seen_42 1 rfl (k_X5_stands hI r4 v6 r8 v8 hc8) (gb_V (List.mem_cons_of_mem _ tw_384) (List.mem_cons_of_mem _ tw_385) (List.mem_cons_of_mem _ tw_386) (List.mem_cons_of_mem _ tw_325) tw_383) rfl rfl rfl dd_X5_stands rfl (Nat.le_of_ble_eq_true rfl) s_M0 rfl ⟨by decide, by decide⟩ ⟨Nat.le_refl 0, Nat.le_refl 0⟩ (Nat.le_of_ble_eq_true rfl) ?_
      refine jx_goto (tgt := 49) E dX5_seen_45 (by decide) ?_
      refine jx_istore (lv' := [(5, .int r8), (4, .int r4), (3, .int r1), (0, .ref (ad 0)), (1, .int x1), (2, .int x2)]) E dX5_seen_49 (by decide) rfl ?_
      refine jx_iconst (x := 0) E dX5_seen_51 (by decide) ?_
      refine jx_istore (lv' := [(6, .int 0), (5, .int r8), (4, .int r4), (3, .int r1), (0, .ref (ad 0)), (1, .int x1), (2, .int x2)]) E dX5_seen_52 (by decide) rfl ?_
      refine jx_iconst (x := 0) E dX5_seen_54 (by decide) ?_
      refine jx_istore (lv' := [(7, .int 0), (6, .int 0), (5, .int r8), (4, .int r4), (3, .int r1), (0, .ref (ad 0)), (1, .int x1), (2, .int x2)]) E dX5_seen_55 (by decide) rfl ?_
      refine jx_sub [5, 6, 7, 4, 3, 2, 1, 0] rfl ?_
      exact (key 100000).1 x1 x2 r1 r4 r8 0 0 v8 hF
def f_X5_looks_L  : Nat → Nat → Int32 → Int32 → Int32 → jx_V → Option (jx_V)
  | 0, _, _, _, _, _ => none
  | n + 1, tag, x1, x2, x3, v => (if tag = 0 then (if 4 ≤ x2 then ((f_X5_told x1 3 (jx_up (jx_up (jx_up v 0 6 0) 0 7 0) 0 8 0)).bind (fun (r2, v2) => (f_X5_looks_L n 1 x1 r2 1 v2))) else (if (x2 < 0 ∨ 4 ≤ Int32.toNatClampNeg x2) then none else (f_X5_looks_L n 0 x1 (x2 + 1) 0 (jx_up v 5 (Int32.toNatClampNeg x2) 0)))) else (if tag = 1 then (if 5 ≤ x3 then (some v) else ((f_X5_seen x1 x3 v).bind (fun (r5, v5) => ((f_X5_ones r5 v5).bind (fun (r6, v6) => (if r6 ≤ 0 then (f_X5_looks_L n 1 x1 x2 (x3 + 1) v6) else ((f_X5_told x1 0 v6).bind (fun (r8, v8) => ((f_X5_told x1 2 v8).bind (fun (r9, v9) => ((f_X5_lotAt r8 r9 x3 v9).bind (fun (r10, v10) => ((f_X5_its r10 1 v10).bind (fun (r11, v11) => (if (r11 < 0 ∨ 4 ≤ Int32.toNatClampNeg r11) then none else (if (r11 < 0 ∨ 4 ≤ Int32.toNatClampNeg r11) then none else (if r11 = x2 then (f_X5_looks_L n 1 x1 x2 (x3 + 1) (jx_up (jx_up (jx_up v11 5 (Int32.toNatClampNeg r11) ((v11 5 (Int32.toNatClampNeg r11)) + r6)) 0 6 (((jx_up v11 5 (Int32.toNatClampNeg r11) ((v11 5 (Int32.toNatClampNeg r11)) + r6)) 0 6) + r6)) 0 8 (((jx_up (jx_up v11 5 (Int32.toNatClampNeg r11) ((v11 5 (Int32.toNatClampNeg r11)) + r6)) 0 6 (((jx_up v11 5 (Int32.toNatClampNeg r11) ((v11 5 (Int32.toNatClampNeg r11)) + r6)) 0 6) + r6)) 0 8) ||| (1 <<< (r10 &&& 31))))) else ((f_X5_priceOf r10 (jx_up (jx_up (jx_up v11 5 (Int32.toNatClampNeg r11) ((v11 5 (Int32.toNatClampNeg r11)) + r6)) 0 6 (((jx_up v11 5 (Int32.toNatClampNeg r11) ((v11 5 (Int32.toNatClampNeg r11)) + r6)) 0 6) + r6)) 0 8 (((jx_up (jx_up v11 5 (Int32.toNatClampNeg r11) ((v11 5 (Int32.toNatClampNeg r11)) + r6)) 0 6 (((jx_up v11 5 (Int32.toNatClampNeg r11) ((v11 5 (Int32.toNatClampNeg r11)) + r6)) 0 6) + r6)) 0 8) ||| (1 <<< (r10 &&& 31))))).bind (fun (r15, v15) => (if (r11 < 0 ∨ 4 ≤ Int32.toNatClampNeg r11) then none else (if (r11 < 0 ∨ 4 ≤ Int32.toNatClampNeg r11) then none else (if (x2 < 0 ∨ 4 ≤ Int32.toNatClampNeg x2) then none else (if (x2 < 0 ∨ 4 ≤ Int32.toNatClampNeg x2) then none else (f_X5_looks_L n 1 x1 x2 (x3 + 1) (jx_up (jx_up (jx_up v15 0 7 ((v15 0 7) + (r6 * r15))) 6 (Int32.toNatClampNeg r11) (((jx_up v15 0 7 ((v15 0 7) + (r6 * r15))) 6 (Int32.toNatClampNeg r11)) + (r6 * r15))) 6 (Int32.toNatClampNeg x2) (((jx_up (jx_up v15 0 7 ((v15 0 7) + (r6 * r15))) 6 (Int32.toNatClampNeg r11) (((jx_up v15 0 7 ((v15 0 7) + (r6 * r15))) 6 (Int32.toNatClampNeg r11)) + (r6 * r15))) 6 (Int32.toNatClampNeg x2)) - (r6 * r15))))))))))))))))))))))))))) else none))
def f_X5_looks (x1 : Int32) (v : jx_V) : Option (jx_V) := (f_X5_looks_L 100000 0 x1 0 0 v)
def rm_X5_looks : Room := { frames := 4, cells := 0, slots := 0, locals := 98 }
set_option maxHeartbeats 4000000 in
set_option maxRecDepth 100000 in
theorem k_X5_looks {l : Launch} {D : va_G} {cI cJ : ClassId} {ad : Nat → Nat} {A : Nat → Prop} (hI : jx_inj 13 ad A) (x1 : Int32) (v : jx_V) (v' : jx_V) (hF : f_X5_looks x1 v = some v') : jx_Cv l D vwCl 13 cI cJ ad shM A ex_M yX5_looks (Cond.code yX5_looks cX5_looks 8 (none) :: bigT) rm_X5_looks [.ref (ad 0), .int x1] v v' := by
  unfold f_X5_looks at hF
  refine jx_enterv bigT RX5 cX5_looks 8 (none) [(0, .ref (ad 0)), (1, .int x1)] hI (ex_M_ok A) (by decide +kernel) rfl (Nat.le_of_ble_eq_true rfl) rfl rfl ?_
  intro p e s m args below meth c E
  have iX5 : ∀ w ∈ u_ws RX5 TX5 21, w ∈ (Cond.code yX5_looks cX5_looks 8 (none) :: bigT) := fun w h => List.mem_cons_of_mem _ (uw_X5 w h)
  have key : ∀ n : Nat, (∀ (x1 : Int32) (x2 : Int32) (v : jx_V), f_X5_looks_L  n 0 x1 x2 0 v = some v' → jx_J p l e rm_X5_looks s m args below meth c D vwCl 13 cI cJ ad shM A 0 0 8 (MQ below (va_Qv (fun (_ : Unit) => True) (fun _ t => va_P D vwCl (jx_ws 13 cI cJ ad shM v') t.heap) A) args s 0 0 A) v 2 [(0, .ref (ad 0)), (1, .int x1), (2, .int x2)] []) ∧ (∀ (x1 : Int32) (x2 : Int32) (x3 : Int32) (v : jx_V), f_X5_looks_L  n 1 x1 x2 x3 v = some v' → jx_J p l e rm_X5_looks s m args below meth c D vwCl 13 cI cJ ad shM A 0 0 8 (MQ below (va_Qv (fun (_ : Unit) => True) (fun _ t => va_P D vwCl (jx_ws 13 cI cJ ad shM v') t.heap) A) args s 0 0 A) v 44 [(0, .ref (ad 0)), (1, .int x1), (2, .int x2), (3, .int x3)] []) := by
    intro n
    induction n with
    | zero =>
      exact ⟨(fun _ _ _ h => by cases h), (fun _ _ _ _ h => by cases h)⟩
    | succ n ih =>
      refine ⟨?_, ?_⟩
      · intro x1 x2 v hF
        rw [f_X5_looks_L] at hF
        rw [if_pos rfl] at hF
        refine jx_iload_n E dX5_looks_2 2 rfl ?_
        refine jx_iconst (x := 4) E dX5_looks_3 (by decide) ?_
        refine jx_icmp_ge (tgt := 20) E dX5_looks_4 (by decide) (fun hc1 => ?_) (fun hc1 => ?_)
        · rw [if_pos hc1] at hF
          refine jx_aload_n E dX5_looks_20 0 rfl ?_
          refine jx_iconst (x := 0) E dX5_looks_21 (by decide) ?_
          refine jx_puti (C := RX5) (T := TX5) (M := 21) (k := 6) (ty := .int) E tyX5 dX5_looks_22 (Nat.le_of_ble_eq_true rfl) s_M0 rfl iX5 (by decide) rfl (List.mem_cons_of_mem _ tw_409) tyX5_ok nmX5 rfl (by decide +kernel) rfl rfl rfl ?_
          refine jx_aload_n E dX5_looks_25 0 rfl ?_
          refine jx_iconst (x := 0) E dX5_looks_26 (by decide) ?_
          refine jx_puti (C := RX5) (T := TX5) (M := 21) (k := 7) (ty := .int) E tyX5 dX5_looks_27 (Nat.le_of_ble_eq_true rfl) s_M0 rfl iX5 (by decide) rfl (List.mem_cons_of_mem _ tw_410) tyX5_ok nmX5 rfl (by decide +kernel) rfl rfl rfl ?_
          refine jx_aload_n E dX5_looks_30 0 rfl ?_
          refine jx_iconst (x := 0) E dX5_looks_31 (by decide) ?_
          refine jx_puti (C := RX5) (T := TX5) (M := 21) (k := 8) (ty := .int) E tyX5 dX5_looks_32 (Nat.le_of_ble_eq_true rfl) s_M0 rfl iX5 (by decide) rfl (List.mem_cons_of_mem _ tw_411) tyX5_ok nmX5 rfl (by decide +kernel) rfl rfl rfl ?_
          refine jx_aload_n E dX5_looks_35 0 rfl ?_
          refine jx_iload_n E dX5_looks_36 1 rfl ?_
          refine jx_iconst (x := 3) E dX5_looks_37 (by decide) ?_
          obtain ⟨⟨r2, v2⟩, hc2, hF⟩ := jx_bind hF
          try dsimp only at hF
          refine jx_callVi (As := [.int x1, .int 3]) (st := []) (h := 0) E dX5_looks_38 2 rfl (k_X5_told hI x1 3 (jx_up (jx_up (jx_up v 0 6 0) 0 7 0) 0 8 0) r2 v2 hc2) (gb_V (List.mem_cons_of_mem _ tw_402) (List.mem_cons_of_mem _ tw_403) (List.mem_cons_of_mem _ tw_404) (List.mem_cons_of_mem _ tw_325) tw_401) rfl rfl rfl dd_X5_told rfl (Nat.le_of_ble_eq_true rfl) s_M0 rfl ⟨by decide, by decide⟩ ⟨Nat.le_refl 0, Nat.le_refl 0⟩ (Nat.le_of_ble_eq_true rfl) ?_
          refine jx_istore_n (lv' := [(2, .int r2), (0, .ref (ad 0)), (1, .int x1)]) E dX5_looks_41 (by decide) rfl ?_
          refine jx_iconst (x := 1) E dX5_looks_42 (by decide) ?_
          refine jx_istore_n (lv' := [(3, .int 1), (2, .int r2), (0, .ref (ad 0)), (1, .int x1)]) E dX5_looks_43 (by decide) rfl ?_
          refine jx_sub [2, 3, 1, 0] rfl ?_
          exact ih.2 x1 r2 1 v2 hF
        · rw [if_neg hc1] at hF
          refine jx_aload_n E dX5_looks_7 0 rfl ?_
          refine jx_getr (C := RX5) (T := TX5) (M := 21) (k := 5) E dX5_looks_8 (Nat.le_of_ble_eq_true rfl) s_M0 rfl iX5 (by decide) rfl (List.mem_cons_of_mem _ tw_412) rfl ?_
          refine jx_iload_n E dX5_looks_11 2 rfl ?_
          refine jx_iconst (x := 0) E dX5_looks_12 (by decide) ?_
          obtain ⟨hg3, hF⟩ := jx_guard hF
          refine jx_iast (h := 5) (j := (Int32.toNatClampNeg x2)) E dX5_looks_13 (Nat.le_of_ble_eq_true rfl) s_M5 hg3 rfl ?_
          refine jx_iinc (y := (x2 + 1)) (lv' := [(2, .int (x2 + 1)), (0, .ref (ad 0)), (1, .int x1)]) E dX5_looks_14 2 rfl rfl (by decide) rfl ?_
          refine jx_goto (tgt := 2) E dX5_looks_17 (by decide) ?_
          refine jx_sub [1, 2, 0] rfl ?_
          exact ih.1 x1 (x2 + 1) (jx_up v 5 (Int32.toNatClampNeg x2) 0) hF
      · intro x1 x2 x3 v hF
        rw [f_X5_looks_L] at hF
        rw [if_neg (by decide), if_pos rfl] at hF
        refine jx_iload_n E dX5_looks_44 3 rfl ?_
        refine jx_iconst (x := 5) E dX5_looks_45 (by decide) ?_
        refine jx_icmp_ge (tgt := 185) E dX5_looks_46 (by decide) (fun hc4 => ?_) (fun hc4 => ?_)
        · rw [if_pos hc4] at hF
          obtain rfl := Option.some.inj hF
          exact jx_vret E dX5_looks_185 rfl
        · rw [if_neg hc4] at hF
          refine jx_aload_n E dX5_looks_49 0 rfl ?_
          refine jx_iload_n E dX5_looks_50 1 rfl ?_
          refine jx_iload_n E dX5_looks_51 3 rfl ?_
          obtain ⟨⟨r5, v5⟩, hc5, hF⟩ := jx_bind hF
          try dsimp only at hF
          refine jx_callVi (As := [.int x1, .int x3]) (st := []) (h := 0) E dX5_looks_52 2 rfl (k_X5_seen hI x1 x3 v r5 v5 hc5) (gb_V (List.mem_cons_of_mem _ tw_414) (List.mem_cons_of_mem _ tw_415) (List.mem_cons_of_mem _ tw_416) (List.mem_cons_of_mem _ tw_325) tw_413) rfl rfl rfl dd_X5_seen rfl (Nat.le_of_ble_eq_true rfl) s_M0 rfl ⟨by decide, by decide⟩ ⟨Nat.le_refl 0, Nat.le_refl 0⟩ (Nat.le_of_ble_eq_true rfl) ?_
          obtain ⟨⟨r6, v6⟩, hc6, hF⟩ := jx_bind hF
          try dsimp only at hF
          refine jx_callSi (As := [.int r5]) (st := []) E dX5_looks_55 1 rfl (k_X5_ones hI r5 v5 r6 v6 hc6) (gb_S (List.mem_cons_of_mem _ tw_418) (List.mem_cons_of_mem _ tw_419) (List.mem_cons_of_mem _ tw_325) tw_417) rfl rfl rfl dd_X5_ones rfl ⟨by decide, by decide⟩ ⟨Nat.le_refl 0, Nat.le_refl 0⟩ (Nat.le_of_ble_eq_true rfl) ?_
          refine jx_istore (lv' := [(4, .int r6), (0, .ref (ad 0)), (1, .int x1), (2, .int x2), (3, .int x3)]) E dX5_looks_58 (by decide) rfl ?_
          refine jx_iload E dX5_looks_60 0 rfl ?_
          refine jx_if_le (tgt := 179) E dX5_looks_62 (by decide) (fun hc7 => ?_) (fun hc7 => ?_)
          · rw [if_pos hc7] at hF
            refine jx_iinc (y := (x3 + 1)) (lv' := [(3, .int (x3 + 1)), (4, .int r6), (0, .ref (ad 0)), (1, .int x1), (2, .int x2)]) E dX5_looks_179 4 rfl rfl (by decide) rfl ?_
            refine jx_goto (tgt := 44) E dX5_looks_182 (by decide) ?_
            refine jx_sub [2, 3, 4, 0] rfl ?_
            exact ih.2 x1 x2 (x3 + 1) v6 hF
          · rw [if_neg hc7] at hF
            refine jx_aload_n E dX5_looks_65 1 rfl ?_
            refine jx_iload_n E dX5_looks_66 2 rfl ?_
            refine jx_iconst (x := 0) E dX5_looks_67 (by decide) ?_
            obtain ⟨⟨r8, v8⟩, hc8, hF⟩ := jx_bind hF
            try dsimp only at hF
            refine jx_callVi (As := [.int x1, .int 0]) (st := []) (h := 0) E dX5_looks_68 2 rfl (k_X5_told hI x1 0 v6 r8 v8 hc8) (gb_V (List.mem_cons_of_mem _ tw_402) (List.mem_cons_of_mem _ tw_403) (List.mem_cons_of_mem _ tw_404) (List.mem_cons_of_mem _ tw_325) tw_401) rfl rfl rfl dd_X5_told rfl (Nat.le_of_ble_eq_true rfl) s_M0 rfl ⟨by decide, by decide⟩ ⟨Nat.le_refl 0, Nat.le_refl 0⟩ (Nat.le_of_ble_eq_true rfl) ?_
            refine jx_aload_n E dX5_looks_71 1 rfl ?_
            refine jx_iload_n E dX5_looks_72 2 rfl ?_
            refine jx_iconst (x := 2) E dX5_looks_73 (by decide) ?_
            obtain ⟨⟨r9, v9⟩, hc9, hF⟩ := jx_bind hF
            try dsimp only at hF
            refine jx_callVi (As := [.int x1, .int 2]) (st := [.int r8]) (h := 0) E dX5_looks_74 2 rfl (k_X5_told hI x1 2 v8 r9 v9 hc9) (gb_V (List.mem_cons_of_mem _ tw_402) (List.mem_cons_of_mem _ tw_403) (List.mem_cons_of_mem _ tw_404) (List.mem_cons_of_mem _ tw_325) tw_401) rfl rfl rfl dd_X5_told rfl (Nat.le_of_ble_eq_true rfl) s_M0 rfl ⟨by decide, by decide⟩ ⟨Nat.le_refl 0, Nat.le_refl 0⟩ (Nat.le_of_ble_eq_true rfl) ?_
            refine jx_iload_n E dX5_looks_77 4 rfl ?_
            obtain ⟨⟨r10, v10⟩, hc10, hF⟩ := jx_bind hF
            try dsimp only at hF
            refine jx_callSi (As := [.int r8, .int r9, .int x3]) (st := []) E dX5_looks_78 3 rfl (k_X5_lotAt hI r8 r9 x3 v9 r10 v10 hc10) (gb_S (List.mem_cons_of_mem _ tw_407) (List.mem_cons_of_mem _ tw_408) (List.mem_cons_of_mem _ tw_325) tw_406) rfl rfl rfl dd_X5_lotAt rfl ⟨by decide, by decide⟩ ⟨Nat.le_refl 0, Nat.le_refl 0⟩ (Nat.le_of_ble_eq_true rfl) ?_
            refine jx_istore (lv' := [(5, .int r10), (4, .int r6), (0, .ref (ad 0)), (1, .int x1), (2, .int x2), (3, .int x3)]) E dX5_looks_81 (by decide) rfl ?_
            refine jx_aload_n E dX5_looks_83 2 rfl ?_
            refine jx_iload E dX5_looks_84 0 rfl ?_
            refine jx_iconst (x := 1) E dX5_looks_86 (by decide) ?_
            obtain ⟨⟨r11, v11⟩, hc11, hF⟩ := jx_bind hF
            try dsimp only at hF
            refine jx_callVi (As := [.int r10, .int 1]) (st := []) (h := 0) E dX5_looks_87 2 rfl (k_X5_its hI r10 1 v10 r11 v11 hc11) (gb_V (List.mem_cons_of_mem _ tw_335) (List.mem_cons_of_mem _ tw_336) (List.mem_cons_of_mem _ tw_337) (List.mem_cons_of_mem _ tw_325) tw_334) rfl rfl rfl dd_X5_its rfl (Nat.le_of_ble_eq_true rfl) s_M0 rfl ⟨by decide, by decide⟩ ⟨Nat.le_refl 0, Nat.le_refl 0⟩ (Nat.le_of_ble_eq_true rfl) ?_
            refine jx_istore (lv' := [(6, .int r11), (5, .int r10), (4, .int r6), (0, .ref (ad 0)), (1, .int x1), (2, .int x2), (3, .int x3)]) E dX5_looks_90 (by decide) rfl ?_
            refine jx_aload_n E dX5_looks_92 3 rfl ?_
            refine jx_getr (C := RX5) (T := TX5) (M := 21) (k := 5) E dX5_looks_93 (Nat.le_of_ble_eq_true rfl) s_M0 rfl iX5 (by decide) rfl (List.mem_cons_of_mem _ tw_412) rfl ?_
            refine jx_iload E dX5_looks_96 0 rfl ?_
            refine jx_dup2 E dX5_looks_98 rfl rfl ?_
            obtain ⟨hg12, hF⟩ := jx_guard hF
            refine jx_iald (h := 5) (j := (Int32.toNatClampNeg r11)) E dX5_looks_99 (Nat.le_of_ble_eq_true rfl) s_M5 hg12 rfl ?_
            refine jx_iload E dX5_looks_100 2 rfl ?_
            refine jx_iadd E dX5_looks_102 ?_
            obtain ⟨hg13, hF⟩ := jx_guard hF
            refine jx_iast (h := 5) (j := (Int32.toNatClampNeg r11)) E dX5_looks_103 (Nat.le_of_ble_eq_true rfl) s_M5 hg13 rfl ?_
            refine jx_aload_n E dX5_looks_104 3 rfl ?_
            refine jx_dup E dX5_looks_105 rfl ?_
            refine jx_geti (C := RX5) (T := TX5) (M := 21) (k := 6) E dX5_looks_106 (Nat.le_of_ble_eq_true rfl) s_M0 rfl iX5 (by decide) rfl (List.mem_cons_of_mem _ tw_409) rfl ?_
            refine jx_iload E dX5_looks_109 2 rfl ?_
            refine jx_iadd E dX5_looks_111 ?_
            refine jx_puti (C := RX5) (T := TX5) (M := 21) (k := 6) (ty := .int) E tyX5 dX5_looks_112 (Nat.le_of_ble_eq_true rfl) s_M0 rfl iX5 (by decide) rfl (List.mem_cons_of_mem _ tw_409) tyX5_ok nmX5 rfl (by decide +kernel) rfl rfl rfl ?_
            refine jx_aload_n E dX5_looks_115 3 rfl ?_
            refine jx_dup E dX5_looks_116 rfl ?_
            refine jx_geti (C := RX5) (T := TX5) (M := 21) (k := 8) E dX5_looks_117 (Nat.le_of_ble_eq_true rfl) s_M0 rfl iX5 (by decide) rfl (List.mem_cons_of_mem _ tw_411) rfl ?_
            refine jx_iconst (x := 1) E dX5_looks_120 (by decide) ?_
            refine jx_iload E dX5_looks_121 1 rfl ?_
            refine jx_ishl E dX5_looks_123 ?_
            refine jx_ior E dX5_looks_124 ?_
            refine jx_puti (C := RX5) (T := TX5) (M := 21) (k := 8) (ty := .int) E tyX5 dX5_looks_125 (Nat.le_of_ble_eq_true rfl) s_M0 rfl iX5 (by decide) rfl (List.mem_cons_of_mem _ tw_411) tyX5_ok nmX5 rfl (by decide +kernel) rfl rfl rfl ?_
            refine jx_iload E dX5_looks_128 0 rfl ?_
            refine jx_iload_n E dX5_looks_130 5 rfl ?_
            refine jx_icmp_eq (tgt := 179) E dX5_looks_131 (by decide) (fun hc14 => ?_) (fun hc14 => ?_)
            · rw [if_pos hc14] at hF
              refine jx_iinc (y := (x3 + 1)) (lv' := [(3, .int (x3 + 1)), (6, .int r11), (5, .int r10), (4, .int r6), (0, .ref (ad 0)), (1, .int x1), (2, .int x2)]) E dX5_looks_179 6 rfl rfl (by decide) rfl ?_
              refine jx_goto (tgt := 44) E dX5_looks_182 (by decide) ?_
              refine jx_sub [4, 5, 6, 0] rfl ?_
              exact ih.2 x1 x2 (x3 + 1) (jx_up (jx_up (jx_up v11 5 (Int32.toNatClampNeg r11) ((v11 5 (Int32.toNatClampNeg r11)) + r6)) 0 6 (((jx_up v11 5 (Int32.toNatClampNeg r11) ((v11 5 (Int32.toNatClampNeg r11)) + r6)) 0 6) + r6)) 0 8 (((jx_up (jx_up v11 5 (Int32.toNatClampNeg r11) ((v11 5 (Int32.toNatClampNeg r11)) + r6)) 0 6 (((jx_up v11 5 (Int32.toNatClampNeg r11) ((v11 5 (Int32.toNatClampNeg r11)) + r6)) 0 6) + r6)) 0 8) ||| (1 <<< (r10 &&& 31)))) hF
            · rw [if_neg hc14] at hF
              refine jx_iload E dX5_looks_134 2 rfl ?_
              refine jx_aload_n E dX5_looks_136 3 rfl ?_
              refine jx_iload E dX5_looks_137 1 rfl ?_
              obtain ⟨⟨r15, v15⟩, hc15, hF⟩ := jx_bind hF
              try dsimp only at hF
              refine jx_callVi (As := [.int r10]) (st := [.int r6]) (h := 0) E dX5_looks_139 1 rfl (k_X5_priceOf hI r10 (jx_up (jx_up (jx_up v11 5 (Int32.toNatClampNeg r11) ((v11 5 (Int32.toNatClampNeg r11)) + r6)) 0 6 (((jx_up v11 5 (Int32.toNatClampNeg r11) ((v11 5 (Int32.toNatClampNeg r11)) + r6)) 0 6) + r6)) 0 8 (((jx_up (jx_up v11 5 (Int32.toNatClampNeg r11) ((v11 5 (Int32.toNatClampNeg r11)) + r6)) 0 6 (((jx_up v11 5 (Int32.toNatClampNeg r11) ((v11 5 (Int32.toNatClampNeg r11)) + r6)) 0 6) + r6)) 0 8) ||| (1 <<< (r10 &&& 31)))) r15 v15 hc15) (gb_V (List.mem_cons_of_mem _ tw_380) (List.mem_cons_of_mem _ tw_381) (List.mem_cons_of_mem _ tw_382) (List.mem_cons_of_mem _ tw_325) tw_379) rfl rfl rfl dd_X5_priceOf rfl (Nat.le_of_ble_eq_true rfl) s_M0 rfl ⟨by decide, by decide⟩ ⟨Nat.le_refl 0, Nat.le_refl 0⟩ (Nat.le_of_ble_eq_true rfl) ?_
              refine jx_imul E dX5_looks_142 ?_
              refine jx_istore (lv' := [(7, .int (r6 * r15)), (6, .int r11), (5, .int r10), (4, .int r6), (0, .ref (ad 0)), (1, .int x1), (2, .int x2), (3, .int x3)]) E dX5_looks_143 (by decide) rfl ?_
              refine jx_aload_n E dX5_looks_145 4 rfl ?_
              refine jx_dup E dX5_looks_146 rfl ?_
              refine jx_geti (C := RX5) (T := TX5) (M := 21) (k := 7) E dX5_looks_147 (Nat.le_of_ble_eq_true rfl) s_M0 rfl iX5 (by decide) rfl (List.mem_cons_of_mem _ tw_410) rfl ?_
              refine jx_iload E dX5_looks_150 0 rfl ?_
              refine jx_iadd E dX5_looks_152 ?_
              refine jx_puti (C := RX5) (T := TX5) (M := 21) (k := 7) (ty := .int) E tyX5 dX5_looks_153 (Nat.le_of_ble_eq_true rfl) s_M0 rfl iX5 (by decide) rfl (List.mem_cons_of_mem _ tw_410) tyX5_ok nmX5 rfl (by decide +kernel) rfl rfl rfl ?_
              refine jx_aload_n E dX5_looks_156 4 rfl ?_
              refine jx_getr (C := RX5) (T := TX5) (M := 21) (k := 9) E dX5_looks_157 (Nat.le_of_ble_eq_true rfl) s_M0 rfl iX5 (by decide) rfl (List.mem_cons_of_mem _ tw_420) rfl ?_
              refine jx_iload E dX5_looks_160 1 rfl ?_
              refine jx_dup2 E dX5_looks_162 rfl rfl ?_
              obtain ⟨hg16, hF⟩ := jx_guard hF
              refine jx_iald (h := 6) (j := (Int32.toNatClampNeg r11)) E dX5_looks_163 (Nat.le_of_ble_eq_true rfl) s_M6 hg16 rfl ?_
              refine jx_iload E dX5_looks_164 0 rfl ?_
              refine jx_iadd E dX5_looks_166 ?_
              obtain ⟨hg17, hF⟩ := jx_guard hF
              refine jx_iast (h := 6) (j := (Int32.toNatClampNeg r11)) E dX5_looks_167 (Nat.le_of_ble_eq_true rfl) s_M6 hg17 rfl ?_
              refine jx_aload_n E dX5_looks_168 4 rfl ?_
              refine jx_getr (C := RX5) (T := TX5) (M := 21) (k := 9) E dX5_looks_169 (Nat.le_of_ble_eq_true rfl) s_M0 rfl iX5 (by decide) rfl (List.mem_cons_of_mem _ tw_420) rfl ?_
              refine jx_iload_n E dX5_looks_172 6 rfl ?_
              refine jx_dup2 E dX5_looks_173 rfl rfl ?_
              obtain ⟨hg18, hF⟩ := jx_guard hF
              refine jx_iald (h := 6) (j := (Int32.toNatClampNeg x2)) E dX5_looks_174 (Nat.le_of_ble_eq_true rfl) s_M6 hg18 rfl ?_
              refine jx_iload E dX5_looks_175 0 rfl ?_
              refine jx_isub E dX5_looks_177 ?_
              obtain ⟨hg19, hF⟩ := jx_guard hF
              refine jx_iast (h := 6) (j := (Int32.toNatClampNeg x2)) E dX5_looks_178 (Nat.le_of_ble_eq_true rfl) s_M6 hg19 rfl ?_
              refine jx_iinc (y := (x3 + 1)) (lv' := [(3, .int (x3 + 1)), (7, .int (r6 * r15)), (6, .int r11), (5, .int r10), (4, .int r6), (0, .ref (ad 0)), (1, .int x1), (2, .int x2)]) E dX5_looks_179 7 rfl rfl (by decide) rfl ?_
              refine jx_goto (tgt := 44) E dX5_looks_182 (by decide) ?_
              refine jx_sub [5, 6, 7, 0] rfl ?_
              exact ih.2 x1 x2 (x3 + 1) (jx_up (jx_up (jx_up v15 0 7 ((v15 0 7) + (r6 * r15))) 6 (Int32.toNatClampNeg r11) (((jx_up v15 0 7 ((v15 0 7) + (r6 * r15))) 6 (Int32.toNatClampNeg r11)) + (r6 * r15))) 6 (Int32.toNatClampNeg x2) (((jx_up (jx_up v15 0 7 ((v15 0 7) + (r6 * r15))) 6 (Int32.toNatClampNeg r11) (((jx_up v15 0 7 ((v15 0 7) + (r6 * r15))) 6 (Int32.toNatClampNeg r11)) + (r6 * r15))) 6 (Int32.toNatClampNeg x2)) - (r6 * r15))) hF
  refine jx_iconst (x := 0) E dX5_looks_0 (by decide) ?_
  refine jx_istore_n (lv' := [(2, .int 0), (0, .ref (ad 0)), (1, .int x1)]) E dX5_looks_1 (by decide) rfl ?_
  refine jx_sub [1, 2, 0] rfl ?_
  exact (key 100000).1 x1 0 v hF
def f_X5_isBroken (x1 : Int32) (v : jx_V) : Option (Int32 × jx_V) := ((f_X5_looks x1 v).bind (fun v1 => ((f_X5_told x1 4 v1).bind (fun (r2, v2) => (if r2 < 0 then (some (0, v2)) else (if (r2 < 0 ∨ 4 ≤ Int32.toNatClampNeg r2) then none else ((f_X5_told x1 5 v2).bind (fun (r5, v5) => (if r5 ≤ (v2 5 (Int32.toNatClampNeg r2)) then (some (0, v5)) else (some (1, v5)))))))))))
def rm_X5_isBroken : Room := { frames := 5, cells := 0, slots := 0, locals := 125 }
set_option maxHeartbeats 4000000 in
set_option maxRecDepth 100000 in
theorem k_X5_isBroken {l : Launch} {D : va_G} {cI cJ : ClassId} {ad : Nat → Nat} {A : Nat → Prop} (hI : jx_inj 13 ad A) (x1 : Int32) (v : jx_V) (r : Int32) (v' : jx_V) (hF : f_X5_isBroken x1 v = some (r, v')) : jx_Ci l D vwCl 13 cI cJ ad shM A ex_M yX5_isBroken (Cond.code yX5_isBroken cX5_isBroken 3 (some .boolean) :: bigT) rm_X5_isBroken [.ref (ad 0), .int x1] v r v' := by
  unfold f_X5_isBroken at hF
  refine jx_enteri bigT RX5 cX5_isBroken 3 (some .boolean) [(0, .ref (ad 0)), (1, .int x1)] hI (ex_M_ok A) (by decide +kernel) rfl (Nat.le_of_ble_eq_true rfl) rfl rfl ?_
  intro p e s m args below meth c E
  have iX5 : ∀ w ∈ u_ws RX5 TX5 21, w ∈ (Cond.code yX5_isBroken cX5_isBroken 3 (some .boolean) :: bigT) := fun w h => List.mem_cons_of_mem _ (uw_X5 w h)
  refine jx_aload_n E dX5_isBroken_0 0 rfl ?_
  refine jx_iload_n E dX5_isBroken_1 1 rfl ?_
  obtain ⟨v1, hc1, hF⟩ := jx_bind hF
  try dsimp only at hF
  refine jx_callVv (As := [.int x1]) (st := []) (h := 0) E dX5_isBroken_2 1 rfl (k_X5_looks hI x1 v v1 hc1) (gb_V (List.mem_cons_of_mem _ tw_422) (List.mem_cons_of_mem _ tw_423) (List.mem_cons_of_mem _ tw_424) (List.mem_cons_of_mem _ tw_325) tw_421) rfl rfl rfl dd_X5_looks rfl (Nat.le_of_ble_eq_true rfl) s_M0 rfl ⟨by decide, by decide⟩ ⟨Nat.le_refl 0, Nat.le_refl 0⟩ (Nat.le_of_ble_eq_true rfl) ?_
  refine jx_aload_n E dX5_isBroken_5 0 rfl ?_
  refine jx_iload_n E dX5_isBroken_6 1 rfl ?_
  refine jx_iconst (x := 4) E dX5_isBroken_7 (by decide) ?_
  obtain ⟨⟨r2, v2⟩, hc2, hF⟩ := jx_bind hF
  try dsimp only at hF
  refine jx_callVi (As := [.int x1, .int 4]) (st := []) (h := 0) E dX5_isBroken_8 2 rfl (k_X5_told hI x1 4 v1 r2 v2 hc2) (gb_V (List.mem_cons_of_mem _ tw_402) (List.mem_cons_of_mem _ tw_403) (List.mem_cons_of_mem _ tw_404) (List.mem_cons_of_mem _ tw_325) tw_401) rfl rfl rfl dd_X5_told rfl (Nat.le_of_ble_eq_true rfl) s_M0 rfl ⟨by decide, by decide⟩ ⟨Nat.le_refl 0, Nat.le_refl 0⟩ (Nat.le_of_ble_eq_true rfl) ?_
  refine jx_istore_n (lv' := [(2, .int r2), (0, .ref (ad 0)), (1, .int x1)]) E dX5_isBroken_11 (by decide) rfl ?_
  refine jx_iload_n E dX5_isBroken_12 0 rfl ?_
  refine jx_if_lt (tgt := 35) E dX5_isBroken_13 (by decide) (fun hc3 => ?_) (fun hc3 => ?_)
  · rw [if_pos hc3] at hF
    refine jx_iconst (x := 0) E dX5_isBroken_35 (by decide) ?_
    obtain ⟨rfl, rfl⟩ := jx_out hF
    exact jx_zret E dX5_isBroken_36 rfl (Or.inl rfl)
  · rw [if_neg hc3] at hF
    refine jx_aload_n E dX5_isBroken_16 1 rfl ?_
    refine jx_getr (C := RX5) (T := TX5) (M := 21) (k := 5) E dX5_isBroken_17 (Nat.le_of_ble_eq_true rfl) s_M0 rfl iX5 (by decide) rfl (List.mem_cons_of_mem _ tw_412) rfl ?_
    refine jx_iload_n E dX5_isBroken_20 0 rfl ?_
    obtain ⟨hg4, hF⟩ := jx_guard hF
    refine jx_iald (h := 5) (j := (Int32.toNatClampNeg r2)) E dX5_isBroken_21 (Nat.le_of_ble_eq_true rfl) s_M5 hg4 rfl ?_
    refine jx_aload_n E dX5_isBroken_22 1 rfl ?_
    refine jx_iload_n E dX5_isBroken_23 2 rfl ?_
    refine jx_iconst (x := 5) E dX5_isBroken_24 (by decide) ?_
    obtain ⟨⟨r5, v5⟩, hc5, hF⟩ := jx_bind hF
    try dsimp only at hF
    refine jx_callVi (As := [.int x1, .int 5]) (st := [.int (v2 5 (Int32.toNatClampNeg r2))]) (h := 0) E dX5_isBroken_25 2 rfl (k_X5_told hI x1 5 v2 r5 v5 hc5) (gb_V (List.mem_cons_of_mem _ tw_402) (List.mem_cons_of_mem _ tw_403) (List.mem_cons_of_mem _ tw_404) (List.mem_cons_of_mem _ tw_325) tw_401) rfl rfl rfl dd_X5_told rfl (Nat.le_of_ble_eq_true rfl) s_M0 rfl ⟨by decide, by decide⟩ ⟨Nat.le_refl 0, Nat.le_refl 0⟩ (Nat.le_of_ble_eq_true rfl) ?_
    refine jx_icmp_ge (tgt := 35) E dX5_isBroken_28 (by decide) (fun hc6 => ?_) (fun hc6 => ?_)
    · rw [if_pos hc6] at hF
      refine jx_iconst (x := 0) E dX5_isBroken_35 (by decide) ?_
      obtain ⟨rfl, rfl⟩ := jx_out hF
      exact jx_zret E dX5_isBroken_36 rfl (Or.inl rfl)
    · rw [if_neg hc6] at hF
      refine jx_iconst (x := 1) E dX5_isBroken_31 (by decide) ?_
      refine jx_goto (tgt := 36) E dX5_isBroken_32 (by decide) ?_
      obtain ⟨rfl, rfl⟩ := jx_out hF
      exact jx_zret E dX5_isBroken_36 rfl (Or.inr rfl)
def f_X5_contract (x1 : Int32) (x2 : Int32) (x3 : Int32) (v : jx_V) : Option (Int32 × jx_V) := ((f_X5_isWindow x1 v).bind (fun (r1, v1) => (if r1 = 0 then ((f_X5_finds (-1000001) v1).bind (fun (r3, v3) => (some (r3, v3)))) else ((f_X5_in (Int32.toInt64 x2) (-1) 3 v1).bind (fun (r4, v4) => (if r4 = 0 then ((f_X5_finds (-1000001) v4).bind (fun (r6, v6) => (some (r6, v6)))) else ((f_X5_in (Int32.toInt64 x3) 0 36 v4).bind (fun (r7, v7) => (if r7 = 0 then ((f_X5_finds (-1000001) v7).bind (fun (r19, v19) => (some (r19, v19)))) else ((f_X5_where x1 4 v7).bind (fun (r9, v9) => (if (r9 < 0 ∨ 181 ≤ Int32.toNatClampNeg r9) then none else ((f_X5_where x1 5 (jx_up v9 1 (Int32.toNatClampNeg r9) x2)).bind (fun (r11, v11) => (if 0 ≤ x2 then (if (r11 < 0 ∨ 181 ≤ Int32.toNatClampNeg r11) then none else ((f_X5_isBroken x1 (jx_up v11 1 (Int32.toNatClampNeg r11) x3)).bind (fun (r14, v14) => (if r14 = 0 then (some (0, v14)) else (some (1, v14)))))) else (if (r11 < 0 ∨ 181 ≤ Int32.toNatClampNeg r11) then none else ((f_X5_isBroken x1 (jx_up v11 1 (Int32.toNatClampNeg r11) 0)).bind (fun (r17, v17) => (if r17 = 0 then (some (0, v17)) else (some (1, v17)))))))))))))))))))))
def rm_X5_contract : Room := { frames := 6, cells := 0, slots := 0, locals := 147 }
set_option maxHeartbeats 4000000 in
set_option maxRecDepth 100000 in
theorem k_X5_contract {l : Launch} {D : va_G} {cI cJ : ClassId} {ad : Nat → Nat} {A : Nat → Prop} (hI : jx_inj 13 ad A) (x1 : Int32) (x2 : Int32) (x3 : Int32) (v : jx_V) (r : Int32) (v' : jx_V) (hF : f_X5_contract x1 x2 x3 v = some (r, v')) : jx_Ci l D vwCl 13 cI cJ ad shM A ex_M yX5_contract (Cond.code yX5_contract cX5_contract 4 (some .int) :: bigT) rm_X5_contract [.ref (ad 0), .int x1, .int x2, .int x3] v r v' := by
  unfold f_X5_contract at hF
  refine jx_enteri bigT RX5 cX5_contract 4 (some .int) [(0, .ref (ad 0)), (1, .int x1), (2, .int x2), (3, .int x3)] hI (ex_M_ok A) (by decide +kernel) rfl (Nat.le_of_ble_eq_true rfl) rfl rfl ?_
  intro p e s m args below meth c E
  have iX5 : ∀ w ∈ u_ws RX5 TX5 21, w ∈ (Cond.code yX5_contract cX5_contract 4 (some .int) :: bigT) := fun w h => List.mem_cons_of_mem _ (uw_X5 w h)
  refine jx_aload_n E dX5_contract_0 0 rfl ?_
  refine jx_iload_n E dX5_contract_1 1 rfl ?_
  obtain ⟨⟨r1, v1⟩, hc1, hF⟩ := jx_bind hF
  try dsimp only at hF
  refine jx_callVi (As := [.int x1]) (st := []) (h := 0) E dX5_contract_2 1 rfl (k_X5_isWindow hI x1 v r1 v1 hc1) (gb_V (List.mem_cons_of_mem _ tw_397) (List.mem_cons_of_mem _ tw_398) (List.mem_cons_of_mem _ tw_399) (List.mem_cons_of_mem _ tw_325) tw_396) rfl rfl rfl dd_X5_isWindow rfl (Nat.le_of_ble_eq_true rfl) s_M0 rfl ⟨by decide, by decide⟩ ⟨Nat.le_refl 0, Nat.le_refl 0⟩ (Nat.le_of_ble_eq_true rfl) ?_
  refine jx_if_eq (tgt := 34) E dX5_contract_5 (by decide) (fun hc2 => ?_) (fun hc2 => ?_)
  · rw [if_pos hc2] at hF
    refine jx_aload_n E dX5_contract_34 0 rfl ?_
    refine jx_ldc (x := -1000001) E dX5_contract_35 (List.mem_cons_of_mem _ tw_320) ?_
    obtain ⟨⟨r3, v3⟩, hc3, hF⟩ := jx_bind hF
    try dsimp only at hF
    refine jx_callVi (As := [.int (-1000001)]) (st := []) (h := 0) E dX5_contract_37 1 rfl (k_X5_finds hI (-1000001) v1 r3 v3 hc3) (gb_V (List.mem_cons_of_mem _ tw_344) (List.mem_cons_of_mem _ tw_345) (List.mem_cons_of_mem _ tw_346) (List.mem_cons_of_mem _ tw_325) tw_343) rfl rfl rfl dd_X5_finds rfl (Nat.le_of_ble_eq_true rfl) s_M0 rfl ⟨by decide, by decide⟩ ⟨Nat.le_refl 0, Nat.le_refl 0⟩ (Nat.le_of_ble_eq_true rfl) ?_
    obtain ⟨rfl, rfl⟩ := jx_out hF
    exact jx_iret E dX5_contract_40 rfl
  · rw [if_neg hc2] at hF
    refine jx_iload_n E dX5_contract_8 2 rfl ?_
    refine jx_i2l E dX5_contract_9 ?_
    refine jx_ldc2 (x := -1) E dX5_contract_10 (List.mem_cons_of_mem _ tw_425) ?_
    refine jx_ldc2 (x := 3) E dX5_contract_13 (List.mem_cons_of_mem _ tw_326) ?_
    obtain ⟨⟨r4, v4⟩, hc4, hF⟩ := jx_bind hF
    try dsimp only at hF
    refine jx_callSi (As := [.long (Int32.toInt64 x2), .long (-1), .long 3]) (st := []) E dX5_contract_16 3 rfl (k_X5_in hI (Int32.toInt64 x2) (-1) 3 v1 r4 v4 hc4) (gb_S (List.mem_cons_of_mem _ tw_323) (List.mem_cons_of_mem _ tw_324) (List.mem_cons_of_mem _ tw_325) tw_322) rfl rfl rfl dd_X5_in rfl ⟨by decide, by decide⟩ ⟨Nat.le_refl 0, Nat.le_refl 0⟩ (Nat.le_of_ble_eq_true rfl) ?_
    refine jx_if_eq (tgt := 34) E dX5_contract_19 (by decide) (fun hc5 => ?_) (fun hc5 => ?_)
    · rw [if_pos hc5] at hF
      refine jx_aload_n E dX5_contract_34 0 rfl ?_
      refine jx_ldc (x := -1000001) E dX5_contract_35 (List.mem_cons_of_mem _ tw_320) ?_
      obtain ⟨⟨r6, v6⟩, hc6, hF⟩ := jx_bind hF
      try dsimp only at hF
      refine jx_callVi (As := [.int (-1000001)]) (st := []) (h := 0) E dX5_contract_37 1 rfl (k_X5_finds hI (-1000001) v4 r6 v6 hc6) (gb_V (List.mem_cons_of_mem _ tw_344) (List.mem_cons_of_mem _ tw_345) (List.mem_cons_of_mem _ tw_346) (List.mem_cons_of_mem _ tw_325) tw_343) rfl rfl rfl dd_X5_finds rfl (Nat.le_of_ble_eq_true rfl) s_M0 rfl ⟨by decide, by decide⟩ ⟨Nat.le_refl 0, Nat.le_refl 0⟩ (Nat.le_of_ble_eq_true rfl) ?_
      obtain ⟨rfl, rfl⟩ := jx_out hF
      exact jx_iret E dX5_contract_40 rfl
    · rw [if_neg hc5] at hF
      refine jx_iload_n E dX5_contract_22 3 rfl ?_
      refine jx_i2l E dX5_contract_23 ?_
      refine jx_lconst (x := 0) E dX5_contract_24 (by decide) ?_
      refine jx_ldc2 (x := 36) E dX5_contract_25 (List.mem_cons_of_mem _ tw_426) ?_
      obtain ⟨⟨r7, v7⟩, hc7, hF⟩ := jx_bind hF
      try dsimp only at hF
      refine jx_callSi (As := [.long (Int32.toInt64 x3), .long 0, .long 36]) (st := []) E dX5_contract_28 3 rfl (k_X5_in hI (Int32.toInt64 x3) 0 36 v4 r7 v7 hc7) (gb_S (List.mem_cons_of_mem _ tw_323) (List.mem_cons_of_mem _ tw_324) (List.mem_cons_of_mem _ tw_325) tw_322) rfl rfl rfl dd_X5_in rfl ⟨by decide, by decide⟩ ⟨Nat.le_refl 0, Nat.le_refl 0⟩ (Nat.le_of_ble_eq_true rfl) ?_
      refine jx_if_ne (tgt := 41) E dX5_contract_31 (by decide) (fun hc8 => ?_) (fun hc8 => ?_)
      · rw [if_neg hc8] at hF
        refine jx_aload_n E dX5_contract_41 0 rfl ?_
        refine jx_getr (C := RX5) (T := TX5) (M := 21) (k := 0) E dX5_contract_42 (Nat.le_of_ble_eq_true rfl) s_M0 rfl iX5 (by decide) rfl (List.mem_cons_of_mem _ tw_328) rfl ?_
        refine jx_iload_n E dX5_contract_45 1 rfl ?_
        refine jx_iconst (x := 4) E dX5_contract_46 (by decide) ?_
        obtain ⟨⟨r9, v9⟩, hc9, hF⟩ := jx_bind hF
        try dsimp only at hF
        refine jx_callSi (As := [.int x1, .int 4]) (st := [.ref (ad 1)]) E dX5_contract_47 2 rfl (k_X5_where hI x1 4 v7 r9 v9 hc9) (gb_S (List.mem_cons_of_mem _ tw_389) (List.mem_cons_of_mem _ tw_390) (List.mem_cons_of_mem _ tw_325) tw_388) rfl rfl rfl dd_X5_where rfl ⟨by decide, by decide⟩ ⟨Nat.le_refl 0, Nat.le_refl 0⟩ (Nat.le_of_ble_eq_true rfl) ?_
        refine jx_iload_n E dX5_contract_50 2 rfl ?_
        obtain ⟨hg10, hF⟩ := jx_guard hF
        refine jx_iast (h := 1) (j := (Int32.toNatClampNeg r9)) E dX5_contract_51 (Nat.le_of_ble_eq_true rfl) s_M1 hg10 rfl ?_
        refine jx_aload_n E dX5_contract_52 0 rfl ?_
        refine jx_getr (C := RX5) (T := TX5) (M := 21) (k := 0) E dX5_contract_53 (Nat.le_of_ble_eq_true rfl) s_M0 rfl iX5 (by decide) rfl (List.mem_cons_of_mem _ tw_328) rfl ?_
        refine jx_iload_n E dX5_contract_56 1 rfl ?_
        refine jx_iconst (x := 5) E dX5_contract_57 (by decide) ?_
        obtain ⟨⟨r11, v11⟩, hc11, hF⟩ := jx_bind hF
        try dsimp only at hF
        refine jx_callSi (As := [.int x1, .int 5]) (st := [.ref (ad 1)]) E dX5_contract_58 2 rfl (k_X5_where hI x1 5 (jx_up v9 1 (Int32.toNatClampNeg r9) x2) r11 v11 hc11) (gb_S (List.mem_cons_of_mem _ tw_389) (List.mem_cons_of_mem _ tw_390) (List.mem_cons_of_mem _ tw_325) tw_388) rfl rfl rfl dd_X5_where rfl ⟨by decide, by decide⟩ ⟨Nat.le_refl 0, Nat.le_refl 0⟩ (Nat.le_of_ble_eq_true rfl) ?_
        refine jx_iload_n E dX5_contract_61 2 rfl ?_
        refine jx_if_ge (tgt := 69) E dX5_contract_62 (by decide) (fun hc12 => ?_) (fun hc12 => ?_)
        · rw [if_pos hc12] at hF
          refine jx_iload_n E dX5_contract_69 3 rfl ?_
          obtain ⟨hg13, hF⟩ := jx_guard hF
          refine jx_iast (h := 1) (j := (Int32.toNatClampNeg r11)) E dX5_contract_70 (Nat.le_of_ble_eq_true rfl) s_M1 hg13 rfl ?_
          refine jx_aload_n E dX5_contract_71 0 rfl ?_
          refine jx_iload_n E dX5_contract_72 1 rfl ?_
          obtain ⟨⟨r14, v14⟩, hc14, hF⟩ := jx_bind hF
          try dsimp only at hF
          refine jx_callVi (As := [.int x1]) (st := []) (h := 0) E dX5_contract_73 1 rfl (k_X5_isBroken hI x1 (jx_up v11 1 (Int32.toNatClampNeg r11) x3) r14 v14 hc14) (gb_V (List.mem_cons_of_mem _ tw_428) (List.mem_cons_of_mem _ tw_429) (List.mem_cons_of_mem _ tw_430) (List.mem_cons_of_mem _ tw_325) tw_427) rfl rfl rfl dd_X5_isBroken rfl (Nat.le_of_ble_eq_true rfl) s_M0 rfl ⟨by decide, by decide⟩ ⟨Nat.le_refl 0, Nat.le_refl 0⟩ (Nat.le_of_ble_eq_true rfl) ?_
          refine jx_if_eq (tgt := 83) E dX5_contract_76 (by decide) (fun hc15 => ?_) (fun hc15 => ?_)
          · rw [if_pos hc15] at hF
            refine jx_iconst (x := 0) E dX5_contract_83 (by decide) ?_
            obtain ⟨rfl, rfl⟩ := jx_out hF
            exact jx_iret E dX5_contract_84 rfl
          · rw [if_neg hc15] at hF
            refine jx_iconst (x := 1) E dX5_contract_79 (by decide) ?_
            refine jx_goto (tgt := 84) E dX5_contract_80 (by decide) ?_
            obtain ⟨rfl, rfl⟩ := jx_out hF
            exact jx_iret E dX5_contract_84 rfl
        · rw [if_neg hc12] at hF
          refine jx_iconst (x := 0) E dX5_contract_65 (by decide) ?_
          refine jx_goto (tgt := 70) E dX5_contract_66 (by decide) ?_
          obtain ⟨hg16, hF⟩ := jx_guard hF
          refine jx_iast (h := 1) (j := (Int32.toNatClampNeg r11)) E dX5_contract_70 (Nat.le_of_ble_eq_true rfl) s_M1 hg16 rfl ?_
          refine jx_aload_n E dX5_contract_71 0 rfl ?_
          refine jx_iload_n E dX5_contract_72 1 rfl ?_
          obtain ⟨⟨r17, v17⟩, hc17, hF⟩ := jx_bind hF
          try dsimp only at hF
          refine jx_callVi (As := [.int x1]) (st := []) (h := 0) E dX5_contract_73 1 rfl (k_X5_isBroken hI x1 (jx_up v11 1 (Int32.toNatClampNeg r11) 0) r17 v17 hc17) (gb_V (List.mem_cons_of_mem _ tw_428) (List.mem_cons_of_mem _ tw_429) (List.mem_cons_of_mem _ tw_430) (List.mem_cons_of_mem _ tw_325) tw_427) rfl rfl rfl dd_X5_isBroken rfl (Nat.le_of_ble_eq_true rfl) s_M0 rfl ⟨by decide, by decide⟩ ⟨Nat.le_refl 0, Nat.le_refl 0⟩ (Nat.le_of_ble_eq_true rfl) ?_
          refine jx_if_eq (tgt := 83) E dX5_contract_76 (by decide) (fun hc18 => ?_) (fun hc18 => ?_)
          · rw [if_pos hc18] at hF
            refine jx_iconst (x := 0) E dX5_contract_83 (by decide) ?_
            obtain ⟨rfl, rfl⟩ := jx_out hF
            exact jx_iret E dX5_contract_84 rfl
          · rw [if_neg hc18] at hF
            refine jx_iconst (x := 1) E dX5_contract_79 (by decide) ?_
            refine jx_goto (tgt := 84) E dX5_contract_80 (by decide) ?_
            obtain ⟨rfl, rfl⟩ := jx_out hF
            exact jx_iret E dX5_contract_84 rfl
      · rw [if_pos hc8] at hF
        refine jx_aload_n E dX5_contract_34 0 rfl ?_
        refine jx_ldc (x := -1000001) E dX5_contract_35 (List.mem_cons_of_mem _ tw_320) ?_
        obtain ⟨⟨r19, v19⟩, hc19, hF⟩ := jx_bind hF
        try dsimp only at hF
        refine jx_callVi (As := [.int (-1000001)]) (st := []) (h := 0) E dX5_contract_37 1 rfl (k_X5_finds hI (-1000001) v7 r19 v19 hc19) (gb_V (List.mem_cons_of_mem _ tw_344) (List.mem_cons_of_mem _ tw_345) (List.mem_cons_of_mem _ tw_346) (List.mem_cons_of_mem _ tw_325) tw_343) rfl rfl rfl dd_X5_finds rfl (Nat.le_of_ble_eq_true rfl) s_M0 rfl ⟨by decide, by decide⟩ ⟨Nat.le_refl 0, Nat.le_refl 0⟩ (Nat.le_of_ble_eq_true rfl) ?_
        obtain ⟨rfl, rfl⟩ := jx_out hF
        exact jx_iret E dX5_contract_40 rfl
def f_X5_purse (x1 : Int32) (v : jx_V) : Option (Int32 × jx_V) := ((f_X5_isOwner x1 v).bind (fun (r1, v1) => (if r1 = 0 then ((f_X5_finds (-1000001) v1).bind (fun (r3, v3) => (some (r3, v3)))) else (if ((7 + x1) < 0 ∨ 181 ≤ Int32.toNatClampNeg (7 + x1)) then none else (some ((v1 1 (Int32.toNatClampNeg (7 + x1))), v1))))))
def rm_X5_purse : Room := { frames := 2, cells := 0, slots := 0, locals := 45 }
set_option maxHeartbeats 4000000 in
set_option maxRecDepth 100000 in
theorem k_X5_purse {l : Launch} {D : va_G} {cI cJ : ClassId} {ad : Nat → Nat} {A : Nat → Prop} (hI : jx_inj 13 ad A) (x1 : Int32) (v : jx_V) (r : Int32) (v' : jx_V) (hF : f_X5_purse x1 v = some (r, v')) : jx_Ci l D vwCl 13 cI cJ ad shM A ex_M yX5_purse (Cond.code yX5_purse cX5_purse 2 (some .int) :: bigT) rm_X5_purse [.ref (ad 0), .int x1] v r v' := by
  unfold f_X5_purse at hF
  refine jx_enteri bigT RX5 cX5_purse 2 (some .int) [(0, .ref (ad 0)), (1, .int x1)] hI (ex_M_ok A) (by decide +kernel) rfl (Nat.le_of_ble_eq_true rfl) rfl rfl ?_
  intro p e s m args below meth c E
  have iX5 : ∀ w ∈ u_ws RX5 TX5 21, w ∈ (Cond.code yX5_purse cX5_purse 2 (some .int) :: bigT) := fun w h => List.mem_cons_of_mem _ (uw_X5 w h)
  refine jx_iload_n E dX5_purse_0 1 rfl ?_
  obtain ⟨⟨r1, v1⟩, hc1, hF⟩ := jx_bind hF
  try dsimp only at hF
  refine jx_callSi (As := [.int x1]) (st := []) E dX5_purse_1 1 rfl (k_X5_isOwner hI x1 v r1 v1 hc1) (gb_S (List.mem_cons_of_mem _ tw_351) (List.mem_cons_of_mem _ tw_352) (List.mem_cons_of_mem _ tw_325) tw_350) rfl rfl rfl dd_X5_isOwner rfl ⟨by decide, by decide⟩ ⟨Nat.le_refl 0, Nat.le_refl 0⟩ (Nat.le_of_ble_eq_true rfl) ?_
  refine jx_if_eq (tgt := 19) E dX5_purse_4 (by decide) (fun hc2 => ?_) (fun hc2 => ?_)
  · rw [if_pos hc2] at hF
    refine jx_aload_n E dX5_purse_19 0 rfl ?_
    refine jx_ldc (x := -1000001) E dX5_purse_20 (List.mem_cons_of_mem _ tw_320) ?_
    obtain ⟨⟨r3, v3⟩, hc3, hF⟩ := jx_bind hF
    try dsimp only at hF
    refine jx_callVi (As := [.int (-1000001)]) (st := []) (h := 0) E dX5_purse_22 1 rfl (k_X5_finds hI (-1000001) v1 r3 v3 hc3) (gb_V (List.mem_cons_of_mem _ tw_344) (List.mem_cons_of_mem _ tw_345) (List.mem_cons_of_mem _ tw_346) (List.mem_cons_of_mem _ tw_325) tw_343) rfl rfl rfl dd_X5_finds rfl (Nat.le_of_ble_eq_true rfl) s_M0 rfl ⟨by decide, by decide⟩ ⟨Nat.le_refl 0, Nat.le_refl 0⟩ (Nat.le_of_ble_eq_true rfl) ?_
    obtain ⟨rfl, rfl⟩ := jx_out hF
    exact jx_iret E dX5_purse_25 rfl
  · rw [if_neg hc2] at hF
    refine jx_aload_n E dX5_purse_7 0 rfl ?_
    refine jx_getr (C := RX5) (T := TX5) (M := 21) (k := 0) E dX5_purse_8 (Nat.le_of_ble_eq_true rfl) s_M0 rfl iX5 (by decide) rfl (List.mem_cons_of_mem _ tw_328) rfl ?_
    refine jx_bipush (x := 7) E dX5_purse_11 (by decide) ?_
    refine jx_iload_n E dX5_purse_13 1 rfl ?_
    refine jx_iadd E dX5_purse_14 ?_
    obtain ⟨hg4, hF⟩ := jx_guard hF
    refine jx_iald (h := 1) (j := (Int32.toNatClampNeg (7 + x1))) E dX5_purse_15 (Nat.le_of_ble_eq_true rfl) s_M1 hg4 rfl ?_
    refine jx_goto (tgt := 25) E dX5_purse_16 (by decide) ?_
    obtain ⟨rfl, rfl⟩ := jx_out hF
    exact jx_iret E dX5_purse_25 rfl
def f_X5_sees (x1 : Int32) (x2 : Int32) (v : jx_V) : Option (Int32 × jx_V) := ((f_X5_isWindow x1 v).bind (fun (r1, v1) => (if r1 = 0 then ((f_X5_finds (-1000001) v1).bind (fun (r3, v3) => (some (r3, v3)))) else ((f_X5_in (Int32.toInt64 x2) 1 4 v1).bind (fun (r4, v4) => (if r4 = 0 then ((f_X5_finds (-1000001) v4).bind (fun (r6, v6) => (some (r6, v6)))) else ((f_X5_seen x1 x2 v4).bind (fun (r7, v7) => (some (r7, v7))))))))))
def rm_X5_sees : Room := { frames := 4, cells := 0, slots := 0, locals := 98 }
set_option maxHeartbeats 4000000 in
set_option maxRecDepth 100000 in
theorem k_X5_sees {l : Launch} {D : va_G} {cI cJ : ClassId} {ad : Nat → Nat} {A : Nat → Prop} (hI : jx_inj 13 ad A) (x1 : Int32) (x2 : Int32) (v : jx_V) (r : Int32) (v' : jx_V) (hF : f_X5_sees x1 x2 v = some (r, v')) : jx_Ci l D vwCl 13 cI cJ ad shM A ex_M yX5_sees (Cond.code yX5_sees cX5_sees 3 (some .int) :: bigT) rm_X5_sees [.ref (ad 0), .int x1, .int x2] v r v' := by
  unfold f_X5_sees at hF
  refine jx_enteri bigT RX5 cX5_sees 3 (some .int) [(0, .ref (ad 0)), (1, .int x1), (2, .int x2)] hI (ex_M_ok A) (by decide +kernel) rfl (Nat.le_of_ble_eq_true rfl) rfl rfl ?_
  intro p e s m args below meth c E
  refine jx_aload_n E dX5_sees_0 0 rfl ?_
  refine jx_iload_n E dX5_sees_1 1 rfl ?_
  obtain ⟨⟨r1, v1⟩, hc1, hF⟩ := jx_bind hF
  try dsimp only at hF
  refine jx_callVi (As := [.int x1]) (st := []) (h := 0) E dX5_sees_2 1 rfl (k_X5_isWindow hI x1 v r1 v1 hc1) (gb_V (List.mem_cons_of_mem _ tw_397) (List.mem_cons_of_mem _ tw_398) (List.mem_cons_of_mem _ tw_399) (List.mem_cons_of_mem _ tw_325) tw_396) rfl rfl rfl dd_X5_isWindow rfl (Nat.le_of_ble_eq_true rfl) s_M0 rfl ⟨by decide, by decide⟩ ⟨Nat.le_refl 0, Nat.le_refl 0⟩ (Nat.le_of_ble_eq_true rfl) ?_
  refine jx_if_eq (tgt := 29) E dX5_sees_5 (by decide) (fun hc2 => ?_) (fun hc2 => ?_)
  · rw [if_pos hc2] at hF
    refine jx_aload_n E dX5_sees_29 0 rfl ?_
    refine jx_ldc (x := -1000001) E dX5_sees_30 (List.mem_cons_of_mem _ tw_320) ?_
    obtain ⟨⟨r3, v3⟩, hc3, hF⟩ := jx_bind hF
    try dsimp only at hF
    refine jx_callVi (As := [.int (-1000001)]) (st := []) (h := 0) E dX5_sees_32 1 rfl (k_X5_finds hI (-1000001) v1 r3 v3 hc3) (gb_V (List.mem_cons_of_mem _ tw_344) (List.mem_cons_of_mem _ tw_345) (List.mem_cons_of_mem _ tw_346) (List.mem_cons_of_mem _ tw_325) tw_343) rfl rfl rfl dd_X5_finds rfl (Nat.le_of_ble_eq_true rfl) s_M0 rfl ⟨by decide, by decide⟩ ⟨Nat.le_refl 0, Nat.le_refl 0⟩ (Nat.le_of_ble_eq_true rfl) ?_
    obtain ⟨rfl, rfl⟩ := jx_out hF
    exact jx_iret E dX5_sees_35 rfl
  · rw [if_neg hc2] at hF
    refine jx_iload_n E dX5_sees_8 2 rfl ?_
    refine jx_i2l E dX5_sees_9 ?_
    refine jx_lconst (x := 1) E dX5_sees_10 (by decide) ?_
    refine jx_ldc2 (x := 4) E dX5_sees_11 (List.mem_cons_of_mem _ tw_405) ?_
    obtain ⟨⟨r4, v4⟩, hc4, hF⟩ := jx_bind hF
    try dsimp only at hF
    refine jx_callSi (As := [.long (Int32.toInt64 x2), .long 1, .long 4]) (st := []) E dX5_sees_14 3 rfl (k_X5_in hI (Int32.toInt64 x2) 1 4 v1 r4 v4 hc4) (gb_S (List.mem_cons_of_mem _ tw_323) (List.mem_cons_of_mem _ tw_324) (List.mem_cons_of_mem _ tw_325) tw_322) rfl rfl rfl dd_X5_in rfl ⟨by decide, by decide⟩ ⟨Nat.le_refl 0, Nat.le_refl 0⟩ (Nat.le_of_ble_eq_true rfl) ?_
    refine jx_if_eq (tgt := 29) E dX5_sees_17 (by decide) (fun hc5 => ?_) (fun hc5 => ?_)
    · rw [if_pos hc5] at hF
      refine jx_aload_n E dX5_sees_29 0 rfl ?_
      refine jx_ldc (x := -1000001) E dX5_sees_30 (List.mem_cons_of_mem _ tw_320) ?_
      obtain ⟨⟨r6, v6⟩, hc6, hF⟩ := jx_bind hF
      try dsimp only at hF
      refine jx_callVi (As := [.int (-1000001)]) (st := []) (h := 0) E dX5_sees_32 1 rfl (k_X5_finds hI (-1000001) v4 r6 v6 hc6) (gb_V (List.mem_cons_of_mem _ tw_344) (List.mem_cons_of_mem _ tw_345) (List.mem_cons_of_mem _ tw_346) (List.mem_cons_of_mem _ tw_325) tw_343) rfl rfl rfl dd_X5_finds rfl (Nat.le_of_ble_eq_true rfl) s_M0 rfl ⟨by decide, by decide⟩ ⟨Nat.le_refl 0, Nat.le_refl 0⟩ (Nat.le_of_ble_eq_true rfl) ?_
      obtain ⟨rfl, rfl⟩ := jx_out hF
      exact jx_iret E dX5_sees_35 rfl
    · rw [if_neg hc5] at hF
      refine jx_aload_n E dX5_sees_20 0 rfl ?_
      refine jx_iload_n E dX5_sees_21 1 rfl ?_
      refine jx_iload_n E dX5_sees_22 2 rfl ?_
      obtain ⟨⟨r7, v7⟩, hc7, hF⟩ := jx_bind hF
      try dsimp only at hF
      refine jx_callVi (As := [.int x1, .int x2]) (st := []) (h := 0) E dX5_sees_23 2 rfl (k_X5_seen hI x1 x2 v4 r7 v7 hc7) (gb_V (List.mem_cons_of_mem _ tw_414) (List.mem_cons_of_mem _ tw_415) (List.mem_cons_of_mem _ tw_416) (List.mem_cons_of_mem _ tw_325) tw_413) rfl rfl rfl dd_X5_seen rfl (Nat.le_of_ble_eq_true rfl) s_M0 rfl ⟨by decide, by decide⟩ ⟨Nat.le_refl 0, Nat.le_refl 0⟩ (Nat.le_of_ble_eq_true rfl) ?_
      refine jx_goto (tgt := 35) E dX5_sees_26 (by decide) ?_
      obtain ⟨rfl, rfl⟩ := jx_out hF
      exact jx_iret E dX5_sees_35 rfl
def f_X5_view (x1 : Int32) (v : jx_V) : Option (Int32 × jx_V) := ((f_X5_isWindow x1 v).bind (fun (r1, v1) => (if r1 = 0 then ((f_X5_finds (-1000001) v1).bind (fun (r4, v4) => (some (r4, v4)))) else ((f_X5_looks x1 v1).bind (fun v3 => (some ((v3 0 6), v3)))))))
def rm_X5_view : Room := { frames := 5, cells := 0, slots := 0, locals := 125 }
set_option maxHeartbeats 4000000 in
set_option maxRecDepth 100000 in
theorem k_X5_view {l : Launch} {D : va_G} {cI cJ : ClassId} {ad : Nat → Nat} {A : Nat → Prop} (hI : jx_inj 13 ad A) (x1 : Int32) (v : jx_V) (r : Int32) (v' : jx_V) (hF : f_X5_view x1 v = some (r, v')) : jx_Ci l D vwCl 13 cI cJ ad shM A ex_M yX5_view (Cond.code yX5_view cX5_view 2 (some .int) :: bigT) rm_X5_view [.ref (ad 0), .int x1] v r v' := by
  unfold f_X5_view at hF
  refine jx_enteri bigT RX5 cX5_view 2 (some .int) [(0, .ref (ad 0)), (1, .int x1)] hI (ex_M_ok A) (by decide +kernel) rfl (Nat.le_of_ble_eq_true rfl) rfl rfl ?_
  intro p e s m args below meth c E
  have iX5 : ∀ w ∈ u_ws RX5 TX5 21, w ∈ (Cond.code yX5_view cX5_view 2 (some .int) :: bigT) := fun w h => List.mem_cons_of_mem _ (uw_X5 w h)
  refine jx_aload_n E dX5_view_0 0 rfl ?_
  refine jx_iload_n E dX5_view_1 1 rfl ?_
  obtain ⟨⟨r1, v1⟩, hc1, hF⟩ := jx_bind hF
  try dsimp only at hF
  refine jx_callVi (As := [.int x1]) (st := []) (h := 0) E dX5_view_2 1 rfl (k_X5_isWindow hI x1 v r1 v1 hc1) (gb_V (List.mem_cons_of_mem _ tw_397) (List.mem_cons_of_mem _ tw_398) (List.mem_cons_of_mem _ tw_399) (List.mem_cons_of_mem _ tw_325) tw_396) rfl rfl rfl dd_X5_isWindow rfl (Nat.le_of_ble_eq_true rfl) s_M0 rfl ⟨by decide, by decide⟩ ⟨Nat.le_refl 0, Nat.le_refl 0⟩ (Nat.le_of_ble_eq_true rfl) ?_
  refine jx_if_ne (tgt := 15) E dX5_view_5 (by decide) (fun hc2 => ?_) (fun hc2 => ?_)
  · rw [if_neg hc2] at hF
    refine jx_aload_n E dX5_view_15 0 rfl ?_
    refine jx_iload_n E dX5_view_16 1 rfl ?_
    obtain ⟨v3, hc3, hF⟩ := jx_bind hF
    try dsimp only at hF
    refine jx_callVv (As := [.int x1]) (st := []) (h := 0) E dX5_view_17 1 rfl (k_X5_looks hI x1 v1 v3 hc3) (gb_V (List.mem_cons_of_mem _ tw_422) (List.mem_cons_of_mem _ tw_423) (List.mem_cons_of_mem _ tw_424) (List.mem_cons_of_mem _ tw_325) tw_421) rfl rfl rfl dd_X5_looks rfl (Nat.le_of_ble_eq_true rfl) s_M0 rfl ⟨by decide, by decide⟩ ⟨Nat.le_refl 0, Nat.le_refl 0⟩ (Nat.le_of_ble_eq_true rfl) ?_
    refine jx_aload_n E dX5_view_20 0 rfl ?_
    refine jx_geti (C := RX5) (T := TX5) (M := 21) (k := 6) E dX5_view_21 (Nat.le_of_ble_eq_true rfl) s_M0 rfl iX5 (by decide) rfl (List.mem_cons_of_mem _ tw_409) rfl ?_
    obtain ⟨rfl, rfl⟩ := jx_out hF
    exact jx_iret E dX5_view_24 rfl
  · rw [if_pos hc2] at hF
    refine jx_aload_n E dX5_view_8 0 rfl ?_
    refine jx_ldc (x := -1000001) E dX5_view_9 (List.mem_cons_of_mem _ tw_320) ?_
    obtain ⟨⟨r4, v4⟩, hc4, hF⟩ := jx_bind hF
    try dsimp only at hF
    refine jx_callVi (As := [.int (-1000001)]) (st := []) (h := 0) E dX5_view_11 1 rfl (k_X5_finds hI (-1000001) v1 r4 v4 hc4) (gb_V (List.mem_cons_of_mem _ tw_344) (List.mem_cons_of_mem _ tw_345) (List.mem_cons_of_mem _ tw_346) (List.mem_cons_of_mem _ tw_325) tw_343) rfl rfl rfl dd_X5_finds rfl (Nat.le_of_ble_eq_true rfl) s_M0 rfl ⟨by decide, by decide⟩ ⟨Nat.le_refl 0, Nat.le_refl 0⟩ (Nat.le_of_ble_eq_true rfl) ?_
    obtain ⟨rfl, rfl⟩ := jx_out hF
    exact jx_iret E dX5_view_14 rfl
def f_X5_share (x1 : Int32) (x2 : Int32) (v : jx_V) : Option (Int32 × jx_V) := ((f_X5_isWindow x1 v).bind (fun (r1, v1) => (if r1 = 0 then ((f_X5_finds (-1000001) v1).bind (fun (r3, v3) => (some (r3, v3)))) else ((f_X5_isOwner x2 v1).bind (fun (r4, v4) => (if r4 = 0 then ((f_X5_finds (-1000001) v4).bind (fun (r8, v8) => (some (r8, v8)))) else ((f_X5_looks x1 v4).bind (fun v6 => (if (x2 < 0 ∨ 4 ≤ Int32.toNatClampNeg x2) then none else (some ((v6 5 (Int32.toNatClampNeg x2)), v6)))))))))))
def rm_X5_share : Room := { frames := 5, cells := 0, slots := 0, locals := 125 }
set_option maxHeartbeats 4000000 in
set_option maxRecDepth 100000 in
theorem k_X5_share {l : Launch} {D : va_G} {cI cJ : ClassId} {ad : Nat → Nat} {A : Nat → Prop} (hI : jx_inj 13 ad A) (x1 : Int32) (x2 : Int32) (v : jx_V) (r : Int32) (v' : jx_V) (hF : f_X5_share x1 x2 v = some (r, v')) : jx_Ci l D vwCl 13 cI cJ ad shM A ex_M yX5_share (Cond.code yX5_share cX5_share 3 (some .int) :: bigT) rm_X5_share [.ref (ad 0), .int x1, .int x2] v r v' := by
  unfold f_X5_share at hF
  refine jx_enteri bigT RX5 cX5_share 3 (some .int) [(0, .ref (ad 0)), (1, .int x1), (2, .int x2)] hI (ex_M_ok A) (by decide +kernel) rfl (Nat.le_of_ble_eq_true rfl) rfl rfl ?_
  intro p e s m args below meth c E
  have iX5 : ∀ w ∈ u_ws RX5 TX5 21, w ∈ (Cond.code yX5_share cX5_share 3 (some .int) :: bigT) := fun w h => List.mem_cons_of_mem _ (uw_X5 w h)
  refine jx_aload_n E dX5_share_0 0 rfl ?_
  refine jx_iload_n E dX5_share_1 1 rfl ?_
  obtain ⟨⟨r1, v1⟩, hc1, hF⟩ := jx_bind hF
  try dsimp only at hF
  refine jx_callVi (As := [.int x1]) (st := []) (h := 0) E dX5_share_2 1 rfl (k_X5_isWindow hI x1 v r1 v1 hc1) (gb_V (List.mem_cons_of_mem _ tw_397) (List.mem_cons_of_mem _ tw_398) (List.mem_cons_of_mem _ tw_399) (List.mem_cons_of_mem _ tw_325) tw_396) rfl rfl rfl dd_X5_isWindow rfl (Nat.le_of_ble_eq_true rfl) s_M0 rfl ⟨by decide, by decide⟩ ⟨Nat.le_refl 0, Nat.le_refl 0⟩ (Nat.le_of_ble_eq_true rfl) ?_
  refine jx_if_eq (tgt := 15) E dX5_share_5 (by decide) (fun hc2 => ?_) (fun hc2 => ?_)
  · rw [if_pos hc2] at hF
    refine jx_aload_n E dX5_share_15 0 rfl ?_
    refine jx_ldc (x := -1000001) E dX5_share_16 (List.mem_cons_of_mem _ tw_320) ?_
    obtain ⟨⟨r3, v3⟩, hc3, hF⟩ := jx_bind hF
    try dsimp only at hF
    refine jx_callVi (As := [.int (-1000001)]) (st := []) (h := 0) E dX5_share_18 1 rfl (k_X5_finds hI (-1000001) v1 r3 v3 hc3) (gb_V (List.mem_cons_of_mem _ tw_344) (List.mem_cons_of_mem _ tw_345) (List.mem_cons_of_mem _ tw_346) (List.mem_cons_of_mem _ tw_325) tw_343) rfl rfl rfl dd_X5_finds rfl (Nat.le_of_ble_eq_true rfl) s_M0 rfl ⟨by decide, by decide⟩ ⟨Nat.le_refl 0, Nat.le_refl 0⟩ (Nat.le_of_ble_eq_true rfl) ?_
    obtain ⟨rfl, rfl⟩ := jx_out hF
    exact jx_iret E dX5_share_21 rfl
  · rw [if_neg hc2] at hF
    refine jx_iload_n E dX5_share_8 2 rfl ?_
    obtain ⟨⟨r4, v4⟩, hc4, hF⟩ := jx_bind hF
    try dsimp only at hF
    refine jx_callSi (As := [.int x2]) (st := []) E dX5_share_9 1 rfl (k_X5_isOwner hI x2 v1 r4 v4 hc4) (gb_S (List.mem_cons_of_mem _ tw_351) (List.mem_cons_of_mem _ tw_352) (List.mem_cons_of_mem _ tw_325) tw_350) rfl rfl rfl dd_X5_isOwner rfl ⟨by decide, by decide⟩ ⟨Nat.le_refl 0, Nat.le_refl 0⟩ (Nat.le_of_ble_eq_true rfl) ?_
    refine jx_if_ne (tgt := 22) E dX5_share_12 (by decide) (fun hc5 => ?_) (fun hc5 => ?_)
    · rw [if_neg hc5] at hF
      refine jx_aload_n E dX5_share_22 0 rfl ?_
      refine jx_iload_n E dX5_share_23 1 rfl ?_
      obtain ⟨v6, hc6, hF⟩ := jx_bind hF
      try dsimp only at hF
      refine jx_callVv (As := [.int x1]) (st := []) (h := 0) E dX5_share_24 1 rfl (k_X5_looks hI x1 v4 v6 hc6) (gb_V (List.mem_cons_of_mem _ tw_422) (List.mem_cons_of_mem _ tw_423) (List.mem_cons_of_mem _ tw_424) (List.mem_cons_of_mem _ tw_325) tw_421) rfl rfl rfl dd_X5_looks rfl (Nat.le_of_ble_eq_true rfl) s_M0 rfl ⟨by decide, by decide⟩ ⟨Nat.le_refl 0, Nat.le_refl 0⟩ (Nat.le_of_ble_eq_true rfl) ?_
      refine jx_aload_n E dX5_share_27 0 rfl ?_
      refine jx_getr (C := RX5) (T := TX5) (M := 21) (k := 5) E dX5_share_28 (Nat.le_of_ble_eq_true rfl) s_M0 rfl iX5 (by decide) rfl (List.mem_cons_of_mem _ tw_412) rfl ?_
      refine jx_iload_n E dX5_share_31 2 rfl ?_
      obtain ⟨hg7, hF⟩ := jx_guard hF
      refine jx_iald (h := 5) (j := (Int32.toNatClampNeg x2)) E dX5_share_32 (Nat.le_of_ble_eq_true rfl) s_M5 hg7 rfl ?_
      obtain ⟨rfl, rfl⟩ := jx_out hF
      exact jx_iret E dX5_share_33 rfl
    · rw [if_pos hc5] at hF
      refine jx_aload_n E dX5_share_15 0 rfl ?_
      refine jx_ldc (x := -1000001) E dX5_share_16 (List.mem_cons_of_mem _ tw_320) ?_
      obtain ⟨⟨r8, v8⟩, hc8, hF⟩ := jx_bind hF
      try dsimp only at hF
      refine jx_callVi (As := [.int (-1000001)]) (st := []) (h := 0) E dX5_share_18 1 rfl (k_X5_finds hI (-1000001) v4 r8 v8 hc8) (gb_V (List.mem_cons_of_mem _ tw_344) (List.mem_cons_of_mem _ tw_345) (List.mem_cons_of_mem _ tw_346) (List.mem_cons_of_mem _ tw_325) tw_343) rfl rfl rfl dd_X5_finds rfl (Nat.le_of_ble_eq_true rfl) s_M0 rfl ⟨by decide, by decide⟩ ⟨Nat.le_refl 0, Nat.le_refl 0⟩ (Nat.le_of_ble_eq_true rfl) ?_
      obtain ⟨rfl, rfl⟩ := jx_out hF
      exact jx_iret E dX5_share_21 rfl
def f_X5_lots (x1 : Int32) (v : jx_V) : Option (Int32 × jx_V) := ((f_X5_isWindow x1 v).bind (fun (r1, v1) => (if r1 = 0 then ((f_X5_finds (-1000001) v1).bind (fun (r4, v4) => (some (r4, v4)))) else ((f_X5_looks x1 v1).bind (fun v3 => (some ((v3 0 8), v3)))))))
def rm_X5_lots : Room := { frames := 5, cells := 0, slots := 0, locals := 125 }
set_option maxHeartbeats 4000000 in
set_option maxRecDepth 100000 in
theorem k_X5_lots {l : Launch} {D : va_G} {cI cJ : ClassId} {ad : Nat → Nat} {A : Nat → Prop} (hI : jx_inj 13 ad A) (x1 : Int32) (v : jx_V) (r : Int32) (v' : jx_V) (hF : f_X5_lots x1 v = some (r, v')) : jx_Ci l D vwCl 13 cI cJ ad shM A ex_M yX5_lots (Cond.code yX5_lots cX5_lots 2 (some .int) :: bigT) rm_X5_lots [.ref (ad 0), .int x1] v r v' := by
  unfold f_X5_lots at hF
  refine jx_enteri bigT RX5 cX5_lots 2 (some .int) [(0, .ref (ad 0)), (1, .int x1)] hI (ex_M_ok A) (by decide +kernel) rfl (Nat.le_of_ble_eq_true rfl) rfl rfl ?_
  intro p e s m args below meth c E
  have iX5 : ∀ w ∈ u_ws RX5 TX5 21, w ∈ (Cond.code yX5_lots cX5_lots 2 (some .int) :: bigT) := fun w h => List.mem_cons_of_mem _ (uw_X5 w h)
  refine jx_aload_n E dX5_lots_0 0 rfl ?_
  refine jx_iload_n E dX5_lots_1 1 rfl ?_
  obtain ⟨⟨r1, v1⟩, hc1, hF⟩ := jx_bind hF
  try dsimp only at hF
  refine jx_callVi (As := [.int x1]) (st := []) (h := 0) E dX5_lots_2 1 rfl (k_X5_isWindow hI x1 v r1 v1 hc1) (gb_V (List.mem_cons_of_mem _ tw_397) (List.mem_cons_of_mem _ tw_398) (List.mem_cons_of_mem _ tw_399) (List.mem_cons_of_mem _ tw_325) tw_396) rfl rfl rfl dd_X5_isWindow rfl (Nat.le_of_ble_eq_true rfl) s_M0 rfl ⟨by decide, by decide⟩ ⟨Nat.le_refl 0, Nat.le_refl 0⟩ (Nat.le_of_ble_eq_true rfl) ?_
  refine jx_if_ne (tgt := 15) E dX5_lots_5 (by decide) (fun hc2 => ?_) (fun hc2 => ?_)
  · rw [if_neg hc2] at hF
    refine jx_aload_n E dX5_lots_15 0 rfl ?_
    refine jx_iload_n E dX5_lots_16 1 rfl ?_
    obtain ⟨v3, hc3, hF⟩ := jx_bind hF
    try dsimp only at hF
    refine jx_callVv (As := [.int x1]) (st := []) (h := 0) E dX5_lots_17 1 rfl (k_X5_looks hI x1 v1 v3 hc3) (gb_V (List.mem_cons_of_mem _ tw_422) (List.mem_cons_of_mem _ tw_423) (List.mem_cons_of_mem _ tw_424) (List.mem_cons_of_mem _ tw_325) tw_421) rfl rfl rfl dd_X5_looks rfl (Nat.le_of_ble_eq_true rfl) s_M0 rfl ⟨by decide, by decide⟩ ⟨Nat.le_refl 0, Nat.le_refl 0⟩ (Nat.le_of_ble_eq_true rfl) ?_
    refine jx_aload_n E dX5_lots_20 0 rfl ?_
    refine jx_geti (C := RX5) (T := TX5) (M := 21) (k := 8) E dX5_lots_21 (Nat.le_of_ble_eq_true rfl) s_M0 rfl iX5 (by decide) rfl (List.mem_cons_of_mem _ tw_411) rfl ?_
    obtain ⟨rfl, rfl⟩ := jx_out hF
    exact jx_iret E dX5_lots_24 rfl
  · rw [if_pos hc2] at hF
    refine jx_aload_n E dX5_lots_8 0 rfl ?_
    refine jx_ldc (x := -1000001) E dX5_lots_9 (List.mem_cons_of_mem _ tw_320) ?_
    obtain ⟨⟨r4, v4⟩, hc4, hF⟩ := jx_bind hF
    try dsimp only at hF
    refine jx_callVi (As := [.int (-1000001)]) (st := []) (h := 0) E dX5_lots_11 1 rfl (k_X5_finds hI (-1000001) v1 r4 v4 hc4) (gb_V (List.mem_cons_of_mem _ tw_344) (List.mem_cons_of_mem _ tw_345) (List.mem_cons_of_mem _ tw_346) (List.mem_cons_of_mem _ tw_325) tw_343) rfl rfl rfl dd_X5_finds rfl (Nat.le_of_ble_eq_true rfl) s_M0 rfl ⟨by decide, by decide⟩ ⟨Nat.le_refl 0, Nat.le_refl 0⟩ (Nat.le_of_ble_eq_true rfl) ?_
    obtain ⟨rfl, rfl⟩ := jx_out hF
    exact jx_iret E dX5_lots_14 rfl
def f_X5_watched_L  : Nat → Int32 → Int32 → Int32 → jx_V → Option (Int32 × jx_V)
  | 0, _, _, _, _ => none
  | n + 1, x1, x2, x3, v => (if (v 1 1) ≤ x3 then (some (x2, v)) else ((f_X5_looks x3 v).bind (fun v5 => (f_X5_watched_L n x1 (x2 ||| ((((v5 0 8) >>> (x1 &&& 31)) &&& 1) <<< (x3 &&& 31))) (x3 + 1) v5))))
def f_X5_watched (x1 : Int32) (v : jx_V) : Option (Int32 × jx_V) := ((f_X5_isLot x1 v).bind (fun (r1, v1) => (if r1 = 0 then ((f_X5_finds (-1000001) v1).bind (fun (r3, v3) => (some (r3, v3)))) else (f_X5_watched_L 100000 x1 0 0 v1))))
def rm_X5_watched : Room := { frames := 5, cells := 0, slots := 0, locals := 125 }
set_option maxHeartbeats 4000000 in
set_option maxRecDepth 100000 in
theorem k_X5_watched {l : Launch} {D : va_G} {cI cJ : ClassId} {ad : Nat → Nat} {A : Nat → Prop} (hI : jx_inj 13 ad A) (x1 : Int32) (v : jx_V) (r : Int32) (v' : jx_V) (hF : f_X5_watched x1 v = some (r, v')) : jx_Ci l D vwCl 13 cI cJ ad shM A ex_M yX5_watched (Cond.code yX5_watched cX5_watched 4 (some .int) :: bigT) rm_X5_watched [.ref (ad 0), .int x1] v r v' := by
  unfold f_X5_watched at hF
  refine jx_enteri bigT RX5 cX5_watched 4 (some .int) [(0, .ref (ad 0)), (1, .int x1)] hI (ex_M_ok A) (by decide +kernel) rfl (Nat.le_of_ble_eq_true rfl) rfl rfl ?_
  intro p e s m args below meth c E
  have iX5 : ∀ w ∈ u_ws RX5 TX5 21, w ∈ (Cond.code yX5_watched cX5_watched 4 (some .int) :: bigT) := fun w h => List.mem_cons_of_mem _ (uw_X5 w h)
  have key : ∀ n : Nat, (∀ (x1 : Int32) (x2 : Int32) (x3 : Int32) (v : jx_V), f_X5_watched_L  n  x1 x2 x3 v = some (r, v') → jx_J p l e rm_X5_watched s m args below meth c D vwCl 13 cI cJ ad shM A 0 0 4 (MQ below (va_Qi (fun (r1 : Int32) (_ : Unit) => r1 = r) (fun _ t => va_P D vwCl (jx_ws 13 cI cJ ad shM v') t.heap) A) args s 0 0 A) v 18 [(0, .ref (ad 0)), (1, .int x1), (2, .int x2), (3, .int x3)] []) := by
    intro n
    induction n with
    | zero =>
      exact (fun _ _ _ _ h => by cases h)
    | succ n ih =>
      intro x1 x2 x3 v hF
      rw [f_X5_watched_L] at hF
      refine jx_iload_n E dX5_watched_18 3 rfl ?_
      refine jx_aload_n E dX5_watched_19 0 rfl ?_
      refine jx_getr (C := RX5) (T := TX5) (M := 21) (k := 0) E dX5_watched_20 (Nat.le_of_ble_eq_true rfl) s_M0 rfl iX5 (by decide) rfl (List.mem_cons_of_mem _ tw_328) rfl ?_
      refine jx_iconst (x := 1) E dX5_watched_23 (by decide) ?_
      refine jx_iald (h := 1) (j := 1) E dX5_watched_24 (Nat.le_of_ble_eq_true rfl) s_M1 (by decide) (by decide) ?_
      refine jx_icmp_ge (tgt := 52) E dX5_watched_25 (by decide) (fun hc4 => ?_) (fun hc4 => ?_)
      · rw [if_pos hc4] at hF
        refine jx_iload_n E dX5_watched_52 2 rfl ?_
        obtain ⟨rfl, rfl⟩ := jx_out hF
        exact jx_iret E dX5_watched_53 rfl
      · rw [if_neg hc4] at hF
        refine jx_aload_n E dX5_watched_28 0 rfl ?_
        refine jx_iload_n E dX5_watched_29 3 rfl ?_
        obtain ⟨v5, hc5, hF⟩ := jx_bind hF
        try dsimp only at hF
        refine jx_callVv (As := [.int x3]) (st := []) (h := 0) E dX5_watched_30 1 rfl (k_X5_looks hI x3 v v5 hc5) (gb_V (List.mem_cons_of_mem _ tw_422) (List.mem_cons_of_mem _ tw_423) (List.mem_cons_of_mem _ tw_424) (List.mem_cons_of_mem _ tw_325) tw_421) rfl rfl rfl dd_X5_looks rfl (Nat.le_of_ble_eq_true rfl) s_M0 rfl ⟨by decide, by decide⟩ ⟨Nat.le_refl 0, Nat.le_refl 0⟩ (Nat.le_of_ble_eq_true rfl) ?_
        refine jx_iload_n E dX5_watched_33 2 rfl ?_
        refine jx_aload_n E dX5_watched_34 0 rfl ?_
        refine jx_geti (C := RX5) (T := TX5) (M := 21) (k := 8) E dX5_watched_35 (Nat.le_of_ble_eq_true rfl) s_M0 rfl iX5 (by decide) rfl (List.mem_cons_of_mem _ tw_411) rfl ?_
        refine jx_iload_n E dX5_watched_38 1 rfl ?_
        refine jx_ishr E dX5_watched_39 ?_
        refine jx_iconst (x := 1) E dX5_watched_40 (by decide) ?_
        refine jx_iand E dX5_watched_41 ?_
        refine jx_iload_n E dX5_watched_42 3 rfl ?_
        refine jx_ishl E dX5_watched_43 ?_
        refine jx_ior E dX5_watched_44 ?_
        refine jx_istore_n (lv' := [(2, .int (x2 ||| ((((v5 0 8) >>> (x1 &&& 31)) &&& 1) <<< (x3 &&& 31)))), (0, .ref (ad 0)), (1, .int x1), (3, .int x3)]) E dX5_watched_45 (by decide) rfl ?_
        refine jx_iinc (y := (x3 + 1)) (lv' := [(3, .int (x3 + 1)), (2, .int (x2 ||| ((((v5 0 8) >>> (x1 &&& 31)) &&& 1) <<< (x3 &&& 31)))), (0, .ref (ad 0)), (1, .int x1)]) E dX5_watched_46 3 rfl rfl (by decide) rfl ?_
        refine jx_goto (tgt := 18) E dX5_watched_49 (by decide) ?_
        refine jx_sub [2, 3, 1, 0] rfl ?_
        exact ih x1 (x2 ||| ((((v5 0 8) >>> (x1 &&& 31)) &&& 1) <<< (x3 &&& 31))) (x3 + 1) v5 hF
  refine jx_iload_n E dX5_watched_0 1 rfl ?_
  obtain ⟨⟨r1, v1⟩, hc1, hF⟩ := jx_bind hF
  try dsimp only at hF
  refine jx_callSi (As := [.int x1]) (st := []) E dX5_watched_1 1 rfl (k_X5_isLot hI x1 v r1 v1 hc1) (gb_S (List.mem_cons_of_mem _ tw_348) (List.mem_cons_of_mem _ tw_349) (List.mem_cons_of_mem _ tw_325) tw_347) rfl rfl rfl dd_X5_isLot rfl ⟨by decide, by decide⟩ ⟨Nat.le_refl 0, Nat.le_refl 0⟩ (Nat.le_of_ble_eq_true rfl) ?_
  refine jx_if_ne (tgt := 14) E dX5_watched_4 (by decide) (fun hc2 => ?_) (fun hc2 => ?_)
  · rw [if_neg hc2] at hF
    refine jx_iconst (x := 0) E dX5_watched_14 (by decide) ?_
    refine jx_istore_n (lv' := [(2, .int 0), (0, .ref (ad 0)), (1, .int x1)]) E dX5_watched_15 (by decide) rfl ?_
    refine jx_iconst (x := 0) E dX5_watched_16 (by decide) ?_
    refine jx_istore_n (lv' := [(3, .int 0), (2, .int 0), (0, .ref (ad 0)), (1, .int x1)]) E dX5_watched_17 (by decide) rfl ?_
    refine jx_sub [2, 3, 1, 0] rfl ?_
    exact (key 100000) x1 0 0 v1 hF
  · rw [if_pos hc2] at hF
    refine jx_aload_n E dX5_watched_7 0 rfl ?_
    refine jx_ldc (x := -1000001) E dX5_watched_8 (List.mem_cons_of_mem _ tw_320) ?_
    obtain ⟨⟨r3, v3⟩, hc3, hF⟩ := jx_bind hF
    try dsimp only at hF
    refine jx_callVi (As := [.int (-1000001)]) (st := []) (h := 0) E dX5_watched_10 1 rfl (k_X5_finds hI (-1000001) v1 r3 v3 hc3) (gb_V (List.mem_cons_of_mem _ tw_344) (List.mem_cons_of_mem _ tw_345) (List.mem_cons_of_mem _ tw_346) (List.mem_cons_of_mem _ tw_325) tw_343) rfl rfl rfl dd_X5_finds rfl (Nat.le_of_ble_eq_true rfl) s_M0 rfl ⟨by decide, by decide⟩ ⟨Nat.le_refl 0, Nat.le_refl 0⟩ (Nat.le_of_ble_eq_true rfl) ?_
    obtain ⟨rfl, rfl⟩ := jx_out hF
    exact jx_iret E dX5_watched_13 rfl
def f_X5_rent (x1 : Int32) (v : jx_V) : Option (Int32 × jx_V) := ((f_X5_isWindow x1 v).bind (fun (r1, v1) => (if r1 = 0 then ((f_X5_finds (-1000001) v1).bind (fun (r4, v4) => (some (r4, v4)))) else ((f_X5_looks x1 v1).bind (fun v3 => (some ((v3 0 7), v3)))))))
def rm_X5_rent : Room := { frames := 5, cells := 0, slots := 0, locals := 125 }
set_option maxHeartbeats 4000000 in
set_option maxRecDepth 100000 in
theorem k_X5_rent {l : Launch} {D : va_G} {cI cJ : ClassId} {ad : Nat → Nat} {A : Nat → Prop} (hI : jx_inj 13 ad A) (x1 : Int32) (v : jx_V) (r : Int32) (v' : jx_V) (hF : f_X5_rent x1 v = some (r, v')) : jx_Ci l D vwCl 13 cI cJ ad shM A ex_M yX5_rent (Cond.code yX5_rent cX5_rent 2 (some .int) :: bigT) rm_X5_rent [.ref (ad 0), .int x1] v r v' := by
  unfold f_X5_rent at hF
  refine jx_enteri bigT RX5 cX5_rent 2 (some .int) [(0, .ref (ad 0)), (1, .int x1)] hI (ex_M_ok A) (by decide +kernel) rfl (Nat.le_of_ble_eq_true rfl) rfl rfl ?_
  intro p e s m args below meth c E
  have iX5 : ∀ w ∈ u_ws RX5 TX5 21, w ∈ (Cond.code yX5_rent cX5_rent 2 (some .int) :: bigT) := fun w h => List.mem_cons_of_mem _ (uw_X5 w h)
  refine jx_aload_n E dX5_rent_0 0 rfl ?_
  refine jx_iload_n E dX5_rent_1 1 rfl ?_
  obtain ⟨⟨r1, v1⟩, hc1, hF⟩ := jx_bind hF
  try dsimp only at hF
  refine jx_callVi (As := [.int x1]) (st := []) (h := 0) E dX5_rent_2 1 rfl (k_X5_isWindow hI x1 v r1 v1 hc1) (gb_V (List.mem_cons_of_mem _ tw_397) (List.mem_cons_of_mem _ tw_398) (List.mem_cons_of_mem _ tw_399) (List.mem_cons_of_mem _ tw_325) tw_396) rfl rfl rfl dd_X5_isWindow rfl (Nat.le_of_ble_eq_true rfl) s_M0 rfl ⟨by decide, by decide⟩ ⟨Nat.le_refl 0, Nat.le_refl 0⟩ (Nat.le_of_ble_eq_true rfl) ?_
  refine jx_if_ne (tgt := 15) E dX5_rent_5 (by decide) (fun hc2 => ?_) (fun hc2 => ?_)
  · rw [if_neg hc2] at hF
    refine jx_aload_n E dX5_rent_15 0 rfl ?_
    refine jx_iload_n E dX5_rent_16 1 rfl ?_
    obtain ⟨v3, hc3, hF⟩ := jx_bind hF
    try dsimp only at hF
    refine jx_callVv (As := [.int x1]) (st := []) (h := 0) E dX5_rent_17 1 rfl (k_X5_looks hI x1 v1 v3 hc3) (gb_V (List.mem_cons_of_mem _ tw_422) (List.mem_cons_of_mem _ tw_423) (List.mem_cons_of_mem _ tw_424) (List.mem_cons_of_mem _ tw_325) tw_421) rfl rfl rfl dd_X5_looks rfl (Nat.le_of_ble_eq_true rfl) s_M0 rfl ⟨by decide, by decide⟩ ⟨Nat.le_refl 0, Nat.le_refl 0⟩ (Nat.le_of_ble_eq_true rfl) ?_
    refine jx_aload_n E dX5_rent_20 0 rfl ?_
    refine jx_geti (C := RX5) (T := TX5) (M := 21) (k := 7) E dX5_rent_21 (Nat.le_of_ble_eq_true rfl) s_M0 rfl iX5 (by decide) rfl (List.mem_cons_of_mem _ tw_410) rfl ?_
    obtain ⟨rfl, rfl⟩ := jx_out hF
    exact jx_iret E dX5_rent_24 rfl
  · rw [if_pos hc2] at hF
    refine jx_aload_n E dX5_rent_8 0 rfl ?_
    refine jx_ldc (x := -1000001) E dX5_rent_9 (List.mem_cons_of_mem _ tw_320) ?_
    obtain ⟨⟨r4, v4⟩, hc4, hF⟩ := jx_bind hF
    try dsimp only at hF
    refine jx_callVi (As := [.int (-1000001)]) (st := []) (h := 0) E dX5_rent_11 1 rfl (k_X5_finds hI (-1000001) v1 r4 v4 hc4) (gb_V (List.mem_cons_of_mem _ tw_344) (List.mem_cons_of_mem _ tw_345) (List.mem_cons_of_mem _ tw_346) (List.mem_cons_of_mem _ tw_325) tw_343) rfl rfl rfl dd_X5_finds rfl (Nat.le_of_ble_eq_true rfl) s_M0 rfl ⟨by decide, by decide⟩ ⟨Nat.le_refl 0, Nat.le_refl 0⟩ (Nat.le_of_ble_eq_true rfl) ?_
    obtain ⟨rfl, rfl⟩ := jx_out hF
    exact jx_iret E dX5_rent_14 rfl
def f_X5_findGains_L  : Nat → Nat → Int32 → Int32 → jx_V → Option (Int32 × jx_V)
  | 0, _, _, _, _ => none
  | n + 1, tag, x1, x2, v => (if tag = 0 then (if 4 ≤ x1 then (f_X5_findGains_L n 1 0 0 v) else (if (x1 < 0 ∨ 4 ≤ Int32.toNatClampNeg x1) then none else (f_X5_findGains_L n 0 (x1 + 1) 0 (jx_up v 6 (Int32.toNatClampNeg x1) 0)))) else (if tag = 1 then (if (v 1 1) ≤ x2 then (some (x1, v)) else ((f_X5_looks x2 v).bind (fun v4 => (f_X5_findGains_L n 1 (x1 + (v4 0 7)) (x2 + 1) v4)))) else none))
def f_X5_findGains  (v : jx_V) : Option (Int32 × jx_V) := (f_X5_findGains_L 100000 0 0 0 v)
def rm_X5_findGains : Room := { frames := 5, cells := 0, slots := 0, locals := 125 }
set_option maxHeartbeats 4000000 in
set_option maxRecDepth 100000 in
theorem k_X5_findGains {l : Launch} {D : va_G} {cI cJ : ClassId} {ad : Nat → Nat} {A : Nat → Prop} (hI : jx_inj 13 ad A)  (v : jx_V) (r : Int32) (v' : jx_V) (hF : f_X5_findGains  v = some (r, v')) : jx_Ci l D vwCl 13 cI cJ ad shM A ex_M yX5_findGains (Cond.code yX5_findGains cX5_findGains 3 (some .int) :: bigT) rm_X5_findGains [.ref (ad 0)] v r v' := by
  unfold f_X5_findGains at hF
  refine jx_enteri bigT RX5 cX5_findGains 3 (some .int) [(0, .ref (ad 0))] hI (ex_M_ok A) (by decide +kernel) rfl (Nat.le_of_ble_eq_true rfl) rfl rfl ?_
  intro p e s m args below meth c E
  have iX5 : ∀ w ∈ u_ws RX5 TX5 21, w ∈ (Cond.code yX5_findGains cX5_findGains 3 (some .int) :: bigT) := fun w h => List.mem_cons_of_mem _ (uw_X5 w h)
  have key : ∀ n : Nat, (∀ (x1 : Int32) (v : jx_V), f_X5_findGains_L  n 0 x1 0 v = some (r, v') → jx_J p l e rm_X5_findGains s m args below meth c D vwCl 13 cI cJ ad shM A 0 0 3 (MQ below (va_Qi (fun (r1 : Int32) (_ : Unit) => r1 = r) (fun _ t => va_P D vwCl (jx_ws 13 cI cJ ad shM v') t.heap) A) args s 0 0 A) v 2 [(0, .ref (ad 0)), (1, .int x1)] []) ∧ (∀ (x1 : Int32) (x2 : Int32) (v : jx_V), f_X5_findGains_L  n 1 x1 x2 v = some (r, v') → jx_J p l e rm_X5_findGains s m args below meth c D vwCl 13 cI cJ ad shM A 0 0 3 (MQ below (va_Qi (fun (r1 : Int32) (_ : Unit) => r1 = r) (fun _ t => va_P D vwCl (jx_ws 13 cI cJ ad shM v') t.heap) A) args s 0 0 A) v 24 [(0, .ref (ad 0)), (1, .int x1), (2, .int x2)] []) := by
    intro n
    induction n with
    | zero =>
      exact ⟨(fun _ _ h => by cases h), (fun _ _ _ h => by cases h)⟩
    | succ n ih =>
      refine ⟨?_, ?_⟩
      · intro x1 v hF
        rw [f_X5_findGains_L] at hF
        rw [if_pos rfl] at hF
        refine jx_iload_n E dX5_findGains_2 1 rfl ?_
        refine jx_iconst (x := 4) E dX5_findGains_3 (by decide) ?_
        refine jx_icmp_ge (tgt := 20) E dX5_findGains_4 (by decide) (fun hc1 => ?_) (fun hc1 => ?_)
        · rw [if_pos hc1] at hF
          refine jx_iconst (x := 0) E dX5_findGains_20 (by decide) ?_
          refine jx_istore_n (lv' := [(1, .int 0), (0, .ref (ad 0))]) E dX5_findGains_21 (by decide) rfl ?_
          refine jx_iconst (x := 0) E dX5_findGains_22 (by decide) ?_
          refine jx_istore_n (lv' := [(2, .int 0), (1, .int 0), (0, .ref (ad 0))]) E dX5_findGains_23 (by decide) rfl ?_
          refine jx_sub [2, 1, 0] rfl ?_
          exact ih.2 0 0 v hF
        · rw [if_neg hc1] at hF
          refine jx_aload_n E dX5_findGains_7 0 rfl ?_
          refine jx_getr (C := RX5) (T := TX5) (M := 21) (k := 9) E dX5_findGains_8 (Nat.le_of_ble_eq_true rfl) s_M0 rfl iX5 (by decide) rfl (List.mem_cons_of_mem _ tw_420) rfl ?_
          refine jx_iload_n E dX5_findGains_11 1 rfl ?_
          refine jx_iconst (x := 0) E dX5_findGains_12 (by decide) ?_
          obtain ⟨hg2, hF⟩ := jx_guard hF
          refine jx_iast (h := 6) (j := (Int32.toNatClampNeg x1)) E dX5_findGains_13 (Nat.le_of_ble_eq_true rfl) s_M6 hg2 rfl ?_
          refine jx_iinc (y := (x1 + 1)) (lv' := [(1, .int (x1 + 1)), (0, .ref (ad 0))]) E dX5_findGains_14 1 rfl rfl (by decide) rfl ?_
          refine jx_goto (tgt := 2) E dX5_findGains_17 (by decide) ?_
          refine jx_sub [1, 0] rfl ?_
          exact ih.1 (x1 + 1) (jx_up v 6 (Int32.toNatClampNeg x1) 0) hF
      · intro x1 x2 v hF
        rw [f_X5_findGains_L] at hF
        rw [if_neg (by decide), if_pos rfl] at hF
        refine jx_iload_n E dX5_findGains_24 2 rfl ?_
        refine jx_aload_n E dX5_findGains_25 0 rfl ?_
        refine jx_getr (C := RX5) (T := TX5) (M := 21) (k := 0) E dX5_findGains_26 (Nat.le_of_ble_eq_true rfl) s_M0 rfl iX5 (by decide) rfl (List.mem_cons_of_mem _ tw_328) rfl ?_
        refine jx_iconst (x := 1) E dX5_findGains_29 (by decide) ?_
        refine jx_iald (h := 1) (j := 1) E dX5_findGains_30 (Nat.le_of_ble_eq_true rfl) s_M1 (by decide) (by decide) ?_
        refine jx_icmp_ge (tgt := 52) E dX5_findGains_31 (by decide) (fun hc3 => ?_) (fun hc3 => ?_)
        · rw [if_pos hc3] at hF
          refine jx_iload_n E dX5_findGains_52 1 rfl ?_
          obtain ⟨rfl, rfl⟩ := jx_out hF
          exact jx_iret E dX5_findGains_53 rfl
        · rw [if_neg hc3] at hF
          refine jx_aload_n E dX5_findGains_34 0 rfl ?_
          refine jx_iload_n E dX5_findGains_35 2 rfl ?_
          obtain ⟨v4, hc4, hF⟩ := jx_bind hF
          try dsimp only at hF
          refine jx_callVv (As := [.int x2]) (st := []) (h := 0) E dX5_findGains_36 1 rfl (k_X5_looks hI x2 v v4 hc4) (gb_V (List.mem_cons_of_mem _ tw_422) (List.mem_cons_of_mem _ tw_423) (List.mem_cons_of_mem _ tw_424) (List.mem_cons_of_mem _ tw_325) tw_421) rfl rfl rfl dd_X5_looks rfl (Nat.le_of_ble_eq_true rfl) s_M0 rfl ⟨by decide, by decide⟩ ⟨Nat.le_refl 0, Nat.le_refl 0⟩ (Nat.le_of_ble_eq_true rfl) ?_
          refine jx_iload_n E dX5_findGains_39 1 rfl ?_
          refine jx_aload_n E dX5_findGains_40 0 rfl ?_
          refine jx_geti (C := RX5) (T := TX5) (M := 21) (k := 7) E dX5_findGains_41 (Nat.le_of_ble_eq_true rfl) s_M0 rfl iX5 (by decide) rfl (List.mem_cons_of_mem _ tw_410) rfl ?_
          refine jx_iadd E dX5_findGains_44 ?_
          refine jx_istore_n (lv' := [(1, .int (x1 + (v4 0 7))), (0, .ref (ad 0)), (2, .int x2)]) E dX5_findGains_45 (by decide) rfl ?_
          refine jx_iinc (y := (x2 + 1)) (lv' := [(2, .int (x2 + 1)), (1, .int (x1 + (v4 0 7))), (0, .ref (ad 0))]) E dX5_findGains_46 2 rfl rfl (by decide) rfl ?_
          refine jx_goto (tgt := 24) E dX5_findGains_49 (by decide) ?_
          refine jx_sub [2, 1, 0] rfl ?_
          exact ih.2 (x1 + (v4 0 7)) (x2 + 1) v4 hF
  refine jx_iconst (x := 0) E dX5_findGains_0 (by decide) ?_
  refine jx_istore_n (lv' := [(1, .int 0), (0, .ref (ad 0))]) E dX5_findGains_1 (by decide) rfl ?_
  refine jx_sub [1, 0] rfl ?_
  exact (key 100000).1 0 v hF
def f_X5_gainOf (x1 : Int32) (v : jx_V) : Option (Int32 × jx_V) := ((f_X5_findGains v).bind (fun (r1, v1) => (if (x1 < 0 ∨ 4 ≤ Int32.toNatClampNeg x1) then none else (some ((v1 6 (Int32.toNatClampNeg x1)), v1)))))
def rm_X5_gainOf : Room := { frames := 6, cells := 0, slots := 0, locals := 147 }
set_option maxHeartbeats 4000000 in
set_option maxRecDepth 100000 in
theorem k_X5_gainOf {l : Launch} {D : va_G} {cI cJ : ClassId} {ad : Nat → Nat} {A : Nat → Prop} (hI : jx_inj 13 ad A) (x1 : Int32) (v : jx_V) (r : Int32) (v' : jx_V) (hF : f_X5_gainOf x1 v = some (r, v')) : jx_Ci l D vwCl 13 cI cJ ad shM A ex_M yX5_gainOf (Cond.code yX5_gainOf cX5_gainOf 3 (some .int) :: bigT) rm_X5_gainOf [.ref (ad 0), .int x1] v r v' := by
  unfold f_X5_gainOf at hF
  refine jx_enteri bigT RX5 cX5_gainOf 3 (some .int) [(0, .ref (ad 0)), (1, .int x1)] hI (ex_M_ok A) (by decide +kernel) rfl (Nat.le_of_ble_eq_true rfl) rfl rfl ?_
  intro p e s m args below meth c E
  have iX5 : ∀ w ∈ u_ws RX5 TX5 21, w ∈ (Cond.code yX5_gainOf cX5_gainOf 3 (some .int) :: bigT) := fun w h => List.mem_cons_of_mem _ (uw_X5 w h)
  refine jx_aload_n E dX5_gainOf_0 0 rfl ?_
  obtain ⟨⟨r1, v1⟩, hc1, hF⟩ := jx_bind hF
  try dsimp only at hF
  refine jx_callVi (As := []) (st := []) (h := 0) E dX5_gainOf_1 0 rfl (k_X5_findGains hI  v r1 v1 hc1) (gb_V (List.mem_cons_of_mem _ tw_432) (List.mem_cons_of_mem _ tw_433) (List.mem_cons_of_mem _ tw_434) (List.mem_cons_of_mem _ tw_325) tw_431) rfl rfl rfl dd_X5_findGains rfl (Nat.le_of_ble_eq_true rfl) s_M0 rfl ⟨by decide, by decide⟩ ⟨Nat.le_refl 0, Nat.le_refl 0⟩ (Nat.le_of_ble_eq_true rfl) ?_
  refine jx_istore_n (lv' := [(2, .int r1), (0, .ref (ad 0)), (1, .int x1)]) E dX5_gainOf_4 (by decide) rfl ?_
  refine jx_aload_n E dX5_gainOf_5 1 rfl ?_
  refine jx_getr (C := RX5) (T := TX5) (M := 21) (k := 9) E dX5_gainOf_6 (Nat.le_of_ble_eq_true rfl) s_M0 rfl iX5 (by decide) rfl (List.mem_cons_of_mem _ tw_420) rfl ?_
  refine jx_iload_n E dX5_gainOf_9 2 rfl ?_
  obtain ⟨hg2, hF⟩ := jx_guard hF
  refine jx_iald (h := 6) (j := (Int32.toNatClampNeg x1)) E dX5_gainOf_10 (Nat.le_of_ble_eq_true rfl) s_M6 hg2 rfl ?_
  obtain ⟨rfl, rfl⟩ := jx_out hF
  exact jx_iret E dX5_gainOf_11 rfl
def f_X5_gain (x1 : Int32) (v : jx_V) : Option (Int32 × jx_V) := ((f_X5_isOwner x1 v).bind (fun (r1, v1) => (if r1 = 0 then ((f_X5_finds (-1000001) v1).bind (fun (r3, v3) => (some (r3, v3)))) else ((f_X5_gainOf x1 v1).bind (fun (r4, v4) => (some (r4, v4)))))))
def rm_X5_gain : Room := { frames := 7, cells := 0, slots := 0, locals := 169 }
set_option maxHeartbeats 4000000 in
set_option maxRecDepth 100000 in
theorem k_X5_gain {l : Launch} {D : va_G} {cI cJ : ClassId} {ad : Nat → Nat} {A : Nat → Prop} (hI : jx_inj 13 ad A) (x1 : Int32) (v : jx_V) (r : Int32) (v' : jx_V) (hF : f_X5_gain x1 v = some (r, v')) : jx_Ci l D vwCl 13 cI cJ ad shM A ex_M yX5_gain (Cond.code yX5_gain cX5_gain 2 (some .int) :: bigT) rm_X5_gain [.ref (ad 0), .int x1] v r v' := by
  unfold f_X5_gain at hF
  refine jx_enteri bigT RX5 cX5_gain 2 (some .int) [(0, .ref (ad 0)), (1, .int x1)] hI (ex_M_ok A) (by decide +kernel) rfl (Nat.le_of_ble_eq_true rfl) rfl rfl ?_
  intro p e s m args below meth c E
  refine jx_iload_n E dX5_gain_0 1 rfl ?_
  obtain ⟨⟨r1, v1⟩, hc1, hF⟩ := jx_bind hF
  try dsimp only at hF
  refine jx_callSi (As := [.int x1]) (st := []) E dX5_gain_1 1 rfl (k_X5_isOwner hI x1 v r1 v1 hc1) (gb_S (List.mem_cons_of_mem _ tw_351) (List.mem_cons_of_mem _ tw_352) (List.mem_cons_of_mem _ tw_325) tw_350) rfl rfl rfl dd_X5_isOwner rfl ⟨by decide, by decide⟩ ⟨Nat.le_refl 0, Nat.le_refl 0⟩ (Nat.le_of_ble_eq_true rfl) ?_
  refine jx_if_eq (tgt := 15) E dX5_gain_4 (by decide) (fun hc2 => ?_) (fun hc2 => ?_)
  · rw [if_pos hc2] at hF
    refine jx_aload_n E dX5_gain_15 0 rfl ?_
    refine jx_ldc (x := -1000001) E dX5_gain_16 (List.mem_cons_of_mem _ tw_320) ?_
    obtain ⟨⟨r3, v3⟩, hc3, hF⟩ := jx_bind hF
    try dsimp only at hF
    refine jx_callVi (As := [.int (-1000001)]) (st := []) (h := 0) E dX5_gain_18 1 rfl (k_X5_finds hI (-1000001) v1 r3 v3 hc3) (gb_V (List.mem_cons_of_mem _ tw_344) (List.mem_cons_of_mem _ tw_345) (List.mem_cons_of_mem _ tw_346) (List.mem_cons_of_mem _ tw_325) tw_343) rfl rfl rfl dd_X5_finds rfl (Nat.le_of_ble_eq_true rfl) s_M0 rfl ⟨by decide, by decide⟩ ⟨Nat.le_refl 0, Nat.le_refl 0⟩ (Nat.le_of_ble_eq_true rfl) ?_
    obtain ⟨rfl, rfl⟩ := jx_out hF
    exact jx_iret E dX5_gain_21 rfl
  · rw [if_neg hc2] at hF
    refine jx_aload_n E dX5_gain_7 0 rfl ?_
    refine jx_iload_n E dX5_gain_8 1 rfl ?_
    obtain ⟨⟨r4, v4⟩, hc4, hF⟩ := jx_bind hF
    try dsimp only at hF
    refine jx_callVi (As := [.int x1]) (st := []) (h := 0) E dX5_gain_9 1 rfl (k_X5_gainOf hI x1 v1 r4 v4 hc4) (gb_V (List.mem_cons_of_mem _ tw_436) (List.mem_cons_of_mem _ tw_437) (List.mem_cons_of_mem _ tw_438) (List.mem_cons_of_mem _ tw_325) tw_435) rfl rfl rfl dd_X5_gainOf rfl (Nat.le_of_ble_eq_true rfl) s_M0 rfl ⟨by decide, by decide⟩ ⟨Nat.le_refl 0, Nat.le_refl 0⟩ (Nat.le_of_ble_eq_true rfl) ?_
    refine jx_goto (tgt := 21) E dX5_gain_12 (by decide) ?_
    obtain ⟨rfl, rfl⟩ := jx_out hF
    exact jx_iret E dX5_gain_21 rfl
def f_X5_brokenSet_L  : Nat → Int32 → Int32 → jx_V → Option (Int32 × jx_V)
  | 0, _, _, _ => none
  | n + 1, x1, x2, v => (if (v 1 1) ≤ x2 then (some (x1, v)) else ((f_X5_isBroken x2 v).bind (fun (r2, v2) => (if r2 = 0 then (f_X5_brokenSet_L n (x1 ||| 0) (x2 + 1) v2) else (f_X5_brokenSet_L n (x1 ||| (1 <<< (x2 &&& 31))) (x2 + 1) v2)))))
def f_X5_brokenSet  (v : jx_V) : Option (Int32 × jx_V) := (f_X5_brokenSet_L 100000 0 0 v)
def rm_X5_brokenSet : Room := { frames := 6, cells := 0, slots := 0, locals := 147 }
set_option maxHeartbeats 4000000 in
set_option maxRecDepth 100000 in
theorem k_X5_brokenSet {l : Launch} {D : va_G} {cI cJ : ClassId} {ad : Nat → Nat} {A : Nat → Prop} (hI : jx_inj 13 ad A)  (v : jx_V) (r : Int32) (v' : jx_V) (hF : f_X5_brokenSet  v = some (r, v')) : jx_Ci l D vwCl 13 cI cJ ad shM A ex_M yX5_brokenSet (Cond.code yX5_brokenSet cX5_brokenSet 3 (some .int) :: bigT) rm_X5_brokenSet [.ref (ad 0)] v r v' := by
  unfold f_X5_brokenSet at hF
  refine jx_enteri bigT RX5 cX5_brokenSet 3 (some .int) [(0, .ref (ad 0))] hI (ex_M_ok A) (by decide +kernel) rfl (Nat.le_of_ble_eq_true rfl) rfl rfl ?_
  intro p e s m args below meth c E
  have iX5 : ∀ w ∈ u_ws RX5 TX5 21, w ∈ (Cond.code yX5_brokenSet cX5_brokenSet 3 (some .int) :: bigT) := fun w h => List.mem_cons_of_mem _ (uw_X5 w h)
  have key : ∀ n : Nat, (∀ (x1 : Int32) (x2 : Int32) (v : jx_V), f_X5_brokenSet_L  n  x1 x2 v = some (r, v') → jx_J p l e rm_X5_brokenSet s m args below meth c D vwCl 13 cI cJ ad shM A 0 0 3 (MQ below (va_Qi (fun (r1 : Int32) (_ : Unit) => r1 = r) (fun _ t => va_P D vwCl (jx_ws 13 cI cJ ad shM v') t.heap) A) args s 0 0 A) v 4 [(0, .ref (ad 0)), (1, .int x1), (2, .int x2)] []) := by
    intro n
    induction n with
    | zero =>
      exact (fun _ _ _ h => by cases h)
    | succ n ih =>
      intro x1 x2 v hF
      rw [f_X5_brokenSet_L] at hF
      refine jx_iload_n E dX5_brokenSet_4 2 rfl ?_
      refine jx_aload_n E dX5_brokenSet_5 0 rfl ?_
      refine jx_getr (C := RX5) (T := TX5) (M := 21) (k := 0) E dX5_brokenSet_6 (Nat.le_of_ble_eq_true rfl) s_M0 rfl iX5 (by decide) rfl (List.mem_cons_of_mem _ tw_328) rfl ?_
      refine jx_iconst (x := 1) E dX5_brokenSet_9 (by decide) ?_
      refine jx_iald (h := 1) (j := 1) E dX5_brokenSet_10 (Nat.le_of_ble_eq_true rfl) s_M1 (by decide) (by decide) ?_
      refine jx_icmp_ge (tgt := 38) E dX5_brokenSet_11 (by decide) (fun hc1 => ?_) (fun hc1 => ?_)
      · rw [if_pos hc1] at hF
        refine jx_iload_n E dX5_brokenSet_38 1 rfl ?_
        obtain ⟨rfl, rfl⟩ := jx_out hF
        exact jx_iret E dX5_brokenSet_39 rfl
      · rw [if_neg hc1] at hF
        refine jx_iload_n E dX5_brokenSet_14 1 rfl ?_
        refine jx_aload_n E dX5_brokenSet_15 0 rfl ?_
        refine jx_iload_n E dX5_brokenSet_16 2 rfl ?_
        obtain ⟨⟨r2, v2⟩, hc2, hF⟩ := jx_bind hF
        try dsimp only at hF
        refine jx_callVi (As := [.int x2]) (st := [.int x1]) (h := 0) E dX5_brokenSet_17 1 rfl (k_X5_isBroken hI x2 v r2 v2 hc2) (gb_V (List.mem_cons_of_mem _ tw_428) (List.mem_cons_of_mem _ tw_429) (List.mem_cons_of_mem _ tw_430) (List.mem_cons_of_mem _ tw_325) tw_427) rfl rfl rfl dd_X5_isBroken rfl (Nat.le_of_ble_eq_true rfl) s_M0 rfl ⟨by decide, by decide⟩ ⟨Nat.le_refl 0, Nat.le_refl 0⟩ (Nat.le_of_ble_eq_true rfl) ?_
        refine jx_if_eq (tgt := 29) E dX5_brokenSet_20 (by decide) (fun hc3 => ?_) (fun hc3 => ?_)
        · rw [if_pos hc3] at hF
          refine jx_iconst (x := 0) E dX5_brokenSet_29 (by decide) ?_
          refine jx_ior E dX5_brokenSet_30 ?_
          refine jx_istore_n (lv' := [(1, .int (x1 ||| 0)), (0, .ref (ad 0)), (2, .int x2)]) E dX5_brokenSet_31 (by decide) rfl ?_
          refine jx_iinc (y := (x2 + 1)) (lv' := [(2, .int (x2 + 1)), (1, .int (x1 ||| 0)), (0, .ref (ad 0))]) E dX5_brokenSet_32 2 rfl rfl (by decide) rfl ?_
          refine jx_goto (tgt := 4) E dX5_brokenSet_35 (by decide) ?_
          refine jx_sub [2, 1, 0] rfl ?_
          exact ih (x1 ||| 0) (x2 + 1) v2 hF
        · rw [if_neg hc3] at hF
          refine jx_iconst (x := 1) E dX5_brokenSet_23 (by decide) ?_
          refine jx_iload_n E dX5_brokenSet_24 2 rfl ?_
          refine jx_ishl E dX5_brokenSet_25 ?_
          refine jx_goto (tgt := 30) E dX5_brokenSet_26 (by decide) ?_
          refine jx_ior E dX5_brokenSet_30 ?_
          refine jx_istore_n (lv' := [(1, .int (x1 ||| (1 <<< (x2 &&& 31)))), (0, .ref (ad 0)), (2, .int x2)]) E dX5_brokenSet_31 (by decide) rfl ?_
          refine jx_iinc (y := (x2 + 1)) (lv' := [(2, .int (x2 + 1)), (1, .int (x1 ||| (1 <<< (x2 &&& 31)))), (0, .ref (ad 0))]) E dX5_brokenSet_32 2 rfl rfl (by decide) rfl ?_
          refine jx_goto (tgt := 4) E dX5_brokenSet_35 (by decide) ?_
          refine jx_sub [2, 1, 0] rfl ?_
          exact ih (x1 ||| (1 <<< (x2 &&& 31))) (x2 + 1) v2 hF
  refine jx_iconst (x := 0) E dX5_brokenSet_0 (by decide) ?_
  refine jx_istore_n (lv' := [(1, .int 0), (0, .ref (ad 0))]) E dX5_brokenSet_1 (by decide) rfl ?_
  refine jx_iconst (x := 0) E dX5_brokenSet_2 (by decide) ?_
  refine jx_istore_n (lv' := [(2, .int 0), (1, .int 0), (0, .ref (ad 0))]) E dX5_brokenSet_3 (by decide) rfl ?_
  refine jx_sub [2, 1, 0] rfl ?_
  exact (key 100000) 0 0 v hF
def f_X5_broken  (v : jx_V) : Option (Int32 × jx_V) := ((f_X5_brokenSet v).bind (fun (r1, v1) => (some (r1, v1))))
def rm_X5_broken : Room := { frames := 7, cells := 0, slots := 0, locals := 169 }
set_option maxHeartbeats 4000000 in
set_option maxRecDepth 100000 in
theorem k_X5_broken {l : Launch} {D : va_G} {cI cJ : ClassId} {ad : Nat → Nat} {A : Nat → Prop} (hI : jx_inj 13 ad A)  (v : jx_V) (r : Int32) (v' : jx_V) (hF : f_X5_broken  v = some (r, v')) : jx_Ci l D vwCl 13 cI cJ ad shM A ex_M yX5_broken (Cond.code yX5_broken cX5_broken 1 (some .int) :: bigT) rm_X5_broken [.ref (ad 0)] v r v' := by
  unfold f_X5_broken at hF
  refine jx_enteri bigT RX5 cX5_broken 1 (some .int) [(0, .ref (ad 0))] hI (ex_M_ok A) (by decide +kernel) rfl (Nat.le_of_ble_eq_true rfl) rfl rfl ?_
  intro p e s m args below meth c E
  refine jx_aload_n E dX5_broken_0 0 rfl ?_
  obtain ⟨⟨r1, v1⟩, hc1, hF⟩ := jx_bind hF
  try dsimp only at hF
  refine jx_callVi (As := []) (st := []) (h := 0) E dX5_broken_1 0 rfl (k_X5_brokenSet hI  v r1 v1 hc1) (gb_V (List.mem_cons_of_mem _ tw_440) (List.mem_cons_of_mem _ tw_441) (List.mem_cons_of_mem _ tw_442) (List.mem_cons_of_mem _ tw_325) tw_439) rfl rfl rfl dd_X5_brokenSet rfl (Nat.le_of_ble_eq_true rfl) s_M0 rfl ⟨by decide, by decide⟩ ⟨Nat.le_refl 0, Nat.le_refl 0⟩ (Nat.le_of_ble_eq_true rfl) ?_
  obtain ⟨rfl, rfl⟩ := jx_out hF
  exact jx_iret E dX5_broken_4 rfl
def f_X5_month_L  : Nat → Nat → Int32 → Int32 → jx_V → Option (Int32 × jx_V)
  | 0, _, _, _, _ => none
  | n + 1, tag, x1, x2, v => (if tag = 0 then (if 4 ≤ x2 then (f_X5_month_L n 1 x1 0 v) else (if ((7 + x2) < 0 ∨ 181 ≤ Int32.toNatClampNeg (7 + x2)) then none else (if (x2 < 0 ∨ 4 ≤ Int32.toNatClampNeg x2) then none else (if ((7 + x2) < 0 ∨ 181 ≤ Int32.toNatClampNeg (7 + x2)) then none else (f_X5_month_L n 0 x1 (x2 + 1) (jx_up v 1 (Int32.toNatClampNeg (7 + x2)) ((v 1 (Int32.toNatClampNeg (7 + x2))) + (v 6 (Int32.toNatClampNeg x2))))))))) else (if tag = 1 then (if 25 ≤ x2 then (some (x1, (jx_up v 1 0 ((v 1 0) + 1)))) else ((f_X5_its x2 2 v).bind (fun (r7, v7) => ((f_X5_isThing x2 v7).bind (fun (r8, v8) => (if r8 = 0 then ((f_X5_at x2 2 v8).bind (fun (r10, v10) => (if 9 ≤ (r7 + 0) then (if (r10 < 0 ∨ 181 ≤ Int32.toNatClampNeg r10) then none else (f_X5_month_L n 1 x1 (x2 + 1) (jx_up v10 1 (Int32.toNatClampNeg r10) 9))) else (if (r10 < 0 ∨ 181 ≤ Int32.toNatClampNeg r10) then none else (f_X5_month_L n 1 x1 (x2 + 1) (jx_up v10 1 (Int32.toNatClampNeg r10) (r7 + 0))))))) else ((f_X5_grows x2 v8).bind (fun (r14, v14) => ((f_X5_at x2 2 v14).bind (fun (r15, v15) => (if 9 ≤ (r7 + r14) then (if (r15 < 0 ∨ 181 ≤ Int32.toNatClampNeg r15) then none else (f_X5_month_L n 1 x1 (x2 + 1) (jx_up v15 1 (Int32.toNatClampNeg r15) 9))) else (if (r15 < 0 ∨ 181 ≤ Int32.toNatClampNeg r15) then none else (f_X5_month_L n 1 x1 (x2 + 1) (jx_up v15 1 (Int32.toNatClampNeg r15) (r7 + r14))))))))))))))) else none))
def f_X5_month  (v : jx_V) : Option (Int32 × jx_V) := ((f_X5_findGains v).bind (fun (r1, v1) => (f_X5_month_L 100000 0 r1 0 v1)))
def rm_X5_month : Room := { frames := 6, cells := 0, slots := 0, locals := 147 }
set_option maxHeartbeats 4000000 in
set_option maxRecDepth 100000 in
theorem k_X5_month {l : Launch} {D : va_G} {cI cJ : ClassId} {ad : Nat → Nat} {A : Nat → Prop} (hI : jx_inj 13 ad A)  (v : jx_V) (r : Int32) (v' : jx_V) (hF : f_X5_month  v = some (r, v')) : jx_Ci l D vwCl 13 cI cJ ad shM A ex_M yX5_month (Cond.code yX5_month cX5_month 4 (some .int) :: bigT) rm_X5_month [.ref (ad 0)] v r v' := by
  unfold f_X5_month at hF
  refine jx_enteri bigT RX5 cX5_month 4 (some .int) [(0, .ref (ad 0))] hI (ex_M_ok A) (by decide +kernel) rfl (Nat.le_of_ble_eq_true rfl) rfl rfl ?_
  intro p e s m args below meth c E
  have iX5 : ∀ w ∈ u_ws RX5 TX5 21, w ∈ (Cond.code yX5_month cX5_month 4 (some .int) :: bigT) := fun w h => List.mem_cons_of_mem _ (uw_X5 w h)
  have key : ∀ n : Nat, (∀ (x1 : Int32) (x2 : Int32) (v : jx_V), f_X5_month_L  n 0 x1 x2 v = some (r, v') → jx_J p l e rm_X5_month s m args below meth c D vwCl 13 cI cJ ad shM A 0 0 4 (MQ below (va_Qi (fun (r1 : Int32) (_ : Unit) => r1 = r) (fun _ t => va_P D vwCl (jx_ws 13 cI cJ ad shM v') t.heap) A) args s 0 0 A) v 7 [(0, .ref (ad 0)), (1, .int x1), (2, .int x2)] []) ∧ (∀ (x1 : Int32) (x2 : Int32) (v : jx_V), f_X5_month_L  n 1 x1 x2 v = some (r, v') → jx_J p l e rm_X5_month s m args below meth c D vwCl 13 cI cJ ad shM A 0 0 4 (MQ below (va_Qi (fun (r1 : Int32) (_ : Unit) => r1 = r) (fun _ t => va_P D vwCl (jx_ws 13 cI cJ ad shM v') t.heap) A) args s 0 0 A) v 38 [(0, .ref (ad 0)), (1, .int x1), (2, .int x2)] []) := by
    intro n
    induction n with
    | zero =>
      exact ⟨(fun _ _ _ h => by cases h), (fun _ _ _ h => by cases h)⟩
    | succ n ih =>
      refine ⟨?_, ?_⟩
      · intro x1 x2 v hF
        rw [f_X5_month_L] at hF
        rw [if_pos rfl] at hF
        refine jx_iload_n E dX5_month_7 2 rfl ?_
        refine jx_iconst (x := 4) E dX5_month_8 (by decide) ?_
        refine jx_icmp_ge (tgt := 36) E dX5_month_9 (by decide) (fun hc2 => ?_) (fun hc2 => ?_)
        · rw [if_pos hc2] at hF
          refine jx_iconst (x := 0) E dX5_month_36 (by decide) ?_
          refine jx_istore_n (lv' := [(2, .int 0), (0, .ref (ad 0)), (1, .int x1)]) E dX5_month_37 (by decide) rfl ?_
          refine jx_sub [1, 2, 0] rfl ?_
          exact ih.2 x1 0 v hF
        · rw [if_neg hc2] at hF
          refine jx_aload_n E dX5_month_12 0 rfl ?_
          refine jx_getr (C := RX5) (T := TX5) (M := 21) (k := 0) E dX5_month_13 (Nat.le_of_ble_eq_true rfl) s_M0 rfl iX5 (by decide) rfl (List.mem_cons_of_mem _ tw_328) rfl ?_
          refine jx_bipush (x := 7) E dX5_month_16 (by decide) ?_
          refine jx_iload_n E dX5_month_18 2 rfl ?_
          refine jx_iadd E dX5_month_19 ?_
          refine jx_dup2 E dX5_month_20 rfl rfl ?_
          obtain ⟨hg3, hF⟩ := jx_guard hF
          refine jx_iald (h := 1) (j := (Int32.toNatClampNeg (7 + x2))) E dX5_month_21 (Nat.le_of_ble_eq_true rfl) s_M1 hg3 rfl ?_
          refine jx_aload_n E dX5_month_22 0 rfl ?_
          refine jx_getr (C := RX5) (T := TX5) (M := 21) (k := 9) E dX5_month_23 (Nat.le_of_ble_eq_true rfl) s_M0 rfl iX5 (by decide) rfl (List.mem_cons_of_mem _ tw_420) rfl ?_
          refine jx_iload_n E dX5_month_26 2 rfl ?_
          obtain ⟨hg4, hF⟩ := jx_guard hF
          refine jx_iald (h := 6) (j := (Int32.toNatClampNeg x2)) E dX5_month_27 (Nat.le_of_ble_eq_true rfl) s_M6 hg4 rfl ?_
          refine jx_iadd E dX5_month_28 ?_
          obtain ⟨hg5, hF⟩ := jx_guard hF
          refine jx_iast (h := 1) (j := (Int32.toNatClampNeg (7 + x2))) E dX5_month_29 (Nat.le_of_ble_eq_true rfl) s_M1 hg5 rfl ?_
          refine jx_iinc (y := (x2 + 1)) (lv' := [(2, .int (x2 + 1)), (0, .ref (ad 0)), (1, .int x1)]) E dX5_month_30 2 rfl rfl (by decide) rfl ?_
          refine jx_goto (tgt := 7) E dX5_month_33 (by decide) ?_
          refine jx_sub [1, 2, 0] rfl ?_
          exact ih.1 x1 (x2 + 1) (jx_up v 1 (Int32.toNatClampNeg (7 + x2)) ((v 1 (Int32.toNatClampNeg (7 + x2))) + (v 6 (Int32.toNatClampNeg x2)))) hF
      · intro x1 x2 v hF
        rw [f_X5_month_L] at hF
        rw [if_neg (by decide), if_pos rfl] at hF
        refine jx_iload_n E dX5_month_38 2 rfl ?_
        refine jx_bipush (x := 25) E dX5_month_39 (by decide) ?_
        refine jx_icmp_ge (tgt := 97) E dX5_month_41 (by decide) (fun hc6 => ?_) (fun hc6 => ?_)
        · rw [if_pos hc6] at hF
          refine jx_aload_n E dX5_month_97 0 rfl ?_
          refine jx_getr (C := RX5) (T := TX5) (M := 21) (k := 0) E dX5_month_98 (Nat.le_of_ble_eq_true rfl) s_M0 rfl iX5 (by decide) rfl (List.mem_cons_of_mem _ tw_328) rfl ?_
          refine jx_iconst (x := 0) E dX5_month_101 (by decide) ?_
          refine jx_dup2 E dX5_month_102 rfl rfl ?_
          refine jx_iald (h := 1) (j := 0) E dX5_month_103 (Nat.le_of_ble_eq_true rfl) s_M1 (by decide) (by decide) ?_
          refine jx_iconst (x := 1) E dX5_month_104 (by decide) ?_
          refine jx_iadd E dX5_month_105 ?_
          refine jx_iast (h := 1) (j := 0) E dX5_month_106 (Nat.le_of_ble_eq_true rfl) s_M1 (by decide) (by decide) ?_
          refine jx_iload_n E dX5_month_107 1 rfl ?_
          obtain ⟨rfl, rfl⟩ := jx_out hF
          exact jx_iret E dX5_month_108 rfl
        · rw [if_neg hc6] at hF
          refine jx_aload_n E dX5_month_44 0 rfl ?_
          refine jx_iload_n E dX5_month_45 2 rfl ?_
          refine jx_iconst (x := 2) E dX5_month_46 (by decide) ?_
          obtain ⟨⟨r7, v7⟩, hc7, hF⟩ := jx_bind hF
          try dsimp only at hF
          refine jx_callVi (As := [.int x2, .int 2]) (st := []) (h := 0) E dX5_month_47 2 rfl (k_X5_its hI x2 2 v r7 v7 hc7) (gb_V (List.mem_cons_of_mem _ tw_335) (List.mem_cons_of_mem _ tw_336) (List.mem_cons_of_mem _ tw_337) (List.mem_cons_of_mem _ tw_325) tw_334) rfl rfl rfl dd_X5_its rfl (Nat.le_of_ble_eq_true rfl) s_M0 rfl ⟨by decide, by decide⟩ ⟨Nat.le_refl 0, Nat.le_refl 0⟩ (Nat.le_of_ble_eq_true rfl) ?_
          refine jx_aload_n E dX5_month_50 0 rfl ?_
          refine jx_iload_n E dX5_month_51 2 rfl ?_
          obtain ⟨⟨r8, v8⟩, hc8, hF⟩ := jx_bind hF
          try dsimp only at hF
          refine jx_callVi (As := [.int x2]) (st := [.int r7]) (h := 0) E dX5_month_52 1 rfl (k_X5_isThing hI x2 v7 r8 v8 hc8) (gb_V (List.mem_cons_of_mem _ tw_339) (List.mem_cons_of_mem _ tw_340) (List.mem_cons_of_mem _ tw_341) (List.mem_cons_of_mem _ tw_325) tw_338) rfl rfl rfl dd_X5_isThing rfl (Nat.le_of_ble_eq_true rfl) s_M0 rfl ⟨by decide, by decide⟩ ⟨Nat.le_refl 0, Nat.le_refl 0⟩ (Nat.le_of_ble_eq_true rfl) ?_
          refine jx_if_eq (tgt := 66) E dX5_month_55 (by decide) (fun hc9 => ?_) (fun hc9 => ?_)
          · rw [if_pos hc9] at hF
            refine jx_iconst (x := 0) E dX5_month_66 (by decide) ?_
            refine jx_iadd E dX5_month_67 ?_
            refine jx_istore_n (lv' := [(3, .int (r7 + 0)), (0, .ref (ad 0)), (1, .int x1), (2, .int x2)]) E dX5_month_68 (by decide) rfl ?_
            refine jx_aload_n E dX5_month_69 1 rfl ?_
            refine jx_getr (C := RX5) (T := TX5) (M := 21) (k := 0) E dX5_month_70 (Nat.le_of_ble_eq_true rfl) s_M0 rfl iX5 (by decide) rfl (List.mem_cons_of_mem _ tw_328) rfl ?_
            refine jx_iload_n E dX5_month_73 3 rfl ?_
            refine jx_iconst (x := 2) E dX5_month_74 (by decide) ?_
            obtain ⟨⟨r10, v10⟩, hc10, hF⟩ := jx_bind hF
            try dsimp only at hF
            refine jx_callSi (As := [.int x2, .int 2]) (st := [.ref (ad 1)]) E dX5_month_75 2 rfl (k_X5_at hI x2 2 v8 r10 v10 hc10) (gb_S (List.mem_cons_of_mem _ tw_332) (List.mem_cons_of_mem _ tw_333) (List.mem_cons_of_mem _ tw_325) tw_331) rfl rfl rfl dd_X5_at rfl ⟨by decide, by decide⟩ ⟨Nat.le_refl 0, Nat.le_refl 0⟩ (Nat.le_of_ble_eq_true rfl) ?_
            refine jx_iload_n E dX5_month_78 0 rfl ?_
            refine jx_bipush (x := 9) E dX5_month_79 (by decide) ?_
            refine jx_icmp_ge (tgt := 88) E dX5_month_81 (by decide) (fun hc11 => ?_) (fun hc11 => ?_)
            · rw [if_pos hc11] at hF
              refine jx_bipush (x := 9) E dX5_month_88 (by decide) ?_
              obtain ⟨hg12, hF⟩ := jx_guard hF
              refine jx_iast (h := 1) (j := (Int32.toNatClampNeg r10)) E dX5_month_90 (Nat.le_of_ble_eq_true rfl) s_M1 hg12 rfl ?_
              refine jx_iinc (y := (x2 + 1)) (lv' := [(2, .int (x2 + 1)), (3, .int (r7 + 0)), (0, .ref (ad 0)), (1, .int x1)]) E dX5_month_91 3 rfl rfl (by decide) rfl ?_
              refine jx_goto (tgt := 38) E dX5_month_94 (by decide) ?_
              refine jx_sub [2, 3, 0] rfl ?_
              exact ih.2 x1 (x2 + 1) (jx_up v10 1 (Int32.toNatClampNeg r10) 9) hF
            · rw [if_neg hc11] at hF
              refine jx_iload_n E dX5_month_84 0 rfl ?_
              refine jx_goto (tgt := 90) E dX5_month_85 (by decide) ?_
              obtain ⟨hg13, hF⟩ := jx_guard hF
              refine jx_iast (h := 1) (j := (Int32.toNatClampNeg r10)) E dX5_month_90 (Nat.le_of_ble_eq_true rfl) s_M1 hg13 rfl ?_
              refine jx_iinc (y := (x2 + 1)) (lv' := [(2, .int (x2 + 1)), (3, .int (r7 + 0)), (0, .ref (ad 0)), (1, .int x1)]) E dX5_month_91 3 rfl rfl (by decide) rfl ?_
              refine jx_goto (tgt := 38) E dX5_month_94 (by decide) ?_
              refine jx_sub [2, 3, 0] rfl ?_
              exact ih.2 x1 (x2 + 1) (jx_up v10 1 (Int32.toNatClampNeg r10) (r7 + 0)) hF
          · rw [if_neg hc9] at hF
            refine jx_aload_n E dX5_month_58 0 rfl ?_
            refine jx_iload_n E dX5_month_59 2 rfl ?_
            obtain ⟨⟨r14, v14⟩, hc14, hF⟩ := jx_bind hF
            try dsimp only at hF
            refine jx_callVi (As := [.int x2]) (st := [.int r7]) (h := 0) E dX5_month_60 1 rfl (k_X5_grows hI x2 v8 r14 v14 hc14) (gb_V (List.mem_cons_of_mem _ tw_376) (List.mem_cons_of_mem _ tw_377) (List.mem_cons_of_mem _ tw_378) (List.mem_cons_of_mem _ tw_325) tw_375) rfl rfl rfl dd_X5_grows rfl (Nat.le_of_ble_eq_true rfl) s_M0 rfl ⟨by decide, by decide⟩ ⟨Nat.le_refl 0, Nat.le_refl 0⟩ (Nat.le_of_ble_eq_true rfl) ?_
            refine jx_goto (tgt := 67) E dX5_month_63 (by decide) ?_
            refine jx_iadd E dX5_month_67 ?_
            refine jx_istore_n (lv' := [(3, .int (r7 + r14)), (0, .ref (ad 0)), (1, .int x1), (2, .int x2)]) E dX5_month_68 (by decide) rfl ?_
            refine jx_aload_n E dX5_month_69 1 rfl ?_
            refine jx_getr (C := RX5) (T := TX5) (M := 21) (k := 0) E dX5_month_70 (Nat.le_of_ble_eq_true rfl) s_M0 rfl iX5 (by decide) rfl (List.mem_cons_of_mem _ tw_328) rfl ?_
            refine jx_iload_n E dX5_month_73 3 rfl ?_
            refine jx_iconst (x := 2) E dX5_month_74 (by decide) ?_
            obtain ⟨⟨r15, v15⟩, hc15, hF⟩ := jx_bind hF
            try dsimp only at hF
            refine jx_callSi (As := [.int x2, .int 2]) (st := [.ref (ad 1)]) E dX5_month_75 2 rfl (k_X5_at hI x2 2 v14 r15 v15 hc15) (gb_S (List.mem_cons_of_mem _ tw_332) (List.mem_cons_of_mem _ tw_333) (List.mem_cons_of_mem _ tw_325) tw_331) rfl rfl rfl dd_X5_at rfl ⟨by decide, by decide⟩ ⟨Nat.le_refl 0, Nat.le_refl 0⟩ (Nat.le_of_ble_eq_true rfl) ?_
            refine jx_iload_n E dX5_month_78 0 rfl ?_
            refine jx_bipush (x := 9) E dX5_month_79 (by decide) ?_
            refine jx_icmp_ge (tgt := 88) E dX5_month_81 (by decide) (fun hc16 => ?_) (fun hc16 => ?_)
            · rw [if_pos hc16] at hF
              refine jx_bipush (x := 9) E dX5_month_88 (by decide) ?_
              obtain ⟨hg17, hF⟩ := jx_guard hF
              refine jx_iast (h := 1) (j := (Int32.toNatClampNeg r15)) E dX5_month_90 (Nat.le_of_ble_eq_true rfl) s_M1 hg17 rfl ?_
              refine jx_iinc (y := (x2 + 1)) (lv' := [(2, .int (x2 + 1)), (3, .int (r7 + r14)), (0, .ref (ad 0)), (1, .int x1)]) E dX5_month_91 3 rfl rfl (by decide) rfl ?_
              refine jx_goto (tgt := 38) E dX5_month_94 (by decide) ?_
              refine jx_sub [2, 3, 0] rfl ?_
              exact ih.2 x1 (x2 + 1) (jx_up v15 1 (Int32.toNatClampNeg r15) 9) hF
            · rw [if_neg hc16] at hF
              refine jx_iload_n E dX5_month_84 0 rfl ?_
              refine jx_goto (tgt := 90) E dX5_month_85 (by decide) ?_
              obtain ⟨hg18, hF⟩ := jx_guard hF
              refine jx_iast (h := 1) (j := (Int32.toNatClampNeg r15)) E dX5_month_90 (Nat.le_of_ble_eq_true rfl) s_M1 hg18 rfl ?_
              refine jx_iinc (y := (x2 + 1)) (lv' := [(2, .int (x2 + 1)), (3, .int (r7 + r14)), (0, .ref (ad 0)), (1, .int x1)]) E dX5_month_91 3 rfl rfl (by decide) rfl ?_
              refine jx_goto (tgt := 38) E dX5_month_94 (by decide) ?_
              refine jx_sub [2, 3, 0] rfl ?_
              exact ih.2 x1 (x2 + 1) (jx_up v15 1 (Int32.toNatClampNeg r15) (r7 + r14)) hF
  refine jx_aload_n E dX5_month_0 0 rfl ?_
  obtain ⟨⟨r1, v1⟩, hc1, hF⟩ := jx_bind hF
  try dsimp only at hF
  refine jx_callVi (As := []) (st := []) (h := 0) E dX5_month_1 0 rfl (k_X5_findGains hI  v r1 v1 hc1) (gb_V (List.mem_cons_of_mem _ tw_432) (List.mem_cons_of_mem _ tw_433) (List.mem_cons_of_mem _ tw_434) (List.mem_cons_of_mem _ tw_325) tw_431) rfl rfl rfl dd_X5_findGains rfl (Nat.le_of_ble_eq_true rfl) s_M0 rfl ⟨by decide, by decide⟩ ⟨Nat.le_refl 0, Nat.le_refl 0⟩ (Nat.le_of_ble_eq_true rfl) ?_
  refine jx_istore_n (lv' := [(1, .int r1), (0, .ref (ad 0))]) E dX5_month_4 (by decide) rfl ?_
  refine jx_iconst (x := 0) E dX5_month_5 (by decide) ?_
  refine jx_istore_n (lv' := [(2, .int 0), (1, .int r1), (0, .ref (ad 0))]) E dX5_month_6 (by decide) rfl ?_
  refine jx_sub [2, 1, 0] rfl ?_
  exact (key 100000).1 r1 0 v1 hF
def f_X5_monthsGo_L  : Nat → Int32 → Int32 → Int32 → jx_V → Option (Int32 × jx_V)
  | 0, _, _, _, _ => none
  | n + 1, x1, x2, x3, v => (if x1 ≤ x3 then (some (x2, v)) else ((f_X5_month v).bind (fun (r2, v2) => (f_X5_monthsGo_L n x1 (x2 + r2) (x3 + 1) v2))))
def f_X5_monthsGo (x1 : Int32) (v : jx_V) : Option (Int32 × jx_V) := (f_X5_monthsGo_L 100000 x1 0 0 v)
def rm_X5_monthsGo : Room := { frames := 7, cells := 0, slots := 0, locals := 170 }
set_option maxHeartbeats 4000000 in
set_option maxRecDepth 100000 in
theorem k_X5_monthsGo {l : Launch} {D : va_G} {cI cJ : ClassId} {ad : Nat → Nat} {A : Nat → Prop} (hI : jx_inj 13 ad A) (x1 : Int32) (v : jx_V) (r : Int32) (v' : jx_V) (hF : f_X5_monthsGo x1 v = some (r, v')) : jx_Ci l D vwCl 13 cI cJ ad shM A ex_M yX5_monthsGo (Cond.code yX5_monthsGo cX5_monthsGo 4 (some .int) :: bigT) rm_X5_monthsGo [.ref (ad 0), .int x1] v r v' := by
  unfold f_X5_monthsGo at hF
  refine jx_enteri bigT RX5 cX5_monthsGo 4 (some .int) [(0, .ref (ad 0)), (1, .int x1)] hI (ex_M_ok A) (by decide +kernel) rfl (Nat.le_of_ble_eq_true rfl) rfl rfl ?_
  intro p e s m args below meth c E
  have key : ∀ n : Nat, (∀ (x1 : Int32) (x2 : Int32) (x3 : Int32) (v : jx_V), f_X5_monthsGo_L  n  x1 x2 x3 v = some (r, v') → jx_J p l e rm_X5_monthsGo s m args below meth c D vwCl 13 cI cJ ad shM A 0 0 4 (MQ below (va_Qi (fun (r1 : Int32) (_ : Unit) => r1 = r) (fun _ t => va_P D vwCl (jx_ws 13 cI cJ ad shM v') t.heap) A) args s 0 0 A) v 4 [(0, .ref (ad 0)), (1, .int x1), (2, .int x2), (3, .int x3)] []) := by
    intro n
    induction n with
    | zero =>
      exact (fun _ _ _ _ h => by cases h)
    | succ n ih =>
      intro x1 x2 x3 v hF
      rw [f_X5_monthsGo_L] at hF
      refine jx_iload_n E dX5_monthsGo_4 3 rfl ?_
      refine jx_iload_n E dX5_monthsGo_5 1 rfl ?_
      refine jx_icmp_ge (tgt := 22) E dX5_monthsGo_6 (by decide) (fun hc1 => ?_) (fun hc1 => ?_)
      · rw [if_pos hc1] at hF
        refine jx_iload_n E dX5_monthsGo_22 2 rfl ?_
        obtain ⟨rfl, rfl⟩ := jx_out hF
        exact jx_iret E dX5_monthsGo_23 rfl
      · rw [if_neg hc1] at hF
        refine jx_iload_n E dX5_monthsGo_9 2 rfl ?_
        refine jx_aload_n E dX5_monthsGo_10 0 rfl ?_
        obtain ⟨⟨r2, v2⟩, hc2, hF⟩ := jx_bind hF
        try dsimp only at hF
        refine jx_callVi (As := []) (st := [.int x2]) (h := 0) E dX5_monthsGo_11 0 rfl (k_X5_month hI  v r2 v2 hc2) (gb_V (List.mem_cons_of_mem _ tw_444) (List.mem_cons_of_mem _ tw_445) (List.mem_cons_of_mem _ tw_446) (List.mem_cons_of_mem _ tw_325) tw_443) rfl rfl rfl dd_X5_month rfl (Nat.le_of_ble_eq_true rfl) s_M0 rfl ⟨by decide, by decide⟩ ⟨Nat.le_refl 0, Nat.le_refl 0⟩ (Nat.le_of_ble_eq_true rfl) ?_
        refine jx_iadd E dX5_monthsGo_14 ?_
        refine jx_istore_n (lv' := [(2, .int (x2 + r2)), (0, .ref (ad 0)), (1, .int x1), (3, .int x3)]) E dX5_monthsGo_15 (by decide) rfl ?_
        refine jx_iinc (y := (x3 + 1)) (lv' := [(3, .int (x3 + 1)), (2, .int (x2 + r2)), (0, .ref (ad 0)), (1, .int x1)]) E dX5_monthsGo_16 3 rfl rfl (by decide) rfl ?_
        refine jx_goto (tgt := 4) E dX5_monthsGo_19 (by decide) ?_
        refine jx_sub [2, 3, 1, 0] rfl ?_
        exact ih x1 (x2 + r2) (x3 + 1) v2 hF
  refine jx_iconst (x := 0) E dX5_monthsGo_0 (by decide) ?_
  refine jx_istore_n (lv' := [(2, .int 0), (0, .ref (ad 0)), (1, .int x1)]) E dX5_monthsGo_1 (by decide) rfl ?_
  refine jx_iconst (x := 0) E dX5_monthsGo_2 (by decide) ?_
  refine jx_istore_n (lv' := [(3, .int 0), (2, .int 0), (0, .ref (ad 0)), (1, .int x1)]) E dX5_monthsGo_3 (by decide) rfl ?_
  refine jx_sub [2, 3, 1, 0] rfl ?_
  exact (key 100000) x1 0 0 v hF
