theorem q_as {v w a b} (h : R v w) : Q (f_X4_as a b v) (f_X5_as a b w) := by
  unfold f_X4_as f_X5_as
  simp only [x_w10, x_w7, m_in_0_9, m_in_0_6, Option.bind_some, x_f0, m_f0]
  by_cases c1 : 0 ≤ a ∧ a ≤ 9
  · obtain ⟨q, hq, rfl⟩ := ix (n := 9) rfl (by omega) c1
    have e7 : 171 + nI q = nI (171 + q) := by unfold nI; simp [Int32.ofNat_add]
    by_cases c2 : 0 ≤ b ∧ b ≤ 6
    · simp only [if_pos c1, if_pos c2, o10, if_false, e7, tn (show q < 2147483648 by omega), tn (show 171 + q < 2147483648 by omega), ib hq (by omega), ib (show 171 + q < 181 by omega) (by omega), tkS h hq]
      have hs : w 1 (171 + q) = -1 ∨ ∃ j, j < 25 ∧ w 1 (171 + q) = nI j := by
        have := h.ok'.s q
        rw [show (mT (w 1)).S q = w 1 (171 + q) from if_pos hq] at this
        exact this
      rcases hs with e | ⟨j, hj, e⟩
      · simp only [e, show ((-1 : Int32) < 0) = True by decide, if_true, x_f5, m_f5, Option.bind_some]; exact Q_f h
      · simp only [e, nI_neg (show j < 2147483648 by omega), if_false, x_taken hj, m_thing hj, Option.bind_some, Nat.reduceAdd, tk h hj]
        by_cases ht : w 1 (11 + 4 * j) < 0
        · simp only [if_pos ht, z00, if_true, x_f5, m_f5, Option.bind_some]; exact Q_f h
        · simp only [if_neg ht, o10, if_false, tn (show j < 2147483648 by omega), nl0 hj, or_false, m_its0 hj, Option.bind_some, tk h hj, f_X4_isOfKind, f_X4_kindAbove, x_f2, m_f2]
          generalize w 1 (11 + 4 * j) = k at *
          clear ht
          have hi : Q (some (nI j, v)) (some (nI j, w)) := Q_i h
          have hf : Q (some (-1000003, jx_up v 63 2 (v 63 2 + 1))) (some (-1000003, jx_up w 4 2 (w 4 2 + 1))) := Q_f h
          by_cases b0 : b = 0
          · simp only [b0, if_true, Option.bind_some, o10, if_false]; exact hi
          · by_cases b1 : k = b
            · simp only [b0, b1, if_true, if_false, Option.bind_some, o10]; exact hi
            · by_cases k3 : k = 3
              · subst k3
                by_cases b2 : b = 1
                · subst b2; exact hi
                · have b2' : ¬ 1 = b := fun q => b2 q.symm
                  simp only [b0, b1, b2, b2', if_true, if_false, Option.bind_some, z00, o10]
                  by_cases b3 : b = 2
                  · subst b3; exact hf
                  · by_cases b5 : b = 5
                    · subst b5; exact hf
                    · simp only [b3, b5, if_false]; exact hf
              · by_cases k4 : k = 4
                · subst k4
                  by_cases b2 : b = 2
                  · subst b2; exact hi
                  · have b2' : ¬ 2 = b := fun q => b2 q.symm
                    by_cases b3 : b = 1
                    · subst b3; exact hf
                    · by_cases b5 : b = 5
                      · subst b5; exact hf
                      · simp only [b0, b1, b2, b2', b3, b5, k3, if_true, if_false, Option.bind_some, z00, o10]; exact hf
                · by_cases k6 : k = 6
                  · subst k6
                    by_cases b2 : b = 5
                    · subst b2; exact hi
                    · have b2' : ¬ 5 = b := fun q => b2 q.symm
                      by_cases b3 : b = 1
                      · subst b3; exact hf
                      · by_cases b5 : b = 2
                        · subst b5; exact hf
                        · simp only [b0, b1, b2, b2', b3, b5, k3, show ¬ (6 : Int32) = 4 by decide, show ¬ (6 : Int32) = 5 by decide, if_true, if_false, Option.bind_some, z00, o10]; exact hf
                  · have b0' : ¬ 0 = b := fun q => b0 q.symm
                    by_cases k5 : k = 5
                    · subst k5
                      by_cases x1 : b = 1
                      · subst x1; exact hf
                      · by_cases x2 : b = 2
                        · subst x2; exact hf
                        · simp only [b0, b0', b1, x1, x2, k3, k4, k6, if_true, if_false, Option.bind_some, z00, o10]; (repeat' split) <;> first | exact hf | (exfalso; grind)
                    · simp only [b0, b0', b1, k3, k4, k6, k5, if_true, if_false, Option.bind_some, z00, o10]
                      (repeat' split) <;> first | exact hf | (exfalso; grind)
    · simp only [if_pos c1, if_neg c2, o10, z00, if_true, if_false]; exact Q_f h
  · simp only [if_neg c1, z00, if_true]; exact Q_f h
theorem x_addw {h N : Nat} {v : jx_V} {p l a t : Int32} (hN : N < 10) (eN : v h 5 = nI N) : f_X3_addWindow h p l a t v = some (jx_up (jx_up (jx_up (jx_up (jx_up (jx_up (jx_up v (h+7) N p) (h+8) N l) (h+9) N a) (h+10) N t) (h+11) N (-1)) (h+12) N 0) h 5 (nI (N+1))) := by
  unfold f_X3_addWindow
  simp only [jx_up_ne (show h ≠ h + 7 by omega), jx_up_ne (show h ≠ h + 8 by omega), jx_up_ne (show h ≠ h + 9 by omega), jx_up_ne (show h ≠ h + 10 by omega), jx_up_ne (show h ≠ h + 11 by omega), jx_up_ne (show h ≠ h + 12 by omega), eN, tn (show N < 2147483648 by omega), ib hN (by omega), if_false, nI_add1]
  rw [if_neg (by rw [show (10 : Int32) = nI 10 from rfl, pI_le (by omega) (by omega)]; omega)]
theorem c_win {h N : Nat} {v : jx_V} {p l a t : Int32} (hN : N < 10) (eN : v h 5 = nI N) : cT h (jx_up (jx_up (jx_up (jx_up (jx_up (jx_up (jx_up v (h+7) N p) (h+8) N l) (h+9) N a) (h+10) N t) (h+11) N (-1)) (h+12) N 0) h 5 (nI (N+1))) = nwin (cT h v) p l a t := by
  have e1 := tn (show N < 2147483648 by omega)
  have e2 := tn (show N + 1 < 2147483648 by omega)
  have e3 := nI_add1 N
  refine Tx ?_ ?_ ?_ ?_ ?_ ?_ ?_ ?_ ?_ ?_ ?_
  · funext l; (try simp only [cT, mT, mkT, bld, rem, sK, sO, sH, sP, sC, sS, sW, sm, sz, nwin, nw, Tn.K, Tn.O, Tn.H, Tn.P, Tn.W, Tn.C, Tn.U, Tn.S, Tn.n, Tn.m, Tn.z, up_g, upd, eN, e1, e2, e3]) <;> grind
  · funext l; (try simp only [cT, mT, mkT, bld, rem, sK, sO, sH, sP, sC, sS, sW, sm, sz, nwin, nw, Tn.K, Tn.O, Tn.H, Tn.P, Tn.W, Tn.C, Tn.U, Tn.S, Tn.n, Tn.m, Tn.z, up_g, upd, eN, e1, e2, e3]) <;> grind
  · funext l; (try simp only [cT, mT, mkT, bld, rem, sK, sO, sH, sP, sC, sS, sW, sm, sz, nwin, nw, Tn.K, Tn.O, Tn.H, Tn.P, Tn.W, Tn.C, Tn.U, Tn.S, Tn.n, Tn.m, Tn.z, up_g, upd, eN, e1, e2, e3]) <;> grind
  · funext l; (try simp only [cT, mT, mkT, bld, rem, sK, sO, sH, sP, sC, sS, sW, sm, sz, nwin, nw, Tn.K, Tn.O, Tn.H, Tn.P, Tn.W, Tn.C, Tn.U, Tn.S, Tn.n, Tn.m, Tn.z, up_g, upd, eN, e1, e2, e3]) <;> grind
  · funext a i; (try simp only [cT, mT, mkT, bld, rem, sK, sO, sH, sP, sC, sS, sW, sm, sz, nwin, nw, Tn.K, Tn.O, Tn.H, Tn.P, Tn.W, Tn.C, Tn.U, Tn.S, Tn.n, Tn.m, Tn.z, up_g, upd, eN, e1, e2, e3]) <;> grind
  · funext l; (try simp only [cT, mT, mkT, bld, rem, sK, sO, sH, sP, sC, sS, sW, sm, sz, nwin, nw, Tn.K, Tn.O, Tn.H, Tn.P, Tn.W, Tn.C, Tn.U, Tn.S, Tn.n, Tn.m, Tn.z, up_g, upd, eN, e1, e2, e3]) <;> grind
  · funext l; (try simp only [cT, mT, mkT, bld, rem, sK, sO, sH, sP, sC, sS, sW, sm, sz, nwin, nw, Tn.K, Tn.O, Tn.H, Tn.P, Tn.W, Tn.C, Tn.U, Tn.S, Tn.n, Tn.m, Tn.z, up_g, upd, eN, e1, e2, e3]) <;> grind
  · funext l; (try simp only [cT, mT, mkT, bld, rem, sK, sO, sH, sP, sC, sS, sW, sm, sz, nwin, nw, Tn.K, Tn.O, Tn.H, Tn.P, Tn.W, Tn.C, Tn.U, Tn.S, Tn.n, Tn.m, Tn.z, up_g, upd, eN, e1, e2, e3]) <;> grind
  · (try simp only [cT, mT, mkT, bld, rem, sK, sO, sH, sP, sC, sS, sW, sm, sz, nwin, nw, Tn.K, Tn.O, Tn.H, Tn.P, Tn.W, Tn.C, Tn.U, Tn.S, Tn.n, Tn.m, Tn.z, up_g, upd, eN, e1, e2, e3]) <;> grind
  · (try simp only [cT, mT, mkT, bld, rem, sK, sO, sH, sP, sC, sS, sW, sm, sz, nwin, nw, Tn.K, Tn.O, Tn.H, Tn.P, Tn.W, Tn.C, Tn.U, Tn.S, Tn.n, Tn.m, Tn.z, up_g, upd, eN, e1, e2, e3]) <;> grind
  · (try simp only [cT, mT, mkT, bld, rem, sK, sO, sH, sP, sC, sS, sW, sm, sz, nwin, nw, Tn.K, Tn.O, Tn.H, Tn.P, Tn.W, Tn.C, Tn.U, Tn.S, Tn.n, Tn.m, Tn.z, up_g, upd, eN, e1, e2, e3]) <;> grind
theorem m_win {N : Nat} {s : Nat → Int32} {p l a t : Int32} (hN : N < 10) (eN : s 1 = nI N) : mT (upd (upd (upd (upd (upd (upd (upd s (111+6*N+0) p) (111+6*N+1) l) (111+6*N+2) a) (111+6*N+3) t) (111+6*N+4) (-1)) (111+6*N+5) 0) 1 (nI (N+1))) = nwin (mT s) p l a t := by
  have e1 := tn (show N < 2147483648 by omega)
  have e2 := tn (show N + 1 < 2147483648 by omega)
  have e3 := nI_add1 N
  refine Tx ?_ ?_ ?_ ?_ ?_ ?_ ?_ ?_ ?_ ?_ ?_
  · funext l; (try simp only [cT, mT, mkT, bld, rem, sK, sO, sH, sP, sC, sS, sW, sm, sz, nwin, nw, Tn.K, Tn.O, Tn.H, Tn.P, Tn.W, Tn.C, Tn.U, Tn.S, Tn.n, Tn.m, Tn.z, up_g, upd, eN, e1, e2, e3]) <;> grind
  · funext l; (try simp only [cT, mT, mkT, bld, rem, sK, sO, sH, sP, sC, sS, sW, sm, sz, nwin, nw, Tn.K, Tn.O, Tn.H, Tn.P, Tn.W, Tn.C, Tn.U, Tn.S, Tn.n, Tn.m, Tn.z, up_g, upd, eN, e1, e2, e3]) <;> grind
  · funext l; (try simp only [cT, mT, mkT, bld, rem, sK, sO, sH, sP, sC, sS, sW, sm, sz, nwin, nw, Tn.K, Tn.O, Tn.H, Tn.P, Tn.W, Tn.C, Tn.U, Tn.S, Tn.n, Tn.m, Tn.z, up_g, upd, eN, e1, e2, e3]) <;> grind
  · funext l; (try simp only [cT, mT, mkT, bld, rem, sK, sO, sH, sP, sC, sS, sW, sm, sz, nwin, nw, Tn.K, Tn.O, Tn.H, Tn.P, Tn.W, Tn.C, Tn.U, Tn.S, Tn.n, Tn.m, Tn.z, up_g, upd, eN, e1, e2, e3]) <;> grind
  · funext a i; (try simp only [cT, mT, mkT, bld, rem, sK, sO, sH, sP, sC, sS, sW, sm, sz, nwin, nw, Tn.K, Tn.O, Tn.H, Tn.P, Tn.W, Tn.C, Tn.U, Tn.S, Tn.n, Tn.m, Tn.z, up_g, upd, eN, e1, e2, e3]) <;> grind
  · funext l; (try simp only [cT, mT, mkT, bld, rem, sK, sO, sH, sP, sC, sS, sW, sm, sz, nwin, nw, Tn.K, Tn.O, Tn.H, Tn.P, Tn.W, Tn.C, Tn.U, Tn.S, Tn.n, Tn.m, Tn.z, up_g, upd, eN, e1, e2, e3]) <;> grind
  · funext l; (try simp only [cT, mT, mkT, bld, rem, sK, sO, sH, sP, sC, sS, sW, sm, sz, nwin, nw, Tn.K, Tn.O, Tn.H, Tn.P, Tn.W, Tn.C, Tn.U, Tn.S, Tn.n, Tn.m, Tn.z, up_g, upd, eN, e1, e2, e3]) <;> grind
  · funext l; (try simp only [cT, mT, mkT, bld, rem, sK, sO, sH, sP, sC, sS, sW, sm, sz, nwin, nw, Tn.K, Tn.O, Tn.H, Tn.P, Tn.W, Tn.C, Tn.U, Tn.S, Tn.n, Tn.m, Tn.z, up_g, upd, eN, e1, e2, e3]) <;> grind
  · (try simp only [cT, mT, mkT, bld, rem, sK, sO, sH, sP, sC, sS, sW, sm, sz, nwin, nw, Tn.K, Tn.O, Tn.H, Tn.P, Tn.W, Tn.C, Tn.U, Tn.S, Tn.n, Tn.m, Tn.z, up_g, upd, eN, e1, e2, e3]) <;> grind
  · (try simp only [cT, mT, mkT, bld, rem, sK, sO, sH, sP, sC, sS, sW, sm, sz, nwin, nw, Tn.K, Tn.O, Tn.H, Tn.P, Tn.W, Tn.C, Tn.U, Tn.S, Tn.n, Tn.m, Tn.z, up_g, upd, eN, e1, e2, e3]) <;> grind
  · (try simp only [cT, mT, mkT, bld, rem, sK, sO, sH, sP, sC, sS, sW, sm, sz, nwin, nw, Tn.K, Tn.O, Tn.H, Tn.P, Tn.W, Tn.C, Tn.U, Tn.S, Tn.n, Tn.m, Tn.z, up_g, upd, eN, e1, e2, e3]) <;> grind
