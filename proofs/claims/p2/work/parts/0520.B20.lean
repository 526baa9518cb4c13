def bcE (x : Int32) : Int32 := ((f_J6_bitCount_0f7a4 x (fun _ _ => 0)).map Prod.fst).getD 0
theorem j_bc {x v} : f_J6_bitCount_0f7a4 x v = some (bcE x, v) := rfl
theorem bc_ones : ∀ q, q < 1024 → onesP 40 0 (nI q) = some (bcE (nI q)) := by decide +kernel
theorem or_r : ∀ i, i < 10 → ∀ q, q < 1024 → (nI q ||| (1 <<< (nI i &&& 31))).toNatClampNeg < 1024 ∧ nI q ||| (1 <<< (nI i &&& 31)) = nI (nI q ||| (1 <<< (nI i &&& 31))).toNatClampNeg := by decide +kernel
theorem bset_r {T} : ∀ i, i ≤ 10 → ∃ q, q < 1024 ∧ bset T i = nI q
  | 0, _ => ⟨0, by omega, rfl⟩
  | i + 1, hi => by
    obtain ⟨q, hq, e⟩ := bset_r (T := T) i (by omega)
    rw [bset, e]
    split
    · exact ⟨_, (or_r i (by omega) q hq).1, (or_r i (by omega) q hq).2⟩
    · exact ⟨q, hq, rfl⟩
theorem bs_r {T} (hT : OK T) : ∃ q, q < 1024 ∧ bs T = nI q := by
  obtain ⟨N, hN, e⟩ := hT.n
  unfold bs
  exact bset_r _ (by unfold nw; rw [e, tn (by omega)]; exact hN)
theorem m_ones_bs {T w} (hT : OK T) : f_X5_ones (bs T) w = some (bcE (bs T), w) := by
  obtain ⟨q, hq, e⟩ := bs_r hT
  rw [e]
  exact m_ones (bc_ones q hq)
theorem q_allowed {v w a} (h : R v w) : Q (f_X4_allowed a v) (f_X5_allowed a w) := by
  unfold f_X4_allowed f_X5_allowed
  generalize hG4 : f_X4_allowed_L 100000 = g4
  generalize hG5 : f_X5_allowed_L 100000 = g5
  simp only [x_w25, Option.bind_some, x_f0]
  by_cases c2 : 0 ≤ a ∧ a ≤ 24
  · obtain ⟨j, hj, rfl⟩ := ix (n := 24) rfl (by omega) c2
    simp only [if_pos c2, o10, if_false, x_taken hj, (m_lotWrong (x := 0) (w := w)).2 j hj, Option.bind_some, Nat.reduceAdd, tk h hj]
    by_cases ht : w 1 (11 + 4 * j) < 0
    · simp only [if_pos ht, z00, if_true, b40, if_false, x_f3, m_f3, Option.bind_some]; exact Q_f h
    · have hk : 0 ≤ w 1 (11 + 4 * j) := Int32.not_lt.mp ht
      have ev : v 6 j = w 1 (13 + 4 * j) := tkH h hj hk
      have rt : ∀ t, t < 10 → R (jx_up v 6 j (nI t)) (jx_up w 1 (13 + 4 * j) (nI t)) := fun t ht => by
        have := R_sx (a := 2) (t := t) h (Or.inl rfl) hj hk ht
        rw [show 11 + 4 * j + 2 = 13 + 4 * j by omega] at this
        exact this
      have L : ∀ d t f f' x l b v1 w1, t + d = 10 → 1 ≤ t → d < f → d < f' → SX (jx_up v 6 j x) v1 → SM (jx_up w 1 (13 + 4 * j) x) w1 → Q (f_X4_allowed_L f (nI j) (v 6 j) l b (nI t) v1) (f_X5_allowed_L f' (nI j) 0 (w 1 (13 + 4 * j)) l b (nI t) w1) := by
        intro d
        induction d with
        | zero =>
          intro t f f' x l b v1 w1 ht ht1 hf hf' sx sm
          obtain ⟨f, rfl⟩ : ∃ q, f = q + 1 := ⟨f - 1, by omega⟩
          obtain ⟨f', rfl⟩ : ∃ q, f' = q + 1 := ⟨f' - 1, by omega⟩
          rw [f_X4_allowed_L, f_X5_allowed_L, if_pos (show (10 : Int32) ≤ nI t by rw [show (10 : Int32) = nI 10 from rfl, pI_le (by omega) (by omega)]; omega), if_pos (show (10 : Int32) ≤ nI t by rw [show (10 : Int32) = nI 10 from rfl, pI_le (by omega) (by omega)]; omega)]
          simp only [tn (show j < 2147483648 by omega), ib hj (by omega), if_false, f_X5_at, at2, Option.bind_some, tn (show 13 + 4 * j < 2147483648 by omega), ib (show 13 + 4 * j < 181 by omega) (by omega)]
          exact Q_i (R_fr h (SX_bk (by omega) sx) (SM_bk sm))
        | succ d ih =>
          intro t f f' x l b v1 w1 ht ht1 hf hf' sx sm
          obtain ⟨f, rfl⟩ : ∃ q, f = q + 1 := ⟨f - 1, by omega⟩
          obtain ⟨f', rfl⟩ : ∃ q, f' = q + 1 := ⟨f' - 1, by omega⟩
          have r := R_fr (rt t (by omega)) (SX_u2 (by omega) sx) (SM_u2 sm)
          obtain ⟨v2, e1, g1⟩ := x_bset (h := 1) (by omega) r.ok
          obtain ⟨w2, e2, g2⟩ := m_bset r.ok'
          rw [r.t] at e1
          rw [f_X4_allowed_L, f_X5_allowed_L, if_neg (show ¬ (10 : Int32) ≤ nI t by rw [show (10 : Int32) = nI 10 from rfl, pI_le (by omega) (by omega)]; omega), if_neg (show ¬ (10 : Int32) ≤ nI t by rw [show (10 : Int32) = nI 10 from rfl, pI_le (by omega) (by omega)]; omega)]
          simp only [tn (show j < 2147483648 by omega), ib hj (by omega), if_false, f_X5_at, at2, Option.bind_some, tn (show 13 + 4 * j < 2147483648 by omega), ib (show 13 + 4 * j < 181 by omega) (by omega), e1, e2, nI_add1, j_bc, m_ones_bs r.ok']
          rw [if_neg (show ¬ nI t = 0 by rw [← nz, pI_eq (by omega) (by omega)]; omega)]
          have sx2 := SX_t (SX_u2 (y := nI t) (by omega) sx) (G_SX g1)
          have sm2 := SM_t (SM_u2 (y := nI t) sm) (FM_SM g2)
          split
          · exact ih (t+1) f f' (nI t) _ _ v2 w2 (by omega) (by omega) (by omega) (by omega) sx2 sm2
          · exact ih (t+1) f f' (nI t) _ _ v2 w2 (by omega) (by omega) (by omega) (by omega) sx2 sm2
      simp only [if_neg ht, o10, z00, if_true, if_false, tn (show j < 2147483648 by omega), ib hj (by omega)]
      have r0 := rt 0 (by omega)
      obtain ⟨v2, e1, g1⟩ := x_bset (h := 1) (by omega) r0.ok
      obtain ⟨w2, e2, g2⟩ := m_bset r0.ok'
      rw [r0.t] at e1
      have l := L 9 1 99999 100000 (nI 0) (bcE (bs (mT (jx_up w 1 (13 + 4 * j) (nI 0) 1)))) 0 v2 w2 (by omega) (by omega) (by omega) (by omega) (G_SX g1) (FM_SM g2)
      have l4 : f_X4_allowed_L 100000 (nI j) (v 6 j) 0 0 0 v = f_X4_allowed_L 99999 (nI j) (v 6 j) (bcE (bs (mT (jx_up w 1 (13 + 4 * j) (nI 0) 1)))) 0 (nI 1) v2 := by
        show f_X4_allowed_L (99999+1) (nI j) (v 6 j) 0 0 (nI 0) v = _
        rw [f_X4_allowed_L, if_neg (show ¬ (10 : Int32) ≤ nI 0 by decide)]
        simp only [tn (show j < 2147483648 by omega), ib hj (by omega), if_false, e1, Option.bind_some, j_bc, nI_add1]
        rw [if_pos nz, if_neg (show ¬ bcE (bs (mT (jx_up w 1 (13 + 4 * j) (nI 0) 1))) < bcE (bs (mT (jx_up w 1 (13 + 4 * j) (nI 0) 1))) by grind)]
        rfl
      rw [m_its2 hj, Option.bind_some]
      simp only [f_X5_at, at2, Option.bind_some, tn (show 13 + 4 * j < 2147483648 by omega), ib (show 13 + 4 * j < 181 by omega) (by omega), if_false]
      rw [show (0 : Int32) = nI 0 from rfl, e2, Option.bind_some]
      dsimp only
      rw [m_ones_bs r0.ok', Option.bind_some]
      dsimp only
      subst hG4 hG5
      rw [show nI 0 = 0 from rfl] at l l4 ⊢
      rw [l4]
      exact l
  · simp only [if_neg c2, z00, if_true, (m_lotWrong (w := w)).1 c2, Option.bind_some, b10, if_false, m_f0]; exact Q_f h
theorem q_opens {v w a} (h : R v w) : Q (f_X4_opens a v) (f_X5_opens a w) := by
  obtain ⟨N, hN, eN, eN2⟩ := cn h.ok
  have eM : w 1 1 = nI N := by rw [← tkn h]; exact eN
  unfold f_X4_opens f_X5_opens
  generalize hG4 : f_X4_opens_L 100000 = g4
  generalize hG5 : f_X5_opens_L 100000 = g5
  simp only [x_w25, Option.bind_some, x_f0]
  by_cases c2 : 0 ≤ a ∧ a ≤ 24
  · obtain ⟨j, hj, rfl⟩ := ix (n := 24) rfl (by omega) c2
    simp only [if_pos c2, o10, if_false, x_taken hj, (m_lotWrong (x := 0) (w := w)).2 j hj, Option.bind_some, Nat.reduceAdd, tk h hj]
    by_cases ht : w 1 (11 + 4 * j) < 0
    · simp only [if_pos ht, z00, if_true, b40, if_false, x_f3, m_f3, Option.bind_some]; exact Q_f h
    · have hk : 0 ≤ w 1 (11 + 4 * j) := Int32.not_lt.mp ht
      have ev : v 4 j = w 1 (11 + 4 * j) := tk h hj
      have L : ∀ d i f x v1 w1, i + d = N → d < f → SX v v1 → SM w w1 → Q (f_X4_opens_L f (nI j) (v 4 j) x (nI i) v1) (f_X5_opens_L f (nI j) 0 (w 1 (11 + 4 * j)) x (nI i) w1) := by
        intro d
        induction d with
        | zero =>
          intro i f x v1 w1 hi hf sx sm
          obtain ⟨f, rfl⟩ : ∃ q, f = q + 1 := ⟨f - 1, by omega⟩
          have r := R_fr h sx sm
          have e5 : v1 1 5 = nI N := by rw [sx.1 1 (by omega)]; exact eN
          have e6 : w1 1 1 = nI N := by rw [← tkn r]; exact e5
          rw [f_X4_opens_L, f_X5_opens_L, e5, e6, if_pos (by rw [pI_le (by omega) (by omega)]; omega), if_pos (by rw [pI_le (by omega) (by omega)]; omega)]
          exact Q_i r
        | succ d ih =>
          intro i f x v1 w1 hi hf sx sm
          obtain ⟨f, rfl⟩ : ∃ q, f = q + 1 := ⟨f - 1, by omega⟩
          have r := R_fr h sx sm
          have e5 : v1 1 5 = nI N := by rw [sx.1 1 (by omega)]; exact eN
          have e6 : w1 1 1 = nI N := by rw [← tkn r]; exact e5
          obtain ⟨v2, e1, g1⟩ := x_view (h := 1) (i := i) (by omega) r.ok (by rw [e5, tn (by omega)]; omega)
          obtain ⟨w2, e2, g2⟩ := m_viewOf (i := i) r.ok' (by rw [e6, tn (by omega)]; omega)
          have r2 := R_fr r (G_SX g1) (FM_SM g2)
          have r3 := R_off r2 hj
          have x5 : (jx_up v2 4 j (-1)) 1 5 = nI N := by rw [jx_up_ne (by omega), g1 1 (by omega)]; exact e5
          have x6 : (jx_up w2 1 (11 + 4 * j) (-1)) 1 1 = nI N := by rw [← tkn r3]; exact x5
          obtain ⟨v3, e3, g3⟩ := x_view (h := 1) (i := i) (by omega) r3.ok (by rw [x5, tn (by omega)]; omega)
          obtain ⟨w3, e4, g4'⟩ := m_viewOf (i := i) r3.ok' (by rw [x6, tn (by omega)]; omega)
          rw [r.t] at e1
          rw [r3.t] at e3
          rw [f_X4_opens_L, f_X5_opens_L, e5, e6, if_neg (by rw [pI_le (by omega) (by omega)]; omega), if_neg (by rw [pI_le (by omega) (by omega)]; omega)]
          simp only [e1, e2, Option.bind_some, x_off hj, Nat.reduceAdd, e3, f_X5_at, at0, tn (show 11 + 4 * j < 2147483648 by omega), ib (show 11 + 4 * j < 181 by omega) (by omega), if_false, e4, tn (show j < 2147483648 by omega), ib hj (by omega), nI_add1, Int32.or_zero]
          have k4 : v2 4 j = v 4 j := by rw [g1 4 (by omega), sx.1 4 (by omega)]
          have k1 : w2 1 (11 + 4 * j) = w 1 (11 + 4 * j) := by rw [FM_1 g2, sm.1 1 (by omega)]
          have sx3 : SX v (jx_up v3 4 j (v 4 j)) := by
            have := SX_bk (v := v2) (c := 4) (j := j) (by omega) (G_SX g3)
            rw [k4] at this
            exact SX_t sx (SX_t (G_SX g1) this)
          have sm3 : SM w (jx_up w3 1 (11 + 4 * j) (w 1 (11 + 4 * j))) := by
            have := SM_bk (w := w2) (j := 11 + 4 * j) (FM_SM g4')
            rw [k1] at this
            exact SM_t sm (SM_t (FM_SM g2) this)
          split
          · exact ih (i+1) f _ _ _ (by omega) (by omega) sx3 sm3
          · exact ih (i+1) f _ _ _ (by omega) (by omega) sx3 sm3
      simp only [if_neg ht, o10, z00, if_true, if_false, tn (show j < 2147483648 by omega), ib hj (by omega)]
      rw [m_its0 hj, Option.bind_some]
      dsimp only
      subst hG4 hG5
      rw [← ev]
      have l := L N 0 100000 0 v w (by omega) (by omega) SX_r SM_r
      rw [← ev] at l
      exact l
  · simp only [if_neg c2, z00, if_true, (m_lotWrong (w := w)).1 c2, Option.bind_some, b10, if_false, m_f0]; exact Q_f h
