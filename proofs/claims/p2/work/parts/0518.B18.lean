theorem upd_upd {f : Nat → Int32} {j x y} : upd (upd f j x) j y = upd f j y := by
  funext k; unfold upd; by_cases e : k = j
  · rw [if_pos e, if_pos e]
  · rw [if_neg e, if_neg e, if_neg e]
theorem SX_u2 {v v1 c j x y} (hc : c < 33) (h : SX (jx_up v c j x) v1) : SX (jx_up v c j y) (jx_up v1 c j y) := by
  refine ⟨fun q hq => ?_, ?_⟩
  · by_cases e : q = c
    · subst e; rw [up_c, up_c, h.1 q hq, up_c, upd_upd]
    · rw [jx_up_ne e, jx_up_ne e, h.1 q hq, jx_up_ne e]
  · rw [jx_up_ne (by omega), jx_up_ne (by omega), h.2, jx_up_ne (by omega)]
theorem SM_u2 {w w1 k x y} (h : SM (jx_up w 1 k x) w1) : SM (jx_up w 1 k y) (jx_up w1 1 k y) := by
  refine ⟨fun q hq => ?_, ?_, ?_⟩
  · by_cases e : q = 1
    · subst e; rw [up_c, up_c, h.1 1 hq, up_c, upd_upd]
    · rw [jx_up_ne e, jx_up_ne e, h.1 q hq, jx_up_ne e]
  · rw [jx_up_ne (by omega), jx_up_ne (by omega), h.2.1, jx_up_ne (by omega)]
  · rw [jx_up_ne (by omega), jx_up_ne (by omega), h.2.2, jx_up_ne (by omega)]
theorem up_id {v : jx_V} {c j : Nat} : jx_up v c j (v c j) = v := by
  funext q k; rw [up_g]; by_cases e : q = c ∧ k = j
  · rw [if_pos e, e.1, e.2]
  · rw [if_neg e]
theorem SX_id {v : jx_V} {c j : Nat} : SX (jx_up v c j (v c j)) v := by rw [up_id]; exact SX_r
theorem SM_id {v : jx_V} {j : Nat} : SM (jx_up v 1 j (v 1 j)) v := by rw [up_id]; exact SM_r
theorem SX_bk {v v1 : jx_V} {c j : Nat} {x : Int32} (hc : c < 33) (h : SX (jx_up v c j x) v1) : SX v (jx_up v1 c j (v c j)) := by
  have := SX_u2 (y := v c j) hc h
  rw [up_id] at this; exact this
theorem SM_bk {w w1 : jx_V} {j : Nat} {x : Int32} (h : SM (jx_up w 1 j x) w1) : SM w (jx_up w1 1 j (w 1 j)) := by
  have := SM_u2 (y := w 1 j) h
  rw [up_id] at this; exact this
theorem and1 (y : Int32) : y &&& 1 = 0 ∨ y &&& 1 = 1 := by
  have e : (y &&& 1).toBitVec = y.toBitVec &&& 1#32 := rfl
  rw [BitVec.and_one_eq_setWidth_ofBool_getLsbD] at e
  cases c : y.toBitVec.getLsbD 0
  · left; rw [c] at e; exact Int32.toBitVec_inj.mp e
  · right; rw [c] at e; exact Int32.toBitVec_inj.mp e
theorem shl0 (x : Int32) : (0 : Int32) <<< x = 0 := by simp
theorem q_watched {v w a} (h : R v w) : Q (f_X4_watched a v) (f_X5_watched a w) := by
  obtain ⟨N, hN, eN, eN2⟩ := cn h.ok
  have L : ∀ d i f x v1 w1, i + d = N → d < f → SX v v1 → SM w w1 → Q (f_X4_watched_L f a x (nI i) v1) (f_X5_watched_L f a x (nI i) w1) := by
    intro d
    induction d with
    | zero =>
      intro i f x v1 w1 hi hf sx sm
      obtain ⟨f, rfl⟩ : ∃ q, f = q + 1 := ⟨f - 1, by omega⟩
      have r := R_fr h sx sm
      have e5 : v1 1 5 = nI N := by rw [sx.1 1 (by omega)]; exact eN
      have e6 : w1 1 1 = nI N := by rw [← tkn r]; exact e5
      rw [f_X4_watched_L, f_X5_watched_L, e5, e6, if_pos (by rw [pI_le (by omega) (by omega)]; omega), if_pos (by rw [pI_le (by omega) (by omega)]; omega)]
      exact Q_i r
    | succ d ih =>
      intro i f x v1 w1 hi hf sx sm
      obtain ⟨f, rfl⟩ : ∃ q, f = q + 1 := ⟨f - 1, by omega⟩
      have r := R_fr h sx sm
      have e5 : v1 1 5 = nI N := by rw [sx.1 1 (by omega)]; exact eN
      have e6 : w1 1 1 = nI N := by rw [← tkn r]; exact e5
      obtain ⟨v2, e1, g1⟩ := x_lots (h := 1) (i := i) (by omega) r.ok (by rw [e5, tn (by omega)]; omega)
      obtain ⟨w2, e2, g2, _, _, _, _, h8⟩ := m_looks (i := i) r.ok' (by rw [e6, tn (by omega)]; omega)
      rw [f_X4_watched_L, f_X5_watched_L, e5, e6, if_neg (by rw [pI_le (by omega) (by omega)]; omega), if_neg (by rw [pI_le (by omega) (by omega)]; omega)]
      simp only [e1, e2, Option.bind_some, h8, nI_add1]
      rw [r.t]
      have sx2 := SX_t sx (G_SX g1)
      have sm2 := SM_t sm (FM_SM g2)
      rcases and1 (lsT (mT (w1 1)) i >>> (a &&& 31)) with c | c
      · rw [c, if_neg (by decide), shl0, Int32.or_zero]
        exact ih (i+1) f x v2 w2 (by omega) (by omega) sx2 sm2
      · rw [c, if_pos rfl]
        exact ih (i+1) f _ v2 w2 (by omega) (by omega) sx2 sm2
  unfold f_X4_watched f_X5_watched
  generalize hF : (100000 : Nat) = F
  simp only [x_w25, m_isLot, Option.bind_some, x_f0, m_f0]
  by_cases c2 : 0 ≤ a ∧ a ≤ 24
  · simp only [if_pos c2, o10, if_false]
    exact L N 0 F 0 v w (by omega) (by omega) SX_r SM_r
  · simp only [if_neg c2, z00, if_true]; exact Q_f h
theorem m_viewOf {i : Nat} {w : jx_V} (hT : OK (mT (w 1))) (hi : i < (w 1 1).toNatClampNeg) : ∃ w', f_X5_viewOf (nI i) w = some (al (mT (w 1)) i, w') ∧ FM w w' := by
  obtain ⟨w', e, g, _, _, h6, _⟩ := m_looks hT hi
  refine ⟨w', ?_, g⟩
  unfold f_X5_viewOf
  rw [e]; simp only [Option.bind_some, h6]
theorem q_level {v w a} (h : R v w) : Q (f_X4_level a v) (f_X5_level a w) := by
  obtain ⟨N, hN, eN, eN2⟩ := cn h.ok
  unfold f_X4_level f_X5_level
  generalize hG5 : f_X5_level_L 100000 = g5
  generalize hG4 : f_X4_level_L 100000 = g4
  simp only [x_isWindow, m_isW h, Option.bind_some, x_f0, m_f0]
  by_cases c1 : 0 ≤ a ∧ a < v 1 5
  · obtain ⟨i, hi, hi1, hi2, rfl⟩ := wx h c1
    have ev : v 9 i = w 1 (111 + 6 * i + 1) := tkW (a := 1) h (by omega) hi2
    simp only [if_pos c1, o10, if_false, tn (show i < 2147483648 by omega), ib hi (by omega)]
    rw [m_told1 hi, Option.bind_some]
    dsimp only
    have L : ∀ d t f x b m v1 w1, t + d = 10 → d < f → SX (jx_up v 9 i x) v1 → SM (jx_up w 1 (111 + 6 * i + 1) x) w1 → Q (f_X4_level_L f (nI i) (v 9 i) b m (nI t) v1) (f_X5_level_L f (nI i) (w 1 (111 + 6 * i + 1)) b m (nI t) w1) := by
      intro d
      induction d with
      | zero =>
        intro t f x b m v1 w1 ht hf sx sm
        obtain ⟨f, rfl⟩ : ∃ q, f = q + 1 := ⟨f - 1, by omega⟩
        rw [f_X4_level_L, f_X5_level_L, if_pos (show (10 : Int32) ≤ nI t by rw [show (10 : Int32) = nI 10 from rfl, pI_le (by omega) (by omega)]; omega), if_pos (show (10 : Int32) ≤ nI t by rw [show (10 : Int32) = nI 10 from rfl, pI_le (by omega) (by omega)]; omega)]
        simp only [tn (show i < 2147483648 by omega), ib hi (by omega), if_false, f_X5_where, wh1, Option.bind_some, tn (show 111 + 6 * i + 1 < 2147483648 by omega), ib (show 111 + 6 * i + 1 < 181 by omega) (by omega)]
        exact Q_i (R_fr h (SX_bk (by omega) sx) (SM_bk sm))
      | succ d ih =>
        intro t f x b m v1 w1 ht hf sx sm
        obtain ⟨f, rfl⟩ : ∃ q, f = q + 1 := ⟨f - 1, by omega⟩
        have rt : R (jx_up v 9 i (nI t)) (jx_up w 1 (111 + 6 * i + 1) (nI t)) := R_W h (a := 1) (by omega) hi2 (OK_sW h.ok (by omega) (fun _ => ⟨t, by omega, rfl⟩) (by omega) (by omega) (by omega))
        have r := R_fr rt (SX_u2 (by omega) sx) (SM_u2 sm)
        have e5 : (jx_up v1 9 i (nI t)) 1 5 = nI N := by rw [jx_up_ne (by omega), sx.1 1 (by omega), jx_up_ne (by omega)]; exact eN
        have e6 : (jx_up w1 1 (111 + 6 * i + 1) (nI t)) 1 1 = nI N := by rw [← tkn r]; exact e5
        obtain ⟨v2, e1, g1⟩ := x_view (h := 1) (i := i) (by omega) r.ok (by rw [e5, tn (by omega)]; omega)
        obtain ⟨w2, e2, g2⟩ := m_viewOf (i := i) r.ok' (by rw [e6, tn (by omega)]; omega)
        rw [r.t] at e1
        rw [f_X4_level_L, f_X5_level_L, if_neg (show ¬ (10 : Int32) ≤ nI t by rw [show (10 : Int32) = nI 10 from rfl, pI_le (by omega) (by omega)]; omega), if_neg (show ¬ (10 : Int32) ≤ nI t by rw [show (10 : Int32) = nI 10 from rfl, pI_le (by omega) (by omega)]; omega)]
        simp only [tn (show i < 2147483648 by omega), ib hi (by omega), if_false, f_X5_where, wh1, Option.bind_some, tn (show 111 + 6 * i + 1 < 2147483648 by omega), ib (show 111 + 6 * i + 1 < 181 by omega) (by omega), e1, e2, nI_add1]
        have sx2 := SX_t (SX_u2 (by omega) sx) (G_SX g1)
        have sm2 := SM_t (SM_u2 sm) (FM_SM g2)
        split
        · exact ih (t+1) f (nI t) _ _ v2 w2 (by omega) (by omega) sx2 sm2
        · exact ih (t+1) f (nI t) _ _ v2 w2 (by omega) (by omega) sx2 sm2
    subst hG5 hG4
    exact L 10 0 100000 (v 9 i) 0 (-1) v w (by omega) (by omega) SX_id (by rw [ev]; exact SM_id)
  · simp only [if_neg c1, z00, if_true]; exact Q_f h
theorem q_cheapest {v w a} (h : R v w) : Q (f_X4_cheapest a v) (f_X5_cheapest a w) := by
  obtain ⟨N, hN, eN, eN2⟩ := cn h.ok
  unfold f_X4_cheapest f_X5_cheapest
  generalize hG5 : f_X5_cheapest_L 100000 = g5
  generalize hG4 : f_X4_cheapest_L 100000 = g4
  simp only [x_isWindow, m_isW h, Option.bind_some, x_f0, m_f0]
  by_cases c1 : 0 ≤ a ∧ a < v 1 5
  · obtain ⟨i, hi, hi1, hi2, rfl⟩ := wx h c1
    have ev : v 10 i = w 1 (111 + 6 * i + 2) := tkW (a := 2) h (by omega) hi2
    simp only [if_pos c1, o10, if_false, tn (show i < 2147483648 by omega), ib hi (by omega)]
    rw [m_told2 hi, Option.bind_some]
    dsimp only
    have L : ∀ d t f x b b' m v1 w1, t + d = 4 → d < f → (t = 0 → b' = -1) → (0 < t → b' = b ∧ 0 ≤ b) → SX (jx_up v 10 i x) v1 → SM (jx_up w 1 (111 + 6 * i + 2) x) w1 → Q (f_X4_cheapest_L f (nI i) (v 10 i) b m (nI t) v1) (f_X5_cheapest_L f (nI i) (w 1 (111 + 6 * i + 2)) b' m (nI t) w1) := by
      intro d
      induction d with
      | zero =>
        intro t f x b b' m v1 w1 ht hf hb0 hb1 sx sm
        obtain ⟨f, rfl⟩ : ∃ q, f = q + 1 := ⟨f - 1, by omega⟩
        rw [f_X4_cheapest_L, f_X5_cheapest_L, if_pos (show (4 : Int32) ≤ nI t by rw [← n4, pI_le (by omega) (by omega)]; omega), if_pos (show (4 : Int32) ≤ nI t by rw [← n4, pI_le (by omega) (by omega)]; omega)]
        simp only [tn (show i < 2147483648 by omega), ib hi (by omega), if_false, f_X5_where, wh2, Option.bind_some, tn (show 111 + 6 * i + 2 < 2147483648 by omega), ib (show 111 + 6 * i + 2 < 181 by omega) (by omega)]
        rw [(hb1 (by omega)).1]
        exact Q_i (R_fr h (SX_bk (by omega) sx) (SM_bk sm))
      | succ d ih =>
        intro t f x b b' m v1 w1 ht hf hb0 hb1 sx sm
        obtain ⟨f, rfl⟩ : ∃ q, f = q + 1 := ⟨f - 1, by omega⟩
        have rt : R (jx_up v 10 i (nI t)) (jx_up w 1 (111 + 6 * i + 2) (nI t)) := R_W h (a := 2) (by omega) hi2 (OK_sW h.ok (by omega) (by omega) (fun _ => ⟨t, by omega, rfl⟩) (by omega) (by omega))
        have r := R_fr rt (SX_u2 (by omega) sx) (SM_u2 sm)
        have e5 : (jx_up v1 10 i (nI t)) 1 5 = nI N := by rw [jx_up_ne (by omega), sx.1 1 (by omega), jx_up_ne (by omega)]; exact eN
        have e6 : (jx_up w1 1 (111 + 6 * i + 2) (nI t)) 1 1 = nI N := by rw [← tkn r]; exact e5
        obtain ⟨v2, e1, g1, _⟩ := x_pay (h := 1) (i := i) (r := 66) (by omega) (Or.inr (by omega)) r.ok (by rw [e5, tn (by omega)]; omega)
        obtain ⟨w2, e2, g2, _, _, _, h7, _⟩ := m_looks (i := i) r.ok' (by rw [e6, tn (by omega)]; omega)
        rw [r.t] at e1
        rw [f_X4_cheapest_L, f_X5_cheapest_L, if_neg (show ¬ (4 : Int32) ≤ nI t by rw [← n4, pI_le (by omega) (by omega)]; omega), if_neg (show ¬ (4 : Int32) ≤ nI t by rw [← n4, pI_le (by omega) (by omega)]; omega)]
        simp only [tn (show i < 2147483648 by omega), ib hi (by omega), if_false, f_X5_where, wh2, Option.bind_some, tn (show 111 + 6 * i + 2 < 2147483648 by omega), ib (show 111 + 6 * i + 2 < 181 by omega) (by omega), e1, e2, nI_add1, h7]
        have sx2 := SX_t (SX_u2 (by omega) sx) (GR_SX (by omega) g1)
        have sm2 := SM_t (SM_u2 sm) (FM_SM g2)
        by_cases t0 : t = 0
        · subst t0
          rw [hb0 rfl, if_pos nz, if_pos (show (-1 : Int32) < 0 by decide)]
          exact ih 1 f (nI 0) _ _ _ v2 w2 (by omega) (by omega) (by omega) (fun _ => ⟨rfl, by decide⟩) sx2 sm2
        · obtain ⟨e, hb⟩ := hb1 (by omega)
          rw [e, if_neg (show ¬ nI t = 0 by rw [← nz, pI_eq (by omega) (by omega)]; exact t0), if_neg (Int32.not_lt.mpr hb)]
          split
          · exact ih (t+1) f (nI t) _ _ _ v2 w2 (by omega) (by omega) (by omega) (fun _ => ⟨rfl, hb⟩) sx2 sm2
          · exact ih (t+1) f (nI t) _ _ _ v2 w2 (by omega) (by omega) (by omega) (fun _ => ⟨rfl, pI_pos (by omega)⟩) sx2 sm2
    subst hG5 hG4
    exact L 4 0 100000 (v 10 i) 0 (-1) 0 v w (by omega) (by omega) (fun _ => rfl) (by omega) SX_id (by rw [ev]; exact SM_id)
  · simp only [if_neg c1, z00, if_true]; exact Q_f h
theorem q_worst {v w a} (h : R v w) : Q (f_X4_worst a v) (f_X5_worst a w) := by
  unfold f_X4_worst f_X5_worst f_X5_isTooLate
  generalize hG5 : f_X5_worst_L 100000 = g5
  generalize hG4 : f_X4_worst_L 100000 = g4
  simp only [x_w4, m_isOwner, Option.bind_some, x_f0, m_f0, x_f4, m_f4]
  by_cases c1 : 0 ≤ a ∧ a ≤ 3
  · obtain ⟨o, ho, rfl⟩ := ix (n := 3) rfl (by omega) c1
    have em : v 1 6 = w 1 0 := tkm h
    simp only [if_pos c1, o10, if_false]
    rw [show v 1 6 + 12 - 1 = w 1 0 + 11 by rw [em]; grind]
    by_cases c2 : w 1 0 + 11 ≤ 999
    · rw [if_pos c2, if_pos c2]
      simp only [Option.bind_some, z00, if_true]
      have rt : ∀ x, R (jx_up v 1 6 x) (jx_up w 1 0 x) := fun x => R_up h (by omega) (T := sm (cT 1 v) x) (c_sm (h := 1) (j := 0)) (by rw [m_sm (j := 0), h.t]) (OK_sm h.ok)
      have L : ∀ d t f f' x b m v1 w1, t + d = 12 → 1 ≤ t → d < f → d < f' → SX (jx_up v 1 6 x) v1 → SM (jx_up w 1 0 x) w1 → Q (f_X4_worst_L f (nI o) (v 1 6) b m (nI t) v1) (f_X5_worst_L f' (nI o) (w 1 0) b m (nI t) w1) := by
        intro d
        induction d with
        | zero =>
          intro t f f' x b m v1 w1 ht ht1 hf hf' sx sm
          obtain ⟨f, rfl⟩ : ∃ q, f = q + 1 := ⟨f - 1, by omega⟩
          obtain ⟨f', rfl⟩ : ∃ q, f' = q + 1 := ⟨f' - 1, by omega⟩
          rw [f_X4_worst_L, f_X5_worst_L, if_pos (show (12 : Int32) ≤ nI t by rw [show (12 : Int32) = nI 12 from rfl, pI_le (by omega) (by omega)]; omega), if_pos (show (12 : Int32) ≤ nI t by rw [show (12 : Int32) = nI 12 from rfl, pI_le (by omega) (by omega)]; omega)]
          exact Q_i (R_fr h (SX_bk (by omega) sx) (SM_bk sm))
        | succ d ih =>
          intro t f f' x b m v1 w1 ht ht1 hf hf' sx sm
          obtain ⟨f, rfl⟩ : ∃ q, f = q + 1 := ⟨f - 1, by omega⟩
          obtain ⟨f', rfl⟩ : ∃ q, f' = q + 1 := ⟨f' - 1, by omega⟩
          have r := R_fr (rt (v 1 6 + nI t)) (SX_u2 (by omega) sx) (SM_u2 sm)
          obtain ⟨v2, e1, g1, hg⟩ := x_gains (h := 1) (r := 65) (by omega) (by omega) r.ok
          obtain ⟨w2, e2, g2, _⟩ := m_gainOf r.ok' ho
          have hg' := hg o ho
          rw [r.t] at e1 hg'
          rw [f_X4_worst_L, f_X5_worst_L, if_neg (show ¬ (12 : Int32) ≤ nI t by rw [show (12 : Int32) = nI 12 from rfl, pI_le (by omega) (by omega)]; omega), if_neg (show ¬ (12 : Int32) ≤ nI t by rw [show (12 : Int32) = nI 12 from rfl, pI_le (by omega) (by omega)]; omega)]
          rw [em] at e1 e2 hg' g1 g2 ⊢
          simp only [e1, e2, Option.bind_some, tn (show o < 2147483648 by omega), ib ho (by omega), if_false, nI_add1, hg']
          rw [if_neg (show ¬ nI t = 0 by rw [← nz, pI_eq (by omega) (by omega)]; omega)]
          have sx2 := SX_t (SX_u2 (y := w 1 0 + nI t) (by omega) sx) (GR_SX (by omega) g1)
          have sm2 := SM_t (SM_u2 (y := w 1 0 + nI t) sm) (FM_SM g2)
          rw [em] at ih
          split
          · exact ih (t+1) f f' (w 1 0 + nI t) _ _ v2 w2 (by omega) (by omega) (by omega) (by omega) sx2 sm2
          · exact ih (t+1) f f' (w 1 0 + nI t) _ _ v2 w2 (by omega) (by omega) (by omega) (by omega) sx2 sm2
      obtain ⟨v2, e1, g1, hg⟩ := x_gains (h := 1) (r := 65) (by omega) (by omega) (rt (v 1 6 + 0)).ok
      obtain ⟨w2, e2, g2, _⟩ := m_gainOf h.ok' ho
      have hg' := hg o ho
      have e0 : jx_up v 1 6 (v 1 6 + 0) = v := by rw [Int32.add_zero, up_id]
      rw [e0] at e1 hg' g1
      rw [h.t] at e1 hg'
      rw [e2, Option.bind_some]
      dsimp only
      have l := L 11 1 99999 100000 (v 1 6) 0 (gs (mT (w 1)) o) v2 w2 (by omega) (by omega) (by omega) (by omega) (by rw [up_id]; exact GR_SX (by omega) g1) (by rw [em, up_id]; exact FM_SM g2)
      have l4 : f_X4_worst_L 100000 (nI o) (v 1 6) 0 0 0 v = f_X4_worst_L 99999 (nI o) (v 1 6) 0 (gs (mT (w 1)) o) (nI 1) v2 := by
        show f_X4_worst_L (99999+1) (nI o) (v 1 6) 0 0 0 v = _
        rw [f_X4_worst_L, if_neg (show ¬ (12 : Int32) ≤ 0 by decide), e0, e1, Option.bind_some]
        simp only [tn (show o < 2147483648 by omega), ib ho (by omega), if_false, hg', if_true, Int32.zero_add]
        rfl
      subst hG5 hG4
      rw [l4]
      exact l
    · rw [if_neg c2, if_neg c2]
      simp only [Option.bind_some, o10, if_false]; exact Q_f h
  · simp only [if_neg c1, z00, if_true]; exact Q_f h
