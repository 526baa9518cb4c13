def lmt (a : Nat) : Nat := if a = 2 then 10 else 4
theorem R_sx {v w : jx_V} {a j t : Nat} (h : R v w) (ha : a = 2 ∨ a = 3) (hj : j < 25) (hk : 0 ≤ w 1 (11 + 4 * j)) (ht : t < lmt a) : R (jx_up v (4 + a) j (nI t)) (jx_up w 1 (11 + 4 * j + a) (nI t)) := by
  have hv : 0 ≤ v (1 + 3) j := by show 0 ≤ v 4 j; rw [tk h hj]; exact hk
  rcases ha with rfl | rfl
  · rw [show 11 + 4 * j + 2 = 13 + 4 * j by omega]
    exact R_up h (by omega) (T := sH (cT 1 v) j (nI t)) (c_sH (h := 1) hj hv) (by rw [m_sH hj hk, h.t]) (OK_sH h.ok ⟨t, ht, rfl⟩)
  · rw [show 11 + 4 * j + 3 = 14 + 4 * j by omega]
    exact R_up h (by omega) (T := sP (cT 1 v) j (nI t)) (c_sP (h := 1) hj hv) (by rw [m_sP hj hk, h.t]) (OK_sP h.ok ⟨t, ht, rfl⟩)
theorem best_L {v w : jx_V} {a j o : Nat} (h : R v w) (ha : a = 2 ∨ a = 3) (hj : j < 25) (hk : 0 ≤ w 1 (11 + 4 * j)) (ho : o < 4) (eo : w 1 (12 + 4 * j) = nI o) :
    ∀ d t f x b b' m v1 w1, t + d = lmt a → d < f → (t = 0 → b' = -1) → (0 < t → b' = b ∧ 0 ≤ b) → SX (jx_up v (4 + a) j x) v1 → SM (jx_up w 1 (11 + 4 * j + a) x) w1 →
    Q (f_X4_bestFor_L f (nI j) (nI a) (nI o) (v (4 + a) j) (nI (lmt a)) b m (nI t) v1) (f_X5_bestPart_L f (nI j) (nI a) (nI (lmt a - 1)) (w 1 (11 + 4 * j + a)) b' m (nI t) w1) := by
  have hlm : 4 ≤ lmt a ∧ lmt a ≤ 10 := by unfold lmt; split <;> omega
  have ha4 : a < 4 := by omega
  intro d
  induction d with
  | zero =>
    intro t f x b b' m v1 w1 ht hf hb0 hb1 sx sm
    obtain ⟨f, rfl⟩ : ∃ q, f = q + 1 := ⟨f - 1, by omega⟩
    rw [f_X4_bestFor_L, f_X5_bestPart_L, if_pos (show nI (lmt a) ≤ nI t by rw [pI_le (by omega) (by omega)]; omega), if_pos (show nI (lmt a - 1) < nI t by rw [pI_lt (by omega) (by omega)]; omega)]
    simp only [tn (show j < 2147483648 by omega), ib hj (by omega), tn (show a < 2147483648 by omega), ib ha4 (by omega), if_false, f_X5_at, at_n, Option.bind_some, tn (show 11 + 4 * j + a < 2147483648 by omega), ib (show 11 + 4 * j + a < 181 by omega) (by omega), Nat.reduceAdd]
    rw [(hb1 (by omega)).1]
    exact Q_i (R_fr h (SX_bk (by omega) sx) (SM_bk sm))
  | succ d ih =>
    intro t f x b b' m v1 w1 ht hf hb0 hb1 sx sm
    obtain ⟨f, rfl⟩ : ∃ q, f = q + 1 := ⟨f - 1, by omega⟩
    have r := R_fr (R_sx h ha hj hk (show t < lmt a by omega)) (SX_u2 (by omega) sx) (SM_u2 sm)
    obtain ⟨v2, e1, g1, hg⟩ := x_gains (h := 1) (r := 65) (by omega) (by omega) r.ok
    obtain ⟨w2, e2, g2, _⟩ := m_gainOf r.ok' ho
    have hg' := hg o ho
    rw [r.t] at e1 hg'
    have e12 : (jx_up w1 1 (11 + 4 * j + a) (nI t)) 1 (12 + 4 * j) = nI o := by
      rw [up_g, if_neg (by omega), sm.1 1 (by omega), up_g, if_neg (by omega), eo]
    rw [f_X4_bestFor_L, f_X5_bestPart_L, if_neg (show ¬ nI (lmt a) ≤ nI t by rw [pI_le (by omega) (by omega)]; omega), if_neg (show ¬ nI (lmt a - 1) < nI t by rw [pI_lt (by omega) (by omega)]; omega)]
    simp only [tn (show j < 2147483648 by omega), ib hj (by omega), tn (show a < 2147483648 by omega), ib ha4 (by omega), if_false, f_X5_at, at_n, Option.bind_some, tn (show 11 + 4 * j + a < 2147483648 by omega), ib (show 11 + 4 * j + a < 181 by omega) (by omega), Nat.reduceAdd, m_its1 hj, e12, e1, e2, tn (show o < 2147483648 by omega), ib ho (by omega), nI_add1, hg']
    have sx2 := SX_t (SX_u2 (y := nI t) (by omega) sx) (GR_SX (by omega) g1)
    have sm2 := SM_t (SM_u2 (y := nI t) sm) (FM_SM g2)
    by_cases t0 : t = 0
    · subst t0
      rw [hb0 rfl, if_pos nz, if_pos (show (-1 : Int32) < 0 by decide)]
      exact ih 1 f (nI 0) _ _ _ v2 w2 (by omega) (by omega) (by omega) (fun _ => ⟨rfl, by decide⟩) sx2 sm2
    · obtain ⟨e, hb⟩ := hb1 (by omega)
      rw [e, if_neg (show ¬ nI t = 0 by rw [← nz, pI_eq (by omega) (by omega)]; exact t0), if_neg (Int32.not_lt.mpr hb)]
      split
      · exact ih (t+1) f (nI t) _ _ _ v2 w2 (by omega) (by omega) (by omega) (fun _ => ⟨rfl, hb⟩) sx2 sm2
      · exact ih (t+1) f (nI t) _ _ _ v2 w2 (by omega) (by omega) (by omega) (fun _ => ⟨rfl, pI_pos (by omega)⟩) sx2 sm2
theorem best_q {v w : jx_V} {a j : Nat} (h : R v w) (ha : a = 2 ∨ a = 3) (hj : j < 25) (hk : 0 ≤ w 1 (11 + 4 * j)) : Q (f_X4_bestFor (nI j) (nI a) v) (f_X5_bestPart (nI j) (nI a) (nI (lmt a - 1)) w) := by
  obtain ⟨o, ho, eo⟩ := h.ok'.o j
  rw [mO hj hk] at eo
  have ev : v (4 + a) j = w 1 (11 + 4 * j + a) := by
    rcases ha with rfl | rfl
    · rw [show 11 + 4 * j + 2 = 13 + 4 * j by omega]; exact tkH h hj hk
    · rw [show 11 + 4 * j + 3 = 14 + 4 * j by omega]; exact tkP h hj hk
  have L := best_L h ha hj hk ho eo (lmt a) 0 100000 (v (4 + a) j) 0 (-1) 0 v w (by omega) (by unfold lmt; split <;> omega) (fun _ => rfl) (by omega) SX_id (by rw [ev]; exact SM_id)
  have e4 : f_X4_bestFor (nI j) (nI a) v = f_X4_bestFor_L 100000 (nI j) (nI a) (nI o) (v (4 + a) j) (nI (lmt a)) 0 0 (nI 0) v := by
    unfold f_X4_bestFor
    generalize f_X4_bestFor_L 100000 = g4
    have tl : f_X4_thingLimit (nI a) v = some (nI (lmt a), v) := by
      rcases ha with rfl | rfl <;> rfl
    rw [tl, Option.bind_some]
    simp only [tn (show j < 2147483648 by omega), ib hj (by omega), tn (show a < 2147483648 by omega), ib (show a < 4 by omega) (by omega), if_false, Nat.reduceAdd, tkO h hj hk, eo]
    rfl
  have e5 : f_X5_bestPart (nI j) (nI a) (nI (lmt a - 1)) w = f_X5_bestPart_L 100000 (nI j) (nI a) (nI (lmt a - 1)) (w 1 (11 + 4 * j + a)) (-1) 0 (nI 0) w := by
    unfold f_X5_bestPart
    generalize f_X5_bestPart_L 100000 = g5
    rw [m_its hj (by omega), Option.bind_some]
    dsimp only
    rw [nz]
  rw [e4, e5]
  exact L
theorem q_paint {v w a} (h : R v w) : Q (f_X4_paint a v) (f_X5_paint a w) := by
  unfold f_X4_paint f_X5_paint
  simp only [x_w25, Option.bind_some, x_f0]
  by_cases c2 : 0 ≤ a ∧ a ≤ 24
  · obtain ⟨j, hj, rfl⟩ := ix (n := 24) rfl (by omega) c2
    simp only [if_pos c2, o10, if_false, x_taken hj, (m_lotWrong (x := 0) (w := w)).2 j hj, Option.bind_some, Nat.reduceAdd, tk h hj]
    by_cases ht : w 1 (11 + 4 * j) < 0
    · simp only [if_pos ht, z00, if_true, b40, if_false, x_f3, m_f3, Option.bind_some]; exact Q_f h
    · simp only [if_neg ht, o10, z00, if_true, if_false]
      exact Q_b (best_q (a := 3) h (Or.inr rfl) hj (Int32.not_lt.mp ht))
  · simp only [if_neg c2, z00, if_true, (m_lotWrong (w := w)).1 c2, Option.bind_some, b10, if_false, m_f0]; exact Q_f h
theorem q_height {v w a} (h : R v w) : Q (f_X4_height a v) (f_X5_height a w) := by
  unfold f_X4_height f_X5_height
  simp only [x_w25, Option.bind_some, x_f0]
  by_cases c2 : 0 ≤ a ∧ a ≤ 24
  · obtain ⟨j, hj, rfl⟩ := ix (n := 24) rfl (by omega) c2
    simp only [if_pos c2, o10, if_false, x_taken hj, (m_lotWrong (x := 0) (w := w)).2 j hj, Option.bind_some, Nat.reduceAdd, tk h hj]
    by_cases ht : w 1 (11 + 4 * j) < 0
    · simp only [if_pos ht, z00, if_true, b40, if_false, x_f3, m_f3, Option.bind_some]; exact Q_f h
    · simp only [if_neg ht, o10, z00, if_true, if_false]
      exact Q_b (best_q (a := 2) h (Or.inl rfl) hj (Int32.not_lt.mp ht))
  · simp only [if_neg c2, z00, if_true, (m_lotWrong (w := w)).1 c2, Option.bind_some, b10, if_false, m_f0]; exact Q_f h
theorem q_storey {v w a b} (h : R v w) : Q (f_X4_storey a b v) (f_X5_storey a b w) := by
  unfold f_X4_storey f_X5_storey
  simp only [x_w25, x_w4, m_isOwner, Option.bind_some, x_f0, m_f0]
  by_cases c1 : 0 ≤ b ∧ b ≤ 3
  · obtain ⟨o, ho, rfl⟩ := ix (n := 3) rfl (by omega) c1
    by_cases c2 : 0 ≤ a ∧ a ≤ 24
    · obtain ⟨j, hj, rfl⟩ := ix (n := 24) rfl (by omega) c2
      simp only [if_pos c1, if_pos c2, o10, if_false, x_taken hj, (m_lotWrong (x := 0) (w := w)).2 j hj, Option.bind_some, Nat.reduceAdd, tk h hj]
      by_cases ht : w 1 (11 + 4 * j) < 0
      · simp only [if_pos ht, z00, if_true, b40, if_false, x_f3, m_f3, Option.bind_some]; exact Q_f h
      · have ht' : 0 ≤ w 1 (11 + 4 * j) := Int32.not_lt.mp ht
        obtain ⟨x, hx, ex⟩ := h.ok'.h j
        rw [mH hj ht'] at ex
        simp only [if_neg ht, o10, z00, if_true, if_false, tn (show j < 2147483648 by omega), ib hj (by omega), tn (show o < 2147483648 by omega), ib ho (by omega), tkH h hj ht', m_its2 hj, f_X5_at, at2, Option.bind_some, tn (show 13 + 4 * j < 2147483648 by omega), ib (show 13 + 4 * j < 181 by omega) (by omega), ex, x_f4, m_f4]
        by_cases c9 : x = 9
        · subst c9
          rw [if_neg (by decide), if_pos (by decide)]; exact Q_f h
        · rw [if_pos (by rw [show (9 : Int32) = nI 9 from rfl, pI_lt (by omega) (by omega)]; omega), if_neg (by rw [show (9 : Int32) = nI 9 from rfl, pI_eq (by omega) (by omega)]; omega)]
          obtain ⟨v1, e1, g1, hg1⟩ := x_gains (h := 1) (r := 64) (by omega) (by omega) h.ok
          obtain ⟨w1, d1, f1, _⟩ := m_gainOf h.ok' ho
          have r1 := R_fr h (GR_SX (by omega) g1) (FM_SM f1)
          have k1 : w1 1 = w 1 := FM_1 f1
          have hv1 : v1 6 j = nI x := by rw [g1 6 (by omega) (by omega), tkH h hj ht', ex]
          have hw1 : w1 1 (13 + 4 * j) = nI x := by rw [k1, ex]
          simp only [e1, d1, Option.bind_some, hv1, hw1, nI_add1]
          have r2 := R_sx (a := 2) (t := x + 1) r1 (Or.inl rfl) hj (by rw [k1]; exact ht') (by show x + 1 < 10; omega)
          rw [show 11 + 4 * j + 2 = 13 + 4 * j by omega] at r2
          obtain ⟨v2, e2, g2, hg2⟩ := x_gains (h := 1) (r := 65) (by omega) (by omega) r2.ok
          obtain ⟨w2, d2, f2, _⟩ := m_gainOf r2.ok' ho
          rw [show (4 + 2 : Nat) = 6 from rfl] at e2 g2 hg2
          simp only [e2, d2, Option.bind_some]
          have hv2 : v2 6 j = nI (x+1) := by rw [g2 6 (by omega) (by omega), up_s]
          have hw2 : w2 1 (13 + 4 * j) = nI (x+1) := by rw [FM_1 f2, up_s]
          have em : nI (x+1) - 1 = nI x := by rw [← nI_add1]; grind
          rw [hv2, hw2, em, jx_up_ne (show 65 ≠ 6 by omega), jx_up_ne (show 64 ≠ 6 by omega), hg2 o ho, g2 64 (by omega) (by omega), jx_up_ne (show 64 ≠ 6 by omega), hg1 o ho, show cT 1 (jx_up v1 6 j (nI (x+1))) = _ from r2.t, h.t]
          have sx := SX_bk (v := v1) (c := 6) (j := j) (by omega) (GR_SX (by omega) g2)
          have sm := SM_bk (w := w1) (j := 13 + 4 * j) (FM_SM f2)
          rw [hv1] at sx
          rw [hw1] at sm
          exact Q_i (R_fr r1 sx sm)
    · simp only [if_pos c1, if_neg c2, o10, z00, if_true, if_false, (m_lotWrong (w := w)).1 c2, Option.bind_some, b10, m_f0]; exact Q_f h
  · by_cases c2 : 0 ≤ a ∧ a ≤ 24
    · simp only [if_neg c1, if_pos c2, o10, z00, if_true, if_false, b10]; exact Q_f h
    · simp only [if_neg c1, if_neg c2, o10, z00, if_true, if_false, b10]; exact Q_f h
