theorem R_back {v w v' w1 w2 w'} (h : R v w) (a : SX v v') (p : CP 1 3 181 w w1) (y : FY w1 w2) (b : CP 3 1 181 w2 w') : R v' w' := by
  obtain ⟨M, hM, eM, eM2⟩ := mn h.ok'
  have e : mT (w' 1) = mT (w 1) := mT_eq (fun k hk => by rw [b.2 k hk, y.1 3 (by omega) (by omega) (by omega) (by omega), p.2 k hk]) (by omega)
  have c' : ∀ c, c ≠ 0 → c ≠ 1 → c ≠ 3 → c ≠ 5 → c ≠ 6 → w' c = w c := fun c h0 h1 h3 h5 h6 => by rw [b.1 c h1, y.1 c h0 h1 h5 h6, p.1 c h3]
  have c0 : ∀ i, i ≠ 6 → i ≠ 7 → i ≠ 8 → w' 0 i = w 0 i := fun i h6 h7 h8 => by rw [b.1 0 (by omega), y.2 i h6 h7 h8, p.1 0 (by omega)]
  exact R_town h (T := cT 1 v) (fun c hc => a.1 c (by omega)) a.2 (fun c hc => c' c (by omega) (by omega) (by omega) (by omega) (by omega)) (c0 4 (by omega) (by omega) (by omega)) (c0 12 (by omega) (by omega) (by omega)) (SX_c (by omega) a) (by rw [e, h.t]) h.ok
theorem BF_SX {v v'} (b : BF 33 v v') : SX v v' := ⟨fun c hc => b c (by omega), by rw [b 53 (by omega)]⟩
theorem HF_SX {v v'} (b : HF 33 v v') : SX v v' := ⟨fun c hc => b c (by omega) (by omega), by rw [b 53 (by omega) (by omega)]⟩
theorem CP_1 {w w1} (p : CP 1 3 181 w w1) : w1 1 = w 1 := p.1 1 (by omega)
theorem q_ahead {v w a b} (h : R v w) : Q (f_X4_ahead a b v) (f_X5_ahead a b w) := by
  unfold f_X4_ahead f_X5_ahead f_X5_isTooLate
  simp only [x_w121, x_w7, m_in_0_120, m_in_0_6, Option.bind_some, x_f0, m_f0, x_f4, m_f4]
  by_cases c1 : 0 ≤ a ∧ a ≤ 120
  · obtain ⟨n, hn, rfl⟩ := ix (n := 120) rfl (by omega) c1
    by_cases c2 : 0 ≤ b ∧ b ≤ 6
    · simp only [if_pos c1, if_pos c2, o10, if_false, tkm h]
      by_cases c3 : w 1 0 + nI n ≤ 999
      · obtain ⟨N, hN, eN, eN2⟩ := cn h.ok
        obtain ⟨v1, e1, b1, t1⟩ := x_become (v := v) (h0 := 33) (h1 := 1) (Or.inr (by omega)) (by omega)
        have ok1 : OK (cT 33 v1) := by rw [t1]; exact h.ok
        obtain ⟨v2, e2, g2, t2⟩ := x_pass (h := 33) (n := n) (by omega) (by omega) ok1
        rw [t1] at e2 t2
        obtain ⟨w1, d1, p1⟩ := m_puts (w := w)
        obtain ⟨w2, d2, y2, s2⟩ := m_pass (w := w1) (n := n) (by omega) (by rw [CP_1 p1]; exact h.ok')
        rw [CP_1 p1, ← h.t] at d2 s2
        have sx := SX_t (BF_SX b1) (HF_SX g2)
        simp only [if_pos c3, z00, if_true, Option.bind_some, e1, e2, d1, d2]
        obtain ⟨q, hq, rfl⟩ := ix (n := 6) rfl (by omega) c2
        have fin : ∀ r v3 w3, G v2 v3 → FM w2 w3 → Q (some (r, v3)) ((f_X5_putsBack w3).bind (fun v18 => some (r, v18))) := by
          intro r v3 w3 g3 f3
          obtain ⟨w4, d4, p4⟩ := m_back (w := w3)
          rw [d4]
          simp only [Option.bind_some]
          exact Q_i (R_back h (SX_t sx (G_SX g3)) p1 (FY_t y2 (FM_FY f3)) p4)
        have gr : G v2 v2 := fun _ _ => rfl
        have okm : OK (mit (cT 1 v) n) := OK_mit h.ok n
        have up : ∀ o, o < 4 → v2 47 o = w2 1 (7 + o) := fun o ho => by
          have x1 : (cT 33 v2).U o = v2 47 o := if_pos ho
          have x2 : (mT (w2 1)).U o = w2 1 (7 + o) := if_pos ho
          rw [← x1, ← x2, t2, s2]
        rcases c7 hq with rfl | rfl | rfl | rfl | rfl | rfl | rfl
        · rw [if_pos (by decide), if_pos (by decide)]; exact fin _ _ _ gr FM_r
        · rw [if_neg (by decide), if_pos (by decide), if_neg (by decide), if_pos (by decide)]
          obtain ⟨v3, e3, g3⟩ := x_bset (h := 33) (v := v2) (by omega) (by rw [t2]; exact okm)
          obtain ⟨w3, d3, f3⟩ := m_bset (w := w2) (by rw [s2]; exact okm)
          rw [t2] at e3
          rw [s2] at d3
          simp only [e3, d3, Option.bind_some]
          exact fin _ _ _ g3 f3
        · rw [if_neg (by decide), if_neg (by decide), if_pos (by decide), if_neg (by decide), if_neg (by decide), if_pos (by decide)]
          obtain ⟨v3, e3, g3⟩ := x_alls (h := 33) (v := v2) (by omega) (by rw [t2]; exact okm)
          obtain ⟨w3, d3, f3⟩ := m_alls (w := w2) (by rw [s2]; exact okm)
          rw [t2] at e3
          rw [s2] at d3
          simp only [e3, d3, Option.bind_some]
          exact fin _ _ _ g3 f3
        · rw [if_neg (by decide), if_neg (by decide), if_neg (by decide), if_neg (by decide), if_neg (by decide), if_neg (by decide), if_neg (by decide), if_neg (by decide)]
          rw [show Int32.toNatClampNeg (nI 3 - 3) = 0 from rfl, show Int32.toNatClampNeg (7 + nI 3 - 3) = 7 + 0 from rfl, up 0 (by omega)]; exact fin _ _ _ gr FM_r
        · rw [if_neg (by decide), if_neg (by decide), if_neg (by decide), if_neg (by decide), if_neg (by decide), if_neg (by decide), if_neg (by decide), if_neg (by decide)]
          rw [show Int32.toNatClampNeg (nI 4 - 3) = 1 from rfl, show Int32.toNatClampNeg (7 + nI 4 - 3) = 7 + 1 from rfl, up 1 (by omega)]; exact fin _ _ _ gr FM_r
        · rw [if_neg (by decide), if_neg (by decide), if_neg (by decide), if_neg (by decide), if_neg (by decide), if_neg (by decide), if_neg (by decide), if_neg (by decide)]
          rw [show Int32.toNatClampNeg (nI 5 - 3) = 2 from rfl, show Int32.toNatClampNeg (7 + nI 5 - 3) = 7 + 2 from rfl, up 2 (by omega)]; exact fin _ _ _ gr FM_r
        · rw [if_neg (by decide), if_neg (by decide), if_neg (by decide), if_neg (by decide), if_neg (by decide), if_neg (by decide), if_neg (by decide), if_neg (by decide)]
          rw [show Int32.toNatClampNeg (nI 6 - 3) = 3 from rfl, show Int32.toNatClampNeg (7 + nI 6 - 3) = 7 + 3 from rfl, up 3 (by omega)]; exact fin _ _ _ gr FM_r
      · simp only [if_neg c3, o10, if_false, Option.bind_some]; exact Q_f h
    · simp only [if_pos c1, if_neg c2, o10, z00, if_true, if_false]; exact Q_f h
  · simp only [if_neg c1, z00, if_true]; exact Q_f h
theorem br_co {T i} : br (co T) i = br T i := by unfold br; rw [shr_co]; rfl
theorem co_grow {T} : co (grow T) = grow (co T) := rfl
theorem co_paid {T} : co (paid T) = co T := rfl
theorem co_git {T} : ∀ k, co (mit T k) = co (git T k)
  | 0 => rfl
  | k + 1 => by
    show co (grow (paid (mit T k))) = co (grow (git T k))
    rw [co_grow, co_paid, co_git k, ← co_grow]
theorem br_mg {T i k} : br (mit T k) i = br (git T k) i := by rw [← br_co, co_git, br_co]
theorem nw_git {T} : ∀ k, (git T k).n = T.n
  | 0 => rfl
  | k + 1 => nw_git k
theorem nw_mit {T} : ∀ k, (mit T k).n = T.n
  | 0 => rfl
  | k + 1 => nw_mit k
theorem K_git {T} : ∀ k, (git T k).K = T.K
  | 0 => rfl
  | k + 1 => K_git k
/-- both searches for the month of the breach -/
theorem try_L {v w : jx_V} {T : Tn} {i : Nat} {w0 : jx_V} (hT : OK T) (hi : i < nw T) :
    ∀ d k f v1 w1, k + d = 121 → d < f → HF 33 v v1 → cT 33 v1 = git T k → FY w w1 → mT (w1 1) = mit T k →
    (∃ v' w2 w', f_X4_tryUntilBroken_L f (nI i) (nI k) v1 = some (-1, v') ∧ f_X5_breaks_L f (nI i) (nI k) w1 = some (nI 121, w') ∧ HF 33 v v' ∧ FY w w2 ∧ CP 3 1 181 w2 w') ∨
    (∃ n v' w2 w', n ≤ 120 ∧ f_X4_tryUntilBroken_L f (nI i) (nI k) v1 = some (nI n, v') ∧ f_X5_breaks_L f (nI i) (nI k) w1 = some (nI n, w') ∧ HF 33 v v' ∧ cT 33 v' = git T n ∧ FY w w2 ∧ CP 3 1 181 w2 w') := by
  intro d
  induction d with
  | zero =>
    intro k f v1 w1 hk hf g1 t1 y1 s1
    obtain ⟨f, rfl⟩ : ∃ q, f = q + 1 := ⟨f - 1, by omega⟩
    obtain ⟨w', d4, p4⟩ := m_back (w := w1)
    left
    refine ⟨v1, w1, w', ?_, ?_, g1, y1, p4⟩
    · rw [f_X4_tryUntilBroken_L, if_pos (by rw [show (120 : Int32) = nI 120 from rfl, pI_lt (by omega) (by omega)]; omega)]
    · rw [f_X5_breaks_L, if_pos (by rw [show (121 : Int32) = nI 121 from rfl, pI_le (by omega) (by omega)]; omega), d4, show k = 121 by omega]; rfl
  | succ d ih =>
    intro k f v1 w1 hk hf g1 t1 y1 s1
    obtain ⟨f, rfl⟩ : ∃ q, f = q + 1 := ⟨f - 1, by omega⟩
    have ek : (cT 33 v1).n = T.n := by rw [t1, nw_git]
    have em : (mT (w1 1)).n = T.n := by rw [s1, nw_mit]
    obtain ⟨v2, e2, g2⟩ := x_broken (h := 33) (i := i) (v := v1) (by omega) (by rw [t1]; exact OK_git hT k) (by have : v1 33 5 = T.n := ek; rw [this]; exact hi)
    obtain ⟨w2, d2, f2⟩ := m_broken (i := i) (w := w1) (by rw [s1]; exact OK_mit hT k) (by have : w1 1 1 = T.n := em; rw [this]; exact hi)
    rw [t1] at e2
    rw [s1, br_mg] at d2
    rw [f_X4_tryUntilBroken_L, if_neg (by rw [show (120 : Int32) = nI 120 from rfl, pI_lt (by omega) (by omega)]; omega), e2, f_X5_breaks_L, if_neg (show ¬ (121 : Int32) ≤ nI k by rw [show (121 : Int32) = nI 121 from rfl, pI_le (by omega) (by omega)]; omega), d2]
    simp only [Option.bind_some]
    have t2 : cT 33 v2 = git T k := by rw [Gc (by omega) g2, t1]
    have s2 : mT (w2 1) = mit T k := by rw [FM_1 f2, s1]
    cases c : br (git T k) i
    · simp only [Bool.false_eq_true, if_false, if_true, z00]
      obtain ⟨v3, e3, g3, t3⟩ := x_grow (h := 33) (v := v2)
      obtain ⟨w3, d3, y3, s3⟩ := m_month (w := w2) (by rw [s2]; exact OK_mit hT k)
      simp only [e3, d3, Option.bind_some, nI_add1]
      exact ih (k+1) f v3 w3 (by omega) (by omega) (HF_t g1 (HF_t (G_HF g2) (grow_HF g3))) (by rw [t3, t2]; rfl) (FY_t y1 (FY_t (FM_FY f2) y3)) (by rw [s3, s2]; rfl)
    · obtain ⟨w', d4, p4⟩ := m_back (w := w2)
      right
      refine ⟨k, v2, w2, w', by omega, ?_, ?_, HF_t g1 (G_HF g2), t2, FY_t y1 (FM_FY f2), p4⟩
      · simp only [if_true, o10, if_false]
      · simp only [if_true, o10, if_false, d4, Option.bind_some]
theorem try_q {v w : jx_V} {i : Nat} (h : R v w) (hi : i < (v 1 5).toNatClampNeg) :
    (∃ v' w', f_X4_tryUntilBroken (nI i) v = some (-1, v') ∧ f_X5_breaks (nI i) w = some (nI 121, w') ∧ R v' w') ∨
    (∃ n v' w', n ≤ 120 ∧ f_X4_tryUntilBroken (nI i) v = some (nI n, v') ∧ f_X5_breaks (nI i) w = some (nI n, w') ∧ R v' w' ∧ cT 33 v' = git (cT 1 v) n ∧ cT 1 v' = cT 1 v) := by
  obtain ⟨N, hN, eN, eN2⟩ := cn h.ok
  obtain ⟨v1, e1, b1, t1⟩ := x_become (v := v) (h0 := 33) (h1 := 1) (Or.inr (by omega)) (by omega)
  obtain ⟨w1, d1, p1⟩ := m_puts (w := w)
  unfold f_X4_tryUntilBroken f_X5_breaks
  rw [e1, d1, Option.bind_some, Option.bind_some]
  have L := try_L (v := v1) (w := w1) (T := cT 1 v) (w0 := w) (i := i) h.ok (by rw [nwc]; exact hi) 121 0 100000 v1 w1 (by omega) (by omega) HF_r t1 FY_r (by rw [CP_1 p1, ← h.t]; rfl)
  rcases L with ⟨v', w2, w', x1, x2, x3, x4, x5⟩ | ⟨n, v', w2, w', hn, x1, x2, x3, xt, x4, x5⟩
  · exact Or.inl ⟨v', w', x1, x2, R_back h (SX_t (BF_SX b1) (HF_SX x3)) p1 x4 x5⟩
  · have sx := SX_t (BF_SX b1) (HF_SX x3)
    exact Or.inr ⟨n, v', w', hn, x1, x2, R_back h sx p1 x4 x5, xt, SX_c (by omega) sx⟩
theorem m_late {v w i} (h : R v w) (hi : i < 10) (hi2 : i < (w 1 1).toNatClampNeg) : f_X5_isLate (nI i) w = some (if v 12 i < 0 ∨ ¬ (v 1 6 + 120 ≤ 999) then 1 else 0, w) := by
  unfold f_X5_isLate f_X5_isTooLate
  have e : w 1 (111 + 6 * i + 4) = v 12 i := (tkW (a := 4) h (by omega) hi2).symm
  simp only [m_told4 hi, Option.bind_some, e, tkm h]
  by_cases c : v 12 i < 0
  · simp [c]
  · by_cases c2 : w 1 0 + 120 ≤ 999
    · simp [c, c2]
    · simp [c, c2]
theorem q_breach {v w a} (h : R v w) : Q (f_X4_breach a v) (f_X5_breach a w) := by
  unfold f_X4_breach f_X5_breach
  simp only [x_isWindow, m_isW h, Option.bind_some, x_f0, m_f0, x_f4, m_f4]
  by_cases c1 : 0 ≤ a ∧ a < v 1 5
  · obtain ⟨i, hi, hi1, hi2, rfl⟩ := wx h c1
    simp only [if_pos c1, o10, if_false, tn (show i < 2147483648 by omega), ib hi (by omega), m_late h hi hi2, Option.bind_some]
    by_cases c2 : v 12 i < 0
    · rw [if_pos c2, if_pos (Or.inl c2), if_neg (by decide)]; exact Q_f h
    · rw [if_neg c2]
      by_cases c3 : v 1 6 + 120 ≤ 999
      · rw [if_pos c3, if_neg (show ¬ (v 12 i < 0 ∨ ¬ (v 1 6 + 120 ≤ 999)) by simp [c2, c3]), if_pos rfl]
        rcases try_q h hi1 with ⟨v', w', e1, e2, r⟩ | ⟨n, v', w', hn, e1, e2, r, _, _⟩
        · simp only [e1, e2, Option.bind_some, x_f3, m_f3]
          rw [if_neg (by decide), if_neg (by decide)]; exact Q_f r
        · simp only [e1, e2, Option.bind_some]
          rw [if_pos (pI_pos (by omega)), if_pos (by rw [show (120 : Int32) = nI 120 from rfl, pI_le (by omega) (by omega)]; omega)]
          exact Q_i r
      · rw [if_neg c3, if_pos (Or.inr c3), if_neg (by decide)]; exact Q_f h
  · simp only [if_neg c1, z00, if_true]; exact Q_f h
