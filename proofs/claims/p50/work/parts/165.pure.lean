theorem R_back {v w v' w1 w2 w'} (h : R v w) (a : SX v v') (p : CP 1 3 181 w w1) (y : FY w1 w2) (b : CP 3 1 181 w2 w') : R v' w' := by
  obtain ⟨M, hM, eM, eM2⟩ := mn h.ok'
  have e : mT (w' 1) = mT (w 1) := mT_eq (fun k hk => by rw [b.2 k hk, y.1 3 (by omega) (by omega) (by omega) (by omega), p.2 k hk]) (by omega)
  have c' : ∀ c, c ≠ 0 → c ≠ 1 → c ≠ 3 → c ≠ 5 → c ≠ 6 → w' c = w c := fun c h0 h1 h3 h5 h6 => by rw [b.1 c h1, y.1 c h0 h1 h5 h6, p.1 c h3]
  have c0 : ∀ i, i ≠ 6 → i ≠ 7 → i ≠ 8 → w' 0 i = w 0 i := fun i h6 h7 h8 => by rw [b.1 0 (by omega), y.2 i h6 h7 h8, p.1 0 (by omega)]
  exact R_town h (T := cT 1 v) (fun c hc => a.1 c (by omega)) a.2 (fun c hc => c' c (by omega) (by omega) (by omega) (by omega) (by omega)) (c0 4 (by omega) (by omega) (by omega)) (c0 12 (by omega) (by omega) (by omega)) (SX_c (by omega) a) (by rw [e, h.t]) h.ok
theorem BF_SX {v v'} (b : BF 33 v v') : SX v v' := ⟨fun c hc => b c (by omega), by rw [b 53 (by omega)]⟩
theorem HF_SX {v v'} (b : HF 33 v v') : SX v v' := ⟨fun c hc => b c (by omega) (by omega), by rw [b 53 (by omega) (by omega)]⟩
theorem CP_1 {w w1} (p : CP 1 3 181 w w1) : w1 1 = w 1 := p.1 1 (by omega)
theorem q_ahead {v w a b} (h : R v w) : Q (f_X4_ahead a b v) (f_X5_ahead a b w) := by
  unfold f_X4_ahead f_X5_ahead f_X5_isTooLate
  simp only [x_w121, x_w7, m_in_0_120, m_in_0_6, Option.bind_some, x_f0, m_f0, x_f4, m_f4]
  by_cases c1 : 0 ≤ a ∧ a ≤ 120
  · obtain ⟨n, hn, rfl⟩ := ix (n := 120) rfl (by omega) c1
    by_cases c2 : 0 ≤ b ∧ b ≤ 6
    · simp only [if_pos c1, if_pos c2, o10, if_false, tkm h]
      by_cases c3 : w 1 0 + nI n ≤ 999
      · obtain ⟨N, hN, eN, eN2⟩ := cn h.ok
        obtain ⟨v1, e1, b1, t1⟩ := x_become (v := v) (h0 := 33) (h1 := 1) (Or.inr (by omega)) (by omega)
        have ok1 : OK (cT 33 v1) := by rw [t1]; exact h.ok
        obtain ⟨v2, e2, g2, t2⟩ := x_pass (h := 33) (n := n) (by omega) (by omega) ok1
        rw [t1] at e2 t2
        obtain ⟨w1, d1, p1⟩ := m_puts (w := w)
        obtain ⟨w2, d2, y2, s2⟩ := m_pass (w := w1) (n := n) (by omega) (by rw [CP_1 p1]; exact h.ok')
        rw [CP_1 p1, ← h.t] at d2 s2
        have sx := SX_t (BF_SX b1) (HF_SX g2)
        simp only [if_pos c3, z00, if_true, Option.bind_some, e1, e2, d1, d2]
        obtain ⟨q, hq, rfl⟩ := ix (n := 6) rfl (by omega) c2
        have fin : ∀ r v3 w3, G v2 v3 → FM w2 w3 → Q (some (r, v3)) ((f_X5_putsBack w3).bind (fun v18 => some (r, v18))) := by
          intro r v3 w3 g3 f3
          obtain ⟨w4, d4, p4⟩ := m_back (w := w3)
          rw [d4]
          simp only [Option.bind_some]
          exact Q_i (R_back h (SX_t sx (G_SX g3)) p1 (FY_t y2 (FM_FY f3)) p4)
        have gr : G v2 v2 := fun _ _ => rfl
        have okm : OK (mit (cT 1 v) n) := OK_mit h.ok n
        have up : ∀ o, o < 4 → v2 47 o = w2 1 (7 + o) := fun o ho => by
          have x1 : (cT 33 v2).U o = v2 47 o := if_pos ho
          have x2 : (mT (w2 1)).U o = w2 1 (7 + o) := if_pos ho
          rw [← x1, ← x2, t2, s2]
        rcases c7 hq with rfl | rfl | rfl | rfl | rfl | rfl | rfl
        · rw [if_pos (by decide), if_pos (by decide)]; exact fin _ _ _ gr FM_r
        · rw [if_neg (by decide), if_pos (by decide), if_neg (by decide), if_pos (by decide)]
          obtain ⟨v3, e3, g3⟩ := x_bset (h := 33) (v := v2) (by omega) (by rw [t2]; exact okm)
          obtain ⟨w3, d3, f3⟩ := m_bset (w := w2) (by rw [s2]; exact okm)
          rw [t2] at e3
          rw [s2] at d3
          simp only [e3, d3, Option.bind_some]
          exact fin _ _ _ g3 f3
        · rw [if_neg (by decide), if_neg (by decide), if_pos (by decide), if_neg (by decide), if_neg (by decide), if_pos (by decide)]
          obtain ⟨v3, e3, g3⟩ := x_alls (h := 33) (v := v2) (by omega) (by rw [t2]; exact okm)
          obtain ⟨w3, d3, f3⟩ := m_alls (w := w2) (by rw [s2]; exact okm)
          rw [t2] at e3
          rw [s2] at d3
          simp only [e3, d3, Option.bind_some]
          exact fin _ _ _ g3 f3
        · rw [if_neg (by decide), if_neg (by decide), if_neg (by decide), if_neg (by decide), if_neg (by decide), if_neg (by decide), if_neg (by decide), if_neg (by decide)]
          rw [show Int32.toNatClampNeg (nI 3 - 3) = 0 from rfl, show Int32.toNatClampNeg (7 + nI 3 - 3) = 7 + 0 from rfl, up 0 (by omega)]; exact fin _ _ _ gr FM_r
        · rw [if_neg (by decide), if_neg (by decide), if_neg (by decide), if_neg (by decide), if_neg (by decide), if_neg (by decide), if_neg (by decide), if_neg (by decide)]
          rw [show Int32.toNatClampNeg (nI 4 - 3) = 1 from rfl, show Int32.toNatClampNeg (7 + nI 4 - 3) = 7 + 1 from rfl, up 1 (by omega)]; exact fin _ _ _ gr FM_r
        · rw [if_neg (by decide), if_neg (by decide), if_neg (by decide), if_neg (by decide), if_neg (by decide), if_neg (by decide), if_neg (by decide), if_neg (by decide)]
          rw [show Int32.toNatClampNeg (nI 5 - 3) = 2 from rfl, show Int32.toNatClampNeg (7 + nI 5 - 3) = 7 + 2 from rfl, up 2 (by omega)]; exact fin _ _ _ gr FM_r
        · rw [if_neg (by decide), if_neg (by decide), if_neg (by decide), if_neg (by decide), if_neg (by decide), if_neg (by decide), if_neg (by decide), if_neg (by decide)]
          rw [show Int32.toNatClampNeg (nI 6 - 3) = 3 from rfl, show Int32.toNatClampNeg (7 + nI 6 - 3) = 7 + 3 from rfl, up 3 (by omega)]; exact fin _ _ _ gr FM_r
      · simp only [if_neg c3, o10, if_false, Option.bind_some]; exact Q_f h
    · simp only [if_pos c1, if_neg c2, o10, z00, if_true, if_false]; exact Q_f h
  · simp only [if_neg c1, z00, if_true]; exact Q_f h
theorem br_co {T i} : br (co T) i = br T i := by unfold br; rw [shr_co]; rfl
theorem co_grow {T} : co (grow T) = grow (co T) := rfl
theorem co_paid {T} : co (paid T) = co T := rfl
theorem co_git {T} : ∀ k, co (mit T k) = co (git T k)
  | 0 => rfl
  | k + 1 => by
    show co (grow (paid (mit T k))) = co (grow (git T k))
    rw [co_grow, co_paid, co_git k, ← co_grow]
theorem br_mg {T i k} : br (mit T k) i = br (git T k) i := by rw [← br_co, co_git, br_co]
theorem nw_git {T} : ∀ k, (git T k).n = T.n
  | 0 => rfl
  | k + 1 => nw_git k
theorem nw_mit {T} : ∀ k, (mit T k).n = T.n
  | 0 => rfl
  | k + 1 => nw_mit k
theorem K_git {T} : ∀ k, (git T k).K = T.K
  | 0 => rfl
  | k + 1 => K_git k
/-- both searches for the month of the breach -/
theorem try_L {v w : jx_V} {T : Tn} {i : Nat} {w0 : jx_V} (hT : OK T) (hi : i < nw T) :
    ∀ d k f v1 w1, k + d = 121 → d < f → HF 33 v v1 → cT 33 v1 = git T k → FY w w1 → mT (w1 1) = mit T k →
    (∃ v' w2 w', f_X4_tryUntilBroken_L f (nI i) (nI k) v1 = some (-1, v') ∧ f_X5_breaks_L f (nI i) (nI k) w1 = some (nI 121, w') ∧ HF 33 v v' ∧ FY w w2 ∧ CP 3 1 181 w2 w') ∨
    (∃ n v' w2 w', n ≤ 120 ∧ f_X4_tryUntilBroken_L f (nI i) (nI k) v1 = some (nI n, v') ∧ f_X5_breaks_L f (nI i) (nI k) w1 = some (nI n, w') ∧ HF 33 v v' ∧ cT 33 v' = git T n ∧ FY w w2 ∧ CP 3 1 181 w2 w') := by
  intro d
  induction d with
  | zero =>
    intro k f v1 w1 hk hf g1 t1 y1 s1
    obtain ⟨f, rfl⟩ : ∃ q, f = q + 1 := ⟨f - 1, by omega⟩
    obtain ⟨w', d4, p4⟩ := m_back (w := w1)
    left
    refine ⟨v1, w1, w', ?_, ?_, g1, y1, p4⟩
    · rw [f_X4_tryUntilBroken_L, if_pos (by rw [show (120 : Int32) = nI 120 from rfl, pI_lt (by omega) (by omega)]; omega)]
    · rw [f_X5_breaks_L, if_pos (by rw [show (121 : Int32) = nI 121 from rfl, pI_le (by omega) (by omega)]; omega), d4, show k = 121 by omega]; rfl
  | succ d ih =>
    intro k f v1 w1 hk hf g1 t1 y1 s1
    obtain ⟨f, rfl⟩ : ∃ q, f = q + 1 := ⟨f - 1, by omega⟩
    have ek : (cT 33 v1).n = T.n := by rw [t1, nw_git]
    have em : (mT (w1 1)).n = T.n := by rw [s1, nw_mit]
    obtain ⟨v2, e2, g2⟩ := x_broken (h := 33) (i := i) (v := v1) (by omega) (by rw [t1]; exact OK_git hT k) (by have : v1 33 5 = T.n := ek; rw [this]; exact hi)
    obtain ⟨w2, d2, f2⟩ := m_broken (i := i) (w := w1) (by rw [s1]; exact OK_mit hT k) (by have : w1 1 1 = T.n := em; rw [this]; exact hi)
    rw [t1] at e2
    rw [s1, br_mg] at d2
    rw [f_X4_tryUntilBroken_L, if_neg (by rw [show (120 : Int32) = nI 120 from rfl, pI_lt (by omega) (by omega)]; omega), e2, f_X5_breaks_L, if_neg (show ¬ (121 : Int32) ≤ nI k by rw [show (121 : Int32) = nI 121 from rfl, pI_le (by omega) (by omega)]; omega), d2]
    simp only [Option.bind_some]
    have t2 : cT 33 v2 = git T k := by rw [Gc (by omega) g2, t1]
    have s2 : mT (w2 1) = mit T k := by rw [FM_1 f2, s1]
    cases c : br (git T k) i
    · simp only [Bool.false_eq_true, if_false, if_true, z00]
      obtain ⟨v3, e3, g3, t3⟩ := x_grow (h := 33) (v := v2)
      obtain ⟨w3, d3, y3, s3⟩ := m_month (w := w2) (by rw [s2]; exact OK_mit hT k)
      simp only [e3, d3, Option.bind_some, nI_add1]
      exact ih (k+1) f v3 w3 (by omega) (by omega) (HF_t g1 (HF_t (G_HF g2) (grow_HF g3))) (by rw [t3, t2]; rfl) (FY_t y1 (FY_t (FM_FY f2) y3)) (by rw [s3, s2]; rfl)
    · obtain ⟨w', d4, p4⟩ := m_back (w := w2)
      right
      refine ⟨k, v2, w2, w', by omega, ?_, ?_, HF_t g1 (G_HF g2), t2, FY_t y1 (FM_FY f2), p4⟩
      · simp only [if_true, o10, if_false]
      · simp only [if_true, o10, if_false, d4, Option.bind_some]
theorem try_q {v w : jx_V} {i : Nat} (h : R v w) (hi : i < (v 1 5).toNatClampNeg) :
    (∃ v' w', f_X4_tryUntilBroken (nI i) v = some (-1, v') ∧ f_X5_breaks (nI i) w = some (nI 121, w') ∧ R v' w') ∨
    (∃ n v' w', n ≤ 120 ∧ f_X4_tryUntilBroken (nI i) v = some (nI n, v') ∧ f_X5_breaks (nI i) w = some (nI n, w') ∧ R v' w' ∧ cT 33 v' = git (cT 1 v) n ∧ cT 1 v' = cT 1 v) := by
  obtain ⟨N, hN, eN, eN2⟩ := cn h.ok
  obtain ⟨v1, e1, b1, t1⟩ := x_become (v := v) (h0 := 33) (h1 := 1) (Or.inr (by omega)) (by omega)
  obtain ⟨w1, d1, p1⟩ := m_puts (w := w)
  unfold f_X4_tryUntilBroken f_X5_breaks
  rw [e1, d1, Option.bind_some, Option.bind_some]
  have L := try_L (v := v1) (w := w1) (T := cT 1 v) (w0 := w) (i := i) h.ok (by rw [nwc]; exact hi) 121 0 100000 v1 w1 (by omega) (by omega) HF_r t1 FY_r (by rw [CP_1 p1, ← h.t]; rfl)
  rcases L with ⟨v', w2, w', x1, x2, x3, x4, x5⟩ | ⟨n, v', w2, w', hn, x1, x2, x3, xt, x4, x5⟩
  · exact Or.inl ⟨v', w', x1, x2, R_back h (SX_t (BF_SX b1) (HF_SX x3)) p1 x4 x5⟩
  · have sx := SX_t (BF_SX b1) (HF_SX x3)
    exact Or.inr ⟨n, v', w', hn, x1, x2, R_back h sx p1 x4 x5, xt, SX_c (by omega) sx⟩
theorem m_late {v w i} (h : R v w) (hi : i < 10) (hi2 : i < (w 1 1).toNatClampNeg) : f_X5_isLate (nI i) w = some (if v 12 i < 0 ∨ ¬ (v 1 6 + 120 ≤ 999) then 1 else 0, w) := by
  unfold f_X5_isLate f_X5_isTooLate
  have e : w 1 (111 + 6 * i + 4) = v 12 i := (tkW (a := 4) h (by omega) hi2).symm
  simp only [m_told4 hi, Option.bind_some, e, tkm h]
  by_cases c : v 12 i < 0
  · simp [c]
  · by_cases c2 : w 1 0 + 120 ≤ 999
    · simp [c, c2]
    · simp [c, c2]
theorem q_breach {v w a} (h : R v w) : Q (f_X4_breach a v) (f_X5_breach a w) := by
  unfold f_X4_breach f_X5_breach
  simp only [x_isWindow, m_isW h, Option.bind_some, x_f0, m_f0, x_f4, m_f4]
  by_cases c1 : 0 ≤ a ∧ a < v 1 5
  · obtain ⟨i, hi, hi1, hi2, rfl⟩ := wx h c1
    simp only [if_pos c1, o10, if_false, tn (show i < 2147483648 by omega), ib hi (by omega), m_late h hi hi2, Option.bind_some]
    by_cases c2 : v 12 i < 0
    · rw [if_pos c2, if_pos (Or.inl c2), if_neg (by decide)]; exact Q_f h
    · rw [if_neg c2]
      by_cases c3 : v 1 6 + 120 ≤ 999
      · rw [if_pos c3, if_neg (show ¬ (v 12 i < 0 ∨ ¬ (v 1 6 + 120 ≤ 999)) by simp [c2, c3]), if_pos rfl]
        rcases try_q h hi1 with ⟨v', w', e1, e2, r⟩ | ⟨n, v', w', hn, e1, e2, r, _, _⟩
        · simp only [e1, e2, Option.bind_some, x_f3, m_f3]
          rw [if_neg (by decide), if_neg (by decide)]; exact Q_f r
        · simp only [e1, e2, Option.bind_some]
          rw [if_pos (pI_pos (by omega)), if_pos (by rw [show (120 : Int32) = nI 120 from rfl, pI_le (by omega) (by omega)]; omega)]
          exact Q_i r
      · rw [if_neg c3, if_pos (Or.inr c3), if_neg (by decide)]; exact Q_f h
  · simp only [if_neg c1, z00, if_true]; exact Q_f h
theorem gr_rem {T l q} (h : q ≠ l) : gr (rem T l) q = gr T q := by
  unfold gr
  rw [show (rem T l).K q = T.K q from if_neg h, show (rem T l).m = T.m from rfl]
theorem grow_rem {T l} : grow (rem T l) = rem (grow T) l := by
  refine Tx rfl rfl ?_ rfl rfl rfl rfl rfl rfl rfl rfl
  funext q
  show (if q < 25 ∧ 0 ≤ (if q = l then -1 else T.K q) then cap ((if q = l then 0 else T.H q) + gr (rem T l) q) else 0) = if q = l then 0 else if q < 25 ∧ 0 ≤ T.K q then cap (T.H q + gr T q) else 0
  by_cases e : q = l
  · subst e; simp
  · simp only [if_neg e]
    rw [gr_rem e]
theorem git_rem {T l} : ∀ n, git (rem T l) n = rem (git T n) l
  | 0 => rfl
  | n + 1 => by rw [git, git_rem n, grow_rem]; rfl
def BI (w w1 : jx_V) : Prop := (∀ k, k < 181 → w1 1 k = w 1 k) ∧ (∀ k, k < 181 → w1 3 k = w 1 k) ∧ (∀ c, c ≠ 0 → c ≠ 1 → c ≠ 3 → c ≠ 5 → c ≠ 6 → w1 c = w c) ∧ ∀ i, i ≠ 6 → i ≠ 7 → i ≠ 8 → w1 0 i = w 0 i
theorem BI_R {v w v' w'} (h : R v w) (a : SX v v') (b : BI w w') : R v' w' := by
  obtain ⟨M, hM, eM, eM2⟩ := mn h.ok'
  have e : mT (w' 1) = mT (w 1) := mT_eq b.1 (by omega)
  exact R_town h (T := cT 1 v) (fun c hc => a.1 c (by omega)) a.2 (fun c hc => b.2.2.1 c (by omega) (by omega) (by omega) (by omega) (by omega)) (b.2.2.2 4 (by omega) (by omega) (by omega)) (b.2.2.2 12 (by omega) (by omega) (by omega)) (SX_c (by omega) a) (by rw [e, h.t]) h.ok
theorem BI_p {w w1} (p : CP 1 3 181 w w1) : BI w w1 := ⟨fun k _ => by rw [p.1 1 (by omega)], p.2, fun c _ _ h3 _ _ => p.1 c h3, fun i _ _ _ => by rw [p.1 0 (by omega)]⟩
theorem BI_b {w w1 w2 w'} (b : BI w w1) (y : FY w1 w2) (p : CP 3 1 181 w2 w') : BI w w' := by
  refine ⟨fun k hk => ?_, fun k hk => ?_, fun c h0 h1 h3 h5 h6 => ?_, fun i h6 h7 h8 => ?_⟩
  · rw [p.2 k hk, y.1 3 (by omega) (by omega) (by omega) (by omega)]; exact b.2.1 k hk
  · rw [p.1 3 (by omega), y.1 3 (by omega) (by omega) (by omega) (by omega)]; exact b.2.1 k hk
  · rw [p.1 c h1, y.1 c h0 h1 h5 h6]; exact b.2.2.1 c h0 h1 h3 h5 h6
  · rw [p.1 0 (by omega), y.2 i h6 h7 h8]; exact b.2.2.2 i h6 h7 h8
theorem x_without {i l : Nat} {v1 : jx_V} {T : Tn} (hT : OK T) (hi : i < nw T) (hl : l < 25) (t1 : cT 33 v1 = T) : ∃ v4, f_X4_isBrokenWithout (nI l) (nI i) v1 = some (if br (rem T l) i then 1 else 0, v4) ∧ G v1 v4 := by
  have e2 : cT 33 (jx_up v1 36 l (-1)) = rem T l := by rw [← t1]; exact c_off (h := 33) hl
  have en : (jx_up v1 36 l (-1)) 33 5 = T.n := by rw [jx_up_ne (by omega), ← t1]; rfl
  obtain ⟨v3, e3, g3⟩ := x_broken (h := 33) (i := i) (v := jx_up v1 36 l (-1)) (by omega) (by rw [e2]; exact OK_rem hT) (by rw [en]; exact hi)
  rw [e2] at e3
  refine ⟨jx_up v3 36 l (v1 36 l), ?_, ?_⟩
  · unfold f_X4_isBrokenWithout
    simp only [tn (show l < 2147483648 by omega), ib hl (by omega), if_false, x_off hl, Option.bind_some, Nat.reduceAdd, e3, bb]
  · intro c hc
    by_cases e : c = 36
    · subst e
      rw [up_c, g3 36 (by omega), up_c]
      funext k
      unfold upd
      by_cases e : k = l
      · rw [if_pos e, e]
      · rw [if_neg e, if_neg e]
    · rw [jx_up_ne e, g3 c hc, jx_up_ne e]
theorem blame_L {v w : jx_V} {i n : Nat} (h : R v w) (hi : i < (v 1 5).toNatClampNeg) (hn : n ≤ 120) : ∀ d l f v1 w1, l + d = 25 → d + 1 < f → SX v v1 → cT 33 v1 = git (cT 1 v) n → BI w w1 →
    Q (f_X4_blame_L f (nI i) (nI l) v1) (f_X5_blame_L f (nI i) (nI n) (-1) (nI l) w1) := by
  obtain ⟨N, hN, eN, eN2⟩ := cn h.ok
  obtain ⟨M, hM, eM, eM2⟩ := mn h.ok'
  intro d
  induction d with
  | zero =>
    intro l f v1 w1 hl hf sx t1 bi
    obtain ⟨f, rfl⟩ : ∃ q, f = q + 1 := ⟨f - 1, by omega⟩
    rw [f_X4_blame_L, if_pos (by rw [show (25 : Int32) = nI 25 from rfl, pI_le (by omega) (by omega)]; omega), f_X5_blame_L, if_pos (show (25 : Int32) ≤ nI l by rw [show (25 : Int32) = nI 25 from rfl, pI_le (by omega) (by omega)]; omega), if_neg (by decide)]
    simp only [x_f3, m_f3, Option.bind_some]
    exact Q_f (BI_R h sx bi)
  | succ d ih =>
    intro l f v1 w1 hl hf sx t1 bi
    obtain ⟨f, rfl⟩ : ∃ q, f = q + 1 := ⟨f - 1, by omega⟩
    have hl' : l < 25 := by omega
    have em : mT (w1 1) = cT 1 v := by rw [h.t]; exact mT_eq bi.1 (by omega)
    have eK : v1 36 l = w1 1 (11 + 4 * l) := by
      have x1 : (cT 33 v1).K l = v1 36 l := cK hl'
      have x2 : (mT (w1 1)).K l = w1 1 (11 + 4 * l) := mK hl'
      rw [← x1, ← x2, t1, em, K_git]
    rw [f_X4_blame_L, if_neg (by rw [show (25 : Int32) = nI 25 from rfl, pI_le (by omega) (by omega)]; omega), f_X5_blame_L, if_neg (show ¬ (25 : Int32) ≤ nI l by rw [show (25 : Int32) = nI 25 from rfl, pI_le (by omega) (by omega)]; omega), if_neg (show ¬ (0 : Int32) ≤ -1 by decide), x_taken hl', m_thing hl']
    simp only [Option.bind_some, Nat.reduceAdd, eK, nI_add1]
    by_cases ht : w1 1 (11 + 4 * l) < 0
    · simp only [if_pos ht, z00, if_true]
      exact ih (l+1) f v1 w1 (by omega) (by omega) sx t1 bi
    · obtain ⟨v4, e4, g4⟩ := x_without (i := i) (l := l) (v1 := v1) (OK_git h.ok n) (by unfold nw; rw [nw_git]; exact hi) hl' t1
      have er : mT ((jx_up w1 1 (11 + 4 * l) (-1)) 1) = rem (cT 1 v) l := by rw [up_c, m_off hl', em]
      obtain ⟨w3, d3, y3, s3⟩ := m_pass (w := jx_up w1 1 (11 + 4 * l) (-1)) (n := n) (by omega) (by rw [er]; exact OK_rem h.ok)
      rw [er] at s3
      obtain ⟨w4, d4, f4⟩ := m_broken (i := i) (w := w3) (by rw [s3]; exact OK_mit (OK_rem h.ok) n) (by
        have : w3 1 1 = (cT 1 v).n := by
          have : (mT (w3 1)).n = (cT 1 v).n := by rw [s3, nw_mit]; rfl
          exact this
        rw [this]; exact hi)
      rw [s3, br_mg, git_rem] at d4
      obtain ⟨w5, d5, p5⟩ := m_back (w := w4)
      have bi5 : BI w w5 := BI_b bi (FY_t up_FY (FY_t y3 (FM_FY f4))) p5
      have sx4 : SX v v4 := SX_t sx (G_SX g4)
      simp only [if_neg ht, o10, if_false, e4, f_X5_at, at0, Option.bind_some, tn (show 11 + 4 * l < 2147483648 by omega), ib (show 11 + 4 * l < 181 by omega) (by omega), d3, d4, d5]
      cases c : br (rem (git (cT 1 v) n) l) i
      · simp only [Bool.false_eq_true, if_false, z00, if_true]
        obtain ⟨f, rfl⟩ : ∃ q, f = q + 1 := ⟨f - 1, by omega⟩
        rw [f_X5_blame_L]
        have r := Q_i (r := nI l) (BI_R h sx4 bi5)
        rw [if_pos (pI_pos (show l < 2147483648 by omega)), if_pos (pI_pos (show l < 2147483648 by omega))]
        split <;> exact r
      · simp only [if_true, o10, if_false]
        exact ih (l+1) f v4 w5 (by omega) (by omega) sx4 (by rw [Gc (by omega) g4, t1]) bi5
theorem q_blame {v w a} (h : R v w) : Q (f_X4_blame a v) (f_X5_blame a w) := by
  unfold f_X4_blame f_X5_blame
  generalize hF : (100000 : Nat) = F
  simp only [x_isWindow, m_isW h, Option.bind_some, x_f0, m_f0, x_f4, m_f4]
  by_cases c1 : 0 ≤ a ∧ a < v 1 5
  · obtain ⟨i, hi, hi1, hi2, rfl⟩ := wx h c1
    simp only [if_pos c1, o10, if_false, tn (show i < 2147483648 by omega), ib hi (by omega), m_late h hi hi2, Option.bind_some]
    by_cases c2 : v 12 i < 0
    · rw [if_pos c2, if_pos (Or.inl c2), if_neg (by decide)]; exact Q_f h
    · rw [if_neg c2]
      by_cases c3 : v 1 6 + 120 ≤ 999
      · rw [if_pos c3, if_neg (show ¬ (v 12 i < 0 ∨ ¬ (v 1 6 + 120 ≤ 999)) by simp [c2, c3]), if_pos rfl]
        rcases try_q h hi1 with ⟨v', w', e1, e2, r⟩ | ⟨n, v', w', hn, e1, e2, r, t1, t2⟩
        · simp only [e1, e2, Option.bind_some, x_f3, m_f3]
          rw [if_neg (by decide), if_neg (by decide)]; exact Q_f r
        · obtain ⟨w2, d2, p2⟩ := m_puts (w := w')
          simp only [e1, e2, Option.bind_some, d2]
          rw [if_pos (pI_pos (by omega)), if_pos (by rw [show (120 : Int32) = nI 120 from rfl, pI_le (by omega) (by omega)]; omega)]
          have e5 : v' 1 5 = v 1 5 := congrArg Tn.n t2
          exact blame_L r (by rw [e5]; exact hi1) hn 25 0 F v' w2 (by omega) (by omega) SX_r (by rw [t1, t2]) (BI_p p2)
      · rw [if_neg c3, if_pos (Or.inr c3), if_neg (by decide)]; exact Q_f h
  · simp only [if_neg c1, z00, if_true]; exact Q_f h
theorem upd_upd {f : Nat → Int32} {j x y} : upd (upd f j x) j y = upd f j y := by
  funext k; unfold upd; by_cases e : k = j
  · rw [if_pos e, if_pos e]
  · rw [if_neg e, if_neg e, if_neg e]
theorem SX_u2 {v v1 c j x y} (hc : c < 33) (h : SX (jx_up v c j x) v1) : SX (jx_up v c j y) (jx_up v1 c j y) := by
  refine ⟨fun q hq => ?_, ?_⟩
  · by_cases e : q = c
    · subst e; rw [up_c, up_c, h.1 q hq, up_c, upd_upd]
    · rw [jx_up_ne e, jx_up_ne e, h.1 q hq, jx_up_ne e]
  · rw [jx_up_ne (by omega), jx_up_ne (by omega), h.2, jx_up_ne (by omega)]
theorem SM_u2 {w w1 k x y} (h : SM (jx_up w 1 k x) w1) : SM (jx_up w 1 k y) (jx_up w1 1 k y) := by
  refine ⟨fun q hq => ?_, ?_, ?_⟩
  · by_cases e : q = 1
    · subst e; rw [up_c, up_c, h.1 1 hq, up_c, upd_upd]
    · rw [jx_up_ne e, jx_up_ne e, h.1 q hq, jx_up_ne e]
  · rw [jx_up_ne (by omega), jx_up_ne (by omega), h.2.1, jx_up_ne (by omega)]
  · rw [jx_up_ne (by omega), jx_up_ne (by omega), h.2.2, jx_up_ne (by omega)]
theorem up_id {v : jx_V} {c j : Nat} : jx_up v c j (v c j) = v := by
  funext q k; rw [up_g]; by_cases e : q = c ∧ k = j
  · rw [if_pos e, e.1, e.2]
  · rw [if_neg e]
theorem SX_id {v : jx_V} {c j : Nat} : SX (jx_up v c j (v c j)) v := by rw [up_id]; exact SX_r
theorem SM_id {v : jx_V} {j : Nat} : SM (jx_up v 1 j (v 1 j)) v := by rw [up_id]; exact SM_r
theorem SX_bk {v v1 : jx_V} {c j : Nat} {x : Int32} (hc : c < 33) (h : SX (jx_up v c j x) v1) : SX v (jx_up v1 c j (v c j)) := by
  have := SX_u2 (y := v c j) hc h
  rw [up_id] at this; exact this
theorem SM_bk {w w1 : jx_V} {j : Nat} {x : Int32} (h : SM (jx_up w 1 j x) w1) : SM w (jx_up w1 1 j (w 1 j)) := by
  have := SM_u2 (y := w 1 j) h
  rw [up_id] at this; exact this
theorem and1 (y : Int32) : y &&& 1 = 0 ∨ y &&& 1 = 1 := by
  have e : (y &&& 1).toBitVec = y.toBitVec &&& 1#32 := rfl
  rw [BitVec.and_one_eq_setWidth_ofBool_getLsbD] at e
  cases c : y.toBitVec.getLsbD 0
  · left; rw [c] at e; exact Int32.toBitVec_inj.mp e
  · right; rw [c] at e; exact Int32.toBitVec_inj.mp e
theorem shl0 (x : Int32) : (0 : Int32) <<< x = 0 := by simp
theorem q_watched {v w a} (h : R v w) : Q (f_X4_watched a v) (f_X5_watched a w) := by
  obtain ⟨N, hN, eN, eN2⟩ := cn h.ok
  have L : ∀ d i f x v1 w1, i + d = N → d < f → SX v v1 → SM w w1 → Q (f_X4_watched_L f a x (nI i) v1) (f_X5_watched_L f a x (nI i) w1) := by
    intro d
    induction d with
    | zero =>
      intro i f x v1 w1 hi hf sx sm
      obtain ⟨f, rfl⟩ : ∃ q, f = q + 1 := ⟨f - 1, by omega⟩
      have r := R_fr h sx sm
      have e5 : v1 1 5 = nI N := by rw [sx.1 1 (by omega)]; exact eN
      have e6 : w1 1 1 = nI N := by rw [← tkn r]; exact e5
      rw [f_X4_watched_L, f_X5_watched_L, e5, e6, if_pos (by rw [pI_le (by omega) (by omega)]; omega), if_pos (by rw [pI_le (by omega) (by omega)]; omega)]
      exact Q_i r
    | succ d ih =>
      intro i f x v1 w1 hi hf sx sm
      obtain ⟨f, rfl⟩ : ∃ q, f = q + 1 := ⟨f - 1, by omega⟩
      have r := R_fr h sx sm
      have e5 : v1 1 5 = nI N := by rw [sx.1 1 (by omega)]; exact eN
      have e6 : w1 1 1 = nI N := by rw [← tkn r]; exact e5
      obtain ⟨v2, e1, g1⟩ := x_lots (h := 1) (i := i) (by omega) r.ok (by rw [e5, tn (by omega)]; omega)
      obtain ⟨w2, e2, g2, _, _, _, _, h8⟩ := m_looks (i := i) r.ok' (by rw [e6, tn (by omega)]; omega)
      rw [f_X4_watched_L, f_X5_watched_L, e5, e6, if_neg (by rw [pI_le (by omega) (by omega)]; omega), if_neg (by rw [pI_le (by omega) (by omega)]; omega)]
      simp only [e1, e2, Option.bind_some, h8, nI_add1]
      rw [r.t]
      have sx2 := SX_t sx (G_SX g1)
      have sm2 := SM_t sm (FM_SM g2)
      rcases and1 (lsT (mT (w1 1)) i >>> (a &&& 31)) with c | c
      · rw [c, if_neg (by decide), shl0, Int32.or_zero]
        exact ih (i+1) f x v2 w2 (by omega) (by omega) sx2 sm2
      · rw [c, if_pos rfl]
        exact ih (i+1) f _ v2 w2 (by omega) (by omega) sx2 sm2
  unfold f_X4_watched f_X5_watched
  generalize hF : (100000 : Nat) = F
  simp only [x_w25, m_isLot, Option.bind_some, x_f0, m_f0]
  by_cases c2 : 0 ≤ a ∧ a ≤ 24
  · simp only [if_pos c2, o10, if_false]
    exact L N 0 F 0 v w (by omega) (by omega) SX_r SM_r
  · simp only [if_neg c2, z00, if_true]; exact Q_f h
theorem m_viewOf {i : Nat} {w : jx_V} (hT : OK (mT (w 1))) (hi : i < (w 1 1).toNatClampNeg) : ∃ w', f_X5_viewOf (nI i) w = some (al (mT (w 1)) i, w') ∧ FM w w' := by
  obtain ⟨w', e, g, _, _, h6, _⟩ := m_looks hT hi
  refine ⟨w', ?_, g⟩
  unfold f_X5_viewOf
  rw [e]; simp only [Option.bind_some, h6]
theorem q_level {v w a} (h : R v w) : Q (f_X4_level a v) (f_X5_level a w) := by
  obtain ⟨N, hN, eN, eN2⟩ := cn h.ok
  unfold f_X4_level f_X5_level
  generalize hG5 : f_X5_level_L 100000 = g5
  generalize hG4 : f_X4_level_L 100000 = g4
  simp only [x_isWindow, m_isW h, Option.bind_some, x_f0, m_f0]
  by_cases c1 : 0 ≤ a ∧ a < v 1 5
  · obtain ⟨i, hi, hi1, hi2, rfl⟩ := wx h c1
    have ev : v 9 i = w 1 (111 + 6 * i + 1) := tkW (a := 1) h (by omega) hi2
    simp only [if_pos c1, o10, if_false, tn (show i < 2147483648 by omega), ib hi (by omega)]
    rw [m_told1 hi, Option.bind_some]
    dsimp only
    have L : ∀ d t f x b m v1 w1, t + d = 10 → d < f → SX (jx_up v 9 i x) v1 → SM (jx_up w 1 (111 + 6 * i + 1) x) w1 → Q (f_X4_level_L f (nI i) (v 9 i) b m (nI t) v1) (f_X5_level_L f (nI i) (w 1 (111 + 6 * i + 1)) b m (nI t) w1) := by
      intro d
      induction d with
      | zero =>
        intro t f x b m v1 w1 ht hf sx sm
        obtain ⟨f, rfl⟩ : ∃ q, f = q + 1 := ⟨f - 1, by omega⟩
        rw [f_X4_level_L, f_X5_level_L, if_pos (show (10 : Int32) ≤ nI t by rw [show (10 : Int32) = nI 10 from rfl, pI_le (by omega) (by omega)]; omega), if_pos (show (10 : Int32) ≤ nI t by rw [show (10 : Int32) = nI 10 from rfl, pI_le (by omega) (by omega)]; omega)]
        simp only [tn (show i < 2147483648 by omega), ib hi (by omega), if_false, f_X5_where, wh1, Option.bind_some, tn (show 111 + 6 * i + 1 < 2147483648 by omega), ib (show 111 + 6 * i + 1 < 181 by omega) (by omega)]
        exact Q_i (R_fr h (SX_bk (by omega) sx) (SM_bk sm))
      | succ d ih =>
        intro t f x b m v1 w1 ht hf sx sm
        obtain ⟨f, rfl⟩ : ∃ q, f = q + 1 := ⟨f - 1, by omega⟩
        have rt : R (jx_up v 9 i (nI t)) (jx_up w 1 (111 + 6 * i + 1) (nI t)) := R_W h (a := 1) (by omega) hi2 (OK_sW h.ok (by omega) (fun _ => ⟨t, by omega, rfl⟩) (by omega) (by omega) (by omega))
        have r := R_fr rt (SX_u2 (by omega) sx) (SM_u2 sm)
        have e5 : (jx_up v1 9 i (nI t)) 1 5 = nI N := by rw [jx_up_ne (by omega), sx.1 1 (by omega), jx_up_ne (by omega)]; exact eN
        have e6 : (jx_up w1 1 (111 + 6 * i + 1) (nI t)) 1 1 = nI N := by rw [← tkn r]; exact e5
        obtain ⟨v2, e1, g1⟩ := x_view (h := 1) (i := i) (by omega) r.ok (by rw [e5, tn (by omega)]; omega)
        obtain ⟨w2, e2, g2⟩ := m_viewOf (i := i) r.ok' (by rw [e6, tn (by omega)]; omega)
        rw [r.t] at e1
        rw [f_X4_level_L, f_X5_level_L, if_neg (show ¬ (10 : Int32) ≤ nI t by rw [show (10 : Int32) = nI 10 from rfl, pI_le (by omega) (by omega)]; omega), if_neg (show ¬ (10 : Int32) ≤ nI t by rw [show (10 : Int32) = nI 10 from rfl, pI_le (by omega) (by omega)]; omega)]
        simp only [tn (show i < 2147483648 by omega), ib hi (by omega), if_false, f_X5_where, wh1, Option.bind_some, tn (show 111 + 6 * i + 1 < 2147483648 by omega), ib (show 111 + 6 * i + 1 < 181 by omega) (by omega), e1, e2, nI_add1]
        have sx2 := SX_t (SX_u2 (by omega) sx) (G_SX g1)
        have sm2 := SM_t (SM_u2 sm) (FM_SM g2)
        split
        · exact ih (t+1) f (nI t) _ _ v2 w2 (by omega) (by omega) sx2 sm2
        · exact ih (t+1) f (nI t) _ _ v2 w2 (by omega) (by omega) sx2 sm2
    subst hG5 hG4
    exact L 10 0 100000 (v 9 i) 0 (-1) v w (by omega) (by omega) SX_id (by rw [ev]; exact SM_id)
  · simp only [if_neg c1, z00, if_true]; exact Q_f h
theorem q_cheapest {v w a} (h : R v w) : Q (f_X4_cheapest a v) (f_X5_cheapest a w) := by
  obtain ⟨N, hN, eN, eN2⟩ := cn h.ok
  unfold f_X4_cheapest f_X5_cheapest
  generalize hG5 : f_X5_cheapest_L 100000 = g5
  generalize hG4 : f_X4_cheapest_L 100000 = g4
  simp only [x_isWindow, m_isW h, Option.bind_some, x_f0, m_f0]
  by_cases c1 : 0 ≤ a ∧ a < v 1 5
  · obtain ⟨i, hi, hi1, hi2, rfl⟩ := wx h c1
    have ev : v 10 i = w 1 (111 + 6 * i + 2) := tkW (a := 2) h (by omega) hi2
    simp only [if_pos c1, o10, if_false, tn (show i < 2147483648 by omega), ib hi (by omega)]
    rw [m_told2 hi, Option.bind_some]
    dsimp only
    have L : ∀ d t f x b b' m v1 w1, t + d = 4 → d < f → (t = 0 → b' = -1) → (0 < t → b' = b ∧ 0 ≤ b) → SX (jx_up v 10 i x) v1 → SM (jx_up w 1 (111 + 6 * i + 2) x) w1 → Q (f_X4_cheapest_L f (nI i) (v 10 i) b m (nI t) v1) (f_X5_cheapest_L f (nI i) (w 1 (111 + 6 * i + 2)) b' m (nI t) w1) := by
      intro d
      induction d with
      | zero =>
        intro t f x b b' m v1 w1 ht hf hb0 hb1 sx sm
        obtain ⟨f, rfl⟩ : ∃ q, f = q + 1 := ⟨f - 1, by omega⟩
        rw [f_X4_cheapest_L, f_X5_cheapest_L, if_pos (show (4 : Int32) ≤ nI t by rw [← n4, pI_le (by omega) (by omega)]; omega), if_pos (show (4 : Int32) ≤ nI t by rw [← n4, pI_le (by omega) (by omega)]; omega)]
        simp only [tn (show i < 2147483648 by omega), ib hi (by omega), if_false, f_X5_where, wh2, Option.bind_some, tn (show 111 + 6 * i + 2 < 2147483648 by omega), ib (show 111 + 6 * i + 2 < 181 by omega) (by omega)]
        rw [(hb1 (by omega)).1]
        exact Q_i (R_fr h (SX_bk (by omega) sx) (SM_bk sm))
      | succ d ih =>
        intro t f x b b' m v1 w1 ht hf hb0 hb1 sx sm
        obtain ⟨f, rfl⟩ : ∃ q, f = q + 1 := ⟨f - 1, by omega⟩
        have rt : R (jx_up v 10 i (nI t)) (jx_up w 1 (111 + 6 * i + 2) (nI t)) := R_W h (a := 2) (by omega) hi2 (OK_sW h.ok (by omega) (by omega) (fun _ => ⟨t, by omega, rfl⟩) (by omega) (by omega))
        have r := R_fr rt (SX_u2 (by omega) sx) (SM_u2 sm)
        have e5 : (jx_up v1 10 i (nI t)) 1 5 = nI N := by rw [jx_up_ne (by omega), sx.1 1 (by omega), jx_up_ne (by omega)]; exact eN
        have e6 : (jx_up w1 1 (111 + 6 * i + 2) (nI t)) 1 1 = nI N := by rw [← tkn r]; exact e5
        obtain ⟨v2, e1, g1, _⟩ := x_pay (h := 1) (i := i) (r := 66) (by omega) (Or.inr (by omega)) r.ok (by rw [e5, tn (by omega)]; omega)
        obtain ⟨w2, e2, g2, _, _, _, h7, _⟩ := m_looks (i := i) r.ok' (by rw [e6, tn (by omega)]; omega)
        rw [r.t] at e1
        rw [f_X4_cheapest_L, f_X5_cheapest_L, if_neg (show ¬ (4 : Int32) ≤ nI t by rw [← n4, pI_le (by omega) (by omega)]; omega), if_neg (show ¬ (4 : Int32) ≤ nI t by rw [← n4, pI_le (by omega) (by omega)]; omega)]
        simp only [tn (show i < 2147483648 by omega), ib hi (by omega), if_false, f_X5_where, wh2, Option.bind_some, tn (show 111 + 6 * i + 2 < 2147483648 by omega), ib (show 111 + 6 * i + 2 < 181 by omega) (by omega), e1, e2, nI_add1, h7]
        have sx2 := SX_t (SX_u2 (by omega) sx) (GR_SX (by omega) g1)
        have sm2 := SM_t (SM_u2 sm) (FM_SM g2)
        by_cases t0 : t = 0
        · subst t0
          rw [hb0 rfl, if_pos nz, if_pos (show (-1 : Int32) < 0 by decide)]
          exact ih 1 f (nI 0) _ _ _ v2 w2 (by omega) (by omega) (by omega) (fun _ => ⟨rfl, by decide⟩) sx2 sm2
        · obtain ⟨e, hb⟩ := hb1 (by omega)
          rw [e, if_neg (show ¬ nI t = 0 by rw [← nz, pI_eq (by omega) (by omega)]; exact t0), if_neg (Int32.not_lt.mpr hb)]
          split
          · exact ih (t+1) f (nI t) _ _ _ v2 w2 (by omega) (by omega) (by omega) (fun _ => ⟨rfl, hb⟩) sx2 sm2
          · exact ih (t+1) f (nI t) _ _ _ v2 w2 (by omega) (by omega) (by omega) (fun _ => ⟨rfl, pI_pos (by omega)⟩) sx2 sm2
    subst hG5 hG4
    exact L 4 0 100000 (v 10 i) 0 (-1) 0 v w (by omega) (by omega) (fun _ => rfl) (by omega) SX_id (by rw [ev]; exact SM_id)
  · simp only [if_neg c1, z00, if_true]; exact Q_f h
theorem q_worst {v w a} (h : R v w) : Q (f_X4_worst a v) (f_X5_worst a w) := by
  unfold f_X4_worst f_X5_worst f_X5_isTooLate
  generalize hG5 : f_X5_worst_L 100000 = g5
  generalize hG4 : f_X4_worst_L 100000 = g4
  simp only [x_w4, m_isOwner, Option.bind_some, x_f0, m_f0, x_f4, m_f4]
  by_cases c1 : 0 ≤ a ∧ a ≤ 3
  · obtain ⟨o, ho, rfl⟩ := ix (n := 3) rfl (by omega) c1
    have em : v 1 6 = w 1 0 := tkm h
    simp only [if_pos c1, o10, if_false]
    rw [show v 1 6 + 12 - 1 = w 1 0 + 11 by rw [em]; grind]
    by_cases c2 : w 1 0 + 11 ≤ 999
    · rw [if_pos c2, if_pos c2]
      simp only [Option.bind_some, z00, if_true]
      have rt : ∀ x, R (jx_up v 1 6 x) (jx_up w 1 0 x) := fun x => R_up h (by omega) (T := sm (cT 1 v) x) (c_sm (h := 1) (j := 0)) (by rw [m_sm (j := 0), h.t]) (OK_sm h.ok)
      have L : ∀ d t f f' x b m v1 w1, t + d = 12 → 1 ≤ t → d < f → d < f' → SX (jx_up v 1 6 x) v1 → SM (jx_up w 1 0 x) w1 → Q (f_X4_worst_L f (nI o) (v 1 6) b m (nI t) v1) (f_X5_worst_L f' (nI o) (w 1 0) b m (nI t) w1) := by
        intro d
        induction d with
        | zero =>
          intro t f f' x b m v1 w1 ht ht1 hf hf' sx sm
          obtain ⟨f, rfl⟩ : ∃ q, f = q + 1 := ⟨f - 1, by omega⟩
          obtain ⟨f', rfl⟩ : ∃ q, f' = q + 1 := ⟨f' - 1, by omega⟩
          rw [f_X4_worst_L, f_X5_worst_L, if_pos (show (12 : Int32) ≤ nI t by rw [show (12 : Int32) = nI 12 from rfl, pI_le (by omega) (by omega)]; omega), if_pos (show (12 : Int32) ≤ nI t by rw [show (12 : Int32) = nI 12 from rfl, pI_le (by omega) (by omega)]; omega)]
          exact Q_i (R_fr h (SX_bk (by omega) sx) (SM_bk sm))
        | succ d ih =>
          intro t f f' x b m v1 w1 ht ht1 hf hf' sx sm
          obtain ⟨f, rfl⟩ : ∃ q, f = q + 1 := ⟨f - 1, by omega⟩
          obtain ⟨f', rfl⟩ : ∃ q, f' = q + 1 := ⟨f' - 1, by omega⟩
          have r := R_fr (rt (v 1 6 + nI t)) (SX_u2 (by omega) sx) (SM_u2 sm)
          obtain ⟨v2, e1, g1, hg⟩ := x_gains (h := 1) (r := 65) (by omega) (by omega) r.ok
          obtain ⟨w2, e2, g2, _⟩ := m_gainOf r.ok' ho
          have hg' := hg o ho
          rw [r.t] at e1 hg'
          rw [f_X4_worst_L, f_X5_worst_L, if_neg (show ¬ (12 : Int32) ≤ nI t by rw [show (12 : Int32) = nI 12 from rfl, pI_le (by omega) (by omega)]; omega), if_neg (show ¬ (12 : Int32) ≤ nI t by rw [show (12 : Int32) = nI 12 from rfl, pI_le (by omega) (by omega)]; omega)]
          rw [em] at e1 e2 hg' g1 g2 ⊢
          simp only [e1, e2, Option.bind_some, tn (show o < 2147483648 by omega), ib ho (by omega), if_false, nI_add1, hg']
          rw [if_neg (show ¬ nI t = 0 by rw [← nz, pI_eq (by omega) (by omega)]; omega)]
          have sx2 := SX_t (SX_u2 (y := w 1 0 + nI t) (by omega) sx) (GR_SX (by omega) g1)
          have sm2 := SM_t (SM_u2 (y := w 1 0 + nI t) sm) (FM_SM g2)
          rw [em] at ih
          split
          · exact ih (t+1) f f' (w 1 0 + nI t) _ _ v2 w2 (by omega) (by omega) (by omega) (by omega) sx2 sm2
          · exact ih (t+1) f f' (w 1 0 + nI t) _ _ v2 w2 (by omega) (by omega) (by omega) (by omega) sx2 sm2
      obtain ⟨v2, e1, g1, hg⟩ := x_gains (h := 1) (r := 65) (by omega) (by omega) (rt (v 1 6 + 0)).ok
      obtain ⟨w2, e2, g2, _⟩ := m_gainOf h.ok' ho
      have hg' := hg o ho
      have e0 : jx_up v 1 6 (v 1 6 + 0) = v := by rw [Int32.add_zero, up_id]
      rw [e0] at e1 hg' g1
      rw [h.t] at e1 hg'
      rw [e2, Option.bind_some]
      dsimp only
      have l := L 11 1 99999 100000 (v 1 6) 0 (gs (mT (w 1)) o) v2 w2 (by omega) (by omega) (by omega) (by omega) (by rw [up_id]; exact GR_SX (by omega) g1) (by rw [em, up_id]; exact FM_SM g2)
      have l4 : f_X4_worst_L 100000 (nI o) (v 1 6) 0 0 0 v = f_X4_worst_L 99999 (nI o) (v 1 6) 0 (gs (mT (w 1)) o) (nI 1) v2 := by
        show f_X4_worst_L (99999+1) (nI o) (v 1 6) 0 0 0 v = _
        rw [f_X4_worst_L, if_neg (show ¬ (12 : Int32) ≤ 0 by decide), e0, e1, Option.bind_some]
        simp only [tn (show o < 2147483648 by omega), ib ho (by omega), if_false, hg', if_true, Int32.zero_add]
        rfl
      subst hG5 hG4
      rw [l4]
      exact l
    · rw [if_neg c2, if_neg c2]
      simp only [Option.bind_some, o10, if_false]; exact Q_f h
  · simp only [if_neg c1, z00, if_true]; exact Q_f h
def lmt (a : Nat) : Nat := if a = 2 then 10 else 4
theorem R_sx {v w : jx_V} {a j t : Nat} (h : R v w) (ha : a = 2 ∨ a = 3) (hj : j < 25) (hk : 0 ≤ w 1 (11 + 4 * j)) (ht : t < lmt a) : R (jx_up v (4 + a) j (nI t)) (jx_up w 1 (11 + 4 * j + a) (nI t)) := by
  have hv : 0 ≤ v (1 + 3) j := by show 0 ≤ v 4 j; rw [tk h hj]; exact hk
  rcases ha with rfl | rfl
  · rw [show 11 + 4 * j + 2 = 13 + 4 * j by omega]
    exact R_up h (by omega) (T := sH (cT 1 v) j (nI t)) (c_sH (h := 1) hj hv) (by rw [m_sH hj hk, h.t]) (OK_sH h.ok ⟨t, ht, rfl⟩)
  · rw [show 11 + 4 * j + 3 = 14 + 4 * j by omega]
    exact R_up h (by omega) (T := sP (cT 1 v) j (nI t)) (c_sP (h := 1) hj hv) (by rw [m_sP hj hk, h.t]) (OK_sP h.ok ⟨t, ht, rfl⟩)
theorem best_L {v w : jx_V} {a j o : Nat} (h : R v w) (ha : a = 2 ∨ a = 3) (hj : j < 25) (hk : 0 ≤ w 1 (11 + 4 * j)) (ho : o < 4) (eo : w 1 (12 + 4 * j) = nI o) :
    ∀ d t f x b b' m v1 w1, t + d = lmt a → d < f → (t = 0 → b' = -1) → (0 < t → b' = b ∧ 0 ≤ b) → SX (jx_up v (4 + a) j x) v1 → SM (jx_up w 1 (11 + 4 * j + a) x) w1 →
    Q (f_X4_bestFor_L f (nI j) (nI a) (nI o) (v (4 + a) j) (nI (lmt a)) b m (nI t) v1) (f_X5_bestPart_L f (nI j) (nI a) (nI (lmt a - 1)) (w 1 (11 + 4 * j + a)) b' m (nI t) w1) := by
  have hlm : 4 ≤ lmt a ∧ lmt a ≤ 10 := by unfold lmt; split <;> omega
  have ha4 : a < 4 := by omega
  intro d
  induction d with
  | zero =>
    intro t f x b b' m v1 w1 ht hf hb0 hb1 sx sm
    obtain ⟨f, rfl⟩ : ∃ q, f = q + 1 := ⟨f - 1, by omega⟩
    rw [f_X4_bestFor_L, f_X5_bestPart_L, if_pos (show nI (lmt a) ≤ nI t by rw [pI_le (by omega) (by omega)]; omega), if_pos (show nI (lmt a - 1) < nI t by rw [pI_lt (by omega) (by omega)]; omega)]
    simp only [tn (show j < 2147483648 by omega), ib hj (by omega), tn (show a < 2147483648 by omega), ib ha4 (by omega), if_false, f_X5_at, at_n, Option.bind_some, tn (show 11 + 4 * j + a < 2147483648 by omega), ib (show 11 + 4 * j + a < 181 by omega) (by omega), Nat.reduceAdd]
    rw [(hb1 (by omega)).1]
    exact Q_i (R_fr h (SX_bk (by omega) sx) (SM_bk sm))
  | succ d ih =>
    intro t f x b b' m v1 w1 ht hf hb0 hb1 sx sm
    obtain ⟨f, rfl⟩ : ∃ q, f = q + 1 := ⟨f - 1, by omega⟩
    have r := R_fr (R_sx h ha hj hk (show t < lmt a by omega)) (SX_u2 (by omega) sx) (SM_u2 sm)
    obtain ⟨v2, e1, g1, hg⟩ := x_gains (h := 1) (r := 65) (by omega) (by omega) r.ok
    obtain ⟨w2, e2, g2, _⟩ := m_gainOf r.ok' ho
    have hg' := hg o ho
    rw [r.t] at e1 hg'
    have e12 : (jx_up w1 1 (11 + 4 * j + a) (nI t)) 1 (12 + 4 * j) = nI o := by
      rw [up_g, if_neg (by omega), sm.1 1 (by omega), up_g, if_neg (by omega), eo]
    rw [f_X4_bestFor_L, f_X5_bestPart_L, if_neg (show ¬ nI (lmt a) ≤ nI t by rw [pI_le (by omega) (by omega)]; omega), if_neg (show ¬ nI (lmt a - 1) < nI t by rw [pI_lt (by omega) (by omega)]; omega)]
    simp only [tn (show j < 2147483648 by omega), ib hj (by omega), tn (show a < 2147483648 by omega), ib ha4 (by omega), if_false, f_X5_at, at_n, Option.bind_some, tn (show 11 + 4 * j + a < 2147483648 by omega), ib (show 11 + 4 * j + a < 181 by omega) (by omega), Nat.reduceAdd, m_its1 hj, e12, e1, e2, tn (show o < 2147483648 by omega), ib ho (by omega), nI_add1, hg']
    have sx2 := SX_t (SX_u2 (y := nI t) (by omega) sx) (GR_SX (by omega) g1)
    have sm2 := SM_t (SM_u2 (y := nI t) sm) (FM_SM g2)
    by_cases t0 : t = 0
    · subst t0
      rw [hb0 rfl, if_pos nz, if_pos (show (-1 : Int32) < 0 by decide)]
      exact ih 1 f (nI 0) _ _ _ v2 w2 (by omega) (by omega) (by omega) (fun _ => ⟨rfl, by decide⟩) sx2 sm2
    · obtain ⟨e, hb⟩ := hb1 (by omega)
      rw [e, if_neg (show ¬ nI t = 0 by rw [← nz, pI_eq (by omega) (by omega)]; exact t0), if_neg (Int32.not_lt.mpr hb)]
      split
      · exact ih (t+1) f (nI t) _ _ _ v2 w2 (by omega) (by omega) (by omega) (fun _ => ⟨rfl, hb⟩) sx2 sm2
      · exact ih (t+1) f (nI t) _ _ _ v2 w2 (by omega) (by omega) (by omega) (fun _ => ⟨rfl, pI_pos (by omega)⟩) sx2 sm2
theorem best_q {v w : jx_V} {a j : Nat} (h : R v w) (ha : a = 2 ∨ a = 3) (hj : j < 25) (hk : 0 ≤ w 1 (11 + 4 * j)) : Q (f_X4_bestFor (nI j) (nI a) v) (f_X5_bestPart (nI j) (nI a) (nI (lmt a - 1)) w) := by
  obtain ⟨o, ho, eo⟩ := h.ok'.o j
  rw [mO hj hk] at eo
  have ev : v (4 + a) j = w 1 (11 + 4 * j + a) := by
    rcases ha with rfl | rfl
    · rw [show 11 + 4 * j + 2 = 13 + 4 * j by omega]; exact tkH h hj hk
    · rw [show 11 + 4 * j + 3 = 14 + 4 * j by omega]; exact tkP h hj hk
  have L := best_L h ha hj hk ho eo (lmt a) 0 100000 (v (4 + a) j) 0 (-1) 0 v w (by omega) (by unfold lmt; split <;> omega) (fun _ => rfl) (by omega) SX_id (by rw [ev]; exact SM_id)
  have e4 : f_X4_bestFor (nI j) (nI a) v = f_X4_bestFor_L 100000 (nI j) (nI a) (nI o) (v (4 + a) j) (nI (lmt a)) 0 0 (nI 0) v := by
    unfold f_X4_bestFor
    generalize f_X4_bestFor_L 100000 = g4
    have tl : f_X4_thingLimit (nI a) v = some (nI (lmt a), v) := by
      rcases ha with rfl | rfl <;> rfl
    rw [tl, Option.bind_some]
    simp only [tn (show j < 2147483648 by omega), ib hj (by omega), tn (show a < 2147483648 by omega), ib (show a < 4 by omega) (by omega), if_false, Nat.reduceAdd, tkO h hj hk, eo]
    rfl
  have e5 : f_X5_bestPart (nI j) (nI a) (nI (lmt a - 1)) w = f_X5_bestPart_L 100000 (nI j) (nI a) (nI (lmt a - 1)) (w 1 (11 + 4 * j + a)) (-1) 0 (nI 0) w := by
    unfold f_X5_bestPart
    generalize f_X5_bestPart_L 100000 = g5
    rw [m_its hj (by omega), Option.bind_some]
    dsimp only
    rw [nz]
  rw [e4, e5]
  exact L
theorem q_paint {v w a} (h : R v w) : Q (f_X4_paint a v) (f_X5_paint a w) := by
  unfold f_X4_paint f_X5_paint
  simp only [x_w25, Option.bind_some, x_f0]
  by_cases c2 : 0 ≤ a ∧ a ≤ 24
  · obtain ⟨j, hj, rfl⟩ := ix (n := 24) rfl (by omega) c2
    simp only [if_pos c2, o10, if_false, x_taken hj, (m_lotWrong (x := 0) (w := w)).2 j hj, Option.bind_some, Nat.reduceAdd, tk h hj]
    by_cases ht : w 1 (11 + 4 * j) < 0
    · simp only [if_pos ht, z00, if_true, b40, if_false, x_f3, m_f3, Option.bind_some]; exact Q_f h
    · simp only [if_neg ht, o10, z00, if_true, if_false]
      exact Q_b (best_q (a := 3) h (Or.inr rfl) hj (Int32.not_lt.mp ht))
  · simp only [if_neg c2, z00, if_true, (m_lotWrong (w := w)).1 c2, Option.bind_some, b10, if_false, m_f0]; exact Q_f h
theorem q_height {v w a} (h : R v w) : Q (f_X4_height a v) (f_X5_height a w) := by
  unfold f_X4_height f_X5_height
  simp only [x_w25, Option.bind_some, x_f0]
  by_cases c2 : 0 ≤ a ∧ a ≤ 24
  · obtain ⟨j, hj, rfl⟩ := ix (n := 24) rfl (by omega) c2
    simp only [if_pos c2, o10, if_false, x_taken hj, (m_lotWrong (x := 0) (w := w)).2 j hj, Option.bind_some, Nat.reduceAdd, tk h hj]
    by_cases ht : w 1 (11 + 4 * j) < 0
    · simp only [if_pos ht, z00, if_true, b40, if_false, x_f3, m_f3, Option.bind_some]; exact Q_f h
    · simp only [if_neg ht, o10, z00, if_true, if_false]
      exact Q_b (best_q (a := 2) h (Or.inl rfl) hj (Int32.not_lt.mp ht))
  · simp only [if_neg c2, z00, if_true, (m_lotWrong (w := w)).1 c2, Option.bind_some, b10, if_false, m_f0]; exact Q_f h
theorem q_storey {v w a b} (h : R v w) : Q (f_X4_storey a b v) (f_X5_storey a b w) := by
  unfold f_X4_storey f_X5_storey
  simp only [x_w25, x_w4, m_isOwner, Option.bind_some, x_f0, m_f0]
  by_cases c1 : 0 ≤ b ∧ b ≤ 3
  · obtain ⟨o, ho, rfl⟩ := ix (n := 3) rfl (by omega) c1
    by_cases c2 : 0 ≤ a ∧ a ≤ 24
    · obtain ⟨j, hj, rfl⟩ := ix (n := 24) rfl (by omega) c2
      simp only [if_pos c1, if_pos c2, o10, if_false, x_taken hj, (m_lotWrong (x := 0) (w := w)).2 j hj, Option.bind_some, Nat.reduceAdd, tk h hj]
      by_cases ht : w 1 (11 + 4 * j) < 0
      · simp only [if_pos ht, z00, if_true, b40, if_false, x_f3, m_f3, Option.bind_some]; exact Q_f h
      · have ht' : 0 ≤ w 1 (11 + 4 * j) := Int32.not_lt.mp ht
        obtain ⟨x, hx, ex⟩ := h.ok'.h j
        rw [mH hj ht'] at ex
        simp only [if_neg ht, o10, z00, if_true, if_false, tn (show j < 2147483648 by omega), ib hj (by omega), tn (show o < 2147483648 by omega), ib ho (by omega), tkH h hj ht', m_its2 hj, f_X5_at, at2, Option.bind_some, tn (show 13 + 4 * j < 2147483648 by omega), ib (show 13 + 4 * j < 181 by omega) (by omega), ex, x_f4, m_f4]
        by_cases c9 : x = 9
        · subst c9
          rw [if_neg (by decide), if_pos (by decide)]; exact Q_f h
        · rw [if_pos (by rw [show (9 : Int32) = nI 9 from rfl, pI_lt (by omega) (by omega)]; omega), if_neg (by rw [show (9 : Int32) = nI 9 from rfl, pI_eq (by omega) (by omega)]; omega)]
          obtain ⟨v1, e1, g1, hg1⟩ := x_gains (h := 1) (r := 64) (by omega) (by omega) h.ok
          obtain ⟨w1, d1, f1, _⟩ := m_gainOf h.ok' ho
          have r1 := R_fr h (GR_SX (by omega) g1) (FM_SM f1)
          have k1 : w1 1 = w 1 := FM_1 f1
          have hv1 : v1 6 j = nI x := by rw [g1 6 (by omega) (by omega), tkH h hj ht', ex]
          have hw1 : w1 1 (13 + 4 * j) = nI x := by rw [k1, ex]
          simp only [e1, d1, Option.bind_some, hv1, hw1, nI_add1]
          have r2 := R_sx (a := 2) (t := x + 1) r1 (Or.inl rfl) hj (by rw [k1]; exact ht') (by show x + 1 < 10; omega)
          rw [show 11 + 4 * j + 2 = 13 + 4 * j by omega] at r2
          obtain ⟨v2, e2, g2, hg2⟩ := x_gains (h := 1) (r := 65) (by omega) (by omega) r2.ok
          obtain ⟨w2, d2, f2, _⟩ := m_gainOf r2.ok' ho
          rw [show (4 + 2 : Nat) = 6 from rfl] at e2 g2 hg2
          simp only [e2, d2, Option.bind_some]
          have hv2 : v2 6 j = nI (x+1) := by rw [g2 6 (by omega) (by omega), up_s]
          have hw2 : w2 1 (13 + 4 * j) = nI (x+1) := by rw [FM_1 f2, up_s]
          have em : nI (x+1) - 1 = nI x := by rw [← nI_add1]; grind
          rw [hv2, hw2, em, jx_up_ne (show 65 ≠ 6 by omega), jx_up_ne (show 64 ≠ 6 by omega), hg2 o ho, g2 64 (by omega) (by omega), jx_up_ne (show 64 ≠ 6 by omega), hg1 o ho, show cT 1 (jx_up v1 6 j (nI (x+1))) = _ from r2.t, h.t]
          have sx := SX_bk (v := v1) (c := 6) (j := j) (by omega) (GR_SX (by omega) g2)
          have sm := SM_bk (w := w1) (j := 13 + 4 * j) (FM_SM f2)
          rw [hv1] at sx
          rw [hw1] at sm
          exact Q_i (R_fr r1 sx sm)
    · simp only [if_pos c1, if_neg c2, o10, z00, if_true, if_false, (m_lotWrong (w := w)).1 c2, Option.bind_some, b10, m_f0]; exact Q_f h
  · by_cases c2 : 0 ≤ a ∧ a ≤ 24
    · simp only [if_neg c1, if_pos c2, o10, z00, if_true, if_false, b10]; exact Q_f h
    · simp only [if_neg c1, if_neg c2, o10, z00, if_true, if_false, b10]; exact Q_f h
def bcE (x : Int32) : Int32 := ((f_J6_bitCount_0f7a4 x (fun _ _ => 0)).map Prod.fst).getD 0
theorem j_bc {x v} : f_J6_bitCount_0f7a4 x v = some (bcE x, v) := rfl
theorem bc_ones : ∀ q, q < 1024 → onesP 40 0 (nI q) = some (bcE (nI q)) := by decide +kernel
theorem or_r : ∀ i, i < 10 → ∀ q, q < 1024 → (nI q ||| (1 <<< (nI i &&& 31))).toNatClampNeg < 1024 ∧ nI q ||| (1 <<< (nI i &&& 31)) = nI (nI q ||| (1 <<< (nI i &&& 31))).toNatClampNeg := by decide +kernel
theorem bset_r {T} : ∀ i, i ≤ 10 → ∃ q, q < 1024 ∧ bset T i = nI q
  | 0, _ => ⟨0, by omega, rfl⟩
  | i + 1, hi => by
    obtain ⟨q, hq, e⟩ := bset_r (T := T) i (by omega)
    rw [bset, e]
    split
    · exact ⟨_, (or_r i (by omega) q hq).1, (or_r i (by omega) q hq).2⟩
    · exact ⟨q, hq, rfl⟩
theorem bs_r {T} (hT : OK T) : ∃ q, q < 1024 ∧ bs T = nI q := by
  obtain ⟨N, hN, e⟩ := hT.n
  unfold bs
  exact bset_r _ (by unfold nw; rw [e, tn (by omega)]; exact hN)
theorem m_ones_bs {T w} (hT : OK T) : f_X5_ones (bs T) w = some (bcE (bs T), w) := by
  obtain ⟨q, hq, e⟩ := bs_r hT
  rw [e]
  exact m_ones (bc_ones q hq)
theorem q_allowed {v w a} (h : R v w) : Q (f_X4_allowed a v) (f_X5_allowed a w) := by
  unfold f_X4_allowed f_X5_allowed
  generalize hG4 : f_X4_allowed_L 100000 = g4
  generalize hG5 : f_X5_allowed_L 100000 = g5
  simp only [x_w25, Option.bind_some, x_f0]
  by_cases c2 : 0 ≤ a ∧ a ≤ 24
  · obtain ⟨j, hj, rfl⟩ := ix (n := 24) rfl (by omega) c2
    simp only [if_pos c2, o10, if_false, x_taken hj, (m_lotWrong (x := 0) (w := w)).2 j hj, Option.bind_some, Nat.reduceAdd, tk h hj]
    by_cases ht : w 1 (11 + 4 * j) < 0
    · simp only [if_pos ht, z00, if_true, b40, if_false, x_f3, m_f3, Option.bind_some]; exact Q_f h
    · have hk : 0 ≤ w 1 (11 + 4 * j) := Int32.not_lt.mp ht
      have ev : v 6 j = w 1 (13 + 4 * j) := tkH h hj hk
      have rt : ∀ t, t < 10 → R (jx_up v 6 j (nI t)) (jx_up w 1 (13 + 4 * j) (nI t)) := fun t ht => by
        have := R_sx (a := 2) (t := t) h (Or.inl rfl) hj hk ht
        rw [show 11 + 4 * j + 2 = 13 + 4 * j by omega] at this
        exact this
      have L : ∀ d t f f' x l b v1 w1, t + d = 10 → 1 ≤ t → d < f → d < f' → SX (jx_up v 6 j x) v1 → SM (jx_up w 1 (13 + 4 * j) x) w1 → Q (f_X4_allowed_L f (nI j) (v 6 j) l b (nI t) v1) (f_X5_allowed_L f' (nI j) 0 (w 1 (13 + 4 * j)) l b (nI t) w1) := by
        intro d
        induction d with
        | zero =>
          intro t f f' x l b v1 w1 ht ht1 hf hf' sx sm
          obtain ⟨f, rfl⟩ : ∃ q, f = q + 1 := ⟨f - 1, by omega⟩
          obtain ⟨f', rfl⟩ : ∃ q, f' = q + 1 := ⟨f' - 1, by omega⟩
          rw [f_X4_allowed_L, f_X5_allowed_L, if_pos (show (10 : Int32) ≤ nI t by rw [show (10 : Int32) = nI 10 from rfl, pI_le (by omega) (by omega)]; omega), if_pos (show (10 : Int32) ≤ nI t by rw [show (10 : Int32) = nI 10 from rfl, pI_le (by omega) (by omega)]; omega)]
          simp only [tn (show j < 2147483648 by omega), ib hj (by omega), if_false, f_X5_at, at2, Option.bind_some, tn (show 13 + 4 * j < 2147483648 by omega), ib (show 13 + 4 * j < 181 by omega) (by omega)]
          exact Q_i (R_fr h (SX_bk (by omega) sx) (SM_bk sm))
        | succ d ih =>
          intro t f f' x l b v1 w1 ht ht1 hf hf' sx sm
          obtain ⟨f, rfl⟩ : ∃ q, f = q + 1 := ⟨f - 1, by omega⟩
          obtain ⟨f', rfl⟩ : ∃ q, f' = q + 1 := ⟨f' - 1, by omega⟩
          have r := R_fr (rt t (by omega)) (SX_u2 (by omega) sx) (SM_u2 sm)
          obtain ⟨v2, e1, g1⟩ := x_bset (h := 1) (by omega) r.ok
          obtain ⟨w2, e2, g2⟩ := m_bset r.ok'
          rw [r.t] at e1
          rw [f_X4_allowed_L, f_X5_allowed_L, if_neg (show ¬ (10 : Int32) ≤ nI t by rw [show (10 : Int32) = nI 10 from rfl, pI_le (by omega) (by omega)]; omega), if_neg (show ¬ (10 : Int32) ≤ nI t by rw [show (10 : Int32) = nI 10 from rfl, pI_le (by omega) (by omega)]; omega)]
          simp only [tn (show j < 2147483648 by omega), ib hj (by omega), if_false, f_X5_at, at2, Option.bind_some, tn (show 13 + 4 * j < 2147483648 by omega), ib (show 13 + 4 * j < 181 by omega) (by omega), e1, e2, nI_add1, j_bc, m_ones_bs r.ok']
          rw [if_neg (show ¬ nI t = 0 by rw [← nz, pI_eq (by omega) (by omega)]; omega)]
          have sx2 := SX_t (SX_u2 (y := nI t) (by omega) sx) (G_SX g1)
          have sm2 := SM_t (SM_u2 (y := nI t) sm) (FM_SM g2)
          split
          · exact ih (t+1) f f' (nI t) _ _ v2 w2 (by omega) (by omega) (by omega) (by omega) sx2 sm2
          · exact ih (t+1) f f' (nI t) _ _ v2 w2 (by omega) (by omega) (by omega) (by omega) sx2 sm2
      simp only [if_neg ht, o10, z00, if_true, if_false, tn (show j < 2147483648 by omega), ib hj (by omega)]
      have r0 := rt 0 (by omega)
      obtain ⟨v2, e1, g1⟩ := x_bset (h := 1) (by omega) r0.ok
      obtain ⟨w2, e2, g2⟩ := m_bset r0.ok'
      rw [r0.t] at e1
      have l := L 9 1 99999 100000 (nI 0) (bcE (bs (mT (jx_up w 1 (13 + 4 * j) (nI 0) 1)))) 0 v2 w2 (by omega) (by omega) (by omega) (by omega) (G_SX g1) (FM_SM g2)
      have l4 : f_X4_allowed_L 100000 (nI j) (v 6 j) 0 0 0 v = f_X4_allowed_L 99999 (nI j) (v 6 j) (bcE (bs (mT (jx_up w 1 (13 + 4 * j) (nI 0) 1)))) 0 (nI 1) v2 := by
        show f_X4_allowed_L (99999+1) (nI j) (v 6 j) 0 0 (nI 0) v = _
        rw [f_X4_allowed_L, if_neg (show ¬ (10 : Int32) ≤ nI 0 by decide)]
        simp only [tn (show j < 2147483648 by omega), ib hj (by omega), if_false, e1, Option.bind_some, j_bc, nI_add1]
        rw [if_pos nz, if_neg (show ¬ bcE (bs (mT (jx_up w 1 (13 + 4 * j) (nI 0) 1))) < bcE (bs (mT (jx_up w 1 (13 + 4 * j) (nI 0) 1))) by grind)]
        rfl
      rw [m_its2 hj, Option.bind_some]
      simp only [f_X5_at, at2, Option.bind_some, tn (show 13 + 4 * j < 2147483648 by omega), ib (show 13 + 4 * j < 181 by omega) (by omega), if_false]
      rw [show (0 : Int32) = nI 0 from rfl, e2, Option.bind_some]
      dsimp only
      rw [m_ones_bs r0.ok', Option.bind_some]
      dsimp only
      subst hG4 hG5
      rw [show nI 0 = 0 from rfl] at l l4 ⊢
      rw [l4]
      exact l
  · simp only [if_neg c2, z00, if_true, (m_lotWrong (w := w)).1 c2, Option.bind_some, b10, if_false, m_f0]; exact Q_f h
theorem q_opens {v w a} (h : R v w) : Q (f_X4_opens a v) (f_X5_opens a w) := by
  obtain ⟨N, hN, eN, eN2⟩ := cn h.ok
  have eM : w 1 1 = nI N := by rw [← tkn h]; exact eN
  unfold f_X4_opens f_X5_opens
  generalize hG4 : f_X4_opens_L 100000 = g4
  generalize hG5 : f_X5_opens_L 100000 = g5
  simp only [x_w25, Option.bind_some, x_f0]
  by_cases c2 : 0 ≤ a ∧ a ≤ 24
  · obtain ⟨j, hj, rfl⟩ := ix (n := 24) rfl (by omega) c2
    simp only [if_pos c2, o10, if_false, x_taken hj, (m_lotWrong (x := 0) (w := w)).2 j hj, Option.bind_some, Nat.reduceAdd, tk h hj]
    by_cases ht : w 1 (11 + 4 * j) < 0
    · simp only [if_pos ht, z00, if_true, b40, if_false, x_f3, m_f3, Option.bind_some]; exact Q_f h
    · have hk : 0 ≤ w 1 (11 + 4 * j) := Int32.not_lt.mp ht
      have ev : v 4 j = w 1 (11 + 4 * j) := tk h hj
      have L : ∀ d i f x v1 w1, i + d = N → d < f → SX v v1 → SM w w1 → Q (f_X4_opens_L f (nI j) (v 4 j) x (nI i) v1) (f_X5_opens_L f (nI j) 0 (w 1 (11 + 4 * j)) x (nI i) w1) := by
        intro d
        induction d with
        | zero =>
          intro i f x v1 w1 hi hf sx sm
          obtain ⟨f, rfl⟩ : ∃ q, f = q + 1 := ⟨f - 1, by omega⟩
          have r := R_fr h sx sm
          have e5 : v1 1 5 = nI N := by rw [sx.1 1 (by omega)]; exact eN
          have e6 : w1 1 1 = nI N := by rw [← tkn r]; exact e5
          rw [f_X4_opens_L, f_X5_opens_L, e5, e6, if_pos (by rw [pI_le (by omega) (by omega)]; omega), if_pos (by rw [pI_le (by omega) (by omega)]; omega)]
          exact Q_i r
        | succ d ih =>
          intro i f x v1 w1 hi hf sx sm
          obtain ⟨f, rfl⟩ : ∃ q, f = q + 1 := ⟨f - 1, by omega⟩
          have r := R_fr h sx sm
          have e5 : v1 1 5 = nI N := by rw [sx.1 1 (by omega)]; exact eN
          have e6 : w1 1 1 = nI N := by rw [← tkn r]; exact e5
          obtain ⟨v2, e1, g1⟩ := x_view (h := 1) (i := i) (by omega) r.ok (by rw [e5, tn (by omega)]; omega)
          obtain ⟨w2, e2, g2⟩ := m_viewOf (i := i) r.ok' (by rw [e6, tn (by omega)]; omega)
          have r2 := R_fr r (G_SX g1) (FM_SM g2)
          have r3 := R_off r2 hj
          have x5 : (jx_up v2 4 j (-1)) 1 5 = nI N := by rw [jx_up_ne (by omega), g1 1 (by omega)]; exact e5
          have x6 : (jx_up w2 1 (11 + 4 * j) (-1)) 1 1 = nI N := by rw [← tkn r3]; exact x5
          obtain ⟨v3, e3, g3⟩ := x_view (h := 1) (i := i) (by omega) r3.ok (by rw [x5, tn (by omega)]; omega)
          obtain ⟨w3, e4, g4'⟩ := m_viewOf (i := i) r3.ok' (by rw [x6, tn (by omega)]; omega)
          rw [r.t] at e1
          rw [r3.t] at e3
          rw [f_X4_opens_L, f_X5_opens_L, e5, e6, if_neg (by rw [pI_le (by omega) (by omega)]; omega), if_neg (by rw [pI_le (by omega) (by omega)]; omega)]
          simp only [e1, e2, Option.bind_some, x_off hj, Nat.reduceAdd, e3, f_X5_at, at0, tn (show 11 + 4 * j < 2147483648 by omega), ib (show 11 + 4 * j < 181 by omega) (by omega), if_false, e4, tn (show j < 2147483648 by omega), ib hj (by omega), nI_add1, Int32.or_zero]
          have k4 : v2 4 j = v 4 j := by rw [g1 4 (by omega), sx.1 4 (by omega)]
          have k1 : w2 1 (11 + 4 * j) = w 1 (11 + 4 * j) := by rw [FM_1 g2, sm.1 1 (by omega)]
          have sx3 : SX v (jx_up v3 4 j (v 4 j)) := by
            have := SX_bk (v := v2) (c := 4) (j := j) (by omega) (G_SX g3)
            rw [k4] at this
            exact SX_t sx (SX_t (G_SX g1) this)
          have sm3 : SM w (jx_up w3 1 (11 + 4 * j) (w 1 (11 + 4 * j))) := by
            have := SM_bk (w := w2) (j := 11 + 4 * j) (FM_SM g4')
            rw [k1] at this
            exact SM_t sm (SM_t (FM_SM g2) this)
          split
          · exact ih (i+1) f _ _ _ (by omega) (by omega) sx3 sm3
          · exact ih (i+1) f _ _ _ (by omega) (by omega) sx3 sm3
      simp only [if_neg ht, o10, z00, if_true, if_false, tn (show j < 2147483648 by omega), ib hj (by omega)]
      rw [m_its0 hj, Option.bind_some]
      dsimp only
      subst hG4 hG5
      rw [← ev]
      have l := L N 0 100000 0 v w (by omega) (by omega) SX_r SM_r
      rw [← ev] at l
      exact l
  · simp only [if_neg c2, z00, if_true, (m_lotWrong (w := w)).1 c2, Option.bind_some, b10, if_false, m_f0]; exact Q_f h
def CI (v v1 : jx_V) : Prop := (∀ c, c = 0 ∨ (17 ≤ c ∧ c < 33) ∨ (54 ≤ c ∧ c < 63) → v1 c = v c) ∧ v1 53 1 = v 53 1 ∧ cT 1 v1 = cT 1 v
theorem CI_R {v w v' w'} (h : R v w) (a : CI v v') (b : BI w w') : R v' w' := by
  obtain ⟨M, hM, eM, eM2⟩ := mn h.ok'
  have e : mT (w' 1) = mT (w 1) := mT_eq b.1 (by omega)
  exact R_town h (T := cT 1 v) a.1 a.2.1 (fun c hc => b.2.2.1 c (by omega) (by omega) (by omega) (by omega) (by omega)) (b.2.2.2 4 (by omega) (by omega) (by omega)) (b.2.2.2 12 (by omega) (by omega) (by omega)) a.2.2 (by rw [e, h.t]) h.ok
theorem rem_id {h l : Nat} {v : jx_V} (e : (cT h v).K l = -1) : rem (cT h v) l = cT h v := by
  have hk : l < 25 → ¬ 0 ≤ v (h+3) l := fun hl c => by rw [cK hl] at e; rw [e] at c; exact absurd c (by decide)
  refine Tx ?_ ?_ ?_ ?_ rfl rfl rfl rfl rfl rfl rfl
  · funext q
    show (if q = l then -1 else (cT h v).K q) = (cT h v).K q
    by_cases c : q = l
    · rw [if_pos c, c, e]
    · rw [if_neg c]
  · funext q
    show (if q = l then 0 else (cT h v).O q) = (cT h v).O q
    by_cases c : q = l
    · rw [if_pos c, c]; exact (if_neg (fun q => hk q.1 q.2)).symm
    · rw [if_neg c]
  · funext q
    show (if q = l then 0 else (cT h v).H q) = (cT h v).H q
    by_cases c : q = l
    · rw [if_pos c, c]; exact (if_neg (fun q => hk q.1 q.2)).symm
    · rw [if_neg c]
  · funext q
    show (if q = l then 0 else (cT h v).P q) = (cT h v).P q
    by_cases c : q = l
    · rw [if_pos c, c]; exact (if_neg (fun q => hk q.1 q.2)).symm
    · rw [if_neg c]
theorem rem_bld {T l k o h p} : rem (bld T l k o h p) l = rem T l := by
  refine Tx ?_ ?_ ?_ ?_ rfl rfl rfl rfl rfl rfl rfl
  · funext q; show (if q = l then -1 else if q = l then k else T.K q) = if q = l then -1 else T.K q
    by_cases c : q = l
    · rw [if_pos c, if_pos c]
    · rw [if_neg c, if_neg c, if_neg c]
  · funext q; show (if q = l then 0 else if q = l then o else T.O q) = if q = l then 0 else T.O q
    by_cases c : q = l
    · rw [if_pos c, if_pos c]
    · rw [if_neg c, if_neg c, if_neg c]
  · funext q; show (if q = l then 0 else if q = l then h else T.H q) = if q = l then 0 else T.H q
    by_cases c : q = l
    · rw [if_pos c, if_pos c]
    · rw [if_neg c, if_neg c, if_neg c]
  · funext q; show (if q = l then 0 else if q = l then p else T.P q) = if q = l then 0 else T.P q
    by_cases c : q = l
    · rw [if_pos c, if_pos c]
    · rw [if_neg c, if_neg c, if_neg c]
theorem q_site {v w a b c} (h : R v w) : Q (f_X4_site a b c v) (f_X5_site a b c w) := by
  unfold f_X4_site f_X5_site
  generalize hG4 : f_X4_site_L 100000 = g4
  generalize hG5 : f_X5_site_L 100000 = g5
  simp only [x_w7, x_w4, x_w10, m_in_0_6, m_isOwner, m_isHeight, Option.bind_some, x_f0, m_f0]
  by_cases c1 : 0 ≤ a ∧ a ≤ 6
  · by_cases c3 : 0 ≤ b ∧ b ≤ 3
    · by_cases c4 : 0 ≤ c ∧ c ≤ 9
      · simp only [if_pos c1, if_pos c3, if_pos c4, o10, if_false]
        obtain ⟨o, ho, rfl⟩ := ix (n := 3) rfl (by omega) c3
        have L : ∀ d l f x m v1 w1, l + d = 25 → d < f → CI v v1 → BI w w1 → Q (f_X4_site_L f a (nI o) c x m (nI l) v1) (f_X5_site_L f a (nI o) c x m (nI l) w1) := by
          intro d
          induction d with
          | zero =>
            intro l f x m v1 w1 hl hf ci bi
            obtain ⟨f, rfl⟩ : ∃ q, f = q + 1 := ⟨f - 1, by omega⟩
            rw [f_X4_site_L, f_X5_site_L, if_pos (show (25 : Int32) ≤ nI l by rw [show (25 : Int32) = nI 25 from rfl, pI_le (by omega) (by omega)]; omega), if_pos (show (25 : Int32) ≤ nI l by rw [show (25 : Int32) = nI 25 from rfl, pI_le (by omega) (by omega)]; omega)]
            simp only [x_f3, m_f3, Option.bind_some]
            split
            · exact Q_i (CI_R h ci bi)
            · exact Q_f (CI_R h ci bi)
          | succ d ih =>
            intro l f x m v1 w1 hl hf ci bi
            obtain ⟨f, rfl⟩ : ∃ q, f = q + 1 := ⟨f - 1, by omega⟩
            have hl' : l < 25 := by omega
            have r := CI_R h ci bi
            rw [f_X4_site_L, f_X5_site_L, if_neg (show ¬ (25 : Int32) ≤ nI l by rw [show (25 : Int32) = nI 25 from rfl, pI_le (by omega) (by omega)]; omega), if_neg (show ¬ (25 : Int32) ≤ nI l by rw [show (25 : Int32) = nI 25 from rfl, pI_le (by omega) (by omega)]; omega), x_taken hl', m_thing hl']
            simp only [Option.bind_some, Nat.reduceAdd, tk r hl', nI_add1]
            by_cases ht : w1 1 (11 + 4 * l) < 0
            · simp only [if_pos ht, z00, if_true]
              have rb := R_bld r hl' c1.1 ⟨o, ho, rfl⟩ (ix (n := 9) rfl (by omega) c4) ⟨0, by omega, rfl⟩ (k := a) (o := nI o) (hh := c) (p := 0)
              obtain ⟨v3, e3, g3, hg⟩ := x_gains (h := 1) (r := 65) (by omega) (by omega) rb.ok
              obtain ⟨w3, e4, g4', _⟩ := m_gainOf rb.ok' ho
              obtain ⟨w5, d5, p5⟩ := m_back (w := w3)
              have hg' := hg o ho
              rw [rb.t] at e3 hg'
              simp only [x_put hl', m_builds hl', Option.bind_some, Nat.reduceAdd, e3, e4, d5, x_off hl', tn (show o < 2147483648 by omega), ib ho (by omega), if_false]
              rw [jx_up_ne (show 65 ≠ 4 by omega), hg']
              have bi5 : BI w w5 := BI_b bi (FY_t up_FY (FY_t up_FY (FY_t up_FY (FY_t up_FY (FM_FY g4'))))) p5
              have ek : (cT 1 v).K l = -1 := by
                rcases (cT 1 v1 |> fun _ => h.ok.k l) with e | e
                · exact e
                · exfalso
                  rw [← ci.2.2, r.t, mK hl'] at e
                  exact absurd ht (Int32.not_lt.mpr e)
              have ci5 : CI v (jx_up v3 4 l (-1)) := by
                refine ⟨fun q hq => ?_, ?_, ?_⟩
                · rw [jx_up_ne (by omega), g3 q (by omega) (by omega), jx_up_ne (by omega), jx_up_ne (by omega), jx_up_ne (by omega), jx_up_ne (by omega)]; exact ci.1 q hq
                · rw [jx_up_ne (by omega), g3 53 (by omega) (by omega), jx_up_ne (by omega), jx_up_ne (by omega), jx_up_ne (by omega), jx_up_ne (by omega)]; exact ci.2.1
                · have x1 : cT 1 (jx_up v3 4 l (-1)) = rem (cT 1 v3) l := c_off (h := 1) hl'
                  have x2 : cT 1 v3 = bld (cT 1 v1) l a (nI o) c 0 := by
                    rw [cT_congr (h := 1) (fun q hq1 hq2 => g3 q (by omega) (by omega))]
                    exact c_put (h := 1) hl' c1.1
                  rw [x1, x2, rem_bld, ci.2.2, rem_id ek]
              split
              · exact ih (l+1) f _ _ _ _ (by omega) (by omega) ci5 bi5
              · split
                · exact ih (l+1) f _ _ _ _ (by omega) (by omega) ci5 bi5
                · exact ih (l+1) f _ _ _ _ (by omega) (by omega) ci5 bi5
            · simp only [if_neg ht, o10, if_false]
              exact ih (l+1) f x m v1 w1 (by omega) (by omega) ci bi
        obtain ⟨w1, d1, p1⟩ := m_puts (w := w)
        rw [d1, Option.bind_some]
        subst hG4 hG5
        exact L 25 0 100000 (-1) 0 v w1 (by omega) (by omega) ⟨fun _ _ => rfl, rfl, rfl⟩ (BI_p p1)
      · simp only [if_pos c1, if_pos c3, if_neg c4, o10, z00, if_true, if_false]; exact Q_f h
    · simp only [if_pos c1, if_neg c3, o10, z00, if_true, if_false]; exact Q_f h
  · simp only [if_neg c1, z00, if_true]; exact Q_f h
-- swap
def exch (T : Tn) (a b : Nat) : Tn := (fun l => if l = b then T.K a else if l = a then T.K b else T.K l, fun l => if l = b then T.O a else if l = a then T.O b else T.O l, fun l => if l = b then T.H a else if l = a then T.H b else T.H l, fun l => if l = b then T.P a else if l = a then T.P b else T.P l, T.W, T.C, T.U, T.S, T.n, T.m, T.z)
theorem OK_exch {T a b} (hT : OK T) : OK (exch T a b) := by
  refine OK.mk (fun l => ?_) (fun l => ?_) (fun l => ?_) (fun l => ?_) hT.w0 hT.w1 hT.w2 hT.w3 hT.w4 hT.n hT.s
  · show (if l = b then T.K a else if l = a then T.K b else T.K l) = -1 ∨ 0 ≤ (if l = b then T.K a else if l = a then T.K b else T.K l)
    (repeat' split) <;> exact hT.k _
  · show ∃ q, q < 4 ∧ (if l = b then T.O a else if l = a then T.O b else T.O l) = nI q
    (repeat' split) <;> exact hT.o _
  · show ∃ q, q < 10 ∧ (if l = b then T.H a else if l = a then T.H b else T.H l) = nI q
    (repeat' split) <;> exact hT.h _
  · show ∃ q, q < 4 ∧ (if l = b then T.P a else if l = a then T.P b else T.P l) = nI q
    (repeat' split) <;> exact hT.p _
def sw (a b : Nat) (f : Nat → Int32) : Nat → Int32 := fun l => if l = b then f a else if l = a then f b else f l
theorem sw_sw {a b f} : sw a b (sw a b f) = f := by
  funext l; unfold sw
  by_cases e1 : l = b
  · subst e1
    by_cases e2 : a = l
    · subst e2; simp
    · simp [e2]
  · by_cases e2 : l = a
    · subst e2; simp [e1]
    · simp [e1, e2]
theorem x_exch {h a b : Nat} {v : jx_V} (ha : a < 25) (hb : b < 25) : ∃ v', f_X3_exchange h (nI a) (nI b) v = some v' ∧ (∀ c, (c < h + 3 ∨ h + 7 ≤ c) → v' c = v c) ∧ ∀ r, r < 4 → v' (h+3+r) = sw a b (v (h+3+r)) := by
  have : ∀ d q f v1, q + d = 4 → d < f → (∀ c, (c < h + 3 ∨ h + 3 + q ≤ c) → v1 c = v c) → (∀ r, r < q → v1 (h+3+r) = sw a b (v (h+3+r))) → ∃ v', f_X3_exchange_L h f (nI a) (nI b) (nI q) v1 = some v' ∧ (∀ c, (c < h + 3 ∨ h + 7 ≤ c) → v' c = v c) ∧ ∀ r, r < 4 → v' (h+3+r) = sw a b (v (h+3+r)) := by
    intro d
    induction d with
    | zero =>
      intro q f v1 hq hf h1 h2
      obtain ⟨f, rfl⟩ : ∃ q, f = q + 1 := ⟨f - 1, by omega⟩
      refine ⟨v1, ?_, fun c hc => h1 c (by omega), fun r hr => h2 r (by omega)⟩
      rw [f_X3_exchange_L, if_pos (by rw [← n4, pI_le (by omega) (by omega)]; omega)]
    | succ d ih =>
      intro q f v1 hq hf h1 h2
      obtain ⟨f, rfl⟩ : ∃ q, f = q + 1 := ⟨f - 1, by omega⟩
      rw [f_X3_exchange_L, if_neg (by rw [← n4, pI_le (by omega) (by omega)]; omega)]
      simp only [tn (show q < 2147483648 by omega), ib (show q < 4 by omega) (by omega), tn (show a < 2147483648 by omega), ib ha (by omega), tn (show b < 2147483648 by omega), ib hb (by omega), if_false, nI_add1]
      refine ih (q+1) f _ (by omega) (by omega) (fun c hc => by rw [jx_up_ne (by omega), jx_up_ne (by omega)]; exact h1 c (by omega)) (fun r hr => ?_)
      by_cases e : r = q
      · subst e
        rw [up_c, up_c, h1 (h+3+r) (by omega)]
        funext l
        unfold upd sw
        rfl
      · rw [jx_up_ne (by omega), jx_up_ne (by omega)]; exact h2 r (by omega)
  exact this 4 0 100000 v (by omega) (by omega) (fun _ _ => rfl) (fun r hr => by omega)
theorem c_exch {h a b : Nat} {v v' : jx_V} (ha : a < 25) (hb : b < 25) (ta : 0 ≤ v (h+3) a) (tb : 0 ≤ v (h+3) b) (h1 : ∀ c, (c < h + 3 ∨ h + 7 ≤ c) → v' c = v c) (h2 : ∀ r, r < 4 → v' (h+3+r) = sw a b (v (h+3+r))) : cT h v' = exch (cT h v) a b := by
  have e0 : v' (h+3) = sw a b (v (h+3)) := h2 0 (by omega)
  have e1 : v' (h+4) = sw a b (v (h+4)) := h2 1 (by omega)
  have e2 : v' (h+5) = sw a b (v (h+5)) := h2 2 (by omega)
  have e3 : v' (h+6) = sw a b (v (h+6)) := h2 3 (by omega)
  have eh : v' h = v h := h1 h (by omega)
  refine Tx ?_ ?_ ?_ ?_ ?_ ?_ ?_ ?_ (by show v' h 5 = v h 5; rw [eh]) (by show v' h 6 = v h 6; rw [eh]) (by show v' h 7 = v h 7; rw [eh])
  · funext l
    show (if l < 25 then v' (h+3) l else -1) = (if l = b then (cT h v).K a else if l = a then (cT h v).K b else (cT h v).K l)
    rw [e0, cK ha, cK hb]; unfold sw
    by_cases x1 : l = b
    · rw [if_pos x1, if_pos x1, x1, if_pos hb]
    · by_cases x2 : l = a
      · rw [if_neg x1, if_pos x2, if_neg x1, if_pos x2, x2, if_pos ha]
      · rw [if_neg x1, if_neg x2, if_neg x1, if_neg x2]; rfl
  · funext l
    show (if l < 25 ∧ 0 ≤ v' (h+3) l then v' (h+4) l else 0) = (if l = b then (cT h v).O a else if l = a then (cT h v).O b else (cT h v).O l)
    rw [e0, e1, cO ha ta, cO hb tb]; unfold sw
    by_cases x1 : l = b
    · rw [if_pos x1, if_pos x1, if_pos x1, x1, if_pos ⟨hb, ta⟩]
    · by_cases x2 : l = a
      · rw [if_neg x1, if_pos x2, if_neg x1, if_pos x2, if_neg x1, if_pos x2, x2, if_pos ⟨ha, tb⟩]
      · rw [if_neg x1, if_neg x2, if_neg x1, if_neg x2, if_neg x1, if_neg x2]; rfl
  · funext l
    show (if l < 25 ∧ 0 ≤ v' (h+3) l then v' (h+5) l else 0) = (if l = b then (cT h v).H a else if l = a then (cT h v).H b else (cT h v).H l)
    rw [e0, e2, cH ha ta, cH hb tb]; unfold sw
    by_cases x1 : l = b
    · rw [if_pos x1, if_pos x1, if_pos x1, x1, if_pos ⟨hb, ta⟩]
    · by_cases x2 : l = a
      · rw [if_neg x1, if_pos x2, if_neg x1, if_pos x2, if_neg x1, if_pos x2, x2, if_pos ⟨ha, tb⟩]
      · rw [if_neg x1, if_neg x2, if_neg x1, if_neg x2, if_neg x1, if_neg x2]; rfl
  · funext l
    show (if l < 25 ∧ 0 ≤ v' (h+3) l then v' (h+6) l else 0) = (if l = b then (cT h v).P a else if l = a then (cT h v).P b else (cT h v).P l)
    rw [e0, e3, cP ha ta, cP hb tb]; unfold sw
    by_cases x1 : l = b
    · rw [if_pos x1, if_pos x1, if_pos x1, x1, if_pos ⟨hb, ta⟩]
    · by_cases x2 : l = a
      · rw [if_neg x1, if_pos x2, if_neg x1, if_pos x2, if_neg x1, if_pos x2, x2, if_pos ⟨ha, tb⟩]
      · rw [if_neg x1, if_neg x2, if_neg x1, if_neg x2, if_neg x1, if_neg x2]; rfl
  · funext k i
    show (if k < 6 ∧ i < (v' h 5).toNatClampNeg then v' (h+7+k) i else 0) = if k < 6 ∧ i < (v h 5).toNatClampNeg then v (h+7+k) i else 0
    rw [eh, h1 (h+7+k) (by omega)]
  · funext l
    show (if l < 4 then v' (h+13) l else 0) = if l < 4 then v (h+13) l else 0
    rw [h1 (h+13) (by omega)]
  · funext l
    show (if l < 4 then v' (h+14) l else 0) = if l < 4 then v (h+14) l else 0
    rw [h1 (h+14) (by omega)]
  · funext l
    show (if l < 10 then v' (h+15) l else 0) = if l < 10 then v (h+15) l else 0
    rw [h1 (h+15) (by omega)]

def pm (q a b k : Nat) : Nat := if 11 + 4 * b ≤ k ∧ k < 11 + 4 * b + q then k - 4 * b + 4 * a else if 11 + 4 * a ≤ k ∧ k < 11 + 4 * a + q then k - 4 * a + 4 * b else k
theorem m_exch {s s' : Nat → Int32} {a b : Nat} (ha : a < 25) (hb : b < 25) (hn : (s 1).toNatClampNeg ≤ 10) (ta : 0 ≤ s (11 + 4 * a)) (tb : 0 ≤ s (11 + 4 * b)) (e : ∀ k, k < 181 → s' k = s (pm 4 a b k)) : mT s' = exch (mT s) a b := by
  have eo : ∀ k, k < 181 → ¬ (11 ≤ k ∧ k < 111) → s' k = s k := fun k hk hc => by
    rw [e k hk]; unfold pm; rw [if_neg (by omega), if_neg (by omega)]
  have el : ∀ l r, l < 25 → r < 4 → s' (11 + 4 * l + r) = if l = b then s (11 + 4 * a + r) else if l = a then s (11 + 4 * b + r) else s (11 + 4 * l + r) := fun l r hl hr => by
    rw [e _ (by omega)]
    unfold pm
    by_cases x1 : l = b
    · subst x1; rw [if_pos (by omega), if_pos rfl, show 11 + 4 * l + r - 4 * l + 4 * a = 11 + 4 * a + r by omega]
    · by_cases x2 : l = a
      · subst x2; rw [if_neg (by omega), if_pos (by omega), if_neg x1, if_pos rfl, show 11 + 4 * l + r - 4 * l + 4 * b = 11 + 4 * b + r by omega]
      · rw [if_neg (by omega), if_neg (by omega), if_neg x1, if_neg x2]
  have e0 : ∀ l, l < 25 → s' (11 + 4 * l) = if l = b then s (11 + 4 * a) else if l = a then s (11 + 4 * b) else s (11 + 4 * l) := fun l hl => el l 0 hl (by omega)
  have i1 : ∀ l, 12 + 4 * l = 11 + 4 * l + 1 := fun l => by omega
  have i2 : ∀ l, 13 + 4 * l = 11 + 4 * l + 2 := fun l => by omega
  have i3 : ∀ l, 14 + 4 * l = 11 + 4 * l + 3 := fun l => by omega
  have n1 := eo 1 (by omega) (by omega)
  refine Tx ?_ ?_ ?_ ?_ ?_ ?_ ?_ ?_ n1 (eo 0 (by omega) (by omega)) (eo 2 (by omega) (by omega))
  · funext l
    show (if l < 25 then s' (11 + 4 * l) else -1) = (if l = b then (mT s).K a else if l = a then (mT s).K b else (mT s).K l)
    rw [mK ha, mK hb]
    by_cases hl : l < 25
    · rw [if_pos hl, e0 l hl, mK hl]
    · rw [if_neg hl, if_neg (by omega), if_neg (by omega)]; exact (if_neg hl).symm
  · funext l
    show (if l < 25 ∧ 0 ≤ s' (11 + 4 * l) then s' (12 + 4 * l) else 0) = (if l = b then (mT s).O a else if l = a then (mT s).O b else (mT s).O l)
    rw [mO ha ta, mO hb tb]
    by_cases hl : l < 25
    · rw [e0 l hl, i1 l, el l 1 hl (by omega), i1 a, i1 b]
      by_cases x1 : l = b
      · rw [if_pos x1, if_pos x1, if_pos x1, if_pos ⟨hl, ta⟩]
      · by_cases x2 : l = a
        · rw [if_neg x1, if_pos x2, if_neg x1, if_pos x2, if_neg x1, if_pos x2, if_pos ⟨hl, tb⟩]
        · rw [if_neg x1, if_neg x2, if_neg x1, if_neg x2, if_neg x1, if_neg x2, ← i1 l]; rfl
    · rw [if_neg (by simp [hl]), if_neg (by omega), if_neg (by omega)]; exact (if_neg (by simp [hl])).symm
  · funext l
    show (if l < 25 ∧ 0 ≤ s' (11 + 4 * l) then s' (13 + 4 * l) else 0) = (if l = b then (mT s).H a else if l = a then (mT s).H b else (mT s).H l)
    rw [mH ha ta, mH hb tb]
    by_cases hl : l < 25
    · rw [e0 l hl, i2 l, el l 2 hl (by omega), i2 a, i2 b]
      by_cases x1 : l = b
      · rw [if_pos x1, if_pos x1, if_pos x1, if_pos ⟨hl, ta⟩]
      · by_cases x2 : l = a
        · rw [if_neg x1, if_pos x2, if_neg x1, if_pos x2, if_neg x1, if_pos x2, if_pos ⟨hl, tb⟩]
        · rw [if_neg x1, if_neg x2, if_neg x1, if_neg x2, if_neg x1, if_neg x2, ← i2 l]; rfl
    · rw [if_neg (by simp [hl]), if_neg (by omega), if_neg (by omega)]; exact (if_neg (by simp [hl])).symm
  · funext l
    show (if l < 25 ∧ 0 ≤ s' (11 + 4 * l) then s' (14 + 4 * l) else 0) = (if l = b then (mT s).P a else if l = a then (mT s).P b else (mT s).P l)
    rw [mP ha ta, mP hb tb]
    by_cases hl : l < 25
    · rw [e0 l hl, i3 l, el l 3 hl (by omega), i3 a, i3 b]
      by_cases x1 : l = b
      · rw [if_pos x1, if_pos x1, if_pos x1, if_pos ⟨hl, ta⟩]
      · by_cases x2 : l = a
        · rw [if_neg x1, if_pos x2, if_neg x1, if_pos x2, if_neg x1, if_pos x2, if_pos ⟨hl, tb⟩]
        · rw [if_neg x1, if_neg x2, if_neg x1, if_neg x2, if_neg x1, if_neg x2, ← i3 l]; rfl
    · rw [if_neg (by simp [hl]), if_neg (by omega), if_neg (by omega)]; exact (if_neg (by simp [hl])).symm
  · funext k i
    show (if k < 6 ∧ i < (s' 1).toNatClampNeg then s' (111 + 6 * i + k) else 0) = if k < 6 ∧ i < (s 1).toNatClampNeg then s (111 + 6 * i + k) else 0
    rw [n1]
    by_cases hl : k < 6 ∧ i < (s 1).toNatClampNeg
    · rw [if_pos hl, if_pos hl, eo _ (by omega) (by omega)]
    · rw [if_neg hl, if_neg hl]
  · funext l
    show (if l < 4 then s' (3 + l) else 0) = if l < 4 then s (3 + l) else 0
    by_cases hl : l < 4
    · rw [if_pos hl, if_pos hl, eo _ (by omega) (by omega)]
    · rw [if_neg hl, if_neg hl]
  · funext l
    show (if l < 4 then s' (7 + l) else 0) = if l < 4 then s (7 + l) else 0
    by_cases hl : l < 4
    · rw [if_pos hl, if_pos hl, eo _ (by omega) (by omega)]
    · rw [if_neg hl, if_neg hl]
  · funext l
    show (if l < 10 then s' (171 + l) else 0) = if l < 10 then s (171 + l) else 0
    by_cases hl : l < 10
    · rw [if_pos hl, if_pos hl, eo _ (by omega) (by omega)]
    · rw [if_neg hl, if_neg hl]
theorem m_sw0 {a b x3 x4 : Int32} {w : jx_V} : ∀ d o f w1, o + d = 4 → (∀ c, c ≠ 7 → w1 c = w c) → (∀ q, q < o → w1 7 q = w 6 q) → ∃ w2, f_X5_swap_L (f+d+1) 0 a b x3 x4 (nI o) 0 w1 = (f_X5_puts w2).bind (fun v25 => f_X5_swap_L f 1 a b x3 x4 0 0 v25) ∧ (∀ c, c ≠ 7 → w2 c = w c) ∧ (∀ q, q < 4 → w2 7 q = w 6 q)
  | 0, o, f, w1, ho, h1, h2 => by
    refine ⟨w1, ?_, h1, fun q hq => h2 q (by omega)⟩
    rw [f_X5_swap_L, if_pos rfl, if_pos (by rw [← n4, pI_le (by omega) (by omega)]; omega)]
  | d + 1, o, f, w1, ho, h1, h2 => by
    obtain ⟨w2, e, g1, g2⟩ := m_sw0 (a := a) (b := b) (x3 := x3) (x4 := x4) (w := w) d (o+1) f (jx_up w1 7 o (w1 6 o)) (by omega) (fun c hc => by rw [jx_up_ne hc]; exact h1 c hc) (fun q hq => by
      rw [up_g]
      by_cases e : q = o
      · rw [if_pos ⟨rfl, e⟩, e, h1 6 (by omega)]
      · rw [if_neg (by omega)]; exact h2 q (by omega))
    refine ⟨w2, ?_, g1, g2⟩
    rw [show f + (d + 1) + 1 = (f + d + 1) + 1 by omega, f_X5_swap_L, if_pos rfl, if_neg (by rw [← n4, pI_le (by omega) (by omega)]; omega)]
    simp only [tn (show o < 2147483648 by omega), ib (show o < 4 by omega) (by omega), if_false, nI_add1]
    exact e
theorem m_sw1 {a b : Nat} {x3 x4 : Int32} {w : jx_V} (ha : a < 25) (hb : b < 25) (h3 : ∀ k, k < 181 → w 3 k = w 1 k) : ∀ d q f w1, q + d = 4 → (∀ c, c ≠ 1 → w1 c = w c) → (∀ k, k < 181 → w1 1 k = w 1 (pm q a b k)) → ∃ w2, f_X5_swap_L (f+d+1) 1 (nI a) (nI b) x3 x4 (nI q) 0 w1 = (f_X5_findGains w2).bind (fun (r29, v29) => (f_X5_putsBack v29).bind (fun v30 => f_X5_swap_L f 2 (nI a) (nI b) x3 r29 0 0 v30)) ∧ (∀ c, c ≠ 1 → w2 c = w c) ∧ (∀ k, k < 181 → w2 1 k = w 1 (pm 4 a b k))
  | 0, q, f, w1, hq, h1, h2 => by
    refine ⟨w1, ?_, h1, fun k hk => by rw [← show q = 4 by omega]; exact h2 k hk⟩
    rw [f_X5_swap_L, if_neg (by decide), if_pos rfl, if_pos (by rw [← n4, pI_le (by omega) (by omega)]; omega)]
  | d + 1, q, f, w1, hq, h1, h2 => by
    obtain ⟨w2, e, g1, g2⟩ := m_sw1 (x3 := x3) (x4 := x4) (w := w) ha hb h3 d (q+1) f (jx_up (jx_up w1 1 (11+4*a+q) (w1 3 (11+4*b+q))) 1 (11+4*b+q) ((jx_up w1 1 (11+4*a+q) (w1 3 (11+4*b+q))) 3 (11+4*a+q))) (by omega) (fun c hc => by rw [jx_up_ne hc, jx_up_ne hc]; exact h1 c hc) (fun k hk => by
      rw [jx_up_ne (show 3 ≠ 1 by omega), up_g, up_g, h1 3 (by omega)]
      unfold pm
      by_cases x1 : k = 11 + 4 * b + q
      · rw [if_pos ⟨rfl, x1⟩, if_pos (by omega), h3 _ (by omega), x1, show 11 + 4 * b + q - 4 * b + 4 * a = 11 + 4 * a + q by omega]
      · by_cases x2 : k = 11 + 4 * a + q
        · rw [if_neg (by omega), if_pos ⟨rfl, x2⟩, if_neg (by omega), if_pos (by omega), h3 _ (by omega), x2, show 11 + 4 * a + q - 4 * a + 4 * b = 11 + 4 * b + q by omega]
        · rw [if_neg (by omega), if_neg (by omega), h2 k hk]
          unfold pm
          by_cases x3 : 11 + 4 * b ≤ k ∧ k < 11 + 4 * b + q
          · rw [if_pos x3, if_pos (by omega)]
          · rw [if_neg x3, if_neg (show ¬ (11 + 4 * b ≤ k ∧ k < 11 + 4 * b + (q + 1)) by omega)]
            by_cases x4 : 11 + 4 * a ≤ k ∧ k < 11 + 4 * a + q
            · rw [if_pos x4, if_pos (by omega)]
            · rw [if_neg x4, if_neg (show ¬ (11 + 4 * a ≤ k ∧ k < 11 + 4 * a + (q + 1)) by omega)])
    refine ⟨w2, ?_, g1, g2⟩
    rw [show f + (d + 1) + 1 = (f + d + 1) + 1 by omega, f_X5_swap_L, if_neg (by decide), if_pos rfl, if_neg (by rw [← n4, pI_le (by omega) (by omega)]; omega)]
    simp only [f_X5_at, at_n, Option.bind_some, tn (show 11 + 4 * a + q < 2147483648 by omega), ib (show 11 + 4 * a + q < 181 by omega) (by omega), tn (show 11 + 4 * b + q < 2147483648 by omega), ib (show 11 + 4 * b + q < 181 by omega) (by omega), if_false, nI_add1]
    exact e
theorem cmp_L {v w : jx_V} {a b a' b' x3 x4 : Int32} (hg : ∀ o, o < 4 → v 65 o = w 6 o) (hh : ∀ o, o < 4 → v 64 o = w 7 o) : ∀ d o f f' n, o + d = 4 → d < f → d < f' → ∃ r, f_X4_swap_L f a b n (nI o) v = some (r, v) ∧ f_X5_swap_L f' 2 a' b' x3 x4 n (nI o) w = some (r, w) := by
  intro d
  induction d with
  | zero =>
    intro o f f' n ho hf hf'
    obtain ⟨f, rfl⟩ : ∃ q, f = q + 1 := ⟨f - 1, by omega⟩
    obtain ⟨f', rfl⟩ : ∃ q, f' = q + 1 := ⟨f' - 1, by omega⟩
    refine ⟨n, ?_, ?_⟩
    · rw [f_X4_swap_L, if_pos (by rw [← n4, pI_le (by omega) (by omega)]; omega)]
    · rw [f_X5_swap_L, if_neg (by decide), if_neg (by decide), if_pos rfl, if_pos (by rw [← n4, pI_le (by omega) (by omega)]; omega)]
  | succ d ih =>
    intro o f f' n ho hf hf'
    obtain ⟨f, rfl⟩ : ∃ q, f = q + 1 := ⟨f - 1, by omega⟩
    obtain ⟨f', rfl⟩ : ∃ q, f' = q + 1 := ⟨f' - 1, by omega⟩
    rw [f_X4_swap_L, if_neg (by rw [← n4, pI_le (by omega) (by omega)]; omega), f_X5_swap_L, if_neg (show ¬ (2 : Nat) = 0 by decide), if_neg (show ¬ (2 : Nat) = 1 by decide), if_pos (show (2 : Nat) = 2 from rfl), if_neg (show ¬ (4 : Int32) ≤ nI o by rw [← n4, pI_le (by omega) (by omega)]; omega)]
    have j : ∀ x y, f_J6_compare_7cf53 x y v = some (if y ≤ x then (if x = y then 0 else 1) else -1, v) := by
      intro x y; unfold f_J6_compare_7cf53; grind
    simp only [tn (show o < 2147483648 by omega), ib (show o < 4 by omega) (by omega), if_false, nI_add1, j, Option.bind_some, hg o (by omega), hh o (by omega)]
    by_cases c1 : w 6 o ≤ w 7 o
    · rw [if_pos c1]
      by_cases c2 : w 7 o ≤ w 6 o
      · rw [if_pos c2, if_pos c2, if_pos (show w 6 o = w 7 o by grind)]
        exact ih (o+1) f f' (n+0) (by omega) (by omega) (by omega)
      · rw [if_neg c2, if_neg c2]
        exact ih (o+1) f f' (n+(-1)) (by omega) (by omega) (by omega)
    · rw [if_neg c1, if_pos (show w 7 o ≤ w 6 o by grind), if_neg (show ¬ w 6 o = w 7 o by grind)]
      exact ih (o+1) f f' (n+1) (by omega) (by omega) (by omega)

theorem q_swap {v w a b} (h : R v w) : Q (f_X4_swap a b v) (f_X5_swap a b w) := by
  unfold f_X4_swap f_X5_swap
  generalize hG4 : f_X4_swap_L 100000 = g4
  generalize hG5 : f_X5_swap_L 100000 = g5
  simp only [x_w25, m_isLot, Option.bind_some, x_f0, m_f0]
  by_cases c1 : 0 ≤ a ∧ a ≤ 24
  · by_cases c2 : 0 ≤ b ∧ b ≤ 24
    · obtain ⟨i, hi, rfl⟩ := ix (n := 24) rfl (by omega) c1
      obtain ⟨j, hj, rfl⟩ := ix (n := 24) rfl (by omega) c2
      simp only [if_pos c1, if_pos c2, o10, if_false, x_taken hi, x_taken hj, m_thing hi, m_thing hj, Option.bind_some, Nat.reduceAdd, tk h hi, tk h hj, x_f3, m_f3]
      by_cases ta : w 1 (11 + 4 * i) < 0
      · simp only [if_pos ta, z00, if_true, b40, if_false]; exact Q_f h
      · by_cases tb : w 1 (11 + 4 * j) < 0
        · simp only [if_neg ta, if_pos tb, z00, o10, if_true, b40, if_false]; exact Q_f h
        · simp only [if_neg ta, if_neg tb, z00, o10, if_true, if_false]
          have ta' := Int32.not_lt.mp ta
          have tb' := Int32.not_lt.mp tb
          obtain ⟨M, hM, eM, eM2⟩ := mn h.ok'
          obtain ⟨v1, e1, g1, hg1⟩ := x_gains (h := 1) (r := 64) (by omega) (by omega) h.ok
          obtain ⟨w1, d1, f1, hf1⟩ := m_gains h.ok'
          have r1 := R_fr h (GR_SX (by omega) g1) (FM_SM f1)
          have k1 : w1 1 = w 1 := FM_1 f1
          have ta1 : 0 ≤ v1 (1 + 3) i := by show 0 ≤ v1 4 i; rw [tk r1 hi, k1]; exact ta'
          have tb1 : 0 ≤ v1 (1 + 3) j := by show 0 ≤ v1 4 j; rw [tk r1 hj, k1]; exact tb'
          obtain ⟨v2, e2, h2a, h2b⟩ := x_exch (h := 1) (v := v1) hi hj
          have t2 : cT 1 v2 = exch (cT 1 v1) i j := c_exch hi hj ta1 tb1 h2a h2b
          obtain ⟨v3, e3, g3, hg3⟩ := x_gains (h := 1) (r := 65) (v := v2) (by omega) (by omega) (by rw [t2]; exact OK_exch r1.ok)
          obtain ⟨v4, e4, h4a, h4b⟩ := x_exch (h := 1) (v := v3) hi hj
          obtain ⟨w2, d2, a2, b2⟩ := m_sw0 (a := nI i) (b := nI j) (x3 := 0) (x4 := rs (mT (w 1))) (w := w1) 4 0 99995 w1 (by omega) (fun _ _ => rfl) (fun q hq => by omega)
          obtain ⟨w3, d3, p3⟩ := m_puts (w := w2)
          have k3 : w3 1 = w 1 := by rw [p3.1 1 (by omega), a2 1 (by omega), k1]
          obtain ⟨w4, d4, a4, b4⟩ := m_sw1 (a := i) (b := j) (x3 := 0) (x4 := rs (mT (w 1))) (w := w3) hi hj (fun k hk => by rw [p3.2 k hk, p3.1 1 (by omega)]) 4 0 99990 w3 (by omega) (fun _ _ => rfl) (fun k hk => by unfold pm; rw [if_neg (by omega), if_neg (by omega)])
          have t4 : mT (w4 1) = exch (mT (w 1)) i j := by
            rw [← k3]
            exact m_exch hi hj (by rw [k3]; omega) (by rw [k3]; exact ta') (by rw [k3]; exact tb') b4
          obtain ⟨w5, d5, f5, hf5⟩ := m_gains (w := w4) (by rw [t4]; exact OK_exch h.ok')
          obtain ⟨w6, d6, p6⟩ := m_back (w := w5)
          -- its rows
          have sx : SX v v4 := by
            refine SX_t (GR_SX (by omega) g1) ⟨fun c hc => ?_, ?_⟩
            · by_cases x : c < 1 + 3 ∨ 1 + 7 ≤ c
              · rw [h4a c x, g3 c (by omega) (by omega), h2a c x]
              · obtain ⟨r, hr, rfl⟩ : ∃ r, r < 4 ∧ c = 1 + 3 + r := ⟨c - 4, by omega, by omega⟩
                rw [h4b r hr, g3 (1 + 3 + r) (by omega) (by omega), h2b r hr, sw_sw]
            · rw [h4a 53 (by omega), g3 53 (by omega) (by omega), h2a 53 (by omega)]
          have e6 : mT (w6 1) = cT 1 v := by
            rw [h.t]
            exact mT_eq (fun k hk => by rw [p6.2 k hk, f5.1 3 (by omega) (by omega) (by omega), a4 3 (by omega), p3.2 k hk, a2 1 (by omega), k1]) (by omega)
          have c6 : ∀ c, (c = 2 ∨ (8 ≤ c ∧ c < 12)) → w6 c = w c := fun c hc => by
            rw [p6.1 c (by omega), f5.1 c (by omega) (by omega) (by omega), a4 c (by omega), p3.1 c (by omega), a2 c (by omega), f1.1 c (by omega) (by omega) (by omega)]
          have c0 : ∀ q, q ≠ 6 → q ≠ 7 → q ≠ 8 → w6 0 q = w 0 q := fun q q6 q7 q8 => by
            rw [p6.1 0 (by omega), f5.2 q q6 q7 q8, a4 0 (by omega), p3.1 0 (by omega), a2 0 (by omega), f1.2 q q6 q7 q8]
          have r6 : R v4 w6 := R_town h (T := cT 1 v) (fun c hc => sx.1 c (by omega)) sx.2 c6 (c0 4 (by omega) (by omega) (by omega)) (c0 12 (by omega) (by omega) (by omega)) (SX_c (by omega) sx) e6 h.ok
          have et : exch (cT 1 v1) i j = exch (mT (w 1)) i j := by rw [r1.t, k1]
          have hg : ∀ o, o < 4 → v4 65 o = w6 6 o := fun o ho => by
            rw [h4a 65 (by omega), hg3 o ho, t2, et, p6.1 6 (by omega), hf5 o ho, t4]
          have hh : ∀ o, o < 4 → v4 64 o = w6 7 o := fun o ho => by
            rw [h4a 64 (by omega), g3 64 (by omega) (by omega), h2a 64 (by omega), hg1 o ho, h.t, p6.1 7 (by omega), f5.1 7 (by omega) (by omega) (by omega), a4 7 (by omega), p3.1 7 (by omega), b2 o ho, hf1 o ho]
          rw [d3, Option.bind_some] at d2
          rw [d5, Option.bind_some] at d4
          dsimp only at d2 d4
          rw [d6, Option.bind_some] at d4
          obtain ⟨r, x1, x2⟩ := cmp_L (v := v4) (w := w6) (a := nI i) (b := nI j) (a' := nI i) (b' := nI j) (x3 := 0) (x4 := rs (mT (w4 1))) hg hh 4 0 100000 99990 0 (by omega) (by omega) (by omega)
          simp only [e1, e2, e3, e4, Option.bind_some]
          rw [d1, Option.bind_some]
          dsimp only
          subst hG4 hG5
          exact ⟨r, v4, w6, x1, d2.trans (d4.trans x2), r6⟩
    · simp only [if_pos c1, if_neg c2, o10, z00, if_true, if_false, b10]; exact Q_f h
  · simp only [if_neg c1, z00, if_true, b10, if_false]; exact Q_f h
theorem R_sh {v w v' w'} (h : R v w) (a : ∀ c, (c < 33 ∨ c = 54) → v' c = v c) (a2 : v' 53 1 = v 53 1) (b : ∀ c, (c = 1 ∨ c = 2 ∨ c = 8) → w' c = w c) (b2 : w' 0 4 = w 0 4) (b3 : w' 0 12 = w 0 12) (s : ∀ s, s < 4 → v' 61 s = w' 9 s ∧ v' 62 s = w' 10 s ∧ (∃ L, L ≤ 40 ∧ v' 62 s = nI L) ∧ ∀ i, i < 40 → v' (57 + s) i = w' 11 (40 * s + i)) : R v' w' := by
  have e0 : v' 0 = v 0 := a 0 (by omega)
  have e1 : cT 1 v' = cT 1 v := cT_congr (fun c _ _ => a c (by omega))
  have e17 : cT 17 v' = cT 17 v := cT_congr (fun c _ _ => a c (by omega))
  refine R.mk ?_ ?_ ?_ ?_ ?_ ?_ ?_ ?_ s
  · rw [e1, b 1 (by omega)]; exact h.t
  · rw [e1]; exact h.ok
  · rw [e0, b2]; exact h.k
  · rw [e0]; exact h.kb
  · rw [e0, e17, b 2 (by omega)]; exact h.kt
  · rw [a2, b3]; exact h.tl
  · rw [a2]; exact h.tr
  · rw [a 54 (by omega), b 8 (by omega)]; exact h.tb
theorem x_begin {s F : Nat} {x2 x3 : Int32} {v1 : jx_V} (hs : s < 4) (hF : 40 < F) : ∃ v', f_X1_begin_L F (nI s) x2 x3 0 v1 = some v' ∧ (∀ c, c ≠ 57 + s → v' c = v1 c) ∧ ∀ i, i < 40 → v' (57 + s) i = 0 := by
  have : ∀ d i f v2, i + d = 40 → d < f → (∀ c, c ≠ 57 + s → v2 c = v1 c) → (∀ k, k < i → v2 (57 + s) k = 0) → ∃ v', f_X1_begin_L f (nI s) x2 x3 (nI i) v2 = some v' ∧ (∀ c, c ≠ 57 + s → v' c = v1 c) ∧ ∀ i, i < 40 → v' (57 + s) i = 0 := by
    intro d
    induction d with
    | zero =>
      intro i f v2 hi hf h1 h2
      obtain ⟨f, rfl⟩ : ∃ q, f = q + 1 := ⟨f - 1, by omega⟩
      refine ⟨v2, ?_, h1, fun k hk => h2 k (by omega)⟩
      rw [f_X1_begin_L, if_pos (by rw [show (40 : Int32) = nI 40 from rfl, pI_le (by omega) (by omega)]; omega)]
    | succ d ih =>
      intro i f v2 hi hf h1 h2
      obtain ⟨f, rfl⟩ : ∃ q, f = q + 1 := ⟨f - 1, by omega⟩
      rw [f_X1_begin_L, if_neg (by rw [show (40 : Int32) = nI 40 from rfl, pI_le (by omega) (by omega)]; omega)]
      simp only [tn (show s < 2147483648 by omega), ib hs (by omega), tn (show i < 2147483648 by omega), ib (show i < 40 by omega) (by omega), if_false, nI_add1]
      refine ih (i+1) f _ (by omega) (by omega) (fun c hc => by rw [jx_up_ne hc]; exact h1 c hc) (fun k hk => ?_)
      rw [up_g]
      by_cases e : k = i
      · rw [if_pos ⟨rfl, e⟩]
      · rw [if_neg (by omega)]; exact h2 k (by omega)
  exact this 40 0 F v1 (by omega) (by omega) (fun _ _ => rfl) (fun k hk => by omega)
theorem f40 {s i : Nat} : 40 * nI s + nI i = nI (40 * s + i) := by unfold nI; simp [Int32.ofNat_add, Int32.ofNat_mul]
theorem m_begin {s F : Nat} {x2 x3 : Int32} {w1 : jx_V} (hs : s < 4) (hF : 40 < F) : ∃ w', f_X5_sheet_L F (nI s) x2 x3 0 w1 = some (w' 10 s, w') ∧ (∀ c, c ≠ 11 → w' c = w1 c) ∧ ∀ k, w' 11 k = if 40 * s ≤ k ∧ k < 40 * s + 40 then 0 else w1 11 k := by
  have : ∀ d i f w2, i + d = 40 → d < f → (∀ c, c ≠ 11 → w2 c = w1 c) → (∀ k, w2 11 k = if 40 * s ≤ k ∧ k < 40 * s + i then 0 else w1 11 k) → ∃ w', f_X5_sheet_L f (nI s) x2 x3 (nI i) w2 = some (w' 10 s, w') ∧ (∀ c, c ≠ 11 → w' c = w1 c) ∧ ∀ k, w' 11 k = if 40 * s ≤ k ∧ k < 40 * s + 40 then 0 else w1 11 k := by
    intro d
    induction d with
    | zero =>
      intro i f w2 hi hf h1 h2
      obtain ⟨f, rfl⟩ : ∃ q, f = q + 1 := ⟨f - 1, by omega⟩
      obtain rfl : i = 40 := by omega
      refine ⟨w2, ?_, h1, h2⟩
      rw [f_X5_sheet_L, if_pos (by rw [show (40 : Int32) = nI 40 from rfl, pI_le (by omega) (by omega)]; omega)]
      simp only [tn (show s < 2147483648 by omega), ib hs (by omega), if_false]
    | succ d ih =>
      intro i f w2 hi hf h1 h2
      obtain ⟨f, rfl⟩ : ∃ q, f = q + 1 := ⟨f - 1, by omega⟩
      rw [f_X5_sheet_L, if_neg (by rw [show (40 : Int32) = nI 40 from rfl, pI_le (by omega) (by omega)]; omega)]
      simp only [f40, tn (show 40 * s + i < 2147483648 by omega), ib (show 40 * s + i < 160 by omega) (by omega), if_false, nI_add1]
      refine ih (i+1) f _ (by omega) (by omega) (fun c hc => by rw [jx_up_ne hc]; exact h1 c hc) (fun k => ?_)
      rw [up_g]
      by_cases e : k = 40 * s + i
      · rw [if_pos ⟨rfl, e⟩, if_pos (by omega)]
      · rw [if_neg (by omega), h2 k]
        by_cases x : 40 * s ≤ k ∧ k < 40 * s + i
        · rw [if_pos x, if_pos (by omega)]
        · rw [if_neg x, if_neg (by omega)]
  exact this 40 0 F w1 (by omega) (by omega) (fun _ _ => rfl) (fun k => by rw [if_neg (by omega)])
theorem sh_core {v w : jx_V} {s F F' : Nat} {x2 x3 y2 y3 bits len : Int32} (h : R v w) (hs : s < 4) (hl : ∃ L, L ≤ 40 ∧ len = nI L) (hF : 40 < F) (hF' : 40 < F') :
    Q ((f_X1_begin_L F (nI s) x2 x3 0 (jx_up (jx_up v 61 s bits) 62 s len)).bind (fun v7 => some (v7 62 s, v7))) (f_X5_sheet_L F' (nI s) y2 y3 0 (jx_up (jx_up w 9 s bits) 10 s len)) := by
  obtain ⟨v', e1, a1, b1⟩ := x_begin (s := s) (F := F) (x2 := x2) (x3 := x3) (v1 := jx_up (jx_up v 61 s bits) 62 s len) hs hF
  obtain ⟨w', e2, a2, b2⟩ := m_begin (s := s) (F := F') (x2 := y2) (x3 := y3) (w1 := jx_up (jx_up w 9 s bits) 10 s len) hs hF'
  have v62 : v' 62 = upd (v 62) s len := by rw [a1 62 (by omega), up_c, jx_up_ne (by omega)]
  have v61 : v' 61 = upd (v 61) s bits := by rw [a1 61 (by omega), jx_up_ne (by omega), up_c]
  have w10 : w' 10 = upd (w 10) s len := by rw [a2 10 (by omega), up_c, jx_up_ne (by omega)]
  have w9 : w' 9 = upd (w 9) s bits := by rw [a2 9 (by omega), jx_up_ne (by omega), up_c]
  rw [e1, e2, Option.bind_some]
  rw [show v' 62 s = w' 10 s by rw [v62, w10]; unfold upd; rw [if_pos rfl, if_pos rfl]]
  refine Q_i (R_sh h (fun c hc => ?_) ?_ (fun c hc => ?_) ?_ ?_ (fun q hq => ?_))
  · rw [a1 c (by omega), jx_up_ne (by omega), jx_up_ne (by omega)]
  · rw [a1 53 (by omega), jx_up_ne (by omega), jx_up_ne (by omega)]
  · rw [a2 c (by omega), jx_up_ne (by omega), jx_up_ne (by omega)]
  · rw [a2 0 (by omega), jx_up_ne (by omega), jx_up_ne (by omega)]
  · rw [a2 0 (by omega), jx_up_ne (by omega), jx_up_ne (by omega)]
  · rw [v61, v62, w9, w10]
    have hq' := h.s q hq
    unfold upd
    by_cases e : q = s
    · subst e
      rw [if_pos rfl, if_pos rfl, if_pos rfl, if_pos rfl]
      refine ⟨rfl, rfl, hl, fun i hi => ?_⟩
      rw [b1 i hi, b2, if_pos (by omega)]
    · rw [if_neg e, if_neg e, if_neg e, if_neg e]
      refine ⟨hq'.1, hq'.2.1, hq'.2.2.1, fun i hi => ?_⟩
      rw [a1 (57+q) (by omega), b2, if_neg (by omega), jx_up_ne (by omega), jx_up_ne (by omega), jx_up_ne (by omega), jx_up_ne (by omega)]
      exact hq'.2.2.2 i hi
theorem q_sheet {v w a b c} (h : R v w) : Q (f_X4_sheet a b c v) (f_X5_sheet a b c w) := by
  unfold f_X4_sheet f_X5_sheet f_X1_begin
  generalize hF4 : (100000 : Nat) = F
  simp only [x_w4, m_isOne, Option.bind_some, x_f0, m_f0, x_f6, m_f6]
  by_cases c1 : 0 ≤ a ∧ a ≤ 3
  · obtain ⟨s, hs, rfl⟩ := ix (n := 3) rfl (by omega) c1
    simp only [if_pos c1, o10, if_false, tn (show s < 2147483648 by omega), ib hs (by omega)]
    by_cases b0 : b = 0
    · subst b0
      simp only [if_true]
      by_cases c2 : 0 ≤ c
      · by_cases c3 : c ≤ 40
        · rw [if_pos c2, if_pos c3, if_pos c2, if_pos c3]
          exact sh_core h hs ⟨0, by omega, rfl⟩ (by omega) (by omega)
        · rw [if_pos c2, if_neg c3, if_pos c2, if_neg c3]; exact Q_f h
      · rw [if_neg c2, if_neg c2]; exact Q_f h
    · simp only [b0, if_false]
      have core : Q (if 0 ≤ c then if c ≤ 40 then (f_X1_begin_L F (nI s) b c 0 (jx_up (jx_up v 61 s b) 62 s c)).bind (fun v7 => some (v7 62 s, v7)) else some (-1000001, jx_up v 63 0 (v 63 0 + 1)) else some (-1000007, jx_up v 63 6 (v 63 6 + 1)))
          (if 0 ≤ c then if c ≤ 40 then f_X5_sheet_L F (nI s) b c 0 (jx_up (jx_up w 9 s b) 10 s c) else some (-1000001, jx_up w 4 0 (w 4 0 + 1)) else some (-1000007, jx_up w 4 6 (w 4 6 + 1))) := by
        by_cases c2 : 0 ≤ c
        · by_cases c3 : c ≤ 40
          · rw [if_pos c2, if_pos c3, if_pos c2, if_pos c3]
            obtain ⟨L, hL, eL⟩ := ix (n := 40) rfl (by omega) ⟨c2, c3⟩
            exact sh_core h hs ⟨L, by omega, eL⟩ (by omega) (by omega)
          · rw [if_pos c2, if_neg c3, if_pos c2, if_neg c3]; exact Q_f h
        · rw [if_neg c2, if_neg c2]; exact Q_f h
      by_cases b8 : b = 8
      · rw [if_pos b8, if_pos b8]; exact core
      · rw [if_neg b8, if_neg b8]
        by_cases b16 : b = 16
        · rw [if_pos b16, if_pos b16]; exact core
        · rw [if_neg b16, if_neg b16]
          by_cases b32 : b = 32
          · rw [if_pos b32, if_pos b32]; exact core
          · rw [if_neg b32, if_neg b32]; exact Q_f h
  · simp only [if_neg c1, z00, if_true]; exact Q_f h
theorem x_miss {s : Nat} {v : jx_V} (hs : s < 4) : f_X1_isMissing (nI s) v = some (if v 61 s = 0 then 1 else 0, v) := by
  unfold f_X1_isMissing
  simp only [tn (show s < 2147483648 by omega), ib hs (by omega), if_false]
  split <;> rfl
theorem m_wrong {x} {w : jx_V} : (¬ (0 ≤ x ∧ x ≤ 3) → f_X5_wrong x w = some (-1000001, w)) ∧ ∀ s, s < 4 → f_X5_wrong (nI s) w = some (if w 9 s = 0 then -1000006 else 0, w) := by
  unfold f_X5_wrong
  constructor
  · intro c; simp only [m_isOne, Option.bind_some, if_neg c, z00, if_true]
  · intro s hs
    have c : 0 ≤ nI s ∧ nI s ≤ 3 := ⟨pI_pos (by omega), by rw [← n3, pI_le (by omega) (by omega)]; omega⟩
    simp only [m_isOne, Option.bind_some, if_pos c, o10, if_false, tn (show s < 2147483648 by omega), ib hs (by omega)]
    split <;> rfl
theorem R_num {v w : jx_V} {s i : Nat} {x : Int32} (h : R v w) (hs : s < 4) (hi : i < 40) : R (jx_up v (57 + s) i x) (jx_up w 11 (40 * s + i) x) := by
  refine R_sh h (fun c hc => jx_up_ne (by omega)) (by rw [jx_up_ne (by omega)]) (fun c hc => jx_up_ne (by omega)) (by rw [jx_up_ne (by omega)]) (by rw [jx_up_ne (by omega)]) (fun q hq => ?_)
  have hq' := h.s q hq
  rw [jx_up_ne (by omega), jx_up_ne (by omega), jx_up_ne (by omega), jx_up_ne (by omega)]
  refine ⟨hq'.1, hq'.2.1, hq'.2.2.1, fun k hk => ?_⟩
  rw [up_g, up_g]
  by_cases e : q = s ∧ k = i
  · rw [if_pos (by omega), if_pos (by omega)]
  · rw [if_neg (by omega), if_neg (by omega)]; exact hq'.2.2.2 k hk
theorem q_write {v w a b c} (h : R v w) : Q (f_X4_write a b c v) (f_X5_write a b c w) := by
  unfold f_X4_write f_X5_write
  simp only [x_w4, Option.bind_some, x_f0, x_f5]
  by_cases c1 : 0 ≤ a ∧ a ≤ 3
  · obtain ⟨s, hs, rfl⟩ := ix (n := 3) rfl (by omega) c1
    obtain ⟨e61, e62, ⟨L, hL, eL⟩, _⟩ := h.s s hs
    simp only [if_pos c1, o10, if_false, x_miss hs, (m_wrong (x := 0) (w := w)).2 s hs, Option.bind_some, e61, tn (show s < 2147483648 by omega), ib hs (by omega)]
    by_cases m0 : w 9 s = 0
    · simp only [if_pos m0, o10, b60, if_false, m_f5, Option.bind_some]; exact Q_f h
    · simp only [if_neg m0, z00, if_true, x_wi, m_in_0_v, Option.bind_some, ← e62, eL, m_f0]
      by_cases c2 : 0 ≤ b ∧ b < nI L
      · obtain ⟨i, hi, rfl⟩ := nI_ex (by omega) c2.1 c2.2
        have c2' : 0 ≤ nI i ∧ nI i ≤ nI L - 1 := ⟨c2.1, by
          have h1 : nI L ≤ 40 := by rw [show (40 : Int32) = nI 40 from rfl, pI_le (by omega) (by omega)]; omega
          have h2 := c2.2
          have h3 := c2.1
          grind⟩
        rw [if_pos c2, if_pos c2']
        simp only [o10, if_false, f_X1_store, f_X5_narrowed, e61, f40, tn (show s < 2147483648 by omega), ib hs (by omega), tn (show i < 2147483648 by omega), ib (show i < 40 by omega) (by omega), tn (show 40 * s + i < 2147483648 by omega), ib (show 40 * s + i < 160 by omega) (by omega)]
        by_cases b8 : w 9 s = 8
        · simp only [if_pos b8, Option.bind_some, f40, tn (show 40 * s + i < 2147483648 by omega), ib (show 40 * s + i < 160 by omega) (by omega), if_false]; exact Q_i (R_num h hs (by omega))
        · by_cases b16 : w 9 s = 16
          · simp only [if_neg b8, if_pos b16, Option.bind_some, f40, tn (show 40 * s + i < 2147483648 by omega), ib (show 40 * s + i < 160 by omega) (by omega), if_false]; exact Q_i (R_num h hs (by omega))
          · simp only [if_neg b8, if_neg b16, Option.bind_some, f40, tn (show 40 * s + i < 2147483648 by omega), ib (show 40 * s + i < 160 by omega) (by omega), if_false]; exact Q_i (R_num h hs (by omega))
      · have c2' : ¬ (0 ≤ b ∧ b ≤ nI L - 1) := fun q => c2 ⟨q.1, by
          have h1 : nI L ≤ 40 := by rw [show (40 : Int32) = nI 40 from rfl, pI_le (by omega) (by omega)]; omega
          have h2 := pI_pos (show L < 2147483648 by omega)
          have h3 := q.2
          grind⟩
        rw [if_neg c2, if_neg c2']
        simp only [z00, if_true]; exact Q_f h
  · simp only [if_neg c1, z00, if_true, (m_wrong (w := w)).1 c1, Option.bind_some, b10, if_false, m_f0]; exact Q_f h
