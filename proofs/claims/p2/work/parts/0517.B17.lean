theorem gr_rem {T l q} (h : q ≠ l) : gr (rem T l) q = gr T q := by
  unfold gr
  rw [show (rem T l).K q = T.K q from if_neg h, show (rem T l).m = T.m from rfl]
theorem grow_rem {T l} : grow (rem T l) = rem (grow T) l := by
  refine Tx rfl rfl ?_ rfl rfl rfl rfl rfl rfl rfl rfl
  funext q
  show (if q < 25 ∧ 0 ≤ (if q = l then -1 else T.K q) then cap ((if q = l then 0 else T.H q) + gr (rem T l) q) else 0) = if q = l then 0 else if q < 25 ∧ 0 ≤ T.K q then cap (T.H q + gr T q) else 0
  by_cases e : q = l
  · subst e; simp
  · simp only [if_neg e]
    rw [gr_rem e]
theorem git_rem {T l} : ∀ n, git (rem T l) n = rem (git T n) l
  | 0 => rfl
  | n + 1 => by rw [git, git_rem n, grow_rem]; rfl
def BI (w w1 : jx_V) : Prop := (∀ k, k < 181 → w1 1 k = w 1 k) ∧ (∀ k, k < 181 → w1 3 k = w 1 k) ∧ (∀ c, c ≠ 0 → c ≠ 1 → c ≠ 3 → c ≠ 5 → c ≠ 6 → w1 c = w c) ∧ ∀ i, i ≠ 6 → i ≠ 7 → i ≠ 8 → w1 0 i = w 0 i
theorem BI_R {v w v' w'} (h : R v w) (a : SX v v') (b : BI w w') : R v' w' := by
  obtain ⟨M, hM, eM, eM2⟩ := mn h.ok'
  have e : mT (w' 1) = mT (w 1) := mT_eq b.1 (by omega)
  exact R_town h (T := cT 1 v) (fun c hc => a.1 c (by omega)) a.2 (fun c hc => b.2.2.1 c (by omega) (by omega) (by omega) (by omega) (by omega)) (b.2.2.2 4 (by omega) (by omega) (by omega)) (b.2.2.2 12 (by omega) (by omega) (by omega)) (SX_c (by omega) a) (by rw [e, h.t]) h.ok
theorem BI_p {w w1} (p : CP 1 3 181 w w1) : BI w w1 := ⟨fun k _ => by rw [p.1 1 (by omega)], p.2, fun c _ _ h3 _ _ => p.1 c h3, fun i _ _ _ => by rw [p.1 0 (by omega)]⟩
theorem BI_b {w w1 w2 w'} (b : BI w w1) (y : FY w1 w2) (p : CP 3 1 181 w2 w') : BI w w' := by
  refine ⟨fun k hk => ?_, fun k hk => ?_, fun c h0 h1 h3 h5 h6 => ?_, fun i h6 h7 h8 => ?_⟩
  · rw [p.2 k hk, y.1 3 (by omega) (by omega) (by omega) (by omega)]; exact b.2.1 k hk
  · rw [p.1 3 (by omega), y.1 3 (by omega) (by omega) (by omega) (by omega)]; exact b.2.1 k hk
  · rw [p.1 c h1, y.1 c h0 h1 h5 h6]; exact b.2.2.1 c h0 h1 h3 h5 h6
  · rw [p.1 0 (by omega), y.2 i h6 h7 h8]; exact b.2.2.2 i h6 h7 h8
theorem x_without {i l : Nat} {v1 : jx_V} {T : Tn} (hT : OK T) (hi : i < nw T) (hl : l < 25) (t1 : cT 33 v1 = T) : ∃ v4, f_X4_isBrokenWithout (nI l) (nI i) v1 = some (if br (rem T l) i then 1 else 0, v4) ∧ G v1 v4 := by
  have e2 : cT 33 (jx_up v1 36 l (-1)) = rem T l := by rw [← t1]; exact c_off (h := 33) hl
  have en : (jx_up v1 36 l (-1)) 33 5 = T.n := by rw [jx_up_ne (by omega), ← t1]; rfl
  obtain ⟨v3, e3, g3⟩ := x_broken (h := 33) (i := i) (v := jx_up v1 36 l (-1)) (by omega) (by rw [e2]; exact OK_rem hT) (by rw [en]; exact hi)
  rw [e2] at e3
  refine ⟨jx_up v3 36 l (v1 36 l), ?_, ?_⟩
  · unfold f_X4_isBrokenWithout
    simp only [tn (show l < 2147483648 by omega), ib hl (by omega), if_false, x_off hl, Option.bind_some, Nat.reduceAdd, e3, bb]
  · intro c hc
    by_cases e : c = 36
    · subst e
      rw [up_c, g3 36 (by omega), up_c]
      funext k
      unfold upd
      by_cases e : k = l
      · rw [if_pos e, e]
      · rw [if_neg e, if_neg e]
    · rw [jx_up_ne e, g3 c hc, jx_up_ne e]
theorem blame_L {v w : jx_V} {i n : Nat} (h : R v w) (hi : i < (v 1 5).toNatClampNeg) (hn : n ≤ 120) : ∀ d l f v1 w1, l + d = 25 → d + 1 < f → SX v v1 → cT 33 v1 = git (cT 1 v) n → BI w w1 →
    Q (f_X4_blame_L f (nI i) (nI l) v1) (f_X5_blame_L f (nI i) (nI n) (-1) (nI l) w1) := by
  obtain ⟨N, hN, eN, eN2⟩ := cn h.ok
  obtain ⟨M, hM, eM, eM2⟩ := mn h.ok'
  intro d
  induction d with
  | zero =>
    intro l f v1 w1 hl hf sx t1 bi
    obtain ⟨f, rfl⟩ : ∃ q, f = q + 1 := ⟨f - 1, by omega⟩
    rw [f_X4_blame_L, if_pos (by rw [show (25 : Int32) = nI 25 from rfl, pI_le (by omega) (by omega)]; omega), f_X5_blame_L, if_pos (show (25 : Int32) ≤ nI l by rw [show (25 : Int32) = nI 25 from rfl, pI_le (by omega) (by omega)]; omega), if_neg (by decide)]
    simp only [x_f3, m_f3, Option.bind_some]
    exact Q_f (BI_R h sx bi)
  | succ d ih =>
    intro l f v1 w1 hl hf sx t1 bi
    obtain ⟨f, rfl⟩ : ∃ q, f = q + 1 := ⟨f - 1, by omega⟩
    have hl' : l < 25 := by omega
    have em : mT (w1 1) = cT 1 v := by rw [h.t]; exact mT_eq bi.1 (by omega)
    have eK : v1 36 l = w1 1 (11 + 4 * l) := by
      have x1 : (cT 33 v1).K l = v1 36 l := cK hl'
      have x2 : (mT (w1 1)).K l = w1 1 (11 + 4 * l) := mK hl'
      rw [← x1, ← x2, t1, em, K_git]
    rw [f_X4_blame_L, if_neg (by rw [show (25 : Int32) = nI 25 from rfl, pI_le (by omega) (by omega)]; omega), f_X5_blame_L, if_neg (show ¬ (25 : Int32) ≤ nI l by rw [show (25 : Int32) = nI 25 from rfl, pI_le (by omega) (by omega)]; omega), if_neg (show ¬ (0 : Int32) ≤ -1 by decide), x_taken hl', m_thing hl']
    simp only [Option.bind_some, Nat.reduceAdd, eK, nI_add1]
    by_cases ht : w1 1 (11 + 4 * l) < 0
    · simp only [if_pos ht, z00, if_true]
      exact ih (l+1) f v1 w1 (by omega) (by omega) sx t1 bi
    · obtain ⟨v4, e4, g4⟩ := x_without (i := i) (l := l) (v1 := v1) (OK_git h.ok n) (by unfold nw; rw [nw_git]; exact hi) hl' t1
      have er : mT ((jx_up w1 1 (11 + 4 * l) (-1)) 1) = rem (cT 1 v) l := by rw [up_c, m_off hl', em]
      obtain ⟨w3, d3, y3, s3⟩ := m_pass (w := jx_up w1 1 (11 + 4 * l) (-1)) (n := n) (by omega) (by rw [er]; exact OK_rem h.ok)
      rw [er] at s3
      obtain ⟨w4, d4, f4⟩ := m_broken (i := i) (w := w3) (by rw [s3]; exact OK_mit (OK_rem h.ok) n) (by
        have : w3 1 1 = (cT 1 v).n := by
          have : (mT (w3 1)).n = (cT 1 v).n := by rw [s3, nw_mit]; rfl
          exact this
        rw [this]; exact hi)
      rw [s3, br_mg, git_rem] at d4
      obtain ⟨w5, d5, p5⟩ := m_back (w := w4)
      have bi5 : BI w w5 := BI_b bi (FY_t up_FY (FY_t y3 (FM_FY f4))) p5
      have sx4 : SX v v4 := SX_t sx (G_SX g4)
      simp only [if_neg ht, o10, if_false, e4, f_X5_at, at0, Option.bind_some, tn (show 11 + 4 * l < 2147483648 by omega), ib (show 11 + 4 * l < 181 by omega) (by omega), d3, d4, d5]
      cases c : br (rem (git (cT 1 v) n) l) i
      · simp only [Bool.false_eq_true, if_false, z00, if_true]
        obtain ⟨f, rfl⟩ : ∃ q, f = q + 1 := ⟨f - 1, by omega⟩
        rw [f_X5_blame_L]
        have r := Q_i (r := nI l) (BI_R h sx4 bi5)
        rw [if_pos (pI_pos (show l < 2147483648 by omega)), if_pos (pI_pos (show l < 2147483648 by omega))]
        split <;> exact r
      · simp only [if_true, o10, if_false]
        exact ih (l+1) f v4 w5 (by omega) (by omega) sx4 (by rw [Gc (by omega) g4, t1]) bi5
theorem q_blame {v w a} (h : R v w) : Q (f_X4_blame a v) (f_X5_blame a w) := by
  unfold f_X4_blame f_X5_blame
  generalize hF : (100000 : Nat) = F
  simp only [x_isWindow, m_isW h, Option.bind_some, x_f0, m_f0, x_f4, m_f4]
  by_cases c1 : 0 ≤ a ∧ a < v 1 5
  · obtain ⟨i, hi, hi1, hi2, rfl⟩ := wx h c1
    simp only [if_pos c1, o10, if_false, tn (show i < 2147483648 by omega), ib hi (by omega), m_late h hi hi2, Option.bind_some]
    by_cases c2 : v 12 i < 0
    · rw [if_pos c2, if_pos (Or.inl c2), if_neg (by decide)]; exact Q_f h
    · rw [if_neg c2]
      by_cases c3 : v 1 6 + 120 ≤ 999
      · rw [if_pos c3, if_neg (show ¬ (v 12 i < 0 ∨ ¬ (v 1 6 + 120 ≤ 999)) by simp [c2, c3]), if_pos rfl]
        rcases try_q h hi1 with ⟨v', w', e1, e2, r⟩ | ⟨n, v', w', hn, e1, e2, r, t1, t2⟩
        · simp only [e1, e2, Option.bind_some, x_f3, m_f3]
          rw [if_neg (by decide), if_neg (by decide)]; exact Q_f r
        · obtain ⟨w2, d2, p2⟩ := m_puts (w := w')
          simp only [e1, e2, Option.bind_some, d2]
          rw [if_pos (pI_pos (by omega)), if_pos (by rw [show (120 : Int32) = nI 120 from rfl, pI_le (by omega) (by omega)]; omega)]
          have e5 : v' 1 5 = v 1 5 := congrArg Tn.n t2
          exact blame_L r (by rw [e5]; exact hi1) hn 25 0 F v' w2 (by omega) (by omega) SX_r (by rw [t1, t2]) (BI_p p2)
      · rw [if_neg c3, if_pos (Or.inr c3), if_neg (by decide)]; exact Q_f h
  · simp only [if_neg c1, z00, if_true]; exact Q_f h
