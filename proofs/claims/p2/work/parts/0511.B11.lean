theorem x_isWindow {x} {v : jx_V} : f_X4_isWindow x v = some (if 0 ≤ x ∧ x < v 1 5 then 1 else 0, v) := by
  unfold f_X4_isWindow; simp only [x_wi, Option.bind_some, bb, if_false]
theorem m_isW {x v w} (h : R v w) : f_X5_isWindow x w = some (if 0 ≤ x ∧ x < v 1 5 then 1 else 0, w) := by
  obtain ⟨N, hN, eN, eN2⟩ := cn h.ok
  rw [m_isWindow, ← tkn h, eN]
  have h0 := pI_pos (show N < 2147483648 by omega)
  have h1 : nI N ≤ 10 := by rw [show (10 : Int32) = nI 10 from rfl, pI_le (by omega) (by omega)]; omega
  by_cases c : 0 ≤ x ∧ x < nI N
  · rw [if_pos c, if_pos ⟨c.1, by grind⟩]
  · rw [if_neg c, if_neg (fun q => c ⟨q.1, by grind⟩)]
theorem wx {x v w} (h : R v w) (c : 0 ≤ x ∧ x < v 1 5) : ∃ i, i < 10 ∧ i < (v 1 5).toNatClampNeg ∧ i < (w 1 1).toNatClampNeg ∧ x = nI i := by
  obtain ⟨N, hN, eN, eN2⟩ := cn h.ok
  rw [eN] at c
  obtain ⟨i, hi, e⟩ := nI_ex (b := N) (by omega) c.1 c.2
  exact ⟨i, by omega, by omega, by rw [← tkn h]; omega, e⟩
theorem OK_sW {T a i x} (hT : OK T) (h0 : a = 0 → ∃ q, q < 25 ∧ x = nI q) (h1 : a = 1 → ∃ q, q < 10 ∧ x = nI q) (h2 : a = 2 → ∃ q, q < 4 ∧ x = nI q) (h3 : a = 3 → ∃ q, q < 4 ∧ x = nI q) (h4 : a = 4 → x = -1 ∨ ∃ q, q < 4 ∧ x = nI q) : OK (sW T a i x) := by
  refine OK.mk hT.k hT.o hT.h hT.p (fun l => ?_) (fun l => ?_) (fun l => ?_) (fun l => ?_) (fun l => ?_) hT.n hT.s
  · show ∃ q, q < 25 ∧ (if 0 = a ∧ l = i then x else T.W 0 l) = nI q
    by_cases c : 0 = a ∧ l = i
    · rw [if_pos c]; exact h0 c.1.symm
    · rw [if_neg c]; exact hT.w0 l
  · show ∃ q, q < 10 ∧ (if 1 = a ∧ l = i then x else T.W 1 l) = nI q
    by_cases c : 1 = a ∧ l = i
    · rw [if_pos c]; exact h1 c.1.symm
    · rw [if_neg c]; exact hT.w1 l
  · show ∃ q, q < 4 ∧ (if 2 = a ∧ l = i then x else T.W 2 l) = nI q
    by_cases c : 2 = a ∧ l = i
    · rw [if_pos c]; exact h2 c.1.symm
    · rw [if_neg c]; exact hT.w2 l
  · show ∃ q, q < 4 ∧ (if 3 = a ∧ l = i then x else T.W 3 l) = nI q
    by_cases c : 3 = a ∧ l = i
    · rw [if_pos c]; exact h3 c.1.symm
    · rw [if_neg c]; exact hT.w3 l
  · show (if 4 = a ∧ l = i then x else T.W 4 l) = -1 ∨ ∃ q, q < 4 ∧ (if 4 = a ∧ l = i then x else T.W 4 l) = nI q
    by_cases c : 4 = a ∧ l = i
    · rw [if_pos c]; exact h4 c.1.symm
    · rw [if_neg c]; exact hT.w4 l
theorem R_W {v w a i x} (h : R v w) (ha : a < 6) (hi : i < (w 1 1).toNatClampNeg) (hT : OK (sW (cT 1 v) a i x)) : R (jx_up v (8 + a) i x) (jx_up w 1 (111 + 6 * i + a) x) := by
  obtain ⟨N, hN, eN, eN2⟩ := mn h.ok'
  exact R_up h (by omega) (T := sW (cT 1 v) a i x) (c_sW (h := 1) ha (by rw [tkn h]; exact hi)) (by rw [m_sW ha hi (by omega), h.t]) hT
theorem q_windowOf {v w a b} (h : R v w) : Q (f_X4_windowOf a b v) (f_X5_windowOf a b w) := by
  unfold f_X4_windowOf f_X5_windowOf
  simp only [x_isWindow, m_isW h, x_w6, m_in_0_5, Option.bind_some, x_f0, m_f0]
  by_cases c1 : 0 ≤ a ∧ a < v 1 5
  · obtain ⟨i, hi, hi1, hi2, rfl⟩ := wx h c1
    by_cases c2 : 0 ≤ b ∧ b ≤ 5
    · obtain ⟨q, hq, rfl⟩ := ix (n := 5) rfl (by omega) c2
      simp only [if_pos c1, if_pos c2, o10, if_false, m_told hi hq, Option.bind_some, tn (show i < 2147483648 by omega), tn (show q < 2147483648 by omega), ib hi (by omega), ib hq (by omega), Nat.reduceAdd]
      rw [show v (8 + q) i = w 1 (111 + 6 * i + q) from tkW h hq hi2]
      exact Q_i h
    · simp only [if_pos c1, if_neg c2, o10, z00, if_true, if_false]; exact Q_f h
  · simp only [if_neg c1, z00, if_true]; exact Q_f h
theorem wh1 {j : Nat} : 111 + 6 * nI j + 1 = nI (111 + 6 * j + 1) := wh_n (a := 1)
theorem wh2 {j : Nat} : 111 + 6 * nI j + 2 = nI (111 + 6 * j + 2) := wh_n (a := 2)
theorem wh3 {j : Nat} : 111 + 6 * nI j + 3 = nI (111 + 6 * j + 3) := wh_n (a := 3)
theorem wh4 {j : Nat} : 111 + 6 * nI j + 4 = nI (111 + 6 * j + 4) := wh_n (a := 4)
theorem wh5 {j : Nat} : 111 + 6 * nI j + 5 = nI (111 + 6 * j + 5) := wh_n (a := 5)
theorem q_turn {v w a b c} (h : R v w) : Q (f_X4_turn a b c v) (f_X5_turn a b c w) := by
  unfold f_X4_turn f_X5_turn f_X4_windowLimit
  simp only [x_isWindow, m_isW h, m_in_1_3, m_in_0_9, m_in_0_3, Option.bind_some, x_f0, m_f0]
  by_cases c1 : 0 ≤ a ∧ a < v 1 5
  · obtain ⟨i, hi, hi1, hi2, rfl⟩ := wx h c1
    by_cases c2 : 1 ≤ b ∧ b ≤ 3
    · simp only [if_pos c1, if_pos c2, o10, if_false, tn (show i < 2147483648 by omega), ib hi (by omega)]
      have b3 : b = 1 ∨ b = 2 ∨ b = 3 := by grind
      rcases b3 with rfl | rfl | rfl
      · rw [if_neg (by decide), if_neg (by decide), if_pos rfl, if_pos rfl]
        simp only [Option.bind_some, x_w10, m_told1 hi, f_X5_where, wh1, tn (show 111 + 6 * i + 1 < 2147483648 by omega), ib (show 111 + 6 * i + 1 < 181 by omega) (by omega), if_false, show ((1 : Int32) < 0 ∨ 6 ≤ (1 : Int32).toNatClampNeg) = False by decide]
        by_cases c3 : 0 ≤ c ∧ c ≤ 9
        · simp only [if_pos c3, o10, if_false]
          rw [show v (1 + 7 + (1 : Int32).toNatClampNeg) i = w 1 (111 + 6 * i + 1) from tkW (a := 1) h (by omega) hi2]
          exact Q_i (R_W h (a := 1) (by omega) hi2 (OK_sW h.ok (by omega) (fun _ => ix (n := 9) rfl (by omega) c3) (by omega) (by omega) (by omega)))
        · simp only [if_neg c3, z00, if_true]; exact Q_f h
      · rw [if_neg (by decide), if_neg (by decide), if_neg (by decide), if_pos rfl, if_neg (by decide)]
        simp only [Option.bind_some, x_w4, m_told2 hi, f_X5_where, wh2, tn (show 111 + 6 * i + 2 < 2147483648 by omega), ib (show 111 + 6 * i + 2 < 181 by omega) (by omega), if_false, show ((2 : Int32) < 0 ∨ 6 ≤ (2 : Int32).toNatClampNeg) = False by decide]
        by_cases c3 : 0 ≤ c ∧ c ≤ 3
        · simp only [if_pos c3, o10, if_false]
          rw [show v (1 + 7 + (2 : Int32).toNatClampNeg) i = w 1 (111 + 6 * i + 2) from tkW (a := 2) h (by omega) hi2]
          exact Q_i (R_W h (a := 2) (by omega) hi2 (OK_sW h.ok (by omega) (by omega) (fun _ => ix (n := 3) rfl (by omega) c3) (by omega) (by omega)))
        · simp only [if_neg c3, z00, if_true]; exact Q_f h
      · rw [if_neg (by decide), if_neg (by decide), if_neg (by decide), if_neg (by decide), if_neg (by decide)]
        simp only [Option.bind_some, x_w4, m_told3 hi, f_X5_where, wh3, tn (show 111 + 6 * i + 3 < 2147483648 by omega), ib (show 111 + 6 * i + 3 < 181 by omega) (by omega), if_false, show ((3 : Int32) < 0 ∨ 6 ≤ (3 : Int32).toNatClampNeg) = False by decide]
        by_cases c3 : 0 ≤ c ∧ c ≤ 3
        · simp only [if_pos c3, o10, if_false]
          rw [show v (1 + 7 + (3 : Int32).toNatClampNeg) i = w 1 (111 + 6 * i + 3) from tkW (a := 3) h (by omega) hi2]
          exact Q_i (R_W h (a := 3) (by omega) hi2 (OK_sW h.ok (by omega) (by omega) (by omega) (fun _ => ix (n := 3) rfl (by omega) c3) (by omega)))
        · simp only [if_neg c3, z00, if_true]; exact Q_f h
    · simp only [if_pos c1, if_neg c2, o10, z00, if_true, if_false]
      by_cases c4 : b < 1
      · rw [if_pos c4]; exact Q_f h
      · rw [if_neg c4, if_pos (by grind)]; exact Q_f h
  · simp only [if_neg c1, z00, if_true]; exact Q_f h
theorem q_contract {v w a b c} (h : R v w) : Q (f_X4_contract a b c v) (f_X5_contract a b c w) := by
  unfold f_X4_contract f_X5_contract
  simp only [x_isWindow, m_isW h, x_w37, m_in_m1_3, m_in_0_36, Option.bind_some, x_f0, m_f0]
  by_cases c1 : 0 ≤ a ∧ a < v 1 5
  · obtain ⟨i, hi, hi1, hi2, rfl⟩ := wx h c1
    simp only [if_pos c1, o10, if_false]
    by_cases c2 : -1 ≤ b ∧ b ≤ 3
    · rw [if_neg (by grind), if_neg (by grind)]
      by_cases c3 : 0 ≤ c ∧ c ≤ 36
      · simp only [if_pos c2, if_pos c3, o10, if_false, tn (show i < 2147483648 by omega), ib hi (by omega), f_X5_where, wh4, wh5, Option.bind_some, tn (show 111 + 6 * i + 4 < 2147483648 by omega), ib (show 111 + 6 * i + 4 < 181 by omega) (by omega), tn (show 111 + 6 * i + 5 < 2147483648 by omega), ib (show 111 + 6 * i + 5 < 181 by omega) (by omega)]
        have k : ∀ x, Q ((f_X0_isBroken 1 (nI i) (jx_up (jx_up v 12 i b) 13 i x)).bind (fun (r13, v13) => (if r13 = 0 then (some (0, v13)) else (some (1, v13)))))
            ((f_X5_isBroken (nI i) (jx_up (jx_up w 1 (111 + 6 * i + 4) b) 1 (111 + 6 * i + 5) x)).bind (fun (r14, v14) => (if r14 = 0 then (some (0, v14)) else (some (1, v14))))) := by
          intro x
          have r1 : R (jx_up v 12 i b) (jx_up w 1 (111 + 6 * i + 4) b) := R_W h (a := 4) (by omega) hi2 (OK_sW h.ok (by omega) (by omega) (by omega) (by omega) (fun _ => by
            by_cases c3 : b = -1
            · exact Or.inl c3
            · exact Or.inr (ix (n := 3) rfl (by omega) ⟨by grind, c2.2⟩)))
          have en : (jx_up w 1 (111 + 6 * i + 4) b) 1 1 = w 1 1 := by rw [up_g, if_neg (by omega)]
          have r2 : R (jx_up (jx_up v 12 i b) 13 i x) (jx_up (jx_up w 1 (111 + 6 * i + 4) b) 1 (111 + 6 * i + 5) x) := R_W r1 (a := 5) (by omega) (by rw [en]; exact hi2) (OK_sW r1.ok (by omega) (by omega) (by omega) (by omega) (by omega))
          have en2 : (jx_up (jx_up w 1 (111 + 6 * i + 4) b) 1 (111 + 6 * i + 5) x) 1 1 = w 1 1 := by rw [up_g, if_neg (by omega), en]
          obtain ⟨v', e1, g1⟩ := x_broken (h := 1) (i := i) (by omega) r2.ok (by rw [tkn r2, en2]; exact hi2)
          obtain ⟨w', e2, g2⟩ := m_broken (i := i) r2.ok' (by rw [en2]; exact hi2)
          rw [e1, e2, r2.t]
          have r3 := R_fr r2 (G_SX g1) (FM_SM g2)
          simp only [Option.bind_some]
          split <;> exact Q_i r3
        split
        · exact k c
        · exact k 0
      · simp only [if_pos c2, if_neg c3, o10, z00, if_true, if_false]; exact Q_f h
    · simp only [if_neg c2, z00, if_true]
      by_cases c4 : b < -1
      · rw [if_pos c4]; exact Q_f h
      · rw [if_neg c4, if_pos (by grind)]; exact Q_f h
  · simp only [if_neg c1, z00, if_true]; exact Q_f h
theorem Q_b {x y : Option (Int32 × jx_V)} (h : Q x y) : Q (x.bind (fun (r, v) => some (r, v))) (y.bind (fun (r, v) => some (r, v))) := by
  obtain ⟨r, v, w, e1, e2, h⟩ := h
  rw [e1, e2]; exact Q_i h
theorem q_sees {v w a b} (h : R v w) : Q (f_X4_sees a b v) (f_X5_sees a b w) := by
  unfold f_X4_sees f_X5_sees
  simp only [x_isWindow, m_isW h, m_in_1_4, Option.bind_some, x_f0, m_f0]
  by_cases c1 : 0 ≤ a ∧ a < v 1 5
  · obtain ⟨i, hi, hi1, hi2, rfl⟩ := wx h c1
    simp only [if_pos c1, o10, if_false]
    by_cases c2 : 1 ≤ b ∧ b ≤ 4
    · obtain ⟨k, hk, rfl⟩ := ix (n := 4) rfl (by omega) ⟨by grind, c2.2⟩
      have hk1 : 1 ≤ k := by
        have := c2.1
        rw [← n1, pI_le (by omega) (by omega)] at this
        exact this
      simp only [if_pos c2, o10, if_false]
      rw [if_neg (by grind), if_pos c2.2]
      obtain ⟨v', e1, g1, hL⟩ := x_look (h := 1) (by omega) h.ok hi1
      rw [e1, Option.bind_some, x_ss hL hk1 (by omega), m_seen h.ok' hi2 hk1 (by omega), h.t]
      exact Q_i (R_fr h (G_SX g1) SM_r)
    · simp only [if_neg c2, z00, if_true]
      by_cases c4 : b < 1
      · rw [if_pos c4]; exact Q_f h
      · rw [if_neg c4, if_neg (by grind)]; exact Q_f h
  · simp only [if_neg c1, z00, if_true]; exact Q_f h
theorem q_view {v w a} (h : R v w) : Q (f_X4_view a v) (f_X5_view a w) := by
  unfold f_X4_view f_X5_view
  simp only [x_isWindow, m_isW h, Option.bind_some, x_f0, m_f0]
  by_cases c1 : 0 ≤ a ∧ a < v 1 5
  · obtain ⟨i, hi, hi1, hi2, rfl⟩ := wx h c1
    simp only [if_pos c1, o10, if_false]
    obtain ⟨v', e1, g1⟩ := x_view (h := 1) (by omega) h.ok hi1
    obtain ⟨w', e2, g2, _, _, h6, _⟩ := m_looks h.ok' hi2
    simp only [e1, e2, Option.bind_some, h6]
    rw [h.t]
    exact Q_i (R_fr h (G_SX g1) (FM_SM g2))
  · simp only [if_neg c1, z00, if_true]; exact Q_f h
theorem q_share {v w a b} (h : R v w) : Q (f_X4_share a b v) (f_X5_share a b w) := by
  unfold f_X4_share f_X5_share
  simp only [x_isWindow, m_isW h, x_w4, m_isOwner, Option.bind_some, x_f0, m_f0]
  by_cases c1 : 0 ≤ a ∧ a < v 1 5
  · obtain ⟨i, hi, hi1, hi2, rfl⟩ := wx h c1
    simp only [if_pos c1, o10, if_false]
    by_cases c2 : 0 ≤ b ∧ b ≤ 3
    · obtain ⟨o, ho, rfl⟩ := ix (n := 3) rfl (by omega) c2
      simp only [if_pos c2, o10, if_false, tn (show o < 2147483648 by omega), ib ho (by omega)]
      obtain ⟨v', e1, g1⟩ := x_share (o := nI o) (h := 1) (by omega) h.ok hi1
      obtain ⟨w', e2, g2, h5, _⟩ := m_looks h.ok' hi2
      simp only [e1, e2, Option.bind_some, h5 o ho]
      rw [h.t]
      exact Q_i (R_fr h (G_SX g1) (FM_SM g2))
    · simp only [if_neg c2, z00, if_true]; exact Q_f h
  · simp only [if_neg c1, z00, if_true]; exact Q_f h
theorem q_lots {v w a} (h : R v w) : Q (f_X4_lots a v) (f_X5_lots a w) := by
  unfold f_X4_lots f_X5_lots
  simp only [x_isWindow, m_isW h, Option.bind_some, x_f0, m_f0]
  by_cases c1 : 0 ≤ a ∧ a < v 1 5
  · obtain ⟨i, hi, hi1, hi2, rfl⟩ := wx h c1
    simp only [if_pos c1, o10, if_false]
    obtain ⟨v', e1, g1⟩ := x_lots (h := 1) (by omega) h.ok hi1
    obtain ⟨w', e2, g2, _, _, _, _, h8⟩ := m_looks h.ok' hi2
    simp only [e1, e2, Option.bind_some, h8]
    rw [h.t]
    exact Q_i (R_fr h (G_SX g1) (FM_SM g2))
  · simp only [if_neg c1, z00, if_true]; exact Q_f h
theorem q_rent {v w a} (h : R v w) : Q (f_X4_rent a v) (f_X5_rent a w) := by
  unfold f_X4_rent f_X5_rent
  simp only [x_isWindow, m_isW h, Option.bind_some, x_f0, m_f0]
  by_cases c1 : 0 ≤ a ∧ a < v 1 5
  · obtain ⟨i, hi, hi1, hi2, rfl⟩ := wx h c1
    simp only [if_pos c1, o10, if_false]
    obtain ⟨v', e1, g1, _⟩ := x_pay (h := 1) (r := 66) (by omega) (Or.inr (by omega)) h.ok hi1
    obtain ⟨w', e2, g2, _, _, _, h7, _⟩ := m_looks h.ok' hi2
    simp only [e1, e2, Option.bind_some, h7]
    rw [h.t]
    exact Q_i (R_fr h (GR_SX (by omega) g1) (FM_SM g2))
  · simp only [if_neg c1, z00, if_true]; exact Q_f h
theorem q_gain {v w a} (h : R v w) : Q (f_X4_gain a v) (f_X5_gain a w) := by
  unfold f_X4_gain f_X5_gain
  simp only [x_w4, m_isOwner, Option.bind_some, x_f0, m_f0]
  by_cases c2 : 0 ≤ a ∧ a ≤ 3
  · obtain ⟨o, ho, rfl⟩ := ix (n := 3) rfl (by omega) c2
    simp only [if_pos c2, o10, if_false, tn (show o < 2147483648 by omega), ib ho (by omega)]
    obtain ⟨v', e1, g1, hg⟩ := x_gains (h := 1) (r := 65) (by omega) (by omega) h.ok
    obtain ⟨w', e2, g2, _⟩ := m_gainOf h.ok' ho
    simp only [e1, e2, Option.bind_some, hg o ho]
    rw [h.t]
    exact Q_i (R_fr h (GR_SX (by omega) g1) (FM_SM g2))
  · simp only [if_neg c2, z00, if_true]; exact Q_f h
theorem q_broken {v w} (h : R v w) : Q (f_X4_broken v) (f_X5_broken w) := by
  unfold f_X4_broken f_X5_broken
  obtain ⟨v', e1, g1⟩ := x_bset (h := 1) (by omega) h.ok
  obtain ⟨w', e2, g2⟩ := m_bset h.ok'
  simp only [e1, e2, Option.bind_some]
  rw [h.t]
  exact Q_i (R_fr h (G_SX g1) (FM_SM g2))
