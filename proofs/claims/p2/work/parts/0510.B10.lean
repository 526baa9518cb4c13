theorem nz : nI 0 = 0 := rfl
theorem c7 {q : Nat} (h : q < 7) : q = 0 ∨ q = 1 ∨ q = 2 ∨ q = 3 ∨ q = 4 ∨ q = 5 ∨ q = 6 := by omega
theorem q_of {v w a b} (h : R v w) : Q (f_X4_of a b v) (f_X5_of a b w) := by
  unfold f_X4_of f_X5_of
  simp only [x_w25, x_w7, m_in_0_6, Option.bind_some, x_f0, m_f0]
  by_cases c1 : 0 ≤ b ∧ b ≤ 6
  · by_cases c2 : 0 ≤ a ∧ a ≤ 24
    · obtain ⟨j, hj, rfl⟩ := ix (n := 24) rfl (by omega) c2
      simp only [if_pos c1, if_pos c2, o10, if_false, x_taken hj, (m_lotWrong (x := 0) (w := w)).2 j hj, Option.bind_some, Nat.reduceAdd, tk h hj]
      by_cases ht : w 1 (11 + 4 * j) < 0
      · simp only [if_pos ht, z00, if_true, b40, if_false, x_f3, m_f3, Option.bind_some]; exact Q_f h
      · have ht' : 0 ≤ w 1 (11 + 4 * j) := Int32.not_lt.mp ht
        have hv : 0 ≤ v (1+3) j := by show 0 ≤ v 4 j; rw [tk h hj]; exact ht'
        simp only [if_neg ht, o10, z00, if_true, if_false, x_standing hj hv, x_price h.ok hj hv, x_growth hj, m_stands hj ht', m_price h.ok' hj ht', m_grows hj, Option.bind_some]
        obtain ⟨q, hq, rfl⟩ := ix (n := 6) rfl (by omega) c1
        rw [h.t]
        rcases c7 hq with rfl | rfl | rfl | rfl | rfl | rfl | rfl
        · rw [if_neg (by decide), if_neg (by decide)]
          simp only [tn (show j < 2147483648 by omega), ib hj (by omega), if_false, nz, m_its0 hj, Option.bind_some, show ((4 : Int32) ≤ 0) = False by decide]
          rw [show v (1 + 3 + (0 : Int32).toNatClampNeg) j = w 1 (11 + 4 * j) from tk h hj]; exact Q_i h
        · rw [if_neg (by decide), if_neg (by decide)]
          simp only [tn (show j < 2147483648 by omega), ib hj (by omega), if_false, n1, m_its1 hj, Option.bind_some, show ((4 : Int32) ≤ 1) = False by decide]
          rw [show v (1 + 3 + (1 : Int32).toNatClampNeg) j = w 1 (12 + 4 * j) from tkO h hj ht']; exact Q_i h
        · rw [if_neg (by decide), if_neg (by decide)]
          simp only [tn (show j < 2147483648 by omega), ib hj (by omega), if_false, n2, m_its2 hj, Option.bind_some, show ((4 : Int32) ≤ 2) = False by decide]
          rw [show v (1 + 3 + (2 : Int32).toNatClampNeg) j = w 1 (13 + 4 * j) from tkH h hj ht']; exact Q_i h
        · rw [if_neg (by decide), if_neg (by decide)]
          simp only [tn (show j < 2147483648 by omega), ib hj (by omega), if_false, n3, m_its3 hj, Option.bind_some, show ((4 : Int32) ≤ 3) = False by decide]
          rw [show v (1 + 3 + (3 : Int32).toNatClampNeg) j = w 1 (14 + 4 * j) from tkP h hj ht']; exact Q_i h
        · rw [if_pos (by decide), if_pos (by decide), if_pos (by decide), if_pos (by decide)]; exact Q_i h
        · rw [if_pos (by decide), if_neg (by decide), if_pos (by decide), if_pos (by decide), if_neg (by decide), if_pos (by decide)]; exact Q_i h
        · rw [if_pos (by decide), if_neg (by decide), if_neg (by decide), if_pos (by decide), if_neg (by decide), if_neg (by decide)]; exact Q_i h
    · simp only [if_pos c1, if_neg c2, o10, z00, if_true, if_false, (m_lotWrong (w := w)).1 c2, Option.bind_some, b10, m_f0]; exact Q_f h
  · by_cases c2 : 0 ≤ a ∧ a ≤ 24
    · simp only [if_neg c1, if_pos c2, o10, z00, if_true, if_false, b10]; exact Q_f h
    · simp only [if_neg c1, if_neg c2, o10, z00, if_true, if_false, b10]; exact Q_f h
theorem q_change {v w a b c} (h : R v w) : Q (f_X4_change a b c v) (f_X5_change a b c w) := by
  unfold f_X4_change f_X5_change f_X4_thingLimit
  simp only [x_w25, x_w4, m_in_0_3, m_in_0_6, m_in_0_9, Option.bind_some, x_f0, m_f0]
  by_cases c1 : 0 ≤ b ∧ b ≤ 3
  · obtain ⟨q, hq, rfl⟩ := ix (n := 3) rfl (by omega) c1
    simp only [if_pos c1, o10, if_false]
    by_cases c2 : 0 ≤ a ∧ a ≤ 24
    · obtain ⟨j, hj, rfl⟩ := ix (n := 24) rfl (by omega) c2
      simp only [if_pos c2, o10, if_false, (m_lotWrong (x := 0) (w := w)).2 j hj, Option.bind_some]
      have q4 : q = 0 ∨ q = 1 ∨ q = 2 ∨ q = 3 := by omega
      have nt : w 1 (11 + 4 * j) < 0 → Q (some (-1000004, jx_up v 63 3 (v 63 3 + 1))) (some (-1000004, jx_up w 4 3 (w 4 3 + 1))) := fun _ => Q_f h
      have tj := tn (show j < 2147483648 by omega)
      rcases q4 with rfl | rfl | rfl | rfl
      · rw [if_pos (by decide), if_pos (by decide)]
        simp only [Option.bind_some, x_w7]
        by_cases c3 : 0 ≤ c ∧ c ≤ 6
        · simp only [if_pos c3, o10, if_false, x_taken hj, Option.bind_some, Nat.reduceAdd, tk h hj]
          by_cases ht : w 1 (11 + 4 * j) < 0
          · simp only [if_pos ht, z00, if_true, b40, if_false, x_f3, m_f3, Option.bind_some]; exact nt ht
          · have ht' : 0 ≤ w 1 (11 + 4 * j) := Int32.not_lt.mp ht
            simp only [if_neg ht, o10, z00, if_true, if_false, nz, m_its0 hj, f_X5_at, at0, Option.bind_some, tj, ib hj (by omega), tn (show 11 + 4 * j < 2147483648 by omega), ib (show 11 + 4 * j < 181 by omega) (by omega), show ((0 : Int32) < 0 ∨ 4 ≤ (0 : Int32).toNatClampNeg) = False by decide]
            rw [show v (4 + (0 : Int32).toNatClampNeg) j = w 1 (11 + 4 * j) from tk h hj]
            exact Q_i (R_up h (by decide) (T := sK (cT 1 v) j c) (c_sK (h := 1) hj (by show 0 ≤ v 4 j; rw [tk h hj]; exact ht') c3.1) (by rw [m_sK hj ht' c3.1, h.t]) (OK_sK h.ok c3.1))
        · simp only [if_neg c3, z00, if_true, b10, if_false]; exact Q_f h
      · rw [if_neg (by decide), if_pos (by decide), if_neg (by decide), if_neg (by decide)]
        simp only [Option.bind_some, x_w4]
        by_cases c3 : 0 ≤ c ∧ c ≤ 3
        · simp only [if_pos c3, o10, if_false, x_taken hj, Option.bind_some, Nat.reduceAdd, tk h hj]
          by_cases ht : w 1 (11 + 4 * j) < 0
          · simp only [if_pos ht, z00, if_true, b40, if_false, x_f3, m_f3, Option.bind_some]; exact nt ht
          · have ht' : 0 ≤ w 1 (11 + 4 * j) := Int32.not_lt.mp ht
            simp only [if_neg ht, o10, z00, if_true, if_false, n1, m_its1 hj, f_X5_at, at1, Option.bind_some, tj, ib hj (by omega), tn (show 12 + 4 * j < 2147483648 by omega), ib (show 12 + 4 * j < 181 by omega) (by omega), show ((1 : Int32) < 0 ∨ 4 ≤ (1 : Int32).toNatClampNeg) = False by decide]
            rw [show v (4 + (1 : Int32).toNatClampNeg) j = w 1 (12 + 4 * j) from tkO h hj ht']
            exact Q_i (R_up h (by decide) (T := sO (cT 1 v) j c) (c_sO (h := 1) hj (by show 0 ≤ v 4 j; rw [tk h hj]; exact ht')) (by rw [m_sO hj ht', h.t]) (OK_sO h.ok (ix (n := 3) rfl (by omega) c3)))
        · simp only [if_neg c3, z00, if_true, b10, if_false]; exact Q_f h
      · rw [if_neg (by decide), if_neg (by decide), if_pos (by decide), if_neg (by decide), if_pos (by decide)]
        simp only [Option.bind_some, x_w10]
        by_cases c3 : 0 ≤ c ∧ c ≤ 9
        · simp only [if_pos c3, o10, if_false, x_taken hj, Option.bind_some, Nat.reduceAdd, tk h hj]
          by_cases ht : w 1 (11 + 4 * j) < 0
          · simp only [if_pos ht, z00, if_true, b40, if_false, x_f3, m_f3, Option.bind_some]; exact nt ht
          · have ht' : 0 ≤ w 1 (11 + 4 * j) := Int32.not_lt.mp ht
            simp only [if_neg ht, o10, z00, if_true, if_false, n2, m_its2 hj, f_X5_at, at2, Option.bind_some, tj, ib hj (by omega), tn (show 13 + 4 * j < 2147483648 by omega), ib (show 13 + 4 * j < 181 by omega) (by omega), show ((2 : Int32) < 0 ∨ 4 ≤ (2 : Int32).toNatClampNeg) = False by decide]
            rw [show v (4 + (2 : Int32).toNatClampNeg) j = w 1 (13 + 4 * j) from tkH h hj ht']
            exact Q_i (R_up h (by decide) (T := sH (cT 1 v) j c) (c_sH (h := 1) hj (by show 0 ≤ v 4 j; rw [tk h hj]; exact ht')) (by rw [m_sH hj ht', h.t]) (OK_sH h.ok (ix (n := 9) rfl (by omega) c3)))
        · simp only [if_neg c3, z00, if_true, b10, if_false]; exact Q_f h
      · rw [if_neg (by decide), if_neg (by decide), if_neg (by decide), if_neg (by decide), if_neg (by decide)]
        simp only [Option.bind_some, x_w4]
        by_cases c3 : 0 ≤ c ∧ c ≤ 3
        · simp only [if_pos c3, o10, if_false, x_taken hj, Option.bind_some, Nat.reduceAdd, tk h hj]
          by_cases ht : w 1 (11 + 4 * j) < 0
          · simp only [if_pos ht, z00, if_true, b40, if_false, x_f3, m_f3, Option.bind_some]; exact nt ht
          · have ht' : 0 ≤ w 1 (11 + 4 * j) := Int32.not_lt.mp ht
            simp only [if_neg ht, o10, z00, if_true, if_false, n3, m_its3 hj, f_X5_at, at3, Option.bind_some, tj, ib hj (by omega), tn (show 14 + 4 * j < 2147483648 by omega), ib (show 14 + 4 * j < 181 by omega) (by omega), show ((3 : Int32) < 0 ∨ 4 ≤ (3 : Int32).toNatClampNeg) = False by decide]
            rw [show v (4 + (3 : Int32).toNatClampNeg) j = w 1 (14 + 4 * j) from tkP h hj ht']
            exact Q_i (R_up h (by decide) (T := sP (cT 1 v) j c) (c_sP (h := 1) hj (by show 0 ≤ v 4 j; rw [tk h hj]; exact ht')) (by rw [m_sP hj ht', h.t]) (OK_sP h.ok (ix (n := 3) rfl (by omega) c3)))
        · simp only [if_neg c3, z00, if_true, b10, if_false]; exact Q_f h
    · simp only [if_neg c2, z00, if_true, (m_lotWrong (w := w)).1 c2, Option.bind_some, b10, if_false, m_f0]
      have l : Q (some (-1000001, jx_up v 63 0 (v 63 0 + 1))) (some (-1000001, jx_up w 4 0 (w 4 0 + 1))) := Q_f h
      (repeat' split) <;> exact l
  · simp only [if_neg c1, z00, if_true, if_false, b10]
    by_cases c2 : 0 ≤ a ∧ a ≤ 24
    · simp only [if_pos c2, o10, if_false]; exact Q_f h
    · simp only [if_neg c2, z00, if_true]; exact Q_f h
theorem q_price {v w a b} (h : R v w) : Q (f_X4_price a b v) (f_X5_price a b w) := by
  unfold f_X4_price f_X5_price
  simp only [x_w100, x_w4, m_in_0_3, m_in_0_99, Option.bind_some, x_f0, m_f0]
  by_cases c1 : 0 ≤ a ∧ a ≤ 3
  · obtain ⟨q, hq, rfl⟩ := ix (n := 3) rfl (by omega) c1
    by_cases c2 : 0 ≤ b ∧ b ≤ 99
    · simp only [if_pos c1, if_pos c2, o10, if_false, p3_n, tn (show q < 2147483648 by omega), tn (show 3 + q < 2147483648 by omega), ib hq (by omega), ib (show 3 + q < 181 by omega) (by omega), tkC h hq]
      exact Q_i (R_up h (by decide) (T := sC (cT 1 v) q b) (c_sC (h := 1) hq) (by rw [m_sC hq, h.t]) (OK_sC h.ok))
    · simp only [if_pos c1, if_neg c2, o10, z00, if_true, if_false]; exact Q_f h
  · simp only [if_neg c1, z00, if_true]; exact Q_f h
theorem q_purse {v w a} (h : R v w) : Q (f_X4_purse a v) (f_X5_purse a w) := by
  unfold f_X4_purse f_X5_purse
  simp only [x_w4, m_isOwner, Option.bind_some, x_f0, m_f0]
  by_cases c1 : 0 ≤ a ∧ a ≤ 3
  · obtain ⟨q, hq, rfl⟩ := ix (n := 3) rfl (by omega) c1
    have e7 : 7 + nI q = nI (7 + q) := by unfold nI; simp [Int32.ofNat_add]
    simp only [if_pos c1, o10, if_false, e7, tn (show q < 2147483648 by omega), tn (show 7 + q < 2147483648 by omega), ib hq (by omega), ib (show 7 + q < 181 by omega) (by omega), tkU h hq]
    exact Q_i h
  · simp only [if_neg c1, z00, if_true]; exact Q_f h
theorem q_hold {v w a b} (h : R v w) : Q (f_X4_hold a b v) (f_X5_hold a b w) := by
  obtain ⟨N, hN, eN, eN2⟩ := mn h.ok'
  unfold f_X4_hold f_X5_hold
  simp only [x_w10, m_in_0_9, m_in_m1_24, Option.bind_some, x_f0, m_f0]
  by_cases c1 : 0 ≤ a ∧ a ≤ 9
  · obtain ⟨q, hq, rfl⟩ := ix (n := 9) rfl (by omega) c1
    have e7 : 171 + nI q = nI (171 + q) := by unfold nI; simp [Int32.ofNat_add]
    by_cases c2 : -1 ≤ b ∧ b ≤ 24
    · simp only [if_pos c1, if_pos c2, o10, if_false, e7, tn (show q < 2147483648 by omega), tn (show 171 + q < 2147483648 by omega), ib hq (by omega), ib (show 171 + q < 181 by omega) (by omega)]
      rw [if_neg (by grind), if_pos (by grind)]
      refine Q_i (R_up h (by decide) (T := sS (cT 1 v) q b) (c_sS (h := 1) hq) (by rw [m_sS hq (by omega), h.t]) (OK_sS h.ok ?_))
      by_cases c3 : b = -1
      · exact Or.inl c3
      · exact Or.inr (ix (n := 24) rfl (by omega) ⟨by grind, c2.2⟩)
    · simp only [if_pos c1, if_neg c2, o10, z00, if_true, if_false]
      by_cases c3 : b < -1
      · rw [if_pos c3]; exact Q_f h
      · rw [if_neg c3, if_neg (by grind)]; exact Q_f h
  · simp only [if_neg c1, z00, if_true]; exact Q_f h
theorem q_seed {v w a} (h : R v w) : Q (f_X4_seed a v) (f_X5_seed a w) := by
  unfold f_X4_seed f_X5_seed
  rw [tkz h]
  exact Q_i (R_up h (by decide) (T := sz (cT 1 v) a) (c_sz (h := 1) (j := 0)) (by rw [m_sz (j := 0), h.t]) (OK_sz h.ok))
theorem q_wipe {v w} (h : R v w) : Q (f_X4_wipe v) (f_X5_wipe w) := by
  unfold f_X4_wipe f_X5_wipe
  rw [h.tl]
  refine Q_i (R.mk ?_ ?_ ?_ ?_ ?_ ?_ ?_ ?_ ?_)
  · rw [cT_congr (v := v) (fun c _ _ => jx_up_ne (by omega)), jx_up_ne (by omega)]; exact h.t
  · rw [cT_congr (v := v) (fun c _ _ => jx_up_ne (by omega))]; exact h.ok
  · rw [jx_up_ne (by omega), up_g, if_neg (by omega)]; exact h.k
  · rw [jx_up_ne (by omega)]; exact h.kb
  · rw [jx_up_ne (by omega), cT_congr (v := v) (fun c _ _ => jx_up_ne (by omega)), jx_up_ne (by omega)]; exact h.kt
  · rw [up_s, up_s]
  · exact ⟨0, by omega, up_s⟩
  · rw [jx_up_ne (by omega), jx_up_ne (by omega)]; exact h.tb
  · intro s hs
    rw [jx_up_ne (by omega), jx_up_ne (by omega), jx_up_ne (by omega), jx_up_ne (by omega), jx_up_ne (by omega), jx_up_ne (by omega)]
    exact h.s s hs
theorem q_tear {v w} (h : R v w) : Q (f_X4_tear v) (f_X5_tear w) := by
  unfold f_X4_tear f_X5_tear
  rw [h.k]
  have r : R (jx_up v 0 10 0) (jx_up w 0 4 0) := by
    refine R.mk ?_ ?_ ?_ ?_ ?_ ?_ ?_ ?_ ?_
    · rw [cT_congr (v := v) (fun c _ _ => jx_up_ne (by omega)), jx_up_ne (by omega)]; exact h.t
    · rw [cT_congr (v := v) (fun c _ _ => jx_up_ne (by omega))]; exact h.ok
    · rw [up_s, up_s]
    · exact Or.inl up_s
    · intro c; rw [up_s] at c; exact absurd c (by decide)
    · rw [jx_up_ne (by omega), up_g, if_neg (by omega)]; exact h.tl
    · rw [jx_up_ne (by omega)]; exact h.tr
    · rw [jx_up_ne (by omega), jx_up_ne (by omega)]; exact h.tb
    · intro s hs
      rw [jx_up_ne (by omega), jx_up_ne (by omega), jx_up_ne (by omega), jx_up_ne (by omega), jx_up_ne (by omega), jx_up_ne (by omega)]
      exact h.s s hs
  split <;> exact Q_i r
