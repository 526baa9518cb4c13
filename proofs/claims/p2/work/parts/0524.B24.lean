theorem jd_L {T : Tn} {i s L : Nat} {x2 y3 : Int32} {v w : jx_V} (hT : OK (mT (w 1))) (eT : T = mT (w 1)) (hi : i < (w 1 1).toNatClampNeg) (hs : s < 4) (hL : L ≤ 40) (e1 : v 62 s = nI L) (e2 : w 10 s = nI L) (hn : ∀ k, k < 40 → v (57 + s) k = w 11 (40 * s + k)) (hk : Lk T i v 5) :
    ∀ d k f f', k + d = 4 → d < f → d < f' → ∃ r, f_X4_judge_L f (nI s) x2 (nI k) v = some (r, v) ∧ f_X5_judge_L f' (nI s) (nI i) y3 (nI k) w = some (r, w) := by
  have fin : ∀ k, k ≤ 4 → (L ≤ k ∨ 4 ≤ k ∨ (k < L ∧ k < 4)) → (if nI k = 4 then (if nI L = 4 then (some (0, v)) else (some ((1 + nI k), v))) else (some ((1 + nI k), v))) = some (if k = 4 ∧ L = 4 then 0 else 1 + nI k, v) := by
    intro k hk _
    simp only [show (4 : Int32) = nI 4 from rfl, pI_eq (show k < 2147483648 by omega) (show 4 < 2147483648 by omega), pI_eq (show L < 2147483648 by omega) (show 4 < 2147483648 by omega)]
    by_cases c : k = 4
    · by_cases c' : L = 4
      · rw [if_pos c, if_pos c', if_pos ⟨c, c'⟩]
      · rw [if_pos c, if_neg c', if_neg (fun q => c' q.2)]
    · rw [if_neg c, if_neg (fun q => c q.1)]
  have fin' : ∀ k, k ≤ 4 → (if nI k = nI L then (if nI k = 4 then (some (0, w)) else (some ((1 + nI k), w))) else (some ((1 + nI k), w))) = some (if k = 4 ∧ L = 4 then 0 else 1 + nI k, w) := by
    intro k hk
    simp only [show (4 : Int32) = nI 4 from rfl, pI_eq (show k < 2147483648 by omega) (show 4 < 2147483648 by omega), pI_eq (show k < 2147483648 by omega) (show L < 2147483648 by omega)]
    by_cases c : k = L
    · by_cases c' : k = 4
      · rw [if_pos c, if_pos c', if_pos ⟨c', by omega⟩]
      · rw [if_pos c, if_neg c', if_neg (fun q => c' q.1)]
    · rw [if_neg c, if_neg (fun q => c (by omega))]
  intro d
  induction d with
  | zero =>
    intro k f f' hk' hf hf'
    obtain ⟨f, rfl⟩ : ∃ q, f = q + 1 := ⟨f - 1, by omega⟩
    obtain ⟨f', rfl⟩ : ∃ q, f' = q + 1 := ⟨f' - 1, by omega⟩
    obtain rfl : k = 4 := by omega
    refine ⟨if 4 = 4 ∧ L = 4 then 0 else 1 + nI 4, ?_, ?_⟩
    · rw [f_X4_judge_L]
      simp only [tn (show s < 2147483648 by omega), ib hs (show 4 ≤ 100000 by omega), if_false, e1, fin 4 (by omega) (by omega)]
      rw [if_pos (show (4 : Int32) ≤ nI 4 from by decide), ite_self]
    · rw [f_X5_judge_L]
      simp only [tn (show s < 2147483648 by omega), ib hs (show 4 ≤ 100000 by omega), if_false, e2, fin' 4 (by omega)]
      rw [if_pos (show (4 : Int32) ≤ nI 4 from by decide), ite_self]
  | succ d ih =>
    intro k f f' hk' hf hf'
    obtain ⟨f, rfl⟩ : ∃ q, f = q + 1 := ⟨f - 1, by omega⟩
    obtain ⟨f', rfl⟩ : ∃ q, f' = q + 1 := ⟨f' - 1, by omega⟩
    have k4 : ¬ (4 : Int32) ≤ nI k := by rw [show (4 : Int32) = nI 4 from rfl, pI_le (by omega) (by omega)]; omega
    rw [f_X4_judge_L, f_X5_judge_L]
    simp only [tn (show s < 2147483648 by omega), ib hs (show 4 ≤ 100000 by omega), if_false, e1, e2, fin k (by omega) (by omega), fin' k (by omega), if_neg k4, tn (show k < 2147483648 by omega), ib (show k < 40 by omega) (show 40 ≤ 100000 by omega), f40, tn (show 40 * s + k < 2147483648 by omega), ib (show 40 * s + k < 160 by omega) (show 160 ≤ 100000 by omega), nI_add1, x_ss hk (show 1 ≤ k + 1 by omega) (show k + 1 < 5 by omega), m_seen hT hi (show 1 ≤ k + 1 by omega) (show k + 1 < 5 by omega), Option.bind_some, hn k (by omega), eT]
    by_cases c : nI L ≤ nI k
    · exact ⟨_, if_pos c, if_pos c⟩
    · simp only [if_neg c]
      by_cases c' : w 11 (40 * s + k) = ss (mT (w 1)) i (k + 1)
      · simp only [if_pos c']
        exact ih (k+1) f f' (by omega) (by omega) (by omega)
      · exact ⟨_, if_neg c', if_neg c'⟩
theorem q_judge {v w a b} (h : R v w) : Q (f_X4_judge a b v) (f_X5_judge a b w) := by
  unfold f_X4_judge f_X5_judge
  generalize hF : (100000 : Nat) = F
  simp only [x_w4, Option.bind_some, x_f0, x_f5]
  by_cases c1 : 0 ≤ a ∧ a ≤ 3
  · obtain ⟨s, hs, rfl⟩ := ix (n := 3) rfl (by omega) c1
    obtain ⟨e61, e62, ⟨L, hL, eL⟩, es⟩ := h.s s hs
    simp only [if_pos c1, o10, if_false, x_miss hs, (m_wrong (x := 0) (w := w)).2 s hs, Option.bind_some, e61]
    by_cases m0 : w 9 s = 0
    · simp only [if_pos m0, o10, b60, if_false, m_f5, Option.bind_some]; exact Q_f h
    · simp only [if_neg m0, z00, if_true, x_isWindow, m_isW h, Option.bind_some, m_f0]
      by_cases c2 : 0 ≤ b ∧ b < v 1 5
      · obtain ⟨i, hi, hi1, hi2, rfl⟩ := wx h c2
        simp only [if_pos c2, o10, if_false]
        obtain ⟨v', e1, g1, hLk⟩ := x_look (h := 1) (by omega) h.ok hi1
        rw [e1, Option.bind_some]
        obtain ⟨r, r1, r2⟩ := jd_L (T := cT 1 v) (i := i) (s := s) (L := L) (x2 := nI i) (y3 := 0) (v := v') (w := w) h.ok' h.t hi2 hs hL (by rw [g1 62 (by omega)]; exact eL) (e62 ▸ eL) (fun k hk => by rw [g1 (57 + s) (by omega)]; exact es k hk) hLk 4 0 F F (by omega) (by omega) (by omega)
        rw [show nI 0 = 0 from rfl] at r1 r2
        rw [r1, r2]
        exact Q_i (R_fr h (G_SX g1) SM_r)
      · simp only [if_neg c2, z00, if_true]; exact Q_f h
  · simp only [if_neg c1, z00, if_true, (m_wrong (w := w)).1 c1, Option.bind_some, b10, if_false, m_f0]; exact Q_f h
theorem ld_L {s p : Nat} {y3 : Int32} (hs : s < 4) (hp : p < 25) : ∀ d i f f' g v w, p + i + d = 25 → d < f → d < f' → R v w → Q (f_X4_load_L f (nI s) (nI p) g (nI i) v) (f_X5_load_L f' (nI s) (nI p) y3 g (nI i) w) := by
  intro d
  induction d with
  | zero =>
    intro i f f' g v w hd hf hf' h
    obtain ⟨f, rfl⟩ : ∃ q, f = q + 1 := ⟨f - 1, by omega⟩
    obtain ⟨f', rfl⟩ : ∃ q, f' = q + 1 := ⟨f' - 1, by omega⟩
    obtain ⟨e61, e62, ⟨L, hL, eL⟩, es⟩ := h.s s hs
    have k25 : (25 : Int32) ≤ nI p + nI i := by rw [show (25 : Int32) = nI 25 from rfl, pI_add, pI_le (by omega) (by omega)]; omega
    rw [f_X4_load_L, f_X5_load_L]
    simp only [tn (show s < 2147483648 by omega), ib hs (show 4 ≤ 100000 by omega), if_false, if_pos k25, ite_self]
    exact Q_i h
  | succ d ih =>
    intro i f f' g v w hd hf hf' h
    obtain ⟨f, rfl⟩ : ∃ q, f = q + 1 := ⟨f - 1, by omega⟩
    obtain ⟨f', rfl⟩ : ∃ q, f' = q + 1 := ⟨f' - 1, by omega⟩
    obtain ⟨e61, e62, ⟨L, hL, eL⟩, es⟩ := h.s s hs
    have k25 : ¬ (25 : Int32) ≤ nI (p + i) := by rw [show (25 : Int32) = nI 25 from rfl, pI_le (by omega) (by omega)]; omega
    have hpi : p + i < 25 := by omega
    rw [f_X4_load_L, f_X5_load_L]
    simp only [tn (show s < 2147483648 by omega), ib hs (show 4 ≤ 100000 by omega), if_false, eL, (e62 ▸ eL : w 10 s = nI L), pI_add, if_neg k25, tn (show i < 2147483648 by omega), ib (show i < 40 by omega) (show 40 ≤ 100000 by omega), f40, tn (show 40 * s + i < 2147483648 by omega), ib (show 40 * s + i < 160 by omega) (show 160 ≤ 100000 by omega), x_w10, m_isHeight, Option.bind_some, es i (by omega), nI_add1]
    by_cases c : nI L ≤ nI i
    · rw [if_pos c, if_pos c]; exact Q_i h
    · rw [if_neg c, if_neg c]
      by_cases c' : 0 ≤ w 11 (40 * s + i) ∧ w 11 (40 * s + i) ≤ 9
      · simp only [if_pos c', o10, if_false, x_taken (h := 1) hpi, m_thing hpi, Option.bind_some, tk h hpi, show (1 : Nat) + 3 = 4 from rfl]
        by_cases t : w 1 (11 + 4 * (p + i)) < 0
        · simp only [if_pos t, z00, if_true]
          exact ih (i+1) f f' g v w (by omega) (by omega) (by omega) h
        · simp only [if_neg t, o10, if_false, f_X5_at, Option.bind_some, at2, tn (show p + i < 2147483648 by omega), ib hpi (show 25 ≤ 100000 by omega), tn (show 13 + 4 * (p + i) < 2147483648 by omega), ib (show 13 + 4 * (p + i) < 181 by omega) (show 181 ≤ 100000 by omega)]
          obtain ⟨q, hq, eq⟩ := ix (n := 9) rfl (by omega) c'
          refine ih (i+1) f f' (g+1) _ _ (by omega) (by omega) (by omega) ?_
          rw [eq, show 13 + 4 * (p + i) = 11 + 4 * (p + i) + 2 by omega]
          exact R_sx (a := 2) h (Or.inl rfl) hpi (Int32.not_lt.mp t) (show q < 10 by omega)
      · simp only [if_neg c', z00, if_true]; exact Q_i h
theorem q_load {v w a b} (h : R v w) : Q (f_X4_load a b v) (f_X5_load a b w) := by
  unfold f_X4_load f_X5_load
  generalize hF : (100000 : Nat) = F
  simp only [x_w4, Option.bind_some, x_f0, x_f5]
  by_cases c1 : 0 ≤ a ∧ a ≤ 3
  · obtain ⟨s, hs, rfl⟩ := ix (n := 3) rfl (by omega) c1
    obtain ⟨e61, e62, ⟨L, hL, eL⟩, es⟩ := h.s s hs
    simp only [if_pos c1, o10, if_false, x_miss hs, (m_wrong (x := 0) (w := w)).2 s hs, Option.bind_some, e61]
    by_cases m0 : w 9 s = 0
    · simp only [if_pos m0, o10, b60, if_false, m_f5, Option.bind_some]; exact Q_f h
    · simp only [if_neg m0, z00, if_true, x_w25, m_isLot, Option.bind_some, m_f0]
      by_cases c2 : 0 ≤ b ∧ b ≤ 24
      · obtain ⟨p, hp, rfl⟩ := ix (n := 24) rfl (by omega) c2
        simp only [if_pos c2, o10, if_false]
        exact ld_L hs hp (25 - p) 0 F F 0 v w (by omega) (by omega) (by omega) h
      · simp only [if_neg c2, z00, if_true]; exact Q_f h
  · simp only [if_neg c1, z00, if_true, (m_wrong (w := w)).1 c1, Option.bind_some, b10, if_false, m_f0]; exact Q_f h
