theorem R_sh {v w v' w'} (h : R v w) (a : ∀ c, (c < 33 ∨ c = 54) → v' c = v c) (a2 : v' 53 1 = v 53 1) (b : ∀ c, (c = 1 ∨ c = 2 ∨ c = 8) → w' c = w c) (b2 : w' 0 4 = w 0 4) (b3 : w' 0 12 = w 0 12) (s : ∀ s, s < 4 → v' 61 s = w' 9 s ∧ v' 62 s = w' 10 s ∧ (∃ L, L ≤ 40 ∧ v' 62 s = nI L) ∧ ∀ i, i < 40 → v' (57 + s) i = w' 11 (40 * s + i)) : R v' w' := by
  have e0 : v' 0 = v 0 := a 0 (by omega)
  have e1 : cT 1 v' = cT 1 v := cT_congr (fun c _ _ => a c (by omega))
  have e17 : cT 17 v' = cT 17 v := cT_congr (fun c _ _ => a c (by omega))
  refine R.mk ?_ ?_ ?_ ?_ ?_ ?_ ?_ ?_ s
  · rw [e1, b 1 (by omega)]; exact h.t
  · rw [e1]; exact h.ok
  · rw [e0, b2]; exact h.k
  · rw [e0]; exact h.kb
  · rw [e0, e17, b 2 (by omega)]; exact h.kt
  · rw [a2, b3]; exact h.tl
  · rw [a2]; exact h.tr
  · rw [a 54 (by omega), b 8 (by omega)]; exact h.tb
theorem x_begin {s F : Nat} {x2 x3 : Int32} {v1 : jx_V} (hs : s < 4) (hF : 40 < F) : ∃ v', f_X1_begin_L F (nI s) x2 x3 0 v1 = some v' ∧ (∀ c, c ≠ 57 + s → v' c = v1 c) ∧ ∀ i, i < 40 → v' (57 + s) i = 0 := by
  have : ∀ d i f v2, i + d = 40 → d < f → (∀ c, c ≠ 57 + s → v2 c = v1 c) → (∀ k, k < i → v2 (57 + s) k = 0) → ∃ v', f_X1_begin_L f (nI s) x2 x3 (nI i) v2 = some v' ∧ (∀ c, c ≠ 57 + s → v' c = v1 c) ∧ ∀ i, i < 40 → v' (57 + s) i = 0 := by
    intro d
    induction d with
    | zero =>
      intro i f v2 hi hf h1 h2
      obtain ⟨f, rfl⟩ : ∃ q, f = q + 1 := ⟨f - 1, by omega⟩
      refine ⟨v2, ?_, h1, fun k hk => h2 k (by omega)⟩
      rw [f_X1_begin_L, if_pos (by rw [show (40 : Int32) = nI 40 from rfl, pI_le (by omega) (by omega)]; omega)]
    | succ d ih =>
      intro i f v2 hi hf h1 h2
      obtain ⟨f, rfl⟩ : ∃ q, f = q + 1 := ⟨f - 1, by omega⟩
      rw [f_X1_begin_L, if_neg (by rw [show (40 : Int32) = nI 40 from rfl, pI_le (by omega) (by omega)]; omega)]
      simp only [tn (show s < 2147483648 by omega), ib hs (by omega), tn (show i < 2147483648 by omega), ib (show i < 40 by omega) (by omega), if_false, nI_add1]
      refine ih (i+1) f _ (by omega) (by omega) (fun c hc => by rw [jx_up_ne hc]; exact h1 c hc) (fun k hk => ?_)
      rw [up_g]
      by_cases e : k = i
      · rw [if_pos ⟨rfl, e⟩]
      · rw [if_neg (by omega)]; exact h2 k (by omega)
  exact this 40 0 F v1 (by omega) (by omega) (fun _ _ => rfl) (fun k hk => by omega)
theorem f40 {s i : Nat} : 40 * nI s + nI i = nI (40 * s + i) := by unfold nI; simp [Int32.ofNat_add, Int32.ofNat_mul]
theorem m_begin {s F : Nat} {x2 x3 : Int32} {w1 : jx_V} (hs : s < 4) (hF : 40 < F) : ∃ w', f_X5_sheet_L F (nI s) x2 x3 0 w1 = some (w' 10 s, w') ∧ (∀ c, c ≠ 11 → w' c = w1 c) ∧ ∀ k, w' 11 k = if 40 * s ≤ k ∧ k < 40 * s + 40 then 0 else w1 11 k := by
  have : ∀ d i f w2, i + d = 40 → d < f → (∀ c, c ≠ 11 → w2 c = w1 c) → (∀ k, w2 11 k = if 40 * s ≤ k ∧ k < 40 * s + i then 0 else w1 11 k) → ∃ w', f_X5_sheet_L f (nI s) x2 x3 (nI i) w2 = some (w' 10 s, w') ∧ (∀ c, c ≠ 11 → w' c = w1 c) ∧ ∀ k, w' 11 k = if 40 * s ≤ k ∧ k < 40 * s + 40 then 0 else w1 11 k := by
    intro d
    induction d with
    | zero =>
      intro i f w2 hi hf h1 h2
      obtain ⟨f, rfl⟩ : ∃ q, f = q + 1 := ⟨f - 1, by omega⟩
      obtain rfl : i = 40 := by omega
      refine ⟨w2, ?_, h1, h2⟩
      rw [f_X5_sheet_L, if_pos (by rw [show (40 : Int32) = nI 40 from rfl, pI_le (by omega) (by omega)]; omega)]
      simp only [tn (show s < 2147483648 by omega), ib hs (by omega), if_false]
    | succ d ih =>
      intro i f w2 hi hf h1 h2
      obtain ⟨f, rfl⟩ : ∃ q, f = q + 1 := ⟨f - 1, by omega⟩
      rw [f_X5_sheet_L, if_neg (by rw [show (40 : Int32) = nI 40 from rfl, pI_le (by omega) (by omega)]; omega)]
      simp only [f40, tn (show 40 * s + i < 2147483648 by omega), ib (show 40 * s + i < 160 by omega) (by omega), if_false, nI_add1]
      refine ih (i+1) f _ (by omega) (by omega) (fun c hc => by rw [jx_up_ne hc]; exact h1 c hc) (fun k => ?_)
      rw [up_g]
      by_cases e : k = 40 * s + i
      · rw [if_pos ⟨rfl, e⟩, if_pos (by omega)]
      · rw [if_neg (by omega), h2 k]
        by_cases x : 40 * s ≤ k ∧ k < 40 * s + i
        · rw [if_pos x, if_pos (by omega)]
        · rw [if_neg x, if_neg (by omega)]
  exact this 40 0 F w1 (by omega) (by omega) (fun _ _ => rfl) (fun k => by rw [if_neg (by omega)])
theorem sh_core {v w : jx_V} {s F F' : Nat} {x2 x3 y2 y3 bits len : Int32} (h : R v w) (hs : s < 4) (hl : ∃ L, L ≤ 40 ∧ len = nI L) (hF : 40 < F) (hF' : 40 < F') :
    Q ((f_X1_begin_L F (nI s) x2 x3 0 (jx_up (jx_up v 61 s bits) 62 s len)).bind (fun v7 => some (v7 62 s, v7))) (f_X5_sheet_L F' (nI s) y2 y3 0 (jx_up (jx_up w 9 s bits) 10 s len)) := by
  obtain ⟨v', e1, a1, b1⟩ := x_begin (s := s) (F := F) (x2 := x2) (x3 := x3) (v1 := jx_up (jx_up v 61 s bits) 62 s len) hs hF
  obtain ⟨w', e2, a2, b2⟩ := m_begin (s := s) (F := F') (x2 := y2) (x3 := y3) (w1 := jx_up (jx_up w 9 s bits) 10 s len) hs hF'
  have v62 : v' 62 = upd (v 62) s len := by rw [a1 62 (by omega), up_c, jx_up_ne (by omega)]
  have v61 : v' 61 = upd (v 61) s bits := by rw [a1 61 (by omega), jx_up_ne (by omega), up_c]
  have w10 : w' 10 = upd (w 10) s len := by rw [a2 10 (by omega), up_c, jx_up_ne (by omega)]
  have w9 : w' 9 = upd (w 9) s bits := by rw [a2 9 (by omega), jx_up_ne (by omega), up_c]
  rw [e1, e2, Option.bind_some]
  rw [show v' 62 s = w' 10 s by rw [v62, w10]; unfold upd; rw [if_pos rfl, if_pos rfl]]
  refine Q_i (R_sh h (fun c hc => ?_) ?_ (fun c hc => ?_) ?_ ?_ (fun q hq => ?_))
  · rw [a1 c (by omega), jx_up_ne (by omega), jx_up_ne (by omega)]
  · rw [a1 53 (by omega), jx_up_ne (by omega), jx_up_ne (by omega)]
  · rw [a2 c (by omega), jx_up_ne (by omega), jx_up_ne (by omega)]
  · rw [a2 0 (by omega), jx_up_ne (by omega), jx_up_ne (by omega)]
  · rw [a2 0 (by omega), jx_up_ne (by omega), jx_up_ne (by omega)]
  · rw [v61, v62, w9, w10]
    have hq' := h.s q hq
    unfold upd
    by_cases e : q = s
    · subst e
      rw [if_pos rfl, if_pos rfl, if_pos rfl, if_pos rfl]
      refine ⟨rfl, rfl, hl, fun i hi => ?_⟩
      rw [b1 i hi, b2, if_pos (by omega)]
    · rw [if_neg e, if_neg e, if_neg e, if_neg e]
      refine ⟨hq'.1, hq'.2.1, hq'.2.2.1, fun i hi => ?_⟩
      rw [a1 (57+q) (by omega), b2, if_neg (by omega), jx_up_ne (by omega), jx_up_ne (by omega), jx_up_ne (by omega), jx_up_ne (by omega)]
      exact hq'.2.2.2 i hi
theorem q_sheet {v w a b c} (h : R v w) : Q (f_X4_sheet a b c v) (f_X5_sheet a b c w) := by
  unfold f_X4_sheet f_X5_sheet f_X1_begin
  generalize hF4 : (100000 : Nat) = F
  simp only [x_w4, m_isOne, Option.bind_some, x_f0, m_f0, x_f6, m_f6]
  by_cases c1 : 0 ≤ a ∧ a ≤ 3
  · obtain ⟨s, hs, rfl⟩ := ix (n := 3) rfl (by omega) c1
    simp only [if_pos c1, o10, if_false, tn (show s < 2147483648 by omega), ib hs (by omega)]
    by_cases b0 : b = 0
    · subst b0
      simp only [if_true]
      by_cases c2 : 0 ≤ c
      · by_cases c3 : c ≤ 40
        · rw [if_pos c2, if_pos c3, if_pos c2, if_pos c3]
          exact sh_core h hs ⟨0, by omega, rfl⟩ (by omega) (by omega)
        · rw [if_pos c2, if_neg c3, if_pos c2, if_neg c3]; exact Q_f h
      · rw [if_neg c2, if_neg c2]; exact Q_f h
    · simp only [b0, if_false]
      have core : Q (if 0 ≤ c then if c ≤ 40 then (f_X1_begin_L F (nI s) b c 0 (jx_up (jx_up v 61 s b) 62 s c)).bind (fun v7 => some (v7 62 s, v7)) else some (-1000001, jx_up v 63 0 (v 63 0 + 1)) else some (-1000007, jx_up v 63 6 (v 63 6 + 1)))
          (if 0 ≤ c then if c ≤ 40 then f_X5_sheet_L F (nI s) b c 0 (jx_up (jx_up w 9 s b) 10 s c) else some (-1000001, jx_up w 4 0 (w 4 0 + 1)) else some (-1000007, jx_up w 4 6 (w 4 6 + 1))) := by
        by_cases c2 : 0 ≤ c
        · by_cases c3 : c ≤ 40
          · rw [if_pos c2, if_pos c3, if_pos c2, if_pos c3]
            obtain ⟨L, hL, eL⟩ := ix (n := 40) rfl (by omega) ⟨c2, c3⟩
            exact sh_core h hs ⟨L, by omega, eL⟩ (by omega) (by omega)
          · rw [if_pos c2, if_neg c3, if_pos c2, if_neg c3]; exact Q_f h
        · rw [if_neg c2, if_neg c2]; exact Q_f h
      by_cases b8 : b = 8
      · rw [if_pos b8, if_pos b8]; exact core
      · rw [if_neg b8, if_neg b8]
        by_cases b16 : b = 16
        · rw [if_pos b16, if_pos b16]; exact core
        · rw [if_neg b16, if_neg b16]
          by_cases b32 : b = 32
          · rw [if_pos b32, if_pos b32]; exact core
          · rw [if_neg b32, if_neg b32]; exact Q_f h
  · simp only [if_neg c1, z00, if_true]; exact Q_f h
theorem x_miss {s : Nat} {v : jx_V} (hs : s < 4) : f_X1_isMissing (nI s) v = some (if v 61 s = 0 then 1 else 0, v) := by
  unfold f_X1_isMissing
  simp only [tn (show s < 2147483648 by omega), ib hs (by omega), if_false]
  split <;> rfl
theorem m_wrong {x} {w : jx_V} : (¬ (0 ≤ x ∧ x ≤ 3) → f_X5_wrong x w = some (-1000001, w)) ∧ ∀ s, s < 4 → f_X5_wrong (nI s) w = some (if w 9 s = 0 then -1000006 else 0, w) := by
  unfold f_X5_wrong
  constructor
  · intro c; simp only [m_isOne, Option.bind_some, if_neg c, z00, if_true]
  · intro s hs
    have c : 0 ≤ nI s ∧ nI s ≤ 3 := ⟨pI_pos (by omega), by rw [← n3, pI_le (by omega) (by omega)]; omega⟩
    simp only [m_isOne, Option.bind_some, if_pos c, o10, if_false, tn (show s < 2147483648 by omega), ib hs (by omega)]
    split <;> rfl
theorem R_num {v w : jx_V} {s i : Nat} {x : Int32} (h : R v w) (hs : s < 4) (hi : i < 40) : R (jx_up v (57 + s) i x) (jx_up w 11 (40 * s + i) x) := by
  refine R_sh h (fun c hc => jx_up_ne (by omega)) (by rw [jx_up_ne (by omega)]) (fun c hc => jx_up_ne (by omega)) (by rw [jx_up_ne (by omega)]) (by rw [jx_up_ne (by omega)]) (fun q hq => ?_)
  have hq' := h.s q hq
  rw [jx_up_ne (by omega), jx_up_ne (by omega), jx_up_ne (by omega), jx_up_ne (by omega)]
  refine ⟨hq'.1, hq'.2.1, hq'.2.2.1, fun k hk => ?_⟩
  rw [up_g, up_g]
  by_cases e : q = s ∧ k = i
  · rw [if_pos (by omega), if_pos (by omega)]
  · rw [if_neg (by omega), if_neg (by omega)]; exact hq'.2.2.2 k hk
theorem q_write {v w a b c} (h : R v w) : Q (f_X4_write a b c v) (f_X5_write a b c w) := by
  unfold f_X4_write f_X5_write
  simp only [x_w4, Option.bind_some, x_f0, x_f5]
  by_cases c1 : 0 ≤ a ∧ a ≤ 3
  · obtain ⟨s, hs, rfl⟩ := ix (n := 3) rfl (by omega) c1
    obtain ⟨e61, e62, ⟨L, hL, eL⟩, _⟩ := h.s s hs
    simp only [if_pos c1, o10, if_false, x_miss hs, (m_wrong (x := 0) (w := w)).2 s hs, Option.bind_some, e61, tn (show s < 2147483648 by omega), ib hs (by omega)]
    by_cases m0 : w 9 s = 0
    · simp only [if_pos m0, o10, b60, if_false, m_f5, Option.bind_some]; exact Q_f h
    · simp only [if_neg m0, z00, if_true, x_wi, m_in_0_v, Option.bind_some, ← e62, eL, m_f0]
      by_cases c2 : 0 ≤ b ∧ b < nI L
      · obtain ⟨i, hi, rfl⟩ := nI_ex (by omega) c2.1 c2.2
        have c2' : 0 ≤ nI i ∧ nI i ≤ nI L - 1 := ⟨c2.1, by
          have h1 : nI L ≤ 40 := by rw [show (40 : Int32) = nI 40 from rfl, pI_le (by omega) (by omega)]; omega
          have h2 := c2.2
          have h3 := c2.1
          grind⟩
        rw [if_pos c2, if_pos c2']
        simp only [o10, if_false, f_X1_store, f_X5_narrowed, e61, f40, tn (show s < 2147483648 by omega), ib hs (by omega), tn (show i < 2147483648 by omega), ib (show i < 40 by omega) (by omega), tn (show 40 * s + i < 2147483648 by omega), ib (show 40 * s + i < 160 by omega) (by omega)]
        by_cases b8 : w 9 s = 8
        · simp only [if_pos b8, Option.bind_some, f40, tn (show 40 * s + i < 2147483648 by omega), ib (show 40 * s + i < 160 by omega) (by omega), if_false]; exact Q_i (R_num h hs (by omega))
        · by_cases b16 : w 9 s = 16
          · simp only [if_neg b8, if_pos b16, Option.bind_some, f40, tn (show 40 * s + i < 2147483648 by omega), ib (show 40 * s + i < 160 by omega) (by omega), if_false]; exact Q_i (R_num h hs (by omega))
          · simp only [if_neg b8, if_neg b16, Option.bind_some, f40, tn (show 40 * s + i < 2147483648 by omega), ib (show 40 * s + i < 160 by omega) (by omega), if_false]; exact Q_i (R_num h hs (by omega))
      · have c2' : ¬ (0 ≤ b ∧ b ≤ nI L - 1) := fun q => c2 ⟨q.1, by
          have h1 : nI L ≤ 40 := by rw [show (40 : Int32) = nI 40 from rfl, pI_le (by omega) (by omega)]; omega
          have h2 := pI_pos (show L < 2147483648 by omega)
          have h3 := q.2
          grind⟩
        rw [if_neg c2, if_neg c2']
        simp only [z00, if_true]; exact Q_f h
  · simp only [if_neg c1, z00, if_true, (m_wrong (w := w)).1 c1, Option.bind_some, b10, if_false, m_f0]; exact Q_f h
