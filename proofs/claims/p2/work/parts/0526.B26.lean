theorem x_lower {a : Nat} {v : jx_V} (ha : a < 25) : f_X3_lower 1 (nI a) v = some (if v 6 a ≤ 0 then 0 else 1, jx_up v 6 a (v 6 a - (if v 6 a ≤ 0 then 0 else 1))) := by
  unfold f_X3_lower
  simp only [tn (show a < 2147483648 by omega), ib ha (show 25 ≤ 100000 by omega), if_false, show (1 : Nat) + 5 = 6 from rfl]
  by_cases c : v 6 a ≤ 0
  · simp only [if_pos c]
  · simp only [if_neg c]
theorem low_r : ∀ q, q < 10 → ∃ t, t < 10 ∧ nI q - (if nI q ≤ 0 then (0 : Int32) else 1) = nI t := by decide +kernel
theorem OK_low {v : jx_V} {a : Nat} (hT : OK (cT 1 v)) (ha : a < 25) (ht : 0 ≤ v 4 a) : OK (cT 1 (jx_up v 6 a (v 6 a - (if v 6 a ≤ 0 then 0 else 1)))) := by
  obtain ⟨q, hq, e⟩ := hT.h a
  rw [cH ha ht] at e
  rw [show v 6 a = nI q from e, show jx_up v 6 a = jx_up v (1 + 5) a from rfl, c_sH (h := 1) ha ht]
  exact OK_sH hT (low_r q hq)
theorem x_both {a b : Nat} {v : jx_V} (hT : OK (cT 1 v)) (ha : a < 25) (hb : b < 25) (ta : 0 ≤ v 4 a) (tb : 0 ≤ v 4 b) : ∃ r v', f_X4_bothGainIfLower (nI a) (nI b) v = some (r, v') ∧ SX v v' := by
  unfold f_X4_bothGainIfLower
  rw [x_lower ha, Option.bind_some]
  generalize e1 : (if v 6 a ≤ 0 then (0 : Int32) else 1) = d1
  have O1 : OK (cT 1 (jx_up v 6 a (v 6 a - d1))) := by rw [← e1]; exact OK_low hT ha ta
  have t1 : 0 ≤ jx_up v 6 a (v 6 a - d1) 4 b := by rw [jx_up_ne (by omega)]; exact tb
  simp only []
  rw [x_lower hb, Option.bind_some]
  have O2 := OK_low O1 hb t1
  generalize e2 : (if jx_up v 6 a (v 6 a - d1) 6 b ≤ 0 then (0 : Int32) else 1) = d2 at O2 ⊢
  simp only []
  obtain ⟨v3, e3, g3, _⟩ := x_gains (h := 1) (r := 65) (by omega) (by omega) O2
  rw [e3, Option.bind_some]
  simp only [tn (show a < 2147483648 by omega), ib ha (show 25 ≤ 100000 by omega), tn (show b < 2147483648 by omega), ib hb (show 25 ≤ 100000 by omega), if_false]
  have f5 : (jx_up (jx_up v3 6 a (v3 6 a + d1)) 6 b (jx_up v3 6 a (v3 6 a + d1) 6 b + d2)) 5 = v 5 := by
    rw [jx_up_ne (by omega), jx_up_ne (by omega), g3 5 (by omega) (by omega), jx_up_ne (by omega), jx_up_ne (by omega)]
  have S : SX v (jx_up (jx_up v3 6 a (v3 6 a + d1)) 6 b (jx_up v3 6 a (v3 6 a + d1) 6 b + d2)) := by
    constructor
    · intro c hc
      by_cases c6 : c = 6
      · subst c6
        have g6 : v3 6 = _ := g3 6 (by omega) (by omega)
        funext k
        simp only [up_g, g6, true_and]
        by_cases k1 : k = b
        · by_cases k2 : a = b
          · subst k2; subst k1; simp only [if_true]; grind
          · subst k1
            simp only [if_true, if_neg (show ¬ k = a by omega)]; grind
        · by_cases k2 : k = a
          · subst k2
            simp only [if_true, if_neg k1]; grind
          · simp only [if_neg k1, if_neg k2]
      · rw [jx_up_ne c6, jx_up_ne c6, g3 c (by omega) (by omega), jx_up_ne c6, jx_up_ne c6]
    · rw [jx_up_ne (by omega), jx_up_ne (by omega), g3 53 (by omega) (by omega), jx_up_ne (by omega), jx_up_ne (by omega)]
  generalize (jx_up (jx_up v3 6 a (v3 6 a + d1)) 6 b (jx_up v3 6 a (v3 6 a + d1) 6 b + d2)) = v' at f5 S ⊢
  obtain ⟨o1, ho1, eo1⟩ := hT.o a
  obtain ⟨o2, ho2, eo2⟩ := hT.o b
  rw [cO ha ta] at eo1
  rw [cO hb tb] at eo2
  have eo1' : v' 5 a = nI o1 := by rw [f5]; exact eo1
  have eo2' : v' 5 b = nI o2 := by rw [f5]; exact eo2
  simp only [eo1', eo2', tn (show o1 < 2147483648 by omega), ib ho1 (show 4 ≤ 100000 by omega), tn (show o2 < 2147483648 by omega), ib ho2 (show 4 ≤ 100000 by omega), if_false]
  split
  · exact ⟨_, _, rfl, S⟩
  · split
    · exact ⟨_, _, rfl, S⟩
    · exact ⟨_, _, rfl, S⟩
theorem x_ownl {l : Nat} {x : Int32} {v : jx_V} (hl : l < 25) : f_X3_isOwnersLot 1 (nI l) x v = some (if ¬ v 4 l < 0 ∧ v 5 l = x then 1 else 0, v) := by
  unfold f_X3_isOwnersLot
  simp only [x_taken (h := 1) hl, Option.bind_some, tn (show l < 2147483648 by omega), ib hl (show 25 ≤ 100000 by omega), if_false, show (1 : Nat) + 3 = 4 from rfl, show (1 : Nat) + 4 = 5 from rfl]
  by_cases c : v 4 l < 0
  · rw [if_pos c, if_pos i00, if_neg (fun k => k.1 c)]
  · rw [if_neg c, if_neg i10]
    by_cases c' : v 5 l = x
    · rw [if_pos c', if_pos ⟨c, c'⟩]
    · rw [if_neg c', if_neg (fun k => c' k.2)]
theorem x_tr1 {v : jx_V} {a : Nat} {x1 x2 : Int32} (hT : OK (cT 1 v)) (ha : a < 25) (ta : 0 ≤ v 4 a) : ∀ d l f v1, l + d = 25 → d + 1 < f → SX v v1 →
    (∃ r v', f_X4_trade_L f 1 x1 x2 (nI a) (nI l) v1 = some (r, v') ∧ SX v v') ∨ ∃ v2 f2, f ≤ f2 + d + 1 ∧ SX v v2 ∧ f_X4_trade_L f 1 x1 x2 (nI a) (nI l) v1 = f_X4_trade_L f2 0 x1 x2 (nI (a+1)) 0 v2 := by
  intro d
  induction d with
  | zero =>
    intro l f v1 hl hf s
    obtain ⟨f, rfl⟩ : ∃ q, f = q + 1 := ⟨f - 1, by omega⟩
    obtain rfl : l = 25 := by omega
    refine Or.inr ⟨v1, f, by omega, s, ?_⟩
    rw [f_X4_trade_L, if_neg (by omega), if_pos rfl, if_pos (by decide), nI_add1]
  | succ d ih =>
    intro l f v1 hl hf s
    obtain ⟨f, rfl⟩ : ∃ q, f = q + 1 := ⟨f - 1, by omega⟩
    have hl' : l < 25 := by omega
    have e4 : v1 4 = v 4 := s.1 4 (by omega)
    have eT : cT 1 v1 = cT 1 v := SX_c (by omega) s
    have k25 : ¬ (25 : Int32) ≤ nI l := by rw [show (25 : Int32) = nI 25 from rfl, pI_le (by omega) (by omega)]; omega
    rw [f_X4_trade_L, if_neg (show ¬ (1 : Nat) = 0 by omega), if_pos rfl, if_neg k25, x_ownl hl', Option.bind_some]
    simp only [nI_add1]
    by_cases c : ¬ v1 4 l < 0 ∧ v1 5 l = x2
    · obtain ⟨r, v2, e2, s2⟩ := x_both (v := v1) (by rw [eT]; exact hT) ha hl' (by rw [e4]; exact ta) (Int32.not_lt.mp c.1)
      simp only [if_pos c, o10, if_false, e2, Option.bind_some]
      by_cases c2 : r = 0
      · rw [if_pos c2]
        rcases ih (l+1) f v2 (by omega) (by omega) (SX_t s s2) with q | ⟨v3, f2, q1, q2, q3⟩
        · exact Or.inl q
        · exact Or.inr ⟨v3, f2, by omega, q2, q3⟩
      · rw [if_neg c2]; exact Or.inl ⟨_, _, rfl, SX_t s s2⟩
    · simp only [if_neg c, z00, if_true]
      rcases ih (l+1) f v1 (by omega) (by omega) s with q | ⟨v3, f2, q1, q2, q3⟩
      · exact Or.inl q
      · exact Or.inr ⟨v3, f2, by omega, q2, q3⟩
theorem x_tr0 {v : jx_V} {x1 x2 : Int32} (hT : OK (cT 1 v)) : ∀ d a f v1, a + d = 25 → d * 30 + 1 < f → SX v v1 → ∃ r v', f_X4_trade_L f 0 x1 x2 (nI a) 0 v1 = some (r, v') ∧ SX v v' := by
  intro d
  induction d with
  | zero =>
    intro a f v1 ha hf s
    obtain ⟨f, rfl⟩ : ∃ q, f = q + 1 := ⟨f - 1, by omega⟩
    obtain rfl : a = 25 := by omega
    rw [f_X4_trade_L, if_pos rfl, if_pos (by decide), x_f3, Option.bind_some]
    exact ⟨_, _, rfl, SX_t s (up_SX (by omega))⟩
  | succ d ih =>
    intro a f v1 ha hf s
    obtain ⟨f, rfl⟩ : ∃ q, f = q + 1 := ⟨f - 1, by omega⟩
    have ha' : a < 25 := by omega
    have e4 : v1 4 = v 4 := s.1 4 (by omega)
    have k25 : ¬ (25 : Int32) ≤ nI a := by rw [show (25 : Int32) = nI 25 from rfl, pI_le (by omega) (by omega)]; omega
    rw [f_X4_trade_L, if_pos rfl, if_neg k25, x_ownl ha', Option.bind_some]
    simp only [nI_add1]
    by_cases c : ¬ v1 4 a < 0 ∧ v1 5 a = x1
    · simp only [if_pos c, o10, if_false]
      rcases x_tr1 (x1 := x1) (x2 := x2) hT ha' (by rw [← e4]; exact Int32.not_lt.mp c.1) 25 0 f v1 (by omega) (by omega) s with q | ⟨v3, f2, q1, q2, q3⟩
      · exact q
      · rw [show (0 : Int32) = nI 0 from rfl, q3]
        exact ih (a+1) f2 v3 (by omega) (by omega) q2
    · simp only [if_neg c, z00, if_true]
      exact ih (a+1) f v1 (by omega) (by omega) s
theorem m_isLow {l : Nat} {x : Int32} {w : jx_V} (hl : l < 25) : f_X5_isLowered (nI l) x w = some (if ¬ w 1 (11 + 4 * l) < 0 ∧ w 1 (12 + 4 * l) = x ∧ ¬ w 1 (13 + 4 * l) ≤ 0 then 1 else 0, w) := by
  unfold f_X5_isLowered
  simp only [m_thing hl, m_its1 hl, m_its2 hl, Option.bind_some]
  by_cases c : w 1 (11 + 4 * l) < 0
  · rw [if_pos c, if_pos i00, if_neg (fun k => k.1 c)]
  · rw [if_neg c, if_neg i10]
    by_cases c' : w 1 (12 + 4 * l) = x
    · rw [if_pos c']
      by_cases c'' : w 1 (13 + 4 * l) ≤ 0
      · rw [if_pos c'', if_neg (fun k => k.2.2 c'')]
      · rw [if_neg c'', if_pos ⟨c, c', c''⟩]
    · rw [if_neg c', if_neg (fun k => c' k.2.1)]
theorem low_m : ∀ q, q < 10 → ¬ nI q ≤ 0 → ∃ t, t < 10 ∧ nI q - 1 = nI t := by decide +kernel
theorem OK_lowm {w : jx_V} {a : Nat} (hT : OK (mT (w 1))) (ha : a < 25) (ht : 0 ≤ w 1 (11 + 4 * a)) (hp : ¬ w 1 (13 + 4 * a) ≤ 0) : OK (mT (jx_up w 1 (13 + 4 * a) (w 1 (13 + 4 * a) - 1) 1)) := by
  obtain ⟨q, hq, e⟩ := hT.h a
  rw [mH ha ht] at e
  rw [e] at hp
  rw [up_c, m_sH ha ht, e]
  exact OK_sH hT (low_m q hq hp)
theorem SM_lr {w w3 : jx_V} {i j : Nat} (hij : i ≠ j) (g : FM (jx_up (jx_up w 1 i (w 1 i - 1)) 1 j (jx_up w 1 i (w 1 i - 1) 1 j - 1)) w3) : SM w (jx_up (jx_up w3 1 i (w3 1 i + 1)) 1 j (jx_up w3 1 i (w3 1 i + 1) 1 j + 1)) := by
  refine ⟨fun c hc => ?_, ?_, ?_⟩
  · by_cases c1 : c = 1
    · subst c1
      have g1 := FM_1 g
      funext k
      simp only [up_g, g1, true_and]
      by_cases k1 : k = j
      · subst k1; simp only [if_true, if_neg (Ne.symm hij)]; grind
      · by_cases k2 : k = i
        · subst k2; simp only [if_true, if_neg k1]; grind
        · simp only [if_neg k1, if_neg k2]
    · rw [jx_up_ne c1, jx_up_ne c1, g.1 c (by omega) (by omega) (by omega), jx_up_ne c1, jx_up_ne c1]
  · rw [jx_up_ne (by omega), jx_up_ne (by omega), g.2 4 (by omega) (by omega) (by omega), jx_up_ne (by omega), jx_up_ne (by omega)]
  · rw [jx_up_ne (by omega), jx_up_ne (by omega), g.2 12 (by omega) (by omega) (by omega), jx_up_ne (by omega), jx_up_ne (by omega)]
theorem m_tr1 {w : jx_V} {a o1 o2 : Nat} {x3 x4 : Int32} (hT : OK (mT (w 1))) (ha : a < 25) (h1 : o1 < 4) (h2 : o2 < 4) (hne : o1 ≠ o2) : ∀ d l f x5 w1, l + d = 25 → d + 1 < f → SM w w1 →
    ∃ w2 f2 x5', f ≤ f2 + d + 1 ∧ SM w w2 ∧ f_X5_trade_L f 1 (nI o1) (nI o2) x3 x4 x5 (nI a) (nI l) w1 = f_X5_trade_L f2 0 (nI o1) (nI o2) x3 x4 x5' (nI (a+1)) 0 w2 := by
  intro d
  induction d with
  | zero =>
    intro l f x5 w1 hl hf s
    obtain ⟨f, rfl⟩ : ∃ q, f = q + 1 := ⟨f - 1, by omega⟩
    obtain rfl : l = 25 := by omega
    refine ⟨w1, f, x5, by omega, s, ?_⟩
    rw [f_X5_trade_L, if_neg (by omega), if_pos rfl, if_pos (by decide), nI_add1]
  | succ d ih =>
    intro l f x5 w1 hl hf s
    obtain ⟨f, rfl⟩ : ∃ q, f = q + 1 := ⟨f - 1, by omega⟩
    have hl' : l < 25 := by omega
    have e1 : w1 1 = w 1 := s.1 1 (by omega)
    have k25 : ¬ (25 : Int32) ≤ nI l := by rw [show (25 : Int32) = nI 25 from rfl, pI_le (by omega) (by omega)]; omega
    have go : ∀ x w2, SM w w2 → ∃ w3 f2 x5', f + 1 ≤ f2 + (d + 1) + 1 ∧ SM w w3 ∧ f_X5_trade_L f 1 (nI o1) (nI o2) x3 x4 x (nI a) (nI (l+1)) w2 = f_X5_trade_L f2 0 (nI o1) (nI o2) x3 x4 x5' (nI (a+1)) 0 w3 := by
      intro x w2 s2
      obtain ⟨w3, f2, x5', q1, q2, q3⟩ := ih (l+1) f x w2 (by omega) (by omega) s2
      exact ⟨w3, f2, x5', by omega, q2, q3⟩
    rw [f_X5_trade_L, if_neg (show ¬ (1 : Nat) = 0 by omega), if_pos rfl, if_neg k25]
    by_cases c5 : 0 ≤ x5
    · rw [if_pos c5, nI_add1]; exact ⟨w1, f, x5, by omega, s, rfl⟩
    · rw [if_neg c5, m_isLow ha, Option.bind_some]
      simp only [nI_add1]
      by_cases ca : ¬ w1 1 (11 + 4 * a) < 0 ∧ w1 1 (12 + 4 * a) = nI o1 ∧ ¬ w1 1 (13 + 4 * a) ≤ 0
      · simp only [if_pos ca, o10, if_false, m_isLow hl', Option.bind_some]
        by_cases cl : ¬ w1 1 (11 + 4 * l) < 0 ∧ w1 1 (12 + 4 * l) = nI o2 ∧ ¬ w1 1 (13 + 4 * l) ≤ 0
        · have hal : a ≠ l := fun e => by
            subst e
            have := ca.2.1.symm.trans cl.2.1
            rw [pI_eq (by omega) (by omega)] at this
            exact hne this
          have O0 : OK (mT (w1 1)) := by rw [e1]; exact hT
          have O1 := OK_lowm O0 ha (Int32.not_lt.mp ca.1) ca.2.2
          have O2 := OK_lowm (w := jx_up w1 1 (13 + 4 * a) (w1 1 (13 + 4 * a) - 1)) O1 hl' (by rw [up_g, if_neg (by omega)]; exact Int32.not_lt.mp cl.1) (by rw [up_g, if_neg (by omega)]; exact cl.2.2)
          obtain ⟨w3, g1, g2, g3⟩ := m_gainOf (o := o1) O2 h1
          have S3 := SM_t s (SM_lr (i := 13 + 4 * a) (j := 13 + 4 * l) (by omega) g2)
          simp only [if_pos cl, o10, if_false, f_X5_at, Option.bind_some, at2, tn (show 13 + 4 * a < 2147483648 by omega), ib (show 13 + 4 * a < 181 by omega) (show 181 ≤ 100000 by omega), tn (show 13 + 4 * l < 2147483648 by omega), ib (show 13 + 4 * l < 181 by omega) (show 181 ≤ 100000 by omega), g1, tn (show o2 < 2147483648 by omega), ib h2 (show 4 ≤ 100000 by omega)]
          split
          · exact go _ _ S3
          · split
            · exact go _ _ S3
            · exact go _ _ S3
        · simp only [if_neg cl, z00, if_true]; exact go _ _ s
      · simp only [if_neg ca, z00, if_true]; exact go _ _ s
theorem m_tr0 {w : jx_V} {o1 o2 : Nat} {x3 x4 : Int32} (hT : OK (mT (w 1))) (h1 : o1 < 4) (h2 : o2 < 4) (hne : o1 ≠ o2) : ∀ d a f x5 w1, a + d = 25 → d * 30 + 1 < f → SM w w1 → ∃ r w', f_X5_trade_L f 0 (nI o1) (nI o2) x3 x4 x5 (nI a) 0 w1 = some (r, w') ∧ SM w w' := by
  intro d
  induction d with
  | zero =>
    intro a f x5 w1 ha hf s
    obtain ⟨f, rfl⟩ : ∃ q, f = q + 1 := ⟨f - 1, by omega⟩
    obtain rfl : a = 25 := by omega
    rw [f_X5_trade_L, if_pos rfl, if_pos (by decide), m_f3, Option.bind_some]
    split
    · exact ⟨_, _, rfl, s⟩
    · exact ⟨_, _, rfl, SM_t s (up_SM (by omega))⟩
  | succ d ih =>
    intro a f x5 w1 ha hf s
    obtain ⟨f, rfl⟩ : ∃ q, f = q + 1 := ⟨f - 1, by omega⟩
    have k25 : ¬ (25 : Int32) ≤ nI a := by rw [show (25 : Int32) = nI 25 from rfl, pI_le (by omega) (by omega)]; omega
    rw [f_X5_trade_L, if_pos rfl, if_neg k25]
    by_cases c5 : 0 ≤ x5
    · simp only [if_pos c5]; exact ⟨_, _, rfl, s⟩
    · rw [if_neg c5]
      obtain ⟨w2, f2, x5', q1, q2, q3⟩ := m_tr1 (x3 := x3) (x4 := x4) hT (show a < 25 by omega) h1 h2 hne 25 0 f x5 w1 (by omega) (by omega) s
      rw [show (0 : Int32) = nI 0 from rfl, q3]
      exact ih (a+1) f2 x5' w2 (by omega) (by omega) q2
theorem x_trade {v a b} (hT : OK (cT 1 v)) : ∃ r v', f_X4_trade a b v = some (r, v') ∧ SX v v' := by
  unfold f_X4_trade
  generalize hF : (100000 : Nat) = F
  simp only [x_w4, Option.bind_some, x_f0]
  by_cases c1 : 0 ≤ a ∧ a ≤ 3
  · rw [if_pos c1, if_neg i10]
    by_cases c2 : 0 ≤ b ∧ b ≤ 3
    · rw [if_pos c2, if_neg i10]
      by_cases c3 : a = b
      · rw [if_pos c3]; exact ⟨_, _, rfl, up_SX (by omega)⟩
      · rw [if_neg c3]
        obtain ⟨v1, e1, g1, _⟩ := x_gains (h := 1) (r := 64) (by omega) (by omega) hT
        rw [e1, Option.bind_some]
        exact x_tr0 (x1 := a) (x2 := b) hT 25 0 F v1 (by omega) (by omega) (GR_SX (by omega) g1)
    · rw [if_neg c2, if_pos i00]; exact ⟨_, _, rfl, up_SX (by omega)⟩
  · rw [if_neg c1, if_pos i00]; exact ⟨_, _, rfl, up_SX (by omega)⟩
theorem m_trade {w a b} (hT : OK (mT (w 1))) : ∃ r w', f_X5_trade a b w = some (r, w') ∧ SM w w' := by
  unfold f_X5_trade
  generalize hF : (100000 : Nat) = F
  simp only [m_isOwner, Option.bind_some, m_f0]
  by_cases c1 : 0 ≤ a ∧ a ≤ 3
  · obtain ⟨o1, h1, rfl⟩ := ix (n := 3) rfl (by omega) c1
    rw [if_pos c1, if_neg i10]
    by_cases c2 : 0 ≤ b ∧ b ≤ 3
    · obtain ⟨o2, h2, rfl⟩ := ix (n := 3) rfl (by omega) c2
      rw [if_pos c2, if_neg i10]
      by_cases c3 : nI o1 = nI o2
      · rw [if_pos c3]; exact ⟨_, _, rfl, up_SM (by omega)⟩
      · rw [if_neg c3]
        obtain ⟨w1, e2, g2, _⟩ := m_gainOf (o := o1) hT h1
        rw [e2, Option.bind_some]
        simp only [tn (show o2 < 2147483648 by omega), ib h2 (show 4 ≤ 100000 by omega), if_false]
        exact m_tr0 hT h1 h2 (fun e => c3 (by rw [e])) 25 0 F (-1) w1 (by omega) (by omega) (FM_SM g2)
    · rw [if_neg c2, if_pos i00]; exact ⟨_, _, rfl, up_SM (by omega)⟩
  · rw [if_neg c1, if_pos i00]; exact ⟨_, _, rfl, up_SM (by omega)⟩
theorem q_trade {v w a b} (h : R v w) : Q2 (f_X4_trade a b v) (f_X5_trade a b w) := by
  obtain ⟨r, v', e1, s1⟩ := x_trade (a := a) (b := b) h.ok
  obtain ⟨r', w', e2, s2⟩ := m_trade (a := a) (b := b) h.ok'
  exact ⟨r, v', r', w', e1, e2, R_fr h s1 s2⟩
