theorem isT1 {t i : Nat} {v : jx_V} (hi : i < 25) (hv : ¬ v (t + 3) i < 0) : f_X3_isTaken t (nI i) v = some (1, v) := by
  unfold f_X3_isTaken
  rw [if_neg (nI_in hi (by decide)), nI_clamp (by omega), if_neg hv]
theorem isTh1 {l : Nat} {w : jx_V} (hl : l < 25) (hv : ¬ w 1 (11 + 4 * l) < 0) : f_X5_isThing (nI l) w = some (1, w) := by
  unfold f_X5_isThing
  rw [its_n (k := 0) (by decide) hl (by decide), Option.bind_some]
  dsimp only
  rw [show 11 + 4 * l + 0 = 11 + 4 * l from rfl, if_neg hv]
theorem tc1 {k : Nat} (hk : k < 25) {v : jx_V} (h1 : ¬ v 4 k < 0) (h2 : ∀ j, j < 25 → j ≠ k → v 4 j = -1) : f_X3_thingCount 1 v = some (1, v) := by
  have key : ∀ n i, i ≤ 25 → 25 - i < n → f_X3_thingCount_L 1 n (if k < i then 1 else 0) (nI i) v = some (1, v) := by
    intro n
    induction n with
    | zero => intro i _ h; omega
    | succ n ih =>
      intro i hi hn
      rw [f_X3_thingCount_L]
      by_cases h25 : i = 25
      · subst h25
        rw [if_pos (show (25 : Int32) ≤ nI 25 by decide), if_pos hk]
      · rw [if_neg (show ¬ (25 : Int32) ≤ nI i from lt_n (N := 25) (by omega) (by decide))]
        by_cases e : i = k
        · subst e
          rw [isT1 (t := 1) (by omega) h1, Option.bind_some]
          dsimp only
          have := ih (i + 1) (by omega) (by omega)
          rw [if_pos (show i < i + 1 by omega)] at this
          rw [if_neg (by decide), if_neg (show ¬ i < i by omega), nI_1]
          exact this
        · rw [isT0 (t := 1) (by omega) (h2 i (by omega) e), Option.bind_some]
          dsimp only
          have := ih (i + 1) (by omega) (by omega)
          rw [if_pos rfl, nI_1]
          by_cases hlt : k < i
          · rw [if_pos (show k < i + 1 by omega)] at this
            rw [if_pos hlt]
            exact this
          · rw [if_neg (show ¬ k < i + 1 by omega)] at this
            rw [if_neg hlt]
            exact this
  have := key 100000 0 (by omega) (by omega)
  rw [if_neg (by omega)] at this
  exact this
theorem tc5 {k : Nat} (hk : k < 25) {w : jx_V} (h1 : ¬ w 1 (11 + 4 * k) < 0) (h2 : ∀ j, j < 25 → j ≠ k → w 1 (11 + 4 * j) = -1) : f_X5_things w = some (1, w) := by
  have key : ∀ n i, i ≤ 25 → 25 - i < n → f_X5_things_L n (if k < i then 1 else 0) (nI i) w = some (1, w) := by
    intro n
    induction n with
    | zero => intro i _ h; omega
    | succ n ih =>
      intro i hi hn
      rw [f_X5_things_L]
      by_cases h25 : i = 25
      · subst h25
        rw [if_pos (show (25 : Int32) ≤ nI 25 by decide), if_pos hk]
      · rw [if_neg (show ¬ (25 : Int32) ≤ nI i from lt_n (N := 25) (by omega) (by decide))]
        by_cases e : i = k
        · subst e
          rw [isTh1 (by omega) h1, Option.bind_some]
          dsimp only
          have := ih (i + 1) (by omega) (by omega)
          rw [if_pos (show i < i + 1 by omega)] at this
          rw [if_neg (by decide), if_neg (show ¬ i < i by omega), nI_1]
          exact this
        · rw [isTh0 (by omega) (h2 i (by omega) e), Option.bind_some]
          dsimp only
          have := ih (i + 1) (by omega) (by omega)
          rw [if_pos rfl, nI_1]
          by_cases hlt : k < i
          · rw [if_pos (show k < i + 1 by omega)] at this
            rw [if_pos hlt]
            exact this
          · rw [if_neg (show ¬ k < i + 1 by omega)] at this
            rw [if_neg hlt]
            exact this
  have := key 100000 0 (by omega) (by omega)
  rw [if_neg (by omega)] at this
  exact this
theorem builds_n {i : Nat} (hi : i < 25) {a1 a2 a3 a4 : Int32} {w : jx_V} : f_X5_builds (nI i) a1 a2 a3 a4 w = some (jx_up (jx_up (jx_up (jx_up w 1 (11 + 4 * i + 0) a1) 1 (11 + 4 * i + 1) a2) 1 (11 + 4 * i + 2) a3) 1 (11 + 4 * i + 3) a4) := by
  unfold f_X5_builds
  have g : ∀ k, k < 4 → ¬ (nI (11 + 4 * i + k) < 0 ∨ 181 ≤ (nI (11 + 4 * i + k)).toNatClampNeg) := fun k hk => nI_in (by omega) (by decide)
  have c : ∀ k, k < 4 → (nI (11 + 4 * i + k)).toNatClampNeg = 11 + 4 * i + k := fun k hk => nI_clamp (by omega)
  rw [at_n (k := 0) (by decide), Option.bind_some]
  dsimp only
  rw [if_neg (g 0 (by decide)), c 0 (by decide), at_n (k := 1) (by decide), Option.bind_some]
  dsimp only
  rw [if_neg (g 1 (by decide)), c 1 (by decide), at_n (k := 2) (by decide), Option.bind_some]
  dsimp only
  rw [if_neg (g 2 (by decide)), c 2 (by decide), at_n (k := 3) (by decide), Option.bind_some]
  dsimp only
  rw [if_neg (g 3 (by decide)), c 3 (by decide)]
theorem r_build (a1 a2 a3 a4 : Int32) : chk (f_X4_build a1 a2 a3 a4 v0_X4) (f_X5_build a1 a2 a3 a4 v0_X5) = true := q_build a1 a2 a3 a4 (fun h1 h2 h3 h4 => by
  obtain ⟨k, hk, rfl⟩ := rng (n := 25) (N := 25) (by decide) h2
  have hg : ¬ (nI k < 0 ∨ 25 ≤ (nI k).toNatClampNeg) := nI_in hk (by decide)
  have hc : (nI k).toNatClampNeg = k := nI_clamp (by omega)
  have hk0 : ¬ a1 < 0 := Int32.not_lt.mpr h1.1
  refine chk_of (r := 1) ⟨jx_up (jx_up (jx_up (jx_up v0_X4 4 k a1) 5 k a3) 6 k a4) 7 k 0, ?_⟩ ⟨jx_up (jx_up (jx_up (jx_up v0_X5 1 (11 + 4 * k + 0) a1) 1 (11 + 4 * k + 1) a3) 1 (11 + 4 * k + 2) a4) 1 (11 + 4 * k + 3) 0, ?_⟩
  · unfold f_X4_build
    rw [wi1 h1, Option.bind_some]
    dsimp only
    rw [if_neg (by decide), wi1 h2, Option.bind_some]
    dsimp only
    rw [if_neg (by decide), wi1 h3, Option.bind_some]
    dsimp only
    rw [if_neg (by decide), wi1 h4, Option.bind_some]
    dsimp only
    rw [if_neg (by decide), isT0 (t := 1) hk (FX0.2.1 k hk), Option.bind_some]
    dsimp only
    have hp : f_X3_put 1 (nI k) a1 a3 a4 0 v0_X4 = some (jx_up (jx_up (jx_up (jx_up v0_X4 4 k a1) 5 k a3) 6 k a4) 7 k 0) := by
      unfold f_X3_put
      rw [if_neg hg, if_neg hg, if_neg hg, if_neg hg, hc]
    rw [if_pos rfl, hp, Option.bind_some, tc1 hk (by rw [up_h (by decide), up_h (by decide), up_h (by decide), up_same]; exact hk0) (fun j hj hne => by rw [up_h (by decide), up_h (by decide), up_h (by decide), up_idx hne]; exact FX0.2.1 j hj), Option.bind_some]
  · unfold f_X5_build
    rw [in1 (n := 7) (lo' := 0) (by decide) (by decide) h1, Option.bind_some]
    dsimp only
    rw [if_neg (by decide), isLot1 h2, Option.bind_some]
    dsimp only
    rw [if_neg (by decide), isOwner1 h3, Option.bind_some]
    dsimp only
    rw [if_neg (by decide), isHeight1 h4, Option.bind_some]
    dsimp only
    rw [if_neg (by decide), isTh0 hk (FM0.2.1 k hk), Option.bind_some]
    dsimp only
    rw [if_pos rfl, builds_n hk, Option.bind_some, tc5 hk (by rw [up_idx (by omega), up_idx (by omega), up_idx (by omega), show 11 + 4 * k = 11 + 4 * k + 0 from rfl, up_same]; exact hk0) (fun j hj hne => by rw [up_idx (by omega), up_idx (by omega), up_idx (by omega), up_idx (by omega)]; exact FM0.2.1 j hj), Option.bind_some])
theorem r_window (a1 a2 a3 a4 : Int32) : chk (f_X4_window a1 a2 a3 a4 v0_X4) (f_X5_window a1 a2 a3 a4 v0_X5) = true := q_window a1 a2 a3 a4 (fun h1 h2 h3 h4 => by
  have B1 : ∀ v, f_X4_within a1 25 v = some (1, v) := fun v => wi1 h1
  have A1 : ∀ w, f_X5_isLot a1 w = some (1, w) := fun w => isLot1 h1
  have B2 : ∀ v, f_X4_within a2 10 v = some (1, v) := fun v => wi1 h2
  have A2 : ∀ w, f_X5_isHeight a2 w = some (1, w) := fun w => isHeight1 h2
  have B3 : ∀ v, f_X4_within a3 4 v = some (1, v) := fun v => wi1 h3
  have A3 : ∀ w, f_X5_in a3.toInt64 0 3 w = some (1, w) := fun w => in1 (n := 4) (lo' := 0) (by decide) (by decide) h3
  have B4 : ∀ v, f_X4_within a4 4 v = some (1, v) := fun v => wi1 h4
  have A4 : ∀ w, f_X5_isOwner a4 w = some (1, w) := fun w => isOwner1 h4
  have hwc : v0_X4 1 5 = 0 := by decide +kernel
  have hwm : v0_X5 1 1 = 0 := by decide +kernel
  simp only [f_X4_window, f_X5_window, B1, A1, B2, A2, B3, A3, B4, A4, Option.bind_some, reduceIte, e10]
  rw [if_pos (show v0_X4 1 5 < 10 by decide +kernel), if_neg (show ¬ v0_X5 1 1 = 10 by decide +kernel)]
  refine chk_of (r := 0) ?_ ?_
  · simp [f_X3_addWindow, jx_up, jx_set, upd, hwc]
  · simp [f_X5_newWindow, f_X5_where, jx_up, jx_set, upd, hwm])
theorem FX33 : FX 33 v0_X4 := ⟨by decide +kernel, by decide +kernel, by decide +kernel⟩
theorem bec0 : ∃ v, f_X3_become 33 1 v0_X4 = some v ∧ ∀ h, h < 67 → ∀ k, k < jx_len (shX h) → v h k = v0_X4 h k := jn_run (by decide +kernel)
theorem bec : ∃ v, f_X3_become 33 1 v0_X4 = some v ∧ FX 33 v := by
  obtain ⟨v, h1, h2⟩ := bec0
  exact ⟨v, h1, (h2 33 (by decide) 5 (by decide)).trans FX33.1, fun j hj => (h2 36 (by decide) j (by rw [s_X36]; exact hj)).trans (FX33.2.1 j hj), fun o ho => (h2 47 (by decide) o (by rw [s_X47]; exact ho)).trans (FX33.2.2 o ho)⟩
theorem bS4 {v : jx_V} (h : v 33 5 = 0) : f_X0_brokenSet 33 v = some (0, v) := by
  show f_X0_brokenSet_L 33 (99999 + 1) 0 0 v = _
  rw [f_X0_brokenSet_L, h, if_pos (by decide)]
theorem aV4 {v : jx_V} (h : v 33 5 = 0) : f_X0_squaresInAllViews 33 v = some (0, v) := by
  show f_X0_squaresInAllViews_L 33 (99999 + 1) 0 0 v = _
  rw [f_X0_squaresInAllViews_L, h, if_pos (by decide)]
theorem bS5 {w : jx_V} (h : w 1 1 = 0) : f_X5_brokenSet w = some (0, w) := by
  show f_X5_brokenSet_L (99999 + 1) 0 0 w = _
  rw [f_X5_brokenSet_L, h, if_pos (by decide)]
theorem aV5 {w : jx_V} (h : w 1 1 = 0) : f_X5_allViews w = some (0, w) := by
  show f_X5_allViews_L (99999 + 1) 0 0 w = _
  rw [f_X5_allViews_L, h, if_pos (by decide)]
theorem r_ahead (a1 a2 : Int32) : chk (f_X4_ahead a1 a2 v0_X4) (f_X5_ahead a1 a2 v0_X5) = true := q_ahead a1 a2 (fun h1 h2 => by
  obtain ⟨N, hN, rfl⟩ := rng (n := 121) (N := 121) (by decide) h1
  obtain ⟨vb, e1, e2⟩ := bec
  obtain ⟨v8, e3, e4⟩ := pM (t := 33) (N := N) (by omega) e2
  obtain ⟨w8, f1, f2, f3⟩ := puts_n v0_X5
  have hw8 : FM w8 := ⟨by rw [f2 1 (by decide)]; exact FM0.1, fun l hl => by rw [f2 1 (by decide)]; exact FM0.2.1 l hl, fun o ho => by rw [f2 1 (by decide)]; exact FM0.2.2 o ho⟩
  obtain ⟨w9, f4, f5⟩ := mG (N := N) (by omega) hw8
  obtain ⟨w10, f6, -, -⟩ := back_n w9
  have hs4 : v0_X4 1 6 + nI N = nI N := by rw [show v0_X4 1 6 = nI 0 by decide +kernel, nI_add, Nat.zero_add]
  have hs5 : v0_X5 1 0 + nI N = nI N := by rw [show v0_X5 1 0 = nI 0 by decide +kernel, nI_add, Nat.zero_add]
  have h999 : nI N ≤ 999 := nI_le (b := 999) (by omega) (by decide)
  have C4 : f_X4_ahead (nI N) a2 v0_X4 = (if a2 = 0 then some (0, v8) else (if a2 = 1 then some (0, v8) else (if a2 = 2 then some (0, v8) else (if ((a2 - 3) < 0 ∨ 4 ≤ Int32.toNatClampNeg (a2 - 3)) then none else (some ((v8 47 (Int32.toNatClampNeg (a2 - 3))), v8)))))) := by
    unfold f_X4_ahead
    rw [wi1 h1, Option.bind_some]
    dsimp only
    rw [if_neg (by decide), wi1 h2, Option.bind_some]
    dsimp only
    rw [if_neg (by decide), hs4, if_pos h999, e1, Option.bind_some, e3, Option.bind_some]
    dsimp only
    rw [bS4 e4.1, aV4 e4.1]
    rfl
  have C5 : f_X5_ahead (nI N) a2 v0_X5 = (if a2 = 0 then some (0, w10) else (if a2 = 1 then some (0, w10) else (if a2 = 2 then some (0, w10) else (if (((7 + a2) - 3) < 0 ∨ 181 ≤ Int32.toNatClampNeg ((7 + a2) - 3)) then none else (some ((w9 1 (Int32.toNatClampNeg ((7 + a2) - 3))), w10)))))) := by
    unfold f_X5_ahead f_X5_isTooLate
    rw [in1 (n := 121) (lo' := 0) (by decide) (by decide) h1, Option.bind_some]
    dsimp only
    rw [if_neg (by decide), in1 (n := 7) (lo' := 0) (by decide) (by decide) h2, Option.bind_some]
    dsimp only
    rw [if_neg (by decide), hs5, if_pos h999, Option.bind_some]
    dsimp only
    rw [if_pos rfl, f1, Option.bind_some, f4, Option.bind_some]
    dsimp only
    rw [bS5 f5.1, aV5 f5.1]
    simp only [Option.bind_some, f6]
  rw [C4, C5]
  obtain ⟨k, hk, rfl⟩ := rng (n := 7) (N := 7) (by decide) h2
  have z4 := e4.2.2
  have z5 := f5.2.2
  rcases (show k = 0 ∨ k = 1 ∨ k = 2 ∨ k = 3 ∨ k = 4 ∨ k = 5 ∨ k = 6 by omega) with rfl | rfl | rfl | rfl | rfl | rfl | rfl
  · rfl
  · rfl
  · rfl
  · exact chk_of (r := 0) ⟨v8, by show some (v8 (33 + 14) 0, v8) = _; rw [z4 0 (by decide)]⟩ ⟨w10, by show some (w9 1 (7 + 0), w10) = _; rw [z5 0 (by decide)]⟩
  · exact chk_of (r := 0) ⟨v8, by show some (v8 (33 + 14) 1, v8) = _; rw [z4 1 (by decide)]⟩ ⟨w10, by show some (w9 1 (7 + 1), w10) = _; rw [z5 1 (by decide)]⟩
  · exact chk_of (r := 0) ⟨v8, by show some (v8 (33 + 14) 2, v8) = _; rw [z4 2 (by decide)]⟩ ⟨w10, by show some (w9 1 (7 + 2), w10) = _; rw [z5 2 (by decide)]⟩
  · exact chk_of (r := 0) ⟨v8, by show some (v8 (33 + 14) 3, v8) = _; rw [z4 3 (by decide)]⟩ ⟨w10, by show some (w9 1 (7 + 3), w10) = _; rw [z5 3 (by decide)]⟩)
