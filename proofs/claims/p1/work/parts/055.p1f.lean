theorem le_1 {a : Int32} (h : 1 ≤ a) : 0 ≤ a := Int32.le_iff_toInt_le.mpr (by have := Int32.le_iff_toInt_le.mp h; have e1 : (1 : Int32).toInt = 1 := (by decide); have e0 : (0 : Int32).toInt = 0 := (by decide); omega)
theorem nle_of {a n m : Int32} (e : m.toInt + 1 = n.toInt) (h : ¬ a < n) : ¬ a ≤ m := fun q => h (Int32.lt_iff_toInt_lt.mpr (by have := Int32.le_iff_toInt_le.mp q; omega))
set_option maxRecDepth 100000 in
theorem D_spill : ∀ j, j < 13 → 1 ≤ j → chk (f_X4_spill (nI j) v0_X4) (f_X5_spill (nI j) v0_X5) = true := by decide +kernel
theorem r_spill (a1 : Int32) : chk (f_X4_spill a1 v0_X4) (f_X5_spill a1 v0_X5) = true := by
  by_cases h : 1 ≤ a1 ∧ a1 < 13
  · obtain ⟨j, hj, rfl⟩ := rng (n := 13) (N := 13) (by decide) ⟨le_1 h.1, h.2⟩
    refine D_spill j hj ?_
    rcases Nat.eq_zero_or_pos j with e | e
    · subst e; exact absurd h.1 (by decide)
    · exact e
  · unfold f_X4_spill f_X5_spill
    rw [in0 (n := 13) (lo' := 1) (by decide) (by decide) h]
    by_cases h1 : a1 < 1
    · rw [if_pos h1]
      rfl
    · rw [if_neg h1, if_neg (nle_of (n := 13) (m := 12) (by decide) (fun q => h ⟨Int32.not_lt.mp h1, q⟩))]
      rfl
theorem ap4 {c : Nat} (hc : c < 120) {x : Int32} {v : jx_V} (h : v 53 1 = nI c) : ∃ v', f_X2_append x v = some v' ∧ v' 53 1 = nI (c + 1) := by
  unfold f_X2_append
  have hg : ¬ (nI c < 0 ∨ 120 ≤ (nI c).toNatClampNeg) := nI_in hc (by decide)
  rw [h, if_neg (show ¬ (120 : Int32) ≤ nI c from lt_n (N := 120) hc (by decide)), if_neg hg]
  refine ⟨_, rfl, ?_⟩
  rw [up_same, up_h (by decide), h, nI_1]
theorem fd4 : ∀ (k c n : Nat) (v : jx_V) (a1 a2 : Int32), v 53 1 = nI c → c + k < 120 → k < n → ∃ v', f_X4_feed_L (n + 1) a1 a2 (nI k) v = some (nI (c + k + 1), v') := by
  intro k
  induction k with
  | zero =>
    intro c n v a1 a2 h hc hn
    rw [f_X4_feed_L, if_neg (nI_pos (by omega))]
    obtain ⟨v1, e1, e2⟩ := ap4 (c := c) (by omega) (x := (Int32.toUInt32 a1 >>> (Int32.toUInt32 (8 * nI 0) &&& Int32.toUInt32 31)).toInt32 &&& 255) h
    rw [e1, Option.bind_some]
    obtain ⟨m, rfl⟩ : ∃ m, n = m + 1 := ⟨n - 1, by omega⟩
    rw [f_X4_feed_L, if_pos (by decide), e2]
    exact ⟨v1, rfl⟩
  | succ k ih =>
    intro c n v a1 a2 h hc hn
    rw [f_X4_feed_L, if_neg (nI_pos (by omega))]
    obtain ⟨v1, e1, e2⟩ := ap4 (c := c) (by omega) (x := (Int32.toUInt32 a1 >>> (Int32.toUInt32 (8 * nI (k + 1)) &&& Int32.toUInt32 31)).toInt32 &&& 255) h
    rw [e1, Option.bind_some, pk_m1]
    obtain ⟨m, rfl⟩ : ∃ m, n = m + 1 := ⟨n - 1, by omega⟩
    have := ih (c + 1) m v1 a1 a2 e2 (by omega) (by omega)
    rw [show c + 1 + k + 1 = c + (k + 1) + 1 by omega] at this
    exact this
theorem fd5 : ∀ (k c n : Nat) (w : jx_V) (a1 a2 : Int32), w 0 12 = nI c → c + k < 120 → k < n → ∃ w', f_X5_feed_L (n + 1) a1 a2 (nI k) w = some (nI (c + k + 1), w') := by
  intro k
  induction k with
  | zero =>
    intro c n w a1 a2 h hc hn
    have hg : ¬ (w 0 12 < 0 ∨ 120 ≤ (w 0 12).toNatClampNeg) := by rw [h]; exact nI_in (by omega) (by decide)
    rw [f_X5_feed_L, if_neg (nI_pos (by omega)), if_neg hg]
    obtain ⟨m, rfl⟩ : ∃ m, n = m + 1 := ⟨n - 1, by omega⟩
    rw [f_X5_feed_L, if_pos (by decide), up_same, up_h (by decide), h, nI_1]
    exact ⟨_, rfl⟩
  | succ k ih =>
    intro c n w a1 a2 h hc hn
    have hg : ¬ (w 0 12 < 0 ∨ 120 ≤ (w 0 12).toNatClampNeg) := by rw [h]; exact nI_in (by omega) (by decide)
    rw [f_X5_feed_L, if_neg (nI_pos (by omega)), if_neg hg, pk_m1]
    obtain ⟨m, rfl⟩ : ∃ m, n = m + 1 := ⟨n - 1, by omega⟩
    have := ih (c + 1) m (jx_up (jx_up w 8 (Int32.toNatClampNeg (w 0 12)) ((a1 >>> ((8 * nI (k + 1)) &&& 31)) &&& 255)) 0 12 (((jx_up w 8 (Int32.toNatClampNeg (w 0 12)) ((a1 >>> ((8 * nI (k + 1)) &&& 31)) &&& 255)) 0 12) + 1)) a1 a2 (by rw [up_same, up_h (by decide), h, nI_1]) (by omega) (by omega)
    rw [show c + 1 + k + 1 = c + (k + 1) + 1 by omega] at this
    exact this
theorem feed4_1 (a1 : Int32) : ∃ v', f_X4_feed a1 1 v0_X4 = some (1, v') := by
  unfold f_X4_feed
  rw [if_neg (by decide), if_pos (by decide), if_pos (show v0_X4 53 1 + 1 ≤ 120 by decide +kernel)]
  exact fd4 0 0 99999 v0_X4 a1 1 (by decide +kernel) (by omega) (by omega)
theorem feed5_1 (a1 : Int32) : ∃ w', f_X5_feed a1 1 v0_X5 = some (1, w') := by
  unfold f_X5_feed
  rw [in1 (a := 1) (n := 5) (lo' := 1) (by decide) (by decide) ⟨by decide, by decide⟩, Option.bind_some]
  try dsimp only
  rw [if_neg (by decide), if_pos (show v0_X5 0 12 + 1 ≤ 120 by decide +kernel)]
  exact fd5 0 0 99999 v0_X5 a1 1 (by decide +kernel) (by omega) (by omega)
theorem feed4_2 (a1 : Int32) : ∃ v', f_X4_feed a1 2 v0_X4 = some (2, v') := by
  unfold f_X4_feed
  rw [if_neg (by decide), if_pos (by decide), if_pos (show v0_X4 53 1 + 2 ≤ 120 by decide +kernel)]
  exact fd4 1 0 99999 v0_X4 a1 2 (by decide +kernel) (by omega) (by omega)
theorem feed5_2 (a1 : Int32) : ∃ w', f_X5_feed a1 2 v0_X5 = some (2, w') := by
  unfold f_X5_feed
  rw [in1 (a := 2) (n := 5) (lo' := 1) (by decide) (by decide) ⟨by decide, by decide⟩, Option.bind_some]
  try dsimp only
  rw [if_neg (by decide), if_pos (show v0_X5 0 12 + 2 ≤ 120 by decide +kernel)]
  exact fd5 1 0 99999 v0_X5 a1 2 (by decide +kernel) (by omega) (by omega)
theorem feed4_3 (a1 : Int32) : ∃ v', f_X4_feed a1 3 v0_X4 = some (3, v') := by
  unfold f_X4_feed
  rw [if_neg (by decide), if_pos (by decide), if_pos (show v0_X4 53 1 + 3 ≤ 120 by decide +kernel)]
  exact fd4 2 0 99999 v0_X4 a1 3 (by decide +kernel) (by omega) (by omega)
theorem feed5_3 (a1 : Int32) : ∃ w', f_X5_feed a1 3 v0_X5 = some (3, w') := by
  unfold f_X5_feed
  rw [in1 (a := 3) (n := 5) (lo' := 1) (by decide) (by decide) ⟨by decide, by decide⟩, Option.bind_some]
  try dsimp only
  rw [if_neg (by decide), if_pos (show v0_X5 0 12 + 3 ≤ 120 by decide +kernel)]
  exact fd5 2 0 99999 v0_X5 a1 3 (by decide +kernel) (by omega) (by omega)
theorem feed4_4 (a1 : Int32) : ∃ v', f_X4_feed a1 4 v0_X4 = some (4, v') := by
  unfold f_X4_feed
  rw [if_neg (by decide), if_pos (by decide), if_pos (show v0_X4 53 1 + 4 ≤ 120 by decide +kernel)]
  exact fd4 3 0 99999 v0_X4 a1 4 (by decide +kernel) (by omega) (by omega)
theorem feed5_4 (a1 : Int32) : ∃ w', f_X5_feed a1 4 v0_X5 = some (4, w') := by
  unfold f_X5_feed
  rw [in1 (a := 4) (n := 5) (lo' := 1) (by decide) (by decide) ⟨by decide, by decide⟩, Option.bind_some]
  try dsimp only
  rw [if_neg (by decide), if_pos (show v0_X5 0 12 + 4 ≤ 120 by decide +kernel)]
  exact fd5 3 0 99999 v0_X5 a1 4 (by decide +kernel) (by omega) (by omega)
theorem r_feed (a1 a2 : Int32) : chk (f_X4_feed a1 a2 v0_X4) (f_X5_feed a1 a2 v0_X5) = true := by
  by_cases h : 1 ≤ a2 ∧ a2 < 5
  · obtain ⟨j, hj, rfl⟩ := rng (n := 5) (N := 5) (by decide) ⟨le_1 h.1, h.2⟩
    rcases (show j = 0 ∨ j = 1 ∨ j = 2 ∨ j = 3 ∨ j = 4 by omega) with rfl | rfl | rfl | rfl | rfl
    · exact absurd h.1 (by decide)
    · exact chk_of (feed4_1 a1) (feed5_1 a1)
    · exact chk_of (feed4_2 a1) (feed5_2 a1)
    · exact chk_of (feed4_3 a1) (feed5_3 a1)
    · exact chk_of (feed4_4 a1) (feed5_4 a1)
  · unfold f_X4_feed f_X5_feed
    rw [in0 (n := 5) (lo' := 1) (by decide) (by decide) h]
    by_cases h1 : a2 < 1
    · rw [if_pos h1]
      rfl
    · rw [if_neg h1, if_neg (nle_of (n := 5) (m := 4) (by decide) (fun q => h ⟨Int32.not_lt.mp h1, q⟩))]
      rfl
set_option maxRecDepth 100000 in
theorem D_hold : ∀ j, j < 10 → ∀ k, k < 25 → chk (f_X4_hold (nI j) (nI k) v0_X4) (f_X5_hold (nI j) (nI k) v0_X5) = true := by decide +kernel
set_option maxRecDepth 100000 in
theorem D_hold1 : ∀ j, j < 10 → chk (f_X4_hold (nI j) (-1) v0_X4) (f_X5_hold (nI j) (-1) v0_X5) = true := by decide +kernel
theorem r_hold (a1 a2 : Int32) : chk (f_X4_hold a1 a2 v0_X4) (f_X5_hold a1 a2 v0_X5) = true := by
  by_cases h1 : 0 ≤ a1 ∧ a1 < 10
  · by_cases h2 : -1 ≤ a2 ∧ a2 < 25
    · obtain ⟨j, hj, rfl⟩ := rng (n := 10) (N := 10) (by decide) h1
      by_cases e : a2 = -1
      · subst e
        exact D_hold1 j hj
      · obtain ⟨k, hk, rfl⟩ := rng (n := 25) (N := 25) (by decide) (⟨Int32.le_iff_toInt_le.mpr (by have t1 := Int32.le_iff_toInt_le.mp h2.1; have t2 : ¬ a2.toInt = (-1 : Int32).toInt := fun q => e (Int32.toInt_inj.mp q); have e1 : (-1 : Int32).toInt = -1 := (by decide); have e0 : (0 : Int32).toInt = 0 := (by decide); omega), h2.2⟩ : 0 ≤ a2 ∧ a2 < 25)
        exact D_hold j hj k hk
    · have e4 : f_X4_hold a1 a2 v0_X4 = f_X4_finding 0 v0_X4 := by
        unfold f_X4_hold
        rw [wi1 h1, Option.bind_some]
        try dsimp only
        rw [if_neg (show ¬ (1 : Int32) = 0 by decide)]
        by_cases c1 : a2 < -1
        · rw [if_pos c1]
          rfl
        · rw [if_neg c1, if_neg (fun q => h2 ⟨Int32.not_lt.mp c1, q⟩)]
          rfl
      have e5 : f_X5_hold a1 a2 v0_X5 = f_X5_finds (-1000001) v0_X5 := by
        unfold f_X5_hold
        rw [in1 (n := 10) (lo' := 0) (by decide) (by decide) h1, Option.bind_some]
        try dsimp only
        rw [if_neg (show ¬ (1 : Int32) = 0 by decide), in0 (n := 25) (lo' := -1) (by decide) (by decide) h2]
        rfl
      rw [e4, e5]
      decide +kernel
  · unfold f_X4_hold f_X5_hold
    rw [wi0 h1, in0 (n := 10) (lo' := 0) (by decide) (by decide) h1]
    rfl
theorem r_write (a1 a2 a3 : Int32) : chk (f_X4_write a1 a2 a3 v0_X4) (f_X5_write a1 a2 a3 v0_X5) = true := by
  by_cases h1 : 0 ≤ a1 ∧ a1 < 4
  · unfold f_X4_write f_X5_write f_X5_wrong
    rw [wi1 h1, isOne1 h1, Option.bind_some, Option.bind_some]
    obtain ⟨j, hj, rfl⟩ := rng (n := 4) (N := 4) (by decide) h1
    rcases (show j = 0 ∨ j = 1 ∨ j = 2 ∨ j = 3 by omega) with rfl | rfl | rfl | rfl <;> rfl
  · unfold f_X4_write f_X5_write f_X5_wrong
    rw [wi0 h1, isOne0 h1]
    rfl
theorem r_load (a1 a2 : Int32) : chk (f_X4_load a1 a2 v0_X4) (f_X5_load a1 a2 v0_X5) = true := by
  by_cases h1 : 0 ≤ a1 ∧ a1 < 4
  · unfold f_X4_load f_X5_load f_X5_wrong
    rw [wi1 h1, isOne1 h1, Option.bind_some, Option.bind_some]
    obtain ⟨j, hj, rfl⟩ := rng (n := 4) (N := 4) (by decide) h1
    rcases (show j = 0 ∨ j = 1 ∨ j = 2 ∨ j = 3 by omega) with rfl | rfl | rfl | rfl <;> rfl
  · unfold f_X4_load f_X5_load f_X5_wrong
    rw [wi0 h1, isOne0 h1]
    rfl
theorem r_judge (a1 a2 : Int32) : chk (f_X4_judge a1 a2 v0_X4) (f_X5_judge a1 a2 v0_X5) = true := by
  by_cases h1 : 0 ≤ a1 ∧ a1 < 4
  · unfold f_X4_judge f_X5_judge f_X5_wrong
    rw [wi1 h1, isOne1 h1, Option.bind_some, Option.bind_some]
    obtain ⟨j, hj, rfl⟩ := rng (n := 4) (N := 4) (by decide) h1
    rcases (show j = 0 ∨ j = 1 ∨ j = 2 ∨ j = 3 by omega) with rfl | rfl | rfl | rfl <;> rfl
  · unfold f_X4_judge f_X5_judge f_X5_wrong
    rw [wi0 h1, isOne0 h1]
    rfl
theorem r_copy (a1 a2 a3 a4 a5 : Int32) : chk (f_X4_copy a1 a2 a3 a4 a5 v0_X4) (f_X5_copy a1 a2 a3 a4 a5 v0_X5) = true := by
  by_cases h1 : 0 ≤ a1 ∧ a1 < 4
  · by_cases h3 : 0 ≤ a3 ∧ a3 < 4
    · unfold f_X4_copy f_X5_copy
      rw [wi1 h1, isOne1 h1, Option.bind_some, Option.bind_some]
      try dsimp only
      rw [if_neg (by decide), if_neg (by decide), wi1 h3, isOne1 h3, Option.bind_some, Option.bind_some]
      obtain ⟨j, hj, rfl⟩ := rng (n := 4) (N := 4) (by decide) h1
      rcases (show j = 0 ∨ j = 1 ∨ j = 2 ∨ j = 3 by omega) with rfl | rfl | rfl | rfl <;> rfl
    · unfold f_X4_copy f_X5_copy
      rw [wi1 h1, isOne1 h1, Option.bind_some, Option.bind_some]
      try dsimp only
      rw [if_neg (by decide), if_neg (by decide), wi0 h3, isOne0 h3]
      rfl
  · unfold f_X4_copy f_X5_copy
    rw [wi0 h1, isOne0 h1]
    rfl
set_option maxRecDepth 100000 in
theorem D_count : ∀ j, j < 8 → chk (f_X4_count (nI j) v0_X4) (f_X5_count (nI j) v0_X5) = true := by decide +kernel
theorem r_count (a1 : Int32) : chk (f_X4_count a1 v0_X4) (f_X5_count a1 v0_X5) = true := by
  by_cases h0 : a1 = 0
  · subst h0
    exact D_count 0 (by decide)
  by_cases h1 : a1 = 1
  · subst h1
    exact D_count 1 (by decide)
  by_cases h2 : a1 = 2
  · subst h2
    exact D_count 2 (by decide)
  by_cases h3 : a1 = 3
  · subst h3
    exact D_count 3 (by decide)
  by_cases h4 : a1 = 4
  · subst h4
    exact D_count 4 (by decide)
  by_cases h5 : a1 = 5
  · subst h5
    exact D_count 5 (by decide)
  by_cases h6 : a1 = 6
  · subst h6
    exact D_count 6 (by decide)
  by_cases h7 : a1 = 7
  · subst h7
    exact D_count 7 (by decide)
  unfold f_X4_count f_X5_count
  rw [if_neg h0, if_neg h1, if_neg h2, if_neg h3, if_neg h4, if_neg h5, if_neg h6, if_neg h7, if_neg h0, if_neg h1, if_neg h2, if_neg h3, if_neg h4, if_neg h5, if_neg h6, if_neg h7]
  rfl
set_option maxRecDepth 100000 in
theorem D_status : ∀ j, j < 7 → chk (f_X4_status (nI j) v0_X4) (f_X5_status (nI j) v0_X5) = true := by decide +kernel
set_option maxRecDepth 100000 in
theorem D_status1 : chk (f_X4_status (-1) v0_X4) (f_X5_status (-1) v0_X5) = true := by decide +kernel
theorem r_status (a1 : Int32) : chk (f_X4_status a1 v0_X4) (f_X5_status a1 v0_X5) = true := by
  by_cases e : a1 = -1
  · subst e
    exact D_status1
  · by_cases h : 0 ≤ a1 ∧ a1 < 7
    · obtain ⟨j, hj, rfl⟩ := rng (n := 7) (N := 7) (by decide) h
      exact D_status j hj
    · unfold f_X4_status f_X5_status
      rw [if_neg e, wi0 h, in0 (n := 7) (lo' := -1) (by decide) (by decide) (fun q => h ⟨Int32.le_iff_toInt_le.mpr (by have t1 := Int32.le_iff_toInt_le.mp q.1; have t2 : ¬ a1.toInt = (-1 : Int32).toInt := fun q => e (Int32.toInt_inj.mp q); have e1 : (-1 : Int32).toInt = -1 := (by decide); have e0 : (0 : Int32).toInt = 0 := (by decide); omega), q.2⟩)]
      rfl
set_option maxRecDepth 100000 in
theorem D_change0 : ∀ j, j < 25 → ∀ i, i < 7 → chk (f_X4_change (nI j) 0 (nI i) v0_X4) (f_X5_change (nI j) 0 (nI i) v0_X5) = true := by decide +kernel
theorem ch_0 (a1 a3 : Int32) : chk (f_X4_change a1 0 a3 v0_X4) (f_X5_change a1 0 a3 v0_X5) = true := by
  by_cases h3 : 0 ≤ a3 ∧ a3 < 7
  · by_cases h1 : 0 ≤ a1 ∧ a1 < 25
    · obtain ⟨j, hj, rfl⟩ := rng (n := 25) (N := 25) (by decide) h1
      obtain ⟨i, hi, rfl⟩ := rng (n := 7) (N := 7) (by decide) h3
      exact D_change0 j hj i hi
    · have A3 : ∀ w, f_X5_in a3.toInt64 0 6 w = some (1, w) := fun w => in1 (n := 7) (lo' := 0) (by decide) (by decide) h3
      have A1 : ∀ w, f_X5_isLot a1 w = some (0, w) := fun w => isLot0 h1
      have e4 : f_X4_change a1 0 a3 v0_X4 = f_X4_finding 0 v0_X4 := by
        unfold f_X4_change
        rw [wi0 h1]
        rfl
      have e5 : f_X5_change a1 0 a3 v0_X5 = f_X5_finds (-1000001) v0_X5 := by
        unfold f_X5_change f_X5_lotWrong
        rw [show f_X5_in (Int32.toInt64 0) 0 3 v0_X5 = some (1, v0_X5) from rfl, Option.bind_some]
        try dsimp only
        rw [if_neg (by decide), if_pos rfl, A3, Option.bind_some]
        try dsimp only
        rw [if_neg (by decide), A1]
        rfl
      rw [e4, e5]
      decide +kernel
  · have A3 : ∀ w, f_X5_in a3.toInt64 0 6 w = some (0, w) := fun w => in0 (n := 7) (lo' := 0) (by decide) (by decide) h3
    have e4 : f_X4_change a1 0 a3 v0_X4 = f_X4_finding 0 v0_X4 := by
      unfold f_X4_change
      by_cases h1 : 0 ≤ a1 ∧ a1 < 25
      · rw [wi1 h1, Option.bind_some]
        try dsimp only
        rw [if_neg (by decide), show f_X4_within 0 4 v0_X4 = some (1, v0_X4) from rfl, Option.bind_some]
        try dsimp only
        rw [if_neg (by decide), show f_X4_thingLimit 0 v0_X4 = some (7, v0_X4) from rfl, Option.bind_some]
        try dsimp only
        rw [wi0 h3]
        rfl
      · rw [wi0 h1]
        rfl
    have e5 : f_X5_change a1 0 a3 v0_X5 = f_X5_finds (-1000001) v0_X5 := by
      unfold f_X5_change
      rw [show f_X5_in (Int32.toInt64 0) 0 3 v0_X5 = some (1, v0_X5) from rfl, Option.bind_some]
      try dsimp only
      rw [if_neg (by decide), if_pos rfl, A3]
      rfl
    rw [e4, e5]
    decide +kernel
set_option maxRecDepth 100000 in
theorem D_change1 : ∀ j, j < 25 → ∀ i, i < 4 → chk (f_X4_change (nI j) 1 (nI i) v0_X4) (f_X5_change (nI j) 1 (nI i) v0_X5) = true := by decide +kernel
theorem ch_1 (a1 a3 : Int32) : chk (f_X4_change a1 1 a3 v0_X4) (f_X5_change a1 1 a3 v0_X5) = true := by
  by_cases h3 : 0 ≤ a3 ∧ a3 < 4
  · by_cases h1 : 0 ≤ a1 ∧ a1 < 25
    · obtain ⟨j, hj, rfl⟩ := rng (n := 25) (N := 25) (by decide) h1
      obtain ⟨i, hi, rfl⟩ := rng (n := 4) (N := 4) (by decide) h3
      exact D_change1 j hj i hi
    · have A3 : ∀ w, f_X5_in a3.toInt64 0 3 w = some (1, w) := fun w => in1 (n := 4) (lo' := 0) (by decide) (by decide) h3
      have A1 : ∀ w, f_X5_isLot a1 w = some (0, w) := fun w => isLot0 h1
      have e4 : f_X4_change a1 1 a3 v0_X4 = f_X4_finding 0 v0_X4 := by
        unfold f_X4_change
        rw [wi0 h1]
        rfl
      have e5 : f_X5_change a1 1 a3 v0_X5 = f_X5_finds (-1000001) v0_X5 := by
        unfold f_X5_change f_X5_lotWrong
        rw [show f_X5_in (Int32.toInt64 1) 0 3 v0_X5 = some (1, v0_X5) from rfl, Option.bind_some]
        try dsimp only
        rw [if_neg (by decide), if_neg (by decide), if_neg (by decide), A3, Option.bind_some]
        try dsimp only
        rw [if_neg (by decide), A1]
        rfl
      rw [e4, e5]
      decide +kernel
  · have A3 : ∀ w, f_X5_in a3.toInt64 0 3 w = some (0, w) := fun w => in0 (n := 4) (lo' := 0) (by decide) (by decide) h3
    have e4 : f_X4_change a1 1 a3 v0_X4 = f_X4_finding 0 v0_X4 := by
      unfold f_X4_change
      by_cases h1 : 0 ≤ a1 ∧ a1 < 25
      · rw [wi1 h1, Option.bind_some]
        try dsimp only
        rw [if_neg (by decide), show f_X4_within 1 4 v0_X4 = some (1, v0_X4) from rfl, Option.bind_some]
        try dsimp only
        rw [if_neg (by decide), show f_X4_thingLimit 1 v0_X4 = some (4, v0_X4) from rfl, Option.bind_some]
        try dsimp only
        rw [wi0 h3]
        rfl
      · rw [wi0 h1]
        rfl
    have e5 : f_X5_change a1 1 a3 v0_X5 = f_X5_finds (-1000001) v0_X5 := by
      unfold f_X5_change
      rw [show f_X5_in (Int32.toInt64 1) 0 3 v0_X5 = some (1, v0_X5) from rfl, Option.bind_some]
      try dsimp only
      rw [if_neg (by decide), if_neg (by decide), if_neg (by decide), A3]
      rfl
    rw [e4, e5]
    decide +kernel
set_option maxRecDepth 100000 in
theorem D_change2 : ∀ j, j < 25 → ∀ i, i < 10 → chk (f_X4_change (nI j) 2 (nI i) v0_X4) (f_X5_change (nI j) 2 (nI i) v0_X5) = true := by decide +kernel
theorem ch_2 (a1 a3 : Int32) : chk (f_X4_change a1 2 a3 v0_X4) (f_X5_change a1 2 a3 v0_X5) = true := by
  by_cases h3 : 0 ≤ a3 ∧ a3 < 10
  · by_cases h1 : 0 ≤ a1 ∧ a1 < 25
    · obtain ⟨j, hj, rfl⟩ := rng (n := 25) (N := 25) (by decide) h1
      obtain ⟨i, hi, rfl⟩ := rng (n := 10) (N := 10) (by decide) h3
      exact D_change2 j hj i hi
    · have A3 : ∀ w, f_X5_in a3.toInt64 0 9 w = some (1, w) := fun w => in1 (n := 10) (lo' := 0) (by decide) (by decide) h3
      have A1 : ∀ w, f_X5_isLot a1 w = some (0, w) := fun w => isLot0 h1
      have e4 : f_X4_change a1 2 a3 v0_X4 = f_X4_finding 0 v0_X4 := by
        unfold f_X4_change
        rw [wi0 h1]
        rfl
      have e5 : f_X5_change a1 2 a3 v0_X5 = f_X5_finds (-1000001) v0_X5 := by
        unfold f_X5_change f_X5_lotWrong
        rw [show f_X5_in (Int32.toInt64 2) 0 3 v0_X5 = some (1, v0_X5) from rfl, Option.bind_some]
        try dsimp only
        rw [if_neg (by decide), if_neg (by decide), if_pos rfl, A3, Option.bind_some]
        try dsimp only
        rw [if_neg (by decide), A1]
        rfl
      rw [e4, e5]
      decide +kernel
  · have A3 : ∀ w, f_X5_in a3.toInt64 0 9 w = some (0, w) := fun w => in0 (n := 10) (lo' := 0) (by decide) (by decide) h3
    have e4 : f_X4_change a1 2 a3 v0_X4 = f_X4_finding 0 v0_X4 := by
      unfold f_X4_change
      by_cases h1 : 0 ≤ a1 ∧ a1 < 25
      · rw [wi1 h1, Option.bind_some]
        try dsimp only
        rw [if_neg (by decide), show f_X4_within 2 4 v0_X4 = some (1, v0_X4) from rfl, Option.bind_some]
        try dsimp only
        rw [if_neg (by decide), show f_X4_thingLimit 2 v0_X4 = some (10, v0_X4) from rfl, Option.bind_some]
        try dsimp only
        rw [wi0 h3]
        rfl
      · rw [wi0 h1]
        rfl
    have e5 : f_X5_change a1 2 a3 v0_X5 = f_X5_finds (-1000001) v0_X5 := by
      unfold f_X5_change
      rw [show f_X5_in (Int32.toInt64 2) 0 3 v0_X5 = some (1, v0_X5) from rfl, Option.bind_some]
      try dsimp only
      rw [if_neg (by decide), if_neg (by decide), if_pos rfl, A3]
      rfl
    rw [e4, e5]
    decide +kernel
set_option maxRecDepth 100000 in
theorem D_change3 : ∀ j, j < 25 → ∀ i, i < 4 → chk (f_X4_change (nI j) 3 (nI i) v0_X4) (f_X5_change (nI j) 3 (nI i) v0_X5) = true := by decide +kernel
theorem ch_3 (a1 a3 : Int32) : chk (f_X4_change a1 3 a3 v0_X4) (f_X5_change a1 3 a3 v0_X5) = true := by
  by_cases h3 : 0 ≤ a3 ∧ a3 < 4
  · by_cases h1 : 0 ≤ a1 ∧ a1 < 25
    · obtain ⟨j, hj, rfl⟩ := rng (n := 25) (N := 25) (by decide) h1
      obtain ⟨i, hi, rfl⟩ := rng (n := 4) (N := 4) (by decide) h3
      exact D_change3 j hj i hi
    · have A3 : ∀ w, f_X5_in a3.toInt64 0 3 w = some (1, w) := fun w => in1 (n := 4) (lo' := 0) (by decide) (by decide) h3
      have A1 : ∀ w, f_X5_isLot a1 w = some (0, w) := fun w => isLot0 h1
      have e4 : f_X4_change a1 3 a3 v0_X4 = f_X4_finding 0 v0_X4 := by
        unfold f_X4_change
        rw [wi0 h1]
        rfl
      have e5 : f_X5_change a1 3 a3 v0_X5 = f_X5_finds (-1000001) v0_X5 := by
        unfold f_X5_change f_X5_lotWrong
        rw [show f_X5_in (Int32.toInt64 3) 0 3 v0_X5 = some (1, v0_X5) from rfl, Option.bind_some]
        try dsimp only
        rw [if_neg (by decide), if_neg (by decide), if_neg (by decide), A3, Option.bind_some]
        try dsimp only
        rw [if_neg (by decide), A1]
        rfl
      rw [e4, e5]
      decide +kernel
  · have A3 : ∀ w, f_X5_in a3.toInt64 0 3 w = some (0, w) := fun w => in0 (n := 4) (lo' := 0) (by decide) (by decide) h3
    have e4 : f_X4_change a1 3 a3 v0_X4 = f_X4_finding 0 v0_X4 := by
      unfold f_X4_change
      by_cases h1 : 0 ≤ a1 ∧ a1 < 25
      · rw [wi1 h1, Option.bind_some]
        try dsimp only
        rw [if_neg (by decide), show f_X4_within 3 4 v0_X4 = some (1, v0_X4) from rfl, Option.bind_some]
        try dsimp only
        rw [if_neg (by decide), show f_X4_thingLimit 3 v0_X4 = some (4, v0_X4) from rfl, Option.bind_some]
        try dsimp only
        rw [wi0 h3]
        rfl
      · rw [wi0 h1]
        rfl
    have e5 : f_X5_change a1 3 a3 v0_X5 = f_X5_finds (-1000001) v0_X5 := by
      unfold f_X5_change
      rw [show f_X5_in (Int32.toInt64 3) 0 3 v0_X5 = some (1, v0_X5) from rfl, Option.bind_some]
      try dsimp only
      rw [if_neg (by decide), if_neg (by decide), if_neg (by decide), A3]
      rfl
    rw [e4, e5]
    decide +kernel
theorem r_change (a1 a2 a3 : Int32) : chk (f_X4_change a1 a2 a3 v0_X4) (f_X5_change a1 a2 a3 v0_X5) = true := by
  by_cases h2 : 0 ≤ a2 ∧ a2 < 4
  · obtain ⟨j, hj, rfl⟩ := rng (n := 4) (N := 4) (by decide) h2
    rcases (show j = 0 ∨ j = 1 ∨ j = 2 ∨ j = 3 by omega) with rfl | rfl | rfl | rfl
    · exact ch_0 a1 a3
    · exact ch_1 a1 a3
    · exact ch_2 a1 a3
    · exact ch_3 a1 a3
  · have e4 : f_X4_change a1 a2 a3 v0_X4 = f_X4_finding 0 v0_X4 := by
      unfold f_X4_change
      by_cases h1 : 0 ≤ a1 ∧ a1 < 25
      · rw [wi1 h1, Option.bind_some]
        try dsimp only
        rw [if_neg (by decide), wi0 h2]
        rfl
      · rw [wi0 h1]
        rfl
    rw [e4]
    unfold f_X5_change
    rw [in0 (n := 4) (lo' := 0) (by decide) (by decide) h2]
    rfl
theorem bg4 {q : Nat} (hq : q < 4) {b m : Int32} : ∀ (n i : Nat) (v : jx_V), i ≤ 40 → 40 - i < n → ∃ v', f_X1_begin_L n (nI q) b m (nI i) v = some v' ∧ v' 62 = v 62 := by
  intro n
  induction n with
  | zero => intro i v _ h; omega
  | succ n ih =>
    intro i v hi hn
    rw [f_X1_begin_L]
    by_cases h40 : i = 40
    · subst h40
      rw [if_pos (show (40 : Int32) ≤ nI 40 by decide)]
      exact ⟨v, rfl, rfl⟩
    · have hg : ¬ (nI q < 0 ∨ 4 ≤ (nI q).toNatClampNeg) := nI_in hq (by decide)
      have hg2 : ¬ (nI i < 0 ∨ 40 ≤ (nI i).toNatClampNeg) := nI_in (by omega) (by decide)
      rw [if_neg (show ¬ (40 : Int32) ≤ nI i from lt_n (N := 40) (by omega) (by decide)), if_neg hg, if_neg hg2, nI_1, nI_clamp (n := q) (by omega)]
      obtain ⟨v', e1, e2⟩ := ih (i + 1) (jx_up v (57 + q) (nI i).toNatClampNeg 0) (by omega) (by omega)
      exact ⟨v', e1, e2.trans (up_h (by omega))⟩
theorem bg5 {q : Nat} (hq : q < 4) {b m : Int32} : ∀ (n i : Nat) (w : jx_V), i ≤ 40 → 40 - i < n → ∃ w', f_X5_sheet_L n (nI q) b m (nI i) w = some (w 10 q, w') := by
  intro n
  induction n with
  | zero => intro i w _ h; omega
  | succ n ih =>
    intro i w hi hn
    rw [f_X5_sheet_L]
    have hg : ¬ (nI q < 0 ∨ 4 ≤ (nI q).toNatClampNeg) := nI_in hq (by decide)
    by_cases h40 : i = 40
    · subst h40
      rw [if_pos (show (40 : Int32) ≤ nI 40 by decide), if_neg hg, nI_clamp (n := q) (by omega)]
      exact ⟨w, rfl⟩
    · have e : (40 : Int32) * nI q + nI i = nI (40 * q + i) := by rw [show (40 : Int32) = nI 40 by decide, pk_mul, nI_add]
      have hg2 : ¬ (nI (40 * q + i) < 0 ∨ 160 ≤ (nI (40 * q + i)).toNatClampNeg) := nI_in (by omega) (by decide)
      rw [if_neg (show ¬ (40 : Int32) ≤ nI i from lt_n (N := 40) (by omega) (by decide)), e, if_neg hg2, nI_1]
      obtain ⟨w', e1⟩ := ih (i + 1) (jx_up w 11 (nI (40 * q + i)).toNatClampNeg 0) (by omega) (by omega)
      exact ⟨w', by rw [e1, up_h (by decide)]⟩
theorem sheet4_0 {q : Nat} (hq : q < 4) (h1 : 0 ≤ nI q ∧ nI q < 4) (a3 : Int32) (c1 : 0 ≤ a3) (c2 : a3 ≤ 40) : ∃ v', f_X4_sheet (nI q) 0 a3 v0_X4 = some (0, v') := by
  have hg : ¬ (nI q < 0 ∨ 4 ≤ (nI q).toNatClampNeg) := nI_in hq (by decide)
  have hc : (nI q).toNatClampNeg = q := nI_clamp (by omega)
  unfold f_X4_sheet f_X1_begin
  rw [wi1 h1, Option.bind_some]
  try dsimp only
  rw [if_neg (by decide), if_pos rfl, if_pos c1, if_pos c2, if_neg hg, if_pos rfl, if_neg hg, hc]
  obtain ⟨v', e1, e2⟩ := bg4 hq (b := 0) (m := a3) 100000 0 (jx_up (jx_up v0_X4 61 q 0) 62 q 0) (by omega) (by omega)
  rw [show f_X1_begin_L 100000 (nI q) 0 a3 0 (jx_up (jx_up v0_X4 61 q 0) 62 q 0) = some v' from e1, Option.bind_some, if_neg (show ¬ (nI q < 0 ∨ 4 ≤ q) by rw [hc] at hg; exact hg), e2, up_same]
  exact ⟨v', rfl⟩
theorem sheet5_0 {q : Nat} (hq : q < 4) (h1 : 0 ≤ nI q ∧ nI q < 4) (a3 : Int32) (c1 : 0 ≤ a3) (c2 : a3 ≤ 40) : ∃ w', f_X5_sheet (nI q) 0 a3 v0_X5 = some (0, w') := by
  have hg : ¬ (nI q < 0 ∨ 4 ≤ (nI q).toNatClampNeg) := nI_in hq (by decide)
  have hc : (nI q).toNatClampNeg = q := nI_clamp (by omega)
  unfold f_X5_sheet
  rw [isOne1 h1, Option.bind_some]
  try dsimp only
  rw [if_neg (by decide), if_pos rfl, if_pos c1, if_pos c2, if_neg hg, if_pos rfl, if_neg hg, hc]
  obtain ⟨w', e1⟩ := bg5 hq (b := 0) (m := a3) 100000 0 (jx_up (jx_up v0_X5 9 q 0) 10 q 0) (by omega) (by omega)
  rw [up_same] at e1
  exact ⟨w', e1⟩
theorem sh_0 (a1 a3 : Int32) : chk (f_X4_sheet a1 0 a3 v0_X4) (f_X5_sheet a1 0 a3 v0_X5) = true := by
  by_cases h1 : 0 ≤ a1 ∧ a1 < 4
  · by_cases c1 : 0 ≤ a3
    · by_cases c2 : a3 ≤ 40
      · obtain ⟨q, hq, rfl⟩ := rng (n := 4) (N := 4) (by decide) h1
        exact chk_of (sheet4_0 hq h1 a3 c1 c2) (sheet5_0 hq h1 a3 c1 c2)
      · have e4 : f_X4_sheet a1 0 a3 v0_X4 = f_X4_finding 0 v0_X4 := by
          unfold f_X4_sheet
          rw [wi1 h1, Option.bind_some]
          try dsimp only
          rw [if_neg (show ¬ (1 : Int32) = 0 by decide), if_pos rfl, if_pos c1, if_neg c2]
          rfl
        have e5 : f_X5_sheet a1 0 a3 v0_X5 = f_X5_finds (-1000001) v0_X5 := by
          unfold f_X5_sheet
          rw [isOne1 h1, Option.bind_some]
          try dsimp only
          rw [if_neg (show ¬ (1 : Int32) = 0 by decide), if_pos rfl, if_pos c1, if_neg c2]
          rfl
        rw [e4, e5]
        decide +kernel
    · have e4 : f_X4_sheet a1 0 a3 v0_X4 = f_X4_finding 6 v0_X4 := by
        unfold f_X4_sheet
        rw [wi1 h1, Option.bind_some]
        try dsimp only
        rw [if_neg (show ¬ (1 : Int32) = 0 by decide), if_pos rfl, if_neg c1]
        rfl
      have e5 : f_X5_sheet a1 0 a3 v0_X5 = f_X5_finds (-1000007) v0_X5 := by
        unfold f_X5_sheet
        rw [isOne1 h1, Option.bind_some]
        try dsimp only
        rw [if_neg (show ¬ (1 : Int32) = 0 by decide), if_pos rfl, if_neg c1]
        rfl
      rw [e4, e5]
      decide +kernel
  · unfold f_X4_sheet f_X5_sheet
    rw [wi0 h1, isOne0 h1]
    rfl
theorem sheet4_8 {q : Nat} (hq : q < 4) (h1 : 0 ≤ nI q ∧ nI q < 4) (a3 : Int32) (c1 : 0 ≤ a3) (c2 : a3 ≤ 40) : ∃ v', f_X4_sheet (nI q) 8 a3 v0_X4 = some (a3, v') := by
  have hg : ¬ (nI q < 0 ∨ 4 ≤ (nI q).toNatClampNeg) := nI_in hq (by decide)
  have hc : (nI q).toNatClampNeg = q := nI_clamp (by omega)
  unfold f_X4_sheet f_X1_begin
  rw [wi1 h1, Option.bind_some]
  try dsimp only
  rw [if_neg (by decide), if_neg (by decide), if_pos rfl, if_pos c1, if_pos c2, if_neg hg, if_neg (by decide), if_neg hg, hc]
  obtain ⟨v', e1, e2⟩ := bg4 hq (b := 8) (m := a3) 100000 0 (jx_up (jx_up v0_X4 61 q 8) 62 q a3) (by omega) (by omega)
  rw [show f_X1_begin_L 100000 (nI q) 8 a3 0 (jx_up (jx_up v0_X4 61 q 8) 62 q a3) = some v' from e1, Option.bind_some, if_neg (show ¬ (nI q < 0 ∨ 4 ≤ q) by rw [hc] at hg; exact hg), e2, up_same]
  exact ⟨v', rfl⟩
theorem sheet5_8 {q : Nat} (hq : q < 4) (h1 : 0 ≤ nI q ∧ nI q < 4) (a3 : Int32) (c1 : 0 ≤ a3) (c2 : a3 ≤ 40) : ∃ w', f_X5_sheet (nI q) 8 a3 v0_X5 = some (a3, w') := by
  have hg : ¬ (nI q < 0 ∨ 4 ≤ (nI q).toNatClampNeg) := nI_in hq (by decide)
  have hc : (nI q).toNatClampNeg = q := nI_clamp (by omega)
  unfold f_X5_sheet
  rw [isOne1 h1, Option.bind_some]
  try dsimp only
  rw [if_neg (by decide), if_neg (by decide), if_pos rfl, if_pos c1, if_pos c2, if_neg hg, if_neg (by decide), if_neg hg, hc]
  obtain ⟨w', e1⟩ := bg5 hq (b := 8) (m := a3) 100000 0 (jx_up (jx_up v0_X5 9 q 8) 10 q a3) (by omega) (by omega)
  rw [up_same] at e1
  exact ⟨w', e1⟩
theorem sh_8 (a1 a3 : Int32) : chk (f_X4_sheet a1 8 a3 v0_X4) (f_X5_sheet a1 8 a3 v0_X5) = true := by
  by_cases h1 : 0 ≤ a1 ∧ a1 < 4
  · by_cases c1 : 0 ≤ a3
    · by_cases c2 : a3 ≤ 40
      · obtain ⟨q, hq, rfl⟩ := rng (n := 4) (N := 4) (by decide) h1
        exact chk_of (sheet4_8 hq h1 a3 c1 c2) (sheet5_8 hq h1 a3 c1 c2)
      · have e4 : f_X4_sheet a1 8 a3 v0_X4 = f_X4_finding 0 v0_X4 := by
          unfold f_X4_sheet
          rw [wi1 h1, Option.bind_some]
          try dsimp only
          rw [if_neg (show ¬ (1 : Int32) = 0 by decide), if_neg (by decide), if_pos rfl, if_pos c1, if_neg c2]
          rfl
        have e5 : f_X5_sheet a1 8 a3 v0_X5 = f_X5_finds (-1000001) v0_X5 := by
          unfold f_X5_sheet
          rw [isOne1 h1, Option.bind_some]
          try dsimp only
          rw [if_neg (show ¬ (1 : Int32) = 0 by decide), if_neg (by decide), if_pos rfl, if_pos c1, if_neg c2]
          rfl
        rw [e4, e5]
        decide +kernel
    · have e4 : f_X4_sheet a1 8 a3 v0_X4 = f_X4_finding 6 v0_X4 := by
        unfold f_X4_sheet
        rw [wi1 h1, Option.bind_some]
        try dsimp only
        rw [if_neg (show ¬ (1 : Int32) = 0 by decide), if_neg (by decide), if_pos rfl, if_neg c1]
        rfl
      have e5 : f_X5_sheet a1 8 a3 v0_X5 = f_X5_finds (-1000007) v0_X5 := by
        unfold f_X5_sheet
        rw [isOne1 h1, Option.bind_some]
        try dsimp only
        rw [if_neg (show ¬ (1 : Int32) = 0 by decide), if_neg (by decide), if_pos rfl, if_neg c1]
        rfl
      rw [e4, e5]
      decide +kernel
  · unfold f_X4_sheet f_X5_sheet
    rw [wi0 h1, isOne0 h1]
    rfl
theorem sheet4_16 {q : Nat} (hq : q < 4) (h1 : 0 ≤ nI q ∧ nI q < 4) (a3 : Int32) (c1 : 0 ≤ a3) (c2 : a3 ≤ 40) : ∃ v', f_X4_sheet (nI q) 16 a3 v0_X4 = some (a3, v') := by
  have hg : ¬ (nI q < 0 ∨ 4 ≤ (nI q).toNatClampNeg) := nI_in hq (by decide)
  have hc : (nI q).toNatClampNeg = q := nI_clamp (by omega)
  unfold f_X4_sheet f_X1_begin
  rw [wi1 h1, Option.bind_some]
  try dsimp only
  rw [if_neg (by decide), if_neg (by decide), if_neg (by decide), if_pos rfl, if_pos c1, if_pos c2, if_neg hg, if_neg (by decide), if_neg hg, hc]
  obtain ⟨v', e1, e2⟩ := bg4 hq (b := 16) (m := a3) 100000 0 (jx_up (jx_up v0_X4 61 q 16) 62 q a3) (by omega) (by omega)
  rw [show f_X1_begin_L 100000 (nI q) 16 a3 0 (jx_up (jx_up v0_X4 61 q 16) 62 q a3) = some v' from e1, Option.bind_some, if_neg (show ¬ (nI q < 0 ∨ 4 ≤ q) by rw [hc] at hg; exact hg), e2, up_same]
  exact ⟨v', rfl⟩
theorem sheet5_16 {q : Nat} (hq : q < 4) (h1 : 0 ≤ nI q ∧ nI q < 4) (a3 : Int32) (c1 : 0 ≤ a3) (c2 : a3 ≤ 40) : ∃ w', f_X5_sheet (nI q) 16 a3 v0_X5 = some (a3, w') := by
  have hg : ¬ (nI q < 0 ∨ 4 ≤ (nI q).toNatClampNeg) := nI_in hq (by decide)
  have hc : (nI q).toNatClampNeg = q := nI_clamp (by omega)
  unfold f_X5_sheet
  rw [isOne1 h1, Option.bind_some]
  try dsimp only
  rw [if_neg (by decide), if_neg (by decide), if_neg (by decide), if_pos rfl, if_pos c1, if_pos c2, if_neg hg, if_neg (by decide), if_neg hg, hc]
  obtain ⟨w', e1⟩ := bg5 hq (b := 16) (m := a3) 100000 0 (jx_up (jx_up v0_X5 9 q 16) 10 q a3) (by omega) (by omega)
  rw [up_same] at e1
  exact ⟨w', e1⟩
theorem sh_16 (a1 a3 : Int32) : chk (f_X4_sheet a1 16 a3 v0_X4) (f_X5_sheet a1 16 a3 v0_X5) = true := by
  by_cases h1 : 0 ≤ a1 ∧ a1 < 4
  · by_cases c1 : 0 ≤ a3
    · by_cases c2 : a3 ≤ 40
      · obtain ⟨q, hq, rfl⟩ := rng (n := 4) (N := 4) (by decide) h1
        exact chk_of (sheet4_16 hq h1 a3 c1 c2) (sheet5_16 hq h1 a3 c1 c2)
      · have e4 : f_X4_sheet a1 16 a3 v0_X4 = f_X4_finding 0 v0_X4 := by
          unfold f_X4_sheet
          rw [wi1 h1, Option.bind_some]
          try dsimp only
          rw [if_neg (show ¬ (1 : Int32) = 0 by decide), if_neg (by decide), if_neg (by decide), if_pos rfl, if_pos c1, if_neg c2]
          rfl
        have e5 : f_X5_sheet a1 16 a3 v0_X5 = f_X5_finds (-1000001) v0_X5 := by
          unfold f_X5_sheet
          rw [isOne1 h1, Option.bind_some]
          try dsimp only
          rw [if_neg (show ¬ (1 : Int32) = 0 by decide), if_neg (by decide), if_neg (by decide), if_pos rfl, if_pos c1, if_neg c2]
          rfl
        rw [e4, e5]
        decide +kernel
    · have e4 : f_X4_sheet a1 16 a3 v0_X4 = f_X4_finding 6 v0_X4 := by
        unfold f_X4_sheet
        rw [wi1 h1, Option.bind_some]
        try dsimp only
        rw [if_neg (show ¬ (1 : Int32) = 0 by decide), if_neg (by decide), if_neg (by decide), if_pos rfl, if_neg c1]
        rfl
      have e5 : f_X5_sheet a1 16 a3 v0_X5 = f_X5_finds (-1000007) v0_X5 := by
        unfold f_X5_sheet
        rw [isOne1 h1, Option.bind_some]
        try dsimp only
        rw [if_neg (show ¬ (1 : Int32) = 0 by decide), if_neg (by decide), if_neg (by decide), if_pos rfl, if_neg c1]
        rfl
      rw [e4, e5]
      decide +kernel
  · unfold f_X4_sheet f_X5_sheet
    rw [wi0 h1, isOne0 h1]
    rfl
theorem sheet4_32 {q : Nat} (hq : q < 4) (h1 : 0 ≤ nI q ∧ nI q < 4) (a3 : Int32) (c1 : 0 ≤ a3) (c2 : a3 ≤ 40) : ∃ v', f_X4_sheet (nI q) 32 a3 v0_X4 = some (a3, v') := by
  have hg : ¬ (nI q < 0 ∨ 4 ≤ (nI q).toNatClampNeg) := nI_in hq (by decide)
  have hc : (nI q).toNatClampNeg = q := nI_clamp (by omega)
  unfold f_X4_sheet f_X1_begin
  rw [wi1 h1, Option.bind_some]
  try dsimp only
  rw [if_neg (by decide), if_neg (by decide), if_neg (by decide), if_neg (by decide), if_pos rfl, if_pos c1, if_pos c2, if_neg hg, if_neg (by decide), if_neg hg, hc]
  obtain ⟨v', e1, e2⟩ := bg4 hq (b := 32) (m := a3) 100000 0 (jx_up (jx_up v0_X4 61 q 32) 62 q a3) (by omega) (by omega)
  rw [show f_X1_begin_L 100000 (nI q) 32 a3 0 (jx_up (jx_up v0_X4 61 q 32) 62 q a3) = some v' from e1, Option.bind_some, if_neg (show ¬ (nI q < 0 ∨ 4 ≤ q) by rw [hc] at hg; exact hg), e2, up_same]
  exact ⟨v', rfl⟩
theorem sheet5_32 {q : Nat} (hq : q < 4) (h1 : 0 ≤ nI q ∧ nI q < 4) (a3 : Int32) (c1 : 0 ≤ a3) (c2 : a3 ≤ 40) : ∃ w', f_X5_sheet (nI q) 32 a3 v0_X5 = some (a3, w') := by
  have hg : ¬ (nI q < 0 ∨ 4 ≤ (nI q).toNatClampNeg) := nI_in hq (by decide)
  have hc : (nI q).toNatClampNeg = q := nI_clamp (by omega)
  unfold f_X5_sheet
  rw [isOne1 h1, Option.bind_some]
  try dsimp only
  rw [if_neg (by decide), if_neg (by decide), if_neg (by decide), if_neg (by decide), if_pos rfl, if_pos c1, if_pos c2, if_neg hg, if_neg (by decide), if_neg hg, hc]
  obtain ⟨w', e1⟩ := bg5 hq (b := 32) (m := a3) 100000 0 (jx_up (jx_up v0_X5 9 q 32) 10 q a3) (by omega) (by omega)
  rw [up_same] at e1
  exact ⟨w', e1⟩
theorem sh_32 (a1 a3 : Int32) : chk (f_X4_sheet a1 32 a3 v0_X4) (f_X5_sheet a1 32 a3 v0_X5) = true := by
  by_cases h1 : 0 ≤ a1 ∧ a1 < 4
  · by_cases c1 : 0 ≤ a3
    · by_cases c2 : a3 ≤ 40
      · obtain ⟨q, hq, rfl⟩ := rng (n := 4) (N := 4) (by decide) h1
        exact chk_of (sheet4_32 hq h1 a3 c1 c2) (sheet5_32 hq h1 a3 c1 c2)
      · have e4 : f_X4_sheet a1 32 a3 v0_X4 = f_X4_finding 0 v0_X4 := by
          unfold f_X4_sheet
          rw [wi1 h1, Option.bind_some]
          try dsimp only
          rw [if_neg (show ¬ (1 : Int32) = 0 by decide), if_neg (by decide), if_neg (by decide), if_neg (by decide), if_pos rfl, if_pos c1, if_neg c2]
          rfl
        have e5 : f_X5_sheet a1 32 a3 v0_X5 = f_X5_finds (-1000001) v0_X5 := by
          unfold f_X5_sheet
          rw [isOne1 h1, Option.bind_some]
          try dsimp only
          rw [if_neg (show ¬ (1 : Int32) = 0 by decide), if_neg (by decide), if_neg (by decide), if_neg (by decide), if_pos rfl, if_pos c1, if_neg c2]
          rfl
        rw [e4, e5]
        decide +kernel
    · have e4 : f_X4_sheet a1 32 a3 v0_X4 = f_X4_finding 6 v0_X4 := by
        unfold f_X4_sheet
        rw [wi1 h1, Option.bind_some]
        try dsimp only
        rw [if_neg (show ¬ (1 : Int32) = 0 by decide), if_neg (by decide), if_neg (by decide), if_neg (by decide), if_pos rfl, if_neg c1]
        rfl
      have e5 : f_X5_sheet a1 32 a3 v0_X5 = f_X5_finds (-1000007) v0_X5 := by
        unfold f_X5_sheet
        rw [isOne1 h1, Option.bind_some]
        try dsimp only
        rw [if_neg (show ¬ (1 : Int32) = 0 by decide), if_neg (by decide), if_neg (by decide), if_neg (by decide), if_pos rfl, if_neg c1]
        rfl
      rw [e4, e5]
      decide +kernel
  · unfold f_X4_sheet f_X5_sheet
    rw [wi0 h1, isOne0 h1]
    rfl
theorem r_sheet (a1 a2 a3 : Int32) : chk (f_X4_sheet a1 a2 a3 v0_X4) (f_X5_sheet a1 a2 a3 v0_X5) = true := by
  by_cases b0 : a2 = 0
  · subst b0; exact sh_0 a1 a3
  by_cases b1 : a2 = 8
  · subst b1; exact sh_8 a1 a3
  by_cases b2 : a2 = 16
  · subst b2; exact sh_16 a1 a3
  by_cases b3 : a2 = 32
  · subst b3; exact sh_32 a1 a3
  by_cases h1 : 0 ≤ a1 ∧ a1 < 4
  · have e4 : f_X4_sheet a1 a2 a3 v0_X4 = f_X4_finding 0 v0_X4 := by
      unfold f_X4_sheet
      rw [wi1 h1, Option.bind_some]
      try dsimp only
      rw [if_neg (show ¬ (1 : Int32) = 0 by decide), if_neg b0, if_neg b1, if_neg b2, if_neg b3]
      rfl
    have e5 : f_X5_sheet a1 a2 a3 v0_X5 = f_X5_finds (-1000001) v0_X5 := by
      unfold f_X5_sheet
      rw [isOne1 h1, Option.bind_some]
      try dsimp only
      rw [if_neg (show ¬ (1 : Int32) = 0 by decide), if_neg b0, if_neg b1, if_neg b2, if_neg b3]
      rfl
    rw [e4, e5]
    decide +kernel
  · unfold f_X4_sheet f_X5_sheet
    rw [wi0 h1, isOne0 h1]
    rfl
