theorem q_windowOf (a1 a2 : Int32) : chk (f_X4_windowOf a1 a2 v0_X4) (f_X5_windowOf a1 a2 v0_X5) = true := by
  unfold f_X4_windowOf f_X5_windowOf
  rw [isW4, isW5]
  rfl
theorem q_turn (a1 a2 a3 : Int32) : chk (f_X4_turn a1 a2 a3 v0_X4) (f_X5_turn a1 a2 a3 v0_X5) = true := by
  unfold f_X4_turn f_X5_turn
  rw [isW4, isW5]
  rfl
theorem q_contract (a1 a2 a3 : Int32) : chk (f_X4_contract a1 a2 a3 v0_X4) (f_X5_contract a1 a2 a3 v0_X5) = true := by
  unfold f_X4_contract f_X5_contract
  rw [isW4, isW5]
  rfl
theorem q_sees (a1 a2 : Int32) : chk (f_X4_sees a1 a2 v0_X4) (f_X5_sees a1 a2 v0_X5) = true := by
  unfold f_X4_sees f_X5_sees
  rw [isW4, isW5]
  rfl
theorem q_view (a1 : Int32) : chk (f_X4_view a1 v0_X4) (f_X5_view a1 v0_X5) = true := by
  unfold f_X4_view f_X5_view
  rw [isW4, isW5]
  rfl
theorem q_share (a1 a2 : Int32) : chk (f_X4_share a1 a2 v0_X4) (f_X5_share a1 a2 v0_X5) = true := by
  unfold f_X4_share f_X5_share
  rw [isW4, isW5]
  rfl
theorem q_lots (a1 : Int32) : chk (f_X4_lots a1 v0_X4) (f_X5_lots a1 v0_X5) = true := by
  unfold f_X4_lots f_X5_lots
  rw [isW4, isW5]
  rfl
theorem q_rent (a1 : Int32) : chk (f_X4_rent a1 v0_X4) (f_X5_rent a1 v0_X5) = true := by
  unfold f_X4_rent f_X5_rent
  rw [isW4, isW5]
  rfl
theorem q_breach (a1 : Int32) : chk (f_X4_breach a1 v0_X4) (f_X5_breach a1 v0_X5) = true := by
  unfold f_X4_breach f_X5_breach
  rw [isW4, isW5]
  rfl
theorem q_blame (a1 : Int32) : chk (f_X4_blame a1 v0_X4) (f_X5_blame a1 v0_X5) = true := by
  unfold f_X4_blame f_X5_blame
  rw [isW4, isW5]
  rfl
theorem q_level (a1 : Int32) : chk (f_X4_level a1 v0_X4) (f_X5_level a1 v0_X5) = true := by
  unfold f_X4_level f_X5_level
  rw [isW4, isW5]
  rfl
theorem q_cheapest (a1 : Int32) : chk (f_X4_cheapest a1 v0_X4) (f_X5_cheapest a1 v0_X5) = true := by
  unfold f_X4_cheapest f_X5_cheapest
  rw [isW4, isW5]
  rfl
set_option maxRecDepth 100000 in
theorem D_clear : ∀ j1, j1 < 25 → chk (f_X4_clear (nI j1) v0_X4) (f_X5_clear (nI j1) v0_X5) = true := by decide +kernel
theorem q_clear (a1 : Int32) : chk (f_X4_clear a1 v0_X4) (f_X5_clear a1 v0_X5) = true := by
  by_cases h1 : 0 ≤ a1 ∧ a1 < 25
  · obtain ⟨j1, hj1, rfl⟩ := rng (n := 25) (N := 25) (by decide) h1
    exact D_clear j1 hj1
  · have B1 : ∀ v, f_X4_within a1 25 v = some (0, v) := fun v => wi0 h1
    have A1 : ∀ w, f_X5_isLot a1 w = some (0, w) := fun w => isLot0 h1
    simp only [f_X4_clear, f_X5_clear, f_X5_lotWrong, B1, A1, Option.bind_some, reduceIte, e10]
    rfl
set_option maxRecDepth 100000 in
theorem D_paint : ∀ j1, j1 < 25 → chk (f_X4_paint (nI j1) v0_X4) (f_X5_paint (nI j1) v0_X5) = true := by decide +kernel
theorem q_paint (a1 : Int32) : chk (f_X4_paint a1 v0_X4) (f_X5_paint a1 v0_X5) = true := by
  by_cases h1 : 0 ≤ a1 ∧ a1 < 25
  · obtain ⟨j1, hj1, rfl⟩ := rng (n := 25) (N := 25) (by decide) h1
    exact D_paint j1 hj1
  · have B1 : ∀ v, f_X4_within a1 25 v = some (0, v) := fun v => wi0 h1
    have A1 : ∀ w, f_X5_isLot a1 w = some (0, w) := fun w => isLot0 h1
    simp only [f_X4_paint, f_X5_paint, f_X5_lotWrong, B1, A1, Option.bind_some, reduceIte, e10]
    rfl
set_option maxRecDepth 100000 in
theorem D_height : ∀ j1, j1 < 25 → chk (f_X4_height (nI j1) v0_X4) (f_X5_height (nI j1) v0_X5) = true := by decide +kernel
theorem q_height (a1 : Int32) : chk (f_X4_height a1 v0_X4) (f_X5_height a1 v0_X5) = true := by
  by_cases h1 : 0 ≤ a1 ∧ a1 < 25
  · obtain ⟨j1, hj1, rfl⟩ := rng (n := 25) (N := 25) (by decide) h1
    exact D_height j1 hj1
  · have B1 : ∀ v, f_X4_within a1 25 v = some (0, v) := fun v => wi0 h1
    have A1 : ∀ w, f_X5_isLot a1 w = some (0, w) := fun w => isLot0 h1
    simp only [f_X4_height, f_X5_height, f_X5_lotWrong, B1, A1, Option.bind_some, reduceIte, e10]
    rfl
set_option maxRecDepth 100000 in
theorem D_allowed : ∀ j1, j1 < 25 → chk (f_X4_allowed (nI j1) v0_X4) (f_X5_allowed (nI j1) v0_X5) = true := by decide +kernel
theorem q_allowed (a1 : Int32) : chk (f_X4_allowed a1 v0_X4) (f_X5_allowed a1 v0_X5) = true := by
  by_cases h1 : 0 ≤ a1 ∧ a1 < 25
  · obtain ⟨j1, hj1, rfl⟩ := rng (n := 25) (N := 25) (by decide) h1
    exact D_allowed j1 hj1
  · have B1 : ∀ v, f_X4_within a1 25 v = some (0, v) := fun v => wi0 h1
    have A1 : ∀ w, f_X5_isLot a1 w = some (0, w) := fun w => isLot0 h1
    simp only [f_X4_allowed, f_X5_allowed, f_X5_lotWrong, B1, A1, Option.bind_some, reduceIte, e10]
    rfl
set_option maxRecDepth 100000 in
theorem D_opens : ∀ j1, j1 < 25 → chk (f_X4_opens (nI j1) v0_X4) (f_X5_opens (nI j1) v0_X5) = true := by decide +kernel
theorem q_opens (a1 : Int32) : chk (f_X4_opens a1 v0_X4) (f_X5_opens a1 v0_X5) = true := by
  by_cases h1 : 0 ≤ a1 ∧ a1 < 25
  · obtain ⟨j1, hj1, rfl⟩ := rng (n := 25) (N := 25) (by decide) h1
    exact D_opens j1 hj1
  · have B1 : ∀ v, f_X4_within a1 25 v = some (0, v) := fun v => wi0 h1
    have A1 : ∀ w, f_X5_isLot a1 w = some (0, w) := fun w => isLot0 h1
    simp only [f_X4_opens, f_X5_opens, f_X5_lotWrong, B1, A1, Option.bind_some, reduceIte, e10]
    rfl
set_option maxRecDepth 100000 in
theorem D_watched : ∀ j1, j1 < 25 → chk (f_X4_watched (nI j1) v0_X4) (f_X5_watched (nI j1) v0_X5) = true := by decide +kernel
theorem q_watched (a1 : Int32) : chk (f_X4_watched a1 v0_X4) (f_X5_watched a1 v0_X5) = true := by
  by_cases h1 : 0 ≤ a1 ∧ a1 < 25
  · obtain ⟨j1, hj1, rfl⟩ := rng (n := 25) (N := 25) (by decide) h1
    exact D_watched j1 hj1
  · have B1 : ∀ v, f_X4_within a1 25 v = some (0, v) := fun v => wi0 h1
    have A1 : ∀ w, f_X5_isLot a1 w = some (0, w) := fun w => isLot0 h1
    simp only [f_X4_watched, f_X5_watched, B1, A1, Option.bind_some, reduceIte, e10]
    rfl
set_option maxRecDepth 100000 in
theorem D_purse : ∀ j1, j1 < 4 → chk (f_X4_purse (nI j1) v0_X4) (f_X5_purse (nI j1) v0_X5) = true := by decide +kernel
theorem q_purse (a1 : Int32) : chk (f_X4_purse a1 v0_X4) (f_X5_purse a1 v0_X5) = true := by
  by_cases h1 : 0 ≤ a1 ∧ a1 < 4
  · obtain ⟨j1, hj1, rfl⟩ := rng (n := 4) (N := 4) (by decide) h1
    exact D_purse j1 hj1
  · have B1 : ∀ v, f_X4_within a1 4 v = some (0, v) := fun v => wi0 h1
    have A1 : ∀ w, f_X5_isOwner a1 w = some (0, w) := fun w => isOwner0 h1
    simp only [f_X4_purse, f_X5_purse, B1, A1, Option.bind_some, reduceIte, e10]
    rfl
set_option maxRecDepth 100000 in
theorem D_gain : ∀ j1, j1 < 4 → chk (f_X4_gain (nI j1) v0_X4) (f_X5_gain (nI j1) v0_X5) = true := by decide +kernel
theorem q_gain (a1 : Int32) : chk (f_X4_gain a1 v0_X4) (f_X5_gain a1 v0_X5) = true := by
  by_cases h1 : 0 ≤ a1 ∧ a1 < 4
  · obtain ⟨j1, hj1, rfl⟩ := rng (n := 4) (N := 4) (by decide) h1
    exact D_gain j1 hj1
  · have B1 : ∀ v, f_X4_within a1 4 v = some (0, v) := fun v => wi0 h1
    have A1 : ∀ w, f_X5_isOwner a1 w = some (0, w) := fun w => isOwner0 h1
    simp only [f_X4_gain, f_X5_gain, B1, A1, Option.bind_some, reduceIte, e10]
    rfl
set_option maxRecDepth 100000 in
theorem D_worst : ∀ j1, j1 < 4 → chk (f_X4_worst (nI j1) v0_X4) (f_X5_worst (nI j1) v0_X5) = true := by decide +kernel
theorem q_worst (a1 : Int32) : chk (f_X4_worst a1 v0_X4) (f_X5_worst a1 v0_X5) = true := by
  by_cases h1 : 0 ≤ a1 ∧ a1 < 4
  · obtain ⟨j1, hj1, rfl⟩ := rng (n := 4) (N := 4) (by decide) h1
    exact D_worst j1 hj1
  · have B1 : ∀ v, f_X4_within a1 4 v = some (0, v) := fun v => wi0 h1
    have A1 : ∀ w, f_X5_isOwner a1 w = some (0, w) := fun w => isOwner0 h1
    simp only [f_X4_worst, f_X5_worst, B1, A1, Option.bind_some, reduceIte, e10]
    rfl
set_option maxRecDepth 100000 in
theorem D_of : ∀ j1, j1 < 25 → ∀ j2, j2 < 7 → chk (f_X4_of (nI j1) (nI j2) v0_X4) (f_X5_of (nI j1) (nI j2) v0_X5) = true := by decide +kernel
theorem q_of (a1 a2 : Int32) : chk (f_X4_of a1 a2 v0_X4) (f_X5_of a1 a2 v0_X5) = true := by
  by_cases h1 : 0 ≤ a1 ∧ a1 < 25
  · by_cases h2 : 0 ≤ a2 ∧ a2 < 7
    · obtain ⟨j1, hj1, rfl⟩ := rng (n := 25) (N := 25) (by decide) h1
      obtain ⟨j2, hj2, rfl⟩ := rng (n := 7) (N := 7) (by decide) h2
      exact D_of j1 hj1 j2 hj2
    · have B1 : ∀ v, f_X4_within a1 25 v = some (1, v) := fun v => wi1 h1
      have A1 : ∀ w, f_X5_isLot a1 w = some (1, w) := fun w => isLot1 h1
      have B2 : ∀ v, f_X4_within a2 7 v = some (0, v) := fun v => wi0 h2
      have A2 : ∀ w, f_X5_in a2.toInt64 0 6 w = some (0, w) := fun w => in0 (n := 7) (lo' := 0) (by decide) (by decide) h2
      simp only [f_X4_of, f_X5_of, f_X5_lotWrong, B1, A1, B2, A2, Option.bind_some, reduceIte, e10]
      rfl
  · by_cases h2 : 0 ≤ a2 ∧ a2 < 7
    · have B1 : ∀ v, f_X4_within a1 25 v = some (0, v) := fun v => wi0 h1
      have A1 : ∀ w, f_X5_isLot a1 w = some (0, w) := fun w => isLot0 h1
      have B2 : ∀ v, f_X4_within a2 7 v = some (1, v) := fun v => wi1 h2
      have A2 : ∀ w, f_X5_in a2.toInt64 0 6 w = some (1, w) := fun w => in1 (n := 7) (lo' := 0) (by decide) (by decide) h2
      simp only [f_X4_of, f_X5_of, f_X5_lotWrong, B1, A1, B2, A2, Option.bind_some, reduceIte, e10]
      rfl
    · have B1 : ∀ v, f_X4_within a1 25 v = some (0, v) := fun v => wi0 h1
      have A1 : ∀ w, f_X5_isLot a1 w = some (0, w) := fun w => isLot0 h1
      have B2 : ∀ v, f_X4_within a2 7 v = some (0, v) := fun v => wi0 h2
      have A2 : ∀ w, f_X5_in a2.toInt64 0 6 w = some (0, w) := fun w => in0 (n := 7) (lo' := 0) (by decide) (by decide) h2
      simp only [f_X4_of, f_X5_of, f_X5_lotWrong, B1, A1, B2, A2, Option.bind_some, reduceIte, e10]
      rfl
set_option maxRecDepth 100000 in
theorem D_storey : ∀ j1, j1 < 25 → ∀ j2, j2 < 4 → chk (f_X4_storey (nI j1) (nI j2) v0_X4) (f_X5_storey (nI j1) (nI j2) v0_X5) = true := by decide +kernel
theorem q_storey (a1 a2 : Int32) : chk (f_X4_storey a1 a2 v0_X4) (f_X5_storey a1 a2 v0_X5) = true := by
  by_cases h1 : 0 ≤ a1 ∧ a1 < 25
  · by_cases h2 : 0 ≤ a2 ∧ a2 < 4
    · obtain ⟨j1, hj1, rfl⟩ := rng (n := 25) (N := 25) (by decide) h1
      obtain ⟨j2, hj2, rfl⟩ := rng (n := 4) (N := 4) (by decide) h2
      exact D_storey j1 hj1 j2 hj2
    · have B1 : ∀ v, f_X4_within a1 25 v = some (1, v) := fun v => wi1 h1
      have A1 : ∀ w, f_X5_isLot a1 w = some (1, w) := fun w => isLot1 h1
      have B2 : ∀ v, f_X4_within a2 4 v = some (0, v) := fun v => wi0 h2
      have A2 : ∀ w, f_X5_isOwner a2 w = some (0, w) := fun w => isOwner0 h2
      simp only [f_X4_storey, f_X5_storey, f_X5_lotWrong, B1, A1, B2, A2, Option.bind_some, reduceIte, e10]
      rfl
  · by_cases h2 : 0 ≤ a2 ∧ a2 < 4
    · have B1 : ∀ v, f_X4_within a1 25 v = some (0, v) := fun v => wi0 h1
      have A1 : ∀ w, f_X5_isLot a1 w = some (0, w) := fun w => isLot0 h1
      have B2 : ∀ v, f_X4_within a2 4 v = some (1, v) := fun v => wi1 h2
      have A2 : ∀ w, f_X5_isOwner a2 w = some (1, w) := fun w => isOwner1 h2
      simp only [f_X4_storey, f_X5_storey, f_X5_lotWrong, B1, A1, B2, A2, Option.bind_some, reduceIte, e10]
      rfl
    · have B1 : ∀ v, f_X4_within a1 25 v = some (0, v) := fun v => wi0 h1
      have A1 : ∀ w, f_X5_isLot a1 w = some (0, w) := fun w => isLot0 h1
      have B2 : ∀ v, f_X4_within a2 4 v = some (0, v) := fun v => wi0 h2
      have A2 : ∀ w, f_X5_isOwner a2 w = some (0, w) := fun w => isOwner0 h2
      simp only [f_X4_storey, f_X5_storey, f_X5_lotWrong, B1, A1, B2, A2, Option.bind_some, reduceIte, e10]
      rfl
set_option maxRecDepth 100000 in
theorem D_price : ∀ j1, j1 < 4 → ∀ j2, j2 < 100 → chk (f_X4_price (nI j1) (nI j2) v0_X4) (f_X5_price (nI j1) (nI j2) v0_X5) = true := by decide +kernel
theorem q_price (a1 a2 : Int32) : chk (f_X4_price a1 a2 v0_X4) (f_X5_price a1 a2 v0_X5) = true := by
  by_cases h1 : 0 ≤ a1 ∧ a1 < 4
  · by_cases h2 : 0 ≤ a2 ∧ a2 < 100
    · obtain ⟨j1, hj1, rfl⟩ := rng (n := 4) (N := 4) (by decide) h1
      obtain ⟨j2, hj2, rfl⟩ := rng (n := 100) (N := 100) (by decide) h2
      exact D_price j1 hj1 j2 hj2
    · have B1 : ∀ v, f_X4_within a1 4 v = some (1, v) := fun v => wi1 h1
      have A1 : ∀ w, f_X5_in a1.toInt64 0 3 w = some (1, w) := fun w => in1 (n := 4) (lo' := 0) (by decide) (by decide) h1
      have B2 : ∀ v, f_X4_within a2 100 v = some (0, v) := fun v => wi0 h2
      have A2 : ∀ w, f_X5_in a2.toInt64 0 99 w = some (0, w) := fun w => in0 (n := 100) (lo' := 0) (by decide) (by decide) h2
      simp only [f_X4_price, f_X5_price, B1, A1, B2, A2, Option.bind_some, reduceIte, e10]
      rfl
  · by_cases h2 : 0 ≤ a2 ∧ a2 < 100
    · have B1 : ∀ v, f_X4_within a1 4 v = some (0, v) := fun v => wi0 h1
      have A1 : ∀ w, f_X5_in a1.toInt64 0 3 w = some (0, w) := fun w => in0 (n := 4) (lo' := 0) (by decide) (by decide) h1
      have B2 : ∀ v, f_X4_within a2 100 v = some (1, v) := fun v => wi1 h2
      have A2 : ∀ w, f_X5_in a2.toInt64 0 99 w = some (1, w) := fun w => in1 (n := 100) (lo' := 0) (by decide) (by decide) h2
      simp only [f_X4_price, f_X5_price, B1, A1, B2, A2, Option.bind_some, reduceIte, e10]
      rfl
    · have B1 : ∀ v, f_X4_within a1 4 v = some (0, v) := fun v => wi0 h1
      have A1 : ∀ w, f_X5_in a1.toInt64 0 3 w = some (0, w) := fun w => in0 (n := 4) (lo' := 0) (by decide) (by decide) h1
      have B2 : ∀ v, f_X4_within a2 100 v = some (0, v) := fun v => wi0 h2
      have A2 : ∀ w, f_X5_in a2.toInt64 0 99 w = some (0, w) := fun w => in0 (n := 100) (lo' := 0) (by decide) (by decide) h2
      simp only [f_X4_price, f_X5_price, B1, A1, B2, A2, Option.bind_some, reduceIte, e10]
      rfl
set_option maxRecDepth 100000 in
theorem D_trade : ∀ j1, j1 < 4 → ∀ j2, j2 < 4 → chk (f_X4_trade (nI j1) (nI j2) v0_X4) (f_X5_trade (nI j1) (nI j2) v0_X5) = true := by decide +kernel
theorem q_trade (a1 a2 : Int32) : chk (f_X4_trade a1 a2 v0_X4) (f_X5_trade a1 a2 v0_X5) = true := by
  by_cases h1 : 0 ≤ a1 ∧ a1 < 4
  · by_cases h2 : 0 ≤ a2 ∧ a2 < 4
    · obtain ⟨j1, hj1, rfl⟩ := rng (n := 4) (N := 4) (by decide) h1
      obtain ⟨j2, hj2, rfl⟩ := rng (n := 4) (N := 4) (by decide) h2
      exact D_trade j1 hj1 j2 hj2
    · have B1 : ∀ v, f_X4_within a1 4 v = some (1, v) := fun v => wi1 h1
      have A1 : ∀ w, f_X5_isOwner a1 w = some (1, w) := fun w => isOwner1 h1
      have B2 : ∀ v, f_X4_within a2 4 v = some (0, v) := fun v => wi0 h2
      have A2 : ∀ w, f_X5_isOwner a2 w = some (0, w) := fun w => isOwner0 h2
      simp only [f_X4_trade, f_X5_trade, B1, A1, B2, A2, Option.bind_some, reduceIte, e10]
      rfl
  · by_cases h2 : 0 ≤ a2 ∧ a2 < 4
    · have B1 : ∀ v, f_X4_within a1 4 v = some (0, v) := fun v => wi0 h1
      have A1 : ∀ w, f_X5_isOwner a1 w = some (0, w) := fun w => isOwner0 h1
      have B2 : ∀ v, f_X4_within a2 4 v = some (1, v) := fun v => wi1 h2
      have A2 : ∀ w, f_X5_isOwner a2 w = some (1, w) := fun w => isOwner1 h2
      simp only [f_X4_trade, f_X5_trade, B1, A1, B2, A2, Option.bind_some, reduceIte, e10]
      rfl
    · have B1 : ∀ v, f_X4_within a1 4 v = some (0, v) := fun v => wi0 h1
      have A1 : ∀ w, f_X5_isOwner a1 w = some (0, w) := fun w => isOwner0 h1
      have B2 : ∀ v, f_X4_within a2 4 v = some (0, v) := fun v => wi0 h2
      have A2 : ∀ w, f_X5_isOwner a2 w = some (0, w) := fun w => isOwner0 h2
      simp only [f_X4_trade, f_X5_trade, B1, A1, B2, A2, Option.bind_some, reduceIte, e10]
      rfl
set_option maxRecDepth 100000 in
theorem D_swap : ∀ j1, j1 < 25 → ∀ j2, j2 < 25 → chk (f_X4_swap (nI j1) (nI j2) v0_X4) (f_X5_swap (nI j1) (nI j2) v0_X5) = true := by decide +kernel
theorem q_swap (a1 a2 : Int32) : chk (f_X4_swap a1 a2 v0_X4) (f_X5_swap a1 a2 v0_X5) = true := by
  by_cases h1 : 0 ≤ a1 ∧ a1 < 25
  · by_cases h2 : 0 ≤ a2 ∧ a2 < 25
    · obtain ⟨j1, hj1, rfl⟩ := rng (n := 25) (N := 25) (by decide) h1
      obtain ⟨j2, hj2, rfl⟩ := rng (n := 25) (N := 25) (by decide) h2
      exact D_swap j1 hj1 j2 hj2
    · have B1 : ∀ v, f_X4_within a1 25 v = some (1, v) := fun v => wi1 h1
      have A1 : ∀ w, f_X5_isLot a1 w = some (1, w) := fun w => isLot1 h1
      have B2 : ∀ v, f_X4_within a2 25 v = some (0, v) := fun v => wi0 h2
      have A2 : ∀ w, f_X5_isLot a2 w = some (0, w) := fun w => isLot0 h2
      simp only [f_X4_swap, f_X5_swap, B1, A1, B2, A2, Option.bind_some, reduceIte, e10]
      rfl
  · by_cases h2 : 0 ≤ a2 ∧ a2 < 25
    · have B1 : ∀ v, f_X4_within a1 25 v = some (0, v) := fun v => wi0 h1
      have A1 : ∀ w, f_X5_isLot a1 w = some (0, w) := fun w => isLot0 h1
      have B2 : ∀ v, f_X4_within a2 25 v = some (1, v) := fun v => wi1 h2
      have A2 : ∀ w, f_X5_isLot a2 w = some (1, w) := fun w => isLot1 h2
      simp only [f_X4_swap, f_X5_swap, B1, A1, B2, A2, Option.bind_some, reduceIte, e10]
      rfl
    · have B1 : ∀ v, f_X4_within a1 25 v = some (0, v) := fun v => wi0 h1
      have A1 : ∀ w, f_X5_isLot a1 w = some (0, w) := fun w => isLot0 h1
      have B2 : ∀ v, f_X4_within a2 25 v = some (0, v) := fun v => wi0 h2
      have A2 : ∀ w, f_X5_isLot a2 w = some (0, w) := fun w => isLot0 h2
      simp only [f_X4_swap, f_X5_swap, B1, A1, B2, A2, Option.bind_some, reduceIte, e10]
      rfl
set_option maxRecDepth 100000 in
theorem D_as : ∀ j1, j1 < 10 → ∀ j2, j2 < 7 → chk (f_X4_as (nI j1) (nI j2) v0_X4) (f_X5_as (nI j1) (nI j2) v0_X5) = true := by decide +kernel
theorem q_as (a1 a2 : Int32) : chk (f_X4_as a1 a2 v0_X4) (f_X5_as a1 a2 v0_X5) = true := by
  by_cases h1 : 0 ≤ a1 ∧ a1 < 10
  · by_cases h2 : 0 ≤ a2 ∧ a2 < 7
    · obtain ⟨j1, hj1, rfl⟩ := rng (n := 10) (N := 10) (by decide) h1
      obtain ⟨j2, hj2, rfl⟩ := rng (n := 7) (N := 7) (by decide) h2
      exact D_as j1 hj1 j2 hj2
    · have B1 : ∀ v, f_X4_within a1 10 v = some (1, v) := fun v => wi1 h1
      have A1 : ∀ w, f_X5_in a1.toInt64 0 9 w = some (1, w) := fun w => in1 (n := 10) (lo' := 0) (by decide) (by decide) h1
      have B2 : ∀ v, f_X4_within a2 7 v = some (0, v) := fun v => wi0 h2
      have A2 : ∀ w, f_X5_in a2.toInt64 0 6 w = some (0, w) := fun w => in0 (n := 7) (lo' := 0) (by decide) (by decide) h2
      simp only [f_X4_as, f_X5_as, B1, A1, B2, A2, Option.bind_some, reduceIte, e10]
      rfl
  · by_cases h2 : 0 ≤ a2 ∧ a2 < 7
    · have B1 : ∀ v, f_X4_within a1 10 v = some (0, v) := fun v => wi0 h1
      have A1 : ∀ w, f_X5_in a1.toInt64 0 9 w = some (0, w) := fun w => in0 (n := 10) (lo' := 0) (by decide) (by decide) h1
      have B2 : ∀ v, f_X4_within a2 7 v = some (1, v) := fun v => wi1 h2
      have A2 : ∀ w, f_X5_in a2.toInt64 0 6 w = some (1, w) := fun w => in1 (n := 7) (lo' := 0) (by decide) (by decide) h2
      simp only [f_X4_as, f_X5_as, B1, A1, B2, A2, Option.bind_some, reduceIte, e10]
      rfl
    · have B1 : ∀ v, f_X4_within a1 10 v = some (0, v) := fun v => wi0 h1
      have A1 : ∀ w, f_X5_in a1.toInt64 0 9 w = some (0, w) := fun w => in0 (n := 10) (lo' := 0) (by decide) (by decide) h1
      have B2 : ∀ v, f_X4_within a2 7 v = some (0, v) := fun v => wi0 h2
      have A2 : ∀ w, f_X5_in a2.toInt64 0 6 w = some (0, w) := fun w => in0 (n := 7) (lo' := 0) (by decide) (by decide) h2
      simp only [f_X4_as, f_X5_as, B1, A1, B2, A2, Option.bind_some, reduceIte, e10]
      rfl
theorem q_build (a1 a2 a3 a4 : Int32) (hin : (0 ≤ a1 ∧ a1 < 7) → (0 ≤ a2 ∧ a2 < 25) → (0 ≤ a3 ∧ a3 < 4) → (0 ≤ a4 ∧ a4 < 10) → chk (f_X4_build a1 a2 a3 a4 v0_X4) (f_X5_build a1 a2 a3 a4 v0_X5) = true) : chk (f_X4_build a1 a2 a3 a4 v0_X4) (f_X5_build a1 a2 a3 a4 v0_X5) = true := by
  by_cases h1 : 0 ≤ a1 ∧ a1 < 7
  · by_cases h2 : 0 ≤ a2 ∧ a2 < 25
    · by_cases h3 : 0 ≤ a3 ∧ a3 < 4
      · by_cases h4 : 0 ≤ a4 ∧ a4 < 10
        · exact hin h1 h2 h3 h4
        · have B1 : ∀ v, f_X4_within a1 7 v = some (1, v) := fun v => wi1 h1
          have A1 : ∀ w, f_X5_in a1.toInt64 0 6 w = some (1, w) := fun w => in1 (n := 7) (lo' := 0) (by decide) (by decide) h1
          have B2 : ∀ v, f_X4_within a2 25 v = some (1, v) := fun v => wi1 h2
          have A2 : ∀ w, f_X5_isLot a2 w = some (1, w) := fun w => isLot1 h2
          have B3 : ∀ v, f_X4_within a3 4 v = some (1, v) := fun v => wi1 h3
          have A3 : ∀ w, f_X5_isOwner a3 w = some (1, w) := fun w => isOwner1 h3
          have B4 : ∀ v, f_X4_within a4 10 v = some (0, v) := fun v => wi0 h4
          have A4 : ∀ w, f_X5_isHeight a4 w = some (0, w) := fun w => isHeight0 h4
          simp only [f_X4_build, f_X5_build, B1, A1, B2, A2, B3, A3, B4, A4, Option.bind_some, reduceIte, e10]
          rfl
      · by_cases h4 : 0 ≤ a4 ∧ a4 < 10
        · have B1 : ∀ v, f_X4_within a1 7 v = some (1, v) := fun v => wi1 h1
          have A1 : ∀ w, f_X5_in a1.toInt64 0 6 w = some (1, w) := fun w => in1 (n := 7) (lo' := 0) (by decide) (by decide) h1
          have B2 : ∀ v, f_X4_within a2 25 v = some (1, v) := fun v => wi1 h2
          have A2 : ∀ w, f_X5_isLot a2 w = some (1, w) := fun w => isLot1 h2
          have B3 : ∀ v, f_X4_within a3 4 v = some (0, v) := fun v => wi0 h3
          have A3 : ∀ w, f_X5_isOwner a3 w = some (0, w) := fun w => isOwner0 h3
          have B4 : ∀ v, f_X4_within a4 10 v = some (1, v) := fun v => wi1 h4
          have A4 : ∀ w, f_X5_isHeight a4 w = some (1, w) := fun w => isHeight1 h4
          simp only [f_X4_build, f_X5_build, B1, A1, B2, A2, B3, A3, B4, A4, Option.bind_some, reduceIte, e10]
          rfl
        · have B1 : ∀ v, f_X4_within a1 7 v = some (1, v) := fun v => wi1 h1
          have A1 : ∀ w, f_X5_in a1.toInt64 0 6 w = some (1, w) := fun w => in1 (n := 7) (lo' := 0) (by decide) (by decide) h1
          have B2 : ∀ v, f_X4_within a2 25 v = some (1, v) := fun v => wi1 h2
          have A2 : ∀ w, f_X5_isLot a2 w = some (1, w) := fun w => isLot1 h2
          have B3 : ∀ v, f_X4_within a3 4 v = some (0, v) := fun v => wi0 h3
          have A3 : ∀ w, f_X5_isOwner a3 w = some (0, w) := fun w => isOwner0 h3
          have B4 : ∀ v, f_X4_within a4 10 v = some (0, v) := fun v => wi0 h4
          have A4 : ∀ w, f_X5_isHeight a4 w = some (0, w) := fun w => isHeight0 h4
          simp only [f_X4_build, f_X5_build, B1, A1, B2, A2, B3, A3, B4, A4, Option.bind_some, reduceIte, e10]
          rfl
    · by_cases h3 : 0 ≤ a3 ∧ a3 < 4
      · by_cases h4 : 0 ≤ a4 ∧ a4 < 10
        · have B1 : ∀ v, f_X4_within a1 7 v = some (1, v) := fun v => wi1 h1
          have A1 : ∀ w, f_X5_in a1.toInt64 0 6 w = some (1, w) := fun w => in1 (n := 7) (lo' := 0) (by decide) (by decide) h1
          have B2 : ∀ v, f_X4_within a2 25 v = some (0, v) := fun v => wi0 h2
          have A2 : ∀ w, f_X5_isLot a2 w = some (0, w) := fun w => isLot0 h2
          have B3 : ∀ v, f_X4_within a3 4 v = some (1, v) := fun v => wi1 h3
          have A3 : ∀ w, f_X5_isOwner a3 w = some (1, w) := fun w => isOwner1 h3
          have B4 : ∀ v, f_X4_within a4 10 v = some (1, v) := fun v => wi1 h4
          have A4 : ∀ w, f_X5_isHeight a4 w = some (1, w) := fun w => isHeight1 h4
          simp only [f_X4_build, f_X5_build, B1, A1, B2, A2, B3, A3, B4, A4, Option.bind_some, reduceIte, e10]
          rfl
        · have B1 : ∀ v, f_X4_within a1 7 v = some (1, v) := fun v => wi1 h1
          have A1 : ∀ w, f_X5_in a1.toInt64 0 6 w = some (1, w) := fun w => in1 (n := 7) (lo' := 0) (by decide) (by decide) h1
          have B2 : ∀ v, f_X4_within a2 25 v = some (0, v) := fun v => wi0 h2
          have A2 : ∀ w, f_X5_isLot a2 w = some (0, w) := fun w => isLot0 h2
          have B3 : ∀ v, f_X4_within a3 4 v = some (1, v) := fun v => wi1 h3
          have A3 : ∀ w, f_X5_isOwner a3 w = some (1, w) := fun w => isOwner1 h3
          have B4 : ∀ v, f_X4_within a4 10 v = some (0, v) := fun v => wi0 h4
          have A4 : ∀ w, f_X5_isHeight a4 w = some (0, w) := fun w => isHeight0 h4
          simp only [f_X4_build, f_X5_build, B1, A1, B2, A2, B3, A3, B4, A4, Option.bind_some, reduceIte, e10]
          rfl
      · by_cases h4 : 0 ≤ a4 ∧ a4 < 10
        · have B1 : ∀ v, f_X4_within a1 7 v = some (1, v) := fun v => wi1 h1
          have A1 : ∀ w, f_X5_in a1.toInt64 0 6 w = some (1, w) := fun w => in1 (n := 7) (lo' := 0) (by decide) (by decide) h1
          have B2 : ∀ v, f_X4_within a2 25 v = some (0, v) := fun v => wi0 h2
          have A2 : ∀ w, f_X5_isLot a2 w = some (0, w) := fun w => isLot0 h2
          have B3 : ∀ v, f_X4_within a3 4 v = some (0, v) := fun v => wi0 h3
          have A3 : ∀ w, f_X5_isOwner a3 w = some (0, w) := fun w => isOwner0 h3
          have B4 : ∀ v, f_X4_within a4 10 v = some (1, v) := fun v => wi1 h4
          have A4 : ∀ w, f_X5_isHeight a4 w = some (1, w) := fun w => isHeight1 h4
          simp only [f_X4_build, f_X5_build, B1, A1, B2, A2, B3, A3, B4, A4, Option.bind_some, reduceIte, e10]
          rfl
        · have B1 : ∀ v, f_X4_within a1 7 v = some (1, v) := fun v => wi1 h1
          have A1 : ∀ w, f_X5_in a1.toInt64 0 6 w = some (1, w) := fun w => in1 (n := 7) (lo' := 0) (by decide) (by decide) h1
          have B2 : ∀ v, f_X4_within a2 25 v = some (0, v) := fun v => wi0 h2
          have A2 : ∀ w, f_X5_isLot a2 w = some (0, w) := fun w => isLot0 h2
          have B3 : ∀ v, f_X4_within a3 4 v = some (0, v) := fun v => wi0 h3
          have A3 : ∀ w, f_X5_isOwner a3 w = some (0, w) := fun w => isOwner0 h3
          have B4 : ∀ v, f_X4_within a4 10 v = some (0, v) := fun v => wi0 h4
          have A4 : ∀ w, f_X5_isHeight a4 w = some (0, w) := fun w => isHeight0 h4
          simp only [f_X4_build, f_X5_build, B1, A1, B2, A2, B3, A3, B4, A4, Option.bind_some, reduceIte, e10]
          rfl
  · by_cases h2 : 0 ≤ a2 ∧ a2 < 25
    · by_cases h3 : 0 ≤ a3 ∧ a3 < 4
      · by_cases h4 : 0 ≤ a4 ∧ a4 < 10
        · have B1 : ∀ v, f_X4_within a1 7 v = some (0, v) := fun v => wi0 h1
          have A1 : ∀ w, f_X5_in a1.toInt64 0 6 w = some (0, w) := fun w => in0 (n := 7) (lo' := 0) (by decide) (by decide) h1
          have B2 : ∀ v, f_X4_within a2 25 v = some (1, v) := fun v => wi1 h2
          have A2 : ∀ w, f_X5_isLot a2 w = some (1, w) := fun w => isLot1 h2
          have B3 : ∀ v, f_X4_within a3 4 v = some (1, v) := fun v => wi1 h3
          have A3 : ∀ w, f_X5_isOwner a3 w = some (1, w) := fun w => isOwner1 h3
          have B4 : ∀ v, f_X4_within a4 10 v = some (1, v) := fun v => wi1 h4
          have A4 : ∀ w, f_X5_isHeight a4 w = some (1, w) := fun w => isHeight1 h4
          simp only [f_X4_build, f_X5_build, B1, A1, B2, A2, B3, A3, B4, A4, Option.bind_some, reduceIte, e10]
          rfl
        · have B1 : ∀ v, f_X4_within a1 7 v = some (0, v) := fun v => wi0 h1
          have A1 : ∀ w, f_X5_in a1.toInt64 0 6 w = some (0, w) := fun w => in0 (n := 7) (lo' := 0) (by decide) (by decide) h1
          have B2 : ∀ v, f_X4_within a2 25 v = some (1, v) := fun v => wi1 h2
          have A2 : ∀ w, f_X5_isLot a2 w = some (1, w) := fun w => isLot1 h2
          have B3 : ∀ v, f_X4_within a3 4 v = some (1, v) := fun v => wi1 h3
          have A3 : ∀ w, f_X5_isOwner a3 w = some (1, w) := fun w => isOwner1 h3
          have B4 : ∀ v, f_X4_within a4 10 v = some (0, v) := fun v => wi0 h4
          have A4 : ∀ w, f_X5_isHeight a4 w = some (0, w) := fun w => isHeight0 h4
          simp only [f_X4_build, f_X5_build, B1, A1, B2, A2, B3, A3, B4, A4, Option.bind_some, reduceIte, e10]
          rfl
      · by_cases h4 : 0 ≤ a4 ∧ a4 < 10
        · have B1 : ∀ v, f_X4_within a1 7 v = some (0, v) := fun v => wi0 h1
          have A1 : ∀ w, f_X5_in a1.toInt64 0 6 w = some (0, w) := fun w => in0 (n := 7) (lo' := 0) (by decide) (by decide) h1
          have B2 : ∀ v, f_X4_within a2 25 v = some (1, v) := fun v => wi1 h2
          have A2 : ∀ w, f_X5_isLot a2 w = some (1, w) := fun w => isLot1 h2
          have B3 : ∀ v, f_X4_within a3 4 v = some (0, v) := fun v => wi0 h3
          have A3 : ∀ w, f_X5_isOwner a3 w = some (0, w) := fun w => isOwner0 h3
          have B4 : ∀ v, f_X4_within a4 10 v = some (1, v) := fun v => wi1 h4
          have A4 : ∀ w, f_X5_isHeight a4 w = some (1, w) := fun w => isHeight1 h4
          simp only [f_X4_build, f_X5_build, B1, A1, B2, A2, B3, A3, B4, A4, Option.bind_some, reduceIte, e10]
          rfl
        · have B1 : ∀ v, f_X4_within a1 7 v = some (0, v) := fun v => wi0 h1
          have A1 : ∀ w, f_X5_in a1.toInt64 0 6 w = some (0, w) := fun w => in0 (n := 7) (lo' := 0) (by decide) (by decide) h1
          have B2 : ∀ v, f_X4_within a2 25 v = some (1, v) := fun v => wi1 h2
          have A2 : ∀ w, f_X5_isLot a2 w = some (1, w) := fun w => isLot1 h2
          have B3 : ∀ v, f_X4_within a3 4 v = some (0, v) := fun v => wi0 h3
          have A3 : ∀ w, f_X5_isOwner a3 w = some (0, w) := fun w => isOwner0 h3
          have B4 : ∀ v, f_X4_within a4 10 v = some (0, v) := fun v => wi0 h4
          have A4 : ∀ w, f_X5_isHeight a4 w = some (0, w) := fun w => isHeight0 h4
          simp only [f_X4_build, f_X5_build, B1, A1, B2, A2, B3, A3, B4, A4, Option.bind_some, reduceIte, e10]
          rfl
    · by_cases h3 : 0 ≤ a3 ∧ a3 < 4
      · by_cases h4 : 0 ≤ a4 ∧ a4 < 10
        · have B1 : ∀ v, f_X4_within a1 7 v = some (0, v) := fun v => wi0 h1
          have A1 : ∀ w, f_X5_in a1.toInt64 0 6 w = some (0, w) := fun w => in0 (n := 7) (lo' := 0) (by decide) (by decide) h1
          have B2 : ∀ v, f_X4_within a2 25 v = some (0, v) := fun v => wi0 h2
          have A2 : ∀ w, f_X5_isLot a2 w = some (0, w) := fun w => isLot0 h2
          have B3 : ∀ v, f_X4_within a3 4 v = some (1, v) := fun v => wi1 h3
          have A3 : ∀ w, f_X5_isOwner a3 w = some (1, w) := fun w => isOwner1 h3
          have B4 : ∀ v, f_X4_within a4 10 v = some (1, v) := fun v => wi1 h4
          have A4 : ∀ w, f_X5_isHeight a4 w = some (1, w) := fun w => isHeight1 h4
          simp only [f_X4_build, f_X5_build, B1, A1, B2, A2, B3, A3, B4, A4, Option.bind_some, reduceIte, e10]
          rfl
        · have B1 : ∀ v, f_X4_within a1 7 v = some (0, v) := fun v => wi0 h1
          have A1 : ∀ w, f_X5_in a1.toInt64 0 6 w = some (0, w) := fun w => in0 (n := 7) (lo' := 0) (by decide) (by decide) h1
          have B2 : ∀ v, f_X4_within a2 25 v = some (0, v) := fun v => wi0 h2
          have A2 : ∀ w, f_X5_isLot a2 w = some (0, w) := fun w => isLot0 h2
          have B3 : ∀ v, f_X4_within a3 4 v = some (1, v) := fun v => wi1 h3
          have A3 : ∀ w, f_X5_isOwner a3 w = some (1, w) := fun w => isOwner1 h3
          have B4 : ∀ v, f_X4_within a4 10 v = some (0, v) := fun v => wi0 h4
          have A4 : ∀ w, f_X5_isHeight a4 w = some (0, w) := fun w => isHeight0 h4
          simp only [f_X4_build, f_X5_build, B1, A1, B2, A2, B3, A3, B4, A4, Option.bind_some, reduceIte, e10]
          rfl
      · by_cases h4 : 0 ≤ a4 ∧ a4 < 10
        · have B1 : ∀ v, f_X4_within a1 7 v = some (0, v) := fun v => wi0 h1
          have A1 : ∀ w, f_X5_in a1.toInt64 0 6 w = some (0, w) := fun w => in0 (n := 7) (lo' := 0) (by decide) (by decide) h1
          have B2 : ∀ v, f_X4_within a2 25 v = some (0, v) := fun v => wi0 h2
          have A2 : ∀ w, f_X5_isLot a2 w = some (0, w) := fun w => isLot0 h2
          have B3 : ∀ v, f_X4_within a3 4 v = some (0, v) := fun v => wi0 h3
          have A3 : ∀ w, f_X5_isOwner a3 w = some (0, w) := fun w => isOwner0 h3
          have B4 : ∀ v, f_X4_within a4 10 v = some (1, v) := fun v => wi1 h4
          have A4 : ∀ w, f_X5_isHeight a4 w = some (1, w) := fun w => isHeight1 h4
          simp only [f_X4_build, f_X5_build, B1, A1, B2, A2, B3, A3, B4, A4, Option.bind_some, reduceIte, e10]
          rfl
        · have B1 : ∀ v, f_X4_within a1 7 v = some (0, v) := fun v => wi0 h1
          have A1 : ∀ w, f_X5_in a1.toInt64 0 6 w = some (0, w) := fun w => in0 (n := 7) (lo' := 0) (by decide) (by decide) h1
          have B2 : ∀ v, f_X4_within a2 25 v = some (0, v) := fun v => wi0 h2
          have A2 : ∀ w, f_X5_isLot a2 w = some (0, w) := fun w => isLot0 h2
          have B3 : ∀ v, f_X4_within a3 4 v = some (0, v) := fun v => wi0 h3
          have A3 : ∀ w, f_X5_isOwner a3 w = some (0, w) := fun w => isOwner0 h3
          have B4 : ∀ v, f_X4_within a4 10 v = some (0, v) := fun v => wi0 h4
          have A4 : ∀ w, f_X5_isHeight a4 w = some (0, w) := fun w => isHeight0 h4
          simp only [f_X4_build, f_X5_build, B1, A1, B2, A2, B3, A3, B4, A4, Option.bind_some, reduceIte, e10]
          rfl
theorem q_window (a1 a2 a3 a4 : Int32) (hin : (0 ≤ a1 ∧ a1 < 25) → (0 ≤ a2 ∧ a2 < 10) → (0 ≤ a3 ∧ a3 < 4) → (0 ≤ a4 ∧ a4 < 4) → chk (f_X4_window a1 a2 a3 a4 v0_X4) (f_X5_window a1 a2 a3 a4 v0_X5) = true) : chk (f_X4_window a1 a2 a3 a4 v0_X4) (f_X5_window a1 a2 a3 a4 v0_X5) = true := by
  by_cases h1 : 0 ≤ a1 ∧ a1 < 25
  · by_cases h2 : 0 ≤ a2 ∧ a2 < 10
    · by_cases h3 : 0 ≤ a3 ∧ a3 < 4
      · by_cases h4 : 0 ≤ a4 ∧ a4 < 4
        · exact hin h1 h2 h3 h4
        · have B1 : ∀ v, f_X4_within a1 25 v = some (1, v) := fun v => wi1 h1
          have A1 : ∀ w, f_X5_isLot a1 w = some (1, w) := fun w => isLot1 h1
          have B2 : ∀ v, f_X4_within a2 10 v = some (1, v) := fun v => wi1 h2
          have A2 : ∀ w, f_X5_isHeight a2 w = some (1, w) := fun w => isHeight1 h2
          have B3 : ∀ v, f_X4_within a3 4 v = some (1, v) := fun v => wi1 h3
          have A3 : ∀ w, f_X5_in a3.toInt64 0 3 w = some (1, w) := fun w => in1 (n := 4) (lo' := 0) (by decide) (by decide) h3
          have B4 : ∀ v, f_X4_within a4 4 v = some (0, v) := fun v => wi0 h4
          have A4 : ∀ w, f_X5_isOwner a4 w = some (0, w) := fun w => isOwner0 h4
          simp only [f_X4_window, f_X5_window, B1, A1, B2, A2, B3, A3, B4, A4, Option.bind_some, reduceIte, e10]
          rfl
      · by_cases h4 : 0 ≤ a4 ∧ a4 < 4
        · have B1 : ∀ v, f_X4_within a1 25 v = some (1, v) := fun v => wi1 h1
          have A1 : ∀ w, f_X5_isLot a1 w = some (1, w) := fun w => isLot1 h1
          have B2 : ∀ v, f_X4_within a2 10 v = some (1, v) := fun v => wi1 h2
          have A2 : ∀ w, f_X5_isHeight a2 w = some (1, w) := fun w => isHeight1 h2
          have B3 : ∀ v, f_X4_within a3 4 v = some (0, v) := fun v => wi0 h3
          have A3 : ∀ w, f_X5_in a3.toInt64 0 3 w = some (0, w) := fun w => in0 (n := 4) (lo' := 0) (by decide) (by decide) h3
          have B4 : ∀ v, f_X4_within a4 4 v = some (1, v) := fun v => wi1 h4
          have A4 : ∀ w, f_X5_isOwner a4 w = some (1, w) := fun w => isOwner1 h4
          simp only [f_X4_window, f_X5_window, B1, A1, B2, A2, B3, A3, B4, A4, Option.bind_some, reduceIte, e10]
          rfl
        · have B1 : ∀ v, f_X4_within a1 25 v = some (1, v) := fun v => wi1 h1
          have A1 : ∀ w, f_X5_isLot a1 w = some (1, w) := fun w => isLot1 h1
          have B2 : ∀ v, f_X4_within a2 10 v = some (1, v) := fun v => wi1 h2
          have A2 : ∀ w, f_X5_isHeight a2 w = some (1, w) := fun w => isHeight1 h2
          have B3 : ∀ v, f_X4_within a3 4 v = some (0, v) := fun v => wi0 h3
          have A3 : ∀ w, f_X5_in a3.toInt64 0 3 w = some (0, w) := fun w => in0 (n := 4) (lo' := 0) (by decide) (by decide) h3
          have B4 : ∀ v, f_X4_within a4 4 v = some (0, v) := fun v => wi0 h4
          have A4 : ∀ w, f_X5_isOwner a4 w = some (0, w) := fun w => isOwner0 h4
          simp only [f_X4_window, f_X5_window, B1, A1, B2, A2, B3, A3, B4, A4, Option.bind_some, reduceIte, e10]
          rfl
    · by_cases h3 : 0 ≤ a3 ∧ a3 < 4
      · by_cases h4 : 0 ≤ a4 ∧ a4 < 4
        · have B1 : ∀ v, f_X4_within a1 25 v = some (1, v) := fun v => wi1 h1
          have A1 : ∀ w, f_X5_isLot a1 w = some (1, w) := fun w => isLot1 h1
          have B2 : ∀ v, f_X4_within a2 10 v = some (0, v) := fun v => wi0 h2
          have A2 : ∀ w, f_X5_isHeight a2 w = some (0, w) := fun w => isHeight0 h2
          have B3 : ∀ v, f_X4_within a3 4 v = some (1, v) := fun v => wi1 h3
          have A3 : ∀ w, f_X5_in a3.toInt64 0 3 w = some (1, w) := fun w => in1 (n := 4) (lo' := 0) (by decide) (by decide) h3
          have B4 : ∀ v, f_X4_within a4 4 v = some (1, v) := fun v => wi1 h4
          have A4 : ∀ w, f_X5_isOwner a4 w = some (1, w) := fun w => isOwner1 h4
          simp only [f_X4_window, f_X5_window, B1, A1, B2, A2, B3, A3, B4, A4, Option.bind_some, reduceIte, e10]
          rfl
        · have B1 : ∀ v, f_X4_within a1 25 v = some (1, v) := fun v => wi1 h1
          have A1 : ∀ w, f_X5_isLot a1 w = some (1, w) := fun w => isLot1 h1
          have B2 : ∀ v, f_X4_within a2 10 v = some (0, v) := fun v => wi0 h2
          have A2 : ∀ w, f_X5_isHeight a2 w = some (0, w) := fun w => isHeight0 h2
          have B3 : ∀ v, f_X4_within a3 4 v = some (1, v) := fun v => wi1 h3
          have A3 : ∀ w, f_X5_in a3.toInt64 0 3 w = some (1, w) := fun w => in1 (n := 4) (lo' := 0) (by decide) (by decide) h3
          have B4 : ∀ v, f_X4_within a4 4 v = some (0, v) := fun v => wi0 h4
          have A4 : ∀ w, f_X5_isOwner a4 w = some (0, w) := fun w => isOwner0 h4
          simp only [f_X4_window, f_X5_window, B1, A1, B2, A2, B3, A3, B4, A4, Option.bind_some, reduceIte, e10]
          rfl
      · by_cases h4 : 0 ≤ a4 ∧ a4 < 4
        · have B1 : ∀ v, f_X4_within a1 25 v = some (1, v) := fun v => wi1 h1
          have A1 : ∀ w, f_X5_isLot a1 w = some (1, w) := fun w => isLot1 h1
          have B2 : ∀ v, f_X4_within a2 10 v = some (0, v) := fun v => wi0 h2
          have A2 : ∀ w, f_X5_isHeight a2 w = some (0, w) := fun w => isHeight0 h2
          have B3 : ∀ v, f_X4_within a3 4 v = some (0, v) := fun v => wi0 h3
          have A3 : ∀ w, f_X5_in a3.toInt64 0 3 w = some (0, w) := fun w => in0 (n := 4) (lo' := 0) (by decide) (by decide) h3
          have B4 : ∀ v, f_X4_within a4 4 v = some (1, v) := fun v => wi1 h4
          have A4 : ∀ w, f_X5_isOwner a4 w = some (1, w) := fun w => isOwner1 h4
          simp only [f_X4_window, f_X5_window, B1, A1, B2, A2, B3, A3, B4, A4, Option.bind_some, reduceIte, e10]
          rfl
        · have B1 : ∀ v, f_X4_within a1 25 v = some (1, v) := fun v => wi1 h1
          have A1 : ∀ w, f_X5_isLot a1 w = some (1, w) := fun w => isLot1 h1
          have B2 : ∀ v, f_X4_within a2 10 v = some (0, v) := fun v => wi0 h2
          have A2 : ∀ w, f_X5_isHeight a2 w = some (0, w) := fun w => isHeight0 h2
          have B3 : ∀ v, f_X4_within a3 4 v = some (0, v) := fun v => wi0 h3
          have A3 : ∀ w, f_X5_in a3.toInt64 0 3 w = some (0, w) := fun w => in0 (n := 4) (lo' := 0) (by decide) (by decide) h3
          have B4 : ∀ v, f_X4_within a4 4 v = some (0, v) := fun v => wi0 h4
          have A4 : ∀ w, f_X5_isOwner a4 w = some (0, w) := fun w => isOwner0 h4
          simp only [f_X4_window, f_X5_window, B1, A1, B2, A2, B3, A3, B4, A4, Option.bind_some, reduceIte, e10]
          rfl
  · by_cases h2 : 0 ≤ a2 ∧ a2 < 10
    · by_cases h3 : 0 ≤ a3 ∧ a3 < 4
      · by_cases h4 : 0 ≤ a4 ∧ a4 < 4
        · have B1 : ∀ v, f_X4_within a1 25 v = some (0, v) := fun v => wi0 h1
          have A1 : ∀ w, f_X5_isLot a1 w = some (0, w) := fun w => isLot0 h1
          have B2 : ∀ v, f_X4_within a2 10 v = some (1, v) := fun v => wi1 h2
          have A2 : ∀ w, f_X5_isHeight a2 w = some (1, w) := fun w => isHeight1 h2
          have B3 : ∀ v, f_X4_within a3 4 v = some (1, v) := fun v => wi1 h3
          have A3 : ∀ w, f_X5_in a3.toInt64 0 3 w = some (1, w) := fun w => in1 (n := 4) (lo' := 0) (by decide) (by decide) h3
          have B4 : ∀ v, f_X4_within a4 4 v = some (1, v) := fun v => wi1 h4
          have A4 : ∀ w, f_X5_isOwner a4 w = some (1, w) := fun w => isOwner1 h4
          simp only [f_X4_window, f_X5_window, B1, A1, B2, A2, B3, A3, B4, A4, Option.bind_some, reduceIte, e10]
          rfl
        · have B1 : ∀ v, f_X4_within a1 25 v = some (0, v) := fun v => wi0 h1
          have A1 : ∀ w, f_X5_isLot a1 w = some (0, w) := fun w => isLot0 h1
          have B2 : ∀ v, f_X4_within a2 10 v = some (1, v) := fun v => wi1 h2
          have A2 : ∀ w, f_X5_isHeight a2 w = some (1, w) := fun w => isHeight1 h2
          have B3 : ∀ v, f_X4_within a3 4 v = some (1, v) := fun v => wi1 h3
          have A3 : ∀ w, f_X5_in a3.toInt64 0 3 w = some (1, w) := fun w => in1 (n := 4) (lo' := 0) (by decide) (by decide) h3
          have B4 : ∀ v, f_X4_within a4 4 v = some (0, v) := fun v => wi0 h4
          have A4 : ∀ w, f_X5_isOwner a4 w = some (0, w) := fun w => isOwner0 h4
          simp only [f_X4_window, f_X5_window, B1, A1, B2, A2, B3, A3, B4, A4, Option.bind_some, reduceIte, e10]
          rfl
      · by_cases h4 : 0 ≤ a4 ∧ a4 < 4
        · have B1 : ∀ v, f_X4_within a1 25 v = some (0, v) := fun v => wi0 h1
          have A1 : ∀ w, f_X5_isLot a1 w = some (0, w) := fun w => isLot0 h1
          have B2 : ∀ v, f_X4_within a2 10 v = some (1, v) := fun v => wi1 h2
          have A2 : ∀ w, f_X5_isHeight a2 w = some (1, w) := fun w => isHeight1 h2
          have B3 : ∀ v, f_X4_within a3 4 v = some (0, v) := fun v => wi0 h3
          have A3 : ∀ w, f_X5_in a3.toInt64 0 3 w = some (0, w) := fun w => in0 (n := 4) (lo' := 0) (by decide) (by decide) h3
          have B4 : ∀ v, f_X4_within a4 4 v = some (1, v) := fun v => wi1 h4
          have A4 : ∀ w, f_X5_isOwner a4 w = some (1, w) := fun w => isOwner1 h4
          simp only [f_X4_window, f_X5_window, B1, A1, B2, A2, B3, A3, B4, A4, Option.bind_some, reduceIte, e10]
          rfl
        · have B1 : ∀ v, f_X4_within a1 25 v = some (0, v) := fun v => wi0 h1
          have A1 : ∀ w, f_X5_isLot a1 w = some (0, w) := fun w => isLot0 h1
          have B2 : ∀ v, f_X4_within a2 10 v = some (1, v) := fun v => wi1 h2
          have A2 : ∀ w, f_X5_isHeight a2 w = some (1, w) := fun w => isHeight1 h2
          have B3 : ∀ v, f_X4_within a3 4 v = some (0, v) := fun v => wi0 h3
          have A3 : ∀ w, f_X5_in a3.toInt64 0 3 w = some (0, w) := fun w => in0 (n := 4) (lo' := 0) (by decide) (by decide) h3
          have B4 : ∀ v, f_X4_within a4 4 v = some (0, v) := fun v => wi0 h4
          have A4 : ∀ w, f_X5_isOwner a4 w = some (0, w) := fun w => isOwner0 h4
          simp only [f_X4_window, f_X5_window, B1, A1, B2, A2, B3, A3, B4, A4, Option.bind_some, reduceIte, e10]
          rfl
    · by_cases h3 : 0 ≤ a3 ∧ a3 < 4
      · by_cases h4 : 0 ≤ a4 ∧ a4 < 4
        · have B1 : ∀ v, f_X4_within a1 25 v = some (0, v) := fun v => wi0 h1
          have A1 : ∀ w, f_X5_isLot a1 w = some (0, w) := fun w => isLot0 h1
          have B2 : ∀ v, f_X4_within a2 10 v = some (0, v) := fun v => wi0 h2
          have A2 : ∀ w, f_X5_isHeight a2 w = some (0, w) := fun w => isHeight0 h2
          have B3 : ∀ v, f_X4_within a3 4 v = some (1, v) := fun v => wi1 h3
          have A3 : ∀ w, f_X5_in a3.toInt64 0 3 w = some (1, w) := fun w => in1 (n := 4) (lo' := 0) (by decide) (by decide) h3
          have B4 : ∀ v, f_X4_within a4 4 v = some (1, v) := fun v => wi1 h4
          have A4 : ∀ w, f_X5_isOwner a4 w = some (1, w) := fun w => isOwner1 h4
          simp only [f_X4_window, f_X5_window, B1, A1, B2, A2, B3, A3, B4, A4, Option.bind_some, reduceIte, e10]
          rfl
        · have B1 : ∀ v, f_X4_within a1 25 v = some (0, v) := fun v => wi0 h1
          have A1 : ∀ w, f_X5_isLot a1 w = some (0, w) := fun w => isLot0 h1
          have B2 : ∀ v, f_X4_within a2 10 v = some (0, v) := fun v => wi0 h2
          have A2 : ∀ w, f_X5_isHeight a2 w = some (0, w) := fun w => isHeight0 h2
          have B3 : ∀ v, f_X4_within a3 4 v = some (1, v) := fun v => wi1 h3
          have A3 : ∀ w, f_X5_in a3.toInt64 0 3 w = some (1, w) := fun w => in1 (n := 4) (lo' := 0) (by decide) (by decide) h3
          have B4 : ∀ v, f_X4_within a4 4 v = some (0, v) := fun v => wi0 h4
          have A4 : ∀ w, f_X5_isOwner a4 w = some (0, w) := fun w => isOwner0 h4
          simp only [f_X4_window, f_X5_window, B1, A1, B2, A2, B3, A3, B4, A4, Option.bind_some, reduceIte, e10]
          rfl
      · by_cases h4 : 0 ≤ a4 ∧ a4 < 4
        · have B1 : ∀ v, f_X4_within a1 25 v = some (0, v) := fun v => wi0 h1
          have A1 : ∀ w, f_X5_isLot a1 w = some (0, w) := fun w => isLot0 h1
          have B2 : ∀ v, f_X4_within a2 10 v = some (0, v) := fun v => wi0 h2
          have A2 : ∀ w, f_X5_isHeight a2 w = some (0, w) := fun w => isHeight0 h2
          have B3 : ∀ v, f_X4_within a3 4 v = some (0, v) := fun v => wi0 h3
          have A3 : ∀ w, f_X5_in a3.toInt64 0 3 w = some (0, w) := fun w => in0 (n := 4) (lo' := 0) (by decide) (by decide) h3
          have B4 : ∀ v, f_X4_within a4 4 v = some (1, v) := fun v => wi1 h4
          have A4 : ∀ w, f_X5_isOwner a4 w = some (1, w) := fun w => isOwner1 h4
          simp only [f_X4_window, f_X5_window, B1, A1, B2, A2, B3, A3, B4, A4, Option.bind_some, reduceIte, e10]
          rfl
        · have B1 : ∀ v, f_X4_within a1 25 v = some (0, v) := fun v => wi0 h1
          have A1 : ∀ w, f_X5_isLot a1 w = some (0, w) := fun w => isLot0 h1
          have B2 : ∀ v, f_X4_within a2 10 v = some (0, v) := fun v => wi0 h2
          have A2 : ∀ w, f_X5_isHeight a2 w = some (0, w) := fun w => isHeight0 h2
          have B3 : ∀ v, f_X4_within a3 4 v = some (0, v) := fun v => wi0 h3
          have A3 : ∀ w, f_X5_in a3.toInt64 0 3 w = some (0, w) := fun w => in0 (n := 4) (lo' := 0) (by decide) (by decide) h3
          have B4 : ∀ v, f_X4_within a4 4 v = some (0, v) := fun v => wi0 h4
          have A4 : ∀ w, f_X5_isOwner a4 w = some (0, w) := fun w => isOwner0 h4
          simp only [f_X4_window, f_X5_window, B1, A1, B2, A2, B3, A3, B4, A4, Option.bind_some, reduceIte, e10]
          rfl
theorem q_ahead (a1 a2 : Int32) (hin : (0 ≤ a1 ∧ a1 < 121) → (0 ≤ a2 ∧ a2 < 7) → chk (f_X4_ahead a1 a2 v0_X4) (f_X5_ahead a1 a2 v0_X5) = true) : chk (f_X4_ahead a1 a2 v0_X4) (f_X5_ahead a1 a2 v0_X5) = true := by
  by_cases h1 : 0 ≤ a1 ∧ a1 < 121
  · by_cases h2 : 0 ≤ a2 ∧ a2 < 7
    · exact hin h1 h2
    · have B1 : ∀ v, f_X4_within a1 121 v = some (1, v) := fun v => wi1 h1
      have A1 : ∀ w, f_X5_in a1.toInt64 0 120 w = some (1, w) := fun w => in1 (n := 121) (lo' := 0) (by decide) (by decide) h1
      have B2 : ∀ v, f_X4_within a2 7 v = some (0, v) := fun v => wi0 h2
      have A2 : ∀ w, f_X5_in a2.toInt64 0 6 w = some (0, w) := fun w => in0 (n := 7) (lo' := 0) (by decide) (by decide) h2
      simp only [f_X4_ahead, f_X5_ahead, B1, A1, B2, A2, Option.bind_some, reduceIte, e10]
      rfl
  · by_cases h2 : 0 ≤ a2 ∧ a2 < 7
    · have B1 : ∀ v, f_X4_within a1 121 v = some (0, v) := fun v => wi0 h1
      have A1 : ∀ w, f_X5_in a1.toInt64 0 120 w = some (0, w) := fun w => in0 (n := 121) (lo' := 0) (by decide) (by decide) h1
      have B2 : ∀ v, f_X4_within a2 7 v = some (1, v) := fun v => wi1 h2
      have A2 : ∀ w, f_X5_in a2.toInt64 0 6 w = some (1, w) := fun w => in1 (n := 7) (lo' := 0) (by decide) (by decide) h2
      simp only [f_X4_ahead, f_X5_ahead, B1, A1, B2, A2, Option.bind_some, reduceIte, e10]
      rfl
    · have B1 : ∀ v, f_X4_within a1 121 v = some (0, v) := fun v => wi0 h1
      have A1 : ∀ w, f_X5_in a1.toInt64 0 120 w = some (0, w) := fun w => in0 (n := 121) (lo' := 0) (by decide) (by decide) h1
      have B2 : ∀ v, f_X4_within a2 7 v = some (0, v) := fun v => wi0 h2
      have A2 : ∀ w, f_X5_in a2.toInt64 0 6 w = some (0, w) := fun w => in0 (n := 7) (lo' := 0) (by decide) (by decide) h2
      simp only [f_X4_ahead, f_X5_ahead, B1, A1, B2, A2, Option.bind_some, reduceIte, e10]
      rfl
set_option maxRecDepth 100000 in
theorem q_broken : chk (f_X4_broken v0_X4) (f_X5_broken v0_X5) = true := by decide +kernel
set_option maxRecDepth 100000 in
theorem q_wipe : chk (f_X4_wipe v0_X4) (f_X5_wipe v0_X5) = true := by decide +kernel
set_option maxRecDepth 100000 in
theorem q_text : chk (f_X4_text v0_X4) (f_X5_text v0_X5) = true := by decide +kernel
set_option maxRecDepth 100000 in
theorem q_image : chk (f_X4_image v0_X4) (f_X5_image v0_X5) = true := by decide +kernel
set_option maxRecDepth 100000 in
theorem q_undo : chk (f_X4_undo v0_X4) (f_X5_undo v0_X5) = true := by decide +kernel
set_option maxRecDepth 100000 in
theorem q_tear : chk (f_X4_tear v0_X4) (f_X5_tear v0_X5) = true := by decide +kernel
theorem q_seed (a1 : Int32) : chk (f_X4_seed a1 v0_X4) (f_X5_seed a1 v0_X5) = true := rfl
