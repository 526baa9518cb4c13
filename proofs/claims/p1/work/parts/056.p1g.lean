theorem u_0 (a1 a2 a3 a4 a5 : Int32) : ∃ v' w', g_0 a1 a2 a3 a4 a5 v0_X4 v0_X5 = some (v', w') := by
  obtain ⟨r, v', w', e1, e2⟩ := chk_spec (r_build a1 a2 a3 a4)
  unfold g_0
  rw [e1, Option.bind_some]
  try dsimp only
  rw [e2, Option.bind_some]
  try dsimp only
  rw [if_pos rfl]
  exact ⟨v', w', rfl⟩
theorem u_1 (a1 a2 a3 a4 a5 : Int32) : ∃ v' w', g_1 a1 a2 a3 a4 a5 v0_X4 v0_X5 = some (v', w') := by
  obtain ⟨r, v', w', e1, e2⟩ := chk_spec (q_clear a1)
  unfold g_1
  rw [e1, Option.bind_some]
  try dsimp only
  rw [e2, Option.bind_some]
  try dsimp only
  rw [if_pos rfl]
  exact ⟨v', w', rfl⟩
theorem u_2 (a1 a2 a3 a4 a5 : Int32) : ∃ v' w', g_2 a1 a2 a3 a4 a5 v0_X4 v0_X5 = some (v', w') := by
  obtain ⟨r, v', w', e1, e2⟩ := chk_spec (q_of a1 a2)
  unfold g_2
  rw [e1, Option.bind_some]
  try dsimp only
  rw [e2, Option.bind_some]
  try dsimp only
  rw [if_pos rfl]
  exact ⟨v', w', rfl⟩
theorem u_3 (a1 a2 a3 a4 a5 : Int32) : ∃ v' w', g_3 a1 a2 a3 a4 a5 v0_X4 v0_X5 = some (v', w') := by
  obtain ⟨r, v', w', e1, e2⟩ := chk_spec (r_change a1 a2 a3)
  unfold g_3
  rw [e1, Option.bind_some]
  try dsimp only
  rw [e2, Option.bind_some]
  try dsimp only
  rw [if_pos rfl]
  exact ⟨v', w', rfl⟩
theorem u_4 (a1 a2 a3 a4 a5 : Int32) : ∃ v' w', g_4 a1 a2 a3 a4 a5 v0_X4 v0_X5 = some (v', w') := by
  obtain ⟨r, v', w', e1, e2⟩ := chk_spec (q_price a1 a2)
  unfold g_4
  rw [e1, Option.bind_some]
  try dsimp only
  rw [e2, Option.bind_some]
  try dsimp only
  rw [if_pos rfl]
  exact ⟨v', w', rfl⟩
theorem u_5 (a1 a2 a3 a4 a5 : Int32) : ∃ v' w', g_5 a1 a2 a3 a4 a5 v0_X4 v0_X5 = some (v', w') := by
  obtain ⟨r, v', w', e1, e2⟩ := chk_spec (r_window a1 a2 a3 a4)
  unfold g_5
  rw [e1, Option.bind_some]
  try dsimp only
  rw [e2, Option.bind_some]
  try dsimp only
  rw [if_pos rfl]
  exact ⟨v', w', rfl⟩
theorem u_6 (a1 a2 a3 a4 a5 : Int32) : ∃ v' w', g_6 a1 a2 a3 a4 a5 v0_X4 v0_X5 = some (v', w') := by
  obtain ⟨r, v', w', e1, e2⟩ := chk_spec (q_windowOf a1 a2)
  unfold g_6
  rw [e1, Option.bind_some]
  try dsimp only
  rw [e2, Option.bind_some]
  try dsimp only
  rw [if_pos rfl]
  exact ⟨v', w', rfl⟩
theorem u_7 (a1 a2 a3 a4 a5 : Int32) : ∃ v' w', g_7 a1 a2 a3 a4 a5 v0_X4 v0_X5 = some (v', w') := by
  obtain ⟨r, v', w', e1, e2⟩ := chk_spec (q_turn a1 a2 a3)
  unfold g_7
  rw [e1, Option.bind_some]
  try dsimp only
  rw [e2, Option.bind_some]
  try dsimp only
  rw [if_pos rfl]
  exact ⟨v', w', rfl⟩
theorem u_8 (a1 a2 a3 a4 a5 : Int32) : ∃ v' w', g_8 a1 a2 a3 a4 a5 v0_X4 v0_X5 = some (v', w') := by
  obtain ⟨r, v', w', e1, e2⟩ := chk_spec (q_contract a1 a2 a3)
  unfold g_8
  rw [e1, Option.bind_some]
  try dsimp only
  rw [e2, Option.bind_some]
  try dsimp only
  rw [if_pos rfl]
  exact ⟨v', w', rfl⟩
theorem u_9 (a1 a2 a3 a4 a5 : Int32) : ∃ v' w', g_9 a1 a2 a3 a4 a5 v0_X4 v0_X5 = some (v', w') := by
  obtain ⟨r, v', w', e1, e2⟩ := chk_spec (q_purse a1)
  unfold g_9
  rw [e1, Option.bind_some]
  try dsimp only
  rw [e2, Option.bind_some]
  try dsimp only
  rw [if_pos rfl]
  exact ⟨v', w', rfl⟩
theorem u_10 (a1 a2 a3 a4 a5 : Int32) : ∃ v' w', g_10 a1 a2 a3 a4 a5 v0_X4 v0_X5 = some (v', w') := by
  obtain ⟨r, v', w', e1, e2⟩ := chk_spec (q_sees a1 a2)
  unfold g_10
  rw [e1, Option.bind_some]
  try dsimp only
  rw [e2, Option.bind_some]
  try dsimp only
  rw [if_pos rfl]
  exact ⟨v', w', rfl⟩
theorem u_11 (a1 a2 a3 a4 a5 : Int32) : ∃ v' w', g_11 a1 a2 a3 a4 a5 v0_X4 v0_X5 = some (v', w') := by
  obtain ⟨r, v', w', e1, e2⟩ := chk_spec (q_view a1)
  unfold g_11
  rw [e1, Option.bind_some]
  try dsimp only
  rw [e2, Option.bind_some]
  try dsimp only
  rw [if_pos rfl]
  exact ⟨v', w', rfl⟩
theorem u_12 (a1 a2 a3 a4 a5 : Int32) : ∃ v' w', g_12 a1 a2 a3 a4 a5 v0_X4 v0_X5 = some (v', w') := by
  obtain ⟨r, v', w', e1, e2⟩ := chk_spec (q_share a1 a2)
  unfold g_12
  rw [e1, Option.bind_some]
  try dsimp only
  rw [e2, Option.bind_some]
  try dsimp only
  rw [if_pos rfl]
  exact ⟨v', w', rfl⟩
theorem u_13 (a1 a2 a3 a4 a5 : Int32) : ∃ v' w', g_13 a1 a2 a3 a4 a5 v0_X4 v0_X5 = some (v', w') := by
  obtain ⟨r, v', w', e1, e2⟩ := chk_spec (q_lots a1)
  unfold g_13
  rw [e1, Option.bind_some]
  try dsimp only
  rw [e2, Option.bind_some]
  try dsimp only
  rw [if_pos rfl]
  exact ⟨v', w', rfl⟩
theorem u_14 (a1 a2 a3 a4 a5 : Int32) : ∃ v' w', g_14 a1 a2 a3 a4 a5 v0_X4 v0_X5 = some (v', w') := by
  obtain ⟨r, v', w', e1, e2⟩ := chk_spec (q_watched a1)
  unfold g_14
  rw [e1, Option.bind_some]
  try dsimp only
  rw [e2, Option.bind_some]
  try dsimp only
  rw [if_pos rfl]
  exact ⟨v', w', rfl⟩
theorem u_15 (a1 a2 a3 a4 a5 : Int32) : ∃ v' w', g_15 a1 a2 a3 a4 a5 v0_X4 v0_X5 = some (v', w') := by
  obtain ⟨r, v', w', e1, e2⟩ := chk_spec (q_rent a1)
  unfold g_15
  rw [e1, Option.bind_some]
  try dsimp only
  rw [e2, Option.bind_some]
  try dsimp only
  rw [if_pos rfl]
  exact ⟨v', w', rfl⟩
theorem u_16 (a1 a2 a3 a4 a5 : Int32) : ∃ v' w', g_16 a1 a2 a3 a4 a5 v0_X4 v0_X5 = some (v', w') := by
  obtain ⟨r, v', w', e1, e2⟩ := chk_spec (q_gain a1)
  unfold g_16
  rw [e1, Option.bind_some]
  try dsimp only
  rw [e2, Option.bind_some]
  try dsimp only
  rw [if_pos rfl]
  exact ⟨v', w', rfl⟩
theorem u_17 (a1 a2 a3 a4 a5 : Int32) : ∃ v' w', g_17 a1 a2 a3 a4 a5 v0_X4 v0_X5 = some (v', w') := by
  obtain ⟨r, v', w', e1, e2⟩ := chk_spec (q_broken )
  unfold g_17
  rw [e1, Option.bind_some]
  try dsimp only
  rw [e2, Option.bind_some]
  try dsimp only
  rw [if_pos rfl]
  exact ⟨v', w', rfl⟩
theorem u_18 (a1 a2 a3 a4 a5 : Int32) : ∃ v' w', g_18 a1 a2 a3 a4 a5 v0_X4 v0_X5 = some (v', w') := by
  obtain ⟨r, v', w', e1, e2⟩ := chk_spec (r_months a1)
  unfold g_18
  rw [e1, Option.bind_some]
  try dsimp only
  rw [e2, Option.bind_some]
  try dsimp only
  rw [if_pos rfl]
  exact ⟨v', w', rfl⟩
theorem u_19 (a1 a2 a3 a4 a5 : Int32) : ∃ v' w', g_19 a1 a2 a3 a4 a5 v0_X4 v0_X5 = some (v', w') := by
  obtain ⟨r, v', w', e1, e2⟩ := chk_spec (r_ahead a1 a2)
  unfold g_19
  rw [e1, Option.bind_some]
  try dsimp only
  rw [e2, Option.bind_some]
  try dsimp only
  rw [if_pos rfl]
  exact ⟨v', w', rfl⟩
theorem u_20 (a1 a2 a3 a4 a5 : Int32) : ∃ v' w', g_20 a1 a2 a3 a4 a5 v0_X4 v0_X5 = some (v', w') := by
  obtain ⟨r, v', w', e1, e2⟩ := chk_spec (q_breach a1)
  unfold g_20
  rw [e1, Option.bind_some]
  try dsimp only
  rw [e2, Option.bind_some]
  try dsimp only
  rw [if_pos rfl]
  exact ⟨v', w', rfl⟩
theorem u_21 (a1 a2 a3 a4 a5 : Int32) : ∃ v' w', g_21 a1 a2 a3 a4 a5 v0_X4 v0_X5 = some (v', w') := by
  obtain ⟨r, v', w', e1, e2⟩ := chk_spec (q_blame a1)
  unfold g_21
  rw [e1, Option.bind_some]
  try dsimp only
  rw [e2, Option.bind_some]
  try dsimp only
  rw [if_pos rfl]
  exact ⟨v', w', rfl⟩
theorem u_22 (a1 a2 a3 a4 a5 : Int32) : ∃ v' w', g_22 a1 a2 a3 a4 a5 v0_X4 v0_X5 = some (v', w') := by
  obtain ⟨r, v', w', e1, e2⟩ := chk_spec (q_paint a1)
  unfold g_22
  rw [e1, Option.bind_some]
  try dsimp only
  rw [e2, Option.bind_some]
  try dsimp only
  rw [if_pos rfl]
  exact ⟨v', w', rfl⟩
theorem u_23 (a1 a2 a3 a4 a5 : Int32) : ∃ v' w', g_23 a1 a2 a3 a4 a5 v0_X4 v0_X5 = some (v', w') := by
  obtain ⟨r, v', w', e1, e2⟩ := chk_spec (q_height a1)
  unfold g_23
  rw [e1, Option.bind_some]
  try dsimp only
  rw [e2, Option.bind_some]
  try dsimp only
  rw [if_pos rfl]
  exact ⟨v', w', rfl⟩
theorem u_24 (a1 a2 a3 a4 a5 : Int32) : ∃ v' w', g_24 a1 a2 a3 a4 a5 v0_X4 v0_X5 = some (v', w') := by
  obtain ⟨r, v', w', e1, e2⟩ := chk_spec (q_storey a1 a2)
  unfold g_24
  rw [e1, Option.bind_some]
  try dsimp only
  rw [e2, Option.bind_some]
  try dsimp only
  rw [if_pos rfl]
  exact ⟨v', w', rfl⟩
theorem u_25 (a1 a2 a3 a4 a5 : Int32) : ∃ v' w', g_25 a1 a2 a3 a4 a5 v0_X4 v0_X5 = some (v', w') := by
  obtain ⟨r, v', w', e1, e2⟩ := chk_spec (q_allowed a1)
  unfold g_25
  rw [e1, Option.bind_some]
  try dsimp only
  rw [e2, Option.bind_some]
  try dsimp only
  rw [if_pos rfl]
  exact ⟨v', w', rfl⟩
theorem u_26 (a1 a2 a3 a4 a5 : Int32) : ∃ v' w', g_26 a1 a2 a3 a4 a5 v0_X4 v0_X5 = some (v', w') := by
  obtain ⟨r, v', w', e1, e2⟩ := chk_spec (q_opens a1)
  unfold g_26
  rw [e1, Option.bind_some]
  try dsimp only
  rw [e2, Option.bind_some]
  try dsimp only
  rw [if_pos rfl]
  exact ⟨v', w', rfl⟩
theorem u_27 (a1 a2 a3 a4 a5 : Int32) : ∃ v' w', g_27 a1 a2 a3 a4 a5 v0_X4 v0_X5 = some (v', w') := by
  obtain ⟨r, v', w', e1, e2⟩ := chk_spec (q_level a1)
  unfold g_27
  rw [e1, Option.bind_some]
  try dsimp only
  rw [e2, Option.bind_some]
  try dsimp only
  rw [if_pos rfl]
  exact ⟨v', w', rfl⟩
theorem u_28 (a1 a2 a3 a4 a5 : Int32) : ∃ v' w', g_28 a1 a2 a3 a4 a5 v0_X4 v0_X5 = some (v', w') := by
  obtain ⟨r, v', w', e1, e2⟩ := chk_spec (q_cheapest a1)
  unfold g_28
  rw [e1, Option.bind_some]
  try dsimp only
  rw [e2, Option.bind_some]
  try dsimp only
  rw [if_pos rfl]
  exact ⟨v', w', rfl⟩
theorem u_29 (a1 a2 a3 a4 a5 : Int32) : ∃ v' w', g_29 a1 a2 a3 a4 a5 v0_X4 v0_X5 = some (v', w') := by
  obtain ⟨r, v', w', e1, e2⟩ := chk_spec (q_site a1 a2 a3)
  unfold g_29
  rw [e1, Option.bind_some]
  try dsimp only
  rw [e2, Option.bind_some]
  try dsimp only
  rw [if_pos rfl]
  exact ⟨v', w', rfl⟩
theorem u_30 (a1 a2 a3 a4 a5 : Int32) : ∃ v' w', g_30 a1 a2 a3 a4 a5 v0_X4 v0_X5 = some (v', w') := by
  obtain ⟨r, v', w', e1, e2⟩ := chk_spec (q_worst a1)
  unfold g_30
  rw [e1, Option.bind_some]
  try dsimp only
  rw [e2, Option.bind_some]
  try dsimp only
  rw [if_pos rfl]
  exact ⟨v', w', rfl⟩
theorem u_31 (a1 a2 a3 a4 a5 : Int32) : ∃ v' w', g_31 a1 a2 a3 a4 a5 v0_X4 v0_X5 = some (v', w') := by
  obtain ⟨r, v', w', e1, e2⟩ := chk_spec (q_trade a1 a2)
  unfold g_31
  rw [e1, Option.bind_some]
  try dsimp only
  rw [e2, Option.bind_some]
  try dsimp only
  rw [if_pos rfl]
  exact ⟨v', w', rfl⟩
theorem u_32 (a1 a2 a3 a4 a5 : Int32) : ∃ v' w', g_32 a1 a2 a3 a4 a5 v0_X4 v0_X5 = some (v', w') := by
  obtain ⟨r, v', w', e1, e2⟩ := chk_spec (q_swap a1 a2)
  unfold g_32
  rw [e1, Option.bind_some]
  try dsimp only
  rw [e2, Option.bind_some]
  try dsimp only
  rw [if_pos rfl]
  exact ⟨v', w', rfl⟩
theorem u_33 (a1 a2 a3 a4 a5 : Int32) : ∃ v' w', g_33 a1 a2 a3 a4 a5 v0_X4 v0_X5 = some (v', w') := by
  obtain ⟨r, v', w', e1, e2⟩ := chk_spec (r_spill a1)
  unfold g_33
  rw [e1, Option.bind_some]
  try dsimp only
  rw [e2, Option.bind_some]
  try dsimp only
  rw [if_pos rfl]
  exact ⟨v', w', rfl⟩
theorem u_34 (a1 a2 a3 a4 a5 : Int32) : ∃ v' w', g_34 a1 a2 a3 a4 a5 v0_X4 v0_X5 = some (v', w') := by
  obtain ⟨r, v', w', e1, e2⟩ := chk_spec (q_seed a1)
  unfold g_34
  rw [e1, Option.bind_some]
  try dsimp only
  rw [e2, Option.bind_some]
  try dsimp only
  rw [if_pos rfl]
  exact ⟨v', w', rfl⟩
theorem u_35 (a1 a2 a3 a4 a5 : Int32) : ∃ v' w', g_35 a1 a2 a3 a4 a5 v0_X4 v0_X5 = some (v', w') := by
  obtain ⟨r, v', w', e1, e2⟩ := chk_spec (r_feed a1 a2)
  unfold g_35
  rw [e1, Option.bind_some]
  try dsimp only
  rw [e2, Option.bind_some]
  try dsimp only
  rw [if_pos rfl]
  exact ⟨v', w', rfl⟩
theorem u_36 (a1 a2 a3 a4 a5 : Int32) : ∃ v' w', g_36 a1 a2 a3 a4 a5 v0_X4 v0_X5 = some (v', w') := by
  obtain ⟨r, v', w', e1, e2⟩ := chk_spec (q_wipe )
  unfold g_36
  rw [e1, Option.bind_some]
  try dsimp only
  rw [e2, Option.bind_some]
  try dsimp only
  rw [if_pos rfl]
  exact ⟨v', w', rfl⟩
theorem u_37 (a1 a2 a3 a4 a5 : Int32) : ∃ v' w', g_37 a1 a2 a3 a4 a5 v0_X4 v0_X5 = some (v', w') := by
  obtain ⟨r, v', w', e1, e2⟩ := chk_spec (q_text )
  unfold g_37
  rw [e1, Option.bind_some]
  try dsimp only
  rw [e2, Option.bind_some]
  try dsimp only
  rw [if_pos rfl]
  exact ⟨v', w', rfl⟩
theorem u_38 (a1 a2 a3 a4 a5 : Int32) : ∃ v' w', g_38 a1 a2 a3 a4 a5 v0_X4 v0_X5 = some (v', w') := by
  obtain ⟨r, v', w', e1, e2⟩ := chk_spec (r_hold a1 a2)
  unfold g_38
  rw [e1, Option.bind_some]
  try dsimp only
  rw [e2, Option.bind_some]
  try dsimp only
  rw [if_pos rfl]
  exact ⟨v', w', rfl⟩
theorem u_39 (a1 a2 a3 a4 a5 : Int32) : ∃ v' w', g_39 a1 a2 a3 a4 a5 v0_X4 v0_X5 = some (v', w') := by
  obtain ⟨r, v', w', e1, e2⟩ := chk_spec (q_as a1 a2)
  unfold g_39
  rw [e1, Option.bind_some]
  try dsimp only
  rw [e2, Option.bind_some]
  try dsimp only
  rw [if_pos rfl]
  exact ⟨v', w', rfl⟩
theorem u_40 (a1 a2 a3 a4 a5 : Int32) : ∃ v' w', g_40 a1 a2 a3 a4 a5 v0_X4 v0_X5 = some (v', w') := by
  obtain ⟨r, v', w', e1, e2⟩ := chk_spec (r_sheet a1 a2 a3)
  unfold g_40
  rw [e1, Option.bind_some]
  try dsimp only
  rw [e2, Option.bind_some]
  try dsimp only
  rw [if_pos rfl]
  exact ⟨v', w', rfl⟩
theorem u_41 (a1 a2 a3 a4 a5 : Int32) : ∃ v' w', g_41 a1 a2 a3 a4 a5 v0_X4 v0_X5 = some (v', w') := by
  obtain ⟨r, v', w', e1, e2⟩ := chk_spec (r_write a1 a2 a3)
  unfold g_41
  rw [e1, Option.bind_some]
  try dsimp only
  rw [e2, Option.bind_some]
  try dsimp only
  rw [if_pos rfl]
  exact ⟨v', w', rfl⟩
theorem u_42 (a1 a2 a3 a4 a5 : Int32) : ∃ v' w', g_42 a1 a2 a3 a4 a5 v0_X4 v0_X5 = some (v', w') := by
  obtain ⟨r, v', w', e1, e2⟩ := chk_spec (r_copy a1 a2 a3 a4 a5)
  unfold g_42
  rw [e1, Option.bind_some]
  try dsimp only
  rw [e2, Option.bind_some]
  try dsimp only
  rw [if_pos rfl]
  exact ⟨v', w', rfl⟩
theorem u_43 (a1 a2 a3 a4 a5 : Int32) : ∃ v' w', g_43 a1 a2 a3 a4 a5 v0_X4 v0_X5 = some (v', w') := by
  obtain ⟨r, v', w', e1, e2⟩ := chk_spec (r_load a1 a2)
  unfold g_43
  rw [e1, Option.bind_some]
  try dsimp only
  rw [e2, Option.bind_some]
  try dsimp only
  rw [if_pos rfl]
  exact ⟨v', w', rfl⟩
theorem u_44 (a1 a2 a3 a4 a5 : Int32) : ∃ v' w', g_44 a1 a2 a3 a4 a5 v0_X4 v0_X5 = some (v', w') := by
  obtain ⟨r, v', w', e1, e2⟩ := chk_spec (r_judge a1 a2)
  unfold g_44
  rw [e1, Option.bind_some]
  try dsimp only
  rw [e2, Option.bind_some]
  try dsimp only
  rw [if_pos rfl]
  exact ⟨v', w', rfl⟩
theorem u_45 (a1 a2 a3 a4 a5 : Int32) : ∃ v' w', g_45 a1 a2 a3 a4 a5 v0_X4 v0_X5 = some (v', w') := by
  obtain ⟨r, v', w', e1, e2⟩ := chk_spec (q_image )
  unfold g_45
  rw [e1, Option.bind_some]
  try dsimp only
  rw [e2, Option.bind_some]
  try dsimp only
  rw [if_pos rfl]
  exact ⟨v', w', rfl⟩
theorem u_46 (a1 a2 a3 a4 a5 : Int32) : ∃ v' w', g_46 a1 a2 a3 a4 a5 v0_X4 v0_X5 = some (v', w') := by
  obtain ⟨r, v', w', e1, e2⟩ := chk_spec (q_undo )
  unfold g_46
  rw [e1, Option.bind_some]
  try dsimp only
  rw [e2, Option.bind_some]
  try dsimp only
  rw [if_pos rfl]
  exact ⟨v', w', rfl⟩
theorem u_47 (a1 a2 a3 a4 a5 : Int32) : ∃ v' w', g_47 a1 a2 a3 a4 a5 v0_X4 v0_X5 = some (v', w') := by
  obtain ⟨r, v', w', e1, e2⟩ := chk_spec (q_tear )
  unfold g_47
  rw [e1, Option.bind_some]
  try dsimp only
  rw [e2, Option.bind_some]
  try dsimp only
  rw [if_pos rfl]
  exact ⟨v', w', rfl⟩
theorem u_48 (a1 a2 a3 a4 a5 : Int32) : ∃ v' w', g_48 a1 a2 a3 a4 a5 v0_X4 v0_X5 = some (v', w') := by
  obtain ⟨r, v', w', e1, e2⟩ := chk_spec (r_count a1)
  unfold g_48
  rw [e1, Option.bind_some]
  try dsimp only
  rw [e2, Option.bind_some]
  try dsimp only
  rw [if_pos rfl]
  exact ⟨v', w', rfl⟩
theorem u_49 (a1 a2 a3 a4 a5 : Int32) : ∃ v' w', g_49 a1 a2 a3 a4 a5 v0_X4 v0_X5 = some (v', w') := by
  obtain ⟨r, v', w', e1, e2⟩ := chk_spec (r_status a1)
  unfold g_49
  rw [e1, Option.bind_some]
  try dsimp only
  rw [e2, Option.bind_some]
  try dsimp only
  rw [if_pos rfl]
  exact ⟨v', w', rfl⟩
theorem st_all (op a1 a2 a3 a4 a5 : Int32) : ∃ v' w', st_law op a1 a2 a3 a4 a5 v0_X4 v0_X5 = some (v', w') := by
  unfold st_law
  by_cases h0 : op = 0
  · rw [if_pos h0]
    exact u_0 a1 a2 a3 a4 a5
  rw [if_neg h0]
  by_cases h1 : op = 1
  · rw [if_pos h1]
    exact u_1 a1 a2 a3 a4 a5
  rw [if_neg h1]
  by_cases h2 : op = 2
  · rw [if_pos h2]
    exact u_2 a1 a2 a3 a4 a5
  rw [if_neg h2]
  by_cases h3 : op = 3
  · rw [if_pos h3]
    exact u_3 a1 a2 a3 a4 a5
  rw [if_neg h3]
  by_cases h4 : op = 4
  · rw [if_pos h4]
    exact u_4 a1 a2 a3 a4 a5
  rw [if_neg h4]
  by_cases h5 : op = 5
  · rw [if_pos h5]
    exact u_5 a1 a2 a3 a4 a5
  rw [if_neg h5]
  by_cases h6 : op = 6
  · rw [if_pos h6]
    exact u_6 a1 a2 a3 a4 a5
  rw [if_neg h6]
  by_cases h7 : op = 7
  · rw [if_pos h7]
    exact u_7 a1 a2 a3 a4 a5
  rw [if_neg h7]
  by_cases h8 : op = 8
  · rw [if_pos h8]
    exact u_8 a1 a2 a3 a4 a5
  rw [if_neg h8]
  by_cases h9 : op = 9
  · rw [if_pos h9]
    exact u_9 a1 a2 a3 a4 a5
  rw [if_neg h9]
  by_cases h10 : op = 10
  · rw [if_pos h10]
    exact u_10 a1 a2 a3 a4 a5
  rw [if_neg h10]
  by_cases h11 : op = 11
  · rw [if_pos h11]
    exact u_11 a1 a2 a3 a4 a5
  rw [if_neg h11]
  by_cases h12 : op = 12
  · rw [if_pos h12]
    exact u_12 a1 a2 a3 a4 a5
  rw [if_neg h12]
  by_cases h13 : op = 13
  · rw [if_pos h13]
    exact u_13 a1 a2 a3 a4 a5
  rw [if_neg h13]
  by_cases h14 : op = 14
  · rw [if_pos h14]
    exact u_14 a1 a2 a3 a4 a5
  rw [if_neg h14]
  by_cases h15 : op = 15
  · rw [if_pos h15]
    exact u_15 a1 a2 a3 a4 a5
  rw [if_neg h15]
  by_cases h16 : op = 16
  · rw [if_pos h16]
    exact u_16 a1 a2 a3 a4 a5
  rw [if_neg h16]
  by_cases h17 : op = 17
  · rw [if_pos h17]
    exact u_17 a1 a2 a3 a4 a5
  rw [if_neg h17]
  by_cases h18 : op = 18
  · rw [if_pos h18]
    exact u_18 a1 a2 a3 a4 a5
  rw [if_neg h18]
  by_cases h19 : op = 19
  · rw [if_pos h19]
    exact u_19 a1 a2 a3 a4 a5
  rw [if_neg h19]
  by_cases h20 : op = 20
  · rw [if_pos h20]
    exact u_20 a1 a2 a3 a4 a5
  rw [if_neg h20]
  by_cases h21 : op = 21
  · rw [if_pos h21]
    exact u_21 a1 a2 a3 a4 a5
  rw [if_neg h21]
  by_cases h22 : op = 22
  · rw [if_pos h22]
    exact u_22 a1 a2 a3 a4 a5
  rw [if_neg h22]
  by_cases h23 : op = 23
  · rw [if_pos h23]
    exact u_23 a1 a2 a3 a4 a5
  rw [if_neg h23]
  by_cases h24 : op = 24
  · rw [if_pos h24]
    exact u_24 a1 a2 a3 a4 a5
  rw [if_neg h24]
  by_cases h25 : op = 25
  · rw [if_pos h25]
    exact u_25 a1 a2 a3 a4 a5
  rw [if_neg h25]
  by_cases h26 : op = 26
  · rw [if_pos h26]
    exact u_26 a1 a2 a3 a4 a5
  rw [if_neg h26]
  by_cases h27 : op = 27
  · rw [if_pos h27]
    exact u_27 a1 a2 a3 a4 a5
  rw [if_neg h27]
  by_cases h28 : op = 28
  · rw [if_pos h28]
    exact u_28 a1 a2 a3 a4 a5
  rw [if_neg h28]
  by_cases h29 : op = 29
  · rw [if_pos h29]
    exact u_29 a1 a2 a3 a4 a5
  rw [if_neg h29]
  by_cases h30 : op = 30
  · rw [if_pos h30]
    exact u_30 a1 a2 a3 a4 a5
  rw [if_neg h30]
  by_cases h31 : op = 31
  · rw [if_pos h31]
    exact u_31 a1 a2 a3 a4 a5
  rw [if_neg h31]
  by_cases h32 : op = 32
  · rw [if_pos h32]
    exact u_32 a1 a2 a3 a4 a5
  rw [if_neg h32]
  by_cases h33 : op = 33
  · rw [if_pos h33]
    exact u_33 a1 a2 a3 a4 a5
  rw [if_neg h33]
  by_cases h34 : op = 34
  · rw [if_pos h34]
    exact u_34 a1 a2 a3 a4 a5
  rw [if_neg h34]
  by_cases h35 : op = 35
  · rw [if_pos h35]
    exact u_35 a1 a2 a3 a4 a5
  rw [if_neg h35]
  by_cases h36 : op = 36
  · rw [if_pos h36]
    exact u_36 a1 a2 a3 a4 a5
  rw [if_neg h36]
  by_cases h37 : op = 37
  · rw [if_pos h37]
    exact u_37 a1 a2 a3 a4 a5
  rw [if_neg h37]
  by_cases h38 : op = 38
  · rw [if_pos h38]
    exact u_38 a1 a2 a3 a4 a5
  rw [if_neg h38]
  by_cases h39 : op = 39
  · rw [if_pos h39]
    exact u_39 a1 a2 a3 a4 a5
  rw [if_neg h39]
  by_cases h40 : op = 40
  · rw [if_pos h40]
    exact u_40 a1 a2 a3 a4 a5
  rw [if_neg h40]
  by_cases h41 : op = 41
  · rw [if_pos h41]
    exact u_41 a1 a2 a3 a4 a5
  rw [if_neg h41]
  by_cases h42 : op = 42
  · rw [if_pos h42]
    exact u_42 a1 a2 a3 a4 a5
  rw [if_neg h42]
  by_cases h43 : op = 43
  · rw [if_pos h43]
    exact u_43 a1 a2 a3 a4 a5
  rw [if_neg h43]
  by_cases h44 : op = 44
  · rw [if_pos h44]
    exact u_44 a1 a2 a3 a4 a5
  rw [if_neg h44]
  by_cases h45 : op = 45
  · rw [if_pos h45]
    exact u_45 a1 a2 a3 a4 a5
  rw [if_neg h45]
  by_cases h46 : op = 46
  · rw [if_pos h46]
    exact u_46 a1 a2 a3 a4 a5
  rw [if_neg h46]
  by_cases h47 : op = 47
  · rw [if_pos h47]
    exact u_47 a1 a2 a3 a4 a5
  rw [if_neg h47]
  by_cases h48 : op = 48
  · rw [if_pos h48]
    exact u_48 a1 a2 a3 a4 a5
  rw [if_neg h48]
  by_cases h49 : op = 49
  · rw [if_pos h49]
    exact u_49 a1 a2 a3 a4 a5
  rw [if_neg h49]
  exact ⟨_, _, rfl⟩
