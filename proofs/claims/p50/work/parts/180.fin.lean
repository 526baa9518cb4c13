def T0 : Tn := (fun _ => -1, fun _ => 0, fun _ => 0, fun _ => 0, fun _ _ => 0, fun l => if l < 4 then Int32.ofNat (l + 1) else 0, fun _ => 0, fun l => if l < 10 then -1 else 0, 0, 0, 1)
theorem x0K : ∀ l, l < 25 → v0_X4 (1 + 3) l = -1 := by decide +kernel
theorem x0C : ∀ l, l < 4 → v0_X4 (1 + 13) l = Int32.ofNat (l + 1) := by decide +kernel
theorem x0U : ∀ l, l < 4 → v0_X4 (1 + 14) l = 0 := by decide +kernel
theorem x0S : ∀ l, l < 10 → v0_X4 (1 + 15) l = -1 := by decide +kernel
theorem m0K : ∀ l, l < 25 → v0_X5 1 (11 + 4 * l) = -1 := by decide +kernel
theorem m0C : ∀ l, l < 4 → v0_X5 1 (3 + l) = Int32.ofNat (l + 1) := by decide +kernel
theorem m0U : ∀ l, l < 4 → v0_X5 1 (7 + l) = 0 := by decide +kernel
theorem m0S : ∀ l, l < 10 → v0_X5 1 (171 + l) = -1 := by decide +kernel
theorem c0X : cT 1 v0_X4 = T0 := by
  refine Tx ?_ ?_ ?_ ?_ ?_ ?_ ?_ ?_ rfl rfl rfl
  · funext l; show (if l < 25 then v0_X4 (1 + 3) l else -1) = -1
    by_cases h : l < 25
    · rw [if_pos h, x0K l h]
    · rw [if_neg h]
  · funext l; show (if l < 25 ∧ 0 ≤ v0_X4 (1 + 3) l then v0_X4 (1 + 4) l else 0) = 0
    rw [if_neg (fun k => by have := k.2; rw [x0K l k.1] at this; exact absurd this (by decide))]
  · funext l; show (if l < 25 ∧ 0 ≤ v0_X4 (1 + 3) l then v0_X4 (1 + 5) l else 0) = 0
    rw [if_neg (fun k => by have := k.2; rw [x0K l k.1] at this; exact absurd this (by decide))]
  · funext l; show (if l < 25 ∧ 0 ≤ v0_X4 (1 + 3) l then v0_X4 (1 + 6) l else 0) = 0
    rw [if_neg (fun k => by have := k.2; rw [x0K l k.1] at this; exact absurd this (by decide))]
  · funext k i; show (if k < 6 ∧ i < (v0_X4 1 5).toNatClampNeg then v0_X4 (1 + 7 + k) i else 0) = 0
    rw [if_neg (fun q => by have := q.2; rw [show (v0_X4 1 5).toNatClampNeg = 0 from rfl] at this; omega)]
  · funext l; show (if l < 4 then v0_X4 (1 + 13) l else 0) = if l < 4 then Int32.ofNat (l + 1) else 0
    by_cases h : l < 4
    · rw [if_pos h, if_pos h, x0C l h]
    · rw [if_neg h, if_neg h]
  · funext l; show (if l < 4 then v0_X4 (1 + 14) l else 0) = 0
    by_cases h : l < 4
    · rw [if_pos h, x0U l h]
    · rw [if_neg h]
  · funext l; show (if l < 10 then v0_X4 (1 + 15) l else 0) = if l < 10 then -1 else 0
    by_cases h : l < 10
    · rw [if_pos h, if_pos h, x0S l h]
    · rw [if_neg h, if_neg h]
theorem c0M : mT (v0_X5 1) = T0 := by
  refine Tx ?_ ?_ ?_ ?_ ?_ ?_ ?_ ?_ rfl rfl rfl
  · funext l; show (if l < 25 then v0_X5 1 (11 + 4 * l) else -1) = -1
    by_cases h : l < 25
    · rw [if_pos h, m0K l h]
    · rw [if_neg h]
  · funext l; show (if l < 25 ∧ 0 ≤ v0_X5 1 (11 + 4 * l) then v0_X5 1 (12 + 4 * l) else 0) = 0
    rw [if_neg (fun k => by have := k.2; rw [m0K l k.1] at this; exact absurd this (by decide))]
  · funext l; show (if l < 25 ∧ 0 ≤ v0_X5 1 (11 + 4 * l) then v0_X5 1 (13 + 4 * l) else 0) = 0
    rw [if_neg (fun k => by have := k.2; rw [m0K l k.1] at this; exact absurd this (by decide))]
  · funext l; show (if l < 25 ∧ 0 ≤ v0_X5 1 (11 + 4 * l) then v0_X5 1 (14 + 4 * l) else 0) = 0
    rw [if_neg (fun k => by have := k.2; rw [m0K l k.1] at this; exact absurd this (by decide))]
  · funext k i; show (if k < 6 ∧ i < (v0_X5 1 1).toNatClampNeg then v0_X5 1 (111 + 6 * i + k) else 0) = 0
    rw [if_neg (fun q => by have := q.2; rw [show (v0_X5 1 1).toNatClampNeg = 0 from rfl] at this; omega)]
  · funext l; show (if l < 4 then v0_X5 1 (3 + l) else 0) = if l < 4 then Int32.ofNat (l + 1) else 0
    by_cases h : l < 4
    · rw [if_pos h, if_pos h, m0C l h]
    · rw [if_neg h, if_neg h]
  · funext l; show (if l < 4 then v0_X5 1 (7 + l) else 0) = 0
    by_cases h : l < 4
    · rw [if_pos h, m0U l h]
    · rw [if_neg h]
  · funext l; show (if l < 10 then v0_X5 1 (171 + l) else 0) = if l < 10 then -1 else 0
    by_cases h : l < 10
    · rw [if_pos h, if_pos h, m0S l h]
    · rw [if_neg h, if_neg h]
theorem OK_0 : OK T0 := OK.mk (fun l => Or.inl rfl) (fun l => ⟨0, by omega, rfl⟩) (fun l => ⟨0, by omega, rfl⟩) (fun l => ⟨0, by omega, rfl⟩) (fun i => ⟨0, by omega, rfl⟩) (fun i => ⟨0, by omega, rfl⟩) (fun i => ⟨0, by omega, rfl⟩) (fun i => ⟨0, by omega, rfl⟩) (fun i => Or.inr ⟨0, by omega, rfl⟩) ⟨0, by omega, rfl⟩ (fun k => by
  show (if k < 10 then (-1 : Int32) else 0) = -1 ∨ _
  by_cases h : k < 10
  · exact Or.inl (if_pos h)
  · exact Or.inr ⟨0, by omega, if_neg h⟩)
theorem x0B : ∀ i, i < 120 → v0_X4 54 i = v0_X5 8 i := by decide +kernel
theorem x0Z : ∀ s, s < 4 → v0_X4 61 s = v0_X5 9 s ∧ v0_X4 62 s = v0_X5 10 s ∧ v0_X4 62 s = nI 0 ∧ ∀ i, i < 40 → v0_X4 (57 + s) i = v0_X5 11 (40 * s + i) := by decide +kernel
theorem R_0 : R v0_X4 v0_X5 := R.mk (by rw [c0X, c0M]) (by rw [c0X]; exact OK_0) rfl (Or.inl rfl) (fun h => absurd h (by decide)) rfl ⟨0, by omega, rfl⟩ x0B (fun s hs => by
  obtain ⟨a, b, c, d⟩ := x0Z s hs
  exact ⟨a, b, ⟨0, by omega, c⟩, d⟩)
theorem uq {A B : Option (Int32 × jx_V)} (h : Q A B) : ∃ v' w', (A.bind (fun (r1, v1) => (B.bind (fun (r2, w2) => (if r1 = r2 then some (v1, w2) else none))))) = some (v', w') ∧ R v' w' := by
  obtain ⟨r, v', w', e1, e2, hr⟩ := h
  refine ⟨v', w', ?_, hr⟩
  simp only [e1, e2, Option.bind_some, if_true]
theorem uq2 {A B : Option (Int32 × jx_V)} (h : Q2 A B) : ∃ v' w', (A.bind (fun (r1, v1) => (B.bind (fun (r2, w2) => (some (v1, w2)))))) = some (v', w') ∧ R v' w' := by
  obtain ⟨r, v', r', w', e1, e2, hr⟩ := h
  refine ⟨v', w', ?_, hr⟩
  simp only [e1, e2, Option.bind_some]
theorem u_0 {a1 a2 a3 a4 a5 : Int32} {v w : jx_V} (h : R v w) : ∃ v' w', g_0 a1 a2 a3 a4 a5 v w = some (v', w') ∧ R v' w' := by
  unfold g_0
  exact uq2 (Q_2 (q_build h))
theorem u_1 {a1 a2 a3 a4 a5 : Int32} {v w : jx_V} (h : R v w) : ∃ v' w', g_1 a1 a2 a3 a4 a5 v w = some (v', w') ∧ R v' w' := by
  unfold g_1
  exact uq2 (Q_2 (q_clear h))
theorem u_2 {a1 a2 a3 a4 a5 : Int32} {v w : jx_V} (h : R v w) : ∃ v' w', g_2 a1 a2 a3 a4 a5 v w = some (v', w') ∧ R v' w' := by
  unfold g_2
  exact uq2 (Q_2 (q_of h))
theorem u_3 {a1 a2 a3 a4 a5 : Int32} {v w : jx_V} (h : R v w) : ∃ v' w', g_3 a1 a2 a3 a4 a5 v w = some (v', w') ∧ R v' w' := by
  unfold g_3
  exact uq2 (Q_2 (q_change h))
theorem u_4 {a1 a2 a3 a4 a5 : Int32} {v w : jx_V} (h : R v w) : ∃ v' w', g_4 a1 a2 a3 a4 a5 v w = some (v', w') ∧ R v' w' := by
  unfold g_4
  exact uq2 (Q_2 (q_price h))
theorem u_5 {a1 a2 a3 a4 a5 : Int32} {v w : jx_V} (h : R v w) : ∃ v' w', g_5 a1 a2 a3 a4 a5 v w = some (v', w') ∧ R v' w' := by
  unfold g_5
  exact uq2 (Q_2 (q_window h))
theorem u_6 {a1 a2 a3 a4 a5 : Int32} {v w : jx_V} (h : R v w) : ∃ v' w', g_6 a1 a2 a3 a4 a5 v w = some (v', w') ∧ R v' w' := by
  unfold g_6
  exact uq2 (Q_2 (q_windowOf h))
theorem u_7 {a1 a2 a3 a4 a5 : Int32} {v w : jx_V} (h : R v w) : ∃ v' w', g_7 a1 a2 a3 a4 a5 v w = some (v', w') ∧ R v' w' := by
  unfold g_7
  exact uq2 (Q_2 (q_turn h))
theorem u_8 {a1 a2 a3 a4 a5 : Int32} {v w : jx_V} (h : R v w) : ∃ v' w', g_8 a1 a2 a3 a4 a5 v w = some (v', w') ∧ R v' w' := by
  unfold g_8
  exact uq2 (Q_2 (q_contract h))
theorem u_9 {a1 a2 a3 a4 a5 : Int32} {v w : jx_V} (h : R v w) : ∃ v' w', g_9 a1 a2 a3 a4 a5 v w = some (v', w') ∧ R v' w' := by
  unfold g_9
  exact uq2 (Q_2 (q_purse h))
theorem u_10 {a1 a2 a3 a4 a5 : Int32} {v w : jx_V} (h : R v w) : ∃ v' w', g_10 a1 a2 a3 a4 a5 v w = some (v', w') ∧ R v' w' := by
  unfold g_10
  exact uq2 (Q_2 (q_sees h))
theorem u_11 {a1 a2 a3 a4 a5 : Int32} {v w : jx_V} (h : R v w) : ∃ v' w', g_11 a1 a2 a3 a4 a5 v w = some (v', w') ∧ R v' w' := by
  unfold g_11
  exact uq2 (Q_2 (q_view h))
theorem u_12 {a1 a2 a3 a4 a5 : Int32} {v w : jx_V} (h : R v w) : ∃ v' w', g_12 a1 a2 a3 a4 a5 v w = some (v', w') ∧ R v' w' := by
  unfold g_12
  exact uq2 (Q_2 (q_share h))
theorem u_13 {a1 a2 a3 a4 a5 : Int32} {v w : jx_V} (h : R v w) : ∃ v' w', g_13 a1 a2 a3 a4 a5 v w = some (v', w') ∧ R v' w' := by
  unfold g_13
  exact uq2 (Q_2 (q_lots h))
theorem u_14 {a1 a2 a3 a4 a5 : Int32} {v w : jx_V} (h : R v w) : ∃ v' w', g_14 a1 a2 a3 a4 a5 v w = some (v', w') ∧ R v' w' := by
  unfold g_14
  exact uq2 (Q_2 (q_watched h))
theorem u_15 {a1 a2 a3 a4 a5 : Int32} {v w : jx_V} (h : R v w) : ∃ v' w', g_15 a1 a2 a3 a4 a5 v w = some (v', w') ∧ R v' w' := by
  unfold g_15
  exact uq2 (Q_2 (q_rent h))
theorem u_16 {a1 a2 a3 a4 a5 : Int32} {v w : jx_V} (h : R v w) : ∃ v' w', g_16 a1 a2 a3 a4 a5 v w = some (v', w') ∧ R v' w' := by
  unfold g_16
  exact uq2 (Q_2 (q_gain h))
theorem u_17 {a1 a2 a3 a4 a5 : Int32} {v w : jx_V} (h : R v w) : ∃ v' w', g_17 a1 a2 a3 a4 a5 v w = some (v', w') ∧ R v' w' := by
  unfold g_17
  exact uq2 (Q_2 (q_broken h))
theorem u_18 {a1 a2 a3 a4 a5 : Int32} {v w : jx_V} (h : R v w) : ∃ v' w', g_18 a1 a2 a3 a4 a5 v w = some (v', w') ∧ R v' w' := by
  unfold g_18
  exact uq2 (Q_2 (q_months h))
theorem u_19 {a1 a2 a3 a4 a5 : Int32} {v w : jx_V} (h : R v w) : ∃ v' w', g_19 a1 a2 a3 a4 a5 v w = some (v', w') ∧ R v' w' := by
  unfold g_19
  exact uq2 (Q_2 (q_ahead h))
theorem u_20 {a1 a2 a3 a4 a5 : Int32} {v w : jx_V} (h : R v w) : ∃ v' w', g_20 a1 a2 a3 a4 a5 v w = some (v', w') ∧ R v' w' := by
  unfold g_20
  exact uq2 (Q_2 (q_breach h))
theorem u_21 {a1 a2 a3 a4 a5 : Int32} {v w : jx_V} (h : R v w) : ∃ v' w', g_21 a1 a2 a3 a4 a5 v w = some (v', w') ∧ R v' w' := by
  unfold g_21
  exact uq2 (Q_2 (q_blame h))
theorem u_22 {a1 a2 a3 a4 a5 : Int32} {v w : jx_V} (h : R v w) : ∃ v' w', g_22 a1 a2 a3 a4 a5 v w = some (v', w') ∧ R v' w' := by
  unfold g_22
  exact uq2 (Q_2 (q_paint h))
theorem u_23 {a1 a2 a3 a4 a5 : Int32} {v w : jx_V} (h : R v w) : ∃ v' w', g_23 a1 a2 a3 a4 a5 v w = some (v', w') ∧ R v' w' := by
  unfold g_23
  exact uq2 (Q_2 (q_height h))
theorem u_24 {a1 a2 a3 a4 a5 : Int32} {v w : jx_V} (h : R v w) : ∃ v' w', g_24 a1 a2 a3 a4 a5 v w = some (v', w') ∧ R v' w' := by
  unfold g_24
  exact uq2 (Q_2 (q_storey h))
theorem u_25 {a1 a2 a3 a4 a5 : Int32} {v w : jx_V} (h : R v w) : ∃ v' w', g_25 a1 a2 a3 a4 a5 v w = some (v', w') ∧ R v' w' := by
  unfold g_25
  exact uq2 (Q_2 (q_allowed h))
theorem u_26 {a1 a2 a3 a4 a5 : Int32} {v w : jx_V} (h : R v w) : ∃ v' w', g_26 a1 a2 a3 a4 a5 v w = some (v', w') ∧ R v' w' := by
  unfold g_26
  exact uq2 (Q_2 (q_opens h))
theorem u_27 {a1 a2 a3 a4 a5 : Int32} {v w : jx_V} (h : R v w) : ∃ v' w', g_27 a1 a2 a3 a4 a5 v w = some (v', w') ∧ R v' w' := by
  unfold g_27
  exact uq2 (Q_2 (q_level h))
theorem u_28 {a1 a2 a3 a4 a5 : Int32} {v w : jx_V} (h : R v w) : ∃ v' w', g_28 a1 a2 a3 a4 a5 v w = some (v', w') ∧ R v' w' := by
  unfold g_28
  exact uq2 (Q_2 (q_cheapest h))
theorem u_29 {a1 a2 a3 a4 a5 : Int32} {v w : jx_V} (h : R v w) : ∃ v' w', g_29 a1 a2 a3 a4 a5 v w = some (v', w') ∧ R v' w' := by
  unfold g_29
  exact uq2 (Q_2 (q_site h))
theorem u_30 {a1 a2 a3 a4 a5 : Int32} {v w : jx_V} (h : R v w) : ∃ v' w', g_30 a1 a2 a3 a4 a5 v w = some (v', w') ∧ R v' w' := by
  unfold g_30
  exact uq2 (Q_2 (q_worst h))
theorem u_31 {a1 a2 a3 a4 a5 : Int32} {v w : jx_V} (h : R v w) : ∃ v' w', g_31 a1 a2 a3 a4 a5 v w = some (v', w') ∧ R v' w' := by
  unfold g_31
  exact uq2 (q_trade h)
theorem u_32 {a1 a2 a3 a4 a5 : Int32} {v w : jx_V} (h : R v w) : ∃ v' w', g_32 a1 a2 a3 a4 a5 v w = some (v', w') ∧ R v' w' := by
  unfold g_32
  exact uq2 (Q_2 (q_swap h))
theorem u_33 {a1 a2 a3 a4 a5 : Int32} {v w : jx_V} (h : R v w) : ∃ v' w', g_33 a1 a2 a3 a4 a5 v w = some (v', w') ∧ R v' w' := by
  unfold g_33
  exact uq2 (Q_2 (q_spill h))
theorem u_34 {a1 a2 a3 a4 a5 : Int32} {v w : jx_V} (h : R v w) : ∃ v' w', g_34 a1 a2 a3 a4 a5 v w = some (v', w') ∧ R v' w' := by
  unfold g_34
  exact uq2 (Q_2 (q_seed h))
theorem u_35 {a1 a2 a3 a4 a5 : Int32} {v w : jx_V} (h : R v w) : ∃ v' w', g_35 a1 a2 a3 a4 a5 v w = some (v', w') ∧ R v' w' := by
  unfold g_35
  exact uq2 (Q_2 (q_feed h))
theorem u_36 {a1 a2 a3 a4 a5 : Int32} {v w : jx_V} (h : R v w) : ∃ v' w', g_36 a1 a2 a3 a4 a5 v w = some (v', w') ∧ R v' w' := by
  unfold g_36
  exact uq2 (Q_2 (q_wipe h))
theorem u_37 {a1 a2 a3 a4 a5 : Int32} {v w : jx_V} (h : R v w) : ∃ v' w', g_37 a1 a2 a3 a4 a5 v w = some (v', w') ∧ R v' w' := by
  unfold g_37
  exact uq2 (Q_2 (q_text h))
theorem u_38 {a1 a2 a3 a4 a5 : Int32} {v w : jx_V} (h : R v w) : ∃ v' w', g_38 a1 a2 a3 a4 a5 v w = some (v', w') ∧ R v' w' := by
  unfold g_38
  exact uq2 (Q_2 (q_hold h))
theorem u_39 {a1 a2 a3 a4 a5 : Int32} {v w : jx_V} (h : R v w) : ∃ v' w', g_39 a1 a2 a3 a4 a5 v w = some (v', w') ∧ R v' w' := by
  unfold g_39
  exact uq2 (Q_2 (q_as h))
theorem u_40 {a1 a2 a3 a4 a5 : Int32} {v w : jx_V} (h : R v w) : ∃ v' w', g_40 a1 a2 a3 a4 a5 v w = some (v', w') ∧ R v' w' := by
  unfold g_40
  exact uq2 (Q_2 (q_sheet h))
theorem u_41 {a1 a2 a3 a4 a5 : Int32} {v w : jx_V} (h : R v w) : ∃ v' w', g_41 a1 a2 a3 a4 a5 v w = some (v', w') ∧ R v' w' := by
  unfold g_41
  exact uq2 (Q_2 (q_write h))
theorem u_42 {a1 a2 a3 a4 a5 : Int32} {v w : jx_V} (h : R v w) : ∃ v' w', g_42 a1 a2 a3 a4 a5 v w = some (v', w') ∧ R v' w' := by
  unfold g_42
  exact uq2 (Q_2 (q_copy h))
theorem u_43 {a1 a2 a3 a4 a5 : Int32} {v w : jx_V} (h : R v w) : ∃ v' w', g_43 a1 a2 a3 a4 a5 v w = some (v', w') ∧ R v' w' := by
  unfold g_43
  exact uq2 (Q_2 (q_load h))
theorem u_44 {a1 a2 a3 a4 a5 : Int32} {v w : jx_V} (h : R v w) : ∃ v' w', g_44 a1 a2 a3 a4 a5 v w = some (v', w') ∧ R v' w' := by
  unfold g_44
  exact uq2 (Q_2 (q_judge h))
theorem u_45 {a1 a2 a3 a4 a5 : Int32} {v w : jx_V} (h : R v w) : ∃ v' w', g_45 a1 a2 a3 a4 a5 v w = some (v', w') ∧ R v' w' := by
  unfold g_45
  exact uq2 (Q_2 (q_image h))
theorem u_46 {a1 a2 a3 a4 a5 : Int32} {v w : jx_V} (h : R v w) : ∃ v' w', g_46 a1 a2 a3 a4 a5 v w = some (v', w') ∧ R v' w' := by
  unfold g_46
  exact uq2 (Q_2 (q_undo h))
theorem u_47 {a1 a2 a3 a4 a5 : Int32} {v w : jx_V} (h : R v w) : ∃ v' w', g_47 a1 a2 a3 a4 a5 v w = some (v', w') ∧ R v' w' := by
  unfold g_47
  exact uq2 (Q_2 (q_tear h))
theorem u_48 {a1 a2 a3 a4 a5 : Int32} {v w : jx_V} (h : R v w) : ∃ v' w', g_48 a1 a2 a3 a4 a5 v w = some (v', w') ∧ R v' w' := by
  unfold g_48
  exact uq (q_count h)
theorem u_49 {a1 a2 a3 a4 a5 : Int32} {v w : jx_V} (h : R v w) : ∃ v' w', g_49 a1 a2 a3 a4 a5 v w = some (v', w') ∧ R v' w' := by
  unfold g_49
  exact uq2 (q_status h)
theorem st_all (op a1 a2 a3 a4 a5 : Int32) {v w : jx_V} (h : R v w) : ∃ v' w', st_law op a1 a2 a3 a4 a5 v w = some (v', w') ∧ R v' w' := by
  unfold st_law
  by_cases h0 : op = 0
  · rw [if_pos h0]
    exact u_0 h
  rw [if_neg h0]
  by_cases h1 : op = 1
  · rw [if_pos h1]
    exact u_1 h
  rw [if_neg h1]
  by_cases h2 : op = 2
  · rw [if_pos h2]
    exact u_2 h
  rw [if_neg h2]
  by_cases h3 : op = 3
  · rw [if_pos h3]
    exact u_3 h
  rw [if_neg h3]
  by_cases h4 : op = 4
  · rw [if_pos h4]
    exact u_4 h
  rw [if_neg h4]
  by_cases h5 : op = 5
  · rw [if_pos h5]
    exact u_5 h
  rw [if_neg h5]
  by_cases h6 : op = 6
  · rw [if_pos h6]
    exact u_6 h
  rw [if_neg h6]
  by_cases h7 : op = 7
  · rw [if_pos h7]
    exact u_7 h
  rw [if_neg h7]
  by_cases h8 : op = 8
  · rw [if_pos h8]
    exact u_8 h
  rw [if_neg h8]
  by_cases h9 : op = 9
  · rw [if_pos h9]
    exact u_9 h
  rw [if_neg h9]
  by_cases h10 : op = 10
  · rw [if_pos h10]
    exact u_10 h
  rw [if_neg h10]
  by_cases h11 : op = 11
  · rw [if_pos h11]
    exact u_11 h
  rw [if_neg h11]
  by_cases h12 : op = 12
  · rw [if_pos h12]
    exact u_12 h
  rw [if_neg h12]
  by_cases h13 : op = 13
  · rw [if_pos h13]
    exact u_13 h
  rw [if_neg h13]
  by_cases h14 : op = 14
  · rw [if_pos h14]
    exact u_14 h
  rw [if_neg h14]
  by_cases h15 : op = 15
  · rw [if_pos h15]
    exact u_15 h
  rw [if_neg h15]
  by_cases h16 : op = 16
  · rw [if_pos h16]
    exact u_16 h
  rw [if_neg h16]
  by_cases h17 : op = 17
  · rw [if_pos h17]
    exact u_17 h
  rw [if_neg h17]
  by_cases h18 : op = 18
  · rw [if_pos h18]
    exact u_18 h
  rw [if_neg h18]
  by_cases h19 : op = 19
  · rw [if_pos h19]
    exact u_19 h
  rw [if_neg h19]
  by_cases h20 : op = 20
  · rw [if_pos h20]
    exact u_20 h
  rw [if_neg h20]
  by_cases h21 : op = 21
  · rw [if_pos h21]
    exact u_21 h
  rw [if_neg h21]
  by_cases h22 : op = 22
  · rw [if_pos h22]
    exact u_22 h
  rw [if_neg h22]
  by_cases h23 : op = 23
  · rw [if_pos h23]
    exact u_23 h
  rw [if_neg h23]
  by_cases h24 : op = 24
  · rw [if_pos h24]
    exact u_24 h
  rw [if_neg h24]
  by_cases h25 : op = 25
  · rw [if_pos h25]
    exact u_25 h
  rw [if_neg h25]
  by_cases h26 : op = 26
  · rw [if_pos h26]
    exact u_26 h
  rw [if_neg h26]
  by_cases h27 : op = 27
  · rw [if_pos h27]
    exact u_27 h
  rw [if_neg h27]
  by_cases h28 : op = 28
  · rw [if_pos h28]
    exact u_28 h
  rw [if_neg h28]
  by_cases h29 : op = 29
  · rw [if_pos h29]
    exact u_29 h
  rw [if_neg h29]
  by_cases h30 : op = 30
  · rw [if_pos h30]
    exact u_30 h
  rw [if_neg h30]
  by_cases h31 : op = 31
  · rw [if_pos h31]
    exact u_31 h
  rw [if_neg h31]
  by_cases h32 : op = 32
  · rw [if_pos h32]
    exact u_32 h
  rw [if_neg h32]
  by_cases h33 : op = 33
  · rw [if_pos h33]
    exact u_33 h
  rw [if_neg h33]
  by_cases h34 : op = 34
  · rw [if_pos h34]
    exact u_34 h
  rw [if_neg h34]
  by_cases h35 : op = 35
  · rw [if_pos h35]
    exact u_35 h
  rw [if_neg h35]
  by_cases h36 : op = 36
  · rw [if_pos h36]
    exact u_36 h
  rw [if_neg h36]
  by_cases h37 : op = 37
  · rw [if_pos h37]
    exact u_37 h
  rw [if_neg h37]
  by_cases h38 : op = 38
  · rw [if_pos h38]
    exact u_38 h
  rw [if_neg h38]
  by_cases h39 : op = 39
  · rw [if_pos h39]
    exact u_39 h
  rw [if_neg h39]
  by_cases h40 : op = 40
  · rw [if_pos h40]
    exact u_40 h
  rw [if_neg h40]
  by_cases h41 : op = 41
  · rw [if_pos h41]
    exact u_41 h
  rw [if_neg h41]
  by_cases h42 : op = 42
  · rw [if_pos h42]
    exact u_42 h
  rw [if_neg h42]
  by_cases h43 : op = 43
  · rw [if_pos h43]
    exact u_43 h
  rw [if_neg h43]
  by_cases h44 : op = 44
  · rw [if_pos h44]
    exact u_44 h
  rw [if_neg h44]
  by_cases h45 : op = 45
  · rw [if_pos h45]
    exact u_45 h
  rw [if_neg h45]
  by_cases h46 : op = 46
  · rw [if_pos h46]
    exact u_46 h
  rw [if_neg h46]
  by_cases h47 : op = 47
  · rw [if_pos h47]
    exact u_47 h
  rw [if_neg h47]
  by_cases h48 : op = 48
  · rw [if_pos h48]
    exact u_48 h
  rw [if_neg h48]
  by_cases h49 : op = 49
  · rw [if_pos h49]
    exact u_49 h
  rw [if_neg h49]
  exact ⟨_, _, rfl, h⟩
