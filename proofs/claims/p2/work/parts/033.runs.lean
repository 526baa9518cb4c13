theorem run_X3 : ∃ v, f_X3_init vs_X3 = some v ∧ ∀ h, h < 16 → ∀ k, k < jx_len (shZ h) → v h k = v0_X3 h k := jn_run (by decide +kernel)
theorem run_X5 : ∃ v, f_X5_init vs_X5 = some v ∧ ∀ h, h < 13 → ∀ k, k < jx_len (shM h) → v h k = v0_X5 h k := jn_run (by decide +kernel)
