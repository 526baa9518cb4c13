theorem uw_X0 : ∀ w ∈ u_ws RX0 TX0 3, w ∈ bigT := by
  have h := tb_in _ (tb_all (List.zip [79, 1, 1] (u_ws RX0 TX0 3)) tables_1 (fun _ h => h) (by decide +kernel))
  have e : (List.zip [79, 1, 1] (u_ws RX0 TX0 3)).map Prod.snd = u_ws RX0 TX0 3 := List.map_snd_zip (by decide +kernel)
  rw [e] at h
  exact h
theorem uw_X1 : ∀ w ∈ u_ws RX1 TX1 3, w ∈ bigT := by
  have h := tb_in _ (tb_all (List.zip [129, 1, 1] (u_ws RX1 TX1 3)) tables_1 (fun _ h => h) (by decide +kernel))
  have e : (List.zip [129, 1, 1] (u_ws RX1 TX1 3)).map Prod.snd = u_ws RX1 TX1 3 := List.map_snd_zip (by decide +kernel)
  rw [e] at h
  exact h
theorem uw_X2 : ∀ w ∈ u_ws RX2 TX2 7, w ∈ bigT := by
  have h := tb_in _ (tb_all (List.zip [101, 1, 1, 1, 1, 1, 1] (u_ws RX2 TX2 7)) tables_1 (fun _ h => h) (by decide +kernel))
  have e : (List.zip [101, 1, 1, 1, 1, 1, 1] (u_ws RX2 TX2 7)).map Prod.snd = u_ws RX2 TX2 7 := List.map_snd_zip (by decide +kernel)
  rw [e] at h
  exact h
theorem uw_X3 : ∀ w ∈ u_ws RX3 TX3 8, w ∈ bigT := by
  have h := tb_in _ (tb_all (List.zip [52, 1, 1, 1, 1, 1, 1, 1] (u_ws RX3 TX3 8)) tables_1 (fun _ h => h) (by decide +kernel))
  have e : (List.zip [52, 1, 1, 1, 1, 1, 1, 1] (u_ws RX3 TX3 8)).map Prod.snd = u_ws RX3 TX3 8 := List.map_snd_zip (by decide +kernel)
  rw [e] at h
  exact h
theorem uw_X4 : ∀ w ∈ u_ws RX4 TX4 11, w ∈ bigT := by
  have h := tb_in _ (tb_all (List.zip [147, 1, 1, 1, 1, 1, 1, 1, 1, 1, 1] (u_ws RX4 TX4 11)) tables_1 (fun _ h => h) (by decide +kernel))
  have e : (List.zip [147, 1, 1, 1, 1, 1, 1, 1, 1, 1, 1] (u_ws RX4 TX4 11)).map Prod.snd = u_ws RX4 TX4 11 := List.map_snd_zip (by decide +kernel)
  rw [e] at h
  exact h
theorem uw_X5 : ∀ w ∈ u_ws RX5 TX5 21, w ∈ bigT := by
  have h := tb_in _ (tb_all (List.zip [755, 1, 1, 1, 1, 1, 1, 1, 1, 1, 1, 1, 1, 1, 1, 1, 1, 1, 1, 1, 1] (u_ws RX5 TX5 21)) tables_1 (fun _ h => h) (by decide +kernel))
  have e : (List.zip [755, 1, 1, 1, 1, 1, 1, 1, 1, 1, 1, 1, 1, 1, 1, 1, 1, 1, 1, 1, 1] (u_ws RX5 TX5 21)).map Prod.snd = u_ws RX5 TX5 21 := List.map_snd_zip (by decide +kernel)
  rw [e] at h
  exact h
