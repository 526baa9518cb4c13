/-! p1: the calls with long loops, on a town without things and windows. Own work. -/
theorem up_same {v : jx_V} {h i : Nat} {x : Int32} : jx_up v h i x h i = x := by simp [jx_up, jx_set, upd]
theorem up_idx {v : jx_V} {h i k : Nat} {x : Int32} (hk : k ≠ i) : jx_up v h i x h k = v h k := by simp [jx_up, jx_set, upd, hk]
theorem up_h {v : jx_V} {h i h' : Nat} {x : Int32} (hh : h' ≠ h) : jx_up v h i x h' = v h' := jx_up_ne hh
theorem ge_n {i N : Nat} (h : N ≤ i) (hi : i < 1000) : nI N ≤ nI i := nI_le h (by omega)
theorem lt_n {i N : Nat} (h : i < N) (hN : N < 1000) : ¬ nI N ≤ nI i := nI_ge h (by omega)
theorem isT0 {t i : Nat} {v : jx_V} (hi : i < 25) (hv : v (t + 3) i = -1) : f_X3_isTaken t (nI i) v = some (0, v) := by
  unfold f_X3_isTaken
  rw [if_neg (nI_in hi (by decide)), nI_clamp (by omega), hv, if_pos (by decide)]
def FX (t : Nat) (v : jx_V) : Prop := v t 5 = 0 ∧ (∀ j, j < 25 → v (t + 3) j = -1) ∧ ∀ o, o < 4 → v (t + 14) o = 0
theorem gA {t : Nat} {v : jx_V} (h : FX t v) : f_X3_growAll t v = some (jx_up v t 6 (v t 6 + 1)) := by
  have key : ∀ n i, i ≤ 25 → 25 - i < n → f_X3_growAll_L t n (nI i) v = some (jx_up v t 6 (v t 6 + 1)) := by
    intro n
    induction n with
    | zero => intro i _ h2; omega
    | succ n ih =>
      intro i hi hn
      rw [f_X3_growAll_L]
      by_cases h25 : i = 25
      · subst h25
        rw [if_pos (show (25 : Int32) ≤ nI 25 by decide)]
      · rw [if_neg (show ¬ (25 : Int32) ≤ nI i from lt_n (N := 25) (by omega) (by decide)), isT0 (by omega) (h.2.1 i (by omega)), Option.bind_some]
        dsimp only
        rw [if_pos rfl, nI_1]
        exact ih (i + 1) (by omega) (by omega)
  exact key 100000 0 (by omega) (by omega)
theorem FX_up {t : Nat} {v : jx_V} {x : Int32} (h : FX t v) : FX t (jx_up v t 6 x) := ⟨by rw [up_idx (by decide)]; exact h.1, fun j hj => by rw [up_h (by omega)]; exact h.2.1 j hj, fun o ho => by rw [up_h (by omega)]; exact h.2.2 o ho⟩
theorem pA {t : Nat} {v : jx_V} (h : v t 5 = 0) : f_X0_payAll t v = some (0, v) := by
  show f_X0_payAll_L t (99999 + 1) 0 0 v = _
  rw [f_X0_payAll_L, h, if_pos (by decide)]
theorem pM {t N : Nat} (hN : N < 500) {v : jx_V} (h : FX t v) : ∃ v', f_X4_passMonths t (nI N) v = some (0, v') ∧ FX t v' := by
  have key : ∀ n i v, FX t v → i ≤ N → N - i < n → ∃ v', f_X4_passMonths_L t n (nI N) 0 (nI i) v = some (0, v') ∧ FX t v' := by
    intro n
    induction n with
    | zero => intro i v _ _ h2; omega
    | succ n ih =>
      intro i v hv hi hn
      rw [f_X4_passMonths_L]
      by_cases hN2 : i = N
      · subst hN2
        rw [if_pos (nI_le (Nat.le_refl _) (by omega))]
        exact ⟨v, rfl, hv⟩
      · rw [if_neg (lt_n (by omega) (by omega)), pA hv.1, Option.bind_some]
        dsimp only
        rw [gA hv, Option.bind_some, nI_1]
        exact ih (i + 1) _ (FX_up hv) (by omega) (by omega)
  exact key 100000 0 v h (by omega) (by omega)
-- the reference
theorem at_n {l k : Nat} {w : jx_V} {x : Int32} (hx : x = nI k) : f_X5_at (nI l) x w = some (nI (11 + 4 * l + k), w) := by
  unfold f_X5_at
  rw [show (11 : Int32) = nI 11 by decide, show (4 : Int32) = nI 4 by decide, pk_mul, nI_add, hx, nI_add]
theorem its_n {l k : Nat} {w : jx_V} {x : Int32} (hx : x = nI k) (hl : l < 25) (hk : k < 4) : f_X5_its (nI l) x w = some (w 1 (11 + 4 * l + k), w) := by
  unfold f_X5_its
  rw [at_n hx, Option.bind_some]
  dsimp only
  rw [if_neg (nI_in (by omega) (by decide)), nI_clamp (by omega)]
theorem isTh0 {l : Nat} {w : jx_V} (hl : l < 25) (hv : w 1 (11 + 4 * l) = -1) : f_X5_isThing (nI l) w = some (0, w) := by
  unfold f_X5_isThing
  rw [its_n (k := 0) (by decide) hl (by decide), Option.bind_some]
  dsimp only
  rw [show 11 + 4 * l + 0 = 11 + 4 * l from rfl, hv, if_pos (by decide)]
def FM (w : jx_V) : Prop := w 1 1 = 0 ∧ (∀ l, l < 25 → w 1 (11 + 4 * l) = -1) ∧ ∀ o, o < 4 → w 1 (7 + o) = 0
theorem fG {w : jx_V} (h : w 1 1 = 0) : ∃ w', f_X5_findGains w = some (0, w') ∧ (∀ h', h' ≠ 6 → w' h' = w h') ∧ ∀ o, o < 4 → w' 6 o = 0 := by
  refine ⟨jx_up (jx_up (jx_up (jx_up w 6 0 0) 6 1 0) 6 2 0) 6 3 0, ?_, fun h' hh => ?_, fun o ho => ?_⟩
  · show f_X5_findGains_L (99995 + 1 + 1 + 1 + 1 + 1) 0 0 0 w = _
    have e : (jx_up (jx_up (jx_up (jx_up w 6 0 0) 6 1 0) 6 2 0) 6 3 0) 1 1 = 0 := by rw [up_h (by decide), up_h (by decide), up_h (by decide), up_h (by decide)]; exact h
    rw [f_X5_findGains_L, if_pos rfl, if_neg (by decide), if_neg (by decide), f_X5_findGains_L, if_pos rfl, if_neg (by decide), if_neg (by decide), f_X5_findGains_L, if_pos rfl, if_neg (by decide), if_neg (by decide), f_X5_findGains_L, if_pos rfl, if_neg (by decide), if_neg (by decide), f_X5_findGains_L, if_pos rfl, if_pos (by decide)]
    show f_X5_findGains_L (99994 + 1) 1 0 0 (jx_up (jx_up (jx_up (jx_up w 6 0 0) 6 1 0) 6 2 0) 6 3 0) = _
    rw [f_X5_findGains_L, if_neg (by decide), if_pos rfl, e, if_pos (by decide)]
  · rw [up_h hh, up_h hh, up_h hh, up_h hh]
  · rcases (show o = 0 ∨ o = 1 ∨ o = 2 ∨ o = 3 by omega) with rfl | rfl | rfl | rfl <;> simp [jx_up, jx_set, upd]
theorem month1 {n : Nat} {w : jx_V} (h : FM w) : ∀ (m l : Nat) (w : jx_V), FM w → l ≤ 25 → 25 - l < m → ∃ w', f_X5_month_L m 1 0 (nI l) w = some (0, w') ∧ FM w' := by
  intro m
  induction m with
  | zero => intro l w _ _ h2; omega
  | succ m ih =>
    intro l w hw hl hm
    rw [f_X5_month_L, if_neg (by decide), if_pos rfl]
    by_cases h25 : l = 25
    · subst h25
      rw [if_pos (show (25 : Int32) ≤ nI 25 by decide)]
      exact ⟨_, rfl, by rw [up_idx (by decide)]; exact hw.1, fun l hl => by rw [up_idx (by omega)]; exact hw.2.1 l hl, fun o ho => by rw [up_idx (by omega)]; exact hw.2.2 o ho⟩
    · rw [if_neg (show ¬ (25 : Int32) ≤ nI l from lt_n (N := 25) (by omega) (by decide)), its_n (k := 2) (by decide) (by omega) (by decide), Option.bind_some]
      dsimp only
      rw [isTh0 (by omega) (hw.2.1 l (by omega)), Option.bind_some]
      dsimp only
      rw [if_pos rfl, at_n (k := 2) (by decide), Option.bind_some]
      dsimp only
      have hg : ¬ (nI (11 + 4 * l + 2) < 0 ∨ 181 ≤ (nI (11 + 4 * l + 2)).toNatClampNeg) := nI_in (by omega) (by decide)
      rw [if_neg hg, if_neg hg, nI_clamp (by omega), nI_1]
      have keep : ∀ x : Int32, FM (jx_up w 1 (11 + 4 * l + 2) x) := fun x => ⟨by rw [up_idx (by omega)]; exact hw.1, fun j hj => by rw [up_idx (by omega)]; exact hw.2.1 j hj, fun o ho => by rw [up_idx (by omega)]; exact hw.2.2 o ho⟩
      split
      · exact ih (l + 1) _ (keep _) (by omega) (by omega)
      · exact ih (l + 1) _ (keep _) (by omega) (by omega)
theorem month0 : ∀ (m o : Nat) (w : jx_V), FM w → (∀ o, o < 4 → w 6 o = 0) → o ≤ 4 → 40 + (4 - o) < m → ∃ w', f_X5_month_L m 0 0 (nI o) w = some (0, w') ∧ FM w' := by
  intro m
  induction m with
  | zero => intro o w _ _ _ h2; omega
  | succ m ih =>
    intro o w hw h6 ho hm
    rw [f_X5_month_L, if_pos rfl]
    by_cases h4 : o = 4
    · subst h4
      rw [if_pos (show (4 : Int32) ≤ nI 4 by decide)]
      exact month1 (n := 0) hw m 0 w hw (by omega) (by omega)
    · rw [if_neg (show ¬ (4 : Int32) ≤ nI o from lt_n (N := 4) (by omega) (by decide)), show (7 : Int32) = nI 7 by decide, nI_add]
      have hg : ¬ (nI (7 + o) < 0 ∨ 181 ≤ (nI (7 + o)).toNatClampNeg) := nI_in (by omega) (by decide)
      have hg2 : ¬ (nI o < 0 ∨ 4 ≤ (nI o).toNatClampNeg) := nI_in (by omega) (by decide)
      rw [if_neg hg, if_neg hg2, if_neg hg, nI_clamp (by omega), nI_clamp (by omega), nI_1, hw.2.2 o (by omega), h6 o (by omega)]
      refine ih (o + 1) _ ⟨by rw [up_idx (by omega)]; exact hw.1, fun j hj => by rw [up_idx (by omega)]; exact hw.2.1 j hj, fun o2 ho2 => ?_⟩ (fun o2 ho2 => by rw [up_h (by decide)]; exact h6 o2 ho2) (by omega) (by omega)
      by_cases e : o2 = o
      · subst e
        rw [up_same]
        decide
      · rw [up_idx (by omega)]
        exact hw.2.2 o2 ho2
theorem month_F {w : jx_V} (h : FM w) : ∃ w', f_X5_month w = some (0, w') ∧ FM w' := by
  unfold f_X5_month
  obtain ⟨w1, e1, e2, e3⟩ := fG h.1
  rw [e1, Option.bind_some]
  exact month0 100000 0 w1 ⟨by rw [e2 1 (by decide)]; exact h.1, fun l hl => by rw [e2 1 (by decide)]; exact h.2.1 l hl, fun o ho => by rw [e2 1 (by decide)]; exact h.2.2 o ho⟩ e3 (by omega) (by omega)
theorem mG {N : Nat} (hN : N < 500) {w : jx_V} (h : FM w) : ∃ w', f_X5_monthsGo (nI N) w = some (0, w') ∧ FM w' := by
  have key : ∀ n i w, FM w → i ≤ N → N - i < n → ∃ w', f_X5_monthsGo_L n (nI N) 0 (nI i) w = some (0, w') ∧ FM w' := by
    intro n
    induction n with
    | zero => intro i w _ _ h2; omega
    | succ n ih =>
      intro i w hw hi hn
      rw [f_X5_monthsGo_L]
      by_cases hN2 : i = N
      · subst hN2
        rw [if_pos (nI_le (Nat.le_refl _) (by omega))]
        exact ⟨w, rfl, hw⟩
      · obtain ⟨w1, e1, e2⟩ := month_F hw
        rw [if_neg (lt_n (by omega) (by omega)), e1, Option.bind_some, nI_1]
        exact ih (i + 1) w1 e2 (by omega) (by omega)
  exact key 100000 0 w h (by omega) (by omega)
/-- copying all of s to other, and back -/
theorem puts_n (w : jx_V) : ∃ w', f_X5_puts w = some w' ∧ (∀ h, h ≠ 3 → w' h = w h) ∧ ∀ k, k < 181 → w' 3 k = w 1 k := by
  have key : ∀ n i w1, (∀ h, h ≠ 3 → w1 h = w h) → (∀ k, k < i → w1 3 k = w 1 k) → i ≤ 181 → 181 - i < n → ∃ w', f_X5_puts_L n (nI i) w1 = some w' ∧ (∀ h, h ≠ 3 → w' h = w h) ∧ ∀ k, k < 181 → w' 3 k = w 1 k := by
    intro n
    induction n with
    | zero => intro i w1 _ _ _ h2; omega
    | succ n ih =>
      intro i w1 h1 h2 hi hn
      rw [f_X5_puts_L]
      by_cases he : i = 181
      · subst he
        rw [if_pos (show (181 : Int32) ≤ nI 181 by decide)]
        exact ⟨w1, rfl, h1, h2⟩
      · have hg : ¬ (nI i < 0 ∨ 181 ≤ (nI i).toNatClampNeg) := nI_in (by omega) (by decide)
        rw [if_neg (show ¬ (181 : Int32) ≤ nI i from lt_n (N := 181) (by omega) (by decide)), if_neg hg, if_neg hg, nI_clamp (by omega), nI_1]
        refine ih (i + 1) _ (fun h hh => by rw [up_h hh]; exact h1 h hh) (fun k hk => ?_) (by omega) (by omega)
        by_cases e : k = i
        · subst e
          rw [up_same, h1 1 (by decide)]
        · rw [up_idx e]
          exact h2 k (by omega)
  exact key 100000 0 w (fun _ _ => rfl) (fun k hk => by omega) (by omega) (by omega)
theorem back_n (w : jx_V) : ∃ w', f_X5_putsBack w = some w' ∧ (∀ h, h ≠ 1 → w' h = w h) ∧ ∀ k, k < 181 → w' 1 k = w 3 k := by
  have key : ∀ n i w1, (∀ h, h ≠ 1 → w1 h = w h) → (∀ k, k < i → w1 1 k = w 3 k) → i ≤ 181 → 181 - i < n → ∃ w', f_X5_putsBack_L n (nI i) w1 = some w' ∧ (∀ h, h ≠ 1 → w' h = w h) ∧ ∀ k, k < 181 → w' 1 k = w 3 k := by
    intro n
    induction n with
    | zero => intro i w1 _ _ _ h2; omega
    | succ n ih =>
      intro i w1 h1 h2 hi hn
      rw [f_X5_putsBack_L]
      by_cases he : i = 181
      · subst he
        rw [if_pos (show (181 : Int32) ≤ nI 181 by decide)]
        exact ⟨w1, rfl, h1, h2⟩
      · have hg : ¬ (nI i < 0 ∨ 181 ≤ (nI i).toNatClampNeg) := nI_in (by omega) (by decide)
        rw [if_neg (show ¬ (181 : Int32) ≤ nI i from lt_n (N := 181) (by omega) (by decide)), if_neg hg, if_neg hg, nI_clamp (by omega), nI_1]
        refine ih (i + 1) _ (fun h hh => by rw [up_h hh]; exact h1 h hh) (fun k hk => ?_) (by omega) (by omega)
        by_cases e : k = i
        · subst e
          rw [up_same, h1 3 (by decide)]
        · rw [up_idx e]
          exact h2 k (by omega)
  exact key 100000 0 w (fun _ _ => rfl) (fun k hk => by omega) (by omega) (by omega)
theorem FX0 : FX 1 v0_X4 := ⟨by decide +kernel, by decide +kernel, by decide +kernel⟩
theorem FM0 : FM v0_X5 := ⟨by decide +kernel, by decide +kernel, by decide +kernel⟩
