theorem site4n {a1 a2 a3 : Int32} (h : ¬ ((0 ≤ a1 ∧ a1 < 7) ∧ (0 ≤ a2 ∧ a2 < 4) ∧ (0 ≤ a3 ∧ a3 < 10))) : f_X4_site a1 a2 a3 v0_X4 = f_X4_finding 0 v0_X4 := by
  unfold f_X4_site
  by_cases h1 : 0 ≤ a1 ∧ a1 < 7
  · rw [wi1 h1, Option.bind_some]
    try dsimp only
    rw [if_neg (by decide)]
    by_cases h2 : 0 ≤ a2 ∧ a2 < 4
    · rw [wi1 h2, Option.bind_some]
      try dsimp only
      rw [if_neg (by decide), wi0 (fun h3 => h ⟨h1, h2, h3⟩), Option.bind_some]
      rfl
    · rw [wi0 h2, Option.bind_some]
      rfl
  · rw [wi0 h1]
    rfl
theorem site5n {a1 a2 a3 : Int32} (h : ¬ ((0 ≤ a1 ∧ a1 < 7) ∧ (0 ≤ a2 ∧ a2 < 4) ∧ (0 ≤ a3 ∧ a3 < 10))) : f_X5_site a1 a2 a3 v0_X5 = f_X5_finds (-1000001) v0_X5 := by
  unfold f_X5_site
  by_cases h1 : 0 ≤ a1 ∧ a1 < 7
  · rw [in1 (n := 7) (lo' := 0) (by decide) (by decide) h1, Option.bind_some]
    try dsimp only
    rw [if_neg (by decide)]
    by_cases h2 : 0 ≤ a2 ∧ a2 < 4
    · rw [isOwner1 h2, Option.bind_some]
      try dsimp only
      rw [if_neg (by decide), isHeight0 (fun h3 => h ⟨h1, h2, h3⟩), Option.bind_some]
      rfl
    · rw [isOwner0 h2, Option.bind_some]
      rfl
  · rw [in0 (n := 7) (lo' := 0) (by decide) (by decide) h1]
    rfl
theorem gI0 {t g : Nat} {v : jx_V} (h : v t 5 = 0) (hg : t ≠ g) : ∃ v', f_X0_gainsInto t g v = some (0, v') ∧ (∀ h', h' ≠ g → v' h' = v h') ∧ ∀ o, o < 4 → v' g o = 0 := by
  refine ⟨jx_up (jx_up (jx_up (jx_up v g 0 0) g 1 0) g 2 0) g 3 0, ?_, fun h' hh => ?_, fun o ho => ?_⟩
  · show f_X0_gainsInto_L t g (99995 + 1 + 1 + 1 + 1 + 1) 0 0 0 v = _
    have e : (jx_up (jx_up (jx_up (jx_up v g 0 0) g 1 0) g 2 0) g 3 0) t 5 = 0 := by rw [up_h hg, up_h hg, up_h hg, up_h hg]; exact h
    rw [f_X0_gainsInto_L, if_pos rfl, if_neg (by decide), if_neg (by decide), f_X0_gainsInto_L, if_pos rfl, if_neg (by decide), if_neg (by decide), f_X0_gainsInto_L, if_pos rfl, if_neg (by decide), if_neg (by decide), f_X0_gainsInto_L, if_pos rfl, if_neg (by decide), if_neg (by decide), f_X0_gainsInto_L, if_pos rfl, if_pos (by decide)]
    show f_X0_gainsInto_L t g (99994 + 1) 1 0 0 (jx_up (jx_up (jx_up (jx_up v g 0 0) g 1 0) g 2 0) g 3 0) = _
    rw [f_X0_gainsInto_L, if_neg (by decide), if_pos rfl, e, if_pos (by decide)]
  · rw [up_h hh, up_h hh, up_h hh, up_h hh]
  · rcases (show o = 0 ∨ o = 1 ∨ o = 2 ∨ o = 3 by omega) with rfl | rfl | rfl | rfl <;> simp [jx_up, jx_set, upd]
def IX (v : jx_V) : Prop := v 1 5 = 0 ∧ ∀ j, j < 25 → v 4 j = -1
/-- one turn of site's loop: the town is as it was, the gains are 0 -/
theorem site4t {i : Nat} {a1 a2 a3 : Int32} {v : jx_V} (hi : i < 25) (hv : IX v) : ∃ v15 v16, f_X3_put 1 (nI i) a1 a2 a3 0 v = some v15 ∧ f_X0_gainsInto 1 65 v15 = some (0, v16) ∧ f_X3_takeOff 1 (nI i) v16 = some (jx_up v16 4 i (-1)) ∧ IX (jx_up v16 4 i (-1)) ∧ ∀ o, o < 4 → (jx_up v16 4 i (-1)) 65 o = 0 := by
  have hg : ¬ (nI i < 0 ∨ 25 ≤ (nI i).toNatClampNeg) := nI_in hi (by decide)
  have hc : (nI i).toNatClampNeg = i := nI_clamp (by omega)
  have e1 : (jx_up (jx_up (jx_up (jx_up v 4 i a1) 5 i a2) 6 i a3) 7 i 0) 1 5 = 0 := by rw [up_h (by decide), up_h (by decide), up_h (by decide), up_h (by decide)]; exact hv.1
  obtain ⟨v16, g1, g2, g3⟩ := gI0 (t := 1) (g := 65) e1 (by decide)
  refine ⟨_, v16, ?_, g1, ?_, ⟨?_, fun j hj => ?_⟩, fun o ho => ?_⟩
  · unfold f_X3_put
    rw [if_neg hg, if_neg hg, if_neg hg, if_neg hg, hc]
  · unfold f_X3_takeOff
    rw [if_neg hg, hc]
  · rw [up_h (by decide), g2 1 (by decide)]
    exact e1
  · by_cases e : j = i
    · subst e
      rw [up_same]
    · rw [up_idx e, g2 4 (by decide), up_h (by decide), up_h (by decide), up_h (by decide), up_idx e]
      exact hv.2 j hj
  · rw [up_h (by decide)]
    exact g3 o ho
theorem site4l {a1 a3 : Int32} {o : Nat} (ho : o < 4) : ∀ (n i : Nat) (v : jx_V), IX v → i ≤ 25 → 25 - i < n → ∃ v', f_X4_site_L n a1 (nI o) a3 0 0 (nI i) v = some (0, v') := by
  intro n
  induction n with
  | zero => intro i v _ _ h2; omega
  | succ n ih =>
    intro i v hv hi hn
    rw [f_X4_site_L]
    by_cases h25 : i = 25
    · subst h25
      rw [if_pos (show (25 : Int32) ≤ nI 25 by decide), if_pos (by decide)]
      exact ⟨v, rfl⟩
    · obtain ⟨v15, v16, p1, p2, p3, p4, p5⟩ := site4t (i := i) (a1 := a1) (a2 := nI o) (a3 := a3) (by omega) hv
      have hg : ¬ (nI o < 0 ∨ 4 ≤ (nI o).toNatClampNeg) := nI_in ho (by decide)
      rw [if_neg (show ¬ (25 : Int32) ≤ nI i from lt_n (N := 25) (by omega) (by decide)), isT0 (t := 1) (by omega) (hv.2 i (by omega)), Option.bind_some]
      try dsimp only
      rw [if_pos rfl, p1, Option.bind_some]
      try dsimp only
      rw [p2, Option.bind_some]
      try dsimp only
      rw [p3, Option.bind_some]
      try dsimp only
      rw [if_neg (show ¬ (0 : Int32) < 0 by decide), if_neg hg, nI_clamp (by omega), p5 o ho, if_pos (show (0 : Int32) ≤ 0 by decide), nI_1]
      exact ih (i + 1) _ p4 (by omega) (by omega)
theorem site4 {a1 a3 : Int32} {o : Nat} (ho : o < 4) (h1 : 0 ≤ a1 ∧ a1 < 7) (h2 : 0 ≤ nI o ∧ nI o < 4) (h3 : 0 ≤ a3 ∧ a3 < 10) : ∃ v', f_X4_site a1 (nI o) a3 v0_X4 = some (0, v') := by
  unfold f_X4_site
  rw [wi1 h1, Option.bind_some]
  try dsimp only
  rw [if_neg (by decide), wi1 h2, Option.bind_some]
  try dsimp only
  rw [if_neg (by decide), wi1 h3, Option.bind_some]
  try dsimp only
  rw [if_neg (by decide)]
  have hv : IX v0_X4 := ⟨FX0.1, FX0.2.1⟩
  show ∃ v', f_X4_site_L (99999 + 1) a1 (nI o) a3 (-1) 0 (nI 0) v0_X4 = some (0, v')
  rw [f_X4_site_L]
  obtain ⟨v15, v16, p1, p2, p3, p4, p5⟩ := site4t (i := 0) (a1 := a1) (a2 := nI o) (a3 := a3) (by omega) hv
  have hg : ¬ (nI o < 0 ∨ 4 ≤ (nI o).toNatClampNeg) := nI_in ho (by decide)
  rw [if_neg (show ¬ (25 : Int32) ≤ nI 0 by decide), isT0 (t := 1) (by omega) (hv.2 0 (by omega)), Option.bind_some]
  try dsimp only
  rw [if_pos rfl, p1, Option.bind_some]
  try dsimp only
  rw [p2, Option.bind_some]
  try dsimp only
  rw [p3, Option.bind_some]
  try dsimp only
  rw [if_pos (show (-1 : Int32) < 0 by decide), if_neg hg, nI_clamp (by omega), p5 o ho, nI_1]
  exact site4l ho 99999 1 _ p4 (by omega) (by omega)
def IM (w : jx_V) : Prop := w 1 1 = 0 ∧ w 3 1 = 0 ∧ (∀ l, l < 25 → w 1 (11 + 4 * l) = -1) ∧ ∀ l, l < 25 → w 3 (11 + 4 * l) = -1
theorem site5t {i o : Nat} {a1 a2 a3 : Int32} {w : jx_V} (hi : i < 25) (ho : o < 4) (hw : IM w) : ∃ w16 w17 w18, f_X5_builds (nI i) a1 a2 a3 0 w = some w16 ∧ f_X5_gainOf (nI o) w16 = some (0, w17) ∧ f_X5_putsBack w17 = some w18 ∧ IM w18 := by
  have hb : f_X5_builds (nI i) a1 a2 a3 0 w = some (jx_up (jx_up (jx_up (jx_up w 1 (11 + 4 * i + 0) a1) 1 (11 + 4 * i + 1) a2) 1 (11 + 4 * i + 2) a3) 1 (11 + 4 * i + 3) 0) := by
    unfold f_X5_builds
    have g : ∀ k, k < 4 → ¬ (nI (11 + 4 * i + k) < 0 ∨ 181 ≤ (nI (11 + 4 * i + k)).toNatClampNeg) := fun k hk => nI_in (by omega) (by decide)
    have c : ∀ k, k < 4 → (nI (11 + 4 * i + k)).toNatClampNeg = 11 + 4 * i + k := fun k hk => nI_clamp (by omega)
    rw [at_n (k := 0) (by decide), Option.bind_some]
    try dsimp only
    rw [if_neg (g 0 (by decide)), c 0 (by decide), at_n (k := 1) (by decide), Option.bind_some]
    try dsimp only
    rw [if_neg (g 1 (by decide)), c 1 (by decide), at_n (k := 2) (by decide), Option.bind_some]
    try dsimp only
    rw [if_neg (g 2 (by decide)), c 2 (by decide), at_n (k := 3) (by decide), Option.bind_some]
    try dsimp only
    rw [if_neg (g 3 (by decide)), c 3 (by decide)]
  have e1 : (jx_up (jx_up (jx_up (jx_up w 1 (11 + 4 * i + 0) a1) 1 (11 + 4 * i + 1) a2) 1 (11 + 4 * i + 2) a3) 1 (11 + 4 * i + 3) 0) 1 1 = 0 := by rw [up_idx (by omega), up_idx (by omega), up_idx (by omega), up_idx (by omega)]; exact hw.1
  have e3 : (jx_up (jx_up (jx_up (jx_up w 1 (11 + 4 * i + 0) a1) 1 (11 + 4 * i + 1) a2) 1 (11 + 4 * i + 2) a3) 1 (11 + 4 * i + 3) 0) 3 = w 3 := by rw [up_h (by decide), up_h (by decide), up_h (by decide), up_h (by decide)]
  obtain ⟨w17, f1, f2, f3⟩ := fG e1
  obtain ⟨w18, b1, b2, b3⟩ := back_n w17
  have e17 : w17 3 = w 3 := by rw [f2 3 (by decide)]; exact e3
  refine ⟨_, w17, w18, hb, ?_, b1, ?_, ?_, fun l hl => ?_, fun l hl => ?_⟩
  · unfold f_X5_gainOf
    rw [f1, Option.bind_some]
    try dsimp only
    rw [if_neg (nI_in ho (by decide)), nI_clamp (by omega), f3 o ho]
  · rw [b3 1 (by decide), e17]
    exact hw.2.1
  · rw [b2 3 (by decide), e17]
    exact hw.2.1
  · rw [b3 _ (by omega), e17]
    exact hw.2.2.2 l hl
  · rw [b2 3 (by decide), e17]
    exact hw.2.2.2 l hl
theorem site5l {a1 a3 : Int32} {o : Nat} (ho : o < 4) : ∀ (n i : Nat) (w : jx_V), IM w → i ≤ 25 → 25 - i < n → ∃ w', f_X5_site_L n a1 (nI o) a3 0 0 (nI i) w = some (0, w') := by
  intro n
  induction n with
  | zero => intro i w _ _ h2; omega
  | succ n ih =>
    intro i w hw hi hn
    rw [f_X5_site_L]
    by_cases h25 : i = 25
    · subst h25
      rw [if_pos (show (25 : Int32) ≤ nI 25 by decide), if_pos (by decide)]
      exact ⟨w, rfl⟩
    · obtain ⟨w16, w17, w18, p1, p2, p3, p4⟩ := site5t (i := i) (o := o) (a1 := a1) (a2 := nI o) (a3 := a3) (by omega) ho hw
      rw [if_neg (show ¬ (25 : Int32) ≤ nI i from lt_n (N := 25) (by omega) (by decide)), isTh0 (by omega) (hw.2.2.1 i (by omega)), Option.bind_some]
      try dsimp only
      rw [if_pos rfl, p1, Option.bind_some]
      try dsimp only
      rw [p2, Option.bind_some]
      try dsimp only
      rw [p3, Option.bind_some]
      try dsimp only
      rw [if_neg (show ¬ (0 : Int32) < 0 by decide), if_pos (show (0 : Int32) ≤ 0 by decide), nI_1]
      exact ih (i + 1) _ p4 (by omega) (by omega)
theorem site5 {a1 a3 : Int32} {o : Nat} (ho : o < 4) (h1 : 0 ≤ a1 ∧ a1 < 7) (h2 : 0 ≤ nI o ∧ nI o < 4) (h3 : 0 ≤ a3 ∧ a3 < 10) : ∃ w', f_X5_site a1 (nI o) a3 v0_X5 = some (0, w') := by
  unfold f_X5_site
  rw [in1 (n := 7) (lo' := 0) (by decide) (by decide) h1, Option.bind_some]
  try dsimp only
  rw [if_neg (by decide), isOwner1 h2, Option.bind_some]
  try dsimp only
  rw [if_neg (by decide), isHeight1 h3, Option.bind_some]
  try dsimp only
  obtain ⟨w9, q1, q2, q3⟩ := puts_n v0_X5
  rw [if_neg (by decide), q1, Option.bind_some]
  have hw : IM w9 := ⟨by rw [q2 1 (by decide)]; exact FM0.1, by rw [q3 1 (by decide)]; exact FM0.1, fun l hl => by rw [q2 1 (by decide)]; exact FM0.2.1 l hl, fun l hl => by rw [q3 _ (by omega)]; exact FM0.2.1 l hl⟩
  show ∃ w', f_X5_site_L (99999 + 1) a1 (nI o) a3 (-1) 0 (nI 0) w9 = some (0, w')
  rw [f_X5_site_L]
  obtain ⟨w16, w17, w18, p1, p2, p3, p4⟩ := site5t (i := 0) (o := o) (a1 := a1) (a2 := nI o) (a3 := a3) (by omega) ho hw
  rw [if_neg (show ¬ (25 : Int32) ≤ nI 0 by decide), isTh0 (by omega) (hw.2.2.1 0 (by omega)), Option.bind_some]
  try dsimp only
  rw [if_pos rfl, p1, Option.bind_some]
  try dsimp only
  rw [p2, Option.bind_some]
  try dsimp only
  rw [p3, Option.bind_some]
  try dsimp only
  rw [if_pos (show (-1 : Int32) < 0 by decide), nI_1]
  exact site5l ho 99999 1 _ p4 (by omega) (by omega)
theorem chk_of {x y : Option (Int32 × jx_V)} {r : Int32} (h1 : ∃ v, x = some (r, v)) (h2 : ∃ w, y = some (r, w)) : chk x y = true := by
  obtain ⟨v, rfl⟩ := h1
  obtain ⟨w, rfl⟩ := h2
  exact decide_eq_true rfl
theorem q_site (a1 a2 a3 : Int32) : chk (f_X4_site a1 a2 a3 v0_X4) (f_X5_site a1 a2 a3 v0_X5) = true := by
  by_cases h : (0 ≤ a1 ∧ a1 < 7) ∧ (0 ≤ a2 ∧ a2 < 4) ∧ (0 ≤ a3 ∧ a3 < 10)
  · obtain ⟨h1, h2, h3⟩ := h
    obtain ⟨o, ho, rfl⟩ := rng (n := 4) (N := 4) (by decide) h2
    exact chk_of (site4 ho h1 h2 h3) (site5 ho h1 h2 h3)
  · rw [site4n h, site5n h]
    decide +kernel
theorem r_months (a1 : Int32) : chk (f_X4_months a1 v0_X4) (f_X5_months a1 v0_X5) = true := by
  by_cases h : 1 ≤ a1 ∧ a1 < 61
  · have h0 : 0 ≤ a1 ∧ a1 < 61 := ⟨Int32.le_iff_toInt_le.mpr (by have := Int32.le_iff_toInt_le.mp h.1; have e1 : (1 : Int32).toInt = 1 := (by decide); have e0 : (0 : Int32).toInt = 0 := (by decide); omega), h.2⟩
    obtain ⟨j, hj, rfl⟩ := rng (n := 61) (N := 61) (by decide) h0
    have hj1 : 1 ≤ j := by
      rcases Nat.eq_zero_or_pos j with e | e
      · subst e; exact absurd h.1 (by decide)
      · exact e
    obtain ⟨v', p1, -⟩ := pM (t := 1) (N := j) (by omega) FX0
    obtain ⟨w', p2, -⟩ := mG (N := j) (by omega) FM0
    refine chk_of (r := 0) ⟨v', ?_⟩ ⟨w', ?_⟩
    · unfold f_X4_months
      have e : v0_X4 1 6 + nI j = nI j := by rw [show v0_X4 1 6 = nI 0 by decide +kernel, nI_add, Nat.zero_add]
      rw [if_neg (show ¬ nI j < 1 from nI_nlt (b := 1) hj1 (by omega)), if_pos (show nI j ≤ 60 from nI_le (b := 60) (by omega) (by decide)), e, if_pos (show nI j ≤ 999 from nI_le (b := 999) (by omega) (by decide)), p1]
      rfl
    · unfold f_X5_months f_X5_isTooLate
      have e : v0_X5 1 0 + nI j = nI j := by rw [show v0_X5 1 0 = nI 0 by decide +kernel, nI_add, Nat.zero_add]
      rw [in1 (n := 61) (lo' := 1) (by decide) (by decide) h, Option.bind_some]
      try dsimp only
      rw [if_neg (by decide), e, if_pos (show nI j ≤ 999 from nI_le (b := 999) (by omega) (by decide)), Option.bind_some]
      try dsimp only
      rw [if_pos rfl, p2]
      rfl
  · unfold f_X4_months f_X5_months
    rw [in0 (n := 61) (lo' := 1) (by decide) (by decide) h]
    by_cases h1 : a1 < 1
    · rw [if_pos h1]
      rfl
    · have h2 : ¬ a1 ≤ 60 := fun q => h ⟨Int32.not_lt.mp h1, Int32.lt_iff_toInt_lt.mpr (by have := Int32.le_iff_toInt_le.mp q; have e1 : (60 : Int32).toInt = 60 := (by decide); have e0 : (61 : Int32).toInt = 61 := (by decide); omega)⟩
      rw [if_neg h1, if_neg h2]
      rfl
