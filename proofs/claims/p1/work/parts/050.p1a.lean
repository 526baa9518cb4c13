/-! p1: the first call on a fresh object. Own work. -/
def chk (x y : Option (Int32 × jx_V)) : Bool := match x with
  | some q => (match y with | some z => decide (q.1 = z.1) | none => false)
  | none => false
theorem chk_spec {x y : Option (Int32 × jx_V)} (h : chk x y = true) : ∃ r v w, x = some (r, v) ∧ y = some (r, w) := by
  match x, y with
  | some (a, v), some (b, w) =>
    have e : a = b := of_decide_eq_true h
    exact ⟨a, v, w, rfl, by rw [e]⟩
theorem wi1 {x n : Int32} {v : jx_V} (h : 0 ≤ x ∧ x < n) : f_X4_within x n v = some (1, v) := by
  unfold f_X4_within
  rw [if_neg (Int32.not_lt.mpr h.1), if_neg (Int32.not_le.mpr h.2)]
theorem wi0 {x n : Int32} {v : jx_V} (h : ¬ (0 ≤ x ∧ x < n)) : f_X4_within x n v = some (0, v) := by
  unfold f_X4_within
  by_cases h1 : x < 0
  · rw [if_pos h1]
  · rw [if_neg h1, if_pos (Int32.not_lt.mp (fun h2 => h ⟨Int32.not_lt.mp h1, h2⟩))]
theorem lg_lt {x y : Int64} (h : x < y) : lg_cmp x y = -1 := by
  have h1 := Int64.lt_iff_toInt_lt.mp h
  have h2 : ¬ x > y := fun c => by have := Int64.lt_iff_toInt_lt.mp c; omega
  have h3 : ¬ x = y := fun c => by rw [c] at h1; omega
  unfold lg_cmp
  rw [if_neg h2, if_neg h3]
theorem lg_gt {x y : Int64} (h : y < x) : lg_cmp x y = 1 := if_pos h
theorem lg_eq {x : Int64} : lg_cmp x x = 0 := by
  unfold lg_cmp
  rw [if_neg (fun c => by have := Int64.lt_iff_toInt_lt.mp c; omega), if_pos rfl]
theorem lg_3 (x y : Int64) : x < y ∨ x = y ∨ y < x := by
  by_cases h1 : x < y
  · exact Or.inl h1
  · by_cases h2 : y < x
    · exact Or.inr (Or.inr h2)
    · refine Or.inr (Or.inl (Int64.toInt_inj.mp ?_))
      have h3 : ¬ x.toInt < y.toInt := fun q => h1 (Int64.lt_iff_toInt_lt.mpr q)
      have h4 : ¬ y.toInt < x.toInt := fun q => h2 (Int64.lt_iff_toInt_lt.mpr q)
      omega
theorem in_1 {x lo hi : Int64} {w : jx_V} (h : lo ≤ x ∧ x ≤ hi) : f_X5_in x lo hi w = some (1, w) := by
  unfold f_X5_in
  have e1 : ¬ lg_cmp x lo < 0 := by
    rcases lg_3 x lo with c | c | c
    · have h1 := Int64.le_iff_toInt_le.mp h.1
      have h2 := Int64.lt_iff_toInt_lt.mp c
      omega
    · rw [c, lg_eq]; decide
    · rw [lg_gt c]; decide
  have e2 : ¬ 0 < lg_cmp x hi := by
    rcases lg_3 x hi with c | c | c
    · rw [lg_lt c]; decide
    · rw [c, lg_eq]; decide
    · have h1 := Int64.le_iff_toInt_le.mp h.2
      have h2 := Int64.lt_iff_toInt_lt.mp c
      omega
  rw [if_neg e1, if_neg e2]
theorem in_0 {x lo hi : Int64} {w : jx_V} (h : ¬ (lo ≤ x ∧ x ≤ hi)) : f_X5_in x lo hi w = some (0, w) := by
  unfold f_X5_in
  by_cases c1 : x < lo
  · rw [lg_lt c1, if_pos (by decide)]
  · have h1 : ¬ x.toInt < lo.toInt := fun q => c1 (Int64.lt_iff_toInt_lt.mpr q)
    have h2 : hi < x := by
      rcases lg_3 x hi with c | c | c
      · have h3 := Int64.lt_iff_toInt_lt.mp c
        exact absurd ⟨Int64.le_iff_toInt_le.mpr (by omega), Int64.le_iff_toInt_le.mpr (by omega)⟩ h
      · exact absurd ⟨Int64.le_iff_toInt_le.mpr (by omega), Int64.le_iff_toInt_le.mpr (by rw [c]; exact Int.le_refl _)⟩ h
      · exact c
    rw [lg_gt h2, if_pos (show (0 : Int32) < 1 by decide)]
    split
    · rfl
    · rfl
theorem bnd {a n lo' : Int32} {k lo : Int64} (hk : k.toInt + 1 = n.toInt) (hl : lo.toInt = lo'.toInt) : (lo ≤ a.toInt64 ∧ a.toInt64 ≤ k) ↔ (lo' ≤ a ∧ a < n) := by
  rw [Int64.le_iff_toInt_le, Int64.le_iff_toInt_le, Int32.le_iff_toInt_le, Int32.lt_iff_toInt_lt, Int32.toInt_toInt64]
  omega
theorem in1 {a n lo' : Int32} {k lo : Int64} {w : jx_V} (hk : k.toInt + 1 = n.toInt) (hl : lo.toInt = lo'.toInt) (h : lo' ≤ a ∧ a < n) : f_X5_in a.toInt64 lo k w = some (1, w) := in_1 ((bnd hk hl).mpr h)
theorem in0 {a n lo' : Int32} {k lo : Int64} {w : jx_V} (hk : k.toInt + 1 = n.toInt) (hl : lo.toInt = lo'.toInt) (h : ¬ (lo' ≤ a ∧ a < n)) : f_X5_in a.toInt64 lo k w = some (0, w) := in_0 (fun q => h ((bnd hk hl).mp q))
theorem rng {a n : Int32} {N : Nat} (hN : n.toInt = N) (h : 0 ≤ a ∧ a < n) : ∃ j, j < N ∧ a = nI j := by
  obtain ⟨j, h1, h2⟩ := nI_of (x := a) (Int32.not_lt.mpr h.1)
  refine ⟨j, ?_, h2⟩
  have := Int32.lt_iff_toInt_lt.mp h.2
  rw [h2, nI_toInt h1, hN] at this
  omega
theorem isLot1 {a : Int32} {w : jx_V} (h : 0 ≤ a ∧ a < 25) : f_X5_isLot a w = some (1, w) := by
  unfold f_X5_isLot
  rw [in1 (n := 25) (lo' := 0) (by decide) (by decide) h]
  rfl
theorem isLot0 {a : Int32} {w : jx_V} (h : ¬ (0 ≤ a ∧ a < 25)) : f_X5_isLot a w = some (0, w) := by
  unfold f_X5_isLot
  rw [in0 (n := 25) (lo' := 0) (by decide) (by decide) h]
  rfl
theorem isOwner1 {a : Int32} {w : jx_V} (h : 0 ≤ a ∧ a < 4) : f_X5_isOwner a w = some (1, w) := by
  unfold f_X5_isOwner
  rw [in1 (n := 4) (lo' := 0) (by decide) (by decide) h]
  rfl
theorem isOwner0 {a : Int32} {w : jx_V} (h : ¬ (0 ≤ a ∧ a < 4)) : f_X5_isOwner a w = some (0, w) := by
  unfold f_X5_isOwner
  rw [in0 (n := 4) (lo' := 0) (by decide) (by decide) h]
  rfl
theorem isHeight1 {a : Int32} {w : jx_V} (h : 0 ≤ a ∧ a < 10) : f_X5_isHeight a w = some (1, w) := by
  unfold f_X5_isHeight
  rw [in1 (n := 10) (lo' := 0) (by decide) (by decide) h]
  rfl
theorem isHeight0 {a : Int32} {w : jx_V} (h : ¬ (0 ≤ a ∧ a < 10)) : f_X5_isHeight a w = some (0, w) := by
  unfold f_X5_isHeight
  rw [in0 (n := 10) (lo' := 0) (by decide) (by decide) h]
  rfl
theorem isOne1 {a : Int32} {w : jx_V} (h : 0 ≤ a ∧ a < 4) : f_X5_isOne a w = some (1, w) := by
  unfold f_X5_isOne
  rw [in1 (n := 4) (lo' := 0) (by decide) (by decide) h]
  rfl
theorem isOne0 {a : Int32} {w : jx_V} (h : ¬ (0 ≤ a ∧ a < 4)) : f_X5_isOne a w = some (0, w) := by
  unfold f_X5_isOne
  rw [in0 (n := 4) (lo' := 0) (by decide) (by decide) h]
  rfl
theorem isW4 (a : Int32) : f_X4_isWindow a v0_X4 = some (0, v0_X4) := by
  unfold f_X4_isWindow
  rw [wi0 (show ¬ (0 ≤ a ∧ a < v0_X4 1 5) from fun h => by
    have h1 := Int32.le_iff_toInt_le.mp h.1
    have h2 := Int32.lt_iff_toInt_lt.mp h.2
    have e : (v0_X4 1 5).toInt = 0 := by decide +kernel
    have e0 : (0 : Int32).toInt = 0 := by decide
    omega)]
  rfl
theorem isW5 (a : Int32) : f_X5_isWindow a v0_X5 = some (0, v0_X5) := by
  unfold f_X5_isWindow
  rw [in_0 (fun h => by
    have h1 := Int64.le_iff_toInt_le.mp h.1
    have h2 := Int64.le_iff_toInt_le.mp h.2
    have e : (Int32.toInt64 (v0_X5 1 1 - 1)).toInt = -1 := by decide +kernel
    have e0 : (0 : Int64).toInt = 0 := by decide
    omega)]
  rfl
theorem e10 : ((1 : Int32) = 0) = False := eq_false (by decide)
