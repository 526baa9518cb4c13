theorem lg_lt {x y : Int64} (h : x < y) : lg_cmp x y = -1 := by
  have h1 := Int64.lt_iff_toInt_lt.mp h
  have h2 : ¬ x > y := fun c => by have := Int64.lt_iff_toInt_lt.mp c; omega
  have h3 : ¬ x = y := fun c => by rw [c] at h1; omega
  unfold lg_cmp
  rw [if_neg h2, if_neg h3]
theorem lg_gt {x y : Int64} (h : y < x) : lg_cmp x y = 1 := if_pos h
theorem m_in' {x lo hi : Int32} {w : jx_V} : f_X5_in x.toInt64 lo.toInt64 hi.toInt64 w = some (if lo ≤ x ∧ x ≤ hi then 1 else 0, w) := by
  have e1 : (lg_cmp x.toInt64 lo.toInt64 < 0) = (x < lo) := by
    apply propext
    by_cases c : x < lo
    · have c' : x.toInt64 < lo.toInt64 := by rw [Int64.lt_iff_toInt_lt, Int32.toInt_toInt64, Int32.toInt_toInt64]; exact Int32.lt_iff_toInt_lt.mp c
      rw [lg_lt c']; simp [c]
    · have c' : ¬ x.toInt64 < lo.toInt64 := by rw [Int64.lt_iff_toInt_lt, Int32.toInt_toInt64, Int32.toInt_toInt64]; exact fun q => c (Int32.lt_iff_toInt_lt.mpr q)
      unfold lg_cmp
      by_cases c2 : x.toInt64 > lo.toInt64
      · simp [c, c2]
      · have c3 : x.toInt64 = lo.toInt64 := by grind
        simp [c, c3]
  have e2 : (0 < lg_cmp x.toInt64 hi.toInt64) = (hi < x) := by
    apply propext
    by_cases c : hi < x
    · have c' : hi.toInt64 < x.toInt64 := by rw [Int64.lt_iff_toInt_lt, Int32.toInt_toInt64, Int32.toInt_toInt64]; exact Int32.lt_iff_toInt_lt.mp c
      rw [lg_gt c']; simp [c]
    · have c' : ¬ hi.toInt64 < x.toInt64 := by rw [Int64.lt_iff_toInt_lt, Int32.toInt_toInt64, Int32.toInt_toInt64]; exact fun q => c (Int32.lt_iff_toInt_lt.mpr q)
      unfold lg_cmp
      by_cases c2 : x.toInt64 = hi.toInt64
      · simp [c, c2]
      · have c3 : ¬ x.toInt64 > hi.toInt64 := c'
        simp [c, c2, c3]
  unfold f_X5_in
  simp only [e1, e2]
  grind
theorem m_in_0_24 {x : Int32} {w : jx_V} : f_X5_in x.toInt64 0 24 w = some (if 0 ≤ x ∧ x ≤ 24 then 1 else 0, w) := m_in' (lo := 0) (hi := 24)
theorem m_in_0_3 {x : Int32} {w : jx_V} : f_X5_in x.toInt64 0 3 w = some (if 0 ≤ x ∧ x ≤ 3 then 1 else 0, w) := m_in' (lo := 0) (hi := 3)
theorem m_in_0_9 {x : Int32} {w : jx_V} : f_X5_in x.toInt64 0 9 w = some (if 0 ≤ x ∧ x ≤ 9 then 1 else 0, w) := m_in' (lo := 0) (hi := 9)
theorem m_in_0_6 {x : Int32} {w : jx_V} : f_X5_in x.toInt64 0 6 w = some (if 0 ≤ x ∧ x ≤ 6 then 1 else 0, w) := m_in' (lo := 0) (hi := 6)
theorem m_in_0_4 {x : Int32} {w : jx_V} : f_X5_in x.toInt64 0 4 w = some (if 0 ≤ x ∧ x ≤ 4 then 1 else 0, w) := m_in' (lo := 0) (hi := 4)
theorem m_in_0_5 {x : Int32} {w : jx_V} : f_X5_in x.toInt64 0 5 w = some (if 0 ≤ x ∧ x ≤ 5 then 1 else 0, w) := m_in' (lo := 0) (hi := 5)
theorem m_in_0_99 {x : Int32} {w : jx_V} : f_X5_in x.toInt64 0 99 w = some (if 0 ≤ x ∧ x ≤ 99 then 1 else 0, w) := m_in' (lo := 0) (hi := 99)
theorem m_in_1_3 {x : Int32} {w : jx_V} : f_X5_in x.toInt64 1 3 w = some (if 1 ≤ x ∧ x ≤ 3 then 1 else 0, w) := m_in' (lo := 1) (hi := 3)
theorem m_in_m1_3 {x : Int32} {w : jx_V} : f_X5_in x.toInt64 (-1) 3 w = some (if -1 ≤ x ∧ x ≤ 3 then 1 else 0, w) := m_in' (lo := -1) (hi := 3)
theorem m_in_0_36 {x : Int32} {w : jx_V} : f_X5_in x.toInt64 0 36 w = some (if 0 ≤ x ∧ x ≤ 36 then 1 else 0, w) := m_in' (lo := 0) (hi := 36)
theorem m_in_1_4 {x : Int32} {w : jx_V} : f_X5_in x.toInt64 1 4 w = some (if 1 ≤ x ∧ x ≤ 4 then 1 else 0, w) := m_in' (lo := 1) (hi := 4)
theorem m_in_3_8 {x : Int32} {w : jx_V} : f_X5_in x.toInt64 3 8 w = some (if 3 ≤ x ∧ x ≤ 8 then 1 else 0, w) := m_in' (lo := 3) (hi := 8)
theorem m_in_1_60 {x : Int32} {w : jx_V} : f_X5_in x.toInt64 1 60 w = some (if 1 ≤ x ∧ x ≤ 60 then 1 else 0, w) := m_in' (lo := 1) (hi := 60)
theorem m_in_0_120 {x : Int32} {w : jx_V} : f_X5_in x.toInt64 0 120 w = some (if 0 ≤ x ∧ x ≤ 120 then 1 else 0, w) := m_in' (lo := 0) (hi := 120)
theorem m_in_1_12 {x : Int32} {w : jx_V} : f_X5_in x.toInt64 1 12 w = some (if 1 ≤ x ∧ x ≤ 12 then 1 else 0, w) := m_in' (lo := 1) (hi := 12)
theorem m_in_l {x : Int32} {w : jx_V} : f_X5_in x.toInt64 97 122 w = some (if 97 ≤ x ∧ x ≤ 122 then 1 else 0, w) := m_in' (lo := 97) (hi := 122)
theorem m_in_d {x : Int32} {w : jx_V} : f_X5_in x.toInt64 48 57 w = some (if 48 ≤ x ∧ x ≤ 57 then 1 else 0, w) := m_in' (lo := 48) (hi := 57)
theorem m_in_m1_24 {x : Int32} {w : jx_V} : f_X5_in x.toInt64 (-1) 24 w = some (if -1 ≤ x ∧ x ≤ 24 then 1 else 0, w) := m_in' (lo := -1) (hi := 24)
theorem m_in_m1_6 {x : Int32} {w : jx_V} : f_X5_in x.toInt64 (-1) 6 w = some (if -1 ≤ x ∧ x ≤ 6 then 1 else 0, w) := m_in' (lo := -1) (hi := 6)
theorem m_in_0_v {x y : Int32} {w : jx_V} : f_X5_in x.toInt64 0 y.toInt64 w = some (if 0 ≤ x ∧ x ≤ y then 1 else 0, w) := m_in' (lo := 0) (hi := y)
theorem bb {c : Prop} [Decidable c] : (¬ ((if c then (1 : Int32) else 0) = 0 ∨ (if c then (1 : Int32) else 0) = 1)) = False := by
  by_cases h : c <;> simp [h]
theorem m_isLot {x w} : f_X5_isLot x w = some (if 0 ≤ x ∧ x ≤ 24 then 1 else 0, w) := by
  unfold f_X5_isLot; simp only [m_in_0_24, Option.bind_some, bb, if_false]
theorem m_isOwner {x w} : f_X5_isOwner x w = some (if 0 ≤ x ∧ x ≤ 3 then 1 else 0, w) := by
  unfold f_X5_isOwner; simp only [m_in_0_3, Option.bind_some, bb, if_false]
theorem m_isOne {x w} : f_X5_isOne x w = some (if 0 ≤ x ∧ x ≤ 3 then 1 else 0, w) := by
  unfold f_X5_isOne; simp only [m_in_0_3, Option.bind_some, bb, if_false]
theorem m_isHeight {x w} : f_X5_isHeight x w = some (if 0 ≤ x ∧ x ≤ 9 then 1 else 0, w) := by
  unfold f_X5_isHeight; simp only [m_in_0_9, Option.bind_some, bb, if_false]
theorem m_isWindow {x} {w : jx_V} : f_X5_isWindow x w = some (if 0 ≤ x ∧ x ≤ w 1 1 - 1 then 1 else 0, w) := by
  unfold f_X5_isWindow; simp only [m_in_0_v, Option.bind_some, bb, if_false]
theorem m_isLetter {x w} : f_X5_isLetter x w = some (if 97 ≤ x ∧ x ≤ 122 then 1 else 0, w) := by
  unfold f_X5_isLetter; simp only [m_in_l, Option.bind_some, bb, if_false]
theorem m_isDigit {x w} : f_X5_isDigit x w = some (if 48 ≤ x ∧ x ≤ 57 then 1 else 0, w) := by
  unfold f_X5_isDigit; simp only [m_in_d, Option.bind_some, bb, if_false]
theorem m_summer {w : jx_V} : f_X5_isSummer w = some (if su (w 1 0) then 1 else 0, w) := by
  unfold f_X5_isSummer; simp only [m_in_3_8, Option.bind_some, bb, if_false]
  unfold su; grind
theorem at_n {j a : Nat} : (11 + 4 * nI j) + nI a = nI (11 + 4 * j + a) := by
  unfold nI; simp [Int32.ofNat_add, Int32.ofNat_mul]
theorem wh_n {j a : Nat} : (111 + 6 * nI j) + nI a = nI (111 + 6 * j + a) := by
  unfold nI; simp [Int32.ofNat_add, Int32.ofNat_mul]
theorem m_its {j a w} (hj : j < 25) (ha : a < 4) : f_X5_its (nI j) (nI a) w = some (w 1 (11 + 4 * j + a), w) := by
  unfold f_X5_its f_X5_at
  simp only [Option.bind_some, at_n, tn (show 11 + 4 * j + a < 2147483648 by omega), ib (show 11 + 4 * j + a < 181 by omega) (by omega), if_false]
theorem m_its0 {j w} (hj : j < 25) : f_X5_its (nI j) 0 w = some (w 1 (11 + 4 * j), w) := m_its (a := 0) hj (by omega)
theorem m_its1 {j w} (hj : j < 25) : f_X5_its (nI j) 1 w = some (w 1 (12 + 4 * j), w) := by rw [show 12 + 4 * j = 11 + 4 * j + 1 by omega]; exact m_its (a := 1) hj (by omega)
theorem m_its2 {j w} (hj : j < 25) : f_X5_its (nI j) 2 w = some (w 1 (13 + 4 * j), w) := by rw [show 13 + 4 * j = 11 + 4 * j + 2 by omega]; exact m_its (a := 2) hj (by omega)
theorem m_its3 {j w} (hj : j < 25) : f_X5_its (nI j) 3 w = some (w 1 (14 + 4 * j), w) := by rw [show 14 + 4 * j = 11 + 4 * j + 3 by omega]; exact m_its (a := 3) hj (by omega)
theorem m_told {j a w} (hj : j < 10) (ha : a < 6) : f_X5_told (nI j) (nI a) w = some (w 1 (111 + 6 * j + a), w) := by
  unfold f_X5_told f_X5_where
  simp only [Option.bind_some, wh_n, tn (show 111 + 6 * j + a < 2147483648 by omega), ib (show 111 + 6 * j + a < 181 by omega) (by omega), if_false]
theorem m_told0 {j w} (hj : j < 10) : f_X5_told (nI j) 0 w = some (w 1 (111 + 6 * j + 0), w) := m_told (a := 0) hj (by omega)
theorem m_told1 {j w} (hj : j < 10) : f_X5_told (nI j) 1 w = some (w 1 (111 + 6 * j + 1), w) := m_told (a := 1) hj (by omega)
theorem m_told2 {j w} (hj : j < 10) : f_X5_told (nI j) 2 w = some (w 1 (111 + 6 * j + 2), w) := m_told (a := 2) hj (by omega)
theorem m_told3 {j w} (hj : j < 10) : f_X5_told (nI j) 3 w = some (w 1 (111 + 6 * j + 3), w) := m_told (a := 3) hj (by omega)
theorem m_told4 {j w} (hj : j < 10) : f_X5_told (nI j) 4 w = some (w 1 (111 + 6 * j + 4), w) := m_told (a := 4) hj (by omega)
theorem m_told5 {j w} (hj : j < 10) : f_X5_told (nI j) 5 w = some (w 1 (111 + 6 * j + 5), w) := m_told (a := 5) hj (by omega)
theorem m_thing {j} {w : jx_V} (hj : j < 25) : f_X5_isThing (nI j) w = some (if w 1 (11 + 4 * j) < 0 then 0 else 1, w) := by
  unfold f_X5_isThing
  simp only [m_its0 hj, Option.bind_some]
  grind
theorem m_stands {j} {w : jx_V} (hj : j < 25) (ht : 0 ≤ w 1 (11 + 4 * j)) : f_X5_stands (nI j) w = some (st (mT (w 1)) j, w) := by
  unfold f_X5_stands st
  simp only [m_its0 hj, m_its2 hj, m_summer, Option.bind_some, mK hj, mH hj ht, cap]
  have e : (mT (w 1)).m = w 1 0 := rfl
  rw [e]
  cases s : su (w 1 0) <;> simp only [s, if_true, if_false, Bool.false_eq_true, Int32.add_zero] <;> grind
theorem m_grows {j} {w : jx_V} (hj : j < 25) : f_X5_grows (nI j) w = some (gr (mT (w 1)) j, w) := by
  unfold f_X5_grows gr
  simp only [m_its0 hj, Option.bind_some, mK hj]
  have e : (mT (w 1)).m = w 1 0 := rfl
  rw [e]
  grind
theorem p3_n {q : Nat} : 3 + nI q = nI (3 + q) := by unfold nI; simp [Int32.ofNat_add]
theorem m_price {j} {w : jx_V} (hT : OK (mT (w 1))) (hj : j < 25) (ht : 0 ≤ w 1 (11 + 4 * j)) : f_X5_priceOf (nI j) w = some (pc (mT (w 1)) j, w) := by
  obtain ⟨q, hq, e⟩ := hT.p j
  have e1 := e
  rw [mP hj ht] at e1
  unfold f_X5_priceOf pc
  simp only [m_its0 hj, m_its3 hj, m_summer, Option.bind_some, mK hj, e, e1, p3_n, ib (show 3 + q < 181 by omega) (by omega), tn (show q < 2147483648 by omega), tn (show 3 + q < 2147483648 by omega), mC hq, if_false]
  have e : (mT (w 1)).m = w 1 0 := rfl
  rw [e]
  cases s : su (w 1 0) <;> simp only [s, if_true, if_false, Bool.false_eq_true, Int32.add_zero] <;> grind
