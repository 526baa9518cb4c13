theorem tn {j : Nat} (h : j < 2147483648) : (nI j).toNatClampNeg = j := by
  unfold nI
  simp [Int32.toNatClampNeg, Int32.toInt_ofNat_of_lt (by omega : j < 2^31)]
theorem nI_add1 (j : Nat) : nI j + 1 = nI (j+1) := by unfold nI; simp [Int32.ofNat_add]
theorem pI_toInt {j : Nat} (h : j < 2147483648) : (nI j).toInt = j := Int32.toInt_ofNat_of_lt (by omega : j < 2^31)
theorem nI_ex {x : Int32} {b : Nat} (hb : b < 2147483648) (h : 0 ≤ x) (h2 : x < nI b) : ∃ j, j < b ∧ x = nI j := by
  have h3 := Int32.le_iff_toInt_le.mp h
  have h4 := Int32.lt_iff_toInt_lt.mp h2
  rw [pI_toInt hb] at h4
  refine ⟨x.toInt.toNat, by simp at h3; omega, ?_⟩
  apply Int32.toInt_inj.mp
  rw [pI_toInt (by omega)]
  simp at h3; omega
theorem nI_neg {j : Nat} (h : j < 2147483648) : ¬ nI j < 0 := by
  intro c
  have := Int32.lt_iff_toInt_lt.mp c
  rw [pI_toInt h] at this
  simp at this; omega
theorem pI_pos {j : Nat} (h : j < 2147483648) : 0 ≤ nI j := Int32.not_lt.mp (nI_neg h)
theorem ib {j b : Nat} (h : j < b) (hb : b ≤ 100000) : (nI j < 0 ∨ b ≤ j) = False := by
  simp [nI_neg (show j < 2147483648 by omega)]
  omega
theorem pI_le {a b : Nat} (ha : a < 2147483648) (hb : b < 2147483648) : (nI a ≤ nI b) = (a ≤ b) := by
  apply propext
  rw [Int32.le_iff_toInt_le, pI_toInt ha, pI_toInt hb]; omega
theorem pI_lt {a b : Nat} (ha : a < 2147483648) (hb : b < 2147483648) : (nI a < nI b) = (a < b) := by
  apply propext
  rw [Int32.lt_iff_toInt_lt, pI_toInt ha, pI_toInt hb]; omega
theorem pI_eq {a b : Nat} (ha : a < 2147483648) (hb : b < 2147483648) : (nI a = nI b) = (a = b) := by
  apply propext
  rw [← Int32.toInt_inj, pI_toInt ha, pI_toInt hb]; omega
theorem up_c {v : jx_V} {h i : Nat} {x : Int32} : jx_up v h i x h = upd (v h) i x := by simp [jx_up, jx_set]
theorem up_s {v : jx_V} {h i : Nat} {x : Int32} : jx_up v h i x h i = x := by simp [jx_up, jx_set, upd]
theorem up_g (v : jx_V) (h i : Nat) (x : Int32) (c j : Nat) : jx_up v h i x c j = if c = h ∧ j = i then x else v c j := by
  unfold jx_up jx_set upd; by_cases h1 : c = h <;> by_cases h2 : j = i <;> simp [h1, h2]
abbrev Tn : Type := (Nat → Int32) × (Nat → Int32) × (Nat → Int32) × (Nat → Int32) × (Nat → Nat → Int32) × (Nat → Int32) × (Nat → Int32) × (Nat → Int32) × Int32 × Int32 × Int32
def Tn.K (T : Tn) : Nat → Int32 := T.1
def Tn.O (T : Tn) : Nat → Int32 := T.2.1
def Tn.H (T : Tn) : Nat → Int32 := T.2.2.1
def Tn.P (T : Tn) : Nat → Int32 := T.2.2.2.1
def Tn.W (T : Tn) : Nat → Nat → Int32 := T.2.2.2.2.1
def Tn.C (T : Tn) : Nat → Int32 := T.2.2.2.2.2.1
def Tn.U (T : Tn) : Nat → Int32 := T.2.2.2.2.2.2.1
def Tn.S (T : Tn) : Nat → Int32 := T.2.2.2.2.2.2.2.1
def Tn.n (T : Tn) : Int32 := T.2.2.2.2.2.2.2.2.1
def Tn.m (T : Tn) : Int32 := T.2.2.2.2.2.2.2.2.2.1
def Tn.z (T : Tn) : Int32 := T.2.2.2.2.2.2.2.2.2.2
theorem Tx {T T' : Tn} (hK : T.K = T'.K) (hO : T.O = T'.O) (hH : T.H = T'.H) (hP : T.P = T'.P) (hW : T.W = T'.W) (hC : T.C = T'.C) (hU : T.U = T'.U) (hS : T.S = T'.S) (hn : T.n = T'.n) (hm : T.m = T'.m) (hz : T.z = T'.z) : T = T' :=
  Prod.ext hK (Prod.ext hO (Prod.ext hH (Prod.ext hP (Prod.ext hW (Prod.ext hC (Prod.ext hU (Prod.ext hS (Prod.ext hn (Prod.ext hm hz)))))))))
def mkT (K O H P : Nat → Int32) (W : Nat → Nat → Int32) (C U S : Nat → Int32) (n m z : Int32) : Tn :=
  (fun l => if l < 25 then K l else -1,
   fun l => if l < 25 ∧ 0 ≤ K l then O l else 0,
   fun l => if l < 25 ∧ 0 ≤ K l then H l else 0,
   fun l => if l < 25 ∧ 0 ≤ K l then P l else 0,
   fun a i => if a < 6 ∧ i < n.toNatClampNeg then W a i else 0,
   fun p => if p < 4 then C p else 0,
   fun p => if p < 4 then U p else 0,
   fun p => if p < 10 then S p else 0,
   n, m, z)
def cT (h : Nat) (v : jx_V) : Tn := mkT (v (h+3)) (v (h+4)) (v (h+5)) (v (h+6)) (fun a => v (h+7+a)) (v (h+13)) (v (h+14)) (v (h+15)) (v h 5) (v h 6) (v h 7)
def mT (s : Nat → Int32) : Tn := mkT (fun l => s (11+4*l)) (fun l => s (12+4*l)) (fun l => s (13+4*l)) (fun l => s (14+4*l)) (fun a i => s (111+6*i+a)) (fun p => s (3+p)) (fun o => s (7+o)) (fun k => s (171+k)) (s 1) (s 0) (s 2)
def OK (T : Tn) : Prop := (∀ l, T.K l = -1 ∨ 0 ≤ T.K l) ∧ (∀ l, ∃ j, j < 4 ∧ T.O l = nI j) ∧ (∀ l, ∃ j, j < 10 ∧ T.H l = nI j) ∧ (∀ l, ∃ j, j < 4 ∧ T.P l = nI j) ∧ (∀ i, ∃ j, j < 25 ∧ T.W 0 i = nI j) ∧ (∀ i, ∃ j, j < 10 ∧ T.W 1 i = nI j) ∧ (∀ i, ∃ j, j < 4 ∧ T.W 2 i = nI j) ∧ (∀ i, ∃ j, j < 4 ∧ T.W 3 i = nI j) ∧ (∀ i, T.W 4 i = -1 ∨ ∃ j, j < 4 ∧ T.W 4 i = nI j) ∧ (∃ j, j ≤ 10 ∧ T.n = nI j) ∧ (∀ k, T.S k = -1 ∨ ∃ j, j < 25 ∧ T.S k = nI j)
theorem OK.mk {T : Tn} (xk : ∀ l, T.K l = -1 ∨ 0 ≤ T.K l) (x0 : ∀ l, ∃ j, j < 4 ∧ T.O l = nI j) (x1 : ∀ l, ∃ j, j < 10 ∧ T.H l = nI j) (x2 : ∀ l, ∃ j, j < 4 ∧ T.P l = nI j) (x3 : ∀ i, ∃ j, j < 25 ∧ T.W 0 i = nI j) (x4 : ∀ i, ∃ j, j < 10 ∧ T.W 1 i = nI j) (x5 : ∀ i, ∃ j, j < 4 ∧ T.W 2 i = nI j) (x6 : ∀ i, ∃ j, j < 4 ∧ T.W 3 i = nI j) (x7 : ∀ i, T.W 4 i = -1 ∨ ∃ j, j < 4 ∧ T.W 4 i = nI j) (x8 : ∃ j, j ≤ 10 ∧ T.n = nI j) (x9 : ∀ k, T.S k = -1 ∨ ∃ j, j < 25 ∧ T.S k = nI j) : OK T := And.intro xk (And.intro x0 (And.intro x1 (And.intro x2 (And.intro x3 (And.intro x4 (And.intro x5 (And.intro x6 (And.intro x7 (And.intro x8 x9)))))))))
theorem OK.k {T : Tn} (h : OK T) : ∀ l, T.K l = -1 ∨ 0 ≤ T.K l := h.1
theorem OK.o {T : Tn} (h : OK T) : ∀ l, ∃ j, j < 4 ∧ T.O l = nI j := h.2.1
theorem OK.h {T : Tn} (h : OK T) : ∀ l, ∃ j, j < 10 ∧ T.H l = nI j := h.2.2.1
theorem OK.p {T : Tn} (h : OK T) : ∀ l, ∃ j, j < 4 ∧ T.P l = nI j := h.2.2.2.1
theorem OK.w0 {T : Tn} (h : OK T) : ∀ i, ∃ j, j < 25 ∧ T.W 0 i = nI j := h.2.2.2.2.1
theorem OK.w1 {T : Tn} (h : OK T) : ∀ i, ∃ j, j < 10 ∧ T.W 1 i = nI j := h.2.2.2.2.2.1
theorem OK.w2 {T : Tn} (h : OK T) : ∀ i, ∃ j, j < 4 ∧ T.W 2 i = nI j := h.2.2.2.2.2.2.1
theorem OK.w3 {T : Tn} (h : OK T) : ∀ i, ∃ j, j < 4 ∧ T.W 3 i = nI j := h.2.2.2.2.2.2.2.1
theorem OK.w4 {T : Tn} (h : OK T) : ∀ i, T.W 4 i = -1 ∨ ∃ j, j < 4 ∧ T.W 4 i = nI j := h.2.2.2.2.2.2.2.2.1
theorem OK.n {T : Tn} (h : OK T) : ∃ j, j ≤ 10 ∧ T.n = nI j := h.2.2.2.2.2.2.2.2.2.1
theorem OK.s {T : Tn} (h : OK T) : ∀ k, T.S k = -1 ∨ ∃ j, j < 25 ∧ T.S k = nI j := h.2.2.2.2.2.2.2.2.2.2
def su (m : Int32) : Bool := decide (¬ (m - m / 12 * 12 < 3) ∧ ¬ (8 < m - m / 12 * 12))
def cap (x : Int32) : Int32 := if 9 ≤ x then 9 else x
def st (T : Tn) (l : Nat) : Int32 :=
  if T.K l = 1 ∨ T.K l = 3 then cap (T.H l + (if su T.m then 2 else 0))
  else if T.K l = 4 then (if T.m - T.m / 2 * 2 = 1 then 0 else cap (T.H l))
  else if T.K l = 6 then cap (T.H l + 3) else cap (T.H l)
def gr (T : Tn) (l : Nat) : Int32 :=
  if T.K l = 1 then (if T.m - T.m / 4 * 4 = 3 then 1 else 0)
  else if T.K l = 3 then (if T.m - T.m / 4 * 4 = 3 ∨ T.m - T.m / 4 * 4 = 1 then 1 else 0) else 0
def pc (T : Tn) (l : Nat) : Int32 :=
  if T.K l = 1 ∨ T.K l = 3 then T.C (T.P l).toNatClampNeg + (if su T.m then 1 else 0)
  else if T.K l = 2 ∨ T.K l = 4 then (if T.P l = 0 then 0 else T.C (T.P l).toNatClampNeg)
  else if T.K l = 5 ∨ T.K l = 6 then 2 * T.C (T.P l).toNatClampNeg else T.C (T.P l).toNatClampNeg
theorem cK {h v j} (hj : j < 25) : (cT h v).K j = v (h+3) j := if_pos hj
theorem cO {h v j} (hj : j < 25) (ht : 0 ≤ v (h+3) j) : (cT h v).O j = v (h+4) j := if_pos ⟨hj, ht⟩
theorem cH {h v j} (hj : j < 25) (ht : 0 ≤ v (h+3) j) : (cT h v).H j = v (h+5) j := if_pos ⟨hj, ht⟩
theorem cP {h v j} (hj : j < 25) (ht : 0 ≤ v (h+3) j) : (cT h v).P j = v (h+6) j := if_pos ⟨hj, ht⟩
theorem cC {h v j} (hj : j < 4) : (cT h v).C j = v (h+13) j := if_pos hj
theorem cW {h v a i} (ha : a < 6) (hi : i < (v h 5).toNatClampNeg) : (cT h v).W a i = v (h+7+a) i := if_pos ⟨ha, hi⟩
theorem mK {s j} (hj : j < 25) : (mT s).K j = s (11+4*j) := if_pos hj
theorem mO {s} {j : Nat} (hj : j < 25) (ht : 0 ≤ s (11+4*j)) : (mT s).O j = s (12+4*j) := if_pos ⟨hj, ht⟩
theorem mH {s} {j : Nat} (hj : j < 25) (ht : 0 ≤ s (11+4*j)) : (mT s).H j = s (13+4*j) := if_pos ⟨hj, ht⟩
theorem mP {s} {j : Nat} (hj : j < 25) (ht : 0 ≤ s (11+4*j)) : (mT s).P j = s (14+4*j) := if_pos ⟨hj, ht⟩
theorem mC {s} {j : Nat} (hj : j < 4) : (mT s).C j = s (3+j) := if_pos hj
theorem mW {s} {a i : Nat} (ha : a < 6) (hi : i < (s 1).toNatClampNeg) : (mT s).W a i = s (111+6*i+a) := if_pos ⟨ha, hi⟩
-- the one side
theorem x_taken {h j v} (hj : j < 25) : f_X3_isTaken h (nI j) v = some (if v (h+3) j < 0 then 0 else 1, v) := by
  unfold f_X3_isTaken
  simp only [ib hj (by omega), if_false, tn (show j < 2147483648 by omega)]
  grind
theorem x_summer {h v} : f_X3_isSummer h v = some (if su (v h 6) then 1 else 0, v) := by
  unfold f_X3_isSummer su
  by_cases h1 : v h 6 - v h 6 / 12 * 12 < 3
  · simp [h1]
  · by_cases h2 : 8 < v h 6 - v h 6 / 12 * 12
    · simp [h1, h2]
    · simp [h1, h2]
theorem j_min {a b v} : f_J9_min_7cf53 a b v = some (if a ≤ b then a else b, v) := by
  unfold f_J9_min_7cf53; grind
theorem j_max {a b v} : f_J9_max_7cf53 a b v = some (if b ≤ a then a else b, v) := by
  unfold f_J9_max_7cf53; grind
theorem x_standing {h j v} (hj : j < 25) (ht : 0 ≤ v (h+3) j) : f_X3_standing h (nI j) v = some (st (cT h v) j, v) := by
  unfold f_X3_standing st
  simp only [ib hj (by omega), if_false, tn (show j < 2147483648 by omega), x_summer, j_min, Option.bind_some, cK hj, cH hj ht, cap]
  have e : (cT h v).m = v h 6 := rfl
  rw [e]
  cases s : su (v h 6) <;> simp only [s, if_true, if_false, Bool.false_eq_true, Int32.add_zero] <;> grind
theorem x_growth {h j v} (hj : j < 25) : f_X3_growth h (nI j) v = some (gr (cT h v) j, v) := by
  unfold f_X3_growth gr
  simp only [ib hj (by omega), if_false, tn (show j < 2147483648 by omega), Option.bind_some, cK hj]
  have e : (cT h v).m = v h 6 := rfl
  rw [e]
  grind
theorem x_price {h j v} (hT : OK (cT h v)) (hj : j < 25) (ht : 0 ≤ v (h+3) j) : f_X3_squarePrice h (nI j) v = some (pc (cT h v) j, v) := by
  obtain ⟨q, hq, e⟩ := hT.p j
  have e1 := e
  rw [cP hj ht] at e1
  unfold f_X3_squarePrice pc
  simp only [ib hj (by omega), if_false, tn (show j < 2147483648 by omega), x_summer, Option.bind_some, cK hj, e, e1, ib hq (by omega), tn (show q < 2147483648 by omega), cC hq, Int32.add_zero]
  have e : (cT h v).m = v h 6 := rfl
  rw [e]
  cases s : su (v h 6) <;> simp only [s, if_true, if_false, Bool.false_eq_true, Int32.add_zero] <;> grind
theorem lg_lt {x y : Int64} (h : x < y) : lg_cmp x y = -1 := by
  have h1 := Int64.lt_iff_toInt_lt.mp h
  have h2 : ¬ x > y := fun c => by have := Int64.lt_iff_toInt_lt.mp c; omega
  have h3 : ¬ x = y := fun c => by rw [c] at h1; omega
  unfold lg_cmp
  rw [if_neg h2, if_neg h3]
theorem lg_gt {x y : Int64} (h : y < x) : lg_cmp x y = 1 := if_pos h
theorem m_in' {x lo hi : Int32} {w : jx_V} : f_X5_in x.toInt64 lo.toInt64 hi.toInt64 w = some (if lo ≤ x ∧ x ≤ hi then 1 else 0, w) := by
  have e1 : (lg_cmp x.toInt64 lo.toInt64 < 0) = (x < lo) := by
    apply propext
    by_cases c : x < lo
    · have c' : x.toInt64 < lo.toInt64 := by rw [Int64.lt_iff_toInt_lt, Int32.toInt_toInt64, Int32.toInt_toInt64]; exact Int32.lt_iff_toInt_lt.mp c
      rw [lg_lt c']; simp [c]
    · have c' : ¬ x.toInt64 < lo.toInt64 := by rw [Int64.lt_iff_toInt_lt, Int32.toInt_toInt64, Int32.toInt_toInt64]; exact fun q => c (Int32.lt_iff_toInt_lt.mpr q)
      unfold lg_cmp
      by_cases c2 : x.toInt64 > lo.toInt64
      · simp [c, c2]
      · have c3 : x.toInt64 = lo.toInt64 := by grind
        simp [c, c3]
  have e2 : (0 < lg_cmp x.toInt64 hi.toInt64) = (hi < x) := by
    apply propext
    by_cases c : hi < x
    · have c' : hi.toInt64 < x.toInt64 := by rw [Int64.lt_iff_toInt_lt, Int32.toInt_toInt64, Int32.toInt_toInt64]; exact Int32.lt_iff_toInt_lt.mp c
      rw [lg_gt c']; simp [c]
    · have c' : ¬ hi.toInt64 < x.toInt64 := by rw [Int64.lt_iff_toInt_lt, Int32.toInt_toInt64, Int32.toInt_toInt64]; exact fun q => c (Int32.lt_iff_toInt_lt.mpr q)
      unfold lg_cmp
      by_cases c2 : x.toInt64 = hi.toInt64
      · simp [c, c2]
      · have c3 : ¬ x.toInt64 > hi.toInt64 := c'
        simp [c, c2, c3]
  unfold f_X5_in
  simp only [e1, e2]
  grind
theorem m_in_0_24 {x : Int32} {w : jx_V} : f_X5_in x.toInt64 0 24 w = some (if 0 ≤ x ∧ x ≤ 24 then 1 else 0, w) := m_in' (lo := 0) (hi := 24)
theorem m_in_0_3 {x : Int32} {w : jx_V} : f_X5_in x.toInt64 0 3 w = some (if 0 ≤ x ∧ x ≤ 3 then 1 else 0, w) := m_in' (lo := 0) (hi := 3)
theorem m_in_0_9 {x : Int32} {w : jx_V} : f_X5_in x.toInt64 0 9 w = some (if 0 ≤ x ∧ x ≤ 9 then 1 else 0, w) := m_in' (lo := 0) (hi := 9)
theorem m_in_0_6 {x : Int32} {w : jx_V} : f_X5_in x.toInt64 0 6 w = some (if 0 ≤ x ∧ x ≤ 6 then 1 else 0, w) := m_in' (lo := 0) (hi := 6)
theorem m_in_0_4 {x : Int32} {w : jx_V} : f_X5_in x.toInt64 0 4 w = some (if 0 ≤ x ∧ x ≤ 4 then 1 else 0, w) := m_in' (lo := 0) (hi := 4)
theorem m_in_0_5 {x : Int32} {w : jx_V} : f_X5_in x.toInt64 0 5 w = some (if 0 ≤ x ∧ x ≤ 5 then 1 else 0, w) := m_in' (lo := 0) (hi := 5)
theorem m_in_0_99 {x : Int32} {w : jx_V} : f_X5_in x.toInt64 0 99 w = some (if 0 ≤ x ∧ x ≤ 99 then 1 else 0, w) := m_in' (lo := 0) (hi := 99)
theorem m_in_1_3 {x : Int32} {w : jx_V} : f_X5_in x.toInt64 1 3 w = some (if 1 ≤ x ∧ x ≤ 3 then 1 else 0, w) := m_in' (lo := 1) (hi := 3)
theorem m_in_m1_3 {x : Int32} {w : jx_V} : f_X5_in x.toInt64 (-1) 3 w = some (if -1 ≤ x ∧ x ≤ 3 then 1 else 0, w) := m_in' (lo := -1) (hi := 3)
theorem m_in_0_36 {x : Int32} {w : jx_V} : f_X5_in x.toInt64 0 36 w = some (if 0 ≤ x ∧ x ≤ 36 then 1 else 0, w) := m_in' (lo := 0) (hi := 36)
theorem m_in_1_4 {x : Int32} {w : jx_V} : f_X5_in x.toInt64 1 4 w = some (if 1 ≤ x ∧ x ≤ 4 then 1 else 0, w) := m_in' (lo := 1) (hi := 4)
theorem m_in_3_8 {x : Int32} {w : jx_V} : f_X5_in x.toInt64 3 8 w = some (if 3 ≤ x ∧ x ≤ 8 then 1 else 0, w) := m_in' (lo := 3) (hi := 8)
theorem m_in_1_60 {x : Int32} {w : jx_V} : f_X5_in x.toInt64 1 60 w = some (if 1 ≤ x ∧ x ≤ 60 then 1 else 0, w) := m_in' (lo := 1) (hi := 60)
theorem m_in_0_120 {x : Int32} {w : jx_V} : f_X5_in x.toInt64 0 120 w = some (if 0 ≤ x ∧ x ≤ 120 then 1 else 0, w) := m_in' (lo := 0) (hi := 120)
theorem m_in_1_12 {x : Int32} {w : jx_V} : f_X5_in x.toInt64 1 12 w = some (if 1 ≤ x ∧ x ≤ 12 then 1 else 0, w) := m_in' (lo := 1) (hi := 12)
theorem m_in_l {x : Int32} {w : jx_V} : f_X5_in x.toInt64 97 122 w = some (if 97 ≤ x ∧ x ≤ 122 then 1 else 0, w) := m_in' (lo := 97) (hi := 122)
theorem m_in_d {x : Int32} {w : jx_V} : f_X5_in x.toInt64 48 57 w = some (if 48 ≤ x ∧ x ≤ 57 then 1 else 0, w) := m_in' (lo := 48) (hi := 57)
theorem m_in_m1_24 {x : Int32} {w : jx_V} : f_X5_in x.toInt64 (-1) 24 w = some (if -1 ≤ x ∧ x ≤ 24 then 1 else 0, w) := m_in' (lo := -1) (hi := 24)
theorem m_in_m1_6 {x : Int32} {w : jx_V} : f_X5_in x.toInt64 (-1) 6 w = some (if -1 ≤ x ∧ x ≤ 6 then 1 else 0, w) := m_in' (lo := -1) (hi := 6)
theorem m_in_0_v {x y : Int32} {w : jx_V} : f_X5_in x.toInt64 0 y.toInt64 w = some (if 0 ≤ x ∧ x ≤ y then 1 else 0, w) := m_in' (lo := 0) (hi := y)
theorem bb {c : Prop} [Decidable c] : (¬ ((if c then (1 : Int32) else 0) = 0 ∨ (if c then (1 : Int32) else 0) = 1)) = False := by
  by_cases h : c <;> simp [h]
theorem m_isLot {x w} : f_X5_isLot x w = some (if 0 ≤ x ∧ x ≤ 24 then 1 else 0, w) := by
  unfold f_X5_isLot; simp only [m_in_0_24, Option.bind_some, bb, if_false]
theorem m_isOwner {x w} : f_X5_isOwner x w = some (if 0 ≤ x ∧ x ≤ 3 then 1 else 0, w) := by
  unfold f_X5_isOwner; simp only [m_in_0_3, Option.bind_some, bb, if_false]
theorem m_isOne {x w} : f_X5_isOne x w = some (if 0 ≤ x ∧ x ≤ 3 then 1 else 0, w) := by
  unfold f_X5_isOne; simp only [m_in_0_3, Option.bind_some, bb, if_false]
theorem m_isHeight {x w} : f_X5_isHeight x w = some (if 0 ≤ x ∧ x ≤ 9 then 1 else 0, w) := by
  unfold f_X5_isHeight; simp only [m_in_0_9, Option.bind_some, bb, if_false]
theorem m_isWindow {x} {w : jx_V} : f_X5_isWindow x w = some (if 0 ≤ x ∧ x ≤ w 1 1 - 1 then 1 else 0, w) := by
  unfold f_X5_isWindow; simp only [m_in_0_v, Option.bind_some, bb, if_false]
theorem m_isLetter {x w} : f_X5_isLetter x w = some (if 97 ≤ x ∧ x ≤ 122 then 1 else 0, w) := by
  unfold f_X5_isLetter; simp only [m_in_l, Option.bind_some, bb, if_false]
theorem m_isDigit {x w} : f_X5_isDigit x w = some (if 48 ≤ x ∧ x ≤ 57 then 1 else 0, w) := by
  unfold f_X5_isDigit; simp only [m_in_d, Option.bind_some, bb, if_false]
theorem m_summer {w : jx_V} : f_X5_isSummer w = some (if su (w 1 0) then 1 else 0, w) := by
  unfold f_X5_isSummer; simp only [m_in_3_8, Option.bind_some, bb, if_false]
  unfold su; grind
theorem at_n {j a : Nat} : (11 + 4 * nI j) + nI a = nI (11 + 4 * j + a) := by
  unfold nI; simp [Int32.ofNat_add, Int32.ofNat_mul]
theorem wh_n {j a : Nat} : (111 + 6 * nI j) + nI a = nI (111 + 6 * j + a) := by
  unfold nI; simp [Int32.ofNat_add, Int32.ofNat_mul]
theorem m_its {j a w} (hj : j < 25) (ha : a < 4) : f_X5_its (nI j) (nI a) w = some (w 1 (11 + 4 * j + a), w) := by
  unfold f_X5_its f_X5_at
  simp only [Option.bind_some, at_n, tn (show 11 + 4 * j + a < 2147483648 by omega), ib (show 11 + 4 * j + a < 181 by omega) (by omega), if_false]
theorem m_its0 {j w} (hj : j < 25) : f_X5_its (nI j) 0 w = some (w 1 (11 + 4 * j), w) := m_its (a := 0) hj (by omega)
theorem m_its1 {j w} (hj : j < 25) : f_X5_its (nI j) 1 w = some (w 1 (12 + 4 * j), w) := by rw [show 12 + 4 * j = 11 + 4 * j + 1 by omega]; exact m_its (a := 1) hj (by omega)
theorem m_its2 {j w} (hj : j < 25) : f_X5_its (nI j) 2 w = some (w 1 (13 + 4 * j), w) := by rw [show 13 + 4 * j = 11 + 4 * j + 2 by omega]; exact m_its (a := 2) hj (by omega)
theorem m_its3 {j w} (hj : j < 25) : f_X5_its (nI j) 3 w = some (w 1 (14 + 4 * j), w) := by rw [show 14 + 4 * j = 11 + 4 * j + 3 by omega]; exact m_its (a := 3) hj (by omega)
theorem m_told {j a w} (hj : j < 10) (ha : a < 6) : f_X5_told (nI j) (nI a) w = some (w 1 (111 + 6 * j + a), w) := by
  unfold f_X5_told f_X5_where
  simp only [Option.bind_some, wh_n, tn (show 111 + 6 * j + a < 2147483648 by omega), ib (show 111 + 6 * j + a < 181 by omega) (by omega), if_false]
theorem m_told0 {j w} (hj : j < 10) : f_X5_told (nI j) 0 w = some (w 1 (111 + 6 * j + 0), w) := m_told (a := 0) hj (by omega)
theorem m_told1 {j w} (hj : j < 10) : f_X5_told (nI j) 1 w = some (w 1 (111 + 6 * j + 1), w) := m_told (a := 1) hj (by omega)
theorem m_told2 {j w} (hj : j < 10) : f_X5_told (nI j) 2 w = some (w 1 (111 + 6 * j + 2), w) := m_told (a := 2) hj (by omega)
theorem m_told3 {j w} (hj : j < 10) : f_X5_told (nI j) 3 w = some (w 1 (111 + 6 * j + 3), w) := m_told (a := 3) hj (by omega)
theorem m_told4 {j w} (hj : j < 10) : f_X5_told (nI j) 4 w = some (w 1 (111 + 6 * j + 4), w) := m_told (a := 4) hj (by omega)
theorem m_told5 {j w} (hj : j < 10) : f_X5_told (nI j) 5 w = some (w 1 (111 + 6 * j + 5), w) := m_told (a := 5) hj (by omega)
theorem m_thing {j} {w : jx_V} (hj : j < 25) : f_X5_isThing (nI j) w = some (if w 1 (11 + 4 * j) < 0 then 0 else 1, w) := by
  unfold f_X5_isThing
  simp only [m_its0 hj, Option.bind_some]
  grind
theorem m_stands {j} {w : jx_V} (hj : j < 25) (ht : 0 ≤ w 1 (11 + 4 * j)) : f_X5_stands (nI j) w = some (st (mT (w 1)) j, w) := by
  unfold f_X5_stands st
  simp only [m_its0 hj, m_its2 hj, m_summer, Option.bind_some, mK hj, mH hj ht, cap]
  have e : (mT (w 1)).m = w 1 0 := rfl
  rw [e]
  cases s : su (w 1 0) <;> simp only [s, if_true, if_false, Bool.false_eq_true, Int32.add_zero] <;> grind
theorem m_grows {j} {w : jx_V} (hj : j < 25) : f_X5_grows (nI j) w = some (gr (mT (w 1)) j, w) := by
  unfold f_X5_grows gr
  simp only [m_its0 hj, Option.bind_some, mK hj]
  have e : (mT (w 1)).m = w 1 0 := rfl
  rw [e]
  grind
theorem p3_n {q : Nat} : 3 + nI q = nI (3 + q) := by unfold nI; simp [Int32.ofNat_add]
theorem m_price {j} {w : jx_V} (hT : OK (mT (w 1))) (hj : j < 25) (ht : 0 ≤ w 1 (11 + 4 * j)) : f_X5_priceOf (nI j) w = some (pc (mT (w 1)) j, w) := by
  obtain ⟨q, hq, e⟩ := hT.p j
  have e1 := e
  rw [mP hj ht] at e1
  unfold f_X5_priceOf pc
  simp only [m_its0 hj, m_its3 hj, m_summer, Option.bind_some, mK hj, e, e1, p3_n, ib (show 3 + q < 181 by omega) (by omega), tn (show q < 2147483648 by omega), tn (show 3 + q < 2147483648 by omega), mC hq, if_false]
  have e : (mT (w 1)).m = w 1 0 := rfl
  rw [e]
  cases s : su (w 1 0) <;> simp only [s, if_true, if_false, Bool.false_eq_true, Int32.add_zero] <;> grind
def nl (x way : Int32) : Int32 := if 0 ≤ x then (if way = 0 then (if x < 5 then -1 else x - 5) else if way = 1 then (if 4 ≤ x - x / 5 * 5 then -1 else x + 1) else if way = 2 then (if 20 ≤ x then -1 else x + 5) else if x - x / 5 * 5 ≤ 0 then -1 else x - 1) else -1
theorem x_next {x way v} : f_X0_nextLot x way v = some (nl x way, v) := by
  unfold f_X0_nextLot nl; grind
def fd (a b : Int32) : Int32 := if 0 ≤ (a ^^^ b) then a / b else if a / b * b = a then a / b else a / b - 1
theorem j_fd {a b v} (hb : b ≠ 0) : f_J9_floorDiv_7cf53 a b v = some (fd a b, v) := by
  unfold f_J9_floorDiv_7cf53 fd; grind
def lt (T : Tn) (i : Nat) : Nat → Int32
  | 0 => T.W 0 i
  | k + 1 => nl (lt T i k) (T.W 2 i)
theorem nl_r : ∀ j, j < 25 → ∀ a, a < 4 → nl (nI j) (nI a) = -1 ∨ ∃ q, q < 25 ∧ nl (nI j) (nI a) = nI q := by decide +kernel
theorem lt_r {T i} (hT : OK T) : ∀ k, lt T i k = -1 ∨ ∃ q, q < 25 ∧ lt T i k = nI q
  | 0 => Or.inr (hT.w0 i)
  | k + 1 => by
    obtain ⟨a, ha, ea⟩ := hT.w2 i
    rcases lt_r hT (i := i) k with e | ⟨q, hq, e⟩
    · left; show nl (lt T i k) (T.W 2 i) = -1; rw [e]; unfold nl; simp
    · show nl (lt T i k) (T.W 2 i) = -1 ∨ ∃ q, q < 25 ∧ nl (lt T i k) (T.W 2 i) = nI q
      rw [e, ea]; exact nl_r q hq a ha
def ln (T : Tn) (i k : Nat) : Int32 := if 0 ≤ lt T i k ∧ 0 ≤ T.K (lt T i k).toNatClampNeg then lt T i k else -1
theorem ln_r {T i} (hT : OK T) (k : Nat) : ln T i k = -1 ∨ ∃ q, q < 25 ∧ ln T i k = nI q ∧ 0 ≤ T.K q ∧ lt T i k = nI q := by
  unfold ln
  rcases lt_r hT (i := i) k with e | ⟨q, hq, e⟩
  · left; rw [e]; simp
  · rw [e, tn (by omega)]
    by_cases h : 0 ≤ T.K q
    · right; exact ⟨q, hq, by rw [if_pos ⟨pI_pos (by omega), h⟩], h, rfl⟩
    · left; simp [h]
def tp (T : Tn) (i k : Nat) : Int32 := if 0 ≤ ln T i k then st T (ln T i k).toNatClampNeg else 0
def mx (a b : Int32) : Int32 := if b ≤ a then a else b
def lws (T : Tn) (i k : Nat) : Nat → Int32
  | 0 => 0
  | c + 1 => if 0 ≤ ln T i (c+1) then mx (lws T i k c) (T.W 1 i + fd ((2 * tp T i (c+1) - 2 * T.W 1 i - 1) * nI k) (2 * nI (c+1)) + 1) else lws T i k c
def lw (T : Tn) (i k : Nat) : Int32 := if 0 ≤ ln T i k then lws T i k (k-1) else 0
theorem two_n : ∀ c, c < 5 → 2 * nI (c+1) ≠ 0 := by decide +kernel
theorem x_low_L {T : Tn} {i k : Nat} {v : jx_V} (hk : k ≤ 4) (hv : ∀ q, 1 ≤ q → q < k → v 50 q = ln T i q ∧ v 51 q = tp T i q) :
    ∀ d c f, c + d + 1 = k → d < f → f_X0_lowestSeen_L f (nI k) (T.W 1 i) (lws T i k c) (nI (c+1)) v = some (lws T i k (k-1), v)
  | 0, c, f + 1, hc, hf => by
    rw [f_X0_lowestSeen_L, if_pos (by rw [pI_le (by omega) (by omega)]; omega), show k - 1 = c by omega]
  | d + 1, c, f + 1, hc, hf => by
    obtain ⟨e1, e2⟩ := hv (c+1) (by omega) (by omega)
    rw [f_X0_lowestSeen_L, if_neg (by rw [pI_le (by omega) (by omega)]; omega)]
    simp only [tn (show c + 1 < 2147483648 by omega), ib (show c + 1 < 5 by omega) (by omega), if_false, e1, e2, j_fd (two_n c (by omega)), j_max, Option.bind_some]
    have ih := x_low_L hk hv d (c+1) f (by omega) (by omega)
    rw [show nI (c + 1) + 1 = nI (c + 1 + 1) from nI_add1 _]
    rw [lws] at ih
    by_cases h : 0 ≤ ln T i (c+1)
    · rw [if_pos h] at ih
      rw [if_neg (by grind)]
      exact ih
    · rw [if_neg h] at ih
      rw [if_pos (by grind)]
      exact ih
theorem x_low {T : Tn} {i k : Nat} {v : jx_V} (hk1 : 1 ≤ k) (hk : k ≤ 4) (hv : ∀ q, 1 ≤ q → q < k → v 50 q = ln T i q ∧ v 51 q = tp T i q) :
    f_X0_lowestSeen (nI k) (T.W 1 i) v = some (lws T i k (k-1), v) := x_low_L hk hv (k-1) 0 100000 (by omega) (by omega)
theorem cT_congr {h : Nat} {v v1 : jx_V} (hf : ∀ c, h ≤ c → c ≤ h + 15 → v1 c = v c) : cT h v1 = cT h v := by
  have e0 := hf h (by omega) (by omega)
  have e3 := hf (h+3) (by omega) (by omega)
  have e4 := hf (h+4) (by omega) (by omega)
  have e5 := hf (h+5) (by omega) (by omega)
  have e6 := hf (h+6) (by omega) (by omega)
  have e13 := hf (h+13) (by omega) (by omega)
  have e14 := hf (h+14) (by omega) (by omega)
  have e15 := hf (h+15) (by omega) (by omega)
  unfold cT
  rw [e0, e3, e4, e5, e6, e13, e14, e15]
  refine Tx rfl rfl rfl rfl ?_ rfl rfl rfl rfl rfl rfl
  funext a i
  show (if a < 6 ∧ _ then v1 (h+7+a) i else 0) = if a < 6 ∧ _ then v (h+7+a) i else 0
  by_cases ha : a < 6
  · simp only [ha, true_and, hf (h+7+a) (by omega) (by omega)]
  · simp [ha]
def G (v v' : jx_V) : Prop := ∀ c, (c < 50 ∨ 53 ≤ c) → v' c = v c
theorem up50 {v v1 : jx_V} {c j x} (h : G v v1) (hc : 50 ≤ c ∧ c < 53) : G v (jx_up v1 c j x) := fun q hq => by rw [jx_up_ne (by omega)]; exact h q hq
def Lk (T : Tn) (i : Nat) (v : jx_V) (k : Nat) : Prop := ∀ q, 1 ≤ q → q < k → v 50 q = ln T i q ∧ v 51 q = tp T i q ∧ v 52 q = lw T i q
theorem x_look_L {h i : Nat} {v : jx_V} {x2 : Int32} (hh : h + 15 < 50) (hT : OK (cT h v)) : ∀ d k f v1, k + d = 5 → 1 ≤ k → d < f → G v v1 → Lk (cT h v) i v1 k →
    ∃ v', f_X0_look_L h f x2 ((cT h v).W 1 i) ((cT h v).W 2 i) (lt (cT h v) i (k-1)) (nI k) v1 = some v' ∧ G v v' ∧ Lk (cT h v) i v' 5
  | 0, k, f + 1, v1, hk, h1, hf, hG, hL => by
    refine ⟨v1, ?_, hG, by rw [← show k = 5 by omega]; exact hL⟩
    rw [f_X0_look_L, if_pos (by rw [show (4 : Int32) = nI 4 from rfl, pI_lt (by omega) (by omega)]; omega)]
  | d + 1, k, f + 1, v1, hk, h1, hf, hG, hL => by
    rw [f_X0_look_L, if_neg (by rw [show (4 : Int32) = nI 4 from rfl, pI_lt (by omega) (by omega)]; omega)]
    have et : nl (lt (cT h v) i (k-1)) ((cT h v).W 2 i) = lt (cT h v) i k := by
      rw [show k = (k-1)+1 by omega]; rfl
    simp only [x_next, Option.bind_some, et, tn (show k < 2147483648 by omega), ib (show k < 5 by omega) (by omega), if_false, nI_add1]
    have hcc : ∀ v2, G v v2 → cT h v2 = cT h v := fun v2 g => cT_congr (fun c _ _ => g c (by omega))
    have none_case : ln (cT h v) i k = -1 → Lk (cT h v) i (jx_up (jx_up (jx_up v1 50 k (-1)) 51 k 0) 52 k 0) (k+1) := by
      intro e q hq1 hq2
      simp only [up_g]
      by_cases c : q = k
      · subst c
        simp [e, tp, lw]
      · have := hL q hq1 (by omega)
        simp [c, this]
    rcases lt_r hT (i := i) k with e | ⟨q, hq, e⟩
    · rw [e, if_pos (by decide)]
      have eln : ln (cT h v) i k = -1 := by unfold ln; rw [e]; simp
      have := x_look_L hh hT d (k+1) f _ (by omega) (by omega) (by omega) (up50 (c := 52) (j := k) (x := 0) (up50 (c := 51) (j := k) (x := 0) (up50 (c := 50) (j := k) (x := -1) hG (by omega)) (by omega)) (by omega)) (none_case eln) (x2 := x2)
      rw [show k + 1 - 1 = k by omega, e] at this
      exact this
    · rw [e, if_neg (nI_neg (by omega))]
      simp only [x_taken hq, Option.bind_some]
      have eK : v1 (h+3) q = (cT h v).K q := by rw [← hcc v1 hG, cK hq]
      by_cases ht : 0 ≤ (cT h v).K q
      · have eln : ln (cT h v) i k = nI q := by unfold ln; rw [e, tn (by omega), if_pos ⟨pI_pos (by omega), ht⟩]
        have etp : tp (cT h v) i k = st (cT h v) q := by unfold tp; rw [eln, tn (by omega), if_pos (pI_pos (by omega))]
        have elw : lw (cT h v) i k = lws (cT h v) i k (k-1) := by unfold lw; rw [eln, if_pos (pI_pos (by omega))]
        rw [eK, if_neg (Int32.not_lt.mpr ht), if_neg (by decide)]
        have g1 := up50 (c := 50) (j := k) (x := nI q) hG (by omega)
        have es := x_standing (h := h) (v := jx_up v1 50 k (nI q)) hq (by rw [g1 (h+3) (by omega), ← hG (h+3) (by omega), eK]; exact ht)
        rw [hcc _ g1] at es
        simp only [es, Option.bind_some]
        have g2 := up50 (c := 51) (j := k) (x := st (cT h v) q) g1 (by omega)
        have el := x_low (T := cT h v) (i := i) (k := k) (v := jx_up (jx_up v1 50 k (nI q)) 51 k (st (cT h v) q)) h1 (by omega) (by
          intro p hp1 hp2
          have := hL p hp1 hp2
          simp only [up_g]
          have c : p ≠ k := by omega
          simp [c, this])
        simp only [el, Option.bind_some]
        have g3 := up50 (c := 52) (j := k) (x := lws (cT h v) i k (k-1)) g2 (by omega)
        have := x_look_L hh hT d (k+1) f _ (by omega) (by omega) (by omega) g3 (by
          intro p hp1 hp2
          simp only [up_g]
          by_cases c : p = k
          · subst c; simp [eln, etp, elw]
          · have := hL p hp1 (by omega)
            simp [c, this]) (x2 := x2) (i := i)
        rw [show k + 1 - 1 = k by omega, e] at this
        exact this
      · have eln : ln (cT h v) i k = -1 := by unfold ln; rw [e, tn (by omega)]; simp [ht]
        rw [eK, if_pos (Int32.not_le.mp ht)]
        simp only [if_true]
        have := x_look_L hh hT d (k+1) f _ (by omega) (by omega) (by omega) (up50 (c := 52) (j := k) (x := 0) (up50 (c := 51) (j := k) (x := 0) (up50 (c := 50) (j := k) (x := -1) hG (by omega)) (by omega)) (by omega)) (none_case eln) (x2 := x2)
        rw [show k + 1 - 1 = k by omega, e] at this
        exact this
theorem cn {h v} (hT : OK (cT h v)) : ∃ N, N ≤ 10 ∧ v h 5 = nI N ∧ (v h 5).toNatClampNeg = N := by
  obtain ⟨N, h1, h2⟩ := hT.n
  have h3 : v h 5 = nI N := h2
  exact ⟨N, h1, h3, by rw [h3, tn (by omega)]⟩
theorem x_look {h i : Nat} {v : jx_V} (hh : h + 15 < 50) (hT : OK (cT h v)) (hi : i < (v h 5).toNatClampNeg) :
    ∃ v', f_X0_look h (nI i) v = some v' ∧ G v v' ∧ Lk (cT h v) i v' 5 := by
  obtain ⟨N, hN, _, e⟩ := cn hT
  unfold f_X0_look
  simp only [tn (show i < 2147483648 by omega), ib (show i < 10 by omega) (by omega), if_false]
  have := x_look_L hh hT (i := i) (x2 := nI i) 4 1 100000 v (by omega) (by omega) (by omega) (fun _ _ => rfl) (by intro q h1 h2; omega)
  rw [cW (by omega) hi, cW (by omega) hi] at this
  have e0 : lt (cT h v) i (1-1) = v (h+7) i := cW (by omega) hi
  rw [e0] at this
  exact this
theorem nl0 {j b : Nat} (h : j < b) : (b ≤ j) = False := by simp; omega
def sq (T : Tn) (i k : Nat) : Int32 := mx 0 (tp T i k - lw T i k)
def ss (T : Tn) (i k : Nat) : Int32 := if sq T i k = 0 then 0 else (1 <<< (tp T i k &&& 31)) - (1 <<< (lw T i k &&& 31))
theorem x_sq {T : Tn} {i k : Nat} {v : jx_V} (hL : Lk T i v 5) (h1 : 1 ≤ k) (h2 : k < 5) : f_X0_squares (nI k) v = some (sq T i k, v) := by
  obtain ⟨_, e1, e2⟩ := hL k h1 h2
  unfold f_X0_squares
  simp only [tn (show k < 2147483648 by omega), ib (show k < 5 by omega) (by omega), if_false, j_max, Option.bind_some, e1, e2]
  rfl
theorem x_ss {T : Tn} {i k : Nat} {v : jx_V} (hL : Lk T i v 5) (h1 : 1 ≤ k) (h2 : k < 5) : f_X0_squareSet (nI k) v = some (ss T i k, v) := by
  obtain ⟨_, e1, e2⟩ := hL k h1 h2
  unfold f_X0_squareSet ss
  simp only [x_sq hL h1 h2, Option.bind_some, tn (show k < 2147483648 by omega), ib (show k < 5 by omega) (by omega), if_false, e1, e2]
  split <;> rfl
theorem x_sq1 {T : Tn} {i : Nat} {v : jx_V} (hL : Lk T i v 5) : f_X0_squares 1 v = some (sq T i 1, v) := x_sq (k := 1) hL (by omega) (by omega)
theorem x_sq2 {T : Tn} {i : Nat} {v : jx_V} (hL : Lk T i v 5) : f_X0_squares 2 v = some (sq T i 2, v) := x_sq (k := 2) hL (by omega) (by omega)
theorem x_sq3 {T : Tn} {i : Nat} {v : jx_V} (hL : Lk T i v 5) : f_X0_squares 3 v = some (sq T i 3, v) := x_sq (k := 3) hL (by omega) (by omega)
theorem x_sq4 {T : Tn} {i : Nat} {v : jx_V} (hL : Lk T i v 5) : f_X0_squares 4 v = some (sq T i 4, v) := x_sq (k := 4) hL (by omega) (by omega)
def al (T : Tn) (i : Nat) : Int32 := sq T i 1 + sq T i 2 + sq T i 3 + sq T i 4
theorem n1 : nI 1 = 1 := rfl
theorem n2 : nI 2 = 2 := rfl
theorem n3 : nI 3 = 3 := rfl
theorem n4 : nI 4 = 4 := rfl
theorem a12 : (1 : Int32) + 1 = 2 := rfl
theorem a23 : (2 : Int32) + 1 = 3 := rfl
theorem a34 : (3 : Int32) + 1 = 4 := rfl
theorem a45 : (4 : Int32) + 1 = 5 := rfl
theorem l41 : ¬ (4 : Int32) < 1 := by decide
theorem l42 : ¬ (4 : Int32) < 2 := by decide
theorem l43 : ¬ (4 : Int32) < 3 := by decide
theorem l44 : ¬ (4 : Int32) < 4 := by decide
theorem l45 : (4 : Int32) < 5 := by decide
theorem x_view {h i : Nat} {v : jx_V} (hh : h + 15 < 50) (hT : OK (cT h v)) (hi : i < (v h 5).toNatClampNeg) :
    ∃ v', f_X0_squaresInView h (nI i) v = some (al (cT h v) i, v') ∧ G v v' := by
  obtain ⟨v', e, g, hL⟩ := x_look hh hT hi
  refine ⟨v', ?_, g⟩
  unfold f_X0_squaresInView
  rw [e, Option.bind_some]
  rw [f_X0_squaresInView_L, if_neg l41, x_sq1 hL, Option.bind_some, a12]
  simp only []
  rw [f_X0_squaresInView_L, if_neg l42, x_sq2 hL, Option.bind_some, a23]
  simp only []
  rw [f_X0_squaresInView_L, if_neg l43, x_sq3 hL, Option.bind_some, a34]
  simp only []
  rw [f_X0_squaresInView_L, if_neg l44, x_sq4 hL, Option.bind_some, a45]
  simp only []
  rw [f_X0_squaresInView_L, if_pos l45, Int32.zero_add]
  rfl
-- what a place k away gives
def ow (T : Tn) (i k : Nat) : Int32 := T.O (ln T i k).toNatClampNeg
def sh1 (T : Tn) (i : Nat) (o : Int32) (k : Nat) (a : Int32) : Int32 := if 0 ≤ ln T i k ∧ ow T i k = o then a + sq T i k else a
def shr (T : Tn) (i : Nat) (o : Int32) : Int32 := sh1 T i o 4 (sh1 T i o 3 (sh1 T i o 2 (sh1 T i o 1 0)))
theorem Gc {h : Nat} {v v' : jx_V} (hh : h + 15 < 50) (g : G v v') : cT h v' = cT h v := cT_congr (fun c _ _ => g c (by omega))
theorem Gk {h : Nat} {v v' : jx_V} (hh : h + 15 < 50) (g : G v v') (c : Nat) (hc : c ≤ 15) : v' (h + c) = v (h + c) := g _ (by omega)
/-- facts at place k after a look -/
theorem Lk_f {h i k : Nat} {v v' : jx_V} (hh : h + 15 < 50) (hT : OK (cT h v)) (g : G v v') (hL : Lk (cT h v) i v' 5) (h1 : 1 ≤ k) (h2 : k < 5) :
    (v' 50 k = -1 ∧ ln (cT h v) i k = -1) ∨ ∃ q, q < 25 ∧ v' 50 k = nI q ∧ ln (cT h v) i k = nI q ∧ 0 ≤ v (h+3) q ∧ 0 ≤ v' (h+3) q ∧ v' (h+4) q = ow (cT h v) i k ∧ ∃ o, o < 4 ∧ ow (cT h v) i k = nI o := by
  obtain ⟨e0, _, _⟩ := hL k h1 h2
  rcases ln_r hT (i := i) k with e | ⟨q, hq, e, ht, _⟩
  · left; exact ⟨e0.trans e, e⟩
  · right
    rw [cK hq] at ht
    refine ⟨q, hq, e0.trans e, e, ht, by rw [Gk hh g 3 (by omega)]; exact ht, ?_, hT.o _⟩
    unfold ow
    rw [e, tn (by omega), cO hq ht, Gk hh g 4 (by omega)]
theorem x_share_s {h i k f : Nat} {v v' : jx_V} {o a x2 : Int32} (hh : h + 15 < 50) (hT : OK (cT h v)) (g : G v v') (hL : Lk (cT h v) i v' 5) (h1 : 1 ≤ k) (h2 : k < 5) :
    f_X0_squaresOfOwner_L h (f+1) x2 o a (nI k) v' = f_X0_squaresOfOwner_L h f x2 o (sh1 (cT h v) i o k a) (nI (k+1)) v' := by
  rw [f_X0_squaresOfOwner_L, if_neg (by rw [← n4, pI_lt (by omega) (by omega)]; omega)]
  simp only [tn (show k < 2147483648 by omega), ib (show k < 5 by omega) (by omega), if_false, nI_add1, x_sq hL h1 h2, Option.bind_some]
  unfold sh1
  rcases Lk_f hh hT g hL h1 h2 with ⟨e0, e⟩ | ⟨q, hq, e0, e, ht, ht', eo, _⟩
  · rw [e0, e]; simp
  · simp only [e0, e, nI_neg (show q < 2147483648 by omega), pI_pos (show q < 2147483648 by omega), if_false, tn (show q < 2147483648 by omega), eo, true_and, nl0 hq, or_false]
    split <;> rfl
theorem x_share {h i : Nat} {v : jx_V} {o : Int32} (hh : h + 15 < 50) (hT : OK (cT h v)) (hi : i < (v h 5).toNatClampNeg) :
    ∃ v', f_X0_squaresOfOwner h (nI i) o v = some (shr (cT h v) i o, v') ∧ G v v' := by
  obtain ⟨v', e, g, hL⟩ := x_look hh hT hi
  refine ⟨v', ?_, g⟩
  unfold f_X0_squaresOfOwner
  rw [e, Option.bind_some]
  have s := fun k f a (h1 : 1 ≤ k) (h2 : k < 5) => x_share_s (f := f) (o := o) (a := a) (x2 := nI i) hh hT g hL h1 h2
  show f_X0_squaresOfOwner_L h (99999+1) (nI i) o 0 (nI 1) v' = _
  rw [s 1 _ _ (by omega) (by omega)]
  show f_X0_squaresOfOwner_L h (99998+1) (nI i) o _ (nI 2) v' = _
  rw [s 2 _ _ (by omega) (by omega)]
  show f_X0_squaresOfOwner_L h (99997+1) (nI i) o _ (nI 3) v' = _
  rw [s 3 _ _ (by omega) (by omega)]
  show f_X0_squaresOfOwner_L h (99996+1) (nI i) o _ (nI 4) v' = _
  rw [s 4 _ _ (by omega) (by omega)]
  show f_X0_squaresOfOwner_L h (99995+1) (nI i) o _ (nI 5) v' = _
  rw [f_X0_squaresOfOwner_L, if_pos (by decide)]
  rfl
def ls1 (T : Tn) (i : Nat) (k : Nat) (a : Int32) : Int32 := if 0 ≤ ln T i k ∧ 0 < sq T i k then a ||| (1 <<< (ln T i k &&& 31)) else a
def lsT (T : Tn) (i : Nat) : Int32 := ls1 T i 4 (ls1 T i 3 (ls1 T i 2 (ls1 T i 1 0)))
theorem x_lots_s {h i k f : Nat} {v v' : jx_V} {a x2 : Int32} (hh : h + 15 < 50) (hT : OK (cT h v)) (g : G v v') (hL : Lk (cT h v) i v' 5) (h1 : 1 ≤ k) (h2 : k < 5) :
    f_X0_lotSet_L h (f+1) x2 a (nI k) v' = f_X0_lotSet_L h f x2 (ls1 (cT h v) i k a) (nI (k+1)) v' := by
  rw [f_X0_lotSet_L, if_neg (by rw [← n4, pI_lt (by omega) (by omega)]; omega)]
  simp only [tn (show k < 2147483648 by omega), ib (show k < 5 by omega) (by omega), if_false, nI_add1, x_sq hL h1 h2, Option.bind_some]
  unfold ls1
  rcases Lk_f hh hT g hL h1 h2 with ⟨e0, e⟩ | ⟨q, hq, e0, e, ht, ht', eo, _⟩
  · rw [e0, e]; simp
  · simp only [e0, e, nI_neg (show q < 2147483648 by omega), pI_pos (show q < 2147483648 by omega), if_false, tn (show q < 2147483648 by omega), eo, true_and]
    by_cases c : sq (cT h v) i k ≤ 0
    · rw [if_pos c, if_neg (Int32.not_lt.mpr c)]
    · rw [if_neg c, if_pos (Int32.not_le.mp c)]
theorem x_lots {h i : Nat} {v : jx_V} (hh : h + 15 < 50) (hT : OK (cT h v)) (hi : i < (v h 5).toNatClampNeg) :
    ∃ v', f_X0_lotSet h (nI i) v = some (lsT (cT h v) i, v') ∧ G v v' := by
  obtain ⟨v', e, g, hL⟩ := x_look hh hT hi
  refine ⟨v', ?_, g⟩
  unfold f_X0_lotSet
  rw [e, Option.bind_some]
  have s := fun k f a (h1 : 1 ≤ k) (h2 : k < 5) => x_lots_s (f := f) (a := a) (x2 := nI i) hh hT g hL h1 h2
  show f_X0_lotSet_L h (99999+1) (nI i) 0 (nI 1) v' = _
  rw [s 1 _ _ (by omega) (by omega)]
  show f_X0_lotSet_L h (99998+1) (nI i) _ (nI 2) v' = _
  rw [s 2 _ _ (by omega) (by omega)]
  show f_X0_lotSet_L h (99997+1) (nI i) _ (nI 3) v' = _
  rw [s 3 _ _ (by omega) (by omega)]
  show f_X0_lotSet_L h (99996+1) (nI i) _ (nI 4) v' = _
  rw [s 4 _ _ (by omega) (by omega)]
  show f_X0_lotSet_L h (99995+1) (nI i) _ (nI 5) v' = _
  rw [f_X0_lotSet_L, if_pos (by decide)]
  rfl
-- pay
def pt (T : Tn) (i k : Nat) : Int32 := if 0 ≤ ln T i k ∧ ow T i k ≠ T.W 3 i then sq T i k * pc T (ln T i k).toNatClampNeg else 0
def gp (T : Tn) (i k o : Nat) : Int32 := if 0 ≤ ln T i k ∧ ow T i k = nI o ∧ ow T i k ≠ T.W 3 i then pt T i k else 0
def rn (T : Tn) (i : Nat) : Int32 := pt T i 1 + pt T i 2 + pt T i 3 + pt T i 4
def gw (T : Tn) (i o : Nat) : Int32 := gp T i 1 o + gp T i 2 o + gp T i 3 o + gp T i 4 o - (if T.W 3 i = nI o then rn T i else 0)
/-- frame of a pay into row r -/
def GR (r : Nat) (v v' : jx_V) : Prop := ∀ c, (c < 50 ∨ 53 ≤ c) → c ≠ r → v' c = v c
def Rw (h r : Nat) : Prop := r = h + 14 ∨ (63 < r ∧ r < 67)
theorem GRk {h r : Nat} {v v' : jx_V} (hh : h + 15 < 50) (hr : Rw h r) (g : GR r v v') (c : Nat) (hc : c ≤ 13) : v' (h + c) = v (h + c) := g _ (by omega) (by rcases hr with e | e <;> omega)
theorem x_price' {h j v v'} (hT : OK (cT h v)) (hj : j < 25) (ht : 0 ≤ v (h+3) j) (e3 : v' (h+3) = v (h+3)) (e6 : v' (h+6) = v (h+6)) (e13 : v' (h+13) = v (h+13)) (em : v' h = v h) : f_X3_squarePrice h (nI j) v' = some (pc (cT h v) j, v') := by
  obtain ⟨q, hq, e⟩ := hT.p j
  have e1 := e
  rw [cP hj ht] at e1
  unfold f_X3_squarePrice pc
  simp only [ib hj (by omega), if_false, tn (show j < 2147483648 by omega), x_summer, Option.bind_some, cK hj, e, e3, e6, e13, em, e1, ib hq (by omega), tn (show q < 2147483648 by omega), cC hq, Int32.add_zero]
  have e : (cT h v).m = v h 6 := rfl
  rw [e]
  cases s : su (v h 6) <;> simp only [s, if_true, if_false, Bool.false_eq_true, Int32.add_zero] <;> grind
/-- the state of pay's loop before place k -/
abbrev PS (h i r : Nat) (v v1 : jx_V) (k : Nat) (S : Nat → Int32) : Prop := GR r v v1 ∧ Lk (cT h v) i v1 5 ∧ ∀ o, o < 4 → v1 r o = v r o + S o
theorem PS.f {h i r : Nat} {v v1 : jx_V} {k : Nat} {S : Nat → Int32} (p : PS h i r v v1 k S) : GR r v v1 := p.1
theorem PS.l {h i r : Nat} {v v1 : jx_V} {k : Nat} {S : Nat → Int32} (p : PS h i r v v1 k S) : Lk (cT h v) i v1 5 := p.2.1
theorem PS.r {h i r : Nat} {v v1 : jx_V} {k : Nat} {S : Nat → Int32} (p : PS h i r v v1 k S) : ∀ o, o < 4 → v1 r o = v r o + S o := p.2.2
theorem x_pay_s {h i r k f : Nat} {v v1 : jx_V} {a x2 : Int32} {S : Nat → Int32} (hh : h + 15 < 50) (hr : Rw h r) (hT : OK (cT h v)) (p : PS h i r v v1 k S) (h1 : 1 ≤ k) (h2 : k < 5) :
    ∃ v2, f_X0_pay_L h r (f+1) x2 ((cT h v).W 3 i) a (nI k) v1 = f_X0_pay_L h r f x2 ((cT h v).W 3 i) (a + pt (cT h v) i k) (nI (k+1)) v2 ∧ PS h i r v v2 (k+1) (fun o => S o + gp (cT h v) i k o) := by
  obtain ⟨e0, _, _⟩ := p.l k h1 h2
  rw [f_X0_pay_L, if_neg (by rw [← n4, pI_lt (by omega) (by omega)]; omega)]
  simp only [tn (show k < 2147483648 by omega), ib (show k < 5 by omega) (by omega), if_false, nI_add1, x_sq p.l h1 h2, Option.bind_some]
  rcases ln_r hT (i := i) k with e | ⟨q, hq, e, ht, _⟩
  · refine ⟨v1, ?_, ⟨p.f, p.l, fun o ho => ?_⟩⟩
    · rw [e0, e]; unfold pt; rw [e]; simp
    · rw [p.r o ho]; unfold gp; rw [e]; simp
  · rw [cK hq] at ht
    obtain ⟨o, ho, eo⟩ := hT.o q
    have eow : ow (cT h v) i k = nI o := by unfold ow; rw [e, tn (by omega), eo]
    have eO : v1 (h+4) q = nI o := by rw [GRk hh hr p.f 4 (by omega), ← cO hq ht, eo]
    simp only [e0, e, nI_neg (show q < 2147483648 by omega), if_false, tn (show q < 2147483648 by omega), nl0 hq, or_false, eO]
    by_cases c : nI o = (cT h v).W 3 i
    · refine ⟨v1, ?_, ⟨p.f, p.l, fun o' ho' => ?_⟩⟩
      · rw [if_pos c]; unfold pt; rw [eow]; simp [c]
      · rw [p.r o' ho']; unfold gp; rw [eow]; simp [c]
    · rw [if_neg c]
      simp only [x_price' (v := v) hT hq ht (GRk hh hr p.f 3 (by omega)) (GRk hh hr p.f 6 (by omega)) (GRk hh hr p.f 13 (by omega)) (p.f h (by omega) (by rcases hr with e | e <;> omega)), Option.bind_some, eO, ib ho (by omega), if_false, tn (show o < 2147483648 by omega)]
      have ept : pt (cT h v) i k = sq (cT h v) i k * pc (cT h v) q := by unfold pt; rw [eow, e, tn (by omega)]; simp [c, pI_pos (show q < 2147483648 by omega)]
      refine ⟨_, by rw [ept], ⟨fun x hx hx2 => by rw [jx_up_ne hx2]; exact p.f x hx hx2, fun x hx hx2 => ?_, fun o' ho' => ?_⟩⟩
      · have c50 : (50 : Nat) ≠ r := by rcases hr with e | e <;> omega
        have c51 : (51 : Nat) ≠ r := by rcases hr with e | e <;> omega
        have c52 : (52 : Nat) ≠ r := by rcases hr with e | e <;> omega
        rw [jx_up_ne c50, jx_up_ne c51, jx_up_ne c52]
        exact p.l x hx hx2
      · rw [up_g]
        unfold gp
        simp only [eow, e, ept, pI_eq (show o < 2147483648 by omega) (show o' < 2147483648 by omega)]
        by_cases c2 : o' = o
        · subst c2
          simp [p.r o' ho', c, pI_pos (show q < 2147483648 by omega)]
          grind
        · have c3 : ¬ o = o' := fun q => c2 q.symm
          simp [p.r o' ho', c2, c3]
theorem x_pay {h i r : Nat} {v : jx_V} (hh : h + 15 < 50) (hr : Rw h r) (hT : OK (cT h v)) (hi : i < (v h 5).toNatClampNeg) :
    ∃ v', f_X0_pay h (nI i) r v = some (rn (cT h v) i, v') ∧ GR r v v' ∧ ∀ o, o < 4 → v' r o = v r o + gw (cT h v) i o := by
  obtain ⟨N, hN, _, eN⟩ := cn hT
  obtain ⟨v1, e, g, hL⟩ := x_look hh hT hi
  have p0 : PS h i r v v1 1 (fun _ => 0) := ⟨fun c hc _ => g c hc, hL, fun o _ => by rw [g r (by rcases hr with e | e <;> omega), Int32.add_zero]⟩
  obtain ⟨v2, e1, p1⟩ := x_pay_s (f := 99999) (a := 0) (x2 := nI i) hh hr hT p0 (by omega) (by omega)
  obtain ⟨v3, e2, p2⟩ := x_pay_s (f := 99998) (a := 0 + pt (cT h v) i 1) (x2 := nI i) hh hr hT p1 (by omega) (by omega)
  obtain ⟨v4, e3, p3⟩ := x_pay_s (f := 99997) (a := 0 + pt (cT h v) i 1 + pt (cT h v) i 2) (x2 := nI i) hh hr hT p2 (by omega) (by omega)
  obtain ⟨v5, e4, p4⟩ := x_pay_s (f := 99996) (a := 0 + pt (cT h v) i 1 + pt (cT h v) i 2 + pt (cT h v) i 3) (x2 := nI i) hh hr hT p3 (by omega) (by omega)
  obtain ⟨t, ht, et⟩ := hT.w3 i
  have er : 0 + pt (cT h v) i 1 + pt (cT h v) i 2 + pt (cT h v) i 3 + pt (cT h v) i 4 = rn (cT h v) i := by unfold rn; rw [Int32.zero_add]
  refine ⟨jx_up v5 r t (v5 r t - rn (cT h v) i), ?_, ?_, ?_⟩
  · unfold f_X0_pay
    rw [e, Option.bind_some]
    simp only [tn (show i < 2147483648 by omega), ib (show i < 10 by omega) (by omega), if_false]
    rw [g (h+10) (by omega), show v (h + 10) i = (cT h v).W 3 i from (cW (a := 3) (by omega) hi).symm]
    refine e1.trans (e2.trans (e3.trans (e4.trans ?_)))
    show f_X0_pay_L h r (99995+1) (nI i) _ _ (nI 5) v5 = _
    rw [f_X0_pay_L, if_pos (by decide), er, et]
    simp only [tn (show t < 2147483648 by omega), ib ht (by omega), if_false]
  · intro c hc hc2
    rw [jx_up_ne hc2]; exact p4.f c hc hc2
  · intro o ho
    rw [up_g]
    unfold gw
    simp only [et, pI_eq (show t < 2147483648 by omega) (show o < 2147483648 by omega)]
    by_cases c : o = t
    · subst c
      simp [p4.r o ho]
      grind
    · have c3 : ¬ t = o := fun q => c q.symm
      simp [p4.r o ho, c, c3]
def co (T : Tn) : Tn := (T.K, T.O, T.H, T.P, T.W, T.C, fun _ => 0, T.S, T.n, T.m, T.z)
theorem lt_co {T i} : ∀ k, lt (co T) i k = lt T i k
  | 0 => rfl
  | k + 1 => by show nl (lt (co T) i k) (T.W 2 i) = nl (lt T i k) (T.W 2 i); rw [lt_co k]
theorem ln_co {T i k} : ln (co T) i k = ln T i k := by unfold ln; rw [lt_co]; rfl
theorem tp_co {T i k} : tp (co T) i k = tp T i k := by unfold tp; rw [ln_co]; rfl
theorem lws_co {T i k} : ∀ c, lws (co T) i k c = lws T i k c
  | 0 => rfl
  | c + 1 => by rw [lws, lws, ln_co, tp_co, lws_co c]; rfl
theorem lw_co {T i k} : lw (co T) i k = lw T i k := by unfold lw; rw [ln_co, lws_co]
theorem sq_co {T i k} : sq (co T) i k = sq T i k := by unfold sq; rw [tp_co, lw_co]
theorem ow_co {T i k} : ow (co T) i k = ow T i k := by unfold ow; rw [ln_co]; rfl
theorem pt_co {T i k} : pt (co T) i k = pt T i k := by unfold pt; rw [ln_co, ow_co, sq_co]; rfl
theorem rn_co {T i} : rn (co T) i = rn T i := by unfold rn; rw [pt_co, pt_co, pt_co, pt_co]
theorem gp_co {T i k o} : gp (co T) i k o = gp T i k o := by unfold gp; rw [ln_co, ow_co, pt_co]; rfl
theorem gw_co {T i o} : gw (co T) i o = gw T i o := by unfold gw; rw [gp_co, gp_co, gp_co, gp_co, rn_co]; rfl
theorem sh1_co {T i o k a} : sh1 (co T) i o k a = sh1 T i o k a := by unfold sh1; rw [ln_co, ow_co, sq_co]
theorem shr_co {T i o} : shr (co T) i o = shr T i o := by unfold shr; simp only [sh1_co]
theorem al_co {T i} : al (co T) i = al T i := by unfold al; simp only [sq_co]
theorem OK_co {T} : OK (co T) ↔ OK T := ⟨fun h => OK.mk h.k h.o h.h h.p h.w0 h.w1 h.w2 h.w3 h.w4 h.n h.s, fun h => OK.mk h.k h.o h.h h.p h.w0 h.w1 h.w2 h.w3 h.w4 h.n h.s⟩
theorem cT_co {h r : Nat} {v v1 : jx_V} (hh : h + 15 < 50) (hr : Rw h r) (g : GR r v v1) : co (cT h v1) = co (cT h v) := by
  have hs : v1 (h + 15) = v (h + 15) := g _ (by omega) (by rcases hr with e | e <;> omega)
  have e0 : v1 h = v h := GRk hh hr g 0 (by omega)
  unfold cT
  rw [GRk hh hr g 3 (by omega), GRk hh hr g 4 (by omega), GRk hh hr g 5 (by omega), GRk hh hr g 6 (by omega), GRk hh hr g 13 (by omega), hs, e0]
  refine Tx rfl rfl rfl rfl ?_ rfl rfl rfl rfl rfl rfl
  funext a i
  show (if a < 6 ∧ _ then v1 (h+7+a) i else 0) = if a < 6 ∧ _ then v (h+7+a) i else 0
  by_cases ha : a < 6
  · have := GRk hh hr g (7 + a) (by omega)
    rw [← Nat.add_assoc] at this
    simp only [ha, true_and, this]
  · simp [ha]
theorem x_pay' {h i r : Nat} {v v1 : jx_V} (hh : h + 15 < 50) (hr : Rw h r) (g : GR r v v1) (hT : OK (cT h v)) (hi : i < (v h 5).toNatClampNeg) :
    ∃ v', f_X0_pay h (nI i) r v1 = some (rn (cT h v) i, v') ∧ GR r v v' ∧ ∀ o, o < 4 → v' r o = v1 r o + gw (cT h v) i o := by
  have e := cT_co hh hr g
  have hT1 : OK (cT h v1) := by rw [← OK_co, e, OK_co]; exact hT
  obtain ⟨v', e1, g1, h1⟩ := x_pay hh hr hT1 (i := i) (by rw [show v1 h = v h from GRk hh hr g 0 (by omega)]; exact hi)
  refine ⟨v', ?_, fun c a b => (g1 c a b).trans (g c a b), ?_⟩
  · rw [e1, ← rn_co, e, rn_co]
  · intro o ho; rw [h1 o ho, ← gw_co, e, gw_co]
def rsum (T : Tn) : Nat → Int32
  | 0 => 0
  | i + 1 => rsum T i + rn T i
def gsum (T : Tn) (o : Nat) : Nat → Int32
  | 0 => 0
  | i + 1 => gsum T o i + gw T i o
def nw (T : Tn) : Nat := T.n.toNatClampNeg
def rs (T : Tn) : Int32 := rsum T (nw T)
def gs (T : Tn) (o : Nat) : Int32 := gsum T o (nw T)
theorem nwc {h v} : nw (cT h v) = (v h 5).toNatClampNeg := rfl
theorem x_gains_L {h r : Nat} {v : jx_V} (hh : h + 15 < 50) (hr : Rw h r) (hT : OK (cT h v)) :
    ∀ d i f v1, i + d = nw (cT h v) → d < f → GR r v v1 → (∀ o, o < 4 → v1 r o = gsum (cT h v) o i) →
    ∃ v', f_X0_gainsInto_L h r f 1 (rsum (cT h v) i) (nI i) v1 = some (rs (cT h v), v') ∧ GR r v v' ∧ ∀ o, o < 4 → v' r o = gs (cT h v) o := by
  obtain ⟨N, hN, eN, eN2⟩ := cn hT
  rw [nwc, eN2]
  intro d
  induction d with
  | zero =>
    intro i f v1 hi hf g hv
    obtain ⟨f, rfl⟩ : ∃ q, f = q + 1 := ⟨f - 1, by omega⟩
    refine ⟨v1, ?_, g, ?_⟩
    · rw [f_X0_gainsInto_L, if_neg (by decide), if_pos rfl, if_pos (by rw [show v1 h = v h from GRk hh hr g 0 (by omega), eN, pI_le (by omega) (by omega)]; omega)]
      unfold rs; rw [nwc, eN2, show i = N by omega]
    · intro o ho; unfold gs; rw [hv o ho, nwc, eN2, show i = N by omega]
  | succ d ih =>
    intro i f v1 hi hf g hv
    obtain ⟨f, rfl⟩ : ∃ q, f = q + 1 := ⟨f - 1, by omega⟩
    obtain ⟨v2, e, g2, h2⟩ := x_pay' (i := i) hh hr g hT (by omega)
    obtain ⟨v', e', g', h'⟩ := ih (i+1) f v2 (by omega) (by omega) g2 (fun o ho => by rw [h2 o ho, hv o ho]; rfl)
    refine ⟨v', ?_, g', h'⟩
    rw [f_X0_gainsInto_L, if_neg (by decide), if_pos rfl, if_neg (by rw [show v1 h = v h from GRk hh hr g 0 (by omega), eN, pI_le (by omega) (by omega)]; omega), e]
    simp only [Option.bind_some, nI_add1]
    exact e'
theorem x_gains {h r : Nat} {v : jx_V} (hh : h + 15 < 50) (hr : 63 < r ∧ r < 67) (hT : OK (cT h v)) :
    ∃ v', f_X0_gainsInto h r v = some (rs (cT h v), v') ∧ GR r v v' ∧ ∀ o, o < 4 → v' r o = gs (cT h v) o := by
  obtain ⟨N, hN, eN, eN2⟩ := cn hT
  obtain ⟨v', e, g, hv⟩ := x_gains_L (r := r) hh (Or.inr hr) hT N 0 99995 (jx_up (jx_up (jx_up (jx_up v r 0 0) r 1 0) r 2 0) r 3 0) (by rw [nwc, eN2]; omega) (by omega)
    (fun c _ hc => by rw [jx_up_ne hc, jx_up_ne hc, jx_up_ne hc, jx_up_ne hc])
    (fun o ho => by
      simp only [up_g]
      have : o = 0 ∨ o = 1 ∨ o = 2 ∨ o = 3 := by omega
      rcases this with rfl | rfl | rfl | rfl <;> simp [gsum])
  refine ⟨v', ?_, g, hv⟩
  unfold f_X0_gainsInto
  show f_X0_gainsInto_L h r (99999+1) 0 0 0 v = _
  rw [f_X0_gainsInto_L, if_pos rfl, if_neg (by decide), if_neg (by decide)]
  show f_X0_gainsInto_L h r (99998+1) 0 1 0 _ = _
  rw [f_X0_gainsInto_L, if_pos rfl, if_neg (by decide), if_neg (by decide)]
  show f_X0_gainsInto_L h r (99997+1) 0 2 0 _ = _
  rw [f_X0_gainsInto_L, if_pos rfl, if_neg (by decide), if_neg (by decide)]
  show f_X0_gainsInto_L h r (99996+1) 0 3 0 _ = _
  rw [f_X0_gainsInto_L, if_pos rfl, if_neg (by decide), if_neg (by decide)]
  show f_X0_gainsInto_L h r (99995+1) 0 4 0 _ = _
  rw [f_X0_gainsInto_L, if_pos rfl, if_pos (by decide)]
  exact e
theorem x_payAll_L {h : Nat} {v : jx_V} (hh : h + 15 < 50) (hT : OK (cT h v)) :
    ∀ d i f v1, i + d = nw (cT h v) → d < f → GR (h+14) v v1 → (∀ o, o < 4 → v1 (h+14) o = v (h+14) o + gsum (cT h v) o i) →
    ∃ v', f_X0_payAll_L h f (rsum (cT h v) i) (nI i) v1 = some (rs (cT h v), v') ∧ GR (h+14) v v' ∧ ∀ o, o < 4 → v' (h+14) o = v (h+14) o + gs (cT h v) o := by
  obtain ⟨N, hN, eN, eN2⟩ := cn hT
  have hr : Rw h (h+14) := Or.inl rfl
  rw [nwc, eN2]
  intro d
  induction d with
  | zero =>
    intro i f v1 hi hf g hv
    obtain ⟨f, rfl⟩ : ∃ q, f = q + 1 := ⟨f - 1, by omega⟩
    refine ⟨v1, ?_, g, ?_⟩
    · rw [f_X0_payAll_L, if_pos (by rw [show v1 h = v h from GRk hh hr g 0 (by omega), eN, pI_le (by omega) (by omega)]; omega)]
      unfold rs; rw [nwc, eN2, show i = N by omega]
    · intro o ho; unfold gs; rw [hv o ho, nwc, eN2, show i = N by omega]
  | succ d ih =>
    intro i f v1 hi hf g hv
    obtain ⟨f, rfl⟩ : ∃ q, f = q + 1 := ⟨f - 1, by omega⟩
    obtain ⟨v2, e, g2, h2⟩ := x_pay' (i := i) hh hr g hT (by omega)
    obtain ⟨v', e', g', h'⟩ := ih (i+1) f v2 (by omega) (by omega) g2 (fun o ho => by rw [h2 o ho, hv o ho]; show _ = _ + (gsum _ _ _ + _); rw [Int32.add_assoc])
    refine ⟨v', ?_, g', h'⟩
    rw [f_X0_payAll_L, if_neg (by rw [show v1 h = v h from GRk hh hr g 0 (by omega), eN, pI_le (by omega) (by omega)]; omega), e]
    simp only [Option.bind_some, nI_add1]
    exact e'
def paid (T : Tn) : Tn := (T.K, T.O, T.H, T.P, T.W, T.C, fun o => if o < 4 then T.U o + gs T o else 0, T.S, T.n, T.m, T.z)
theorem co_eq {A B : Tn} {u : Nat → Int32} (e : co A = co B) (hu : A.U = u) : A = ((B.K, B.O, B.H, B.P, B.W, B.C, u, B.S, B.n, B.m, B.z) : Tn) := by
  have k := fun (α : Type) (f : Tn → α) => congrArg f e
  exact Tx (k _ Tn.K) (k _ Tn.O) (k _ Tn.H) (k _ Tn.P) (k _ Tn.W) (k _ Tn.C) hu (k _ Tn.S) (k _ Tn.n) (k _ Tn.m) (k _ Tn.z)
theorem x_payAll {h : Nat} {v : jx_V} (hh : h + 15 < 50) (hT : OK (cT h v)) :
    ∃ v', f_X0_payAll h v = some (rs (cT h v), v') ∧ GR (h+14) v v' ∧ cT h v' = paid (cT h v) := by
  obtain ⟨N, hN, eN, eN2⟩ := cn hT
  have hr : Rw h (h+14) := Or.inl rfl
  obtain ⟨v', e, g, hv⟩ := x_payAll_L hh hT N 0 100000 v (by rw [nwc, eN2]; omega) (by omega) (fun _ _ _ => rfl) (fun o _ => by simp [gsum])
  refine ⟨v', e, g, ?_⟩
  have ec := cT_co hh hr g
  refine co_eq ec ?_
  funext o
  show (if o < 4 then v' (h+14) o else 0) = if o < 4 then (if o < 4 then v (h+14) o else 0) + gs (cT h v) o else 0
  by_cases ho : o < 4
  · simp [ho, hv o ho]
  · simp [ho]
-- broken
def br (T : Tn) (i : Nat) : Bool := decide (0 ≤ T.W 4 i ∧ shr T i (T.W 4 i) < T.W 5 i)
theorem x_broken {h i : Nat} {v : jx_V} (hh : h + 15 < 50) (hT : OK (cT h v)) (hi : i < (v h 5).toNatClampNeg) :
    ∃ v', f_X0_isBroken h (nI i) v = some (if br (cT h v) i then 1 else 0, v') ∧ G v v' := by
  obtain ⟨N, hN, eN, eN2⟩ := cn hT
  unfold f_X0_isBroken br
  simp only [tn (show i < 2147483648 by omega), ib (show i < 10 by omega) (by omega), if_false, show v (h + 11) i = (cT h v).W 4 i from (cW (a := 4) (by omega) hi).symm]
  by_cases c : 0 ≤ (cT h v).W 4 i
  · obtain ⟨v', e, g⟩ := x_share (o := (cT h v).W 4 i) hh hT hi
    refine ⟨v', ?_, g⟩
    rw [if_neg (Int32.not_lt.mpr c), e]
    simp only [Option.bind_some, c, true_and, g (h+12) (by omega), show v (h + 12) i = (cT h v).W 5 i from (cW (a := 5) (by omega) hi).symm]
    grind
  · exact ⟨v, by rw [if_pos (Int32.not_le.mp c)]; simp [c], fun _ _ => rfl⟩
def bset (T : Tn) : Nat → Int32
  | 0 => 0
  | i + 1 => if br T i then bset T i ||| (1 <<< (nI i &&& 31)) else bset T i
def bs (T : Tn) : Int32 := bset T (nw T)
theorem G_tr {u v w : jx_V} (h1 : G u v) (h2 : G v w) : G u w := fun c hc => (h2 c hc).trans (h1 c hc)
theorem x_bset {h : Nat} {v : jx_V} (hh : h + 15 < 50) (hT : OK (cT h v)) :
    ∃ v', f_X0_brokenSet h v = some (bs (cT h v), v') ∧ G v v' := by
  obtain ⟨N, hN, eN, eN2⟩ := cn hT
  have : ∀ d i f v1, i + d = N → d < f → G v v1 → ∃ v', f_X0_brokenSet_L h f (bset (cT h v) i) (nI i) v1 = some (bs (cT h v), v') ∧ G v v' := by
    intro d
    induction d with
    | zero =>
      intro i f v1 hi hf g
      obtain ⟨f, rfl⟩ : ∃ q, f = q + 1 := ⟨f - 1, by omega⟩
      refine ⟨v1, ?_, g⟩
      rw [f_X0_brokenSet_L, if_pos (by rw [g h (by omega), eN, pI_le (by omega) (by omega)]; omega)]
      unfold bs; rw [nwc, eN2, show i = N by omega]
    | succ d ih =>
      intro i f v1 hi hf g
      obtain ⟨f, rfl⟩ : ∃ q, f = q + 1 := ⟨f - 1, by omega⟩
      obtain ⟨v2, e, g2⟩ := x_broken (i := i) (v := v1) hh (by rw [Gc hh g]; exact hT) (by rw [g h (by omega)]; omega)
      rw [Gc hh g] at e
      obtain ⟨v', e', g'⟩ := ih (i+1) f v2 (by omega) (by omega) (G_tr g g2)
      refine ⟨v', ?_, g'⟩
      rw [f_X0_brokenSet_L, if_neg (by rw [g h (by omega), eN, pI_le (by omega) (by omega)]; omega), e]
      simp only [Option.bind_some, nI_add1]
      rw [bset] at e'
      cases c : br (cT h v) i
      · rw [c] at e'; exact e'
      · rw [c] at e'; exact e'
  exact this N 0 100000 v (by omega) (by omega) (fun _ _ => rfl)
def alls (T : Tn) : Nat → Int32
  | 0 => 0
  | i + 1 => alls T i + al T i
theorem x_alls {h : Nat} {v : jx_V} (hh : h + 15 < 50) (hT : OK (cT h v)) :
    ∃ v', f_X0_squaresInAllViews h v = some (alls (cT h v) (nw (cT h v)), v') ∧ G v v' := by
  obtain ⟨N, hN, eN, eN2⟩ := cn hT
  have : ∀ d i f v1, i + d = N → d < f → G v v1 → ∃ v', f_X0_squaresInAllViews_L h f (alls (cT h v) i) (nI i) v1 = some (alls (cT h v) (nw (cT h v)), v') ∧ G v v' := by
    intro d
    induction d with
    | zero =>
      intro i f v1 hi hf g
      obtain ⟨f, rfl⟩ : ∃ q, f = q + 1 := ⟨f - 1, by omega⟩
      refine ⟨v1, ?_, g⟩
      rw [f_X0_squaresInAllViews_L, if_pos (by rw [g h (by omega), eN, pI_le (by omega) (by omega)]; omega)]
      rw [nwc, eN2, show i = N by omega]
    | succ d ih =>
      intro i f v1 hi hf g
      obtain ⟨f, rfl⟩ : ∃ q, f = q + 1 := ⟨f - 1, by omega⟩
      obtain ⟨v2, e, g2⟩ := x_view (i := i) (v := v1) hh (by rw [Gc hh g]; exact hT) (by rw [g h (by omega)]; omega)
      rw [Gc hh g] at e
      obtain ⟨v', e', g'⟩ := ih (i+1) f v2 (by omega) (by omega) (G_tr g g2)
      refine ⟨v', ?_, g'⟩
      rw [f_X0_squaresInAllViews_L, if_neg (by rw [g h (by omega), eN, pI_le (by omega) (by omega)]; omega), e]
      simp only [Option.bind_some, nI_add1]
      exact e'
  exact this N 0 100000 v (by omega) (by omega) (fun _ _ => rfl)
def inn (x lo hi : Int32) : Int32 := if lo ≤ x ∧ x ≤ hi then 1 else 0
def lat (x0 x1 x2 : Int32) : Int32 :=
  let row := x0 / 5 + (if x1 = 0 then 0 - x2 else if x1 = 2 then x2 else 0)
  let col := (x0 - x0 / 5 * 5) + (if x1 = 1 then x2 else if x1 = 3 then 0 - x2 else 0)
  if 0 ≤ row ∧ row ≤ 4 ∧ 0 ≤ col ∧ col ≤ 4 then 5 * row + col else -1
theorem m_lotAt {x0 x1 x2 w} : f_X5_lotAt x0 x1 x2 w = some (lat x0 x1 x2, w) := by
  unfold f_X5_lotAt lat
  simp only [m_in_0_4, Option.bind_some]
  by_cases c0 : x1 = 0
  · subst c0
    simp only [show ¬ (0 : Int32) = 1 by decide, show ¬ (0 : Int32) = 3 by decide, if_true, if_false]
    by_cases h1 : 0 ≤ x0 / 5 + (0 - x2) ∧ x0 / 5 + (0 - x2) ≤ 4 <;> by_cases h2 : 0 ≤ x0 - x0 / 5 * 5 + 0 ∧ x0 - x0 / 5 * 5 + 0 ≤ 4 <;> simp [h1, h2] <;> grind
  · by_cases c2 : x1 = 2
    · subst c2
      simp only [show ¬ (2 : Int32) = 0 by decide, show ¬ (2 : Int32) = 1 by decide, show ¬ (2 : Int32) = 3 by decide, if_true, if_false]
      by_cases h1 : 0 ≤ x0 / 5 + x2 ∧ x0 / 5 + x2 ≤ 4 <;> by_cases h2 : 0 ≤ x0 - x0 / 5 * 5 + 0 ∧ x0 - x0 / 5 * 5 + 0 ≤ 4 <;> simp [h1, h2] <;> grind
    · by_cases c1 : x1 = 1
      · subst c1
        simp only [show ¬ (1 : Int32) = 0 by decide, show ¬ (1 : Int32) = 2 by decide, show ¬ (1 : Int32) = 3 by decide, if_true, if_false]
        by_cases h1 : 0 ≤ x0 / 5 + 0 ∧ x0 / 5 + 0 ≤ 4 <;> by_cases h2 : 0 ≤ x0 - x0 / 5 * 5 + x2 ∧ x0 - x0 / 5 * 5 + x2 ≤ 4 <;> simp [h1, h2] <;> grind
      · by_cases c3 : x1 = 3
        · subst c3
          simp only [show ¬ (3 : Int32) = 0 by decide, show ¬ (3 : Int32) = 2 by decide, show ¬ (3 : Int32) = 1 by decide, if_true, if_false]
          by_cases h1 : 0 ≤ x0 / 5 + 0 ∧ x0 / 5 + 0 ≤ 4 <;> by_cases h2 : 0 ≤ x0 - x0 / 5 * 5 + (0 - x2) ∧ x0 - x0 / 5 * 5 + (0 - x2) ≤ 4 <;> simp [h1, h2] <;> grind
        · simp only [c0, c1, c2, c3, if_false]
          by_cases h1 : 0 ≤ x0 / 5 + 0 ∧ x0 / 5 + 0 ≤ 4 <;> by_cases h2 : 0 ≤ x0 - x0 / 5 * 5 + 0 ∧ x0 - x0 / 5 * 5 + 0 ≤ 4 <;> simp [h1, h2] <;> grind
def lti (p w : Int32) : Nat → Int32
  | 0 => p
  | k + 1 => nl (lti p w k) w
theorem lt_i {T i} : ∀ k, lt T i k = lti (T.W 0 i) (T.W 2 i) k
  | 0 => rfl
  | k + 1 => by rw [lt, lti, lt_i k]
theorem lat_lt : ∀ p, p < 25 → ∀ a, a < 4 → ∀ k, k < 5 → lat (nI p) (nI a) (nI k) = lti (nI p) (nI a) k := by decide +kernel
theorem lat_T {T i k} (hT : OK T) (hk : k < 5) : lat (T.W 0 i) (T.W 2 i) (nI k) = lt T i k := by
  obtain ⟨p, hp, e⟩ := hT.w0 i
  obtain ⟨a, ha, e'⟩ := hT.w2 i
  rw [lt_i, e, e', lat_lt p hp a ha k hk]
-- if place k is in the town, the nearer ones are
theorem lti_in : ∀ p, p < 25 → ∀ a, a < 4 → ∀ k, k < 5 → ∀ n, n < k → 0 ≤ lti (nI p) (nI a) k → 0 ≤ lti (nI p) (nI a) n := by decide +kernel
theorem lt_in {T i k n} (hT : OK T) (hk : k < 5) (hn : n < k) (h : 0 ≤ lt T i k) : 0 ≤ lt T i n := by
  obtain ⟨p, hp, e⟩ := hT.w0 i
  obtain ⟨a, ha, e'⟩ := hT.w2 i
  rw [lt_i, e, e'] at h ⊢
  exact lti_in p hp a ha k hk n hn h
theorem su_cap : ∀ j, j < 10 → ∀ a, a < 4 → ∃ q, q < 10 ∧ cap (nI j + nI a) = nI q := by decide +kernel
theorem st_r {T} (hT : OK T) (l : Nat) : ∃ q, q < 10 ∧ st T l = nI q := by
  obtain ⟨j, hj, e⟩ := hT.h l
  unfold st
  rw [e]
  have h0 := su_cap j hj 0 (by omega)
  have h2 := su_cap j hj 2 (by omega)
  have h3 := su_cap j hj 3 (by omega)
  rw [show nI 0 = 0 from rfl, Int32.add_zero] at h0
  rw [show nI 2 = 2 from rfl] at h2
  rw [show nI 3 = 3 from rfl] at h3
  have hz : ∃ q, q < 10 ∧ (0 : Int32) = nI q := ⟨0, by omega, rfl⟩
  cases s : su T.m <;> simp only [s, if_true, if_false, Bool.false_eq_true, Int32.add_zero] <;> (repeat' split) <;> assumption
theorem tp_r {T i} (hT : OK T) (k : Nat) : ∃ q, q < 10 ∧ tp T i k = nI q := by
  unfold tp
  split
  · exact st_r hT _
  · exact ⟨0, by omega, rfl⟩
-- the test of one nearer lot
theorem fd_key (A B : Prop) [Decidable A] [Decidable B] : (decide A == !decide B) = true → (A ↔ ¬ B) := by
  by_cases a : A <;> by_cases b : B <;> simp [a, b]
theorem fd_tb : (List.range 5).all (fun k => (List.range k).all (fun n => n == 0 || (List.range 10).all (fun lev => (List.range 10).all (fun t => (List.range 10).all (fun j =>
    decide ((2 * nI j - 2 * nI lev) * nI n ≤ (2 * nI t - 2 * nI lev - 1) * nI k) == !decide (nI lev + fd ((2 * nI t - 2 * nI lev - 1) * nI k) (2 * nI n) + 1 ≤ nI j)))))) = true := by decide +kernel
theorem fd_t : ∀ k, k < 5 → ∀ n, n < k → 0 < n → ∀ lev, lev < 10 → ∀ t, t < 10 → ∀ j, j < 10 →
    (((2 * nI j - 2 * nI lev) * nI n ≤ (2 * nI t - 2 * nI lev - 1) * nI k) ↔ ¬ (nI lev + fd ((2 * nI t - 2 * nI lev - 1) * nI k) (2 * nI n) + 1 ≤ nI j)) := by
  intro k hk n hn h0 lev hl t ht j hj
  have h1 := List.all_eq_true.mp (List.all_eq_true.mp fd_tb k (List.mem_range.mpr hk)) n (List.mem_range.mpr hn)
  rw [Bool.or_eq_true] at h1
  rcases h1 with e | e
  · have := eq_of_beq e; omega
  · exact fd_key _ _ (List.all_eq_true.mp (List.all_eq_true.mp (List.all_eq_true.mp e lev (List.mem_range.mpr hl)) t (List.mem_range.mpr ht)) j (List.mem_range.mpr hj))
theorem fd_r : ∀ k, k < 5 → ∀ n, n < k → 0 < n → ∀ lev, lev < 10 → ∀ t, t < 10 →
    nI lev + fd ((2 * nI t - 2 * nI lev - 1) * nI k) (2 * nI n) + 1 < 64 := by decide +kernel
theorem lws_r {T i k} (hT : OK T) (hk : k < 5) : ∀ c, c < k → ∃ q, q < 64 ∧ lws T i k c = nI q
  | 0, _ => ⟨0, by omega, rfl⟩
  | c + 1, hc => by
    obtain ⟨q, hq, e⟩ := lws_r hT (i := i) hk c (by omega)
    obtain ⟨t, ht, et⟩ := tp_r hT (i := i) (c+1)
    obtain ⟨lev, hl, el⟩ := hT.w1 i
    rw [lws]
    split
    · unfold mx
      split
      · exact ⟨q, hq, e⟩
      · rename_i h1 h2
        rw [et, el] at h2 ⊢
        have := fd_r k hk (c+1) hc (by omega) lev hl t ht
        refine nI_ex (by omega) ?_ this
        rw [e] at h2
        have := pI_pos (show q < 2147483648 by omega)
        grind
    · exact ⟨q, hq, e⟩
theorem lw_r {T i k} (hT : OK T) (hk : k < 5) : ∃ q, q < 64 ∧ lw T i k = nI q := by
  unfold lw
  by_cases h0 : k = 0
  · subst h0; split
    · exact ⟨0, by omega, rfl⟩
    · exact ⟨0, by omega, rfl⟩
  · split
    · exact lws_r hT hk (k-1) (by omega)
    · exact ⟨0, by omega, rfl⟩

def msk (b j : Nat) : Int32 := if b < j then (1 <<< (nI j &&& 31)) - (1 <<< (nI b &&& 31)) else 0
theorem msk_s : ∀ j, j < 10 → ∀ b, b < 64 → msk b j ||| (if b ≤ j then (1 <<< (nI j &&& 31)) else 0) = msk b (j+1) := by decide +kernel
theorem msk_e : ∀ t, t < 10 → ∀ b, b < 64 → (if mx 0 (nI t - nI b) = 0 then (0 : Int32) else (1 <<< (nI t &&& 31)) - (1 <<< (nI b &&& 31))) = msk b t := by decide +kernel
theorem m_seen_i {i k j : Nat} {w : jx_V} {x4 high set : Int32} (hT : OK (mT (w 1))) (hi : i < (w 1 1).toNatClampNeg) (hk : k < 5) (hj : j < 10) (hin : 0 ≤ lt (mT (w 1)) i k) :
    ∀ d c f, c + d + 1 = k → f_X5_seen_L (f + d + 1) 1 (nI i) (nI k) ((mT (w 1)).W 1 i) x4 high set (nI j) (if lws (mT (w 1)) i k c ≤ nI j then 1 else 0) (nI (c+1)) w
      = f_X5_seen_L f 0 (nI i) (nI k) ((mT (w 1)).W 1 i) x4 high (set ||| (if lws (mT (w 1)) i k (k-1) ≤ nI j then (1 <<< (nI j &&& 31)) else 0)) (nI (j+1)) 0 0 w := by
  obtain ⟨N, hN, eN⟩ := hT.n
  have eN' : (w 1 1).toNatClampNeg = N := by rw [show w 1 1 = nI N from eN, tn (by omega)]
  intro d
  induction d with
  | zero =>
    intro c f hc
    rw [f_X5_seen_L, if_neg (by decide), if_pos rfl, if_pos (by rw [pI_le (by omega) (by omega)]; omega), show k - 1 = c by omega, nI_add1]
    by_cases h : lws (mT (w 1)) i k c ≤ nI j <;> simp [h]
  | succ d ih =>
    intro c f hc
    have e0 : w 1 (111 + 6 * i + 0) = (mT (w 1)).W 0 i := (mW (by omega) hi).symm
    have e2 : w 1 (111 + 6 * i + 2) = (mT (w 1)).W 2 i := (mW (by omega) hi).symm
    have hin' : 0 ≤ lt (mT (w 1)) i (c+1) := lt_in hT hk (by omega) hin
    have ih' := ih (c+1) f (by omega)
    rw [show f + (d + 1) + 1 = (f + d + 1) + 1 by omega, f_X5_seen_L, if_neg (by decide), if_pos rfl, if_neg (by rw [pI_le (by omega) (by omega)]; omega)]
    simp only [m_told0 (show i < 10 by omega), m_told2 (show i < 10 by omega), Option.bind_some, e0, e2, m_lotAt, lat_T hT (show c + 1 < 5 by omega)]
    rw [show nI (c + 1) + 1 = nI (c + 1 + 1) from nI_add1 _]
    rcases lt_r hT (i := i) (c+1) with e | ⟨q, hq, e⟩
    · rw [e] at hin'; exact absurd hin' (by decide)
    · simp only [e, m_thing hq, Option.bind_some]
      by_cases h : lws (mT (w 1)) i k c ≤ nI j
      · rw [if_neg (by simp [h])]
        by_cases ht : 0 ≤ w 1 (11 + 4 * q)
        · have eln : ln (mT (w 1)) i (c+1) = nI q := by unfold ln; rw [e, tn (by omega), if_pos ⟨pI_pos (by omega), by rw [mK hq]; exact ht⟩]
          have etp : tp (mT (w 1)) i (c+1) = st (mT (w 1)) q := by unfold tp; rw [eln, tn (by omega), if_pos (pI_pos (by omega))]
          simp only [Int32.not_lt.mpr ht, if_false, m_stands hq ht, Option.bind_some, show ¬ (1 : Int32) = 0 by decide]
          obtain ⟨t, ht', et⟩ := st_r hT q
          obtain ⟨lev, hl, el⟩ := hT.w1 i
          have key := fd_t k hk (c+1) (by omega) (by omega) lev hl t ht' j hj
          have el1 : lws (mT (w 1)) i k (c+1) = mx (lws (mT (w 1)) i k c) (nI lev + fd ((2 * nI t - 2 * nI lev - 1) * nI k) (2 * nI (c + 1)) + 1) := by
            rw [lws, if_pos (by rw [eln]; exact pI_pos (by omega)), etp, et, el]
          rw [el1, el] at ih'
          rw [et, el]
          have hmx : (mx (lws (mT (w 1)) i k c) (nI lev + fd ((2 * nI t - 2 * nI lev - 1) * nI k) (2 * nI (c + 1)) + 1) ≤ nI j) ↔ (nI lev + fd ((2 * nI t - 2 * nI lev - 1) * nI k) (2 * nI (c + 1)) + 1 ≤ nI j) := by
            unfold mx; split <;> grind
          by_cases h2 : nI lev + fd ((2 * nI t - 2 * nI lev - 1) * nI k) (2 * nI (c + 1)) + 1 ≤ nI j
          · rw [if_neg (fun q => (key.mp q) h2)]
            rw [if_pos (hmx.mpr h2)] at ih'
            exact ih'
          · rw [if_pos (key.mpr h2)]
            rw [if_neg (fun q => h2 (hmx.mp q))] at ih'
            exact ih'
        · have eln : ln (mT (w 1)) i (c+1) = -1 := by unfold ln; rw [e, tn (by omega), mK hq]; simp [ht]
          rw [show lws (mT (w 1)) i k (c+1) = lws (mT (w 1)) i k c by rw [lws, eln]; simp, if_pos h] at ih'
          rw [if_pos (Int32.not_le.mp ht)]
          simp only [if_true]
          exact ih'
      · rw [if_pos (by simp [h])]
        have h3 : ¬ lws (mT (w 1)) i k (c+1) ≤ nI j := by
          rw [lws]
          split
          · unfold mx; split <;> grind
          · exact h
        rw [if_neg h3] at ih'
        exact ih'
theorem m_seen_o {i k : Nat} {w : jx_V} {x4 : Int32} {high b : Nat} (hT : OK (mT (w 1))) (hi : i < (w 1 1).toNatClampNeg) (h1 : 1 ≤ k) (hk : k < 5) (hh : high < 10) (hin : 0 < high → 0 ≤ lt (mT (w 1)) i k) (hb : b < 64) (eb : 0 < high → lws (mT (w 1)) i k (k-1) = nI b) :
    ∀ d j f, j + d = high → 10 * d < f → f_X5_seen_L f 0 (nI i) (nI k) ((mT (w 1)).W 1 i) x4 (nI high) (msk b j) (nI j) 0 0 w = some (msk b high, w) := by
  intro d
  induction d with
  | zero =>
    intro j f hj hf
    obtain ⟨f, rfl⟩ : ∃ q, f = q + 1 := ⟨f - 1, by omega⟩
    rw [f_X5_seen_L, if_pos rfl, if_pos (by rw [pI_le (by omega) (by omega)]; omega), show j = high by omega]
  | succ d ih =>
    intro j f hj hf
    obtain ⟨f, rfl⟩ : ∃ q, f = q + 1 := ⟨f - 1, by omega⟩
    rw [f_X5_seen_L, if_pos rfl, if_neg (by rw [pI_le (by omega) (by omega)]; omega)]
    have e := m_seen_i (x4 := x4) (high := nI high) (set := msk b j) hT hi hk (show j < 10 by omega) (hin (by omega)) (k-1) 0 (f - k) (by omega)
    rw [show lws (mT (w 1)) i k 0 = 0 from rfl, if_pos (pI_pos (by omega)), show f - k + (k - 1) + 1 = f by omega, eb (by omega)] at e
    simp only [pI_le (show b < 2147483648 by omega) (show j < 2147483648 by omega)] at e
    refine e.trans ?_
    rw [msk_s j (by omega) b hb]
    exact ih (j+1) (f - k) (by omega) (by omega)
theorem sq_0 {T i k} (h : ln T i k = -1) : tp T i k = 0 ∧ lw T i k = 0 ∧ sq T i k = 0 ∧ ss T i k = 0 := by
  have h1 : tp T i k = 0 := by unfold tp; rw [h]; simp
  have h2 : lw T i k = 0 := by unfold lw; rw [h]; simp
  have h3 : sq T i k = 0 := by unfold sq; rw [h1, h2]; rfl
  exact ⟨h1, h2, h3, by unfold ss; rw [h3, if_pos rfl]⟩
theorem ss_m {T i k} {t b : Nat} (ht : t < 10) (hb : b < 64) (e1 : tp T i k = nI t) (e2 : lw T i k = nI b) : ss T i k = msk b t := by
  unfold ss sq; rw [e1, e2]; exact msk_e t ht b hb
theorem m_seen_z {F : Nat} {x1 x2 x3 x4 : Int32} {w : jx_V} (hF : 0 < F) : f_X5_seen_L F 0 x1 x2 x3 x4 0 0 0 0 0 w = some (0, w) := by
  obtain ⟨f, rfl⟩ : ∃ q, F = q + 1 := ⟨F - 1, by omega⟩
  rw [f_X5_seen_L, if_pos rfl, if_pos (by decide)]
theorem m_seen_t {F i k : Nat} {w : jx_V} {x4 : Int32} {high b : Nat} (hF : 100 < F) (hT : OK (mT (w 1))) (hi : i < (w 1 1).toNatClampNeg) (h1 : 1 ≤ k) (hk : k < 5) (hh : high < 10) (hin : 0 ≤ lt (mT (w 1)) i k) (hb : b < 64) (eb : lws (mT (w 1)) i k (k-1) = nI b) :
    f_X5_seen_L F 0 (nI i) (nI k) ((mT (w 1)).W 1 i) x4 (nI high) 0 0 0 0 w = some (msk b high, w) := by
  have := m_seen_o (x4 := x4) (high := high) (b := b) hT hi h1 hk hh (fun _ => hin) hb (fun _ => eb) high 0 F (by omega) (by omega)
  rw [show msk b 0 = 0 from if_neg (by omega), show nI 0 = 0 from rfl] at this
  exact this
theorem m_seen {i k : Nat} {w : jx_V} (hT : OK (mT (w 1))) (hi : i < (w 1 1).toNatClampNeg) (h1 : 1 ≤ k) (hk : k < 5) :
    f_X5_seen (nI i) (nI k) w = some (ss (mT (w 1)) i k, w) := by
  obtain ⟨N, hN, eN⟩ := hT.n
  have eN' : (w 1 1).toNatClampNeg = N := by rw [show w 1 1 = nI N from eN, tn (by omega)]
  have e0 : w 1 (111 + 6 * i + 0) = (mT (w 1)).W 0 i := (mW (by omega) hi).symm
  have e1 : w 1 (111 + 6 * i + 1) = (mT (w 1)).W 1 i := (mW (by omega) hi).symm
  have e2 : w 1 (111 + 6 * i + 2) = (mT (w 1)).W 2 i := (mW (by omega) hi).symm
  unfold f_X5_seen
  generalize hF : (100000 : Nat) = F
  simp only [m_told0 (show i < 10 by omega), m_told1 (show i < 10 by omega), m_told2 (show i < 10 by omega), Option.bind_some, e0, e1, e2, m_lotAt, lat_T hT hk]
  rcases lt_r hT (i := i) k with e | ⟨q, hq, e⟩
  · rw [e, if_pos (by decide)]
    rw [m_seen_z (by omega), (sq_0 (by unfold ln; rw [e]; simp)).2.2.2]
  · rw [e, if_neg (nI_neg (by omega))]
    simp only [m_thing hq, Option.bind_some]
    by_cases ht : 0 ≤ w 1 (11 + 4 * q)
    · have eln : ln (mT (w 1)) i k = nI q := by unfold ln; rw [e, tn (by omega), if_pos ⟨pI_pos (by omega), by rw [mK hq]; exact ht⟩]
      have etp : tp (mT (w 1)) i k = st (mT (w 1)) q := by unfold tp; rw [eln, tn (by omega), if_pos (pI_pos (by omega))]
      have elw : lw (mT (w 1)) i k = lws (mT (w 1)) i k (k-1) := by unfold lw; rw [eln, if_pos (pI_pos (by omega))]
      obtain ⟨t, ht', et⟩ := tp_r hT (i := i) k
      obtain ⟨b, hb, eb⟩ := lw_r hT (i := i) hk
      rw [if_neg (Int32.not_lt.mpr ht), if_neg (by decide), m_stands hq ht, Option.bind_some, ← etp, et, ss_m ht' hb et eb]
      show f_X5_seen_L F 0 (nI i) (nI k) ((mT (w 1)).W 1 i) (nI q) (nI t) 0 0 0 0 w = _
      rw [m_seen_t (by omega) hT hi h1 hk ht' (by rw [e]; exact pI_pos (by omega)) hb (by rw [← elw, eb])]
    · have eln : ln (mT (w 1)) i k = -1 := by unfold ln; rw [e, tn (by omega), mK hq]; simp [ht]
      rw [if_pos (Int32.not_le.mp ht)]
      simp only [if_true]
      rw [m_seen_z (by omega), (sq_0 eln).2.2.2]
def onesP : Nat → Int32 → Int32 → Option Int32
  | 0, _, _ => none
  | n + 1, a, x => if x = 0 then some a else onesP n (a+1) (x &&& (x - 1))
theorem m_onesP {w x0} : ∀ n a x, f_X5_ones_L n x0 a x w = (onesP n a x).map (fun r => (r, w))
  | 0, _, _ => rfl
  | n + 1, a, x => by
    rw [f_X5_ones_L, onesP]
    split
    · rfl
    · exact m_onesP n _ _
theorem onesP_s {r} : ∀ n a x, onesP n a x = some r → onesP (n+1) a x = some r
  | n + 1, a, x, h => by
    rw [onesP] at h ⊢
    split
    · rename_i c; rw [if_pos c] at h; exact h
    · rename_i c; rw [if_neg c] at h; exact onesP_s n _ _ h
theorem onesP_m {r n a x} (h : onesP n a x = some r) : ∀ m, onesP (n + m) a x = some r
  | 0 => h
  | m + 1 => onesP_s _ _ _ (onesP_m h m)
theorem m_ones {x w r} (h : onesP 40 0 x = some r) : f_X5_ones x w = some (r, w) := by
  unfold f_X5_ones
  rw [m_onesP, show 100000 = 40 + 99960 from rfl, onesP_m h]; rfl
theorem ones_m : ∀ t, t < 10 → ∀ b, b < 64 → onesP 40 0 (msk b t) = some (mx 0 (nI t - nI b)) := by decide +kernel
theorem m_ones_ss {T i k w} (hT : OK T) (hk : k < 5) : f_X5_ones (ss T i k) w = some (sq T i k, w) := by
  obtain ⟨t, ht', et⟩ := tp_r hT (i := i) k
  obtain ⟨b, hb, eb⟩ := lw_r hT (i := i) hk
  apply m_ones
  rw [ss_m ht' hb et eb]; unfold sq; rw [et, eb]
  exact ones_m t ht' b hb
def FM (w w' : jx_V) : Prop := (∀ c, c ≠ 0 → c ≠ 5 → c ≠ 6 → w' c = w c) ∧ ∀ i, i ≠ 6 → i ≠ 7 → i ≠ 8 → w' 0 i = w 0 i
theorem FM_r {w} : FM w w := ⟨fun _ _ _ _ => rfl, fun _ _ _ _ => rfl⟩
theorem FM_t {u v w} (a : FM u v) (b : FM v w) : FM u w := ⟨fun c x y z => (b.1 c x y z).trans (a.1 c x y z), fun c x y z => (b.2 c x y z).trans (a.2 c x y z)⟩
theorem FM_u0 {w w' : jx_V} {i x} (a : FM w w') (h : i = 6 ∨ i = 7 ∨ i = 8) : FM w (jx_up w' 0 i x) :=
  ⟨fun c hc h5 h6 => by rw [jx_up_ne hc]; exact a.1 c hc h5 h6, fun j h1 h2 h3 => by rw [up_g, if_neg (by omega)]; exact a.2 j h1 h2 h3⟩
theorem FM_u5 {w w' : jx_V} {i x} (a : FM w w') : FM w (jx_up w' 5 i x) :=
  ⟨fun c hc h5 h6 => by rw [jx_up_ne h5]; exact a.1 c hc h5 h6, fun j h1 h2 h3 => by rw [up_g, if_neg (by omega)]; exact a.2 j h1 h2 h3⟩
theorem FM_u6 {w w' : jx_V} {i x} (a : FM w w') : FM w (jx_up w' 6 i x) :=
  ⟨fun c hc h5 h6 => by rw [jx_up_ne h6]; exact a.1 c hc h5 h6, fun j h1 h2 h3 => by rw [up_g, if_neg (by omega)]; exact a.2 j h1 h2 h3⟩
theorem FM_1 {w w' : jx_V} (a : FM w w') : w' 1 = w 1 := a.1 1 (by decide) (by decide) (by decide)
abbrev LSp (w w1 : jx_V) (A5 A6 : Nat → Int32) (a6 a7 a8 : Int32) : Prop := FM w w1 ∧ (∀ o, o < 4 → w1 5 o = A5 o) ∧ (∀ o, o < 4 → w1 6 o = w 6 o + A6 o) ∧ w1 0 6 = a6 ∧ w1 0 7 = a7 ∧ w1 0 8 = a8
theorem LSp.f {w w1 : jx_V} {A5 A6 : Nat → Int32} {a6 a7 a8 : Int32} (p : LSp w w1 A5 A6 a6 a7 a8) : FM w w1 := p.1
theorem LSp.s {w w1 : jx_V} {A5 A6 : Nat → Int32} {a6 a7 a8 : Int32} (p : LSp w w1 A5 A6 a6 a7 a8) : ∀ o, o < 4 → w1 5 o = A5 o := p.2.1
theorem LSp.g {w w1 : jx_V} {A5 A6 : Nat → Int32} {a6 a7 a8 : Int32} (p : LSp w w1 A5 A6 a6 a7 a8) : ∀ o, o < 4 → w1 6 o = w 6 o + A6 o := p.2.2.1
theorem LSp.a {w w1 : jx_V} {A5 A6 : Nat → Int32} {a6 a7 a8 : Int32} (p : LSp w w1 A5 A6 a6 a7 a8) : w1 0 6 = a6 := p.2.2.2.1
theorem LSp.r {w w1 : jx_V} {A5 A6 : Nat → Int32} {a6 a7 a8 : Int32} (p : LSp w w1 A5 A6 a6 a7 a8) : w1 0 7 = a7 := p.2.2.2.2.1
theorem LSp.l {w w1 : jx_V} {A5 A6 : Nat → Int32} {a6 a7 a8 : Int32} (p : LSp w w1 A5 A6 a6 a7 a8) : w1 0 8 = a8 := p.2.2.2.2.2
theorem m_looks_s {i k f : Nat} {w w1 : jx_V} {A5 A6 : Nat → Int32} {a6 a7 a8 : Int32} (hT : OK (mT (w 1))) (hi : i < (w 1 1).toNatClampNeg) (p : LSp w w1 A5 A6 a6 a7 a8) (h1 : 1 ≤ k) (h2 : k < 5) :
    ∃ w2, f_X5_looks_L (f+1) 1 (nI i) ((mT (w 1)).W 3 i) (nI k) w1 = f_X5_looks_L f 1 (nI i) ((mT (w 1)).W 3 i) (nI (k+1)) w2 ∧
      LSp w w2 (fun o => sh1 (mT (w 1)) i (nI o) k (A5 o)) (fun o => A6 o + gp (mT (w 1)) i k o - (if (mT (w 1)).W 3 i = nI o then pt (mT (w 1)) i k else 0)) (a6 + sq (mT (w 1)) i k) (a7 + pt (mT (w 1)) i k) (ls1 (mT (w 1)) i k a8) := by
  obtain ⟨N, hN, eN⟩ := hT.n
  have eN' : (w 1 1).toNatClampNeg = N := by rw [show w 1 1 = nI N from eN, tn (by omega)]
  have ew : w1 1 = w 1 := FM_1 p.f
  have hi1 : i < (w1 1 1).toNatClampNeg := by rw [ew]; exact hi
  have hT1 : OK (mT (w1 1)) := by rw [ew]; exact hT
  have e0 : w 1 (111 + 6 * i + 0) = (mT (w 1)).W 0 i := (mW (by omega) hi).symm
  have e2 : w 1 (111 + 6 * i + 2) = (mT (w 1)).W 2 i := (mW (by omega) hi).symm
  have es := m_seen hT1 hi1 h1 h2
  rw [ew] at es
  rw [f_X5_looks_L, if_neg (by decide), if_pos rfl, if_neg (by rw [show (5 : Int32) = nI 5 from rfl, pI_le (by omega) (by omega)]; omega), es]
  simp only [Option.bind_some, m_ones_ss hT h2, nI_add1]
  by_cases c : sq (mT (w 1)) i k ≤ 0
  · rw [if_pos c]
    have ez : sq (mT (w 1)) i k = 0 := by
      have : 0 ≤ sq (mT (w 1)) i k := by unfold sq mx; split <;> grind
      grind
    have ep : pt (mT (w 1)) i k = 0 := by unfold pt; rw [ez]; split <;> simp
    refine ⟨w1, rfl, p.f, fun o ho => ?_, fun o ho => ?_, ?_, ?_, ?_⟩
    · rw [p.s o ho]; unfold sh1; rw [ez]; simp
    · rw [p.g o ho]; unfold gp; rw [ep]; simp
    · rw [p.a, ez, Int32.add_zero]
    · rw [p.r, ep, Int32.add_zero]
    · rw [p.l]; unfold ls1; rw [ez]; simp
  · rw [if_neg c]
    simp only [m_told0 (show i < 10 by omega), m_told2 (show i < 10 by omega), Option.bind_some, ew, e0, e2, m_lotAt, lat_T hT h2]
    rcases ln_r hT (i := i) k with e | ⟨q, hq, e, ht, elt⟩
    · exact absurd (by rw [(sq_0 e).2.2.1]; decide) c
    · rw [mK hq] at ht
      obtain ⟨o, ho, eo⟩ := hT.o q
      obtain ⟨t, ht3, et⟩ := hT.w3 i
      have eow : ow (mT (w 1)) i k = nI o := by unfold ow; rw [e, tn (by omega), eo]
      have eO : w 1 (12 + 4 * q) = nI o := by rw [← mO hq ht, eo]
      have c' : 0 < sq (mT (w 1)) i k := Int32.not_le.mp c
      have hs1 : ∀ o', o' < 4 → sh1 (mT (w 1)) i (nI o') k (A5 o') = if o' = o then A5 o + sq (mT (w 1)) i k else A5 o' := by
        intro o' ho'
        unfold sh1
        simp only [e, eow, pI_pos (show q < 2147483648 by omega), true_and, pI_eq (show o < 2147483648 by omega) (show o' < 2147483648 by omega)]
        by_cases c2 : o' = o
        · subst c2; simp
        · have c3 : ¬ o = o' := fun q => c2 q.symm
          simp [c2, c3]
      have hl1 : ls1 (mT (w 1)) i k a8 = a8 ||| (1 <<< (nI q &&& 31)) := by
        unfold ls1; rw [e, if_pos ⟨pI_pos (by omega), c'⟩]
      rw [elt]
      simp only [m_its1 hq, Option.bind_some, ew, eO, tn (show o < 2147483648 by omega), ib ho (by omega), if_false]
      by_cases c4 : nI o = (mT (w 1)).W 3 i
      · rw [if_pos c4]
        have ep : pt (mT (w 1)) i k = 0 := by unfold pt; rw [eow]; simp [c4]
        refine ⟨_, rfl, FM_u0 (FM_u0 (FM_u5 p.f) (by simp)) (by simp), fun o' ho' => ?_, fun o' ho' => ?_, ?_, ?_, ?_⟩
        · show _ = sh1 (mT (w 1)) i (nI o') k (A5 o'); rw [hs1 o' ho']; simp only [up_g]
          by_cases c2 : o' = o
          · subst c2; simp [p.s o' ho']
          · simp [c2, p.s o' ho']
        · simp only [up_g]; simp [p.g o' ho', gp, ep]
        · simp only [up_g]; simp [p.a]
        · simp only [up_g]; simp [p.r, ep]
        · simp only [up_g]; simp [p.l, hl1]
      · rw [if_neg c4]
        have fq : FM w (jx_up (jx_up (jx_up w1 5 o (w1 5 o + sq (mT (w 1)) i k)) 0 6 (jx_up w1 5 o (w1 5 o + sq (mT (w 1)) i k) 0 6 + sq (mT (w 1)) i k)) 0 8 (jx_up (jx_up w1 5 o (w1 5 o + sq (mT (w 1)) i k)) 0 6 (jx_up w1 5 o (w1 5 o + sq (mT (w 1)) i k) 0 6 + sq (mT (w 1)) i k) 0 8 ||| 1 <<< (nI q &&& 31))) :=
          FM_u0 (FM_u0 (FM_u5 p.f) (by simp)) (by simp)
        have epr := m_price (w := (jx_up (jx_up (jx_up w1 5 o (w1 5 o + sq (mT (w 1)) i k)) 0 6 (jx_up w1 5 o (w1 5 o + sq (mT (w 1)) i k) 0 6 + sq (mT (w 1)) i k)) 0 8 (jx_up (jx_up w1 5 o (w1 5 o + sq (mT (w 1)) i k)) 0 6 (jx_up w1 5 o (w1 5 o + sq (mT (w 1)) i k) 0 6 + sq (mT (w 1)) i k) 0 8 ||| 1 <<< (nI q &&& 31)))) (by rw [FM_1 fq]; exact hT) hq (by rw [FM_1 fq]; exact ht)
        rw [FM_1 fq] at epr
        rw [epr, et]
        simp only [Option.bind_some, tn (show t < 2147483648 by omega), ib ht3 (by omega), if_false]
        have ep : pt (mT (w 1)) i k = sq (mT (w 1)) i k * pc (mT (w 1)) q := by unfold pt; rw [eow, e, tn (by omega), if_pos ⟨pI_pos (by omega), c4⟩]
        rw [et, pI_eq (by omega) (by omega)] at c4
        refine ⟨_, rfl, FM_u6 (FM_u6 (FM_u0 fq (by simp))), fun o' ho' => ?_, fun o' ho' => ?_, ?_, ?_, ?_⟩
        · show _ = sh1 (mT (w 1)) i (nI o') k (A5 o'); rw [hs1 o' ho']; simp only [up_g]
          by_cases c2 : o' = o
          · subst c2; simp [p.s o' ho']
          · simp [c2, p.s o' ho']
        · simp only [gp, eow, et, e, ep, pI_eq (show o < 2147483648 by omega) (show o' < 2147483648 by omega), pI_eq (show t < 2147483648 by omega) (show o' < 2147483648 by omega), pI_eq (show o < 2147483648 by omega) (show t < 2147483648 by omega), ne_eq, up_g, pI_pos (show q < 2147483648 by omega)]
          by_cases c2 : o' = o
          · subst c2
            have c3 : ¬ t = o' := fun q => c4 q.symm
            simp [p.g o' ho', c4, c3]
            grind
          · by_cases c3 : o' = t
            · subst c3
              simp [p.g o' ho', c4, c2]
              grind
            · have c5 : ¬ o = o' := fun q => c2 q.symm
              have c6 : ¬ t = o' := fun q => c3 q.symm
              simp [p.g o' ho', c2, c3, c5, c6]
        · simp only [up_g]; simp [p.a]
        · simp only [up_g]; simp [p.r, ep]
        · simp only [up_g]; simp [p.l, hl1]
theorem m_looks {i : Nat} {w : jx_V} (hT : OK (mT (w 1))) (hi : i < (w 1 1).toNatClampNeg) :
    ∃ w', f_X5_looks (nI i) w = some w' ∧ FM w w' ∧ (∀ o, o < 4 → w' 5 o = shr (mT (w 1)) i (nI o)) ∧ (∀ o, o < 4 → w' 6 o = w 6 o + gw (mT (w 1)) i o) ∧ w' 0 6 = al (mT (w 1)) i ∧ w' 0 7 = rn (mT (w 1)) i ∧ w' 0 8 = lsT (mT (w 1)) i := by
  obtain ⟨N, hN, eN⟩ := hT.n
  have eN' : (w 1 1).toNatClampNeg = N := by rw [show w 1 1 = nI N from eN, tn (by omega)]
  have p0 : LSp w (jx_up (jx_up (jx_up (jx_up (jx_up (jx_up (jx_up w 5 0 0) 5 1 0) 5 2 0) 5 3 0) 0 6 0) 0 7 0) 0 8 0) (fun _ => 0) (fun _ => 0) 0 0 0 := by
    refine ⟨FM_u0 (FM_u0 (FM_u0 (FM_u5 (FM_u5 (FM_u5 (FM_u5 FM_r)))) (by simp)) (by simp)) (by simp), fun o ho => ?_, fun o ho => ?_, ?_, ?_, ?_⟩
    · have : o = 0 ∨ o = 1 ∨ o = 2 ∨ o = 3 := by omega
      rcases this with rfl | rfl | rfl | rfl <;> simp [up_g]
    · simp [up_g]
    · simp [up_g]
    · simp [up_g]
    · simp [up_g]
  obtain ⟨w1, q1, p1⟩ := m_looks_s (k := 1) (f := 99994) hT hi p0 (by omega) (by omega)
  obtain ⟨w2, q2, p2⟩ := m_looks_s (k := 2) (f := 99993) hT hi p1 (by omega) (by omega)
  obtain ⟨w3, q3, p3⟩ := m_looks_s (k := 3) (f := 99992) hT hi p2 (by omega) (by omega)
  obtain ⟨w4, q4, p4⟩ := m_looks_s (k := 4) (f := 99991) hT hi p3 (by omega) (by omega)
  refine ⟨w4, ?_, p4.f, ?_, ?_, ?_, ?_, ?_⟩
  · unfold f_X5_looks
    show f_X5_looks_L (99999+1) 0 (nI i) 0 0 w = _
    rw [f_X5_looks_L, if_pos rfl, if_neg (by decide), if_neg (by decide)]
    show f_X5_looks_L (99998+1) 0 (nI i) 1 0 _ = _
    rw [f_X5_looks_L, if_pos rfl, if_neg (by decide), if_neg (by decide)]
    show f_X5_looks_L (99997+1) 0 (nI i) 2 0 _ = _
    rw [f_X5_looks_L, if_pos rfl, if_neg (by decide), if_neg (by decide)]
    show f_X5_looks_L (99996+1) 0 (nI i) 3 0 _ = _
    rw [f_X5_looks_L, if_pos rfl, if_neg (by decide), if_neg (by decide)]
    show f_X5_looks_L (99995+1) 0 (nI i) 4 0 _ = _
    rw [f_X5_looks_L, if_pos rfl, if_pos (by decide), m_told3 (by omega), Option.bind_some]
    refine Eq.trans ?_ (q1.trans (q2.trans (q3.trans (q4.trans ?_))))
    · have e3 : (jx_up (jx_up (jx_up (jx_up (jx_up (jx_up (jx_up w 5 0 0) 5 1 0) 5 2 0) 5 3 0) 0 6 0) 0 7 0) 0 8 0) 1 (111 + 6 * i + 3) = (mT (w 1)).W 3 i := by
        rw [FM_1 p0.f]; exact (mW (by omega) hi).symm
      show f_X5_looks_L 99995 1 (nI i) ((jx_up (jx_up (jx_up (jx_up (jx_up (jx_up (jx_up w 5 0 0) 5 1 0) 5 2 0) 5 3 0) 0 6 0) 0 7 0) 0 8 0) 1 (111 + 6 * i + 3)) 1 _ = _
      rw [e3]; rfl
    · show f_X5_looks_L (99990+1) 1 _ _ (nI 5) _ = _
      rw [f_X5_looks_L, if_neg (by decide), if_pos rfl, if_pos (by decide)]
  · intro o ho; rw [p4.s o ho]; rfl
  · intro o ho; rw [p4.g o ho]; unfold gw rn; by_cases c : (mT (w 1)).W 3 i = nI o <;> simp only [c, if_true, if_false] <;> grind
  · rw [p4.a]; unfold al; rw [Int32.zero_add]
  · rw [p4.r]; unfold rn; rw [Int32.zero_add]
  · rw [p4.l]; rfl
theorem mn {w : jx_V} (hT : OK (mT (w 1))) : ∃ N, N ≤ 10 ∧ w 1 1 = nI N ∧ (w 1 1).toNatClampNeg = N := by
  obtain ⟨N, h1, h2⟩ := hT.n
  have h3 : w 1 1 = nI N := h2
  exact ⟨N, h1, h3, by rw [h3, tn (by omega)]⟩
theorem nwm {w : jx_V} : nw (mT (w 1)) = (w 1 1).toNatClampNeg := rfl
theorem m_gains {w : jx_V} (hT : OK (mT (w 1))) :
    ∃ w', f_X5_findGains w = some (rs (mT (w 1)), w') ∧ FM w w' ∧ ∀ o, o < 4 → w' 6 o = gs (mT (w 1)) o := by
  obtain ⟨N, hN, eN, eN2⟩ := mn hT
  have L : ∀ d i f w1, i + d = N → d < f → FM w w1 → (∀ o, o < 4 → w1 6 o = gsum (mT (w 1)) o i) →
      ∃ w', f_X5_findGains_L f 1 (rsum (mT (w 1)) i) (nI i) w1 = some (rs (mT (w 1)), w') ∧ FM w w' ∧ ∀ o, o < 4 → w' 6 o = gs (mT (w 1)) o := by
    intro d
    induction d with
    | zero =>
      intro i f w1 hi hf g hv
      obtain ⟨f, rfl⟩ : ∃ q, f = q + 1 := ⟨f - 1, by omega⟩
      refine ⟨w1, ?_, g, ?_⟩
      · rw [f_X5_findGains_L, if_neg (by decide), if_pos rfl, if_pos (by rw [FM_1 g, eN, pI_le (by omega) (by omega)]; omega)]
        unfold rs; rw [nwm, eN2, show i = N by omega]
      · intro o ho; unfold gs; rw [hv o ho, nwm, eN2, show i = N by omega]
    | succ d ih =>
      intro i f w1 hi hf g hv
      obtain ⟨f, rfl⟩ : ∃ q, f = q + 1 := ⟨f - 1, by omega⟩
      obtain ⟨w2, e, g2, _, h2, _, h7, _⟩ := m_looks (i := i) (w := w1) (by rw [FM_1 g]; exact hT) (by rw [FM_1 g]; omega)
      rw [FM_1 g] at h2 h7
      obtain ⟨w', e', g', h'⟩ := ih (i+1) f w2 (by omega) (by omega) (FM_t g g2) (fun o ho => by rw [h2 o ho, hv o ho]; rfl)
      refine ⟨w', ?_, g', h'⟩
      rw [f_X5_findGains_L, if_neg (by decide), if_pos rfl, if_neg (by rw [FM_1 g, eN, pI_le (by omega) (by omega)]; omega), e]
      simp only [Option.bind_some, nI_add1, h7]
      exact e'
  obtain ⟨w', e, g, hv⟩ := L N 0 99995 (jx_up (jx_up (jx_up (jx_up w 6 0 0) 6 1 0) 6 2 0) 6 3 0) (by omega) (by omega) (FM_u6 (FM_u6 (FM_u6 (FM_u6 FM_r))))
    (fun o ho => by
      simp only [up_g]
      have : o = 0 ∨ o = 1 ∨ o = 2 ∨ o = 3 := by omega
      rcases this with rfl | rfl | rfl | rfl <;> simp [gsum])
  refine ⟨w', ?_, g, hv⟩
  unfold f_X5_findGains
  show f_X5_findGains_L (99999+1) 0 0 0 w = _
  rw [f_X5_findGains_L, if_pos rfl, if_neg (by decide), if_neg (by decide)]
  show f_X5_findGains_L (99998+1) 0 1 0 _ = _
  rw [f_X5_findGains_L, if_pos rfl, if_neg (by decide), if_neg (by decide)]
  show f_X5_findGains_L (99997+1) 0 2 0 _ = _
  rw [f_X5_findGains_L, if_pos rfl, if_neg (by decide), if_neg (by decide)]
  show f_X5_findGains_L (99996+1) 0 3 0 _ = _
  rw [f_X5_findGains_L, if_pos rfl, if_neg (by decide), if_neg (by decide)]
  show f_X5_findGains_L (99995+1) 0 4 0 _ = _
  rw [f_X5_findGains_L, if_pos rfl, if_pos (by decide)]
  exact e
theorem m_gainOf {w : jx_V} {o : Nat} (hT : OK (mT (w 1))) (ho : o < 4) :
    ∃ w', f_X5_gainOf (nI o) w = some (gs (mT (w 1)) o, w') ∧ FM w w' ∧ ∀ o, o < 4 → w' 6 o = gs (mT (w 1)) o := by
  obtain ⟨w', e, g, h⟩ := m_gains hT
  refine ⟨w', ?_, g, h⟩
  unfold f_X5_gainOf
  rw [e, Option.bind_some]
  simp only [tn (show o < 2147483648 by omega), ib ho (by omega), if_false, h o ho]
theorem m_broken {i : Nat} {w : jx_V} (hT : OK (mT (w 1))) (hi : i < (w 1 1).toNatClampNeg) :
    ∃ w', f_X5_isBroken (nI i) w = some (if br (mT (w 1)) i then 1 else 0, w') ∧ FM w w' := by
  obtain ⟨N, hN, eN, eN2⟩ := mn hT
  obtain ⟨w', e, g, h5, _⟩ := m_looks hT hi
  refine ⟨w', ?_, g⟩
  unfold f_X5_isBroken
  rw [e, Option.bind_some]
  simp only [m_told4 (show i < 10 by omega), m_told5 (show i < 10 by omega), Option.bind_some, FM_1 g, show w 1 (111 + 6 * i + 4) = (mT (w 1)).W 4 i from (mW (by omega) hi).symm, show w 1 (111 + 6 * i + 5) = (mT (w 1)).W 5 i from (mW (by omega) hi).symm]
  rcases hT.w4 i with e4 | ⟨o, ho, e4⟩
  · rw [show br (mT (w 1)) i = false from decide_eq_false (fun q => by have := q.1; rw [e4] at this; exact absurd this (by decide)), e4, if_pos (by decide)]; rfl
  · rw [e4]
    simp only [nI_neg (show o < 2147483648 by omega), if_false, tn (show o < 2147483648 by omega), nl0 ho, or_false, h5 o ho]
    by_cases c : shr (mT (w 1)) i (nI o) < (mT (w 1)).W 5 i
    · rw [show br (mT (w 1)) i = true from decide_eq_true ⟨by rw [e4]; exact pI_pos (by omega), by rw [e4]; exact c⟩, if_neg (by grind)]; rfl
    · rw [show br (mT (w 1)) i = false from decide_eq_false (fun q => c (by have := q.2; rw [e4] at this; exact this)), if_pos (by grind)]; rfl
theorem m_bset {w : jx_V} (hT : OK (mT (w 1))) : ∃ w', f_X5_brokenSet w = some (bs (mT (w 1)), w') ∧ FM w w' := by
  obtain ⟨N, hN, eN, eN2⟩ := mn hT
  have : ∀ d i f w1, i + d = N → d < f → FM w w1 → ∃ w', f_X5_brokenSet_L f (bset (mT (w 1)) i) (nI i) w1 = some (bs (mT (w 1)), w') ∧ FM w w' := by
    intro d
    induction d with
    | zero =>
      intro i f v1 hi hf g
      obtain ⟨f, rfl⟩ : ∃ q, f = q + 1 := ⟨f - 1, by omega⟩
      refine ⟨v1, ?_, g⟩
      rw [f_X5_brokenSet_L, if_pos (by rw [FM_1 g, eN, pI_le (by omega) (by omega)]; omega)]
      unfold bs; rw [nwm, eN2, show i = N by omega]
    | succ d ih =>
      intro i f v1 hi hf g
      obtain ⟨f, rfl⟩ : ∃ q, f = q + 1 := ⟨f - 1, by omega⟩
      obtain ⟨v2, e, g2⟩ := m_broken (i := i) (w := v1) (by rw [FM_1 g]; exact hT) (by rw [FM_1 g]; omega)
      rw [FM_1 g] at e
      obtain ⟨v', e', g'⟩ := ih (i+1) f v2 (by omega) (by omega) (FM_t g g2)
      refine ⟨v', ?_, g'⟩
      rw [f_X5_brokenSet_L, if_neg (by rw [FM_1 g, eN, pI_le (by omega) (by omega)]; omega), e]
      simp only [Option.bind_some, nI_add1]
      rw [bset] at e'
      cases c : br (mT (w 1)) i
      · rw [c] at e'; simp only [if_true, if_false, Bool.false_eq_true, show bset (mT (w 1)) i ||| 0 = bset (mT (w 1)) i by simp]; exact e'
      · rw [c] at e'; exact e'
  exact this N 0 100000 w (by omega) (by omega) FM_r
theorem m_alls {w : jx_V} (hT : OK (mT (w 1))) : ∃ w', f_X5_allViews w = some (alls (mT (w 1)) (nw (mT (w 1))), w') ∧ FM w w' := by
  obtain ⟨N, hN, eN, eN2⟩ := mn hT
  have : ∀ d i f w1, i + d = N → d < f → FM w w1 → ∃ w', f_X5_allViews_L f (alls (mT (w 1)) i) (nI i) w1 = some (alls (mT (w 1)) (nw (mT (w 1))), w') ∧ FM w w' := by
    intro d
    induction d with
    | zero =>
      intro i f v1 hi hf g
      obtain ⟨f, rfl⟩ : ∃ q, f = q + 1 := ⟨f - 1, by omega⟩
      refine ⟨v1, ?_, g⟩
      rw [f_X5_allViews_L, if_pos (by rw [FM_1 g, eN, pI_le (by omega) (by omega)]; omega)]
      rw [nwm, eN2, show i = N by omega]
    | succ d ih =>
      intro i f v1 hi hf g
      obtain ⟨f, rfl⟩ : ∃ q, f = q + 1 := ⟨f - 1, by omega⟩
      obtain ⟨v2, e, g2, _, _, h6, _⟩ := m_looks (i := i) (w := v1) (by rw [FM_1 g]; exact hT) (by rw [FM_1 g]; omega)
      rw [FM_1 g] at h6
      obtain ⟨v', e', g'⟩ := ih (i+1) f v2 (by omega) (by omega) (FM_t g g2)
      refine ⟨v', ?_, g'⟩
      rw [f_X5_allViews_L, if_neg (by rw [FM_1 g, eN, pI_le (by omega) (by omega)]; omega), e]
      simp only [Option.bind_some, nI_add1, h6]
      exact e'
  exact this N 0 100000 w (by omega) (by omega) FM_r
