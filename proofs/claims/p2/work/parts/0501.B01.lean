theorem tn {j : Nat} (h : j < 2147483648) : (nI j).toNatClampNeg = j := by
  unfold nI
  simp [Int32.toNatClampNeg, Int32.toInt_ofNat_of_lt (by omega : j < 2^31)]
theorem nI_add1 (j : Nat) : nI j + 1 = nI (j+1) := by unfold nI; simp [Int32.ofNat_add]
theorem pI_toInt {j : Nat} (h : j < 2147483648) : (nI j).toInt = j := Int32.toInt_ofNat_of_lt (by omega : j < 2^31)
theorem nI_ex {x : Int32} {b : Nat} (hb : b < 2147483648) (h : 0 ≤ x) (h2 : x < nI b) : ∃ j, j < b ∧ x = nI j := by
  have h3 := Int32.le_iff_toInt_le.mp h
  have h4 := Int32.lt_iff_toInt_lt.mp h2
  rw [pI_toInt hb] at h4
  refine ⟨x.toInt.toNat, by simp at h3; omega, ?_⟩
  apply Int32.toInt_inj.mp
  rw [pI_toInt (by omega)]
  simp at h3; omega
theorem nI_neg {j : Nat} (h : j < 2147483648) : ¬ nI j < 0 := by
  intro c
  have := Int32.lt_iff_toInt_lt.mp c
  rw [pI_toInt h] at this
  simp at this; omega
theorem pI_pos {j : Nat} (h : j < 2147483648) : 0 ≤ nI j := Int32.not_lt.mp (nI_neg h)
theorem ib {j b : Nat} (h : j < b) (hb : b ≤ 100000) : (nI j < 0 ∨ b ≤ j) = False := by
  simp [nI_neg (show j < 2147483648 by omega)]
  omega
theorem pI_le {a b : Nat} (ha : a < 2147483648) (hb : b < 2147483648) : (nI a ≤ nI b) = (a ≤ b) := by
  apply propext
  rw [Int32.le_iff_toInt_le, pI_toInt ha, pI_toInt hb]; omega
theorem pI_lt {a b : Nat} (ha : a < 2147483648) (hb : b < 2147483648) : (nI a < nI b) = (a < b) := by
  apply propext
  rw [Int32.lt_iff_toInt_lt, pI_toInt ha, pI_toInt hb]; omega
theorem pI_eq {a b : Nat} (ha : a < 2147483648) (hb : b < 2147483648) : (nI a = nI b) = (a = b) := by
  apply propext
  rw [← Int32.toInt_inj, pI_toInt ha, pI_toInt hb]; omega
theorem up_c {v : jx_V} {h i : Nat} {x : Int32} : jx_up v h i x h = upd (v h) i x := by simp [jx_up, jx_set]
theorem up_s {v : jx_V} {h i : Nat} {x : Int32} : jx_up v h i x h i = x := by simp [jx_up, jx_set, upd]
theorem up_g (v : jx_V) (h i : Nat) (x : Int32) (c j : Nat) : jx_up v h i x c j = if c = h ∧ j = i then x else v c j := by
  unfold jx_up jx_set upd; by_cases h1 : c = h <;> by_cases h2 : j = i <;> simp [h1, h2]
abbrev Tn : Type := (Nat → Int32) × (Nat → Int32) × (Nat → Int32) × (Nat → Int32) × (Nat → Nat → Int32) × (Nat → Int32) × (Nat → Int32) × (Nat → Int32) × Int32 × Int32 × Int32
def Tn.K (T : Tn) : Nat → Int32 := T.1
def Tn.O (T : Tn) : Nat → Int32 := T.2.1
def Tn.H (T : Tn) : Nat → Int32 := T.2.2.1
def Tn.P (T : Tn) : Nat → Int32 := T.2.2.2.1
def Tn.W (T : Tn) : Nat → Nat → Int32 := T.2.2.2.2.1
def Tn.C (T : Tn) : Nat → Int32 := T.2.2.2.2.2.1
def Tn.U (T : Tn) : Nat → Int32 := T.2.2.2.2.2.2.1
def Tn.S (T : Tn) : Nat → Int32 := T.2.2.2.2.2.2.2.1
def Tn.n (T : Tn) : Int32 := T.2.2.2.2.2.2.2.2.1
def Tn.m (T : Tn) : Int32 := T.2.2.2.2.2.2.2.2.2.1
def Tn.z (T : Tn) : Int32 := T.2.2.2.2.2.2.2.2.2.2
theorem Tx {T T' : Tn} (hK : T.K = T'.K) (hO : T.O = T'.O) (hH : T.H = T'.H) (hP : T.P = T'.P) (hW : T.W = T'.W) (hC : T.C = T'.C) (hU : T.U = T'.U) (hS : T.S = T'.S) (hn : T.n = T'.n) (hm : T.m = T'.m) (hz : T.z = T'.z) : T = T' :=
  Prod.ext hK (Prod.ext hO (Prod.ext hH (Prod.ext hP (Prod.ext hW (Prod.ext hC (Prod.ext hU (Prod.ext hS (Prod.ext hn (Prod.ext hm hz)))))))))
def mkT (K O H P : Nat → Int32) (W : Nat → Nat → Int32) (C U S : Nat → Int32) (n m z : Int32) : Tn :=
  (fun l => if l < 25 then K l else -1,
   fun l => if l < 25 ∧ 0 ≤ K l then O l else 0,
   fun l => if l < 25 ∧ 0 ≤ K l then H l else 0,
   fun l => if l < 25 ∧ 0 ≤ K l then P l else 0,
   fun a i => if a < 6 ∧ i < n.toNatClampNeg then W a i else 0,
   fun p => if p < 4 then C p else 0,
   fun p => if p < 4 then U p else 0,
   fun p => if p < 10 then S p else 0,
   n, m, z)
def cT (h : Nat) (v : jx_V) : Tn := mkT (v (h+3)) (v (h+4)) (v (h+5)) (v (h+6)) (fun a => v (h+7+a)) (v (h+13)) (v (h+14)) (v (h+15)) (v h 5) (v h 6) (v h 7)
def mT (s : Nat → Int32) : Tn := mkT (fun l => s (11+4*l)) (fun l => s (12+4*l)) (fun l => s (13+4*l)) (fun l => s (14+4*l)) (fun a i => s (111+6*i+a)) (fun p => s (3+p)) (fun o => s (7+o)) (fun k => s (171+k)) (s 1) (s 0) (s 2)
def OK (T : Tn) : Prop := (∀ l, T.K l = -1 ∨ 0 ≤ T.K l) ∧ (∀ l, ∃ j, j < 4 ∧ T.O l = nI j) ∧ (∀ l, ∃ j, j < 10 ∧ T.H l = nI j) ∧ (∀ l, ∃ j, j < 4 ∧ T.P l = nI j) ∧ (∀ i, ∃ j, j < 25 ∧ T.W 0 i = nI j) ∧ (∀ i, ∃ j, j < 10 ∧ T.W 1 i = nI j) ∧ (∀ i, ∃ j, j < 4 ∧ T.W 2 i = nI j) ∧ (∀ i, ∃ j, j < 4 ∧ T.W 3 i = nI j) ∧ (∀ i, T.W 4 i = -1 ∨ ∃ j, j < 4 ∧ T.W 4 i = nI j) ∧ (∃ j, j ≤ 10 ∧ T.n = nI j) ∧ (∀ k, T.S k = -1 ∨ ∃ j, j < 25 ∧ T.S k = nI j)
theorem OK.mk {T : Tn} (xk : ∀ l, T.K l = -1 ∨ 0 ≤ T.K l) (x0 : ∀ l, ∃ j, j < 4 ∧ T.O l = nI j) (x1 : ∀ l, ∃ j, j < 10 ∧ T.H l = nI j) (x2 : ∀ l, ∃ j, j < 4 ∧ T.P l = nI j) (x3 : ∀ i, ∃ j, j < 25 ∧ T.W 0 i = nI j) (x4 : ∀ i, ∃ j, j < 10 ∧ T.W 1 i = nI j) (x5 : ∀ i, ∃ j, j < 4 ∧ T.W 2 i = nI j) (x6 : ∀ i, ∃ j, j < 4 ∧ T.W 3 i = nI j) (x7 : ∀ i, T.W 4 i = -1 ∨ ∃ j, j < 4 ∧ T.W 4 i = nI j) (x8 : ∃ j, j ≤ 10 ∧ T.n = nI j) (x9 : ∀ k, T.S k = -1 ∨ ∃ j, j < 25 ∧ T.S k = nI j) : OK T := And.intro xk (And.intro x0 (And.intro x1 (And.intro x2 (And.intro x3 (And.intro x4 (And.intro x5 (And.intro x6 (And.intro x7 (And.intro x8 x9)))))))))
theorem OK.k {T : Tn} (h : OK T) : ∀ l, T.K l = -1 ∨ 0 ≤ T.K l := h.1
theorem OK.o {T : Tn} (h : OK T) : ∀ l, ∃ j, j < 4 ∧ T.O l = nI j := h.2.1
theorem OK.h {T : Tn} (h : OK T) : ∀ l, ∃ j, j < 10 ∧ T.H l = nI j := h.2.2.1
theorem OK.p {T : Tn} (h : OK T) : ∀ l, ∃ j, j < 4 ∧ T.P l = nI j := h.2.2.2.1
theorem OK.w0 {T : Tn} (h : OK T) : ∀ i, ∃ j, j < 25 ∧ T.W 0 i = nI j := h.2.2.2.2.1
theorem OK.w1 {T : Tn} (h : OK T) : ∀ i, ∃ j, j < 10 ∧ T.W 1 i = nI j := h.2.2.2.2.2.1
theorem OK.w2 {T : Tn} (h : OK T) : ∀ i, ∃ j, j < 4 ∧ T.W 2 i = nI j := h.2.2.2.2.2.2.1
theorem OK.w3 {T : Tn} (h : OK T) : ∀ i, ∃ j, j < 4 ∧ T.W 3 i = nI j := h.2.2.2.2.2.2.2.1
theorem OK.w4 {T : Tn} (h : OK T) : ∀ i, T.W 4 i = -1 ∨ ∃ j, j < 4 ∧ T.W 4 i = nI j := h.2.2.2.2.2.2.2.2.1
theorem OK.n {T : Tn} (h : OK T) : ∃ j, j ≤ 10 ∧ T.n = nI j := h.2.2.2.2.2.2.2.2.2.1
theorem OK.s {T : Tn} (h : OK T) : ∀ k, T.S k = -1 ∨ ∃ j, j < 25 ∧ T.S k = nI j := h.2.2.2.2.2.2.2.2.2.2
def su (m : Int32) : Bool := decide (¬ (m - m / 12 * 12 < 3) ∧ ¬ (8 < m - m / 12 * 12))
def cap (x : Int32) : Int32 := if 9 ≤ x then 9 else x
def st (T : Tn) (l : Nat) : Int32 :=
  if T.K l = 1 ∨ T.K l = 3 then cap (T.H l + (if su T.m then 2 else 0))
  else if T.K l = 4 then (if T.m - T.m / 2 * 2 = 1 then 0 else cap (T.H l))
  else if T.K l = 6 then cap (T.H l + 3) else cap (T.H l)
def gr (T : Tn) (l : Nat) : Int32 :=
  if T.K l = 1 then (if T.m - T.m / 4 * 4 = 3 then 1 else 0)
  else if T.K l = 3 then (if T.m - T.m / 4 * 4 = 3 ∨ T.m - T.m / 4 * 4 = 1 then 1 else 0) else 0
def pc (T : Tn) (l : Nat) : Int32 :=
  if T.K l = 1 ∨ T.K l = 3 then T.C (T.P l).toNatClampNeg + (if su T.m then 1 else 0)
  else if T.K l = 2 ∨ T.K l = 4 then (if T.P l = 0 then 0 else T.C (T.P l).toNatClampNeg)
  else if T.K l = 5 ∨ T.K l = 6 then 2 * T.C (T.P l).toNatClampNeg else T.C (T.P l).toNatClampNeg
theorem cK {h v j} (hj : j < 25) : (cT h v).K j = v (h+3) j := if_pos hj
theorem cO {h v j} (hj : j < 25) (ht : 0 ≤ v (h+3) j) : (cT h v).O j = v (h+4) j := if_pos ⟨hj, ht⟩
theorem cH {h v j} (hj : j < 25) (ht : 0 ≤ v (h+3) j) : (cT h v).H j = v (h+5) j := if_pos ⟨hj, ht⟩
theorem cP {h v j} (hj : j < 25) (ht : 0 ≤ v (h+3) j) : (cT h v).P j = v (h+6) j := if_pos ⟨hj, ht⟩
theorem cC {h v j} (hj : j < 4) : (cT h v).C j = v (h+13) j := if_pos hj
theorem cW {h v a i} (ha : a < 6) (hi : i < (v h 5).toNatClampNeg) : (cT h v).W a i = v (h+7+a) i := if_pos ⟨ha, hi⟩
theorem mK {s j} (hj : j < 25) : (mT s).K j = s (11+4*j) := if_pos hj
theorem mO {s} {j : Nat} (hj : j < 25) (ht : 0 ≤ s (11+4*j)) : (mT s).O j = s (12+4*j) := if_pos ⟨hj, ht⟩
theorem mH {s} {j : Nat} (hj : j < 25) (ht : 0 ≤ s (11+4*j)) : (mT s).H j = s (13+4*j) := if_pos ⟨hj, ht⟩
theorem mP {s} {j : Nat} (hj : j < 25) (ht : 0 ≤ s (11+4*j)) : (mT s).P j = s (14+4*j) := if_pos ⟨hj, ht⟩
theorem mC {s} {j : Nat} (hj : j < 4) : (mT s).C j = s (3+j) := if_pos hj
theorem mW {s} {a i : Nat} (ha : a < 6) (hi : i < (s 1).toNatClampNeg) : (mT s).W a i = s (111+6*i+a) := if_pos ⟨ha, hi⟩
-- the one side
theorem x_taken {h j v} (hj : j < 25) : f_X3_isTaken h (nI j) v = some (if v (h+3) j < 0 then 0 else 1, v) := by
  unfold f_X3_isTaken
  simp only [ib hj (by omega), if_false, tn (show j < 2147483648 by omega)]
  grind
theorem x_summer {h v} : f_X3_isSummer h v = some (if su (v h 6) then 1 else 0, v) := by
  unfold f_X3_isSummer su
  by_cases h1 : v h 6 - v h 6 / 12 * 12 < 3
  · simp [h1]
  · by_cases h2 : 8 < v h 6 - v h 6 / 12 * 12
    · simp [h1, h2]
    · simp [h1, h2]
theorem j_min {a b v} : f_J9_min_7cf53 a b v = some (if a ≤ b then a else b, v) := by
  unfold f_J9_min_7cf53; grind
theorem j_max {a b v} : f_J9_max_7cf53 a b v = some (if b ≤ a then a else b, v) := by
  unfold f_J9_max_7cf53; grind
theorem x_standing {h j v} (hj : j < 25) (ht : 0 ≤ v (h+3) j) : f_X3_standing h (nI j) v = some (st (cT h v) j, v) := by
  unfold f_X3_standing st
  simp only [ib hj (by omega), if_false, tn (show j < 2147483648 by omega), x_summer, j_min, Option.bind_some, cK hj, cH hj ht, cap]
  have e : (cT h v).m = v h 6 := rfl
  rw [e]
  cases s : su (v h 6) <;> simp only [s, if_true, if_false, Bool.false_eq_true, Int32.add_zero] <;> grind
theorem x_growth {h j v} (hj : j < 25) : f_X3_growth h (nI j) v = some (gr (cT h v) j, v) := by
  unfold f_X3_growth gr
  simp only [ib hj (by omega), if_false, tn (show j < 2147483648 by omega), Option.bind_some, cK hj]
  have e : (cT h v).m = v h 6 := rfl
  rw [e]
  grind
theorem x_price {h j v} (hT : OK (cT h v)) (hj : j < 25) (ht : 0 ≤ v (h+3) j) : f_X3_squarePrice h (nI j) v = some (pc (cT h v) j, v) := by
  obtain ⟨q, hq, e⟩ := hT.p j
  have e1 := e
  rw [cP hj ht] at e1
  unfold f_X3_squarePrice pc
  simp only [ib hj (by omega), if_false, tn (show j < 2147483648 by omega), x_summer, Option.bind_some, cK hj, e, e1, ib hq (by omega), tn (show q < 2147483648 by omega), cC hq, Int32.add_zero]
  have e : (cT h v).m = v h 6 := rfl
  rw [e]
  cases s : su (v h 6) <;> simp only [s, if_true, if_false, Bool.false_eq_true, Int32.add_zero] <;> grind
