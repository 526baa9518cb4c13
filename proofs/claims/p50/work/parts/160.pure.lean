def tcs (T : Tn) : Nat → Int32
  | 0 => 0
  | l + 1 => if T.K l < 0 then tcs T l else tcs T l + 1
theorem x_cnt {h : Nat} {v : jx_V} : f_X3_thingCount h v = some (tcs (cT h v) 25, v) := by
  have : ∀ d l f, l + d = 25 → d < f → f_X3_thingCount_L h f (tcs (cT h v) l) (nI l) v = some (tcs (cT h v) 25, v) := by
    intro d
    induction d with
    | zero =>
      intro l f hl hf
      obtain ⟨f, rfl⟩ : ∃ q, f = q + 1 := ⟨f - 1, by omega⟩
      rw [f_X3_thingCount_L, if_pos (by rw [show (25 : Int32) = nI 25 from rfl, pI_le (by omega) (by omega)]; omega), show l = 25 by omega]
    | succ d ih =>
      intro l f hl hf
      obtain ⟨f, rfl⟩ : ∃ q, f = q + 1 := ⟨f - 1, by omega⟩
      have e := ih (l+1) f (by omega) (by omega)
      rw [tcs, cK (show l < 25 by omega)] at e
      rw [f_X3_thingCount_L, if_neg (by rw [show (25 : Int32) = nI 25 from rfl, pI_le (by omega) (by omega)]; omega), x_taken (show l < 25 by omega), Option.bind_some]
      by_cases c : v (h+3) l < 0
      · simp only [if_pos c, z00, if_true, Int32.add_zero, nI_add1] at e ⊢; exact e
      · simp only [if_neg c, o10, if_false, nI_add1] at e ⊢; exact e
  exact this 25 0 100000 (by omega) (by omega)
theorem m_count {w : jx_V} : f_X5_things w = some (tcs (mT (w 1)) 25, w) := by
  have : ∀ d l f, l + d = 25 → d < f → f_X5_things_L f (tcs (mT (w 1)) l) (nI l) w = some (tcs (mT (w 1)) 25, w) := by
    intro d
    induction d with
    | zero =>
      intro l f hl hf
      obtain ⟨f, rfl⟩ : ∃ q, f = q + 1 := ⟨f - 1, by omega⟩
      rw [f_X5_things_L, if_pos (by rw [show (25 : Int32) = nI 25 from rfl, pI_le (by omega) (by omega)]; omega), show l = 25 by omega]
    | succ d ih =>
      intro l f hl hf
      obtain ⟨f, rfl⟩ : ∃ q, f = q + 1 := ⟨f - 1, by omega⟩
      have e := ih (l+1) f (by omega) (by omega)
      rw [tcs, mK (show l < 25 by omega)] at e
      rw [f_X5_things_L, if_neg (by rw [show (25 : Int32) = nI 25 from rfl, pI_le (by omega) (by omega)]; omega), m_thing (show l < 25 by omega), Option.bind_some]
      by_cases c : w 1 (11 + 4 * l) < 0
      · simp only [if_pos c, z00, if_true, Int32.add_zero, nI_add1] at e ⊢; exact e
      · simp only [if_neg c, o10, if_false, nI_add1] at e ⊢; exact e
  exact this 25 0 100000 (by omega) (by omega)
theorem x_put {h j : Nat} {v : jx_V} {k o hh p : Int32} (hj : j < 25) : f_X3_put h (nI j) k o hh p v = some (jx_up (jx_up (jx_up (jx_up v (h+3) j k) (h+4) j o) (h+5) j hh) (h+6) j p) := by
  unfold f_X3_put
  simp only [tn (show j < 2147483648 by omega), ib hj (by omega), if_false]
theorem x_off {h j : Nat} {v : jx_V} (hj : j < 25) : f_X3_takeOff h (nI j) v = some (jx_up v (h+3) j (-1)) := by
  unfold f_X3_takeOff
  simp only [tn (show j < 2147483648 by omega), ib hj (by omega), if_false]
theorem at0 {j : Nat} : 11 + 4 * nI j + 0 = nI (11 + 4 * j) := at_n (a := 0)
theorem at1 {j : Nat} : 11 + 4 * nI j + 1 = nI (12 + 4 * j) := by rw [show 12 + 4 * j = 11 + 4 * j + 1 by omega]; exact at_n (a := 1)
theorem at2 {j : Nat} : 11 + 4 * nI j + 2 = nI (13 + 4 * j) := by rw [show 13 + 4 * j = 11 + 4 * j + 2 by omega]; exact at_n (a := 2)
theorem at3 {j : Nat} : 11 + 4 * nI j + 3 = nI (14 + 4 * j) := by rw [show 14 + 4 * j = 11 + 4 * j + 3 by omega]; exact at_n (a := 3)
theorem m_builds {j : Nat} {w : jx_V} {k o hh p : Int32} (hj : j < 25) : f_X5_builds (nI j) k o hh p w = some (jx_up (jx_up (jx_up (jx_up w 1 (11+4*j) k) 1 (12+4*j) o) 1 (13+4*j) hh) 1 (14+4*j) p) := by
  unfold f_X5_builds f_X5_at
  simp only [Option.bind_some, at0, at1, at2, at3, tn (show 11 + 4 * j < 2147483648 by omega), tn (show 12 + 4 * j < 2147483648 by omega), tn (show 13 + 4 * j < 2147483648 by omega), tn (show 14 + 4 * j < 2147483648 by omega), ib (show 11 + 4 * j < 181 by omega) (by omega), ib (show 12 + 4 * j < 181 by omega) (by omega), ib (show 13 + 4 * j < 181 by omega) (by omega), ib (show 14 + 4 * j < 181 by omega) (by omega), if_false]
theorem OK_bld {T j k o h p} (hT : OK T) (hk : 0 ≤ k) (ho : ∃ q, q < 4 ∧ o = nI q) (hh : ∃ q, q < 10 ∧ h = nI q) (hp : ∃ q, q < 4 ∧ p = nI q) : OK (bld T j k o h p) := by
  refine OK.mk (fun l => ?_) (fun l => ?_) (fun l => ?_) (fun l => ?_) hT.w0 hT.w1 hT.w2 hT.w3 hT.w4 hT.n hT.s
  · show (if l = j then k else T.K l) = -1 ∨ 0 ≤ (if l = j then k else T.K l)
    split
    · exact Or.inr hk
    · exact hT.k l
  · show ∃ q, q < 4 ∧ (if l = j then o else T.O l) = nI q
    split
    · exact ho
    · exact hT.o l
  · show ∃ q, q < 10 ∧ (if l = j then h else T.H l) = nI q
    split
    · exact hh
    · exact hT.h l
  · show ∃ q, q < 4 ∧ (if l = j then p else T.P l) = nI q
    split
    · exact hp
    · exact hT.p l
theorem OK_rem {T j} (hT : OK T) : OK (rem T j) := by
  refine OK.mk (fun l => ?_) (fun l => ?_) (fun l => ?_) (fun l => ?_) hT.w0 hT.w1 hT.w2 hT.w3 hT.w4 hT.n hT.s
  · show (if l = j then -1 else T.K l) = -1 ∨ 0 ≤ (if l = j then -1 else T.K l)
    split
    · exact Or.inl rfl
    · exact hT.k l
  · show ∃ q, q < 4 ∧ (if l = j then 0 else T.O l) = nI q
    split
    · exact ⟨0, by omega, rfl⟩
    · exact hT.o l
  · show ∃ q, q < 10 ∧ (if l = j then 0 else T.H l) = nI q
    split
    · exact ⟨0, by omega, rfl⟩
    · exact hT.h l
  · show ∃ q, q < 4 ∧ (if l = j then 0 else T.P l) = nI q
    split
    · exact ⟨0, by omega, rfl⟩
    · exact hT.p l
theorem OK_sK {T j x} (hT : OK T) (hx : 0 ≤ x) : OK (sK T j x) := OK.mk (fun l => by
  show (if l = j then x else T.K l) = -1 ∨ 0 ≤ (if l = j then x else T.K l)
  split
  · exact Or.inr hx
  · exact hT.k l) hT.o hT.h hT.p hT.w0 hT.w1 hT.w2 hT.w3 hT.w4 hT.n hT.s
theorem OK_sO {T j x} (hT : OK T) (hx : ∃ q, q < 4 ∧ x = nI q) : OK (sO T j x) := by
  refine OK.mk hT.k (fun l => ?_) hT.h hT.p hT.w0 hT.w1 hT.w2 hT.w3 hT.w4 hT.n hT.s
  show ∃ q, q < 4 ∧ (if l = j then x else T.O l) = nI q
  split
  · exact hx
  · exact hT.o l
theorem OK_sH {T j x} (hT : OK T) (hx : ∃ q, q < 10 ∧ x = nI q) : OK (sH T j x) := by
  refine OK.mk hT.k hT.o (fun l => ?_) hT.p hT.w0 hT.w1 hT.w2 hT.w3 hT.w4 hT.n hT.s
  show ∃ q, q < 10 ∧ (if l = j then x else T.H l) = nI q
  split
  · exact hx
  · exact hT.h l
theorem OK_sP {T j x} (hT : OK T) (hx : ∃ q, q < 4 ∧ x = nI q) : OK (sP T j x) := by
  refine OK.mk hT.k hT.o hT.h (fun l => ?_) hT.w0 hT.w1 hT.w2 hT.w3 hT.w4 hT.n hT.s
  show ∃ q, q < 4 ∧ (if l = j then x else T.P l) = nI q
  split
  · exact hx
  · exact hT.p l
theorem OK_sC {T j x} (hT : OK T) : OK (sC T j x) := OK.mk hT.k hT.o hT.h hT.p hT.w0 hT.w1 hT.w2 hT.w3 hT.w4 hT.n hT.s
theorem OK_sm {T x} (hT : OK T) : OK (sm T x) := OK.mk hT.k hT.o hT.h hT.p hT.w0 hT.w1 hT.w2 hT.w3 hT.w4 hT.n hT.s
theorem OK_sz {T x} (hT : OK T) : OK (sz T x) := OK.mk hT.k hT.o hT.h hT.p hT.w0 hT.w1 hT.w2 hT.w3 hT.w4 hT.n hT.s
theorem OK_sS {T j x} (hT : OK T) (hx : x = -1 ∨ ∃ q, q < 25 ∧ x = nI q) : OK (sS T j x) := by
  refine OK.mk hT.k hT.o hT.h hT.p hT.w0 hT.w1 hT.w2 hT.w3 hT.w4 hT.n (fun l => ?_)
  show (if l = j then x else T.S l) = -1 ∨ ∃ q, q < 25 ∧ (if l = j then x else T.S l) = nI q
  split
  · exact hx
  · exact hT.s l
/-- R after a change of the town's cells alone -/
theorem R_up {v w c i x j y} (h : R v w) (hc : 1 ≤ c ∧ c < 17) {T : Tn} (e1 : cT 1 (jx_up v c i x) = T) (e2 : mT (upd (w 1) j y) = T) (hT : OK T) : R (jx_up v c i x) (jx_up w 1 j y) :=
  R_town h (fun q hq => jx_up_ne (by omega)) (by rw [jx_up_ne (by omega)]) (fun q hq => jx_up_ne (by omega)) (by rw [jx_up_ne (by omega)]) (by rw [jx_up_ne (by omega)]) e1 (by rw [up_c]; exact e2) hT
theorem R_bld {v w : jx_V} {j : Nat} {k o hh p : Int32} (h : R v w) (hj : j < 25) (hk : 0 ≤ k) (ho : ∃ q, q < 4 ∧ o = nI q) (hh' : ∃ q, q < 10 ∧ hh = nI q) (hp : ∃ q, q < 4 ∧ p = nI q) :
    R (jx_up (jx_up (jx_up (jx_up v 4 j k) 5 j o) 6 j hh) 7 j p) (jx_up (jx_up (jx_up (jx_up w 1 (11+4*j) k) 1 (12+4*j) o) 1 (13+4*j) hh) 1 (14+4*j) p) := by
  refine R_town h (T := bld (cT 1 v) j k o hh p) (fun q hq => ?_) ?_ (fun q hq => ?_) ?_ ?_ (c_put (h := 1) hj hk) ?_ (OK_bld h.ok hk ho hh' hp)
  · rw [jx_up_ne (by omega), jx_up_ne (by omega), jx_up_ne (by omega), jx_up_ne (by omega)]
  · rw [jx_up_ne (by omega), jx_up_ne (by omega), jx_up_ne (by omega), jx_up_ne (by omega)]
  · rw [jx_up_ne (by omega), jx_up_ne (by omega), jx_up_ne (by omega), jx_up_ne (by omega)]
  · rw [jx_up_ne (by omega), jx_up_ne (by omega), jx_up_ne (by omega), jx_up_ne (by omega)]
  · rw [jx_up_ne (by omega), jx_up_ne (by omega), jx_up_ne (by omega), jx_up_ne (by omega)]
  · simp only [up_c]; rw [m_put hj hk, h.t]
theorem q_build {v w a b c d} (h : R v w) : Q (f_X4_build a b c d v) (f_X5_build a b c d w) := by
  unfold f_X4_build f_X5_build
  simp only [x_w7, x_w25, x_w4, x_w10, m_in_0_6, m_isLot, m_isOwner, m_isHeight, Option.bind_some, x_f0, m_f0]
  by_cases c1 : 0 ≤ a ∧ a ≤ 6
  · by_cases c2 : 0 ≤ b ∧ b ≤ 24
    · by_cases c3 : 0 ≤ c ∧ c ≤ 3
      · by_cases c4 : 0 ≤ d ∧ d ≤ 9
        · simp only [if_pos c1, if_pos c2, if_pos c3, if_pos c4, o10, if_false]
          obtain ⟨j, hj, rfl⟩ := ix (n := 24) rfl (by omega) c2
          simp only [x_taken hj, m_thing hj, Option.bind_some, Nat.reduceAdd, tk h hj]
          by_cases ht : w 1 (11 + 4 * j) < 0
          · simp only [if_pos ht, z00, if_true, x_put hj, m_builds hj, Option.bind_some, x_cnt, m_count]
            have r := R_bld h hj c1.1 (ix (n := 3) rfl (by omega) c3) (ix (n := 9) rfl (by omega) c4) ⟨0, by omega, rfl⟩ (k := a) (o := c) (hh := d) (p := 0)
            have e := r.t
            rw [show cT 1 (jx_up (jx_up (jx_up (jx_up v (1 + 3) j a) (1 + 4) j c) (1 + 5) j d) (1 + 6) j 0) = _ from e]
            exact Q_i r
          · simp only [if_neg ht, o10, if_false, x_f4, m_f4, Option.bind_some]
            exact Q_f h
        · simp only [if_pos c1, if_pos c2, if_pos c3, if_neg c4, o10, z00, if_true, if_false]; exact Q_f h
      · simp only [if_pos c1, if_pos c2, if_neg c3, o10, z00, if_true, if_false]; exact Q_f h
    · simp only [if_pos c1, if_neg c2, o10, z00, if_true, if_false]; exact Q_f h
  · simp only [if_neg c1, z00, if_true]; exact Q_f h
theorem m_lotWrong {x} {w : jx_V} : (¬ (0 ≤ x ∧ x ≤ 24) → f_X5_lotWrong x w = some (-1000001, w)) ∧ ∀ j, j < 25 → f_X5_lotWrong (nI j) w = some (if w 1 (11 + 4 * j) < 0 then -1000004 else 0, w) := by
  unfold f_X5_lotWrong
  constructor
  · intro c; simp only [m_isLot, Option.bind_some, if_neg c, z00, if_true]
  · intro j hj
    have c : 0 ≤ nI j ∧ nI j ≤ 24 := ⟨pI_pos (by omega), by rw [show (24 : Int32) = nI 24 from rfl, pI_le (by omega) (by omega)]; omega⟩
    simp only [m_isLot, Option.bind_some, if_pos c, o10, if_false, m_thing hj]
    by_cases ht : w 1 (11 + 4 * j) < 0
    · simp only [if_pos ht, z00, if_true]
    · simp only [if_neg ht, o10, if_false]
theorem b10 : ((-1000001 : Int32) = 0) = False := by decide
theorem b40 : ((-1000004 : Int32) = 0) = False := by decide
theorem b60 : ((-1000006 : Int32) = 0) = False := by decide
theorem R_off {v w j} (h : R v w) (hj : j < 25) : R (jx_up v 4 j (-1)) (jx_up w 1 (11+4*j) (-1)) :=
  R_up h (by omega) (T := rem (cT 1 v) j) (c_off (h := 1) hj) (by rw [m_off hj, h.t]) (OK_rem h.ok)
theorem q_clear {v w a} (h : R v w) : Q (f_X4_clear a v) (f_X5_clear a w) := by
  unfold f_X4_clear f_X5_clear
  simp only [x_w25, Option.bind_some, x_f0, m_f0]
  by_cases c2 : 0 ≤ a ∧ a ≤ 24
  · obtain ⟨j, hj, rfl⟩ := ix (n := 24) rfl (by omega) c2
    simp only [if_pos c2, o10, if_false, x_taken hj, (m_lotWrong (x := 0) (w := w)).2 j hj, Option.bind_some, Nat.reduceAdd, tk h hj]
    by_cases ht : w 1 (11 + 4 * j) < 0
    · simp only [if_pos ht, z00, if_true, b40, if_false, x_f3, m_f3, Option.bind_some]; exact Q_f h
    · simp only [if_neg ht, o10, z00, if_true, if_false, x_off hj, f_X5_at, at0, Option.bind_some, tn (show j < 2147483648 by omega), tn (show 11 + 4 * j < 2147483648 by omega), ib hj (by omega), ib (show 11 + 4 * j < 181 by omega) (by omega), m_its2 hj]
      rw [show jx_up v (1 + 3) j (-1) 6 j = jx_up w 1 (11 + 4 * j) (-1) 1 (13 + 4 * j) by
        rw [jx_up_ne (by omega), up_g, if_neg (by omega)]; exact tkH h hj (Int32.not_lt.mp ht)]
      exact Q_i (R_off h hj)
  · simp only [if_neg c2, z00, if_true, (m_lotWrong (w := w)).1 c2, Option.bind_some, b10, if_false, m_f0]; exact Q_f h
theorem nz : nI 0 = 0 := rfl
theorem c7 {q : Nat} (h : q < 7) : q = 0 ∨ q = 1 ∨ q = 2 ∨ q = 3 ∨ q = 4 ∨ q = 5 ∨ q = 6 := by omega
theorem q_of {v w a b} (h : R v w) : Q (f_X4_of a b v) (f_X5_of a b w) := by
  unfold f_X4_of f_X5_of
  simp only [x_w25, x_w7, m_in_0_6, Option.bind_some, x_f0, m_f0]
  by_cases c1 : 0 ≤ b ∧ b ≤ 6
  · by_cases c2 : 0 ≤ a ∧ a ≤ 24
    · obtain ⟨j, hj, rfl⟩ := ix (n := 24) rfl (by omega) c2
      simp only [if_pos c1, if_pos c2, o10, if_false, x_taken hj, (m_lotWrong (x := 0) (w := w)).2 j hj, Option.bind_some, Nat.reduceAdd, tk h hj]
      by_cases ht : w 1 (11 + 4 * j) < 0
      · simp only [if_pos ht, z00, if_true, b40, if_false, x_f3, m_f3, Option.bind_some]; exact Q_f h
      · have ht' : 0 ≤ w 1 (11 + 4 * j) := Int32.not_lt.mp ht
        have hv : 0 ≤ v (1+3) j := by show 0 ≤ v 4 j; rw [tk h hj]; exact ht'
        simp only [if_neg ht, o10, z00, if_true, if_false, x_standing hj hv, x_price h.ok hj hv, x_growth hj, m_stands hj ht', m_price h.ok' hj ht', m_grows hj, Option.bind_some]
        obtain ⟨q, hq, rfl⟩ := ix (n := 6) rfl (by omega) c1
        rw [h.t]
        rcases c7 hq with rfl | rfl | rfl | rfl | rfl | rfl | rfl
        · rw [if_neg (by decide), if_neg (by decide)]
          simp only [tn (show j < 2147483648 by omega), ib hj (by omega), if_false, nz, m_its0 hj, Option.bind_some, show ((4 : Int32) ≤ 0) = False by decide]
          rw [show v (1 + 3 + (0 : Int32).toNatClampNeg) j = w 1 (11 + 4 * j) from tk h hj]; exact Q_i h
        · rw [if_neg (by decide), if_neg (by decide)]
          simp only [tn (show j < 2147483648 by omega), ib hj (by omega), if_false, n1, m_its1 hj, Option.bind_some, show ((4 : Int32) ≤ 1) = False by decide]
          rw [show v (1 + 3 + (1 : Int32).toNatClampNeg) j = w 1 (12 + 4 * j) from tkO h hj ht']; exact Q_i h
        · rw [if_neg (by decide), if_neg (by decide)]
          simp only [tn (show j < 2147483648 by omega), ib hj (by omega), if_false, n2, m_its2 hj, Option.bind_some, show ((4 : Int32) ≤ 2) = False by decide]
          rw [show v (1 + 3 + (2 : Int32).toNatClampNeg) j = w 1 (13 + 4 * j) from tkH h hj ht']; exact Q_i h
        · rw [if_neg (by decide), if_neg (by decide)]
          simp only [tn (show j < 2147483648 by omega), ib hj (by omega), if_false, n3, m_its3 hj, Option.bind_some, show ((4 : Int32) ≤ 3) = False by decide]
          rw [show v (1 + 3 + (3 : Int32).toNatClampNeg) j = w 1 (14 + 4 * j) from tkP h hj ht']; exact Q_i h
        · rw [if_pos (by decide), if_pos (by decide), if_pos (by decide), if_pos (by decide)]; exact Q_i h
        · rw [if_pos (by decide), if_neg (by decide), if_pos (by decide), if_pos (by decide), if_neg (by decide), if_pos (by decide)]; exact Q_i h
        · rw [if_pos (by decide), if_neg (by decide), if_neg (by decide), if_pos (by decide), if_neg (by decide), if_neg (by decide)]; exact Q_i h
    · simp only [if_pos c1, if_neg c2, o10, z00, if_true, if_false, (m_lotWrong (w := w)).1 c2, Option.bind_some, b10, m_f0]; exact Q_f h
  · by_cases c2 : 0 ≤ a ∧ a ≤ 24
    · simp only [if_neg c1, if_pos c2, o10, z00, if_true, if_false, b10]; exact Q_f h
    · simp only [if_neg c1, if_neg c2, o10, z00, if_true, if_false, b10]; exact Q_f h
theorem q_change {v w a b c} (h : R v w) : Q (f_X4_change a b c v) (f_X5_change a b c w) := by
  unfold f_X4_change f_X5_change f_X4_thingLimit
  simp only [x_w25, x_w4, m_in_0_3, m_in_0_6, m_in_0_9, Option.bind_some, x_f0, m_f0]
  by_cases c1 : 0 ≤ b ∧ b ≤ 3
  · obtain ⟨q, hq, rfl⟩ := ix (n := 3) rfl (by omega) c1
    simp only [if_pos c1, o10, if_false]
    by_cases c2 : 0 ≤ a ∧ a ≤ 24
    · obtain ⟨j, hj, rfl⟩ := ix (n := 24) rfl (by omega) c2
      simp only [if_pos c2, o10, if_false, (m_lotWrong (x := 0) (w := w)).2 j hj, Option.bind_some]
      have q4 : q = 0 ∨ q = 1 ∨ q = 2 ∨ q = 3 := by omega
      have nt : w 1 (11 + 4 * j) < 0 → Q (some (-1000004, jx_up v 63 3 (v 63 3 + 1))) (some (-1000004, jx_up w 4 3 (w 4 3 + 1))) := fun _ => Q_f h
      have tj := tn (show j < 2147483648 by omega)
      rcases q4 with rfl | rfl | rfl | rfl
      · rw [if_pos (by decide), if_pos (by decide)]
        simp only [Option.bind_some, x_w7]
        by_cases c3 : 0 ≤ c ∧ c ≤ 6
        · simp only [if_pos c3, o10, if_false, x_taken hj, Option.bind_some, Nat.reduceAdd, tk h hj]
          by_cases ht : w 1 (11 + 4 * j) < 0
          · simp only [if_pos ht, z00, if_true, b40, if_false, x_f3, m_f3, Option.bind_some]; exact nt ht
          · have ht' : 0 ≤ w 1 (11 + 4 * j) := Int32.not_lt.mp ht
            simp only [if_neg ht, o10, z00, if_true, if_false, nz, m_its0 hj, f_X5_at, at0, Option.bind_some, tj, ib hj (by omega), tn (show 11 + 4 * j < 2147483648 by omega), ib (show 11 + 4 * j < 181 by omega) (by omega), show ((0 : Int32) < 0 ∨ 4 ≤ (0 : Int32).toNatClampNeg) = False by decide]
            rw [show v (4 + (0 : Int32).toNatClampNeg) j = w 1 (11 + 4 * j) from tk h hj]
            exact Q_i (R_up h (by decide) (T := sK (cT 1 v) j c) (c_sK (h := 1) hj (by show 0 ≤ v 4 j; rw [tk h hj]; exact ht') c3.1) (by rw [m_sK hj ht' c3.1, h.t]) (OK_sK h.ok c3.1))
        · simp only [if_neg c3, z00, if_true, b10, if_false]; exact Q_f h
      · rw [if_neg (by decide), if_pos (by decide), if_neg (by decide), if_neg (by decide)]
        simp only [Option.bind_some, x_w4]
        by_cases c3 : 0 ≤ c ∧ c ≤ 3
        · simp only [if_pos c3, o10, if_false, x_taken hj, Option.bind_some, Nat.reduceAdd, tk h hj]
          by_cases ht : w 1 (11 + 4 * j) < 0
          · simp only [if_pos ht, z00, if_true, b40, if_false, x_f3, m_f3, Option.bind_some]; exact nt ht
          · have ht' : 0 ≤ w 1 (11 + 4 * j) := Int32.not_lt.mp ht
            simp only [if_neg ht, o10, z00, if_true, if_false, n1, m_its1 hj, f_X5_at, at1, Option.bind_some, tj, ib hj (by omega), tn (show 12 + 4 * j < 2147483648 by omega), ib (show 12 + 4 * j < 181 by omega) (by omega), show ((1 : Int32) < 0 ∨ 4 ≤ (1 : Int32).toNatClampNeg) = False by decide]
            rw [show v (4 + (1 : Int32).toNatClampNeg) j = w 1 (12 + 4 * j) from tkO h hj ht']
            exact Q_i (R_up h (by decide) (T := sO (cT 1 v) j c) (c_sO (h := 1) hj (by show 0 ≤ v 4 j; rw [tk h hj]; exact ht')) (by rw [m_sO hj ht', h.t]) (OK_sO h.ok (ix (n := 3) rfl (by omega) c3)))
        · simp only [if_neg c3, z00, if_true, b10, if_false]; exact Q_f h
      · rw [if_neg (by decide), if_neg (by decide), if_pos (by decide), if_neg (by decide), if_pos (by decide)]
        simp only [Option.bind_some, x_w10]
        by_cases c3 : 0 ≤ c ∧ c ≤ 9
        · simp only [if_pos c3, o10, if_false, x_taken hj, Option.bind_some, Nat.reduceAdd, tk h hj]
          by_cases ht : w 1 (11 + 4 * j) < 0
          · simp only [if_pos ht, z00, if_true, b40, if_false, x_f3, m_f3, Option.bind_some]; exact nt ht
          · have ht' : 0 ≤ w 1 (11 + 4 * j) := Int32.not_lt.mp ht
            simp only [if_neg ht, o10, z00, if_true, if_false, n2, m_its2 hj, f_X5_at, at2, Option.bind_some, tj, ib hj (by omega), tn (show 13 + 4 * j < 2147483648 by omega), ib (show 13 + 4 * j < 181 by omega) (by omega), show ((2 : Int32) < 0 ∨ 4 ≤ (2 : Int32).toNatClampNeg) = False by decide]
            rw [show v (4 + (2 : Int32).toNatClampNeg) j = w 1 (13 + 4 * j) from tkH h hj ht']
            exact Q_i (R_up h (by decide) (T := sH (cT 1 v) j c) (c_sH (h := 1) hj (by show 0 ≤ v 4 j; rw [tk h hj]; exact ht')) (by rw [m_sH hj ht', h.t]) (OK_sH h.ok (ix (n := 9) rfl (by omega) c3)))
        · simp only [if_neg c3, z00, if_true, b10, if_false]; exact Q_f h
      · rw [if_neg (by decide), if_neg (by decide), if_neg (by decide), if_neg (by decide), if_neg (by decide)]
        simp only [Option.bind_some, x_w4]
        by_cases c3 : 0 ≤ c ∧ c ≤ 3
        · simp only [if_pos c3, o10, if_false, x_taken hj, Option.bind_some, Nat.reduceAdd, tk h hj]
          by_cases ht : w 1 (11 + 4 * j) < 0
          · simp only [if_pos ht, z00, if_true, b40, if_false, x_f3, m_f3, Option.bind_some]; exact nt ht
          · have ht' : 0 ≤ w 1 (11 + 4 * j) := Int32.not_lt.mp ht
            simp only [if_neg ht, o10, z00, if_true, if_false, n3, m_its3 hj, f_X5_at, at3, Option.bind_some, tj, ib hj (by omega), tn (show 14 + 4 * j < 2147483648 by omega), ib (show 14 + 4 * j < 181 by omega) (by omega), show ((3 : Int32) < 0 ∨ 4 ≤ (3 : Int32).toNatClampNeg) = False by decide]
            rw [show v (4 + (3 : Int32).toNatClampNeg) j = w 1 (14 + 4 * j) from tkP h hj ht']
            exact Q_i (R_up h (by decide) (T := sP (cT 1 v) j c) (c_sP (h := 1) hj (by show 0 ≤ v 4 j; rw [tk h hj]; exact ht')) (by rw [m_sP hj ht', h.t]) (OK_sP h.ok (ix (n := 3) rfl (by omega) c3)))
        · simp only [if_neg c3, z00, if_true, b10, if_false]; exact Q_f h
    · simp only [if_neg c2, z00, if_true, (m_lotWrong (w := w)).1 c2, Option.bind_some, b10, if_false, m_f0]
      have l : Q (some (-1000001, jx_up v 63 0 (v 63 0 + 1))) (some (-1000001, jx_up w 4 0 (w 4 0 + 1))) := Q_f h
      (repeat' split) <;> exact l
  · simp only [if_neg c1, z00, if_true, if_false, b10]
    by_cases c2 : 0 ≤ a ∧ a ≤ 24
    · simp only [if_pos c2, o10, if_false]; exact Q_f h
    · simp only [if_neg c2, z00, if_true]; exact Q_f h
theorem q_price {v w a b} (h : R v w) : Q (f_X4_price a b v) (f_X5_price a b w) := by
  unfold f_X4_price f_X5_price
  simp only [x_w100, x_w4, m_in_0_3, m_in_0_99, Option.bind_some, x_f0, m_f0]
  by_cases c1 : 0 ≤ a ∧ a ≤ 3
  · obtain ⟨q, hq, rfl⟩ := ix (n := 3) rfl (by omega) c1
    by_cases c2 : 0 ≤ b ∧ b ≤ 99
    · simp only [if_pos c1, if_pos c2, o10, if_false, p3_n, tn (show q < 2147483648 by omega), tn (show 3 + q < 2147483648 by omega), ib hq (by omega), ib (show 3 + q < 181 by omega) (by omega), tkC h hq]
      exact Q_i (R_up h (by decide) (T := sC (cT 1 v) q b) (c_sC (h := 1) hq) (by rw [m_sC hq, h.t]) (OK_sC h.ok))
    · simp only [if_pos c1, if_neg c2, o10, z00, if_true, if_false]; exact Q_f h
  · simp only [if_neg c1, z00, if_true]; exact Q_f h
theorem q_purse {v w a} (h : R v w) : Q (f_X4_purse a v) (f_X5_purse a w) := by
  unfold f_X4_purse f_X5_purse
  simp only [x_w4, m_isOwner, Option.bind_some, x_f0, m_f0]
  by_cases c1 : 0 ≤ a ∧ a ≤ 3
  · obtain ⟨q, hq, rfl⟩ := ix (n := 3) rfl (by omega) c1
    have e7 : 7 + nI q = nI (7 + q) := by unfold nI; simp [Int32.ofNat_add]
    simp only [if_pos c1, o10, if_false, e7, tn (show q < 2147483648 by omega), tn (show 7 + q < 2147483648 by omega), ib hq (by omega), ib (show 7 + q < 181 by omega) (by omega), tkU h hq]
    exact Q_i h
  · simp only [if_neg c1, z00, if_true]; exact Q_f h
theorem q_hold {v w a b} (h : R v w) : Q (f_X4_hold a b v) (f_X5_hold a b w) := by
  obtain ⟨N, hN, eN, eN2⟩ := mn h.ok'
  unfold f_X4_hold f_X5_hold
  simp only [x_w10, m_in_0_9, m_in_m1_24, Option.bind_some, x_f0, m_f0]
  by_cases c1 : 0 ≤ a ∧ a ≤ 9
  · obtain ⟨q, hq, rfl⟩ := ix (n := 9) rfl (by omega) c1
    have e7 : 171 + nI q = nI (171 + q) := by unfold nI; simp [Int32.ofNat_add]
    by_cases c2 : -1 ≤ b ∧ b ≤ 24
    · simp only [if_pos c1, if_pos c2, o10, if_false, e7, tn (show q < 2147483648 by omega), tn (show 171 + q < 2147483648 by omega), ib hq (by omega), ib (show 171 + q < 181 by omega) (by omega)]
      rw [if_neg (by grind), if_pos (by grind)]
      refine Q_i (R_up h (by decide) (T := sS (cT 1 v) q b) (c_sS (h := 1) hq) (by rw [m_sS hq (by omega), h.t]) (OK_sS h.ok ?_))
      by_cases c3 : b = -1
      · exact Or.inl c3
      · exact Or.inr (ix (n := 24) rfl (by omega) ⟨by grind, c2.2⟩)
    · simp only [if_pos c1, if_neg c2, o10, z00, if_true, if_false]
      by_cases c3 : b < -1
      · rw [if_pos c3]; exact Q_f h
      · rw [if_neg c3, if_neg (by grind)]; exact Q_f h
  · simp only [if_neg c1, z00, if_true]; exact Q_f h
theorem q_seed {v w a} (h : R v w) : Q (f_X4_seed a v) (f_X5_seed a w) := by
  unfold f_X4_seed f_X5_seed
  rw [tkz h]
  exact Q_i (R_up h (by decide) (T := sz (cT 1 v) a) (c_sz (h := 1) (j := 0)) (by rw [m_sz (j := 0), h.t]) (OK_sz h.ok))
theorem q_wipe {v w} (h : R v w) : Q (f_X4_wipe v) (f_X5_wipe w) := by
  unfold f_X4_wipe f_X5_wipe
  rw [h.tl]
  refine Q_i (R.mk ?_ ?_ ?_ ?_ ?_ ?_ ?_ ?_ ?_)
  · rw [cT_congr (v := v) (fun c _ _ => jx_up_ne (by omega)), jx_up_ne (by omega)]; exact h.t
  · rw [cT_congr (v := v) (fun c _ _ => jx_up_ne (by omega))]; exact h.ok
  · rw [jx_up_ne (by omega), up_g, if_neg (by omega)]; exact h.k
  · rw [jx_up_ne (by omega)]; exact h.kb
  · rw [jx_up_ne (by omega), cT_congr (v := v) (fun c _ _ => jx_up_ne (by omega)), jx_up_ne (by omega)]; exact h.kt
  · rw [up_s, up_s]
  · exact ⟨0, by omega, up_s⟩
  · rw [jx_up_ne (by omega), jx_up_ne (by omega)]; exact h.tb
  · intro s hs
    rw [jx_up_ne (by omega), jx_up_ne (by omega), jx_up_ne (by omega), jx_up_ne (by omega), jx_up_ne (by omega), jx_up_ne (by omega)]
    exact h.s s hs
theorem q_tear {v w} (h : R v w) : Q (f_X4_tear v) (f_X5_tear w) := by
  unfold f_X4_tear f_X5_tear
  rw [h.k]
  have r : R (jx_up v 0 10 0) (jx_up w 0 4 0) := by
    refine R.mk ?_ ?_ ?_ ?_ ?_ ?_ ?_ ?_ ?_
    · rw [cT_congr (v := v) (fun c _ _ => jx_up_ne (by omega)), jx_up_ne (by omega)]; exact h.t
    · rw [cT_congr (v := v) (fun c _ _ => jx_up_ne (by omega))]; exact h.ok
    · rw [up_s, up_s]
    · exact Or.inl up_s
    · intro c; rw [up_s] at c; exact absurd c (by decide)
    · rw [jx_up_ne (by omega), up_g, if_neg (by omega)]; exact h.tl
    · rw [jx_up_ne (by omega)]; exact h.tr
    · rw [jx_up_ne (by omega), jx_up_ne (by omega)]; exact h.tb
    · intro s hs
      rw [jx_up_ne (by omega), jx_up_ne (by omega), jx_up_ne (by omega), jx_up_ne (by omega), jx_up_ne (by omega), jx_up_ne (by omega)]
      exact h.s s hs
  split <;> exact Q_i r
theorem x_isWindow {x} {v : jx_V} : f_X4_isWindow x v = some (if 0 ≤ x ∧ x < v 1 5 then 1 else 0, v) := by
  unfold f_X4_isWindow; simp only [x_wi, Option.bind_some, bb, if_false]
theorem m_isW {x v w} (h : R v w) : f_X5_isWindow x w = some (if 0 ≤ x ∧ x < v 1 5 then 1 else 0, w) := by
  obtain ⟨N, hN, eN, eN2⟩ := cn h.ok
  rw [m_isWindow, ← tkn h, eN]
  have h0 := pI_pos (show N < 2147483648 by omega)
  have h1 : nI N ≤ 10 := by rw [show (10 : Int32) = nI 10 from rfl, pI_le (by omega) (by omega)]; omega
  by_cases c : 0 ≤ x ∧ x < nI N
  · rw [if_pos c, if_pos ⟨c.1, by grind⟩]
  · rw [if_neg c, if_neg (fun q => c ⟨q.1, by grind⟩)]
theorem wx {x v w} (h : R v w) (c : 0 ≤ x ∧ x < v 1 5) : ∃ i, i < 10 ∧ i < (v 1 5).toNatClampNeg ∧ i < (w 1 1).toNatClampNeg ∧ x = nI i := by
  obtain ⟨N, hN, eN, eN2⟩ := cn h.ok
  rw [eN] at c
  obtain ⟨i, hi, e⟩ := nI_ex (b := N) (by omega) c.1 c.2
  exact ⟨i, by omega, by omega, by rw [← tkn h]; omega, e⟩
theorem OK_sW {T a i x} (hT : OK T) (h0 : a = 0 → ∃ q, q < 25 ∧ x = nI q) (h1 : a = 1 → ∃ q, q < 10 ∧ x = nI q) (h2 : a = 2 → ∃ q, q < 4 ∧ x = nI q) (h3 : a = 3 → ∃ q, q < 4 ∧ x = nI q) (h4 : a = 4 → x = -1 ∨ ∃ q, q < 4 ∧ x = nI q) : OK (sW T a i x) := by
  refine OK.mk hT.k hT.o hT.h hT.p (fun l => ?_) (fun l => ?_) (fun l => ?_) (fun l => ?_) (fun l => ?_) hT.n hT.s
  · show ∃ q, q < 25 ∧ (if 0 = a ∧ l = i then x else T.W 0 l) = nI q
    by_cases c : 0 = a ∧ l = i
    · rw [if_pos c]; exact h0 c.1.symm
    · rw [if_neg c]; exact hT.w0 l
  · show ∃ q, q < 10 ∧ (if 1 = a ∧ l = i then x else T.W 1 l) = nI q
    by_cases c : 1 = a ∧ l = i
    · rw [if_pos c]; exact h1 c.1.symm
    · rw [if_neg c]; exact hT.w1 l
  · show ∃ q, q < 4 ∧ (if 2 = a ∧ l = i then x else T.W 2 l) = nI q
    by_cases c : 2 = a ∧ l = i
    · rw [if_pos c]; exact h2 c.1.symm
    · rw [if_neg c]; exact hT.w2 l
  · show ∃ q, q < 4 ∧ (if 3 = a ∧ l = i then x else T.W 3 l) = nI q
    by_cases c : 3 = a ∧ l = i
    · rw [if_pos c]; exact h3 c.1.symm
    · rw [if_neg c]; exact hT.w3 l
  · show (if 4 = a ∧ l = i then x else T.W 4 l) = -1 ∨ ∃ q, q < 4 ∧ (if 4 = a ∧ l = i then x else T.W 4 l) = nI q
    by_cases c : 4 = a ∧ l = i
    · rw [if_pos c]; exact h4 c.1.symm
    · rw [if_neg c]; exact hT.w4 l
theorem R_W {v w a i x} (h : R v w) (ha : a < 6) (hi : i < (w 1 1).toNatClampNeg) (hT : OK (sW (cT 1 v) a i x)) : R (jx_up v (8 + a) i x) (jx_up w 1 (111 + 6 * i + a) x) := by
  obtain ⟨N, hN, eN, eN2⟩ := mn h.ok'
  exact R_up h (by omega) (T := sW (cT 1 v) a i x) (c_sW (h := 1) ha (by rw [tkn h]; exact hi)) (by rw [m_sW ha hi (by omega), h.t]) hT
theorem q_windowOf {v w a b} (h : R v w) : Q (f_X4_windowOf a b v) (f_X5_windowOf a b w) := by
  unfold f_X4_windowOf f_X5_windowOf
  simp only [x_isWindow, m_isW h, x_w6, m_in_0_5, Option.bind_some, x_f0, m_f0]
  by_cases c1 : 0 ≤ a ∧ a < v 1 5
  · obtain ⟨i, hi, hi1, hi2, rfl⟩ := wx h c1
    by_cases c2 : 0 ≤ b ∧ b ≤ 5
    · obtain ⟨q, hq, rfl⟩ := ix (n := 5) rfl (by omega) c2
      simp only [if_pos c1, if_pos c2, o10, if_false, m_told hi hq, Option.bind_some, tn (show i < 2147483648 by omega), tn (show q < 2147483648 by omega), ib hi (by omega), ib hq (by omega), Nat.reduceAdd]
      rw [show v (8 + q) i = w 1 (111 + 6 * i + q) from tkW h hq hi2]
      exact Q_i h
    · simp only [if_pos c1, if_neg c2, o10, z00, if_true, if_false]; exact Q_f h
  · simp only [if_neg c1, z00, if_true]; exact Q_f h
theorem wh1 {j : Nat} : 111 + 6 * nI j + 1 = nI (111 + 6 * j + 1) := wh_n (a := 1)
theorem wh2 {j : Nat} : 111 + 6 * nI j + 2 = nI (111 + 6 * j + 2) := wh_n (a := 2)
theorem wh3 {j : Nat} : 111 + 6 * nI j + 3 = nI (111 + 6 * j + 3) := wh_n (a := 3)
theorem wh4 {j : Nat} : 111 + 6 * nI j + 4 = nI (111 + 6 * j + 4) := wh_n (a := 4)
theorem wh5 {j : Nat} : 111 + 6 * nI j + 5 = nI (111 + 6 * j + 5) := wh_n (a := 5)
theorem q_turn {v w a b c} (h : R v w) : Q (f_X4_turn a b c v) (f_X5_turn a b c w) := by
  unfold f_X4_turn f_X5_turn f_X4_windowLimit
  simp only [x_isWindow, m_isW h, m_in_1_3, m_in_0_9, m_in_0_3, Option.bind_some, x_f0, m_f0]
  by_cases c1 : 0 ≤ a ∧ a < v 1 5
  · obtain ⟨i, hi, hi1, hi2, rfl⟩ := wx h c1
    by_cases c2 : 1 ≤ b ∧ b ≤ 3
    · simp only [if_pos c1, if_pos c2, o10, if_false, tn (show i < 2147483648 by omega), ib hi (by omega)]
      have b3 : b = 1 ∨ b = 2 ∨ b = 3 := by grind
      rcases b3 with rfl | rfl | rfl
      · rw [if_neg (by decide), if_neg (by decide), if_pos rfl, if_pos rfl]
        simp only [Option.bind_some, x_w10, m_told1 hi, f_X5_where, wh1, tn (show 111 + 6 * i + 1 < 2147483648 by omega), ib (show 111 + 6 * i + 1 < 181 by omega) (by omega), if_false, show ((1 : Int32) < 0 ∨ 6 ≤ (1 : Int32).toNatClampNeg) = False by decide]
        by_cases c3 : 0 ≤ c ∧ c ≤ 9
        · simp only [if_pos c3, o10, if_false]
          rw [show v (1 + 7 + (1 : Int32).toNatClampNeg) i = w 1 (111 + 6 * i + 1) from tkW (a := 1) h (by omega) hi2]
          exact Q_i (R_W h (a := 1) (by omega) hi2 (OK_sW h.ok (by omega) (fun _ => ix (n := 9) rfl (by omega) c3) (by omega) (by omega) (by omega)))
        · simp only [if_neg c3, z00, if_true]; exact Q_f h
      · rw [if_neg (by decide), if_neg (by decide), if_neg (by decide), if_pos rfl, if_neg (by decide)]
        simp only [Option.bind_some, x_w4, m_told2 hi, f_X5_where, wh2, tn (show 111 + 6 * i + 2 < 2147483648 by omega), ib (show 111 + 6 * i + 2 < 181 by omega) (by omega), if_false, show ((2 : Int32) < 0 ∨ 6 ≤ (2 : Int32).toNatClampNeg) = False by decide]
        by_cases c3 : 0 ≤ c ∧ c ≤ 3
        · simp only [if_pos c3, o10, if_false]
          rw [show v (1 + 7 + (2 : Int32).toNatClampNeg) i = w 1 (111 + 6 * i + 2) from tkW (a := 2) h (by omega) hi2]
          exact Q_i (R_W h (a := 2) (by omega) hi2 (OK_sW h.ok (by omega) (by omega) (fun _ => ix (n := 3) rfl (by omega) c3) (by omega) (by omega)))
        · simp only [if_neg c3, z00, if_true]; exact Q_f h
      · rw [if_neg (by decide), if_neg (by decide), if_neg (by decide), if_neg (by decide), if_neg (by decide)]
        simp only [Option.bind_some, x_w4, m_told3 hi, f_X5_where, wh3, tn (show 111 + 6 * i + 3 < 2147483648 by omega), ib (show 111 + 6 * i + 3 < 181 by omega) (by omega), if_false, show ((3 : Int32) < 0 ∨ 6 ≤ (3 : Int32).toNatClampNeg) = False by decide]
        by_cases c3 : 0 ≤ c ∧ c ≤ 3
        · simp only [if_pos c3, o10, if_false]
          rw [show v (1 + 7 + (3 : Int32).toNatClampNeg) i = w 1 (111 + 6 * i + 3) from tkW (a := 3) h (by omega) hi2]
          exact Q_i (R_W h (a := 3) (by omega) hi2 (OK_sW h.ok (by omega) (by omega) (by omega) (fun _ => ix (n := 3) rfl (by omega) c3) (by omega)))
        · simp only [if_neg c3, z00, if_true]; exact Q_f h
    · simp only [if_pos c1, if_neg c2, o10, z00, if_true, if_false]
      by_cases c4 : b < 1
      · rw [if_pos c4]; exact Q_f h
      · rw [if_neg c4, if_pos (by grind)]; exact Q_f h
  · simp only [if_neg c1, z00, if_true]; exact Q_f h
theorem q_contract {v w a b c} (h : R v w) : Q (f_X4_contract a b c v) (f_X5_contract a b c w) := by
  unfold f_X4_contract f_X5_contract
  simp only [x_isWindow, m_isW h, x_w37, m_in_m1_3, m_in_0_36, Option.bind_some, x_f0, m_f0]
  by_cases c1 : 0 ≤ a ∧ a < v 1 5
  · obtain ⟨i, hi, hi1, hi2, rfl⟩ := wx h c1
    simp only [if_pos c1, o10, if_false]
    by_cases c2 : -1 ≤ b ∧ b ≤ 3
    · rw [if_neg (by grind), if_neg (by grind)]
      by_cases c3 : 0 ≤ c ∧ c ≤ 36
      · simp only [if_pos c2, if_pos c3, o10, if_false, tn (show i < 2147483648 by omega), ib hi (by omega), f_X5_where, wh4, wh5, Option.bind_some, tn (show 111 + 6 * i + 4 < 2147483648 by omega), ib (show 111 + 6 * i + 4 < 181 by omega) (by omega), tn (show 111 + 6 * i + 5 < 2147483648 by omega), ib (show 111 + 6 * i + 5 < 181 by omega) (by omega)]
        have k : ∀ x, Q ((f_X0_isBroken 1 (nI i) (jx_up (jx_up v 12 i b) 13 i x)).bind (fun (r13, v13) => (if r13 = 0 then (some (0, v13)) else (some (1, v13)))))
            ((f_X5_isBroken (nI i) (jx_up (jx_up w 1 (111 + 6 * i + 4) b) 1 (111 + 6 * i + 5) x)).bind (fun (r14, v14) => (if r14 = 0 then (some (0, v14)) else (some (1, v14))))) := by
          intro x
          have r1 : R (jx_up v 12 i b) (jx_up w 1 (111 + 6 * i + 4) b) := R_W h (a := 4) (by omega) hi2 (OK_sW h.ok (by omega) (by omega) (by omega) (by omega) (fun _ => by
            by_cases c3 : b = -1
            · exact Or.inl c3
            · exact Or.inr (ix (n := 3) rfl (by omega) ⟨by grind, c2.2⟩)))
          have en : (jx_up w 1 (111 + 6 * i + 4) b) 1 1 = w 1 1 := by rw [up_g, if_neg (by omega)]
          have r2 : R (jx_up (jx_up v 12 i b) 13 i x) (jx_up (jx_up w 1 (111 + 6 * i + 4) b) 1 (111 + 6 * i + 5) x) := R_W r1 (a := 5) (by omega) (by rw [en]; exact hi2) (OK_sW r1.ok (by omega) (by omega) (by omega) (by omega) (by omega))
          have en2 : (jx_up (jx_up w 1 (111 + 6 * i + 4) b) 1 (111 + 6 * i + 5) x) 1 1 = w 1 1 := by rw [up_g, if_neg (by omega), en]
          obtain ⟨v', e1, g1⟩ := x_broken (h := 1) (i := i) (by omega) r2.ok (by rw [tkn r2, en2]; exact hi2)
          obtain ⟨w', e2, g2⟩ := m_broken (i := i) r2.ok' (by rw [en2]; exact hi2)
          rw [e1, e2, r2.t]
          have r3 := R_fr r2 (G_SX g1) (FM_SM g2)
          simp only [Option.bind_some]
          split <;> exact Q_i r3
        split
        · exact k c
        · exact k 0
      · simp only [if_pos c2, if_neg c3, o10, z00, if_true, if_false]; exact Q_f h
    · simp only [if_neg c2, z00, if_true]
      by_cases c4 : b < -1
      · rw [if_pos c4]; exact Q_f h
      · rw [if_neg c4, if_pos (by grind)]; exact Q_f h
  · simp only [if_neg c1, z00, if_true]; exact Q_f h
theorem Q_b {x y : Option (Int32 × jx_V)} (h : Q x y) : Q (x.bind (fun (r, v) => some (r, v))) (y.bind (fun (r, v) => some (r, v))) := by
  obtain ⟨r, v, w, e1, e2, h⟩ := h
  rw [e1, e2]; exact Q_i h
theorem q_sees {v w a b} (h : R v w) : Q (f_X4_sees a b v) (f_X5_sees a b w) := by
  unfold f_X4_sees f_X5_sees
  simp only [x_isWindow, m_isW h, m_in_1_4, Option.bind_some, x_f0, m_f0]
  by_cases c1 : 0 ≤ a ∧ a < v 1 5
  · obtain ⟨i, hi, hi1, hi2, rfl⟩ := wx h c1
    simp only [if_pos c1, o10, if_false]
    by_cases c2 : 1 ≤ b ∧ b ≤ 4
    · obtain ⟨k, hk, rfl⟩ := ix (n := 4) rfl (by omega) ⟨by grind, c2.2⟩
      have hk1 : 1 ≤ k := by
        have := c2.1
        rw [← n1, pI_le (by omega) (by omega)] at this
        exact this
      simp only [if_pos c2, o10, if_false]
      rw [if_neg (by grind), if_pos c2.2]
      obtain ⟨v', e1, g1, hL⟩ := x_look (h := 1) (by omega) h.ok hi1
      rw [e1, Option.bind_some, x_ss hL hk1 (by omega), m_seen h.ok' hi2 hk1 (by omega), h.t]
      exact Q_i (R_fr h (G_SX g1) SM_r)
    · simp only [if_neg c2, z00, if_true]
      by_cases c4 : b < 1
      · rw [if_pos c4]; exact Q_f h
      · rw [if_neg c4, if_neg (by grind)]; exact Q_f h
  · simp only [if_neg c1, z00, if_true]; exact Q_f h
theorem q_view {v w a} (h : R v w) : Q (f_X4_view a v) (f_X5_view a w) := by
  unfold f_X4_view f_X5_view
  simp only [x_isWindow, m_isW h, Option.bind_some, x_f0, m_f0]
  by_cases c1 : 0 ≤ a ∧ a < v 1 5
  · obtain ⟨i, hi, hi1, hi2, rfl⟩ := wx h c1
    simp only [if_pos c1, o10, if_false]
    obtain ⟨v', e1, g1⟩ := x_view (h := 1) (by omega) h.ok hi1
    obtain ⟨w', e2, g2, _, _, h6, _⟩ := m_looks h.ok' hi2
    simp only [e1, e2, Option.bind_some, h6]
    rw [h.t]
    exact Q_i (R_fr h (G_SX g1) (FM_SM g2))
  · simp only [if_neg c1, z00, if_true]; exact Q_f h
theorem q_share {v w a b} (h : R v w) : Q (f_X4_share a b v) (f_X5_share a b w) := by
  unfold f_X4_share f_X5_share
  simp only [x_isWindow, m_isW h, x_w4, m_isOwner, Option.bind_some, x_f0, m_f0]
  by_cases c1 : 0 ≤ a ∧ a < v 1 5
  · obtain ⟨i, hi, hi1, hi2, rfl⟩ := wx h c1
    simp only [if_pos c1, o10, if_false]
    by_cases c2 : 0 ≤ b ∧ b ≤ 3
    · obtain ⟨o, ho, rfl⟩ := ix (n := 3) rfl (by omega) c2
      simp only [if_pos c2, o10, if_false, tn (show o < 2147483648 by omega), ib ho (by omega)]
      obtain ⟨v', e1, g1⟩ := x_share (o := nI o) (h := 1) (by omega) h.ok hi1
      obtain ⟨w', e2, g2, h5, _⟩ := m_looks h.ok' hi2
      simp only [e1, e2, Option.bind_some, h5 o ho]
      rw [h.t]
      exact Q_i (R_fr h (G_SX g1) (FM_SM g2))
    · simp only [if_neg c2, z00, if_true]; exact Q_f h
  · simp only [if_neg c1, z00, if_true]; exact Q_f h
theorem q_lots {v w a} (h : R v w) : Q (f_X4_lots a v) (f_X5_lots a w) := by
  unfold f_X4_lots f_X5_lots
  simp only [x_isWindow, m_isW h, Option.bind_some, x_f0, m_f0]
  by_cases c1 : 0 ≤ a ∧ a < v 1 5
  · obtain ⟨i, hi, hi1, hi2, rfl⟩ := wx h c1
    simp only [if_pos c1, o10, if_false]
    obtain ⟨v', e1, g1⟩ := x_lots (h := 1) (by omega) h.ok hi1
    obtain ⟨w', e2, g2, _, _, _, _, h8⟩ := m_looks h.ok' hi2
    simp only [e1, e2, Option.bind_some, h8]
    rw [h.t]
    exact Q_i (R_fr h (G_SX g1) (FM_SM g2))
  · simp only [if_neg c1, z00, if_true]; exact Q_f h
theorem q_rent {v w a} (h : R v w) : Q (f_X4_rent a v) (f_X5_rent a w) := by
  unfold f_X4_rent f_X5_rent
  simp only [x_isWindow, m_isW h, Option.bind_some, x_f0, m_f0]
  by_cases c1 : 0 ≤ a ∧ a < v 1 5
  · obtain ⟨i, hi, hi1, hi2, rfl⟩ := wx h c1
    simp only [if_pos c1, o10, if_false]
    obtain ⟨v', e1, g1, _⟩ := x_pay (h := 1) (r := 66) (by omega) (Or.inr (by omega)) h.ok hi1
    obtain ⟨w', e2, g2, _, _, _, h7, _⟩ := m_looks h.ok' hi2
    simp only [e1, e2, Option.bind_some, h7]
    rw [h.t]
    exact Q_i (R_fr h (GR_SX (by omega) g1) (FM_SM g2))
  · simp only [if_neg c1, z00, if_true]; exact Q_f h
theorem q_gain {v w a} (h : R v w) : Q (f_X4_gain a v) (f_X5_gain a w) := by
  unfold f_X4_gain f_X5_gain
  simp only [x_w4, m_isOwner, Option.bind_some, x_f0, m_f0]
  by_cases c2 : 0 ≤ a ∧ a ≤ 3
  · obtain ⟨o, ho, rfl⟩ := ix (n := 3) rfl (by omega) c2
    simp only [if_pos c2, o10, if_false, tn (show o < 2147483648 by omega), ib ho (by omega)]
    obtain ⟨v', e1, g1, hg⟩ := x_gains (h := 1) (r := 65) (by omega) (by omega) h.ok
    obtain ⟨w', e2, g2, _⟩ := m_gainOf h.ok' ho
    simp only [e1, e2, Option.bind_some, hg o ho]
    rw [h.t]
    exact Q_i (R_fr h (GR_SX (by omega) g1) (FM_SM g2))
  · simp only [if_neg c2, z00, if_true]; exact Q_f h
theorem q_broken {v w} (h : R v w) : Q (f_X4_broken v) (f_X5_broken w) := by
  unfold f_X4_broken f_X5_broken
  obtain ⟨v', e1, g1⟩ := x_bset (h := 1) (by omega) h.ok
  obtain ⟨w', e2, g2⟩ := m_bset h.ok'
  simp only [e1, e2, Option.bind_some]
  rw [h.t]
  exact Q_i (R_fr h (G_SX g1) (FM_SM g2))
theorem q_as {v w a b} (h : R v w) : Q (f_X4_as a b v) (f_X5_as a b w) := by
  unfold f_X4_as f_X5_as
  simp only [x_w10, x_w7, m_in_0_9, m_in_0_6, Option.bind_some, x_f0, m_f0]
  by_cases c1 : 0 ≤ a ∧ a ≤ 9
  · obtain ⟨q, hq, rfl⟩ := ix (n := 9) rfl (by omega) c1
    have e7 : 171 + nI q = nI (171 + q) := by unfold nI; simp [Int32.ofNat_add]
    by_cases c2 : 0 ≤ b ∧ b ≤ 6
    · simp only [if_pos c1, if_pos c2, o10, if_false, e7, tn (show q < 2147483648 by omega), tn (show 171 + q < 2147483648 by omega), ib hq (by omega), ib (show 171 + q < 181 by omega) (by omega), tkS h hq]
      have hs : w 1 (171 + q) = -1 ∨ ∃ j, j < 25 ∧ w 1 (171 + q) = nI j := by
        have := h.ok'.s q
        rw [show (mT (w 1)).S q = w 1 (171 + q) from if_pos hq] at this
        exact this
      rcases hs with e | ⟨j, hj, e⟩
      · simp only [e, show ((-1 : Int32) < 0) = True by decide, if_true, x_f5, m_f5, Option.bind_some]; exact Q_f h
      · simp only [e, nI_neg (show j < 2147483648 by omega), if_false, x_taken hj, m_thing hj, Option.bind_some, Nat.reduceAdd, tk h hj]
        by_cases ht : w 1 (11 + 4 * j) < 0
        · simp only [if_pos ht, z00, if_true, x_f5, m_f5, Option.bind_some]; exact Q_f h
        · simp only [if_neg ht, o10, if_false, tn (show j < 2147483648 by omega), nl0 hj, or_false, m_its0 hj, Option.bind_some, tk h hj, f_X4_isOfKind, f_X4_kindAbove, x_f2, m_f2]
          generalize w 1 (11 + 4 * j) = k at *
          clear ht
          have hi : Q (some (nI j, v)) (some (nI j, w)) := Q_i h
          have hf : Q (some (-1000003, jx_up v 63 2 (v 63 2 + 1))) (some (-1000003, jx_up w 4 2 (w 4 2 + 1))) := Q_f h
          by_cases b0 : b = 0
          · simp only [b0, if_true, Option.bind_some, o10, if_false]; exact hi
          · by_cases b1 : k = b
            · simp only [b0, b1, if_true, if_false, Option.bind_some, o10]; exact hi
            · by_cases k3 : k = 3
              · subst k3
                by_cases b2 : b = 1
                · subst b2; exact hi
                · have b2' : ¬ 1 = b := fun q => b2 q.symm
                  simp only [b0, b1, b2, b2', if_true, if_false, Option.bind_some, z00, o10]
                  by_cases b3 : b = 2
                  · subst b3; exact hf
                  · by_cases b5 : b = 5
                    · subst b5; exact hf
                    · simp only [b3, b5, if_false]; exact hf
              · by_cases k4 : k = 4
                · subst k4
                  by_cases b2 : b = 2
                  · subst b2; exact hi
                  · have b2' : ¬ 2 = b := fun q => b2 q.symm
                    by_cases b3 : b = 1
                    · subst b3; exact hf
                    · by_cases b5 : b = 5
                      · subst b5; exact hf
                      · simp only [b0, b1, b2, b2', b3, b5, k3, if_true, if_false, Option.bind_some, z00, o10]; exact hf
                · by_cases k6 : k = 6
                  · subst k6
                    by_cases b2 : b = 5
                    · subst b2; exact hi
                    · have b2' : ¬ 5 = b := fun q => b2 q.symm
                      by_cases b3 : b = 1
                      · subst b3; exact hf
                      · by_cases b5 : b = 2
                        · subst b5; exact hf
                        · simp only [b0, b1, b2, b2', b3, b5, k3, show ¬ (6 : Int32) = 4 by decide, show ¬ (6 : Int32) = 5 by decide, if_true, if_false, Option.bind_some, z00, o10]; exact hf
                  · have b0' : ¬ 0 = b := fun q => b0 q.symm
                    by_cases k5 : k = 5
                    · subst k5
                      by_cases x1 : b = 1
                      · subst x1; exact hf
                      · by_cases x2 : b = 2
                        · subst x2; exact hf
                        · simp only [b0, b0', b1, x1, x2, k3, k4, k6, if_true, if_false, Option.bind_some, z00, o10]; (repeat' split) <;> first | exact hf | (exfalso; grind)
                    · simp only [b0, b0', b1, k3, k4, k6, k5, if_true, if_false, Option.bind_some, z00, o10]
                      (repeat' split) <;> first | exact hf | (exfalso; grind)
    · simp only [if_pos c1, if_neg c2, o10, z00, if_true, if_false]; exact Q_f h
  · simp only [if_neg c1, z00, if_true]; exact Q_f h
theorem x_addw {h N : Nat} {v : jx_V} {p l a t : Int32} (hN : N < 10) (eN : v h 5 = nI N) : f_X3_addWindow h p l a t v = some (jx_up (jx_up (jx_up (jx_up (jx_up (jx_up (jx_up v (h+7) N p) (h+8) N l) (h+9) N a) (h+10) N t) (h+11) N (-1)) (h+12) N 0) h 5 (nI (N+1))) := by
  unfold f_X3_addWindow
  simp only [jx_up_ne (show h ≠ h + 7 by omega), jx_up_ne (show h ≠ h + 8 by omega), jx_up_ne (show h ≠ h + 9 by omega), jx_up_ne (show h ≠ h + 10 by omega), jx_up_ne (show h ≠ h + 11 by omega), jx_up_ne (show h ≠ h + 12 by omega), eN, tn (show N < 2147483648 by omega), ib hN (by omega), if_false, nI_add1]
  rw [if_neg (by rw [show (10 : Int32) = nI 10 from rfl, pI_le (by omega) (by omega)]; omega)]
theorem c_win {h N : Nat} {v : jx_V} {p l a t : Int32} (hN : N < 10) (eN : v h 5 = nI N) : cT h (jx_up (jx_up (jx_up (jx_up (jx_up (jx_up (jx_up v (h+7) N p) (h+8) N l) (h+9) N a) (h+10) N t) (h+11) N (-1)) (h+12) N 0) h 5 (nI (N+1))) = nwin (cT h v) p l a t := by
  have e1 := tn (show N < 2147483648 by omega)
  have e2 := tn (show N + 1 < 2147483648 by omega)
  have e3 := nI_add1 N
  refine Tx ?_ ?_ ?_ ?_ ?_ ?_ ?_ ?_ ?_ ?_ ?_
  · funext l; (try simp only [cT, mT, mkT, bld, rem, sK, sO, sH, sP, sC, sS, sW, sm, sz, nwin, nw, Tn.K, Tn.O, Tn.H, Tn.P, Tn.W, Tn.C, Tn.U, Tn.S, Tn.n, Tn.m, Tn.z, up_g, upd, eN, e1, e2, e3]) <;> grind
  · funext l; (try simp only [cT, mT, mkT, bld, rem, sK, sO, sH, sP, sC, sS, sW, sm, sz, nwin, nw, Tn.K, Tn.O, Tn.H, Tn.P, Tn.W, Tn.C, Tn.U, Tn.S, Tn.n, Tn.m, Tn.z, up_g, upd, eN, e1, e2, e3]) <;> grind
  · funext l; (try simp only [cT, mT, mkT, bld, rem, sK, sO, sH, sP, sC, sS, sW, sm, sz, nwin, nw, Tn.K, Tn.O, Tn.H, Tn.P, Tn.W, Tn.C, Tn.U, Tn.S, Tn.n, Tn.m, Tn.z, up_g, upd, eN, e1, e2, e3]) <;> grind
  · funext l; (try simp only [cT, mT, mkT, bld, rem, sK, sO, sH, sP, sC, sS, sW, sm, sz, nwin, nw, Tn.K, Tn.O, Tn.H, Tn.P, Tn.W, Tn.C, Tn.U, Tn.S, Tn.n, Tn.m, Tn.z, up_g, upd, eN, e1, e2, e3]) <;> grind
  · funext a i; (try simp only [cT, mT, mkT, bld, rem, sK, sO, sH, sP, sC, sS, sW, sm, sz, nwin, nw, Tn.K, Tn.O, Tn.H, Tn.P, Tn.W, Tn.C, Tn.U, Tn.S, Tn.n, Tn.m, Tn.z, up_g, upd, eN, e1, e2, e3]) <;> grind
  · funext l; (try simp only [cT, mT, mkT, bld, rem, sK, sO, sH, sP, sC, sS, sW, sm, sz, nwin, nw, Tn.K, Tn.O, Tn.H, Tn.P, Tn.W, Tn.C, Tn.U, Tn.S, Tn.n, Tn.m, Tn.z, up_g, upd, eN, e1, e2, e3]) <;> grind
  · funext l; (try simp only [cT, mT, mkT, bld, rem, sK, sO, sH, sP, sC, sS, sW, sm, sz, nwin, nw, Tn.K, Tn.O, Tn.H, Tn.P, Tn.W, Tn.C, Tn.U, Tn.S, Tn.n, Tn.m, Tn.z, up_g, upd, eN, e1, e2, e3]) <;> grind
  · funext l; (try simp only [cT, mT, mkT, bld, rem, sK, sO, sH, sP, sC, sS, sW, sm, sz, nwin, nw, Tn.K, Tn.O, Tn.H, Tn.P, Tn.W, Tn.C, Tn.U, Tn.S, Tn.n, Tn.m, Tn.z, up_g, upd, eN, e1, e2, e3]) <;> grind
  · (try simp only [cT, mT, mkT, bld, rem, sK, sO, sH, sP, sC, sS, sW, sm, sz, nwin, nw, Tn.K, Tn.O, Tn.H, Tn.P, Tn.W, Tn.C, Tn.U, Tn.S, Tn.n, Tn.m, Tn.z, up_g, upd, eN, e1, e2, e3]) <;> grind
  · (try simp only [cT, mT, mkT, bld, rem, sK, sO, sH, sP, sC, sS, sW, sm, sz, nwin, nw, Tn.K, Tn.O, Tn.H, Tn.P, Tn.W, Tn.C, Tn.U, Tn.S, Tn.n, Tn.m, Tn.z, up_g, upd, eN, e1, e2, e3]) <;> grind
  · (try simp only [cT, mT, mkT, bld, rem, sK, sO, sH, sP, sC, sS, sW, sm, sz, nwin, nw, Tn.K, Tn.O, Tn.H, Tn.P, Tn.W, Tn.C, Tn.U, Tn.S, Tn.n, Tn.m, Tn.z, up_g, upd, eN, e1, e2, e3]) <;> grind
theorem m_win {N : Nat} {s : Nat → Int32} {p l a t : Int32} (hN : N < 10) (eN : s 1 = nI N) : mT (upd (upd (upd (upd (upd (upd (upd s (111+6*N+0) p) (111+6*N+1) l) (111+6*N+2) a) (111+6*N+3) t) (111+6*N+4) (-1)) (111+6*N+5) 0) 1 (nI (N+1))) = nwin (mT s) p l a t := by
  have e1 := tn (show N < 2147483648 by omega)
  have e2 := tn (show N + 1 < 2147483648 by omega)
  have e3 := nI_add1 N
  refine Tx ?_ ?_ ?_ ?_ ?_ ?_ ?_ ?_ ?_ ?_ ?_
  · funext l; (try simp only [cT, mT, mkT, bld, rem, sK, sO, sH, sP, sC, sS, sW, sm, sz, nwin, nw, Tn.K, Tn.O, Tn.H, Tn.P, Tn.W, Tn.C, Tn.U, Tn.S, Tn.n, Tn.m, Tn.z, up_g, upd, eN, e1, e2, e3]) <;> grind
  · funext l; (try simp only [cT, mT, mkT, bld, rem, sK, sO, sH, sP, sC, sS, sW, sm, sz, nwin, nw, Tn.K, Tn.O, Tn.H, Tn.P, Tn.W, Tn.C, Tn.U, Tn.S, Tn.n, Tn.m, Tn.z, up_g, upd, eN, e1, e2, e3]) <;> grind
  · funext l; (try simp only [cT, mT, mkT, bld, rem, sK, sO, sH, sP, sC, sS, sW, sm, sz, nwin, nw, Tn.K, Tn.O, Tn.H, Tn.P, Tn.W, Tn.C, Tn.U, Tn.S, Tn.n, Tn.m, Tn.z, up_g, upd, eN, e1, e2, e3]) <;> grind
  · funext l; (try simp only [cT, mT, mkT, bld, rem, sK, sO, sH, sP, sC, sS, sW, sm, sz, nwin, nw, Tn.K, Tn.O, Tn.H, Tn.P, Tn.W, Tn.C, Tn.U, Tn.S, Tn.n, Tn.m, Tn.z, up_g, upd, eN, e1, e2, e3]) <;> grind
  · funext a i; (try simp only [cT, mT, mkT, bld, rem, sK, sO, sH, sP, sC, sS, sW, sm, sz, nwin, nw, Tn.K, Tn.O, Tn.H, Tn.P, Tn.W, Tn.C, Tn.U, Tn.S, Tn.n, Tn.m, Tn.z, up_g, upd, eN, e1, e2, e3]) <;> grind
  · funext l; (try simp only [cT, mT, mkT, bld, rem, sK, sO, sH, sP, sC, sS, sW, sm, sz, nwin, nw, Tn.K, Tn.O, Tn.H, Tn.P, Tn.W, Tn.C, Tn.U, Tn.S, Tn.n, Tn.m, Tn.z, up_g, upd, eN, e1, e2, e3]) <;> grind
  · funext l; (try simp only [cT, mT, mkT, bld, rem, sK, sO, sH, sP, sC, sS, sW, sm, sz, nwin, nw, Tn.K, Tn.O, Tn.H, Tn.P, Tn.W, Tn.C, Tn.U, Tn.S, Tn.n, Tn.m, Tn.z, up_g, upd, eN, e1, e2, e3]) <;> grind
  · funext l; (try simp only [cT, mT, mkT, bld, rem, sK, sO, sH, sP, sC, sS, sW, sm, sz, nwin, nw, Tn.K, Tn.O, Tn.H, Tn.P, Tn.W, Tn.C, Tn.U, Tn.S, Tn.n, Tn.m, Tn.z, up_g, upd, eN, e1, e2, e3]) <;> grind
  · (try simp only [cT, mT, mkT, bld, rem, sK, sO, sH, sP, sC, sS, sW, sm, sz, nwin, nw, Tn.K, Tn.O, Tn.H, Tn.P, Tn.W, Tn.C, Tn.U, Tn.S, Tn.n, Tn.m, Tn.z, up_g, upd, eN, e1, e2, e3]) <;> grind
  · (try simp only [cT, mT, mkT, bld, rem, sK, sO, sH, sP, sC, sS, sW, sm, sz, nwin, nw, Tn.K, Tn.O, Tn.H, Tn.P, Tn.W, Tn.C, Tn.U, Tn.S, Tn.n, Tn.m, Tn.z, up_g, upd, eN, e1, e2, e3]) <;> grind
  · (try simp only [cT, mT, mkT, bld, rem, sK, sO, sH, sP, sC, sS, sW, sm, sz, nwin, nw, Tn.K, Tn.O, Tn.H, Tn.P, Tn.W, Tn.C, Tn.U, Tn.S, Tn.n, Tn.m, Tn.z, up_g, upd, eN, e1, e2, e3]) <;> grind
theorem wh0 {j : Nat} : 111 + 6 * nI j + 0 = nI (111 + 6 * j + 0) := wh_n (a := 0)
theorem m_neww {N : Nat} {w : jx_V} {p l a t : Int32} (hN : N < 10) (eN : w 1 1 = nI N) : f_X5_newWindow p l a t w = some (nI N, jx_up (jx_up (jx_up (jx_up (jx_up (jx_up (jx_up w 1 (111+6*N+0) p) 1 (111+6*N+1) l) 1 (111+6*N+2) a) 1 (111+6*N+3) t) 1 (111+6*N+4) (-1)) 1 (111+6*N+5) 0) 1 1 (nI (N+1))) := by
  unfold f_X5_newWindow f_X5_where
  simp only [Option.bind_some, eN, wh0, wh1, wh2, wh3, wh4, wh5, tn (show 111 + 6 * N + 0 < 2147483648 by omega), tn (show 111 + 6 * N + 1 < 2147483648 by omega), tn (show 111 + 6 * N + 2 < 2147483648 by omega), tn (show 111 + 6 * N + 3 < 2147483648 by omega), tn (show 111 + 6 * N + 4 < 2147483648 by omega), tn (show 111 + 6 * N + 5 < 2147483648 by omega),
    ib (show 111 + 6 * N + 0 < 181 by omega) (by omega), ib (show 111 + 6 * N + 1 < 181 by omega) (by omega), ib (show 111 + 6 * N + 2 < 181 by omega) (by omega), ib (show 111 + 6 * N + 3 < 181 by omega) (by omega), ib (show 111 + 6 * N + 4 < 181 by omega) (by omega), ib (show 111 + 6 * N + 5 < 181 by omega) (by omega), if_false]
  have e : (jx_up (jx_up (jx_up (jx_up (jx_up (jx_up w 1 (111+6*N+0) p) 1 (111+6*N+1) l) 1 (111+6*N+2) a) 1 (111+6*N+3) t) 1 (111+6*N+4) (-1)) 1 (111+6*N+5) 0) 1 1 = nI N := by
    rw [up_g, if_neg (by omega), up_g, if_neg (by omega), up_g, if_neg (by omega), up_g, if_neg (by omega), up_g, if_neg (by omega), up_g, if_neg (by omega), eN]
  rw [e, nI_add1]
theorem OK_nwin {T p l a t} (hT : OK T) (hn : nw T < 10) (hp : ∃ q, q < 25 ∧ p = nI q) (hl : ∃ q, q < 10 ∧ l = nI q) (ha : ∃ q, q < 4 ∧ a = nI q) (ht : ∃ q, q < 4 ∧ t = nI q) : OK (nwin T p l a t) := by
  refine OK.mk hT.k hT.o hT.h hT.p (fun i => ?_) (fun i => ?_) (fun i => ?_) (fun i => ?_) (fun i => ?_) ?_ hT.s
  · show ∃ q, q < 25 ∧ (if i = nw T ∧ 0 < 6 then p else T.W 0 i) = nI q
    split
    · exact hp
    · exact hT.w0 i
  · show ∃ q, q < 10 ∧ (if i = nw T ∧ 1 < 6 then l else T.W 1 i) = nI q
    split
    · exact hl
    · exact hT.w1 i
  · show ∃ q, q < 4 ∧ (if i = nw T ∧ 2 < 6 then a else T.W 2 i) = nI q
    split
    · exact ha
    · exact hT.w2 i
  · show ∃ q, q < 4 ∧ (if i = nw T ∧ 3 < 6 then t else T.W 3 i) = nI q
    split
    · exact ht
    · exact hT.w3 i
  · show (if i = nw T ∧ 4 < 6 then -1 else T.W 4 i) = -1 ∨ ∃ q, q < 4 ∧ (if i = nw T ∧ 4 < 6 then -1 else T.W 4 i) = nI q
    split
    · exact Or.inl rfl
    · exact hT.w4 i
  · obtain ⟨N, hN, e⟩ := hT.n
    refine ⟨N + 1, ?_, ?_⟩
    · unfold nw at hn; rw [e, tn (by omega)] at hn; omega
    · show T.n + 1 = nI (N+1)
      rw [e, nI_add1]
theorem R_win {v w : jx_V} {N : Nat} {p l a t : Int32} (h : R v w) (hN : N < 10) (eN : v 1 5 = nI N) (hp : ∃ q, q < 25 ∧ p = nI q) (hl : ∃ q, q < 10 ∧ l = nI q) (ha : ∃ q, q < 4 ∧ a = nI q) (ht : ∃ q, q < 4 ∧ t = nI q) :
    R (jx_up (jx_up (jx_up (jx_up (jx_up (jx_up (jx_up v 8 N p) 9 N l) 10 N a) 11 N t) 12 N (-1)) 13 N 0) 1 5 (nI (N+1))) (jx_up (jx_up (jx_up (jx_up (jx_up (jx_up (jx_up w 1 (111+6*N+0) p) 1 (111+6*N+1) l) 1 (111+6*N+2) a) 1 (111+6*N+3) t) 1 (111+6*N+4) (-1)) 1 (111+6*N+5) 0) 1 1 (nI (N+1))) := by
  have eM : w 1 1 = nI N := by rw [← tkn h]; exact eN
  refine R_town h (T := nwin (cT 1 v) p l a t) (fun q hq => ?_) ?_ (fun q hq => ?_) ?_ ?_ (c_win (h := 1) hN eN) ?_ (OK_nwin h.ok (by show (v 1 5).toNatClampNeg < 10; rw [eN, tn (by omega)]; exact hN) hp hl ha ht)
  · rw [jx_up_ne (by omega), jx_up_ne (by omega), jx_up_ne (by omega), jx_up_ne (by omega), jx_up_ne (by omega), jx_up_ne (by omega), jx_up_ne (by omega)]
  · rw [jx_up_ne (by omega), jx_up_ne (by omega), jx_up_ne (by omega), jx_up_ne (by omega), jx_up_ne (by omega), jx_up_ne (by omega), jx_up_ne (by omega)]
  · rw [jx_up_ne (by omega), jx_up_ne (by omega), jx_up_ne (by omega), jx_up_ne (by omega), jx_up_ne (by omega), jx_up_ne (by omega), jx_up_ne (by omega)]
  · rw [jx_up_ne (by omega), jx_up_ne (by omega), jx_up_ne (by omega), jx_up_ne (by omega), jx_up_ne (by omega), jx_up_ne (by omega), jx_up_ne (by omega)]
  · rw [jx_up_ne (by omega), jx_up_ne (by omega), jx_up_ne (by omega), jx_up_ne (by omega), jx_up_ne (by omega), jx_up_ne (by omega), jx_up_ne (by omega)]
  · simp only [up_c]; rw [m_win hN eM, h.t]
theorem q_window {v w a b c d} (h : R v w) : Q (f_X4_window a b c d v) (f_X5_window a b c d w) := by
  obtain ⟨N, hN, eN, eN2⟩ := cn h.ok
  have eM : w 1 1 = nI N := by rw [← tkn h]; exact eN
  unfold f_X4_window f_X5_window
  simp only [x_w25, x_w4, x_w10, m_in_0_3, m_isLot, m_isOwner, m_isHeight, Option.bind_some, x_f0, m_f0, x_f1, m_f1]
  by_cases c2 : 0 ≤ a ∧ a ≤ 24
  · by_cases c1 : 0 ≤ b ∧ b ≤ 9
    · by_cases c3 : 0 ≤ c ∧ c ≤ 3
      · by_cases c4 : 0 ≤ d ∧ d ≤ 3
        · simp only [if_pos c1, if_pos c2, if_pos c3, if_pos c4, o10, if_false]
          by_cases hN' : N < 10
          · rw [if_pos (by rw [eN, show (10 : Int32) = nI 10 from rfl, pI_lt (by omega) (by omega)]; omega), if_neg (by rw [eM, show (10 : Int32) = nI 10 from rfl, pI_eq (by omega) (by omega)]; omega)]
            simp only [x_addw (h := 1) hN' eN, m_neww hN' eM, Option.bind_some, Nat.reduceAdd]
            have r := R_win h hN' eN (ix (n := 24) rfl (by omega) c2) (ix (n := 9) rfl (by omega) c1) (ix (n := 3) rfl (by omega) c3) (ix (n := 3) rfl (by omega) c4) (p := a) (l := b) (a := c) (t := d)
            rw [up_s, show nI (N+1) - 1 = nI N by rw [← nI_add1]; grind]
            exact Q_i r
          · rw [if_neg (by rw [eN, show (10 : Int32) = nI 10 from rfl, pI_lt (by omega) (by omega)]; omega), if_pos (by rw [eM, show (10 : Int32) = nI 10 from rfl, pI_eq (by omega) (by omega)]; omega)]
            exact Q_f h
        · simp only [if_pos c1, if_pos c2, if_pos c3, if_neg c4, o10, z00, if_true, if_false]; exact Q_f h
      · simp only [if_pos c1, if_pos c2, if_neg c3, o10, z00, if_true, if_false]; exact Q_f h
    · simp only [if_pos c2, if_neg c1, o10, z00, if_true, if_false]; exact Q_f h
  · simp only [if_neg c2, z00, if_true]; exact Q_f h
def hts (T : Tn) : Nat → Int32
  | 0 => 0
  | l + 1 => if T.K l < 0 then hts T l else hts T l + T.H l
def cts (T : Tn) : Nat → Int32
  | 0 => 0
  | i + 1 => if T.W 4 i < 0 then cts T i else cts T i + 1
def sps (T : Tn) : Nat → Int32
  | 0 => 0
  | i + 1 => if T.S i < 0 then sps T i else sps T i + 1
theorem x_heights {h : Nat} {v : jx_V} : f_X3_heightOfAll h v = some (hts (cT h v) 25, v) := by
  have : ∀ d l f, l + d = 25 → d < f → f_X3_heightOfAll_L h f (hts (cT h v) l) (nI l) v = some (hts (cT h v) 25, v) := by
    intro d
    induction d with
    | zero =>
      intro l f hl hf
      obtain ⟨f, rfl⟩ : ∃ q, f = q + 1 := ⟨f - 1, by omega⟩
      rw [f_X3_heightOfAll_L, if_pos (by rw [show (25 : Int32) = nI 25 from rfl, pI_le (by omega) (by omega)]; omega), show l = 25 by omega]
    | succ d ih =>
      intro l f hl hf
      obtain ⟨f, rfl⟩ : ∃ q, f = q + 1 := ⟨f - 1, by omega⟩
      have e := ih (l+1) f (by omega) (by omega)
      rw [hts] at e
      rw [f_X3_heightOfAll_L, if_neg (by rw [show (25 : Int32) = nI 25 from rfl, pI_le (by omega) (by omega)]; omega)]
      rw [x_taken (show l < 25 by omega), Option.bind_some]
      rw [cK (show l < 25 by omega)] at e
      by_cases c : v (h+3) l < 0
      · simp only [if_pos c, z00, if_true, Int32.add_zero, nI_add1] at e ⊢; exact e
      · rw [cH (show l < 25 by omega) (Int32.not_lt.mp c)] at e
        simp only [if_neg c, o10, if_false, nI_add1, tn (show l < 2147483648 by omega), ib (show l < 25 by omega) (by omega)] at e ⊢; exact e
  exact this 25 0 100000 (by omega) (by omega)
theorem m_heights {w : jx_V} : f_X5_heights w = some (hts (mT (w 1)) 25, w) := by
  have : ∀ d l f, l + d = 25 → d < f → f_X5_heights_L f (hts (mT (w 1)) l) (nI l) w = some (hts (mT (w 1)) 25, w) := by
    intro d
    induction d with
    | zero =>
      intro l f hl hf
      obtain ⟨f, rfl⟩ : ∃ q, f = q + 1 := ⟨f - 1, by omega⟩
      rw [f_X5_heights_L, if_pos (by rw [show (25 : Int32) = nI 25 from rfl, pI_le (by omega) (by omega)]; omega), show l = 25 by omega]
    | succ d ih =>
      intro l f hl hf
      obtain ⟨f, rfl⟩ : ∃ q, f = q + 1 := ⟨f - 1, by omega⟩
      have e := ih (l+1) f (by omega) (by omega)
      rw [hts] at e
      rw [f_X5_heights_L, if_neg (by rw [show (25 : Int32) = nI 25 from rfl, pI_le (by omega) (by omega)]; omega)]
      rw [m_thing (show l < 25 by omega), Option.bind_some]
      rw [mK (show l < 25 by omega)] at e
      by_cases c : w 1 (11 + 4 * l) < 0
      · simp only [if_pos c, z00, if_true, Int32.add_zero, nI_add1] at e ⊢; exact e
      · rw [mH (show l < 25 by omega) (Int32.not_lt.mp c)] at e
        simp only [if_neg c, o10, if_false, nI_add1, m_its2 (show l < 25 by omega), Option.bind_some] at e ⊢; exact e
  exact this 25 0 100000 (by omega) (by omega)
theorem x_contracts {h : Nat} {v : jx_V} (hT : OK (cT h v)) : f_X3_contractCount h v = some (cts (cT h v) (nw (cT h v)), v) := by
  obtain ⟨N, hN, eN, eN2⟩ := cn hT
  have : ∀ d l f, l + d = N → d < f → f_X3_contractCount_L h f (cts (cT h v) l) (nI l) v = some (cts (cT h v) N, v) := by
    intro d
    induction d with
    | zero =>
      intro l f hl hf
      obtain ⟨f, rfl⟩ : ∃ q, f = q + 1 := ⟨f - 1, by omega⟩
      rw [f_X3_contractCount_L, if_pos (by rw [eN, pI_le (by omega) (by omega)]; omega), show l = N by omega]
    | succ d ih =>
      intro l f hl hf
      obtain ⟨f, rfl⟩ : ∃ q, f = q + 1 := ⟨f - 1, by omega⟩
      have e := ih (l+1) f (by omega) (by omega)
      rw [cts] at e
      rw [f_X3_contractCount_L, if_neg (by rw [eN, pI_le (by omega) (by omega)]; omega)]
      rw [cW (h := h) (v := v) (a := 4) (by omega) (show l < (v h 5).toNatClampNeg by omega)] at e
      simp only [tn (show l < 2147483648 by omega), ib (show l < 10 by omega) (by omega), if_false, nI_add1, Int32.add_zero]
      by_cases c : v (h+7+4) l < 0
      · rw [if_pos c] at e
        rw [if_pos (show v (h+11) l < 0 from c)]; exact e
      · rw [if_neg c] at e
        rw [if_neg (show ¬ v (h+11) l < 0 from c)]; exact e
  rw [nwc, eN2]
  exact this N 0 100000 (by omega) (by omega)
theorem m_contracts {w : jx_V} (hT : OK (mT (w 1))) : f_X5_contracts w = some (cts (mT (w 1)) (nw (mT (w 1))), w) := by
  obtain ⟨N, hN, eN, eN2⟩ := mn hT
  have : ∀ d l f, l + d = N → d < f → f_X5_contracts_L f (cts (mT (w 1)) l) (nI l) w = some (cts (mT (w 1)) N, w) := by
    intro d
    induction d with
    | zero =>
      intro l f hl hf
      obtain ⟨f, rfl⟩ : ∃ q, f = q + 1 := ⟨f - 1, by omega⟩
      rw [f_X5_contracts_L, if_pos (by rw [eN, pI_le (by omega) (by omega)]; omega), show l = N by omega]
    | succ d ih =>
      intro l f hl hf
      obtain ⟨f, rfl⟩ : ∃ q, f = q + 1 := ⟨f - 1, by omega⟩
      have e := ih (l+1) f (by omega) (by omega)
      rw [cts] at e
      rw [f_X5_contracts_L, if_neg (by rw [eN, pI_le (by omega) (by omega)]; omega)]
      rw [mW (s := w 1) (a := 4) (by omega) (show l < (w 1 1).toNatClampNeg by omega)] at e
      simp only [m_told4 (show l < 10 by omega), Option.bind_some, nI_add1, Int32.add_zero]
      by_cases c : w 1 (111 + 6 * l + 4) < 0
      · rw [if_pos c] at e
        rw [if_neg (Int32.not_le.mpr c)]; exact e
      · rw [if_neg c] at e
        rw [if_pos (Int32.not_lt.mp c)]; exact e
  rw [nwm, eN2]
  exact this N 0 100000 (by omega) (by omega)
theorem x_spots {h : Nat} {v : jx_V} : f_X3_spotsInUse h v = some (sps (cT h v) 10, v) := by
  have : ∀ d l f, l + d = 10 → d < f → f_X3_spotsInUse_L h f (sps (cT h v) l) (nI l) v = some (sps (cT h v) 10, v) := by
    intro d
    induction d with
    | zero =>
      intro l f hl hf
      obtain ⟨f, rfl⟩ : ∃ q, f = q + 1 := ⟨f - 1, by omega⟩
      rw [f_X3_spotsInUse_L, if_pos (by rw [show (10 : Int32) = nI 10 from rfl, pI_le (by omega) (by omega)]; omega), show l = 10 by omega]
    | succ d ih =>
      intro l f hl hf
      obtain ⟨f, rfl⟩ : ∃ q, f = q + 1 := ⟨f - 1, by omega⟩
      have e := ih (l+1) f (by omega) (by omega)
      rw [sps] at e
      rw [f_X3_spotsInUse_L, if_neg (by rw [show (10 : Int32) = nI 10 from rfl, pI_le (by omega) (by omega)]; omega)]
      rw [show (cT h v).S l = v (h+15) l from if_pos (by omega)] at e
      simp only [tn (show l < 2147483648 by omega), ib (show l < 10 by omega) (by omega), if_false, nI_add1, Int32.add_zero]
      by_cases c : v (h+15) l < 0
      · rw [if_pos c] at e ⊢; exact e
      · rw [if_neg c] at e ⊢; exact e
  exact this 10 0 100000 (by omega) (by omega)
theorem m_spots {w : jx_V} : f_X5_held w = some (sps (mT (w 1)) 10, w) := by
  have : ∀ d l f, l + d = 10 → d < f → f_X5_held_L f (sps (mT (w 1)) l) (nI l) w = some (sps (mT (w 1)) 10, w) := by
    intro d
    induction d with
    | zero =>
      intro l f hl hf
      obtain ⟨f, rfl⟩ : ∃ q, f = q + 1 := ⟨f - 1, by omega⟩
      rw [f_X5_held_L, if_pos (by rw [show (10 : Int32) = nI 10 from rfl, pI_le (by omega) (by omega)]; omega), show l = 10 by omega]
    | succ d ih =>
      intro l f hl hf
      obtain ⟨f, rfl⟩ : ∃ q, f = q + 1 := ⟨f - 1, by omega⟩
      have e := ih (l+1) f (by omega) (by omega)
      rw [sps] at e
      rw [f_X5_held_L, if_neg (by rw [show (10 : Int32) = nI 10 from rfl, pI_le (by omega) (by omega)]; omega)]
      rw [show (mT (w 1)).S l = w 1 (171 + l) from if_pos (by omega)] at e
      have e7 : 171 + nI l = nI (171 + l) := by unfold nI; simp [Int32.ofNat_add]
      simp only [e7, tn (show 171 + l < 2147483648 by omega), ib (show 171 + l < 181 by omega) (by omega), if_false, nI_add1, Int32.add_zero]
      by_cases c : w 1 (171 + l) < 0
      · rw [if_pos c] at e
        rw [if_neg (Int32.not_le.mpr c)]; exact e
      · rw [if_neg c] at e
        rw [if_pos (Int32.not_lt.mp c)]; exact e
  exact this 10 0 100000 (by omega) (by omega)
theorem q_count {v w a} (h : R v w) : Q (f_X4_count a v) (f_X5_count a w) := by
  unfold f_X4_count f_X5_count
  simp only [x_cnt, m_count, x_heights, m_heights, x_contracts (h := 1) h.ok, m_contracts h.ok', x_spots, m_spots, Option.bind_some, x_f0, m_f0, h.tl, tkm h, tkz h, tkn h, h.t]
  have hi : ∀ r, Q (some (r, v)) (some (r, w)) := fun r => Q_i h
  have hf : Q (some (-1000001, jx_up v 63 0 (v 63 0 + 1))) (some (-1000001, jx_up w 4 0 (w 4 0 + 1))) := Q_f h
  (repeat' split) <;> first | exact hf | exact hi _
theorem set_g (v : jx_V) (h : Nat) (f : Nat → Int32) (c : Nat) : jx_set v h f c = if c = h then f else v c := rfl
theorem cpy_g (f g : Nat → Int32) (n k : Nat) : va_cpy f g 0 0 n k = if k < n then f k else g k := by
  unfold va_cpy; by_cases h : k < n <;> simp [h]
def Far (h0 h1 : Nat) : Prop := h0 + 15 < h1 ∨ h1 + 15 < h0
def BF (h0 : Nat) (v v1 : jx_V) : Prop := ∀ c, (c < h0 ∨ h0 + 15 < c) → v1 c = v c
theorem t0 : Int32.toNatClampNeg 0 = 0 := rfl
theorem t4 : Int32.toNatClampNeg 4 = 4 := rfl
theorem t10 : Int32.toNatClampNeg 10 = 10 := rfl
theorem t25 : Int32.toNatClampNeg 25 = 25 := rfl
def B0 (h0 h1 q : Nat) (v v1 : jx_V) : Prop := BF h0 v v1 ∧ ∀ r, r < q → ∀ l, l < 25 → v1 (h0+3+r) l = v (h1+3+r) l
def B1 (h0 h1 q : Nat) (v v1 : jx_V) : Prop := B0 h0 h1 4 v v1 ∧ ∀ r, r < q → ∀ l, l < 10 → v1 (h0+7+r) l = v (h1+7+r) l
theorem x_bec0 {h0 h1 : Nat} {v : jx_V} (hf : Far h0 h1) : ∀ d q f v1, q + d = 4 → B0 h0 h1 q v v1 → ∃ v2, f_X3_become_L h0 h1 (f+d+1) 0 (nI q) v1 = f_X3_become_L h0 h1 f 1 0 v2 ∧ B0 h0 h1 4 v v2
  | 0, q, f, v1, hq, hb => by
    refine ⟨v1, ?_, by rw [← show q = 4 by omega]; exact hb⟩
    rw [f_X3_become_L, if_pos rfl, if_pos (by rw [← n4, pI_le (by omega) (by omega)]; omega)]
  | d + 1, q, f, v1, hq, hb => by
    have hb' : B0 h0 h1 (q+1) v (jx_set v1 (h0+3+q) (va_cpy (v1 (h1+3+q)) (v1 (h0+3+q)) 0 0 25)) := by
      refine ⟨fun c hc => ?_, fun r hr l hl => ?_⟩
      · rw [set_g, if_neg (by omega)]; exact hb.1 c hc
      · rw [set_g]
        by_cases e : h0 + 3 + r = h0 + 3 + q
        · rw [if_pos e, cpy_g, if_pos hl, show r = q by omega, hb.1 (h1+3+q) (by unfold Far at hf; omega)]
        · rw [if_neg e]; exact hb.2 r (by omega) l hl
    obtain ⟨v2, e, h2⟩ := x_bec0 hf d (q+1) f _ (by omega) hb'
    refine ⟨v2, ?_, h2⟩
    rw [show f + (d + 1) + 1 = (f + d + 1) + 1 by omega, f_X3_become_L, if_pos rfl, if_neg (by rw [← n4, pI_le (by omega) (by omega)]; omega)]
    simp only [tn (show q < 2147483648 by omega), ib (show q < 4 by omega) (by omega), if_false, t0, t25, nI_add1]
    exact e
theorem x_bec1 {h0 h1 : Nat} {v : jx_V} (hf : Far h0 h1) : ∀ d q f v1, q + d = 6 → B1 h0 h1 q v v1 → ∃ v2, f_X3_become_L h0 h1 (f+d) 1 (nI q) v1 = f_X3_become_L h0 h1 f 1 6 v2 ∧ B1 h0 h1 6 v v2
  | 0, q, f, v1, hq, hb => ⟨v1, by rw [show q = 6 by omega]; rfl, by rw [← show q = 6 by omega]; exact hb⟩
  | d + 1, q, f, v1, hq, hb => by
    have hb' : B1 h0 h1 (q+1) v (jx_set v1 (h0+7+q) (va_cpy (v1 (h1+7+q)) (v1 (h0+7+q)) 0 0 10)) := by
      refine ⟨⟨fun c hc => ?_, fun r hr l hl => ?_⟩, fun r hr l hl => ?_⟩
      · rw [set_g, if_neg (by omega)]; exact hb.1.1 c hc
      · rw [set_g, if_neg (by omega)]; exact hb.1.2 r hr l hl
      · rw [set_g]
        by_cases e : h0 + 7 + r = h0 + 7 + q
        · rw [if_pos e, cpy_g, if_pos hl, show r = q by omega, hb.1.1 (h1+7+q) (by unfold Far at hf; omega)]
        · rw [if_neg e]; exact hb.2 r (by omega) l hl
    obtain ⟨v2, e, h2⟩ := x_bec1 hf d (q+1) f _ (by omega) hb'
    refine ⟨v2, ?_, h2⟩
    rw [show f + (d + 1) = (f + d) + 1 by omega, f_X3_become_L, if_neg (by decide), if_pos rfl, if_neg (by rw [show (6 : Int32) = nI 6 from rfl, pI_le (by omega) (by omega)]; omega)]
    simp only [tn (show q < 2147483648 by omega), ib (show q < 6 by omega) (by omega), if_false, t0, t10, nI_add1]
    exact e
theorem cT_eq {h0 h1 : Nat} {v v' : jx_V} (a : ∀ r, r < 4 → ∀ l, l < 25 → v' (h0+3+r) l = v (h1+3+r) l) (b : ∀ r, r < 6 → ∀ l, l < 10 → v' (h0+7+r) l = v (h1+7+r) l) (c : ∀ l, l < 4 → v' (h0+13) l = v (h1+13) l) (u : ∀ l, l < 4 → v' (h0+14) l = v (h1+14) l) (s : ∀ l, l < 10 → v' (h0+15) l = v (h1+15) l) (n : v' h0 5 = v h1 5) (m : v' h0 6 = v h1 6) (z : v' h0 7 = v h1 7) (hn : (v h1 5).toNatClampNeg ≤ 10) : cT h0 v' = cT h1 v := by
  have a0 := a 0 (by omega)
  have a1 := a 1 (by omega)
  have a2 := a 2 (by omega)
  have a3 := a 3 (by omega)
  refine Tx ?_ ?_ ?_ ?_ ?_ ?_ ?_ ?_ n m z
  · funext l; show (if l < 25 then v' (h0+3+0) l else -1) = if l < 25 then v (h1+3+0) l else -1
    by_cases hl : l < 25
    · rw [if_pos hl, if_pos hl, a0 l hl]
    · rw [if_neg hl, if_neg hl]
  · funext l; show (if l < 25 ∧ 0 ≤ v' (h0+3+0) l then v' (h0+3+1) l else 0) = if l < 25 ∧ 0 ≤ v (h1+3+0) l then v (h1+3+1) l else 0
    by_cases hl : l < 25
    · rw [a0 l hl, a1 l hl]
    · rw [if_neg (by simp [hl]), if_neg (by simp [hl])]
  · funext l; show (if l < 25 ∧ 0 ≤ v' (h0+3+0) l then v' (h0+3+2) l else 0) = if l < 25 ∧ 0 ≤ v (h1+3+0) l then v (h1+3+2) l else 0
    by_cases hl : l < 25
    · rw [a0 l hl, a2 l hl]
    · rw [if_neg (by simp [hl]), if_neg (by simp [hl])]
  · funext l; show (if l < 25 ∧ 0 ≤ v' (h0+3+0) l then v' (h0+3+3) l else 0) = if l < 25 ∧ 0 ≤ v (h1+3+0) l then v (h1+3+3) l else 0
    by_cases hl : l < 25
    · rw [a0 l hl, a3 l hl]
    · rw [if_neg (by simp [hl]), if_neg (by simp [hl])]
  · funext k i; show (if k < 6 ∧ i < (v' h0 5).toNatClampNeg then v' (h0+7+k) i else 0) = if k < 6 ∧ i < (v h1 5).toNatClampNeg then v (h1+7+k) i else 0
    rw [n]
    by_cases hl : k < 6 ∧ i < (v h1 5).toNatClampNeg
    · rw [if_pos hl, if_pos hl, b k hl.1 i (by omega)]
    · rw [if_neg hl, if_neg hl]
  · funext l; show (if l < 4 then v' (h0+13) l else 0) = if l < 4 then v (h1+13) l else 0
    by_cases hl : l < 4
    · rw [if_pos hl, if_pos hl, c l hl]
    · rw [if_neg hl, if_neg hl]
  · funext l; show (if l < 4 then v' (h0+14) l else 0) = if l < 4 then v (h1+14) l else 0
    by_cases hl : l < 4
    · rw [if_pos hl, if_pos hl, u l hl]
    · rw [if_neg hl, if_neg hl]
  · funext l; show (if l < 10 then v' (h0+15) l else 0) = if l < 10 then v (h1+15) l else 0
    by_cases hl : l < 10
    · rw [if_pos hl, if_pos hl, s l hl]
    · rw [if_neg hl, if_neg hl]
theorem x_become {h0 h1 : Nat} {v : jx_V} (hf : Far h0 h1) (hn : (v h1 5).toNatClampNeg ≤ 10) : ∃ v', f_X3_become h0 h1 v = some v' ∧ BF h0 v v' ∧ cT h0 v' = cT h1 v := by
  obtain ⟨v2, e2, b2⟩ := x_bec0 (v := v) hf 4 0 99995 v (by omega) ⟨fun _ _ => rfl, fun r hr => by omega⟩
  obtain ⟨v3, e3, b3⟩ := x_bec1 (v := v) hf 6 0 99989 v2 (by omega) ⟨b2, fun r hr => by omega⟩
  have e : f_X3_become h0 h1 v = f_X3_become_L h0 h1 (99988+1) 1 6 v3 := e2.trans e3
  rw [e, f_X3_become_L, if_neg (by decide), if_pos rfl, if_pos (by decide)]
  have f1 : ∀ c, h1 ≤ c → c ≤ h1 + 15 → v3 c = v c := fun c _ _ => b3.1.1 c (by unfold Far at hf; omega)
  unfold Far at hf
  refine ⟨_, rfl, fun c hc => ?_, ?_⟩
  · rw [jx_up_ne (by omega), jx_up_ne (by omega), jx_up_ne (by omega), set_g, if_neg (by omega), set_g, if_neg (by omega), set_g, if_neg (by omega)]
    exact b3.1.1 c hc
  · simp only [t0, t4, t10]
    refine cT_eq (fun r hr l hl => ?_) (fun r hr l hl => ?_) (fun l hl => ?_) (fun l hl => ?_) (fun l hl => ?_) ?_ ?_ ?_ hn
    · rw [jx_up_ne (by omega), jx_up_ne (by omega), jx_up_ne (by omega), set_g, if_neg (by omega), set_g, if_neg (by omega), set_g, if_neg (by omega)]
      exact b3.1.2 r hr l hl
    · rw [jx_up_ne (by omega), jx_up_ne (by omega), jx_up_ne (by omega), set_g, if_neg (by omega), set_g, if_neg (by omega), set_g, if_neg (by omega)]
      exact b3.2 r hr l hl
    · rw [jx_up_ne (by omega), jx_up_ne (by omega), jx_up_ne (by omega), set_g, if_neg (by omega), set_g, if_neg (by omega), set_g, if_pos rfl, cpy_g, if_pos hl, f1 _ (by omega) (by omega)]
    · rw [jx_up_ne (by omega), jx_up_ne (by omega), jx_up_ne (by omega), set_g, if_neg (by omega), set_g, if_pos rfl, cpy_g, if_pos hl, set_g, if_neg (by omega), f1 _ (by omega) (by omega)]
    · rw [jx_up_ne (by omega), jx_up_ne (by omega), jx_up_ne (by omega), set_g, if_pos rfl, cpy_g, if_pos hl, set_g, if_neg (by omega), set_g, if_neg (by omega), f1 _ (by omega) (by omega)]
    · rw [up_g, if_neg (by omega), up_g, if_neg (by omega), up_s, set_g, if_neg (by omega), set_g, if_neg (by omega), set_g, if_neg (by omega), f1 _ (by omega) (by omega)]
    · rw [up_g, if_neg (by omega), up_s, jx_up_ne (by omega), set_g, if_neg (by omega), set_g, if_neg (by omega), set_g, if_neg (by omega), f1 _ (by omega) (by omega)]
    · rw [up_s, jx_up_ne (by omega), jx_up_ne (by omega), set_g, if_neg (by omega), set_g, if_neg (by omega), set_g, if_neg (by omega), f1 _ (by omega) (by omega)]
theorem mT_eq {s s' : Nat → Int32} (e : ∀ k, k < 181 → s' k = s k) (hn : (s 1).toNatClampNeg ≤ 10) : mT s' = mT s := by
  have e1 := e 1 (by omega)
  refine Tx ?_ ?_ ?_ ?_ ?_ ?_ ?_ ?_ e1 (e 0 (by omega)) (e 2 (by omega))
  · funext l; show (if l < 25 then s' (11+4*l) else -1) = if l < 25 then s (11+4*l) else -1
    by_cases hl : l < 25
    · rw [if_pos hl, if_pos hl, e _ (by omega)]
    · rw [if_neg hl, if_neg hl]
  · funext l; show (if l < 25 ∧ 0 ≤ s' (11+4*l) then s' (12+4*l) else 0) = if l < 25 ∧ 0 ≤ s (11+4*l) then s (12+4*l) else 0
    by_cases hl : l < 25
    · rw [e (11+4*l) (by omega), e (12+4*l) (by omega)]
    · rw [if_neg (by simp [hl]), if_neg (by simp [hl])]
  · funext l; show (if l < 25 ∧ 0 ≤ s' (11+4*l) then s' (13+4*l) else 0) = if l < 25 ∧ 0 ≤ s (11+4*l) then s (13+4*l) else 0
    by_cases hl : l < 25
    · rw [e (11+4*l) (by omega), e (13+4*l) (by omega)]
    · rw [if_neg (by simp [hl]), if_neg (by simp [hl])]
  · funext l; show (if l < 25 ∧ 0 ≤ s' (11+4*l) then s' (14+4*l) else 0) = if l < 25 ∧ 0 ≤ s (11+4*l) then s (14+4*l) else 0
    by_cases hl : l < 25
    · rw [e (11+4*l) (by omega), e (14+4*l) (by omega)]
    · rw [if_neg (by simp [hl]), if_neg (by simp [hl])]
  · funext k i; show (if k < 6 ∧ i < (s' 1).toNatClampNeg then s' (111+6*i+k) else 0) = if k < 6 ∧ i < (s 1).toNatClampNeg then s (111+6*i+k) else 0
    rw [e1]
    by_cases hl : k < 6 ∧ i < (s 1).toNatClampNeg
    · rw [if_pos hl, if_pos hl, e _ (by omega)]
    · rw [if_neg hl, if_neg hl]
  · funext l; show (if l < 4 then s' (3+l) else 0) = if l < 4 then s (3+l) else 0
    by_cases hl : l < 4
    · rw [if_pos hl, if_pos hl, e _ (by omega)]
    · rw [if_neg hl, if_neg hl]
  · funext l; show (if l < 4 then s' (7+l) else 0) = if l < 4 then s (7+l) else 0
    by_cases hl : l < 4
    · rw [if_pos hl, if_pos hl, e _ (by omega)]
    · rw [if_neg hl, if_neg hl]
  · funext l; show (if l < 10 then s' (171+l) else 0) = if l < 10 then s (171+l) else 0
    by_cases hl : l < 10
    · rw [if_pos hl, if_pos hl, e _ (by omega)]
    · rw [if_neg hl, if_neg hl]
/-- rows a copied onto row b, to k -/
def CP (a b k : Nat) (w w1 : jx_V) : Prop := (∀ c, c ≠ b → w1 c = w c) ∧ ∀ i, i < k → w1 b i = w a i
theorem CP_s {a b k w w1} (hab : a ≠ b) (h : CP a b k w w1) : CP a b (k+1) w (jx_up w1 b k (w1 a k)) := by
  refine ⟨fun c hc => by rw [jx_up_ne hc]; exact h.1 c hc, fun i hi => ?_⟩
  rw [up_g]
  by_cases e : i = k
  · rw [if_pos ⟨rfl, e⟩, e, h.1 a hab]
  · rw [if_neg (by omega)]; exact h.2 i (by omega)
theorem m_puts {w : jx_V} : ∃ w', f_X5_puts w = some w' ∧ CP 1 3 181 w w' := by
  have : ∀ d k f w1, k + d = 181 → d < f → CP 1 3 k w w1 → ∃ w', f_X5_puts_L f (nI k) w1 = some w' ∧ CP 1 3 181 w w' := by
    intro d
    induction d with
    | zero =>
      intro k f w1 hk hf h
      obtain ⟨f, rfl⟩ : ∃ q, f = q + 1 := ⟨f - 1, by omega⟩
      refine ⟨w1, ?_, by rw [← show k = 181 by omega]; exact h⟩
      rw [f_X5_puts_L, if_pos (by rw [show (181 : Int32) = nI 181 from rfl, pI_le (by omega) (by omega)]; omega)]
    | succ d ih =>
      intro k f w1 hk hf h
      obtain ⟨f, rfl⟩ : ∃ q, f = q + 1 := ⟨f - 1, by omega⟩
      obtain ⟨w', e, h'⟩ := ih (k+1) f _ (by omega) (by omega) (CP_s (by omega) h)
      refine ⟨w', ?_, h'⟩
      rw [f_X5_puts_L, if_neg (by rw [show (181 : Int32) = nI 181 from rfl, pI_le (by omega) (by omega)]; omega)]
      simp only [tn (show k < 2147483648 by omega), ib (show k < 181 by omega) (by omega), if_false, nI_add1]
      exact e
  exact this 181 0 100000 w (by omega) (by omega) ⟨fun _ _ => rfl, fun i hi => by omega⟩
theorem m_back {w : jx_V} : ∃ w', f_X5_putsBack w = some w' ∧ CP 3 1 181 w w' := by
  have : ∀ d k f w1, k + d = 181 → d < f → CP 3 1 k w w1 → ∃ w', f_X5_putsBack_L f (nI k) w1 = some w' ∧ CP 3 1 181 w w' := by
    intro d
    induction d with
    | zero =>
      intro k f w1 hk hf h
      obtain ⟨f, rfl⟩ : ∃ q, f = q + 1 := ⟨f - 1, by omega⟩
      refine ⟨w1, ?_, by rw [← show k = 181 by omega]; exact h⟩
      rw [f_X5_putsBack_L, if_pos (by rw [show (181 : Int32) = nI 181 from rfl, pI_le (by omega) (by omega)]; omega)]
    | succ d ih =>
      intro k f w1 hk hf h
      obtain ⟨f, rfl⟩ : ∃ q, f = q + 1 := ⟨f - 1, by omega⟩
      obtain ⟨w', e, h'⟩ := ih (k+1) f _ (by omega) (by omega) (CP_s (by omega) h)
      refine ⟨w', ?_, h'⟩
      rw [f_X5_putsBack_L, if_neg (by rw [show (181 : Int32) = nI 181 from rfl, pI_le (by omega) (by omega)]; omega)]
      simp only [tn (show k < 2147483648 by omega), ib (show k < 181 by omega) (by omega), if_false, nI_add1]
      exact e
  exact this 181 0 100000 w (by omega) (by omega) ⟨fun _ _ => rfl, fun i hi => by omega⟩
theorem m_image {w : jx_V} : ∃ w', f_X5_image w = some (1, jx_up w' 0 4 1) ∧ CP 1 2 181 w w' := by
  have : ∀ d k f w1, k + d = 181 → d < f → CP 1 2 k w w1 → ∃ w', f_X5_image_L f (nI k) w1 = some (1, jx_up w' 0 4 1) ∧ CP 1 2 181 w w' := by
    intro d
    induction d with
    | zero =>
      intro k f w1 hk hf h
      obtain ⟨f, rfl⟩ : ∃ q, f = q + 1 := ⟨f - 1, by omega⟩
      refine ⟨w1, ?_, by rw [← show k = 181 by omega]; exact h⟩
      rw [f_X5_image_L, if_pos (by rw [show (181 : Int32) = nI 181 from rfl, pI_le (by omega) (by omega)]; omega)]
    | succ d ih =>
      intro k f w1 hk hf h
      obtain ⟨f, rfl⟩ : ∃ q, f = q + 1 := ⟨f - 1, by omega⟩
      obtain ⟨w', e, h'⟩ := ih (k+1) f _ (by omega) (by omega) (CP_s (by omega) h)
      refine ⟨w', ?_, h'⟩
      rw [f_X5_image_L, if_neg (by rw [show (181 : Int32) = nI 181 from rfl, pI_le (by omega) (by omega)]; omega)]
      simp only [tn (show k < 2147483648 by omega), ib (show k < 181 by omega) (by omega), if_false, nI_add1]
      exact e
  exact this 181 0 100000 w (by omega) (by omega) ⟨fun _ _ => rfl, fun i hi => by omega⟩
theorem m_undo {F : Nat} {w : jx_V} (hF : 181 < F) : ∃ w', f_X5_undo_L F 0 w = some (w' 1 0, w') ∧ CP 2 1 181 w w' := by
  have : ∀ d k f w1, k + d = 181 → d < f → CP 2 1 k w w1 → ∃ w', f_X5_undo_L f (nI k) w1 = some (w' 1 0, w') ∧ CP 2 1 181 w w' := by
    intro d
    induction d with
    | zero =>
      intro k f w1 hk hf h
      obtain ⟨f, rfl⟩ : ∃ q, f = q + 1 := ⟨f - 1, by omega⟩
      refine ⟨w1, ?_, by rw [← show k = 181 by omega]; exact h⟩
      rw [f_X5_undo_L, if_pos (by rw [show (181 : Int32) = nI 181 from rfl, pI_le (by omega) (by omega)]; omega)]
    | succ d ih =>
      intro k f w1 hk hf h
      obtain ⟨f, rfl⟩ : ∃ q, f = q + 1 := ⟨f - 1, by omega⟩
      obtain ⟨w', e, h'⟩ := ih (k+1) f _ (by omega) (by omega) (CP_s (by omega) h)
      refine ⟨w', ?_, h'⟩
      rw [f_X5_undo_L, if_neg (by rw [show (181 : Int32) = nI 181 from rfl, pI_le (by omega) (by omega)]; omega)]
      simp only [tn (show k < 2147483648 by omega), ib (show k < 181 by omega) (by omega), if_false, nI_add1]
      exact e
  exact this 181 0 F w (by omega) (by omega) ⟨fun _ _ => rfl, fun i hi => by omega⟩
theorem q_image {v w} (h : R v w) : Q (f_X4_image v) (f_X5_image w) := by
  obtain ⟨N, hN, eN, eN2⟩ := cn h.ok
  obtain ⟨M, hM, eM, eM2⟩ := mn h.ok'
  obtain ⟨v', e1, b, et⟩ := x_become (v := v) (h0 := 17) (h1 := 1) (Or.inr (by omega)) (by omega)
  obtain ⟨w', e2, c⟩ := m_image (w := w)
  unfold f_X4_image
  rw [e1, e2]
  simp only [Option.bind_some]
  refine Q_i (R.mk ?_ ?_ ?_ ?_ ?_ ?_ ?_ ?_ ?_)
  · rw [cT_congr (v := v) (fun q _ _ => by rw [jx_up_ne (by omega), b q (by omega)]), jx_up_ne (by omega), c.1 1 (by omega)]; exact h.t
  · rw [cT_congr (v := v) (fun q _ _ => by rw [jx_up_ne (by omega), b q (by omega)])]; exact h.ok
  · rw [up_s, up_s]
  · exact Or.inr up_s
  · intro _
    rw [cT_congr (v := v') (fun q _ _ => by rw [jx_up_ne (by omega)]), jx_up_ne (by omega), et]
    refine ⟨?_, h.ok⟩
    rw [h.t]
    exact (mT_eq (fun k hk => c.2 k hk) (by omega)).symm
  · rw [jx_up_ne (by omega), b 53 (by omega), up_g, if_neg (by omega), c.1 0 (by omega)]; exact h.tl
  · rw [jx_up_ne (by omega), b 53 (by omega)]; exact h.tr
  · rw [jx_up_ne (by omega), b 54 (by omega), jx_up_ne (by omega), c.1 8 (by omega)]; exact h.tb
  · intro s hs
    rw [jx_up_ne (show 61 ≠ 0 by omega), jx_up_ne (show 62 ≠ 0 by omega), jx_up_ne (show 57 + s ≠ 0 by omega), jx_up_ne (show 9 ≠ 0 by omega), jx_up_ne (show 10 ≠ 0 by omega), jx_up_ne (show 11 ≠ 0 by omega), b 61 (by omega), b 62 (by omega), b (57+s) (by omega), c.1 9 (by omega), c.1 10 (by omega), c.1 11 (by omega)]
    exact h.s s hs
theorem q_undo {v w} (h : R v w) : Q (f_X4_undo v) (f_X5_undo w) := by
  unfold f_X4_undo f_X5_undo
  rw [← h.k]
  rcases h.kb with k0 | k1
  · rw [if_pos k0, if_pos k0]
    simp only [x_f3, m_f3, Option.bind_some]; exact Q_f h
  · rw [if_neg (by rw [k1]; decide), if_neg (by rw [k1]; decide)]
    obtain ⟨ek, ok⟩ := h.kt k1
    obtain ⟨N, hN, eN, eN2⟩ := cn ok
    obtain ⟨v', e1, b, et⟩ := x_become (v := v) (h0 := 1) (h1 := 17) (Or.inl (by omega)) (by omega)
    obtain ⟨w', e2, c⟩ := m_undo (F := 100000) (w := w) (by omega)
    have eM : (w 2 1).toNatClampNeg ≤ 10 := by
      have : v 17 5 = w 2 1 := congrArg Tn.n ek
      rw [← this]; omega
    have em : mT (w' 1) = cT 17 v := by rw [ek]; exact mT_eq (fun k hk => c.2 k hk) eM
    rw [e1, e2]
    simp only [Option.bind_some]
    rw [show v' 1 6 = w' 1 0 from (congrArg Tn.m et).trans (congrArg Tn.m em).symm]
    exact Q_i (R_town h (T := cT 17 v) (fun q hq => b q (by omega)) (by rw [b 53 (by omega)]) (fun q hq => c.1 q (by omega)) (by rw [c.1 0 (by omega)]) (by rw [c.1 0 (by omega)]) et em ok)
def grow (T : Tn) : Tn := (T.K, T.O, fun l => if l < 25 ∧ 0 ≤ T.K l then cap (T.H l + gr T l) else 0, T.P, T.W, T.C, T.U, T.S, T.n, T.m + 1, T.z)
theorem gr_r (T : Tn) (l : Nat) : gr T l = 0 ∨ gr T l = 1 := by
  unfold gr; (repeat' split) <;> first | exact Or.inl rfl | exact Or.inr rfl
theorem OK_grow {T} (hT : OK T) : OK (grow T) := by
  refine OK.mk hT.k hT.o (fun l => ?_) hT.p hT.w0 hT.w1 hT.w2 hT.w3 hT.w4 hT.n hT.s
  show ∃ q, q < 10 ∧ (if l < 25 ∧ 0 ≤ T.K l then cap (T.H l + gr T l) else 0) = nI q
  split
  · obtain ⟨j, hj, e⟩ := hT.h l
    rw [e]
    rcases gr_r T l with g | g
    · rw [g]; exact su_cap j hj 0 (by omega)
    · rw [g]; exact su_cap j hj 1 (by omega)
  · exact ⟨0, by omega, rfl⟩
theorem OK_paid {T} (hT : OK T) : OK (paid T) := OK.mk hT.k hT.o hT.h hT.p hT.w0 hT.w1 hT.w2 hT.w3 hT.w4 hT.n hT.s
def mon (T : Tn) : Tn := grow (paid T)
theorem OK_mon {T} (hT : OK T) : OK (mon T) := OK_grow (OK_paid hT)
theorem j_min9 {x v} : f_J9_min_7cf53 9 x v = some (cap x, v) := j_min
def HF (h : Nat) (v v' : jx_V) : Prop := ∀ c, (c < 50 ∨ 53 ≤ c) → (c < h ∨ h + 15 < c) → v' c = v c
theorem HF_r {h v} : HF h v v := fun _ _ _ => rfl
theorem HF_t {h u v w} (a : HF h u v) (b : HF h v w) : HF h u w := fun c x y => (b c x y).trans (a c x y)
theorem G_HF {h v v'} (g : G v v') : HF h v v' := fun c x _ => g c x
theorem x_grow {h : Nat} {v : jx_V} : ∃ v', f_X3_growAll h v = some v' ∧ (∀ c, c ≠ h → c ≠ h + 5 → v' c = v c) ∧ cT h v' = grow (cT h v) := by
  have : ∀ d l f v1, l + d = 25 → d < f → (∀ c, c ≠ h + 5 → v1 c = v c) → (∀ q, q < 25 → v1 (h+5) q = if q < l ∧ 0 ≤ v (h+3) q then cap (v (h+5) q + gr (cT h v) q) else v (h+5) q) →
      ∃ v2, f_X3_growAll_L h f (nI l) v1 = some (jx_up v2 h 6 (v2 h 6 + 1)) ∧ (∀ c, c ≠ h + 5 → v2 c = v c) ∧ (∀ q, q < 25 → v2 (h+5) q = if 0 ≤ v (h+3) q then cap (v (h+5) q + gr (cT h v) q) else v (h+5) q) := by
    intro d
    induction d with
    | zero =>
      intro l f v1 hl hf h1 h2
      obtain ⟨f, rfl⟩ : ∃ q, f = q + 1 := ⟨f - 1, by omega⟩
      refine ⟨v1, ?_, h1, fun q hq => ?_⟩
      · rw [f_X3_growAll_L, if_pos (by rw [show (25 : Int32) = nI 25 from rfl, pI_le (by omega) (by omega)]; omega)]
      · rw [h2 q hq]; simp only [show q < l by omega, true_and]
    | succ d ih =>
      intro l f v1 hl hf h1 h2
      obtain ⟨f, rfl⟩ : ∃ q, f = q + 1 := ⟨f - 1, by omega⟩
      have hl' : l < 25 := by omega
      rw [f_X3_growAll_L, if_neg (by rw [show (25 : Int32) = nI 25 from rfl, pI_le (by omega) (by omega)]; omega), x_taken hl', Option.bind_some, h1 (h+3) (by omega)]
      have eg : gr (cT h v1) l = gr (cT h v) l := by
        unfold gr
        rw [cK hl', cK hl', h1 (h+3) (by omega), show (cT h v1).m = v1 h 6 from rfl, show (cT h v).m = v h 6 from rfl, h1 h (by omega)]
      by_cases c : v (h+3) l < 0
      · simp only [if_pos c, z00, if_true, nI_add1]
        refine ih (l+1) f v1 (by omega) (by omega) h1 (fun q hq => ?_)
        rw [h2 q hq]
        by_cases e : q = l
        · subst e; simp [Int32.not_le.mpr c]
        · simp only [show (q < l + 1) = (q < l) by simp; omega]
      · simp only [if_neg c, o10, if_false, x_growth hl', Option.bind_some, j_min9, tn (show l < 2147483648 by omega), ib hl' (by omega), nI_add1, eg]
        refine ih (l+1) f _ (by omega) (by omega) (fun q hq => by rw [jx_up_ne hq]; exact h1 q hq) (fun q hq => ?_)
        rw [up_g]
        by_cases e : q = l
        · subst e
          rw [if_pos ⟨rfl, rfl⟩, if_pos ⟨by omega, Int32.not_lt.mp c⟩, h2 q hq, if_neg (by omega)]
        · rw [if_neg (by omega), h2 q hq]
          simp only [show (q < l + 1) = (q < l) by simp; omega]
  obtain ⟨v2, e, h1, h2⟩ := this 25 0 100000 v (by omega) (by omega) (fun _ _ => rfl) (fun q _ => by rw [if_neg (by omega)])
  refine ⟨_, e, fun c hc hc5 => by rw [jx_up_ne hc]; exact h1 c hc5, ?_⟩
  have eK : (jx_up v2 h 6 (v2 h 6 + 1)) (h+3) = v (h+3) := by rw [jx_up_ne (by omega), h1 _ (by omega)]
  have eo : ∀ c, c ≠ h → c ≠ h + 5 → (jx_up v2 h 6 (v2 h 6 + 1)) c = v c := fun c a b => by rw [jx_up_ne a, h1 c b]
  have en : (jx_up v2 h 6 (v2 h 6 + 1)) h 5 = v h 5 := by rw [up_g, if_neg (by omega), h1 h (by omega)]
  refine Tx ?_ ?_ ?_ ?_ ?_ ?_ ?_ ?_ en ?_ ?_
  · funext l; show (if l < 25 then _ else _) = (if l < 25 then v (h+3) l else -1); rw [eK]
  · funext l; show (if l < 25 ∧ 0 ≤ _ then _ else _) = (if l < 25 ∧ 0 ≤ v (h+3) l then v (h+4) l else 0); rw [eK, eo (h+4) (by omega) (by omega)]
  · funext l
    show (if l < 25 ∧ 0 ≤ _ then _ else _) = (if l < 25 ∧ 0 ≤ (cT h v).K l then cap ((cT h v).H l + gr (cT h v) l) else 0)
    rw [eK]
    by_cases hl : l < 25
    · rw [cK hl]
      by_cases ht : 0 ≤ v (h+3) l
      · rw [if_pos ⟨hl, ht⟩, if_pos ⟨hl, ht⟩, jx_up_ne (by omega), h2 l hl, if_pos ht, cH hl ht]
      · simp [ht]
    · simp [hl]
  · funext l; show (if l < 25 ∧ 0 ≤ _ then _ else _) = (if l < 25 ∧ 0 ≤ v (h+3) l then v (h+6) l else 0); rw [eK, eo (h+6) (by omega) (by omega)]
  · funext a i; show (if a < 6 ∧ i < ((jx_up v2 h 6 (v2 h 6 + 1)) h 5).toNatClampNeg then _ else _) = (if a < 6 ∧ i < (v h 5).toNatClampNeg then v (h+7+a) i else 0); rw [en, eo (h+7+a) (by omega) (by omega)]
  · funext l; show (if l < 4 then _ else _) = (if l < 4 then v (h+13) l else 0); rw [eo (h+13) (by omega) (by omega)]
  · funext l; show (if l < 4 then _ else _) = (if l < 4 then v (h+14) l else 0); rw [eo (h+14) (by omega) (by omega)]
  · funext l; show (if l < 10 then _ else _) = (if l < 10 then v (h+15) l else 0); rw [eo (h+15) (by omega) (by omega)]
  · show (jx_up v2 h 6 (v2 h 6 + 1)) h 6 = v h 6 + 1; rw [up_s, h1 h (by omega)]
  · show (jx_up v2 h 6 (v2 h 6 + 1)) h 7 = v h 7; rw [up_g, if_neg (by omega), h1 h (by omega)]
theorem grow_HF {h v v'} (e : ∀ c, c ≠ h → c ≠ h + 5 → v' c = v c) : HF h v v' := fun c _ b => e c (by omega) (by omega)
/-- frame of a month of the reference -/
def FY (w w' : jx_V) : Prop := (∀ c, c ≠ 0 → c ≠ 1 → c ≠ 5 → c ≠ 6 → w' c = w c) ∧ ∀ i, i ≠ 6 → i ≠ 7 → i ≠ 8 → w' 0 i = w 0 i
theorem FY_r {w} : FY w w := ⟨fun _ _ _ _ _ => rfl, fun _ _ _ _ => rfl⟩
theorem FY_t {u v w} (a : FY u v) (b : FY v w) : FY u w := ⟨fun c x y z t => (b.1 c x y z t).trans (a.1 c x y z t), fun c x y z => (b.2 c x y z).trans (a.2 c x y z)⟩
theorem FM_FY {w w'} (a : FM w w') : FY w w' := ⟨fun c x _ z t => a.1 c x z t, a.2⟩
theorem up_FY {w i x} : FY w (jx_up w 1 i x) := ⟨fun c _ b _ _ => jx_up_ne b, fun i _ _ _ => by rw [jx_up_ne (by omega)]⟩
theorem s7_n {q : Nat} : 7 + nI q = nI (7 + q) := by unfold nI; simp [Int32.ofNat_add]
theorem m_mon0 {r : Int32} {w : jx_V} : ∀ d o f w1, o + d = 4 → (∀ c, c ≠ 1 → w1 c = w c) → (∀ k, w1 1 k = if 7 ≤ k ∧ k < 7 + o then w 1 k + w 6 (k - 7) else w 1 k) →
    ∃ w2, f_X5_month_L (f + d + 1) 0 r (nI o) w1 = f_X5_month_L f 1 r 0 w2 ∧ (∀ c, c ≠ 1 → w2 c = w c) ∧ ∀ k, w2 1 k = if 7 ≤ k ∧ k < 11 then w 1 k + w 6 (k - 7) else w 1 k
  | 0, o, f, w1, ho, h1, h2 => by
    refine ⟨w1, ?_, h1, by rw [show 11 = 7 + o by omega]; exact h2⟩
    rw [f_X5_month_L, if_pos rfl, if_pos (by rw [← n4, pI_le (by omega) (by omega)]; omega)]
  | d + 1, o, f, w1, ho, h1, h2 => by
    obtain ⟨w2, e, g1, g2⟩ := m_mon0 (r := r) (w := w) d (o+1) f (jx_up w1 1 (7+o) (w1 1 (7+o) + w1 6 o)) (by omega) (fun c hc => by rw [jx_up_ne hc]; exact h1 c hc) (fun k => by
      rw [up_g]
      by_cases e : k = 7 + o
      · subst e
        rw [if_pos ⟨rfl, rfl⟩, if_pos (by omega), h2, if_neg (by omega), h1 6 (by omega), show 7 + o - 7 = o by omega]
      · rw [if_neg (by omega), h2 k]
        by_cases c : 7 ≤ k ∧ k < 7 + o
        · rw [if_pos c, if_pos (by omega)]
        · rw [if_neg c, if_neg (by omega)])
    refine ⟨w2, ?_, g1, g2⟩
    rw [show f + (d + 1) + 1 = (f + d + 1) + 1 by omega, f_X5_month_L, if_pos rfl, if_neg (by rw [← n4, pI_le (by omega) (by omega)]; omega)]
    simp only [s7_n, tn (show o < 2147483648 by omega), tn (show 7 + o < 2147483648 by omega), ib (show o < 4 by omega) (by omega), ib (show 7 + o < 181 by omega) (by omega), if_false, nI_add1]
    exact e
theorem m_mon1 {r : Int32} {w : jx_V} : ∀ d l f w1, l + d = 25 → d < f → (∀ c, c ≠ 1 → w1 c = w c) → (∀ k, (∀ q, q < 25 → k ≠ 13 + 4 * q) → w1 1 k = w 1 k) → (∀ q, q < 25 → 0 ≤ w 1 (11 + 4 * q) → w1 1 (13 + 4 * q) = if q < l then cap (w 1 (13 + 4 * q) + gr (mT (w 1)) q) else w 1 (13 + 4 * q)) →
    ∃ w2, f_X5_month_L f 1 r (nI l) w1 = some (r, jx_up w2 1 0 (w 1 0 + 1)) ∧ (∀ c, c ≠ 1 → w2 c = w c) ∧ (∀ k, (∀ q, q < 25 → k ≠ 13 + 4 * q) → w2 1 k = w 1 k) ∧ (∀ q, q < 25 → 0 ≤ w 1 (11 + 4 * q) → w2 1 (13 + 4 * q) = cap (w 1 (13 + 4 * q) + gr (mT (w 1)) q)) := by
  intro d
  induction d with
  | zero =>
    intro l f w1 hl hf h1 h2 h3
    obtain ⟨f, rfl⟩ : ∃ q, f = q + 1 := ⟨f - 1, by omega⟩
    refine ⟨w1, ?_, h1, h2, fun q hq ht => ?_⟩
    · rw [f_X5_month_L, if_neg (by decide), if_pos rfl, if_pos (by rw [show (25 : Int32) = nI 25 from rfl, pI_le (by omega) (by omega)]; omega), h2 0 (fun q _ => by omega)]
    · rw [h3 q hq ht, if_pos (by omega)]
  | succ d ih =>
    intro l f w1 hl hf h1 h2 h3
    obtain ⟨f, rfl⟩ : ∃ q, f = q + 1 := ⟨f - 1, by omega⟩
    have hl' : l < 25 := by omega
    have e11 : w1 1 (11 + 4 * l) = w 1 (11 + 4 * l) := h2 _ (fun q _ => by omega)
    have eg : gr (mT (w1 1)) l = gr (mT (w 1)) l := by
      unfold gr
      rw [mK hl', mK hl', e11, show (mT (w1 1)).m = w1 1 0 from rfl, show (mT (w 1)).m = w 1 0 from rfl, h2 0 (fun q _ => by omega)]
    rw [f_X5_month_L, if_neg (by decide), if_pos rfl, if_neg (by rw [show (25 : Int32) = nI 25 from rfl, pI_le (by omega) (by omega)]; omega)]
    simp only [m_its2 hl', m_thing hl', Option.bind_some, e11, f_X5_at, at2, tn (show 13 + 4 * l < 2147483648 by omega), ib (show 13 + 4 * l < 181 by omega) (by omega), if_false, nI_add1, m_grows hl', eg]
    have st : ∀ x, (0 ≤ w 1 (11 + 4 * l) → x = cap (w 1 (13 + 4 * l) + gr (mT (w 1)) l)) → ∃ w2, f_X5_month_L f 1 r (nI (l+1)) (jx_up w1 1 (13 + 4 * l) x) = some (r, jx_up w2 1 0 (w 1 0 + 1)) ∧ (∀ c, c ≠ 1 → w2 c = w c) ∧ (∀ k, (∀ q, q < 25 → k ≠ 13 + 4 * q) → w2 1 k = w 1 k) ∧ (∀ q, q < 25 → 0 ≤ w 1 (11 + 4 * q) → w2 1 (13 + 4 * q) = cap (w 1 (13 + 4 * q) + gr (mT (w 1)) q)) := by
      intro x hx
      refine ih (l+1) f _ (by omega) (by omega) (fun c hc => by rw [jx_up_ne hc]; exact h1 c hc) (fun k hk => by rw [up_g, if_neg (by have := hk l hl'; omega)]; exact h2 k hk) (fun q hq ht => ?_)
      rw [up_g]
      by_cases e : q = l
      · subst e; rw [if_pos ⟨rfl, rfl⟩, if_pos (by omega)]; exact hx ht
      · rw [if_neg (by omega), h3 q hq ht]; simp only [show (q < l + 1) = (q < l) by simp; omega]
    by_cases c : w 1 (11 + 4 * l) < 0
    · simp only [if_pos c, z00, if_true]
      split <;> exact st _ (fun q => absurd q (Int32.not_le.mpr c))
    · have ht : 0 ≤ w 1 (11 + 4 * l) := Int32.not_lt.mp c
      have e13 : w1 1 (13 + 4 * l) = w 1 (13 + 4 * l) := by rw [h3 l hl' ht, if_neg (by omega)]
      simp only [if_neg c, o10, if_false, e13]
      split
      · rename_i c9; exact st _ (fun _ => by unfold cap; rw [if_pos c9])
      · rename_i c9; exact st _ (fun _ => by unfold cap; rw [if_neg c9])
theorem m_month {w : jx_V} (hT : OK (mT (w 1))) : ∃ w', f_X5_month w = some (rs (mT (w 1)), w') ∧ FY w w' ∧ mT (w' 1) = mon (mT (w 1)) := by
  obtain ⟨N, hN, eN, eN2⟩ := mn hT
  obtain ⟨w1, e1, g1, hg⟩ := m_gains hT
  obtain ⟨w2, e2, a2, b2⟩ := m_mon0 (r := rs (mT (w 1))) (w := w1) 4 0 99995 w1 (by omega) (fun _ _ => rfl) (fun k => by rw [if_neg (by omega)])
  obtain ⟨w3, e3, a3, b3, c3⟩ := m_mon1 (r := rs (mT (w 1))) (w := w2) 25 0 99995 w2 (by omega) (by omega) (fun _ _ => rfl) (fun _ _ => rfl) (fun q _ _ => by rw [if_neg (by omega)])
  have er : w1 1 = w 1 := FM_1 g1
  have b2' : ∀ k, w2 1 k = if 7 ≤ k ∧ k < 11 then w 1 k + gs (mT (w 1)) (k - 7) else w 1 k := by
    intro k
    rw [b2 k, er]
    by_cases c : 7 ≤ k ∧ k < 11
    · rw [if_pos c, if_pos c, hg (k-7) (by omega)]
    · rw [if_neg c, if_neg c]
  refine ⟨jx_up w3 1 0 (w2 1 0 + 1), ?_, ?_, ?_⟩
  · unfold f_X5_month
    rw [e1, Option.bind_some]
    exact e2.trans e3
  · refine FY_t (FM_FY g1) (FY_t ?_ up_FY)
    exact ⟨fun c _ b _ _ => (a3 c b).trans (a2 c b), fun i _ _ _ => by rw [a3 0 (by omega), a2 0 (by omega)]⟩
  · rw [up_c]
    have eK : ∀ l, l < 25 → w2 1 (11 + 4 * l) = w 1 (11 + 4 * l) := fun l hl => by rw [b2', if_neg (by omega)]
    have k3 : ∀ k, k ≠ 0 → (∀ q, q < 25 → k ≠ 13 + 4 * q) → ¬ (7 ≤ k ∧ k < 11) → upd (w3 1) 0 (w2 1 0 + 1) k = w 1 k := fun k h0 h1 h2 => by
      unfold upd; rw [if_neg h0, b3 k h1, b2', if_neg h2]
    have e1' : upd (w3 1) 0 (w2 1 0 + 1) 1 = w 1 1 := k3 1 (by omega) (fun q _ => by omega) (by omega)
    have em2 : (mT (w2 1)).m = (mT (w 1)).m := by show w2 1 0 = w 1 0; rw [b2', if_neg (by omega)]
    refine Tx ?_ ?_ ?_ ?_ ?_ ?_ ?_ ?_ e1' ?_ ?_
    · funext l; show (if l < 25 then _ else _) = (if l < 25 then w 1 (11+4*l) else -1)
      by_cases hl : l < 25
      · rw [if_pos hl, if_pos hl, k3 _ (by omega) (fun q _ => by omega) (by omega)]
      · rw [if_neg hl, if_neg hl]
    · funext l; show (if l < 25 ∧ 0 ≤ upd (w3 1) 0 (w2 1 0 + 1) (11+4*l) then _ else _) = (if l < 25 ∧ 0 ≤ w 1 (11+4*l) then w 1 (12+4*l) else 0)
      rw [k3 (11+4*l) (by omega) (fun q _ => by omega) (by omega), k3 (12+4*l) (by omega) (fun q _ => by omega) (by omega)]
    · funext l
      show (if l < 25 ∧ 0 ≤ upd (w3 1) 0 (w2 1 0 + 1) (11+4*l) then _ else _) = (if l < 25 ∧ 0 ≤ (mT (w 1)).K l then cap ((mT (w 1)).H l + gr (paid (mT (w 1))) l) else 0)
      rw [k3 (11+4*l) (by omega) (fun q _ => by omega) (by omega)]
      by_cases hl : l < 25
      · rw [mK hl]
        by_cases ht : 0 ≤ w 1 (11+4*l)
        · rw [if_pos ⟨hl, ht⟩, if_pos ⟨hl, ht⟩, mH hl ht]
          unfold upd
          rw [if_neg (by omega), c3 l hl (by rw [eK l hl]; exact ht), b2' (13+4*l), if_neg (by omega)]
          have : gr (mT (w2 1)) l = gr (paid (mT (w 1))) l := by
            unfold gr
            rw [em2, mK hl, eK l hl, show (paid (mT (w 1))).K l = (mT (w 1)).K l from rfl, mK hl]; rfl
          rw [this]
        · simp [ht]
      · simp [hl]
    · funext l; show (if l < 25 ∧ 0 ≤ upd (w3 1) 0 (w2 1 0 + 1) (11+4*l) then _ else _) = (if l < 25 ∧ 0 ≤ w 1 (11+4*l) then w 1 (14+4*l) else 0)
      rw [k3 (11+4*l) (by omega) (fun q _ => by omega) (by omega), k3 (14+4*l) (by omega) (fun q _ => by omega) (by omega)]
    · funext a i
      show (if a < 6 ∧ i < (upd (w3 1) 0 (w2 1 0 + 1) 1).toNatClampNeg then _ else _) = (if a < 6 ∧ i < (w 1 1).toNatClampNeg then w 1 (111+6*i+a) else 0)
      rw [e1', k3 (111+6*i+a) (by omega) (fun q _ => by omega) (by omega)]
    · funext l; show (if l < 4 then _ else _) = (if l < 4 then w 1 (3+l) else 0)
      by_cases hl : l < 4
      · rw [if_pos hl, if_pos hl, k3 _ (by omega) (fun q _ => by omega) (by omega)]
      · rw [if_neg hl, if_neg hl]
    · funext l
      show (if l < 4 then upd (w3 1) 0 (w2 1 0 + 1) (7 + l) else _) = (if l < 4 then (if l < 4 then w 1 (7+l) else 0) + gs (mT (w 1)) l else 0)
      by_cases hl : l < 4
      · rw [if_pos hl, if_pos hl, if_pos hl]
        unfold upd
        rw [if_neg (by omega), b3 _ (fun q _ => by omega), b2', if_pos (by omega), show 7 + l - 7 = l by omega]
      · rw [if_neg hl, if_neg hl]
    · funext l; show (if l < 10 then _ else _) = (if l < 10 then w 1 (171+l) else 0)
      rw [k3 (171+l) (by omega) (fun q _ => by omega) (by omega)]
    · show upd (w3 1) 0 (w2 1 0 + 1) 0 = w 1 0 + 1
      unfold upd; rw [if_pos rfl, b2' 0, if_neg (by omega)]
    · show upd (w3 1) 0 (w2 1 0 + 1) 2 = w 1 2
      exact k3 2 (by omega) (fun q _ => by omega) (by omega)

def mit (T : Tn) : Nat → Tn
  | 0 => T
  | k + 1 => mon (mit T k)
def mss (T : Tn) : Nat → Int32
  | 0 => 0
  | k + 1 => mss T k + rs (mit T k)
def git (T : Tn) : Nat → Tn
  | 0 => T
  | k + 1 => grow (git T k)
theorem OK_mit {T} (hT : OK T) : ∀ k, OK (mit T k)
  | 0 => hT
  | k + 1 => OK_mon (OK_mit hT k)
theorem OK_git {T} (hT : OK T) : ∀ k, OK (git T k)
  | 0 => hT
  | k + 1 => OK_grow (OK_git hT k)
theorem x_pass {h n : Nat} {v : jx_V} (hh : h + 15 < 50) (hn : n ≤ 1000) (hT : OK (cT h v)) : ∃ v', f_X4_passMonths h (nI n) v = some (mss (cT h v) n, v') ∧ HF h v v' ∧ cT h v' = mit (cT h v) n := by
  have : ∀ d k f v1, k + d = n → d < f → HF h v v1 → cT h v1 = mit (cT h v) k → ∃ v', f_X4_passMonths_L h f (nI n) (mss (cT h v) k) (nI k) v1 = some (mss (cT h v) n, v') ∧ HF h v v' ∧ cT h v' = mit (cT h v) n := by
    intro d
    induction d with
    | zero =>
      intro k f v1 hk hf h1 h2
      obtain ⟨f, rfl⟩ : ∃ q, f = q + 1 := ⟨f - 1, by omega⟩
      refine ⟨v1, ?_, h1, by rw [← show k = n by omega]; exact h2⟩
      rw [f_X4_passMonths_L, if_pos (by rw [pI_le (by omega) (by omega)]; omega), show k = n by omega]
    | succ d ih =>
      intro k f v1 hk hf h1 h2
      obtain ⟨f, rfl⟩ : ∃ q, f = q + 1 := ⟨f - 1, by omega⟩
      obtain ⟨v2, e2, g2, t2⟩ := x_payAll (v := v1) hh (by rw [h2]; exact OK_mit hT k)
      obtain ⟨v3, e3, g3, t3⟩ := x_grow (h := h) (v := v2)
      obtain ⟨v', e', h', t'⟩ := ih (k+1) f v3 (by omega) (by omega) (HF_t h1 (HF_t (fun c a b => g2 c a (by omega)) (grow_HF g3))) (by rw [t3, t2, h2]; rfl)
      refine ⟨v', ?_, h', t'⟩
      rw [f_X4_passMonths_L, if_neg (by rw [pI_le (by omega) (by omega)]; omega), e2]
      simp only [Option.bind_some, e3, nI_add1]
      rw [h2]
      exact e'
  exact this n 0 100000 v (by omega) (by omega) HF_r rfl
theorem m_pass {n : Nat} {w : jx_V} (hn : n ≤ 1000) (hT : OK (mT (w 1))) : ∃ w', f_X5_monthsGo (nI n) w = some (mss (mT (w 1)) n, w') ∧ FY w w' ∧ mT (w' 1) = mit (mT (w 1)) n := by
  have : ∀ d k f w1, k + d = n → d < f → FY w w1 → mT (w1 1) = mit (mT (w 1)) k → ∃ w', f_X5_monthsGo_L f (nI n) (mss (mT (w 1)) k) (nI k) w1 = some (mss (mT (w 1)) n, w') ∧ FY w w' ∧ mT (w' 1) = mit (mT (w 1)) n := by
    intro d
    induction d with
    | zero =>
      intro k f v1 hk hf h1 h2
      obtain ⟨f, rfl⟩ : ∃ q, f = q + 1 := ⟨f - 1, by omega⟩
      refine ⟨v1, ?_, h1, by rw [← show k = n by omega]; exact h2⟩
      rw [f_X5_monthsGo_L, if_pos (by rw [pI_le (by omega) (by omega)]; omega), show k = n by omega]
    | succ d ih =>
      intro k f v1 hk hf h1 h2
      obtain ⟨f, rfl⟩ : ∃ q, f = q + 1 := ⟨f - 1, by omega⟩
      obtain ⟨v2, e2, g2, t2⟩ := m_month (w := v1) (by rw [h2]; exact OK_mit hT k)
      obtain ⟨v', e', h', t'⟩ := ih (k+1) f v2 (by omega) (by omega) (FY_t h1 g2) (by rw [t2, h2]; rfl)
      refine ⟨v', ?_, h', t'⟩
      rw [f_X5_monthsGo_L, if_neg (by rw [pI_le (by omega) (by omega)]; omega), e2]
      simp only [Option.bind_some, nI_add1]
      rw [h2]
      exact e'
  exact this n 0 100000 w (by omega) (by omega) FY_r rfl
theorem R_HF {v w v' w' T} (h : R v w) (a : HF 1 v v') (b : FY w w') (e1 : cT 1 v' = T) (e2 : mT (w' 1) = T) (hT : OK T) : R v' w' :=
  R_town h (fun c hc => a c (by omega) (by omega)) (by rw [a 53 (by omega) (by omega)]) (fun c hc => b.1 c (by omega) (by omega) (by omega) (by omega)) (b.2 4 (by omega) (by omega) (by omega)) (b.2 12 (by omega) (by omega) (by omega)) e1 e2 hT
theorem q_months {v w a} (h : R v w) : Q (f_X4_months a v) (f_X5_months a w) := by
  unfold f_X4_months f_X5_months f_X5_isTooLate
  simp only [m_in_1_60, Option.bind_some, x_f0, m_f0, x_f4, m_f4]
  by_cases c1 : 1 ≤ a ∧ a ≤ 60
  · obtain ⟨n, hn, rfl⟩ := ix (n := 60) rfl (by omega) ⟨by grind, c1.2⟩
    rw [if_neg (by grind), if_pos c1.2]
    simp only [if_pos c1, o10, if_false, tkm h]
    by_cases c2 : w 1 0 + nI n ≤ 999
    · simp only [if_pos c2, z00, if_true, Option.bind_some]
      obtain ⟨v', e1, g1, t1⟩ := x_pass (h := 1) (n := n) (by omega) (by omega) h.ok
      obtain ⟨w', e2, g2, t2⟩ := m_pass (n := n) (by omega) h.ok'
      simp only [e1, e2, Option.bind_some]
      rw [h.t]
      exact Q_i (R_HF h g1 g2 t1 (by rw [t2, h.t]) (OK_mit h.ok n))
    · simp only [if_neg c2, o10, if_false, Option.bind_some]; exact Q_f h
  · simp only [if_neg c1, z00, if_true]
    by_cases c3 : a < 1
    · rw [if_pos c3]; exact Q_f h
    · rw [if_neg c3, if_neg (by grind)]; exact Q_f h
