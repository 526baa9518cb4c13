def tcs (T : Tn) : Nat → Int32
  | 0 => 0
  | l + 1 => if T.K l < 0 then tcs T l else tcs T l + 1
theorem x_cnt {h : Nat} {v : jx_V} : f_X3_thingCount h v = some (tcs (cT h v) 25, v) := by
  have : ∀ d l f, l + d = 25 → d < f → f_X3_thingCount_L h f (tcs (cT h v) l) (nI l) v = some (tcs (cT h v) 25, v) := by
    intro d
    induction d with
    | zero =>
      intro l f hl hf
      obtain ⟨f, rfl⟩ : ∃ q, f = q + 1 := ⟨f - 1, by omega⟩
      rw [f_X3_thingCount_L, if_pos (by rw [show (25 : Int32) = nI 25 from rfl, pI_le (by omega) (by omega)]; omega), show l = 25 by omega]
    | succ d ih =>
      intro l f hl hf
      obtain ⟨f, rfl⟩ : ∃ q, f = q + 1 := ⟨f - 1, by omega⟩
      have e := ih (l+1) f (by omega) (by omega)
      rw [tcs, cK (show l < 25 by omega)] at e
      rw [f_X3_thingCount_L, if_neg (by rw [show (25 : Int32) = nI 25 from rfl, pI_le (by omega) (by omega)]; omega), x_taken (show l < 25 by omega), Option.bind_some]
      by_cases c : v (h+3) l < 0
      · simp only [if_pos c, z00, if_true, Int32.add_zero, nI_add1] at e ⊢; exact e
      · simp only [if_neg c, o10, if_false, nI_add1] at e ⊢; exact e
  exact this 25 0 100000 (by omega) (by omega)
theorem m_count {w : jx_V} : f_X5_things w = some (tcs (mT (w 1)) 25, w) := by
  have : ∀ d l f, l + d = 25 → d < f → f_X5_things_L f (tcs (mT (w 1)) l) (nI l) w = some (tcs (mT (w 1)) 25, w) := by
    intro d
    induction d with
    | zero =>
      intro l f hl hf
      obtain ⟨f, rfl⟩ : ∃ q, f = q + 1 := ⟨f - 1, by omega⟩
      rw [f_X5_things_L, if_pos (by rw [show (25 : Int32) = nI 25 from rfl, pI_le (by omega) (by omega)]; omega), show l = 25 by omega]
    | succ d ih =>
      intro l f hl hf
      obtain ⟨f, rfl⟩ : ∃ q, f = q + 1 := ⟨f - 1, by omega⟩
      have e := ih (l+1) f (by omega) (by omega)
      rw [tcs, mK (show l < 25 by omega)] at e
      rw [f_X5_things_L, if_neg (by rw [show (25 : Int32) = nI 25 from rfl, pI_le (by omega) (by omega)]; omega), m_thing (show l < 25 by omega), Option.bind_some]
      by_cases c : w 1 (11 + 4 * l) < 0
      · simp only [if_pos c, z00, if_true, Int32.add_zero, nI_add1] at e ⊢; exact e
      · simp only [if_neg c, o10, if_false, nI_add1] at e ⊢; exact e
  exact this 25 0 100000 (by omega) (by omega)
theorem x_put {h j : Nat} {v : jx_V} {k o hh p : Int32} (hj : j < 25) : f_X3_put h (nI j) k o hh p v = some (jx_up (jx_up (jx_up (jx_up v (h+3) j k) (h+4) j o) (h+5) j hh) (h+6) j p) := by
  unfold f_X3_put
  simp only [tn (show j < 2147483648 by omega), ib hj (by omega), if_false]
theorem x_off {h j : Nat} {v : jx_V} (hj : j < 25) : f_X3_takeOff h (nI j) v = some (jx_up v (h+3) j (-1)) := by
  unfold f_X3_takeOff
  simp only [tn (show j < 2147483648 by omega), ib hj (by omega), if_false]
theorem at0 {j : Nat} : 11 + 4 * nI j + 0 = nI (11 + 4 * j) := at_n (a := 0)
theorem at1 {j : Nat} : 11 + 4 * nI j + 1 = nI (12 + 4 * j) := by rw [show 12 + 4 * j = 11 + 4 * j + 1 by omega]; exact at_n (a := 1)
theorem at2 {j : Nat} : 11 + 4 * nI j + 2 = nI (13 + 4 * j) := by rw [show 13 + 4 * j = 11 + 4 * j + 2 by omega]; exact at_n (a := 2)
theorem at3 {j : Nat} : 11 + 4 * nI j + 3 = nI (14 + 4 * j) := by rw [show 14 + 4 * j = 11 + 4 * j + 3 by omega]; exact at_n (a := 3)
theorem m_builds {j : Nat} {w : jx_V} {k o hh p : Int32} (hj : j < 25) : f_X5_builds (nI j) k o hh p w = some (jx_up (jx_up (jx_up (jx_up w 1 (11+4*j) k) 1 (12+4*j) o) 1 (13+4*j) hh) 1 (14+4*j) p) := by
  unfold f_X5_builds f_X5_at
  simp only [Option.bind_some, at0, at1, at2, at3, tn (show 11 + 4 * j < 2147483648 by omega), tn (show 12 + 4 * j < 2147483648 by omega), tn (show 13 + 4 * j < 2147483648 by omega), tn (show 14 + 4 * j < 2147483648 by omega), ib (show 11 + 4 * j < 181 by omega) (by omega), ib (show 12 + 4 * j < 181 by omega) (by omega), ib (show 13 + 4 * j < 181 by omega) (by omega), ib (show 14 + 4 * j < 181 by omega) (by omega), if_false]
theorem OK_bld {T j k o h p} (hT : OK T) (hk : 0 ≤ k) (ho : ∃ q, q < 4 ∧ o = nI q) (hh : ∃ q, q < 10 ∧ h = nI q) (hp : ∃ q, q < 4 ∧ p = nI q) : OK (bld T j k o h p) := by
  refine OK.mk (fun l => ?_) (fun l => ?_) (fun l => ?_) (fun l => ?_) hT.w0 hT.w1 hT.w2 hT.w3 hT.w4 hT.n hT.s
  · show (if l = j then k else T.K l) = -1 ∨ 0 ≤ (if l = j then k else T.K l)
    split
    · exact Or.inr hk
    · exact hT.k l
  · show ∃ q, q < 4 ∧ (if l = j then o else T.O l) = nI q
    split
    · exact ho
    · exact hT.o l
  · show ∃ q, q < 10 ∧ (if l = j then h else T.H l) = nI q
    split
    · exact hh
    · exact hT.h l
  · show ∃ q, q < 4 ∧ (if l = j then p else T.P l) = nI q
    split
    · exact hp
    · exact hT.p l
theorem OK_rem {T j} (hT : OK T) : OK (rem T j) := by
  refine OK.mk (fun l => ?_) (fun l => ?_) (fun l => ?_) (fun l => ?_) hT.w0 hT.w1 hT.w2 hT.w3 hT.w4 hT.n hT.s
  · show (if l = j then -1 else T.K l) = -1 ∨ 0 ≤ (if l = j then -1 else T.K l)
    split
    · exact Or.inl rfl
    · exact hT.k l
  · show ∃ q, q < 4 ∧ (if l = j then 0 else T.O l) = nI q
    split
    · exact ⟨0, by omega, rfl⟩
    · exact hT.o l
  · show ∃ q, q < 10 ∧ (if l = j then 0 else T.H l) = nI q
    split
    · exact ⟨0, by omega, rfl⟩
    · exact hT.h l
  · show ∃ q, q < 4 ∧ (if l = j then 0 else T.P l) = nI q
    split
    · exact ⟨0, by omega, rfl⟩
    · exact hT.p l
theorem OK_sK {T j x} (hT : OK T) (hx : 0 ≤ x) : OK (sK T j x) := OK.mk (fun l => by
  show (if l = j then x else T.K l) = -1 ∨ 0 ≤ (if l = j then x else T.K l)
  split
  · exact Or.inr hx
  · exact hT.k l) hT.o hT.h hT.p hT.w0 hT.w1 hT.w2 hT.w3 hT.w4 hT.n hT.s
theorem OK_sO {T j x} (hT : OK T) (hx : ∃ q, q < 4 ∧ x = nI q) : OK (sO T j x) := by
  refine OK.mk hT.k (fun l => ?_) hT.h hT.p hT.w0 hT.w1 hT.w2 hT.w3 hT.w4 hT.n hT.s
  show ∃ q, q < 4 ∧ (if l = j then x else T.O l) = nI q
  split
  · exact hx
  · exact hT.o l
theorem OK_sH {T j x} (hT : OK T) (hx : ∃ q, q < 10 ∧ x = nI q) : OK (sH T j x) := by
  refine OK.mk hT.k hT.o (fun l => ?_) hT.p hT.w0 hT.w1 hT.w2 hT.w3 hT.w4 hT.n hT.s
  show ∃ q, q < 10 ∧ (if l = j then x else T.H l) = nI q
  split
  · exact hx
  · exact hT.h l
theorem OK_sP {T j x} (hT : OK T) (hx : ∃ q, q < 4 ∧ x = nI q) : OK (sP T j x) := by
  refine OK.mk hT.k hT.o hT.h (fun l => ?_) hT.w0 hT.w1 hT.w2 hT.w3 hT.w4 hT.n hT.s
  show ∃ q, q < 4 ∧ (if l = j then x else T.P l) = nI q
  split
  · exact hx
  · exact hT.p l
theorem OK_sC {T j x} (hT : OK T) : OK (sC T j x) := OK.mk hT.k hT.o hT.h hT.p hT.w0 hT.w1 hT.w2 hT.w3 hT.w4 hT.n hT.s
theorem OK_sm {T x} (hT : OK T) : OK (sm T x) := OK.mk hT.k hT.o hT.h hT.p hT.w0 hT.w1 hT.w2 hT.w3 hT.w4 hT.n hT.s
theorem OK_sz {T x} (hT : OK T) : OK (sz T x) := OK.mk hT.k hT.o hT.h hT.p hT.w0 hT.w1 hT.w2 hT.w3 hT.w4 hT.n hT.s
theorem OK_sS {T j x} (hT : OK T) (hx : x = -1 ∨ ∃ q, q < 25 ∧ x = nI q) : OK (sS T j x) := by
  refine OK.mk hT.k hT.o hT.h hT.p hT.w0 hT.w1 hT.w2 hT.w3 hT.w4 hT.n (fun l => ?_)
  show (if l = j then x else T.S l) = -1 ∨ ∃ q, q < 25 ∧ (if l = j then x else T.S l) = nI q
  split
  · exact hx
  · exact hT.s l
/-- R after a change of the town's cells alone -/
theorem R_up {v w c i x j y} (h : R v w) (hc : 1 ≤ c ∧ c < 17) {T : Tn} (e1 : cT 1 (jx_up v c i x) = T) (e2 : mT (upd (w 1) j y) = T) (hT : OK T) : R (jx_up v c i x) (jx_up w 1 j y) :=
  R_town h (fun q hq => jx_up_ne (by omega)) (by rw [jx_up_ne (by omega)]) (fun q hq => jx_up_ne (by omega)) (by rw [jx_up_ne (by omega)]) (by rw [jx_up_ne (by omega)]) e1 (by rw [up_c]; exact e2) hT
theorem R_bld {v w : jx_V} {j : Nat} {k o hh p : Int32} (h : R v w) (hj : j < 25) (hk : 0 ≤ k) (ho : ∃ q, q < 4 ∧ o = nI q) (hh' : ∃ q, q < 10 ∧ hh = nI q) (hp : ∃ q, q < 4 ∧ p = nI q) :
    R (jx_up (jx_up (jx_up (jx_up v 4 j k) 5 j o) 6 j hh) 7 j p) (jx_up (jx_up (jx_up (jx_up w 1 (11+4*j) k) 1 (12+4*j) o) 1 (13+4*j) hh) 1 (14+4*j) p) := by
  refine R_town h (T := bld (cT 1 v) j k o hh p) (fun q hq => ?_) ?_ (fun q hq => ?_) ?_ ?_ (c_put (h := 1) hj hk) ?_ (OK_bld h.ok hk ho hh' hp)
  · rw [jx_up_ne (by omega), jx_up_ne (by omega), jx_up_ne (by omega), jx_up_ne (by omega)]
  · rw [jx_up_ne (by omega), jx_up_ne (by omega), jx_up_ne (by omega), jx_up_ne (by omega)]
  · rw [jx_up_ne (by omega), jx_up_ne (by omega), jx_up_ne (by omega), jx_up_ne (by omega)]
  · rw [jx_up_ne (by omega), jx_up_ne (by omega), jx_up_ne (by omega), jx_up_ne (by omega)]
  · rw [jx_up_ne (by omega), jx_up_ne (by omega), jx_up_ne (by omega), jx_up_ne (by omega)]
  · simp only [up_c]; rw [m_put hj hk, h.t]
theorem q_build {v w a b c d} (h : R v w) : Q (f_X4_build a b c d v) (f_X5_build a b c d w) := by
  unfold f_X4_build f_X5_build
  simp only [x_w7, x_w25, x_w4, x_w10, m_in_0_6, m_isLot, m_isOwner, m_isHeight, Option.bind_some, x_f0, m_f0]
  by_cases c1 : 0 ≤ a ∧ a ≤ 6
  · by_cases c2 : 0 ≤ b ∧ b ≤ 24
    · by_cases c3 : 0 ≤ c ∧ c ≤ 3
      · by_cases c4 : 0 ≤ d ∧ d ≤ 9
        · simp only [if_pos c1, if_pos c2, if_pos c3, if_pos c4, o10, if_false]
          obtain ⟨j, hj, rfl⟩ := ix (n := 24) rfl (by omega) c2
          simp only [x_taken hj, m_thing hj, Option.bind_some, Nat.reduceAdd, tk h hj]
          by_cases ht : w 1 (11 + 4 * j) < 0
          · simp only [if_pos ht, z00, if_true, x_put hj, m_builds hj, Option.bind_some, x_cnt, m_count]
            have r := R_bld h hj c1.1 (ix (n := 3) rfl (by omega) c3) (ix (n := 9) rfl (by omega) c4) ⟨0, by omega, rfl⟩ (k := a) (o := c) (hh := d) (p := 0)
            have e := r.t
            rw [show cT 1 (jx_up (jx_up (jx_up (jx_up v (1 + 3) j a) (1 + 4) j c) (1 + 5) j d) (1 + 6) j 0) = _ from e]
            exact Q_i r
          · simp only [if_neg ht, o10, if_false, x_f4, m_f4, Option.bind_some]
            exact Q_f h
        · simp only [if_pos c1, if_pos c2, if_pos c3, if_neg c4, o10, z00, if_true, if_false]; exact Q_f h
      · simp only [if_pos c1, if_pos c2, if_neg c3, o10, z00, if_true, if_false]; exact Q_f h
    · simp only [if_pos c1, if_neg c2, o10, z00, if_true, if_false]; exact Q_f h
  · simp only [if_neg c1, z00, if_true]; exact Q_f h
theorem m_lotWrong {x} {w : jx_V} : (¬ (0 ≤ x ∧ x ≤ 24) → f_X5_lotWrong x w = some (-1000001, w)) ∧ ∀ j, j < 25 → f_X5_lotWrong (nI j) w = some (if w 1 (11 + 4 * j) < 0 then -1000004 else 0, w) := by
  unfold f_X5_lotWrong
  constructor
  · intro c; simp only [m_isLot, Option.bind_some, if_neg c, z00, if_true]
  · intro j hj
    have c : 0 ≤ nI j ∧ nI j ≤ 24 := ⟨pI_pos (by omega), by rw [show (24 : Int32) = nI 24 from rfl, pI_le (by omega) (by omega)]; omega⟩
    simp only [m_isLot, Option.bind_some, if_pos c, o10, if_false, m_thing hj]
    by_cases ht : w 1 (11 + 4 * j) < 0
    · simp only [if_pos ht, z00, if_true]
    · simp only [if_neg ht, o10, if_false]
theorem b10 : ((-1000001 : Int32) = 0) = False := by decide
theorem b40 : ((-1000004 : Int32) = 0) = False := by decide
theorem b60 : ((-1000006 : Int32) = 0) = False := by decide
theorem R_off {v w j} (h : R v w) (hj : j < 25) : R (jx_up v 4 j (-1)) (jx_up w 1 (11+4*j) (-1)) :=
  R_up h (by omega) (T := rem (cT 1 v) j) (c_off (h := 1) hj) (by rw [m_off hj, h.t]) (OK_rem h.ok)
theorem q_clear {v w a} (h : R v w) : Q (f_X4_clear a v) (f_X5_clear a w) := by
  unfold f_X4_clear f_X5_clear
  simp only [x_w25, Option.bind_some, x_f0, m_f0]
  by_cases c2 : 0 ≤ a ∧ a ≤ 24
  · obtain ⟨j, hj, rfl⟩ := ix (n := 24) rfl (by omega) c2
    simp only [if_pos c2, o10, if_false, x_taken hj, (m_lotWrong (x := 0) (w := w)).2 j hj, Option.bind_some, Nat.reduceAdd, tk h hj]
    by_cases ht : w 1 (11 + 4 * j) < 0
    · simp only [if_pos ht, z00, if_true, b40, if_false, x_f3, m_f3, Option.bind_some]; exact Q_f h
    · simp only [if_neg ht, o10, z00, if_true, if_false, x_off hj, f_X5_at, at0, Option.bind_some, tn (show j < 2147483648 by omega), tn (show 11 + 4 * j < 2147483648 by omega), ib hj (by omega), ib (show 11 + 4 * j < 181 by omega) (by omega), m_its2 hj]
      rw [show jx_up v (1 + 3) j (-1) 6 j = jx_up w 1 (11 + 4 * j) (-1) 1 (13 + 4 * j) by
        rw [jx_up_ne (by omega), up_g, if_neg (by omega)]; exact tkH h hj (Int32.not_lt.mp ht)]
      exact Q_i (R_off h hj)
  · simp only [if_neg c2, z00, if_true, (m_lotWrong (w := w)).1 c2, Option.bind_some, b10, if_false, m_f0]; exact Q_f h
theorem nz : nI 0 = 0 := rfl
theorem c7 {q : Nat} (h : q < 7) : q = 0 ∨ q = 1 ∨ q = 2 ∨ q = 3 ∨ q = 4 ∨ q = 5 ∨ q = 6 := by omega
theorem q_of {v w a b} (h : R v w) : Q (f_X4_of a b v) (f_X5_of a b w) := by
  unfold f_X4_of f_X5_of
  simp only [x_w25, x_w7, m_in_0_6, Option.bind_some, x_f0, m_f0]
  by_cases c1 : 0 ≤ b ∧ b ≤ 6
  · by_cases c2 : 0 ≤ a ∧ a ≤ 24
    · obtain ⟨j, hj, rfl⟩ := ix (n := 24) rfl (by omega) c2
      simp only [if_pos c1, if_pos c2, o10, if_false, x_taken hj, (m_lotWrong (x := 0) (w := w)).2 j hj, Option.bind_some, Nat.reduceAdd, tk h hj]
      by_cases ht : w 1 (11 + 4 * j) < 0
      · simp only [if_pos ht, z00, if_true, b40, if_false, x_f3, m_f3, Option.bind_some]; exact Q_f h
      · have ht' : 0 ≤ w 1 (11 + 4 * j) := Int32.not_lt.mp ht
        have hv : 0 ≤ v (1+3) j := by show 0 ≤ v 4 j; rw [tk h hj]; exact ht'
        simp only [if_neg ht, o10, z00, if_true, if_false, x_standing hj hv, x_price h.ok hj hv, x_growth hj, m_stands hj ht', m_price h.ok' hj ht', m_grows hj, Option.bind_some]
        obtain ⟨q, hq, rfl⟩ := ix (n := 6) rfl (by omega) c1
        rw [h.t]
        rcases c7 hq with rfl | rfl | rfl | rfl | rfl | rfl | rfl
        · rw [if_neg (by decide), if_neg (by decide)]
          simp only [tn (show j < 2147483648 by omega), ib hj (by omega), if_false, nz, m_its0 hj, Option.bind_some, show ((4 : Int32) ≤ 0) = False by decide]
          rw [show v (1 + 3 + (0 : Int32).toNatClampNeg) j = w 1 (11 + 4 * j) from tk h hj]; exact Q_i h
        · rw [if_neg (by decide), if_neg (by decide)]
          simp only [tn (show j < 2147483648 by omega), ib hj (by omega), if_false, n1, m_its1 hj, Option.bind_some, show ((4 : Int32) ≤ 1) = False by decide]
          rw [show v (1 + 3 + (1 : Int32).toNatClampNeg) j = w 1 (12 + 4 * j) from tkO h hj ht']; exact Q_i h
        · rw [if_neg (by decide), if_neg (by decide)]
          simp only [tn (show j < 2147483648 by omega), ib hj (by omega), if_false, n2, m_its2 hj, Option.bind_some, show ((4 : Int32) ≤ 2) = False by decide]
          rw [show v (1 + 3 + (2 : Int32).toNatClampNeg) j = w 1 (13 + 4 * j) from tkH h hj ht']; exact Q_i h
        · rw [if_neg (by decide), if_neg (by decide)]
          simp only [tn (show j < 2147483648 by omega), ib hj (by omega), if_false, n3, m_its3 hj, Option.bind_some, show ((4 : Int32) ≤ 3) = False by decide]
          rw [show v (1 + 3 + (3 : Int32).toNatClampNeg) j = w 1 (14 + 4 * j) from tkP h hj ht']; exact Q_i h
        · rw [if_pos (by decide), if_pos (by decide), if_pos (by decide), if_pos (by decide)]; exact Q_i h
        · rw [if_pos (by decide), if_neg (by decide), if_pos (by decide), if_pos (by decide), if_neg (by decide), if_pos (by decide)]; exact Q_i h
        · rw [if_pos (by decide), if_neg (by decide), if_neg (by decide), if_pos (by decide), if_neg (by decide), if_neg (by decide)]; exact Q_i h
    · simp only [if_pos c1, if_neg c2, o10, z00, if_true, if_false, (m_lotWrong (w := w)).1 c2, Option.bind_some, b10, m_f0]; exact Q_f h
  · by_cases c2 : 0 ≤ a ∧ a ≤ 24
    · simp only [if_neg c1, if_pos c2, o10, z00, if_true, if_false, b10]; exact Q_f h
    · simp only [if_neg c1, if_neg c2, o10, z00, if_true, if_false, b10]; exact Q_f h
theorem q_change {v w a b c} (h : R v w) : Q (f_X4_change a b c v) (f_X5_change a b c w) := by
  unfold f_X4_change f_X5_change f_X4_thingLimit
  simp only [x_w25, x_w4, m_in_0_3, m_in_0_6, m_in_0_9, Option.bind_some, x_f0, m_f0]
  by_cases c1 : 0 ≤ b ∧ b ≤ 3
  · obtain ⟨q, hq, rfl⟩ := ix (n := 3) rfl (by omega) c1
    simp only [if_pos c1, o10, if_false]
    by_cases c2 : 0 ≤ a ∧ a ≤ 24
    · obtain ⟨j, hj, rfl⟩ := ix (n := 24) rfl (by omega) c2
      simp only [if_pos c2, o10, if_false, (m_lotWrong (x := 0) (w := w)).2 j hj, Option.bind_some]
      have q4 : q = 0 ∨ q = 1 ∨ q = 2 ∨ q = 3 := by omega
      have nt : w 1 (11 + 4 * j) < 0 → Q (some (-1000004, jx_up v 63 3 (v 63 3 + 1))) (some (-1000004, jx_up w 4 3 (w 4 3 + 1))) := fun _ => Q_f h
      have tj := tn (show j < 2147483648 by omega)
      rcases q4 with rfl | rfl | rfl | rfl
      · rw [if_pos (by decide), if_pos (by decide)]
        simp only [Option.bind_some, x_w7]
        by_cases c3 : 0 ≤ c ∧ c ≤ 6
        · simp only [if_pos c3, o10, if_false, x_taken hj, Option.bind_some, Nat.reduceAdd, tk h hj]
          by_cases ht : w 1 (11 + 4 * j) < 0
          · simp only [if_pos ht, z00, if_true, b40, if_false, x_f3, m_f3, Option.bind_some]; exact nt ht
          · have ht' : 0 ≤ w 1 (11 + 4 * j) := Int32.not_lt.mp ht
            simp only [if_neg ht, o10, z00, if_true, if_false, nz, m_its0 hj, f_X5_at, at0, Option.bind_some, tj, ib hj (by omega), tn (show 11 + 4 * j < 2147483648 by omega), ib (show 11 + 4 * j < 181 by omega) (by omega), show ((0 : Int32) < 0 ∨ 4 ≤ (0 : Int32).toNatClampNeg) = False by decide]
            rw [show v (4 + (0 : Int32).toNatClampNeg) j = w 1 (11 + 4 * j) from tk h hj]
            exact Q_i (R_up h (by decide) (T := sK (cT 1 v) j c) (c_sK (h := 1) hj (by show 0 ≤ v 4 j; rw [tk h hj]; exact ht') c3.1) (by rw [m_sK hj ht' c3.1, h.t]) (OK_sK h.ok c3.1))
        · simp only [if_neg c3, z00, if_true, b10, if_false]; exact Q_f h
      · rw [if_neg (by decide), if_pos (by decide), if_neg (by decide), if_neg (by decide)]
        simp only [Option.bind_some, x_w4]
        by_cases c3 : 0 ≤ c ∧ c ≤ 3
        · simp only [if_pos c3, o10, if_false, x_taken hj, Option.bind_some, Nat.reduceAdd, tk h hj]
          by_cases ht : w 1 (11 + 4 * j) < 0
          · simp only [if_pos ht, z00, if_true, b40, if_false, x_f3, m_f3, Option.bind_some]; exact nt ht
          · have ht' : 0 ≤ w 1 (11 + 4 * j) := Int32.not_lt.mp ht
            simp only [if_neg ht, o10, z00, if_true, if_false, n1, m_its1 hj, f_X5_at, at1, Option.bind_some, tj, ib hj (by omega), tn (show 12 + 4 * j < 2147483648 by omega), ib (show 12 + 4 * j < 181 by omega) (by omega), show ((1 : Int32) < 0 ∨ 4 ≤ (1 : Int32).toNatClampNeg) = False by decide]
            rw [show v (4 + (1 : Int32).toNatClampNeg) j = w 1 (12 + 4 * j) from tkO h hj ht']
            exact Q_i (R_up h (by decide) (T := sO (cT 1 v) j c) (c_sO (h := 1) hj (by show 0 ≤ v 4 j; rw [tk h hj]; exact ht')) (by rw [m_sO hj ht', h.t]) (OK_sO h.ok (ix (n := 3) rfl (by omega) c3)))
        · simp only [if_neg c3, z00, if_true, b10, if_false]; exact Q_f h
      · rw [if_neg (by decide), if_neg (by decide), if_pos (by decide), if_neg (by decide), if_pos (by decide)]
        simp only [Option.bind_some, x_w10]
        by_cases c3 : 0 ≤ c ∧ c ≤ 9
        · simp only [if_pos c3, o10, if_false, x_taken hj, Option.bind_some, Nat.reduceAdd, tk h hj]
          by_cases ht : w 1 (11 + 4 * j) < 0
          · simp only [if_pos ht, z00, if_true, b40, if_false, x_f3, m_f3, Option.bind_some]; exact nt ht
          · have ht' : 0 ≤ w 1 (11 + 4 * j) := Int32.not_lt.mp ht
            simp only [if_neg ht, o10, z00, if_true, if_false, n2, m_its2 hj, f_X5_at, at2, Option.bind_some, tj, ib hj (by omega), tn (show 13 + 4 * j < 2147483648 by omega), ib (show 13 + 4 * j < 181 by omega) (by omega), show ((2 : Int32) < 0 ∨ 4 ≤ (2 : Int32).toNatClampNeg) = False by decide]
            rw [show v (4 + (2 : Int32).toNatClampNeg) j = w 1 (13 + 4 * j) from tkH h hj ht']
            exact Q_i (R_up h (by decide) (T := sH (cT 1 v) j c) (c_sH (h := 1) hj (by show 0 ≤ v 4 j; rw [tk h hj]; exact ht')) (by rw [m_sH hj ht', h.t]) (OK_sH h.ok (ix (n := 9) rfl (by omega) c3)))
        · simp only [if_neg c3, z00, if_true, b10, if_false]; exact Q_f h
      · rw [if_neg (by decide), if_neg (by decide), if_neg (by decide), if_neg (by decide), if_neg (by decide)]
        simp only [Option.bind_some, x_w4]
        by_cases c3 : 0 ≤ c ∧ c ≤ 3
        · simp only [if_pos c3, o10, if_false, x_taken hj, Option.bind_some, Nat.reduceAdd, tk h hj]
          by_cases ht : w 1 (11 + 4 * j) < 0
          · simp only [if_pos ht, z00, if_true, b40, if_false, x_f3, m_f3, Option.bind_some]; exact nt ht
          · have ht' : 0 ≤ w 1 (11 + 4 * j) := Int32.not_lt.mp ht
            simp only [if_neg ht, o10, z00, if_true, if_false, n3, m_its3 hj, f_X5_at, at3, Option.bind_some, tj, ib hj (by omega), tn (show 14 + 4 * j < 2147483648 by omega), ib (show 14 + 4 * j < 181 by omega) (by omega), show ((3 : Int32) < 0 ∨ 4 ≤ (3 : Int32).toNatClampNeg) = False by decide]
            rw [show v (4 + (3 : Int32).toNatClampNeg) j = w 1 (14 + 4 * j) from tkP h hj ht']
            exact Q_i (R_up h (by decide) (T := sP (cT 1 v) j c) (c_sP (h := 1) hj (by show 0 ≤ v 4 j; rw [tk h hj]; exact ht')) (by rw [m_sP hj ht', h.t]) (OK_sP h.ok (ix (n := 3) rfl (by omega) c3)))
        · simp only [if_neg c3, z00, if_true, b10, if_false]; exact Q_f h
    · simp only [if_neg c2, z00, if_true, (m_lotWrong (w := w)).1 c2, Option.bind_some, b10, if_false, m_f0]
      have l : Q (some (-1000001, jx_up v 63 0 (v 63 0 + 1))) (some (-1000001, jx_up w 4 0 (w 4 0 + 1))) := Q_f h
      (repeat' split) <;> exact l
  · simp only [if_neg c1, z00, if_true, if_false, b10]
    by_cases c2 : 0 ≤ a ∧ a ≤ 24
    · simp only [if_pos c2, o10, if_false]; exact Q_f h
    · simp only [if_neg c2, z00, if_true]; exact Q_f h
theorem q_price {v w a b} (h : R v w) : Q (f_X4_price a b v) (f_X5_price a b w) := by
  unfold f_X4_price f_X5_price
  simp only [x_w100, x_w4, m_in_0_3, m_in_0_99, Option.bind_some, x_f0, m_f0]
  by_cases c1 : 0 ≤ a ∧ a ≤ 3
  · obtain ⟨q, hq, rfl⟩ := ix (n := 3) rfl (by omega) c1
    by_cases c2 : 0 ≤ b ∧ b ≤ 99
    · simp only [if_pos c1, if_pos c2, o10, if_false, p3_n, tn (show q < 2147483648 by omega), tn (show 3 + q < 2147483648 by omega), ib hq (by omega), ib (show 3 + q < 181 by omega) (by omega), tkC h hq]
      exact Q_i (R_up h (by decide) (T := sC (cT 1 v) q b) (c_sC (h := 1) hq) (by rw [m_sC hq, h.t]) (OK_sC h.ok))
    · simp only [if_pos c1, if_neg c2, o10, z00, if_true, if_false]; exact Q_f h
  · simp only [if_neg c1, z00, if_true]; exact Q_f h
theorem q_purse {v w a} (h : R v w) : Q (f_X4_purse a v) (f_X5_purse a w) := by
  unfold f_X4_purse f_X5_purse
  simp only [x_w4, m_isOwner, Option.bind_some, x_f0, m_f0]
  by_cases c1 : 0 ≤ a ∧ a ≤ 3
  · obtain ⟨q, hq, rfl⟩ := ix (n := 3) rfl (by omega) c1
    have e7 : 7 + nI q = nI (7 + q) := by unfold nI; simp [Int32.ofNat_add]
    simp only [if_pos c1, o10, if_false, e7, tn (show q < 2147483648 by omega), tn (show 7 + q < 2147483648 by omega), ib hq (by omega), ib (show 7 + q < 181 by omega) (by omega), tkU h hq]
    exact Q_i h
  · simp only [if_neg c1, z00, if_true]; exact Q_f h
theorem q_hold {v w a b} (h : R v w) : Q (f_X4_hold a b v) (f_X5_hold a b w) := by
  obtain ⟨N, hN, eN, eN2⟩ := mn h.ok'
  unfold f_X4_hold f_X5_hold
  simp only [x_w10, m_in_0_9, m_in_m1_24, Option.bind_some, x_f0, m_f0]
  by_cases c1 : 0 ≤ a ∧ a ≤ 9
  · obtain ⟨q, hq, rfl⟩ := ix (n := 9) rfl (by omega) c1
    have e7 : 171 + nI q = nI (171 + q) := by unfold nI; simp [Int32.ofNat_add]
    by_cases c2 : -1 ≤ b ∧ b ≤ 24
    · simp only [if_pos c1, if_pos c2, o10, if_false, e7, tn (show q < 2147483648 by omega), tn (show 171 + q < 2147483648 by omega), ib hq (by omega), ib (show 171 + q < 181 by omega) (by omega)]
      rw [if_neg (by grind), if_pos (by grind)]
      refine Q_i (R_up h (by decide) (T := sS (cT 1 v) q b) (c_sS (h := 1) hq) (by rw [m_sS hq (by omega), h.t]) (OK_sS h.ok ?_))
      by_cases c3 : b = -1
      · exact Or.inl c3
      · exact Or.inr (ix (n := 24) rfl (by omega) ⟨by grind, c2.2⟩)
    · simp only [if_pos c1, if_neg c2, o10, z00, if_true, if_false]
      by_cases c3 : b < -1
      · rw [if_pos c3]; exact Q_f h
      · rw [if_neg c3, if_neg (by grind)]; exact Q_f h
  · simp only [if_neg c1, z00, if_true]; exact Q_f h
theorem q_seed {v w a} (h : R v w) : Q (f_X4_seed a v) (f_X5_seed a w) := by
  unfold f_X4_seed f_X5_seed
  rw [tkz h]
  exact Q_i (R_up h (by decide) (T := sz (cT 1 v) a) (c_sz (h := 1) (j := 0)) (by rw [m_sz (j := 0), h.t]) (OK_sz h.ok))
theorem q_wipe {v w} (h : R v w) : Q (f_X4_wipe v) (f_X5_wipe w) := by
  unfold f_X4_wipe f_X5_wipe
  rw [h.tl]
  refine Q_i (R.mk ?_ ?_ ?_ ?_ ?_ ?_ ?_ ?_ ?_)
  · rw [cT_congr (v := v) (fun c _ _ => jx_up_ne (by omega)), jx_up_ne (by omega)]; exact h.t
  · rw [cT_congr (v := v) (fun c _ _ => jx_up_ne (by omega))]; exact h.ok
  · rw [jx_up_ne (by omega), up_g, if_neg (by omega)]; exact h.k
  · rw [jx_up_ne (by omega)]; exact h.kb
  · rw [jx_up_ne (by omega), cT_congr (v := v) (fun c _ _ => jx_up_ne (by omega)), jx_up_ne (by omega)]; exact h.kt
  · rw [up_s, up_s]
  · exact ⟨0, by omega, up_s⟩
  · rw [jx_up_ne (by omega), jx_up_ne (by omega)]; exact h.tb
  · intro s hs
    rw [jx_up_ne (by omega), jx_up_ne (by omega), jx_up_ne (by omega), jx_up_ne (by omega), jx_up_ne (by omega), jx_up_ne (by omega)]
    exact h.s s hs
theorem q_tear {v w} (h : R v w) : Q (f_X4_tear v) (f_X5_tear w) := by
  unfold f_X4_tear f_X5_tear
  rw [h.k]
  have r : R (jx_up v 0 10 0) (jx_up w 0 4 0) := by
    refine R.mk ?_ ?_ ?_ ?_ ?_ ?_ ?_ ?_ ?_
    · rw [cT_congr (v := v) (fun c _ _ => jx_up_ne (by omega)), jx_up_ne (by omega)]; exact h.t
    · rw [cT_congr (v := v) (fun c _ _ => jx_up_ne (by omega))]; exact h.ok
    · rw [up_s, up_s]
    · exact Or.inl up_s
    · intro c; rw [up_s] at c; exact absurd c (by decide)
    · rw [jx_up_ne (by omega), up_g, if_neg (by omega)]; exact h.tl
    · rw [jx_up_ne (by omega)]; exact h.tr
    · rw [jx_up_ne (by omega), jx_up_ne (by omega)]; exact h.tb
    · intro s hs
      rw [jx_up_ne (by omega), jx_up_ne (by omega), jx_up_ne (by omega), jx_up_ne (by omega), jx_up_ne (by omega), jx_up_ne (by omega)]
      exact h.s s hs
  split <;> exact Q_i r
theorem x_isWindow {x} {v : jx_V} : f_X4_isWindow x v = some (if 0 ≤ x ∧ x < v 1 5 then 1 else 0, v) := by
  unfold f_X4_isWindow; simp only [x_wi, Option.bind_some, bb, if_false]
theorem m_isW {x v w} (h : R v w) : f_X5_isWindow x w = some (if 0 ≤ x ∧ x < v 1 5 then 1 else 0, w) := by
  obtain ⟨N, hN, eN, eN2⟩ := cn h.ok
  rw [m_isWindow, ← tkn h, eN]
  have h0 := pI_pos (show N < 2147483648 by omega)
  have h1 : nI N ≤ 10 := by rw [show (10 : Int32) = nI 10 from rfl, pI_le (by omega) (by omega)]; omega
  by_cases c : 0 ≤ x ∧ x < nI N
  · rw [if_pos c, if_pos ⟨c.1, by grind⟩]
  · rw [if_neg c, if_neg (fun q => c ⟨q.1, by grind⟩)]
theorem wx {x v w} (h : R v w) (c : 0 ≤ x ∧ x < v 1 5) : ∃ i, i < 10 ∧ i < (v 1 5).toNatClampNeg ∧ i < (w 1 1).toNatClampNeg ∧ x = nI i := by
  obtain ⟨N, hN, eN, eN2⟩ := cn h.ok
  rw [eN] at c
  obtain ⟨i, hi, e⟩ := nI_ex (b := N) (by omega) c.1 c.2
  exact ⟨i, by omega, by omega, by rw [← tkn h]; omega, e⟩
theorem OK_sW {T a i x} (hT : OK T) (h0 : a = 0 → ∃ q, q < 25 ∧ x = nI q) (h1 : a = 1 → ∃ q, q < 10 ∧ x = nI q) (h2 : a = 2 → ∃ q, q < 4 ∧ x = nI q) (h3 : a = 3 → ∃ q, q < 4 ∧ x = nI q) (h4 : a = 4 → x = -1 ∨ ∃ q, q < 4 ∧ x = nI q) : OK (sW T a i x) := by
  refine OK.mk hT.k hT.o hT.h hT.p (fun l => ?_) (fun l => ?_) (fun l => ?_) (fun l => ?_) (fun l => ?_) hT.n hT.s
  · show ∃ q, q < 25 ∧ (if 0 = a ∧ l = i then x else T.W 0 l) = nI q
    by_cases c : 0 = a ∧ l = i
    · rw [if_pos c]; exact h0 c.1.symm
    · rw [if_neg c]; exact hT.w0 l
  · show ∃ q, q < 10 ∧ (if 1 = a ∧ l = i then x else T.W 1 l) = nI q
    by_cases c : 1 = a ∧ l = i
    · rw [if_pos c]; exact h1 c.1.symm
    · rw [if_neg c]; exact hT.w1 l
  · show ∃ q, q < 4 ∧ (if 2 = a ∧ l = i then x else T.W 2 l) = nI q
    by_cases c : 2 = a ∧ l = i
    · rw [if_pos c]; exact h2 c.1.symm
    · rw [if_neg c]; exact hT.w2 l
  · show ∃ q, q < 4 ∧ (if 3 = a ∧ l = i then x else T.W 3 l) = nI q
    by_cases c : 3 = a ∧ l = i
    · rw [if_pos c]; exact h3 c.1.symm
    · rw [if_neg c]; exact hT.w3 l
  · show (if 4 = a ∧ l = i then x else T.W 4 l) = -1 ∨ ∃ q, q < 4 ∧ (if 4 = a ∧ l = i then x else T.W 4 l) = nI q
    by_cases c : 4 = a ∧ l = i
    · rw [if_pos c]; exact h4 c.1.symm
    · rw [if_neg c]; exact hT.w4 l
theorem R_W {v w a i x} (h : R v w) (ha : a < 6) (hi : i < (w 1 1).toNatClampNeg) (hT : OK (sW (cT 1 v) a i x)) : R (jx_up v (8 + a) i x) (jx_up w 1 (111 + 6 * i + a) x) := by
  obtain ⟨N, hN, eN, eN2⟩ := mn h.ok'
  exact R_up h (by omega) (T := sW (cT 1 v) a i x) (c_sW (h := 1) ha (by rw [tkn h]; exact hi)) (by rw [m_sW ha hi (by omega), h.t]) hT
theorem q_windowOf {v w a b} (h : R v w) : Q (f_X4_windowOf a b v) (f_X5_windowOf a b w) := by
  unfold f_X4_windowOf f_X5_windowOf
  simp only [x_isWindow, m_isW h, x_w6, m_in_0_5, Option.bind_some, x_f0, m_f0]
  by_cases c1 : 0 ≤ a ∧ a < v 1 5
  · obtain ⟨i, hi, hi1, hi2, rfl⟩ := wx h c1
    by_cases c2 : 0 ≤ b ∧ b ≤ 5
    · obtain ⟨q, hq, rfl⟩ := ix (n := 5) rfl (by omega) c2
      simp only [if_pos c1, if_pos c2, o10, if_false, m_told hi hq, Option.bind_some, tn (show i < 2147483648 by omega), tn (show q < 2147483648 by omega), ib hi (by omega), ib hq (by omega), Nat.reduceAdd]
      rw [show v (8 + q) i = w 1 (111 + 6 * i + q) from tkW h hq hi2]
      exact Q_i h
    · simp only [if_pos c1, if_neg c2, o10, z00, if_true, if_false]; exact Q_f h
  · simp only [if_neg c1, z00, if_true]; exact Q_f h
theorem wh1 {j : Nat} : 111 + 6 * nI j + 1 = nI (111 + 6 * j + 1) := wh_n (a := 1)
theorem wh2 {j : Nat} : 111 + 6 * nI j + 2 = nI (111 + 6 * j + 2) := wh_n (a := 2)
theorem wh3 {j : Nat} : 111 + 6 * nI j + 3 = nI (111 + 6 * j + 3) := wh_n (a := 3)
theorem wh4 {j : Nat} : 111 + 6 * nI j + 4 = nI (111 + 6 * j + 4) := wh_n (a := 4)
theorem wh5 {j : Nat} : 111 + 6 * nI j + 5 = nI (111 + 6 * j + 5) := wh_n (a := 5)
theorem q_turn {v w a b c} (h : R v w) : Q (f_X4_turn a b c v) (f_X5_turn a b c w) := by
  unfold f_X4_turn f_X5_turn f_X4_windowLimit
  simp only [x_isWindow, m_isW h, m_in_1_3, m_in_0_9, m_in_0_3, Option.bind_some, x_f0, m_f0]
  by_cases c1 : 0 ≤ a ∧ a < v 1 5
  · obtain ⟨i, hi, hi1, hi2, rfl⟩ := wx h c1
    by_cases c2 : 1 ≤ b ∧ b ≤ 3
    · simp only [if_pos c1, if_pos c2, o10, if_false, tn (show i < 2147483648 by omega), ib hi (by omega)]
      have b3 : b = 1 ∨ b = 2 ∨ b = 3 := by grind
      rcases b3 with rfl | rfl | rfl
      · rw [if_neg (by decide), if_neg (by decide), if_pos rfl, if_pos rfl]
        simp only [Option.bind_some, x_w10, m_told1 hi, f_X5_where, wh1, tn (show 111 + 6 * i + 1 < 2147483648 by omega), ib (show 111 + 6 * i + 1 < 181 by omega) (by omega), if_false, show ((1 : Int32) < 0 ∨ 6 ≤ (1 : Int32).toNatClampNeg) = False by decide]
        by_cases c3 : 0 ≤ c ∧ c ≤ 9
        · simp only [if_pos c3, o10, if_false]
          rw [show v (1 + 7 + (1 : Int32).toNatClampNeg) i = w 1 (111 + 6 * i + 1) from tkW (a := 1) h (by omega) hi2]
          exact Q_i (R_W h (a := 1) (by omega) hi2 (OK_sW h.ok (by omega) (fun _ => ix (n := 9) rfl (by omega) c3) (by omega) (by omega) (by omega)))
        · simp only [if_neg c3, z00, if_true]; exact Q_f h
      · rw [if_neg (by decide), if_neg (by decide), if_neg (by decide), if_pos rfl, if_neg (by decide)]
        simp only [Option.bind_some, x_w4, m_told2 hi, f_X5_where, wh2, tn (show 111 + 6 * i + 2 < 2147483648 by omega), ib (show 111 + 6 * i + 2 < 181 by omega) (by omega), if_false, show ((2 : Int32) < 0 ∨ 6 ≤ (2 : Int32).toNatClampNeg) = False by decide]
        by_cases c3 : 0 ≤ c ∧ c ≤ 3
        · simp only [if_pos c3, o10, if_false]
          rw [show v (1 + 7 + (2 : Int32).toNatClampNeg) i = w 1 (111 + 6 * i + 2) from tkW (a := 2) h (by omega) hi2]
          exact Q_i (R_W h (a := 2) (by omega) hi2 (OK_sW h.ok (by omega) (by omega) (fun _ => ix (n := 3) rfl (by omega) c3) (by omega) (by omega)))
        · simp only [if_neg c3, z00, if_true]; exact Q_f h
      · rw [if_neg (by decide), if_neg (by decide), if_neg (by decide), if_neg (by decide), if_neg (by decide)]
        simp only [Option.bind_some, x_w4, m_told3 hi, f_X5_where, wh3, tn (show 111 + 6 * i + 3 < 2147483648 by omega), ib (show 111 + 6 * i + 3 < 181 by omega) (by omega), if_false, show ((3 : Int32) < 0 ∨ 6 ≤ (3 : Int32).toNatClampNeg) = False by decide]
        by_cases c3 : 0 ≤ c ∧ c ≤ 3
        · simp only [if_pos c3, o10, if_false]
          rw [show v (1 + 7 + (3 : Int32).toNatClampNeg) i = w 1 (111 + 6 * i + 3) from tkW (a := 3) h (by omega) hi2]
          exact Q_i (R_W h (a := 3) (by omega) hi2 (OK_sW h.ok (by omega) (by omega) (by omega) (fun _ => ix (n := 3) rfl (by omega) c3) (by omega)))
        · simp only [if_neg c3, z00, if_true]; exact Q_f h
    · simp only [if_pos c1, if_neg c2, o10, z00, if_true, if_false]
      by_cases c4 : b < 1
      · rw [if_pos c4]; exact Q_f h
      · rw [if_neg c4, if_pos (by grind)]; exact Q_f h
  · simp only [if_neg c1, z00, if_true]; exact Q_f h
theorem q_contract {v w a b c} (h : R v w) : Q (f_X4_contract a b c v) (f_X5_contract a b c w) := by
  unfold f_X4_contract f_X5_contract
  simp only [x_isWindow, m_isW h, x_w37, m_in_m1_3, m_in_0_36, Option.bind_some, x_f0, m_f0]
  by_cases c1 : 0 ≤ a ∧ a < v 1 5
  · obtain ⟨i, hi, hi1, hi2, rfl⟩ := wx h c1
    simp only [if_pos c1, o10, if_false]
    by_cases c2 : -1 ≤ b ∧ b ≤ 3
    · rw [if_neg (by grind), if_neg (by grind)]
      by_cases c3 : 0 ≤ c ∧ c ≤ 36
      · simp only [if_pos c2, if_pos c3, o10, if_false, tn (show i < 2147483648 by omega), ib hi (by omega), f_X5_where, wh4, wh5, Option.bind_some, tn (show 111 + 6 * i + 4 < 2147483648 by omega), ib (show 111 + 6 * i + 4 < 181 by omega) (by omega), tn (show 111 + 6 * i + 5 < 2147483648 by omega), ib (show 111 + 6 * i + 5 < 181 by omega) (by omega)]
        have k : ∀ x, Q ((f_X0_isBroken 1 (nI i) (jx_up (jx_up v 12 i b) 13 i x)).bind (fun (r13, v13) => (if r13 = 0 then (some (0, v13)) else (some (1, v13)))))
            ((f_X5_isBroken (nI i) (jx_up (jx_up w 1 (111 + 6 * i + 4) b) 1 (111 + 6 * i + 5) x)).bind (fun (r14, v14) => (if r14 = 0 then (some (0, v14)) else (some (1, v14))))) := by
          intro x
          have r1 : R (jx_up v 12 i b) (jx_up w 1 (111 + 6 * i + 4) b) := R_W h (a := 4) (by omega) hi2 (OK_sW h.ok (by omega) (by omega) (by omega) (by omega) (fun _ => by
            by_cases c3 : b = -1
            · exact Or.inl c3
            · exact Or.inr (ix (n := 3) rfl (by omega) ⟨by grind, c2.2⟩)))
          have en : (jx_up w 1 (111 + 6 * i + 4) b) 1 1 = w 1 1 := by rw [up_g, if_neg (by omega)]
          have r2 : R (jx_up (jx_up v 12 i b) 13 i x) (jx_up (jx_up w 1 (111 + 6 * i + 4) b) 1 (111 + 6 * i + 5) x) := R_W r1 (a := 5) (by omega) (by rw [en]; exact hi2) (OK_sW r1.ok (by omega) (by omega) (by omega) (by omega) (by omega))
          have en2 : (jx_up (jx_up w 1 (111 + 6 * i + 4) b) 1 (111 + 6 * i + 5) x) 1 1 = w 1 1 := by rw [up_g, if_neg (by omega), en]
          obtain ⟨v', e1, g1⟩ := x_broken (h := 1) (i := i) (by omega) r2.ok (by rw [tkn r2, en2]; exact hi2)
          obtain ⟨w', e2, g2⟩ := m_broken (i := i) r2.ok' (by rw [en2]; exact hi2)
          rw [e1, e2, r2.t]
          have r3 := R_fr r2 (G_SX g1) (FM_SM g2)
          simp only [Option.bind_some]
          split <;> exact Q_i r3
        split
        · exact k c
        · exact k 0
      · simp only [if_pos c2, if_neg c3, o10, z00, if_true, if_false]; exact Q_f h
    · simp only [if_neg c2, z00, if_true]
      by_cases c4 : b < -1
      · rw [if_pos c4]; exact Q_f h
      · rw [if_neg c4, if_pos (by grind)]; exact Q_f h
  · simp only [if_neg c1, z00, if_true]; exact Q_f h
theorem Q_b {x y : Option (Int32 × jx_V)} (h : Q x y) : Q (x.bind (fun (r, v) => some (r, v))) (y.bind (fun (r, v) => some (r, v))) := by
  obtain ⟨r, v, w, e1, e2, h⟩ := h
  rw [e1, e2]; exact Q_i h
theorem q_sees {v w a b} (h : R v w) : Q (f_X4_sees a b v) (f_X5_sees a b w) := by
  unfold f_X4_sees f_X5_sees
  simp only [x_isWindow, m_isW h, m_in_1_4, Option.bind_some, x_f0, m_f0]
  by_cases c1 : 0 ≤ a ∧ a < v 1 5
  · obtain ⟨i, hi, hi1, hi2, rfl⟩ := wx h c1
    simp only [if_pos c1, o10, if_false]
    by_cases c2 : 1 ≤ b ∧ b ≤ 4
    · obtain ⟨k, hk, rfl⟩ := ix (n := 4) rfl (by omega) ⟨by grind, c2.2⟩
      have hk1 : 1 ≤ k := by
        have := c2.1
        rw [← n1, pI_le (by omega) (by omega)] at this
        exact this
      simp only [if_pos c2, o10, if_false]
      rw [if_neg (by grind), if_pos c2.2]
      obtain ⟨v', e1, g1, hL⟩ := x_look (h := 1) (by omega) h.ok hi1
      rw [e1, Option.bind_some, x_ss hL hk1 (by omega), m_seen h.ok' hi2 hk1 (by omega), h.t]
      exact Q_i (R_fr h (G_SX g1) SM_r)
    · simp only [if_neg c2, z00, if_true]
      by_cases c4 : b < 1
      · rw [if_pos c4]; exact Q_f h
      · rw [if_neg c4, if_neg (by grind)]; exact Q_f h
  · simp only [if_neg c1, z00, if_true]; exact Q_f h
theorem q_view {v w a} (h : R v w) : Q (f_X4_view a v) (f_X5_view a w) := by
  unfold f_X4_view f_X5_view
  simp only [x_isWindow, m_isW h, Option.bind_some, x_f0, m_f0]
  by_cases c1 : 0 ≤ a ∧ a < v 1 5
  · obtain ⟨i, hi, hi1, hi2, rfl⟩ := wx h c1
    simp only [if_pos c1, o10, if_false]
    obtain ⟨v', e1, g1⟩ := x_view (h := 1) (by omega) h.ok hi1
    obtain ⟨w', e2, g2, _, _, h6, _⟩ := m_looks h.ok' hi2
    simp only [e1, e2, Option.bind_some, h6]
    rw [h.t]
    exact Q_i (R_fr h (G_SX g1) (FM_SM g2))
  · simp only [if_neg c1, z00, if_true]; exact Q_f h
theorem q_share {v w a b} (h : R v w) : Q (f_X4_share a b v) (f_X5_share a b w) := by
  unfold f_X4_share f_X5_share
  simp only [x_isWindow, m_isW h, x_w4, m_isOwner, Option.bind_some, x_f0, m_f0]
  by_cases c1 : 0 ≤ a ∧ a < v 1 5
  · obtain ⟨i, hi, hi1, hi2, rfl⟩ := wx h c1
    simp only [if_pos c1, o10, if_false]
    by_cases c2 : 0 ≤ b ∧ b ≤ 3
    · obtain ⟨o, ho, rfl⟩ := ix (n := 3) rfl (by omega) c2
      simp only [if_pos c2, o10, if_false, tn (show o < 2147483648 by omega), ib ho (by omega)]
      obtain ⟨v', e1, g1⟩ := x_share (o := nI o) (h := 1) (by omega) h.ok hi1
      obtain ⟨w', e2, g2, h5, _⟩ := m_looks h.ok' hi2
      simp only [e1, e2, Option.bind_some, h5 o ho]
      rw [h.t]
      exact Q_i (R_fr h (G_SX g1) (FM_SM g2))
    · simp only [if_neg c2, z00, if_true]; exact Q_f h
  · simp only [if_neg c1, z00, if_true]; exact Q_f h
theorem q_lots {v w a} (h : R v w) : Q (f_X4_lots a v) (f_X5_lots a w) := by
  unfold f_X4_lots f_X5_lots
  simp only [x_isWindow, m_isW h, Option.bind_some, x_f0, m_f0]
  by_cases c1 : 0 ≤ a ∧ a < v 1 5
  · obtain ⟨i, hi, hi1, hi2, rfl⟩ := wx h c1
    simp only [if_pos c1, o10, if_false]
    obtain ⟨v', e1, g1⟩ := x_lots (h := 1) (by omega) h.ok hi1
    obtain ⟨w', e2, g2, _, _, _, _, h8⟩ := m_looks h.ok' hi2
    simp only [e1, e2, Option.bind_some, h8]
    rw [h.t]
    exact Q_i (R_fr h (G_SX g1) (FM_SM g2))
  · simp only [if_neg c1, z00, if_true]; exact Q_f h
theorem q_rent {v w a} (h : R v w) : Q (f_X4_rent a v) (f_X5_rent a w) := by
  unfold f_X4_rent f_X5_rent
  simp only [x_isWindow, m_isW h, Option.bind_some, x_f0, m_f0]
  by_cases c1 : 0 ≤ a ∧ a < v 1 5
  · obtain ⟨i, hi, hi1, hi2, rfl⟩ := wx h c1
    simp only [if_pos c1, o10, if_false]
    obtain ⟨v', e1, g1, _⟩ := x_pay (h := 1) (r := 66) (by omega) (Or.inr (by omega)) h.ok hi1
    obtain ⟨w', e2, g2, _, _, _, h7, _⟩ := m_looks h.ok' hi2
    simp only [e1, e2, Option.bind_some, h7]
    rw [h.t]
    exact Q_i (R_fr h (GR_SX (by omega) g1) (FM_SM g2))
  · simp only [if_neg c1, z00, if_true]; exact Q_f h
theorem q_gain {v w a} (h : R v w) : Q (f_X4_gain a v) (f_X5_gain a w) := by
  unfold f_X4_gain f_X5_gain
  simp only [x_w4, m_isOwner, Option.bind_some, x_f0, m_f0]
  by_cases c2 : 0 ≤ a ∧ a ≤ 3
  · obtain ⟨o, ho, rfl⟩ := ix (n := 3) rfl (by omega) c2
    simp only [if_pos c2, o10, if_false, tn (show o < 2147483648 by omega), ib ho (by omega)]
    obtain ⟨v', e1, g1, hg⟩ := x_gains (h := 1) (r := 65) (by omega) (by omega) h.ok
    obtain ⟨w', e2, g2, _⟩ := m_gainOf h.ok' ho
    simp only [e1, e2, Option.bind_some, hg o ho]
    rw [h.t]
    exact Q_i (R_fr h (GR_SX (by omega) g1) (FM_SM g2))
  · simp only [if_neg c2, z00, if_true]; exact Q_f h
theorem q_broken {v w} (h : R v w) : Q (f_X4_broken v) (f_X5_broken w) := by
  unfold f_X4_broken f_X5_broken
  obtain ⟨v', e1, g1⟩ := x_bset (h := 1) (by omega) h.ok
  obtain ⟨w', e2, g2⟩ := m_bset h.ok'
  simp only [e1, e2, Option.bind_some]
  rw [h.t]
  exact Q_i (R_fr h (G_SX g1) (FM_SM g2))
theorem q_as {v w a b} (h : R v w) : Q (f_X4_as a b v) (f_X5_as a b w) := by
  unfold f_X4_as f_X5_as
  simp only [x_w10, x_w7, m_in_0_9, m_in_0_6, Option.bind_some, x_f0, m_f0]
  by_cases c1 : 0 ≤ a ∧ a ≤ 9
  · obtain ⟨q, hq, rfl⟩ := ix (n := 9) rfl (by omega) c1
    have e7 : 171 + nI q = nI (171 + q) := by unfold nI; simp [Int32.ofNat_add]
    by_cases c2 : 0 ≤ b ∧ b ≤ 6
    · simp only [if_pos c1, if_pos c2, o10, if_false, e7, tn (show q < 2147483648 by omega), tn (show 171 + q < 2147483648 by omega), ib hq (by omega), ib (show 171 + q < 181 by omega) (by omega), tkS h hq]
      have hs : w 1 (171 + q) = -1 ∨ ∃ j, j < 25 ∧ w 1 (171 + q) = nI j := by
        have := h.ok'.s q
        rw [show (mT (w 1)).S q = w 1 (171 + q) from if_pos hq] at this
        exact this
      rcases hs with e | ⟨j, hj, e⟩
      · simp only [e, show ((-1 : Int32) < 0) = True by decide, if_true, x_f5, m_f5, Option.bind_some]; exact Q_f h
      · simp only [e, nI_neg (show j < 2147483648 by omega), if_false, x_taken hj, m_thing hj, Option.bind_some, Nat.reduceAdd, tk h hj]
        by_cases ht : w 1 (11 + 4 * j) < 0
        · simp only [if_pos ht, z00, if_true, x_f5, m_f5, Option.bind_some]; exact Q_f h
        · simp only [if_neg ht, o10, if_false, tn (show j < 2147483648 by omega), nl0 hj, or_false, m_its0 hj, Option.bind_some, tk h hj, f_X4_isOfKind, f_X4_kindAbove, x_f2, m_f2]
          generalize w 1 (11 + 4 * j) = k at *
          clear ht
          have hi : Q (some (nI j, v)) (some (nI j, w)) := Q_i h
          have hf : Q (some (-1000003, jx_up v 63 2 (v 63 2 + 1))) (some (-1000003, jx_up w 4 2 (w 4 2 + 1))) := Q_f h
          by_cases b0 : b = 0
          · simp only [b0, if_true, Option.bind_some, o10, if_false]; exact hi
          · by_cases b1 : k = b
            · simp only [b0, b1, if_true, if_false, Option.bind_some, o10]; exact hi
            · by_cases k3 : k = 3
              · subst k3
                by_cases b2 : b = 1
                · subst b2; exact hi
                · have b2' : ¬ 1 = b := fun q => b2 q.symm
                  simp only [b0, b1, b2, b2', if_true, if_false, Option.bind_some, z00, o10]
                  by_cases b3 : b = 2
                  · subst b3; exact hf
                  · by_cases b5 : b = 5
                    · subst b5; exact hf
                    · simp only [b3, b5, if_false]; exact hf
              · by_cases k4 : k = 4
                · subst k4
                  by_cases b2 : b = 2
                  · subst b2; exact hi
                  · have b2' : ¬ 2 = b := fun q => b2 q.symm
                    by_cases b3 : b = 1
                    · subst b3; exact hf
                    · by_cases b5 : b = 5
                      · subst b5; exact hf
                      · simp only [b0, b1, b2, b2', b3, b5, k3, if_true, if_false, Option.bind_some, z00, o10]; exact hf
                · by_cases k6 : k = 6
                  · subst k6
                    by_cases b2 : b = 5
                    · subst b2; exact hi
                    · have b2' : ¬ 5 = b := fun q => b2 q.symm
                      by_cases b3 : b = 1
                      · subst b3; exact hf
                      · by_cases b5 : b = 2
                        · subst b5; exact hf
                        · simp only [b0, b1, b2, b2', b3, b5, k3, show ¬ (6 : Int32) = 4 by decide, show ¬ (6 : Int32) = 5 by decide, if_true, if_false, Option.bind_some, z00, o10]; exact hf
                  · have b0' : ¬ 0 = b := fun q => b0 q.symm
                    by_cases k5 : k = 5
                    · subst k5
                      by_cases x1 : b = 1
                      · subst x1; exact hf
                      · by_cases x2 : b = 2
                        · subst x2; exact hf
                        · simp only [b0, b0', b1, x1, x2, k3, k4, k6, if_true, if_false, Option.bind_some, z00, o10]; (repeat' split) <;> first | exact hf | (exfalso; grind)
                    · simp only [b0, b0', b1, k3, k4, k6, k5, if_true, if_false, Option.bind_some, z00, o10]
                      (repeat' split) <;> first | exact hf | (exfalso; grind)
    · simp only [if_pos c1, if_neg c2, o10, z00, if_true, if_false]; exact Q_f h
  · simp only [if_neg c1, z00, if_true]; exact Q_f h
theorem x_addw {h N : Nat} {v : jx_V} {p l a t : Int32} (hN : N < 10) (eN : v h 5 = nI N) : f_X3_addWindow h p l a t v = some (jx_up (jx_up (jx_up (jx_up (jx_up (jx_up (jx_up v (h+7) N p) (h+8) N l) (h+9) N a) (h+10) N t) (h+11) N (-1)) (h+12) N 0) h 5 (nI (N+1))) := by
  unfold f_X3_addWindow
  simp only [jx_up_ne (show h ≠ h + 7 by omega), jx_up_ne (show h ≠ h + 8 by omega), jx_up_ne (show h ≠ h + 9 by omega), jx_up_ne (show h ≠ h + 10 by omega), jx_up_ne (show h ≠ h + 11 by omega), jx_up_ne (show h ≠ h + 12 by omega), eN, tn (show N < 2147483648 by omega), ib hN (by omega), if_false, nI_add1]
  rw [if_neg (by rw [show (10 : Int32) = nI 10 from rfl, pI_le (by omega) (by omega)]; omega)]
theorem c_win {h N : Nat} {v : jx_V} {p l a t : Int32} (hN : N < 10) (eN : v h 5 = nI N) : cT h (jx_up (jx_up (jx_up (jx_up (jx_up (jx_up (jx_up v (h+7) N p) (h+8) N l) (h+9) N a) (h+10) N t) (h+11) N (-1)) (h+12) N 0) h 5 (nI (N+1))) = nwin (cT h v) p l a t := by
  have e1 := tn (show N < 2147483648 by omega)
  have e2 := tn (show N + 1 < 2147483648 by omega)
  have e3 := nI_add1 N
  refine Tx ?_ ?_ ?_ ?_ ?_ ?_ ?_ ?_ ?_ ?_ ?_
  · funext l; (try simp only [cT, mT, mkT, bld, rem, sK, sO, sH, sP, sC, sS, sW, sm, sz, nwin, nw, Tn.K, Tn.O, Tn.H, Tn.P, Tn.W, Tn.C, Tn.U, Tn.S, Tn.n, Tn.m, Tn.z, up_g, upd, eN, e1, e2, e3]) <;> grind
  · funext l; (try simp only [cT, mT, mkT, bld, rem, sK, sO, sH, sP, sC, sS, sW, sm, sz, nwin, nw, Tn.K, Tn.O, Tn.H, Tn.P, Tn.W, Tn.C, Tn.U, Tn.S, Tn.n, Tn.m, Tn.z, up_g, upd, eN, e1, e2, e3]) <;> grind
  · funext l; (try simp only [cT, mT, mkT, bld, rem, sK, sO, sH, sP, sC, sS, sW, sm, sz, nwin, nw, Tn.K, Tn.O, Tn.H, Tn.P, Tn.W, Tn.C, Tn.U, Tn.S, Tn.n, Tn.m, Tn.z, up_g, upd, eN, e1, e2, e3]) <;> grind
  · funext l; (try simp only [cT, mT, mkT, bld, rem, sK, sO, sH, sP, sC, sS, sW, sm, sz, nwin, nw, Tn.K, Tn.O, Tn.H, Tn.P, Tn.W, Tn.C, Tn.U, Tn.S, Tn.n, Tn.m, Tn.z, up_g, upd, eN, e1, e2, e3]) <;> grind
  · funext a i; (try simp only [cT, mT, mkT, bld, rem, sK, sO, sH, sP, sC, sS, sW, sm, sz, nwin, nw, Tn.K, Tn.O, Tn.H, Tn.P, Tn.W, Tn.C, Tn.U, Tn.S, Tn.n, Tn.m, Tn.z, up_g, upd, eN, e1, e2, e3]) <;> grind
  · funext l; (try simp only [cT, mT, mkT, bld, rem, sK, sO, sH, sP, sC, sS, sW, sm, sz, nwin, nw, Tn.K, Tn.O, Tn.H, Tn.P, Tn.W, Tn.C, Tn.U, Tn.S, Tn.n, Tn.m, Tn.z, up_g, upd, eN, e1, e2, e3]) <;> grind
  · funext l; (try simp only [cT, mT, mkT, bld, rem, sK, sO, sH, sP, sC, sS, sW, sm, sz, nwin, nw, Tn.K, Tn.O, Tn.H, Tn.P, Tn.W, Tn.C, Tn.U, Tn.S, Tn.n, Tn.m, Tn.z, up_g, upd, eN, e1, e2, e3]) <;> grind
  · funext l; (try simp only [cT, mT, mkT, bld, rem, sK, sO, sH, sP, sC, sS, sW, sm, sz, nwin, nw, Tn.K, Tn.O, Tn.H, Tn.P, Tn.W, Tn.C, Tn.U, Tn.S, Tn.n, Tn.m, Tn.z, up_g, upd, eN, e1, e2, e3]) <;> grind
  · (try simp only [cT, mT, mkT, bld, rem, sK, sO, sH, sP, sC, sS, sW, sm, sz, nwin, nw, Tn.K, Tn.O, Tn.H, Tn.P, Tn.W, Tn.C, Tn.U, Tn.S, Tn.n, Tn.m, Tn.z, up_g, upd, eN, e1, e2, e3]) <;> grind
  · (try simp only [cT, mT, mkT, bld, rem, sK, sO, sH, sP, sC, sS, sW, sm, sz, nwin, nw, Tn.K, Tn.O, Tn.H, Tn.P, Tn.W, Tn.C, Tn.U, Tn.S, Tn.n, Tn.m, Tn.z, up_g, upd, eN, e1, e2, e3]) <;> grind
  · (try simp only [cT, mT, mkT, bld, rem, sK, sO, sH, sP, sC, sS, sW, sm, sz, nwin, nw, Tn.K, Tn.O, Tn.H, Tn.P, Tn.W, Tn.C, Tn.U, Tn.S, Tn.n, Tn.m, Tn.z, up_g, upd, eN, e1, e2, e3]) <;> grind
theorem m_win {N : Nat} {s : Nat → Int32} {p l a t : Int32} (hN : N < 10) (eN : s 1 = nI N) : mT (upd (upd (upd (upd (upd (upd (upd s (111+6*N+0) p) (111+6*N+1) l) (111+6*N+2) a) (111+6*N+3) t) (111+6*N+4) (-1)) (111+6*N+5) 0) 1 (nI (N+1))) = nwin (mT s) p l a t := by
  have e1 := tn (show N < 2147483648 by omega)
  have e2 := tn (show N + 1 < 2147483648 by omega)
  have e3 := nI_add1 N
  refine Tx ?_ ?_ ?_ ?_ ?_ ?_ ?_ ?_ ?_ ?_ ?_
  · funext l; (try simp only [cT, mT, mkT, bld, rem, sK, sO, sH, sP, sC, sS, sW, sm, sz, nwin, nw, Tn.K, Tn.O, Tn.H, Tn.P, Tn.W, Tn.C, Tn.U, Tn.S, Tn.n, Tn.m, Tn.z, up_g, upd, eN, e1, e2, e3]) <;> grind
  · funext l; (try simp only [cT, mT, mkT, bld, rem, sK, sO, sH, sP, sC, sS, sW, sm, sz, nwin, nw, Tn.K, Tn.O, Tn.H, Tn.P, Tn.W, Tn.C, Tn.U, Tn.S, Tn.n, Tn.m, Tn.z, up_g, upd, eN, e1, e2, e3]) <;> grind
  · funext l; (try simp only [cT, mT, mkT, bld, rem, sK, sO, sH, sP, sC, sS, sW, sm, sz, nwin, nw, Tn.K, Tn.O, Tn.H, Tn.P, Tn.W, Tn.C, Tn.U, Tn.S, Tn.n, Tn.m, Tn.z, up_g, upd, eN, e1, e2, e3]) <;> grind
  · funext l; (try simp only [cT, mT, mkT, bld, rem, sK, sO, sH, sP, sC, sS, sW, sm, sz, nwin, nw, Tn.K, Tn.O, Tn.H, Tn.P, Tn.W, Tn.C, Tn.U, Tn.S, Tn.n, Tn.m, Tn.z, up_g, upd, eN, e1, e2, e3]) <;> grind
  · funext a i; (try simp only [cT, mT, mkT, bld, rem, sK, sO, sH, sP, sC, sS, sW, sm, sz, nwin, nw, Tn.K, Tn.O, Tn.H, Tn.P, Tn.W, Tn.C, Tn.U, Tn.S, Tn.n, Tn.m, Tn.z, up_g, upd, eN, e1, e2, e3]) <;> grind
  · funext l; (try simp only [cT, mT, mkT, bld, rem, sK, sO, sH, sP, sC, sS, sW, sm, sz, nwin, nw, Tn.K, Tn.O, Tn.H, Tn.P, Tn.W, Tn.C, Tn.U, Tn.S, Tn.n, Tn.m, Tn.z, up_g, upd, eN, e1, e2, e3]) <;> grind
  · funext l; (try simp only [cT, mT, mkT, bld, rem, sK, sO, sH, sP, sC, sS, sW, sm, sz, nwin, nw, Tn.K, Tn.O, Tn.H, Tn.P, Tn.W, Tn.C, Tn.U, Tn.S, Tn.n, Tn.m, Tn.z, up_g, upd, eN, e1, e2, e3]) <;> grind
  · funext l; (try simp only [cT, mT, mkT, bld, rem, sK, sO, sH, sP, sC, sS, sW, sm, sz, nwin, nw, Tn.K, Tn.O, Tn.H, Tn.P, Tn.W, Tn.C, Tn.U, Tn.S, Tn.n, Tn.m, Tn.z, up_g, upd, eN, e1, e2, e3]) <;> grind
  · (try simp only [cT, mT, mkT, bld, rem, sK, sO, sH, sP, sC, sS, sW, sm, sz, nwin, nw, Tn.K, Tn.O, Tn.H, Tn.P, Tn.W, Tn.C, Tn.U, Tn.S, Tn.n, Tn.m, Tn.z, up_g, upd, eN, e1, e2, e3]) <;> grind
  · (try simp only [cT, mT, mkT, bld, rem, sK, sO, sH, sP, sC, sS, sW, sm, sz, nwin, nw, Tn.K, Tn.O, Tn.H, Tn.P, Tn.W, Tn.C, Tn.U, Tn.S, Tn.n, Tn.m, Tn.z, up_g, upd, eN, e1, e2, e3]) <;> grind
  · (try simp only [cT, mT, mkT, bld, rem, sK, sO, sH, sP, sC, sS, sW, sm, sz, nwin, nw, Tn.K, Tn.O, Tn.H, Tn.P, Tn.W, Tn.C, Tn.U, Tn.S, Tn.n, Tn.m, Tn.z, up_g, upd, eN, e1, e2, e3]) <;> grind
theorem wh0 {j : Nat} : 111 + 6 * nI j + 0 = nI (111 + 6 * j + 0) := wh_n (a := 0)
theorem m_neww {N : Nat} {w : jx_V} {p l a t : Int32} (hN : N < 10) (eN : w 1 1 = nI N) : f_X5_newWindow p l a t w = some (nI N, jx_up (jx_up (jx_up (jx_up (jx_up (jx_up (jx_up w 1 (111+6*N+0) p) 1 (111+6*N+1) l) 1 (111+6*N+2) a) 1 (111+6*N+3) t) 1 (111+6*N+4) (-1)) 1 (111+6*N+5) 0) 1 1 (nI (N+1))) := by
  unfold f_X5_newWindow f_X5_where
  simp only [Option.bind_some, eN, wh0, wh1, wh2, wh3, wh4, wh5, tn (show 111 + 6 * N + 0 < 2147483648 by omega), tn (show 111 + 6 * N + 1 < 2147483648 by omega), tn (show 111 + 6 * N + 2 < 2147483648 by omega), tn (show 111 + 6 * N + 3 < 2147483648 by omega), tn (show 111 + 6 * N + 4 < 2147483648 by omega), tn (show 111 + 6 * N + 5 < 2147483648 by omega),
    ib (show 111 + 6 * N + 0 < 181 by omega) (by omega), ib (show 111 + 6 * N + 1 < 181 by omega) (by omega), ib (show 111 + 6 * N + 2 < 181 by omega) (by omega), ib (show 111 + 6 * N + 3 < 181 by omega) (by omega), ib (show 111 + 6 * N + 4 < 181 by omega) (by omega), ib (show 111 + 6 * N + 5 < 181 by omega) (by omega), if_false]
  have e : (jx_up (jx_up (jx_up (jx_up (jx_up (jx_up w 1 (111+6*N+0) p) 1 (111+6*N+1) l) 1 (111+6*N+2) a) 1 (111+6*N+3) t) 1 (111+6*N+4) (-1)) 1 (111+6*N+5) 0) 1 1 = nI N := by
    rw [up_g, if_neg (by omega), up_g, if_neg (by omega), up_g, if_neg (by omega), up_g, if_neg (by omega), up_g, if_neg (by omega), up_g, if_neg (by omega), eN]
  rw [e, nI_add1]
theorem OK_nwin {T p l a t} (hT : OK T) (hn : nw T < 10) (hp : ∃ q, q < 25 ∧ p = nI q) (hl : ∃ q, q < 10 ∧ l = nI q) (ha : ∃ q, q < 4 ∧ a = nI q) (ht : ∃ q, q < 4 ∧ t = nI q) : OK (nwin T p l a t) := by
  refine OK.mk hT.k hT.o hT.h hT.p (fun i => ?_) (fun i => ?_) (fun i => ?_) (fun i => ?_) (fun i => ?_) ?_ hT.s
  · show ∃ q, q < 25 ∧ (if i = nw T ∧ 0 < 6 then p else T.W 0 i) = nI q
    split
    · exact hp
    · exact hT.w0 i
  · show ∃ q, q < 10 ∧ (if i = nw T ∧ 1 < 6 then l else T.W 1 i) = nI q
    split
    · exact hl
    · exact hT.w1 i
  · show ∃ q, q < 4 ∧ (if i = nw T ∧ 2 < 6 then a else T.W 2 i) = nI q
    split
    · exact ha
    · exact hT.w2 i
  · show ∃ q, q < 4 ∧ (if i = nw T ∧ 3 < 6 then t else T.W 3 i) = nI q
    split
    · exact ht
    · exact hT.w3 i
  · show (if i = nw T ∧ 4 < 6 then -1 else T.W 4 i) = -1 ∨ ∃ q, q < 4 ∧ (if i = nw T ∧ 4 < 6 then -1 else T.W 4 i) = nI q
    split
    · exact Or.inl rfl
    · exact hT.w4 i
  · obtain ⟨N, hN, e⟩ := hT.n
    refine ⟨N + 1, ?_, ?_⟩
    · unfold nw at hn; rw [e, tn (by omega)] at hn; omega
    · show T.n + 1 = nI (N+1)
      rw [e, nI_add1]
theorem R_win {v w : jx_V} {N : Nat} {p l a t : Int32} (h : R v w) (hN : N < 10) (eN : v 1 5 = nI N) (hp : ∃ q, q < 25 ∧ p = nI q) (hl : ∃ q, q < 10 ∧ l = nI q) (ha : ∃ q, q < 4 ∧ a = nI q) (ht : ∃ q, q < 4 ∧ t = nI q) :
    R (jx_up (jx_up (jx_up (jx_up (jx_up (jx_up (jx_up v 8 N p) 9 N l) 10 N a) 11 N t) 12 N (-1)) 13 N 0) 1 5 (nI (N+1))) (jx_up (jx_up (jx_up (jx_up (jx_up (jx_up (jx_up w 1 (111+6*N+0) p) 1 (111+6*N+1) l) 1 (111+6*N+2) a) 1 (111+6*N+3) t) 1 (111+6*N+4) (-1)) 1 (111+6*N+5) 0) 1 1 (nI (N+1))) := by
  have eM : w 1 1 = nI N := by rw [← tkn h]; exact eN
  refine R_town h (T := nwin (cT 1 v) p l a t) (fun q hq => ?_) ?_ (fun q hq => ?_) ?_ ?_ (c_win (h := 1) hN eN) ?_ (OK_nwin h.ok (by show (v 1 5).toNatClampNeg < 10; rw [eN, tn (by omega)]; exact hN) hp hl ha ht)
  · rw [jx_up_ne (by omega), jx_up_ne (by omega), jx_up_ne (by omega), jx_up_ne (by omega), jx_up_ne (by omega), jx_up_ne (by omega), jx_up_ne (by omega)]
  · rw [jx_up_ne (by omega), jx_up_ne (by omega), jx_up_ne (by omega), jx_up_ne (by omega), jx_up_ne (by omega), jx_up_ne (by omega), jx_up_ne (by omega)]
  · rw [jx_up_ne (by omega), jx_up_ne (by omega), jx_up_ne (by omega), jx_up_ne (by omega), jx_up_ne (by omega), jx_up_ne (by omega), jx_up_ne (by omega)]
  · rw [jx_up_ne (by omega), jx_up_ne (by omega), jx_up_ne (by omega), jx_up_ne (by omega), jx_up_ne (by omega), jx_up_ne (by omega), jx_up_ne (by omega)]
  · rw [jx_up_ne (by omega), jx_up_ne (by omega), jx_up_ne (by omega), jx_up_ne (by omega), jx_up_ne (by omega), jx_up_ne (by omega), jx_up_ne (by omega)]
  · simp only [up_c]; rw [m_win hN eM, h.t]
theorem q_window {v w a b c d} (h : R v w) : Q (f_X4_window a b c d v) (f_X5_window a b c d w) := by
  obtain ⟨N, hN, eN, eN2⟩ := cn h.ok
  have eM : w 1 1 = nI N := by rw [← tkn h]; exact eN
  unfold f_X4_window f_X5_window
  simp only [x_w25, x_w4, x_w10, m_in_0_3, m_isLot, m_isOwner, m_isHeight, Option.bind_some, x_f0, m_f0, x_f1, m_f1]
  by_cases c2 : 0 ≤ a ∧ a ≤ 24
  · by_cases c1 : 0 ≤ b ∧ b ≤ 9
    · by_cases c3 : 0 ≤ c ∧ c ≤ 3
      · by_cases c4 : 0 ≤ d ∧ d ≤ 3
        · simp only [if_pos c1, if_pos c2, if_pos c3, if_pos c4, o10, if_false]
          by_cases hN' : N < 10
          · rw [if_pos (by rw [eN, show (10 : Int32) = nI 10 from rfl, pI_lt (by omega) (by omega)]; omega), if_neg (by rw [eM, show (10 : Int32) = nI 10 from rfl, pI_eq (by omega) (by omega)]; omega)]
            simp only [x_addw (h := 1) hN' eN, m_neww hN' eM, Option.bind_some, Nat.reduceAdd]
            have r := R_win h hN' eN (ix (n := 24) rfl (by omega) c2) (ix (n := 9) rfl (by omega) c1) (ix (n := 3) rfl (by omega) c3) (ix (n := 3) rfl (by omega) c4) (p := a) (l := b) (a := c) (t := d)
            rw [up_s, show nI (N+1) - 1 = nI N by rw [← nI_add1]; grind]
            exact Q_i r
          · rw [if_neg (by rw [eN, show (10 : Int32) = nI 10 from rfl, pI_lt (by omega) (by omega)]; omega), if_pos (by rw [eM, show (10 : Int32) = nI 10 from rfl, pI_eq (by omega) (by omega)]; omega)]
            exact Q_f h
        · simp only [if_pos c1, if_pos c2, if_pos c3, if_neg c4, o10, z00, if_true, if_false]; exact Q_f h
      · simp only [if_pos c1, if_pos c2, if_neg c3, o10, z00, if_true, if_false]; exact Q_f h
    · simp only [if_pos c2, if_neg c1, o10, z00, if_true, if_false]; exact Q_f h
  · simp only [if_neg c2, z00, if_true]; exact Q_f h
def hts (T : Tn) : Nat → Int32
  | 0 => 0
  | l + 1 => if T.K l < 0 then hts T l else hts T l + T.H l
def cts (T : Tn) : Nat → Int32
  | 0 => 0
  | i + 1 => if T.W 4 i < 0 then cts T i else cts T i + 1
def sps (T : Tn) : Nat → Int32
  | 0 => 0
  | i + 1 => if T.S i < 0 then sps T i else sps T i + 1
theorem x_heights {h : Nat} {v : jx_V} : f_X3_heightOfAll h v = some (hts (cT h v) 25, v) := by
  have : ∀ d l f, l + d = 25 → d < f → f_X3_heightOfAll_L h f (hts (cT h v) l) (nI l) v = some (hts (cT h v) 25, v) := by
    intro d
    induction d with
    | zero =>
      intro l f hl hf
      obtain ⟨f, rfl⟩ : ∃ q, f = q + 1 := ⟨f - 1, by omega⟩
      rw [f_X3_heightOfAll_L, if_pos (by rw [show (25 : Int32) = nI 25 from rfl, pI_le (by omega) (by omega)]; omega), show l = 25 by omega]
    | succ d ih =>
      intro l f hl hf
      obtain ⟨f, rfl⟩ : ∃ q, f = q + 1 := ⟨f - 1, by omega⟩
      have e := ih (l+1) f (by omega) (by omega)
      rw [hts] at e
      rw [f_X3_heightOfAll_L, if_neg (by rw [show (25 : Int32) = nI 25 from rfl, pI_le (by omega) (by omega)]; omega)]
      rw [x_taken (show l < 25 by omega), Option.bind_some]
      rw [cK (show l < 25 by omega)] at e
      by_cases c : v (h+3) l < 0
      · simp only [if_pos c, z00, if_true, Int32.add_zero, nI_add1] at e ⊢; exact e
      · rw [cH (show l < 25 by omega) (Int32.not_lt.mp c)] at e
        simp only [if_neg c, o10, if_false, nI_add1, tn (show l < 2147483648 by omega), ib (show l < 25 by omega) (by omega)] at e ⊢; exact e
  exact this 25 0 100000 (by omega) (by omega)
theorem m_heights {w : jx_V} : f_X5_heights w = some (hts (mT (w 1)) 25, w) := by
  have : ∀ d l f, l + d = 25 → d < f → f_X5_heights_L f (hts (mT (w 1)) l) (nI l) w = some (hts (mT (w 1)) 25, w) := by
    intro d
    induction d with
    | zero =>
      intro l f hl hf
      obtain ⟨f, rfl⟩ : ∃ q, f = q + 1 := ⟨f - 1, by omega⟩
      rw [f_X5_heights_L, if_pos (by rw [show (25 : Int32) = nI 25 from rfl, pI_le (by omega) (by omega)]; omega), show l = 25 by omega]
    | succ d ih =>
      intro l f hl hf
      obtain ⟨f, rfl⟩ : ∃ q, f = q + 1 := ⟨f - 1, by omega⟩
      have e := ih (l+1) f (by omega) (by omega)
      rw [hts] at e
      rw [f_X5_heights_L, if_neg (by rw [show (25 : Int32) = nI 25 from rfl, pI_le (by omega) (by omega)]; omega)]
      rw [m_thing (show l < 25 by omega), Option.bind_some]
      rw [mK (show l < 25 by omega)] at e
      by_cases c : w 1 (11 + 4 * l) < 0
      · simp only [if_pos c, z00, if_true, Int32.add_zero, nI_add1] at e ⊢; exact e
      · rw [mH (show l < 25 by omega) (Int32.not_lt.mp c)] at e
        simp only [if_neg c, o10, if_false, nI_add1, m_its2 (show l < 25 by omega), Option.bind_some] at e ⊢; exact e
  exact this 25 0 100000 (by omega) (by omega)
theorem x_contracts {h : Nat} {v : jx_V} (hT : OK (cT h v)) : f_X3_contractCount h v = some (cts (cT h v) (nw (cT h v)), v) := by
  obtain ⟨N, hN, eN, eN2⟩ := cn hT
  have : ∀ d l f, l + d = N → d < f → f_X3_contractCount_L h f (cts (cT h v) l) (nI l) v = some (cts (cT h v) N, v) := by
    intro d
    induction d with
    | zero =>
      intro l f hl hf
      obtain ⟨f, rfl⟩ : ∃ q, f = q + 1 := ⟨f - 1, by omega⟩
      rw [f_X3_contractCount_L, if_pos (by rw [eN, pI_le (by omega) (by omega)]; omega), show l = N by omega]
    | succ d ih =>
      intro l f hl hf
      obtain ⟨f, rfl⟩ : ∃ q, f = q + 1 := ⟨f - 1, by omega⟩
      have e := ih (l+1) f (by omega) (by omega)
      rw [cts] at e
      rw [f_X3_contractCount_L, if_neg (by rw [eN, pI_le (by omega) (by omega)]; omega)]
      rw [cW (h := h) (v := v) (a := 4) (by omega) (show l < (v h 5).toNatClampNeg by omega)] at e
      simp only [tn (show l < 2147483648 by omega), ib (show l < 10 by omega) (by omega), if_false, nI_add1, Int32.add_zero]
      by_cases c : v (h+7+4) l < 0
      · rw [if_pos c] at e
        rw [if_pos (show v (h+11) l < 0 from c)]; exact e
      · rw [if_neg c] at e
        rw [if_neg (show ¬ v (h+11) l < 0 from c)]; exact e
  rw [nwc, eN2]
  exact this N 0 100000 (by omega) (by omega)
theorem m_contracts {w : jx_V} (hT : OK (mT (w 1))) : f_X5_contracts w = some (cts (mT (w 1)) (nw (mT (w 1))), w) := by
  obtain ⟨N, hN, eN, eN2⟩ := mn hT
  have : ∀ d l f, l + d = N → d < f → f_X5_contracts_L f (cts (mT (w 1)) l) (nI l) w = some (cts (mT (w 1)) N, w) := by
    intro d
    induction d with
    | zero =>
      intro l f hl hf
      obtain ⟨f, rfl⟩ : ∃ q, f = q + 1 := ⟨f - 1, by omega⟩
      rw [f_X5_contracts_L, if_pos (by rw [eN, pI_le (by omega) (by omega)]; omega), show l = N by omega]
    | succ d ih =>
      intro l f hl hf
      obtain ⟨f, rfl⟩ : ∃ q, f = q + 1 := ⟨f - 1, by omega⟩
      have e := ih (l+1) f (by omega) (by omega)
      rw [cts] at e
      rw [f_X5_contracts_L, if_neg (by rw [eN, pI_le (by omega) (by omega)]; omega)]
      rw [mW (s := w 1) (a := 4) (by omega) (show l < (w 1 1).toNatClampNeg by omega)] at e
      simp only [m_told4 (show l < 10 by omega), Option.bind_some, nI_add1, Int32.add_zero]
      by_cases c : w 1 (111 + 6 * l + 4) < 0
      · rw [if_pos c] at e
        rw [if_neg (Int32.not_le.mpr c)]; exact e
      · rw [if_neg c] at e
        rw [if_pos (Int32.not_lt.mp c)]; exact e
  rw [nwm, eN2]
  exact this N 0 100000 (by omega) (by omega)
theorem x_spots {h : Nat} {v : jx_V} : f_X3_spotsInUse h v = some (sps (cT h v) 10, v) := by
  have : ∀ d l f, l + d = 10 → d < f → f_X3_spotsInUse_L h f (sps (cT h v) l) (nI l) v = some (sps (cT h v) 10, v) := by
    intro d
    induction d with
    | zero =>
      intro l f hl hf
      obtain ⟨f, rfl⟩ : ∃ q, f = q + 1 := ⟨f - 1, by omega⟩
      rw [f_X3_spotsInUse_L, if_pos (by rw [show (10 : Int32) = nI 10 from rfl, pI_le (by omega) (by omega)]; omega), show l = 10 by omega]
    | succ d ih =>
      intro l f hl hf
      obtain ⟨f, rfl⟩ : ∃ q, f = q + 1 := ⟨f - 1, by omega⟩
      have e := ih (l+1) f (by omega) (by omega)
      rw [sps] at e
      rw [f_X3_spotsInUse_L, if_neg (by rw [show (10 : Int32) = nI 10 from rfl, pI_le (by omega) (by omega)]; omega)]
      rw [show (cT h v).S l = v (h+15) l from if_pos (by omega)] at e
      simp only [tn (show l < 2147483648 by omega), ib (show l < 10 by omega) (by omega), if_false, nI_add1, Int32.add_zero]
      by_cases c : v (h+15) l < 0
      · rw [if_pos c] at e ⊢; exact e
      · rw [if_neg c] at e ⊢; exact e
  exact this 10 0 100000 (by omega) (by omega)
theorem m_spots {w : jx_V} : f_X5_held w = some (sps (mT (w 1)) 10, w) := by
  have : ∀ d l f, l + d = 10 → d < f → f_X5_held_L f (sps (mT (w 1)) l) (nI l) w = some (sps (mT (w 1)) 10, w) := by
    intro d
    induction d with
    | zero =>
      intro l f hl hf
      obtain ⟨f, rfl⟩ : ∃ q, f = q + 1 := ⟨f - 1, by omega⟩
      rw [f_X5_held_L, if_pos (by rw [show (10 : Int32) = nI 10 from rfl, pI_le (by omega) (by omega)]; omega), show l = 10 by omega]
    | succ d ih =>
      intro l f hl hf
      obtain ⟨f, rfl⟩ : ∃ q, f = q + 1 := ⟨f - 1, by omega⟩
      have e := ih (l+1) f (by omega) (by omega)
      rw [sps] at e
      rw [f_X5_held_L, if_neg (by rw [show (10 : Int32) = nI 10 from rfl, pI_le (by omega) (by omega)]; omega)]
      rw [show (mT (w 1)).S l = w 1 (171 + l) from if_pos (by omega)] at e
      have e7 : 171 + nI l = nI (171 + l) := by unfold nI; simp [Int32.ofNat_add]
      simp only [e7, tn (show 171 + l < 2147483648 by omega), ib (show 171 + l < 181 by omega) (by omega), if_false, nI_add1, Int32.add_zero]
      by_cases c : w 1 (171 + l) < 0
      · rw [if_pos c] at e
        rw [if_neg (Int32.not_le.mpr c)]; exact e
      · rw [if_neg c] at e
        rw [if_pos (Int32.not_lt.mp c)]; exact e
  exact this 10 0 100000 (by omega) (by omega)
theorem q_count {v w a} (h : R v w) : Q (f_X4_count a v) (f_X5_count a w) := by
  unfold f_X4_count f_X5_count
  simp only [x_cnt, m_count, x_heights, m_heights, x_contracts (h := 1) h.ok, m_contracts h.ok', x_spots, m_spots, Option.bind_some, x_f0, m_f0, h.tl, tkm h, tkz h, tkn h, h.t]
  have hi : ∀ r, Q (some (r, v)) (some (r, w)) := fun r => Q_i h
  have hf : Q (some (-1000001, jx_up v 63 0 (v 63 0 + 1))) (some (-1000001, jx_up w 4 0 (w 4 0 + 1))) := Q_f h
  (repeat' split) <;> first | exact hf | exact hi _
theorem set_g (v : jx_V) (h : Nat) (f : Nat → Int32) (c : Nat) : jx_set v h f c = if c = h then f else v c := rfl
theorem cpy_g (f g : Nat → Int32) (n k : Nat) : va_cpy f g 0 0 n k = if k < n then f k else g k := by
  unfold va_cpy; by_cases h : k < n <;> simp [h]
def Far (h0 h1 : Nat) : Prop := h0 + 15 < h1 ∨ h1 + 15 < h0
def BF (h0 : Nat) (v v1 : jx_V) : Prop := ∀ c, (c < h0 ∨ h0 + 15 < c) → v1 c = v c
theorem t0 : Int32.toNatClampNeg 0 = 0 := rfl
theorem t4 : Int32.toNatClampNeg 4 = 4 := rfl
theorem t10 : Int32.toNatClampNeg 10 = 10 := rfl
theorem t25 : Int32.toNatClampNeg 25 = 25 := rfl
def B0 (h0 h1 q : Nat) (v v1 : jx_V) : Prop := BF h0 v v1 ∧ ∀ r, r < q → ∀ l, l < 25 → v1 (h0+3+r) l = v (h1+3+r) l
def B1 (h0 h1 q : Nat) (v v1 : jx_V) : Prop := B0 h0 h1 4 v v1 ∧ ∀ r, r < q → ∀ l, l < 10 → v1 (h0+7+r) l = v (h1+7+r) l
theorem x_bec0 {h0 h1 : Nat} {v : jx_V} (hf : Far h0 h1) : ∀ d q f v1, q + d = 4 → B0 h0 h1 q v v1 → ∃ v2, f_X3_become_L h0 h1 (f+d+1) 0 (nI q) v1 = f_X3_become_L h0 h1 f 1 0 v2 ∧ B0 h0 h1 4 v v2
  | 0, q, f, v1, hq, hb => by
    refine ⟨v1, ?_, by rw [← show q = 4 by omega]; exact hb⟩
    rw [f_X3_become_L, if_pos rfl, if_pos (by rw [← n4, pI_le (by omega) (by omega)]; omega)]
  | d + 1, q, f, v1, hq, hb => by
    have hb' : B0 h0 h1 (q+1) v (jx_set v1 (h0+3+q) (va_cpy (v1 (h1+3+q)) (v1 (h0+3+q)) 0 0 25)) := by
      refine ⟨fun c hc => ?_, fun r hr l hl => ?_⟩
      · rw [set_g, if_neg (by omega)]; exact hb.1 c hc
      · rw [set_g]
        by_cases e : h0 + 3 + r = h0 + 3 + q
        · rw [if_pos e, cpy_g, if_pos hl, show r = q by omega, hb.1 (h1+3+q) (by unfold Far at hf; omega)]
        · rw [if_neg e]; exact hb.2 r (by omega) l hl
    obtain ⟨v2, e, h2⟩ := x_bec0 hf d (q+1) f _ (by omega) hb'
    refine ⟨v2, ?_, h2⟩
    rw [show f + (d + 1) + 1 = (f + d + 1) + 1 by omega, f_X3_become_L, if_pos rfl, if_neg (by rw [← n4, pI_le (by omega) (by omega)]; omega)]
    simp only [tn (show q < 2147483648 by omega), ib (show q < 4 by omega) (by omega), if_false, t0, t25, nI_add1]
    exact e
theorem x_bec1 {h0 h1 : Nat} {v : jx_V} (hf : Far h0 h1) : ∀ d q f v1, q + d = 6 → B1 h0 h1 q v v1 → ∃ v2, f_X3_become_L h0 h1 (f+d) 1 (nI q) v1 = f_X3_become_L h0 h1 f 1 6 v2 ∧ B1 h0 h1 6 v v2
  | 0, q, f, v1, hq, hb => ⟨v1, by rw [show q = 6 by omega]; rfl, by rw [← show q = 6 by omega]; exact hb⟩
  | d + 1, q, f, v1, hq, hb => by
    have hb' : B1 h0 h1 (q+1) v (jx_set v1 (h0+7+q) (va_cpy (v1 (h1+7+q)) (v1 (h0+7+q)) 0 0 10)) := by
      refine ⟨⟨fun c hc => ?_, fun r hr l hl => ?_⟩, fun r hr l hl => ?_⟩
      · rw [set_g, if_neg (by omega)]; exact hb.1.1 c hc
      · rw [set_g, if_neg (by omega)]; exact hb.1.2 r hr l hl
      · rw [set_g]
        by_cases e : h0 + 7 + r = h0 + 7 + q
        · rw [if_pos e, cpy_g, if_pos hl, show r = q by omega, hb.1.1 (h1+7+q) (by unfold Far at hf; omega)]
        · rw [if_neg e]; exact hb.2 r (by omega) l hl
    obtain ⟨v2, e, h2⟩ := x_bec1 hf d (q+1) f _ (by omega) hb'
    refine ⟨v2, ?_, h2⟩
    rw [show f + (d + 1) = (f + d) + 1 by omega, f_X3_become_L, if_neg (by decide), if_pos rfl, if_neg (by rw [show (6 : Int32) = nI 6 from rfl, pI_le (by omega) (by omega)]; omega)]
    simp only [tn (show q < 2147483648 by omega), ib (show q < 6 by omega) (by omega), if_false, t0, t10, nI_add1]
    exact e
theorem cT_eq {h0 h1 : Nat} {v v' : jx_V} (a : ∀ r, r < 4 → ∀ l, l < 25 → v' (h0+3+r) l = v (h1+3+r) l) (b : ∀ r, r < 6 → ∀ l, l < 10 → v' (h0+7+r) l = v (h1+7+r) l) (c : ∀ l, l < 4 → v' (h0+13) l = v (h1+13) l) (u : ∀ l, l < 4 → v' (h0+14) l = v (h1+14) l) (s : ∀ l, l < 10 → v' (h0+15) l = v (h1+15) l) (n : v' h0 5 = v h1 5) (m : v' h0 6 = v h1 6) (z : v' h0 7 = v h1 7) (hn : (v h1 5).toNatClampNeg ≤ 10) : cT h0 v' = cT h1 v := by
  have a0 := a 0 (by omega)
  have a1 := a 1 (by omega)
  have a2 := a 2 (by omega)
  have a3 := a 3 (by omega)
  refine Tx ?_ ?_ ?_ ?_ ?_ ?_ ?_ ?_ n m z
  · funext l; show (if l < 25 then v' (h0+3+0) l else -1) = if l < 25 then v (h1+3+0) l else -1
    by_cases hl : l < 25
    · rw [if_pos hl, if_pos hl, a0 l hl]
    · rw [if_neg hl, if_neg hl]
  · funext l; show (if l < 25 ∧ 0 ≤ v' (h0+3+0) l then v' (h0+3+1) l else 0) = if l < 25 ∧ 0 ≤ v (h1+3+0) l then v (h1+3+1) l else 0
    by_cases hl : l < 25
    · rw [a0 l hl, a1 l hl]
    · rw [if_neg (by simp [hl]), if_neg (by simp [hl])]
  · funext l; show (if l < 25 ∧ 0 ≤ v' (h0+3+0) l then v' (h0+3+2) l else 0) = if l < 25 ∧ 0 ≤ v (h1+3+0) l then v (h1+3+2) l else 0
    by_cases hl : l < 25
    · rw [a0 l hl, a2 l hl]
    · rw [if_neg (by simp [hl]), if_neg (by simp [hl])]
  · funext l; show (if l < 25 ∧ 0 ≤ v' (h0+3+0) l then v' (h0+3+3) l else 0) = if l < 25 ∧ 0 ≤ v (h1+3+0) l then v (h1+3+3) l else 0
    by_cases hl : l < 25
    · rw [a0 l hl, a3 l hl]
    · rw [if_neg (by simp [hl]), if_neg (by simp [hl])]
  · funext k i; show (if k < 6 ∧ i < (v' h0 5).toNatClampNeg then v' (h0+7+k) i else 0) = if k < 6 ∧ i < (v h1 5).toNatClampNeg then v (h1+7+k) i else 0
    rw [n]
    by_cases hl : k < 6 ∧ i < (v h1 5).toNatClampNeg
    · rw [if_pos hl, if_pos hl, b k hl.1 i (by omega)]
    · rw [if_neg hl, if_neg hl]
  · funext l; show (if l < 4 then v' (h0+13) l else 0) = if l < 4 then v (h1+13) l else 0
    by_cases hl : l < 4
    · rw [if_pos hl, if_pos hl, c l hl]
    · rw [if_neg hl, if_neg hl]
  · funext l; show (if l < 4 then v' (h0+14) l else 0) = if l < 4 then v (h1+14) l else 0
    by_cases hl : l < 4
    · rw [if_pos hl, if_pos hl, u l hl]
    · rw [if_neg hl, if_neg hl]
  · funext l; show (if l < 10 then v' (h0+15) l else 0) = if l < 10 then v (h1+15) l else 0
    by_cases hl : l < 10
    · rw [if_pos hl, if_pos hl, s l hl]
    · rw [if_neg hl, if_neg hl]
theorem x_become {h0 h1 : Nat} {v : jx_V} (hf : Far h0 h1) (hn : (v h1 5).toNatClampNeg ≤ 10) : ∃ v', f_X3_become h0 h1 v = some v' ∧ BF h0 v v' ∧ cT h0 v' = cT h1 v := by
  obtain ⟨v2, e2, b2⟩ := x_bec0 (v := v) hf 4 0 99995 v (by omega) ⟨fun _ _ => rfl, fun r hr => by omega⟩
  obtain ⟨v3, e3, b3⟩ := x_bec1 (v := v) hf 6 0 99989 v2 (by omega) ⟨b2, fun r hr => by omega⟩
  have e : f_X3_become h0 h1 v = f_X3_become_L h0 h1 (99988+1) 1 6 v3 := e2.trans e3
  rw [e, f_X3_become_L, if_neg (by decide), if_pos rfl, if_pos (by decide)]
  have f1 : ∀ c, h1 ≤ c → c ≤ h1 + 15 → v3 c = v c := fun c _ _ => b3.1.1 c (by unfold Far at hf; omega)
  unfold Far at hf
  refine ⟨_, rfl, fun c hc => ?_, ?_⟩
  · rw [jx_up_ne (by omega), jx_up_ne (by omega), jx_up_ne (by omega), set_g, if_neg (by omega), set_g, if_neg (by omega), set_g, if_neg (by omega)]
    exact b3.1.1 c hc
  · simp only [t0, t4, t10]
    refine cT_eq (fun r hr l hl => ?_) (fun r hr l hl => ?_) (fun l hl => ?_) (fun l hl => ?_) (fun l hl => ?_) ?_ ?_ ?_ hn
    · rw [jx_up_ne (by omega), jx_up_ne (by omega), jx_up_ne (by omega), set_g, if_neg (by omega), set_g, if_neg (by omega), set_g, if_neg (by omega)]
      exact b3.1.2 r hr l hl
    · rw [jx_up_ne (by omega), jx_up_ne (by omega), jx_up_ne (by omega), set_g, if_neg (by omega), set_g, if_neg (by omega), set_g, if_neg (by omega)]
      exact b3.2 r hr l hl
    · rw [jx_up_ne (by omega), jx_up_ne (by omega), jx_up_ne (by omega), set_g, if_neg (by omega), set_g, if_neg (by omega), set_g, if_pos rfl, cpy_g, if_pos hl, f1 _ (by omega) (by omega)]
    · rw [jx_up_ne (by omega), jx_up_ne (by omega), jx_up_ne (by omega), set_g, if_neg (by omega), set_g, if_pos rfl, cpy_g, if_pos hl, set_g, if_neg (by omega), f1 _ (by omega) (by omega)]
    · rw [jx_up_ne (by omega), jx_up_ne (by omega), jx_up_ne (by omega), set_g, if_pos rfl, cpy_g, if_pos hl, set_g, if_neg (by omega), set_g, if_neg (by omega), f1 _ (by omega) (by omega)]
    · rw [up_g, if_neg (by omega), up_g, if_neg (by omega), up_s, set_g, if_neg (by omega), set_g, if_neg (by omega), set_g, if_neg (by omega), f1 _ (by omega) (by omega)]
    · rw [up_g, if_neg (by omega), up_s, jx_up_ne (by omega), set_g, if_neg (by omega), set_g, if_neg (by omega), set_g, if_neg (by omega), f1 _ (by omega) (by omega)]
    · rw [up_s, jx_up_ne (by omega), jx_up_ne (by omega), set_g, if_neg (by omega), set_g, if_neg (by omega), set_g, if_neg (by omega), f1 _ (by omega) (by omega)]
theorem mT_eq {s s' : Nat → Int32} (e : ∀ k, k < 181 → s' k = s k) (hn : (s 1).toNatClampNeg ≤ 10) : mT s' = mT s := by
  have e1 := e 1 (by omega)
  refine Tx ?_ ?_ ?_ ?_ ?_ ?_ ?_ ?_ e1 (e 0 (by omega)) (e 2 (by omega))
  · funext l; show (if l < 25 then s' (11+4*l) else -1) = if l < 25 then s (11+4*l) else -1
    by_cases hl : l < 25
    · rw [if_pos hl, if_pos hl, e _ (by omega)]
    · rw [if_neg hl, if_neg hl]
  · funext l; show (if l < 25 ∧ 0 ≤ s' (11+4*l) then s' (12+4*l) else 0) = if l < 25 ∧ 0 ≤ s (11+4*l) then s (12+4*l) else 0
    by_cases hl : l < 25
    · rw [e (11+4*l) (by omega), e (12+4*l) (by omega)]
    · rw [if_neg (by simp [hl]), if_neg (by simp [hl])]
  · funext l; show (if l < 25 ∧ 0 ≤ s' (11+4*l) then s' (13+4*l) else 0) = if l < 25 ∧ 0 ≤ s (11+4*l) then s (13+4*l) else 0
    by_cases hl : l < 25
    · rw [e (11+4*l) (by omega), e (13+4*l) (by omega)]
    · rw [if_neg (by simp [hl]), if_neg (by simp [hl])]
  · funext l; show (if l < 25 ∧ 0 ≤ s' (11+4*l) then s' (14+4*l) else 0) = if l < 25 ∧ 0 ≤ s (11+4*l) then s (14+4*l) else 0
    by_cases hl : l < 25
    · rw [e (11+4*l) (by omega), e (14+4*l) (by omega)]
    · rw [if_neg (by simp [hl]), if_neg (by simp [hl])]
  · funext k i; show (if k < 6 ∧ i < (s' 1).toNatClampNeg then s' (111+6*i+k) else 0) = if k < 6 ∧ i < (s 1).toNatClampNeg then s (111+6*i+k) else 0
    rw [e1]
    by_cases hl : k < 6 ∧ i < (s 1).toNatClampNeg
    · rw [if_pos hl, if_pos hl, e _ (by omega)]
    · rw [if_neg hl, if_neg hl]
  · funext l; show (if l < 4 then s' (3+l) else 0) = if l < 4 then s (3+l) else 0
    by_cases hl : l < 4
    · rw [if_pos hl, if_pos hl, e _ (by omega)]
    · rw [if_neg hl, if_neg hl]
  · funext l; show (if l < 4 then s' (7+l) else 0) = if l < 4 then s (7+l) else 0
    by_cases hl : l < 4
    · rw [if_pos hl, if_pos hl, e _ (by omega)]
    · rw [if_neg hl, if_neg hl]
  · funext l; show (if l < 10 then s' (171+l) else 0) = if l < 10 then s (171+l) else 0
    by_cases hl : l < 10
    · rw [if_pos hl, if_pos hl, e _ (by omega)]
    · rw [if_neg hl, if_neg hl]
/-- rows a copied onto row b, to k -/
def CP (a b k : Nat) (w w1 : jx_V) : Prop := (∀ c, c ≠ b → w1 c = w c) ∧ ∀ i, i < k → w1 b i = w a i
theorem CP_s {a b k w w1} (hab : a ≠ b) (h : CP a b k w w1) : CP a b (k+1) w (jx_up w1 b k (w1 a k)) := by
  refine ⟨fun c hc => by rw [jx_up_ne hc]; exact h.1 c hc, fun i hi => ?_⟩
  rw [up_g]
  by_cases e : i = k
  · rw [if_pos ⟨rfl, e⟩, e, h.1 a hab]
  · rw [if_neg (by omega)]; exact h.2 i (by omega)
theorem m_puts {w : jx_V} : ∃ w', f_X5_puts w = some w' ∧ CP 1 3 181 w w' := by
  have : ∀ d k f w1, k + d = 181 → d < f → CP 1 3 k w w1 → ∃ w', f_X5_puts_L f (nI k) w1 = some w' ∧ CP 1 3 181 w w' := by
    intro d
    induction d with
    | zero =>
      intro k f w1 hk hf h
      obtain ⟨f, rfl⟩ : ∃ q, f = q + 1 := ⟨f - 1, by omega⟩
      refine ⟨w1, ?_, by rw [← show k = 181 by omega]; exact h⟩
      rw [f_X5_puts_L, if_pos (by rw [show (181 : Int32) = nI 181 from rfl, pI_le (by omega) (by omega)]; omega)]
    | succ d ih =>
      intro k f w1 hk hf h
      obtain ⟨f, rfl⟩ : ∃ q, f = q + 1 := ⟨f - 1, by omega⟩
      obtain ⟨w', e, h'⟩ := ih (k+1) f _ (by omega) (by omega) (CP_s (by omega) h)
      refine ⟨w', ?_, h'⟩
      rw [f_X5_puts_L, if_neg (by rw [show (181 : Int32) = nI 181 from rfl, pI_le (by omega) (by omega)]; omega)]
      simp only [tn (show k < 2147483648 by omega), ib (show k < 181 by omega) (by omega), if_false, nI_add1]
      exact e
  exact this 181 0 100000 w (by omega) (by omega) ⟨fun _ _ => rfl, fun i hi => by omega⟩
theorem m_back {w : jx_V} : ∃ w', f_X5_putsBack w = some w' ∧ CP 3 1 181 w w' := by
  have : ∀ d k f w1, k + d = 181 → d < f → CP 3 1 k w w1 → ∃ w', f_X5_putsBack_L f (nI k) w1 = some w' ∧ CP 3 1 181 w w' := by
    intro d
    induction d with
    | zero =>
      intro k f w1 hk hf h
      obtain ⟨f, rfl⟩ : ∃ q, f = q + 1 := ⟨f - 1, by omega⟩
      refine ⟨w1, ?_, by rw [← show k = 181 by omega]; exact h⟩
      rw [f_X5_putsBack_L, if_pos (by rw [show (181 : Int32) = nI 181 from rfl, pI_le (by omega) (by omega)]; omega)]
    | succ d ih =>
      intro k f w1 hk hf h
      obtain ⟨f, rfl⟩ : ∃ q, f = q + 1 := ⟨f - 1, by omega⟩
      obtain ⟨w', e, h'⟩ := ih (k+1) f _ (by omega) (by omega) (CP_s (by omega) h)
      refine ⟨w', ?_, h'⟩
      rw [f_X5_putsBack_L, if_neg (by rw [show (181 : Int32) = nI 181 from rfl, pI_le (by omega) (by omega)]; omega)]
      simp only [tn (show k < 2147483648 by omega), ib (show k < 181 by omega) (by omega), if_false, nI_add1]
      exact e
  exact this 181 0 100000 w (by omega) (by omega) ⟨fun _ _ => rfl, fun i hi => by omega⟩
theorem m_image {w : jx_V} : ∃ w', f_X5_image w = some (1, jx_up w' 0 4 1) ∧ CP 1 2 181 w w' := by
  have : ∀ d k f w1, k + d = 181 → d < f → CP 1 2 k w w1 → ∃ w', f_X5_image_L f (nI k) w1 = some (1, jx_up w' 0 4 1) ∧ CP 1 2 181 w w' := by
    intro d
    induction d with
    | zero =>
      intro k f w1 hk hf h
      obtain ⟨f, rfl⟩ : ∃ q, f = q + 1 := ⟨f - 1, by omega⟩
      refine ⟨w1, ?_, by rw [← show k = 181 by omega]; exact h⟩
      rw [f_X5_image_L, if_pos (by rw [show (181 : Int32) = nI 181 from rfl, pI_le (by omega) (by omega)]; omega)]
    | succ d ih =>
      intro k f w1 hk hf h
      obtain ⟨f, rfl⟩ : ∃ q, f = q + 1 := ⟨f - 1, by omega⟩
      obtain ⟨w', e, h'⟩ := ih (k+1) f _ (by omega) (by omega) (CP_s (by omega) h)
      refine ⟨w', ?_, h'⟩
      rw [f_X5_image_L, if_neg (by rw [show (181 : Int32) = nI 181 from rfl, pI_le (by omega) (by omega)]; omega)]
      simp only [tn (show k < 2147483648 by omega), ib (show k < 181 by omega) (by omega), if_false, nI_add1]
      exact e
  exact this 181 0 100000 w (by omega) (by omega) ⟨fun _ _ => rfl, fun i hi => by omega⟩
theorem m_undo {F : Nat} {w : jx_V} (hF : 181 < F) : ∃ w', f_X5_undo_L F 0 w = some (w' 1 0, w') ∧ CP 2 1 181 w w' := by
  have : ∀ d k f w1, k + d = 181 → d < f → CP 2 1 k w w1 → ∃ w', f_X5_undo_L f (nI k) w1 = some (w' 1 0, w') ∧ CP 2 1 181 w w' := by
    intro d
    induction d with
    | zero =>
      intro k f w1 hk hf h
      obtain ⟨f, rfl⟩ : ∃ q, f = q + 1 := ⟨f - 1, by omega⟩
      refine ⟨w1, ?_, by rw [← show k = 181 by omega]; exact h⟩
      rw [f_X5_undo_L, if_pos (by rw [show (181 : Int32) = nI 181 from rfl, pI_le (by omega) (by omega)]; omega)]
    | succ d ih =>
      intro k f w1 hk hf h
      obtain ⟨f, rfl⟩ : ∃ q, f = q + 1 := ⟨f - 1, by omega⟩
      obtain ⟨w', e, h'⟩ := ih (k+1) f _ (by omega) (by omega) (CP_s (by omega) h)
      refine ⟨w', ?_, h'⟩
      rw [f_X5_undo_L, if_neg (by rw [show (181 : Int32) = nI 181 from rfl, pI_le (by omega) (by omega)]; omega)]
      simp only [tn (show k < 2147483648 by omega), ib (show k < 181 by omega) (by omega), if_false, nI_add1]
      exact e
  exact this 181 0 F w (by omega) (by omega) ⟨fun _ _ => rfl, fun i hi => by omega⟩
theorem q_image {v w} (h : R v w) : Q (f_X4_image v) (f_X5_image w) := by
  obtain ⟨N, hN, eN, eN2⟩ := cn h.ok
  obtain ⟨M, hM, eM, eM2⟩ := mn h.ok'
  obtain ⟨v', e1, b, et⟩ := x_become (v := v) (h0 := 17) (h1 := 1) (Or.inr (by omega)) (by omega)
  obtain ⟨w', e2, c⟩ := m_image (w := w)
  unfold f_X4_image
  rw [e1, e2]
  simp only [Option.bind_some]
  refine Q_i (R.mk ?_ ?_ ?_ ?_ ?_ ?_ ?_ ?_ ?_)
  · rw [cT_congr (v := v) (fun q _ _ => by rw [jx_up_ne (by omega), b q (by omega)]), jx_up_ne (by omega), c.1 1 (by omega)]; exact h.t
  · rw [cT_congr (v := v) (fun q _ _ => by rw [jx_up_ne (by omega), b q (by omega)])]; exact h.ok
  · rw [up_s, up_s]
  · exact Or.inr up_s
  · intro _
    rw [cT_congr (v := v') (fun q _ _ => by rw [jx_up_ne (by omega)]), jx_up_ne (by omega), et]
    refine ⟨?_, h.ok⟩
    rw [h.t]
    exact (mT_eq (fun k hk => c.2 k hk) (by omega)).symm
  · rw [jx_up_ne (by omega), b 53 (by omega), up_g, if_neg (by omega), c.1 0 (by omega)]; exact h.tl
  · rw [jx_up_ne (by omega), b 53 (by omega)]; exact h.tr
  · rw [jx_up_ne (by omega), b 54 (by omega), jx_up_ne (by omega), c.1 8 (by omega)]; exact h.tb
  · intro s hs
    rw [jx_up_ne (show 61 ≠ 0 by omega), jx_up_ne (show 62 ≠ 0 by omega), jx_up_ne (show 57 + s ≠ 0 by omega), jx_up_ne (show 9 ≠ 0 by omega), jx_up_ne (show 10 ≠ 0 by omega), jx_up_ne (show 11 ≠ 0 by omega), b 61 (by omega), b 62 (by omega), b (57+s) (by omega), c.1 9 (by omega), c.1 10 (by omega), c.1 11 (by omega)]
    exact h.s s hs
theorem q_undo {v w} (h : R v w) : Q (f_X4_undo v) (f_X5_undo w) := by
  unfold f_X4_undo f_X5_undo
  rw [← h.k]
  rcases h.kb with k0 | k1
  · rw [if_pos k0, if_pos k0]
    simp only [x_f3, m_f3, Option.bind_some]; exact Q_f h
  · rw [if_neg (by rw [k1]; decide), if_neg (by rw [k1]; decide)]
    obtain ⟨ek, ok⟩ := h.kt k1
    obtain ⟨N, hN, eN, eN2⟩ := cn ok
    obtain ⟨v', e1, b, et⟩ := x_become (v := v) (h0 := 1) (h1 := 17) (Or.inl (by omega)) (by omega)
    obtain ⟨w', e2, c⟩ := m_undo (F := 100000) (w := w) (by omega)
    have eM : (w 2 1).toNatClampNeg ≤ 10 := by
      have : v 17 5 = w 2 1 := congrArg Tn.n ek
      rw [← this]; omega
    have em : mT (w' 1) = cT 17 v := by rw [ek]; exact mT_eq (fun k hk => c.2 k hk) eM
    rw [e1, e2]
    simp only [Option.bind_some]
    rw [show v' 1 6 = w' 1 0 from (congrArg Tn.m et).trans (congrArg Tn.m em).symm]
    exact Q_i (R_town h (T := cT 17 v) (fun q hq => b q (by omega)) (by rw [b 53 (by omega)]) (fun q hq => c.1 q (by omega)) (by rw [c.1 0 (by omega)]) (by rw [c.1 0 (by omega)]) et em ok)
def grow (T : Tn) : Tn := (T.K, T.O, fun l => if l < 25 ∧ 0 ≤ T.K l then cap (T.H l + gr T l) else 0, T.P, T.W, T.C, T.U, T.S, T.n, T.m + 1, T.z)
theorem gr_r (T : Tn) (l : Nat) : gr T l = 0 ∨ gr T l = 1 := by
  unfold gr; (repeat' split) <;> first | exact Or.inl rfl | exact Or.inr rfl
theorem OK_grow {T} (hT : OK T) : OK (grow T) := by
  refine OK.mk hT.k hT.o (fun l => ?_) hT.p hT.w0 hT.w1 hT.w2 hT.w3 hT.w4 hT.n hT.s
  show ∃ q, q < 10 ∧ (if l < 25 ∧ 0 ≤ T.K l then cap (T.H l + gr T l) else 0) = nI q
  split
  · obtain ⟨j, hj, e⟩ := hT.h l
    rw [e]
    rcases gr_r T l with g | g
    · rw [g]; exact su_cap j hj 0 (by omega)
    · rw [g]; exact su_cap j hj 1 (by omega)
  · exact ⟨0, by omega, rfl⟩
theorem OK_paid {T} (hT : OK T) : OK (paid T) := OK.mk hT.k hT.o hT.h hT.p hT.w0 hT.w1 hT.w2 hT.w3 hT.w4 hT.n hT.s
def mon (T : Tn) : Tn := grow (paid T)
theorem OK_mon {T} (hT : OK T) : OK (mon T) := OK_grow (OK_paid hT)
theorem j_min9 {x v} : f_J9_min_7cf53 9 x v = some (cap x, v) := j_min
def HF (h : Nat) (v v' : jx_V) : Prop := ∀ c, (c < 50 ∨ 53 ≤ c) → (c < h ∨ h + 15 < c) → v' c = v c
theorem HF_r {h v} : HF h v v := fun _ _ _ => rfl
theorem HF_t {h u v w} (a : HF h u v) (b : HF h v w) : HF h u w := fun c x y => (b c x y).trans (a c x y)
theorem G_HF {h v v'} (g : G v v') : HF h v v' := fun c x _ => g c x
theorem x_grow {h : Nat} {v : jx_V} : ∃ v', f_X3_growAll h v = some v' ∧ (∀ c, c ≠ h → c ≠ h + 5 → v' c = v c) ∧ cT h v' = grow (cT h v) := by
  have : ∀ d l f v1, l + d = 25 → d < f → (∀ c, c ≠ h + 5 → v1 c = v c) → (∀ q, q < 25 → v1 (h+5) q = if q < l ∧ 0 ≤ v (h+3) q then cap (v (h+5) q + gr (cT h v) q) else v (h+5) q) →
      ∃ v2, f_X3_growAll_L h f (nI l) v1 = some (jx_up v2 h 6 (v2 h 6 + 1)) ∧ (∀ c, c ≠ h + 5 → v2 c = v c) ∧ (∀ q, q < 25 → v2 (h+5) q = if 0 ≤ v (h+3) q then cap (v (h+5) q + gr (cT h v) q) else v (h+5) q) := by
    intro d
    induction d with
    | zero =>
      intro l f v1 hl hf h1 h2
      obtain ⟨f, rfl⟩ : ∃ q, f = q + 1 := ⟨f - 1, by omega⟩
      refine ⟨v1, ?_, h1, fun q hq => ?_⟩
      · rw [f_X3_growAll_L, if_pos (by rw [show (25 : Int32) = nI 25 from rfl, pI_le (by omega) (by omega)]; omega)]
      · rw [h2 q hq]; simp only [show q < l by omega, true_and]
    | succ d ih =>
      intro l f v1 hl hf h1 h2
      obtain ⟨f, rfl⟩ : ∃ q, f = q + 1 := ⟨f - 1, by omega⟩
      have hl' : l < 25 := by omega
      rw [f_X3_growAll_L, if_neg (by rw [show (25 : Int32) = nI 25 from rfl, pI_le (by omega) (by omega)]; omega), x_taken hl', Option.bind_some, h1 (h+3) (by omega)]
      have eg : gr (cT h v1) l = gr (cT h v) l := by
        unfold gr
        rw [cK hl', cK hl', h1 (h+3) (by omega), show (cT h v1).m = v1 h 6 from rfl, show (cT h v).m = v h 6 from rfl, h1 h (by omega)]
      by_cases c : v (h+3) l < 0
      · simp only [if_pos c, z00, if_true, nI_add1]
        refine ih (l+1) f v1 (by omega) (by omega) h1 (fun q hq => ?_)
        rw [h2 q hq]
        by_cases e : q = l
        · subst e; simp [Int32.not_le.mpr c]
        · simp only [show (q < l + 1) = (q < l) by simp; omega]
      · simp only [if_neg c, o10, if_false, x_growth hl', Option.bind_some, j_min9, tn (show l < 2147483648 by omega), ib hl' (by omega), nI_add1, eg]
        refine ih (l+1) f _ (by omega) (by omega) (fun q hq => by rw [jx_up_ne hq]; exact h1 q hq) (fun q hq => ?_)
        rw [up_g]
        by_cases e : q = l
        · subst e
          rw [if_pos ⟨rfl, rfl⟩, if_pos ⟨by omega, Int32.not_lt.mp c⟩, h2 q hq, if_neg (by omega)]
        · rw [if_neg (by omega), h2 q hq]
          simp only [show (q < l + 1) = (q < l) by simp; omega]
  obtain ⟨v2, e, h1, h2⟩ := this 25 0 100000 v (by omega) (by omega) (fun _ _ => rfl) (fun q _ => by rw [if_neg (by omega)])
  refine ⟨_, e, fun c hc hc5 => by rw [jx_up_ne hc]; exact h1 c hc5, ?_⟩
  have eK : (jx_up v2 h 6 (v2 h 6 + 1)) (h+3) = v (h+3) := by rw [jx_up_ne (by omega), h1 _ (by omega)]
  have eo : ∀ c, c ≠ h → c ≠ h + 5 → (jx_up v2 h 6 (v2 h 6 + 1)) c = v c := fun c a b => by rw [jx_up_ne a, h1 c b]
  have en : (jx_up v2 h 6 (v2 h 6 + 1)) h 5 = v h 5 := by rw [up_g, if_neg (by omega), h1 h (by omega)]
  refine Tx ?_ ?_ ?_ ?_ ?_ ?_ ?_ ?_ en ?_ ?_
  · funext l; show (if l < 25 then _ else _) = (if l < 25 then v (h+3) l else -1); rw [eK]
  · funext l; show (if l < 25 ∧ 0 ≤ _ then _ else _) = (if l < 25 ∧ 0 ≤ v (h+3) l then v (h+4) l else 0); rw [eK, eo (h+4) (by omega) (by omega)]
  · funext l
    show (if l < 25 ∧ 0 ≤ _ then _ else _) = (if l < 25 ∧ 0 ≤ (cT h v).K l then cap ((cT h v).H l + gr (cT h v) l) else 0)
    rw [eK]
    by_cases hl : l < 25
    · rw [cK hl]
      by_cases ht : 0 ≤ v (h+3) l
      · rw [if_pos ⟨hl, ht⟩, if_pos ⟨hl, ht⟩, jx_up_ne (by omega), h2 l hl, if_pos ht, cH hl ht]
      · simp [ht]
    · simp [hl]
  · funext l; show (if l < 25 ∧ 0 ≤ _ then _ else _) = (if l < 25 ∧ 0 ≤ v (h+3) l then v (h+6) l else 0); rw [eK, eo (h+6) (by omega) (by omega)]
  · funext a i; show (if a < 6 ∧ i < ((jx_up v2 h 6 (v2 h 6 + 1)) h 5).toNatClampNeg then _ else _) = (if a < 6 ∧ i < (v h 5).toNatClampNeg then v (h+7+a) i else 0); rw [en, eo (h+7+a) (by omega) (by omega)]
  · funext l; show (if l < 4 then _ else _) = (if l < 4 then v (h+13) l else 0); rw [eo (h+13) (by omega) (by omega)]
  · funext l; show (if l < 4 then _ else _) = (if l < 4 then v (h+14) l else 0); rw [eo (h+14) (by omega) (by omega)]
  · funext l; show (if l < 10 then _ else _) = (if l < 10 then v (h+15) l else 0); rw [eo (h+15) (by omega) (by omega)]
  · show (jx_up v2 h 6 (v2 h 6 + 1)) h 6 = v h 6 + 1; rw [up_s, h1 h (by omega)]
  · show (jx_up v2 h 6 (v2 h 6 + 1)) h 7 = v h 7; rw [up_g, if_neg (by omega), h1 h (by omega)]
theorem grow_HF {h v v'} (e : ∀ c, c ≠ h → c ≠ h + 5 → v' c = v c) : HF h v v' := fun c _ b => e c (by omega) (by omega)
/-- frame of a month of the reference -/
def FY (w w' : jx_V) : Prop := (∀ c, c ≠ 0 → c ≠ 1 → c ≠ 5 → c ≠ 6 → w' c = w c) ∧ ∀ i, i ≠ 6 → i ≠ 7 → i ≠ 8 → w' 0 i = w 0 i
theorem FY_r {w} : FY w w := ⟨fun _ _ _ _ _ => rfl, fun _ _ _ _ => rfl⟩
theorem FY_t {u v w} (a : FY u v) (b : FY v w) : FY u w := ⟨fun c x y z t => (b.1 c x y z t).trans (a.1 c x y z t), fun c x y z => (b.2 c x y z).trans (a.2 c x y z)⟩
theorem FM_FY {w w'} (a : FM w w') : FY w w' := ⟨fun c x _ z t => a.1 c x z t, a.2⟩
theorem up_FY {w i x} : FY w (jx_up w 1 i x) := ⟨fun c _ b _ _ => jx_up_ne b, fun i _ _ _ => by rw [jx_up_ne (by omega)]⟩
theorem s7_n {q : Nat} : 7 + nI q = nI (7 + q) := by unfold nI; simp [Int32.ofNat_add]
theorem m_mon0 {r : Int32} {w : jx_V} : ∀ d o f w1, o + d = 4 → (∀ c, c ≠ 1 → w1 c = w c) → (∀ k, w1 1 k = if 7 ≤ k ∧ k < 7 + o then w 1 k + w 6 (k - 7) else w 1 k) →
    ∃ w2, f_X5_month_L (f + d + 1) 0 r (nI o) w1 = f_X5_month_L f 1 r 0 w2 ∧ (∀ c, c ≠ 1 → w2 c = w c) ∧ ∀ k, w2 1 k = if 7 ≤ k ∧ k < 11 then w 1 k + w 6 (k - 7) else w 1 k
  | 0, o, f, w1, ho, h1, h2 => by
    refine ⟨w1, ?_, h1, by rw [show 11 = 7 + o by omega]; exact h2⟩
    rw [f_X5_month_L, if_pos rfl, if_pos (by rw [← n4, pI_le (by omega) (by omega)]; omega)]
  | d + 1, o, f, w1, ho, h1, h2 => by
    obtain ⟨w2, e, g1, g2⟩ := m_mon0 (r := r) (w := w) d (o+1) f (jx_up w1 1 (7+o) (w1 1 (7+o) + w1 6 o)) (by omega) (fun c hc => by rw [jx_up_ne hc]; exact h1 c hc) (fun k => by
      rw [up_g]
      by_cases e : k = 7 + o
      · subst e
        rw [if_pos ⟨rfl, rfl⟩, if_pos (by omega), h2, if_neg (by omega), h1 6 (by omega), show 7 + o - 7 = o by omega]
      · rw [if_neg (by omega), h2 k]
        by_cases c : 7 ≤ k ∧ k < 7 + o
        · rw [if_pos c, if_pos (by omega)]
        · rw [if_neg c, if_neg (by omega)])
    refine ⟨w2, ?_, g1, g2⟩
    rw [show f + (d + 1) + 1 = (f + d + 1) + 1 by omega, f_X5_month_L, if_pos rfl, if_neg (by rw [← n4, pI_le (by omega) (by omega)]; omega)]
    simp only [s7_n, tn (show o < 2147483648 by omega), tn (show 7 + o < 2147483648 by omega), ib (show o < 4 by omega) (by omega), ib (show 7 + o < 181 by omega) (by omega), if_false, nI_add1]
    exact e
theorem m_mon1 {r : Int32} {w : jx_V} : ∀ d l f w1, l + d = 25 → d < f → (∀ c, c ≠ 1 → w1 c = w c) → (∀ k, (∀ q, q < 25 → k ≠ 13 + 4 * q) → w1 1 k = w 1 k) → (∀ q, q < 25 → 0 ≤ w 1 (11 + 4 * q) → w1 1 (13 + 4 * q) = if q < l then cap (w 1 (13 + 4 * q) + gr (mT (w 1)) q) else w 1 (13 + 4 * q)) →
    ∃ w2, f_X5_month_L f 1 r (nI l) w1 = some (r, jx_up w2 1 0 (w 1 0 + 1)) ∧ (∀ c, c ≠ 1 → w2 c = w c) ∧ (∀ k, (∀ q, q < 25 → k ≠ 13 + 4 * q) → w2 1 k = w 1 k) ∧ (∀ q, q < 25 → 0 ≤ w 1 (11 + 4 * q) → w2 1 (13 + 4 * q) = cap (w 1 (13 + 4 * q) + gr (mT (w 1)) q)) := by
  intro d
  induction d with
  | zero =>
    intro l f w1 hl hf h1 h2 h3
    obtain ⟨f, rfl⟩ : ∃ q, f = q + 1 := ⟨f - 1, by omega⟩
    refine ⟨w1, ?_, h1, h2, fun q hq ht => ?_⟩
    · rw [f_X5_month_L, if_neg (by decide), if_pos rfl, if_pos (by rw [show (25 : Int32) = nI 25 from rfl, pI_le (by omega) (by omega)]; omega), h2 0 (fun q _ => by omega)]
    · rw [h3 q hq ht, if_pos (by omega)]
  | succ d ih =>
    intro l f w1 hl hf h1 h2 h3
    obtain ⟨f, rfl⟩ : ∃ q, f = q + 1 := ⟨f - 1, by omega⟩
    have hl' : l < 25 := by omega
    have e11 : w1 1 (11 + 4 * l) = w 1 (11 + 4 * l) := h2 _ (fun q _ => by omega)
    have eg : gr (mT (w1 1)) l = gr (mT (w 1)) l := by
      unfold gr
      rw [mK hl', mK hl', e11, show (mT (w1 1)).m = w1 1 0 from rfl, show (mT (w 1)).m = w 1 0 from rfl, h2 0 (fun q _ => by omega)]
    rw [f_X5_month_L, if_neg (by decide), if_pos rfl, if_neg (by rw [show (25 : Int32) = nI 25 from rfl, pI_le (by omega) (by omega)]; omega)]
    simp only [m_its2 hl', m_thing hl', Option.bind_some, e11, f_X5_at, at2, tn (show 13 + 4 * l < 2147483648 by omega), ib (show 13 + 4 * l < 181 by omega) (by omega), if_false, nI_add1, m_grows hl', eg]
    have st : ∀ x, (0 ≤ w 1 (11 + 4 * l) → x = cap (w 1 (13 + 4 * l) + gr (mT (w 1)) l)) → ∃ w2, f_X5_month_L f 1 r (nI (l+1)) (jx_up w1 1 (13 + 4 * l) x) = some (r, jx_up w2 1 0 (w 1 0 + 1)) ∧ (∀ c, c ≠ 1 → w2 c = w c) ∧ (∀ k, (∀ q, q < 25 → k ≠ 13 + 4 * q) → w2 1 k = w 1 k) ∧ (∀ q, q < 25 → 0 ≤ w 1 (11 + 4 * q) → w2 1 (13 + 4 * q) = cap (w 1 (13 + 4 * q) + gr (mT (w 1)) q)) := by
      intro x hx
      refine ih (l+1) f _ (by omega) (by omega) (fun c hc => by rw [jx_up_ne hc]; exact h1 c hc) (fun k hk => by rw [up_g, if_neg (by have := hk l hl'; omega)]; exact h2 k hk) (fun q hq ht => ?_)
      rw [up_g]
      by_cases e : q = l
      · subst e; rw [if_pos ⟨rfl, rfl⟩, if_pos (by omega)]; exact hx ht
      · rw [if_neg (by omega), h3 q hq ht]; simp only [show (q < l + 1) = (q < l) by simp; omega]
    by_cases c : w 1 (11 + 4 * l) < 0
    · simp only [if_pos c, z00, if_true]
      split <;> exact st _ (fun q => absurd q (Int32.not_le.mpr c))
    · have ht : 0 ≤ w 1 (11 + 4 * l) := Int32.not_lt.mp c
      have e13 : w1 1 (13 + 4 * l) = w 1 (13 + 4 * l) := by rw [h3 l hl' ht, if_neg (by omega)]
      simp only [if_neg c, o10, if_false, e13]
      split
      · rename_i c9; exact st _ (fun _ => by unfold cap; rw [if_pos c9])
      · rename_i c9; exact st _ (fun _ => by unfold cap; rw [if_neg c9])
theorem m_month {w : jx_V} (hT : OK (mT (w 1))) : ∃ w', f_X5_month w = some (rs (mT (w 1)), w') ∧ FY w w' ∧ mT (w' 1) = mon (mT (w 1)) := by
  obtain ⟨N, hN, eN, eN2⟩ := mn hT
  obtain ⟨w1, e1, g1, hg⟩ := m_gains hT
  obtain ⟨w2, e2, a2, b2⟩ := m_mon0 (r := rs (mT (w 1))) (w := w1) 4 0 99995 w1 (by omega) (fun _ _ => rfl) (fun k => by rw [if_neg (by omega)])
  obtain ⟨w3, e3, a3, b3, c3⟩ := m_mon1 (r := rs (mT (w 1))) (w := w2) 25 0 99995 w2 (by omega) (by omega) (fun _ _ => rfl) (fun _ _ => rfl) (fun q _ _ => by rw [if_neg (by omega)])
  have er : w1 1 = w 1 := FM_1 g1
  have b2' : ∀ k, w2 1 k = if 7 ≤ k ∧ k < 11 then w 1 k + gs (mT (w 1)) (k - 7) else w 1 k := by
    intro k
    rw [b2 k, er]
    by_cases c : 7 ≤ k ∧ k < 11
    · rw [if_pos c, if_pos c, hg (k-7) (by omega)]
    · rw [if_neg c, if_neg c]
  refine ⟨jx_up w3 1 0 (w2 1 0 + 1), ?_, ?_, ?_⟩
  · unfold f_X5_month
    rw [e1, Option.bind_some]
    exact e2.trans e3
  · refine FY_t (FM_FY g1) (FY_t ?_ up_FY)
    exact ⟨fun c _ b _ _ => (a3 c b).trans (a2 c b), fun i _ _ _ => by rw [a3 0 (by omega), a2 0 (by omega)]⟩
  · rw [up_c]
    have eK : ∀ l, l < 25 → w2 1 (11 + 4 * l) = w 1 (11 + 4 * l) := fun l hl => by rw [b2', if_neg (by omega)]
    have k3 : ∀ k, k ≠ 0 → (∀ q, q < 25 → k ≠ 13 + 4 * q) → ¬ (7 ≤ k ∧ k < 11) → upd (w3 1) 0 (w2 1 0 + 1) k = w 1 k := fun k h0 h1 h2 => by
      unfold upd; rw [if_neg h0, b3 k h1, b2', if_neg h2]
    have e1' : upd (w3 1) 0 (w2 1 0 + 1) 1 = w 1 1 := k3 1 (by omega) (fun q _ => by omega) (by omega)
    have em2 : (mT (w2 1)).m = (mT (w 1)).m := by show w2 1 0 = w 1 0; rw [b2', if_neg (by omega)]
    refine Tx ?_ ?_ ?_ ?_ ?_ ?_ ?_ ?_ e1' ?_ ?_
    · funext l; show (if l < 25 then _ else _) = (if l < 25 then w 1 (11+4*l) else -1)
      by_cases hl : l < 25
      · rw [if_pos hl, if_pos hl, k3 _ (by omega) (fun q _ => by omega) (by omega)]
      · rw [if_neg hl, if_neg hl]
    · funext l; show (if l < 25 ∧ 0 ≤ upd (w3 1) 0 (w2 1 0 + 1) (11+4*l) then _ else _) = (if l < 25 ∧ 0 ≤ w 1 (11+4*l) then w 1 (12+4*l) else 0)
      rw [k3 (11+4*l) (by omega) (fun q _ => by omega) (by omega), k3 (12+4*l) (by omega) (fun q _ => by omega) (by omega)]
    · funext l
      show (if l < 25 ∧ 0 ≤ upd (w3 1) 0 (w2 1 0 + 1) (11+4*l) then _ else _) = (if l < 25 ∧ 0 ≤ (mT (w 1)).K l then cap ((mT (w 1)).H l + gr (paid (mT (w 1))) l) else 0)
      rw [k3 (11+4*l) (by omega) (fun q _ => by omega) (by omega)]
      by_cases hl : l < 25
      · rw [mK hl]
        by_cases ht : 0 ≤ w 1 (11+4*l)
        · rw [if_pos ⟨hl, ht⟩, if_pos ⟨hl, ht⟩, mH hl ht]
          unfold upd
          rw [if_neg (by omega), c3 l hl (by rw [eK l hl]; exact ht), b2' (13+4*l), if_neg (by omega)]
          have : gr (mT (w2 1)) l = gr (paid (mT (w 1))) l := by
            unfold gr
            rw [em2, mK hl, eK l hl, show (paid (mT (w 1))).K l = (mT (w 1)).K l from rfl, mK hl]; rfl
          rw [this]
        · simp [ht]
      · simp [hl]
    · funext l; show (if l < 25 ∧ 0 ≤ upd (w3 1) 0 (w2 1 0 + 1) (11+4*l) then _ else _) = (if l < 25 ∧ 0 ≤ w 1 (11+4*l) then w 1 (14+4*l) else 0)
      rw [k3 (11+4*l) (by omega) (fun q _ => by omega) (by omega), k3 (14+4*l) (by omega) (fun q _ => by omega) (by omega)]
    · funext a i
      show (if a < 6 ∧ i < (upd (w3 1) 0 (w2 1 0 + 1) 1).toNatClampNeg then _ else _) = (if a < 6 ∧ i < (w 1 1).toNatClampNeg then w 1 (111+6*i+a) else 0)
      rw [e1', k3 (111+6*i+a) (by omega) (fun q _ => by omega) (by omega)]
    · funext l; show (if l < 4 then _ else _) = (if l < 4 then w 1 (3+l) else 0)
      by_cases hl : l < 4
      · rw [if_pos hl, if_pos hl, k3 _ (by omega) (fun q _ => by omega) (by omega)]
      · rw [if_neg hl, if_neg hl]
    · funext l
      show (if l < 4 then upd (w3 1) 0 (w2 1 0 + 1) (7 + l) else _) = (if l < 4 then (if l < 4 then w 1 (7+l) else 0) + gs (mT (w 1)) l else 0)
      by_cases hl : l < 4
      · rw [if_pos hl, if_pos hl, if_pos hl]
        unfold upd
        rw [if_neg (by omega), b3 _ (fun q _ => by omega), b2', if_pos (by omega), show 7 + l - 7 = l by omega]
      · rw [if_neg hl, if_neg hl]
    · funext l; show (if l < 10 then _ else _) = (if l < 10 then w 1 (171+l) else 0)
      rw [k3 (171+l) (by omega) (fun q _ => by omega) (by omega)]
    · show upd (w3 1) 0 (w2 1 0 + 1) 0 = w 1 0 + 1
      unfold upd; rw [if_pos rfl, b2' 0, if_neg (by omega)]
    · show upd (w3 1) 0 (w2 1 0 + 1) 2 = w 1 2
      exact k3 2 (by omega) (fun q _ => by omega) (by omega)

def mit (T : Tn) : Nat → Tn
  | 0 => T
  | k + 1 => mon (mit T k)
def mss (T : Tn) : Nat → Int32
  | 0 => 0
  | k + 1 => mss T k + rs (mit T k)
def git (T : Tn) : Nat → Tn
  | 0 => T
  | k + 1 => grow (git T k)
theorem OK_mit {T} (hT : OK T) : ∀ k, OK (mit T k)
  | 0 => hT
  | k + 1 => OK_mon (OK_mit hT k)
theorem OK_git {T} (hT : OK T) : ∀ k, OK (git T k)
  | 0 => hT
  | k + 1 => OK_grow (OK_git hT k)
theorem x_pass {h n : Nat} {v : jx_V} (hh : h + 15 < 50) (hn : n ≤ 1000) (hT : OK (cT h v)) : ∃ v', f_X4_passMonths h (nI n) v = some (mss (cT h v) n, v') ∧ HF h v v' ∧ cT h v' = mit (cT h v) n := by
  have : ∀ d k f v1, k + d = n → d < f → HF h v v1 → cT h v1 = mit (cT h v) k → ∃ v', f_X4_passMonths_L h f (nI n) (mss (cT h v) k) (nI k) v1 = some (mss (cT h v) n, v') ∧ HF h v v' ∧ cT h v' = mit (cT h v) n := by
    intro d
    induction d with
    | zero =>
      intro k f v1 hk hf h1 h2
      obtain ⟨f, rfl⟩ : ∃ q, f = q + 1 := ⟨f - 1, by omega⟩
      refine ⟨v1, ?_, h1, by rw [← show k = n by omega]; exact h2⟩
      rw [f_X4_passMonths_L, if_pos (by rw [pI_le (by omega) (by omega)]; omega), show k = n by omega]
    | succ d ih =>
      intro k f v1 hk hf h1 h2
      obtain ⟨f, rfl⟩ : ∃ q, f = q + 1 := ⟨f - 1, by omega⟩
      obtain ⟨v2, e2, g2, t2⟩ := x_payAll (v := v1) hh (by rw [h2]; exact OK_mit hT k)
      obtain ⟨v3, e3, g3, t3⟩ := x_grow (h := h) (v := v2)
      obtain ⟨v', e', h', t'⟩ := ih (k+1) f v3 (by omega) (by omega) (HF_t h1 (HF_t (fun c a b => g2 c a (by omega)) (grow_HF g3))) (by rw [t3, t2, h2]; rfl)
      refine ⟨v', ?_, h', t'⟩
      rw [f_X4_passMonths_L, if_neg (by rw [pI_le (by omega) (by omega)]; omega), e2]
      simp only [Option.bind_some, e3, nI_add1]
      rw [h2]
      exact e'
  exact this n 0 100000 v (by omega) (by omega) HF_r rfl
theorem m_pass {n : Nat} {w : jx_V} (hn : n ≤ 1000) (hT : OK (mT (w 1))) : ∃ w', f_X5_monthsGo (nI n) w = some (mss (mT (w 1)) n, w') ∧ FY w w' ∧ mT (w' 1) = mit (mT (w 1)) n := by
  have : ∀ d k f w1, k + d = n → d < f → FY w w1 → mT (w1 1) = mit (mT (w 1)) k → ∃ w', f_X5_monthsGo_L f (nI n) (mss (mT (w 1)) k) (nI k) w1 = some (mss (mT (w 1)) n, w') ∧ FY w w' ∧ mT (w' 1) = mit (mT (w 1)) n := by
    intro d
    induction d with
    | zero =>
      intro k f v1 hk hf h1 h2
      obtain ⟨f, rfl⟩ : ∃ q, f = q + 1 := ⟨f - 1, by omega⟩
      refine ⟨v1, ?_, h1, by rw [← show k = n by omega]; exact h2⟩
      rw [f_X5_monthsGo_L, if_pos (by rw [pI_le (by omega) (by omega)]; omega), show k = n by omega]
    | succ d ih =>
      intro k f v1 hk hf h1 h2
      obtain ⟨f, rfl⟩ : ∃ q, f = q + 1 := ⟨f - 1, by omega⟩
      obtain ⟨v2, e2, g2, t2⟩ := m_month (w := v1) (by rw [h2]; exact OK_mit hT k)
      obtain ⟨v', e', h', t'⟩ := ih (k+1) f v2 (by omega) (by omega) (FY_t h1 g2) (by rw [t2, h2]; rfl)
      refine ⟨v', ?_, h', t'⟩
      rw [f_X5_monthsGo_L, if_neg (by rw [pI_le (by omega) (by omega)]; omega), e2]
      simp only [Option.bind_some, nI_add1]
      rw [h2]
      exact e'
  exact this n 0 100000 w (by omega) (by omega) FY_r rfl
theorem R_HF {v w v' w' T} (h : R v w) (a : HF 1 v v') (b : FY w w') (e1 : cT 1 v' = T) (e2 : mT (w' 1) = T) (hT : OK T) : R v' w' :=
  R_town h (fun c hc => a c (by omega) (by omega)) (by rw [a 53 (by omega) (by omega)]) (fun c hc => b.1 c (by omega) (by omega) (by omega) (by omega)) (b.2 4 (by omega) (by omega) (by omega)) (b.2 12 (by omega) (by omega) (by omega)) e1 e2 hT
theorem q_months {v w a} (h : R v w) : Q (f_X4_months a v) (f_X5_months a w) := by
  unfold f_X4_months f_X5_months f_X5_isTooLate
  simp only [m_in_1_60, Option.bind_some, x_f0, m_f0, x_f4, m_f4]
  by_cases c1 : 1 ≤ a ∧ a ≤ 60
  · obtain ⟨n, hn, rfl⟩ := ix (n := 60) rfl (by omega) ⟨by grind, c1.2⟩
    rw [if_neg (by grind), if_pos c1.2]
    simp only [if_pos c1, o10, if_false, tkm h]
    by_cases c2 : w 1 0 + nI n ≤ 999
    · simp only [if_pos c2, z00, if_true, Option.bind_some]
      obtain ⟨v', e1, g1, t1⟩ := x_pass (h := 1) (n := n) (by omega) (by omega) h.ok
      obtain ⟨w', e2, g2, t2⟩ := m_pass (n := n) (by omega) h.ok'
      simp only [e1, e2, Option.bind_some]
      rw [h.t]
      exact Q_i (R_HF h g1 g2 t1 (by rw [t2, h.t]) (OK_mit h.ok n))
    · simp only [if_neg c2, o10, if_false, Option.bind_some]; exact Q_f h
  · simp only [if_neg c1, z00, if_true]
    by_cases c3 : a < 1
    · rw [if_pos c3]; exact Q_f h
    · rw [if_neg c3, if_neg (by grind)]; exact Q_f h
theorem R_back {v w v' w1 w2 w'} (h : R v w) (a : SX v v') (p : CP 1 3 181 w w1) (y : FY w1 w2) (b : CP 3 1 181 w2 w') : R v' w' := by
  obtain ⟨M, hM, eM, eM2⟩ := mn h.ok'
  have e : mT (w' 1) = mT (w 1) := mT_eq (fun k hk => by rw [b.2 k hk, y.1 3 (by omega) (by omega) (by omega) (by omega), p.2 k hk]) (by omega)
  have c' : ∀ c, c ≠ 0 → c ≠ 1 → c ≠ 3 → c ≠ 5 → c ≠ 6 → w' c = w c := fun c h0 h1 h3 h5 h6 => by rw [b.1 c h1, y.1 c h0 h1 h5 h6, p.1 c h3]
  have c0 : ∀ i, i ≠ 6 → i ≠ 7 → i ≠ 8 → w' 0 i = w 0 i := fun i h6 h7 h8 => by rw [b.1 0 (by omega), y.2 i h6 h7 h8, p.1 0 (by omega)]
  exact R_town h (T := cT 1 v) (fun c hc => a.1 c (by omega)) a.2 (fun c hc => c' c (by omega) (by omega) (by omega) (by omega) (by omega)) (c0 4 (by omega) (by omega) (by omega)) (c0 12 (by omega) (by omega) (by omega)) (SX_c (by omega) a) (by rw [e, h.t]) h.ok
theorem BF_SX {v v'} (b : BF 33 v v') : SX v v' := ⟨fun c hc => b c (by omega), by rw [b 53 (by omega)]⟩
theorem HF_SX {v v'} (b : HF 33 v v') : SX v v' := ⟨fun c hc => b c (by omega) (by omega), by rw [b 53 (by omega) (by omega)]⟩
theorem CP_1 {w w1} (p : CP 1 3 181 w w1) : w1 1 = w 1 := p.1 1 (by omega)
theorem q_ahead {v w a b} (h : R v w) : Q (f_X4_ahead a b v) (f_X5_ahead a b w) := by
  unfold f_X4_ahead f_X5_ahead f_X5_isTooLate
  simp only [x_w121, x_w7, m_in_0_120, m_in_0_6, Option.bind_some, x_f0, m_f0, x_f4, m_f4]
  by_cases c1 : 0 ≤ a ∧ a ≤ 120
  · obtain ⟨n, hn, rfl⟩ := ix (n := 120) rfl (by omega) c1
    by_cases c2 : 0 ≤ b ∧ b ≤ 6
    · simp only [if_pos c1, if_pos c2, o10, if_false, tkm h]
      by_cases c3 : w 1 0 + nI n ≤ 999
      · obtain ⟨N, hN, eN, eN2⟩ := cn h.ok
        obtain ⟨v1, e1, b1, t1⟩ := x_become (v := v) (h0 := 33) (h1 := 1) (Or.inr (by omega)) (by omega)
        have ok1 : OK (cT 33 v1) := by rw [t1]; exact h.ok
        obtain ⟨v2, e2, g2, t2⟩ := x_pass (h := 33) (n := n) (by omega) (by omega) ok1
        rw [t1] at e2 t2
        obtain ⟨w1, d1, p1⟩ := m_puts (w := w)
        obtain ⟨w2, d2, y2, s2⟩ := m_pass (w := w1) (n := n) (by omega) (by rw [CP_1 p1]; exact h.ok')
        rw [CP_1 p1, ← h.t] at d2 s2
        have sx := SX_t (BF_SX b1) (HF_SX g2)
        simp only [if_pos c3, z00, if_true, Option.bind_some, e1, e2, d1, d2]
        obtain ⟨q, hq, rfl⟩ := ix (n := 6) rfl (by omega) c2
        have fin : ∀ r v3 w3, G v2 v3 → FM w2 w3 → Q (some (r, v3)) ((f_X5_putsBack w3).bind (fun v18 => some (r, v18))) := by
          intro r v3 w3 g3 f3
          obtain ⟨w4, d4, p4⟩ := m_back (w := w3)
          rw [d4]
          simp only [Option.bind_some]
          exact Q_i (R_back h (SX_t sx (G_SX g3)) p1 (FY_t y2 (FM_FY f3)) p4)
        have gr : G v2 v2 := fun _ _ => rfl
        have okm : OK (mit (cT 1 v) n) := OK_mit h.ok n
        have up : ∀ o, o < 4 → v2 47 o = w2 1 (7 + o) := fun o ho => by
          have x1 : (cT 33 v2).U o = v2 47 o := if_pos ho
          have x2 : (mT (w2 1)).U o = w2 1 (7 + o) := if_pos ho
          rw [← x1, ← x2, t2, s2]
        rcases c7 hq with rfl | rfl | rfl | rfl | rfl | rfl | rfl
        · rw [if_pos (by decide), if_pos (by decide)]; exact fin _ _ _ gr FM_r
        · rw [if_neg (by decide), if_pos (by decide), if_neg (by decide), if_pos (by decide)]
          obtain ⟨v3, e3, g3⟩ := x_bset (h := 33) (v := v2) (by omega) (by rw [t2]; exact okm)
          obtain ⟨w3, d3, f3⟩ := m_bset (w := w2) (by rw [s2]; exact okm)
          rw [t2] at e3
          rw [s2] at d3
          simp only [e3, d3, Option.bind_some]
          exact fin _ _ _ g3 f3
        · rw [if_neg (by decide), if_neg (by decide), if_pos (by decide), if_neg (by decide), if_neg (by decide), if_pos (by decide)]
          obtain ⟨v3, e3, g3⟩ := x_alls (h := 33) (v := v2) (by omega) (by rw [t2]; exact okm)
          obtain ⟨w3, d3, f3⟩ := m_alls (w := w2) (by rw [s2]; exact okm)
          rw [t2] at e3
          rw [s2] at d3
          simp only [e3, d3, Option.bind_some]
          exact fin _ _ _ g3 f3
        · rw [if_neg (by decide), if_neg (by decide), if_neg (by decide), if_neg (by decide), if_neg (by decide), if_neg (by decide), if_neg (by decide), if_neg (by decide)]
          rw [show Int32.toNatClampNeg (nI 3 - 3) = 0 from rfl, show Int32.toNatClampNeg (7 + nI 3 - 3) = 7 + 0 from rfl, up 0 (by omega)]; exact fin _ _ _ gr FM_r
        · rw [if_neg (by decide), if_neg (by decide), if_neg (by decide), if_neg (by decide), if_neg (by decide), if_neg (by decide), if_neg (by decide), if_neg (by decide)]
          rw [show Int32.toNatClampNeg (nI 4 - 3) = 1 from rfl, show Int32.toNatClampNeg (7 + nI 4 - 3) = 7 + 1 from rfl, up 1 (by omega)]; exact fin _ _ _ gr FM_r
        · rw [if_neg (by decide), if_neg (by decide), if_neg (by decide), if_neg (by decide), if_neg (by decide), if_neg (by decide), if_neg (by decide), if_neg (by decide)]
          rw [show Int32.toNatClampNeg (nI 5 - 3) = 2 from rfl, show Int32.toNatClampNeg (7 + nI 5 - 3) = 7 + 2 from rfl, up 2 (by omega)]; exact fin _ _ _ gr FM_r
        · rw [if_neg (by decide), if_neg (by decide), if_neg (by decide), if_neg (by decide), if_neg (by decide), if_neg (by decide), if_neg (by decide), if_neg (by decide)]
          rw [show Int32.toNatClampNeg (nI 6 - 3) = 3 from rfl, show Int32.toNatClampNeg (7 + nI 6 - 3) = 7 + 3 from rfl, up 3 (by omega)]; exact fin _ _ _ gr FM_r
      · simp only [if_neg c3, o10, if_false, Option.bind_some]; exact Q_f h
    · simp only [if_pos c1, if_neg c2, o10, z00, if_true, if_false]; exact Q_f h
  · simp only [if_neg c1, z00, if_true]; exact Q_f h
theorem br_co {T i} : br (co T) i = br T i := by unfold br; rw [shr_co]; rfl
theorem co_grow {T} : co (grow T) = grow (co T) := rfl
theorem co_paid {T} : co (paid T) = co T := rfl
theorem co_git {T} : ∀ k, co (mit T k) = co (git T k)
  | 0 => rfl
  | k + 1 => by
    show co (grow (paid (mit T k))) = co (grow (git T k))
    rw [co_grow, co_paid, co_git k, ← co_grow]
theorem br_mg {T i k} : br (mit T k) i = br (git T k) i := by rw [← br_co, co_git, br_co]
theorem nw_git {T} : ∀ k, (git T k).n = T.n
  | 0 => rfl
  | k + 1 => nw_git k
theorem nw_mit {T} : ∀ k, (mit T k).n = T.n
  | 0 => rfl
  | k + 1 => nw_mit k
theorem K_git {T} : ∀ k, (git T k).K = T.K
  | 0 => rfl
  | k + 1 => K_git k
/-- both searches for the month of the breach -/
theorem try_L {v w : jx_V} {T : Tn} {i : Nat} {w0 : jx_V} (hT : OK T) (hi : i < nw T) :
    ∀ d k f v1 w1, k + d = 121 → d < f → HF 33 v v1 → cT 33 v1 = git T k → FY w w1 → mT (w1 1) = mit T k →
    (∃ v' w2 w', f_X4_tryUntilBroken_L f (nI i) (nI k) v1 = some (-1, v') ∧ f_X5_breaks_L f (nI i) (nI k) w1 = some (nI 121, w') ∧ HF 33 v v' ∧ FY w w2 ∧ CP 3 1 181 w2 w') ∨
    (∃ n v' w2 w', n ≤ 120 ∧ f_X4_tryUntilBroken_L f (nI i) (nI k) v1 = some (nI n, v') ∧ f_X5_breaks_L f (nI i) (nI k) w1 = some (nI n, w') ∧ HF 33 v v' ∧ cT 33 v' = git T n ∧ FY w w2 ∧ CP 3 1 181 w2 w') := by
  intro d
  induction d with
  | zero =>
    intro k f v1 w1 hk hf g1 t1 y1 s1
    obtain ⟨f, rfl⟩ : ∃ q, f = q + 1 := ⟨f - 1, by omega⟩
    obtain ⟨w', d4, p4⟩ := m_back (w := w1)
    left
    refine ⟨v1, w1, w', ?_, ?_, g1, y1, p4⟩
    · rw [f_X4_tryUntilBroken_L, if_pos (by rw [show (120 : Int32) = nI 120 from rfl, pI_lt (by omega) (by omega)]; omega)]
    · rw [f_X5_breaks_L, if_pos (by rw [show (121 : Int32) = nI 121 from rfl, pI_le (by omega) (by omega)]; omega), d4, show k = 121 by omega]; rfl
  | succ d ih =>
    intro k f v1 w1 hk hf g1 t1 y1 s1
    obtain ⟨f, rfl⟩ : ∃ q, f = q + 1 := ⟨f - 1, by omega⟩
    have ek : (cT 33 v1).n = T.n := by rw [t1, nw_git]
    have em : (mT (w1 1)).n = T.n := by rw [s1, nw_mit]
    obtain ⟨v2, e2, g2⟩ := x_broken (h := 33) (i := i) (v := v1) (by omega) (by rw [t1]; exact OK_git hT k) (by have : v1 33 5 = T.n := ek; rw [this]; exact hi)
    obtain ⟨w2, d2, f2⟩ := m_broken (i := i) (w := w1) (by rw [s1]; exact OK_mit hT k) (by have : w1 1 1 = T.n := em; rw [this]; exact hi)
    rw [t1] at e2
    rw [s1, br_mg] at d2
    rw [f_X4_tryUntilBroken_L, if_neg (by rw [show (120 : Int32) = nI 120 from rfl, pI_lt (by omega) (by omega)]; omega), e2, f_X5_breaks_L, if_neg (show ¬ (121 : Int32) ≤ nI k by rw [show (121 : Int32) = nI 121 from rfl, pI_le (by omega) (by omega)]; omega), d2]
    simp only [Option.bind_some]
    have t2 : cT 33 v2 = git T k := by rw [Gc (by omega) g2, t1]
    have s2 : mT (w2 1) = mit T k := by rw [FM_1 f2, s1]
    cases c : br (git T k) i
    · simp only [Bool.false_eq_true, if_false, if_true, z00]
      obtain ⟨v3, e3, g3, t3⟩ := x_grow (h := 33) (v := v2)
      obtain ⟨w3, d3, y3, s3⟩ := m_month (w := w2) (by rw [s2]; exact OK_mit hT k)
      simp only [e3, d3, Option.bind_some, nI_add1]
      exact ih (k+1) f v3 w3 (by omega) (by omega) (HF_t g1 (HF_t (G_HF g2) (grow_HF g3))) (by rw [t3, t2]; rfl) (FY_t y1 (FY_t (FM_FY f2) y3)) (by rw [s3, s2]; rfl)
    · obtain ⟨w', d4, p4⟩ := m_back (w := w2)
      right
      refine ⟨k, v2, w2, w', by omega, ?_, ?_, HF_t g1 (G_HF g2), t2, FY_t y1 (FM_FY f2), p4⟩
      · simp only [if_true, o10, if_false]
      · simp only [if_true, o10, if_false, d4, Option.bind_some]
theorem try_q {v w : jx_V} {i : Nat} (h : R v w) (hi : i < (v 1 5).toNatClampNeg) :
    (∃ v' w', f_X4_tryUntilBroken (nI i) v = some (-1, v') ∧ f_X5_breaks (nI i) w = some (nI 121, w') ∧ R v' w') ∨
    (∃ n v' w', n ≤ 120 ∧ f_X4_tryUntilBroken (nI i) v = some (nI n, v') ∧ f_X5_breaks (nI i) w = some (nI n, w') ∧ R v' w' ∧ cT 33 v' = git (cT 1 v) n ∧ cT 1 v' = cT 1 v) := by
  obtain ⟨N, hN, eN, eN2⟩ := cn h.ok
  obtain ⟨v1, e1, b1, t1⟩ := x_become (v := v) (h0 := 33) (h1 := 1) (Or.inr (by omega)) (by omega)
  obtain ⟨w1, d1, p1⟩ := m_puts (w := w)
  unfold f_X4_tryUntilBroken f_X5_breaks
  rw [e1, d1, Option.bind_some, Option.bind_some]
  have L := try_L (v := v1) (w := w1) (T := cT 1 v) (w0 := w) (i := i) h.ok (by rw [nwc]; exact hi) 121 0 100000 v1 w1 (by omega) (by omega) HF_r t1 FY_r (by rw [CP_1 p1, ← h.t]; rfl)
  rcases L with ⟨v', w2, w', x1, x2, x3, x4, x5⟩ | ⟨n, v', w2, w', hn, x1, x2, x3, xt, x4, x5⟩
  · exact Or.inl ⟨v', w', x1, x2, R_back h (SX_t (BF_SX b1) (HF_SX x3)) p1 x4 x5⟩
  · have sx := SX_t (BF_SX b1) (HF_SX x3)
    exact Or.inr ⟨n, v', w', hn, x1, x2, R_back h sx p1 x4 x5, xt, SX_c (by omega) sx⟩
theorem m_late {v w i} (h : R v w) (hi : i < 10) (hi2 : i < (w 1 1).toNatClampNeg) : f_X5_isLate (nI i) w = some (if v 12 i < 0 ∨ ¬ (v 1 6 + 120 ≤ 999) then 1 else 0, w) := by
  unfold f_X5_isLate f_X5_isTooLate
  have e : w 1 (111 + 6 * i + 4) = v 12 i := (tkW (a := 4) h (by omega) hi2).symm
  simp only [m_told4 hi, Option.bind_some, e, tkm h]
  by_cases c : v 12 i < 0
  · simp [c]
  · by_cases c2 : w 1 0 + 120 ≤ 999
    · simp [c, c2]
    · simp [c, c2]
theorem q_breach {v w a} (h : R v w) : Q (f_X4_breach a v) (f_X5_breach a w) := by
  unfold f_X4_breach f_X5_breach
  simp only [x_isWindow, m_isW h, Option.bind_some, x_f0, m_f0, x_f4, m_f4]
  by_cases c1 : 0 ≤ a ∧ a < v 1 5
  · obtain ⟨i, hi, hi1, hi2, rfl⟩ := wx h c1
    simp only [if_pos c1, o10, if_false, tn (show i < 2147483648 by omega), ib hi (by omega), m_late h hi hi2, Option.bind_some]
    by_cases c2 : v 12 i < 0
    · rw [if_pos c2, if_pos (Or.inl c2), if_neg (by decide)]; exact Q_f h
    · rw [if_neg c2]
      by_cases c3 : v 1 6 + 120 ≤ 999
      · rw [if_pos c3, if_neg (show ¬ (v 12 i < 0 ∨ ¬ (v 1 6 + 120 ≤ 999)) by simp [c2, c3]), if_pos rfl]
        rcases try_q h hi1 with ⟨v', w', e1, e2, r⟩ | ⟨n, v', w', hn, e1, e2, r, _, _⟩
        · simp only [e1, e2, Option.bind_some, x_f3, m_f3]
          rw [if_neg (by decide), if_neg (by decide)]; exact Q_f r
        · simp only [e1, e2, Option.bind_some]
          rw [if_pos (pI_pos (by omega)), if_pos (by rw [show (120 : Int32) = nI 120 from rfl, pI_le (by omega) (by omega)]; omega)]
          exact Q_i r
      · rw [if_neg c3, if_pos (Or.inr c3), if_neg (by decide)]; exact Q_f h
  · simp only [if_neg c1, z00, if_true]; exact Q_f h
theorem gr_rem {T l q} (h : q ≠ l) : gr (rem T l) q = gr T q := by
  unfold gr
  rw [show (rem T l).K q = T.K q from if_neg h, show (rem T l).m = T.m from rfl]
theorem grow_rem {T l} : grow (rem T l) = rem (grow T) l := by
  refine Tx rfl rfl ?_ rfl rfl rfl rfl rfl rfl rfl rfl
  funext q
  show (if q < 25 ∧ 0 ≤ (if q = l then -1 else T.K q) then cap ((if q = l then 0 else T.H q) + gr (rem T l) q) else 0) = if q = l then 0 else if q < 25 ∧ 0 ≤ T.K q then cap (T.H q + gr T q) else 0
  by_cases e : q = l
  · subst e; simp
  · simp only [if_neg e]
    rw [gr_rem e]
theorem git_rem {T l} : ∀ n, git (rem T l) n = rem (git T n) l
  | 0 => rfl
  | n + 1 => by rw [git, git_rem n, grow_rem]; rfl
def BI (w w1 : jx_V) : Prop := (∀ k, k < 181 → w1 1 k = w 1 k) ∧ (∀ k, k < 181 → w1 3 k = w 1 k) ∧ (∀ c, c ≠ 0 → c ≠ 1 → c ≠ 3 → c ≠ 5 → c ≠ 6 → w1 c = w c) ∧ ∀ i, i ≠ 6 → i ≠ 7 → i ≠ 8 → w1 0 i = w 0 i
theorem BI_R {v w v' w'} (h : R v w) (a : SX v v') (b : BI w w') : R v' w' := by
  obtain ⟨M, hM, eM, eM2⟩ := mn h.ok'
  have e : mT (w' 1) = mT (w 1) := mT_eq b.1 (by omega)
  exact R_town h (T := cT 1 v) (fun c hc => a.1 c (by omega)) a.2 (fun c hc => b.2.2.1 c (by omega) (by omega) (by omega) (by omega) (by omega)) (b.2.2.2 4 (by omega) (by omega) (by omega)) (b.2.2.2 12 (by omega) (by omega) (by omega)) (SX_c (by omega) a) (by rw [e, h.t]) h.ok
theorem BI_p {w w1} (p : CP 1 3 181 w w1) : BI w w1 := ⟨fun k _ => by rw [p.1 1 (by omega)], p.2, fun c _ _ h3 _ _ => p.1 c h3, fun i _ _ _ => by rw [p.1 0 (by omega)]⟩
theorem BI_b {w w1 w2 w'} (b : BI w w1) (y : FY w1 w2) (p : CP 3 1 181 w2 w') : BI w w' := by
  refine ⟨fun k hk => ?_, fun k hk => ?_, fun c h0 h1 h3 h5 h6 => ?_, fun i h6 h7 h8 => ?_⟩
  · rw [p.2 k hk, y.1 3 (by omega) (by omega) (by omega) (by omega)]; exact b.2.1 k hk
  · rw [p.1 3 (by omega), y.1 3 (by omega) (by omega) (by omega) (by omega)]; exact b.2.1 k hk
  · rw [p.1 c h1, y.1 c h0 h1 h5 h6]; exact b.2.2.1 c h0 h1 h3 h5 h6
  · rw [p.1 0 (by omega), y.2 i h6 h7 h8]; exact b.2.2.2 i h6 h7 h8
theorem x_without {i l : Nat} {v1 : jx_V} {T : Tn} (hT : OK T) (hi : i < nw T) (hl : l < 25) (t1 : cT 33 v1 = T) : ∃ v4, f_X4_isBrokenWithout (nI l) (nI i) v1 = some (if br (rem T l) i then 1 else 0, v4) ∧ G v1 v4 := by
  have e2 : cT 33 (jx_up v1 36 l (-1)) = rem T l := by rw [← t1]; exact c_off (h := 33) hl
  have en : (jx_up v1 36 l (-1)) 33 5 = T.n := by rw [jx_up_ne (by omega), ← t1]; rfl
  obtain ⟨v3, e3, g3⟩ := x_broken (h := 33) (i := i) (v := jx_up v1 36 l (-1)) (by omega) (by rw [e2]; exact OK_rem hT) (by rw [en]; exact hi)
  rw [e2] at e3
  refine ⟨jx_up v3 36 l (v1 36 l), ?_, ?_⟩
  · unfold f_X4_isBrokenWithout
    simp only [tn (show l < 2147483648 by omega), ib hl (by omega), if_false, x_off hl, Option.bind_some, Nat.reduceAdd, e3, bb]
  · intro c hc
    by_cases e : c = 36
    · subst e
      rw [up_c, g3 36 (by omega), up_c]
      funext k
      unfold upd
      by_cases e : k = l
      · rw [if_pos e, e]
      · rw [if_neg e, if_neg e]
    · rw [jx_up_ne e, g3 c hc, jx_up_ne e]
theorem blame_L {v w : jx_V} {i n : Nat} (h : R v w) (hi : i < (v 1 5).toNatClampNeg) (hn : n ≤ 120) : ∀ d l f v1 w1, l + d = 25 → d + 1 < f → SX v v1 → cT 33 v1 = git (cT 1 v) n → BI w w1 →
    Q (f_X4_blame_L f (nI i) (nI l) v1) (f_X5_blame_L f (nI i) (nI n) (-1) (nI l) w1) := by
  obtain ⟨N, hN, eN, eN2⟩ := cn h.ok
  obtain ⟨M, hM, eM, eM2⟩ := mn h.ok'
  intro d
  induction d with
  | zero =>
    intro l f v1 w1 hl hf sx t1 bi
    obtain ⟨f, rfl⟩ : ∃ q, f = q + 1 := ⟨f - 1, by omega⟩
    rw [f_X4_blame_L, if_pos (by rw [show (25 : Int32) = nI 25 from rfl, pI_le (by omega) (by omega)]; omega), f_X5_blame_L, if_pos (show (25 : Int32) ≤ nI l by rw [show (25 : Int32) = nI 25 from rfl, pI_le (by omega) (by omega)]; omega), if_neg (by decide)]
    simp only [x_f3, m_f3, Option.bind_some]
    exact Q_f (BI_R h sx bi)
  | succ d ih =>
    intro l f v1 w1 hl hf sx t1 bi
    obtain ⟨f, rfl⟩ : ∃ q, f = q + 1 := ⟨f - 1, by omega⟩
    have hl' : l < 25 := by omega
    have em : mT (w1 1) = cT 1 v := by rw [h.t]; exact mT_eq bi.1 (by omega)
    have eK : v1 36 l = w1 1 (11 + 4 * l) := by
      have x1 : (cT 33 v1).K l = v1 36 l := cK hl'
      have x2 : (mT (w1 1)).K l = w1 1 (11 + 4 * l) := mK hl'
      rw [← x1, ← x2, t1, em, K_git]
    rw [f_X4_blame_L, if_neg (by rw [show (25 : Int32) = nI 25 from rfl, pI_le (by omega) (by omega)]; omega), f_X5_blame_L, if_neg (show ¬ (25 : Int32) ≤ nI l by rw [show (25 : Int32) = nI 25 from rfl, pI_le (by omega) (by omega)]; omega), if_neg (show ¬ (0 : Int32) ≤ -1 by decide), x_taken hl', m_thing hl']
    simp only [Option.bind_some, Nat.reduceAdd, eK, nI_add1]
    by_cases ht : w1 1 (11 + 4 * l) < 0
    · simp only [if_pos ht, z00, if_true]
      exact ih (l+1) f v1 w1 (by omega) (by omega) sx t1 bi
    · obtain ⟨v4, e4, g4⟩ := x_without (i := i) (l := l) (v1 := v1) (OK_git h.ok n) (by unfold nw; rw [nw_git]; exact hi) hl' t1
      have er : mT ((jx_up w1 1 (11 + 4 * l) (-1)) 1) = rem (cT 1 v) l := by rw [up_c, m_off hl', em]
      obtain ⟨w3, d3, y3, s3⟩ := m_pass (w := jx_up w1 1 (11 + 4 * l) (-1)) (n := n) (by omega) (by rw [er]; exact OK_rem h.ok)
      rw [er] at s3
      obtain ⟨w4, d4, f4⟩ := m_broken (i := i) (w := w3) (by rw [s3]; exact OK_mit (OK_rem h.ok) n) (by
        have : w3 1 1 = (cT 1 v).n := by
          have : (mT (w3 1)).n = (cT 1 v).n := by rw [s3, nw_mit]; rfl
          exact this
        rw [this]; exact hi)
      rw [s3, br_mg, git_rem] at d4
      obtain ⟨w5, d5, p5⟩ := m_back (w := w4)
      have bi5 : BI w w5 := BI_b bi (FY_t up_FY (FY_t y3 (FM_FY f4))) p5
      have sx4 : SX v v4 := SX_t sx (G_SX g4)
      simp only [if_neg ht, o10, if_false, e4, f_X5_at, at0, Option.bind_some, tn (show 11 + 4 * l < 2147483648 by omega), ib (show 11 + 4 * l < 181 by omega) (by omega), d3, d4, d5]
      cases c : br (rem (git (cT 1 v) n) l) i
      · simp only [Bool.false_eq_true, if_false, z00, if_true]
        obtain ⟨f, rfl⟩ : ∃ q, f = q + 1 := ⟨f - 1, by omega⟩
        rw [f_X5_blame_L]
        have r := Q_i (r := nI l) (BI_R h sx4 bi5)
        rw [if_pos (pI_pos (show l < 2147483648 by omega)), if_pos (pI_pos (show l < 2147483648 by omega))]
        split <;> exact r
      · simp only [if_true, o10, if_false]
        exact ih (l+1) f v4 w5 (by omega) (by omega) sx4 (by rw [Gc (by omega) g4, t1]) bi5
theorem q_blame {v w a} (h : R v w) : Q (f_X4_blame a v) (f_X5_blame a w) := by
  unfold f_X4_blame f_X5_blame
  generalize hF : (100000 : Nat) = F
  simp only [x_isWindow, m_isW h, Option.bind_some, x_f0, m_f0, x_f4, m_f4]
  by_cases c1 : 0 ≤ a ∧ a < v 1 5
  · obtain ⟨i, hi, hi1, hi2, rfl⟩ := wx h c1
    simp only [if_pos c1, o10, if_false, tn (show i < 2147483648 by omega), ib hi (by omega), m_late h hi hi2, Option.bind_some]
    by_cases c2 : v 12 i < 0
    · rw [if_pos c2, if_pos (Or.inl c2), if_neg (by decide)]; exact Q_f h
    · rw [if_neg c2]
      by_cases c3 : v 1 6 + 120 ≤ 999
      · rw [if_pos c3, if_neg (show ¬ (v 12 i < 0 ∨ ¬ (v 1 6 + 120 ≤ 999)) by simp [c2, c3]), if_pos rfl]
        rcases try_q h hi1 with ⟨v', w', e1, e2, r⟩ | ⟨n, v', w', hn, e1, e2, r, t1, t2⟩
        · simp only [e1, e2, Option.bind_some, x_f3, m_f3]
          rw [if_neg (by decide), if_neg (by decide)]; exact Q_f r
        · obtain ⟨w2, d2, p2⟩ := m_puts (w := w')
          simp only [e1, e2, Option.bind_some, d2]
          rw [if_pos (pI_pos (by omega)), if_pos (by rw [show (120 : Int32) = nI 120 from rfl, pI_le (by omega) (by omega)]; omega)]
          have e5 : v' 1 5 = v 1 5 := congrArg Tn.n t2
          exact blame_L r (by rw [e5]; exact hi1) hn 25 0 F v' w2 (by omega) (by omega) SX_r (by rw [t1, t2]) (BI_p p2)
      · rw [if_neg c3, if_pos (Or.inr c3), if_neg (by decide)]; exact Q_f h
  · simp only [if_neg c1, z00, if_true]; exact Q_f h
theorem upd_upd {f : Nat → Int32} {j x y} : upd (upd f j x) j y = upd f j y := by
  funext k; unfold upd; by_cases e : k = j
  · rw [if_pos e, if_pos e]
  · rw [if_neg e, if_neg e, if_neg e]
theorem SX_u2 {v v1 c j x y} (hc : c < 33) (h : SX (jx_up v c j x) v1) : SX (jx_up v c j y) (jx_up v1 c j y) := by
  refine ⟨fun q hq => ?_, ?_⟩
  · by_cases e : q = c
    · subst e; rw [up_c, up_c, h.1 q hq, up_c, upd_upd]
    · rw [jx_up_ne e, jx_up_ne e, h.1 q hq, jx_up_ne e]
  · rw [jx_up_ne (by omega), jx_up_ne (by omega), h.2, jx_up_ne (by omega)]
theorem SM_u2 {w w1 k x y} (h : SM (jx_up w 1 k x) w1) : SM (jx_up w 1 k y) (jx_up w1 1 k y) := by
  refine ⟨fun q hq => ?_, ?_, ?_⟩
  · by_cases e : q = 1
    · subst e; rw [up_c, up_c, h.1 1 hq, up_c, upd_upd]
    · rw [jx_up_ne e, jx_up_ne e, h.1 q hq, jx_up_ne e]
  · rw [jx_up_ne (by omega), jx_up_ne (by omega), h.2.1, jx_up_ne (by omega)]
  · rw [jx_up_ne (by omega), jx_up_ne (by omega), h.2.2, jx_up_ne (by omega)]
theorem up_id {v : jx_V} {c j : Nat} : jx_up v c j (v c j) = v := by
  funext q k; rw [up_g]; by_cases e : q = c ∧ k = j
  · rw [if_pos e, e.1, e.2]
  · rw [if_neg e]
theorem SX_id {v : jx_V} {c j : Nat} : SX (jx_up v c j (v c j)) v := by rw [up_id]; exact SX_r
theorem SM_id {v : jx_V} {j : Nat} : SM (jx_up v 1 j (v 1 j)) v := by rw [up_id]; exact SM_r
theorem SX_bk {v v1 : jx_V} {c j : Nat} {x : Int32} (hc : c < 33) (h : SX (jx_up v c j x) v1) : SX v (jx_up v1 c j (v c j)) := by
  have := SX_u2 (y := v c j) hc h
  rw [up_id] at this; exact this
theorem SM_bk {w w1 : jx_V} {j : Nat} {x : Int32} (h : SM (jx_up w 1 j x) w1) : SM w (jx_up w1 1 j (w 1 j)) := by
  have := SM_u2 (y := w 1 j) h
  rw [up_id] at this; exact this
theorem and1 (y : Int32) : y &&& 1 = 0 ∨ y &&& 1 = 1 := by
  have e : (y &&& 1).toBitVec = y.toBitVec &&& 1#32 := rfl
  rw [BitVec.and_one_eq_setWidth_ofBool_getLsbD] at e
  cases c : y.toBitVec.getLsbD 0
  · left; rw [c] at e; exact Int32.toBitVec_inj.mp e
  · right; rw [c] at e; exact Int32.toBitVec_inj.mp e
theorem shl0 (x : Int32) : (0 : Int32) <<< x = 0 := by simp
theorem q_watched {v w a} (h : R v w) : Q (f_X4_watched a v) (f_X5_watched a w) := by
  obtain ⟨N, hN, eN, eN2⟩ := cn h.ok
  have L : ∀ d i f x v1 w1, i + d = N → d < f → SX v v1 → SM w w1 → Q (f_X4_watched_L f a x (nI i) v1) (f_X5_watched_L f a x (nI i) w1) := by
    intro d
    induction d with
    | zero =>
      intro i f x v1 w1 hi hf sx sm
      obtain ⟨f, rfl⟩ : ∃ q, f = q + 1 := ⟨f - 1, by omega⟩
      have r := R_fr h sx sm
      have e5 : v1 1 5 = nI N := by rw [sx.1 1 (by omega)]; exact eN
      have e6 : w1 1 1 = nI N := by rw [← tkn r]; exact e5
      rw [f_X4_watched_L, f_X5_watched_L, e5, e6, if_pos (by rw [pI_le (by omega) (by omega)]; omega), if_pos (by rw [pI_le (by omega) (by omega)]; omega)]
      exact Q_i r
    | succ d ih =>
      intro i f x v1 w1 hi hf sx sm
      obtain ⟨f, rfl⟩ : ∃ q, f = q + 1 := ⟨f - 1, by omega⟩
      have r := R_fr h sx sm
      have e5 : v1 1 5 = nI N := by rw [sx.1 1 (by omega)]; exact eN
      have e6 : w1 1 1 = nI N := by rw [← tkn r]; exact e5
      obtain ⟨v2, e1, g1⟩ := x_lots (h := 1) (i := i) (by omega) r.ok (by rw [e5, tn (by omega)]; omega)
      obtain ⟨w2, e2, g2, _, _, _, _, h8⟩ := m_looks (i := i) r.ok' (by rw [e6, tn (by omega)]; omega)
      rw [f_X4_watched_L, f_X5_watched_L, e5, e6, if_neg (by rw [pI_le (by omega) (by omega)]; omega), if_neg (by rw [pI_le (by omega) (by omega)]; omega)]
      simp only [e1, e2, Option.bind_some, h8, nI_add1]
      rw [r.t]
      have sx2 := SX_t sx (G_SX g1)
      have sm2 := SM_t sm (FM_SM g2)
      rcases and1 (lsT (mT (w1 1)) i >>> (a &&& 31)) with c | c
      · rw [c, if_neg (by decide), shl0, Int32.or_zero]
        exact ih (i+1) f x v2 w2 (by omega) (by omega) sx2 sm2
      · rw [c, if_pos rfl]
        exact ih (i+1) f _ v2 w2 (by omega) (by omega) sx2 sm2
  unfold f_X4_watched f_X5_watched
  generalize hF : (100000 : Nat) = F
  simp only [x_w25, m_isLot, Option.bind_some, x_f0, m_f0]
  by_cases c2 : 0 ≤ a ∧ a ≤ 24
  · simp only [if_pos c2, o10, if_false]
    exact L N 0 F 0 v w (by omega) (by omega) SX_r SM_r
  · simp only [if_neg c2, z00, if_true]; exact Q_f h
theorem m_viewOf {i : Nat} {w : jx_V} (hT : OK (mT (w 1))) (hi : i < (w 1 1).toNatClampNeg) : ∃ w', f_X5_viewOf (nI i) w = some (al (mT (w 1)) i, w') ∧ FM w w' := by
  obtain ⟨w', e, g, _, _, h6, _⟩ := m_looks hT hi
  refine ⟨w', ?_, g⟩
  unfold f_X5_viewOf
  rw [e]; simp only [Option.bind_some, h6]
theorem q_level {v w a} (h : R v w) : Q (f_X4_level a v) (f_X5_level a w) := by
  obtain ⟨N, hN, eN, eN2⟩ := cn h.ok
  unfold f_X4_level f_X5_level
  generalize hG5 : f_X5_level_L 100000 = g5
  generalize hG4 : f_X4_level_L 100000 = g4
  simp only [x_isWindow, m_isW h, Option.bind_some, x_f0, m_f0]
  by_cases c1 : 0 ≤ a ∧ a < v 1 5
  · obtain ⟨i, hi, hi1, hi2, rfl⟩ := wx h c1
    have ev : v 9 i = w 1 (111 + 6 * i + 1) := tkW (a := 1) h (by omega) hi2
    simp only [if_pos c1, o10, if_false, tn (show i < 2147483648 by omega), ib hi (by omega)]
    rw [m_told1 hi, Option.bind_some]
    dsimp only
    have L : ∀ d t f x b m v1 w1, t + d = 10 → d < f → SX (jx_up v 9 i x) v1 → SM (jx_up w 1 (111 + 6 * i + 1) x) w1 → Q (f_X4_level_L f (nI i) (v 9 i) b m (nI t) v1) (f_X5_level_L f (nI i) (w 1 (111 + 6 * i + 1)) b m (nI t) w1) := by
      intro d
      induction d with
      | zero =>
        intro t f x b m v1 w1 ht hf sx sm
        obtain ⟨f, rfl⟩ : ∃ q, f = q + 1 := ⟨f - 1, by omega⟩
        rw [f_X4_level_L, f_X5_level_L, if_pos (show (10 : Int32) ≤ nI t by rw [show (10 : Int32) = nI 10 from rfl, pI_le (by omega) (by omega)]; omega), if_pos (show (10 : Int32) ≤ nI t by rw [show (10 : Int32) = nI 10 from rfl, pI_le (by omega) (by omega)]; omega)]
        simp only [tn (show i < 2147483648 by omega), ib hi (by omega), if_false, f_X5_where, wh1, Option.bind_some, tn (show 111 + 6 * i + 1 < 2147483648 by omega), ib (show 111 + 6 * i + 1 < 181 by omega) (by omega)]
        exact Q_i (R_fr h (SX_bk (by omega) sx) (SM_bk sm))
      | succ d ih =>
        intro t f x b m v1 w1 ht hf sx sm
        obtain ⟨f, rfl⟩ : ∃ q, f = q + 1 := ⟨f - 1, by omega⟩
        have rt : R (jx_up v 9 i (nI t)) (jx_up w 1 (111 + 6 * i + 1) (nI t)) := R_W h (a := 1) (by omega) hi2 (OK_sW h.ok (by omega) (fun _ => ⟨t, by omega, rfl⟩) (by omega) (by omega) (by omega))
        have r := R_fr rt (SX_u2 (by omega) sx) (SM_u2 sm)
        have e5 : (jx_up v1 9 i (nI t)) 1 5 = nI N := by rw [jx_up_ne (by omega), sx.1 1 (by omega), jx_up_ne (by omega)]; exact eN
        have e6 : (jx_up w1 1 (111 + 6 * i + 1) (nI t)) 1 1 = nI N := by rw [← tkn r]; exact e5
        obtain ⟨v2, e1, g1⟩ := x_view (h := 1) (i := i) (by omega) r.ok (by rw [e5, tn (by omega)]; omega)
        obtain ⟨w2, e2, g2⟩ := m_viewOf (i := i) r.ok' (by rw [e6, tn (by omega)]; omega)
        rw [r.t] at e1
        rw [f_X4_level_L, f_X5_level_L, if_neg (show ¬ (10 : Int32) ≤ nI t by rw [show (10 : Int32) = nI 10 from rfl, pI_le (by omega) (by omega)]; omega), if_neg (show ¬ (10 : Int32) ≤ nI t by rw [show (10 : Int32) = nI 10 from rfl, pI_le (by omega) (by omega)]; omega)]
        simp only [tn (show i < 2147483648 by omega), ib hi (by omega), if_false, f_X5_where, wh1, Option.bind_some, tn (show 111 + 6 * i + 1 < 2147483648 by omega), ib (show 111 + 6 * i + 1 < 181 by omega) (by omega), e1, e2, nI_add1]
        have sx2 := SX_t (SX_u2 (by omega) sx) (G_SX g1)
        have sm2 := SM_t (SM_u2 sm) (FM_SM g2)
        split
        · exact ih (t+1) f (nI t) _ _ v2 w2 (by omega) (by omega) sx2 sm2
        · exact ih (t+1) f (nI t) _ _ v2 w2 (by omega) (by omega) sx2 sm2
    subst hG5 hG4
    exact L 10 0 100000 (v 9 i) 0 (-1) v w (by omega) (by omega) SX_id (by rw [ev]; exact SM_id)
  · simp only [if_neg c1, z00, if_true]; exact Q_f h
theorem q_cheapest {v w a} (h : R v w) : Q (f_X4_cheapest a v) (f_X5_cheapest a w) := by
  obtain ⟨N, hN, eN, eN2⟩ := cn h.ok
  unfold f_X4_cheapest f_X5_cheapest
  generalize hG5 : f_X5_cheapest_L 100000 = g5
  generalize hG4 : f_X4_cheapest_L 100000 = g4
  simp only [x_isWindow, m_isW h, Option.bind_some, x_f0, m_f0]
  by_cases c1 : 0 ≤ a ∧ a < v 1 5
  · obtain ⟨i, hi, hi1, hi2, rfl⟩ := wx h c1
    have ev : v 10 i = w 1 (111 + 6 * i + 2) := tkW (a := 2) h (by omega) hi2
    simp only [if_pos c1, o10, if_false, tn (show i < 2147483648 by omega), ib hi (by omega)]
    rw [m_told2 hi, Option.bind_some]
    dsimp only
    have L : ∀ d t f x b b' m v1 w1, t + d = 4 → d < f → (t = 0 → b' = -1) → (0 < t → b' = b ∧ 0 ≤ b) → SX (jx_up v 10 i x) v1 → SM (jx_up w 1 (111 + 6 * i + 2) x) w1 → Q (f_X4_cheapest_L f (nI i) (v 10 i) b m (nI t) v1) (f_X5_cheapest_L f (nI i) (w 1 (111 + 6 * i + 2)) b' m (nI t) w1) := by
      intro d
      induction d with
      | zero =>
        intro t f x b b' m v1 w1 ht hf hb0 hb1 sx sm
        obtain ⟨f, rfl⟩ : ∃ q, f = q + 1 := ⟨f - 1, by omega⟩
        rw [f_X4_cheapest_L, f_X5_cheapest_L, if_pos (show (4 : Int32) ≤ nI t by rw [← n4, pI_le (by omega) (by omega)]; omega), if_pos (show (4 : Int32) ≤ nI t by rw [← n4, pI_le (by omega) (by omega)]; omega)]
        simp only [tn (show i < 2147483648 by omega), ib hi (by omega), if_false, f_X5_where, wh2, Option.bind_some, tn (show 111 + 6 * i + 2 < 2147483648 by omega), ib (show 111 + 6 * i + 2 < 181 by omega) (by omega)]
        rw [(hb1 (by omega)).1]
        exact Q_i (R_fr h (SX_bk (by omega) sx) (SM_bk sm))
      | succ d ih =>
        intro t f x b b' m v1 w1 ht hf hb0 hb1 sx sm
        obtain ⟨f, rfl⟩ : ∃ q, f = q + 1 := ⟨f - 1, by omega⟩
        have rt : R (jx_up v 10 i (nI t)) (jx_up w 1 (111 + 6 * i + 2) (nI t)) := R_W h (a := 2) (by omega) hi2 (OK_sW h.ok (by omega) (by omega) (fun _ => ⟨t, by omega, rfl⟩) (by omega) (by omega))
        have r := R_fr rt (SX_u2 (by omega) sx) (SM_u2 sm)
        have e5 : (jx_up v1 10 i (nI t)) 1 5 = nI N := by rw [jx_up_ne (by omega), sx.1 1 (by omega), jx_up_ne (by omega)]; exact eN
        have e6 : (jx_up w1 1 (111 + 6 * i + 2) (nI t)) 1 1 = nI N := by rw [← tkn r]; exact e5
        obtain ⟨v2, e1, g1, _⟩ := x_pay (h := 1) (i := i) (r := 66) (by omega) (Or.inr (by omega)) r.ok (by rw [e5, tn (by omega)]; omega)
        obtain ⟨w2, e2, g2, _, _, _, h7, _⟩ := m_looks (i := i) r.ok' (by rw [e6, tn (by omega)]; omega)
        rw [r.t] at e1
        rw [f_X4_cheapest_L, f_X5_cheapest_L, if_neg (show ¬ (4 : Int32) ≤ nI t by rw [← n4, pI_le (by omega) (by omega)]; omega), if_neg (show ¬ (4 : Int32) ≤ nI t by rw [← n4, pI_le (by omega) (by omega)]; omega)]
        simp only [tn (show i < 2147483648 by omega), ib hi (by omega), if_false, f_X5_where, wh2, Option.bind_some, tn (show 111 + 6 * i + 2 < 2147483648 by omega), ib (show 111 + 6 * i + 2 < 181 by omega) (by omega), e1, e2, nI_add1, h7]
        have sx2 := SX_t (SX_u2 (by omega) sx) (GR_SX (by omega) g1)
        have sm2 := SM_t (SM_u2 sm) (FM_SM g2)
        by_cases t0 : t = 0
        · subst t0
          rw [hb0 rfl, if_pos nz, if_pos (show (-1 : Int32) < 0 by decide)]
          exact ih 1 f (nI 0) _ _ _ v2 w2 (by omega) (by omega) (by omega) (fun _ => ⟨rfl, by decide⟩) sx2 sm2
        · obtain ⟨e, hb⟩ := hb1 (by omega)
          rw [e, if_neg (show ¬ nI t = 0 by rw [← nz, pI_eq (by omega) (by omega)]; exact t0), if_neg (Int32.not_lt.mpr hb)]
          split
          · exact ih (t+1) f (nI t) _ _ _ v2 w2 (by omega) (by omega) (by omega) (fun _ => ⟨rfl, hb⟩) sx2 sm2
          · exact ih (t+1) f (nI t) _ _ _ v2 w2 (by omega) (by omega) (by omega) (fun _ => ⟨rfl, pI_pos (by omega)⟩) sx2 sm2
    subst hG5 hG4
    exact L 4 0 100000 (v 10 i) 0 (-1) 0 v w (by omega) (by omega) (fun _ => rfl) (by omega) SX_id (by rw [ev]; exact SM_id)
  · simp only [if_neg c1, z00, if_true]; exact Q_f h
theorem q_worst {v w a} (h : R v w) : Q (f_X4_worst a v) (f_X5_worst a w) := by
  unfold f_X4_worst f_X5_worst f_X5_isTooLate
  generalize hG5 : f_X5_worst_L 100000 = g5
  generalize hG4 : f_X4_worst_L 100000 = g4
  simp only [x_w4, m_isOwner, Option.bind_some, x_f0, m_f0, x_f4, m_f4]
  by_cases c1 : 0 ≤ a ∧ a ≤ 3
  · obtain ⟨o, ho, rfl⟩ := ix (n := 3) rfl (by omega) c1
    have em : v 1 6 = w 1 0 := tkm h
    simp only [if_pos c1, o10, if_false]
    rw [show v 1 6 + 12 - 1 = w 1 0 + 11 by rw [em]; grind]
    by_cases c2 : w 1 0 + 11 ≤ 999
    · rw [if_pos c2, if_pos c2]
      simp only [Option.bind_some, z00, if_true]
      have rt : ∀ x, R (jx_up v 1 6 x) (jx_up w 1 0 x) := fun x => R_up h (by omega) (T := sm (cT 1 v) x) (c_sm (h := 1) (j := 0)) (by rw [m_sm (j := 0), h.t]) (OK_sm h.ok)
      have L : ∀ d t f f' x b m v1 w1, t + d = 12 → 1 ≤ t → d < f → d < f' → SX (jx_up v 1 6 x) v1 → SM (jx_up w 1 0 x) w1 → Q (f_X4_worst_L f (nI o) (v 1 6) b m (nI t) v1) (f_X5_worst_L f' (nI o) (w 1 0) b m (nI t) w1) := by
        intro d
        induction d with
        | zero =>
          intro t f f' x b m v1 w1 ht ht1 hf hf' sx sm
          obtain ⟨f, rfl⟩ : ∃ q, f = q + 1 := ⟨f - 1, by omega⟩
          obtain ⟨f', rfl⟩ : ∃ q, f' = q + 1 := ⟨f' - 1, by omega⟩
          rw [f_X4_worst_L, f_X5_worst_L, if_pos (show (12 : Int32) ≤ nI t by rw [show (12 : Int32) = nI 12 from rfl, pI_le (by omega) (by omega)]; omega), if_pos (show (12 : Int32) ≤ nI t by rw [show (12 : Int32) = nI 12 from rfl, pI_le (by omega) (by omega)]; omega)]
          exact Q_i (R_fr h (SX_bk (by omega) sx) (SM_bk sm))
        | succ d ih =>
          intro t f f' x b m v1 w1 ht ht1 hf hf' sx sm
          obtain ⟨f, rfl⟩ : ∃ q, f = q + 1 := ⟨f - 1, by omega⟩
          obtain ⟨f', rfl⟩ : ∃ q, f' = q + 1 := ⟨f' - 1, by omega⟩
          have r := R_fr (rt (v 1 6 + nI t)) (SX_u2 (by omega) sx) (SM_u2 sm)
          obtain ⟨v2, e1, g1, hg⟩ := x_gains (h := 1) (r := 65) (by omega) (by omega) r.ok
          obtain ⟨w2, e2, g2, _⟩ := m_gainOf r.ok' ho
          have hg' := hg o ho
          rw [r.t] at e1 hg'
          rw [f_X4_worst_L, f_X5_worst_L, if_neg (show ¬ (12 : Int32) ≤ nI t by rw [show (12 : Int32) = nI 12 from rfl, pI_le (by omega) (by omega)]; omega), if_neg (show ¬ (12 : Int32) ≤ nI t by rw [show (12 : Int32) = nI 12 from rfl, pI_le (by omega) (by omega)]; omega)]
          rw [em] at e1 e2 hg' g1 g2 ⊢
          simp only [e1, e2, Option.bind_some, tn (show o < 2147483648 by omega), ib ho (by omega), if_false, nI_add1, hg']
          rw [if_neg (show ¬ nI t = 0 by rw [← nz, pI_eq (by omega) (by omega)]; omega)]
          have sx2 := SX_t (SX_u2 (y := w 1 0 + nI t) (by omega) sx) (GR_SX (by omega) g1)
          have sm2 := SM_t (SM_u2 (y := w 1 0 + nI t) sm) (FM_SM g2)
          rw [em] at ih
          split
          · exact ih (t+1) f f' (w 1 0 + nI t) _ _ v2 w2 (by omega) (by omega) (by omega) (by omega) sx2 sm2
          · exact ih (t+1) f f' (w 1 0 + nI t) _ _ v2 w2 (by omega) (by omega) (by omega) (by omega) sx2 sm2
      obtain ⟨v2, e1, g1, hg⟩ := x_gains (h := 1) (r := 65) (by omega) (by omega) (rt (v 1 6 + 0)).ok
      obtain ⟨w2, e2, g2, _⟩ := m_gainOf h.ok' ho
      have hg' := hg o ho
      have e0 : jx_up v 1 6 (v 1 6 + 0) = v := by rw [Int32.add_zero, up_id]
      rw [e0] at e1 hg' g1
      rw [h.t] at e1 hg'
      rw [e2, Option.bind_some]
      dsimp only
      have l := L 11 1 99999 100000 (v 1 6) 0 (gs (mT (w 1)) o) v2 w2 (by omega) (by omega) (by omega) (by omega) (by rw [up_id]; exact GR_SX (by omega) g1) (by rw [em, up_id]; exact FM_SM g2)
      have l4 : f_X4_worst_L 100000 (nI o) (v 1 6) 0 0 0 v = f_X4_worst_L 99999 (nI o) (v 1 6) 0 (gs (mT (w 1)) o) (nI 1) v2 := by
        show f_X4_worst_L (99999+1) (nI o) (v 1 6) 0 0 0 v = _
        rw [f_X4_worst_L, if_neg (show ¬ (12 : Int32) ≤ 0 by decide), e0, e1, Option.bind_some]
        simp only [tn (show o < 2147483648 by omega), ib ho (by omega), if_false, hg', if_true, Int32.zero_add]
        rfl
      subst hG5 hG4
      rw [l4]
      exact l
    · rw [if_neg c2, if_neg c2]
      simp only [Option.bind_some, o10, if_false]; exact Q_f h
  · simp only [if_neg c1, z00, if_true]; exact Q_f h
def lmt (a : Nat) : Nat := if a = 2 then 10 else 4
theorem R_sx {v w : jx_V} {a j t : Nat} (h : R v w) (ha : a = 2 ∨ a = 3) (hj : j < 25) (hk : 0 ≤ w 1 (11 + 4 * j)) (ht : t < lmt a) : R (jx_up v (4 + a) j (nI t)) (jx_up w 1 (11 + 4 * j + a) (nI t)) := by
  have hv : 0 ≤ v (1 + 3) j := by show 0 ≤ v 4 j; rw [tk h hj]; exact hk
  rcases ha with rfl | rfl
  · rw [show 11 + 4 * j + 2 = 13 + 4 * j by omega]
    exact R_up h (by omega) (T := sH (cT 1 v) j (nI t)) (c_sH (h := 1) hj hv) (by rw [m_sH hj hk, h.t]) (OK_sH h.ok ⟨t, ht, rfl⟩)
  · rw [show 11 + 4 * j + 3 = 14 + 4 * j by omega]
    exact R_up h (by omega) (T := sP (cT 1 v) j (nI t)) (c_sP (h := 1) hj hv) (by rw [m_sP hj hk, h.t]) (OK_sP h.ok ⟨t, ht, rfl⟩)
theorem best_L {v w : jx_V} {a j o : Nat} (h : R v w) (ha : a = 2 ∨ a = 3) (hj : j < 25) (hk : 0 ≤ w 1 (11 + 4 * j)) (ho : o < 4) (eo : w 1 (12 + 4 * j) = nI o) :
    ∀ d t f x b b' m v1 w1, t + d = lmt a → d < f → (t = 0 → b' = -1) → (0 < t → b' = b ∧ 0 ≤ b) → SX (jx_up v (4 + a) j x) v1 → SM (jx_up w 1 (11 + 4 * j + a) x) w1 →
    Q (f_X4_bestFor_L f (nI j) (nI a) (nI o) (v (4 + a) j) (nI (lmt a)) b m (nI t) v1) (f_X5_bestPart_L f (nI j) (nI a) (nI (lmt a - 1)) (w 1 (11 + 4 * j + a)) b' m (nI t) w1) := by
  have hlm : 4 ≤ lmt a ∧ lmt a ≤ 10 := by unfold lmt; split <;> omega
  have ha4 : a < 4 := by omega
  intro d
  induction d with
  | zero =>
    intro t f x b b' m v1 w1 ht hf hb0 hb1 sx sm
    obtain ⟨f, rfl⟩ : ∃ q, f = q + 1 := ⟨f - 1, by omega⟩
    rw [f_X4_bestFor_L, f_X5_bestPart_L, if_pos (show nI (lmt a) ≤ nI t by rw [pI_le (by omega) (by omega)]; omega), if_pos (show nI (lmt a - 1) < nI t by rw [pI_lt (by omega) (by omega)]; omega)]
    simp only [tn (show j < 2147483648 by omega), ib hj (by omega), tn (show a < 2147483648 by omega), ib ha4 (by omega), if_false, f_X5_at, at_n, Option.bind_some, tn (show 11 + 4 * j + a < 2147483648 by omega), ib (show 11 + 4 * j + a < 181 by omega) (by omega), Nat.reduceAdd]
    rw [(hb1 (by omega)).1]
    exact Q_i (R_fr h (SX_bk (by omega) sx) (SM_bk sm))
  | succ d ih =>
    intro t f x b b' m v1 w1 ht hf hb0 hb1 sx sm
    obtain ⟨f, rfl⟩ : ∃ q, f = q + 1 := ⟨f - 1, by omega⟩
    have r := R_fr (R_sx h ha hj hk (show t < lmt a by omega)) (SX_u2 (by omega) sx) (SM_u2 sm)
    obtain ⟨v2, e1, g1, hg⟩ := x_gains (h := 1) (r := 65) (by omega) (by omega) r.ok
    obtain ⟨w2, e2, g2, _⟩ := m_gainOf r.ok' ho
    have hg' := hg o ho
    rw [r.t] at e1 hg'
    have e12 : (jx_up w1 1 (11 + 4 * j + a) (nI t)) 1 (12 + 4 * j) = nI o := by
      rw [up_g, if_neg (by omega), sm.1 1 (by omega), up_g, if_neg (by omega), eo]
    rw [f_X4_bestFor_L, f_X5_bestPart_L, if_neg (show ¬ nI (lmt a) ≤ nI t by rw [pI_le (by omega) (by omega)]; omega), if_neg (show ¬ nI (lmt a - 1) < nI t by rw [pI_lt (by omega) (by omega)]; omega)]
    simp only [tn (show j < 2147483648 by omega), ib hj (by omega), tn (show a < 2147483648 by omega), ib ha4 (by omega), if_false, f_X5_at, at_n, Option.bind_some, tn (show 11 + 4 * j + a < 2147483648 by omega), ib (show 11 + 4 * j + a < 181 by omega) (by omega), Nat.reduceAdd, m_its1 hj, e12, e1, e2, tn (show o < 2147483648 by omega), ib ho (by omega), nI_add1, hg']
    have sx2 := SX_t (SX_u2 (y := nI t) (by omega) sx) (GR_SX (by omega) g1)
    have sm2 := SM_t (SM_u2 (y := nI t) sm) (FM_SM g2)
    by_cases t0 : t = 0
    · subst t0
      rw [hb0 rfl, if_pos nz, if_pos (show (-1 : Int32) < 0 by decide)]
      exact ih 1 f (nI 0) _ _ _ v2 w2 (by omega) (by omega) (by omega) (fun _ => ⟨rfl, by decide⟩) sx2 sm2
    · obtain ⟨e, hb⟩ := hb1 (by omega)
      rw [e, if_neg (show ¬ nI t = 0 by rw [← nz, pI_eq (by omega) (by omega)]; exact t0), if_neg (Int32.not_lt.mpr hb)]
      split
      · exact ih (t+1) f (nI t) _ _ _ v2 w2 (by omega) (by omega) (by omega) (fun _ => ⟨rfl, hb⟩) sx2 sm2
      · exact ih (t+1) f (nI t) _ _ _ v2 w2 (by omega) (by omega) (by omega) (fun _ => ⟨rfl, pI_pos (by omega)⟩) sx2 sm2
theorem best_q {v w : jx_V} {a j : Nat} (h : R v w) (ha : a = 2 ∨ a = 3) (hj : j < 25) (hk : 0 ≤ w 1 (11 + 4 * j)) : Q (f_X4_bestFor (nI j) (nI a) v) (f_X5_bestPart (nI j) (nI a) (nI (lmt a - 1)) w) := by
  obtain ⟨o, ho, eo⟩ := h.ok'.o j
  rw [mO hj hk] at eo
  have ev : v (4 + a) j = w 1 (11 + 4 * j + a) := by
    rcases ha with rfl | rfl
    · rw [show 11 + 4 * j + 2 = 13 + 4 * j by omega]; exact tkH h hj hk
    · rw [show 11 + 4 * j + 3 = 14 + 4 * j by omega]; exact tkP h hj hk
  have L := best_L h ha hj hk ho eo (lmt a) 0 100000 (v (4 + a) j) 0 (-1) 0 v w (by omega) (by unfold lmt; split <;> omega) (fun _ => rfl) (by omega) SX_id (by rw [ev]; exact SM_id)
  have e4 : f_X4_bestFor (nI j) (nI a) v = f_X4_bestFor_L 100000 (nI j) (nI a) (nI o) (v (4 + a) j) (nI (lmt a)) 0 0 (nI 0) v := by
    unfold f_X4_bestFor
    generalize f_X4_bestFor_L 100000 = g4
    have tl : f_X4_thingLimit (nI a) v = some (nI (lmt a), v) := by
      rcases ha with rfl | rfl <;> rfl
    rw [tl, Option.bind_some]
    simp only [tn (show j < 2147483648 by omega), ib hj (by omega), tn (show a < 2147483648 by omega), ib (show a < 4 by omega) (by omega), if_false, Nat.reduceAdd, tkO h hj hk, eo]
    rfl
  have e5 : f_X5_bestPart (nI j) (nI a) (nI (lmt a - 1)) w = f_X5_bestPart_L 100000 (nI j) (nI a) (nI (lmt a - 1)) (w 1 (11 + 4 * j + a)) (-1) 0 (nI 0) w := by
    unfold f_X5_bestPart
    generalize f_X5_bestPart_L 100000 = g5
    rw [m_its hj (by omega), Option.bind_some]
    dsimp only
    rw [nz]
  rw [e4, e5]
  exact L
theorem q_paint {v w a} (h : R v w) : Q (f_X4_paint a v) (f_X5_paint a w) := by
  unfold f_X4_paint f_X5_paint
  simp only [x_w25, Option.bind_some, x_f0]
  by_cases c2 : 0 ≤ a ∧ a ≤ 24
  · obtain ⟨j, hj, rfl⟩ := ix (n := 24) rfl (by omega) c2
    simp only [if_pos c2, o10, if_false, x_taken hj, (m_lotWrong (x := 0) (w := w)).2 j hj, Option.bind_some, Nat.reduceAdd, tk h hj]
    by_cases ht : w 1 (11 + 4 * j) < 0
    · simp only [if_pos ht, z00, if_true, b40, if_false, x_f3, m_f3, Option.bind_some]; exact Q_f h
    · simp only [if_neg ht, o10, z00, if_true, if_false]
      exact Q_b (best_q (a := 3) h (Or.inr rfl) hj (Int32.not_lt.mp ht))
  · simp only [if_neg c2, z00, if_true, (m_lotWrong (w := w)).1 c2, Option.bind_some, b10, if_false, m_f0]; exact Q_f h
theorem q_height {v w a} (h : R v w) : Q (f_X4_height a v) (f_X5_height a w) := by
  unfold f_X4_height f_X5_height
  simp only [x_w25, Option.bind_some, x_f0]
  by_cases c2 : 0 ≤ a ∧ a ≤ 24
  · obtain ⟨j, hj, rfl⟩ := ix (n := 24) rfl (by omega) c2
    simp only [if_pos c2, o10, if_false, x_taken hj, (m_lotWrong (x := 0) (w := w)).2 j hj, Option.bind_some, Nat.reduceAdd, tk h hj]
    by_cases ht : w 1 (11 + 4 * j) < 0
    · simp only [if_pos ht, z00, if_true, b40, if_false, x_f3, m_f3, Option.bind_some]; exact Q_f h
    · simp only [if_neg ht, o10, z00, if_true, if_false]
      exact Q_b (best_q (a := 2) h (Or.inl rfl) hj (Int32.not_lt.mp ht))
  · simp only [if_neg c2, z00, if_true, (m_lotWrong (w := w)).1 c2, Option.bind_some, b10, if_false, m_f0]; exact Q_f h
theorem q_storey {v w a b} (h : R v w) : Q (f_X4_storey a b v) (f_X5_storey a b w) := by
  unfold f_X4_storey f_X5_storey
  simp only [x_w25, x_w4, m_isOwner, Option.bind_some, x_f0, m_f0]
  by_cases c1 : 0 ≤ b ∧ b ≤ 3
  · obtain ⟨o, ho, rfl⟩ := ix (n := 3) rfl (by omega) c1
    by_cases c2 : 0 ≤ a ∧ a ≤ 24
    · obtain ⟨j, hj, rfl⟩ := ix (n := 24) rfl (by omega) c2
      simp only [if_pos c1, if_pos c2, o10, if_false, x_taken hj, (m_lotWrong (x := 0) (w := w)).2 j hj, Option.bind_some, Nat.reduceAdd, tk h hj]
      by_cases ht : w 1 (11 + 4 * j) < 0
      · simp only [if_pos ht, z00, if_true, b40, if_false, x_f3, m_f3, Option.bind_some]; exact Q_f h
      · have ht' : 0 ≤ w 1 (11 + 4 * j) := Int32.not_lt.mp ht
        obtain ⟨x, hx, ex⟩ := h.ok'.h j
        rw [mH hj ht'] at ex
        simp only [if_neg ht, o10, z00, if_true, if_false, tn (show j < 2147483648 by omega), ib hj (by omega), tn (show o < 2147483648 by omega), ib ho (by omega), tkH h hj ht', m_its2 hj, f_X5_at, at2, Option.bind_some, tn (show 13 + 4 * j < 2147483648 by omega), ib (show 13 + 4 * j < 181 by omega) (by omega), ex, x_f4, m_f4]
        by_cases c9 : x = 9
        · subst c9
          rw [if_neg (by decide), if_pos (by decide)]; exact Q_f h
        · rw [if_pos (by rw [show (9 : Int32) = nI 9 from rfl, pI_lt (by omega) (by omega)]; omega), if_neg (by rw [show (9 : Int32) = nI 9 from rfl, pI_eq (by omega) (by omega)]; omega)]
          obtain ⟨v1, e1, g1, hg1⟩ := x_gains (h := 1) (r := 64) (by omega) (by omega) h.ok
          obtain ⟨w1, d1, f1, _⟩ := m_gainOf h.ok' ho
          have r1 := R_fr h (GR_SX (by omega) g1) (FM_SM f1)
          have k1 : w1 1 = w 1 := FM_1 f1
          have hv1 : v1 6 j = nI x := by rw [g1 6 (by omega) (by omega), tkH h hj ht', ex]
          have hw1 : w1 1 (13 + 4 * j) = nI x := by rw [k1, ex]
          simp only [e1, d1, Option.bind_some, hv1, hw1, nI_add1]
          have r2 := R_sx (a := 2) (t := x + 1) r1 (Or.inl rfl) hj (by rw [k1]; exact ht') (by show x + 1 < 10; omega)
          rw [show 11 + 4 * j + 2 = 13 + 4 * j by omega] at r2
          obtain ⟨v2, e2, g2, hg2⟩ := x_gains (h := 1) (r := 65) (by omega) (by omega) r2.ok
          obtain ⟨w2, d2, f2, _⟩ := m_gainOf r2.ok' ho
          rw [show (4 + 2 : Nat) = 6 from rfl] at e2 g2 hg2
          simp only [e2, d2, Option.bind_some]
          have hv2 : v2 6 j = nI (x+1) := by rw [g2 6 (by omega) (by omega), up_s]
          have hw2 : w2 1 (13 + 4 * j) = nI (x+1) := by rw [FM_1 f2, up_s]
          have em : nI (x+1) - 1 = nI x := by rw [← nI_add1]; grind
          rw [hv2, hw2, em, jx_up_ne (show 65 ≠ 6 by omega), jx_up_ne (show 64 ≠ 6 by omega), hg2 o ho, g2 64 (by omega) (by omega), jx_up_ne (show 64 ≠ 6 by omega), hg1 o ho, show cT 1 (jx_up v1 6 j (nI (x+1))) = _ from r2.t, h.t]
          have sx := SX_bk (v := v1) (c := 6) (j := j) (by omega) (GR_SX (by omega) g2)
          have sm := SM_bk (w := w1) (j := 13 + 4 * j) (FM_SM f2)
          rw [hv1] at sx
          rw [hw1] at sm
          exact Q_i (R_fr r1 sx sm)
    · simp only [if_pos c1, if_neg c2, o10, z00, if_true, if_false, (m_lotWrong (w := w)).1 c2, Option.bind_some, b10, m_f0]; exact Q_f h
  · by_cases c2 : 0 ≤ a ∧ a ≤ 24
    · simp only [if_neg c1, if_pos c2, o10, z00, if_true, if_false, b10]; exact Q_f h
    · simp only [if_neg c1, if_neg c2, o10, z00, if_true, if_false, b10]; exact Q_f h
def bcE (x : Int32) : Int32 := ((f_J6_bitCount_0f7a4 x (fun _ _ => 0)).map Prod.fst).getD 0
theorem j_bc {x v} : f_J6_bitCount_0f7a4 x v = some (bcE x, v) := rfl
theorem bc_ones : ∀ q, q < 1024 → onesP 40 0 (nI q) = some (bcE (nI q)) := by decide +kernel
theorem or_r : ∀ i, i < 10 → ∀ q, q < 1024 → (nI q ||| (1 <<< (nI i &&& 31))).toNatClampNeg < 1024 ∧ nI q ||| (1 <<< (nI i &&& 31)) = nI (nI q ||| (1 <<< (nI i &&& 31))).toNatClampNeg := by decide +kernel
theorem bset_r {T} : ∀ i, i ≤ 10 → ∃ q, q < 1024 ∧ bset T i = nI q
  | 0, _ => ⟨0, by omega, rfl⟩
  | i + 1, hi => by
    obtain ⟨q, hq, e⟩ := bset_r (T := T) i (by omega)
    rw [bset, e]
    split
    · exact ⟨_, (or_r i (by omega) q hq).1, (or_r i (by omega) q hq).2⟩
    · exact ⟨q, hq, rfl⟩
theorem bs_r {T} (hT : OK T) : ∃ q, q < 1024 ∧ bs T = nI q := by
  obtain ⟨N, hN, e⟩ := hT.n
  unfold bs
  exact bset_r _ (by unfold nw; rw [e, tn (by omega)]; exact hN)
theorem m_ones_bs {T w} (hT : OK T) : f_X5_ones (bs T) w = some (bcE (bs T), w) := by
  obtain ⟨q, hq, e⟩ := bs_r hT
  rw [e]
  exact m_ones (bc_ones q hq)
theorem q_allowed {v w a} (h : R v w) : Q (f_X4_allowed a v) (f_X5_allowed a w) := by
  unfold f_X4_allowed f_X5_allowed
  generalize hG4 : f_X4_allowed_L 100000 = g4
  generalize hG5 : f_X5_allowed_L 100000 = g5
  simp only [x_w25, Option.bind_some, x_f0]
  by_cases c2 : 0 ≤ a ∧ a ≤ 24
  · obtain ⟨j, hj, rfl⟩ := ix (n := 24) rfl (by omega) c2
    simp only [if_pos c2, o10, if_false, x_taken hj, (m_lotWrong (x := 0) (w := w)).2 j hj, Option.bind_some, Nat.reduceAdd, tk h hj]
    by_cases ht : w 1 (11 + 4 * j) < 0
    · simp only [if_pos ht, z00, if_true, b40, if_false, x_f3, m_f3, Option.bind_some]; exact Q_f h
    · have hk : 0 ≤ w 1 (11 + 4 * j) := Int32.not_lt.mp ht
      have ev : v 6 j = w 1 (13 + 4 * j) := tkH h hj hk
      have rt : ∀ t, t < 10 → R (jx_up v 6 j (nI t)) (jx_up w 1 (13 + 4 * j) (nI t)) := fun t ht => by
        have := R_sx (a := 2) (t := t) h (Or.inl rfl) hj hk ht
        rw [show 11 + 4 * j + 2 = 13 + 4 * j by omega] at this
        exact this
      have L : ∀ d t f f' x l b v1 w1, t + d = 10 → 1 ≤ t → d < f → d < f' → SX (jx_up v 6 j x) v1 → SM (jx_up w 1 (13 + 4 * j) x) w1 → Q (f_X4_allowed_L f (nI j) (v 6 j) l b (nI t) v1) (f_X5_allowed_L f' (nI j) 0 (w 1 (13 + 4 * j)) l b (nI t) w1) := by
        intro d
        induction d with
        | zero =>
          intro t f f' x l b v1 w1 ht ht1 hf hf' sx sm
          obtain ⟨f, rfl⟩ : ∃ q, f = q + 1 := ⟨f - 1, by omega⟩
          obtain ⟨f', rfl⟩ : ∃ q, f' = q + 1 := ⟨f' - 1, by omega⟩
          rw [f_X4_allowed_L, f_X5_allowed_L, if_pos (show (10 : Int32) ≤ nI t by rw [show (10 : Int32) = nI 10 from rfl, pI_le (by omega) (by omega)]; omega), if_pos (show (10 : Int32) ≤ nI t by rw [show (10 : Int32) = nI 10 from rfl, pI_le (by omega) (by omega)]; omega)]
          simp only [tn (show j < 2147483648 by omega), ib hj (by omega), if_false, f_X5_at, at2, Option.bind_some, tn (show 13 + 4 * j < 2147483648 by omega), ib (show 13 + 4 * j < 181 by omega) (by omega)]
          exact Q_i (R_fr h (SX_bk (by omega) sx) (SM_bk sm))
        | succ d ih =>
          intro t f f' x l b v1 w1 ht ht1 hf hf' sx sm
          obtain ⟨f, rfl⟩ : ∃ q, f = q + 1 := ⟨f - 1, by omega⟩
          obtain ⟨f', rfl⟩ : ∃ q, f' = q + 1 := ⟨f' - 1, by omega⟩
          have r := R_fr (rt t (by omega)) (SX_u2 (by omega) sx) (SM_u2 sm)
          obtain ⟨v2, e1, g1⟩ := x_bset (h := 1) (by omega) r.ok
          obtain ⟨w2, e2, g2⟩ := m_bset r.ok'
          rw [r.t] at e1
          rw [f_X4_allowed_L, f_X5_allowed_L, if_neg (show ¬ (10 : Int32) ≤ nI t by rw [show (10 : Int32) = nI 10 from rfl, pI_le (by omega) (by omega)]; omega), if_neg (show ¬ (10 : Int32) ≤ nI t by rw [show (10 : Int32) = nI 10 from rfl, pI_le (by omega) (by omega)]; omega)]
          simp only [tn (show j < 2147483648 by omega), ib hj (by omega), if_false, f_X5_at, at2, Option.bind_some, tn (show 13 + 4 * j < 2147483648 by omega), ib (show 13 + 4 * j < 181 by omega) (by omega), e1, e2, nI_add1, j_bc, m_ones_bs r.ok']
          rw [if_neg (show ¬ nI t = 0 by rw [← nz, pI_eq (by omega) (by omega)]; omega)]
          have sx2 := SX_t (SX_u2 (y := nI t) (by omega) sx) (G_SX g1)
          have sm2 := SM_t (SM_u2 (y := nI t) sm) (FM_SM g2)
          split
          · exact ih (t+1) f f' (nI t) _ _ v2 w2 (by omega) (by omega) (by omega) (by omega) sx2 sm2
          · exact ih (t+1) f f' (nI t) _ _ v2 w2 (by omega) (by omega) (by omega) (by omega) sx2 sm2
      simp only [if_neg ht, o10, z00, if_true, if_false, tn (show j < 2147483648 by omega), ib hj (by omega)]
      have r0 := rt 0 (by omega)
      obtain ⟨v2, e1, g1⟩ := x_bset (h := 1) (by omega) r0.ok
      obtain ⟨w2, e2, g2⟩ := m_bset r0.ok'
      rw [r0.t] at e1
      have l := L 9 1 99999 100000 (nI 0) (bcE (bs (mT (jx_up w 1 (13 + 4 * j) (nI 0) 1)))) 0 v2 w2 (by omega) (by omega) (by omega) (by omega) (G_SX g1) (FM_SM g2)
      have l4 : f_X4_allowed_L 100000 (nI j) (v 6 j) 0 0 0 v = f_X4_allowed_L 99999 (nI j) (v 6 j) (bcE (bs (mT (jx_up w 1 (13 + 4 * j) (nI 0) 1)))) 0 (nI 1) v2 := by
        show f_X4_allowed_L (99999+1) (nI j) (v 6 j) 0 0 (nI 0) v = _
        rw [f_X4_allowed_L, if_neg (show ¬ (10 : Int32) ≤ nI 0 by decide)]
        simp only [tn (show j < 2147483648 by omega), ib hj (by omega), if_false, e1, Option.bind_some, j_bc, nI_add1]
        rw [if_pos nz, if_neg (show ¬ bcE (bs (mT (jx_up w 1 (13 + 4 * j) (nI 0) 1))) < bcE (bs (mT (jx_up w 1 (13 + 4 * j) (nI 0) 1))) by grind)]
        rfl
      rw [m_its2 hj, Option.bind_some]
      simp only [f_X5_at, at2, Option.bind_some, tn (show 13 + 4 * j < 2147483648 by omega), ib (show 13 + 4 * j < 181 by omega) (by omega), if_false]
      rw [show (0 : Int32) = nI 0 from rfl, e2, Option.bind_some]
      dsimp only
      rw [m_ones_bs r0.ok', Option.bind_some]
      dsimp only
      subst hG4 hG5
      rw [show nI 0 = 0 from rfl] at l l4 ⊢
      rw [l4]
      exact l
  · simp only [if_neg c2, z00, if_true, (m_lotWrong (w := w)).1 c2, Option.bind_some, b10, if_false, m_f0]; exact Q_f h
theorem q_opens {v w a} (h : R v w) : Q (f_X4_opens a v) (f_X5_opens a w) := by
  obtain ⟨N, hN, eN, eN2⟩ := cn h.ok
  have eM : w 1 1 = nI N := by rw [← tkn h]; exact eN
  unfold f_X4_opens f_X5_opens
  generalize hG4 : f_X4_opens_L 100000 = g4
  generalize hG5 : f_X5_opens_L 100000 = g5
  simp only [x_w25, Option.bind_some, x_f0]
  by_cases c2 : 0 ≤ a ∧ a ≤ 24
  · obtain ⟨j, hj, rfl⟩ := ix (n := 24) rfl (by omega) c2
    simp only [if_pos c2, o10, if_false, x_taken hj, (m_lotWrong (x := 0) (w := w)).2 j hj, Option.bind_some, Nat.reduceAdd, tk h hj]
    by_cases ht : w 1 (11 + 4 * j) < 0
    · simp only [if_pos ht, z00, if_true, b40, if_false, x_f3, m_f3, Option.bind_some]; exact Q_f h
    · have hk : 0 ≤ w 1 (11 + 4 * j) := Int32.not_lt.mp ht
      have ev : v 4 j = w 1 (11 + 4 * j) := tk h hj
      have L : ∀ d i f x v1 w1, i + d = N → d < f → SX v v1 → SM w w1 → Q (f_X4_opens_L f (nI j) (v 4 j) x (nI i) v1) (f_X5_opens_L f (nI j) 0 (w 1 (11 + 4 * j)) x (nI i) w1) := by
        intro d
        induction d with
        | zero =>
          intro i f x v1 w1 hi hf sx sm
          obtain ⟨f, rfl⟩ : ∃ q, f = q + 1 := ⟨f - 1, by omega⟩
          have r := R_fr h sx sm
          have e5 : v1 1 5 = nI N := by rw [sx.1 1 (by omega)]; exact eN
          have e6 : w1 1 1 = nI N := by rw [← tkn r]; exact e5
          rw [f_X4_opens_L, f_X5_opens_L, e5, e6, if_pos (by rw [pI_le (by omega) (by omega)]; omega), if_pos (by rw [pI_le (by omega) (by omega)]; omega)]
          exact Q_i r
        | succ d ih =>
          intro i f x v1 w1 hi hf sx sm
          obtain ⟨f, rfl⟩ : ∃ q, f = q + 1 := ⟨f - 1, by omega⟩
          have r := R_fr h sx sm
          have e5 : v1 1 5 = nI N := by rw [sx.1 1 (by omega)]; exact eN
          have e6 : w1 1 1 = nI N := by rw [← tkn r]; exact e5
          obtain ⟨v2, e1, g1⟩ := x_view (h := 1) (i := i) (by omega) r.ok (by rw [e5, tn (by omega)]; omega)
          obtain ⟨w2, e2, g2⟩ := m_viewOf (i := i) r.ok' (by rw [e6, tn (by omega)]; omega)
          have r2 := R_fr r (G_SX g1) (FM_SM g2)
          have r3 := R_off r2 hj
          have x5 : (jx_up v2 4 j (-1)) 1 5 = nI N := by rw [jx_up_ne (by omega), g1 1 (by omega)]; exact e5
          have x6 : (jx_up w2 1 (11 + 4 * j) (-1)) 1 1 = nI N := by rw [← tkn r3]; exact x5
          obtain ⟨v3, e3, g3⟩ := x_view (h := 1) (i := i) (by omega) r3.ok (by rw [x5, tn (by omega)]; omega)
          obtain ⟨w3, e4, g4'⟩ := m_viewOf (i := i) r3.ok' (by rw [x6, tn (by omega)]; omega)
          rw [r.t] at e1
          rw [r3.t] at e3
          rw [f_X4_opens_L, f_X5_opens_L, e5, e6, if_neg (by rw [pI_le (by omega) (by omega)]; omega), if_neg (by rw [pI_le (by omega) (by omega)]; omega)]
          simp only [e1, e2, Option.bind_some, x_off hj, Nat.reduceAdd, e3, f_X5_at, at0, tn (show 11 + 4 * j < 2147483648 by omega), ib (show 11 + 4 * j < 181 by omega) (by omega), if_false, e4, tn (show j < 2147483648 by omega), ib hj (by omega), nI_add1, Int32.or_zero]
          have k4 : v2 4 j = v 4 j := by rw [g1 4 (by omega), sx.1 4 (by omega)]
          have k1 : w2 1 (11 + 4 * j) = w 1 (11 + 4 * j) := by rw [FM_1 g2, sm.1 1 (by omega)]
          have sx3 : SX v (jx_up v3 4 j (v 4 j)) := by
            have := SX_bk (v := v2) (c := 4) (j := j) (by omega) (G_SX g3)
            rw [k4] at this
            exact SX_t sx (SX_t (G_SX g1) this)
          have sm3 : SM w (jx_up w3 1 (11 + 4 * j) (w 1 (11 + 4 * j))) := by
            have := SM_bk (w := w2) (j := 11 + 4 * j) (FM_SM g4')
            rw [k1] at this
            exact SM_t sm (SM_t (FM_SM g2) this)
          split
          · exact ih (i+1) f _ _ _ (by omega) (by omega) sx3 sm3
          · exact ih (i+1) f _ _ _ (by omega) (by omega) sx3 sm3
      simp only [if_neg ht, o10, z00, if_true, if_false, tn (show j < 2147483648 by omega), ib hj (by omega)]
      rw [m_its0 hj, Option.bind_some]
      dsimp only
      subst hG4 hG5
      rw [← ev]
      have l := L N 0 100000 0 v w (by omega) (by omega) SX_r SM_r
      rw [← ev] at l
      exact l
  · simp only [if_neg c2, z00, if_true, (m_lotWrong (w := w)).1 c2, Option.bind_some, b10, if_false, m_f0]; exact Q_f h
def CI (v v1 : jx_V) : Prop := (∀ c, c = 0 ∨ (17 ≤ c ∧ c < 33) ∨ (54 ≤ c ∧ c < 63) → v1 c = v c) ∧ v1 53 1 = v 53 1 ∧ cT 1 v1 = cT 1 v
theorem CI_R {v w v' w'} (h : R v w) (a : CI v v') (b : BI w w') : R v' w' := by
  obtain ⟨M, hM, eM, eM2⟩ := mn h.ok'
  have e : mT (w' 1) = mT (w 1) := mT_eq b.1 (by omega)
  exact R_town h (T := cT 1 v) a.1 a.2.1 (fun c hc => b.2.2.1 c (by omega) (by omega) (by omega) (by omega) (by omega)) (b.2.2.2 4 (by omega) (by omega) (by omega)) (b.2.2.2 12 (by omega) (by omega) (by omega)) a.2.2 (by rw [e, h.t]) h.ok
theorem rem_id {h l : Nat} {v : jx_V} (e : (cT h v).K l = -1) : rem (cT h v) l = cT h v := by
  have hk : l < 25 → ¬ 0 ≤ v (h+3) l := fun hl c => by rw [cK hl] at e; rw [e] at c; exact absurd c (by decide)
  refine Tx ?_ ?_ ?_ ?_ rfl rfl rfl rfl rfl rfl rfl
  · funext q
    show (if q = l then -1 else (cT h v).K q) = (cT h v).K q
    by_cases c : q = l
    · rw [if_pos c, c, e]
    · rw [if_neg c]
  · funext q
    show (if q = l then 0 else (cT h v).O q) = (cT h v).O q
    by_cases c : q = l
    · rw [if_pos c, c]; exact (if_neg (fun q => hk q.1 q.2)).symm
    · rw [if_neg c]
  · funext q
    show (if q = l then 0 else (cT h v).H q) = (cT h v).H q
    by_cases c : q = l
    · rw [if_pos c, c]; exact (if_neg (fun q => hk q.1 q.2)).symm
    · rw [if_neg c]
  · funext q
    show (if q = l then 0 else (cT h v).P q) = (cT h v).P q
    by_cases c : q = l
    · rw [if_pos c, c]; exact (if_neg (fun q => hk q.1 q.2)).symm
    · rw [if_neg c]
theorem rem_bld {T l k o h p} : rem (bld T l k o h p) l = rem T l := by
  refine Tx ?_ ?_ ?_ ?_ rfl rfl rfl rfl rfl rfl rfl
  · funext q; show (if q = l then -1 else if q = l then k else T.K q) = if q = l then -1 else T.K q
    by_cases c : q = l
    · rw [if_pos c, if_pos c]
    · rw [if_neg c, if_neg c, if_neg c]
  · funext q; show (if q = l then 0 else if q = l then o else T.O q) = if q = l then 0 else T.O q
    by_cases c : q = l
    · rw [if_pos c, if_pos c]
    · rw [if_neg c, if_neg c, if_neg c]
  · funext q; show (if q = l then 0 else if q = l then h else T.H q) = if q = l then 0 else T.H q
    by_cases c : q = l
    · rw [if_pos c, if_pos c]
    · rw [if_neg c, if_neg c, if_neg c]
  · funext q; show (if q = l then 0 else if q = l then p else T.P q) = if q = l then 0 else T.P q
    by_cases c : q = l
    · rw [if_pos c, if_pos c]
    · rw [if_neg c, if_neg c, if_neg c]
theorem q_site {v w a b c} (h : R v w) : Q (f_X4_site a b c v) (f_X5_site a b c w) := by
  unfold f_X4_site f_X5_site
  generalize hG4 : f_X4_site_L 100000 = g4
  generalize hG5 : f_X5_site_L 100000 = g5
  simp only [x_w7, x_w4, x_w10, m_in_0_6, m_isOwner, m_isHeight, Option.bind_some, x_f0, m_f0]
  by_cases c1 : 0 ≤ a ∧ a ≤ 6
  · by_cases c3 : 0 ≤ b ∧ b ≤ 3
    · by_cases c4 : 0 ≤ c ∧ c ≤ 9
      · simp only [if_pos c1, if_pos c3, if_pos c4, o10, if_false]
        obtain ⟨o, ho, rfl⟩ := ix (n := 3) rfl (by omega) c3
        have L : ∀ d l f x m v1 w1, l + d = 25 → d < f → CI v v1 → BI w w1 → Q (f_X4_site_L f a (nI o) c x m (nI l) v1) (f_X5_site_L f a (nI o) c x m (nI l) w1) := by
          intro d
          induction d with
          | zero =>
            intro l f x m v1 w1 hl hf ci bi
            obtain ⟨f, rfl⟩ : ∃ q, f = q + 1 := ⟨f - 1, by omega⟩
            rw [f_X4_site_L, f_X5_site_L, if_pos (show (25 : Int32) ≤ nI l by rw [show (25 : Int32) = nI 25 from rfl, pI_le (by omega) (by omega)]; omega), if_pos (show (25 : Int32) ≤ nI l by rw [show (25 : Int32) = nI 25 from rfl, pI_le (by omega) (by omega)]; omega)]
            simp only [x_f3, m_f3, Option.bind_some]
            split
            · exact Q_i (CI_R h ci bi)
            · exact Q_f (CI_R h ci bi)
          | succ d ih =>
            intro l f x m v1 w1 hl hf ci bi
            obtain ⟨f, rfl⟩ : ∃ q, f = q + 1 := ⟨f - 1, by omega⟩
            have hl' : l < 25 := by omega
            have r := CI_R h ci bi
            rw [f_X4_site_L, f_X5_site_L, if_neg (show ¬ (25 : Int32) ≤ nI l by rw [show (25 : Int32) = nI 25 from rfl, pI_le (by omega) (by omega)]; omega), if_neg (show ¬ (25 : Int32) ≤ nI l by rw [show (25 : Int32) = nI 25 from rfl, pI_le (by omega) (by omega)]; omega), x_taken hl', m_thing hl']
            simp only [Option.bind_some, Nat.reduceAdd, tk r hl', nI_add1]
            by_cases ht : w1 1 (11 + 4 * l) < 0
            · simp only [if_pos ht, z00, if_true]
              have rb := R_bld r hl' c1.1 ⟨o, ho, rfl⟩ (ix (n := 9) rfl (by omega) c4) ⟨0, by omega, rfl⟩ (k := a) (o := nI o) (hh := c) (p := 0)
              obtain ⟨v3, e3, g3, hg⟩ := x_gains (h := 1) (r := 65) (by omega) (by omega) rb.ok
              obtain ⟨w3, e4, g4', _⟩ := m_gainOf rb.ok' ho
              obtain ⟨w5, d5, p5⟩ := m_back (w := w3)
              have hg' := hg o ho
              rw [rb.t] at e3 hg'
              simp only [x_put hl', m_builds hl', Option.bind_some, Nat.reduceAdd, e3, e4, d5, x_off hl', tn (show o < 2147483648 by omega), ib ho (by omega), if_false]
              rw [jx_up_ne (show 65 ≠ 4 by omega), hg']
              have bi5 : BI w w5 := BI_b bi (FY_t up_FY (FY_t up_FY (FY_t up_FY (FY_t up_FY (FM_FY g4'))))) p5
              have ek : (cT 1 v).K l = -1 := by
                rcases (cT 1 v1 |> fun _ => h.ok.k l) with e | e
                · exact e
                · exfalso
                  rw [← ci.2.2, r.t, mK hl'] at e
                  exact absurd ht (Int32.not_lt.mpr e)
              have ci5 : CI v (jx_up v3 4 l (-1)) := by
                refine ⟨fun q hq => ?_, ?_, ?_⟩
                · rw [jx_up_ne (by omega), g3 q (by omega) (by omega), jx_up_ne (by omega), jx_up_ne (by omega), jx_up_ne (by omega), jx_up_ne (by omega)]; exact ci.1 q hq
                · rw [jx_up_ne (by omega), g3 53 (by omega) (by omega), jx_up_ne (by omega), jx_up_ne (by omega), jx_up_ne (by omega), jx_up_ne (by omega)]; exact ci.2.1
                · have x1 : cT 1 (jx_up v3 4 l (-1)) = rem (cT 1 v3) l := c_off (h := 1) hl'
                  have x2 : cT 1 v3 = bld (cT 1 v1) l a (nI o) c 0 := by
                    rw [cT_congr (h := 1) (fun q hq1 hq2 => g3 q (by omega) (by omega))]
                    exact c_put (h := 1) hl' c1.1
                  rw [x1, x2, rem_bld, ci.2.2, rem_id ek]
              split
              · exact ih (l+1) f _ _ _ _ (by omega) (by omega) ci5 bi5
              · split
                · exact ih (l+1) f _ _ _ _ (by omega) (by omega) ci5 bi5
                · exact ih (l+1) f _ _ _ _ (by omega) (by omega) ci5 bi5
            · simp only [if_neg ht, o10, if_false]
              exact ih (l+1) f x m v1 w1 (by omega) (by omega) ci bi
        obtain ⟨w1, d1, p1⟩ := m_puts (w := w)
        rw [d1, Option.bind_some]
        subst hG4 hG5
        exact L 25 0 100000 (-1) 0 v w1 (by omega) (by omega) ⟨fun _ _ => rfl, rfl, rfl⟩ (BI_p p1)
      · simp only [if_pos c1, if_pos c3, if_neg c4, o10, z00, if_true, if_false]; exact Q_f h
    · simp only [if_pos c1, if_neg c3, o10, z00, if_true, if_false]; exact Q_f h
  · simp only [if_neg c1, z00, if_true]; exact Q_f h
-- swap
def exch (T : Tn) (a b : Nat) : Tn := (fun l => if l = b then T.K a else if l = a then T.K b else T.K l, fun l => if l = b then T.O a else if l = a then T.O b else T.O l, fun l => if l = b then T.H a else if l = a then T.H b else T.H l, fun l => if l = b then T.P a else if l = a then T.P b else T.P l, T.W, T.C, T.U, T.S, T.n, T.m, T.z)
theorem OK_exch {T a b} (hT : OK T) : OK (exch T a b) := by
  refine OK.mk (fun l => ?_) (fun l => ?_) (fun l => ?_) (fun l => ?_) hT.w0 hT.w1 hT.w2 hT.w3 hT.w4 hT.n hT.s
  · show (if l = b then T.K a else if l = a then T.K b else T.K l) = -1 ∨ 0 ≤ (if l = b then T.K a else if l = a then T.K b else T.K l)
    (repeat' split) <;> exact hT.k _
  · show ∃ q, q < 4 ∧ (if l = b then T.O a else if l = a then T.O b else T.O l) = nI q
    (repeat' split) <;> exact hT.o _
  · show ∃ q, q < 10 ∧ (if l = b then T.H a else if l = a then T.H b else T.H l) = nI q
    (repeat' split) <;> exact hT.h _
  · show ∃ q, q < 4 ∧ (if l = b then T.P a else if l = a then T.P b else T.P l) = nI q
    (repeat' split) <;> exact hT.p _
def sw (a b : Nat) (f : Nat → Int32) : Nat → Int32 := fun l => if l = b then f a else if l = a then f b else f l
theorem sw_sw {a b f} : sw a b (sw a b f) = f := by
  funext l; unfold sw
  by_cases e1 : l = b
  · subst e1
    by_cases e2 : a = l
    · subst e2; simp
    · simp [e2]
  · by_cases e2 : l = a
    · subst e2; simp [e1]
    · simp [e1, e2]
theorem x_exch {h a b : Nat} {v : jx_V} (ha : a < 25) (hb : b < 25) : ∃ v', f_X3_exchange h (nI a) (nI b) v = some v' ∧ (∀ c, (c < h + 3 ∨ h + 7 ≤ c) → v' c = v c) ∧ ∀ r, r < 4 → v' (h+3+r) = sw a b (v (h+3+r)) := by
  have : ∀ d q f v1, q + d = 4 → d < f → (∀ c, (c < h + 3 ∨ h + 3 + q ≤ c) → v1 c = v c) → (∀ r, r < q → v1 (h+3+r) = sw a b (v (h+3+r))) → ∃ v', f_X3_exchange_L h f (nI a) (nI b) (nI q) v1 = some v' ∧ (∀ c, (c < h + 3 ∨ h + 7 ≤ c) → v' c = v c) ∧ ∀ r, r < 4 → v' (h+3+r) = sw a b (v (h+3+r)) := by
    intro d
    induction d with
    | zero =>
      intro q f v1 hq hf h1 h2
      obtain ⟨f, rfl⟩ : ∃ q, f = q + 1 := ⟨f - 1, by omega⟩
      refine ⟨v1, ?_, fun c hc => h1 c (by omega), fun r hr => h2 r (by omega)⟩
      rw [f_X3_exchange_L, if_pos (by rw [← n4, pI_le (by omega) (by omega)]; omega)]
    | succ d ih =>
      intro q f v1 hq hf h1 h2
      obtain ⟨f, rfl⟩ : ∃ q, f = q + 1 := ⟨f - 1, by omega⟩
      rw [f_X3_exchange_L, if_neg (by rw [← n4, pI_le (by omega) (by omega)]; omega)]
      simp only [tn (show q < 2147483648 by omega), ib (show q < 4 by omega) (by omega), tn (show a < 2147483648 by omega), ib ha (by omega), tn (show b < 2147483648 by omega), ib hb (by omega), if_false, nI_add1]
      refine ih (q+1) f _ (by omega) (by omega) (fun c hc => by rw [jx_up_ne (by omega), jx_up_ne (by omega)]; exact h1 c (by omega)) (fun r hr => ?_)
      by_cases e : r = q
      · subst e
        rw [up_c, up_c, h1 (h+3+r) (by omega)]
        funext l
        unfold upd sw
        rfl
      · rw [jx_up_ne (by omega), jx_up_ne (by omega)]; exact h2 r (by omega)
  exact this 4 0 100000 v (by omega) (by omega) (fun _ _ => rfl) (fun r hr => by omega)
theorem c_exch {h a b : Nat} {v v' : jx_V} (ha : a < 25) (hb : b < 25) (ta : 0 ≤ v (h+3) a) (tb : 0 ≤ v (h+3) b) (h1 : ∀ c, (c < h + 3 ∨ h + 7 ≤ c) → v' c = v c) (h2 : ∀ r, r < 4 → v' (h+3+r) = sw a b (v (h+3+r))) : cT h v' = exch (cT h v) a b := by
  have e0 : v' (h+3) = sw a b (v (h+3)) := h2 0 (by omega)
  have e1 : v' (h+4) = sw a b (v (h+4)) := h2 1 (by omega)
  have e2 : v' (h+5) = sw a b (v (h+5)) := h2 2 (by omega)
  have e3 : v' (h+6) = sw a b (v (h+6)) := h2 3 (by omega)
  have eh : v' h = v h := h1 h (by omega)
  refine Tx ?_ ?_ ?_ ?_ ?_ ?_ ?_ ?_ (by show v' h 5 = v h 5; rw [eh]) (by show v' h 6 = v h 6; rw [eh]) (by show v' h 7 = v h 7; rw [eh])
  · funext l
    show (if l < 25 then v' (h+3) l else -1) = (if l = b then (cT h v).K a else if l = a then (cT h v).K b else (cT h v).K l)
    rw [e0, cK ha, cK hb]; unfold sw
    by_cases x1 : l = b
    · rw [if_pos x1, if_pos x1, x1, if_pos hb]
    · by_cases x2 : l = a
      · rw [if_neg x1, if_pos x2, if_neg x1, if_pos x2, x2, if_pos ha]
      · rw [if_neg x1, if_neg x2, if_neg x1, if_neg x2]; rfl
  · funext l
    show (if l < 25 ∧ 0 ≤ v' (h+3) l then v' (h+4) l else 0) = (if l = b then (cT h v).O a else if l = a then (cT h v).O b else (cT h v).O l)
    rw [e0, e1, cO ha ta, cO hb tb]; unfold sw
    by_cases x1 : l = b
    · rw [if_pos x1, if_pos x1, if_pos x1, x1, if_pos ⟨hb, ta⟩]
    · by_cases x2 : l = a
      · rw [if_neg x1, if_pos x2, if_neg x1, if_pos x2, if_neg x1, if_pos x2, x2, if_pos ⟨ha, tb⟩]
      · rw [if_neg x1, if_neg x2, if_neg x1, if_neg x2, if_neg x1, if_neg x2]; rfl
  · funext l
    show (if l < 25 ∧ 0 ≤ v' (h+3) l then v' (h+5) l else 0) = (if l = b then (cT h v).H a else if l = a then (cT h v).H b else (cT h v).H l)
    rw [e0, e2, cH ha ta, cH hb tb]; unfold sw
    by_cases x1 : l = b
    · rw [if_pos x1, if_pos x1, if_pos x1, x1, if_pos ⟨hb, ta⟩]
    · by_cases x2 : l = a
      · rw [if_neg x1, if_pos x2, if_neg x1, if_pos x2, if_neg x1, if_pos x2, x2, if_pos ⟨ha, tb⟩]
      · rw [if_neg x1, if_neg x2, if_neg x1, if_neg x2, if_neg x1, if_neg x2]; rfl
  · funext l
    show (if l < 25 ∧ 0 ≤ v' (h+3) l then v' (h+6) l else 0) = (if l = b then (cT h v).P a else if l = a then (cT h v).P b else (cT h v).P l)
    rw [e0, e3, cP ha ta, cP hb tb]; unfold sw
    by_cases x1 : l = b
    · rw [if_pos x1, if_pos x1, if_pos x1, x1, if_pos ⟨hb, ta⟩]
    · by_cases x2 : l = a
      · rw [if_neg x1, if_pos x2, if_neg x1, if_pos x2, if_neg x1, if_pos x2, x2, if_pos ⟨ha, tb⟩]
      · rw [if_neg x1, if_neg x2, if_neg x1, if_neg x2, if_neg x1, if_neg x2]; rfl
  · funext k i
    show (if k < 6 ∧ i < (v' h 5).toNatClampNeg then v' (h+7+k) i else 0) = if k < 6 ∧ i < (v h 5).toNatClampNeg then v (h+7+k) i else 0
    rw [eh, h1 (h+7+k) (by omega)]
  · funext l
    show (if l < 4 then v' (h+13) l else 0) = if l < 4 then v (h+13) l else 0
    rw [h1 (h+13) (by omega)]
  · funext l
    show (if l < 4 then v' (h+14) l else 0) = if l < 4 then v (h+14) l else 0
    rw [h1 (h+14) (by omega)]
  · funext l
    show (if l < 10 then v' (h+15) l else 0) = if l < 10 then v (h+15) l else 0
    rw [h1 (h+15) (by omega)]

def pm (q a b k : Nat) : Nat := if 11 + 4 * b ≤ k ∧ k < 11 + 4 * b + q then k - 4 * b + 4 * a else if 11 + 4 * a ≤ k ∧ k < 11 + 4 * a + q then k - 4 * a + 4 * b else k
theorem m_exch {s s' : Nat → Int32} {a b : Nat} (ha : a < 25) (hb : b < 25) (hn : (s 1).toNatClampNeg ≤ 10) (ta : 0 ≤ s (11 + 4 * a)) (tb : 0 ≤ s (11 + 4 * b)) (e : ∀ k, k < 181 → s' k = s (pm 4 a b k)) : mT s' = exch (mT s) a b := by
  have eo : ∀ k, k < 181 → ¬ (11 ≤ k ∧ k < 111) → s' k = s k := fun k hk hc => by
    rw [e k hk]; unfold pm; rw [if_neg (by omega), if_neg (by omega)]
  have el : ∀ l r, l < 25 → r < 4 → s' (11 + 4 * l + r) = if l = b then s (11 + 4 * a + r) else if l = a then s (11 + 4 * b + r) else s (11 + 4 * l + r) := fun l r hl hr => by
    rw [e _ (by omega)]
    unfold pm
    by_cases x1 : l = b
    · subst x1; rw [if_pos (by omega), if_pos rfl, show 11 + 4 * l + r - 4 * l + 4 * a = 11 + 4 * a + r by omega]
    · by_cases x2 : l = a
      · subst x2; rw [if_neg (by omega), if_pos (by omega), if_neg x1, if_pos rfl, show 11 + 4 * l + r - 4 * l + 4 * b = 11 + 4 * b + r by omega]
      · rw [if_neg (by omega), if_neg (by omega), if_neg x1, if_neg x2]
  have e0 : ∀ l, l < 25 → s' (11 + 4 * l) = if l = b then s (11 + 4 * a) else if l = a then s (11 + 4 * b) else s (11 + 4 * l) := fun l hl => el l 0 hl (by omega)
  have i1 : ∀ l, 12 + 4 * l = 11 + 4 * l + 1 := fun l => by omega
  have i2 : ∀ l, 13 + 4 * l = 11 + 4 * l + 2 := fun l => by omega
  have i3 : ∀ l, 14 + 4 * l = 11 + 4 * l + 3 := fun l => by omega
  have n1 := eo 1 (by omega) (by omega)
  refine Tx ?_ ?_ ?_ ?_ ?_ ?_ ?_ ?_ n1 (eo 0 (by omega) (by omega)) (eo 2 (by omega) (by omega))
  · funext l
    show (if l < 25 then s' (11 + 4 * l) else -1) = (if l = b then (mT s).K a else if l = a then (mT s).K b else (mT s).K l)
    rw [mK ha, mK hb]
    by_cases hl : l < 25
    · rw [if_pos hl, e0 l hl, mK hl]
    · rw [if_neg hl, if_neg (by omega), if_neg (by omega)]; exact (if_neg hl).symm
  · funext l
    show (if l < 25 ∧ 0 ≤ s' (11 + 4 * l) then s' (12 + 4 * l) else 0) = (if l = b then (mT s).O a else if l = a then (mT s).O b else (mT s).O l)
    rw [mO ha ta, mO hb tb]
    by_cases hl : l < 25
    · rw [e0 l hl, i1 l, el l 1 hl (by omega), i1 a, i1 b]
      by_cases x1 : l = b
      · rw [if_pos x1, if_pos x1, if_pos x1, if_pos ⟨hl, ta⟩]
      · by_cases x2 : l = a
        · rw [if_neg x1, if_pos x2, if_neg x1, if_pos x2, if_neg x1, if_pos x2, if_pos ⟨hl, tb⟩]
        · rw [if_neg x1, if_neg x2, if_neg x1, if_neg x2, if_neg x1, if_neg x2, ← i1 l]; rfl
    · rw [if_neg (by simp [hl]), if_neg (by omega), if_neg (by omega)]; exact (if_neg (by simp [hl])).symm
  · funext l
    show (if l < 25 ∧ 0 ≤ s' (11 + 4 * l) then s' (13 + 4 * l) else 0) = (if l = b then (mT s).H a else if l = a then (mT s).H b else (mT s).H l)
    rw [mH ha ta, mH hb tb]
    by_cases hl : l < 25
    · rw [e0 l hl, i2 l, el l 2 hl (by omega), i2 a, i2 b]
      by_cases x1 : l = b
      · rw [if_pos x1, if_pos x1, if_pos x1, if_pos ⟨hl, ta⟩]
      · by_cases x2 : l = a
        · rw [if_neg x1, if_pos x2, if_neg x1, if_pos x2, if_neg x1, if_pos x2, if_pos ⟨hl, tb⟩]
        · rw [if_neg x1, if_neg x2, if_neg x1, if_neg x2, if_neg x1, if_neg x2, ← i2 l]; rfl
    · rw [if_neg (by simp [hl]), if_neg (by omega), if_neg (by omega)]; exact (if_neg (by simp [hl])).symm
  · funext l
    show (if l < 25 ∧ 0 ≤ s' (11 + 4 * l) then s' (14 + 4 * l) else 0) = (if l = b then (mT s).P a else if l = a then (mT s).P b else (mT s).P l)
    rw [mP ha ta, mP hb tb]
    by_cases hl : l < 25
    · rw [e0 l hl, i3 l, el l 3 hl (by omega), i3 a, i3 b]
      by_cases x1 : l = b
      · rw [if_pos x1, if_pos x1, if_pos x1, if_pos ⟨hl, ta⟩]
      · by_cases x2 : l = a
        · rw [if_neg x1, if_pos x2, if_neg x1, if_pos x2, if_neg x1, if_pos x2, if_pos ⟨hl, tb⟩]
        · rw [if_neg x1, if_neg x2, if_neg x1, if_neg x2, if_neg x1, if_neg x2, ← i3 l]; rfl
    · rw [if_neg (by simp [hl]), if_neg (by omega), if_neg (by omega)]; exact (if_neg (by simp [hl])).symm
  · funext k i
    show (if k < 6 ∧ i < (s' 1).toNatClampNeg then s' (111 + 6 * i + k) else 0) = if k < 6 ∧ i < (s 1).toNatClampNeg then s (111 + 6 * i + k) else 0
    rw [n1]
    by_cases hl : k < 6 ∧ i < (s 1).toNatClampNeg
    · rw [if_pos hl, if_pos hl, eo _ (by omega) (by omega)]
    · rw [if_neg hl, if_neg hl]
  · funext l
    show (if l < 4 then s' (3 + l) else 0) = if l < 4 then s (3 + l) else 0
    by_cases hl : l < 4
    · rw [if_pos hl, if_pos hl, eo _ (by omega) (by omega)]
    · rw [if_neg hl, if_neg hl]
  · funext l
    show (if l < 4 then s' (7 + l) else 0) = if l < 4 then s (7 + l) else 0
    by_cases hl : l < 4
    · rw [if_pos hl, if_pos hl, eo _ (by omega) (by omega)]
    · rw [if_neg hl, if_neg hl]
  · funext l
    show (if l < 10 then s' (171 + l) else 0) = if l < 10 then s (171 + l) else 0
    by_cases hl : l < 10
    · rw [if_pos hl, if_pos hl, eo _ (by omega) (by omega)]
    · rw [if_neg hl, if_neg hl]
theorem m_sw0 {a b x3 x4 : Int32} {w : jx_V} : ∀ d o f w1, o + d = 4 → (∀ c, c ≠ 7 → w1 c = w c) → (∀ q, q < o → w1 7 q = w 6 q) → ∃ w2, f_X5_swap_L (f+d+1) 0 a b x3 x4 (nI o) 0 w1 = (f_X5_puts w2).bind (fun v25 => f_X5_swap_L f 1 a b x3 x4 0 0 v25) ∧ (∀ c, c ≠ 7 → w2 c = w c) ∧ (∀ q, q < 4 → w2 7 q = w 6 q)
  | 0, o, f, w1, ho, h1, h2 => by
    refine ⟨w1, ?_, h1, fun q hq => h2 q (by omega)⟩
    rw [f_X5_swap_L, if_pos rfl, if_pos (by rw [← n4, pI_le (by omega) (by omega)]; omega)]
  | d + 1, o, f, w1, ho, h1, h2 => by
    obtain ⟨w2, e, g1, g2⟩ := m_sw0 (a := a) (b := b) (x3 := x3) (x4 := x4) (w := w) d (o+1) f (jx_up w1 7 o (w1 6 o)) (by omega) (fun c hc => by rw [jx_up_ne hc]; exact h1 c hc) (fun q hq => by
      rw [up_g]
      by_cases e : q = o
      · rw [if_pos ⟨rfl, e⟩, e, h1 6 (by omega)]
      · rw [if_neg (by omega)]; exact h2 q (by omega))
    refine ⟨w2, ?_, g1, g2⟩
    rw [show f + (d + 1) + 1 = (f + d + 1) + 1 by omega, f_X5_swap_L, if_pos rfl, if_neg (by rw [← n4, pI_le (by omega) (by omega)]; omega)]
    simp only [tn (show o < 2147483648 by omega), ib (show o < 4 by omega) (by omega), if_false, nI_add1]
    exact e
theorem m_sw1 {a b : Nat} {x3 x4 : Int32} {w : jx_V} (ha : a < 25) (hb : b < 25) (h3 : ∀ k, k < 181 → w 3 k = w 1 k) : ∀ d q f w1, q + d = 4 → (∀ c, c ≠ 1 → w1 c = w c) → (∀ k, k < 181 → w1 1 k = w 1 (pm q a b k)) → ∃ w2, f_X5_swap_L (f+d+1) 1 (nI a) (nI b) x3 x4 (nI q) 0 w1 = (f_X5_findGains w2).bind (fun (r29, v29) => (f_X5_putsBack v29).bind (fun v30 => f_X5_swap_L f 2 (nI a) (nI b) x3 r29 0 0 v30)) ∧ (∀ c, c ≠ 1 → w2 c = w c) ∧ (∀ k, k < 181 → w2 1 k = w 1 (pm 4 a b k))
  | 0, q, f, w1, hq, h1, h2 => by
    refine ⟨w1, ?_, h1, fun k hk => by rw [← show q = 4 by omega]; exact h2 k hk⟩
    rw [f_X5_swap_L, if_neg (by decide), if_pos rfl, if_pos (by rw [← n4, pI_le (by omega) (by omega)]; omega)]
  | d + 1, q, f, w1, hq, h1, h2 => by
    obtain ⟨w2, e, g1, g2⟩ := m_sw1 (x3 := x3) (x4 := x4) (w := w) ha hb h3 d (q+1) f (jx_up (jx_up w1 1 (11+4*a+q) (w1 3 (11+4*b+q))) 1 (11+4*b+q) ((jx_up w1 1 (11+4*a+q) (w1 3 (11+4*b+q))) 3 (11+4*a+q))) (by omega) (fun c hc => by rw [jx_up_ne hc, jx_up_ne hc]; exact h1 c hc) (fun k hk => by
      rw [jx_up_ne (show 3 ≠ 1 by omega), up_g, up_g, h1 3 (by omega)]
      unfold pm
      by_cases x1 : k = 11 + 4 * b + q
      · rw [if_pos ⟨rfl, x1⟩, if_pos (by omega), h3 _ (by omega), x1, show 11 + 4 * b + q - 4 * b + 4 * a = 11 + 4 * a + q by omega]
      · by_cases x2 : k = 11 + 4 * a + q
        · rw [if_neg (by omega), if_pos ⟨rfl, x2⟩, if_neg (by omega), if_pos (by omega), h3 _ (by omega), x2, show 11 + 4 * a + q - 4 * a + 4 * b = 11 + 4 * b + q by omega]
        · rw [if_neg (by omega), if_neg (by omega), h2 k hk]
          unfold pm
          by_cases x3 : 11 + 4 * b ≤ k ∧ k < 11 + 4 * b + q
          · rw [if_pos x3, if_pos (by omega)]
          · rw [if_neg x3, if_neg (show ¬ (11 + 4 * b ≤ k ∧ k < 11 + 4 * b + (q + 1)) by omega)]
            by_cases x4 : 11 + 4 * a ≤ k ∧ k < 11 + 4 * a + q
            · rw [if_pos x4, if_pos (by omega)]
            · rw [if_neg x4, if_neg (show ¬ (11 + 4 * a ≤ k ∧ k < 11 + 4 * a + (q + 1)) by omega)])
    refine ⟨w2, ?_, g1, g2⟩
    rw [show f + (d + 1) + 1 = (f + d + 1) + 1 by omega, f_X5_swap_L, if_neg (by decide), if_pos rfl, if_neg (by rw [← n4, pI_le (by omega) (by omega)]; omega)]
    simp only [f_X5_at, at_n, Option.bind_some, tn (show 11 + 4 * a + q < 2147483648 by omega), ib (show 11 + 4 * a + q < 181 by omega) (by omega), tn (show 11 + 4 * b + q < 2147483648 by omega), ib (show 11 + 4 * b + q < 181 by omega) (by omega), if_false, nI_add1]
    exact e
theorem cmp_L {v w : jx_V} {a b a' b' x3 x4 : Int32} (hg : ∀ o, o < 4 → v 65 o = w 6 o) (hh : ∀ o, o < 4 → v 64 o = w 7 o) : ∀ d o f f' n, o + d = 4 → d < f → d < f' → ∃ r, f_X4_swap_L f a b n (nI o) v = some (r, v) ∧ f_X5_swap_L f' 2 a' b' x3 x4 n (nI o) w = some (r, w) := by
  intro d
  induction d with
  | zero =>
    intro o f f' n ho hf hf'
    obtain ⟨f, rfl⟩ : ∃ q, f = q + 1 := ⟨f - 1, by omega⟩
    obtain ⟨f', rfl⟩ : ∃ q, f' = q + 1 := ⟨f' - 1, by omega⟩
    refine ⟨n, ?_, ?_⟩
    · rw [f_X4_swap_L, if_pos (by rw [← n4, pI_le (by omega) (by omega)]; omega)]
    · rw [f_X5_swap_L, if_neg (by decide), if_neg (by decide), if_pos rfl, if_pos (by rw [← n4, pI_le (by omega) (by omega)]; omega)]
  | succ d ih =>
    intro o f f' n ho hf hf'
    obtain ⟨f, rfl⟩ : ∃ q, f = q + 1 := ⟨f - 1, by omega⟩
    obtain ⟨f', rfl⟩ : ∃ q, f' = q + 1 := ⟨f' - 1, by omega⟩
    rw [f_X4_swap_L, if_neg (by rw [← n4, pI_le (by omega) (by omega)]; omega), f_X5_swap_L, if_neg (show ¬ (2 : Nat) = 0 by decide), if_neg (show ¬ (2 : Nat) = 1 by decide), if_pos (show (2 : Nat) = 2 from rfl), if_neg (show ¬ (4 : Int32) ≤ nI o by rw [← n4, pI_le (by omega) (by omega)]; omega)]
    have j : ∀ x y, f_J6_compare_7cf53 x y v = some (if y ≤ x then (if x = y then 0 else 1) else -1, v) := by
      intro x y; unfold f_J6_compare_7cf53; grind
    simp only [tn (show o < 2147483648 by omega), ib (show o < 4 by omega) (by omega), if_false, nI_add1, j, Option.bind_some, hg o (by omega), hh o (by omega)]
    by_cases c1 : w 6 o ≤ w 7 o
    · rw [if_pos c1]
      by_cases c2 : w 7 o ≤ w 6 o
      · rw [if_pos c2, if_pos c2, if_pos (show w 6 o = w 7 o by grind)]
        exact ih (o+1) f f' (n+0) (by omega) (by omega) (by omega)
      · rw [if_neg c2, if_neg c2]
        exact ih (o+1) f f' (n+(-1)) (by omega) (by omega) (by omega)
    · rw [if_neg c1, if_pos (show w 7 o ≤ w 6 o by grind), if_neg (show ¬ w 6 o = w 7 o by grind)]
      exact ih (o+1) f f' (n+1) (by omega) (by omega) (by omega)

theorem q_swap {v w a b} (h : R v w) : Q (f_X4_swap a b v) (f_X5_swap a b w) := by
  unfold f_X4_swap f_X5_swap
  generalize hG4 : f_X4_swap_L 100000 = g4
  generalize hG5 : f_X5_swap_L 100000 = g5
  simp only [x_w25, m_isLot, Option.bind_some, x_f0, m_f0]
  by_cases c1 : 0 ≤ a ∧ a ≤ 24
  · by_cases c2 : 0 ≤ b ∧ b ≤ 24
    · obtain ⟨i, hi, rfl⟩ := ix (n := 24) rfl (by omega) c1
      obtain ⟨j, hj, rfl⟩ := ix (n := 24) rfl (by omega) c2
      simp only [if_pos c1, if_pos c2, o10, if_false, x_taken hi, x_taken hj, m_thing hi, m_thing hj, Option.bind_some, Nat.reduceAdd, tk h hi, tk h hj, x_f3, m_f3]
      by_cases ta : w 1 (11 + 4 * i) < 0
      · simp only [if_pos ta, z00, if_true, b40, if_false]; exact Q_f h
      · by_cases tb : w 1 (11 + 4 * j) < 0
        · simp only [if_neg ta, if_pos tb, z00, o10, if_true, b40, if_false]; exact Q_f h
        · simp only [if_neg ta, if_neg tb, z00, o10, if_true, if_false]
          have ta' := Int32.not_lt.mp ta
          have tb' := Int32.not_lt.mp tb
          obtain ⟨M, hM, eM, eM2⟩ := mn h.ok'
          obtain ⟨v1, e1, g1, hg1⟩ := x_gains (h := 1) (r := 64) (by omega) (by omega) h.ok
          obtain ⟨w1, d1, f1, hf1⟩ := m_gains h.ok'
          have r1 := R_fr h (GR_SX (by omega) g1) (FM_SM f1)
          have k1 : w1 1 = w 1 := FM_1 f1
          have ta1 : 0 ≤ v1 (1 + 3) i := by show 0 ≤ v1 4 i; rw [tk r1 hi, k1]; exact ta'
          have tb1 : 0 ≤ v1 (1 + 3) j := by show 0 ≤ v1 4 j; rw [tk r1 hj, k1]; exact tb'
          obtain ⟨v2, e2, h2a, h2b⟩ := x_exch (h := 1) (v := v1) hi hj
          have t2 : cT 1 v2 = exch (cT 1 v1) i j := c_exch hi hj ta1 tb1 h2a h2b
          obtain ⟨v3, e3, g3, hg3⟩ := x_gains (h := 1) (r := 65) (v := v2) (by omega) (by omega) (by rw [t2]; exact OK_exch r1.ok)
          obtain ⟨v4, e4, h4a, h4b⟩ := x_exch (h := 1) (v := v3) hi hj
          obtain ⟨w2, d2, a2, b2⟩ := m_sw0 (a := nI i) (b := nI j) (x3 := 0) (x4 := rs (mT (w 1))) (w := w1) 4 0 99995 w1 (by omega) (fun _ _ => rfl) (fun q hq => by omega)
          obtain ⟨w3, d3, p3⟩ := m_puts (w := w2)
          have k3 : w3 1 = w 1 := by rw [p3.1 1 (by omega), a2 1 (by omega), k1]
          obtain ⟨w4, d4, a4, b4⟩ := m_sw1 (a := i) (b := j) (x3 := 0) (x4 := rs (mT (w 1))) (w := w3) hi hj (fun k hk => by rw [p3.2 k hk, p3.1 1 (by omega)]) 4 0 99990 w3 (by omega) (fun _ _ => rfl) (fun k hk => by unfold pm; rw [if_neg (by omega), if_neg (by omega)])
          have t4 : mT (w4 1) = exch (mT (w 1)) i j := by
            rw [← k3]
            exact m_exch hi hj (by rw [k3]; omega) (by rw [k3]; exact ta') (by rw [k3]; exact tb') b4
          obtain ⟨w5, d5, f5, hf5⟩ := m_gains (w := w4) (by rw [t4]; exact OK_exch h.ok')
          obtain ⟨w6, d6, p6⟩ := m_back (w := w5)
          -- its rows
          have sx : SX v v4 := by
            refine SX_t (GR_SX (by omega) g1) ⟨fun c hc => ?_, ?_⟩
            · by_cases x : c < 1 + 3 ∨ 1 + 7 ≤ c
              · rw [h4a c x, g3 c (by omega) (by omega), h2a c x]
              · obtain ⟨r, hr, rfl⟩ : ∃ r, r < 4 ∧ c = 1 + 3 + r := ⟨c - 4, by omega, by omega⟩
                rw [h4b r hr, g3 (1 + 3 + r) (by omega) (by omega), h2b r hr, sw_sw]
            · rw [h4a 53 (by omega), g3 53 (by omega) (by omega), h2a 53 (by omega)]
          have e6 : mT (w6 1) = cT 1 v := by
            rw [h.t]
            exact mT_eq (fun k hk => by rw [p6.2 k hk, f5.1 3 (by omega) (by omega) (by omega), a4 3 (by omega), p3.2 k hk, a2 1 (by omega), k1]) (by omega)
          have c6 : ∀ c, (c = 2 ∨ (8 ≤ c ∧ c < 12)) → w6 c = w c := fun c hc => by
            rw [p6.1 c (by omega), f5.1 c (by omega) (by omega) (by omega), a4 c (by omega), p3.1 c (by omega), a2 c (by omega), f1.1 c (by omega) (by omega) (by omega)]
          have c0 : ∀ q, q ≠ 6 → q ≠ 7 → q ≠ 8 → w6 0 q = w 0 q := fun q q6 q7 q8 => by
            rw [p6.1 0 (by omega), f5.2 q q6 q7 q8, a4 0 (by omega), p3.1 0 (by omega), a2 0 (by omega), f1.2 q q6 q7 q8]
          have r6 : R v4 w6 := R_town h (T := cT 1 v) (fun c hc => sx.1 c (by omega)) sx.2 c6 (c0 4 (by omega) (by omega) (by omega)) (c0 12 (by omega) (by omega) (by omega)) (SX_c (by omega) sx) e6 h.ok
          have et : exch (cT 1 v1) i j = exch (mT (w 1)) i j := by rw [r1.t, k1]
          have hg : ∀ o, o < 4 → v4 65 o = w6 6 o := fun o ho => by
            rw [h4a 65 (by omega), hg3 o ho, t2, et, p6.1 6 (by omega), hf5 o ho, t4]
          have hh : ∀ o, o < 4 → v4 64 o = w6 7 o := fun o ho => by
            rw [h4a 64 (by omega), g3 64 (by omega) (by omega), h2a 64 (by omega), hg1 o ho, h.t, p6.1 7 (by omega), f5.1 7 (by omega) (by omega) (by omega), a4 7 (by omega), p3.1 7 (by omega), b2 o ho, hf1 o ho]
          rw [d3, Option.bind_some] at d2
          rw [d5, Option.bind_some] at d4
          dsimp only at d2 d4
          rw [d6, Option.bind_some] at d4
          obtain ⟨r, x1, x2⟩ := cmp_L (v := v4) (w := w6) (a := nI i) (b := nI j) (a' := nI i) (b' := nI j) (x3 := 0) (x4 := rs (mT (w4 1))) hg hh 4 0 100000 99990 0 (by omega) (by omega) (by omega)
          simp only [e1, e2, e3, e4, Option.bind_some]
          rw [d1, Option.bind_some]
          dsimp only
          subst hG4 hG5
          exact ⟨r, v4, w6, x1, d2.trans (d4.trans x2), r6⟩
    · simp only [if_pos c1, if_neg c2, o10, z00, if_true, if_false, b10]; exact Q_f h
  · simp only [if_neg c1, z00, if_true, b10, if_false]; exact Q_f h
theorem R_sh {v w v' w'} (h : R v w) (a : ∀ c, (c < 33 ∨ c = 54) → v' c = v c) (a2 : v' 53 1 = v 53 1) (b : ∀ c, (c = 1 ∨ c = 2 ∨ c = 8) → w' c = w c) (b2 : w' 0 4 = w 0 4) (b3 : w' 0 12 = w 0 12) (s : ∀ s, s < 4 → v' 61 s = w' 9 s ∧ v' 62 s = w' 10 s ∧ (∃ L, L ≤ 40 ∧ v' 62 s = nI L) ∧ ∀ i, i < 40 → v' (57 + s) i = w' 11 (40 * s + i)) : R v' w' := by
  have e0 : v' 0 = v 0 := a 0 (by omega)
  have e1 : cT 1 v' = cT 1 v := cT_congr (fun c _ _ => a c (by omega))
  have e17 : cT 17 v' = cT 17 v := cT_congr (fun c _ _ => a c (by omega))
  refine R.mk ?_ ?_ ?_ ?_ ?_ ?_ ?_ ?_ s
  · rw [e1, b 1 (by omega)]; exact h.t
  · rw [e1]; exact h.ok
  · rw [e0, b2]; exact h.k
  · rw [e0]; exact h.kb
  · rw [e0, e17, b 2 (by omega)]; exact h.kt
  · rw [a2, b3]; exact h.tl
  · rw [a2]; exact h.tr
  · rw [a 54 (by omega), b 8 (by omega)]; exact h.tb
theorem x_begin {s F : Nat} {x2 x3 : Int32} {v1 : jx_V} (hs : s < 4) (hF : 40 < F) : ∃ v', f_X1_begin_L F (nI s) x2 x3 0 v1 = some v' ∧ (∀ c, c ≠ 57 + s → v' c = v1 c) ∧ ∀ i, i < 40 → v' (57 + s) i = 0 := by
  have : ∀ d i f v2, i + d = 40 → d < f → (∀ c, c ≠ 57 + s → v2 c = v1 c) → (∀ k, k < i → v2 (57 + s) k = 0) → ∃ v', f_X1_begin_L f (nI s) x2 x3 (nI i) v2 = some v' ∧ (∀ c, c ≠ 57 + s → v' c = v1 c) ∧ ∀ i, i < 40 → v' (57 + s) i = 0 := by
    intro d
    induction d with
    | zero =>
      intro i f v2 hi hf h1 h2
      obtain ⟨f, rfl⟩ : ∃ q, f = q + 1 := ⟨f - 1, by omega⟩
      refine ⟨v2, ?_, h1, fun k hk => h2 k (by omega)⟩
      rw [f_X1_begin_L, if_pos (by rw [show (40 : Int32) = nI 40 from rfl, pI_le (by omega) (by omega)]; omega)]
    | succ d ih =>
      intro i f v2 hi hf h1 h2
      obtain ⟨f, rfl⟩ : ∃ q, f = q + 1 := ⟨f - 1, by omega⟩
      rw [f_X1_begin_L, if_neg (by rw [show (40 : Int32) = nI 40 from rfl, pI_le (by omega) (by omega)]; omega)]
      simp only [tn (show s < 2147483648 by omega), ib hs (by omega), tn (show i < 2147483648 by omega), ib (show i < 40 by omega) (by omega), if_false, nI_add1]
      refine ih (i+1) f _ (by omega) (by omega) (fun c hc => by rw [jx_up_ne hc]; exact h1 c hc) (fun k hk => ?_)
      rw [up_g]
      by_cases e : k = i
      · rw [if_pos ⟨rfl, e⟩]
      · rw [if_neg (by omega)]; exact h2 k (by omega)
  exact this 40 0 F v1 (by omega) (by omega) (fun _ _ => rfl) (fun k hk => by omega)
theorem f40 {s i : Nat} : 40 * nI s + nI i = nI (40 * s + i) := by unfold nI; simp [Int32.ofNat_add, Int32.ofNat_mul]
theorem m_begin {s F : Nat} {x2 x3 : Int32} {w1 : jx_V} (hs : s < 4) (hF : 40 < F) : ∃ w', f_X5_sheet_L F (nI s) x2 x3 0 w1 = some (w' 10 s, w') ∧ (∀ c, c ≠ 11 → w' c = w1 c) ∧ ∀ k, w' 11 k = if 40 * s ≤ k ∧ k < 40 * s + 40 then 0 else w1 11 k := by
  have : ∀ d i f w2, i + d = 40 → d < f → (∀ c, c ≠ 11 → w2 c = w1 c) → (∀ k, w2 11 k = if 40 * s ≤ k ∧ k < 40 * s + i then 0 else w1 11 k) → ∃ w', f_X5_sheet_L f (nI s) x2 x3 (nI i) w2 = some (w' 10 s, w') ∧ (∀ c, c ≠ 11 → w' c = w1 c) ∧ ∀ k, w' 11 k = if 40 * s ≤ k ∧ k < 40 * s + 40 then 0 else w1 11 k := by
    intro d
    induction d with
    | zero =>
      intro i f w2 hi hf h1 h2
      obtain ⟨f, rfl⟩ : ∃ q, f = q + 1 := ⟨f - 1, by omega⟩
      obtain rfl : i = 40 := by omega
      refine ⟨w2, ?_, h1, h2⟩
      rw [f_X5_sheet_L, if_pos (by rw [show (40 : Int32) = nI 40 from rfl, pI_le (by omega) (by omega)]; omega)]
      simp only [tn (show s < 2147483648 by omega), ib hs (by omega), if_false]
    | succ d ih =>
      intro i f w2 hi hf h1 h2
      obtain ⟨f, rfl⟩ : ∃ q, f = q + 1 := ⟨f - 1, by omega⟩
      rw [f_X5_sheet_L, if_neg (by rw [show (40 : Int32) = nI 40 from rfl, pI_le (by omega) (by omega)]; omega)]
      simp only [f40, tn (show 40 * s + i < 2147483648 by omega), ib (show 40 * s + i < 160 by omega) (by omega), if_false, nI_add1]
      refine ih (i+1) f _ (by omega) (by omega) (fun c hc => by rw [jx_up_ne hc]; exact h1 c hc) (fun k => ?_)
      rw [up_g]
      by_cases e : k = 40 * s + i
      · rw [if_pos ⟨rfl, e⟩, if_pos (by omega)]
      · rw [if_neg (by omega), h2 k]
        by_cases x : 40 * s ≤ k ∧ k < 40 * s + i
        · rw [if_pos x, if_pos (by omega)]
        · rw [if_neg x, if_neg (by omega)]
  exact this 40 0 F w1 (by omega) (by omega) (fun _ _ => rfl) (fun k => by rw [if_neg (by omega)])
theorem sh_core {v w : jx_V} {s F F' : Nat} {x2 x3 y2 y3 bits len : Int32} (h : R v w) (hs : s < 4) (hl : ∃ L, L ≤ 40 ∧ len = nI L) (hF : 40 < F) (hF' : 40 < F') :
    Q ((f_X1_begin_L F (nI s) x2 x3 0 (jx_up (jx_up v 61 s bits) 62 s len)).bind (fun v7 => some (v7 62 s, v7))) (f_X5_sheet_L F' (nI s) y2 y3 0 (jx_up (jx_up w 9 s bits) 10 s len)) := by
  obtain ⟨v', e1, a1, b1⟩ := x_begin (s := s) (F := F) (x2 := x2) (x3 := x3) (v1 := jx_up (jx_up v 61 s bits) 62 s len) hs hF
  obtain ⟨w', e2, a2, b2⟩ := m_begin (s := s) (F := F') (x2 := y2) (x3 := y3) (w1 := jx_up (jx_up w 9 s bits) 10 s len) hs hF'
  have v62 : v' 62 = upd (v 62) s len := by rw [a1 62 (by omega), up_c, jx_up_ne (by omega)]
  have v61 : v' 61 = upd (v 61) s bits := by rw [a1 61 (by omega), jx_up_ne (by omega), up_c]
  have w10 : w' 10 = upd (w 10) s len := by rw [a2 10 (by omega), up_c, jx_up_ne (by omega)]
  have w9 : w' 9 = upd (w 9) s bits := by rw [a2 9 (by omega), jx_up_ne (by omega), up_c]
  rw [e1, e2, Option.bind_some]
  rw [show v' 62 s = w' 10 s by rw [v62, w10]; unfold upd; rw [if_pos rfl, if_pos rfl]]
  refine Q_i (R_sh h (fun c hc => ?_) ?_ (fun c hc => ?_) ?_ ?_ (fun q hq => ?_))
  · rw [a1 c (by omega), jx_up_ne (by omega), jx_up_ne (by omega)]
  · rw [a1 53 (by omega), jx_up_ne (by omega), jx_up_ne (by omega)]
  · rw [a2 c (by omega), jx_up_ne (by omega), jx_up_ne (by omega)]
  · rw [a2 0 (by omega), jx_up_ne (by omega), jx_up_ne (by omega)]
  · rw [a2 0 (by omega), jx_up_ne (by omega), jx_up_ne (by omega)]
  · rw [v61, v62, w9, w10]
    have hq' := h.s q hq
    unfold upd
    by_cases e : q = s
    · subst e
      rw [if_pos rfl, if_pos rfl, if_pos rfl, if_pos rfl]
      refine ⟨rfl, rfl, hl, fun i hi => ?_⟩
      rw [b1 i hi, b2, if_pos (by omega)]
    · rw [if_neg e, if_neg e, if_neg e, if_neg e]
      refine ⟨hq'.1, hq'.2.1, hq'.2.2.1, fun i hi => ?_⟩
      rw [a1 (57+q) (by omega), b2, if_neg (by omega), jx_up_ne (by omega), jx_up_ne (by omega), jx_up_ne (by omega), jx_up_ne (by omega)]
      exact hq'.2.2.2 i hi
theorem q_sheet {v w a b c} (h : R v w) : Q (f_X4_sheet a b c v) (f_X5_sheet a b c w) := by
  unfold f_X4_sheet f_X5_sheet f_X1_begin
  generalize hF4 : (100000 : Nat) = F
  simp only [x_w4, m_isOne, Option.bind_some, x_f0, m_f0, x_f6, m_f6]
  by_cases c1 : 0 ≤ a ∧ a ≤ 3
  · obtain ⟨s, hs, rfl⟩ := ix (n := 3) rfl (by omega) c1
    simp only [if_pos c1, o10, if_false, tn (show s < 2147483648 by omega), ib hs (by omega)]
    by_cases b0 : b = 0
    · subst b0
      simp only [if_true]
      by_cases c2 : 0 ≤ c
      · by_cases c3 : c ≤ 40
        · rw [if_pos c2, if_pos c3, if_pos c2, if_pos c3]
          exact sh_core h hs ⟨0, by omega, rfl⟩ (by omega) (by omega)
        · rw [if_pos c2, if_neg c3, if_pos c2, if_neg c3]; exact Q_f h
      · rw [if_neg c2, if_neg c2]; exact Q_f h
    · simp only [b0, if_false]
      have core : Q (if 0 ≤ c then if c ≤ 40 then (f_X1_begin_L F (nI s) b c 0 (jx_up (jx_up v 61 s b) 62 s c)).bind (fun v7 => some (v7 62 s, v7)) else some (-1000001, jx_up v 63 0 (v 63 0 + 1)) else some (-1000007, jx_up v 63 6 (v 63 6 + 1)))
          (if 0 ≤ c then if c ≤ 40 then f_X5_sheet_L F (nI s) b c 0 (jx_up (jx_up w 9 s b) 10 s c) else some (-1000001, jx_up w 4 0 (w 4 0 + 1)) else some (-1000007, jx_up w 4 6 (w 4 6 + 1))) := by
        by_cases c2 : 0 ≤ c
        · by_cases c3 : c ≤ 40
          · rw [if_pos c2, if_pos c3, if_pos c2, if_pos c3]
            obtain ⟨L, hL, eL⟩ := ix (n := 40) rfl (by omega) ⟨c2, c3⟩
            exact sh_core h hs ⟨L, by omega, eL⟩ (by omega) (by omega)
          · rw [if_pos c2, if_neg c3, if_pos c2, if_neg c3]; exact Q_f h
        · rw [if_neg c2, if_neg c2]; exact Q_f h
      by_cases b8 : b = 8
      · rw [if_pos b8, if_pos b8]; exact core
      · rw [if_neg b8, if_neg b8]
        by_cases b16 : b = 16
        · rw [if_pos b16, if_pos b16]; exact core
        · rw [if_neg b16, if_neg b16]
          by_cases b32 : b = 32
          · rw [if_pos b32, if_pos b32]; exact core
          · rw [if_neg b32, if_neg b32]; exact Q_f h
  · simp only [if_neg c1, z00, if_true]; exact Q_f h
theorem x_miss {s : Nat} {v : jx_V} (hs : s < 4) : f_X1_isMissing (nI s) v = some (if v 61 s = 0 then 1 else 0, v) := by
  unfold f_X1_isMissing
  simp only [tn (show s < 2147483648 by omega), ib hs (by omega), if_false]
  split <;> rfl
theorem m_wrong {x} {w : jx_V} : (¬ (0 ≤ x ∧ x ≤ 3) → f_X5_wrong x w = some (-1000001, w)) ∧ ∀ s, s < 4 → f_X5_wrong (nI s) w = some (if w 9 s = 0 then -1000006 else 0, w) := by
  unfold f_X5_wrong
  constructor
  · intro c; simp only [m_isOne, Option.bind_some, if_neg c, z00, if_true]
  · intro s hs
    have c : 0 ≤ nI s ∧ nI s ≤ 3 := ⟨pI_pos (by omega), by rw [← n3, pI_le (by omega) (by omega)]; omega⟩
    simp only [m_isOne, Option.bind_some, if_pos c, o10, if_false, tn (show s < 2147483648 by omega), ib hs (by omega)]
    split <;> rfl
theorem R_num {v w : jx_V} {s i : Nat} {x : Int32} (h : R v w) (hs : s < 4) (hi : i < 40) : R (jx_up v (57 + s) i x) (jx_up w 11 (40 * s + i) x) := by
  refine R_sh h (fun c hc => jx_up_ne (by omega)) (by rw [jx_up_ne (by omega)]) (fun c hc => jx_up_ne (by omega)) (by rw [jx_up_ne (by omega)]) (by rw [jx_up_ne (by omega)]) (fun q hq => ?_)
  have hq' := h.s q hq
  rw [jx_up_ne (by omega), jx_up_ne (by omega), jx_up_ne (by omega), jx_up_ne (by omega)]
  refine ⟨hq'.1, hq'.2.1, hq'.2.2.1, fun k hk => ?_⟩
  rw [up_g, up_g]
  by_cases e : q = s ∧ k = i
  · rw [if_pos (by omega), if_pos (by omega)]
  · rw [if_neg (by omega), if_neg (by omega)]; exact hq'.2.2.2 k hk
theorem q_write {v w a b c} (h : R v w) : Q (f_X4_write a b c v) (f_X5_write a b c w) := by
  unfold f_X4_write f_X5_write
  simp only [x_w4, Option.bind_some, x_f0, x_f5]
  by_cases c1 : 0 ≤ a ∧ a ≤ 3
  · obtain ⟨s, hs, rfl⟩ := ix (n := 3) rfl (by omega) c1
    obtain ⟨e61, e62, ⟨L, hL, eL⟩, _⟩ := h.s s hs
    simp only [if_pos c1, o10, if_false, x_miss hs, (m_wrong (x := 0) (w := w)).2 s hs, Option.bind_some, e61, tn (show s < 2147483648 by omega), ib hs (by omega)]
    by_cases m0 : w 9 s = 0
    · simp only [if_pos m0, o10, b60, if_false, m_f5, Option.bind_some]; exact Q_f h
    · simp only [if_neg m0, z00, if_true, x_wi, m_in_0_v, Option.bind_some, ← e62, eL, m_f0]
      by_cases c2 : 0 ≤ b ∧ b < nI L
      · obtain ⟨i, hi, rfl⟩ := nI_ex (by omega) c2.1 c2.2
        have c2' : 0 ≤ nI i ∧ nI i ≤ nI L - 1 := ⟨c2.1, by
          have h1 : nI L ≤ 40 := by rw [show (40 : Int32) = nI 40 from rfl, pI_le (by omega) (by omega)]; omega
          have h2 := c2.2
          have h3 := c2.1
          grind⟩
        rw [if_pos c2, if_pos c2']
        simp only [o10, if_false, f_X1_store, f_X5_narrowed, e61, f40, tn (show s < 2147483648 by omega), ib hs (by omega), tn (show i < 2147483648 by omega), ib (show i < 40 by omega) (by omega), tn (show 40 * s + i < 2147483648 by omega), ib (show 40 * s + i < 160 by omega) (by omega)]
        by_cases b8 : w 9 s = 8
        · simp only [if_pos b8, Option.bind_some, f40, tn (show 40 * s + i < 2147483648 by omega), ib (show 40 * s + i < 160 by omega) (by omega), if_false]; exact Q_i (R_num h hs (by omega))
        · by_cases b16 : w 9 s = 16
          · simp only [if_neg b8, if_pos b16, Option.bind_some, f40, tn (show 40 * s + i < 2147483648 by omega), ib (show 40 * s + i < 160 by omega) (by omega), if_false]; exact Q_i (R_num h hs (by omega))
          · simp only [if_neg b8, if_neg b16, Option.bind_some, f40, tn (show 40 * s + i < 2147483648 by omega), ib (show 40 * s + i < 160 by omega) (by omega), if_false]; exact Q_i (R_num h hs (by omega))
      · have c2' : ¬ (0 ≤ b ∧ b ≤ nI L - 1) := fun q => c2 ⟨q.1, by
          have h1 : nI L ≤ 40 := by rw [show (40 : Int32) = nI 40 from rfl, pI_le (by omega) (by omega)]; omega
          have h2 := pI_pos (show L < 2147483648 by omega)
          have h3 := q.2
          grind⟩
        rw [if_neg c2, if_neg c2']
        simp only [z00, if_true]; exact Q_f h
  · simp only [if_neg c1, z00, if_true, (m_wrong (w := w)).1 c1, Option.bind_some, b10, if_false, m_f0]; exact Q_f h
