def tcs (T : Tn) : Nat → Int32
  | 0 => 0
  | l + 1 => if T.K l < 0 then tcs T l else tcs T l + 1
theorem x_cnt {h : Nat} {v : jx_V} : f_X3_thingCount h v = some (tcs (cT h v) 25, v) := by
  have : ∀ d l f, l + d = 25 → d < f → f_X3_thingCount_L h f (tcs (cT h v) l) (nI l) v = some (tcs (cT h v) 25, v) := by
    intro d
    induction d with
    | zero =>
      intro l f hl hf
      obtain ⟨f, rfl⟩ : ∃ q, f = q + 1 := ⟨f - 1, by omega⟩
      rw [f_X3_thingCount_L, if_pos (by rw [show (25 : Int32) = nI 25 from rfl, pI_le (by omega) (by omega)]; omega), show l = 25 by omega]
    | succ d ih =>
      intro l f hl hf
      obtain ⟨f, rfl⟩ : ∃ q, f = q + 1 := ⟨f - 1, by omega⟩
      have e := ih (l+1) f (by omega) (by omega)
      rw [tcs, cK (show l < 25 by omega)] at e
      rw [f_X3_thingCount_L, if_neg (by rw [show (25 : Int32) = nI 25 from rfl, pI_le (by omega) (by omega)]; omega), x_taken (show l < 25 by omega), Option.bind_some]
      by_cases c : v (h+3) l < 0
      · simp only [if_pos c, z00, if_true, Int32.add_zero, nI_add1] at e ⊢; exact e
      · simp only [if_neg c, o10, if_false, nI_add1] at e ⊢; exact e
  exact this 25 0 100000 (by omega) (by omega)
theorem m_count {w : jx_V} : f_X5_things w = some (tcs (mT (w 1)) 25, w) := by
  have : ∀ d l f, l + d = 25 → d < f → f_X5_things_L f (tcs (mT (w 1)) l) (nI l) w = some (tcs (mT (w 1)) 25, w) := by
    intro d
    induction d with
    | zero =>
      intro l f hl hf
      obtain ⟨f, rfl⟩ : ∃ q, f = q + 1 := ⟨f - 1, by omega⟩
      rw [f_X5_things_L, if_pos (by rw [show (25 : Int32) = nI 25 from rfl, pI_le (by omega) (by omega)]; omega), show l = 25 by omega]
    | succ d ih =>
      intro l f hl hf
      obtain ⟨f, rfl⟩ : ∃ q, f = q + 1 := ⟨f - 1, by omega⟩
      have e := ih (l+1) f (by omega) (by omega)
      rw [tcs, mK (show l < 25 by omega)] at e
      rw [f_X5_things_L, if_neg (by rw [show (25 : Int32) = nI 25 from rfl, pI_le (by omega) (by omega)]; omega), m_thing (show l < 25 by omega), Option.bind_some]
      by_cases c : w 1 (11 + 4 * l) < 0
      · simp only [if_pos c, z00, if_true, Int32.add_zero, nI_add1] at e ⊢; exact e
      · simp only [if_neg c, o10, if_false, nI_add1] at e ⊢; exact e
  exact this 25 0 100000 (by omega) (by omega)
theorem x_put {h j : Nat} {v : jx_V} {k o hh p : Int32} (hj : j < 25) : f_X3_put h (nI j) k o hh p v = some (jx_up (jx_up (jx_up (jx_up v (h+3) j k) (h+4) j o) (h+5) j hh) (h+6) j p) := by
  unfold f_X3_put
  simp only [tn (show j < 2147483648 by omega), ib hj (by omega), if_false]
theorem x_off {h j : Nat} {v : jx_V} (hj : j < 25) : f_X3_takeOff h (nI j) v = some (jx_up v (h+3) j (-1)) := by
  unfold f_X3_takeOff
  simp only [tn (show j < 2147483648 by omega), ib hj (by omega), if_false]
theorem at0 {j : Nat} : 11 + 4 * nI j + 0 = nI (11 + 4 * j) := at_n (a := 0)
theorem at1 {j : Nat} : 11 + 4 * nI j + 1 = nI (12 + 4 * j) := by rw [show 12 + 4 * j = 11 + 4 * j + 1 by omega]; exact at_n (a := 1)
theorem at2 {j : Nat} : 11 + 4 * nI j + 2 = nI (13 + 4 * j) := by rw [show 13 + 4 * j = 11 + 4 * j + 2 by omega]; exact at_n (a := 2)
theorem at3 {j : Nat} : 11 + 4 * nI j + 3 = nI (14 + 4 * j) := by rw [show 14 + 4 * j = 11 + 4 * j + 3 by omega]; exact at_n (a := 3)
theorem m_builds {j : Nat} {w : jx_V} {k o hh p : Int32} (hj : j < 25) : f_X5_builds (nI j) k o hh p w = some (jx_up (jx_up (jx_up (jx_up w 1 (11+4*j) k) 1 (12+4*j) o) 1 (13+4*j) hh) 1 (14+4*j) p) := by
  unfold f_X5_builds f_X5_at
  simp only [Option.bind_some, at0, at1, at2, at3, tn (show 11 + 4 * j < 2147483648 by omega), tn (show 12 + 4 * j < 2147483648 by omega), tn (show 13 + 4 * j < 2147483648 by omega), tn (show 14 + 4 * j < 2147483648 by omega), ib (show 11 + 4 * j < 181 by omega) (by omega), ib (show 12 + 4 * j < 181 by omega) (by omega), ib (show 13 + 4 * j < 181 by omega) (by omega), ib (show 14 + 4 * j < 181 by omega) (by omega), if_false]
theorem OK_bld {T j k o h p} (hT : OK T) (hk : 0 ≤ k) (ho : ∃ q, q < 4 ∧ o = nI q) (hh : ∃ q, q < 10 ∧ h = nI q) (hp : ∃ q, q < 4 ∧ p = nI q) : OK (bld T j k o h p) := by
  refine OK.mk (fun l => ?_) (fun l => ?_) (fun l => ?_) (fun l => ?_) hT.w0 hT.w1 hT.w2 hT.w3 hT.w4 hT.n hT.s
  · show (if l = j then k else T.K l) = -1 ∨ 0 ≤ (if l = j then k else T.K l)
    split
    · exact Or.inr hk
    · exact hT.k l
  · show ∃ q, q < 4 ∧ (if l = j then o else T.O l) = nI q
    split
    · exact ho
    · exact hT.o l
  · show ∃ q, q < 10 ∧ (if l = j then h else T.H l) = nI q
    split
    · exact hh
    · exact hT.h l
  · show ∃ q, q < 4 ∧ (if l = j then p else T.P l) = nI q
    split
    · exact hp
    · exact hT.p l
theorem OK_rem {T j} (hT : OK T) : OK (rem T j) := by
  refine OK.mk (fun l => ?_) (fun l => ?_) (fun l => ?_) (fun l => ?_) hT.w0 hT.w1 hT.w2 hT.w3 hT.w4 hT.n hT.s
  · show (if l = j then -1 else T.K l) = -1 ∨ 0 ≤ (if l = j then -1 else T.K l)
    split
    · exact Or.inl rfl
    · exact hT.k l
  · show ∃ q, q < 4 ∧ (if l = j then 0 else T.O l) = nI q
    split
    · exact ⟨0, by omega, rfl⟩
    · exact hT.o l
  · show ∃ q, q < 10 ∧ (if l = j then 0 else T.H l) = nI q
    split
    · exact ⟨0, by omega, rfl⟩
    · exact hT.h l
  · show ∃ q, q < 4 ∧ (if l = j then 0 else T.P l) = nI q
    split
    · exact ⟨0, by omega, rfl⟩
    · exact hT.p l
theorem OK_sK {T j x} (hT : OK T) (hx : 0 ≤ x) : OK (sK T j x) := OK.mk (fun l => by
  show (if l = j then x else T.K l) = -1 ∨ 0 ≤ (if l = j then x else T.K l)
  split
  · exact Or.inr hx
  · exact hT.k l) hT.o hT.h hT.p hT.w0 hT.w1 hT.w2 hT.w3 hT.w4 hT.n hT.s
theorem OK_sO {T j x} (hT : OK T) (hx : ∃ q, q < 4 ∧ x = nI q) : OK (sO T j x) := by
  refine OK.mk hT.k (fun l => ?_) hT.h hT.p hT.w0 hT.w1 hT.w2 hT.w3 hT.w4 hT.n hT.s
  show ∃ q, q < 4 ∧ (if l = j then x else T.O l) = nI q
  split
  · exact hx
  · exact hT.o l
theorem OK_sH {T j x} (hT : OK T) (hx : ∃ q, q < 10 ∧ x = nI q) : OK (sH T j x) := by
  refine OK.mk hT.k hT.o (fun l => ?_) hT.p hT.w0 hT.w1 hT.w2 hT.w3 hT.w4 hT.n hT.s
  show ∃ q, q < 10 ∧ (if l = j then x else T.H l) = nI q
  split
  · exact hx
  · exact hT.h l
theorem OK_sP {T j x} (hT : OK T) (hx : ∃ q, q < 4 ∧ x = nI q) : OK (sP T j x) := by
  refine OK.mk hT.k hT.o hT.h (fun l => ?_) hT.w0 hT.w1 hT.w2 hT.w3 hT.w4 hT.n hT.s
  show ∃ q, q < 4 ∧ (if l = j then x else T.P l) = nI q
  split
  · exact hx
  · exact hT.p l
theorem OK_sC {T j x} (hT : OK T) : OK (sC T j x) := OK.mk hT.k hT.o hT.h hT.p hT.w0 hT.w1 hT.w2 hT.w3 hT.w4 hT.n hT.s
theorem OK_sm {T x} (hT : OK T) : OK (sm T x) := OK.mk hT.k hT.o hT.h hT.p hT.w0 hT.w1 hT.w2 hT.w3 hT.w4 hT.n hT.s
theorem OK_sz {T x} (hT : OK T) : OK (sz T x) := OK.mk hT.k hT.o hT.h hT.p hT.w0 hT.w1 hT.w2 hT.w3 hT.w4 hT.n hT.s
theorem OK_sS {T j x} (hT : OK T) (hx : x = -1 ∨ ∃ q, q < 25 ∧ x = nI q) : OK (sS T j x) := by
  refine OK.mk hT.k hT.o hT.h hT.p hT.w0 hT.w1 hT.w2 hT.w3 hT.w4 hT.n (fun l => ?_)
  show (if l = j then x else T.S l) = -1 ∨ ∃ q, q < 25 ∧ (if l = j then x else T.S l) = nI q
  split
  · exact hx
  · exact hT.s l
/-- R after a change of the town's cells alone -/
theorem R_up {v w c i x j y} (h : R v w) (hc : 1 ≤ c ∧ c < 17) {T : Tn} (e1 : cT 1 (jx_up v c i x) = T) (e2 : mT (upd (w 1) j y) = T) (hT : OK T) : R (jx_up v c i x) (jx_up w 1 j y) :=
  R_town h (fun q hq => jx_up_ne (by omega)) (by rw [jx_up_ne (by omega)]) (fun q hq => jx_up_ne (by omega)) (by rw [jx_up_ne (by omega)]) (by rw [jx_up_ne (by omega)]) e1 (by rw [up_c]; exact e2) hT
theorem R_bld {v w : jx_V} {j : Nat} {k o hh p : Int32} (h : R v w) (hj : j < 25) (hk : 0 ≤ k) (ho : ∃ q, q < 4 ∧ o = nI q) (hh' : ∃ q, q < 10 ∧ hh = nI q) (hp : ∃ q, q < 4 ∧ p = nI q) :
    R (jx_up (jx_up (jx_up (jx_up v 4 j k) 5 j o) 6 j hh) 7 j p) (jx_up (jx_up (jx_up (jx_up w 1 (11+4*j) k) 1 (12+4*j) o) 1 (13+4*j) hh) 1 (14+4*j) p) := by
  refine R_town h (T := bld (cT 1 v) j k o hh p) (fun q hq => ?_) ?_ (fun q hq => ?_) ?_ ?_ (c_put (h := 1) hj hk) ?_ (OK_bld h.ok hk ho hh' hp)
  · rw [jx_up_ne (by omega), jx_up_ne (by omega), jx_up_ne (by omega), jx_up_ne (by omega)]
  · rw [jx_up_ne (by omega), jx_up_ne (by omega), jx_up_ne (by omega), jx_up_ne (by omega)]
  · rw [jx_up_ne (by omega), jx_up_ne (by omega), jx_up_ne (by omega), jx_up_ne (by omega)]
  · rw [jx_up_ne (by omega), jx_up_ne (by omega), jx_up_ne (by omega), jx_up_ne (by omega)]
  · rw [jx_up_ne (by omega), jx_up_ne (by omega), jx_up_ne (by omega), jx_up_ne (by omega)]
  · simp only [up_c]; rw [m_put hj hk, h.t]
theorem q_build {v w a b c d} (h : R v w) : Q (f_X4_build a b c d v) (f_X5_build a b c d w) := by
  unfold f_X4_build f_X5_build
  simp only [x_w7, x_w25, x_w4, x_w10, m_in_0_6, m_isLot, m_isOwner, m_isHeight, Option.bind_some, x_f0, m_f0]
  by_cases c1 : 0 ≤ a ∧ a ≤ 6
  · by_cases c2 : 0 ≤ b ∧ b ≤ 24
    · by_cases c3 : 0 ≤ c ∧ c ≤ 3
      · by_cases c4 : 0 ≤ d ∧ d ≤ 9
        · simp only [if_pos c1, if_pos c2, if_pos c3, if_pos c4, o10, if_false]
          obtain ⟨j, hj, rfl⟩ := ix (n := 24) rfl (by omega) c2
          simp only [x_taken hj, m_thing hj, Option.bind_some, Nat.reduceAdd, tk h hj]
          by_cases ht : w 1 (11 + 4 * j) < 0
          · simp only [if_pos ht, z00, if_true, x_put hj, m_builds hj, Option.bind_some, x_cnt, m_count]
            have r := R_bld h hj c1.1 (ix (n := 3) rfl (by omega) c3) (ix (n := 9) rfl (by omega) c4) ⟨0, by omega, rfl⟩ (k := a) (o := c) (hh := d) (p := 0)
            have e := r.t
            rw [show cT 1 (jx_up (jx_up (jx_up (jx_up v (1 + 3) j a) (1 + 4) j c) (1 + 5) j d) (1 + 6) j 0) = _ from e]
            exact Q_i r
          · simp only [if_neg ht, o10, if_false, x_f4, m_f4, Option.bind_some]
            exact Q_f h
        · simp only [if_pos c1, if_pos c2, if_pos c3, if_neg c4, o10, z00, if_true, if_false]; exact Q_f h
      · simp only [if_pos c1, if_pos c2, if_neg c3, o10, z00, if_true, if_false]; exact Q_f h
    · simp only [if_pos c1, if_neg c2, o10, z00, if_true, if_false]; exact Q_f h
  · simp only [if_neg c1, z00, if_true]; exact Q_f h
theorem m_lotWrong {x} {w : jx_V} : (¬ (0 ≤ x ∧ x ≤ 24) → f_X5_lotWrong x w = some (-1000001, w)) ∧ ∀ j, j < 25 → f_X5_lotWrong (nI j) w = some (if w 1 (11 + 4 * j) < 0 then -1000004 else 0, w) := by
  unfold f_X5_lotWrong
  constructor
  · intro c; simp only [m_isLot, Option.bind_some, if_neg c, z00, if_true]
  · intro j hj
    have c : 0 ≤ nI j ∧ nI j ≤ 24 := ⟨pI_pos (by omega), by rw [show (24 : Int32) = nI 24 from rfl, pI_le (by omega) (by omega)]; omega⟩
    simp only [m_isLot, Option.bind_some, if_pos c, o10, if_false, m_thing hj]
    by_cases ht : w 1 (11 + 4 * j) < 0
    · simp only [if_pos ht, z00, if_true]
    · simp only [if_neg ht, o10, if_false]
theorem b10 : ((-1000001 : Int32) = 0) = False := by decide
theorem b40 : ((-1000004 : Int32) = 0) = False := by decide
theorem b60 : ((-1000006 : Int32) = 0) = False := by decide
theorem R_off {v w j} (h : R v w) (hj : j < 25) : R (jx_up v 4 j (-1)) (jx_up w 1 (11+4*j) (-1)) :=
  R_up h (by omega) (T := rem (cT 1 v) j) (c_off (h := 1) hj) (by rw [m_off hj, h.t]) (OK_rem h.ok)
theorem q_clear {v w a} (h : R v w) : Q (f_X4_clear a v) (f_X5_clear a w) := by
  unfold f_X4_clear f_X5_clear
  simp only [x_w25, Option.bind_some, x_f0, m_f0]
  by_cases c2 : 0 ≤ a ∧ a ≤ 24
  · obtain ⟨j, hj, rfl⟩ := ix (n := 24) rfl (by omega) c2
    simp only [if_pos c2, o10, if_false, x_taken hj, (m_lotWrong (x := 0) (w := w)).2 j hj, Option.bind_some, Nat.reduceAdd, tk h hj]
    by_cases ht : w 1 (11 + 4 * j) < 0
    · simp only [if_pos ht, z00, if_true, b40, if_false, x_f3, m_f3, Option.bind_some]; exact Q_f h
    · simp only [if_neg ht, o10, z00, if_true, if_false, x_off hj, f_X5_at, at0, Option.bind_some, tn (show j < 2147483648 by omega), tn (show 11 + 4 * j < 2147483648 by omega), ib hj (by omega), ib (show 11 + 4 * j < 181 by omega) (by omega), m_its2 hj]
      rw [show jx_up v (1 + 3) j (-1) 6 j = jx_up w 1 (11 + 4 * j) (-1) 1 (13 + 4 * j) by
        rw [jx_up_ne (by omega), up_g, if_neg (by omega)]; exact tkH h hj (Int32.not_lt.mp ht)]
      exact Q_i (R_off h hj)
  · simp only [if_neg c2, z00, if_true, (m_lotWrong (w := w)).1 c2, Option.bind_some, b10, if_false, m_f0]; exact Q_f h
