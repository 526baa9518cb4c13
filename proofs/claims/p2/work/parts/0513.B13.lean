theorem wh0 {j : Nat} : 111 + 6 * nI j + 0 = nI (111 + 6 * j + 0) := wh_n (a := 0)
theorem m_neww {N : Nat} {w : jx_V} {p l a t : Int32} (hN : N < 10) (eN : w 1 1 = nI N) : f_X5_newWindow p l a t w = some (nI N, jx_up (jx_up (jx_up (jx_up (jx_up (jx_up (jx_up w 1 (111+6*N+0) p) 1 (111+6*N+1) l) 1 (111+6*N+2) a) 1 (111+6*N+3) t) 1 (111+6*N+4) (-1)) 1 (111+6*N+5) 0) 1 1 (nI (N+1))) := by
  unfold f_X5_newWindow f_X5_where
  simp only [Option.bind_some, eN, wh0, wh1, wh2, wh3, wh4, wh5, tn (show 111 + 6 * N + 0 < 2147483648 by omega), tn (show 111 + 6 * N + 1 < 2147483648 by omega), tn (show 111 + 6 * N + 2 < 2147483648 by omega), tn (show 111 + 6 * N + 3 < 2147483648 by omega), tn (show 111 + 6 * N + 4 < 2147483648 by omega), tn (show 111 + 6 * N + 5 < 2147483648 by omega),
    ib (show 111 + 6 * N + 0 < 181 by omega) (by omega), ib (show 111 + 6 * N + 1 < 181 by omega) (by omega), ib (show 111 + 6 * N + 2 < 181 by omega) (by omega), ib (show 111 + 6 * N + 3 < 181 by omega) (by omega), ib (show 111 + 6 * N + 4 < 181 by omega) (by omega), ib (show 111 + 6 * N + 5 < 181 by omega) (by omega), if_false]
  have e : (jx_up (jx_up (jx_up (jx_up (jx_up (jx_up w 1 (111+6*N+0) p) 1 (111+6*N+1) l) 1 (111+6*N+2) a) 1 (111+6*N+3) t) 1 (111+6*N+4) (-1)) 1 (111+6*N+5) 0) 1 1 = nI N := by
    rw [up_g, if_neg (by omega), up_g, if_neg (by omega), up_g, if_neg (by omega), up_g, if_neg (by omega), up_g, if_neg (by omega), up_g, if_neg (by omega), eN]
  rw [e, nI_add1]
theorem OK_nwin {T p l a t} (hT : OK T) (hn : nw T < 10) (hp : ∃ q, q < 25 ∧ p = nI q) (hl : ∃ q, q < 10 ∧ l = nI q) (ha : ∃ q, q < 4 ∧ a = nI q) (ht : ∃ q, q < 4 ∧ t = nI q) : OK (nwin T p l a t) := by
  refine OK.mk hT.k hT.o hT.h hT.p (fun i => ?_) (fun i => ?_) (fun i => ?_) (fun i => ?_) (fun i => ?_) ?_ hT.s
  · show ∃ q, q < 25 ∧ (if i = nw T ∧ 0 < 6 then p else T.W 0 i) = nI q
    split
    · exact hp
    · exact hT.w0 i
  · show ∃ q, q < 10 ∧ (if i = nw T ∧ 1 < 6 then l else T.W 1 i) = nI q
    split
    · exact hl
    · exact hT.w1 i
  · show ∃ q, q < 4 ∧ (if i = nw T ∧ 2 < 6 then a else T.W 2 i) = nI q
    split
    · exact ha
    · exact hT.w2 i
  · show ∃ q, q < 4 ∧ (if i = nw T ∧ 3 < 6 then t else T.W 3 i) = nI q
    split
    · exact ht
    · exact hT.w3 i
  · show (if i = nw T ∧ 4 < 6 then -1 else T.W 4 i) = -1 ∨ ∃ q, q < 4 ∧ (if i = nw T ∧ 4 < 6 then -1 else T.W 4 i) = nI q
    split
    · exact Or.inl rfl
    · exact hT.w4 i
  · obtain ⟨N, hN, e⟩ := hT.n
    refine ⟨N + 1, ?_, ?_⟩
    · unfold nw at hn; rw [e, tn (by omega)] at hn; omega
    · show T.n + 1 = nI (N+1)
      rw [e, nI_add1]
theorem R_win {v w : jx_V} {N : Nat} {p l a t : Int32} (h : R v w) (hN : N < 10) (eN : v 1 5 = nI N) (hp : ∃ q, q < 25 ∧ p = nI q) (hl : ∃ q, q < 10 ∧ l = nI q) (ha : ∃ q, q < 4 ∧ a = nI q) (ht : ∃ q, q < 4 ∧ t = nI q) :
    R (jx_up (jx_up (jx_up (jx_up (jx_up (jx_up (jx_up v 8 N p) 9 N l) 10 N a) 11 N t) 12 N (-1)) 13 N 0) 1 5 (nI (N+1))) (jx_up (jx_up (jx_up (jx_up (jx_up (jx_up (jx_up w 1 (111+6*N+0) p) 1 (111+6*N+1) l) 1 (111+6*N+2) a) 1 (111+6*N+3) t) 1 (111+6*N+4) (-1)) 1 (111+6*N+5) 0) 1 1 (nI (N+1))) := by
  have eM : w 1 1 = nI N := by rw [← tkn h]; exact eN
  refine R_town h (T := nwin (cT 1 v) p l a t) (fun q hq => ?_) ?_ (fun q hq => ?_) ?_ ?_ (c_win (h := 1) hN eN) ?_ (OK_nwin h.ok (by show (v 1 5).toNatClampNeg < 10; rw [eN, tn (by omega)]; exact hN) hp hl ha ht)
  · rw [jx_up_ne (by omega), jx_up_ne (by omega), jx_up_ne (by omega), jx_up_ne (by omega), jx_up_ne (by omega), jx_up_ne (by omega), jx_up_ne (by omega)]
  · rw [jx_up_ne (by omega), jx_up_ne (by omega), jx_up_ne (by omega), jx_up_ne (by omega), jx_up_ne (by omega), jx_up_ne (by omega), jx_up_ne (by omega)]
  · rw [jx_up_ne (by omega), jx_up_ne (by omega), jx_up_ne (by omega), jx_up_ne (by omega), jx_up_ne (by omega), jx_up_ne (by omega), jx_up_ne (by omega)]
  · rw [jx_up_ne (by omega), jx_up_ne (by omega), jx_up_ne (by omega), jx_up_ne (by omega), jx_up_ne (by omega), jx_up_ne (by omega), jx_up_ne (by omega)]
  · rw [jx_up_ne (by omega), jx_up_ne (by omega), jx_up_ne (by omega), jx_up_ne (by omega), jx_up_ne (by omega), jx_up_ne (by omega), jx_up_ne (by omega)]
  · simp only [up_c]; rw [m_win hN eM, h.t]
theorem q_window {v w a b c d} (h : R v w) : Q (f_X4_window a b c d v) (f_X5_window a b c d w) := by
  obtain ⟨N, hN, eN, eN2⟩ := cn h.ok
  have eM : w 1 1 = nI N := by rw [← tkn h]; exact eN
  unfold f_X4_window f_X5_window
  simp only [x_w25, x_w4, x_w10, m_in_0_3, m_isLot, m_isOwner, m_isHeight, Option.bind_some, x_f0, m_f0, x_f1, m_f1]
  by_cases c2 : 0 ≤ a ∧ a ≤ 24
  · by_cases c1 : 0 ≤ b ∧ b ≤ 9
    · by_cases c3 : 0 ≤ c ∧ c ≤ 3
      · by_cases c4 : 0 ≤ d ∧ d ≤ 3
        · simp only [if_pos c1, if_pos c2, if_pos c3, if_pos c4, o10, if_false]
          by_cases hN' : N < 10
          · rw [if_pos (by rw [eN, show (10 : Int32) = nI 10 from rfl, pI_lt (by omega) (by omega)]; omega), if_neg (by rw [eM, show (10 : Int32) = nI 10 from rfl, pI_eq (by omega) (by omega)]; omega)]
            simp only [x_addw (h := 1) hN' eN, m_neww hN' eM, Option.bind_some, Nat.reduceAdd]
            have r := R_win h hN' eN (ix (n := 24) rfl (by omega) c2) (ix (n := 9) rfl (by omega) c1) (ix (n := 3) rfl (by omega) c3) (ix (n := 3) rfl (by omega) c4) (p := a) (l := b) (a := c) (t := d)
            rw [up_s, show nI (N+1) - 1 = nI N by rw [← nI_add1]; grind]
            exact Q_i r
          · rw [if_neg (by rw [eN, show (10 : Int32) = nI 10 from rfl, pI_lt (by omega) (by omega)]; omega), if_pos (by rw [eM, show (10 : Int32) = nI 10 from rfl, pI_eq (by omega) (by omega)]; omega)]
            exact Q_f h
        · simp only [if_pos c1, if_pos c2, if_pos c3, if_neg c4, o10, z00, if_true, if_false]; exact Q_f h
      · simp only [if_pos c1, if_pos c2, if_neg c3, o10, z00, if_true, if_false]; exact Q_f h
    · simp only [if_pos c2, if_neg c1, o10, z00, if_true, if_false]; exact Q_f h
  · simp only [if_neg c2, z00, if_true]; exact Q_f h
def hts (T : Tn) : Nat → Int32
  | 0 => 0
  | l + 1 => if T.K l < 0 then hts T l else hts T l + T.H l
def cts (T : Tn) : Nat → Int32
  | 0 => 0
  | i + 1 => if T.W 4 i < 0 then cts T i else cts T i + 1
def sps (T : Tn) : Nat → Int32
  | 0 => 0
  | i + 1 => if T.S i < 0 then sps T i else sps T i + 1
theorem x_heights {h : Nat} {v : jx_V} : f_X3_heightOfAll h v = some (hts (cT h v) 25, v) := by
  have : ∀ d l f, l + d = 25 → d < f → f_X3_heightOfAll_L h f (hts (cT h v) l) (nI l) v = some (hts (cT h v) 25, v) := by
    intro d
    induction d with
    | zero =>
      intro l f hl hf
      obtain ⟨f, rfl⟩ : ∃ q, f = q + 1 := ⟨f - 1, by omega⟩
      rw [f_X3_heightOfAll_L, if_pos (by rw [show (25 : Int32) = nI 25 from rfl, pI_le (by omega) (by omega)]; omega), show l = 25 by omega]
    | succ d ih =>
      intro l f hl hf
      obtain ⟨f, rfl⟩ : ∃ q, f = q + 1 := ⟨f - 1, by omega⟩
      have e := ih (l+1) f (by omega) (by omega)
      rw [hts] at e
      rw [f_X3_heightOfAll_L, if_neg (by rw [show (25 : Int32) = nI 25 from rfl, pI_le (by omega) (by omega)]; omega)]
      rw [x_taken (show l < 25 by omega), Option.bind_some]
      rw [cK (show l < 25 by omega)] at e
      by_cases c : v (h+3) l < 0
      · simp only [if_pos c, z00, if_true, Int32.add_zero, nI_add1] at e ⊢; exact e
      · rw [cH (show l < 25 by omega) (Int32.not_lt.mp c)] at e
        simp only [if_neg c, o10, if_false, nI_add1, tn (show l < 2147483648 by omega), ib (show l < 25 by omega) (by omega)] at e ⊢; exact e
  exact this 25 0 100000 (by omega) (by omega)
theorem m_heights {w : jx_V} : f_X5_heights w = some (hts (mT (w 1)) 25, w) := by
  have : ∀ d l f, l + d = 25 → d < f → f_X5_heights_L f (hts (mT (w 1)) l) (nI l) w = some (hts (mT (w 1)) 25, w) := by
    intro d
    induction d with
    | zero =>
      intro l f hl hf
      obtain ⟨f, rfl⟩ : ∃ q, f = q + 1 := ⟨f - 1, by omega⟩
      rw [f_X5_heights_L, if_pos (by rw [show (25 : Int32) = nI 25 from rfl, pI_le (by omega) (by omega)]; omega), show l = 25 by omega]
    | succ d ih =>
      intro l f hl hf
      obtain ⟨f, rfl⟩ : ∃ q, f = q + 1 := ⟨f - 1, by omega⟩
      have e := ih (l+1) f (by omega) (by omega)
      rw [hts] at e
      rw [f_X5_heights_L, if_neg (by rw [show (25 : Int32) = nI 25 from rfl, pI_le (by omega) (by omega)]; omega)]
      rw [m_thing (show l < 25 by omega), Option.bind_some]
      rw [mK (show l < 25 by omega)] at e
      by_cases c : w 1 (11 + 4 * l) < 0
      · simp only [if_pos c, z00, if_true, Int32.add_zero, nI_add1] at e ⊢; exact e
      · rw [mH (show l < 25 by omega) (Int32.not_lt.mp c)] at e
        simp only [if_neg c, o10, if_false, nI_add1, m_its2 (show l < 25 by omega), Option.bind_some] at e ⊢; exact e
  exact this 25 0 100000 (by omega) (by omega)
theorem x_contracts {h : Nat} {v : jx_V} (hT : OK (cT h v)) : f_X3_contractCount h v = some (cts (cT h v) (nw (cT h v)), v) := by
  obtain ⟨N, hN, eN, eN2⟩ := cn hT
  have : ∀ d l f, l + d = N → d < f → f_X3_contractCount_L h f (cts (cT h v) l) (nI l) v = some (cts (cT h v) N, v) := by
    intro d
    induction d with
    | zero =>
      intro l f hl hf
      obtain ⟨f, rfl⟩ : ∃ q, f = q + 1 := ⟨f - 1, by omega⟩
      rw [f_X3_contractCount_L, if_pos (by rw [eN, pI_le (by omega) (by omega)]; omega), show l = N by omega]
    | succ d ih =>
      intro l f hl hf
      obtain ⟨f, rfl⟩ : ∃ q, f = q + 1 := ⟨f - 1, by omega⟩
      have e := ih (l+1) f (by omega) (by omega)
      rw [cts] at e
      rw [f_X3_contractCount_L, if_neg (by rw [eN, pI_le (by omega) (by omega)]; omega)]
      rw [cW (h := h) (v := v) (a := 4) (by omega) (show l < (v h 5).toNatClampNeg by omega)] at e
      simp only [tn (show l < 2147483648 by omega), ib (show l < 10 by omega) (by omega), if_false, nI_add1, Int32.add_zero]
      by_cases c : v (h+7+4) l < 0
      · rw [if_pos c] at e
        rw [if_pos (show v (h+11) l < 0 from c)]; exact e
      · rw [if_neg c] at e
        rw [if_neg (show ¬ v (h+11) l < 0 from c)]; exact e
  rw [nwc, eN2]
  exact this N 0 100000 (by omega) (by omega)
theorem m_contracts {w : jx_V} (hT : OK (mT (w 1))) : f_X5_contracts w = some (cts (mT (w 1)) (nw (mT (w 1))), w) := by
  obtain ⟨N, hN, eN, eN2⟩ := mn hT
  have : ∀ d l f, l + d = N → d < f → f_X5_contracts_L f (cts (mT (w 1)) l) (nI l) w = some (cts (mT (w 1)) N, w) := by
    intro d
    induction d with
    | zero =>
      intro l f hl hf
      obtain ⟨f, rfl⟩ : ∃ q, f = q + 1 := ⟨f - 1, by omega⟩
      rw [f_X5_contracts_L, if_pos (by rw [eN, pI_le (by omega) (by omega)]; omega), show l = N by omega]
    | succ d ih =>
      intro l f hl hf
      obtain ⟨f, rfl⟩ : ∃ q, f = q + 1 := ⟨f - 1, by omega⟩
      have e := ih (l+1) f (by omega) (by omega)
      rw [cts] at e
      rw [f_X5_contracts_L, if_neg (by rw [eN, pI_le (by omega) (by omega)]; omega)]
      rw [mW (s := w 1) (a := 4) (by omega) (show l < (w 1 1).toNatClampNeg by omega)] at e
      simp only [m_told4 (show l < 10 by omega), Option.bind_some, nI_add1, Int32.add_zero]
      by_cases c : w 1 (111 + 6 * l + 4) < 0
      · rw [if_pos c] at e
        rw [if_neg (Int32.not_le.mpr c)]; exact e
      · rw [if_neg c] at e
        rw [if_pos (Int32.not_lt.mp c)]; exact e
  rw [nwm, eN2]
  exact this N 0 100000 (by omega) (by omega)
theorem x_spots {h : Nat} {v : jx_V} : f_X3_spotsInUse h v = some (sps (cT h v) 10, v) := by
  have : ∀ d l f, l + d = 10 → d < f → f_X3_spotsInUse_L h f (sps (cT h v) l) (nI l) v = some (sps (cT h v) 10, v) := by
    intro d
    induction d with
    | zero =>
      intro l f hl hf
      obtain ⟨f, rfl⟩ : ∃ q, f = q + 1 := ⟨f - 1, by omega⟩
      rw [f_X3_spotsInUse_L, if_pos (by rw [show (10 : Int32) = nI 10 from rfl, pI_le (by omega) (by omega)]; omega), show l = 10 by omega]
    | succ d ih =>
      intro l f hl hf
      obtain ⟨f, rfl⟩ : ∃ q, f = q + 1 := ⟨f - 1, by omega⟩
      have e := ih (l+1) f (by omega) (by omega)
      rw [sps] at e
      rw [f_X3_spotsInUse_L, if_neg (by rw [show (10 : Int32) = nI 10 from rfl, pI_le (by omega) (by omega)]; omega)]
      rw [show (cT h v).S l = v (h+15) l from if_pos (by omega)] at e
      simp only [tn (show l < 2147483648 by omega), ib (show l < 10 by omega) (by omega), if_false, nI_add1, Int32.add_zero]
      by_cases c : v (h+15) l < 0
      · rw [if_pos c] at e ⊢; exact e
      · rw [if_neg c] at e ⊢; exact e
  exact this 10 0 100000 (by omega) (by omega)
theorem m_spots {w : jx_V} : f_X5_held w = some (sps (mT (w 1)) 10, w) := by
  have : ∀ d l f, l + d = 10 → d < f → f_X5_held_L f (sps (mT (w 1)) l) (nI l) w = some (sps (mT (w 1)) 10, w) := by
    intro d
    induction d with
    | zero =>
      intro l f hl hf
      obtain ⟨f, rfl⟩ : ∃ q, f = q + 1 := ⟨f - 1, by omega⟩
      rw [f_X5_held_L, if_pos (by rw [show (10 : Int32) = nI 10 from rfl, pI_le (by omega) (by omega)]; omega), show l = 10 by omega]
    | succ d ih =>
      intro l f hl hf
      obtain ⟨f, rfl⟩ : ∃ q, f = q + 1 := ⟨f - 1, by omega⟩
      have e := ih (l+1) f (by omega) (by omega)
      rw [sps] at e
      rw [f_X5_held_L, if_neg (by rw [show (10 : Int32) = nI 10 from rfl, pI_le (by omega) (by omega)]; omega)]
      rw [show (mT (w 1)).S l = w 1 (171 + l) from if_pos (by omega)] at e
      have e7 : 171 + nI l = nI (171 + l) := by unfold nI; simp [Int32.ofNat_add]
      simp only [e7, tn (show 171 + l < 2147483648 by omega), ib (show 171 + l < 181 by omega) (by omega), if_false, nI_add1, Int32.add_zero]
      by_cases c : w 1 (171 + l) < 0
      · rw [if_pos c] at e
        rw [if_neg (Int32.not_le.mpr c)]; exact e
      · rw [if_neg c] at e
        rw [if_pos (Int32.not_lt.mp c)]; exact e
  exact this 10 0 100000 (by omega) (by omega)
theorem q_count {v w a} (h : R v w) : Q (f_X4_count a v) (f_X5_count a w) := by
  unfold f_X4_count f_X5_count
  simp only [x_cnt, m_count, x_heights, m_heights, x_contracts (h := 1) h.ok, m_contracts h.ok', x_spots, m_spots, Option.bind_some, x_f0, m_f0, h.tl, tkm h, tkz h, tkn h, h.t]
  have hi : ∀ r, Q (some (r, v)) (some (r, w)) := fun r => Q_i h
  have hf : Q (some (-1000001, jx_up v 63 0 (v 63 0 + 1))) (some (-1000001, jx_up w 4 0 (w 4 0 + 1))) := Q_f h
  (repeat' split) <;> first | exact hf | exact hi _
