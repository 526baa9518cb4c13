theorem n10 : ((1 : Nat) = 0) = False := by simp
def dz (z : Int32) : Int32 := (Int32.toUInt32 z >>> (Int32.toUInt32 8 &&& Int32.toUInt32 31)).toInt32
def nxz (z : Int32) : Int32 := z * 1103515245 + 12345
theorem x_draw {h : Nat} {v : jx_V} : f_X3_draw h v = some (dz (nxz (v h 7)), jx_up v h 7 (nxz (v h 7))) := by
  unfold f_X3_draw; rw [up_s]; rfl
theorem m_draw {w : jx_V} : f_X5_draw w = some (dz (nxz (w 1 2)), jx_up w 1 2 (nxz (w 1 2))) := by
  unfold f_X5_draw; rw [up_s]; rfl
theorem u_n (u : UInt32) : u.toInt32 = nI u.toNat := by
  unfold nI
  apply Int32.toBitVec_inj.mp
  show u.toBitVec = BitVec.ofNat 32 u.toBitVec.toNat
  simp
theorem dz_r (z : Int32) : ∃ y, y < 16777216 ∧ dz z = nI y := by
  refine ⟨_, ?_, u_n _⟩
  rw [UInt32.toNat_shiftRight, show (Int32.toUInt32 8 &&& Int32.toUInt32 31).toNat % 32 = 8 from by decide, Nat.shiftRight_eq_div_pow]
  have := UInt32.toNat_lt z.toUInt32
  omega
theorem nI_mul (a b : Nat) : nI a * nI b = nI (a * b) := by unfold nI; simp [Int32.ofNat_mul]
theorem nI_div {a b : Nat} (ha : a < 2147483648) (hb : b < 2147483648) : nI a / nI b = nI (a / b) := by
  have hd : a / b ≤ a := Nat.div_le_self a b
  apply Int32.toInt_inj.mp
  rw [Int32.toInt_div, pI_toInt ha, pI_toInt hb, pI_toInt (by omega)]
  rw [← Int.ofNat_tdiv]
  generalize a / b = q at hd ⊢
  exact Int.bmod_eq_of_le (by omega) (by omega)
theorem rst {x : Int32} {y c : Nat} (hy : y < 16777216) (hc : 0 < c) (hc2 : c < 100) (e : x = nI y) : ∃ r, r < c ∧ x - x / nI c * nI c = nI r := by
  subst e
  have h1 := Nat.div_add_mod y c
  have h2 := Nat.mod_lt y hc
  rw [Nat.mul_comm] at h1
  refine ⟨y - y / c * c, by omega, ?_⟩
  rw [nI_div (by omega) (by omega), nI_mul, nI_sub (by omega)]
def tcn (T : Tn) : Nat → Nat
  | 0 => 0
  | l + 1 => if T.K l < 0 then tcn T l else tcn T l + 1
theorem tcs_n {T} : ∀ l, tcs T l = nI (tcn T l)
  | 0 => rfl
  | l + 1 => by
    rw [tcs, tcn, tcs_n l]
    split
    · rfl
    · exact nI_add1 _
theorem tcn_le {T} : ∀ l, tcn T l ≤ l
  | 0 => Nat.le_refl _
  | l + 1 => by
    rw [tcn]
    have := tcn_le (T := T) l
    split <;> omega
theorem tcn_K {T T' : Tn} (e : T.K = T'.K) : ∀ l, tcn T l = tcn T' l
  | 0 => rfl
  | l + 1 => by rw [tcn, tcn, tcn_K e l, e]
theorem sp_find {v w : jx_V} {x0 x1 x2 x3 : Int32} {N : Nat} (hN : tcn (cT 1 v) 25 = N) (hk : ∀ l, l < 25 → v 4 l = w 1 (11 + 4 * l)) : ∀ d l r f F, l + d = 25 → d < f → d < F → r < 25 → r + tcn (cT 1 v) l < N →
    ∃ j F2, j < 25 ∧ ¬ w 1 (11 + 4 * j) < 0 ∧ F ≤ F2 + d + 1 ∧ f_X3_lotOfThing_L 1 f x0 (nI r) (nI l) v = some (nI j, v) ∧ f_X5_spill_L F 1 x1 x2 x3 (nI r) (nI l) w = f_X5_spill_L F2 0 x1 x2 (x3+1) 0 0 (jx_up (jx_up w 1 2 (nxz (w 1 2))) 1 (14 + 4 * j) (dz (nxz (w 1 2)) - dz (nxz (w 1 2)) / 4 * 4)) := by
  intro d
  induction d with
  | zero =>
    intro l r f F hl hf hF hr hc
    obtain rfl : l = 25 := by omega
    rw [hN] at hc
    omega
  | succ d ih =>
    intro l r f F hl hf hF hr hc
    obtain ⟨f, rfl⟩ : ∃ q, f = q + 1 := ⟨f - 1, by omega⟩
    obtain ⟨F, rfl⟩ : ∃ q, F = q + 1 := ⟨F - 1, by omega⟩
    have hl' : l < 25 := by omega
    have k25 : ¬ (25 : Int32) ≤ nI l := by rw [show (25 : Int32) = nI 25 from rfl, pI_le (by omega) (by omega)]; omega
    have ts : tcn (cT 1 v) (l + 1) = if w 1 (11 + 4 * l) < 0 then tcn (cT 1 v) l else tcn (cT 1 v) l + 1 := by
      rw [tcn, cK hl', show v (1 + 3) l = w 1 (11 + 4 * l) from hk l hl']
    rw [f_X3_lotOfThing_L, f_X5_spill_L, if_neg (show ¬ (1 : Nat) = 0 by omega), if_pos (show (1 : Nat) = 1 from rfl), if_neg k25, x_taken (h := 1) hl', m_thing hl', Option.bind_some, Option.bind_some, show v (1 + 3) l = w 1 (11 + 4 * l) from hk l hl']
    simp only [m_thing hl', Option.bind_some, nI_add1, Int32.sub_zero, m_draw]
    by_cases t : w 1 (11 + 4 * l) < 0
    · simp only [if_pos t, z00, if_true]
      rw [if_pos t] at ts
      obtain ⟨j, F2, h1, h2, h3, h4, h5⟩ := ih (l+1) r f F (by omega) (by omega) (by omega) hr (by rw [ts]; exact hc)
      exact ⟨j, F2, h1, h2, by omega, h4, h5⟩
    · simp only [if_neg t, o10, if_false]
      rw [if_neg t] at ts
      by_cases r0 : r = 0
      · subst r0
        refine ⟨l, F, hl', t, by omega, ?_, ?_⟩
        · rw [if_pos (show nI 0 = 0 from rfl)]
        · rw [if_pos (show nI 0 ≤ 0 by decide)]
          simp only [f_X5_at, Option.bind_some, at3, m_draw, tn (show 14 + 4 * l < 2147483648 by omega), ib (show 14 + 4 * l < 181 by omega) (show 181 ≤ 100000 by omega), if_false]
      · obtain ⟨r, rfl⟩ : ∃ q, r = q + 1 := ⟨r - 1, by omega⟩
        rw [if_neg (show ¬ nI (r+1) = 0 by rw [show (0 : Int32) = nI 0 from rfl, pI_eq (by omega) (by omega)]; omega), if_neg (show ¬ nI (r+1) ≤ 0 by rw [show (0 : Int32) = nI 0 from rfl, pI_le (by omega) (by omega)]; omega)]
        rw [show nI (r+1) + (-1) = nI r by rw [← nI_add1, ← Int32.sub_eq_add_neg, Int32.add_sub_cancel], show nI (r+1) - 1 = nI r by rw [← nI_add1, Int32.add_sub_cancel]]
        obtain ⟨j, F2, h1, h2, h3, h4, h5⟩ := ih (l+1) r f F (by omega) (by omega) (by omega) (by omega) (by rw [ts]; omega)
        exact ⟨j, F2, h1, h2, by omega, h4, h5⟩
theorem R_z {v w : jx_V} (x : Int32) (h : R v w) : R (jx_up v 1 7 x) (jx_up w 1 2 x) :=
  R_up h (by omega) (T := sz (cT 1 v) x) (c_sz (h := 1) (j := 0)) (by rw [m_sz (j := 0), h.t]) (OK_sz h.ok)
theorem R_p {v w : jx_V} {j t : Nat} (h : R v w) (hj : j < 25) (hk : 0 ≤ w 1 (11 + 4 * j)) (ht : t < 4) : R (jx_up v 7 j (nI t)) (jx_up w 1 (14 + 4 * j) (nI t)) := by
  rw [show 14 + 4 * j = 11 + 4 * j + 3 by omega]
  exact R_sx (a := 3) h (Or.inr rfl) hj hk ht
theorem K_z {v : jx_V} {x : Int32} : (cT 1 (jx_up v 1 7 x)).K = (cT 1 v).K := by rw [c_sz (h := 1) (j := 0)]; rfl
theorem K_p {v : jx_V} {j : Nat} {x : Int32} : (cT 1 (jx_up v 7 j x)).K = (cT 1 v).K := by
  funext l
  show (if l < 25 then _ else _) = (if l < 25 then _ else _)
  rw [jx_up_ne (by omega)]
theorem sp_L {n c : Nat} (hc : 0 < c) (hc2 : c ≤ 25) (hn : n ≤ 12) : ∀ d i f F v w, i + d = n → d < f → d * 30 + 1 < F → R v w → tcn (cT 1 v) 25 = c → Q (f_X4_spill_L f (nI n) (nI c) (nI i) v) (f_X5_spill_L F 0 (nI n) (nI c) (nI i) 0 0 w) := by
  intro d
  induction d with
  | zero =>
    intro i f F v w hi hf hF h hT
    obtain ⟨f, rfl⟩ : ∃ q, f = q + 1 := ⟨f - 1, by omega⟩
    obtain ⟨F, rfl⟩ : ∃ q, F = q + 1 := ⟨F - 1, by omega⟩
    obtain rfl : i = n := by omega
    rw [f_X4_spill_L, f_X5_spill_L, if_pos rfl, if_pos (Int32.le_refl _), if_pos (Int32.le_refl _)]
    obtain ⟨v', e1, g1, _⟩ := x_gains (h := 1) (r := 65) (by omega) (by omega) h.ok
    obtain ⟨w', e2, g2, _⟩ := m_gains h.ok'
    simp only [e1, e2, Option.bind_some]
    rw [h.t]
    exact Q_i (R_fr h (GR_SX (by omega) g1) (FM_SM g2))
  | succ d ih =>
    intro i f F v w hi hf hF h hT
    obtain ⟨f, rfl⟩ : ∃ q, f = q + 1 := ⟨f - 1, by omega⟩
    obtain ⟨F, rfl⟩ : ∃ q, F = q + 1 := ⟨F - 1, by omega⟩
    have nc : ¬ nI c = 0 := by rw [show (0 : Int32) = nI 0 from rfl, pI_eq (by omega) (by omega)]; omega
    have ni : ¬ nI n ≤ nI i := by rw [pI_le (by omega) (by omega)]; omega
    rw [f_X4_spill_L, f_X5_spill_L, if_pos rfl, if_neg ni, if_neg ni, x_draw, m_draw, Option.bind_some, Option.bind_some]
    simp only [if_neg nc]
    rw [tkz h]
    generalize hz : nxz (w 1 2) = z1
    have h1 : R (jx_up v 1 7 z1) (jx_up w 1 2 z1) := R_z z1 h
    obtain ⟨y, hy, ey⟩ := dz_r z1
    obtain ⟨r, hr, er⟩ := rst hy hc (by omega) ey
    rw [er]
    have T1 : tcn (cT 1 (jx_up v 1 7 z1)) 25 = c := by rw [tcn_K K_z]; exact hT
    obtain ⟨j, F2, hj, ht, hF2, e1, e2⟩ := sp_find (v := jx_up v 1 7 z1) (w := jx_up w 1 2 z1) (x0 := nI r) (x1 := nI n) (x2 := nI c) (x3 := nI i) T1 (fun l hl => tk h1 hl) 25 0 r 100000 F (by omega) (by omega) (by omega) (by omega) (show r + 0 < c by omega)
    rw [show nI 0 = 0 from rfl] at e1 e2
    rw [e2]
    unfold f_X3_lotOfThing
    rw [e1]
    simp only [Option.bind_some, x_draw, up_s, if_neg (nI_neg (show j < 2147483648 by omega)), tn (show j < 2147483648 by omega), ib hj (show 25 ≤ 100000 by omega), if_false, nI_add1]
    generalize nxz z1 = z2
    have h2 : R (jx_up (jx_up v 1 7 z1) 1 7 z2) (jx_up (jx_up w 1 2 z1) 1 2 z2) := R_z z2 h1
    obtain ⟨y', hy', ey'⟩ := dz_r z2
    obtain ⟨t, ht', et⟩ := rst (c := 4) hy' (by omega) (by omega) ey'
    rw [show nI 4 = 4 from rfl] at et
    rw [et]
    refine ih (i+1) f F2 _ _ (by omega) (by omega) (by omega) (R_p h2 hj ?_ ht') ?_
    · rw [up_g, if_neg (by omega)]; exact Int32.not_lt.mp ht
    · rw [tcn_K K_p, tcn_K K_z]; exact T1
theorem q_spill {v w a} (h : R v w) : Q (f_X4_spill a v) (f_X5_spill a w) := by
  unfold f_X4_spill f_X5_spill
  generalize hF : (100000 : Nat) = F
  simp only [m_in_1_12, Option.bind_some, x_f0, m_f0, x_f4, m_f4, x_cnt, m_count, ← h.t, tcs_n]
  by_cases c0 : a < 1
  · have n1 : ¬ (1 ≤ a ∧ a ≤ 12) := fun k => Int32.not_lt.mpr k.1 c0
    simp only [if_pos c0, if_neg n1, z00, if_true]; exact Q_f h
  · rw [if_neg c0]
    by_cases c1 : a ≤ 12
    · have c2 : 1 ≤ a ∧ a ≤ 12 := ⟨Int32.not_lt.mp c0, c1⟩
      obtain ⟨n, hn, rfl⟩ := ix (n := 12) rfl (by omega) ⟨by grind, c1⟩
      rw [if_pos c1, if_pos c2, if_neg i10]
      have le := tcn_le (T := cT 1 v) 25
      by_cases c3 : nI (tcn (cT 1 v) 25) = 0
      · rw [if_pos c3, if_pos c3]; exact Q_f h
      · rw [if_neg c3, if_neg c3]
        have pos : 0 < tcn (cT 1 v) 25 := by
          rw [show (0 : Int32) = nI 0 from rfl, pI_eq (by omega) (by omega)] at c3; omega
        exact sp_L pos le (by omega) n 0 F F v w (by omega) (by omega) (by omega) h rfl
    · have n1 : ¬ (1 ≤ a ∧ a ≤ 12) := fun k => c1 k.2
      simp only [if_neg c1, if_neg n1, z00, if_true]; exact Q_f h
def Q2 (x y : Option (Int32 × jx_V)) : Prop := ∃ r v' r' w', x = some (r, v') ∧ y = some (r', w') ∧ R v' w'
theorem Q_2 {x y} (h : Q x y) : Q2 x y := by obtain ⟨r, v', w', a, b, c⟩ := h; exact ⟨r, v', r, w', a, b, c⟩
theorem x_st_L {x1 : Int32} {v : jx_V} : ∀ d i f a, i + d = 7 → d < f → ∃ r, f_X4_status_L f x1 a (nI i) v = some (r, v) := by
  intro d
  induction d with
  | zero =>
    intro i f a hi hf
    obtain ⟨f, rfl⟩ : ∃ q, f = q + 1 := ⟨f - 1, by omega⟩
    obtain rfl : i = 7 := by omega
    exact ⟨a, by rw [f_X4_status_L, if_pos (by decide)]⟩
  | succ d ih =>
    intro i f a hi hf
    obtain ⟨f, rfl⟩ : ∃ q, f = q + 1 := ⟨f - 1, by omega⟩
    rw [f_X4_status_L, if_neg (by rw [show (7 : Int32) = nI 7 from rfl, pI_le (by omega) (by omega)]; omega)]
    simp only [tn (show i < 2147483648 by omega), ib (show i < 7 by omega) (show 7 ≤ 100000 by omega), if_false, nI_add1]
    exact ih (i+1) f _ (by omega) (by omega)
theorem m_st_L {x1 : Int32} {w : jx_V} : ∀ d i f a, i + d = 7 → d < f → ∃ r, f_X5_status_L f x1 a (nI i) w = some (r, w) := by
  intro d
  induction d with
  | zero =>
    intro i f a hi hf
    obtain ⟨f, rfl⟩ : ∃ q, f = q + 1 := ⟨f - 1, by omega⟩
    obtain rfl : i = 7 := by omega
    exact ⟨a, by rw [f_X5_status_L, if_pos (by decide)]⟩
  | succ d ih =>
    intro i f a hi hf
    obtain ⟨f, rfl⟩ : ∃ q, f = q + 1 := ⟨f - 1, by omega⟩
    rw [f_X5_status_L, if_neg (by rw [show (7 : Int32) = nI 7 from rfl, pI_le (by omega) (by omega)]; omega)]
    simp only [tn (show i < 2147483648 by omega), ib (show i < 7 by omega) (show 7 ≤ 100000 by omega), if_false, nI_add1]
    split
    · exact ih (i+1) f _ (by omega) (by omega)
    · split
      · exact ih (i+1) f _ (by omega) (by omega)
      · exact ih (i+1) f _ (by omega) (by omega)
theorem q_status {v w a} (h : R v w) : Q2 (f_X4_status a v) (f_X5_status a w) := by
  have hx : ∃ r v', f_X4_status a v = some (r, v') ∧ SX v v' := by
    unfold f_X4_status
    simp only [x_w7, Option.bind_some, x_f0]
    by_cases c : a = -1
    · rw [if_pos c]
      obtain ⟨r, e⟩ := x_st_L (x1 := a) (v := v) 7 0 100000 0 (by omega) (by omega)
      exact ⟨r, v, e, SX_r⟩
    · rw [if_neg c]
      by_cases c1 : 0 ≤ a ∧ a ≤ 6
      · obtain ⟨s, hs, rfl⟩ := ix (n := 6) rfl (by omega) c1
        simp only [if_pos c1, o10, if_false, tn (show s < 2147483648 by omega), ib hs (by omega)]
        exact ⟨_, _, rfl, SX_r⟩
      · simp only [if_neg c1, z00, if_true]
        exact ⟨_, _, rfl, up_SX (by omega)⟩
  have hm : ∃ r w', f_X5_status a w = some (r, w') ∧ SM w w' := by
    unfold f_X5_status
    simp only [m_in_m1_6, Option.bind_some, m_f0]
    by_cases c1 : -1 ≤ a ∧ a ≤ 6
    · simp only [if_pos c1, o10, if_false]
      obtain ⟨r, e⟩ := m_st_L (x1 := a) (w := w) 7 0 100000 0 (by omega) (by omega)
      exact ⟨r, w, e, SM_r⟩
    · simp only [if_neg c1, z00, if_true]
      exact ⟨_, _, rfl, up_SM (by omega)⟩
  obtain ⟨r, v', e1, s1⟩ := hx
  obtain ⟨r', w', e2, s2⟩ := hm
  exact ⟨r, v', r', w', e1, e2, R_fr h s1 s2⟩
