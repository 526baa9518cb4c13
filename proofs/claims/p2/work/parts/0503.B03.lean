def nl (x way : Int32) : Int32 := if 0 ≤ x then (if way = 0 then (if x < 5 then -1 else x - 5) else if way = 1 then (if 4 ≤ x - x / 5 * 5 then -1 else x + 1) else if way = 2 then (if 20 ≤ x then -1 else x + 5) else if x - x / 5 * 5 ≤ 0 then -1 else x - 1) else -1
theorem x_next {x way v} : f_X0_nextLot x way v = some (nl x way, v) := by
  unfold f_X0_nextLot nl; grind
def fd (a b : Int32) : Int32 := if 0 ≤ (a ^^^ b) then a / b else if a / b * b = a then a / b else a / b - 1
theorem j_fd {a b v} (hb : b ≠ 0) : f_J9_floorDiv_7cf53 a b v = some (fd a b, v) := by
  unfold f_J9_floorDiv_7cf53 fd; grind
def lt (T : Tn) (i : Nat) : Nat → Int32
  | 0 => T.W 0 i
  | k + 1 => nl (lt T i k) (T.W 2 i)
theorem nl_r : ∀ j, j < 25 → ∀ a, a < 4 → nl (nI j) (nI a) = -1 ∨ ∃ q, q < 25 ∧ nl (nI j) (nI a) = nI q := by decide +kernel
theorem lt_r {T i} (hT : OK T) : ∀ k, lt T i k = -1 ∨ ∃ q, q < 25 ∧ lt T i k = nI q
  | 0 => Or.inr (hT.w0 i)
  | k + 1 => by
    obtain ⟨a, ha, ea⟩ := hT.w2 i
    rcases lt_r hT (i := i) k with e | ⟨q, hq, e⟩
    · left; show nl (lt T i k) (T.W 2 i) = -1; rw [e]; unfold nl; simp
    · show nl (lt T i k) (T.W 2 i) = -1 ∨ ∃ q, q < 25 ∧ nl (lt T i k) (T.W 2 i) = nI q
      rw [e, ea]; exact nl_r q hq a ha
def ln (T : Tn) (i k : Nat) : Int32 := if 0 ≤ lt T i k ∧ 0 ≤ T.K (lt T i k).toNatClampNeg then lt T i k else -1
theorem ln_r {T i} (hT : OK T) (k : Nat) : ln T i k = -1 ∨ ∃ q, q < 25 ∧ ln T i k = nI q ∧ 0 ≤ T.K q ∧ lt T i k = nI q := by
  unfold ln
  rcases lt_r hT (i := i) k with e | ⟨q, hq, e⟩
  · left; rw [e]; simp
  · rw [e, tn (by omega)]
    by_cases h : 0 ≤ T.K q
    · right; exact ⟨q, hq, by rw [if_pos ⟨pI_pos (by omega), h⟩], h, rfl⟩
    · left; simp [h]
def tp (T : Tn) (i k : Nat) : Int32 := if 0 ≤ ln T i k then st T (ln T i k).toNatClampNeg else 0
def mx (a b : Int32) : Int32 := if b ≤ a then a else b
def lws (T : Tn) (i k : Nat) : Nat → Int32
  | 0 => 0
  | c + 1 => if 0 ≤ ln T i (c+1) then mx (lws T i k c) (T.W 1 i + fd ((2 * tp T i (c+1) - 2 * T.W 1 i - 1) * nI k) (2 * nI (c+1)) + 1) else lws T i k c
def lw (T : Tn) (i k : Nat) : Int32 := if 0 ≤ ln T i k then lws T i k (k-1) else 0
theorem two_n : ∀ c, c < 5 → 2 * nI (c+1) ≠ 0 := by decide +kernel
theorem x_low_L {T : Tn} {i k : Nat} {v : jx_V} (hk : k ≤ 4) (hv : ∀ q, 1 ≤ q → q < k → v 50 q = ln T i q ∧ v 51 q = tp T i q) :
    ∀ d c f, c + d + 1 = k → d < f → f_X0_lowestSeen_L f (nI k) (T.W 1 i) (lws T i k c) (nI (c+1)) v = some (lws T i k (k-1), v)
  | 0, c, f + 1, hc, hf => by
    rw [f_X0_lowestSeen_L, if_pos (by rw [pI_le (by omega) (by omega)]; omega), show k - 1 = c by omega]
  | d + 1, c, f + 1, hc, hf => by
    obtain ⟨e1, e2⟩ := hv (c+1) (by omega) (by omega)
    rw [f_X0_lowestSeen_L, if_neg (by rw [pI_le (by omega) (by omega)]; omega)]
    simp only [tn (show c + 1 < 2147483648 by omega), ib (show c + 1 < 5 by omega) (by omega), if_false, e1, e2, j_fd (two_n c (by omega)), j_max, Option.bind_some]
    have ih := x_low_L hk hv d (c+1) f (by omega) (by omega)
    rw [show nI (c + 1) + 1 = nI (c + 1 + 1) from nI_add1 _]
    rw [lws] at ih
    by_cases h : 0 ≤ ln T i (c+1)
    · rw [if_pos h] at ih
      rw [if_neg (by grind)]
      exact ih
    · rw [if_neg h] at ih
      rw [if_pos (by grind)]
      exact ih
theorem x_low {T : Tn} {i k : Nat} {v : jx_V} (hk1 : 1 ≤ k) (hk : k ≤ 4) (hv : ∀ q, 1 ≤ q → q < k → v 50 q = ln T i q ∧ v 51 q = tp T i q) :
    f_X0_lowestSeen (nI k) (T.W 1 i) v = some (lws T i k (k-1), v) := x_low_L hk hv (k-1) 0 100000 (by omega) (by omega)
theorem cT_congr {h : Nat} {v v1 : jx_V} (hf : ∀ c, h ≤ c → c ≤ h + 15 → v1 c = v c) : cT h v1 = cT h v := by
  have e0 := hf h (by omega) (by omega)
  have e3 := hf (h+3) (by omega) (by omega)
  have e4 := hf (h+4) (by omega) (by omega)
  have e5 := hf (h+5) (by omega) (by omega)
  have e6 := hf (h+6) (by omega) (by omega)
  have e13 := hf (h+13) (by omega) (by omega)
  have e14 := hf (h+14) (by omega) (by omega)
  have e15 := hf (h+15) (by omega) (by omega)
  unfold cT
  rw [e0, e3, e4, e5, e6, e13, e14, e15]
  refine Tx rfl rfl rfl rfl ?_ rfl rfl rfl rfl rfl rfl
  funext a i
  show (if a < 6 ∧ _ then v1 (h+7+a) i else 0) = if a < 6 ∧ _ then v (h+7+a) i else 0
  by_cases ha : a < 6
  · simp only [ha, true_and, hf (h+7+a) (by omega) (by omega)]
  · simp [ha]
def G (v v' : jx_V) : Prop := ∀ c, (c < 50 ∨ 53 ≤ c) → v' c = v c
theorem up50 {v v1 : jx_V} {c j x} (h : G v v1) (hc : 50 ≤ c ∧ c < 53) : G v (jx_up v1 c j x) := fun q hq => by rw [jx_up_ne (by omega)]; exact h q hq
def Lk (T : Tn) (i : Nat) (v : jx_V) (k : Nat) : Prop := ∀ q, 1 ≤ q → q < k → v 50 q = ln T i q ∧ v 51 q = tp T i q ∧ v 52 q = lw T i q
theorem x_look_L {h i : Nat} {v : jx_V} {x2 : Int32} (hh : h + 15 < 50) (hT : OK (cT h v)) : ∀ d k f v1, k + d = 5 → 1 ≤ k → d < f → G v v1 → Lk (cT h v) i v1 k →
    ∃ v', f_X0_look_L h f x2 ((cT h v).W 1 i) ((cT h v).W 2 i) (lt (cT h v) i (k-1)) (nI k) v1 = some v' ∧ G v v' ∧ Lk (cT h v) i v' 5
  | 0, k, f + 1, v1, hk, h1, hf, hG, hL => by
    refine ⟨v1, ?_, hG, by rw [← show k = 5 by omega]; exact hL⟩
    rw [f_X0_look_L, if_pos (by rw [show (4 : Int32) = nI 4 from rfl, pI_lt (by omega) (by omega)]; omega)]
  | d + 1, k, f + 1, v1, hk, h1, hf, hG, hL => by
    rw [f_X0_look_L, if_neg (by rw [show (4 : Int32) = nI 4 from rfl, pI_lt (by omega) (by omega)]; omega)]
    have et : nl (lt (cT h v) i (k-1)) ((cT h v).W 2 i) = lt (cT h v) i k := by
      rw [show k = (k-1)+1 by omega]; rfl
    simp only [x_next, Option.bind_some, et, tn (show k < 2147483648 by omega), ib (show k < 5 by omega) (by omega), if_false, nI_add1]
    have hcc : ∀ v2, G v v2 → cT h v2 = cT h v := fun v2 g => cT_congr (fun c _ _ => g c (by omega))
    have none_case : ln (cT h v) i k = -1 → Lk (cT h v) i (jx_up (jx_up (jx_up v1 50 k (-1)) 51 k 0) 52 k 0) (k+1) := by
      intro e q hq1 hq2
      simp only [up_g]
      by_cases c : q = k
      · subst c
        simp [e, tp, lw]
      · have := hL q hq1 (by omega)
        simp [c, this]
    rcases lt_r hT (i := i) k with e | ⟨q, hq, e⟩
    · rw [e, if_pos (by decide)]
      have eln : ln (cT h v) i k = -1 := by unfold ln; rw [e]; simp
      have := x_look_L hh hT d (k+1) f _ (by omega) (by omega) (by omega) (up50 (c := 52) (j := k) (x := 0) (up50 (c := 51) (j := k) (x := 0) (up50 (c := 50) (j := k) (x := -1) hG (by omega)) (by omega)) (by omega)) (none_case eln) (x2 := x2)
      rw [show k + 1 - 1 = k by omega, e] at this
      exact this
    · rw [e, if_neg (nI_neg (by omega))]
      simp only [x_taken hq, Option.bind_some]
      have eK : v1 (h+3) q = (cT h v).K q := by rw [← hcc v1 hG, cK hq]
      by_cases ht : 0 ≤ (cT h v).K q
      · have eln : ln (cT h v) i k = nI q := by unfold ln; rw [e, tn (by omega), if_pos ⟨pI_pos (by omega), ht⟩]
        have etp : tp (cT h v) i k = st (cT h v) q := by unfold tp; rw [eln, tn (by omega), if_pos (pI_pos (by omega))]
        have elw : lw (cT h v) i k = lws (cT h v) i k (k-1) := by unfold lw; rw [eln, if_pos (pI_pos (by omega))]
        rw [eK, if_neg (Int32.not_lt.mpr ht), if_neg (by decide)]
        have g1 := up50 (c := 50) (j := k) (x := nI q) hG (by omega)
        have es := x_standing (h := h) (v := jx_up v1 50 k (nI q)) hq (by rw [g1 (h+3) (by omega), ← hG (h+3) (by omega), eK]; exact ht)
        rw [hcc _ g1] at es
        simp only [es, Option.bind_some]
        have g2 := up50 (c := 51) (j := k) (x := st (cT h v) q) g1 (by omega)
        have el := x_low (T := cT h v) (i := i) (k := k) (v := jx_up (jx_up v1 50 k (nI q)) 51 k (st (cT h v) q)) h1 (by omega) (by
          intro p hp1 hp2
          have := hL p hp1 hp2
          simp only [up_g]
          have c : p ≠ k := by omega
          simp [c, this])
        simp only [el, Option.bind_some]
        have g3 := up50 (c := 52) (j := k) (x := lws (cT h v) i k (k-1)) g2 (by omega)
        have := x_look_L hh hT d (k+1) f _ (by omega) (by omega) (by omega) g3 (by
          intro p hp1 hp2
          simp only [up_g]
          by_cases c : p = k
          · subst c; simp [eln, etp, elw]
          · have := hL p hp1 (by omega)
            simp [c, this]) (x2 := x2) (i := i)
        rw [show k + 1 - 1 = k by omega, e] at this
        exact this
      · have eln : ln (cT h v) i k = -1 := by unfold ln; rw [e, tn (by omega)]; simp [ht]
        rw [eK, if_pos (Int32.not_le.mp ht)]
        simp only [if_true]
        have := x_look_L hh hT d (k+1) f _ (by omega) (by omega) (by omega) (up50 (c := 52) (j := k) (x := 0) (up50 (c := 51) (j := k) (x := 0) (up50 (c := 50) (j := k) (x := -1) hG (by omega)) (by omega)) (by omega)) (none_case eln) (x2 := x2)
        rw [show k + 1 - 1 = k by omega, e] at this
        exact this
theorem cn {h v} (hT : OK (cT h v)) : ∃ N, N ≤ 10 ∧ v h 5 = nI N ∧ (v h 5).toNatClampNeg = N := by
  obtain ⟨N, h1, h2⟩ := hT.n
  have h3 : v h 5 = nI N := h2
  exact ⟨N, h1, h3, by rw [h3, tn (by omega)]⟩
theorem x_look {h i : Nat} {v : jx_V} (hh : h + 15 < 50) (hT : OK (cT h v)) (hi : i < (v h 5).toNatClampNeg) :
    ∃ v', f_X0_look h (nI i) v = some v' ∧ G v v' ∧ Lk (cT h v) i v' 5 := by
  obtain ⟨N, hN, _, e⟩ := cn hT
  unfold f_X0_look
  simp only [tn (show i < 2147483648 by omega), ib (show i < 10 by omega) (by omega), if_false]
  have := x_look_L hh hT (i := i) (x2 := nI i) 4 1 100000 v (by omega) (by omega) (by omega) (fun _ _ => rfl) (by intro q h1 h2; omega)
  rw [cW (by omega) hi, cW (by omega) hi] at this
  have e0 : lt (cT h v) i (1-1) = v (h+7) i := cW (by omega) hi
  rw [e0] at this
  exact this
