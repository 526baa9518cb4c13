def inn (x lo hi : Int32) : Int32 := if lo ≤ x ∧ x ≤ hi then 1 else 0
def lat (x0 x1 x2 : Int32) : Int32 :=
  let row := x0 / 5 + (if x1 = 0 then 0 - x2 else if x1 = 2 then x2 else 0)
  let col := (x0 - x0 / 5 * 5) + (if x1 = 1 then x2 else if x1 = 3 then 0 - x2 else 0)
  if 0 ≤ row ∧ row ≤ 4 ∧ 0 ≤ col ∧ col ≤ 4 then 5 * row + col else -1
theorem m_lotAt {x0 x1 x2 w} : f_X5_lotAt x0 x1 x2 w = some (lat x0 x1 x2, w) := by
  unfold f_X5_lotAt lat
  simp only [m_in_0_4, Option.bind_some]
  by_cases c0 : x1 = 0
  · subst c0
    simp only [show ¬ (0 : Int32) = 1 by decide, show ¬ (0 : Int32) = 3 by decide, if_true, if_false]
    by_cases h1 : 0 ≤ x0 / 5 + (0 - x2) ∧ x0 / 5 + (0 - x2) ≤ 4 <;> by_cases h2 : 0 ≤ x0 - x0 / 5 * 5 + 0 ∧ x0 - x0 / 5 * 5 + 0 ≤ 4 <;> simp [h1, h2] <;> grind
  · by_cases c2 : x1 = 2
    · subst c2
      simp only [show ¬ (2 : Int32) = 0 by decide, show ¬ (2 : Int32) = 1 by decide, show ¬ (2 : Int32) = 3 by decide, if_true, if_false]
      by_cases h1 : 0 ≤ x0 / 5 + x2 ∧ x0 / 5 + x2 ≤ 4 <;> by_cases h2 : 0 ≤ x0 - x0 / 5 * 5 + 0 ∧ x0 - x0 / 5 * 5 + 0 ≤ 4 <;> simp [h1, h2] <;> grind
    · by_cases c1 : x1 = 1
      · subst c1
        simp only [show ¬ (1 : Int32) = 0 by decide, show ¬ (1 : Int32) = 2 by decide, show ¬ (1 : Int32) = 3 by decide, if_true, if_false]
        by_cases h1 : 0 ≤ x0 / 5 + 0 ∧ x0 / 5 + 0 ≤ 4 <;> by_cases h2 : 0 ≤ x0 - x0 / 5 * 5 + x2 ∧ x0 - x0 / 5 * 5 + x2 ≤ 4 <;> simp [h1, h2] <;> grind
      · by_cases c3 : x1 = 3
        · subst c3
          simp only [show ¬ (3 : Int32) = 0 by decide, show ¬ (3 : Int32) = 2 by decide, show ¬ (3 : Int32) = 1 by decide, if_true, if_false]
          by_cases h1 : 0 ≤ x0 / 5 + 0 ∧ x0 / 5 + 0 ≤ 4 <;> by_cases h2 : 0 ≤ x0 - x0 / 5 * 5 + (0 - x2) ∧ x0 - x0 / 5 * 5 + (0 - x2) ≤ 4 <;> simp [h1, h2] <;> grind
        · simp only [c0, c1, c2, c3, if_false]
          by_cases h1 : 0 ≤ x0 / 5 + 0 ∧ x0 / 5 + 0 ≤ 4 <;> by_cases h2 : 0 ≤ x0 - x0 / 5 * 5 + 0 ∧ x0 - x0 / 5 * 5 + 0 ≤ 4 <;> simp [h1, h2] <;> grind
def lti (p w : Int32) : Nat → Int32
  | 0 => p
  | k + 1 => nl (lti p w k) w
theorem lt_i {T i} : ∀ k, lt T i k = lti (T.W 0 i) (T.W 2 i) k
  | 0 => rfl
  | k + 1 => by rw [lt, lti, lt_i k]
theorem lat_lt : ∀ p, p < 25 → ∀ a, a < 4 → ∀ k, k < 5 → lat (nI p) (nI a) (nI k) = lti (nI p) (nI a) k := by decide +kernel
theorem lat_T {T i k} (hT : OK T) (hk : k < 5) : lat (T.W 0 i) (T.W 2 i) (nI k) = lt T i k := by
  obtain ⟨p, hp, e⟩ := hT.w0 i
  obtain ⟨a, ha, e'⟩ := hT.w2 i
  rw [lt_i, e, e', lat_lt p hp a ha k hk]
-- if place k is in the town, the nearer ones are
theorem lti_in : ∀ p, p < 25 → ∀ a, a < 4 → ∀ k, k < 5 → ∀ n, n < k → 0 ≤ lti (nI p) (nI a) k → 0 ≤ lti (nI p) (nI a) n := by decide +kernel
theorem lt_in {T i k n} (hT : OK T) (hk : k < 5) (hn : n < k) (h : 0 ≤ lt T i k) : 0 ≤ lt T i n := by
  obtain ⟨p, hp, e⟩ := hT.w0 i
  obtain ⟨a, ha, e'⟩ := hT.w2 i
  rw [lt_i, e, e'] at h ⊢
  exact lti_in p hp a ha k hk n hn h
theorem su_cap : ∀ j, j < 10 → ∀ a, a < 4 → ∃ q, q < 10 ∧ cap (nI j + nI a) = nI q := by decide +kernel
theorem st_r {T} (hT : OK T) (l : Nat) : ∃ q, q < 10 ∧ st T l = nI q := by
  obtain ⟨j, hj, e⟩ := hT.h l
  unfold st
  rw [e]
  have h0 := su_cap j hj 0 (by omega)
  have h2 := su_cap j hj 2 (by omega)
  have h3 := su_cap j hj 3 (by omega)
  rw [show nI 0 = 0 from rfl, Int32.add_zero] at h0
  rw [show nI 2 = 2 from rfl] at h2
  rw [show nI 3 = 3 from rfl] at h3
  have hz : ∃ q, q < 10 ∧ (0 : Int32) = nI q := ⟨0, by omega, rfl⟩
  cases s : su T.m <;> simp only [s, if_true, if_false, Bool.false_eq_true, Int32.add_zero] <;> (repeat' split) <;> assumption
theorem tp_r {T i} (hT : OK T) (k : Nat) : ∃ q, q < 10 ∧ tp T i k = nI q := by
  unfold tp
  split
  · exact st_r hT _
  · exact ⟨0, by omega, rfl⟩
-- the test of one nearer lot
theorem fd_key (A B : Prop) [Decidable A] [Decidable B] : (decide A == !decide B) = true → (A ↔ ¬ B) := by
  by_cases a : A <;> by_cases b : B <;> simp [a, b]
theorem fd_tb : (List.range 5).all (fun k => (List.range k).all (fun n => n == 0 || (List.range 10).all (fun lev => (List.range 10).all (fun t => (List.range 10).all (fun j =>
    decide ((2 * nI j - 2 * nI lev) * nI n ≤ (2 * nI t - 2 * nI lev - 1) * nI k) == !decide (nI lev + fd ((2 * nI t - 2 * nI lev - 1) * nI k) (2 * nI n) + 1 ≤ nI j)))))) = true := by decide +kernel
theorem fd_t : ∀ k, k < 5 → ∀ n, n < k → 0 < n → ∀ lev, lev < 10 → ∀ t, t < 10 → ∀ j, j < 10 →
    (((2 * nI j - 2 * nI lev) * nI n ≤ (2 * nI t - 2 * nI lev - 1) * nI k) ↔ ¬ (nI lev + fd ((2 * nI t - 2 * nI lev - 1) * nI k) (2 * nI n) + 1 ≤ nI j)) := by
  intro k hk n hn h0 lev hl t ht j hj
  have h1 := List.all_eq_true.mp (List.all_eq_true.mp fd_tb k (List.mem_range.mpr hk)) n (List.mem_range.mpr hn)
  rw [Bool.or_eq_true] at h1
  rcases h1 with e | e
  · have := eq_of_beq e; omega
  · exact fd_key _ _ (List.all_eq_true.mp (List.all_eq_true.mp (List.all_eq_true.mp e lev (List.mem_range.mpr hl)) t (List.mem_range.mpr ht)) j (List.mem_range.mpr hj))
theorem fd_r : ∀ k, k < 5 → ∀ n, n < k → 0 < n → ∀ lev, lev < 10 → ∀ t, t < 10 →
    nI lev + fd ((2 * nI t - 2 * nI lev - 1) * nI k) (2 * nI n) + 1 < 64 := by decide +kernel
theorem lws_r {T i k} (hT : OK T) (hk : k < 5) : ∀ c, c < k → ∃ q, q < 64 ∧ lws T i k c = nI q
  | 0, _ => ⟨0, by omega, rfl⟩
  | c + 1, hc => by
    obtain ⟨q, hq, e⟩ := lws_r hT (i := i) hk c (by omega)
    obtain ⟨t, ht, et⟩ := tp_r hT (i := i) (c+1)
    obtain ⟨lev, hl, el⟩ := hT.w1 i
    rw [lws]
    split
    · unfold mx
      split
      · exact ⟨q, hq, e⟩
      · rename_i h1 h2
        rw [et, el] at h2 ⊢
        have := fd_r k hk (c+1) hc (by omega) lev hl t ht
        refine nI_ex (by omega) ?_ this
        rw [e] at h2
        have := pI_pos (show q < 2147483648 by omega)
        grind
    · exact ⟨q, hq, e⟩
theorem lw_r {T i k} (hT : OK T) (hk : k < 5) : ∃ q, q < 64 ∧ lw T i k = nI q := by
  unfold lw
  by_cases h0 : k = 0
  · subst h0; split
    · exact ⟨0, by omega, rfl⟩
    · exact ⟨0, by omega, rfl⟩
  · split
    · exact lws_r hT hk (k-1) (by omega)
    · exact ⟨0, by omega, rfl⟩

def msk (b j : Nat) : Int32 := if b < j then (1 <<< (nI j &&& 31)) - (1 <<< (nI b &&& 31)) else 0
theorem msk_s : ∀ j, j < 10 → ∀ b, b < 64 → msk b j ||| (if b ≤ j then (1 <<< (nI j &&& 31)) else 0) = msk b (j+1) := by decide +kernel
theorem msk_e : ∀ t, t < 10 → ∀ b, b < 64 → (if mx 0 (nI t - nI b) = 0 then (0 : Int32) else (1 <<< (nI t &&& 31)) - (1 <<< (nI b &&& 31))) = msk b t := by decide +kernel
theorem m_seen_i {i k j : Nat} {w : jx_V} {x4 high set : Int32} (hT : OK (mT (w 1))) (hi : i < (w 1 1).toNatClampNeg) (hk : k < 5) (hj : j < 10) (hin : 0 ≤ lt (mT (w 1)) i k) :
    ∀ d c f, c + d + 1 = k → f_X5_seen_L (f + d + 1) 1 (nI i) (nI k) ((mT (w 1)).W 1 i) x4 high set (nI j) (if lws (mT (w 1)) i k c ≤ nI j then 1 else 0) (nI (c+1)) w
      = f_X5_seen_L f 0 (nI i) (nI k) ((mT (w 1)).W 1 i) x4 high (set ||| (if lws (mT (w 1)) i k (k-1) ≤ nI j then (1 <<< (nI j &&& 31)) else 0)) (nI (j+1)) 0 0 w := by
  obtain ⟨N, hN, eN⟩ := hT.n
  have eN' : (w 1 1).toNatClampNeg = N := by rw [show w 1 1 = nI N from eN, tn (by omega)]
  intro d
  induction d with
  | zero =>
    intro c f hc
    rw [f_X5_seen_L, if_neg (by decide), if_pos rfl, if_pos (by rw [pI_le (by omega) (by omega)]; omega), show k - 1 = c by omega, nI_add1]
    by_cases h : lws (mT (w 1)) i k c ≤ nI j <;> simp [h]
  | succ d ih =>
    intro c f hc
    have e0 : w 1 (111 + 6 * i + 0) = (mT (w 1)).W 0 i := (mW (by omega) hi).symm
    have e2 : w 1 (111 + 6 * i + 2) = (mT (w 1)).W 2 i := (mW (by omega) hi).symm
    have hin' : 0 ≤ lt (mT (w 1)) i (c+1) := lt_in hT hk (by omega) hin
    have ih' := ih (c+1) f (by omega)
    rw [show f + (d + 1) + 1 = (f + d + 1) + 1 by omega, f_X5_seen_L, if_neg (by decide), if_pos rfl, if_neg (by rw [pI_le (by omega) (by omega)]; omega)]
    simp only [m_told0 (show i < 10 by omega), m_told2 (show i < 10 by omega), Option.bind_some, e0, e2, m_lotAt, lat_T hT (show c + 1 < 5 by omega)]
    rw [show nI (c + 1) + 1 = nI (c + 1 + 1) from nI_add1 _]
    rcases lt_r hT (i := i) (c+1) with e | ⟨q, hq, e⟩
    · rw [e] at hin'; exact absurd hin' (by decide)
    · simp only [e, m_thing hq, Option.bind_some]
      by_cases h : lws (mT (w 1)) i k c ≤ nI j
      · rw [if_neg (by simp [h])]
        by_cases ht : 0 ≤ w 1 (11 + 4 * q)
        · have eln : ln (mT (w 1)) i (c+1) = nI q := by unfold ln; rw [e, tn (by omega), if_pos ⟨pI_pos (by omega), by rw [mK hq]; exact ht⟩]
          have etp : tp (mT (w 1)) i (c+1) = st (mT (w 1)) q := by unfold tp; rw [eln, tn (by omega), if_pos (pI_pos (by omega))]
          simp only [Int32.not_lt.mpr ht, if_false, m_stands hq ht, Option.bind_some, show ¬ (1 : Int32) = 0 by decide]
          obtain ⟨t, ht', et⟩ := st_r hT q
          obtain ⟨lev, hl, el⟩ := hT.w1 i
          have key := fd_t k hk (c+1) (by omega) (by omega) lev hl t ht' j hj
          have el1 : lws (mT (w 1)) i k (c+1) = mx (lws (mT (w 1)) i k c) (nI lev + fd ((2 * nI t - 2 * nI lev - 1) * nI k) (2 * nI (c + 1)) + 1) := by
            rw [lws, if_pos (by rw [eln]; exact pI_pos (by omega)), etp, et, el]
          rw [el1, el] at ih'
          rw [et, el]
          have hmx : (mx (lws (mT (w 1)) i k c) (nI lev + fd ((2 * nI t - 2 * nI lev - 1) * nI k) (2 * nI (c + 1)) + 1) ≤ nI j) ↔ (nI lev + fd ((2 * nI t - 2 * nI lev - 1) * nI k) (2 * nI (c + 1)) + 1 ≤ nI j) := by
            unfold mx; split <;> grind
          by_cases h2 : nI lev + fd ((2 * nI t - 2 * nI lev - 1) * nI k) (2 * nI (c + 1)) + 1 ≤ nI j
          · rw [if_neg (fun q => (key.mp q) h2)]
            rw [if_pos (hmx.mpr h2)] at ih'
            exact ih'
          · rw [if_pos (key.mpr h2)]
            rw [if_neg (fun q => h2 (hmx.mp q))] at ih'
            exact ih'
        · have eln : ln (mT (w 1)) i (c+1) = -1 := by unfold ln; rw [e, tn (by omega), mK hq]; simp [ht]
          rw [show lws (mT (w 1)) i k (c+1) = lws (mT (w 1)) i k c by rw [lws, eln]; simp, if_pos h] at ih'
          rw [if_pos (Int32.not_le.mp ht)]
          simp only [if_true]
          exact ih'
      · rw [if_pos (by simp [h])]
        have h3 : ¬ lws (mT (w 1)) i k (c+1) ≤ nI j := by
          rw [lws]
          split
          · unfold mx; split <;> grind
          · exact h
        rw [if_neg h3] at ih'
        exact ih'
theorem m_seen_o {i k : Nat} {w : jx_V} {x4 : Int32} {high b : Nat} (hT : OK (mT (w 1))) (hi : i < (w 1 1).toNatClampNeg) (h1 : 1 ≤ k) (hk : k < 5) (hh : high < 10) (hin : 0 < high → 0 ≤ lt (mT (w 1)) i k) (hb : b < 64) (eb : 0 < high → lws (mT (w 1)) i k (k-1) = nI b) :
    ∀ d j f, j + d = high → 10 * d < f → f_X5_seen_L f 0 (nI i) (nI k) ((mT (w 1)).W 1 i) x4 (nI high) (msk b j) (nI j) 0 0 w = some (msk b high, w) := by
  intro d
  induction d with
  | zero =>
    intro j f hj hf
    obtain ⟨f, rfl⟩ : ∃ q, f = q + 1 := ⟨f - 1, by omega⟩
    rw [f_X5_seen_L, if_pos rfl, if_pos (by rw [pI_le (by omega) (by omega)]; omega), show j = high by omega]
  | succ d ih =>
    intro j f hj hf
    obtain ⟨f, rfl⟩ : ∃ q, f = q + 1 := ⟨f - 1, by omega⟩
    rw [f_X5_seen_L, if_pos rfl, if_neg (by rw [pI_le (by omega) (by omega)]; omega)]
    have e := m_seen_i (x4 := x4) (high := nI high) (set := msk b j) hT hi hk (show j < 10 by omega) (hin (by omega)) (k-1) 0 (f - k) (by omega)
    rw [show lws (mT (w 1)) i k 0 = 0 from rfl, if_pos (pI_pos (by omega)), show f - k + (k - 1) + 1 = f by omega, eb (by omega)] at e
    simp only [pI_le (show b < 2147483648 by omega) (show j < 2147483648 by omega)] at e
    refine e.trans ?_
    rw [msk_s j (by omega) b hb]
    exact ih (j+1) (f - k) (by omega) (by omega)
theorem sq_0 {T i k} (h : ln T i k = -1) : tp T i k = 0 ∧ lw T i k = 0 ∧ sq T i k = 0 ∧ ss T i k = 0 := by
  have h1 : tp T i k = 0 := by unfold tp; rw [h]; simp
  have h2 : lw T i k = 0 := by unfold lw; rw [h]; simp
  have h3 : sq T i k = 0 := by unfold sq; rw [h1, h2]; rfl
  exact ⟨h1, h2, h3, by unfold ss; rw [h3, if_pos rfl]⟩
theorem ss_m {T i k} {t b : Nat} (ht : t < 10) (hb : b < 64) (e1 : tp T i k = nI t) (e2 : lw T i k = nI b) : ss T i k = msk b t := by
  unfold ss sq; rw [e1, e2]; exact msk_e t ht b hb
theorem m_seen_z {F : Nat} {x1 x2 x3 x4 : Int32} {w : jx_V} (hF : 0 < F) : f_X5_seen_L F 0 x1 x2 x3 x4 0 0 0 0 0 w = some (0, w) := by
  obtain ⟨f, rfl⟩ : ∃ q, F = q + 1 := ⟨F - 1, by omega⟩
  rw [f_X5_seen_L, if_pos rfl, if_pos (by decide)]
theorem m_seen_t {F i k : Nat} {w : jx_V} {x4 : Int32} {high b : Nat} (hF : 100 < F) (hT : OK (mT (w 1))) (hi : i < (w 1 1).toNatClampNeg) (h1 : 1 ≤ k) (hk : k < 5) (hh : high < 10) (hin : 0 ≤ lt (mT (w 1)) i k) (hb : b < 64) (eb : lws (mT (w 1)) i k (k-1) = nI b) :
    f_X5_seen_L F 0 (nI i) (nI k) ((mT (w 1)).W 1 i) x4 (nI high) 0 0 0 0 w = some (msk b high, w) := by
  have := m_seen_o (x4 := x4) (high := high) (b := b) hT hi h1 hk hh (fun _ => hin) hb (fun _ => eb) high 0 F (by omega) (by omega)
  rw [show msk b 0 = 0 from if_neg (by omega), show nI 0 = 0 from rfl] at this
  exact this
theorem m_seen {i k : Nat} {w : jx_V} (hT : OK (mT (w 1))) (hi : i < (w 1 1).toNatClampNeg) (h1 : 1 ≤ k) (hk : k < 5) :
    f_X5_seen (nI i) (nI k) w = some (ss (mT (w 1)) i k, w) := by
  obtain ⟨N, hN, eN⟩ := hT.n
  have eN' : (w 1 1).toNatClampNeg = N := by rw [show w 1 1 = nI N from eN, tn (by omega)]
  have e0 : w 1 (111 + 6 * i + 0) = (mT (w 1)).W 0 i := (mW (by omega) hi).symm
  have e1 : w 1 (111 + 6 * i + 1) = (mT (w 1)).W 1 i := (mW (by omega) hi).symm
  have e2 : w 1 (111 + 6 * i + 2) = (mT (w 1)).W 2 i := (mW (by omega) hi).symm
  unfold f_X5_seen
  generalize hF : (100000 : Nat) = F
  simp only [m_told0 (show i < 10 by omega), m_told1 (show i < 10 by omega), m_told2 (show i < 10 by omega), Option.bind_some, e0, e1, e2, m_lotAt, lat_T hT hk]
  rcases lt_r hT (i := i) k with e | ⟨q, hq, e⟩
  · rw [e, if_pos (by decide)]
    rw [m_seen_z (by omega), (sq_0 (by unfold ln; rw [e]; simp)).2.2.2]
  · rw [e, if_neg (nI_neg (by omega))]
    simp only [m_thing hq, Option.bind_some]
    by_cases ht : 0 ≤ w 1 (11 + 4 * q)
    · have eln : ln (mT (w 1)) i k = nI q := by unfold ln; rw [e, tn (by omega), if_pos ⟨pI_pos (by omega), by rw [mK hq]; exact ht⟩]
      have etp : tp (mT (w 1)) i k = st (mT (w 1)) q := by unfold tp; rw [eln, tn (by omega), if_pos (pI_pos (by omega))]
      have elw : lw (mT (w 1)) i k = lws (mT (w 1)) i k (k-1) := by unfold lw; rw [eln, if_pos (pI_pos (by omega))]
      obtain ⟨t, ht', et⟩ := tp_r hT (i := i) k
      obtain ⟨b, hb, eb⟩ := lw_r hT (i := i) hk
      rw [if_neg (Int32.not_lt.mpr ht), if_neg (by decide), m_stands hq ht, Option.bind_some, ← etp, et, ss_m ht' hb et eb]
      show f_X5_seen_L F 0 (nI i) (nI k) ((mT (w 1)).W 1 i) (nI q) (nI t) 0 0 0 0 w = _
      rw [m_seen_t (by omega) hT hi h1 hk ht' (by rw [e]; exact pI_pos (by omega)) hb (by rw [← elw, eb])]
    · have eln : ln (mT (w 1)) i k = -1 := by unfold ln; rw [e, tn (by omega), mK hq]; simp [ht]
      rw [if_pos (Int32.not_le.mp ht)]
      simp only [if_true]
      rw [m_seen_z (by omega), (sq_0 eln).2.2.2]
def onesP : Nat → Int32 → Int32 → Option Int32
  | 0, _, _ => none
  | n + 1, a, x => if x = 0 then some a else onesP n (a+1) (x &&& (x - 1))
theorem m_onesP {w x0} : ∀ n a x, f_X5_ones_L n x0 a x w = (onesP n a x).map (fun r => (r, w))
  | 0, _, _ => rfl
  | n + 1, a, x => by
    rw [f_X5_ones_L, onesP]
    split
    · rfl
    · exact m_onesP n _ _
theorem onesP_s {r} : ∀ n a x, onesP n a x = some r → onesP (n+1) a x = some r
  | n + 1, a, x, h => by
    rw [onesP] at h ⊢
    split
    · rename_i c; rw [if_pos c] at h; exact h
    · rename_i c; rw [if_neg c] at h; exact onesP_s n _ _ h
theorem onesP_m {r n a x} (h : onesP n a x = some r) : ∀ m, onesP (n + m) a x = some r
  | 0 => h
  | m + 1 => onesP_s _ _ _ (onesP_m h m)
theorem m_ones {x w r} (h : onesP 40 0 x = some r) : f_X5_ones x w = some (r, w) := by
  unfold f_X5_ones
  rw [m_onesP, show 100000 = 40 + 99960 from rfl, onesP_m h]; rfl
theorem ones_m : ∀ t, t < 10 → ∀ b, b < 64 → onesP 40 0 (msk b t) = some (mx 0 (nI t - nI b)) := by decide +kernel
theorem m_ones_ss {T i k w} (hT : OK T) (hk : k < 5) : f_X5_ones (ss T i k) w = some (sq T i k, w) := by
  obtain ⟨t, ht', et⟩ := tp_r hT (i := i) k
  obtain ⟨b, hb, eb⟩ := lw_r hT (i := i) hk
  apply m_ones
  rw [ss_m ht' hb et eb]; unfold sq; rw [et, eb]
  exact ones_m t ht' b hb
