def grow (T : Tn) : Tn := (T.K, T.O, fun l => if l < 25 ∧ 0 ≤ T.K l then cap (T.H l + gr T l) else 0, T.P, T.W, T.C, T.U, T.S, T.n, T.m + 1, T.z)
theorem gr_r (T : Tn) (l : Nat) : gr T l = 0 ∨ gr T l = 1 := by
  unfold gr; (repeat' split) <;> first | exact Or.inl rfl | exact Or.inr rfl
theorem OK_grow {T} (hT : OK T) : OK (grow T) := by
  refine OK.mk hT.k hT.o (fun l => ?_) hT.p hT.w0 hT.w1 hT.w2 hT.w3 hT.w4 hT.n hT.s
  show ∃ q, q < 10 ∧ (if l < 25 ∧ 0 ≤ T.K l then cap (T.H l + gr T l) else 0) = nI q
  split
  · obtain ⟨j, hj, e⟩ := hT.h l
    rw [e]
    rcases gr_r T l with g | g
    · rw [g]; exact su_cap j hj 0 (by omega)
    · rw [g]; exact su_cap j hj 1 (by omega)
  · exact ⟨0, by omega, rfl⟩
theorem OK_paid {T} (hT : OK T) : OK (paid T) := OK.mk hT.k hT.o hT.h hT.p hT.w0 hT.w1 hT.w2 hT.w3 hT.w4 hT.n hT.s
def mon (T : Tn) : Tn := grow (paid T)
theorem OK_mon {T} (hT : OK T) : OK (mon T) := OK_grow (OK_paid hT)
theorem j_min9 {x v} : f_J9_min_7cf53 9 x v = some (cap x, v) := j_min
def HF (h : Nat) (v v' : jx_V) : Prop := ∀ c, (c < 50 ∨ 53 ≤ c) → (c < h ∨ h + 15 < c) → v' c = v c
theorem HF_r {h v} : HF h v v := fun _ _ _ => rfl
theorem HF_t {h u v w} (a : HF h u v) (b : HF h v w) : HF h u w := fun c x y => (b c x y).trans (a c x y)
theorem G_HF {h v v'} (g : G v v') : HF h v v' := fun c x _ => g c x
theorem x_grow {h : Nat} {v : jx_V} : ∃ v', f_X3_growAll h v = some v' ∧ (∀ c, c ≠ h → c ≠ h + 5 → v' c = v c) ∧ cT h v' = grow (cT h v) := by
  have : ∀ d l f v1, l + d = 25 → d < f → (∀ c, c ≠ h + 5 → v1 c = v c) → (∀ q, q < 25 → v1 (h+5) q = if q < l ∧ 0 ≤ v (h+3) q then cap (v (h+5) q + gr (cT h v) q) else v (h+5) q) →
      ∃ v2, f_X3_growAll_L h f (nI l) v1 = some (jx_up v2 h 6 (v2 h 6 + 1)) ∧ (∀ c, c ≠ h + 5 → v2 c = v c) ∧ (∀ q, q < 25 → v2 (h+5) q = if 0 ≤ v (h+3) q then cap (v (h+5) q + gr (cT h v) q) else v (h+5) q) := by
    intro d
    induction d with
    | zero =>
      intro l f v1 hl hf h1 h2
      obtain ⟨f, rfl⟩ : ∃ q, f = q + 1 := ⟨f - 1, by omega⟩
      refine ⟨v1, ?_, h1, fun q hq => ?_⟩
      · rw [f_X3_growAll_L, if_pos (by rw [show (25 : Int32) = nI 25 from rfl, pI_le (by omega) (by omega)]; omega)]
      · rw [h2 q hq]; simp only [show q < l by omega, true_and]
    | succ d ih =>
      intro l f v1 hl hf h1 h2
      obtain ⟨f, rfl⟩ : ∃ q, f = q + 1 := ⟨f - 1, by omega⟩
      have hl' : l < 25 := by omega
      rw [f_X3_growAll_L, if_neg (by rw [show (25 : Int32) = nI 25 from rfl, pI_le (by omega) (by omega)]; omega), x_taken hl', Option.bind_some, h1 (h+3) (by omega)]
      have eg : gr (cT h v1) l = gr (cT h v) l := by
        unfold gr
        rw [cK hl', cK hl', h1 (h+3) (by omega), show (cT h v1).m = v1 h 6 from rfl, show (cT h v).m = v h 6 from rfl, h1 h (by omega)]
      by_cases c : v (h+3) l < 0
      · simp only [if_pos c, z00, if_true, nI_add1]
        refine ih (l+1) f v1 (by omega) (by omega) h1 (fun q hq => ?_)
        rw [h2 q hq]
        by_cases e : q = l
        · subst e; simp [Int32.not_le.mpr c]
        · simp only [show (q < l + 1) = (q < l) by simp; omega]
      · simp only [if_neg c, o10, if_false, x_growth hl', Option.bind_some, j_min9, tn (show l < 2147483648 by omega), ib hl' (by omega), nI_add1, eg]
        refine ih (l+1) f _ (by omega) (by omega) (fun q hq => by rw [jx_up_ne hq]; exact h1 q hq) (fun q hq => ?_)
        rw [up_g]
        by_cases e : q = l
        · subst e
          rw [if_pos ⟨rfl, rfl⟩, if_pos ⟨by omega, Int32.not_lt.mp c⟩, h2 q hq, if_neg (by omega)]
        · rw [if_neg (by omega), h2 q hq]
          simp only [show (q < l + 1) = (q < l) by simp; omega]
  obtain ⟨v2, e, h1, h2⟩ := this 25 0 100000 v (by omega) (by omega) (fun _ _ => rfl) (fun q _ => by rw [if_neg (by omega)])
  refine ⟨_, e, fun c hc hc5 => by rw [jx_up_ne hc]; exact h1 c hc5, ?_⟩
  have eK : (jx_up v2 h 6 (v2 h 6 + 1)) (h+3) = v (h+3) := by rw [jx_up_ne (by omega), h1 _ (by omega)]
  have eo : ∀ c, c ≠ h → c ≠ h + 5 → (jx_up v2 h 6 (v2 h 6 + 1)) c = v c := fun c a b => by rw [jx_up_ne a, h1 c b]
  have en : (jx_up v2 h 6 (v2 h 6 + 1)) h 5 = v h 5 := by rw [up_g, if_neg (by omega), h1 h (by omega)]
  refine Tx ?_ ?_ ?_ ?_ ?_ ?_ ?_ ?_ en ?_ ?_
  · funext l; show (if l < 25 then _ else _) = (if l < 25 then v (h+3) l else -1); rw [eK]
  · funext l; show (if l < 25 ∧ 0 ≤ _ then _ else _) = (if l < 25 ∧ 0 ≤ v (h+3) l then v (h+4) l else 0); rw [eK, eo (h+4) (by omega) (by omega)]
  · funext l
    show (if l < 25 ∧ 0 ≤ _ then _ else _) = (if l < 25 ∧ 0 ≤ (cT h v).K l then cap ((cT h v).H l + gr (cT h v) l) else 0)
    rw [eK]
    by_cases hl : l < 25
    · rw [cK hl]
      by_cases ht : 0 ≤ v (h+3) l
      · rw [if_pos ⟨hl, ht⟩, if_pos ⟨hl, ht⟩, jx_up_ne (by omega), h2 l hl, if_pos ht, cH hl ht]
      · simp [ht]
    · simp [hl]
  · funext l; show (if l < 25 ∧ 0 ≤ _ then _ else _) = (if l < 25 ∧ 0 ≤ v (h+3) l then v (h+6) l else 0); rw [eK, eo (h+6) (by omega) (by omega)]
  · funext a i; show (if a < 6 ∧ i < ((jx_up v2 h 6 (v2 h 6 + 1)) h 5).toNatClampNeg then _ else _) = (if a < 6 ∧ i < (v h 5).toNatClampNeg then v (h+7+a) i else 0); rw [en, eo (h+7+a) (by omega) (by omega)]
  · funext l; show (if l < 4 then _ else _) = (if l < 4 then v (h+13) l else 0); rw [eo (h+13) (by omega) (by omega)]
  · funext l; show (if l < 4 then _ else _) = (if l < 4 then v (h+14) l else 0); rw [eo (h+14) (by omega) (by omega)]
  · funext l; show (if l < 10 then _ else _) = (if l < 10 then v (h+15) l else 0); rw [eo (h+15) (by omega) (by omega)]
  · show (jx_up v2 h 6 (v2 h 6 + 1)) h 6 = v h 6 + 1; rw [up_s, h1 h (by omega)]
  · show (jx_up v2 h 6 (v2 h 6 + 1)) h 7 = v h 7; rw [up_g, if_neg (by omega), h1 h (by omega)]
theorem grow_HF {h v v'} (e : ∀ c, c ≠ h → c ≠ h + 5 → v' c = v c) : HF h v v' := fun c _ b => e c (by omega) (by omega)
/-- frame of a month of the reference -/
def FY (w w' : jx_V) : Prop := (∀ c, c ≠ 0 → c ≠ 1 → c ≠ 5 → c ≠ 6 → w' c = w c) ∧ ∀ i, i ≠ 6 → i ≠ 7 → i ≠ 8 → w' 0 i = w 0 i
theorem FY_r {w} : FY w w := ⟨fun _ _ _ _ _ => rfl, fun _ _ _ _ => rfl⟩
theorem FY_t {u v w} (a : FY u v) (b : FY v w) : FY u w := ⟨fun c x y z t => (b.1 c x y z t).trans (a.1 c x y z t), fun c x y z => (b.2 c x y z).trans (a.2 c x y z)⟩
theorem FM_FY {w w'} (a : FM w w') : FY w w' := ⟨fun c x _ z t => a.1 c x z t, a.2⟩
theorem up_FY {w i x} : FY w (jx_up w 1 i x) := ⟨fun c _ b _ _ => jx_up_ne b, fun i _ _ _ => by rw [jx_up_ne (by omega)]⟩
theorem s7_n {q : Nat} : 7 + nI q = nI (7 + q) := by unfold nI; simp [Int32.ofNat_add]
theorem m_mon0 {r : Int32} {w : jx_V} : ∀ d o f w1, o + d = 4 → (∀ c, c ≠ 1 → w1 c = w c) → (∀ k, w1 1 k = if 7 ≤ k ∧ k < 7 + o then w 1 k + w 6 (k - 7) else w 1 k) →
    ∃ w2, f_X5_month_L (f + d + 1) 0 r (nI o) w1 = f_X5_month_L f 1 r 0 w2 ∧ (∀ c, c ≠ 1 → w2 c = w c) ∧ ∀ k, w2 1 k = if 7 ≤ k ∧ k < 11 then w 1 k + w 6 (k - 7) else w 1 k
  | 0, o, f, w1, ho, h1, h2 => by
    refine ⟨w1, ?_, h1, by rw [show 11 = 7 + o by omega]; exact h2⟩
    rw [f_X5_month_L, if_pos rfl, if_pos (by rw [← n4, pI_le (by omega) (by omega)]; omega)]
  | d + 1, o, f, w1, ho, h1, h2 => by
    obtain ⟨w2, e, g1, g2⟩ := m_mon0 (r := r) (w := w) d (o+1) f (jx_up w1 1 (7+o) (w1 1 (7+o) + w1 6 o)) (by omega) (fun c hc => by rw [jx_up_ne hc]; exact h1 c hc) (fun k => by
      rw [up_g]
      by_cases e : k = 7 + o
      · subst e
        rw [if_pos ⟨rfl, rfl⟩, if_pos (by omega), h2, if_neg (by omega), h1 6 (by omega), show 7 + o - 7 = o by omega]
      · rw [if_neg (by omega), h2 k]
        by_cases c : 7 ≤ k ∧ k < 7 + o
        · rw [if_pos c, if_pos (by omega)]
        · rw [if_neg c, if_neg (by omega)])
    refine ⟨w2, ?_, g1, g2⟩
    rw [show f + (d + 1) + 1 = (f + d + 1) + 1 by omega, f_X5_month_L, if_pos rfl, if_neg (by rw [← n4, pI_le (by omega) (by omega)]; omega)]
    simp only [s7_n, tn (show o < 2147483648 by omega), tn (show 7 + o < 2147483648 by omega), ib (show o < 4 by omega) (by omega), ib (show 7 + o < 181 by omega) (by omega), if_false, nI_add1]
    exact e
theorem m_mon1 {r : Int32} {w : jx_V} : ∀ d l f w1, l + d = 25 → d < f → (∀ c, c ≠ 1 → w1 c = w c) → (∀ k, (∀ q, q < 25 → k ≠ 13 + 4 * q) → w1 1 k = w 1 k) → (∀ q, q < 25 → 0 ≤ w 1 (11 + 4 * q) → w1 1 (13 + 4 * q) = if q < l then cap (w 1 (13 + 4 * q) + gr (mT (w 1)) q) else w 1 (13 + 4 * q)) →
    ∃ w2, f_X5_month_L f 1 r (nI l) w1 = some (r, jx_up w2 1 0 (w 1 0 + 1)) ∧ (∀ c, c ≠ 1 → w2 c = w c) ∧ (∀ k, (∀ q, q < 25 → k ≠ 13 + 4 * q) → w2 1 k = w 1 k) ∧ (∀ q, q < 25 → 0 ≤ w 1 (11 + 4 * q) → w2 1 (13 + 4 * q) = cap (w 1 (13 + 4 * q) + gr (mT (w 1)) q)) := by
  intro d
  induction d with
  | zero =>
    intro l f w1 hl hf h1 h2 h3
    obtain ⟨f, rfl⟩ : ∃ q, f = q + 1 := ⟨f - 1, by omega⟩
    refine ⟨w1, ?_, h1, h2, fun q hq ht => ?_⟩
    · rw [f_X5_month_L, if_neg (by decide), if_pos rfl, if_pos (by rw [show (25 : Int32) = nI 25 from rfl, pI_le (by omega) (by omega)]; omega), h2 0 (fun q _ => by omega)]
    · rw [h3 q hq ht, if_pos (by omega)]
  | succ d ih =>
    intro l f w1 hl hf h1 h2 h3
    obtain ⟨f, rfl⟩ : ∃ q, f = q + 1 := ⟨f - 1, by omega⟩
    have hl' : l < 25 := by omega
    have e11 : w1 1 (11 + 4 * l) = w 1 (11 + 4 * l) := h2 _ (fun q _ => by omega)
    have eg : gr (mT (w1 1)) l = gr (mT (w 1)) l := by
      unfold gr
      rw [mK hl', mK hl', e11, show (mT (w1 1)).m = w1 1 0 from rfl, show (mT (w 1)).m = w 1 0 from rfl, h2 0 (fun q _ => by omega)]
    rw [f_X5_month_L, if_neg (by decide), if_pos rfl, if_neg (by rw [show (25 : Int32) = nI 25 from rfl, pI_le (by omega) (by omega)]; omega)]
    simp only [m_its2 hl', m_thing hl', Option.bind_some, e11, f_X5_at, at2, tn (show 13 + 4 * l < 2147483648 by omega), ib (show 13 + 4 * l < 181 by omega) (by omega), if_false, nI_add1, m_grows hl', eg]
    have st : ∀ x, (0 ≤ w 1 (11 + 4 * l) → x = cap (w 1 (13 + 4 * l) + gr (mT (w 1)) l)) → ∃ w2, f_X5_month_L f 1 r (nI (l+1)) (jx_up w1 1 (13 + 4 * l) x) = some (r, jx_up w2 1 0 (w 1 0 + 1)) ∧ (∀ c, c ≠ 1 → w2 c = w c) ∧ (∀ k, (∀ q, q < 25 → k ≠ 13 + 4 * q) → w2 1 k = w 1 k) ∧ (∀ q, q < 25 → 0 ≤ w 1 (11 + 4 * q) → w2 1 (13 + 4 * q) = cap (w 1 (13 + 4 * q) + gr (mT (w 1)) q)) := by
      intro x hx
      refine ih (l+1) f _ (by omega) (by omega) (fun c hc => by rw [jx_up_ne hc]; exact h1 c hc) (fun k hk => by rw [up_g, if_neg (by have := hk l hl'; omega)]; exact h2 k hk) (fun q hq ht => ?_)
      rw [up_g]
      by_cases e : q = l
      · subst e; rw [if_pos ⟨rfl, rfl⟩, if_pos (by omega)]; exact hx ht
      · rw [if_neg (by omega), h3 q hq ht]; simp only [show (q < l + 1) = (q < l) by simp; omega]
    by_cases c : w 1 (11 + 4 * l) < 0
    · simp only [if_pos c, z00, if_true]
      split <;> exact st _ (fun q => absurd q (Int32.not_le.mpr c))
    · have ht : 0 ≤ w 1 (11 + 4 * l) := Int32.not_lt.mp c
      have e13 : w1 1 (13 + 4 * l) = w 1 (13 + 4 * l) := by rw [h3 l hl' ht, if_neg (by omega)]
      simp only [if_neg c, o10, if_false, e13]
      split
      · rename_i c9; exact st _ (fun _ => by unfold cap; rw [if_pos c9])
      · rename_i c9; exact st _ (fun _ => by unfold cap; rw [if_neg c9])
theorem m_month {w : jx_V} (hT : OK (mT (w 1))) : ∃ w', f_X5_month w = some (rs (mT (w 1)), w') ∧ FY w w' ∧ mT (w' 1) = mon (mT (w 1)) := by
  obtain ⟨N, hN, eN, eN2⟩ := mn hT
  obtain ⟨w1, e1, g1, hg⟩ := m_gains hT
  obtain ⟨w2, e2, a2, b2⟩ := m_mon0 (r := rs (mT (w 1))) (w := w1) 4 0 99995 w1 (by omega) (fun _ _ => rfl) (fun k => by rw [if_neg (by omega)])
  obtain ⟨w3, e3, a3, b3, c3⟩ := m_mon1 (r := rs (mT (w 1))) (w := w2) 25 0 99995 w2 (by omega) (by omega) (fun _ _ => rfl) (fun _ _ => rfl) (fun q _ _ => by rw [if_neg (by omega)])
  have er : w1 1 = w 1 := FM_1 g1
  have b2' : ∀ k, w2 1 k = if 7 ≤ k ∧ k < 11 then w 1 k + gs (mT (w 1)) (k - 7) else w 1 k := by
    intro k
    rw [b2 k, er]
    by_cases c : 7 ≤ k ∧ k < 11
    · rw [if_pos c, if_pos c, hg (k-7) (by omega)]
    · rw [if_neg c, if_neg c]
  refine ⟨jx_up w3 1 0 (w2 1 0 + 1), ?_, ?_, ?_⟩
  · unfold f_X5_month
    rw [e1, Option.bind_some]
    exact e2.trans e3
  · refine FY_t (FM_FY g1) (FY_t ?_ up_FY)
    exact ⟨fun c _ b _ _ => (a3 c b).trans (a2 c b), fun i _ _ _ => by rw [a3 0 (by omega), a2 0 (by omega)]⟩
  · rw [up_c]
    have eK : ∀ l, l < 25 → w2 1 (11 + 4 * l) = w 1 (11 + 4 * l) := fun l hl => by rw [b2', if_neg (by omega)]
    have k3 : ∀ k, k ≠ 0 → (∀ q, q < 25 → k ≠ 13 + 4 * q) → ¬ (7 ≤ k ∧ k < 11) → upd (w3 1) 0 (w2 1 0 + 1) k = w 1 k := fun k h0 h1 h2 => by
      unfold upd; rw [if_neg h0, b3 k h1, b2', if_neg h2]
    have e1' : upd (w3 1) 0 (w2 1 0 + 1) 1 = w 1 1 := k3 1 (by omega) (fun q _ => by omega) (by omega)
    have em2 : (mT (w2 1)).m = (mT (w 1)).m := by show w2 1 0 = w 1 0; rw [b2', if_neg (by omega)]
    refine Tx ?_ ?_ ?_ ?_ ?_ ?_ ?_ ?_ e1' ?_ ?_
    · funext l; show (if l < 25 then _ else _) = (if l < 25 then w 1 (11+4*l) else -1)
      by_cases hl : l < 25
      · rw [if_pos hl, if_pos hl, k3 _ (by omega) (fun q _ => by omega) (by omega)]
      · rw [if_neg hl, if_neg hl]
    · funext l; show (if l < 25 ∧ 0 ≤ upd (w3 1) 0 (w2 1 0 + 1) (11+4*l) then _ else _) = (if l < 25 ∧ 0 ≤ w 1 (11+4*l) then w 1 (12+4*l) else 0)
      rw [k3 (11+4*l) (by omega) (fun q _ => by omega) (by omega), k3 (12+4*l) (by omega) (fun q _ => by omega) (by omega)]
    · funext l
      show (if l < 25 ∧ 0 ≤ upd (w3 1) 0 (w2 1 0 + 1) (11+4*l) then _ else _) = (if l < 25 ∧ 0 ≤ (mT (w 1)).K l then cap ((mT (w 1)).H l + gr (paid (mT (w 1))) l) else 0)
      rw [k3 (11+4*l) (by omega) (fun q _ => by omega) (by omega)]
      by_cases hl : l < 25
      · rw [mK hl]
        by_cases ht : 0 ≤ w 1 (11+4*l)
        · rw [if_pos ⟨hl, ht⟩, if_pos ⟨hl, ht⟩, mH hl ht]
          unfold upd
          rw [if_neg (by omega), c3 l hl (by rw [eK l hl]; exact ht), b2' (13+4*l), if_neg (by omega)]
          have : gr (mT (w2 1)) l = gr (paid (mT (w 1))) l := by
            unfold gr
            rw [em2, mK hl, eK l hl, show (paid (mT (w 1))).K l = (mT (w 1)).K l from rfl, mK hl]; rfl
          rw [this]
        · simp [ht]
      · simp [hl]
    · funext l; show (if l < 25 ∧ 0 ≤ upd (w3 1) 0 (w2 1 0 + 1) (11+4*l) then _ else _) = (if l < 25 ∧ 0 ≤ w 1 (11+4*l) then w 1 (14+4*l) else 0)
      rw [k3 (11+4*l) (by omega) (fun q _ => by omega) (by omega), k3 (14+4*l) (by omega) (fun q _ => by omega) (by omega)]
    · funext a i
      show (if a < 6 ∧ i < (upd (w3 1) 0 (w2 1 0 + 1) 1).toNatClampNeg then _ else _) = (if a < 6 ∧ i < (w 1 1).toNatClampNeg then w 1 (111+6*i+a) else 0)
      rw [e1', k3 (111+6*i+a) (by omega) (fun q _ => by omega) (by omega)]
    · funext l; show (if l < 4 then _ else _) = (if l < 4 then w 1 (3+l) else 0)
      by_cases hl : l < 4
      · rw [if_pos hl, if_pos hl, k3 _ (by omega) (fun q _ => by omega) (by omega)]
      · rw [if_neg hl, if_neg hl]
    · funext l
      show (if l < 4 then upd (w3 1) 0 (w2 1 0 + 1) (7 + l) else _) = (if l < 4 then (if l < 4 then w 1 (7+l) else 0) + gs (mT (w 1)) l else 0)
      by_cases hl : l < 4
      · rw [if_pos hl, if_pos hl, if_pos hl]
        unfold upd
        rw [if_neg (by omega), b3 _ (fun q _ => by omega), b2', if_pos (by omega), show 7 + l - 7 = l by omega]
      · rw [if_neg hl, if_neg hl]
    · funext l; show (if l < 10 then _ else _) = (if l < 10 then w 1 (171+l) else 0)
      rw [k3 (171+l) (by omega) (fun q _ => by omega) (by omega)]
    · show upd (w3 1) 0 (w2 1 0 + 1) 0 = w 1 0 + 1
      unfold upd; rw [if_pos rfl, b2' 0, if_neg (by omega)]
    · show upd (w3 1) 0 (w2 1 0 + 1) 2 = w 1 2
      exact k3 2 (by omega) (fun q _ => by omega) (by omega)

def mit (T : Tn) : Nat → Tn
  | 0 => T
  | k + 1 => mon (mit T k)
def mss (T : Tn) : Nat → Int32
  | 0 => 0
  | k + 1 => mss T k + rs (mit T k)
def git (T : Tn) : Nat → Tn
  | 0 => T
  | k + 1 => grow (git T k)
theorem OK_mit {T} (hT : OK T) : ∀ k, OK (mit T k)
  | 0 => hT
  | k + 1 => OK_mon (OK_mit hT k)
theorem OK_git {T} (hT : OK T) : ∀ k, OK (git T k)
  | 0 => hT
  | k + 1 => OK_grow (OK_git hT k)
theorem x_pass {h n : Nat} {v : jx_V} (hh : h + 15 < 50) (hn : n ≤ 1000) (hT : OK (cT h v)) : ∃ v', f_X4_passMonths h (nI n) v = some (mss (cT h v) n, v') ∧ HF h v v' ∧ cT h v' = mit (cT h v) n := by
  have : ∀ d k f v1, k + d = n → d < f → HF h v v1 → cT h v1 = mit (cT h v) k → ∃ v', f_X4_passMonths_L h f (nI n) (mss (cT h v) k) (nI k) v1 = some (mss (cT h v) n, v') ∧ HF h v v' ∧ cT h v' = mit (cT h v) n := by
    intro d
    induction d with
    | zero =>
      intro k f v1 hk hf h1 h2
      obtain ⟨f, rfl⟩ : ∃ q, f = q + 1 := ⟨f - 1, by omega⟩
      refine ⟨v1, ?_, h1, by rw [← show k = n by omega]; exact h2⟩
      rw [f_X4_passMonths_L, if_pos (by rw [pI_le (by omega) (by omega)]; omega), show k = n by omega]
    | succ d ih =>
      intro k f v1 hk hf h1 h2
      obtain ⟨f, rfl⟩ : ∃ q, f = q + 1 := ⟨f - 1, by omega⟩
      obtain ⟨v2, e2, g2, t2⟩ := x_payAll (v := v1) hh (by rw [h2]; exact OK_mit hT k)
      obtain ⟨v3, e3, g3, t3⟩ := x_grow (h := h) (v := v2)
      obtain ⟨v', e', h', t'⟩ := ih (k+1) f v3 (by omega) (by omega) (HF_t h1 (HF_t (fun c a b => g2 c a (by omega)) (grow_HF g3))) (by rw [t3, t2, h2]; rfl)
      refine ⟨v', ?_, h', t'⟩
      rw [f_X4_passMonths_L, if_neg (by rw [pI_le (by omega) (by omega)]; omega), e2]
      simp only [Option.bind_some, e3, nI_add1]
      rw [h2]
      exact e'
  exact this n 0 100000 v (by omega) (by omega) HF_r rfl
theorem m_pass {n : Nat} {w : jx_V} (hn : n ≤ 1000) (hT : OK (mT (w 1))) : ∃ w', f_X5_monthsGo (nI n) w = some (mss (mT (w 1)) n, w') ∧ FY w w' ∧ mT (w' 1) = mit (mT (w 1)) n := by
  have : ∀ d k f w1, k + d = n → d < f → FY w w1 → mT (w1 1) = mit (mT (w 1)) k → ∃ w', f_X5_monthsGo_L f (nI n) (mss (mT (w 1)) k) (nI k) w1 = some (mss (mT (w 1)) n, w') ∧ FY w w' ∧ mT (w' 1) = mit (mT (w 1)) n := by
    intro d
    induction d with
    | zero =>
      intro k f v1 hk hf h1 h2
      obtain ⟨f, rfl⟩ : ∃ q, f = q + 1 := ⟨f - 1, by omega⟩
      refine ⟨v1, ?_, h1, by rw [← show k = n by omega]; exact h2⟩
      rw [f_X5_monthsGo_L, if_pos (by rw [pI_le (by omega) (by omega)]; omega), show k = n by omega]
    | succ d ih =>
      intro k f v1 hk hf h1 h2
      obtain ⟨f, rfl⟩ : ∃ q, f = q + 1 := ⟨f - 1, by omega⟩
      obtain ⟨v2, e2, g2, t2⟩ := m_month (w := v1) (by rw [h2]; exact OK_mit hT k)
      obtain ⟨v', e', h', t'⟩ := ih (k+1) f v2 (by omega) (by omega) (FY_t h1 g2) (by rw [t2, h2]; rfl)
      refine ⟨v', ?_, h', t'⟩
      rw [f_X5_monthsGo_L, if_neg (by rw [pI_le (by omega) (by omega)]; omega), e2]
      simp only [Option.bind_some, nI_add1]
      rw [h2]
      exact e'
  exact this n 0 100000 w (by omega) (by omega) FY_r rfl
theorem R_HF {v w v' w' T} (h : R v w) (a : HF 1 v v') (b : FY w w') (e1 : cT 1 v' = T) (e2 : mT (w' 1) = T) (hT : OK T) : R v' w' :=
  R_town h (fun c hc => a c (by omega) (by omega)) (by rw [a 53 (by omega) (by omega)]) (fun c hc => b.1 c (by omega) (by omega) (by omega) (by omega)) (b.2 4 (by omega) (by omega) (by omega)) (b.2 12 (by omega) (by omega) (by omega)) e1 e2 hT
theorem q_months {v w a} (h : R v w) : Q (f_X4_months a v) (f_X5_months a w) := by
  unfold f_X4_months f_X5_months f_X5_isTooLate
  simp only [m_in_1_60, Option.bind_some, x_f0, m_f0, x_f4, m_f4]
  by_cases c1 : 1 ≤ a ∧ a ≤ 60
  · obtain ⟨n, hn, rfl⟩ := ix (n := 60) rfl (by omega) ⟨by grind, c1.2⟩
    rw [if_neg (by grind), if_pos c1.2]
    simp only [if_pos c1, o10, if_false, tkm h]
    by_cases c2 : w 1 0 + nI n ≤ 999
    · simp only [if_pos c2, z00, if_true, Option.bind_some]
      obtain ⟨v', e1, g1, t1⟩ := x_pass (h := 1) (n := n) (by omega) (by omega) h.ok
      obtain ⟨w', e2, g2, t2⟩ := m_pass (n := n) (by omega) h.ok'
      simp only [e1, e2, Option.bind_some]
      rw [h.t]
      exact Q_i (R_HF h g1 g2 t1 (by rw [t2, h.t]) (OK_mit h.ok n))
    · simp only [if_neg c2, o10, if_false, Option.bind_some]; exact Q_f h
  · simp only [if_neg c1, z00, if_true]
    by_cases c3 : a < 1
    · rw [if_pos c3]; exact Q_f h
    · rw [if_neg c3, if_neg (by grind)]; exact Q_f h
