def XF (v v' : jx_V) : Prop := ∀ c, c ≠ 53 → v' c = v c
def MF (w w' : jx_V) : Prop := (∀ c, c ≠ 0 → w' c = w c) ∧ ∀ j, j < 13 → w' 0 j = w 0 j
theorem XF_r {v} : XF v v := fun _ _ => rfl
theorem XF_t {u v w} (a : XF u v) (b : XF v w) : XF u w := fun c h => (b c h).trans (a c h)
theorem MF_r {v} : MF v v := ⟨fun _ _ => rfl, fun _ _ => rfl⟩
theorem MF_t {u v w} (a : MF u v) (b : MF v w) : MF u w := ⟨fun c h => (b.1 c h).trans (a.1 c h), fun c h => (b.2 c h).trans (a.2 c h)⟩
theorem MF_u {w j x} (h : 13 ≤ j) : MF w (jx_up w 0 j x) := ⟨fun c hc => jx_up_ne hc, fun i hi => by rw [up_g, if_neg (by omega)]⟩
theorem XF_u {v j x} : XF v (jx_up v 53 j x) := fun c hc => jx_up_ne hc
theorem m1n : ¬ (0 : Int32) ≤ -1 := by decide
theorem PR_15 {B L g b v w x} (p : PR B L g b v w) : PR B L g b v (jx_up w 0 15 x) := by
  obtain ⟨h1, h2, h3, h4, h5, h6, h7, h8, h9, h10, h11⟩ := p
  refine ⟨h1, TM_up h2 (by omega), h3, h4, ?_, h6, h7, ?_, h9, fun q => ⟨(h10 q).1, ?_⟩, fun q => ⟨(h11 q).1, ?_⟩⟩
  · rw [up_g, if_neg (by omega)]; exact h5
  · rw [up_g, if_neg (by omega)]; exact h8
  · rw [up_g, if_neg (by omega)]; exact (h10 q).2
  · rw [up_g, if_neg (by omega)]; exact (h11 q).2
theorem n_bad {w : jx_V} (x : Int32) (h : w 0 16 = 1) : f_X5_needs x w = some (jx_up w 0 16 1) := by
  unfold f_X5_needs
  rw [if_neg (by rw [h]; decide), if_neg (by rw [up_s]; decide)]
theorem n_0 {w : jx_V} (h : w 0 16 = 0) : f_X5_needs 0 w = some (jx_up w 0 16 1) := by
  unfold f_X5_needs
  rw [if_pos h, if_pos rfl, if_neg (by rw [up_s]; decide)]
theorem n_1 {w : jx_V} (h : w 0 16 = 0) : f_X5_needs 1 w = f_X5_token w := by
  unfold f_X5_needs
  rw [if_pos h, if_neg i10, if_pos up_s, ← h, up_id]
  cases f_X5_token w <;> rfl
theorem step_ok {B L b v w} (p : PR B L true b v w) (s : sr B L b ≠ 4) : ∃ v' w' b', f_X2_nextToken v = some v' ∧ f_X5_needs 1 w = some w' ∧ PR B L true b' v' w' ∧ te B L b ≤ b' ∧ XF v v' ∧ MF w w' ∧ w' 0 15 = w 0 15 := by
  obtain ⟨h1, h2, h3, h4, h5, h6, h7, h8, h9, h10, _⟩ := p
  obtain ⟨t1, t2⟩ := te_r (B := B) h3
  obtain ⟨f6, f16⟩ := h10 rfl
  obtain ⟨v', a1, a2, a3, a4, a5, a6, a7, a8⟩ := x_nxt h1 t2 h7
  obtain ⟨w', b1, b2, b3, b4, b5⟩ := m_nxt h2 t2 (by rw [te_tm s]; exact h8)
  obtain ⟨k1, k2, _⟩ := skb_r (B := B) (L - te B L b) (te B L b)
  have m : MF w w' := ⟨b2, fun j hj => b3 j (by omega) (by omega)⟩
  refine ⟨v', w', skb B (L - te B L b) (te B L b), a1, by rw [n_1 f16]; exact b1, ⟨⟨h1.1, by rw [a3]; exact h1.2.1, fun i hi => by rw [a2 54 (by omega)]; exact h1.2.2 i hi⟩, ⟨h2.1, by rw [m.2 12 (by omega)]; exact h2.2.1, fun i hi => by rw [b2 8 (by omega)]; exact h2.2.2 i hi⟩, by omega, a5, b4, a6, a7, b5, a8, fun _ => ⟨by rw [a4]; exact f6, by rw [b3 16 (by omega) (by omega)]; exact f16⟩, fun q => absurd q (by decide)⟩, k1, a2, m, b3 15 (by omega) (by omega)⟩
theorem PR_f {B L b v w} (p : PR B L false b v w) : f_X2_failHere v = some v ∧ 0 ≤ v 53 6 := by
  obtain ⟨h1, h2, h3, h4, h5, h6, h7, h8, h9, _, h11⟩ := p
  have hL := h1.1
  have q : 0 ≤ v 53 6 := by rw [(h11 rfl).1]; exact pI_pos (by omega)
  unfold f_X2_failHere
  exact ⟨if_pos q, q⟩
theorem PR_n {B L b v w} (p : PR B L false b v w) : PR B L false b v (jx_up w 0 16 1) := by
  obtain ⟨h1, h2, h3, h4, h5, h6, h7, h8, h9, h10, h11⟩ := p
  refine ⟨h1, TM_up h2 (by omega), h3, h4, ?_, h6, h7, ?_, h9, fun q => absurd q (by decide), fun q => ⟨(h11 q).1, up_s⟩⟩
  · rw [up_g, if_neg (by omega)]; exact h5
  · rw [up_g, if_neg (by omega)]; exact h8
theorem step_bad {B L g b v w} (p : PR B L g b v w) : ∃ v' w', f_X2_failHere v = some v' ∧ f_X5_needs 0 w = some w' ∧ PR B L false b v' w' ∧ XF v v' ∧ MF w w' ∧ w' 0 15 = w 0 15 := by
  cases g with
  | false => exact ⟨v, _, (PR_f p).1, n_bad 0 (p.2.2.2.2.2.2.2.2.2.2 rfl).2, PR_n p, XF_r, MF_u (by omega), by rw [up_g, if_neg (by omega)]⟩
  | true =>
    obtain ⟨h1, h2, h3, h4, h5, h6, h7, h8, h9, h10, h11⟩ := p
    obtain ⟨f6, f16⟩ := h10 rfl
    refine ⟨jx_up v 53 6 (nI b), jx_up w 0 16 1, ?_, n_0 f16, ⟨TX_up h1 (by omega), TM_up h2 (by omega), h3, ?_, ?_, ?_, ?_, ?_, ?_, fun q => absurd q (by decide), fun q => ⟨up_s, up_s⟩⟩, XF_u, MF_u (by omega), by rw [up_g, if_neg (by omega)]⟩
    · unfold f_X2_failHere; rw [if_neg (by rw [f6]; exact m1n), h4]
    · rw [up_g, if_neg (by omega)]; exact h4
    · rw [up_g, if_neg (by omega)]; exact h5
    · rw [up_g, if_neg (by omega)]; exact h6
    · rw [up_g, if_neg (by omega)]; exact h7
    · rw [up_g, if_neg (by omega)]; exact h8
    · rw [up_g, if_neg (by omega)]; exact h9
theorem ibo {c : Prop} [Decidable c] {α : Type} {a b : Option jx_V} {F : jx_V → Option α} : (if c then a.bind F else b.bind F) = (if c then a else b).bind F := by split <;> rfl
theorem mt_1 {B L b k} (h : mt B L b k = true) : sr B L b = 1 := (of_decide_eq_true h).1
theorem tw_f {B L b v w k} (p : PR B L false b v w) : f_X2_takeWord k v = some v := by
  obtain ⟨a, b⟩ := PR_f p
  unfold f_X2_takeWord
  rw [if_pos b, a]; rfl
theorem tn_f {B L b v w x} (p : PR B L false b v w) : f_X2_takeNumber x v = some (0, v) := by
  obtain ⟨a, b⟩ := PR_f p
  unfold f_X2_takeNumber
  rw [if_pos b, a]; rfl
theorem tw {B L g b v w k} (hk : k < 17) (p : PR B L g b v w) : ∃ g' b' v' w', f_X2_takeWord k v = some v' ∧ (∀ x hh, x = Int64.ofNat (cdn.getD k 0) → f_X5_word w = some (hh, w) → (if lg_cmp hh x = 0 then f_X5_needs 1 w else f_X5_needs 0 w) = some w') ∧ PR B L g' b' v' w' ∧ (g' = true → g = true) ∧ b ≤ b' ∧ XF v v' ∧ MF w w' ∧ w' 0 15 = w 0 15 := by
  obtain ⟨h0, e0, c0⟩ := m_word p
  have hw : ∀ hh, f_X5_word w = some (hh, w) → hh = h0 := fun hh q => by rw [e0] at q; injection q with q; injection q with q; exact q.symm
  by_cases c : g = true ∧ mt B L b k = true
  · obtain ⟨rfl, m⟩ := c
    have s1 := mt_1 m
    obtain ⟨v', w', b', e1, e2, p', t, x, y, z⟩ := step_ok p (by rw [s1]; decide)
    have tg := te_gt (B := B) (L := L) (b := b) (Or.inl s1)
    refine ⟨true, b', v', w', ?_, fun q hh eq eh => ?_, p', fun q => q, by omega, x, y, z⟩
    · unfold f_X2_takeWord
      rw [if_neg (by rw [(p.2.2.2.2.2.2.2.2.2.1 rfl).1]; exact m1n), x_isw p hk, Option.bind_some]
      simp only [m, if_true, o10, if_false, e1, Option.bind_some]
    · rw [hw hh eh, if_pos (by rw [c0 k hk q eq]; exact ⟨rfl, m⟩)]; exact e2
  · obtain ⟨v', w', e1, e2, p', x, y, z⟩ := step_bad p
    refine ⟨false, b, v', w', ?_, fun q hh eq eh => ?_, p', fun q => absurd q (by decide), Nat.le_refl _, x, y, z⟩
    · cases g with
      | false =>
        rw [tw_f p]
        rw [(PR_f p).1] at e1
        exact e1
      | true =>
        have m : ¬ mt B L b k = true := fun q => c ⟨rfl, q⟩
        unfold f_X2_takeWord
        rw [if_neg (by rw [(p.2.2.2.2.2.2.2.2.2.1 rfl).1]; exact m1n), x_isw p hk, Option.bind_some]
        simp only [m, if_false, if_true, e1, Option.bind_some]
        rfl
    · rw [hw hh eh, if_neg (by rw [c0 k hk q eq]; exact c)]; exact e2
def rf (B : Nat → Int32) : Nat → Nat → Nat → Nat
  | 0, _, n => n
  | k + 1, i, n => rf B k (i+1) (if 999 < n then n else 10 * n + ((B i).toNatClampNeg - 48))
theorem cf_rf {B} : ∀ k i n, cf B 2 k i (min 1000 n) = min 1000 (rf B k i n)
  | 0, i, n => rfl
  | k + 1, i, n => by
    rw [cf, rf, if_pos rfl, ← cf_rf k (i+1)]
    congr 1
    split <;> omega
theorem m_nl {B L b w lo hi} (h : TM B L w) (hb : b ≤ L) (s : sr B L b = 2) (e14 : w 0 14 = nI (tm B L b)) : ∀ d i f n, i + d = tm B L b → b ≤ i → d < f → n ≤ 9999 →
    ∃ f2 N, f_X5_number_L f lo hi 1 (nI n) (nI i) w = f_X5_number_L (f2 + 1) lo hi 1 (nI N) (nI (tm B L b)) w ∧ N = rf B d i n ∧ N ≤ 9999 := by
  have hL := h.1
  obtain ⟨t1, t2⟩ := tm_r (B := B) hb
  have q := te_tm (B := B) (L := L) (b := b) (by rw [s]; decide)
  intro d
  induction d with
  | zero =>
    intro i f n hi hbi hf hn
    obtain ⟨f, rfl⟩ : ∃ q, f = q + 1 := ⟨f - 1, by omega⟩
    obtain rfl : i = tm B L b := by omega
    exact ⟨f, n, rfl, rfl, hn⟩
  | succ d ih =>
    intro i f n hi hbi hf hn
    obtain ⟨f, rfl⟩ : ∃ q, f = q + 1 := ⟨f - 1, by omega⟩
    obtain ⟨y, y1, y2, ey⟩ := sr2 (tok_s (Or.inr rfl) s i hbi (by omega))
    rw [f_X5_number_L, e14, if_neg (show ¬ nI (tm B L b) ≤ nI i by rw [pI_le (by omega) (by omega)]; omega), if_neg i10, rf, ey, tn (show y < 2147483648 by omega)]
    by_cases c : 999 < n
    · rw [if_neg (show ¬ nI n ≤ 999 by rw [show (999 : Int32) = nI 999 from rfl, pI_le (by omega) (by omega)]; omega), if_pos c, nI_add1]
      exact ih (i+1) f n (by omega) (by omega) (by omega) hn
    · rw [if_pos (show nI n ≤ 999 by rw [show (999 : Int32) = nI 999 from rfl, pI_le (by omega) (by omega)]; omega), if_neg c]
      simp only [tn (show i < 2147483648 by omega), ib (show i < 120 by omega) (show 120 ≤ 100000 by omega), if_false, h.2.2 i (by omega), ey, ten y1, nI_add1]
      exact ih (i+1) f (10 * n + (y - 48)) (by omega) (by omega) (by omega) (by omega)
theorem nm_2 {B L b} (s : sr B L b = 2) : nm B L b = min 1000 (rf B (tm B L b - b) b 0) := by
  unfold nm
  rw [if_pos (Or.inr s), s, te_tm (B := B) (L := L) (b := b) (by rw [s]; decide)]
  exact cf_rf (B := B) (tm B L b - b) b 0
theorem PR_lt {B L b v w lim} (p : PR B L true b v w) (s : sr B L b = 2) (hl : lim ≤ 1000) : (v 53 5 < nI lim) = (rf B (tm B L b - b) b 0 < lim) := by
  obtain ⟨h1, h2, h3, h4, h5, h6, h7, h8, h9, _⟩ := p
  rw [h9, nm_2 s, pI_lt (by omega) (by omega)]
  apply propext; omega
theorem n_aux {dg byt : Int32 → jx_V → Option (Int32 × jx_V)} {nl : Int32 → Int32 → jx_V → Option jx_V} {w : jx_V} {y q x13 : Int32} (h5 : w 0 13 = x13) (hb : byt x13 w = some (y, w)) (hd : dg y w = some (q, w)) : ((byt (w 0 13) w).bind (fun (r2, v2) => (dg r2 v2).bind (fun (r3, v3) => nl r3 (v3 0 13) v3))) = nl q x13 w := by
  rw [h5, hb]; simp only [Option.bind_some, hd, h5]
theorem i_dg {B L b} {w : jx_V} : f_X5_isDigit (bte B L b) w = some (if sr B L b = 2 then 1 else 0, w) := by
  rw [m_isDigit]; simp only [dg_bt]
theorem n_unf {B L b v w x} (p : PR B L true b v w) : f_X5_number 0 x w = f_X5_number_L 100000 0 x (if sr B L b = 2 then 1 else 0) 0 (nI b) w := by
  obtain ⟨h1, h2, h3, h4, h5, h6, h7, h8, h9, h10, _⟩ := p
  obtain ⟨f6, f16⟩ := h10 rfl
  have hL := h1.1
  unfold f_X5_number
  rw [if_pos f16]
  exact n_aux (nl := fun r u v => f_X5_number_L 100000 0 x r 0 u v) h5 (m_byte h2 (by omega)) i_dg
theorem tnm_M {B L b v w lim} (hl : lim ≤ 1000) (hl0 : 0 < lim) (p : PR B L true b v w) (s : sr B L b = 2) : f_X5_number 0 (nI (lim - 1)) w = (if rf B (tm B L b - b) b 0 < lim then f_X5_needs 1 (jx_up w 0 15 (nI (rf B (tm B L b - b) b 0))) else f_X5_needs 0 (jx_up w 0 15 (nI (rf B (tm B L b - b) b 0)))) := by
  have p0 := p
  obtain ⟨h1, h2, h3, h4, h5, h6, h7, h8, h9, h10, _⟩ := p
  obtain ⟨f6, f16⟩ := h10 rfl
  have hL := h1.1
  obtain ⟨t1, t2⟩ := tm_r (B := B) h3
  rw [n_unf p0, if_pos s]
  generalize hF : (100000 : Nat) = F
  obtain ⟨f2, N, e1, eN, hN⟩ := m_nl (lo := 0) (hi := nI (lim - 1)) h2 h3 s h8 (tm B L b - b) b F 0 (by omega) (by omega) (by omega) (by omega)
  rw [← eN]
  rw [show nI 0 = 0 from rfl] at e1
  rw [e1, f_X5_number_L]
  generalize f_X5_needs = nd
  rw [h8, if_pos (Int32.le_refl _), if_neg i10, m_in', Option.bind_some]
  simp only []
  by_cases c : N < lim
  · have c' : 0 ≤ nI N ∧ nI N ≤ nI (lim - 1) := ⟨pI_pos (by omega), by rw [pI_le (by omega) (by omega)]; omega⟩
    rw [if_pos c', if_neg i10, if_pos c]
    cases nd 1 (jx_up w 0 15 (nI N)) <;> rfl
  · have c' : ¬ (0 ≤ nI N ∧ nI N ≤ nI (lim - 1)) := fun k => c (by have := k.2; rw [pI_le (by omega) (by omega)] at this; omega)
    rw [if_neg c', if_pos i00, if_neg c]
    cases nd 0 (jx_up w 0 15 (nI N)) <;> rfl
theorem tnm_X {B L b v w lim} (hl : lim ≤ 1000) (p : PR B L true b v w) (s : sr B L b = 2) : f_X2_takeNumber (nI lim) v = if rf B (tm B L b - b) b 0 < lim then (f_X2_nextToken v).bind (fun v6 => some (nI (rf B (tm B L b - b) b 0), v6)) else (f_X2_failHere v).bind (fun v7 => some (0, v7)) := by
  have pl := PR_lt p s hl
  obtain ⟨h1, h2, h3, h4, h5, h6, h7, h8, h9, h10, _⟩ := p
  obtain ⟨f6, f16⟩ := h10 rfl
  unfold f_X2_takeNumber
  rw [if_neg (by rw [f6]; exact m1n), h6, if_pos s]
  by_cases c : rf B (tm B L b - b) b 0 < lim
  · rw [if_pos (show v 53 5 < nI lim by rw [pl]; exact c), if_pos c, show v 53 5 = nI (rf B (tm B L b - b) b 0) by rw [h9, nm_2 s]; congr 1; omega]
  · rw [if_neg (show ¬ v 53 5 < nI lim by rw [pl]; exact c), if_neg c]
theorem tnm_N {B L b v w x} (p : PR B L true b v w) (s : ¬ sr B L b = 2) : f_X5_number 0 x w = f_X5_needs 0 (jx_up w 0 15 0) := by
  obtain ⟨h1, h2, h3, h4, h5, h6, h7, h8, h9, h10, _⟩ := p
  obtain ⟨f6, f16⟩ := h10 rfl
  have hL := h1.1
  unfold f_X5_number
  generalize hF : (100000 : Nat) = F
  obtain ⟨F', rfl⟩ : ∃ q, F = q + 1 := ⟨F - 1, by omega⟩
  rw [if_pos f16, h5, m_byte h2 (by omega), Option.bind_some]
  simp only [m_isDigit, Option.bind_some, dg_bt, if_neg s]
  rw [f_X5_number_L, if_pos i00, if_pos i00, ite_self]
  cases f_X5_needs 0 (jx_up w 0 15 0) <;> rfl
theorem tnm {B L g b v w lim} (hl : lim ≤ 1000) (hl0 : 0 < lim) (p : PR B L g b v w) : ∃ r g' b' v' w', f_X2_takeNumber (nI lim) v = some (r, v') ∧ f_X5_number 0 (nI (lim - 1)) w = some w' ∧ PR B L g' b' v' w' ∧ (g' = true → g = true ∧ ∃ q, q < lim ∧ r = nI q ∧ w' 0 15 = nI q) ∧ b ≤ b' ∧ XF v v' ∧ MF w w' := by
  cases g with
  | false =>
    refine ⟨0, false, b, v, w, tn_f p, ?_, p, fun q => absurd q (by decide), Nat.le_refl _, XF_r, MF_r⟩
    unfold f_X5_number
    rw [if_neg (by rw [(p.2.2.2.2.2.2.2.2.2.2 rfl).2]; decide)]
  | true =>
    by_cases s : sr B L b = 2
    · rw [tnm_M hl hl0 p s, tnm_X hl p s]
      generalize rf B (tm B L b - b) b 0 = N
      by_cases c : N < lim
      · obtain ⟨v', w', b', k1, k2, k3, k4, k5, k6, k7⟩ := step_ok (PR_15 (x := nI N) p) (by rw [s]; decide)
        have tg := te_gt (B := B) (L := L) (b := b) (Or.inr (Or.inl s))
        refine ⟨nI N, true, b', v', w', ?_, ?_, k3, fun _ => ⟨rfl, N, c, rfl, by rw [k7, up_s]⟩, by omega, k5, MF_t (MF_u (by omega)) k6⟩
        · rw [if_pos c, k1, Option.bind_some]
        · rw [if_pos c]; exact k2
      · obtain ⟨v', w', k1, k2, k3, k5, k6, k7⟩ := step_bad (PR_15 (x := nI N) p)
        refine ⟨0, false, b, v', w', ?_, ?_, k3, fun q => absurd q (by decide), Nat.le_refl _, k5, MF_t (MF_u (by omega)) k6⟩
        · rw [if_neg c, k1, Option.bind_some]
        · rw [if_neg c]; exact k2
    · obtain ⟨v', w', k1, k2, k3, k5, k6, k7⟩ := step_bad (PR_15 (x := 0) p)
      refine ⟨0, false, b, v', w', ?_, ?_, k3, fun q => absurd q (by decide), Nat.le_refl _, k5, MF_t (MF_u (by omega)) k6⟩
      · unfold f_X2_takeNumber
        rw [if_neg (by rw [(p.2.2.2.2.2.2.2.2.2.1 rfl).1]; exact m1n), p.2.2.2.2.2.1, if_neg s, k1, Option.bind_some]
      · rw [tnm_N p s]; exact k2
