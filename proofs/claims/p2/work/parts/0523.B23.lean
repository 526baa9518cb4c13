theorem i10 : ¬ (1 : Int32) = 0 := by decide
theorem i00 : (0 : Int32) = 0 := rfl
theorem pI_add (a b : Nat) : nI a + nI b = nI (a + b) := by unfold nI; simp [Int32.ofNat_add]
theorem nI_sub {a b : Nat} (h : b ≤ a) : nI a - nI b = nI (a - b) := by
  have e : nI a = nI (a - b) + nI b := by rw [pI_add]; congr 1; omega
  rw [e, Int32.add_sub_cancel]
theorem i_sub {b x : Int32} (hb : 0 ≤ b) (hx : 0 ≤ x) : (x - b).toInt = x.toInt - b.toInt := by
  have h1 := Int32.le_iff_toInt_le.mp hb
  have h2 := Int32.le_iff_toInt_le.mp hx
  have h3 := Int32.toInt_lt x
  have h4 := Int32.toInt_lt b
  have z : (0 : Int32).toInt = 0 := rfl
  rw [z] at h1 h2
  rw [Int32.toInt_sub]
  exact Int.bmod_eq_of_le (by omega) (by omega)
theorem le_of_sub {b x e : Int32} (hb : 0 ≤ b) (hx : 0 ≤ x) (he : 0 ≤ e) (h : e ≤ x - b) : b ≤ x := by
  have h1 := Int32.le_iff_toInt_le.mp h
  have h2 := Int32.le_iff_toInt_le.mp he
  rw [i_sub hb hx] at h1
  have z : (0 : Int32).toInt = 0 := rfl
  rw [z] at h2
  exact Int32.le_iff_toInt_le.mpr (by omega)
theorem n41 {x : Int32} {L : Nat} (hL : L ≤ 40) (h0 : 0 ≤ x) (h : x ≤ nI L) : ∃ p, p ≤ L ∧ x = nI p := by
  obtain ⟨p, hp, e⟩ := ix (n := L) rfl (by omega) ⟨h0, h⟩
  exact ⟨p, by omega, e⟩
theorem rg {L : Nat} {b e : Int32} (hL : L ≤ 40) (c : 0 ≤ b ∧ 0 ≤ e ∧ b ≤ nI L ∧ e ≤ nI L - b) : ∃ p n : Nat, b = nI p ∧ e = nI n ∧ p + n ≤ L := by
  obtain ⟨h1, h2, h3, h4⟩ := c
  obtain ⟨p, hp, rfl⟩ := n41 hL h1 h3
  rw [nI_sub hp] at h4
  obtain ⟨n, hn, rfl⟩ := n41 (L := L - p) (by omega) h2 h4
  exact ⟨p, n, rfl, rfl, by omega⟩
theorem x_hr {s : Nat} {b e : Int32} {v : jx_V} (hs : s < 4) : f_X1_hasRange (nI s) b e v = some (if 0 ≤ b ∧ 0 ≤ e ∧ b ≤ v 62 s ∧ e ≤ v 62 s - b then 1 else 0, v) := by
  unfold f_X1_hasRange
  simp only [tn (show s < 2147483648 by omega), ib hs (by omega), if_false]
  by_cases b0 : b < 0
  · rw [if_pos b0, if_neg (fun k => Int32.not_lt.mpr k.1 b0)]
  · rw [if_neg b0]
    by_cases e0 : e < 0
    · rw [if_pos e0, if_neg (fun k => Int32.not_lt.mpr k.2.1 e0)]
    · rw [if_neg e0]
      by_cases l0 : v 62 s < b
      · rw [if_pos l0, if_neg (fun k => Int32.not_lt.mpr k.2.2.1 l0)]
      · rw [if_neg l0]
        by_cases l1 : v 62 s - b < e
        · rw [if_pos l1, if_neg (fun k => Int32.not_lt.mpr k.2.2.2 l1)]
        · rw [if_neg l1, if_pos ⟨Int32.not_lt.mp b0, Int32.not_lt.mp e0, Int32.not_lt.mp l0, Int32.not_lt.mp l1⟩]
theorem cp_if {α : Type} {L M : Nat} {b d e : Int32} {X Y : α} (hL : L ≤ 40) (hM : M ≤ 40) : (if b < 0 then X else if d < 0 then X else if e < 0 then X else if nI L - b < e then X else if e ≤ nI M - d then Y else X) = if (0 ≤ b ∧ 0 ≤ e ∧ b ≤ nI L ∧ e ≤ nI L - b) ∧ (0 ≤ d ∧ 0 ≤ e ∧ d ≤ nI M ∧ e ≤ nI M - d) then Y else X := by
  have pL : 0 ≤ nI L := pI_pos (by omega)
  have pM : 0 ≤ nI M := pI_pos (by omega)
  by_cases b0 : b < 0
  · rw [if_pos b0, if_neg (fun k => Int32.not_lt.mpr k.1.1 b0)]
  · rw [if_neg b0]
    by_cases d0 : d < 0
    · rw [if_pos d0, if_neg (fun k => Int32.not_lt.mpr k.2.1 d0)]
    · rw [if_neg d0]
      by_cases e0 : e < 0
      · rw [if_pos e0, if_neg (fun k => Int32.not_lt.mpr k.1.2.1 e0)]
      · rw [if_neg e0]
        by_cases l1 : nI L - b < e
        · rw [if_pos l1, if_neg (fun k => Int32.not_lt.mpr k.1.2.2.2 l1)]
        · rw [if_neg l1]
          by_cases l2 : e ≤ nI M - d
          · rw [if_pos l2, if_pos ⟨⟨Int32.not_lt.mp b0, Int32.not_lt.mp e0, le_of_sub (Int32.not_lt.mp b0) pL (Int32.not_lt.mp e0) (Int32.not_lt.mp l1), Int32.not_lt.mp l1⟩, Int32.not_lt.mp d0, Int32.not_lt.mp e0, le_of_sub (Int32.not_lt.mp d0) pM (Int32.not_lt.mp e0) l2, l2⟩]
          · rw [if_neg l2, if_neg (fun k => l2 k.2.2.2.2)]
theorem f40b {s p i : Nat} : 40 * nI s + nI p + nI i = nI (40 * s + p + i) := by rw [f40, pI_add]
theorem m_cp0 {s p n : Nat} {x3 x4 : Int32} {w : jx_V} (hs : s < 4) (hpn : p + n ≤ 40) : ∀ d i f w1, i + d = n → (∀ c, c ≠ 12 → w1 c = w c) → (∀ k, k < i → w1 12 k = w 11 (40 * s + p + k)) →
    ∃ w2, f_X5_copy_L (f+d+1) 0 (nI s) (nI p) x3 x4 (nI n) (nI i) w1 = f_X5_copy_L f 1 (nI s) (nI p) x3 x4 (nI n) 0 w2 ∧ (∀ c, c ≠ 12 → w2 c = w c) ∧ ∀ k, k < n → w2 12 k = w 11 (40 * s + p + k) := by
  intro d
  induction d with
  | zero =>
    intro i f w1 hi h1 h2
    obtain rfl : i = n := by omega
    refine ⟨w1, ?_, h1, h2⟩
    rw [f_X5_copy_L, if_pos rfl, if_pos (Int32.le_refl _)]
  | succ d ih =>
    intro i f w1 hi h1 h2
    obtain ⟨w2, e, r1, r2⟩ := ih (i+1) f (jx_up w1 12 i (w1 11 (40 * s + p + i))) (by omega) (fun c hc => by rw [jx_up_ne hc]; exact h1 c hc) (fun k hk => by
      rw [up_g]
      by_cases x : k = i
      · rw [if_pos ⟨rfl, x⟩, h1 11 (by omega), x]
      · rw [if_neg (by omega)]; exact h2 k (by omega))
    refine ⟨w2, ?_, r1, r2⟩
    rw [← e, show f + (d + 1) + 1 = (f + d + 1) + 1 by omega, f_X5_copy_L, if_pos rfl, if_neg (by rw [pI_le (by omega) (by omega)]; omega)]
    simp only [f40b, tn (show 40 * s + p + i < 2147483648 by omega), ib (show 40 * s + p + i < 160 by omega) (by omega), tn (show i < 2147483648 by omega), ib (show i < 40 by omega) (by omega), if_false, nI_add1]
theorem m_cp1 {t q n : Nat} {x1 x2 : Int32} {w : jx_V} (ht : t < 4) (hqn : q + n ≤ 40) : ∀ d i f w1, i + d = n → d < f → (∀ c, c ≠ 11 → w1 c = w c) → (∀ k, w1 11 k = if 40 * t + q ≤ k ∧ k < 40 * t + q + i then w 12 (k - (40 * t + q)) else w 11 k) →
    ∃ w2, f_X5_copy_L f 1 x1 x2 (nI t) (nI q) (nI n) (nI i) w1 = some (nI n, w2) ∧ (∀ c, c ≠ 11 → w2 c = w c) ∧ ∀ k, w2 11 k = if 40 * t + q ≤ k ∧ k < 40 * t + q + n then w 12 (k - (40 * t + q)) else w 11 k := by
  intro d
  induction d with
  | zero =>
    intro i f w1 hi hf h1 h2
    obtain ⟨f, rfl⟩ : ∃ q, f = q + 1 := ⟨f - 1, by omega⟩
    obtain rfl : i = n := by omega
    refine ⟨w1, ?_, h1, h2⟩
    rw [f_X5_copy_L, if_neg (by omega), if_pos rfl, if_pos (Int32.le_refl _)]
  | succ d ih =>
    intro i f w1 hi hf h1 h2
    obtain ⟨f, rfl⟩ : ∃ q, f = q + 1 := ⟨f - 1, by omega⟩
    rw [f_X5_copy_L, if_neg (by omega), if_pos rfl, if_neg (by rw [pI_le (by omega) (by omega)]; omega)]
    simp only [f40b, tn (show 40 * t + q + i < 2147483648 by omega), ib (show 40 * t + q + i < 160 by omega) (by omega), tn (show i < 2147483648 by omega), ib (show i < 40 by omega) (by omega), if_false, nI_add1]
    refine ih (i+1) f _ (by omega) (by omega) (fun c hc => by rw [jx_up_ne hc]; exact h1 c hc) (fun k => ?_)
    rw [up_g, h1 12 (by omega)]
    by_cases e : k = 40 * t + q + i
    · rw [if_pos ⟨rfl, e⟩, if_pos (by omega)]; congr 1; omega
    · rw [if_neg (by omega), h2 k]
      by_cases x : 40 * t + q ≤ k ∧ k < 40 * t + q + i
      · rw [if_pos x, if_pos (by omega)]
      · rw [if_neg x, if_neg (by omega)]
theorem R_cp {v w w' : jx_V} {s t p q n : Nat} (h : R v w) (hs : s < 4) (ht : t < 4) (hp : p + n ≤ 40) (hq : q + n ≤ 40) (a1 : ∀ c, c ≠ 11 → c ≠ 12 → w' c = w c) (a2 : ∀ k, w' 11 k = if 40 * t + q ≤ k ∧ k < 40 * t + q + n then w 11 (40 * s + p + (k - (40 * t + q))) else w 11 k) :
    R (jx_set v (57 + t) (va_cpy (v (57 + s)) (v (57 + t)) p q n)) w' := by
  refine R_sh h (fun c hc => ?_) ?_ (fun c hc => a1 c (by omega) (by omega)) (by rw [a1 0 (by omega) (by omega)]) (by rw [a1 0 (by omega) (by omega)]) (fun r hr => ?_)
  · rw [set_g, if_neg (by omega)]
  · rw [set_g, if_neg (by omega)]
  · have hr' := h.s r hr
    rw [set_g, if_neg (by omega), set_g, if_neg (by omega), a1 9 (by omega) (by omega), a1 10 (by omega) (by omega)]
    refine ⟨hr'.1, hr'.2.1, hr'.2.2.1, fun i hi => ?_⟩
    rw [set_g, a2]
    by_cases e : r = t
    · subst e
      rw [if_pos rfl]
      unfold va_cpy
      by_cases x : q ≤ i ∧ i < q + n
      · rw [if_pos x, if_pos (by omega), (h.s s hs).2.2.2 _ (by omega)]; congr 1; omega
      · rw [if_neg x, if_neg (by omega)]; exact hr'.2.2.2 i hi
    · rw [if_neg (by omega), if_neg (by omega)]; exact hr'.2.2.2 i hi
theorem q_copy {v w a b c d e} (h : R v w) : Q (f_X4_copy a b c d e v) (f_X5_copy a b c d e w) := by
  unfold f_X4_copy f_X5_copy
  generalize hF : (100000 : Nat) = F
  simp only [x_w4, m_isOne, Option.bind_some, x_f0, m_f0, x_f5, m_f5, x_f2, m_f2]
  by_cases c1 : 0 ≤ a ∧ a ≤ 3
  · obtain ⟨s, hs, rfl⟩ := ix (n := 3) rfl (by omega) c1
    by_cases c2 : 0 ≤ c ∧ c ≤ 3
    · obtain ⟨t, ht, rfl⟩ := ix (n := 3) rfl (by omega) c2
      obtain ⟨e61, e62, ⟨L, hL, eL⟩, es⟩ := h.s s hs
      obtain ⟨f61, f62, ⟨M, hM, eM⟩, et⟩ := h.s t ht
      have gL : w 10 s = nI L := e62 ▸ eL
      have gM : w 10 t = nI M := f62 ▸ eM
      simp only [if_pos c1, if_pos c2, o10, if_false, x_miss hs, x_miss ht, x_hr hs, x_hr ht, Option.bind_some, tn (show s < 2147483648 by omega), tn (show t < 2147483648 by omega), ib hs (show 4 ≤ 100000 by omega), ib ht (show 4 ≤ 100000 by omega), e61, f61, eL, eM, gL, gM, cp_if hL hM]
      by_cases m0 : w 9 s = 0
      · simp only [if_pos m0, o10, if_false]; exact Q_f h
      · simp only [if_neg m0, z00, if_true]
        by_cases m1 : w 9 t = 0
        · simp only [if_pos m1, o10, if_false]; exact Q_f h
        · simp only [if_neg m1, z00, if_true]
          by_cases m2 : w 9 s = w 9 t
          · rw [if_pos m2, if_pos m2]
            by_cases r1 : 0 ≤ b ∧ 0 ≤ e ∧ b ≤ nI L ∧ e ≤ nI L - b
            · rw [if_pos r1, if_neg i10]
              by_cases r2 : 0 ≤ d ∧ 0 ≤ e ∧ d ≤ nI M ∧ e ≤ nI M - d
              · rw [if_pos r2, if_neg i10, if_pos (And.intro r1 r2)]
                obtain ⟨p, n, rfl, rfl, hpn⟩ := rg hL r1
                obtain ⟨q, n', rfl, en, hqn⟩ := rg hM r2
                have en' : n = n' := by rw [pI_eq (by omega) (by omega)] at en; exact en
                subst en'
                rw [tn (show p < 2147483648 by omega), tn (show q < 2147483648 by omega), tn (show n < 2147483648 by omega), if_neg (fun k => k ⟨nI_neg (by omega), nI_neg (by omega), nI_neg (by omega), by omega, by omega⟩)]
                obtain ⟨F', eF⟩ : ∃ F', F = F' + n + 1 := ⟨F - n - 1, by omega⟩
                obtain ⟨w2, g1, g2, g3⟩ := m_cp0 (s := s) (p := p) (n := n) (x3 := nI t) (x4 := nI q) (w := w) hs (by omega) n 0 F' w (by omega) (fun _ _ => rfl) (fun k hk => by omega)
                obtain ⟨w3, k1, k2, k3⟩ := m_cp1 (t := t) (q := q) (n := n) (x1 := nI s) (x2 := nI p) (w := w2) ht (by omega) n 0 F' w2 (by omega) (by omega) (fun _ _ => rfl) (fun k => by rw [if_neg (by omega)])
                rw [eF, show (0 : Int32) = nI 0 from rfl, g1, show (0 : Int32) = nI 0 from rfl, k1]
                refine Q_i (R_cp h hs ht (by omega) (by omega) (fun c x y => by rw [k2 c x, g2 c y]) (fun k => ?_))
                rw [k3 k]
                by_cases x : 40 * t + q ≤ k ∧ k < 40 * t + q + n
                · rw [if_pos x, if_pos x, g3 _ (by omega)]
                · rw [if_neg x, if_neg x, g2 11 (by omega)]
              · rw [if_neg r2, if_pos i00, if_neg (show ¬ ((0 ≤ b ∧ 0 ≤ e ∧ b ≤ nI L ∧ e ≤ nI L - b) ∧ (0 ≤ d ∧ 0 ≤ e ∧ d ≤ nI M ∧ e ≤ nI M - d)) from fun k => r2 k.2)]; exact Q_f h
            · rw [if_neg r1, if_pos i00, if_neg (show ¬ ((0 ≤ b ∧ 0 ≤ e ∧ b ≤ nI L ∧ e ≤ nI L - b) ∧ (0 ≤ d ∧ 0 ≤ e ∧ d ≤ nI M ∧ e ≤ nI M - d)) from fun k => r1 k.1)]; exact Q_f h
          · rw [if_neg m2, if_neg m2]; exact Q_f h
    · simp only [if_pos c1, if_neg c2, o10, z00, if_true, if_false]; exact Q_f h
  · simp only [if_neg c1, z00, if_true]; exact Q_f h
theorem R_tp {v w v' w'} (h : R v w) (a : ∀ c, c ≠ 53 → c ≠ 54 → v' c = v c) (b : ∀ c, c ≠ 0 → c ≠ 8 → w' c = w c) (b2 : w' 0 4 = w 0 4) (tl : v' 53 1 = w' 0 12) (tr : ∃ L, L ≤ 120 ∧ v' 53 1 = nI L) (tb : ∀ i, i < 120 → v' 54 i = w' 8 i) : R v' w' := by
  have e1 : cT 1 v' = cT 1 v := cT_congr (fun c _ _ => a c (by omega) (by omega))
  have e17 : cT 17 v' = cT 17 v := cT_congr (fun c _ _ => a c (by omega) (by omega))
  refine R.mk ?_ ?_ ?_ ?_ ?_ tl tr tb ?_
  · rw [e1, b 1 (by omega) (by omega)]; exact h.t
  · rw [e1]; exact h.ok
  · rw [a 0 (by omega) (by omega), b2]; exact h.k
  · rw [a 0 (by omega) (by omega)]; exact h.kb
  · rw [a 0 (by omega) (by omega), e17, b 2 (by omega) (by omega)]; exact h.kt
  · intro s hs
    rw [a 61 (by omega) (by omega), a 62 (by omega) (by omega), a (57+s) (by omega) (by omega), b 9 (by omega) (by omega), b 10 (by omega) (by omega), b 11 (by omega) (by omega)]
    exact h.s s hs
theorem byt_b : ∀ i, i < 32 → 8 ≤ i → (255#32).getLsbD i = false := by decide
theorem byt_k (x : BitVec 32) (k : Nat) (hk : k ≤ 24) : (x >>> k) &&& 255#32 = (x.sshiftRight k) &&& 255#32 := by
  apply BitVec.eq_of_getLsbD_eq
  intro i hi
  rw [BitVec.getLsbD_and, BitVec.getLsbD_and, BitVec.getLsbD_ushiftRight, BitVec.getLsbD_sshiftRight]
  by_cases c : i < 8
  · rw [if_pos (by omega), show decide (32 ≤ i) = false from decide_eq_false (by omega), Bool.not_false, Bool.true_and]
  · rw [byt_b i hi (by omega), Bool.and_false, Bool.and_false]
theorem byt0 (x : Int32) : ((Int32.toUInt32 x >>> (Int32.toUInt32 (8 * nI 0) &&& Int32.toUInt32 31)).toInt32 &&& 255) = ((x >>> ((8 * nI 0) &&& 31)) &&& 255) := Int32.toBitVec_inj.mp (byt_k x.toBitVec 0 (by omega))
theorem byt1 (x : Int32) : ((Int32.toUInt32 x >>> (Int32.toUInt32 (8 * nI 1) &&& Int32.toUInt32 31)).toInt32 &&& 255) = ((x >>> ((8 * nI 1) &&& 31)) &&& 255) := Int32.toBitVec_inj.mp (byt_k x.toBitVec 8 (by omega))
theorem byt2 (x : Int32) : ((Int32.toUInt32 x >>> (Int32.toUInt32 (8 * nI 2) &&& Int32.toUInt32 31)).toInt32 &&& 255) = ((x >>> ((8 * nI 2) &&& 31)) &&& 255) := Int32.toBitVec_inj.mp (byt_k x.toBitVec 16 (by omega))
theorem byt3 (x : Int32) : ((Int32.toUInt32 x >>> (Int32.toUInt32 (8 * nI 3) &&& Int32.toUInt32 31)).toInt32 &&& 255) = ((x >>> ((8 * nI 3) &&& 31)) &&& 255) := Int32.toBitVec_inj.mp (byt_k x.toBitVec 24 (by omega))
theorem byt (x : Int32) {i : Nat} (hi : i < 4) : ((Int32.toUInt32 x >>> (Int32.toUInt32 (8 * nI i) &&& Int32.toUInt32 31)).toInt32 &&& 255) = ((x >>> ((8 * nI i) &&& 31)) &&& 255) := by
  have : i = 0 ∨ i = 1 ∨ i = 2 ∨ i = 3 := by omega
  rcases this with rfl | rfl | rfl | rfl
  · exact byt0 x
  · exact byt1 x
  · exact byt2 x
  · exact byt3 x
theorem feed_L {x1 x2 y2 : Int32} : ∀ i f f' v w L, i ≤ 4 → i < f → i < f' → R v w → v 53 1 = nI L → L + i ≤ 120 → Q (f_X4_feed_L f x1 x2 (nI i - 1) v) (f_X5_feed_L f' x1 y2 (nI i - 1) w) := by
  intro i
  induction i with
  | zero =>
    intro f f' v w L _ hf hf' h _ _
    obtain ⟨f, rfl⟩ : ∃ q, f = q + 1 := ⟨f - 1, by omega⟩
    obtain ⟨f', rfl⟩ : ∃ q, f' = q + 1 := ⟨f' - 1, by omega⟩
    rw [f_X4_feed_L, f_X5_feed_L, if_pos (by decide), if_pos (by decide), h.tl]
    exact Q_i h
  | succ i ih =>
    intro f f' v w L hi hf hf' h eL hL
    obtain ⟨f, rfl⟩ : ∃ q, f = q + 1 := ⟨f - 1, by omega⟩
    obtain ⟨f', rfl⟩ : ∃ q, f' = q + 1 := ⟨f' - 1, by omega⟩
    have eL' : w 0 12 = nI L := h.tl ▸ eL
    rw [f_X4_feed_L, f_X5_feed_L, show nI (i+1) - 1 = nI i by rw [← nI_add1, Int32.add_sub_cancel], if_neg (nI_neg (by omega)), if_neg (nI_neg (by omega)), show nI i + (-1) = nI i - 1 by rw [Int32.sub_eq_add_neg], byt x1 (show i < 4 by omega)]
    generalize ((x1 >>> ((8 * nI i) &&& 31)) &&& 255) = y
    unfold f_X2_append
    rw [eL, eL', if_neg (show ¬ 120 ≤ nI L by rw [show (120 : Int32) = nI 120 from rfl, pI_le (by omega) (by omega)]; omega)]
    simp only [tn (show L < 2147483648 by omega), ib (show L < 120 by omega) (by omega), if_false, Option.bind_some]
    have u1 : jx_up v 54 L y 53 1 = nI L := by rw [jx_up_ne (by omega)]; exact eL
    have u2 : jx_up w 8 L y 0 12 = nI L := by rw [jx_up_ne (by omega)]; exact eL'
    rw [u1, u2, nI_add1]
    refine ih f f' _ _ (L+1) (by omega) (by omega) (by omega) (R_tp h (fun c a b => by rw [jx_up_ne a, jx_up_ne b]) (fun c a b => by rw [jx_up_ne a, jx_up_ne b]) ?_ ?_ ⟨L+1, by omega, up_s⟩ (fun k hk => ?_)) up_s (by omega)
    · rw [up_g, if_neg (by omega), jx_up_ne (by omega)]
    · rw [up_s, up_s]
    · simp only [up_g]
      by_cases e : k = L
      · simp [e]
      · simp [e, h.tb k hk]
theorem q_feed {v w a b} (h : R v w) : Q (f_X4_feed a b v) (f_X5_feed a b w) := by
  unfold f_X4_feed f_X5_feed
  generalize hF : (100000 : Nat) = F
  simp only [m_in_1_4, Option.bind_some, x_f0, m_f0, x_f1, m_f1]
  by_cases c0 : b < 1
  · have n1 : ¬ (1 ≤ b ∧ b ≤ 4) := fun k => Int32.not_lt.mpr k.1 c0
    simp only [if_pos c0, if_neg n1, z00, if_true]; exact Q_f h
  · rw [if_neg c0]
    by_cases c1 : b ≤ 4
    · have c2 : 1 ≤ b ∧ b ≤ 4 := ⟨Int32.not_lt.mp c0, c1⟩
      obtain ⟨n, hn, rfl⟩ := ix (n := 4) rfl (by omega) ⟨by grind, c1⟩
      obtain ⟨L, hL, eL⟩ := h.tr
      rw [if_pos c1, if_pos c2, if_neg i10, ← h.tl, eL, pI_add]
      by_cases c3 : nI (L + n) ≤ 120
      · rw [if_pos c3, if_pos c3]
        rw [show (120 : Int32) = nI 120 from rfl, pI_le (by omega) (by omega)] at c3
        exact feed_L n F F v w L (by omega) (by omega) (by omega) h eL c3
      · rw [if_neg c3, if_neg c3]; exact Q_f h
    · have n1 : ¬ (1 ≤ b ∧ b ≤ 4) := fun k => c1 k.2
      simp only [if_neg c1, if_neg n1, z00, if_true]; exact Q_f h
