theorem i10 : ¬ (1 : Int32) = 0 := by decide
theorem i00 : (0 : Int32) = 0 := rfl
theorem pI_add (a b : Nat) : nI a + nI b = nI (a + b) := by unfold nI; simp [Int32.ofNat_add]
theorem nI_sub {a b : Nat} (h : b ≤ a) : nI a - nI b = nI (a - b) := by
  have e : nI a = nI (a - b) + nI b := by rw [pI_add]; congr 1; omega
  rw [e, Int32.add_sub_cancel]
theorem i_sub {b x : Int32} (hb : 0 ≤ b) (hx : 0 ≤ x) : (x - b).toInt = x.toInt - b.toInt := by
  have h1 := Int32.le_iff_toInt_le.mp hb
  have h2 := Int32.le_iff_toInt_le.mp hx
  have h3 := Int32.toInt_lt x
  have h4 := Int32.toInt_lt b
  have z : (0 : Int32).toInt = 0 := rfl
  rw [z] at h1 h2
  rw [Int32.toInt_sub]
  exact Int.bmod_eq_of_le (by omega) (by omega)
theorem le_of_sub {b x e : Int32} (hb : 0 ≤ b) (hx : 0 ≤ x) (he : 0 ≤ e) (h : e ≤ x - b) : b ≤ x := by
  have h1 := Int32.le_iff_toInt_le.mp h
  have h2 := Int32.le_iff_toInt_le.mp he
  rw [i_sub hb hx] at h1
  have z : (0 : Int32).toInt = 0 := rfl
  rw [z] at h2
  exact Int32.le_iff_toInt_le.mpr (by omega)
theorem n41 {x : Int32} {L : Nat} (hL : L ≤ 40) (h0 : 0 ≤ x) (h : x ≤ nI L) : ∃ p, p ≤ L ∧ x = nI p := by
  obtain ⟨p, hp, e⟩ := ix (n := L) rfl (by omega) ⟨h0, h⟩
  exact ⟨p, by omega, e⟩
theorem rg {L : Nat} {b e : Int32} (hL : L ≤ 40) (c : 0 ≤ b ∧ 0 ≤ e ∧ b ≤ nI L ∧ e ≤ nI L - b) : ∃ p n : Nat, b = nI p ∧ e = nI n ∧ p + n ≤ L := by
  obtain ⟨h1, h2, h3, h4⟩ := c
  obtain ⟨p, hp, rfl⟩ := n41 hL h1 h3
  rw [nI_sub hp] at h4
  obtain ⟨n, hn, rfl⟩ := n41 (L := L - p) (by omega) h2 h4
  exact ⟨p, n, rfl, rfl, by omega⟩
theorem x_hr {s : Nat} {b e : Int32} {v : jx_V} (hs : s < 4) : f_X1_hasRange (nI s) b e v = some (if 0 ≤ b ∧ 0 ≤ e ∧ b ≤ v 62 s ∧ e ≤ v 62 s - b then 1 else 0, v) := by
  unfold f_X1_hasRange
  simp only [tn (show s < 2147483648 by omega), ib hs (by omega), if_false]
  by_cases b0 : b < 0
  · rw [if_pos b0, if_neg (fun k => Int32.not_lt.mpr k.1 b0)]
  · rw [if_neg b0]
    by_cases e0 : e < 0
    · rw [if_pos e0, if_neg (fun k => Int32.not_lt.mpr k.2.1 e0)]
    · rw [if_neg e0]
      by_cases l0 : v 62 s < b
      · rw [if_pos l0, if_neg (fun k => Int32.not_lt.mpr k.2.2.1 l0)]
      · rw [if_neg l0]
        by_cases l1 : v 62 s - b < e
        · rw [if_pos l1, if_neg (fun k => Int32.not_lt.mpr k.2.2.2 l1)]
        · rw [if_neg l1, if_pos ⟨Int32.not_lt.mp b0, Int32.not_lt.mp e0, Int32.not_lt.mp l0, Int32.not_lt.mp l1⟩]
theorem cp_if {α : Type} {L M : Nat} {b d e : Int32} {X Y : α} (hL : L ≤ 40) (hM : M ≤ 40) : (if b < 0 then X else if d < 0 then X else if e < 0 then X else if nI L - b < e then X else if e ≤ nI M - d then Y else X) = if (0 ≤ b ∧ 0 ≤ e ∧ b ≤ nI L ∧ e ≤ nI L - b) ∧ (0 ≤ d ∧ 0 ≤ e ∧ d ≤ nI M ∧ e ≤ nI M - d) then Y else X := by
  have pL : 0 ≤ nI L := pI_pos (by omega)
  have pM : 0 ≤ nI M := pI_pos (by omega)
  by_cases b0 : b < 0
  · rw [if_pos b0, if_neg (fun k => Int32.not_lt.mpr k.1.1 b0)]
  · rw [if_neg b0]
    by_cases d0 : d < 0
    · rw [if_pos d0, if_neg (fun k => Int32.not_lt.mpr k.2.1 d0)]
    · rw [if_neg d0]
      by_cases e0 : e < 0
      · rw [if_pos e0, if_neg (fun k => Int32.not_lt.mpr k.1.2.1 e0)]
      · rw [if_neg e0]
        by_cases l1 : nI L - b < e
        · rw [if_pos l1, if_neg (fun k => Int32.not_lt.mpr k.1.2.2.2 l1)]
        · rw [if_neg l1]
          by_cases l2 : e ≤ nI M - d
          · rw [if_pos l2, if_pos ⟨⟨Int32.not_lt.mp b0, Int32.not_lt.mp e0, le_of_sub (Int32.not_lt.mp b0) pL (Int32.not_lt.mp e0) (Int32.not_lt.mp l1), Int32.not_lt.mp l1⟩, Int32.not_lt.mp d0, Int32.not_lt.mp e0, le_of_sub (Int32.not_lt.mp d0) pM (Int32.not_lt.mp e0) l2, l2⟩]
          · rw [if_neg l2, if_neg (fun k => l2 k.2.2.2.2)]
theorem f40b {s p i : Nat} : 40 * nI s + nI p + nI i = nI (40 * s + p + i) := by rw [f40, pI_add]
theorem m_cp0 {s p n : Nat} {x3 x4 : Int32} {w : jx_V} (hs : s < 4) (hpn : p + n ≤ 40) : ∀ d i f w1, i + d = n → (∀ c, c ≠ 12 → w1 c = w c) → (∀ k, k < i → w1 12 k = w 11 (40 * s + p + k)) →
    ∃ w2, f_X5_copy_L (f+d+1) 0 (nI s) (nI p) x3 x4 (nI n) (nI i) w1 = f_X5_copy_L f 1 (nI s) (nI p) x3 x4 (nI n) 0 w2 ∧ (∀ c, c ≠ 12 → w2 c = w c) ∧ ∀ k, k < n → w2 12 k = w 11 (40 * s + p + k) := by
  intro d
  induction d with
  | zero =>
    intro i f w1 hi h1 h2
    obtain rfl : i = n := by omega
    refine ⟨w1, ?_, h1, h2⟩
    rw [f_X5_copy_L, if_pos rfl, if_pos (Int32.le_refl _)]
  | succ d ih =>
    intro i f w1 hi h1 h2
    obtain ⟨w2, e, r1, r2⟩ := ih (i+1) f (jx_up w1 12 i (w1 11 (40 * s + p + i))) (by omega) (fun c hc => by rw [jx_up_ne hc]; exact h1 c hc) (fun k hk => by
      rw [up_g]
      by_cases x : k = i
      · rw [if_pos ⟨rfl, x⟩, h1 11 (by omega), x]
      · rw [if_neg (by omega)]; exact h2 k (by omega))
    refine ⟨w2, ?_, r1, r2⟩
    rw [← e, show f + (d + 1) + 1 = (f + d + 1) + 1 by omega, f_X5_copy_L, if_pos rfl, if_neg (by rw [pI_le (by omega) (by omega)]; omega)]
    simp only [f40b, tn (show 40 * s + p + i < 2147483648 by omega), ib (show 40 * s + p + i < 160 by omega) (by omega), tn (show i < 2147483648 by omega), ib (show i < 40 by omega) (by omega), if_false, nI_add1]
theorem m_cp1 {t q n : Nat} {x1 x2 : Int32} {w : jx_V} (ht : t < 4) (hqn : q + n ≤ 40) : ∀ d i f w1, i + d = n → d < f → (∀ c, c ≠ 11 → w1 c = w c) → (∀ k, w1 11 k = if 40 * t + q ≤ k ∧ k < 40 * t + q + i then w 12 (k - (40 * t + q)) else w 11 k) →
    ∃ w2, f_X5_copy_L f 1 x1 x2 (nI t) (nI q) (nI n) (nI i) w1 = some (nI n, w2) ∧ (∀ c, c ≠ 11 → w2 c = w c) ∧ ∀ k, w2 11 k = if 40 * t + q ≤ k ∧ k < 40 * t + q + n then w 12 (k - (40 * t + q)) else w 11 k := by
  intro d
  induction d with
  | zero =>
    intro i f w1 hi hf h1 h2
    obtain ⟨f, rfl⟩ : ∃ q, f = q + 1 := ⟨f - 1, by omega⟩
    obtain rfl : i = n := by omega
    refine ⟨w1, ?_, h1, h2⟩
    rw [f_X5_copy_L, if_neg (by omega), if_pos rfl, if_pos (Int32.le_refl _)]
  | succ d ih =>
    intro i f w1 hi hf h1 h2
    obtain ⟨f, rfl⟩ : ∃ q, f = q + 1 := ⟨f - 1, by omega⟩
    rw [f_X5_copy_L, if_neg (by omega), if_pos rfl, if_neg (by rw [pI_le (by omega) (by omega)]; omega)]
    simp only [f40b, tn (show 40 * t + q + i < 2147483648 by omega), ib (show 40 * t + q + i < 160 by omega) (by omega), tn (show i < 2147483648 by omega), ib (show i < 40 by omega) (by omega), if_false, nI_add1]
    refine ih (i+1) f _ (by omega) (by omega) (fun c hc => by rw [jx_up_ne hc]; exact h1 c hc) (fun k => ?_)
    rw [up_g, h1 12 (by omega)]
    by_cases e : k = 40 * t + q + i
    · rw [if_pos ⟨rfl, e⟩, if_pos (by omega)]; congr 1; omega
    · rw [if_neg (by omega), h2 k]
      by_cases x : 40 * t + q ≤ k ∧ k < 40 * t + q + i
      · rw [if_pos x, if_pos (by omega)]
      · rw [if_neg x, if_neg (by omega)]
theorem R_cp {v w w' : jx_V} {s t p q n : Nat} (h : R v w) (hs : s < 4) (ht : t < 4) (hp : p + n ≤ 40) (hq : q + n ≤ 40) (a1 : ∀ c, c ≠ 11 → c ≠ 12 → w' c = w c) (a2 : ∀ k, w' 11 k = if 40 * t + q ≤ k ∧ k < 40 * t + q + n then w 11 (40 * s + p + (k - (40 * t + q))) else w 11 k) :
    R (jx_set v (57 + t) (va_cpy (v (57 + s)) (v (57 + t)) p q n)) w' := by
  refine R_sh h (fun c hc => ?_) ?_ (fun c hc => a1 c (by omega) (by omega)) (by rw [a1 0 (by omega) (by omega)]) (by rw [a1 0 (by omega) (by omega)]) (fun r hr => ?_)
  · rw [set_g, if_neg (by omega)]
  · rw [set_g, if_neg (by omega)]
  · have hr' := h.s r hr
    rw [set_g, if_neg (by omega), set_g, if_neg (by omega), a1 9 (by omega) (by omega), a1 10 (by omega) (by omega)]
    refine ⟨hr'.1, hr'.2.1, hr'.2.2.1, fun i hi => ?_⟩
    rw [set_g, a2]
    by_cases e : r = t
    · subst e
      rw [if_pos rfl]
      unfold va_cpy
      by_cases x : q ≤ i ∧ i < q + n
      · rw [if_pos x, if_pos (by omega), (h.s s hs).2.2.2 _ (by omega)]; congr 1; omega
      · rw [if_neg x, if_neg (by omega)]; exact hr'.2.2.2 i hi
    · rw [if_neg (by omega), if_neg (by omega)]; exact hr'.2.2.2 i hi
theorem q_copy {v w a b c d e} (h : R v w) : Q (f_X4_copy a b c d e v) (f_X5_copy a b c d e w) := by
  unfold f_X4_copy f_X5_copy
  generalize hF : (100000 : Nat) = F
  simp only [x_w4, m_isOne, Option.bind_some, x_f0, m_f0, x_f5, m_f5, x_f2, m_f2]
  by_cases c1 : 0 ≤ a ∧ a ≤ 3
  · obtain ⟨s, hs, rfl⟩ := ix (n := 3) rfl (by omega) c1
    by_cases c2 : 0 ≤ c ∧ c ≤ 3
    · obtain ⟨t, ht, rfl⟩ := ix (n := 3) rfl (by omega) c2
      obtain ⟨e61, e62, ⟨L, hL, eL⟩, es⟩ := h.s s hs
      obtain ⟨f61, f62, ⟨M, hM, eM⟩, et⟩ := h.s t ht
      have gL : w 10 s = nI L := e62 ▸ eL
      have gM : w 10 t = nI M := f62 ▸ eM
      simp only [if_pos c1, if_pos c2, o10, if_false, x_miss hs, x_miss ht, x_hr hs, x_hr ht, Option.bind_some, tn (show s < 2147483648 by omega), tn (show t < 2147483648 by omega), ib hs (show 4 ≤ 100000 by omega), ib ht (show 4 ≤ 100000 by omega), e61, f61, eL, eM, gL, gM, cp_if hL hM]
      by_cases m0 : w 9 s = 0
      · simp only [if_pos m0, o10, if_false]; exact Q_f h
      · simp only [if_neg m0, z00, if_true]
        by_cases m1 : w 9 t = 0
        · simp only [if_pos m1, o10, if_false]; exact Q_f h
        · simp only [if_neg m1, z00, if_true]
          by_cases m2 : w 9 s = w 9 t
          · rw [if_pos m2, if_pos m2]
            by_cases r1 : 0 ≤ b ∧ 0 ≤ e ∧ b ≤ nI L ∧ e ≤ nI L - b
            · rw [if_pos r1, if_neg i10]
              by_cases r2 : 0 ≤ d ∧ 0 ≤ e ∧ d ≤ nI M ∧ e ≤ nI M - d
              · rw [if_pos r2, if_neg i10, if_pos (And.intro r1 r2)]
                obtain ⟨p, n, rfl, rfl, hpn⟩ := rg hL r1
                obtain ⟨q, n', rfl, en, hqn⟩ := rg hM r2
                have en' : n = n' := by rw [pI_eq (by omega) (by omega)] at en; exact en
                subst en'
                rw [tn (show p < 2147483648 by omega), tn (show q < 2147483648 by omega), tn (show n < 2147483648 by omega), if_neg (fun k => k ⟨nI_neg (by omega), nI_neg (by omega), nI_neg (by omega), by omega, by omega⟩)]
                obtain ⟨F', eF⟩ : ∃ F', F = F' + n + 1 := ⟨F - n - 1, by omega⟩
                obtain ⟨w2, g1, g2, g3⟩ := m_cp0 (s := s) (p := p) (n := n) (x3 := nI t) (x4 := nI q) (w := w) hs (by omega) n 0 F' w (by omega) (fun _ _ => rfl) (fun k hk => by omega)
                obtain ⟨w3, k1, k2, k3⟩ := m_cp1 (t := t) (q := q) (n := n) (x1 := nI s) (x2 := nI p) (w := w2) ht (by omega) n 0 F' w2 (by omega) (by omega) (fun _ _ => rfl) (fun k => by rw [if_neg (by omega)])
                rw [eF, show (0 : Int32) = nI 0 from rfl, g1, show (0 : Int32) = nI 0 from rfl, k1]
                refine Q_i (R_cp h hs ht (by omega) (by omega) (fun c x y => by rw [k2 c x, g2 c y]) (fun k => ?_))
                rw [k3 k]
                by_cases x : 40 * t + q ≤ k ∧ k < 40 * t + q + n
                · rw [if_pos x, if_pos x, g3 _ (by omega)]
                · rw [if_neg x, if_neg x, g2 11 (by omega)]
              · rw [if_neg r2, if_pos i00, if_neg (show ¬ ((0 ≤ b ∧ 0 ≤ e ∧ b ≤ nI L ∧ e ≤ nI L - b) ∧ (0 ≤ d ∧ 0 ≤ e ∧ d ≤ nI M ∧ e ≤ nI M - d)) from fun k => r2 k.2)]; exact Q_f h
            · rw [if_neg r1, if_pos i00, if_neg (show ¬ ((0 ≤ b ∧ 0 ≤ e ∧ b ≤ nI L ∧ e ≤ nI L - b) ∧ (0 ≤ d ∧ 0 ≤ e ∧ d ≤ nI M ∧ e ≤ nI M - d)) from fun k => r1 k.1)]; exact Q_f h
          · rw [if_neg m2, if_neg m2]; exact Q_f h
    · simp only [if_pos c1, if_neg c2, o10, z00, if_true, if_false]; exact Q_f h
  · simp only [if_neg c1, z00, if_true]; exact Q_f h
theorem R_tp {v w v' w'} (h : R v w) (a : ∀ c, c ≠ 53 → c ≠ 54 → v' c = v c) (b : ∀ c, c ≠ 0 → c ≠ 8 → w' c = w c) (b2 : w' 0 4 = w 0 4) (tl : v' 53 1 = w' 0 12) (tr : ∃ L, L ≤ 120 ∧ v' 53 1 = nI L) (tb : ∀ i, i < 120 → v' 54 i = w' 8 i) : R v' w' := by
  have e1 : cT 1 v' = cT 1 v := cT_congr (fun c _ _ => a c (by omega) (by omega))
  have e17 : cT 17 v' = cT 17 v := cT_congr (fun c _ _ => a c (by omega) (by omega))
  refine R.mk ?_ ?_ ?_ ?_ ?_ tl tr tb ?_
  · rw [e1, b 1 (by omega) (by omega)]; exact h.t
  · rw [e1]; exact h.ok
  · rw [a 0 (by omega) (by omega), b2]; exact h.k
  · rw [a 0 (by omega) (by omega)]; exact h.kb
  · rw [a 0 (by omega) (by omega), e17, b 2 (by omega) (by omega)]; exact h.kt
  · intro s hs
    rw [a 61 (by omega) (by omega), a 62 (by omega) (by omega), a (57+s) (by omega) (by omega), b 9 (by omega) (by omega), b 10 (by omega) (by omega), b 11 (by omega) (by omega)]
    exact h.s s hs
theorem byt_b : ∀ i, i < 32 → 8 ≤ i → (255#32).getLsbD i = false := by decide
theorem byt_k (x : BitVec 32) (k : Nat) (hk : k ≤ 24) : (x >>> k) &&& 255#32 = (x.sshiftRight k) &&& 255#32 := by
  apply BitVec.eq_of_getLsbD_eq
  intro i hi
  rw [BitVec.getLsbD_and, BitVec.getLsbD_and, BitVec.getLsbD_ushiftRight, BitVec.getLsbD_sshiftRight]
  by_cases c : i < 8
  · rw [if_pos (by omega), show decide (32 ≤ i) = false from decide_eq_false (by omega), Bool.not_false, Bool.true_and]
  · rw [byt_b i hi (by omega), Bool.and_false, Bool.and_false]
theorem byt0 (x : Int32) : ((Int32.toUInt32 x >>> (Int32.toUInt32 (8 * nI 0) &&& Int32.toUInt32 31)).toInt32 &&& 255) = ((x >>> ((8 * nI 0) &&& 31)) &&& 255) := Int32.toBitVec_inj.mp (byt_k x.toBitVec 0 (by omega))
theorem byt1 (x : Int32) : ((Int32.toUInt32 x >>> (Int32.toUInt32 (8 * nI 1) &&& Int32.toUInt32 31)).toInt32 &&& 255) = ((x >>> ((8 * nI 1) &&& 31)) &&& 255) := Int32.toBitVec_inj.mp (byt_k x.toBitVec 8 (by omega))
theorem byt2 (x : Int32) : ((Int32.toUInt32 x >>> (Int32.toUInt32 (8 * nI 2) &&& Int32.toUInt32 31)).toInt32 &&& 255) = ((x >>> ((8 * nI 2) &&& 31)) &&& 255) := Int32.toBitVec_inj.mp (byt_k x.toBitVec 16 (by omega))
theorem byt3 (x : Int32) : ((Int32.toUInt32 x >>> (Int32.toUInt32 (8 * nI 3) &&& Int32.toUInt32 31)).toInt32 &&& 255) = ((x >>> ((8 * nI 3) &&& 31)) &&& 255) := Int32.toBitVec_inj.mp (byt_k x.toBitVec 24 (by omega))
theorem byt (x : Int32) {i : Nat} (hi : i < 4) : ((Int32.toUInt32 x >>> (Int32.toUInt32 (8 * nI i) &&& Int32.toUInt32 31)).toInt32 &&& 255) = ((x >>> ((8 * nI i) &&& 31)) &&& 255) := by
  have : i = 0 ∨ i = 1 ∨ i = 2 ∨ i = 3 := by omega
  rcases this with rfl | rfl | rfl | rfl
  · exact byt0 x
  · exact byt1 x
  · exact byt2 x
  · exact byt3 x
theorem feed_L {x1 x2 y2 : Int32} : ∀ i f f' v w L, i ≤ 4 → i < f → i < f' → R v w → v 53 1 = nI L → L + i ≤ 120 → Q (f_X4_feed_L f x1 x2 (nI i - 1) v) (f_X5_feed_L f' x1 y2 (nI i - 1) w) := by
  intro i
  induction i with
  | zero =>
    intro f f' v w L _ hf hf' h _ _
    obtain ⟨f, rfl⟩ : ∃ q, f = q + 1 := ⟨f - 1, by omega⟩
    obtain ⟨f', rfl⟩ : ∃ q, f' = q + 1 := ⟨f' - 1, by omega⟩
    rw [f_X4_feed_L, f_X5_feed_L, if_pos (by decide), if_pos (by decide), h.tl]
    exact Q_i h
  | succ i ih =>
    intro f f' v w L hi hf hf' h eL hL
    obtain ⟨f, rfl⟩ : ∃ q, f = q + 1 := ⟨f - 1, by omega⟩
    obtain ⟨f', rfl⟩ : ∃ q, f' = q + 1 := ⟨f' - 1, by omega⟩
    have eL' : w 0 12 = nI L := h.tl ▸ eL
    rw [f_X4_feed_L, f_X5_feed_L, show nI (i+1) - 1 = nI i by rw [← nI_add1, Int32.add_sub_cancel], if_neg (nI_neg (by omega)), if_neg (nI_neg (by omega)), show nI i + (-1) = nI i - 1 by rw [Int32.sub_eq_add_neg], byt x1 (show i < 4 by omega)]
    generalize ((x1 >>> ((8 * nI i) &&& 31)) &&& 255) = y
    unfold f_X2_append
    rw [eL, eL', if_neg (show ¬ 120 ≤ nI L by rw [show (120 : Int32) = nI 120 from rfl, pI_le (by omega) (by omega)]; omega)]
    simp only [tn (show L < 2147483648 by omega), ib (show L < 120 by omega) (by omega), if_false, Option.bind_some]
    have u1 : jx_up v 54 L y 53 1 = nI L := by rw [jx_up_ne (by omega)]; exact eL
    have u2 : jx_up w 8 L y 0 12 = nI L := by rw [jx_up_ne (by omega)]; exact eL'
    rw [u1, u2, nI_add1]
    refine ih f f' _ _ (L+1) (by omega) (by omega) (by omega) (R_tp h (fun c a b => by rw [jx_up_ne a, jx_up_ne b]) (fun c a b => by rw [jx_up_ne a, jx_up_ne b]) ?_ ?_ ⟨L+1, by omega, up_s⟩ (fun k hk => ?_)) up_s (by omega)
    · rw [up_g, if_neg (by omega), jx_up_ne (by omega)]
    · rw [up_s, up_s]
    · simp only [up_g]
      by_cases e : k = L
      · simp [e]
      · simp [e, h.tb k hk]
theorem q_feed {v w a b} (h : R v w) : Q (f_X4_feed a b v) (f_X5_feed a b w) := by
  unfold f_X4_feed f_X5_feed
  generalize hF : (100000 : Nat) = F
  simp only [m_in_1_4, Option.bind_some, x_f0, m_f0, x_f1, m_f1]
  by_cases c0 : b < 1
  · have n1 : ¬ (1 ≤ b ∧ b ≤ 4) := fun k => Int32.not_lt.mpr k.1 c0
    simp only [if_pos c0, if_neg n1, z00, if_true]; exact Q_f h
  · rw [if_neg c0]
    by_cases c1 : b ≤ 4
    · have c2 : 1 ≤ b ∧ b ≤ 4 := ⟨Int32.not_lt.mp c0, c1⟩
      obtain ⟨n, hn, rfl⟩ := ix (n := 4) rfl (by omega) ⟨by grind, c1⟩
      obtain ⟨L, hL, eL⟩ := h.tr
      rw [if_pos c1, if_pos c2, if_neg i10, ← h.tl, eL, pI_add]
      by_cases c3 : nI (L + n) ≤ 120
      · rw [if_pos c3, if_pos c3]
        rw [show (120 : Int32) = nI 120 from rfl, pI_le (by omega) (by omega)] at c3
        exact feed_L n F F v w L (by omega) (by omega) (by omega) h eL c3
      · rw [if_neg c3, if_neg c3]; exact Q_f h
    · have n1 : ¬ (1 ≤ b ∧ b ≤ 4) := fun k => c1 k.2
      simp only [if_neg c1, if_neg n1, z00, if_true]; exact Q_f h
theorem jd_L {T : Tn} {i s L : Nat} {x2 y3 : Int32} {v w : jx_V} (hT : OK (mT (w 1))) (eT : T = mT (w 1)) (hi : i < (w 1 1).toNatClampNeg) (hs : s < 4) (hL : L ≤ 40) (e1 : v 62 s = nI L) (e2 : w 10 s = nI L) (hn : ∀ k, k < 40 → v (57 + s) k = w 11 (40 * s + k)) (hk : Lk T i v 5) :
    ∀ d k f f', k + d = 4 → d < f → d < f' → ∃ r, f_X4_judge_L f (nI s) x2 (nI k) v = some (r, v) ∧ f_X5_judge_L f' (nI s) (nI i) y3 (nI k) w = some (r, w) := by
  have fin : ∀ k, k ≤ 4 → (L ≤ k ∨ 4 ≤ k ∨ (k < L ∧ k < 4)) → (if nI k = 4 then (if nI L = 4 then (some (0, v)) else (some ((1 + nI k), v))) else (some ((1 + nI k), v))) = some (if k = 4 ∧ L = 4 then 0 else 1 + nI k, v) := by
    intro k hk _
    simp only [show (4 : Int32) = nI 4 from rfl, pI_eq (show k < 2147483648 by omega) (show 4 < 2147483648 by omega), pI_eq (show L < 2147483648 by omega) (show 4 < 2147483648 by omega)]
    by_cases c : k = 4
    · by_cases c' : L = 4
      · rw [if_pos c, if_pos c', if_pos ⟨c, c'⟩]
      · rw [if_pos c, if_neg c', if_neg (fun q => c' q.2)]
    · rw [if_neg c, if_neg (fun q => c q.1)]
  have fin' : ∀ k, k ≤ 4 → (if nI k = nI L then (if nI k = 4 then (some (0, w)) else (some ((1 + nI k), w))) else (some ((1 + nI k), w))) = some (if k = 4 ∧ L = 4 then 0 else 1 + nI k, w) := by
    intro k hk
    simp only [show (4 : Int32) = nI 4 from rfl, pI_eq (show k < 2147483648 by omega) (show 4 < 2147483648 by omega), pI_eq (show k < 2147483648 by omega) (show L < 2147483648 by omega)]
    by_cases c : k = L
    · by_cases c' : k = 4
      · rw [if_pos c, if_pos c', if_pos ⟨c', by omega⟩]
      · rw [if_pos c, if_neg c', if_neg (fun q => c' q.1)]
    · rw [if_neg c, if_neg (fun q => c (by omega))]
  intro d
  induction d with
  | zero =>
    intro k f f' hk' hf hf'
    obtain ⟨f, rfl⟩ : ∃ q, f = q + 1 := ⟨f - 1, by omega⟩
    obtain ⟨f', rfl⟩ : ∃ q, f' = q + 1 := ⟨f' - 1, by omega⟩
    obtain rfl : k = 4 := by omega
    refine ⟨if 4 = 4 ∧ L = 4 then 0 else 1 + nI 4, ?_, ?_⟩
    · rw [f_X4_judge_L]
      simp only [tn (show s < 2147483648 by omega), ib hs (show 4 ≤ 100000 by omega), if_false, e1, fin 4 (by omega) (by omega)]
      rw [if_pos (show (4 : Int32) ≤ nI 4 from by decide), ite_self]
    · rw [f_X5_judge_L]
      simp only [tn (show s < 2147483648 by omega), ib hs (show 4 ≤ 100000 by omega), if_false, e2, fin' 4 (by omega)]
      rw [if_pos (show (4 : Int32) ≤ nI 4 from by decide), ite_self]
  | succ d ih =>
    intro k f f' hk' hf hf'
    obtain ⟨f, rfl⟩ : ∃ q, f = q + 1 := ⟨f - 1, by omega⟩
    obtain ⟨f', rfl⟩ : ∃ q, f' = q + 1 := ⟨f' - 1, by omega⟩
    have k4 : ¬ (4 : Int32) ≤ nI k := by rw [show (4 : Int32) = nI 4 from rfl, pI_le (by omega) (by omega)]; omega
    rw [f_X4_judge_L, f_X5_judge_L]
    simp only [tn (show s < 2147483648 by omega), ib hs (show 4 ≤ 100000 by omega), if_false, e1, e2, fin k (by omega) (by omega), fin' k (by omega), if_neg k4, tn (show k < 2147483648 by omega), ib (show k < 40 by omega) (show 40 ≤ 100000 by omega), f40, tn (show 40 * s + k < 2147483648 by omega), ib (show 40 * s + k < 160 by omega) (show 160 ≤ 100000 by omega), nI_add1, x_ss hk (show 1 ≤ k + 1 by omega) (show k + 1 < 5 by omega), m_seen hT hi (show 1 ≤ k + 1 by omega) (show k + 1 < 5 by omega), Option.bind_some, hn k (by omega), eT]
    by_cases c : nI L ≤ nI k
    · exact ⟨_, if_pos c, if_pos c⟩
    · simp only [if_neg c]
      by_cases c' : w 11 (40 * s + k) = ss (mT (w 1)) i (k + 1)
      · simp only [if_pos c']
        exact ih (k+1) f f' (by omega) (by omega) (by omega)
      · exact ⟨_, if_neg c', if_neg c'⟩
theorem q_judge {v w a b} (h : R v w) : Q (f_X4_judge a b v) (f_X5_judge a b w) := by
  unfold f_X4_judge f_X5_judge
  generalize hF : (100000 : Nat) = F
  simp only [x_w4, Option.bind_some, x_f0, x_f5]
  by_cases c1 : 0 ≤ a ∧ a ≤ 3
  · obtain ⟨s, hs, rfl⟩ := ix (n := 3) rfl (by omega) c1
    obtain ⟨e61, e62, ⟨L, hL, eL⟩, es⟩ := h.s s hs
    simp only [if_pos c1, o10, if_false, x_miss hs, (m_wrong (x := 0) (w := w)).2 s hs, Option.bind_some, e61]
    by_cases m0 : w 9 s = 0
    · simp only [if_pos m0, o10, b60, if_false, m_f5, Option.bind_some]; exact Q_f h
    · simp only [if_neg m0, z00, if_true, x_isWindow, m_isW h, Option.bind_some, m_f0]
      by_cases c2 : 0 ≤ b ∧ b < v 1 5
      · obtain ⟨i, hi, hi1, hi2, rfl⟩ := wx h c2
        simp only [if_pos c2, o10, if_false]
        obtain ⟨v', e1, g1, hLk⟩ := x_look (h := 1) (by omega) h.ok hi1
        rw [e1, Option.bind_some]
        obtain ⟨r, r1, r2⟩ := jd_L (T := cT 1 v) (i := i) (s := s) (L := L) (x2 := nI i) (y3 := 0) (v := v') (w := w) h.ok' h.t hi2 hs hL (by rw [g1 62 (by omega)]; exact eL) (e62 ▸ eL) (fun k hk => by rw [g1 (57 + s) (by omega)]; exact es k hk) hLk 4 0 F F (by omega) (by omega) (by omega)
        rw [show nI 0 = 0 from rfl] at r1 r2
        rw [r1, r2]
        exact Q_i (R_fr h (G_SX g1) SM_r)
      · simp only [if_neg c2, z00, if_true]; exact Q_f h
  · simp only [if_neg c1, z00, if_true, (m_wrong (w := w)).1 c1, Option.bind_some, b10, if_false, m_f0]; exact Q_f h
theorem ld_L {s p : Nat} {y3 : Int32} (hs : s < 4) (hp : p < 25) : ∀ d i f f' g v w, p + i + d = 25 → d < f → d < f' → R v w → Q (f_X4_load_L f (nI s) (nI p) g (nI i) v) (f_X5_load_L f' (nI s) (nI p) y3 g (nI i) w) := by
  intro d
  induction d with
  | zero =>
    intro i f f' g v w hd hf hf' h
    obtain ⟨f, rfl⟩ : ∃ q, f = q + 1 := ⟨f - 1, by omega⟩
    obtain ⟨f', rfl⟩ : ∃ q, f' = q + 1 := ⟨f' - 1, by omega⟩
    obtain ⟨e61, e62, ⟨L, hL, eL⟩, es⟩ := h.s s hs
    have k25 : (25 : Int32) ≤ nI p + nI i := by rw [show (25 : Int32) = nI 25 from rfl, pI_add, pI_le (by omega) (by omega)]; omega
    rw [f_X4_load_L, f_X5_load_L]
    simp only [tn (show s < 2147483648 by omega), ib hs (show 4 ≤ 100000 by omega), if_false, if_pos k25, ite_self]
    exact Q_i h
  | succ d ih =>
    intro i f f' g v w hd hf hf' h
    obtain ⟨f, rfl⟩ : ∃ q, f = q + 1 := ⟨f - 1, by omega⟩
    obtain ⟨f', rfl⟩ : ∃ q, f' = q + 1 := ⟨f' - 1, by omega⟩
    obtain ⟨e61, e62, ⟨L, hL, eL⟩, es⟩ := h.s s hs
    have k25 : ¬ (25 : Int32) ≤ nI (p + i) := by rw [show (25 : Int32) = nI 25 from rfl, pI_le (by omega) (by omega)]; omega
    have hpi : p + i < 25 := by omega
    rw [f_X4_load_L, f_X5_load_L]
    simp only [tn (show s < 2147483648 by omega), ib hs (show 4 ≤ 100000 by omega), if_false, eL, (e62 ▸ eL : w 10 s = nI L), pI_add, if_neg k25, tn (show i < 2147483648 by omega), ib (show i < 40 by omega) (show 40 ≤ 100000 by omega), f40, tn (show 40 * s + i < 2147483648 by omega), ib (show 40 * s + i < 160 by omega) (show 160 ≤ 100000 by omega), x_w10, m_isHeight, Option.bind_some, es i (by omega), nI_add1]
    by_cases c : nI L ≤ nI i
    · rw [if_pos c, if_pos c]; exact Q_i h
    · rw [if_neg c, if_neg c]
      by_cases c' : 0 ≤ w 11 (40 * s + i) ∧ w 11 (40 * s + i) ≤ 9
      · simp only [if_pos c', o10, if_false, x_taken (h := 1) hpi, m_thing hpi, Option.bind_some, tk h hpi, show (1 : Nat) + 3 = 4 from rfl]
        by_cases t : w 1 (11 + 4 * (p + i)) < 0
        · simp only [if_pos t, z00, if_true]
          exact ih (i+1) f f' g v w (by omega) (by omega) (by omega) h
        · simp only [if_neg t, o10, if_false, f_X5_at, Option.bind_some, at2, tn (show p + i < 2147483648 by omega), ib hpi (show 25 ≤ 100000 by omega), tn (show 13 + 4 * (p + i) < 2147483648 by omega), ib (show 13 + 4 * (p + i) < 181 by omega) (show 181 ≤ 100000 by omega)]
          obtain ⟨q, hq, eq⟩ := ix (n := 9) rfl (by omega) c'
          refine ih (i+1) f f' (g+1) _ _ (by omega) (by omega) (by omega) ?_
          rw [eq, show 13 + 4 * (p + i) = 11 + 4 * (p + i) + 2 by omega]
          exact R_sx (a := 2) h (Or.inl rfl) hpi (Int32.not_lt.mp t) (show q < 10 by omega)
      · simp only [if_neg c', z00, if_true]; exact Q_i h
theorem q_load {v w a b} (h : R v w) : Q (f_X4_load a b v) (f_X5_load a b w) := by
  unfold f_X4_load f_X5_load
  generalize hF : (100000 : Nat) = F
  simp only [x_w4, Option.bind_some, x_f0, x_f5]
  by_cases c1 : 0 ≤ a ∧ a ≤ 3
  · obtain ⟨s, hs, rfl⟩ := ix (n := 3) rfl (by omega) c1
    obtain ⟨e61, e62, ⟨L, hL, eL⟩, es⟩ := h.s s hs
    simp only [if_pos c1, o10, if_false, x_miss hs, (m_wrong (x := 0) (w := w)).2 s hs, Option.bind_some, e61]
    by_cases m0 : w 9 s = 0
    · simp only [if_pos m0, o10, b60, if_false, m_f5, Option.bind_some]; exact Q_f h
    · simp only [if_neg m0, z00, if_true, x_w25, m_isLot, Option.bind_some, m_f0]
      by_cases c2 : 0 ≤ b ∧ b ≤ 24
      · obtain ⟨p, hp, rfl⟩ := ix (n := 24) rfl (by omega) c2
        simp only [if_pos c2, o10, if_false]
        exact ld_L hs hp (25 - p) 0 F F 0 v w (by omega) (by omega) (by omega) h
      · simp only [if_neg c2, z00, if_true]; exact Q_f h
  · simp only [if_neg c1, z00, if_true, (m_wrong (w := w)).1 c1, Option.bind_some, b10, if_false, m_f0]; exact Q_f h
theorem n10 : ((1 : Nat) = 0) = False := by simp
def dz (z : Int32) : Int32 := (Int32.toUInt32 z >>> (Int32.toUInt32 8 &&& Int32.toUInt32 31)).toInt32
def nxz (z : Int32) : Int32 := z * 1103515245 + 12345
theorem x_draw {h : Nat} {v : jx_V} : f_X3_draw h v = some (dz (nxz (v h 7)), jx_up v h 7 (nxz (v h 7))) := by
  unfold f_X3_draw; rw [up_s]; rfl
theorem m_draw {w : jx_V} : f_X5_draw w = some (dz (nxz (w 1 2)), jx_up w 1 2 (nxz (w 1 2))) := by
  unfold f_X5_draw; rw [up_s]; rfl
theorem u_n (u : UInt32) : u.toInt32 = nI u.toNat := by
  unfold nI
  apply Int32.toBitVec_inj.mp
  show u.toBitVec = BitVec.ofNat 32 u.toBitVec.toNat
  simp
theorem dz_r (z : Int32) : ∃ y, y < 16777216 ∧ dz z = nI y := by
  refine ⟨_, ?_, u_n _⟩
  rw [UInt32.toNat_shiftRight, show (Int32.toUInt32 8 &&& Int32.toUInt32 31).toNat % 32 = 8 from by decide, Nat.shiftRight_eq_div_pow]
  have := UInt32.toNat_lt z.toUInt32
  omega
theorem nI_mul (a b : Nat) : nI a * nI b = nI (a * b) := by unfold nI; simp [Int32.ofNat_mul]
theorem nI_div {a b : Nat} (ha : a < 2147483648) (hb : b < 2147483648) : nI a / nI b = nI (a / b) := by
  have hd : a / b ≤ a := Nat.div_le_self a b
  apply Int32.toInt_inj.mp
  rw [Int32.toInt_div, pI_toInt ha, pI_toInt hb, pI_toInt (by omega)]
  rw [← Int.ofNat_tdiv]
  generalize a / b = q at hd ⊢
  exact Int.bmod_eq_of_le (by omega) (by omega)
theorem rst {x : Int32} {y c : Nat} (hy : y < 16777216) (hc : 0 < c) (hc2 : c < 100) (e : x = nI y) : ∃ r, r < c ∧ x - x / nI c * nI c = nI r := by
  subst e
  have h1 := Nat.div_add_mod y c
  have h2 := Nat.mod_lt y hc
  rw [Nat.mul_comm] at h1
  refine ⟨y - y / c * c, by omega, ?_⟩
  rw [nI_div (by omega) (by omega), nI_mul, nI_sub (by omega)]
def tcn (T : Tn) : Nat → Nat
  | 0 => 0
  | l + 1 => if T.K l < 0 then tcn T l else tcn T l + 1
theorem tcs_n {T} : ∀ l, tcs T l = nI (tcn T l)
  | 0 => rfl
  | l + 1 => by
    rw [tcs, tcn, tcs_n l]
    split
    · rfl
    · exact nI_add1 _
theorem tcn_le {T} : ∀ l, tcn T l ≤ l
  | 0 => Nat.le_refl _
  | l + 1 => by
    rw [tcn]
    have := tcn_le (T := T) l
    split <;> omega
theorem tcn_K {T T' : Tn} (e : T.K = T'.K) : ∀ l, tcn T l = tcn T' l
  | 0 => rfl
  | l + 1 => by rw [tcn, tcn, tcn_K e l, e]
theorem sp_find {v w : jx_V} {x0 x1 x2 x3 : Int32} {N : Nat} (hN : tcn (cT 1 v) 25 = N) (hk : ∀ l, l < 25 → v 4 l = w 1 (11 + 4 * l)) : ∀ d l r f F, l + d = 25 → d < f → d < F → r < 25 → r + tcn (cT 1 v) l < N →
    ∃ j F2, j < 25 ∧ ¬ w 1 (11 + 4 * j) < 0 ∧ F ≤ F2 + d + 1 ∧ f_X3_lotOfThing_L 1 f x0 (nI r) (nI l) v = some (nI j, v) ∧ f_X5_spill_L F 1 x1 x2 x3 (nI r) (nI l) w = f_X5_spill_L F2 0 x1 x2 (x3+1) 0 0 (jx_up (jx_up w 1 2 (nxz (w 1 2))) 1 (14 + 4 * j) (dz (nxz (w 1 2)) - dz (nxz (w 1 2)) / 4 * 4)) := by
  intro d
  induction d with
  | zero =>
    intro l r f F hl hf hF hr hc
    obtain rfl : l = 25 := by omega
    rw [hN] at hc
    omega
  | succ d ih =>
    intro l r f F hl hf hF hr hc
    obtain ⟨f, rfl⟩ : ∃ q, f = q + 1 := ⟨f - 1, by omega⟩
    obtain ⟨F, rfl⟩ : ∃ q, F = q + 1 := ⟨F - 1, by omega⟩
    have hl' : l < 25 := by omega
    have k25 : ¬ (25 : Int32) ≤ nI l := by rw [show (25 : Int32) = nI 25 from rfl, pI_le (by omega) (by omega)]; omega
    have ts : tcn (cT 1 v) (l + 1) = if w 1 (11 + 4 * l) < 0 then tcn (cT 1 v) l else tcn (cT 1 v) l + 1 := by
      rw [tcn, cK hl', show v (1 + 3) l = w 1 (11 + 4 * l) from hk l hl']
    rw [f_X3_lotOfThing_L, f_X5_spill_L, if_neg (show ¬ (1 : Nat) = 0 by omega), if_pos (show (1 : Nat) = 1 from rfl), if_neg k25, x_taken (h := 1) hl', m_thing hl', Option.bind_some, Option.bind_some, show v (1 + 3) l = w 1 (11 + 4 * l) from hk l hl']
    simp only [m_thing hl', Option.bind_some, nI_add1, Int32.sub_zero, m_draw]
    by_cases t : w 1 (11 + 4 * l) < 0
    · simp only [if_pos t, z00, if_true]
      rw [if_pos t] at ts
      obtain ⟨j, F2, h1, h2, h3, h4, h5⟩ := ih (l+1) r f F (by omega) (by omega) (by omega) hr (by rw [ts]; exact hc)
      exact ⟨j, F2, h1, h2, by omega, h4, h5⟩
    · simp only [if_neg t, o10, if_false]
      rw [if_neg t] at ts
      by_cases r0 : r = 0
      · subst r0
        refine ⟨l, F, hl', t, by omega, ?_, ?_⟩
        · rw [if_pos (show nI 0 = 0 from rfl)]
        · rw [if_pos (show nI 0 ≤ 0 by decide)]
          simp only [f_X5_at, Option.bind_some, at3, m_draw, tn (show 14 + 4 * l < 2147483648 by omega), ib (show 14 + 4 * l < 181 by omega) (show 181 ≤ 100000 by omega), if_false]
      · obtain ⟨r, rfl⟩ : ∃ q, r = q + 1 := ⟨r - 1, by omega⟩
        rw [if_neg (show ¬ nI (r+1) = 0 by rw [show (0 : Int32) = nI 0 from rfl, pI_eq (by omega) (by omega)]; omega), if_neg (show ¬ nI (r+1) ≤ 0 by rw [show (0 : Int32) = nI 0 from rfl, pI_le (by omega) (by omega)]; omega)]
        rw [show nI (r+1) + (-1) = nI r by rw [← nI_add1, ← Int32.sub_eq_add_neg, Int32.add_sub_cancel], show nI (r+1) - 1 = nI r by rw [← nI_add1, Int32.add_sub_cancel]]
        obtain ⟨j, F2, h1, h2, h3, h4, h5⟩ := ih (l+1) r f F (by omega) (by omega) (by omega) (by omega) (by rw [ts]; omega)
        exact ⟨j, F2, h1, h2, by omega, h4, h5⟩
theorem R_z {v w : jx_V} (x : Int32) (h : R v w) : R (jx_up v 1 7 x) (jx_up w 1 2 x) :=
  R_up h (by omega) (T := sz (cT 1 v) x) (c_sz (h := 1) (j := 0)) (by rw [m_sz (j := 0), h.t]) (OK_sz h.ok)
theorem R_p {v w : jx_V} {j t : Nat} (h : R v w) (hj : j < 25) (hk : 0 ≤ w 1 (11 + 4 * j)) (ht : t < 4) : R (jx_up v 7 j (nI t)) (jx_up w 1 (14 + 4 * j) (nI t)) := by
  rw [show 14 + 4 * j = 11 + 4 * j + 3 by omega]
  exact R_sx (a := 3) h (Or.inr rfl) hj hk ht
theorem K_z {v : jx_V} {x : Int32} : (cT 1 (jx_up v 1 7 x)).K = (cT 1 v).K := by rw [c_sz (h := 1) (j := 0)]; rfl
theorem K_p {v : jx_V} {j : Nat} {x : Int32} : (cT 1 (jx_up v 7 j x)).K = (cT 1 v).K := by
  funext l
  show (if l < 25 then _ else _) = (if l < 25 then _ else _)
  rw [jx_up_ne (by omega)]
theorem sp_L {n c : Nat} (hc : 0 < c) (hc2 : c ≤ 25) (hn : n ≤ 12) : ∀ d i f F v w, i + d = n → d < f → d * 30 + 1 < F → R v w → tcn (cT 1 v) 25 = c → Q (f_X4_spill_L f (nI n) (nI c) (nI i) v) (f_X5_spill_L F 0 (nI n) (nI c) (nI i) 0 0 w) := by
  intro d
  induction d with
  | zero =>
    intro i f F v w hi hf hF h hT
    obtain ⟨f, rfl⟩ : ∃ q, f = q + 1 := ⟨f - 1, by omega⟩
    obtain ⟨F, rfl⟩ : ∃ q, F = q + 1 := ⟨F - 1, by omega⟩
    obtain rfl : i = n := by omega
    rw [f_X4_spill_L, f_X5_spill_L, if_pos rfl, if_pos (Int32.le_refl _), if_pos (Int32.le_refl _)]
    obtain ⟨v', e1, g1, _⟩ := x_gains (h := 1) (r := 65) (by omega) (by omega) h.ok
    obtain ⟨w', e2, g2, _⟩ := m_gains h.ok'
    simp only [e1, e2, Option.bind_some]
    rw [h.t]
    exact Q_i (R_fr h (GR_SX (by omega) g1) (FM_SM g2))
  | succ d ih =>
    intro i f F v w hi hf hF h hT
    obtain ⟨f, rfl⟩ : ∃ q, f = q + 1 := ⟨f - 1, by omega⟩
    obtain ⟨F, rfl⟩ : ∃ q, F = q + 1 := ⟨F - 1, by omega⟩
    have nc : ¬ nI c = 0 := by rw [show (0 : Int32) = nI 0 from rfl, pI_eq (by omega) (by omega)]; omega
    have ni : ¬ nI n ≤ nI i := by rw [pI_le (by omega) (by omega)]; omega
    rw [f_X4_spill_L, f_X5_spill_L, if_pos rfl, if_neg ni, if_neg ni, x_draw, m_draw, Option.bind_some, Option.bind_some]
    simp only [if_neg nc]
    rw [tkz h]
    generalize hz : nxz (w 1 2) = z1
    have h1 : R (jx_up v 1 7 z1) (jx_up w 1 2 z1) := R_z z1 h
    obtain ⟨y, hy, ey⟩ := dz_r z1
    obtain ⟨r, hr, er⟩ := rst hy hc (by omega) ey
    rw [er]
    have T1 : tcn (cT 1 (jx_up v 1 7 z1)) 25 = c := by rw [tcn_K K_z]; exact hT
    obtain ⟨j, F2, hj, ht, hF2, e1, e2⟩ := sp_find (v := jx_up v 1 7 z1) (w := jx_up w 1 2 z1) (x0 := nI r) (x1 := nI n) (x2 := nI c) (x3 := nI i) T1 (fun l hl => tk h1 hl) 25 0 r 100000 F (by omega) (by omega) (by omega) (by omega) (show r + 0 < c by omega)
    rw [show nI 0 = 0 from rfl] at e1 e2
    rw [e2]
    unfold f_X3_lotOfThing
    rw [e1]
    simp only [Option.bind_some, x_draw, up_s, if_neg (nI_neg (show j < 2147483648 by omega)), tn (show j < 2147483648 by omega), ib hj (show 25 ≤ 100000 by omega), if_false, nI_add1]
    generalize nxz z1 = z2
    have h2 : R (jx_up (jx_up v 1 7 z1) 1 7 z2) (jx_up (jx_up w 1 2 z1) 1 2 z2) := R_z z2 h1
    obtain ⟨y', hy', ey'⟩ := dz_r z2
    obtain ⟨t, ht', et⟩ := rst (c := 4) hy' (by omega) (by omega) ey'
    rw [show nI 4 = 4 from rfl] at et
    rw [et]
    refine ih (i+1) f F2 _ _ (by omega) (by omega) (by omega) (R_p h2 hj ?_ ht') ?_
    · rw [up_g, if_neg (by omega)]; exact Int32.not_lt.mp ht
    · rw [tcn_K K_p, tcn_K K_z]; exact T1
theorem q_spill {v w a} (h : R v w) : Q (f_X4_spill a v) (f_X5_spill a w) := by
  unfold f_X4_spill f_X5_spill
  generalize hF : (100000 : Nat) = F
  simp only [m_in_1_12, Option.bind_some, x_f0, m_f0, x_f4, m_f4, x_cnt, m_count, ← h.t, tcs_n]
  by_cases c0 : a < 1
  · have n1 : ¬ (1 ≤ a ∧ a ≤ 12) := fun k => Int32.not_lt.mpr k.1 c0
    simp only [if_pos c0, if_neg n1, z00, if_true]; exact Q_f h
  · rw [if_neg c0]
    by_cases c1 : a ≤ 12
    · have c2 : 1 ≤ a ∧ a ≤ 12 := ⟨Int32.not_lt.mp c0, c1⟩
      obtain ⟨n, hn, rfl⟩ := ix (n := 12) rfl (by omega) ⟨by grind, c1⟩
      rw [if_pos c1, if_pos c2, if_neg i10]
      have le := tcn_le (T := cT 1 v) 25
      by_cases c3 : nI (tcn (cT 1 v) 25) = 0
      · rw [if_pos c3, if_pos c3]; exact Q_f h
      · rw [if_neg c3, if_neg c3]
        have pos : 0 < tcn (cT 1 v) 25 := by
          rw [show (0 : Int32) = nI 0 from rfl, pI_eq (by omega) (by omega)] at c3; omega
        exact sp_L pos le (by omega) n 0 F F v w (by omega) (by omega) (by omega) h rfl
    · have n1 : ¬ (1 ≤ a ∧ a ≤ 12) := fun k => c1 k.2
      simp only [if_neg c1, if_neg n1, z00, if_true]; exact Q_f h
def Q2 (x y : Option (Int32 × jx_V)) : Prop := ∃ r v' r' w', x = some (r, v') ∧ y = some (r', w') ∧ R v' w'
theorem Q_2 {x y} (h : Q x y) : Q2 x y := by obtain ⟨r, v', w', a, b, c⟩ := h; exact ⟨r, v', r, w', a, b, c⟩
theorem x_st_L {x1 : Int32} {v : jx_V} : ∀ d i f a, i + d = 7 → d < f → ∃ r, f_X4_status_L f x1 a (nI i) v = some (r, v) := by
  intro d
  induction d with
  | zero =>
    intro i f a hi hf
    obtain ⟨f, rfl⟩ : ∃ q, f = q + 1 := ⟨f - 1, by omega⟩
    obtain rfl : i = 7 := by omega
    exact ⟨a, by rw [f_X4_status_L, if_pos (by decide)]⟩
  | succ d ih =>
    intro i f a hi hf
    obtain ⟨f, rfl⟩ : ∃ q, f = q + 1 := ⟨f - 1, by omega⟩
    rw [f_X4_status_L, if_neg (by rw [show (7 : Int32) = nI 7 from rfl, pI_le (by omega) (by omega)]; omega)]
    simp only [tn (show i < 2147483648 by omega), ib (show i < 7 by omega) (show 7 ≤ 100000 by omega), if_false, nI_add1]
    exact ih (i+1) f _ (by omega) (by omega)
theorem m_st_L {x1 : Int32} {w : jx_V} : ∀ d i f a, i + d = 7 → d < f → ∃ r, f_X5_status_L f x1 a (nI i) w = some (r, w) := by
  intro d
  induction d with
  | zero =>
    intro i f a hi hf
    obtain ⟨f, rfl⟩ : ∃ q, f = q + 1 := ⟨f - 1, by omega⟩
    obtain rfl : i = 7 := by omega
    exact ⟨a, by rw [f_X5_status_L, if_pos (by decide)]⟩
  | succ d ih =>
    intro i f a hi hf
    obtain ⟨f, rfl⟩ : ∃ q, f = q + 1 := ⟨f - 1, by omega⟩
    rw [f_X5_status_L, if_neg (by rw [show (7 : Int32) = nI 7 from rfl, pI_le (by omega) (by omega)]; omega)]
    simp only [tn (show i < 2147483648 by omega), ib (show i < 7 by omega) (show 7 ≤ 100000 by omega), if_false, nI_add1]
    split
    · exact ih (i+1) f _ (by omega) (by omega)
    · split
      · exact ih (i+1) f _ (by omega) (by omega)
      · exact ih (i+1) f _ (by omega) (by omega)
theorem q_status {v w a} (h : R v w) : Q2 (f_X4_status a v) (f_X5_status a w) := by
  have hx : ∃ r v', f_X4_status a v = some (r, v') ∧ SX v v' := by
    unfold f_X4_status
    simp only [x_w7, Option.bind_some, x_f0]
    by_cases c : a = -1
    · rw [if_pos c]
      obtain ⟨r, e⟩ := x_st_L (x1 := a) (v := v) 7 0 100000 0 (by omega) (by omega)
      exact ⟨r, v, e, SX_r⟩
    · rw [if_neg c]
      by_cases c1 : 0 ≤ a ∧ a ≤ 6
      · obtain ⟨s, hs, rfl⟩ := ix (n := 6) rfl (by omega) c1
        simp only [if_pos c1, o10, if_false, tn (show s < 2147483648 by omega), ib hs (by omega)]
        exact ⟨_, _, rfl, SX_r⟩
      · simp only [if_neg c1, z00, if_true]
        exact ⟨_, _, rfl, up_SX (by omega)⟩
  have hm : ∃ r w', f_X5_status a w = some (r, w') ∧ SM w w' := by
    unfold f_X5_status
    simp only [m_in_m1_6, Option.bind_some, m_f0]
    by_cases c1 : -1 ≤ a ∧ a ≤ 6
    · simp only [if_pos c1, o10, if_false]
      obtain ⟨r, e⟩ := m_st_L (x1 := a) (w := w) 7 0 100000 0 (by omega) (by omega)
      exact ⟨r, w, e, SM_r⟩
    · simp only [if_neg c1, z00, if_true]
      exact ⟨_, _, rfl, up_SM (by omega)⟩
  obtain ⟨r, v', e1, s1⟩ := hx
  obtain ⟨r', w', e2, s2⟩ := hm
  exact ⟨r, v', r', w', e1, e2, R_fr h s1 s2⟩
theorem x_lower {a : Nat} {v : jx_V} (ha : a < 25) : f_X3_lower 1 (nI a) v = some (if v 6 a ≤ 0 then 0 else 1, jx_up v 6 a (v 6 a - (if v 6 a ≤ 0 then 0 else 1))) := by
  unfold f_X3_lower
  simp only [tn (show a < 2147483648 by omega), ib ha (show 25 ≤ 100000 by omega), if_false, show (1 : Nat) + 5 = 6 from rfl]
  by_cases c : v 6 a ≤ 0
  · simp only [if_pos c]
  · simp only [if_neg c]
theorem low_r : ∀ q, q < 10 → ∃ t, t < 10 ∧ nI q - (if nI q ≤ 0 then (0 : Int32) else 1) = nI t := by decide +kernel
theorem OK_low {v : jx_V} {a : Nat} (hT : OK (cT 1 v)) (ha : a < 25) (ht : 0 ≤ v 4 a) : OK (cT 1 (jx_up v 6 a (v 6 a - (if v 6 a ≤ 0 then 0 else 1)))) := by
  obtain ⟨q, hq, e⟩ := hT.h a
  rw [cH ha ht] at e
  rw [show v 6 a = nI q from e, show jx_up v 6 a = jx_up v (1 + 5) a from rfl, c_sH (h := 1) ha ht]
  exact OK_sH hT (low_r q hq)
theorem x_both {a b : Nat} {v : jx_V} (hT : OK (cT 1 v)) (ha : a < 25) (hb : b < 25) (ta : 0 ≤ v 4 a) (tb : 0 ≤ v 4 b) : ∃ r v', f_X4_bothGainIfLower (nI a) (nI b) v = some (r, v') ∧ SX v v' := by
  unfold f_X4_bothGainIfLower
  rw [x_lower ha, Option.bind_some]
  generalize e1 : (if v 6 a ≤ 0 then (0 : Int32) else 1) = d1
  have O1 : OK (cT 1 (jx_up v 6 a (v 6 a - d1))) := by rw [← e1]; exact OK_low hT ha ta
  have t1 : 0 ≤ jx_up v 6 a (v 6 a - d1) 4 b := by rw [jx_up_ne (by omega)]; exact tb
  simp only []
  rw [x_lower hb, Option.bind_some]
  have O2 := OK_low O1 hb t1
  generalize e2 : (if jx_up v 6 a (v 6 a - d1) 6 b ≤ 0 then (0 : Int32) else 1) = d2 at O2 ⊢
  simp only []
  obtain ⟨v3, e3, g3, _⟩ := x_gains (h := 1) (r := 65) (by omega) (by omega) O2
  rw [e3, Option.bind_some]
  simp only [tn (show a < 2147483648 by omega), ib ha (show 25 ≤ 100000 by omega), tn (show b < 2147483648 by omega), ib hb (show 25 ≤ 100000 by omega), if_false]
  have f5 : (jx_up (jx_up v3 6 a (v3 6 a + d1)) 6 b (jx_up v3 6 a (v3 6 a + d1) 6 b + d2)) 5 = v 5 := by
    rw [jx_up_ne (by omega), jx_up_ne (by omega), g3 5 (by omega) (by omega), jx_up_ne (by omega), jx_up_ne (by omega)]
  have S : SX v (jx_up (jx_up v3 6 a (v3 6 a + d1)) 6 b (jx_up v3 6 a (v3 6 a + d1) 6 b + d2)) := by
    constructor
    · intro c hc
      by_cases c6 : c = 6
      · subst c6
        have g6 : v3 6 = _ := g3 6 (by omega) (by omega)
        funext k
        simp only [up_g, g6, true_and]
        by_cases k1 : k = b
        · by_cases k2 : a = b
          · subst k2; subst k1; simp only [if_true]; grind
          · subst k1
            simp only [if_true, if_neg (show ¬ k = a by omega)]; grind
        · by_cases k2 : k = a
          · subst k2
            simp only [if_true, if_neg k1]; grind
          · simp only [if_neg k1, if_neg k2]
      · rw [jx_up_ne c6, jx_up_ne c6, g3 c (by omega) (by omega), jx_up_ne c6, jx_up_ne c6]
    · rw [jx_up_ne (by omega), jx_up_ne (by omega), g3 53 (by omega) (by omega), jx_up_ne (by omega), jx_up_ne (by omega)]
  generalize (jx_up (jx_up v3 6 a (v3 6 a + d1)) 6 b (jx_up v3 6 a (v3 6 a + d1) 6 b + d2)) = v' at f5 S ⊢
  obtain ⟨o1, ho1, eo1⟩ := hT.o a
  obtain ⟨o2, ho2, eo2⟩ := hT.o b
  rw [cO ha ta] at eo1
  rw [cO hb tb] at eo2
  have eo1' : v' 5 a = nI o1 := by rw [f5]; exact eo1
  have eo2' : v' 5 b = nI o2 := by rw [f5]; exact eo2
  simp only [eo1', eo2', tn (show o1 < 2147483648 by omega), ib ho1 (show 4 ≤ 100000 by omega), tn (show o2 < 2147483648 by omega), ib ho2 (show 4 ≤ 100000 by omega), if_false]
  split
  · exact ⟨_, _, rfl, S⟩
  · split
    · exact ⟨_, _, rfl, S⟩
    · exact ⟨_, _, rfl, S⟩
theorem x_ownl {l : Nat} {x : Int32} {v : jx_V} (hl : l < 25) : f_X3_isOwnersLot 1 (nI l) x v = some (if ¬ v 4 l < 0 ∧ v 5 l = x then 1 else 0, v) := by
  unfold f_X3_isOwnersLot
  simp only [x_taken (h := 1) hl, Option.bind_some, tn (show l < 2147483648 by omega), ib hl (show 25 ≤ 100000 by omega), if_false, show (1 : Nat) + 3 = 4 from rfl, show (1 : Nat) + 4 = 5 from rfl]
  by_cases c : v 4 l < 0
  · rw [if_pos c, if_pos i00, if_neg (fun k => k.1 c)]
  · rw [if_neg c, if_neg i10]
    by_cases c' : v 5 l = x
    · rw [if_pos c', if_pos ⟨c, c'⟩]
    · rw [if_neg c', if_neg (fun k => c' k.2)]
theorem x_tr1 {v : jx_V} {a : Nat} {x1 x2 : Int32} (hT : OK (cT 1 v)) (ha : a < 25) (ta : 0 ≤ v 4 a) : ∀ d l f v1, l + d = 25 → d + 1 < f → SX v v1 →
    (∃ r v', f_X4_trade_L f 1 x1 x2 (nI a) (nI l) v1 = some (r, v') ∧ SX v v') ∨ ∃ v2 f2, f ≤ f2 + d + 1 ∧ SX v v2 ∧ f_X4_trade_L f 1 x1 x2 (nI a) (nI l) v1 = f_X4_trade_L f2 0 x1 x2 (nI (a+1)) 0 v2 := by
  intro d
  induction d with
  | zero =>
    intro l f v1 hl hf s
    obtain ⟨f, rfl⟩ : ∃ q, f = q + 1 := ⟨f - 1, by omega⟩
    obtain rfl : l = 25 := by omega
    refine Or.inr ⟨v1, f, by omega, s, ?_⟩
    rw [f_X4_trade_L, if_neg (by omega), if_pos rfl, if_pos (by decide), nI_add1]
  | succ d ih =>
    intro l f v1 hl hf s
    obtain ⟨f, rfl⟩ : ∃ q, f = q + 1 := ⟨f - 1, by omega⟩
    have hl' : l < 25 := by omega
    have e4 : v1 4 = v 4 := s.1 4 (by omega)
    have eT : cT 1 v1 = cT 1 v := SX_c (by omega) s
    have k25 : ¬ (25 : Int32) ≤ nI l := by rw [show (25 : Int32) = nI 25 from rfl, pI_le (by omega) (by omega)]; omega
    rw [f_X4_trade_L, if_neg (show ¬ (1 : Nat) = 0 by omega), if_pos rfl, if_neg k25, x_ownl hl', Option.bind_some]
    simp only [nI_add1]
    by_cases c : ¬ v1 4 l < 0 ∧ v1 5 l = x2
    · obtain ⟨r, v2, e2, s2⟩ := x_both (v := v1) (by rw [eT]; exact hT) ha hl' (by rw [e4]; exact ta) (Int32.not_lt.mp c.1)
      simp only [if_pos c, o10, if_false, e2, Option.bind_some]
      by_cases c2 : r = 0
      · rw [if_pos c2]
        rcases ih (l+1) f v2 (by omega) (by omega) (SX_t s s2) with q | ⟨v3, f2, q1, q2, q3⟩
        · exact Or.inl q
        · exact Or.inr ⟨v3, f2, by omega, q2, q3⟩
      · rw [if_neg c2]; exact Or.inl ⟨_, _, rfl, SX_t s s2⟩
    · simp only [if_neg c, z00, if_true]
      rcases ih (l+1) f v1 (by omega) (by omega) s with q | ⟨v3, f2, q1, q2, q3⟩
      · exact Or.inl q
      · exact Or.inr ⟨v3, f2, by omega, q2, q3⟩
theorem x_tr0 {v : jx_V} {x1 x2 : Int32} (hT : OK (cT 1 v)) : ∀ d a f v1, a + d = 25 → d * 30 + 1 < f → SX v v1 → ∃ r v', f_X4_trade_L f 0 x1 x2 (nI a) 0 v1 = some (r, v') ∧ SX v v' := by
  intro d
  induction d with
  | zero =>
    intro a f v1 ha hf s
    obtain ⟨f, rfl⟩ : ∃ q, f = q + 1 := ⟨f - 1, by omega⟩
    obtain rfl : a = 25 := by omega
    rw [f_X4_trade_L, if_pos rfl, if_pos (by decide), x_f3, Option.bind_some]
    exact ⟨_, _, rfl, SX_t s (up_SX (by omega))⟩
  | succ d ih =>
    intro a f v1 ha hf s
    obtain ⟨f, rfl⟩ : ∃ q, f = q + 1 := ⟨f - 1, by omega⟩
    have ha' : a < 25 := by omega
    have e4 : v1 4 = v 4 := s.1 4 (by omega)
    have k25 : ¬ (25 : Int32) ≤ nI a := by rw [show (25 : Int32) = nI 25 from rfl, pI_le (by omega) (by omega)]; omega
    rw [f_X4_trade_L, if_pos rfl, if_neg k25, x_ownl ha', Option.bind_some]
    simp only [nI_add1]
    by_cases c : ¬ v1 4 a < 0 ∧ v1 5 a = x1
    · simp only [if_pos c, o10, if_false]
      rcases x_tr1 (x1 := x1) (x2 := x2) hT ha' (by rw [← e4]; exact Int32.not_lt.mp c.1) 25 0 f v1 (by omega) (by omega) s with q | ⟨v3, f2, q1, q2, q3⟩
      · exact q
      · rw [show (0 : Int32) = nI 0 from rfl, q3]
        exact ih (a+1) f2 v3 (by omega) (by omega) q2
    · simp only [if_neg c, z00, if_true]
      exact ih (a+1) f v1 (by omega) (by omega) s
theorem m_isLow {l : Nat} {x : Int32} {w : jx_V} (hl : l < 25) : f_X5_isLowered (nI l) x w = some (if ¬ w 1 (11 + 4 * l) < 0 ∧ w 1 (12 + 4 * l) = x ∧ ¬ w 1 (13 + 4 * l) ≤ 0 then 1 else 0, w) := by
  unfold f_X5_isLowered
  simp only [m_thing hl, m_its1 hl, m_its2 hl, Option.bind_some]
  by_cases c : w 1 (11 + 4 * l) < 0
  · rw [if_pos c, if_pos i00, if_neg (fun k => k.1 c)]
  · rw [if_neg c, if_neg i10]
    by_cases c' : w 1 (12 + 4 * l) = x
    · rw [if_pos c']
      by_cases c'' : w 1 (13 + 4 * l) ≤ 0
      · rw [if_pos c'', if_neg (fun k => k.2.2 c'')]
      · rw [if_neg c'', if_pos ⟨c, c', c''⟩]
    · rw [if_neg c', if_neg (fun k => c' k.2.1)]
theorem low_m : ∀ q, q < 10 → ¬ nI q ≤ 0 → ∃ t, t < 10 ∧ nI q - 1 = nI t := by decide +kernel
theorem OK_lowm {w : jx_V} {a : Nat} (hT : OK (mT (w 1))) (ha : a < 25) (ht : 0 ≤ w 1 (11 + 4 * a)) (hp : ¬ w 1 (13 + 4 * a) ≤ 0) : OK (mT (jx_up w 1 (13 + 4 * a) (w 1 (13 + 4 * a) - 1) 1)) := by
  obtain ⟨q, hq, e⟩ := hT.h a
  rw [mH ha ht] at e
  rw [e] at hp
  rw [up_c, m_sH ha ht, e]
  exact OK_sH hT (low_m q hq hp)
theorem SM_lr {w w3 : jx_V} {i j : Nat} (hij : i ≠ j) (g : FM (jx_up (jx_up w 1 i (w 1 i - 1)) 1 j (jx_up w 1 i (w 1 i - 1) 1 j - 1)) w3) : SM w (jx_up (jx_up w3 1 i (w3 1 i + 1)) 1 j (jx_up w3 1 i (w3 1 i + 1) 1 j + 1)) := by
  refine ⟨fun c hc => ?_, ?_, ?_⟩
  · by_cases c1 : c = 1
    · subst c1
      have g1 := FM_1 g
      funext k
      simp only [up_g, g1, true_and]
      by_cases k1 : k = j
      · subst k1; simp only [if_true, if_neg (Ne.symm hij)]; grind
      · by_cases k2 : k = i
        · subst k2; simp only [if_true, if_neg k1]; grind
        · simp only [if_neg k1, if_neg k2]
    · rw [jx_up_ne c1, jx_up_ne c1, g.1 c (by omega) (by omega) (by omega), jx_up_ne c1, jx_up_ne c1]
  · rw [jx_up_ne (by omega), jx_up_ne (by omega), g.2 4 (by omega) (by omega) (by omega), jx_up_ne (by omega), jx_up_ne (by omega)]
  · rw [jx_up_ne (by omega), jx_up_ne (by omega), g.2 12 (by omega) (by omega) (by omega), jx_up_ne (by omega), jx_up_ne (by omega)]
theorem m_tr1 {w : jx_V} {a o1 o2 : Nat} {x3 x4 : Int32} (hT : OK (mT (w 1))) (ha : a < 25) (h1 : o1 < 4) (h2 : o2 < 4) (hne : o1 ≠ o2) : ∀ d l f x5 w1, l + d = 25 → d + 1 < f → SM w w1 →
    ∃ w2 f2 x5', f ≤ f2 + d + 1 ∧ SM w w2 ∧ f_X5_trade_L f 1 (nI o1) (nI o2) x3 x4 x5 (nI a) (nI l) w1 = f_X5_trade_L f2 0 (nI o1) (nI o2) x3 x4 x5' (nI (a+1)) 0 w2 := by
  intro d
  induction d with
  | zero =>
    intro l f x5 w1 hl hf s
    obtain ⟨f, rfl⟩ : ∃ q, f = q + 1 := ⟨f - 1, by omega⟩
    obtain rfl : l = 25 := by omega
    refine ⟨w1, f, x5, by omega, s, ?_⟩
    rw [f_X5_trade_L, if_neg (by omega), if_pos rfl, if_pos (by decide), nI_add1]
  | succ d ih =>
    intro l f x5 w1 hl hf s
    obtain ⟨f, rfl⟩ : ∃ q, f = q + 1 := ⟨f - 1, by omega⟩
    have hl' : l < 25 := by omega
    have e1 : w1 1 = w 1 := s.1 1 (by omega)
    have k25 : ¬ (25 : Int32) ≤ nI l := by rw [show (25 : Int32) = nI 25 from rfl, pI_le (by omega) (by omega)]; omega
    have go : ∀ x w2, SM w w2 → ∃ w3 f2 x5', f + 1 ≤ f2 + (d + 1) + 1 ∧ SM w w3 ∧ f_X5_trade_L f 1 (nI o1) (nI o2) x3 x4 x (nI a) (nI (l+1)) w2 = f_X5_trade_L f2 0 (nI o1) (nI o2) x3 x4 x5' (nI (a+1)) 0 w3 := by
      intro x w2 s2
      obtain ⟨w3, f2, x5', q1, q2, q3⟩ := ih (l+1) f x w2 (by omega) (by omega) s2
      exact ⟨w3, f2, x5', by omega, q2, q3⟩
    rw [f_X5_trade_L, if_neg (show ¬ (1 : Nat) = 0 by omega), if_pos rfl, if_neg k25]
    by_cases c5 : 0 ≤ x5
    · rw [if_pos c5, nI_add1]; exact ⟨w1, f, x5, by omega, s, rfl⟩
    · rw [if_neg c5, m_isLow ha, Option.bind_some]
      simp only [nI_add1]
      by_cases ca : ¬ w1 1 (11 + 4 * a) < 0 ∧ w1 1 (12 + 4 * a) = nI o1 ∧ ¬ w1 1 (13 + 4 * a) ≤ 0
      · simp only [if_pos ca, o10, if_false, m_isLow hl', Option.bind_some]
        by_cases cl : ¬ w1 1 (11 + 4 * l) < 0 ∧ w1 1 (12 + 4 * l) = nI o2 ∧ ¬ w1 1 (13 + 4 * l) ≤ 0
        · have hal : a ≠ l := fun e => by
            subst e
            have := ca.2.1.symm.trans cl.2.1
            rw [pI_eq (by omega) (by omega)] at this
            exact hne this
          have O0 : OK (mT (w1 1)) := by rw [e1]; exact hT
          have O1 := OK_lowm O0 ha (Int32.not_lt.mp ca.1) ca.2.2
          have O2 := OK_lowm (w := jx_up w1 1 (13 + 4 * a) (w1 1 (13 + 4 * a) - 1)) O1 hl' (by rw [up_g, if_neg (by omega)]; exact Int32.not_lt.mp cl.1) (by rw [up_g, if_neg (by omega)]; exact cl.2.2)
          obtain ⟨w3, g1, g2, g3⟩ := m_gainOf (o := o1) O2 h1
          have S3 := SM_t s (SM_lr (i := 13 + 4 * a) (j := 13 + 4 * l) (by omega) g2)
          simp only [if_pos cl, o10, if_false, f_X5_at, Option.bind_some, at2, tn (show 13 + 4 * a < 2147483648 by omega), ib (show 13 + 4 * a < 181 by omega) (show 181 ≤ 100000 by omega), tn (show 13 + 4 * l < 2147483648 by omega), ib (show 13 + 4 * l < 181 by omega) (show 181 ≤ 100000 by omega), g1, tn (show o2 < 2147483648 by omega), ib h2 (show 4 ≤ 100000 by omega)]
          split
          · exact go _ _ S3
          · split
            · exact go _ _ S3
            · exact go _ _ S3
        · simp only [if_neg cl, z00, if_true]; exact go _ _ s
      · simp only [if_neg ca, z00, if_true]; exact go _ _ s
theorem m_tr0 {w : jx_V} {o1 o2 : Nat} {x3 x4 : Int32} (hT : OK (mT (w 1))) (h1 : o1 < 4) (h2 : o2 < 4) (hne : o1 ≠ o2) : ∀ d a f x5 w1, a + d = 25 → d * 30 + 1 < f → SM w w1 → ∃ r w', f_X5_trade_L f 0 (nI o1) (nI o2) x3 x4 x5 (nI a) 0 w1 = some (r, w') ∧ SM w w' := by
  intro d
  induction d with
  | zero =>
    intro a f x5 w1 ha hf s
    obtain ⟨f, rfl⟩ : ∃ q, f = q + 1 := ⟨f - 1, by omega⟩
    obtain rfl : a = 25 := by omega
    rw [f_X5_trade_L, if_pos rfl, if_pos (by decide), m_f3, Option.bind_some]
    split
    · exact ⟨_, _, rfl, s⟩
    · exact ⟨_, _, rfl, SM_t s (up_SM (by omega))⟩
  | succ d ih =>
    intro a f x5 w1 ha hf s
    obtain ⟨f, rfl⟩ : ∃ q, f = q + 1 := ⟨f - 1, by omega⟩
    have k25 : ¬ (25 : Int32) ≤ nI a := by rw [show (25 : Int32) = nI 25 from rfl, pI_le (by omega) (by omega)]; omega
    rw [f_X5_trade_L, if_pos rfl, if_neg k25]
    by_cases c5 : 0 ≤ x5
    · simp only [if_pos c5]; exact ⟨_, _, rfl, s⟩
    · rw [if_neg c5]
      obtain ⟨w2, f2, x5', q1, q2, q3⟩ := m_tr1 (x3 := x3) (x4 := x4) hT (show a < 25 by omega) h1 h2 hne 25 0 f x5 w1 (by omega) (by omega) s
      rw [show (0 : Int32) = nI 0 from rfl, q3]
      exact ih (a+1) f2 x5' w2 (by omega) (by omega) q2
theorem x_trade {v a b} (hT : OK (cT 1 v)) : ∃ r v', f_X4_trade a b v = some (r, v') ∧ SX v v' := by
  unfold f_X4_trade
  generalize hF : (100000 : Nat) = F
  simp only [x_w4, Option.bind_some, x_f0]
  by_cases c1 : 0 ≤ a ∧ a ≤ 3
  · rw [if_pos c1, if_neg i10]
    by_cases c2 : 0 ≤ b ∧ b ≤ 3
    · rw [if_pos c2, if_neg i10]
      by_cases c3 : a = b
      · rw [if_pos c3]; exact ⟨_, _, rfl, up_SX (by omega)⟩
      · rw [if_neg c3]
        obtain ⟨v1, e1, g1, _⟩ := x_gains (h := 1) (r := 64) (by omega) (by omega) hT
        rw [e1, Option.bind_some]
        exact x_tr0 (x1 := a) (x2 := b) hT 25 0 F v1 (by omega) (by omega) (GR_SX (by omega) g1)
    · rw [if_neg c2, if_pos i00]; exact ⟨_, _, rfl, up_SX (by omega)⟩
  · rw [if_neg c1, if_pos i00]; exact ⟨_, _, rfl, up_SX (by omega)⟩
theorem m_trade {w a b} (hT : OK (mT (w 1))) : ∃ r w', f_X5_trade a b w = some (r, w') ∧ SM w w' := by
  unfold f_X5_trade
  generalize hF : (100000 : Nat) = F
  simp only [m_isOwner, Option.bind_some, m_f0]
  by_cases c1 : 0 ≤ a ∧ a ≤ 3
  · obtain ⟨o1, h1, rfl⟩ := ix (n := 3) rfl (by omega) c1
    rw [if_pos c1, if_neg i10]
    by_cases c2 : 0 ≤ b ∧ b ≤ 3
    · obtain ⟨o2, h2, rfl⟩ := ix (n := 3) rfl (by omega) c2
      rw [if_pos c2, if_neg i10]
      by_cases c3 : nI o1 = nI o2
      · rw [if_pos c3]; exact ⟨_, _, rfl, up_SM (by omega)⟩
      · rw [if_neg c3]
        obtain ⟨w1, e2, g2, _⟩ := m_gainOf (o := o1) hT h1
        rw [e2, Option.bind_some]
        simp only [tn (show o2 < 2147483648 by omega), ib h2 (show 4 ≤ 100000 by omega), if_false]
        exact m_tr0 hT h1 h2 (fun e => c3 (by rw [e])) 25 0 F (-1) w1 (by omega) (by omega) (FM_SM g2)
    · rw [if_neg c2, if_pos i00]; exact ⟨_, _, rfl, up_SM (by omega)⟩
  · rw [if_neg c1, if_pos i00]; exact ⟨_, _, rfl, up_SM (by omega)⟩
theorem q_trade {v w a b} (h : R v w) : Q2 (f_X4_trade a b v) (f_X5_trade a b w) := by
  obtain ⟨r, v', e1, s1⟩ := x_trade (a := a) (b := b) h.ok
  obtain ⟨r', w', e2, s2⟩ := m_trade (a := a) (b := b) h.ok'
  exact ⟨r, v', r', w', e1, e2, R_fr h s1 s2⟩
def sr (B : Nat → Int32) (L b : Nat) : Int32 := if b < L then (if 97 ≤ B b ∧ B b ≤ 122 then 1 else if 48 ≤ B b ∧ B b ≤ 57 then 2 else if B b = 59 then 3 else 4) else 0
def TX (B : Nat → Int32) (L : Nat) (v : jx_V) : Prop := L ≤ 120 ∧ v 53 1 = nI L ∧ ∀ i, i < 120 → v 54 i = B i
def TM (B : Nat → Int32) (L : Nat) (w : jx_V) : Prop := L ≤ 120 ∧ w 0 12 = nI L ∧ ∀ i, i < 120 → w 8 i = B i
theorem TX_up {B L v j x} (h : TX B L v) (hj : j ≠ 1) : TX B L (jx_up v 53 j x) := ⟨h.1, by rw [up_g, if_neg (by omega)]; exact h.2.1, fun i hi => by rw [jx_up_ne (by omega)]; exact h.2.2 i hi⟩
theorem TM_up {B L w j x} (h : TM B L w) (hj : 13 ≤ j) : TM B L (jx_up w 0 j x) := ⟨h.1, by rw [up_g, if_neg (by omega)]; exact h.2.1, fun i hi => by rw [jx_up_ne (by omega)]; exact h.2.2 i hi⟩
theorem up_up {v : jx_V} {c j : Nat} {x y : Int32} : jx_up (jx_up v c j x) c j y = jx_up v c j y := by
  funext a b; simp only [up_g]; by_cases e : a = c ∧ b = j
  · rw [if_pos e, if_pos e]
  · rw [if_neg e, if_neg e, if_neg e]
theorem x_sort {B L i v} (h : TX B L v) (hi : i ≤ 120) : f_X2_sortAt (nI i) v = some (sr B L i, v) := by
  have hL := h.1
  unfold f_X2_sortAt sr
  rw [if_neg (nI_neg (by omega)), h.2.1]
  by_cases c : i < L
  · rw [if_pos (show nI i < nI L by rw [pI_lt (by omega) (by omega)]; exact c), if_pos c]
    simp only [tn (show i < 2147483648 by omega), ib (show i < 120 by omega) (show 120 ≤ 100000 by omega), if_false, h.2.2 i (by omega)]
    generalize B i = y
    have fin : (if y < 48 then (if y = 59 then some ((3 : Int32), v) else some (4, v)) else if 57 < y then (if y = 59 then some (3, v) else some (4, v)) else some (2, v)) = some (if 48 ≤ y ∧ y ≤ 57 then 2 else if y = 59 then 3 else 4, v) := by
      by_cases d : y < 48
      · have n : ¬ (48 ≤ y ∧ y ≤ 57) := fun k => Int32.not_lt.mpr k.1 d
        rw [if_pos d, if_neg n]; split <;> rfl
      · rw [if_neg d]
        by_cases f : 57 < y
        · have n : ¬ (48 ≤ y ∧ y ≤ 57) := fun k => Int32.not_lt.mpr k.2 f
          rw [if_pos f, if_neg n]; split <;> rfl
        · have n : 48 ≤ y ∧ y ≤ 57 := ⟨Int32.not_lt.mp d, Int32.not_lt.mp f⟩
          rw [if_neg f, if_pos n]
    rw [fin]
    by_cases a : y < 97
    · have n : ¬ (97 ≤ y ∧ y ≤ 122) := fun k => Int32.not_lt.mpr k.1 a
      rw [if_pos a, if_neg n]
    · rw [if_neg a]
      by_cases b : 122 < y
      · have n : ¬ (97 ≤ y ∧ y ≤ 122) := fun k => Int32.not_lt.mpr k.2 b
        rw [if_pos b, if_neg n]
      · have n : 97 ≤ y ∧ y ≤ 122 := ⟨Int32.not_lt.mp a, Int32.not_lt.mp b⟩
        rw [if_neg b, if_pos n]
  · rw [if_neg (show ¬ nI i < nI L by rw [pI_lt (by omega) (by omega)]; exact c), if_neg c]
def bte (B : Nat → Int32) (L i : Nat) : Int32 := if i < L then B i else -1
theorem m_byte {B L i w} (h : TM B L w) (hi : i ≤ 120) : f_X5_byteAt (nI i) w = some (bte B L i, w) := by
  have hL := h.1
  unfold f_X5_byteAt bte
  rw [h.2.1]
  by_cases c : i < L
  · rw [if_neg (show ¬ nI L ≤ nI i by rw [pI_le (by omega) (by omega)]; omega), if_pos c]
    simp only [tn (show i < 2147483648 by omega), ib (show i < 120 by omega) (show 120 ≤ 100000 by omega), if_false, h.2.2 i (by omega)]
  · rw [if_pos (show nI L ≤ nI i by rw [pI_le (by omega) (by omega)]; omega), if_neg c]
theorem sr_0 {B L b} (h : b < L) : sr B L b ≠ 0 := by
  unfold sr; rw [if_pos h]
  split
  · decide
  · split
    · decide
    · split <;> decide
theorem sr_z {B L b} (h : ¬ b < L) : sr B L b = 0 := by unfold sr; rw [if_neg h]
theorem sr_lt {B L b} (h : sr B L b ≠ 0) : b < L := by
  by_cases c : b < L
  · exact c
  · exact absurd (sr_z c) h
theorem lt_bt {B L b} : (97 ≤ bte B L b ∧ bte B L b ≤ 122) ↔ sr B L b = 1 := by
  unfold bte sr
  by_cases c : b < L
  · rw [if_pos c, if_pos c]
    by_cases a : 97 ≤ B b ∧ B b ≤ 122
    · rw [if_pos a]; exact ⟨fun _ => rfl, fun _ => a⟩
    · rw [if_neg a]
      refine ⟨fun k => absurd k a, fun k => ?_⟩
      split at k
      · exact absurd k (by decide)
      · split at k <;> exact absurd k (by decide)
  · rw [if_neg c, if_neg c]; exact ⟨fun k => absurd k (by decide), fun k => absurd k (by decide)⟩
theorem dg_bt {B L b} : (48 ≤ bte B L b ∧ bte B L b ≤ 57) ↔ sr B L b = 2 := by
  unfold bte sr
  by_cases c : b < L
  · rw [if_pos c, if_pos c]
    by_cases a : 97 ≤ B b ∧ B b ≤ 122
    · rw [if_pos a]
      refine ⟨fun k => ?_, fun k => absurd k (by decide)⟩
      have k2 := Int32.le_trans a.1 k.2
      exact absurd k2 (by decide)
    · rw [if_neg a]
      by_cases d : 48 ≤ B b ∧ B b ≤ 57
      · rw [if_pos d]; exact ⟨fun _ => rfl, fun _ => d⟩
      · rw [if_neg d]
        refine ⟨fun k => absurd k d, fun k => ?_⟩
        split at k <;> exact absurd k (by decide)
  · rw [if_neg c, if_neg c]; exact ⟨fun k => absurd k (by decide), fun k => absurd k (by decide)⟩
def skb (B : Nat → Int32) : Nat → Nat → Nat
  | 0, i => i
  | d + 1, i => if B i = 32 then skb B d (i+1) else i
theorem skb_r {B} : ∀ d i, i ≤ skb B d i ∧ skb B d i ≤ i + d ∧ (skb B d i < i + d → B (skb B d i) ≠ 32)
  | 0, i => ⟨Nat.le_refl _, Nat.le_refl _, fun h => absurd h (Nat.lt_irrefl _)⟩
  | d + 1, i => by
    rw [skb]
    by_cases c : B i = 32
    · rw [if_pos c]
      obtain ⟨a, b, e⟩ := skb_r (B := B) d (i+1)
      exact ⟨by omega, by omega, fun h => e (by omega)⟩
    · rw [if_neg c]; exact ⟨Nat.le_refl _, by omega, fun _ => c⟩
theorem x_nt0 {B L} : ∀ d i f v, i + d = L → d < f → TX B L v → v 53 4 = nI i → ∃ f2, f ≤ f2 + d ∧ f_X2_nextToken_L f 0 v = f_X2_nextToken_L f2 0 (jx_up v 53 4 (nI (skb B d i))) := by
  intro d
  induction d with
  | zero =>
    intro i f v hi hf h e
    refine ⟨f, by omega, ?_⟩
    rw [skb, ← e, up_id]
  | succ d ih =>
    intro i f v hi hf h e
    have hL := h.1
    rw [skb]
    by_cases c : B i = 32
    · rw [if_pos c]
      obtain ⟨f, rfl⟩ : ∃ q, f = q + 1 := ⟨f - 1, by omega⟩
      obtain ⟨f2, g1, g2⟩ := ih (i+1) f (jx_up v 53 4 (nI (i+1))) (by omega) (by omega) (TX_up h (by omega)) up_s
      refine ⟨f2, by omega, ?_⟩
      rw [up_up] at g2
      rw [← g2, f_X2_nextToken_L, if_pos rfl, h.2.1, e, if_neg (show ¬ nI L ≤ nI i by rw [pI_le (by omega) (by omega)]; omega)]
      simp only [tn (show i < 2147483648 by omega), ib (show i < 120 by omega) (show 120 ≤ 100000 by omega), if_false, h.2.2 i (by omega), if_pos c, nI_add1]
    · rw [if_neg c, ← e, up_id]; exact ⟨f, by omega, rfl⟩
def VV (B : Nat → Int32) (L b : Nat) (v : jx_V) : jx_V := jx_up (jx_up (jx_up v 53 3 (nI b)) 53 2 (sr B L b)) 53 5 0
theorem x_nt1 {B L b f v} (h : TX B L v) (hb : b ≤ L) (e : v 53 4 = nI b) (hB : b < L → B b ≠ 32) : f_X2_nextToken_L (f+1) 0 v = (if sr B L b = 3 then some (jx_up (VV B L b v) 53 4 (nI (b+1))) else if sr B L b = 1 then f_X2_nextToken_L f 1 (VV B L b v) else if sr B L b = 2 then f_X2_nextToken_L f 1 (VV B L b v) else some (VV B L b v)) := by
  have hL := h.1
  have es : f_X2_sortAt (jx_up v 53 3 (v 53 4) 53 3) (jx_up v 53 3 (v 53 4)) = some (sr B L b, jx_up v 53 3 (nI b)) := by rw [up_s, e]; exact x_sort (TX_up h (by omega)) (by omega)
  have e2 : jx_up (jx_up (jx_up v 53 3 (nI b)) 53 2 (sr B L b)) 53 5 0 53 2 = sr B L b := by rw [up_g, if_neg (by omega), up_s]
  have e4 : jx_up (jx_up (jx_up v 53 3 (nI b)) 53 2 (sr B L b)) 53 5 0 53 4 = nI b := by rw [up_g, if_neg (by omega), up_g, if_neg (by omega), up_g, if_neg (by omega)]; exact e
  rw [f_X2_nextToken_L, if_pos rfl]
  simp only [es, Option.bind_some, e2, e4, nI_add1]
  unfold VV
  rw [h.2.1, e]
  by_cases c : b < L
  · rw [if_neg (show ¬ nI L ≤ nI b by rw [pI_le (by omega) (by omega)]; omega)]
    simp only [tn (show b < 2147483648 by omega), ib (show b < 120 by omega) (show 120 ≤ 100000 by omega), if_false, h.2.2 b (by omega), if_neg (hB c)]
  · rw [if_pos (show nI L ≤ nI b by rw [pI_le (by omega) (by omega)]; omega)]
def rne (q : Nat → Bool) : Nat → Nat → Nat
  | 0, i => i
  | d + 1, i => if q i then rne q d (i+1) else i
theorem rne_r {q} : ∀ d i, i ≤ rne q d i ∧ rne q d i ≤ i + d ∧ ∀ k, i ≤ k → k < rne q d i → q k = true
  | 0, i => ⟨Nat.le_refl _, Nat.le_refl _, fun k a b => absurd b (Nat.not_lt.mpr a)⟩
  | d + 1, i => by
    rw [rne]
    by_cases c : q i = true
    · rw [if_pos c]
      obtain ⟨a, b, e⟩ := rne_r (q := q) d (i+1)
      refine ⟨by omega, by omega, fun k h1 h2 => ?_⟩
      by_cases x : k = i
      · rw [x]; exact c
      · exact e k (by omega) h2
    · rw [if_neg c]; exact ⟨Nat.le_refl _, by omega, fun k a b => absurd b (Nat.not_lt.mpr a)⟩
def cf (B : Nat → Int32) (s : Int32) : Nat → Nat → Nat → Nat
  | 0, _, n => n
  | k + 1, i, n => cf B s k (i+1) (if s = 2 then min 1000 (10 * n + ((B i).toNatClampNeg - 48)) else 0)
theorem dgt {x : Int32} (h : 48 ≤ x ∧ x ≤ 57) : ∃ y, 48 ≤ y ∧ y ≤ 57 ∧ x = nI y := by
  obtain ⟨y, hy, e⟩ := ix (n := 57) rfl (by omega) ⟨Int32.le_trans (by decide) h.1, h.2⟩
  subst e
  have h1 := h.1
  rw [show (48 : Int32) = nI 48 from rfl, pI_le (by omega) (by omega)] at h1
  exact ⟨y, h1, by omega, rfl⟩
theorem ltr {x : Int32} (h : 97 ≤ x ∧ x ≤ 122) : ∃ y, 97 ≤ y ∧ y ≤ 122 ∧ x = nI y := by
  obtain ⟨y, hy, e⟩ := ix (n := 122) rfl (by omega) ⟨Int32.le_trans (by decide) h.1, h.2⟩
  subst e
  have h1 := h.1
  rw [show (97 : Int32) = nI 97 from rfl, pI_le (by omega) (by omega)] at h1
  exact ⟨y, h1, by omega, rfl⟩
theorem sr2 {B L i} (h : sr B L i = 2) : ∃ y, 48 ≤ y ∧ y ≤ 57 ∧ B i = nI y := by
  have h1 := dg_bt.mpr h
  have h2 := sr_lt (B := B) (L := L) (b := i) (by rw [h]; decide)
  unfold bte at h1
  rw [if_pos h2] at h1
  exact dgt h1
theorem sr1 {B L i} (h : sr B L i = 1) : ∃ y, 97 ≤ y ∧ y ≤ 122 ∧ B i = nI y := by
  have h1 := lt_bt.mpr h
  have h2 := sr_lt (B := B) (L := L) (b := i) (by rw [h]; decide)
  unfold bte at h1
  rw [if_pos h2] at h1
  exact ltr h1
theorem ten {n y : Nat} (h : 48 ≤ y) : 10 * nI n + nI y - 48 = nI (10 * n + (y - 48)) := by
  rw [show (10 : Int32) = nI 10 from rfl, nI_mul, pI_add, show (48 : Int32) = nI 48 from rfl, nI_sub (by omega)]
  congr 1; omega
theorem mn1000 {x : Nat} (h : x < 100000) : (if (1000 : Int32) ≤ nI x then (1000 : Int32) else nI x) = nI (min 1000 x) := by
  by_cases c : 1000 ≤ x
  · rw [if_pos (show (1000 : Int32) ≤ nI x by rw [show (1000 : Int32) = nI 1000 from rfl, pI_le (by omega) (by omega)]; exact c), show min 1000 x = 1000 by omega]; rfl
  · rw [if_neg (show ¬ (1000 : Int32) ≤ nI x by rw [show (1000 : Int32) = nI 1000 from rfl, pI_le (by omega) (by omega)]; exact c), show min 1000 x = x by omega]
theorem x_nt2 {B L s} (hs : s = 1 ∨ s = 2) : ∀ d i f v n, i + d = L → d < f → TX B L v → v 53 4 = nI i → v 53 2 = s → v 53 5 = nI n → n ≤ 1000 →
    ∃ v', f_X2_nextToken_L f 1 v = some v' ∧ (∀ c, c ≠ 53 → v' c = v c) ∧ (∀ j, j ≠ 4 → j ≠ 5 → v' 53 j = v 53 j) ∧ v' 53 4 = nI (rne (fun k => decide (sr B L k = s)) d i) ∧ v' 53 5 = nI (cf B s (rne (fun k => decide (sr B L k = s)) d i - i) i n) := by
  intro d
  induction d with
  | zero =>
    intro i f v n hi hf h e4 e2 e5 hn
    have hL := h.1
    obtain ⟨f, rfl⟩ : ∃ q, f = q + 1 := ⟨f - 1, by omega⟩
    refine ⟨v, ?_, fun _ _ => rfl, fun _ _ _ => rfl, e4, ?_⟩
    · rw [f_X2_nextToken_L, if_neg (by omega), if_pos rfl, h.2.1, e4, if_pos (show nI L ≤ nI i by rw [pI_le (by omega) (by omega)]; omega)]
    · rw [rne, Nat.sub_self, cf]; exact e5
  | succ d ih =>
    intro i f v n hi hf h e4 e2 e5 hn
    have hL := h.1
    obtain ⟨f, rfl⟩ : ∃ q, f = q + 1 := ⟨f - 1, by omega⟩
    rw [f_X2_nextToken_L, if_neg (by omega), if_pos rfl, h.2.1, e4, if_neg (show ¬ nI L ≤ nI i by rw [pI_le (by omega) (by omega)]; omega), x_sort h (by omega), Option.bind_some]
    simp only [e2]
    by_cases c : sr B L i = s
    · rw [if_pos c]
      have rs1 : rne (fun k => decide (sr B L k = s)) (d+1) i = rne (fun k => decide (sr B L k = s)) d (i+1) := by
        rw [rne, if_pos (by simp [c])]
      obtain ⟨r1, r2, _⟩ := rne_r (q := fun k => decide (sr B L k = s)) d (i+1)
      have step : ∀ n' v1, v1 = jx_up (jx_up v 53 5 (nI n')) 53 4 (nI (i+1)) → n' = (if s = 2 then min 1000 (10 * n + ((B i).toNatClampNeg - 48)) else 0) → 
          ∃ v', f_X2_nextToken_L f 1 v1 = some v' ∧ (∀ c, c ≠ 53 → v' c = v c) ∧ (∀ j, j ≠ 4 → j ≠ 5 → v' 53 j = v 53 j) ∧ v' 53 4 = nI (rne (fun k => decide (sr B L k = s)) (d+1) i) ∧ v' 53 5 = nI (cf B s (rne (fun k => decide (sr B L k = s)) (d+1) i - i) i n) := by
        intro n' v1 e1 en
        obtain ⟨v', g1, g2, g3, g4, g5⟩ := ih (i+1) f v1 n' (by omega) (by omega) (by rw [e1]; exact TX_up (TX_up h (by omega)) (by omega)) (by rw [e1]; exact up_s) (by rw [e1, up_g, if_neg (by omega), up_g, if_neg (by omega)]; exact e2) (by rw [e1, up_g, if_neg (by omega)]; exact up_s) (by rw [en]; split <;> omega)
        refine ⟨v', g1, fun c hc => by rw [g2 c hc, e1, jx_up_ne hc, jx_up_ne hc], fun j h4 h5 => by rw [g3 j h4 h5, e1, up_g, if_neg (by omega), up_g, if_neg (by omega)], by rw [rs1]; exact g4, ?_⟩
        rw [rs1, g5, show rne (fun k => decide (sr B L k = s)) d (i+1) - i = (rne (fun k => decide (sr B L k = s)) d (i+1) - (i+1)) + 1 by omega, cf, en]
      by_cases s2 : s = 2
      · obtain ⟨y, hy1, hy2, ey⟩ := sr2 (c.trans s2)
        rw [if_pos s2, e4]
        simp only [tn (show i < 2147483648 by omega), ib (show i < 120 by omega) (show 120 ≤ 100000 by omega), if_false, h.2.2 i (by omega), ey, e5, ten hy1, j_min, Option.bind_some, mn1000 (show 10 * n + (y - 48) < 100000 by omega)]
        refine step (min 1000 (10 * n + (y - 48))) _ ?_ ?_
        · rw [up_g, if_neg (by omega), e4, nI_add1]
        · rw [if_pos s2, ey, tn (by omega)]
      · rw [if_neg s2]
        refine step 0 _ ?_ ?_
        · rw [up_g, if_neg (by omega), e4, nI_add1]; rfl
        · rw [if_neg s2]
    · rw [if_neg c]
      have rs0 : rne (fun k => decide (sr B L k = s)) (d+1) i = i := by
        rw [rne, if_neg (by simp [c])]
      refine ⟨v, rfl, fun _ _ => rfl, fun _ _ _ => rfl, by rw [rs0]; exact e4, ?_⟩
      rw [rs0, Nat.sub_self, cf]; exact e5
theorem m_tk0 {B L} : ∀ d i f w, i + d = L → d < f → TM B L w → w 0 13 = nI i → ∃ f2, f ≤ f2 + d ∧ f_X5_token_L f 0 0 0 w = f_X5_token_L f2 0 0 0 (jx_up w 0 13 (nI (skb B d i))) := by
  intro d
  induction d with
  | zero =>
    intro i f w hi hf h e
    refine ⟨f, by omega, ?_⟩
    rw [skb, ← e, up_id]
  | succ d ih =>
    intro i f w hi hf h e
    have hL := h.1
    rw [skb]
    by_cases c : B i = 32
    · rw [if_pos c]
      obtain ⟨f, rfl⟩ : ∃ q, f = q + 1 := ⟨f - 1, by omega⟩
      obtain ⟨f2, g1, g2⟩ := ih (i+1) f (jx_up w 0 13 (nI (i+1))) (by omega) (by omega) (TM_up h (by omega)) up_s
      refine ⟨f2, by omega, ?_⟩
      rw [up_up] at g2
      have eb : bte B L i = 32 := by unfold bte; rw [if_pos (by omega)]; exact c
      rw [← g2, f_X5_token_L, if_pos rfl, e, m_byte h (by omega), Option.bind_some]
      simp only [eb, if_true, e, nI_add1]
    · rw [if_neg c, ← e, up_id]; exact ⟨f, by omega, rfl⟩
theorem m_tk1 {B L b f w} (h : TM B L w) (hb : b ≤ L) (e : w 0 13 = nI b) (hB : b < L → B b ≠ 32) : f_X5_token_L (f+1) 0 0 0 w = f_X5_token_L f 1 (if sr B L b = 1 then 1 else 0) (if sr B L b = 2 then 1 else 0) (jx_up w 0 14 (nI (if b < L then b + 1 else b))) := by
  have hL := h.1
  have eb : ¬ bte B L b = 32 := by
    unfold bte
    by_cases c : b < L
    · rw [if_pos c]; exact hB c
    · rw [if_neg c]; decide
  have i1 : (if 97 ≤ bte B L b ∧ bte B L b ≤ 122 then (1 : Int32) else 0) = if sr B L b = 1 then 1 else 0 := by simp only [lt_bt]
  have i2 : (if 48 ≤ bte B L b ∧ bte B L b ≤ 57 then (1 : Int32) else 0) = if sr B L b = 2 then 1 else 0 := by simp only [dg_bt]
  rw [f_X5_token_L, if_pos rfl, e]
  simp only [m_byte h (show b ≤ 120 by omega), Option.bind_some, if_neg eb, e, m_isLetter, m_isDigit, i1, i2, h.2.1, nI_add1]
  by_cases c : b < L
  · rw [if_neg (show ¬ nI L ≤ nI b by rw [pI_le (by omega) (by omega)]; omega), if_pos c]
  · rw [if_pos (show nI L ≤ nI b by rw [pI_le (by omega) (by omega)]; omega), if_neg c]
theorem m_tk2 {B L s} {x1 x2 : Int32} (hs : (s = 1 ∧ x1 = 1 ∧ x2 = 0) ∨ (s = 2 ∧ x1 = 0 ∧ x2 = 1)) : ∀ d i f w, i + d = L → d < f → TM B L w → w 0 14 = nI i → f_X5_token_L f 1 x1 x2 w = some (jx_up w 0 14 (nI (rne (fun k => decide (sr B L k = s)) d i))) := by
  have i1 : ∀ i, (if 97 ≤ bte B L i ∧ bte B L i ≤ 122 then (1 : Int32) else 0) = if sr B L i = 1 then 1 else 0 := fun i => by simp only [lt_bt]
  have i2 : ∀ i, (if 48 ≤ bte B L i ∧ bte B L i ≤ 57 then (1 : Int32) else 0) = if sr B L i = 2 then 1 else 0 := fun i => by simp only [dg_bt]
  intro d
  induction d with
  | zero =>
    intro i f w hi hf h e
    have hL := h.1
    obtain ⟨f, rfl⟩ : ∃ q, f = q + 1 := ⟨f - 1, by omega⟩
    have n1 : ¬ sr B L i = 1 := by rw [sr_z (by omega)]; decide
    have n2 : ¬ sr B L i = 2 := by rw [sr_z (by omega)]; decide
    rw [rne, ← e, up_id, f_X5_token_L, if_neg (by omega), if_pos rfl, e]
    rcases hs with ⟨rfl, rfl, rfl⟩ | ⟨rfl, rfl, rfl⟩
    · simp only [o10, z00, if_true, if_false, m_byte h (show i ≤ 120 by omega), Option.bind_some, m_isLetter, i1, if_neg n1]
    · simp only [o10, z00, if_true, if_false, m_byte h (show i ≤ 120 by omega), Option.bind_some, m_isDigit, i2, if_neg n2]
  | succ d ih =>
    intro i f w hi hf h e
    have hL := h.1
    obtain ⟨f, rfl⟩ : ∃ q, f = q + 1 := ⟨f - 1, by omega⟩
    have g := ih (i+1) f (jx_up w 0 14 (nI (i+1))) (by omega) (by omega) (TM_up h (by omega)) up_s
    rw [up_up] at g
    rw [rne, f_X5_token_L, if_neg (by omega), if_pos rfl, e]
    by_cases c : sr B L i = s
    · rw [if_pos (show decide (sr B L i = s) = true by simp [c])]
      rcases hs with ⟨rfl, rfl, rfl⟩ | ⟨rfl, rfl, rfl⟩
      · simp only [o10, z00, if_true, if_false, m_byte h (show i ≤ 120 by omega), Option.bind_some, m_isLetter, i1, if_pos c, e, nI_add1]; exact g
      · simp only [o10, z00, if_true, if_false, m_byte h (show i ≤ 120 by omega), Option.bind_some, m_isDigit, i2, if_pos c, e, nI_add1]; exact g
    · rw [if_neg (show ¬ decide (sr B L i = s) = true by simp [c]), ← e, up_id]
      rw [e]
      rcases hs with ⟨rfl, rfl, rfl⟩ | ⟨rfl, rfl, rfl⟩
      · simp only [o10, z00, if_true, if_false, m_byte h (show i ≤ 120 by omega), Option.bind_some, m_isLetter, i1, if_neg c]
      · simp only [o10, z00, if_true, if_false, m_byte h (show i ≤ 120 by omega), Option.bind_some, m_isDigit, i2, if_neg c]
def te (B : Nat → Int32) (L b : Nat) : Nat := if sr B L b = 3 then b + 1 else if sr B L b = 1 ∨ sr B L b = 2 then rne (fun k => decide (sr B L k = sr B L b)) (L - b) b else b
def tm (B : Nat → Int32) (L b : Nat) : Nat := if sr B L b = 1 ∨ sr B L b = 2 then rne (fun k => decide (sr B L k = sr B L b)) (L - b) b else if b < L then b + 1 else b
def nm (B : Nat → Int32) (L b : Nat) : Nat := if sr B L b = 1 ∨ sr B L b = 2 then cf B (sr B L b) (te B L b - b) b 0 else 0
theorem te_r {B L b} (h : b ≤ L) : b ≤ te B L b ∧ te B L b ≤ L := by
  unfold te
  by_cases c : sr B L b = 3
  · rw [if_pos c]
    have := sr_lt (B := B) (L := L) (b := b) (by rw [c]; decide)
    omega
  · rw [if_neg c]
    split
    · obtain ⟨a, d, _⟩ := rne_r (q := fun k => decide (sr B L k = sr B L b)) (L - b) b
      omega
    · omega
theorem tm_r {B L b} (h : b ≤ L) : b ≤ tm B L b ∧ tm B L b ≤ L := by
  unfold tm
  split
  · obtain ⟨a, d, _⟩ := rne_r (q := fun k => decide (sr B L k = sr B L b)) (L - b) b
    omega
  · split <;> omega
theorem te_tm {B L b} (h : sr B L b ≠ 4) : te B L b = tm B L b := by
  unfold te tm
  by_cases c : sr B L b = 3
  · have := sr_lt (B := B) (L := L) (b := b) (by rw [c]; decide)
    rw [if_pos c, if_neg (by rw [c]; decide), if_pos this]
  · rw [if_neg c]
    by_cases d : sr B L b = 1 ∨ sr B L b = 2
    · rw [if_pos d, if_pos d]
    · rw [if_neg d, if_neg d]
      by_cases f : b < L
      · exfalso
        unfold sr at h c d
        rw [if_pos f] at h c d
        split at h
        · rename_i x; rw [if_pos x] at d; exact d (Or.inl rfl)
        · rename_i x
          rw [if_neg x] at c d
          split at h
          · rename_i y; rw [if_pos y] at d; exact d (Or.inr rfl)
          · rename_i y
            rw [if_neg y] at c
            split at h
            · rename_i z; rw [if_pos z] at c; exact c rfl
            · exact h rfl
      · rw [if_neg f]
theorem rne_s {q : Nat → Bool} {L b : Nat} (h : b < L) (hq : q b = true) : rne q (L - b) b = rne q (L - (b + 1)) (b + 1) := by
  rw [show L - b = (L - (b + 1)) + 1 by omega, rne, if_pos hq]
theorem te_gt {B L b} (h : sr B L b = 1 ∨ sr B L b = 2 ∨ sr B L b = 3) : b < te B L b := by
  have hl : b < L := sr_lt (by rcases h with c | c | c <;> rw [c] <;> decide)
  unfold te
  by_cases c : sr B L b = 3
  · rw [if_pos c]; omega
  · rw [if_neg c]
    have d : sr B L b = 1 ∨ sr B L b = 2 := by
      rcases h with x | x | x
      · exact Or.inl x
      · exact Or.inr x
      · exact absurd x c
    rw [if_pos d, rne_s hl (by simp)]
    have := (rne_r (q := fun k => decide (sr B L k = sr B L b)) (L - (b + 1)) (b + 1)).1
    omega
theorem x_nxt {B L e v} (h : TX B L v) (he : e ≤ L) (e4 : v 53 4 = nI e) : ∃ v', f_X2_nextToken v = some v' ∧ (∀ c, c ≠ 53 → v' c = v c) ∧ v' 53 1 = v 53 1 ∧ v' 53 6 = v 53 6 ∧ v' 53 3 = nI (skb B (L - e) e) ∧ v' 53 2 = sr B L (skb B (L - e) e) ∧ v' 53 4 = nI (te B L (skb B (L - e) e)) ∧ v' 53 5 = nI (nm B L (skb B (L - e) e)) := by
  have hL := h.1
  obtain ⟨f2, g1, g2⟩ := x_nt0 (B := B) (L := L) (L - e) e 100000 v (by omega) (by omega) h e4
  obtain ⟨s1, s2, s3⟩ := skb_r (B := B) (L - e) e
  obtain ⟨f2, rfl⟩ : ∃ q, f2 = q + 1 := ⟨f2 - 1, by omega⟩
  unfold f_X2_nextToken
  generalize skb B (L - e) e = b at *
  have h1 : TX B L (jx_up v 53 4 (nI b)) := TX_up h (by omega)
  rw [g2, x_nt1 h1 (by omega) up_s (fun k => s3 (by omega))]
  have V2 : VV B L b (jx_up v 53 4 (nI b)) 53 2 = sr B L b := by unfold VV; rw [up_g, if_neg (by omega), up_s]
  have V3 : VV B L b (jx_up v 53 4 (nI b)) 53 3 = nI b := by unfold VV; rw [up_g, if_neg (by omega), up_g, if_neg (by omega), up_s]
  have V4 : VV B L b (jx_up v 53 4 (nI b)) 53 4 = nI b := by unfold VV; rw [up_g, if_neg (by omega), up_g, if_neg (by omega), up_g, if_neg (by omega), up_s]
  have V5 : VV B L b (jx_up v 53 4 (nI b)) 53 5 = 0 := by unfold VV; rw [up_s]
  have V1 : VV B L b (jx_up v 53 4 (nI b)) 53 1 = v 53 1 := by unfold VV; rw [up_g, if_neg (by omega), up_g, if_neg (by omega), up_g, if_neg (by omega), up_g, if_neg (by omega)]
  have V6 : VV B L b (jx_up v 53 4 (nI b)) 53 6 = v 53 6 := by unfold VV; rw [up_g, if_neg (by omega), up_g, if_neg (by omega), up_g, if_neg (by omega), up_g, if_neg (by omega)]
  have Vc : ∀ c, c ≠ 53 → VV B L b (jx_up v 53 4 (nI b)) c = v c := fun c hc => by unfold VV; rw [jx_up_ne hc, jx_up_ne hc, jx_up_ne hc, jx_up_ne hc]
  have VT : TX B L (VV B L b (jx_up v 53 4 (nI b))) := TX_up (TX_up (TX_up h1 (by omega)) (by omega)) (by omega)
  generalize VV B L b (jx_up v 53 4 (nI b)) = V at *
  by_cases c3 : sr B L b = 3
  · rw [if_pos c3]
    refine ⟨_, rfl, fun c hc => by rw [jx_up_ne hc]; exact Vc c hc, by rw [up_g, if_neg (by omega)]; exact V1, by rw [up_g, if_neg (by omega)]; exact V6, by rw [up_g, if_neg (by omega)]; exact V3, by rw [up_g, if_neg (by omega)]; exact V2, ?_, ?_⟩
    · rw [up_s]; unfold te; rw [if_pos c3]
    · rw [up_g, if_neg (by omega), V5]; unfold nm; rw [if_neg (by rw [c3]; decide)]; rfl
  · rw [if_neg c3]
    by_cases c12 : sr B L b = 1 ∨ sr B L b = 2
    · obtain ⟨v', r1, r2, r3, r4, r5⟩ := x_nt2 (B := B) (L := L) (s := sr B L b) c12 (L - b) b f2 V 0 (by omega) (by omega) VT V4 V2 V5 (by omega)
      refine ⟨v', ?_, fun c hc => by rw [r2 c hc]; exact Vc c hc, by rw [r3 1 (by omega) (by omega)]; exact V1, by rw [r3 6 (by omega) (by omega)]; exact V6, by rw [r3 3 (by omega) (by omega)]; exact V3, by rw [r3 2 (by omega) (by omega)]; exact V2, ?_, ?_⟩
      · rcases c12 with x | x
        · rw [if_pos x]; exact r1
        · rw [if_neg (by rw [x]; decide), if_pos x]; exact r1
      · rw [r4]; unfold te; rw [if_neg c3, if_pos c12]
      · rw [r5]; unfold nm te; rw [if_pos c12, if_neg c3, if_pos c12]
    · rw [if_neg (fun k => c12 (Or.inl k)), if_neg (fun k => c12 (Or.inr k))]
      refine ⟨V, rfl, Vc, V1, V6, V3, V2, ?_, ?_⟩
      · rw [V4]; unfold te; rw [if_neg c3, if_neg c12]
      · rw [V5]; unfold nm; rw [if_neg c12]; rfl
theorem m_nxt {B L e w} (h : TM B L w) (he : e ≤ L) (e4 : w 0 14 = nI e) : ∃ w', f_X5_token w = some w' ∧ (∀ c, c ≠ 0 → w' c = w c) ∧ (∀ j, j ≠ 13 → j ≠ 14 → w' 0 j = w 0 j) ∧ w' 0 13 = nI (skb B (L - e) e) ∧ w' 0 14 = nI (tm B L (skb B (L - e) e)) := by
  have hL := h.1
  have h0 : TM B L (jx_up w 0 13 (nI e)) := TM_up h (by omega)
  obtain ⟨f2, g1, g2⟩ := m_tk0 (B := B) (L := L) (L - e) e 100000 (jx_up w 0 13 (nI e)) (by omega) (by omega) h0 up_s
  obtain ⟨s1, s2, s3⟩ := skb_r (B := B) (L - e) e
  obtain ⟨f2, rfl⟩ : ∃ q, f2 = q + 1 := ⟨f2 - 1, by omega⟩
  unfold f_X5_token
  rw [e4]
  generalize skb B (L - e) e = b at *
  rw [up_up] at g2
  have h1 : TM B L (jx_up w 0 13 (nI b)) := TM_up h (by omega)
  rw [g2, m_tk1 h1 (by omega) up_s (fun k => s3 (by omega))]
  by_cases c12 : sr B L b = 1 ∨ sr B L b = 2
  · have hb : b < L := sr_lt (by rcases c12 with x | x <;> rw [x] <;> decide)
    rw [if_pos hb]
    rw [m_tk2 (B := B) (L := L) (s := sr B L b) (by
      rcases c12 with x | x
      · exact Or.inl ⟨x, if_pos x, if_neg (by rw [x]; decide)⟩
      · exact Or.inr ⟨x, if_neg (by rw [x]; decide), if_pos x⟩) (L - (b+1)) (b+1) f2 _ (by omega) (by omega) (TM_up h1 (by omega)) up_s, up_up]
    refine ⟨_, rfl, fun c hc => by rw [jx_up_ne hc, jx_up_ne hc], fun j a b => by rw [up_g, if_neg (by omega), up_g, if_neg (by omega)], by rw [up_g, if_neg (by omega), up_s], ?_⟩
    rw [up_s]; unfold tm; rw [if_pos c12, rne_s hb (by simp)]
  · obtain ⟨f2, rfl⟩ : ∃ q, f2 = q + 1 := ⟨f2 - 1, by omega⟩
    rw [if_neg (fun k => c12 (Or.inl k)), if_neg (fun k => c12 (Or.inr k)), f_X5_token_L, if_neg (by omega), if_pos rfl, if_pos rfl, if_pos rfl]
    refine ⟨_, rfl, fun c hc => by rw [jx_up_ne hc, jx_up_ne hc], fun j a b => by rw [up_g, if_neg (by omega), up_g, if_neg (by omega)], by rw [up_g, if_neg (by omega), up_s], ?_⟩
    rw [up_s]; unfold tm; rw [if_neg c12]
theorem tok_s {B L b s} (hs : s = 1 ∨ s = 2) (h : sr B L b = s) : ∀ i, b ≤ i → i < te B L b → sr B L i = s := by
  intro i h1 h2
  unfold te at h2
  rw [if_neg (by rw [h]; rcases hs with x | x <;> rw [x] <;> decide), if_pos (by rw [h]; exact hs), h] at h2
  have := (rne_r (q := fun k => decide (sr B L k = s)) (L - b) b).2.2 i h1 h2
  exact of_decide_eq_true this
def hN (C : Nat → Nat) : Nat → Nat
  | 0 => 0
  | m + 1 => if 36028797018963967 < hN C m then hN C m else 32 * hN C m + C m
theorem hN_b {C} : ∀ m, (∀ i, i < m → C i ≤ 26) → hN C m ≤ 1152921504606846970
  | 0, _ => Nat.zero_le _
  | m + 1, h => by
    rw [hN]
    have h1 := hN_b (C := C) m (fun i hi => h i (by omega))
    have h2 := h m (by omega)
    split <;> omega
def cdL : List Nat → Nat
  | [] => 0
  | c :: l => 32 * cdL l + c
theorem hN_c {C : Nat → Nat} : ∀ (l : List Nat) (m : Nat), (∀ c ∈ l, 1 ≤ c ∧ c ≤ 26) → cdL l < 36028797018963967 → (∀ i, i < m → 1 ≤ C i ∧ C i ≤ 26) → (hN C m = cdL l ↔ m = l.length ∧ ∀ i, i < m → C i = l.getD (m - 1 - i) 0)
  | [], 0, _, _, _ => ⟨fun _ => ⟨rfl, fun i hi => by omega⟩, fun _ => rfl⟩
  | [], m + 1, _, _, hC => by
    have := (hC m (by omega)).1
    rw [hN, cdL]
    constructor
    · intro h
      split at h <;> omega
    · intro h; exact absurd h.1 (by simp)
  | c :: l, 0, hl, _, _ => by
    have := (hl c (by simp)).1
    rw [hN, cdL]
    constructor
    · intro h; omega
    · intro h; exact absurd h.1 (by simp)
  | c :: l, m + 1, hl, hb, hC => by
    have hc := hl c (by simp)
    have hm := hC m (by omega)
    rw [cdL] at hb
    have ih := hN_c (C := C) l m (fun x hx => hl x (by simp [hx])) (by omega) (fun i hi => hC i (by omega))
    have key : (m + 1 = (c :: l).length ∧ ∀ i, i < m + 1 → C i = (c :: l).getD (m + 1 - 1 - i) 0) ↔ (C m = c ∧ m = l.length ∧ ∀ i, i < m → C i = l.getD (m - 1 - i) 0) := by
      constructor
      · intro ⟨h1, h2⟩
        refine ⟨?_, by simpa using h1, fun i hi => ?_⟩
        · have := h2 m (by omega)
          rw [show m + 1 - 1 - m = 0 by omega, List.getD_cons_zero] at this
          exact this
        · have := h2 i (by omega)
          rw [show m + 1 - 1 - i = (m - 1 - i) + 1 by omega, List.getD_cons_succ] at this
          exact this
      · intro ⟨h0, h1, h2⟩
        refine ⟨by simp [h1], fun i hi => ?_⟩
        by_cases e : i = m
        · rw [e, show m + 1 - 1 - m = 0 by omega, List.getD_cons_zero]; exact h0
        · rw [show m + 1 - 1 - i = (m - 1 - i) + 1 by omega, List.getD_cons_succ]; exact h2 i (by omega)
    rw [key, ← ih, hN, cdL]
    by_cases big : 36028797018963967 < hN C m
    · rw [if_pos big]; constructor
      · intro h; omega
      · intro h; omega
    · rw [if_neg big]; constructor
      · intro h; constructor <;> omega
      · intro h; omega
def cdn : List Nat := [2552, 673957, 630948, 553136178, 24749811143, 8902245, 21486770, 52, 486, 271592, 16819668, 781652471, 12769452, 23609, 6642, 17376357, 3544114]
def lk (k : Nat) : List Nat := ((ex_byt.getD k []).map (fun x => x.toNatClampNeg - 96)).reverse
theorem lk_1 : ∀ k, k < 17 → ∀ c ∈ lk k, 1 ≤ c ∧ c ≤ 26 := by decide +kernel
theorem lk_2 : ∀ k, k < 17 → cdL (lk k) = cdn.getD k 0 ∧ cdL (lk k) < 36028797018963967 ∧ (lk k).length = ex_len.getD k 0 ∧ ex_len.getD k 0 ≤ 7 ∧ 0 < cdn.getD k 0 := by decide +kernel
theorem lk_3 : ∀ k, k < 17 → ∀ i, i < ex_len.getD k 0 → (lk k).getD (ex_len.getD k 0 - 1 - i) 0 = ((ex_byt.getD k []).getD i 0).toNatClampNeg - 96 ∧ 97 ≤ (ex_byt.getD k []).getD i 0 ∧ (ex_byt.getD k []).getD i 0 ≤ 122 := by decide +kernel
def mt (B : Nat → Int32) (L b k : Nat) : Bool := decide (sr B L b = 1 ∧ te B L b - b = ex_len.getD k 0 ∧ ∀ i, i < ex_len.getD k 0 → B (b + i) = (ex_byt.getD k []).getD i 0)
def PR (B : Nat → Int32) (L : Nat) (g : Bool) (b : Nat) (v w : jx_V) : Prop := TX B L v ∧ TM B L w ∧ b ≤ L ∧ v 53 3 = nI b ∧ w 0 13 = nI b ∧ v 53 2 = sr B L b ∧ v 53 4 = nI (te B L b) ∧ w 0 14 = nI (tm B L b) ∧ v 53 5 = nI (nm B L b) ∧ (g = true → v 53 6 = -1 ∧ w 0 16 = 0) ∧ (g = false → v 53 6 = nI b ∧ w 0 16 = 1)
theorem x_isw_L {B L b k v} (hk : k < 17) (h : TX B L v) (e3 : v 53 3 = nI b) (hb : b + ex_len.getD k 0 ≤ 120) : ∀ d i f, i + d = ex_len.getD k 0 → d < f → (∀ j, j < i → B (b + j) = (ex_byt.getD k []).getD j 0) → f_X2_isWord_L k f (nI i) v = some (if ∀ j, j < ex_len.getD k 0 → B (b + j) = (ex_byt.getD k []).getD j 0 then 1 else 0, v) := by
  obtain ⟨_, _, _, l7, _⟩ := lk_2 k hk
  intro d
  induction d with
  | zero =>
    intro i f hi hf hj
    obtain ⟨f, rfl⟩ : ∃ q, f = q + 1 := ⟨f - 1, by omega⟩
    rw [f_X2_isWord_L]
    unfold f_J0_length_8abf5
    rw [Option.bind_some]
    simp only []
    rw [if_pos (show nI (ex_len.getD k 0) ≤ nI i by rw [pI_le (by omega) (by omega)]; omega), if_pos (fun j hj' => hj j (by omega))]
  | succ d ih =>
    intro i f hi hf hj
    obtain ⟨f, rfl⟩ : ∃ q, f = q + 1 := ⟨f - 1, by omega⟩
    rw [f_X2_isWord_L]
    unfold f_J0_length_8abf5 f_J0_charAt_5068e
    rw [Option.bind_some]
    simp only [e3, pI_add, tn (show b + i < 2147483648 by omega), ib (show b + i < 120 by omega) (show 120 ≤ 100000 by omega), tn (show i < 2147483648 by omega), ib (show i < ex_len.getD k 0 by omega) (show ex_len.getD k 0 ≤ 100000 by omega), if_false, Option.bind_some, h.2.2 (b + i) (by omega), nI_add1]
    rw [if_neg (show ¬ nI (ex_len.getD k 0) ≤ nI i by rw [pI_le (by omega) (by omega)]; omega)]
    by_cases c : B (b + i) = (ex_byt.getD k []).getD i 0
    · rw [if_pos c]
      refine ih (i+1) f (by omega) (by omega) (fun j hj' => ?_)
      by_cases e : j = i
      · rw [e]; exact c
      · exact hj j (by omega)
    · rw [if_neg c, if_neg (fun q => c (q i (by omega)))]
theorem x_isw {B L g b v w} (p : PR B L g b v w) {k : Nat} (hk : k < 17) : f_X2_isWord k v = some (if mt B L b k = true then 1 else 0, v) := by
  obtain ⟨h, _, hb, e3, _, e2, e4, _⟩ := p
  obtain ⟨_, _, _, l7, _⟩ := lk_2 k hk
  obtain ⟨t1, t2⟩ := te_r (B := B) hb
  have hL := h.1
  unfold f_X2_isWord
  rw [e2]
  by_cases c : sr B L b = 1
  · rw [if_pos c]
    unfold f_J0_length_8abf5
    rw [Option.bind_some]
    simp only [e3, e4, nI_sub t1]
    by_cases c2 : te B L b - b = ex_len.getD k 0
    · rw [if_pos (by rw [c2])]
      have := x_isw_L hk h e3 (by omega) (ex_len.getD k 0) 0 100000 (by omega) (by omega) (fun j hj => by omega)
      rw [show nI 0 = 0 from rfl] at this
      rw [this]
      by_cases c3 : ∀ j, j < ex_len.getD k 0 → B (b + j) = (ex_byt.getD k []).getD j 0
      · rw [if_pos c3, if_pos (show mt B L b k = true from decide_eq_true ⟨c, c2, c3⟩)]
      · rw [if_neg c3, if_neg (show ¬ mt B L b k = true from fun q => c3 (of_decide_eq_true q).2.2)]
    · rw [if_neg (show ¬ nI (te B L b - b) = nI (ex_len.getD k 0) by rw [pI_eq (by omega) (by omega)]; exact c2), if_neg (show ¬ mt B L b k = true from fun q => c2 (of_decide_eq_true q).2.1)]
  · rw [if_neg c, if_neg (show ¬ mt B L b k = true from fun q => c (of_decide_eq_true q).1)]
theorem lgc {a K : Nat} (ha : a < 4611686018427387904) (hK : K < 4611686018427387904) : lg_cmp (Int64.ofNat a) (Int64.ofNat K) = if K < a then 1 else if a = K then 0 else -1 := by
  have i1 : (Int64.ofNat a).toInt = a := Int64.toInt_ofNat_of_lt (by omega)
  have i2 : (Int64.ofNat K).toInt = K := Int64.toInt_ofNat_of_lt (by omega)
  have e1 : (Int64.ofNat a > Int64.ofNat K) = (K < a) := by
    apply propext
    show (Int64.ofNat K < Int64.ofNat a) ↔ _
    rw [Int64.lt_iff_toInt_lt, i1, i2]; omega
  have e2 : (Int64.ofNat a = Int64.ofNat K) = (a = K) := by
    apply propext
    constructor
    · intro h
      have := congrArg Int64.toInt h
      rw [i1, i2] at this; omega
    · intro h; rw [h]
  unfold lg_cmp
  simp only [e1, e2]
theorem lgc0 {a K : Nat} (ha : a < 4611686018427387904) (hK : K < 4611686018427387904) : (lg_cmp (Int64.ofNat a) (Int64.ofNat K) = 0) = (a = K) := by
  rw [lgc ha hK]
  apply propext
  by_cases c : K < a
  · rw [if_pos c]; exact ⟨fun k => absurd k (by decide), fun k => by omega⟩
  · rw [if_neg c]
    by_cases d : a = K
    · rw [if_pos d]; exact ⟨fun _ => d, fun _ => rfl⟩
    · rw [if_neg d]; exact ⟨fun k => absurd k (by decide), fun k => absurd k d⟩
theorem lgcl {a K : Nat} (ha : a < 4611686018427387904) (hK : K < 4611686018427387904) : (lg_cmp (Int64.ofNat a) (Int64.ofNat K) ≤ 0) = (a ≤ K) := by
  rw [lgc ha hK]
  apply propext
  by_cases c : K < a
  · rw [if_pos c]; exact ⟨fun k => absurd k (by decide), fun k => by omega⟩
  · rw [if_neg c]
    split
    · exact ⟨fun _ => by omega, fun _ => by decide⟩
    · exact ⟨fun _ => by omega, fun _ => by decide⟩
theorem t64 {c : Nat} (hc : c < 2147483648) : Int32.toInt64 (nI c) = Int64.ofNat c := by
  apply Int64.toInt_inj.mp
  rw [Int32.toInt_toInt64, pI_toInt hc, Int64.toInt_ofNat_of_lt (by omega)]
theorem hstep {h y : Nat} (hy : 97 ≤ y) (hy2 : y ≤ 122) : 32 * Int64.ofNat h + Int32.toInt64 (nI y - 96) = Int64.ofNat (32 * h + (y - 96)) := by
  rw [show (96 : Int32) = nI 96 from rfl, nI_sub (by omega), t64 (by omega), show (32 : Int64) = Int64.ofNat 32 from rfl, ← Int64.ofNat_mul, ← Int64.ofNat_add]
def Cb (B : Nat → Int32) (b i : Nat) : Nat := (B (b + i)).toNatClampNeg - 96
theorem Cb_r {B L b} (h : sr B L b = 1) : ∀ i, i < te B L b - b → 1 ≤ Cb B b i ∧ Cb B b i ≤ 26 := by
  intro i hi
  obtain ⟨y, h1, h2, e⟩ := sr1 (tok_s (Or.inl rfl) h (b + i) (by omega) (by omega))
  unfold Cb
  rw [e, tn (by omega)]; omega
theorem m_wl {B L b w} (h : TM B L w) (hb : b ≤ L) (e13 : w 0 13 = nI b) (e14 : w 0 14 = nI (tm B L b)) : ∀ d i f x, i + d = tm B L b → b ≤ i → d < f →
    ∃ y, f_X5_word_L f x (nI i) w = some (if w 0 16 = 0 ∧ sr B L b = 1 then y else 0, w) ∧ (sr B L b = 1 → x = Int64.ofNat (hN (Cb B b) (i - b)) → y = Int64.ofNat (hN (Cb B b) (tm B L b - b))) := by
  have hL := h.1
  obtain ⟨t1, t2⟩ := tm_r (B := B) hb
  intro d
  induction d with
  | zero =>
    intro i f x hi hbi hf
    obtain ⟨f, rfl⟩ : ∃ q, f = q + 1 := ⟨f - 1, by omega⟩
    obtain rfl : i = tm B L b := by omega
    refine ⟨x, ?_, fun _ e => e⟩
    rw [f_X5_word_L, e14, if_pos (Int32.le_refl _)]
    by_cases c : w 0 16 = 0
    · rw [if_pos c, e13, m_byte h (by omega), Option.bind_some]
      simp only [m_isLetter, Option.bind_some, lt_bt]
      by_cases c2 : sr B L b = 1
      · rw [if_pos c2, if_neg i10, if_pos ⟨c, c2⟩]
      · rw [if_neg c2, if_pos i00, if_neg (fun k => c2 k.2)]
    · rw [if_neg c, if_neg (fun k => c k.1)]
  | succ d ih =>
    intro i f x hi hbi hf
    obtain ⟨f, rfl⟩ : ∃ q, f = q + 1 := ⟨f - 1, by omega⟩
    rw [f_X5_word_L, e14, if_neg (show ¬ nI (tm B L b) ≤ nI i by rw [pI_le (by omega) (by omega)]; omega)]
    simp only [tn (show i < 2147483648 by omega), ib (show i < 120 by omega) (show 120 ≤ 100000 by omega), if_false, h.2.2 i (by omega), nI_add1]
    have bnd : sr B L b = 1 → hN (Cb B b) (i - b) < 4611686018427387904 := fun s => by
      have q := te_tm (B := B) (L := L) (b := b) (by rw [s]; decide)
      have := hN_b (C := Cb B b) (i - b) (fun j hj => (Cb_r s j (by omega)).2)
      omega
    by_cases c : lg_cmp x 36028797018963967 ≤ 0
    · rw [if_pos c]
      obtain ⟨y, g1, g2⟩ := ih (i+1) f (32 * x + Int32.toInt64 (B i - 96)) (by omega) (by omega) (by omega)
      refine ⟨y, g1, fun s e => g2 s ?_⟩
      have q := te_tm (B := B) (L := L) (b := b) (by rw [s]; decide)
      obtain ⟨z, hz1, hz2, ez⟩ := sr1 (tok_s (Or.inl rfl) s i hbi (by omega))
      rw [e, show (36028797018963967 : Int64) = Int64.ofNat 36028797018963967 from rfl, lgcl (bnd s) (by omega)] at c
      rw [e, ez, hstep hz1 hz2, show i + 1 - b = (i - b) + 1 by omega, hN, if_neg (by omega)]
      congr 2
      unfold Cb
      rw [show b + (i - b) = i by omega, ez, tn (by omega)]
    · rw [if_neg c]
      obtain ⟨y, g1, g2⟩ := ih (i+1) f x (by omega) (by omega) (by omega)
      refine ⟨y, g1, fun s e => g2 s ?_⟩
      rw [e, show (36028797018963967 : Int64) = Int64.ofNat 36028797018963967 from rfl, lgcl (bnd s) (by omega)] at c
      rw [e, show i + 1 - b = (i - b) + 1 by omega, hN, if_pos (by omega)]
theorem mt_h {B L b k} (hk : k < 17) (s : sr B L b = 1) : (hN (Cb B b) (tm B L b - b) = cdn.getD k 0) ↔ mt B L b k = true := by
  obtain ⟨k1, k2, k3, k4, k5⟩ := lk_2 k hk
  rw [← te_tm (B := B) (L := L) (b := b) (by rw [s]; decide), ← k1, hN_c (lk k) (te B L b - b) (lk_1 k hk) k2 (Cb_r s), k3]
  have key : ∀ i, i < te B L b - b → i < ex_len.getD k 0 → ((Cb B b i = (lk k).getD (ex_len.getD k 0 - 1 - i) 0) ↔ B (b + i) = (ex_byt.getD k []).getD i 0) := by
    intro i h1 h2
    obtain ⟨l1, l2⟩ := lk_3 k hk i h2
    obtain ⟨z, hz1, hz2, ez⟩ := ltr l2
    obtain ⟨y, hy1, hy2, ey⟩ := sr1 (tok_s (Or.inl rfl) s (b + i) (by omega) (by omega))
    unfold Cb
    rw [l1, ez, ey, tn (by omega), tn (by omega), pI_eq (by omega) (by omega)]
    omega
  constructor
  · intro ⟨h1, h2⟩
    refine decide_eq_true ⟨s, h1, fun i hi => (key i (by omega) hi).mp ?_⟩
    have := h2 i (by omega)
    rw [h1] at this
    exact this
  · intro h
    obtain ⟨_, h1, h2⟩ := of_decide_eq_true h
    refine ⟨h1, fun i hi => ?_⟩
    rw [h1]
    exact (key i hi (by omega)).mpr (h2 i (by omega))
theorem m_word {B L g b v w} (p : PR B L g b v w) : ∃ hh, f_X5_word w = some (hh, w) ∧ ∀ k, k < 17 → ∀ x : Int64, x = Int64.ofNat (cdn.getD k 0) → ((lg_cmp hh x = 0) = (g = true ∧ mt B L b k = true)) := by
  obtain ⟨_, h, hb, _, e13, _, _, e14, _, g1, g0⟩ := p
  obtain ⟨t1, t2⟩ := tm_r (B := B) hb
  have hL := h.1
  obtain ⟨y, w1, w2⟩ := m_wl h hb e13 e14 (tm B L b - b) b 100000 0 (by omega) (by omega) (by omega)
  unfold f_X5_word
  rw [e13, w1]
  refine ⟨_, rfl, fun k hk x ex => ?_⟩
  subst ex
  obtain ⟨k1, k2, k3, k4, k5⟩ := lk_2 k hk
  apply propext
  cases g with
  | false =>
    have e := (g0 rfl).2
    rw [if_neg (by rw [e]; exact fun k => absurd k.1 (by decide)), show (0 : Int64) = Int64.ofNat 0 from rfl, lgc0 (by omega) (by omega)]
    exact ⟨fun q => by omega, fun q => absurd q.1 (by decide)⟩
  | true =>
    have e := (g1 rfl).2
    by_cases s : sr B L b = 1
    · have q := te_tm (B := B) (L := L) (b := b) (by rw [s]; decide)
      have hy := w2 s (by rw [Nat.sub_self]; rfl)
      have bd := hN_b (C := Cb B b) (tm B L b - b) (fun j hj => (Cb_r s j (by omega)).2)
      rw [if_pos ⟨e, s⟩, hy, lgc0 (by omega) (by omega), mt_h hk s]
      exact ⟨fun q => ⟨rfl, q⟩, fun q => q.2⟩
    · rw [if_neg (fun q => s q.2), show (0 : Int64) = Int64.ofNat 0 from rfl, lgc0 (by omega) (by omega)]
      exact ⟨fun q => by omega, fun q => absurd (of_decide_eq_true q.2).1 s⟩
def XF (v v' : jx_V) : Prop := ∀ c, c ≠ 53 → v' c = v c
def MF (w w' : jx_V) : Prop := (∀ c, c ≠ 0 → w' c = w c) ∧ ∀ j, j < 13 → w' 0 j = w 0 j
theorem XF_r {v} : XF v v := fun _ _ => rfl
theorem XF_t {u v w} (a : XF u v) (b : XF v w) : XF u w := fun c h => (b c h).trans (a c h)
theorem MF_r {v} : MF v v := ⟨fun _ _ => rfl, fun _ _ => rfl⟩
theorem MF_t {u v w} (a : MF u v) (b : MF v w) : MF u w := ⟨fun c h => (b.1 c h).trans (a.1 c h), fun c h => (b.2 c h).trans (a.2 c h)⟩
theorem MF_u {w j x} (h : 13 ≤ j) : MF w (jx_up w 0 j x) := ⟨fun c hc => jx_up_ne hc, fun i hi => by rw [up_g, if_neg (by omega)]⟩
theorem XF_u {v j x} : XF v (jx_up v 53 j x) := fun c hc => jx_up_ne hc
theorem m1n : ¬ (0 : Int32) ≤ -1 := by decide
theorem PR_15 {B L g b v w x} (p : PR B L g b v w) : PR B L g b v (jx_up w 0 15 x) := by
  obtain ⟨h1, h2, h3, h4, h5, h6, h7, h8, h9, h10, h11⟩ := p
  refine ⟨h1, TM_up h2 (by omega), h3, h4, ?_, h6, h7, ?_, h9, fun q => ⟨(h10 q).1, ?_⟩, fun q => ⟨(h11 q).1, ?_⟩⟩
  · rw [up_g, if_neg (by omega)]; exact h5
  · rw [up_g, if_neg (by omega)]; exact h8
  · rw [up_g, if_neg (by omega)]; exact (h10 q).2
  · rw [up_g, if_neg (by omega)]; exact (h11 q).2
theorem n_bad {w : jx_V} (x : Int32) (h : w 0 16 = 1) : f_X5_needs x w = some (jx_up w 0 16 1) := by
  unfold f_X5_needs
  rw [if_neg (by rw [h]; decide), if_neg (by rw [up_s]; decide)]
theorem n_0 {w : jx_V} (h : w 0 16 = 0) : f_X5_needs 0 w = some (jx_up w 0 16 1) := by
  unfold f_X5_needs
  rw [if_pos h, if_pos rfl, if_neg (by rw [up_s]; decide)]
theorem n_1 {w : jx_V} (h : w 0 16 = 0) : f_X5_needs 1 w = f_X5_token w := by
  unfold f_X5_needs
  rw [if_pos h, if_neg i10, if_pos up_s, ← h, up_id]
  cases f_X5_token w <;> rfl
theorem step_ok {B L b v w} (p : PR B L true b v w) (s : sr B L b ≠ 4) : ∃ v' w' b', f_X2_nextToken v = some v' ∧ f_X5_needs 1 w = some w' ∧ PR B L true b' v' w' ∧ te B L b ≤ b' ∧ XF v v' ∧ MF w w' ∧ w' 0 15 = w 0 15 := by
  obtain ⟨h1, h2, h3, h4, h5, h6, h7, h8, h9, h10, _⟩ := p
  obtain ⟨t1, t2⟩ := te_r (B := B) h3
  obtain ⟨f6, f16⟩ := h10 rfl
  obtain ⟨v', a1, a2, a3, a4, a5, a6, a7, a8⟩ := x_nxt h1 t2 h7
  obtain ⟨w', b1, b2, b3, b4, b5⟩ := m_nxt h2 t2 (by rw [te_tm s]; exact h8)
  obtain ⟨k1, k2, _⟩ := skb_r (B := B) (L - te B L b) (te B L b)
  have m : MF w w' := ⟨b2, fun j hj => b3 j (by omega) (by omega)⟩
  refine ⟨v', w', skb B (L - te B L b) (te B L b), a1, by rw [n_1 f16]; exact b1, ⟨⟨h1.1, by rw [a3]; exact h1.2.1, fun i hi => by rw [a2 54 (by omega)]; exact h1.2.2 i hi⟩, ⟨h2.1, by rw [m.2 12 (by omega)]; exact h2.2.1, fun i hi => by rw [b2 8 (by omega)]; exact h2.2.2 i hi⟩, by omega, a5, b4, a6, a7, b5, a8, fun _ => ⟨by rw [a4]; exact f6, by rw [b3 16 (by omega) (by omega)]; exact f16⟩, fun q => absurd q (by decide)⟩, k1, a2, m, b3 15 (by omega) (by omega)⟩
theorem PR_f {B L b v w} (p : PR B L false b v w) : f_X2_failHere v = some v ∧ 0 ≤ v 53 6 := by
  obtain ⟨h1, h2, h3, h4, h5, h6, h7, h8, h9, _, h11⟩ := p
  have hL := h1.1
  have q : 0 ≤ v 53 6 := by rw [(h11 rfl).1]; exact pI_pos (by omega)
  unfold f_X2_failHere
  exact ⟨if_pos q, q⟩
theorem PR_n {B L b v w} (p : PR B L false b v w) : PR B L false b v (jx_up w 0 16 1) := by
  obtain ⟨h1, h2, h3, h4, h5, h6, h7, h8, h9, h10, h11⟩ := p
  refine ⟨h1, TM_up h2 (by omega), h3, h4, ?_, h6, h7, ?_, h9, fun q => absurd q (by decide), fun q => ⟨(h11 q).1, up_s⟩⟩
  · rw [up_g, if_neg (by omega)]; exact h5
  · rw [up_g, if_neg (by omega)]; exact h8
theorem step_bad {B L g b v w} (p : PR B L g b v w) : ∃ v' w', f_X2_failHere v = some v' ∧ f_X5_needs 0 w = some w' ∧ PR B L false b v' w' ∧ XF v v' ∧ MF w w' ∧ w' 0 15 = w 0 15 := by
  cases g with
  | false => exact ⟨v, _, (PR_f p).1, n_bad 0 (p.2.2.2.2.2.2.2.2.2.2 rfl).2, PR_n p, XF_r, MF_u (by omega), by rw [up_g, if_neg (by omega)]⟩
  | true =>
    obtain ⟨h1, h2, h3, h4, h5, h6, h7, h8, h9, h10, h11⟩ := p
    obtain ⟨f6, f16⟩ := h10 rfl
    refine ⟨jx_up v 53 6 (nI b), jx_up w 0 16 1, ?_, n_0 f16, ⟨TX_up h1 (by omega), TM_up h2 (by omega), h3, ?_, ?_, ?_, ?_, ?_, ?_, fun q => absurd q (by decide), fun q => ⟨up_s, up_s⟩⟩, XF_u, MF_u (by omega), by rw [up_g, if_neg (by omega)]⟩
    · unfold f_X2_failHere; rw [if_neg (by rw [f6]; exact m1n), h4]
    · rw [up_g, if_neg (by omega)]; exact h4
    · rw [up_g, if_neg (by omega)]; exact h5
    · rw [up_g, if_neg (by omega)]; exact h6
    · rw [up_g, if_neg (by omega)]; exact h7
    · rw [up_g, if_neg (by omega)]; exact h8
    · rw [up_g, if_neg (by omega)]; exact h9
theorem ibo {c : Prop} [Decidable c] {α : Type} {a b : Option jx_V} {F : jx_V → Option α} : (if c then a.bind F else b.bind F) = (if c then a else b).bind F := by split <;> rfl
theorem mt_1 {B L b k} (h : mt B L b k = true) : sr B L b = 1 := (of_decide_eq_true h).1
theorem tw_f {B L b v w k} (p : PR B L false b v w) : f_X2_takeWord k v = some v := by
  obtain ⟨a, b⟩ := PR_f p
  unfold f_X2_takeWord
  rw [if_pos b, a]; rfl
theorem tn_f {B L b v w x} (p : PR B L false b v w) : f_X2_takeNumber x v = some (0, v) := by
  obtain ⟨a, b⟩ := PR_f p
  unfold f_X2_takeNumber
  rw [if_pos b, a]; rfl
theorem tw {B L g b v w k} (hk : k < 17) (p : PR B L g b v w) : ∃ g' b' v' w', f_X2_takeWord k v = some v' ∧ (∀ x hh, x = Int64.ofNat (cdn.getD k 0) → f_X5_word w = some (hh, w) → (if lg_cmp hh x = 0 then f_X5_needs 1 w else f_X5_needs 0 w) = some w') ∧ PR B L g' b' v' w' ∧ (g' = true → g = true) ∧ b ≤ b' ∧ XF v v' ∧ MF w w' ∧ w' 0 15 = w 0 15 := by
  obtain ⟨h0, e0, c0⟩ := m_word p
  have hw : ∀ hh, f_X5_word w = some (hh, w) → hh = h0 := fun hh q => by rw [e0] at q; injection q with q; injection q with q; exact q.symm
  by_cases c : g = true ∧ mt B L b k = true
  · obtain ⟨rfl, m⟩ := c
    have s1 := mt_1 m
    obtain ⟨v', w', b', e1, e2, p', t, x, y, z⟩ := step_ok p (by rw [s1]; decide)
    have tg := te_gt (B := B) (L := L) (b := b) (Or.inl s1)
    refine ⟨true, b', v', w', ?_, fun q hh eq eh => ?_, p', fun q => q, by omega, x, y, z⟩
    · unfold f_X2_takeWord
      rw [if_neg (by rw [(p.2.2.2.2.2.2.2.2.2.1 rfl).1]; exact m1n), x_isw p hk, Option.bind_some]
      simp only [m, if_true, o10, if_false, e1, Option.bind_some]
    · rw [hw hh eh, if_pos (by rw [c0 k hk q eq]; exact ⟨rfl, m⟩)]; exact e2
  · obtain ⟨v', w', e1, e2, p', x, y, z⟩ := step_bad p
    refine ⟨false, b, v', w', ?_, fun q hh eq eh => ?_, p', fun q => absurd q (by decide), Nat.le_refl _, x, y, z⟩
    · cases g with
      | false =>
        rw [tw_f p]
        rw [(PR_f p).1] at e1
        exact e1
      | true =>
        have m : ¬ mt B L b k = true := fun q => c ⟨rfl, q⟩
        unfold f_X2_takeWord
        rw [if_neg (by rw [(p.2.2.2.2.2.2.2.2.2.1 rfl).1]; exact m1n), x_isw p hk, Option.bind_some]
        simp only [m, if_false, if_true, e1, Option.bind_some]
        rfl
    · rw [hw hh eh, if_neg (by rw [c0 k hk q eq]; exact c)]; exact e2
def rf (B : Nat → Int32) : Nat → Nat → Nat → Nat
  | 0, _, n => n
  | k + 1, i, n => rf B k (i+1) (if 999 < n then n else 10 * n + ((B i).toNatClampNeg - 48))
theorem cf_rf {B} : ∀ k i n, cf B 2 k i (min 1000 n) = min 1000 (rf B k i n)
  | 0, i, n => rfl
  | k + 1, i, n => by
    rw [cf, rf, if_pos rfl, ← cf_rf k (i+1)]
    congr 1
    split <;> omega
theorem m_nl {B L b w lo hi} (h : TM B L w) (hb : b ≤ L) (s : sr B L b = 2) (e14 : w 0 14 = nI (tm B L b)) : ∀ d i f n, i + d = tm B L b → b ≤ i → d < f → n ≤ 9999 →
    ∃ f2 N, f_X5_number_L f lo hi 1 (nI n) (nI i) w = f_X5_number_L (f2 + 1) lo hi 1 (nI N) (nI (tm B L b)) w ∧ N = rf B d i n ∧ N ≤ 9999 := by
  have hL := h.1
  obtain ⟨t1, t2⟩ := tm_r (B := B) hb
  have q := te_tm (B := B) (L := L) (b := b) (by rw [s]; decide)
  intro d
  induction d with
  | zero =>
    intro i f n hi hbi hf hn
    obtain ⟨f, rfl⟩ : ∃ q, f = q + 1 := ⟨f - 1, by omega⟩
    obtain rfl : i = tm B L b := by omega
    exact ⟨f, n, rfl, rfl, hn⟩
  | succ d ih =>
    intro i f n hi hbi hf hn
    obtain ⟨f, rfl⟩ : ∃ q, f = q + 1 := ⟨f - 1, by omega⟩
    obtain ⟨y, y1, y2, ey⟩ := sr2 (tok_s (Or.inr rfl) s i hbi (by omega))
    rw [f_X5_number_L, e14, if_neg (show ¬ nI (tm B L b) ≤ nI i by rw [pI_le (by omega) (by omega)]; omega), if_neg i10, rf, ey, tn (show y < 2147483648 by omega)]
    by_cases c : 999 < n
    · rw [if_neg (show ¬ nI n ≤ 999 by rw [show (999 : Int32) = nI 999 from rfl, pI_le (by omega) (by omega)]; omega), if_pos c, nI_add1]
      exact ih (i+1) f n (by omega) (by omega) (by omega) hn
    · rw [if_pos (show nI n ≤ 999 by rw [show (999 : Int32) = nI 999 from rfl, pI_le (by omega) (by omega)]; omega), if_neg c]
      simp only [tn (show i < 2147483648 by omega), ib (show i < 120 by omega) (show 120 ≤ 100000 by omega), if_false, h.2.2 i (by omega), ey, ten y1, nI_add1]
      exact ih (i+1) f (10 * n + (y - 48)) (by omega) (by omega) (by omega) (by omega)
theorem nm_2 {B L b} (s : sr B L b = 2) : nm B L b = min 1000 (rf B (tm B L b - b) b 0) := by
  unfold nm
  rw [if_pos (Or.inr s), s, te_tm (B := B) (L := L) (b := b) (by rw [s]; decide)]
  exact cf_rf (B := B) (tm B L b - b) b 0
theorem PR_lt {B L b v w lim} (p : PR B L true b v w) (s : sr B L b = 2) (hl : lim ≤ 1000) : (v 53 5 < nI lim) = (rf B (tm B L b - b) b 0 < lim) := by
  obtain ⟨h1, h2, h3, h4, h5, h6, h7, h8, h9, _⟩ := p
  rw [h9, nm_2 s, pI_lt (by omega) (by omega)]
  apply propext; omega
theorem n_aux {dg byt : Int32 → jx_V → Option (Int32 × jx_V)} {nl : Int32 → Int32 → jx_V → Option jx_V} {w : jx_V} {y q x13 : Int32} (h5 : w 0 13 = x13) (hb : byt x13 w = some (y, w)) (hd : dg y w = some (q, w)) : ((byt (w 0 13) w).bind (fun (r2, v2) => (dg r2 v2).bind (fun (r3, v3) => nl r3 (v3 0 13) v3))) = nl q x13 w := by
  rw [h5, hb]; simp only [Option.bind_some, hd, h5]
theorem i_dg {B L b} {w : jx_V} : f_X5_isDigit (bte B L b) w = some (if sr B L b = 2 then 1 else 0, w) := by
  rw [m_isDigit]; simp only [dg_bt]
theorem n_unf {B L b v w x} (p : PR B L true b v w) : f_X5_number 0 x w = f_X5_number_L 100000 0 x (if sr B L b = 2 then 1 else 0) 0 (nI b) w := by
  obtain ⟨h1, h2, h3, h4, h5, h6, h7, h8, h9, h10, _⟩ := p
  obtain ⟨f6, f16⟩ := h10 rfl
  have hL := h1.1
  unfold f_X5_number
  rw [if_pos f16]
  exact n_aux (nl := fun r u v => f_X5_number_L 100000 0 x r 0 u v) h5 (m_byte h2 (by omega)) i_dg
theorem tnm_M {B L b v w lim} (hl : lim ≤ 1000) (hl0 : 0 < lim) (p : PR B L true b v w) (s : sr B L b = 2) : f_X5_number 0 (nI (lim - 1)) w = (if rf B (tm B L b - b) b 0 < lim then f_X5_needs 1 (jx_up w 0 15 (nI (rf B (tm B L b - b) b 0))) else f_X5_needs 0 (jx_up w 0 15 (nI (rf B (tm B L b - b) b 0)))) := by
  have p0 := p
  obtain ⟨h1, h2, h3, h4, h5, h6, h7, h8, h9, h10, _⟩ := p
  obtain ⟨f6, f16⟩ := h10 rfl
  have hL := h1.1
  obtain ⟨t1, t2⟩ := tm_r (B := B) h3
  rw [n_unf p0, if_pos s]
  generalize hF : (100000 : Nat) = F
  obtain ⟨f2, N, e1, eN, hN⟩ := m_nl (lo := 0) (hi := nI (lim - 1)) h2 h3 s h8 (tm B L b - b) b F 0 (by omega) (by omega) (by omega) (by omega)
  rw [← eN]
  rw [show nI 0 = 0 from rfl] at e1
  rw [e1, f_X5_number_L]
  generalize f_X5_needs = nd
  rw [h8, if_pos (Int32.le_refl _), if_neg i10, m_in', Option.bind_some]
  simp only []
  by_cases c : N < lim
  · have c' : 0 ≤ nI N ∧ nI N ≤ nI (lim - 1) := ⟨pI_pos (by omega), by rw [pI_le (by omega) (by omega)]; omega⟩
    rw [if_pos c', if_neg i10, if_pos c]
    cases nd 1 (jx_up w 0 15 (nI N)) <;> rfl
  · have c' : ¬ (0 ≤ nI N ∧ nI N ≤ nI (lim - 1)) := fun k => c (by have := k.2; rw [pI_le (by omega) (by omega)] at this; omega)
    rw [if_neg c', if_pos i00, if_neg c]
    cases nd 0 (jx_up w 0 15 (nI N)) <;> rfl
theorem tnm_X {B L b v w lim} (hl : lim ≤ 1000) (p : PR B L true b v w) (s : sr B L b = 2) : f_X2_takeNumber (nI lim) v = if rf B (tm B L b - b) b 0 < lim then (f_X2_nextToken v).bind (fun v6 => some (nI (rf B (tm B L b - b) b 0), v6)) else (f_X2_failHere v).bind (fun v7 => some (0, v7)) := by
  have pl := PR_lt p s hl
  obtain ⟨h1, h2, h3, h4, h5, h6, h7, h8, h9, h10, _⟩ := p
  obtain ⟨f6, f16⟩ := h10 rfl
  unfold f_X2_takeNumber
  rw [if_neg (by rw [f6]; exact m1n), h6, if_pos s]
  by_cases c : rf B (tm B L b - b) b 0 < lim
  · rw [if_pos (show v 53 5 < nI lim by rw [pl]; exact c), if_pos c, show v 53 5 = nI (rf B (tm B L b - b) b 0) by rw [h9, nm_2 s]; congr 1; omega]
  · rw [if_neg (show ¬ v 53 5 < nI lim by rw [pl]; exact c), if_neg c]
theorem tnm_N {B L b v w x} (p : PR B L true b v w) (s : ¬ sr B L b = 2) : f_X5_number 0 x w = f_X5_needs 0 (jx_up w 0 15 0) := by
  obtain ⟨h1, h2, h3, h4, h5, h6, h7, h8, h9, h10, _⟩ := p
  obtain ⟨f6, f16⟩ := h10 rfl
  have hL := h1.1
  unfold f_X5_number
  generalize hF : (100000 : Nat) = F
  obtain ⟨F', rfl⟩ : ∃ q, F = q + 1 := ⟨F - 1, by omega⟩
  rw [if_pos f16, h5, m_byte h2 (by omega), Option.bind_some]
  simp only [m_isDigit, Option.bind_some, dg_bt, if_neg s]
  rw [f_X5_number_L, if_pos i00, if_pos i00, ite_self]
  cases f_X5_needs 0 (jx_up w 0 15 0) <;> rfl
theorem tnm {B L g b v w lim} (hl : lim ≤ 1000) (hl0 : 0 < lim) (p : PR B L g b v w) : ∃ r g' b' v' w', f_X2_takeNumber (nI lim) v = some (r, v') ∧ f_X5_number 0 (nI (lim - 1)) w = some w' ∧ PR B L g' b' v' w' ∧ (g' = true → g = true ∧ ∃ q, q < lim ∧ r = nI q ∧ w' 0 15 = nI q) ∧ b ≤ b' ∧ XF v v' ∧ MF w w' := by
  cases g with
  | false =>
    refine ⟨0, false, b, v, w, tn_f p, ?_, p, fun q => absurd q (by decide), Nat.le_refl _, XF_r, MF_r⟩
    unfold f_X5_number
    rw [if_neg (by rw [(p.2.2.2.2.2.2.2.2.2.2 rfl).2]; decide)]
  | true =>
    by_cases s : sr B L b = 2
    · rw [tnm_M hl hl0 p s, tnm_X hl p s]
      generalize rf B (tm B L b - b) b 0 = N
      by_cases c : N < lim
      · obtain ⟨v', w', b', k1, k2, k3, k4, k5, k6, k7⟩ := step_ok (PR_15 (x := nI N) p) (by rw [s]; decide)
        have tg := te_gt (B := B) (L := L) (b := b) (Or.inr (Or.inl s))
        refine ⟨nI N, true, b', v', w', ?_, ?_, k3, fun _ => ⟨rfl, N, c, rfl, by rw [k7, up_s]⟩, by omega, k5, MF_t (MF_u (by omega)) k6⟩
        · rw [if_pos c, k1, Option.bind_some]
        · rw [if_pos c]; exact k2
      · obtain ⟨v', w', k1, k2, k3, k5, k6, k7⟩ := step_bad (PR_15 (x := nI N) p)
        refine ⟨0, false, b, v', w', ?_, ?_, k3, fun q => absurd q (by decide), Nat.le_refl _, k5, MF_t (MF_u (by omega)) k6⟩
        · rw [if_neg c, k1, Option.bind_some]
        · rw [if_neg c]; exact k2
    · obtain ⟨v', w', k1, k2, k3, k5, k6, k7⟩ := step_bad (PR_15 (x := 0) p)
      refine ⟨0, false, b, v', w', ?_, ?_, k3, fun q => absurd q (by decide), Nat.le_refl _, k5, MF_t (MF_u (by omega)) k6⟩
      · unfold f_X2_takeNumber
        rw [if_neg (by rw [(p.2.2.2.2.2.2.2.2.2.1 rfl).1]; exact m1n), p.2.2.2.2.2.1, if_neg s, k1, Option.bind_some]
      · rw [tnm_N p s]; exact k2
theorem nb_aux {wd : Option (Int64 × jx_V)} {n1 n0 nu : jx_V → Option jx_V} {w u u' : jx_V} {hh x : Int64} (hw : wd = some (hh, w)) (hn : (if lg_cmp hh x = 0 then n1 w else n0 w) = some u) (hu : nu u = some u') : (wd.bind (fun (r1, v1) => if lg_cmp r1 x = 0 then (n1 v1).bind (fun v5 => (nu v5).bind (fun v6 => some (v6 0 15, v6))) else (n0 v1).bind (fun v3 => (nu v3).bind (fun v4 => some (v4 0 15, v4))))) = some (u' 0 15, u') := by
  rw [hw, Option.bind_some]; simp only []; rw [ibo, hn, Option.bind_some, hu, Option.bind_some]
theorem nb {B L g b v w k lim} {x : Int64} {y z : Int32} (hk : k < 17) (hl : lim ≤ 1000) (hl0 : 0 < lim) (hx : x = Int64.ofNat (cdn.getD k 0)) (hy : y = nI (lim - 1)) (hz : z = nI lim) (p : PR B L g b v w) : ∃ r r' g' b' v1 v' w', f_X2_takeWord k v = some v1 ∧ f_X2_takeNumber z v1 = some (r, v') ∧ f_X5_numberBehind x y w = some (r', w') ∧ PR B L g' b' v' w' ∧ (g' = true → g = true ∧ r' = r ∧ ∃ q, q < lim ∧ r = nI q) ∧ b ≤ b' ∧ XF v v' ∧ MF w w' := by
  subst hy; subst hz
  obtain ⟨hh, ew, _⟩ := m_word p
  obtain ⟨g1, b1, v1, w1, e1, e2, p1, k1, k2, k3, k4, _⟩ := tw hk p
  obtain ⟨r, g', b', v', w', f1, f2, p', l1, l2, l3, l4⟩ := tnm hl hl0 p1
  refine ⟨r, w' 0 15, g', b', v1, v', w', e1, f1, ?_, p', fun q => ?_, by omega, XF_t k3 l3, MF_t k4 l4⟩
  · unfold f_X5_numberBehind
    exact nb_aux ew (e2 x hh hx ew) f2
  · obtain ⟨a, c, d, e, f⟩ := l1 q
    exact ⟨k1 a, by rw [e, f], c, d, e⟩
theorem nb_f {B L b v w} (p : PR B L false b v w) (x : Int64) (y : Int32) : ∃ r w', f_X5_numberBehind x y w = some (r, w') ∧ PR B L false b v w' ∧ MF w w' := by
  obtain ⟨hh, ew, _⟩ := m_word p
  have e16 := (p.2.2.2.2.2.2.2.2.2.2 rfl).2
  refine ⟨jx_up w 0 16 1 0 15, jx_up w 0 16 1, ?_, PR_n p, MF_u (by omega)⟩
  unfold f_X5_numberBehind
  refine nb_aux (n1 := f_X5_needs 1) (n0 := f_X5_needs 0) (u := jx_up w 0 16 1) ew ?_ ?_
  · rw [n_bad 1 e16, n_bad 0 e16, ite_self]
  · unfold f_X5_number; rw [if_neg (by rw [up_s]; decide)]
theorem bso {a : Option jx_V} : a.bind (fun v => some v) = a := by cases a <;> rfl
theorem le_aux {byt dg : Int32 → jx_V → Option (Int32 × jx_V)} {il it : jx_V → Option (Int32 × jx_V)} {n0 n1 : jx_V → Option jx_V} {w : jx_V} {y q l t x1 : Int32} (hb : byt (w 0 13) w = some (y, w)) (hd : dg y w = some (q, w)) (hl : il w = some (l, w)) (ht : l ≠ 0 → it w = some (t, w)) :
    ((byt (w 0 13) w).bind (fun (r2, v2) => (dg r2 v2).bind (fun (r3, v3) => if r3 = 0 then (n0 v3).bind (fun v5 => some v5) else (il v3).bind (fun (r6, v6) => if r6 = 0 then (n0 v6).bind (fun v8 => some v8) else (it v6).bind (fun (r9, v9) => if r9 = x1 then (n0 v9).bind (fun v11 => some v11) else (n1 v9).bind (fun v12 => some v12))))))
    = if q = 0 then n0 w else if l = 0 then n0 w else if t = x1 then n0 w else n1 w := by
  rw [hb]
  simp only [Option.bind_some, hd, hl, bso]
  by_cases c : q = 0
  · rw [if_pos c, if_pos c]
  · rw [if_neg c, if_neg c]
    by_cases c2 : l = 0
    · rw [if_pos c2, if_pos c2]
    · rw [if_neg c2, if_neg c2, ht c2]
      simp only [Option.bind_some]
theorem le_step {byt dg : Int32 → jx_V → Option (Int32 × jx_V)} {E S : jx_V → Option jx_V} {w : jx_V} {y q : Int32} (hb : byt (w 0 13) w = some (y, w)) (hd : dg y w = some (q, w)) : ((byt (w 0 13) w).bind (fun (r2, v2) => (dg r2 v2).bind (fun (r3, v3) => if r3 = 0 then E v3 else S v3))) = if q = 0 then E w else S w := by
  rw [hb]
  simp only [Option.bind_some, hd]
theorem lo_by {B L b w} (h : TM B L w) (hb : b ≤ 120) (e13 : w 0 13 = nI b) : f_X5_byteAt (w 0 13) w = some (bte B L b, w) := by rw [e13]; exact m_byte h hb
theorem lo_end {B L b f w} {x1 x3 : Int32} {N : Nat} (h : TM B L w) (hb : b ≤ 120) (e13 : w 0 13 = nI b) (hN : N ≤ 9999) (hx : w 0 14 ≤ x3) : f_X5_lotTold_L (f+1) x1 (nI N) x3 w = if (if sr B L b = 2 then (1 : Int32) else 0) = 0 then f_X5_needs 0 (jx_up w 0 15 (nI N)) else if (if 0 ≤ nI N ∧ nI N ≤ 24 then (1 : Int32) else 0) = 0 then f_X5_needs 0 (jx_up w 0 15 (nI N)) else if (if w 1 (11 + 4 * N) < 0 then (0 : Int32) else 1) = x1 then f_X5_needs 0 (jx_up w 0 15 (nI N)) else f_X5_needs 1 (jx_up w 0 15 (nI N)) := by
  have e13' : jx_up w 0 15 (nI N) 0 13 = nI b := by rw [up_g, if_neg (by omega)]; exact e13
  rw [f_X5_lotTold_L, if_pos hx]
  exact le_aux (byt := f_X5_byteAt) (dg := f_X5_isDigit) (il := f_X5_isLot (nI N)) (it := f_X5_isThing (nI N)) (n0 := f_X5_needs 0) (n1 := f_X5_needs 1) (lo_by (TM_up h (by omega)) hb e13') i_dg m_isLot (fun q => by
    have c : 0 ≤ nI N ∧ nI N ≤ 24 := by
      by_cases c : 0 ≤ nI N ∧ nI N ≤ 24
      · exact c
      · rw [if_neg c] at q; exact absurd rfl q
    have hN' : N < 25 := by
      have := c.2
      rw [show (24 : Int32) = nI 24 from rfl, pI_le (by omega) (by omega)] at this
      omega
    rw [m_thing hN', jx_up_ne (by omega)])
theorem lo_s {B L b w} {x1 : Int32} (h : TM B L w) (hb : b ≤ L) (s : sr B L b = 2) (e13 : w 0 13 = nI b) (e14 : w 0 14 = nI (tm B L b)) : ∀ d i f n, i + d = tm B L b → b ≤ i → d < f → n ≤ 9999 →
    ∃ f2 N, f_X5_lotTold_L f x1 (nI n) (nI i) w = f_X5_lotTold_L (f2 + 1) x1 (nI N) (nI (tm B L b)) w ∧ N = rf B d i n ∧ N ≤ 9999 := by
  have hL := h.1
  obtain ⟨t1, t2⟩ := tm_r (B := B) hb
  have q := te_tm (B := B) (L := L) (b := b) (by rw [s]; decide)
  intro d
  induction d with
  | zero =>
    intro i f n hi hbi hf hn
    obtain ⟨f, rfl⟩ : ∃ q, f = q + 1 := ⟨f - 1, by omega⟩
    obtain rfl : i = tm B L b := by omega
    exact ⟨f, n, rfl, rfl, hn⟩
  | succ d ih =>
    intro i f n hi hbi hf hn
    obtain ⟨f, rfl⟩ : ∃ q, f = q + 1 := ⟨f - 1, by omega⟩
    obtain ⟨y, y1, y2, ey⟩ := sr2 (tok_s (Or.inr rfl) s i hbi (by omega))
    have st : f_X5_lotTold_L (f+1) x1 (nI n) (nI i) w = if nI n ≤ 999 then f_X5_lotTold_L f x1 (10 * nI n + nI y - 48) (nI (i+1)) w else f_X5_lotTold_L f x1 (nI n) (nI (i+1)) w := by
      rw [f_X5_lotTold_L, e14, if_neg (show ¬ nI (tm B L b) ≤ nI i by rw [pI_le (by omega) (by omega)]; omega)]
      refine (le_step (byt := f_X5_byteAt) (dg := f_X5_isDigit) (E := fun v14 => (f_X5_byteAt ((jx_up v14 0 15 (nI n)) 0 13) (jx_up v14 0 15 (nI n))).bind (fun (r16, v16) => (f_X5_isDigit r16 v16).bind (fun (r17, v17) => if r17 = 0 then (f_X5_needs 0 v17).bind (fun v19 => some v19) else (f_X5_isLot (nI n) v17).bind (fun (r20, v20) => if r20 = 0 then (f_X5_needs 0 v20).bind (fun v22 => some v22) else (f_X5_isThing (nI n) v20).bind (fun (r23, v23) => if r23 = x1 then (f_X5_needs 0 v23).bind (fun v25 => some v25) else (f_X5_needs 1 v23).bind (fun v26 => some v26)))))) (S := fun v14 => if (nI n) ≤ 999 then (if (nI i < 0 ∨ 120 ≤ (nI i).toNatClampNeg) then none else f_X5_lotTold_L f x1 (10 * (nI n) + v14 8 (nI i).toNatClampNeg - 48) (nI i + 1) v14) else f_X5_lotTold_L f x1 (nI n) (nI i + 1) v14) (lo_by h (by omega) e13) i_dg).trans ?_
      rw [if_pos s, if_neg i10, nI_add1]
      simp only [tn (show i < 2147483648 by omega), ib (show i < 120 by omega) (show 120 ≤ 100000 by omega), if_false, h.2.2 i (by omega), ey]
    rw [st, rf, ey, tn (show y < 2147483648 by omega)]
    by_cases c : 999 < n
    · rw [if_neg (show ¬ nI n ≤ 999 by rw [show (999 : Int32) = nI 999 from rfl, pI_le (by omega) (by omega)]; omega), if_pos c]
      exact ih (i+1) f n (by omega) (by omega) (by omega) hn
    · rw [if_pos (show nI n ≤ 999 by rw [show (999 : Int32) = nI 999 from rfl, pI_le (by omega) (by omega)]; omega), if_neg c, ten y1]
      exact ih (i+1) f (10 * n + (y - 48)) (by omega) (by omega) (by omega) (by omega)
theorem lo_n {B L b f w} {x1 : Int32} (h : TM B L w) (hb : b ≤ L) (s : ¬ sr B L b = 2) (e13 : w 0 13 = nI b) : f_X5_lotTold_L (f+1) x1 0 (nI b) w = f_X5_needs 0 (jx_up w 0 15 0) := by
  have hL := h.1
  have e13' : jx_up w 0 15 0 0 13 = nI b := by rw [up_g, if_neg (by omega)]; exact e13
  have en := le_step (byt := f_X5_byteAt) (dg := f_X5_isDigit) (E := fun v3 => (f_X5_needs 0 v3).bind (fun v5 => some v5)) (S := fun v3 => (f_X5_isLot 0 v3).bind (fun (r6, v6) => if r6 = 0 then (f_X5_needs 0 v6).bind (fun v8 => some v8) else (f_X5_isThing 0 v6).bind (fun (r9, v9) => if r9 = x1 then (f_X5_needs 0 v9).bind (fun v11 => some v11) else (f_X5_needs 1 v9).bind (fun v12 => some v12)))) (lo_by (TM_up (x := 0) (j := 15) h (by omega)) (by omega) e13') i_dg
  rw [if_neg s, if_pos i00, bso] at en
  rw [f_X5_lotTold_L]
  by_cases c : w 0 14 ≤ nI b
  · rw [if_pos c]; exact en
  · rw [if_neg c]
    refine (le_step (byt := f_X5_byteAt) (dg := f_X5_isDigit) (E := fun v14 => (f_X5_byteAt ((jx_up v14 0 15 0) 0 13) (jx_up v14 0 15 0)).bind (fun (r16, v16) => (f_X5_isDigit r16 v16).bind (fun (r17, v17) => if r17 = 0 then (f_X5_needs 0 v17).bind (fun v19 => some v19) else (f_X5_isLot 0 v17).bind (fun (r20, v20) => if r20 = 0 then (f_X5_needs 0 v20).bind (fun v22 => some v22) else (f_X5_isThing 0 v20).bind (fun (r23, v23) => if r23 = x1 then (f_X5_needs 0 v23).bind (fun v25 => some v25) else (f_X5_needs 1 v23).bind (fun v26 => some v26)))))) (S := fun v14 => if 0 ≤ 999 then (if (nI b < 0 ∨ 120 ≤ (nI b).toNatClampNeg) then none else f_X5_lotTold_L f x1 (10 * 0 + v14 8 (nI b).toNatClampNeg - 48) (nI b + 1) v14) else f_X5_lotTold_L f x1 0 (nI b + 1) v14) (lo_by h (by omega) e13) i_dg).trans ?_
    rw [if_neg s, if_pos i00]; exact en
theorem tlt {B L g b v w} {x1 x2 : Int32} (hx : (x2 = 0 ∧ x1 = 1) ∨ (x2 = 1 ∧ x1 = 0)) (p : PR B L g b v w) (ht : g = true → ∀ l, l < 25 → v 36 l = w 1 (11 + 4 * l)) : ∃ r g' b' v' w', f_X2_takeLot 33 x2 v = some (r, v') ∧ (if w 0 16 = 0 then f_X5_lotTold x1 w else some w) = some w' ∧ PR B L g' b' v' w' ∧ (g' = true → g = true ∧ ∃ q, q < 25 ∧ r = nI q ∧ w' 0 15 = nI q) ∧ b ≤ b' ∧ XF v v' ∧ MF w w' := by
  cases g with
  | false =>
    refine ⟨0, false, b, v, w, ?_, ?_, p, fun q => absurd q (by decide), Nat.le_refl _, XF_r, MF_r⟩
    · obtain ⟨a, b⟩ := PR_f p
      unfold f_X2_takeLot
      rw [if_pos b, a]; rfl
    · rw [if_neg (by rw [(p.2.2.2.2.2.2.2.2.2.2 rfl).2]; decide)]
  | true =>
    have p0 := p
    obtain ⟨h1, h2, h3, h4, h5, h6, h7, h8, h9, h10, _⟩ := p
    obtain ⟨f6, f16⟩ := h10 rfl
    have hL := h1.1
    obtain ⟨t1, t2⟩ := tm_r (B := B) h3
    rw [if_pos f16]
    by_cases s : sr B L b = 2
    · obtain ⟨f2, N, e1, eN, hN⟩ := lo_s (x1 := x1) h2 h3 s h5 h8 (tm B L b - b) b 100000 0 (by omega) (by omega) (by omega) (by omega)
      have M : f_X5_lotTold x1 w = (if N < 25 ∧ ¬ (if w 1 (11 + 4 * N) < 0 then (0 : Int32) else 1) = x1 then f_X5_needs 1 (jx_up w 0 15 (nI N)) else f_X5_needs 0 (jx_up w 0 15 (nI N))) := by
        unfold f_X5_lotTold
        rw [show nI 0 = 0 from rfl] at e1
        rw [h5, e1, lo_end h2 (by omega) h5 hN (by rw [h8]; exact Int32.le_refl _), if_pos s, if_neg i10]
        by_cases c : N < 25
        · have c' : 0 ≤ nI N ∧ nI N ≤ 24 := ⟨pI_pos (by omega), by rw [show (24 : Int32) = nI 24 from rfl, pI_le (by omega) (by omega)]; omega⟩
          rw [if_pos c', if_neg i10]
          by_cases c2 : (if w 1 (11 + 4 * N) < 0 then (0 : Int32) else 1) = x1
          · rw [if_pos c2, if_neg (fun k => k.2 c2)]
          · rw [if_neg c2, if_pos (And.intro c c2)]
        · have c' : ¬ (0 ≤ nI N ∧ nI N ≤ 24) := fun k => c (by have := k.2; rw [show (24 : Int32) = nI 24 from rfl, pI_le (by omega) (by omega)] at this; omega)
          rw [if_neg c', if_pos i00, if_neg (fun k => c k.1)]
      have X : f_X2_takeLot 33 x2 v = if N < 25 ∧ ¬ (if w 1 (11 + 4 * N) < 0 then (0 : Int32) else 1) = x1 then (f_X2_nextToken v).bind (fun v9 => some (nI N, v9)) else (f_X2_failHere v).bind (fun v10 => some (0, v10)) := by
        have e5 : v 53 5 = nI (min 1000 N) := by rw [h9, nm_2 s, ← eN]
        unfold f_X2_takeLot
        rw [if_neg (by rw [f6]; exact m1n), h6, if_pos s, e5]
        by_cases c : N < 25
        · rw [show min 1000 N = N by omega, if_neg (show ¬ (25 : Int32) ≤ nI N by rw [show (25 : Int32) = nI 25 from rfl, pI_le (by omega) (by omega)]; omega), x_taken (h := 33) c, Option.bind_some]
          simp only []
          have e36 : v (33 + 3) N = w 1 (11 + 4 * N) := ht rfl N c
          rw [e36, h9, nm_2 s, ← eN, show min 1000 N = N by omega]
          by_cases c2 : (if w 1 (11 + 4 * N) < 0 then (0 : Int32) else 1) = x1
          · have c3 : ¬ (if w 1 (11 + 4 * N) < 0 then (0 : Int32) else 1) = x2 := fun k => by
              rw [c2] at k
              rcases hx with ⟨a, d⟩ | ⟨a, d⟩ <;> rw [a, d] at k <;> exact absurd k (by decide)
            rw [if_neg c3, if_neg (show ¬ (N < 25 ∧ ¬ (if w 1 (11 + 4 * N) < 0 then (0 : Int32) else 1) = x1) from fun k => k.2 c2)]
          · have c3 : (if w 1 (11 + 4 * N) < 0 then (0 : Int32) else 1) = x2 := by
              by_cases t : w 1 (11 + 4 * N) < 0
              · rw [if_pos t] at c2 ⊢
                rcases hx with ⟨a, d⟩ | ⟨a, d⟩
                · exact a.symm
                · exact absurd d.symm c2
              · rw [if_neg t] at c2 ⊢
                rcases hx with ⟨a, d⟩ | ⟨a, d⟩
                · exact absurd d.symm c2
                · exact a.symm
            rw [if_pos c3, if_pos (And.intro c c2)]
        · rw [if_pos (show (25 : Int32) ≤ nI (min 1000 N) by rw [show (25 : Int32) = nI 25 from rfl, pI_le (by omega) (by omega)]; omega), if_neg (show ¬ (N < 25 ∧ ¬ (if w 1 (11 + 4 * N) < 0 then (0 : Int32) else 1) = x1) from fun k => c k.1)]
      rw [M, X]
      by_cases c : N < 25 ∧ ¬ (if w 1 (11 + 4 * N) < 0 then (0 : Int32) else 1) = x1
      · obtain ⟨v', w', b', k1, k2, k3, k4, k5, k6, k7⟩ := step_ok (PR_15 (x := nI N) p0) (by rw [s]; decide)
        have tg := te_gt (B := B) (L := L) (b := b) (Or.inr (Or.inl s))
        refine ⟨nI N, true, b', v', w', ?_, ?_, k3, fun _ => ⟨rfl, N, c.1, rfl, by rw [k7, up_s]⟩, by omega, k5, MF_t (MF_u (by omega)) k6⟩
        · rw [if_pos c, k1, Option.bind_some]
        · rw [if_pos c]; exact k2
      · obtain ⟨v', w', k1, k2, k3, k5, k6, k7⟩ := step_bad (PR_15 (x := nI N) p0)
        refine ⟨0, false, b, v', w', ?_, ?_, k3, fun q => absurd q (by decide), Nat.le_refl _, k5, MF_t (MF_u (by omega)) k6⟩
        · rw [if_neg c, k1, Option.bind_some]
        · rw [if_neg c]; exact k2
    · obtain ⟨v', w', k1, k2, k3, k5, k6, k7⟩ := step_bad (PR_15 (x := 0) p0)
      refine ⟨0, false, b, v', w', ?_, ?_, k3, fun q => absurd q (by decide), Nat.le_refl _, k5, MF_t (MF_u (by omega)) k6⟩
      · unfold f_X2_takeLot
        rw [if_neg (by rw [f6]; exact m1n), h6, if_neg s, k1, Option.bind_some]
      · unfold f_X5_lotTold
        rw [h5, show (100000 : Nat) = 99999 + 1 from rfl, lo_n h2 h3 s h5]; exact k2
def kdf (m : Nat → Bool) : Int32 := if m 0 = true then 0 else if m 1 = true then 1 else if m 2 = true then 2 else if m 3 = true then 3 else if m 4 = true then 4 else if m 5 = true then 5 else if m 6 = true then 6 else -1
theorem ax_rt {nt t7 t8 t9 t10 : jx_V → Option jx_V} {tl n4 n10v iw : jx_V → Option (Int32 × jx_V)} {pt : Int32 → Int32 → Int32 → Int32 → Int32 → jx_V → Option jx_V} {v v1 v2 v3 v4 v5 v6 v7 : jx_V} {x2 r3 r5 r7 r8 : Int32} (h1 : nt v = some v1) (h2 : t7 v1 = some v2) (h3 : tl v2 = some (r3, v3)) (h4 : t8 v3 = some v4) (h5 : n4 v4 = some (r5, v5)) (h6 : t9 v5 = some v6) (h7 : n10v v6 = some (r7, v7)) (h8 : iw v7 = some (r8, v7)) :
    ((nt v).bind (fun v1 => ((t7 v1).bind (fun v2 => ((tl v2).bind (fun (r3, v3) => ((t8 v3).bind (fun v4 => ((n4 v4).bind (fun (r5, v5) => ((t9 v5).bind (fun v6 => ((n10v v6).bind (fun (r7, v7) => ((iw v7).bind (fun (r8, v8) => (if r8 = 0 then (if 0 ≤ (v8 53 6) then (some v8) else ((pt r3 x2 r5 r7 0 v8).bind (fun v11 => (some v11)))) else ((t10 v8).bind (fun v12 => ((n4 v12).bind (fun (r13, v13) => (if 0 ≤ (v13 53 6) then (some v13) else ((pt r3 x2 r5 r7 r13 v13).bind (fun v15 => (some v15))))))))))))))))))))))))) = if r8 = 0 then (if 0 ≤ v7 53 6 then some v7 else pt r3 x2 r5 r7 0 v7) else (t10 v7).bind (fun v12 => (n4 v12).bind (fun (r13, v13) => if 0 ≤ v13 53 6 then some v13 else pt r3 x2 r5 r7 r13 v13)) := by
  simp only [h1, h2, h3, h4, h5, h6, h7, h8, Option.bind_some, bso]
theorem ax_ti {n1 n0 lo : jx_V → Option jx_V} {wd : jx_V → Option (Int64 × jx_V)} {nbo nbh nbp : jx_V → Option (Int32 × jx_V)} {bd : Int32 → Int32 → Int32 → Int32 → Int32 → jx_V → Option jx_V} {v w1 w2 w3 w5 w7 : jx_V} {x1 r5 r7 : Int32} {hh h7 x52 xp : Int64} (e1 : n1 v = some w1) (e2 : wd w1 = some (hh, w1)) (e3 : (if lg_cmp hh x52 = 0 then n1 w1 else n0 w1) = some w2) (e4 : (if w2 0 16 = 0 then lo w2 else some w2) = some w3) (e5 : nbo w3 = some (r5, w5)) (e6 : nbh w5 = some (r7, w7)) (e7 : wd w7 = some (h7, w7)) :
    ((n1 v).bind (fun v1 => ((wd v1).bind (fun (r2, v2) => (if (lg_cmp r2 x52) = 0 then ((n1 v2).bind (fun v25 => (if (v25 0 16) = 0 then ((lo v25).bind (fun v36 => ((nbo v36).bind (fun (r37, v37) => ((nbh v37).bind (fun (r38, v38) => ((wd v38).bind (fun (r39, v39) => (if (lg_cmp r39 xp) = 0 then ((nbp v39).bind (fun (r43, v43) => (if (v43 0 16) = 0 then ((bd (v36 0 15) x1 r37 r38 r43 v43).bind (fun v45 => (some v45))) else (some v43)))) else (if (v39 0 16) = 0 then ((bd (v36 0 15) x1 r37 r38 0 v39).bind (fun v42 => (some v42))) else (some v39))))))))))) else ((nbo v25).bind (fun (r27, v27) => ((nbh v27).bind (fun (r28, v28) => ((wd v28).bind (fun (r29, v29) => (if (lg_cmp r29 xp) = 0 then ((nbp v29).bind (fun (r33, v33) => (if (v33 0 16) = 0 then ((bd (v25 0 15) x1 r27 r28 r33 v33).bind (fun v35 => (some v35))) else (some v33)))) else (if (v29 0 16) = 0 then ((bd (v25 0 15) x1 r27 r28 0 v29).bind (fun v32 => (some v32))) else (some v29)))))))))))) else ((n0 v2).bind (fun v4 => (if (v4 0 16) = 0 then ((lo v4).bind (fun v15 => ((nbo v15).bind (fun (r16, v16) => ((nbh v16).bind (fun (r17, v17) => ((wd v17).bind (fun (r18, v18) => (if (lg_cmp r18 xp) = 0 then ((nbp v18).bind (fun (r22, v22) => (if (v22 0 16) = 0 then ((bd (v15 0 15) x1 r16 r17 r22 v22).bind (fun v24 => (some v24))) else (some v22)))) else (if (v18 0 16) = 0 then ((bd (v15 0 15) x1 r16 r17 0 v18).bind (fun v21 => (some v21))) else (some v18))))))))))) else ((nbo v4).bind (fun (r6, v6) => ((nbh v6).bind (fun (r7, v7) => ((wd v7).bind (fun (r8, v8) => (if (lg_cmp r8 xp) = 0 then ((nbp v8).bind (fun (r12, v12) => (if (v12 0 16) = 0 then ((bd (v4 0 15) x1 r6 r7 r12 v12).bind (fun v14 => (some v14))) else (some v12)))) else (if (v8 0 16) = 0 then ((bd (v4 0 15) x1 r6 r7 0 v8).bind (fun v11 => (some v11))) else (some v8))))))))))))))))) = if lg_cmp h7 xp = 0 then (nbp w7).bind (fun (r43, v43) => if v43 0 16 = 0 then bd (w3 0 15) x1 r5 r7 r43 v43 else some v43) else if w7 0 16 = 0 then bd (w3 0 15) x1 r5 r7 0 w7 else some w7 := by
  simp only [e1, e2, Option.bind_some, bso]
  by_cases c : lg_cmp hh x52 = 0
  · rw [if_pos c] at e3
    simp only [if_pos c, e3, Option.bind_some]
    by_cases d : w2 0 16 = 0
    · rw [if_pos d] at e4
      simp only [if_pos d, e4, e5, e6, e7, Option.bind_some]
    · rw [if_neg d] at e4
      injection e4 with e4
      subst e4
      simp only [if_neg d, e5, e6, e7, Option.bind_some]
  · rw [if_neg c] at e3
    simp only [if_neg c, e3, Option.bind_some]
    by_cases d : w2 0 16 = 0
    · rw [if_pos d] at e4
      simp only [if_pos d, e4, e5, e6, e7, Option.bind_some]
    · rw [if_neg d] at e4
      injection e4 with e4
      subst e4
      simp only [if_neg d, e5, e6, e7, Option.bind_some]
theorem ax_rw {nt t7 t12 t13 t14 : jx_V → Option jx_V} {n25 n10v n4 : jx_V → Option (Int32 × jx_V)} {aw : Int32 → Int32 → Int32 → Int32 → jx_V → Option jx_V} {v v1 v2 v3 v4 v5 v6 v7 v8 v9 : jx_V} {r3 r5 r7 r9 : Int32} (h1 : nt v = some v1) (h2 : t7 v1 = some v2) (h3 : n25 v2 = some (r3, v3)) (h4 : t12 v3 = some v4) (h5 : n10v v4 = some (r5, v5)) (h6 : t13 v5 = some v6) (h7 : n4 v6 = some (r7, v7)) (h8 : t14 v7 = some v8) (h9 : n4 v8 = some (r9, v9)) :
    ((nt v).bind (fun v1 => ((t7 v1).bind (fun v2 => ((n25 v2).bind (fun (r3, v3) => ((t12 v3).bind (fun v4 => ((n10v v4).bind (fun (r5, v5) => ((t13 v5).bind (fun v6 => ((n4 v6).bind (fun (r7, v7) => ((t14 v7).bind (fun v8 => ((n4 v8).bind (fun (r9, v9) => (if 0 ≤ (v9 53 6) then (some v9) else ((aw r3 r5 r7 r9 v9).bind (fun v11 => (some v11)))))))))))))))))))))) = if 0 ≤ v9 53 6 then some v9 else aw r3 r5 r7 r9 v9 := by
  simp only [h1, h2, h3, h4, h5, h6, h7, h8, h9, Option.bind_some, bso]
theorem ax_wi {n1 n0 : jx_V → Option jx_V} {na nl nw nf : jx_V → Option (Int32 × jx_V)} {ne : Int32 → Int32 → Int32 → Int32 → jx_V → Option (Int32 × jx_V)} {v w1 w2 w3 w4 w5 : jx_V} {r2 r3 r4 r5 : Int32} (e1 : (if 10 ≤ v 1 1 then n0 v else n1 v) = some w1) (e2 : na w1 = some (r2, w2)) (e3 : nl w2 = some (r3, w3)) (e4 : nw w3 = some (r4, w4)) (e5 : nf w4 = some (r5, w5)) :
    (if 10 ≤ (v 1 1) then ((n0 v).bind (fun v2 => ((na v2).bind (fun (r3, v3) => ((nl v3).bind (fun (r4, v4) => ((nw v4).bind (fun (r5, v5) => ((nf v5).bind (fun (r6, v6) => (if (v6 0 16) = 0 then ((ne r3 r4 r5 r6 v6).bind (fun (r8, v8) => (some v8))) else (some v6)))))))))))) else ((n1 v).bind (fun v9 => ((na v9).bind (fun (r10, v10) => ((nl v10).bind (fun (r11, v11) => ((nw v11).bind (fun (r12, v12) => ((nf v12).bind (fun (r13, v13) => (if (v13 0 16) = 0 then ((ne r10 r11 r12 r13 v13).bind (fun (r15, v15) => (some v15))) else (some v13))))))))))))) = if w5 0 16 = 0 then (ne r2 r3 r4 r5 w5).bind (fun (r8, v8) => some v8) else some w5 := by
  by_cases c : 10 ≤ v 1 1
  · rw [if_pos c] at e1
    simp only [if_pos c, e1, e2, e3, e4, e5, Option.bind_some]
  · rw [if_neg c] at e1
    simp only [if_neg c, e1, e2, e3, e4, e5, Option.bind_some]
theorem ax_rp {nt : jx_V → Option jx_V} {n4 n100 : jx_V → Option (Int32 × jx_V)} {v v1 v2 v3 : jx_V} {r2 r3 : Int32} (h1 : nt v = some v1) (h2 : n4 v1 = some (r2, v2)) (h3 : n100 v2 = some (r3, v3)) :
    ((nt v).bind (fun v1 => ((n4 v1).bind (fun (r2, v2) => ((n100 v2).bind (fun (r3, v3) => (if 0 ≤ (v3 53 6) then (some v3) else (if (r2 < 0 ∨ 4 ≤ Int32.toNatClampNeg r2) then none else (some (jx_up v3 (46) (Int32.toNatClampNeg r2) r3)))))))))) = if 0 ≤ v3 53 6 then some v3 else if (r2 < 0 ∨ 4 ≤ Int32.toNatClampNeg r2) then none else some (jx_up v3 46 (Int32.toNatClampNeg r2) r3) := by
  simp only [h1, h2, h3, Option.bind_some]
theorem ax_pi {n1 na nc : jx_V → Option jx_V} {v w1 w2 w3 : jx_V} (e1 : n1 v = some w1) (e2 : na w1 = some w2) (e3 : nc w2 = some w3) :
    ((n1 v).bind (fun v1 => ((na v1).bind (fun v2 => ((nc v2).bind (fun v3 => (if (v3 0 16) = 0 then (if ((3 + (v2 0 15)) < 0 ∨ 181 ≤ Int32.toNatClampNeg (3 + (v2 0 15))) then none else (some (jx_up v3 1 (Int32.toNatClampNeg (3 + (v2 0 15))) (v3 0 15)))) else (some v3)))))))) = if w3 0 16 = 0 then (if (3 + w2 0 15 < 0 ∨ 181 ≤ Int32.toNatClampNeg (3 + w2 0 15)) then none else some (jx_up w3 1 (Int32.toNatClampNeg (3 + w2 0 15)) (w3 0 15))) else some w3 := by
  simp only [e1, e2, e3, Option.bind_some]
theorem ax_rc {nt : jx_V → Option jx_V} {tl : jx_V → Option (Int32 × jx_V)} {tk : Int32 → jx_V → Option jx_V} {v v1 v2 : jx_V} {r2 : Int32} (h1 : nt v = some v1) (h2 : tl v1 = some (r2, v2)) :
    ((nt v).bind (fun v1 => ((tl v1).bind (fun (r2, v2) => (if 0 ≤ (v2 53 6) then (some v2) else ((tk r2 v2).bind (fun v4 => (some v4)))))))) = if 0 ≤ v2 53 6 then some v2 else tk r2 v2 := by
  simp only [h1, h2, Option.bind_some, bso]
theorem ax_kw {i0 i1 i2 i3 i4 i5 i6 : jx_V → Option (Int32 × jx_V)} {v : jx_V} {m : Nat → Bool} (h0 : i0 v = some (if m 0 = true then 1 else 0, v)) (h1 : i1 v = some (if m 1 = true then 1 else 0, v)) (h2 : i2 v = some (if m 2 = true then 1 else 0, v)) (h3 : i3 v = some (if m 3 = true then 1 else 0, v)) (h4 : i4 v = some (if m 4 = true then 1 else 0, v)) (h5 : i5 v = some (if m 5 = true then 1 else 0, v)) (h6 : i6 v = some (if m 6 = true then 1 else 0, v)) :
    (((i0 v).bind (fun (r1, v1) => (if r1 = 0 then ((i1 v1).bind (fun (r3, v3) => (if r3 = 0 then ((i2 v3).bind (fun (r5, v5) => (if r5 = 0 then ((i3 v5).bind (fun (r7, v7) => (if r7 = 0 then ((i4 v7).bind (fun (r9, v9) => (if r9 = 0 then ((i5 v9).bind (fun (r11, v11) => (if r11 = 0 then ((i6 v11).bind (fun (r13, v13) => (if r13 = 0 then (some ((-1), v13)) else (some (6, v13))))) else (some (5, v11))))) else (some (4, v9))))) else (some (3, v7))))) else (some (2, v5))))) else (some (1, v3))))) else (some (0, v1))))) : Option (Int32 × jx_V)) = some (kdf m, v) := by
  simp only [h0, h1, h2, h3, h4, h5, h6, Option.bind_some]
  unfold kdf
  cases m 0 <;> cases m 1 <;> cases m 2 <;> cases m 3 <;> cases m 4 <;> cases m 5 <;> cases m 6 <;> rfl
theorem ax_kh {wd : jx_V → Option (Int64 × jx_V)} {v : jx_V} {hh : Int64} {m : Nat → Bool} (h : wd v = some (hh, v)) (c0 : (lg_cmp hh 2552 = 0) = (m 0 = true)) (c1 : (lg_cmp hh 673957 = 0) = (m 1 = true)) (c2 : (lg_cmp hh 630948 = 0) = (m 2 = true)) (c3 : (lg_cmp hh 553136178 = 0) = (m 3 = true)) (c4 : (lg_cmp hh 24749811143 = 0) = (m 4 = true)) (c5 : (lg_cmp hh 8902245 = 0) = (m 5 = true)) (c6 : (lg_cmp hh 21486770 = 0) = (m 6 = true)) :
    (((wd v).bind (fun (r1, v1) => (if (lg_cmp r1 2552) = 0 then (some (0, v1)) else (if (lg_cmp r1 673957) = 0 then (some (1, v1)) else (if (lg_cmp r1 630948) = 0 then (some (2, v1)) else (if (lg_cmp r1 553136178) = 0 then (some (3, v1)) else (if (lg_cmp r1 24749811143) = 0 then (some (4, v1)) else (if (lg_cmp r1 8902245) = 0 then (some (5, v1)) else (if (lg_cmp r1 21486770) = 0 then (some (6, v1)) else (some ((-1), v1))))))))))) : Option (Int32 × jx_V)) = some (kdf m, v) := by
  simp only [h, Option.bind_some, c0, c1, c2, c3, c4, c5, c6]
  unfold kdf
  cases m 0 <;> cases m 1 <;> cases m 2 <;> cases m 3 <;> cases m 4 <;> cases m 5 <;> cases m 6 <;> rfl
theorem ax_ri {fh rc rp rw1 : jx_V → Option jx_V} {rt : Int32 → jx_V → Option jx_V} {kw i11 i15 i16 : jx_V → Option (Int32 × jx_V)} {v : jx_V} {k a b c : Int32} (h0 : kw v = some (k, v)) (h1 : i11 v = some (a, v)) (h2 : i15 v = some (b, v)) (h3 : i16 v = some (c, v)) (hab : a ≠ 0 → b = 0 ∧ c = 0) :
    ((kw v).bind (fun (r1, v1) => (if r1 < 0 then ((i11 v1).bind (fun (r3, v3) => (if r3 = 0 then ((i15 v3).bind (fun (r5, v5) => (if r5 = 0 then ((i16 v5).bind (fun (r7, v7) => (if r7 = 0 then ((fh v7).bind (fun v9 => (some v9))) else ((rc v7).bind (fun v10 => (some v10)))))) else ((rp v5).bind (fun v11 => (some v11)))))) else (if 10 ≤ (v3 33 5) then ((i15 v3).bind (fun (r13, v13) => (if r13 = 0 then ((i16 v13).bind (fun (r15, v15) => (if r15 = 0 then ((fh v15).bind (fun v17 => (some v17))) else ((rc v15).bind (fun v18 => (some v18)))))) else ((rp v13).bind (fun v19 => (some v19)))))) else ((rw1 v3).bind (fun v20 => (some v20))))))) else ((rt r1 v1).bind (fun v21 => (some v21)))))) = if k < 0 then (if a = 0 then (if b = 0 then (if c = 0 then fh v else rc v) else rp v) else if 10 ≤ v 33 5 then fh v else rw1 v) else rt k v := by
  simp only [h0, h1, h2, h3, Option.bind_some, bso]
  by_cases c1 : a = 0
  · simp only [if_pos c1]
  · obtain ⟨x, y⟩ := hab c1
    simp only [if_neg c1, x, y, z00, if_true]
theorem ax_it {wi pi n1 n0 lo : jx_V → Option jx_V} {ti : Int32 → jx_V → Option jx_V} {kh : jx_V → Option (Int32 × jx_V)} {wd : jx_V → Option (Int64 × jx_V)} {at_ : Int32 → Int32 → jx_V → Option (Int32 × jx_V)} {v w2 w3 : jx_V} {k : Int32} {hh xw xp xc : Int64} (h0 : kh v = some (k, v)) (h1 : wd v = some (hh, v)) (e3 : (if lg_cmp hh xc = 0 then n1 v else n0 v) = some w2) (e4 : (if w2 0 16 = 0 then lo w2 else some w2) = some w3) :
    ((kh v).bind (fun (r1, v1) => (if r1 < 0 then ((wd v1).bind (fun (r3, v3) => (if (lg_cmp r3 xw) = 0 then ((wi v3).bind (fun v28 => (some v28))) else ((wd v3).bind (fun (r5, v5) => (if (lg_cmp r5 xp) = 0 then ((pi v5).bind (fun v27 => (some v27))) else ((wd v5).bind (fun (r7, v7) => (if (lg_cmp r7 xc) = 0 then ((n1 v7).bind (fun v18 => (if (v18 0 16) = 0 then ((lo v18).bind (fun v23 => (if (v23 0 16) = 0 then ((at_ (v23 0 15) 0 v23).bind (fun (r25, v25) => (if (r25 < 0 ∨ 181 ≤ Int32.toNatClampNeg r25) then none else (some (jx_up v25 1 (Int32.toNatClampNeg r25) (-1)))))) else (some v23)))) else (if (v18 0 16) = 0 then ((at_ (v18 0 15) 0 v18).bind (fun (r21, v21) => (if (r21 < 0 ∨ 181 ≤ Int32.toNatClampNeg r21) then none else (some (jx_up v21 1 (Int32.toNatClampNeg r21) (-1)))))) else (some v18))))) else ((n0 v7).bind (fun v9 => (if (v9 0 16) = 0 then ((lo v9).bind (fun v14 => (if (v14 0 16) = 0 then ((at_ (v14 0 15) 0 v14).bind (fun (r16, v16) => (if (r16 < 0 ∨ 181 ≤ Int32.toNatClampNeg r16) then none else (some (jx_up v16 1 (Int32.toNatClampNeg r16) (-1)))))) else (some v14)))) else (if (v9 0 16) = 0 then ((at_ (v9 0 15) 0 v9).bind (fun (r12, v12) => (if (r12 < 0 ∨ 181 ≤ Int32.toNatClampNeg r12) then none else (some (jx_up v12 1 (Int32.toNatClampNeg r12) (-1)))))) else (some v9)))))))))))))) else ((ti r1 v1).bind (fun v29 => (some v29)))))) = if k < 0 then (if lg_cmp hh xw = 0 then wi v else if lg_cmp hh xp = 0 then pi v else if w3 0 16 = 0 then (at_ (w3 0 15) 0 w3).bind (fun (r25, v25) => if (r25 < 0 ∨ 181 ≤ Int32.toNatClampNeg r25) then none else some (jx_up v25 1 (Int32.toNatClampNeg r25) (-1))) else some w3) else ti k v := by
  simp only [h0, h1, Option.bind_some, bso]
  by_cases c : lg_cmp hh xc = 0
  · rw [if_pos c] at e3
    simp only [if_pos c, e3, Option.bind_some]
    by_cases d : w2 0 16 = 0
    · rw [if_pos d] at e4
      simp only [if_pos d, e4, Option.bind_some]
    · rw [if_neg d] at e4
      injection e4 with e4
      subst e4
      simp only [if_neg d]
  · rw [if_neg c] at e3
    simp only [if_neg c, e3, Option.bind_some]
    by_cases d : w2 0 16 = 0
    · rw [if_pos d] at e4
      simp only [if_pos d, e4, Option.bind_some]
    · rw [if_neg d] at e4
      injection e4 with e4
      subst e4
      simp only [if_neg d]
def IX (v v' : jx_V) : Prop := ∀ c, c ≠ 53 → (c < 33 ∨ 49 ≤ c) → v' c = v c
def IM (w w' : jx_V) : Prop := (∀ c, c ≠ 0 → c ≠ 1 → w' c = w c) ∧ ∀ j, j < 13 → w' 0 j = w 0 j
theorem IX_r {v} : IX v v := fun _ _ _ => rfl
theorem IX_t {u v w} (a : IX u v) (b : IX v w) : IX u w := fun c h k => (b c h k).trans (a c h k)
theorem IM_r {v} : IM v v := ⟨fun _ _ _ => rfl, fun _ _ => rfl⟩
theorem IM_t {u v w} (a : IM u v) (b : IM v w) : IM u w := ⟨fun c h k => (b.1 c h k).trans (a.1 c h k), fun c h => (b.2 c h).trans (a.2 c h)⟩
theorem XI {v v'} (a : XF v v') : IX v v' := fun c h _ => a c h
theorem MI {w w'} (a : MF w w') : IM w w' := ⟨fun c h _ => a.1 c h, a.2⟩
def TWN (v w : jx_V) : Prop := cT 33 v = mT (w 1) ∧ OK (cT 33 v)
def IT (B : Nat → Int32) (L : Nat) (g : Bool) (b : Nat) (v w : jx_V) : Prop := PR B L g b v w ∧ (g = true → TWN v w)
theorem TWN_t {v w v' w'} (t : TWN v w) (x : XF v v') (y : MF w w') : TWN v' w' := by
  have e : cT 33 v' = cT 33 v := cT_congr (fun c h1 h2 => x c (by omega))
  unfold TWN
  rw [e, y.1 1 (by omega)]; exact t
theorem TWN_k {v w} (t : TWN v w) : ∀ l, l < 25 → v 36 l = w 1 (11 + 4 * l) := by
  intro l hl
  have := congrFun (congrArg Tn.K t.1) l
  rw [cK hl, mK hl] at this
  exact this
theorem PR_fr {B L g b v w v' w'} (p : PR B L g b v w) (a53 : v' 53 = v 53) (a54 : v' 54 = v 54) (b0 : w' 0 = w 0) (b8 : w' 8 = w 8) : PR B L g b v' w' := by
  unfold PR TX TM at p ⊢
  rw [a53, a54, b0, b8]; exact p
theorem PR_g {B L b v w} (p : PR B L true b v w) : ¬ 0 ≤ v 53 6 ∧ w 0 16 = 0 := ⟨by rw [(p.2.2.2.2.2.2.2.2.2.1 rfl).1]; exact m1n, (p.2.2.2.2.2.2.2.2.2.1 rfl).2⟩
theorem PR_b {B L b v w} (p : PR B L false b v w) : 0 ≤ v 53 6 ∧ ¬ w 0 16 = 0 := ⟨(PR_f p).2, by rw [(p.2.2.2.2.2.2.2.2.2.2 rfl).2]; decide⟩
theorem fin_put {B L b v w} {kd : Int32} {q o h pp : Nat} (p : PR B L true b v w) (T : TWN v w) (hk : 0 ≤ kd) (hq : q < 25) (ho : o < 4) (hh : h < 10) (hp : pp < 4) : ∃ v' w', f_X3_put 33 (nI q) kd (nI o) (nI h) (nI pp) v = some v' ∧ f_X5_builds (nI q) kd (nI o) (nI h) (nI pp) w = some w' ∧ IT B L true b v' w' ∧ IX v v' ∧ IM w w' := by
  refine ⟨_, _, x_put (h := 33) hq, m_builds hq, ⟨PR_fr p ?_ ?_ ?_ ?_, fun _ => ⟨?_, ?_⟩⟩, fun c h1 h2 => ?_, ⟨fun c h1 h2 => ?_, fun j hj => ?_⟩⟩
  · rw [jx_up_ne (by omega), jx_up_ne (by omega), jx_up_ne (by omega), jx_up_ne (by omega)]
  · rw [jx_up_ne (by omega), jx_up_ne (by omega), jx_up_ne (by omega), jx_up_ne (by omega)]
  · rw [jx_up_ne (by omega), jx_up_ne (by omega), jx_up_ne (by omega), jx_up_ne (by omega)]
  · rw [jx_up_ne (by omega), jx_up_ne (by omega), jx_up_ne (by omega), jx_up_ne (by omega)]
  · rw [c_put (h := 33) hq hk]; simp only [up_c]; rw [m_put hq hk, T.1]
  · rw [c_put (h := 33) hq hk]; exact OK_bld T.2 hk ⟨o, ho, rfl⟩ ⟨h, hh, rfl⟩ ⟨pp, hp, rfl⟩
  · rw [jx_up_ne (by omega), jx_up_ne (by omega), jx_up_ne (by omega), jx_up_ne (by omega)]
  · rw [jx_up_ne h2, jx_up_ne h2, jx_up_ne h2, jx_up_ne h2]
  · rw [jx_up_ne (by omega), jx_up_ne (by omega), jx_up_ne (by omega), jx_up_ne (by omega)]
theorem ax_p2 {t10 : jx_V → Option jx_V} {n4 : jx_V → Option (Int32 × jx_V)} {pt : Int32 → jx_V → Option jx_V} {v v1 v2 : jx_V} {r : Int32} (h1 : t10 v = some v1) (h2 : n4 v1 = some (r, v2)) : ((t10 v).bind (fun v12 => (n4 v12).bind (fun (r13, v13) => if 0 ≤ v13 53 6 then some v13 else pt r13 v13))) = if 0 ≤ v2 53 6 then some v2 else pt r v2 := by
  simp only [h1, h2, Option.bind_some]
theorem ax_p3 {nbp : jx_V → Option (Int32 × jx_V)} {bd : Int32 → jx_V → Option jx_V} {v v1 : jx_V} {r : Int32} (h1 : nbp v = some (r, v1)) : ((nbp v).bind (fun (r43, v43) => if v43 0 16 = 0 then bd r43 v43 else some v43)) = if v1 0 16 = 0 then bd r v1 else some v1 := by
  simp only [h1, Option.bind_some]
theorem it_thing {B L b v w} {kd : Int32} (hk : 0 ≤ kd) (p : PR B L true b v w) (s : sr B L b = 1) (T : TWN v w) : ∃ g' b' v' w', f_X2_readThing 33 kd v = some v' ∧ f_X5_thingItem kd w = some w' ∧ IT B L g' b' v' w' ∧ b < b' ∧ IX v v' ∧ IM w w' := by
  obtain ⟨v1, w1, b1, a1, a2, p1, a3, a4, a5, _⟩ := step_ok p (by rw [s]; decide)
  have tg := te_gt (B := B) (L := L) (b := b) (Or.inl s)
  have T1 := TWN_t T a4 a5
  obtain ⟨h1, m1, _⟩ := m_word p1
  obtain ⟨g2, b2, v2, w2, c1, c2, p2, c3, c4, c5, c6, _⟩ := tw (k := 7) (by omega) p1
  have T2 := TWN_t T1 c5 c6
  obtain ⟨r3, g3, b3, v3, w3, d1, d2, p3, d3, d4, d5, d6⟩ := tlt (Or.inl ⟨rfl, rfl⟩) p2 (fun _ => TWN_k T2)
  have T3 := TWN_t T2 d5 d6
  obtain ⟨r5, r5', g5, b5, v4, v5, w5, e1, e2, e3, p5, e4, e5, e6, e7⟩ := nb (k := 8) (lim := 4) (x := 486) (y := 3) (z := 4) (by omega) (by omega) (by omega) rfl rfl rfl p3
  have T5 := TWN_t T3 e6 e7
  obtain ⟨r7, r7', g7, b7, v6, v7, w7, f1, f2, f3, p7, f4, f5, f6, f7⟩ := nb (k := 9) (lim := 10) (x := 271592) (y := 9) (z := 10) (by omega) (by omega) (by omega) rfl rfl rfl p5
  have T7 := TWN_t T5 f6 f7
  obtain ⟨h7, m7, q7⟩ := m_word p7
  have iw := x_isw p7 (k := 10) (by omega)
  have c10 := q7 10 (by omega) 16819668 rfl
  have X7 : XF v v7 := XF_t a4 (XF_t c5 (XF_t d5 (XF_t e6 f6)))
  have M7 : MF w w7 := MF_t a5 (MF_t c6 (MF_t d6 (MF_t e7 f7)))
  have EX : f_X2_readThing 33 kd v = _ := ax_rt (nt := f_X2_nextToken) (t7 := f_X2_takeWord 7) (tl := f_X2_takeLot 33 0) (t8 := f_X2_takeWord 8) (n4 := f_X2_takeNumber 4) (t9 := f_X2_takeWord 9) (n10v := f_X2_takeNumber 10) (iw := f_X2_isWord 10) (pt := f_X3_put 33) (t10 := f_X2_takeWord 10) (x2 := kd) a1 c1 d1 e1 e2 f1 f2 iw
  have EM : f_X5_thingItem kd w = _ := ax_ti (n1 := f_X5_needs 1) (n0 := f_X5_needs 0) (wd := f_X5_word) (lo := f_X5_lotTold 1) (nbo := f_X5_numberBehind 486 3) (nbh := f_X5_numberBehind 271592 9) (nbp := f_X5_numberBehind 16819668 3) (bd := f_X5_builds) (x52 := 52) (xp := 16819668) (x1 := kd) a2 m1 (c2 52 h1 rfl m1) d2 e3 f3 m7
  rw [EX, EM]
  have good : g7 = true → (∃ q, q < 25 ∧ r3 = nI q ∧ w3 0 15 = nI q) ∧ (r5' = r5 ∧ ∃ q, q < 4 ∧ r5 = nI q) ∧ (r7' = r7 ∧ ∃ q, q < 10 ∧ r7 = nI q) := fun q => by
    obtain ⟨y1, y2, y3⟩ := f4 q
    obtain ⟨z1, z2, z3⟩ := e4 y1
    exact ⟨(d3 z1).2, ⟨z2, z3⟩, ⟨y2, y3⟩⟩
  by_cases m : mt B L b7 10 = true
  · rw [if_pos m, if_neg i10]
    cases g7 with
    | true =>
      obtain ⟨r13, r13', g13, b13, v12, v13, w13, k1, k2, k3, p13, k4, k5, k6, k7⟩ := nb (k := 10) (lim := 4) (x := 16819668) (y := 3) (z := 4) (by omega) (by omega) (by omega) rfl rfl rfl p7
      have T13 := TWN_t T7 k6 k7
      rw [ax_p2 (pt := fun r v => f_X3_put 33 r3 kd r5 r7 r v) k1 k2, if_pos (show lg_cmp h7 16819668 = 0 by rw [c10]; exact ⟨rfl, m⟩), ax_p3 (bd := fun r v => f_X5_builds (w3 0 15) kd r5' r7' r v) k3]
      cases g13 with
      | true =>
        obtain ⟨⟨q, hq, eq, eq'⟩, ⟨eo', o, ho, eo⟩, ⟨eh', hh, hh', eh⟩⟩ := good rfl
        obtain ⟨_, ep', pp, hp, ep⟩ := k4 rfl
        obtain ⟨v', w', s1, s2, s3, s4, s5⟩ := fin_put (kd := kd) (q := q) (o := o) (h := hh) (pp := pp) p13 T13 hk hq ho hh' hp
        rw [if_neg (PR_g p13).1, if_pos (PR_g p13).2, eq', eo', eh', ep', eq, eo, eh, ep]
        exact ⟨true, b13, v', w', s1, s2, s3, by omega, IX_t (XI (XF_t X7 k6)) s4, IM_t (MI (MF_t M7 k7)) s5⟩
      | false =>
        rw [if_pos (PR_b p13).1, if_neg (PR_b p13).2]
        exact ⟨false, b13, v13, w13, rfl, rfl, ⟨p13, fun q => absurd q (by decide)⟩, by omega, XI (XF_t X7 k6), MI (MF_t M7 k7)⟩
    | false =>
      rw [ax_p2 (pt := fun r v => f_X3_put 33 r3 kd r5 r7 r v) (tw_f p7) (tn_f p7), if_neg (show ¬ lg_cmp h7 16819668 = 0 by rw [c10]; exact fun k => absurd k.1 (by decide)), if_pos (PR_b p7).1, if_neg (PR_b p7).2]
      exact ⟨false, b7, v7, w7, rfl, rfl, ⟨p7, fun q => absurd q (by decide)⟩, by omega, XI X7, MI M7⟩
  · rw [if_neg m, if_pos i00, if_neg (show ¬ lg_cmp h7 16819668 = 0 by rw [c10]; exact fun k => m k.2)]
    cases g7 with
    | true =>
      obtain ⟨⟨q, hq, eq, eq'⟩, ⟨eo', o, ho, eo⟩, ⟨eh', hh, hh', eh⟩⟩ := good rfl
      obtain ⟨v', w', s1, s2, s3, s4, s5⟩ := fin_put (kd := kd) (q := q) (o := o) (h := hh) (pp := 0) p7 T7 hk hq ho hh' (by omega)
      rw [show nI 0 = 0 from rfl] at s1 s2
      rw [if_neg (PR_g p7).1, if_pos (PR_g p7).2, eq', eo', eh', eq, eo, eh]
      exact ⟨true, b7, v', w', s1, s2, s3, by omega, IX_t (XI X7) s4, IM_t (MI M7) s5⟩
    | false =>
      rw [if_pos (PR_b p7).1, if_neg (PR_b p7).2]
      exact ⟨false, b7, v7, w7, rfl, rfl, ⟨p7, fun q => absurd q (by decide)⟩, by omega, XI X7, MI M7⟩
theorem fin_win {B L b v w} {a l y t N : Nat} (p : PR B L true b v w) (T : TWN v w) (hN : N < 10) (eN : w 1 1 = nI N) (ha : a < 25) (hl : l < 10) (hy : y < 4) (ht : t < 4) : ∃ v' w', f_X3_addWindow 33 (nI a) (nI l) (nI y) (nI t) v = some v' ∧ (f_X5_newWindow (nI a) (nI l) (nI y) (nI t) w).bind (fun (r8, v8) => some v8) = some w' ∧ IT B L true b v' w' ∧ IX v v' ∧ IM w w' := by
  have eN' : v 33 5 = nI N := by
    have := congrArg Tn.n T.1
    exact this.trans eN
  refine ⟨_, _, x_addw (h := 33) hN eN', by rw [m_neww hN eN, Option.bind_some], ⟨PR_fr p ?_ ?_ ?_ ?_, fun _ => ⟨?_, ?_⟩⟩, fun c h1 h2 => ?_, ⟨fun c h1 h2 => ?_, fun j hj => ?_⟩⟩
  · simp only [jx_up_ne (show (53 : Nat) ≠ 33 + 7 by omega), jx_up_ne (show (53 : Nat) ≠ 33 + 8 by omega), jx_up_ne (show (53 : Nat) ≠ 33 + 9 by omega), jx_up_ne (show (53 : Nat) ≠ 33 + 10 by omega), jx_up_ne (show (53 : Nat) ≠ 33 + 11 by omega), jx_up_ne (show (53 : Nat) ≠ 33 + 12 by omega), jx_up_ne (show (53 : Nat) ≠ 33 by omega)]
  · simp only [jx_up_ne (show (54 : Nat) ≠ 33 + 7 by omega), jx_up_ne (show (54 : Nat) ≠ 33 + 8 by omega), jx_up_ne (show (54 : Nat) ≠ 33 + 9 by omega), jx_up_ne (show (54 : Nat) ≠ 33 + 10 by omega), jx_up_ne (show (54 : Nat) ≠ 33 + 11 by omega), jx_up_ne (show (54 : Nat) ≠ 33 + 12 by omega), jx_up_ne (show (54 : Nat) ≠ 33 by omega)]
  · simp only [jx_up_ne (show (0 : Nat) ≠ 1 by omega)]
  · simp only [jx_up_ne (show (8 : Nat) ≠ 1 by omega)]
  · rw [c_win (h := 33) hN eN']; simp only [up_c]; rw [m_win hN eN, T.1]
  · rw [c_win (h := 33) hN eN']
    exact OK_nwin T.2 (by rw [nwc, eN', tn (by omega)]; exact hN) ⟨a, ha, rfl⟩ ⟨l, hl, rfl⟩ ⟨y, hy, rfl⟩ ⟨t, ht, rfl⟩
  · rw [jx_up_ne (by omega), jx_up_ne (by omega), jx_up_ne (by omega), jx_up_ne (by omega), jx_up_ne (by omega), jx_up_ne (by omega), jx_up_ne (by omega)]
  · rw [jx_up_ne h2, jx_up_ne h2, jx_up_ne h2, jx_up_ne h2, jx_up_ne h2, jx_up_ne h2, jx_up_ne h2]
  · simp only [jx_up_ne (show (0 : Nat) ≠ 1 by omega)]
theorem wi_f {B L b v w w1} (e1 : (if 10 ≤ w 1 1 then f_X5_needs 0 w else f_X5_needs 1 w) = some w1) (p : PR B L false b v w1) : ∃ w', f_X5_windowItem w = some w' ∧ PR B L false b v w' ∧ MF w1 w' := by
  obtain ⟨r2, w2, a1, p2, a2⟩ := nb_f p 52 24
  obtain ⟨r3, w3, c1, p3, c2⟩ := nb_f p2 12769452 9
  obtain ⟨r4, w4, d1, p4, d2⟩ := nb_f p3 23609 3
  obtain ⟨r5, w5, e2, p5, e3⟩ := nb_f p4 6642 3
  have EM : f_X5_windowItem w = _ := ax_wi (n1 := f_X5_needs 1) (n0 := f_X5_needs 0) (na := f_X5_numberBehind 52 24) (nl := f_X5_numberBehind 12769452 9) (nw := f_X5_numberBehind 23609 3) (nf := f_X5_numberBehind 6642 3) (ne := f_X5_newWindow) e1 a1 c1 d1 e2
  rw [EM, if_neg (PR_b p5).2]
  exact ⟨w5, rfl, p5, MF_t a2 (MF_t c2 (MF_t d2 e3))⟩
theorem it_win {B L b v w} (p : PR B L true b v w) (s : sr B L b = 1) (T : TWN v w) (hN : ¬ 10 ≤ v 33 5) : ∃ g' b' v' w', f_X2_readWindow 33 v = some v' ∧ f_X5_windowItem w = some w' ∧ IT B L g' b' v' w' ∧ b < b' ∧ IX v v' ∧ IM w w' := by
  have en : v 33 5 = w 1 1 := congrArg Tn.n T.1
  obtain ⟨v1, w1, b1, a1, a2, p1, a3, a4, a5, _⟩ := step_ok p (by rw [s]; decide)
  have tg := te_gt (B := B) (L := L) (b := b) (Or.inl s)
  have T1 := TWN_t T a4 a5
  obtain ⟨r3, r3', g3, b3, v2, v3, w3, c1, c2, c3, p3, c4, c5, c6, c7⟩ := nb (k := 7) (lim := 25) (x := 52) (y := 24) (z := 25) (by omega) (by omega) (by omega) rfl rfl rfl p1
  obtain ⟨r5, r5', g5, b5, v4, v5, w5, e1, e2, e3, p5, e4, e5, e6, e7⟩ := nb (k := 12) (lim := 10) (x := 12769452) (y := 9) (z := 10) (by omega) (by omega) (by omega) rfl rfl rfl p3
  obtain ⟨r7, r7', g7, b7, v6, v7, w7, f1, f2, f3, p7, f4, f5, f6, f7⟩ := nb (k := 13) (lim := 4) (x := 23609) (y := 3) (z := 4) (by omega) (by omega) (by omega) rfl rfl rfl p5
  obtain ⟨r9, r9', g9, b9, v8, v9, w9, k1, k2, k3, p9, k4, k5, k6, k7⟩ := nb (k := 14) (lim := 4) (x := 6642) (y := 3) (z := 4) (by omega) (by omega) (by omega) rfl rfl rfl p7
  have X : XF v v9 := XF_t a4 (XF_t c6 (XF_t e6 (XF_t f6 k6)))
  have M : MF w w9 := MF_t a5 (MF_t c7 (MF_t e7 (MF_t f7 k7)))
  have T9 := TWN_t T X M
  have EX : f_X2_readWindow 33 v = _ := ax_rw (nt := f_X2_nextToken) (t7 := f_X2_takeWord 7) (n25 := f_X2_takeNumber 25) (t12 := f_X2_takeWord 12) (n10v := f_X2_takeNumber 10) (t13 := f_X2_takeWord 13) (n4 := f_X2_takeNumber 4) (t14 := f_X2_takeWord 14) (aw := f_X3_addWindow 33) a1 c1 c2 e1 e2 f1 f2 k1 k2
  have EM : f_X5_windowItem w = _ := ax_wi (n1 := f_X5_needs 1) (n0 := f_X5_needs 0) (na := f_X5_numberBehind 52 24) (nl := f_X5_numberBehind 12769452 9) (nw := f_X5_numberBehind 23609 3) (nf := f_X5_numberBehind 6642 3) (ne := f_X5_newWindow) (by rw [if_neg (by rw [← en]; exact hN)]; exact a2) c3 e3 f3 k3
  rw [EX, EM]
  cases g9 with
  | false =>
    rw [if_pos (PR_b p9).1, if_neg (PR_b p9).2]
    exact ⟨false, b9, v9, w9, rfl, rfl, ⟨p9, fun q => absurd q (by decide)⟩, by omega, XI X, MI M⟩
  | true =>
    obtain ⟨y1, y2, t, ht, et⟩ := k4 rfl
    obtain ⟨z1, z2, y, hy, ey⟩ := f4 y1
    obtain ⟨u1, u2, l, hl, el⟩ := e4 z1
    obtain ⟨_, x2, a, ha, ea⟩ := c4 u1
    obtain ⟨N, hN', eN⟩ := T9.2.n
    have eN2 : w9 1 1 = nI N := by rw [T9.1] at eN; exact eN
    have en9 : w9 1 1 = v 33 5 := by rw [M.1 1 (by omega), en]
    have hN2 : N < 10 := by
      rw [← en9, eN2, show (10 : Int32) = nI 10 from rfl, pI_le (by omega) (by omega)] at hN
      omega
    obtain ⟨v', w', s1, s2, s3, s4, s5⟩ := fin_win p9 T9 hN2 eN2 ha hl hy ht
    rw [if_neg (PR_g p9).1, if_pos (PR_g p9).2, x2, u2, z2, y2, ea, el, ey, et]
    exact ⟨true, b9, v', w', s1, s2, s3, by omega, IX_t (XI X) s4, IM_t (MI M) s5⟩
theorem it_price {B L b v w} (p : PR B L true b v w) (s : sr B L b = 1) (T : TWN v w) : ∃ g' b' v' w', f_X2_readPrice 33 v = some v' ∧ f_X5_priceItem w = some w' ∧ IT B L g' b' v' w' ∧ b < b' ∧ IX v v' ∧ IM w w' := by
  obtain ⟨v1, w1, b1, a1, a2, p1, a3, a4, a5, _⟩ := step_ok p (by rw [s]; decide)
  have tg := te_gt (B := B) (L := L) (b := b) (Or.inl s)
  obtain ⟨r2, g2, b2, v2, w2, c1, c2, p2, c3, c4, c5, c6⟩ := tnm (lim := 4) (by omega) (by omega) p1
  obtain ⟨r3, g3, b3, v3, w3, d1, d2, p3, d3, d4, d5, d6⟩ := tnm (lim := 100) (by omega) (by omega) p2
  have X : XF v v3 := XF_t a4 (XF_t c5 d5)
  have M : MF w w3 := MF_t a5 (MF_t c6 d6)
  have T3 := TWN_t T X M
  have EX : f_X2_readPrice 33 v = _ := ax_rp (nt := f_X2_nextToken) (n4 := f_X2_takeNumber 4) (n100 := f_X2_takeNumber 100) a1 c1 d1
  have EM : f_X5_priceItem w = _ := ax_pi (n1 := f_X5_needs 1) (na := f_X5_number 0 3) (nc := f_X5_number 0 99) a2 c2 d2
  rw [EX, EM]
  cases g3 with
  | false =>
    rw [if_pos (PR_b p3).1, if_neg (PR_b p3).2]
    exact ⟨false, b3, v3, w3, rfl, rfl, ⟨p3, fun q => absurd q (by decide)⟩, by omega, XI X, MI M⟩
  | true =>
    obtain ⟨y1, q, hq, e1, e2⟩ := d3 rfl
    obtain ⟨_, t, ht, e3, e4⟩ := c3 y1
    rw [if_neg (PR_g p3).1, if_pos (PR_g p3).2, e4, e3, e2, e1, p3_n]
    simp only [tn (show t < 2147483648 by omega), ib ht (show 4 ≤ 100000 by omega), tn (show 3 + t < 2147483648 by omega), ib (show 3 + t < 181 by omega) (show 181 ≤ 100000 by omega), if_false]
    refine ⟨true, b3, _, _, rfl, rfl, ⟨PR_fr p3 (jx_up_ne (by omega)) (jx_up_ne (by omega)) (jx_up_ne (by omega)) (jx_up_ne (by omega)), fun _ => ⟨?_, ?_⟩⟩, by omega, IX_t (XI X) (fun c h1 h2 => jx_up_ne (by omega)), IM_t (MI M) ⟨fun c h1 h2 => jx_up_ne h2, fun j hj => by rw [jx_up_ne (by omega)]⟩⟩
    · rw [show jx_up v3 46 = jx_up v3 (33 + 13) from rfl, c_sC (h := 33) ht, up_c, m_sC ht, T3.1]
    · rw [show jx_up v3 46 = jx_up v3 (33 + 13) from rfl, c_sC (h := 33) ht]; exact OK_sC T3.2
theorem it_clear {B L b v w w2} (p : PR B L true b v w) (s : sr B L b = 1) (T : TWN v w) (en : f_X5_needs 1 w = some w2) : ∃ g' b' v' w3 w', f_X2_readClear 33 v = some v' ∧ (if w2 0 16 = 0 then f_X5_lotTold 0 w2 else some w2) = some w3 ∧ (if w3 0 16 = 0 then (f_X5_at (w3 0 15) 0 w3).bind (fun (r25, v25) => if (r25 < 0 ∨ 181 ≤ Int32.toNatClampNeg r25) then none else some (jx_up v25 1 (Int32.toNatClampNeg r25) (-1))) else some w3) = some w' ∧ IT B L g' b' v' w' ∧ b < b' ∧ IX v v' ∧ IM w w' := by
  obtain ⟨v1, w1, b1, a1, a2, p1, a3, a4, a5, _⟩ := step_ok p (by rw [s]; decide)
  have tg := te_gt (B := B) (L := L) (b := b) (Or.inl s)
  have ew : w1 = w2 := by rw [a2] at en; injection en
  subst ew
  have T1 := TWN_t T a4 a5
  obtain ⟨r3, g3, b3, v3, w3, d1, d2, p3, d3, d4, d5, d6⟩ := tlt (Or.inr ⟨rfl, rfl⟩) p1 (fun _ => TWN_k T1)
  have X : XF v v3 := XF_t a4 d5
  have M : MF w w3 := MF_t a5 d6
  have T3 := TWN_t T X M
  have EX : f_X2_readClear 33 v = _ := ax_rc (nt := f_X2_nextToken) (tl := f_X2_takeLot 33 1) (tk := f_X3_takeOff 33) a1 d1
  rw [EX]
  cases g3 with
  | false =>
    rw [if_pos (PR_b p3).1]
    exact ⟨false, b3, v3, w3, w3, rfl, d2, if_neg (PR_b p3).2, ⟨p3, fun q => absurd q (by decide)⟩, by omega, XI X, MI M⟩
  | true =>
    obtain ⟨_, q, hq, e1, e2⟩ := d3 rfl
    rw [if_neg (PR_g p3).1, e1, x_off (h := 33) hq]
    refine ⟨true, b3, _, w3, jx_up w3 1 (11 + 4 * q) (-1), rfl, d2, ?_, ⟨PR_fr p3 (jx_up_ne (by omega)) (jx_up_ne (by omega)) (jx_up_ne (by omega)) (jx_up_ne (by omega)), fun _ => ⟨?_, ?_⟩⟩, by omega, IX_t (XI X) (fun c h1 h2 => jx_up_ne (by omega)), IM_t (MI M) ⟨fun c h1 h2 => jx_up_ne h2, fun j hj => by rw [jx_up_ne (by omega)]⟩⟩
    · rw [if_pos (PR_g p3).2, e2]
      simp only [f_X5_at, Option.bind_some, at0, tn (show 11 + 4 * q < 2147483648 by omega), ib (show 11 + 4 * q < 181 by omega) (show 181 ≤ 100000 by omega), if_false]
    · rw [c_off (h := 33) hq, up_c, m_off hq, T3.1]
    · rw [c_off (h := 33) hq]; exact OK_rem T3.2
theorem kdf_r {m : Nat → Bool} : kdf m < 0 ∨ (0 ≤ kdf m ∧ ¬ kdf m < 0 ∧ ∃ k, k < 7 ∧ m k = true) := by
  unfold kdf
  by_cases h0 : m 0 = true
  · rw [if_pos h0]; exact Or.inr ⟨by decide, by decide, 0, by omega, h0⟩
  rw [if_neg h0]
  by_cases h1 : m 1 = true
  · rw [if_pos h1]; exact Or.inr ⟨by decide, by decide, 1, by omega, h1⟩
  rw [if_neg h1]
  by_cases h2 : m 2 = true
  · rw [if_pos h2]; exact Or.inr ⟨by decide, by decide, 2, by omega, h2⟩
  rw [if_neg h2]
  by_cases h3 : m 3 = true
  · rw [if_pos h3]; exact Or.inr ⟨by decide, by decide, 3, by omega, h3⟩
  rw [if_neg h3]
  by_cases h4 : m 4 = true
  · rw [if_pos h4]; exact Or.inr ⟨by decide, by decide, 4, by omega, h4⟩
  rw [if_neg h4]
  by_cases h5 : m 5 = true
  · rw [if_pos h5]; exact Or.inr ⟨by decide, by decide, 5, by omega, h5⟩
  rw [if_neg h5]
  by_cases h6 : m 6 = true
  · rw [if_pos h6]; exact Or.inr ⟨by decide, by decide, 6, by omega, h6⟩
  rw [if_neg h6]
  exact Or.inl (by decide)
theorem x_kind {B L g b v w} (p : PR B L g b v w) : f_X2_kindOfWord v = some (kdf (mt B L b), v) :=
  ax_kw (m := mt B L b) (i0 := f_X2_isWord 0) (i1 := f_X2_isWord 1) (i2 := f_X2_isWord 2) (i3 := f_X2_isWord 3) (i4 := f_X2_isWord 4) (i5 := f_X2_isWord 5) (i6 := f_X2_isWord 6) (x_isw p (by omega)) (x_isw p (by omega)) (x_isw p (by omega)) (x_isw p (by omega)) (x_isw p (by omega)) (x_isw p (by omega)) (x_isw p (by omega))
theorem m_kind {B L g b v w} (p : PR B L g b v w) : f_X5_kindHere w = some (kdf (fun k => decide (g = true ∧ mt B L b k = true)), w) := by
  obtain ⟨hh, e, c⟩ := m_word p
  have c' : ∀ k, k < 17 → ∀ x : Int64, x = Int64.ofNat (cdn.getD k 0) → ((lg_cmp hh x = 0) = (decide (g = true ∧ mt B L b k = true) = true)) := fun k hk x hx => by rw [c k hk x hx]; simp
  exact ax_kh (wd := f_X5_word) (m := fun k => decide (g = true ∧ mt B L b k = true)) e (c' 0 (by omega) 2552 rfl) (c' 1 (by omega) 673957 rfl) (c' 2 (by omega) 630948 rfl) (c' 3 (by omega) 553136178 rfl) (c' 4 (by omega) 24749811143 rfl) (c' 5 (by omega) 8902245 rfl) (c' 6 (by omega) 21486770 rfl)
theorem kdf_g {B L b} : kdf (fun k => decide (true = true ∧ mt B L b k = true)) = kdf (mt B L b) := by
  congr 1; funext k; simp
theorem kdf_b {B L b} : kdf (fun k => decide (false = true ∧ mt B L b k = true)) = -1 := by
  have : (fun k => decide (false = true ∧ mt B L b k = true)) = fun _ => false := by funext k; simp
  rw [this]; rfl
theorem mt_len {B L b k j} (h : mt B L b k = true) (hkj : ex_len.getD k 0 ≠ ex_len.getD j 0) : ¬ mt B L b j = true := fun q => hkj ((of_decide_eq_true h).2.1.symm.trans (of_decide_eq_true q).2.1)
theorem item_bad {B L b v w} (p : PR B L false b v w) : ∃ w', f_X5_item w = some w' ∧ PR B L false b v w' ∧ MF w w' := by
  obtain ⟨hh, e, c⟩ := m_word p
  have e16 := (p.2.2.2.2.2.2.2.2.2.2 rfl).2
  have p2 := PR_n p
  have n : ∀ k, k < 17 → ∀ x : Int64, x = Int64.ofNat (cdn.getD k 0) → ¬ lg_cmp hh x = 0 := fun k hk x hx => by rw [c k hk x hx]; exact fun q => absurd q.1 (by decide)
  have EM : f_X5_item w = _ := ax_it (wi := f_X5_windowItem) (pi := f_X5_priceItem) (ti := f_X5_thingItem) (kh := f_X5_kindHere) (wd := f_X5_word) (n1 := f_X5_needs 1) (n0 := f_X5_needs 0) (lo := f_X5_lotTold 0) (at_ := f_X5_at) (xw := 781652471) (xp := 17376357) (xc := 3544114) (w2 := jx_up w 0 16 1) (w3 := jx_up w 0 16 1) (m_kind p) e (by rw [n_bad 1 e16, n_bad 0 e16, ite_self]) (if_neg (PR_b p2).2)
  rw [EM, kdf_b, if_pos (by decide), if_neg (n 11 (by omega) 781652471 rfl), if_neg (n 15 (by omega) 17376357 rfl), if_neg (PR_b p2).2]
  exact ⟨_, rfl, p2, MF_u (by omega)⟩
theorem item_ok {B L b v w} (p : PR B L true b v w) (T : TWN v w) : ∃ g' b' v' w', f_X2_readItem 33 v = some v' ∧ f_X5_item w = some w' ∧ IT B L g' b' v' w' ∧ b ≤ b' ∧ (g' = true → b < b') ∧ IX v v' ∧ IM w w' := by
  obtain ⟨hh, e, c⟩ := m_word p
  have EX : f_X2_readItem 33 v = _ := ax_ri (kw := f_X2_kindOfWord) (i11 := f_X2_isWord 11) (i15 := f_X2_isWord 15) (i16 := f_X2_isWord 16) (fh := f_X2_failHere) (rc := f_X2_readClear 33) (rp := f_X2_readPrice 33) (rw1 := f_X2_readWindow 33) (rt := f_X2_readThing 33) (x_kind p) (x_isw p (by omega)) (x_isw p (by omega)) (x_isw p (by omega)) (fun q => by
    have m : mt B L b 11 = true := by
      by_cases m : mt B L b 11 = true
      · exact m
      · rw [if_neg m] at q; exact absurd rfl q
    exact ⟨if_neg (mt_len m (by decide)), if_neg (mt_len m (by decide))⟩)
  have mk := m_kind p
  rw [kdf_g] at mk
  rw [EX]
  have EM : ∀ w2 w3, (if lg_cmp hh 3544114 = 0 then f_X5_needs 1 w else f_X5_needs 0 w) = some w2 → (if w2 0 16 = 0 then f_X5_lotTold 0 w2 else some w2) = some w3 → f_X5_item w = _ := fun w2 w3 q1 q2 => ax_it (wi := f_X5_windowItem) (pi := f_X5_priceItem) (ti := f_X5_thingItem) (kh := f_X5_kindHere) (wd := f_X5_word) (n1 := f_X5_needs 1) (n0 := f_X5_needs 0) (lo := f_X5_lotTold 0) (at_ := f_X5_at) (xw := 781652471) (xp := 17376357) (xc := 3544114) mk e q1 q2
  have cw := c 11 (by omega) 781652471 rfl
  have cp := c 15 (by omega) 17376357 rfl
  have cc := c 16 (by omega) 3544114 rfl
  obtain ⟨vb, wb, f1, f2, pb, f3, f4, _⟩ := step_bad p
  have toks : ∀ k, mt B L b k = true → sr B L b = 1 := fun k h => mt_1 h
  by_cases m16 : mt B L b 16 = true
  · -- the word clear
    have s := mt_1 m16
    obtain ⟨v1, w1, b1, a1, a2, _⟩ := step_ok p (by rw [s]; decide)
    obtain ⟨g', b', v', w3, w', d1, d2, d3, d4, d5, d6, d7⟩ := it_clear p s T a2
    rw [EM w1 w3 (by rw [if_pos (show lg_cmp hh 3544114 = 0 by rw [cc]; exact ⟨rfl, m16⟩)]; exact a2) d2]
    by_cases k0 : kdf (mt B L b) < 0
    · rw [if_pos k0, if_pos k0]
      by_cases m11 : mt B L b 11 = true
      · exact absurd m16 (mt_len m11 (by decide))
      · rw [if_neg m11, if_pos i00, if_neg (show ¬ lg_cmp hh 781652471 = 0 by rw [cw]; exact fun q => m11 q.2)]
        by_cases m15 : mt B L b 15 = true
        · obtain ⟨g', b', v', w', h1, h2, h3, h4, h5, h6⟩ := it_price p s T
          rw [if_pos m15, if_neg i10, if_pos (show lg_cmp hh 17376357 = 0 by rw [cp]; exact ⟨rfl, m15⟩)]
          exact ⟨g', b', v', w', h1, h2, h3, by omega, fun _ => h4, h5, h6⟩
        · rw [if_neg m15, if_pos i00, if_pos m16, if_neg i10, if_neg (show ¬ lg_cmp hh 17376357 = 0 by rw [cp]; exact fun q => m15 q.2)]
          exact ⟨g', b', v', w', d1, d3, d4, by omega, fun _ => d5, d6, d7⟩
    · rw [if_neg k0, if_neg k0]
      rcases kdf_r (m := mt B L b) with q | ⟨q, _, _⟩
      · exact absurd q k0
      · obtain ⟨g', b', v', w', h1, h2, h3, h4, h5, h6⟩ := it_thing q p s T
        exact ⟨g', b', v', w', h1, h2, h3, by omega, fun _ => h4, h5, h6⟩
  · rw [EM wb wb (by rw [if_neg (show ¬ lg_cmp hh 3544114 = 0 by rw [cc]; exact fun q => m16 q.2)]; exact f2) (if_neg (PR_b pb).2)]
    by_cases k0 : kdf (mt B L b) < 0
    · rw [if_pos k0, if_pos k0]
      by_cases m11 : mt B L b 11 = true
      · have s := mt_1 m11
        rw [if_pos m11, if_neg i10, if_pos (show lg_cmp hh 781652471 = 0 by rw [cw]; exact ⟨rfl, m11⟩)]
        have en : v 33 5 = w 1 1 := congrArg Tn.n T.1
        by_cases cN : 10 ≤ v 33 5
        · rw [if_pos cN, f1]
          obtain ⟨w', g1, g2, g3⟩ := wi_f (w := w) (w1 := wb) (by rw [if_pos (by rw [← en]; exact cN)]; exact f2) pb
          exact ⟨false, b, vb, w', rfl, g1, ⟨g2, fun q => absurd q (by decide)⟩, Nat.le_refl _, fun q => absurd q (by decide), XI f3, MI (MF_t f4 g3)⟩
        · rw [if_neg cN]
          obtain ⟨g', b', v', w', h1, h2, h3, h4, h5, h6⟩ := it_win p s T cN
          exact ⟨g', b', v', w', h1, h2, h3, by omega, fun _ => h4, h5, h6⟩
      · rw [if_neg m11, if_pos i00, if_neg (show ¬ lg_cmp hh 781652471 = 0 by rw [cw]; exact fun q => m11 q.2)]
        by_cases m15 : mt B L b 15 = true
        · obtain ⟨g', b', v', w', h1, h2, h3, h4, h5, h6⟩ := it_price p (mt_1 m15) T
          rw [if_pos m15, if_neg i10, if_pos (show lg_cmp hh 17376357 = 0 by rw [cp]; exact ⟨rfl, m15⟩)]
          exact ⟨g', b', v', w', h1, h2, h3, by omega, fun _ => h4, h5, h6⟩
        · rw [if_neg m15, if_pos i00, if_neg m16, if_pos i00, if_neg (show ¬ lg_cmp hh 17376357 = 0 by rw [cp]; exact fun q => m15 q.2), f1, if_neg (PR_b pb).2]
          exact ⟨false, b, vb, wb, rfl, rfl, ⟨pb, fun q => absurd q (by decide)⟩, Nat.le_refl _, fun q => absurd q (by decide), XI f3, MI f4⟩
    · rw [if_neg k0, if_neg k0]
      rcases kdf_r (m := mt B L b) with q | ⟨q, _, k, _, hm⟩
      · exact absurd q k0
      · obtain ⟨g', b', v', w', h1, h2, h3, h4, h5, h6⟩ := it_thing q p (mt_1 hm) T
        exact ⟨g', b', v', w', h1, h2, h3, by omega, fun _ => h4, h5, h6⟩
theorem sm_bt {B L b} : bte B L b = 59 ↔ sr B L b = 3 := by
  unfold bte sr
  by_cases c : b < L
  · rw [if_pos c, if_pos c]
    by_cases a : 97 ≤ B b ∧ B b ≤ 122
    · rw [if_pos a]
      exact ⟨fun k => by rw [k] at a; exact absurd a (by decide), fun k => absurd k (by decide)⟩
    · rw [if_neg a]
      by_cases d : 48 ≤ B b ∧ B b ≤ 57
      · rw [if_pos d]
        exact ⟨fun k => by rw [k] at d; exact absurd d (by decide), fun k => absurd k (by decide)⟩
      · rw [if_neg d]
        by_cases e : B b = 59
        · rw [if_pos e]; exact ⟨fun _ => rfl, fun _ => e⟩
        · rw [if_neg e]; exact ⟨fun k => absurd k e, fun k => absurd k (by decide)⟩
  · rw [if_neg c, if_neg c]; exact ⟨fun k => absurd k (by decide), fun k => absurd k (by decide)⟩
theorem tx_aux {byt : Option (Int32 × jx_V)} {n1 n0 it : jx_V → Option jx_V} {K : jx_V → Option (Int32 × jx_V)} {w w1 w2 : jx_V} {y : Int32} (hb : byt = some (y, w)) (hn : (if y = 59 then n1 w else n0 w) = some w1) (hi : it w1 = some w2) : (byt.bind (fun (r10, v10) => if r10 = 59 then (n1 v10).bind (fun v14 => (it v14).bind (fun v15 => K v15)) else (n0 v10).bind (fun v12 => (it v12).bind (fun v13 => K v13)))) = K w2 := by
  rw [hb, Option.bind_some]
  simp only []
  by_cases c : y = 59
  · rw [if_pos c] at hn
    rw [if_pos c, hn, Option.bind_some, hi, Option.bind_some]
  · rw [if_neg c] at hn
    rw [if_neg c, hn, Option.bind_some, hi, Option.bind_some]
def fnl (x : Int32) (w : jx_V) : Option (Int32 × jx_V) := if jx_up w 0 12 0 0 16 = 0 then some (x, jx_up w 0 12 0) else (f_X5_putsBack (jx_up w 0 12 0)).bind (fun v9 => some (-1 - v9 0 13, v9))
theorem tx_f {F x} {w : jx_V} (h : ¬ w 0 16 = 0) : f_X5_text_L (F+1) x w = fnl x w := by
  rw [f_X5_text_L, if_neg h]; rfl
theorem tx_e {F x} {w : jx_V} (h : w 0 16 = 0) (h2 : w 0 12 ≤ w 0 13) : f_X5_text_L (F+1) x w = fnl x w := by
  rw [f_X5_text_L, if_pos h, if_pos h2]; rfl
theorem tx_s {F x y} {w w1 w2 : jx_V} (h : w 0 16 = 0) (h2 : ¬ w 0 12 ≤ w 0 13) (hb : f_X5_byteAt (w 0 13) w = some (y, w)) (hn : (if y = 59 then f_X5_needs 1 w else f_X5_needs 0 w) = some w1) (hi : f_X5_item w1 = some w2) : f_X5_text_L (F+1) x w = f_X5_text_L F (x + 1) w2 := by
  rw [f_X5_text_L, if_pos h, if_neg h2]
  exact tx_aux (n1 := f_X5_needs 1) (n0 := f_X5_needs 0) (it := f_X5_item) (K := fun u => f_X5_text_L F (x + 1) u) hb hn hi
theorem rd_f {B L b v w f x} (p : PR B L false b v w) : f_X2_readText_L 33 (f+1) x v = some (x, v) := by
  rw [f_X2_readText_L, if_pos (PR_f p).2, (PR_f p).1, Option.bind_some, ite_self]
theorem tx_L {B L} : ∀ d n f F b v w, IT B L true b v w → L ≤ b + d → n ≤ b → d + 1 < f → d + 2 < F →
    ∃ r x g' b' v' w', f_X2_readText_L 33 f (nI n) v = some (r, v') ∧ f_X5_text_L F (nI n) w = fnl x w' ∧ (g' = true → r = x) ∧ IT B L g' b' v' w' ∧ IX v v' ∧ IM w w' := by
  intro d
  induction d with
  | zero =>
    intro n f F b v w i hd hn hf hF
    obtain ⟨f, rfl⟩ : ∃ q, f = q + 1 := ⟨f - 1, by omega⟩
    obtain ⟨F, rfl⟩ : ∃ q, F = q + 1 := ⟨F - 1, by omega⟩
    have p := i.1
    have hL := p.1.1
    have hb := p.2.2.1
    have s0 : sr B L b = 0 := sr_z (by omega)
    refine ⟨nI n, nI n, true, b, v, w, ?_, ?_, fun _ => rfl, i, IX_r, IM_r⟩
    · rw [f_X2_readText_L, if_neg (PR_g p).1, p.2.2.2.2.2.1, s0, if_neg (by decide), if_pos rfl]
    · exact tx_e (PR_g p).2 (by rw [p.2.1.2.1, p.2.2.2.2.1, pI_le (by omega) (by omega)]; exact hd)
  | succ d ih =>
    intro n f F b v w i hd hn hf hF
    obtain ⟨f, rfl⟩ : ∃ q, f = q + 1 := ⟨f - 1, by omega⟩
    obtain ⟨F, rfl⟩ : ∃ q, F = q + 1 := ⟨F - 1, by omega⟩
    have p := i.1
    have hL := p.1.1
    have hb := p.2.2.1
    by_cases c : b < L
    · have h2 : ¬ w 0 12 ≤ w 0 13 := by rw [p.2.1.2.1, p.2.2.2.2.1, pI_le (by omega) (by omega)]; omega
      have by1 : f_X5_byteAt (w 0 13) w = some (bte B L b, w) := lo_by p.2.1 (by omega) p.2.2.2.2.1
      have s0 := sr_0 (B := B) c
      by_cases s3 : sr B L b = 3
      · obtain ⟨v1, w1, b1, a1, a2, p1, a3, a4, a5, _⟩ := step_ok p (by rw [s3]; decide)
        have tg := te_gt (B := B) (L := L) (b := b) (Or.inr (Or.inr s3))
        have T1 := TWN_t (i.2 rfl) a4 a5
        obtain ⟨g2, b2, v2, w2, c1, c2, i2, c3, c4, c5, c6⟩ := item_ok p1 T1
        have eX : f_X2_readText_L 33 (f+1) (nI n) v = f_X2_readText_L 33 f (nI (n+1)) v2 := by
          rw [f_X2_readText_L, if_neg (PR_g p).1, p.2.2.2.2.2.1, if_pos s3, if_neg (show ¬ (120 : Int32) ≤ nI n by rw [show (120 : Int32) = nI 120 from rfl, pI_le (by omega) (by omega)]; omega), a1, Option.bind_some, c1, Option.bind_some, nI_add1]
        have eM : f_X5_text_L (F+1) (nI n) w = f_X5_text_L F (nI (n+1)) w2 := by
          rw [tx_s (F := F) (x := nI n) (PR_g p).2 h2 by1 (by rw [if_pos (sm_bt.mpr s3)]; exact a2) c2, nI_add1]
        rw [eX, eM]
        cases g2 with
        | true =>
          have := c4 rfl
          obtain ⟨r, x, g', b', v', w', k1, k2, k3, k4, k5, k6⟩ := ih (n+1) f F b2 v2 w2 i2 (by omega) (by omega) (by omega) (by omega)
          exact ⟨r, x, g', b', v', w', k1, k2, k3, k4, IX_t (XI a4) (IX_t c5 k5), IM_t (MI a5) (IM_t c6 k6)⟩
        | false =>
          obtain ⟨f, rfl⟩ : ∃ q, f = q + 1 := ⟨f - 1, by omega⟩
          obtain ⟨F, rfl⟩ : ∃ q, F = q + 1 := ⟨F - 1, by omega⟩
          exact ⟨nI (n+1), nI (n+1), false, b2, v2, w2, rd_f i2.1, tx_f (PR_b i2.1).2, fun _ => rfl, i2, IX_t (XI a4) c5, IM_t (MI a5) c6⟩
      · obtain ⟨v1, w1, a1, a2, p1, a4, a5, _⟩ := step_bad p
        obtain ⟨w2, c1, p2, c2⟩ := item_bad p1
        obtain ⟨F, rfl⟩ : ∃ q, F = q + 1 := ⟨F - 1, by omega⟩
        refine ⟨nI n, nI n + 1, false, b, v1, w2, ?_, ?_, fun q => absurd q (by decide), ⟨p2, fun q => absurd q (by decide)⟩, XI a4, MI (MF_t a5 c2)⟩
        · rw [f_X2_readText_L, if_neg (PR_g p).1, p.2.2.2.2.2.1, if_neg s3, if_neg s0, a1, Option.bind_some]
        · rw [tx_s (F := F+1) (x := nI n) (PR_g p).2 h2 by1 (by rw [if_neg (fun q => s3 (sm_bt.mp q))]; exact a2) c1]
          exact tx_f (PR_b p2).2
    · have s0 : sr B L b = 0 := sr_z c
      refine ⟨nI n, nI n, true, b, v, w, ?_, ?_, fun _ => rfl, i, IX_r, IM_r⟩
      · rw [f_X2_readText_L, if_neg (PR_g p).1, p.2.2.2.2.2.1, s0, if_neg (by decide), if_pos rfl]
      · exact tx_e (PR_g p).2 (by rw [p.2.1.2.1, p.2.2.2.2.1, pI_le (by omega) (by omega)]; omega)
theorem ct_aux {bec : Option jx_V} {rt : jx_V → Option (Int32 × jx_V)} {bk : jx_V → Option jx_V} {v1 v2 : jx_V} {r2 : Int32} (h1 : bec = some v1) (h2 : rt v1 = some (r2, v2)) : (bec.bind (fun v1 => ((rt v1).bind (fun (r2, v2) => (if ((jx_up v2 53 1 0) 53 6) < 0 then ((bk (jx_up v2 53 1 0)).bind (fun v4 => (some (r2, v4)))) else (some (((-1) - ((jx_up v2 53 1 0) 53 6)), (jx_up v2 53 1 0)))))))) = if ((jx_up v2 53 1 0) 53 6) < 0 then ((bk (jx_up v2 53 1 0)).bind (fun v4 => (some (r2, v4)))) else (some (((-1) - ((jx_up v2 53 1 0) 53 6)), (jx_up v2 53 1 0))) := by
  simp only [h1, h2, Option.bind_some]
theorem m_back1 {w : jx_V} : ∃ w', f_X5_putsBack w = some w' ∧ CP 3 1 181 w w' := m_back
theorem q_text {v w} (h : R v w) : Q (f_X4_text v) (f_X5_text w) := by
  obtain ⟨L, hL, eL⟩ := h.tr
  obtain ⟨N, hN, eN, eN2⟩ := cn h.ok
  obtain ⟨v1, b1, bf, bT⟩ := x_become (h0 := 33) (h1 := 1) (v := v) (Or.inr (by omega)) (by omega)
  obtain ⟨w1, p1, pc⟩ := m_puts (w := w)
  have x53 : v1 53 = v 53 := bf 53 (by omega)
  have x54 : v1 54 = v 54 := bf 54 (by omega)
  have TX1 : TX (v 54) L (jx_up (jx_up v1 53 6 (-1)) 53 4 0) := TX_up (TX_up ⟨hL, by rw [x53]; exact eL, fun i _ => by rw [x54]⟩ (by omega)) (by omega)
  have TM1 : TM (v 54) L (jx_up (jx_up w1 0 14 0) 0 16 0) := TM_up (TM_up ⟨hL, by rw [pc.1 0 (by omega), ← h.tl]; exact eL, fun i hi => by rw [pc.1 8 (by omega)]; exact (h.tb i hi).symm⟩ (by omega)) (by omega)
  obtain ⟨v2, a1, a2, a3, a4, a5, a6, a7, a8⟩ := x_nxt (e := 0) TX1 (by omega) up_s
  obtain ⟨w2, c1, c2, c3, c4, c5⟩ := m_nxt (e := 0) TM1 (by omega) (by rw [up_g, if_neg (by omega)]; exact up_s)
  obtain ⟨k1, k2, _⟩ := skb_r (B := v 54) (L - 0) 0
  generalize skb (v 54) (L - 0) 0 = b at *
  have MF1 : MF w1 w2 := ⟨fun c hc => by rw [c2 c hc, jx_up_ne hc, jx_up_ne hc], fun j hj => by rw [c3 j (by omega) (by omega), up_g, if_neg (by omega), up_g, if_neg (by omega)]⟩
  have XF1 : XF v1 v2 := fun c hc => by rw [a2 c hc, jx_up_ne hc, jx_up_ne hc]
  have P2 : PR (v 54) L true b v2 w2 := ⟨⟨hL, by rw [a3]; exact TX1.2.1, fun i hi => by rw [a2 54 (by omega)]; exact TX1.2.2 i hi⟩, ⟨hL, by rw [c3 12 (by omega) (by omega)]; exact TM1.2.1, fun i hi => by rw [c2 8 (by omega)]; exact TM1.2.2 i hi⟩, by omega, a5, c4, a6, a7, c5, a8, fun _ => ⟨by rw [a4, up_g, if_neg (by omega)]; exact up_s, by rw [c3 16 (by omega) (by omega)]; exact up_s⟩, fun q => absurd q (by decide)⟩
  have T1 : TWN v1 w1 := ⟨by rw [bT, pc.1 1 (by omega)]; exact h.t, by rw [bT]; exact h.ok⟩
  have T2 : TWN v2 w2 := TWN_t T1 XF1 MF1
  obtain ⟨g3, b3, v3, w3, d1, d2, i3, d3, d4, d5, d6⟩ := item_ok P2 T2
  have main : ∀ F, F = 100000 → ∃ r x g' b' v' w', f_X2_readText_L 33 F 1 v3 = some (r, v') ∧ f_X5_text_L F 1 w3 = fnl x w' ∧ (g' = true → r = x) ∧ IT (v 54) L g' b' v' w' ∧ IX v3 v' ∧ IM w3 w' := by
    intro F hF
    cases g3 with
    | true =>
      have := d4 rfl
      exact tx_L L 1 F F b3 v3 w3 i3 (by omega) (by omega) (by omega) (by omega)
    | false =>
      obtain ⟨F, rfl⟩ : ∃ q, F = q + 1 := ⟨F - 1, by omega⟩
      exact ⟨1, 1, false, b3, v3, w3, rd_f i3.1, tx_f (PR_b i3.1).2, fun _ => rfl, i3, IX_r, IM_r⟩
  obtain ⟨r, x, g', b', v', w', e1, e2, e3, i4, e4, e5⟩ := main 100000 rfl
  have rT : f_X2_readText 33 v1 = some (r, v') := by
    unfold f_X2_readText
    rw [a1, Option.bind_some, d1, Option.bind_some]; exact e1
  have eX : f_X4_text v = _ := ct_aux (bec := f_X3_become 33 1 v) (rt := f_X2_readText 33) (bk := f_X3_become 1 33) b1 rT
  have eM : f_X5_text w = fnl x w' := by
    unfold f_X5_text
    rw [p1, Option.bind_some, c1, Option.bind_some, d2, Option.bind_some]; exact e2
  rw [eX, eM]
  have FX : ∀ c, c ≠ 53 → (c < 33 ∨ 49 ≤ c) → v' c = v c := fun c h1 h2 => by rw [e4 c h1 h2, d5 c h1 h2, XF1 c h1, bf c (by omega)]
  have FMc : ∀ c, c ≠ 0 → c ≠ 1 → w' c = w1 c := fun c h1 h2 => by rw [e5.1 c h1 h2, d6.1 c h1 h2, MF1.1 c h1]
  have FM0 : ∀ j, j < 13 → w' 0 j = w 0 j := fun j hj => by rw [e5.2 j hj, d6.2 j hj, MF1.2 j hj, pc.1 0 (by omega)]
  have q6 : jx_up v' 53 1 0 53 6 = v' 53 6 := by rw [up_g, if_neg (by omega)]
  have q16 : jx_up w' 0 12 0 0 16 = w' 0 16 := by rw [up_g, if_neg (by omega)]
  cases g' with
  | true =>
    obtain ⟨P, T⟩ := i4
    have T := T rfl
    have f6 := (P.2.2.2.2.2.2.2.2.2.1 rfl).1
    obtain ⟨N', hN', eN'⟩ := T.2.n
    have eN'' : jx_up v' 53 1 0 33 5 = nI N' := by rw [jx_up_ne (by omega)]; exact eN'
    obtain ⟨v4, y1, y2, y3⟩ := x_become (h0 := 1) (h1 := 33) (v := jx_up v' 53 1 0) (Or.inl (by omega)) (by rw [eN'', tn (by omega)]; exact hN')
    have y3' : cT 1 v4 = cT 33 v' := by rw [y3]; exact cT_congr (fun c _ _ => jx_up_ne (by omega))
    rw [q6, f6, if_pos (by decide), y1, Option.bind_some]
    unfold fnl
    rw [q16, (PR_g P).2, if_pos rfl, e3 rfl]
    have V4 : ∀ c, (c < 1 ∨ 16 < c) → c ≠ 53 → (c < 33 ∨ 49 ≤ c) → v4 c = v c := fun c h1 h2 h3 => by rw [y2 c (by omega), jx_up_ne h2, FX c h2 h3]
    have e17 : cT 17 v4 = cT 17 v := cT_congr (fun c h1 h2 => V4 c (by omega) (by omega) (by omega))
    refine Q_i (R.mk ?_ ?_ ?_ ?_ ?_ ?_ ?_ ?_ ?_)
    · rw [y3', T.1, jx_up_ne (by omega)]
    · rw [y3']; exact T.2
    · rw [V4 0 (by omega) (by omega) (by omega), up_g, if_neg (by omega), FM0 4 (by omega)]; exact h.k
    · rw [V4 0 (by omega) (by omega) (by omega)]; exact h.kb
    · rw [V4 0 (by omega) (by omega) (by omega), e17, jx_up_ne (by omega), FMc 2 (by omega) (by omega), pc.1 2 (by omega)]; exact h.kt
    · rw [y2 53 (by omega), up_s, up_s]
    · exact ⟨0, by omega, by rw [y2 53 (by omega), up_s]; rfl⟩
    · rw [V4 54 (by omega) (by omega) (by omega), jx_up_ne (by omega), FMc 8 (by omega) (by omega), pc.1 8 (by omega)]; exact h.tb
    · intro s hs
      rw [V4 61 (by omega) (by omega) (by omega), V4 62 (by omega) (by omega) (by omega), V4 (57+s) (by omega) (by omega) (by omega), jx_up_ne (by omega), jx_up_ne (by omega), jx_up_ne (by omega), FMc 9 (by omega) (by omega), FMc 10 (by omega) (by omega), FMc 11 (by omega) (by omega), pc.1 9 (by omega), pc.1 10 (by omega), pc.1 11 (by omega)]
      exact h.s s hs
  | false =>
    obtain ⟨P, _⟩ := i4
    have f6 := (P.2.2.2.2.2.2.2.2.2.2 rfl).1
    have hb' := P.2.2.1
    rw [q6, f6, if_neg (nI_neg (by omega))]
    unfold fnl
    rw [q16, if_neg (PR_b P).2]
    obtain ⟨w5, z1, z2⟩ := m_back (w := jx_up w' 0 12 0)
    have z0 : w5 0 = jx_up w' 0 12 0 0 := z2.1 0 (by omega)
    have ec : ∀ c, c ≠ 0 → c ≠ 1 → w5 c = w1 c := fun c h1 h2 => by rw [z2.1 c h2, jx_up_ne h1, FMc c h1 h2]
    have e13 : w5 0 13 = nI b' := by rw [z0, up_g, if_neg (by omega)]; exact P.2.2.2.2.1
    rw [z1, Option.bind_some, e13]
    have e1' : cT 1 (jx_up v' 53 1 0) = cT 1 v := cT_congr (fun c h1 h2 => by rw [jx_up_ne (by omega), FX c (by omega) (by omega)])
    have e17 : cT 17 (jx_up v' 53 1 0) = cT 17 v := cT_congr (fun c h1 h2 => by rw [jx_up_ne (by omega), FX c (by omega) (by omega)])
    obtain ⟨M, hM, eM1, eM2⟩ := mn h.ok'
    have em : mT (w5 1) = mT (w 1) := mT_eq (fun k hk => by rw [z2.2 k hk, jx_up_ne (by omega), FMc 3 (by omega) (by omega), pc.2 k hk]) (by omega)
    refine Q_i (R.mk ?_ ?_ ?_ ?_ ?_ ?_ ?_ ?_ ?_)
    · rw [e1', em]; exact h.t
    · rw [e1']; exact h.ok
    · rw [jx_up_ne (by omega), FX 0 (by omega) (by omega), z0, up_g, if_neg (by omega), FM0 4 (by omega)]; exact h.k
    · rw [jx_up_ne (by omega), FX 0 (by omega) (by omega)]; exact h.kb
    · rw [jx_up_ne (by omega), FX 0 (by omega) (by omega), e17, ec 2 (by omega) (by omega), pc.1 2 (by omega)]; exact h.kt
    · rw [up_s, z0, up_s]
    · exact ⟨0, by omega, up_s⟩
    · rw [jx_up_ne (by omega), FX 54 (by omega) (by omega), ec 8 (by omega) (by omega), pc.1 8 (by omega)]; exact h.tb
    · intro s hs
      rw [jx_up_ne (by omega), jx_up_ne (by omega), jx_up_ne (by omega), FX 61 (by omega) (by omega), FX 62 (by omega) (by omega), FX (57+s) (by omega) (by omega), ec 9 (by omega) (by omega), ec 10 (by omega) (by omega), ec 11 (by omega) (by omega), pc.1 9 (by omega), pc.1 10 (by omega), pc.1 11 (by omega)]
      exact h.s s hs
