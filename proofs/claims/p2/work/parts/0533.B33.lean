theorem fin_win {B L b v w} {a l y t N : Nat} (p : PR B L true b v w) (T : TWN v w) (hN : N < 10) (eN : w 1 1 = nI N) (ha : a < 25) (hl : l < 10) (hy : y < 4) (ht : t < 4) : ∃ v' w', f_X3_addWindow 33 (nI a) (nI l) (nI y) (nI t) v = some v' ∧ (f_X5_newWindow (nI a) (nI l) (nI y) (nI t) w).bind (fun (r8, v8) => some v8) = some w' ∧ IT B L true b v' w' ∧ IX v v' ∧ IM w w' := by
  have eN' : v 33 5 = nI N := by
    have := congrArg Tn.n T.1
    exact this.trans eN
  refine ⟨_, _, x_addw (h := 33) hN eN', by rw [m_neww hN eN, Option.bind_some], ⟨PR_fr p ?_ ?_ ?_ ?_, fun _ => ⟨?_, ?_⟩⟩, fun c h1 h2 => ?_, ⟨fun c h1 h2 => ?_, fun j hj => ?_⟩⟩
  · simp only [jx_up_ne (show (53 : Nat) ≠ 33 + 7 by omega), jx_up_ne (show (53 : Nat) ≠ 33 + 8 by omega), jx_up_ne (show (53 : Nat) ≠ 33 + 9 by omega), jx_up_ne (show (53 : Nat) ≠ 33 + 10 by omega), jx_up_ne (show (53 : Nat) ≠ 33 + 11 by omega), jx_up_ne (show (53 : Nat) ≠ 33 + 12 by omega), jx_up_ne (show (53 : Nat) ≠ 33 by omega)]
  · simp only [jx_up_ne (show (54 : Nat) ≠ 33 + 7 by omega), jx_up_ne (show (54 : Nat) ≠ 33 + 8 by omega), jx_up_ne (show (54 : Nat) ≠ 33 + 9 by omega), jx_up_ne (show (54 : Nat) ≠ 33 + 10 by omega), jx_up_ne (show (54 : Nat) ≠ 33 + 11 by omega), jx_up_ne (show (54 : Nat) ≠ 33 + 12 by omega), jx_up_ne (show (54 : Nat) ≠ 33 by omega)]
  · simp only [jx_up_ne (show (0 : Nat) ≠ 1 by omega)]
  · simp only [jx_up_ne (show (8 : Nat) ≠ 1 by omega)]
  · rw [c_win (h := 33) hN eN']; simp only [up_c]; rw [m_win hN eN, T.1]
  · rw [c_win (h := 33) hN eN']
    exact OK_nwin T.2 (by rw [nwc, eN', tn (by omega)]; exact hN) ⟨a, ha, rfl⟩ ⟨l, hl, rfl⟩ ⟨y, hy, rfl⟩ ⟨t, ht, rfl⟩
  · rw [jx_up_ne (by omega), jx_up_ne (by omega), jx_up_ne (by omega), jx_up_ne (by omega), jx_up_ne (by omega), jx_up_ne (by omega), jx_up_ne (by omega)]
  · rw [jx_up_ne h2, jx_up_ne h2, jx_up_ne h2, jx_up_ne h2, jx_up_ne h2, jx_up_ne h2, jx_up_ne h2]
  · simp only [jx_up_ne (show (0 : Nat) ≠ 1 by omega)]
theorem wi_f {B L b v w w1} (e1 : (if 10 ≤ w 1 1 then f_X5_needs 0 w else f_X5_needs 1 w) = some w1) (p : PR B L false b v w1) : ∃ w', f_X5_windowItem w = some w' ∧ PR B L false b v w' ∧ MF w1 w' := by
  obtain ⟨r2, w2, a1, p2, a2⟩ := nb_f p 52 24
  obtain ⟨r3, w3, c1, p3, c2⟩ := nb_f p2 12769452 9
  obtain ⟨r4, w4, d1, p4, d2⟩ := nb_f p3 23609 3
  obtain ⟨r5, w5, e2, p5, e3⟩ := nb_f p4 6642 3
  have EM : f_X5_windowItem w = _ := ax_wi (n1 := f_X5_needs 1) (n0 := f_X5_needs 0) (na := f_X5_numberBehind 52 24) (nl := f_X5_numberBehind 12769452 9) (nw := f_X5_numberBehind 23609 3) (nf := f_X5_numberBehind 6642 3) (ne := f_X5_newWindow) e1 a1 c1 d1 e2
  rw [EM, if_neg (PR_b p5).2]
  exact ⟨w5, rfl, p5, MF_t a2 (MF_t c2 (MF_t d2 e3))⟩
theorem it_win {B L b v w} (p : PR B L true b v w) (s : sr B L b = 1) (T : TWN v w) (hN : ¬ 10 ≤ v 33 5) : ∃ g' b' v' w', f_X2_readWindow 33 v = some v' ∧ f_X5_windowItem w = some w' ∧ IT B L g' b' v' w' ∧ b < b' ∧ IX v v' ∧ IM w w' := by
  have en : v 33 5 = w 1 1 := congrArg Tn.n T.1
  obtain ⟨v1, w1, b1, a1, a2, p1, a3, a4, a5, _⟩ := step_ok p (by rw [s]; decide)
  have tg := te_gt (B := B) (L := L) (b := b) (Or.inl s)
  have T1 := TWN_t T a4 a5
  obtain ⟨r3, r3', g3, b3, v2, v3, w3, c1, c2, c3, p3, c4, c5, c6, c7⟩ := nb (k := 7) (lim := 25) (x := 52) (y := 24) (z := 25) (by omega) (by omega) (by omega) rfl rfl rfl p1
  obtain ⟨r5, r5', g5, b5, v4, v5, w5, e1, e2, e3, p5, e4, e5, e6, e7⟩ := nb (k := 12) (lim := 10) (x := 12769452) (y := 9) (z := 10) (by omega) (by omega) (by omega) rfl rfl rfl p3
  obtain ⟨r7, r7', g7, b7, v6, v7, w7, f1, f2, f3, p7, f4, f5, f6, f7⟩ := nb (k := 13) (lim := 4) (x := 23609) (y := 3) (z := 4) (by omega) (by omega) (by omega) rfl rfl rfl p5
  obtain ⟨r9, r9', g9, b9, v8, v9, w9, k1, k2, k3, p9, k4, k5, k6, k7⟩ := nb (k := 14) (lim := 4) (x := 6642) (y := 3) (z := 4) (by omega) (by omega) (by omega) rfl rfl rfl p7
  have X : XF v v9 := XF_t a4 (XF_t c6 (XF_t e6 (XF_t f6 k6)))
  have M : MF w w9 := MF_t a5 (MF_t c7 (MF_t e7 (MF_t f7 k7)))
  have T9 := TWN_t T X M
  have EX : f_X2_readWindow 33 v = _ := ax_rw (nt := f_X2_nextToken) (t7 := f_X2_takeWord 7) (n25 := f_X2_takeNumber 25) (t12 := f_X2_takeWord 12) (n10v := f_X2_takeNumber 10) (t13 := f_X2_takeWord 13) (n4 := f_X2_takeNumber 4) (t14 := f_X2_takeWord 14) (aw := f_X3_addWindow 33) a1 c1 c2 e1 e2 f1 f2 k1 k2
  have EM : f_X5_windowItem w = _ := ax_wi (n1 := f_X5_needs 1) (n0 := f_X5_needs 0) (na := f_X5_numberBehind 52 24) (nl := f_X5_numberBehind 12769452 9) (nw := f_X5_numberBehind 23609 3) (nf := f_X5_numberBehind 6642 3) (ne := f_X5_newWindow) (by rw [if_neg (by rw [← en]; exact hN)]; exact a2) c3 e3 f3 k3
  rw [EX, EM]
  cases g9 with
  | false =>
    rw [if_pos (PR_b p9).1, if_neg (PR_b p9).2]
    exact ⟨false, b9, v9, w9, rfl, rfl, ⟨p9, fun q => absurd q (by decide)⟩, by omega, XI X, MI M⟩
  | true =>
    obtain ⟨y1, y2, t, ht, et⟩ := k4 rfl
    obtain ⟨z1, z2, y, hy, ey⟩ := f4 y1
    obtain ⟨u1, u2, l, hl, el⟩ := e4 z1
    obtain ⟨_, x2, a, ha, ea⟩ := c4 u1
    obtain ⟨N, hN', eN⟩ := T9.2.n
    have eN2 : w9 1 1 = nI N := by rw [T9.1] at eN; exact eN
    have en9 : w9 1 1 = v 33 5 := by rw [M.1 1 (by omega), en]
    have hN2 : N < 10 := by
      rw [← en9, eN2, show (10 : Int32) = nI 10 from rfl, pI_le (by omega) (by omega)] at hN
      omega
    obtain ⟨v', w', s1, s2, s3, s4, s5⟩ := fin_win p9 T9 hN2 eN2 ha hl hy ht
    rw [if_neg (PR_g p9).1, if_pos (PR_g p9).2, x2, u2, z2, y2, ea, el, ey, et]
    exact ⟨true, b9, v', w', s1, s2, s3, by omega, IX_t (XI X) s4, IM_t (MI M) s5⟩
theorem it_price {B L b v w} (p : PR B L true b v w) (s : sr B L b = 1) (T : TWN v w) : ∃ g' b' v' w', f_X2_readPrice 33 v = some v' ∧ f_X5_priceItem w = some w' ∧ IT B L g' b' v' w' ∧ b < b' ∧ IX v v' ∧ IM w w' := by
  obtain ⟨v1, w1, b1, a1, a2, p1, a3, a4, a5, _⟩ := step_ok p (by rw [s]; decide)
  have tg := te_gt (B := B) (L := L) (b := b) (Or.inl s)
  obtain ⟨r2, g2, b2, v2, w2, c1, c2, p2, c3, c4, c5, c6⟩ := tnm (lim := 4) (by omega) (by omega) p1
  obtain ⟨r3, g3, b3, v3, w3, d1, d2, p3, d3, d4, d5, d6⟩ := tnm (lim := 100) (by omega) (by omega) p2
  have X : XF v v3 := XF_t a4 (XF_t c5 d5)
  have M : MF w w3 := MF_t a5 (MF_t c6 d6)
  have T3 := TWN_t T X M
  have EX : f_X2_readPrice 33 v = _ := ax_rp (nt := f_X2_nextToken) (n4 := f_X2_takeNumber 4) (n100 := f_X2_takeNumber 100) a1 c1 d1
  have EM : f_X5_priceItem w = _ := ax_pi (n1 := f_X5_needs 1) (na := f_X5_number 0 3) (nc := f_X5_number 0 99) a2 c2 d2
  rw [EX, EM]
  cases g3 with
  | false =>
    rw [if_pos (PR_b p3).1, if_neg (PR_b p3).2]
    exact ⟨false, b3, v3, w3, rfl, rfl, ⟨p3, fun q => absurd q (by decide)⟩, by omega, XI X, MI M⟩
  | true =>
    obtain ⟨y1, q, hq, e1, e2⟩ := d3 rfl
    obtain ⟨_, t, ht, e3, e4⟩ := c3 y1
    rw [if_neg (PR_g p3).1, if_pos (PR_g p3).2, e4, e3, e2, e1, p3_n]
    simp only [tn (show t < 2147483648 by omega), ib ht (show 4 ≤ 100000 by omega), tn (show 3 + t < 2147483648 by omega), ib (show 3 + t < 181 by omega) (show 181 ≤ 100000 by omega), if_false]
    refine ⟨true, b3, _, _, rfl, rfl, ⟨PR_fr p3 (jx_up_ne (by omega)) (jx_up_ne (by omega)) (jx_up_ne (by omega)) (jx_up_ne (by omega)), fun _ => ⟨?_, ?_⟩⟩, by omega, IX_t (XI X) (fun c h1 h2 => jx_up_ne (by omega)), IM_t (MI M) ⟨fun c h1 h2 => jx_up_ne h2, fun j hj => by rw [jx_up_ne (by omega)]⟩⟩
    · rw [show jx_up v3 46 = jx_up v3 (33 + 13) from rfl, c_sC (h := 33) ht, up_c, m_sC ht, T3.1]
    · rw [show jx_up v3 46 = jx_up v3 (33 + 13) from rfl, c_sC (h := 33) ht]; exact OK_sC T3.2
theorem it_clear {B L b v w w2} (p : PR B L true b v w) (s : sr B L b = 1) (T : TWN v w) (en : f_X5_needs 1 w = some w2) : ∃ g' b' v' w3 w', f_X2_readClear 33 v = some v' ∧ (if w2 0 16 = 0 then f_X5_lotTold 0 w2 else some w2) = some w3 ∧ (if w3 0 16 = 0 then (f_X5_at (w3 0 15) 0 w3).bind (fun (r25, v25) => if (r25 < 0 ∨ 181 ≤ Int32.toNatClampNeg r25) then none else some (jx_up v25 1 (Int32.toNatClampNeg r25) (-1))) else some w3) = some w' ∧ IT B L g' b' v' w' ∧ b < b' ∧ IX v v' ∧ IM w w' := by
  obtain ⟨v1, w1, b1, a1, a2, p1, a3, a4, a5, _⟩ := step_ok p (by rw [s]; decide)
  have tg := te_gt (B := B) (L := L) (b := b) (Or.inl s)
  have ew : w1 = w2 := by rw [a2] at en; injection en
  subst ew
  have T1 := TWN_t T a4 a5
  obtain ⟨r3, g3, b3, v3, w3, d1, d2, p3, d3, d4, d5, d6⟩ := tlt (Or.inr ⟨rfl, rfl⟩) p1 (fun _ => TWN_k T1)
  have X : XF v v3 := XF_t a4 d5
  have M : MF w w3 := MF_t a5 d6
  have T3 := TWN_t T X M
  have EX : f_X2_readClear 33 v = _ := ax_rc (nt := f_X2_nextToken) (tl := f_X2_takeLot 33 1) (tk := f_X3_takeOff 33) a1 d1
  rw [EX]
  cases g3 with
  | false =>
    rw [if_pos (PR_b p3).1]
    exact ⟨false, b3, v3, w3, w3, rfl, d2, if_neg (PR_b p3).2, ⟨p3, fun q => absurd q (by decide)⟩, by omega, XI X, MI M⟩
  | true =>
    obtain ⟨_, q, hq, e1, e2⟩ := d3 rfl
    rw [if_neg (PR_g p3).1, e1, x_off (h := 33) hq]
    refine ⟨true, b3, _, w3, jx_up w3 1 (11 + 4 * q) (-1), rfl, d2, ?_, ⟨PR_fr p3 (jx_up_ne (by omega)) (jx_up_ne (by omega)) (jx_up_ne (by omega)) (jx_up_ne (by omega)), fun _ => ⟨?_, ?_⟩⟩, by omega, IX_t (XI X) (fun c h1 h2 => jx_up_ne (by omega)), IM_t (MI M) ⟨fun c h1 h2 => jx_up_ne h2, fun j hj => by rw [jx_up_ne (by omega)]⟩⟩
    · rw [if_pos (PR_g p3).2, e2]
      simp only [f_X5_at, Option.bind_some, at0, tn (show 11 + 4 * q < 2147483648 by omega), ib (show 11 + 4 * q < 181 by omega) (show 181 ≤ 100000 by omega), if_false]
    · rw [c_off (h := 33) hq, up_c, m_off hq, T3.1]
    · rw [c_off (h := 33) hq]; exact OK_rem T3.2
theorem kdf_r {m : Nat → Bool} : kdf m < 0 ∨ (0 ≤ kdf m ∧ ¬ kdf m < 0 ∧ ∃ k, k < 7 ∧ m k = true) := by
  unfold kdf
  by_cases h0 : m 0 = true
  · rw [if_pos h0]; exact Or.inr ⟨by decide, by decide, 0, by omega, h0⟩
  rw [if_neg h0]
  by_cases h1 : m 1 = true
  · rw [if_pos h1]; exact Or.inr ⟨by decide, by decide, 1, by omega, h1⟩
  rw [if_neg h1]
  by_cases h2 : m 2 = true
  · rw [if_pos h2]; exact Or.inr ⟨by decide, by decide, 2, by omega, h2⟩
  rw [if_neg h2]
  by_cases h3 : m 3 = true
  · rw [if_pos h3]; exact Or.inr ⟨by decide, by decide, 3, by omega, h3⟩
  rw [if_neg h3]
  by_cases h4 : m 4 = true
  · rw [if_pos h4]; exact Or.inr ⟨by decide, by decide, 4, by omega, h4⟩
  rw [if_neg h4]
  by_cases h5 : m 5 = true
  · rw [if_pos h5]; exact Or.inr ⟨by decide, by decide, 5, by omega, h5⟩
  rw [if_neg h5]
  by_cases h6 : m 6 = true
  · rw [if_pos h6]; exact Or.inr ⟨by decide, by decide, 6, by omega, h6⟩
  rw [if_neg h6]
  exact Or.inl (by decide)
theorem x_kind {B L g b v w} (p : PR B L g b v w) : f_X2_kindOfWord v = some (kdf (mt B L b), v) :=
  ax_kw (m := mt B L b) (i0 := f_X2_isWord 0) (i1 := f_X2_isWord 1) (i2 := f_X2_isWord 2) (i3 := f_X2_isWord 3) (i4 := f_X2_isWord 4) (i5 := f_X2_isWord 5) (i6 := f_X2_isWord 6) (x_isw p (by omega)) (x_isw p (by omega)) (x_isw p (by omega)) (x_isw p (by omega)) (x_isw p (by omega)) (x_isw p (by omega)) (x_isw p (by omega))
theorem m_kind {B L g b v w} (p : PR B L g b v w) : f_X5_kindHere w = some (kdf (fun k => decide (g = true ∧ mt B L b k = true)), w) := by
  obtain ⟨hh, e, c⟩ := m_word p
  have c' : ∀ k, k < 17 → ∀ x : Int64, x = Int64.ofNat (cdn.getD k 0) → ((lg_cmp hh x = 0) = (decide (g = true ∧ mt B L b k = true) = true)) := fun k hk x hx => by rw [c k hk x hx]; simp
  exact ax_kh (wd := f_X5_word) (m := fun k => decide (g = true ∧ mt B L b k = true)) e (c' 0 (by omega) 2552 rfl) (c' 1 (by omega) 673957 rfl) (c' 2 (by omega) 630948 rfl) (c' 3 (by omega) 553136178 rfl) (c' 4 (by omega) 24749811143 rfl) (c' 5 (by omega) 8902245 rfl) (c' 6 (by omega) 21486770 rfl)
theorem kdf_g {B L b} : kdf (fun k => decide (true = true ∧ mt B L b k = true)) = kdf (mt B L b) := by
  congr 1; funext k; simp
theorem kdf_b {B L b} : kdf (fun k => decide (false = true ∧ mt B L b k = true)) = -1 := by
  have : (fun k => decide (false = true ∧ mt B L b k = true)) = fun _ => false := by funext k; simp
  rw [this]; rfl
theorem mt_len {B L b k j} (h : mt B L b k = true) (hkj : ex_len.getD k 0 ≠ ex_len.getD j 0) : ¬ mt B L b j = true := fun q => hkj ((of_decide_eq_true h).2.1.symm.trans (of_decide_eq_true q).2.1)
theorem item_bad {B L b v w} (p : PR B L false b v w) : ∃ w', f_X5_item w = some w' ∧ PR B L false b v w' ∧ MF w w' := by
  obtain ⟨hh, e, c⟩ := m_word p
  have e16 := (p.2.2.2.2.2.2.2.2.2.2 rfl).2
  have p2 := PR_n p
  have n : ∀ k, k < 17 → ∀ x : Int64, x = Int64.ofNat (cdn.getD k 0) → ¬ lg_cmp hh x = 0 := fun k hk x hx => by rw [c k hk x hx]; exact fun q => absurd q.1 (by decide)
  have EM : f_X5_item w = _ := ax_it (wi := f_X5_windowItem) (pi := f_X5_priceItem) (ti := f_X5_thingItem) (kh := f_X5_kindHere) (wd := f_X5_word) (n1 := f_X5_needs 1) (n0 := f_X5_needs 0) (lo := f_X5_lotTold 0) (at_ := f_X5_at) (xw := 781652471) (xp := 17376357) (xc := 3544114) (w2 := jx_up w 0 16 1) (w3 := jx_up w 0 16 1) (m_kind p) e (by rw [n_bad 1 e16, n_bad 0 e16, ite_self]) (if_neg (PR_b p2).2)
  rw [EM, kdf_b, if_pos (by decide), if_neg (n 11 (by omega) 781652471 rfl), if_neg (n 15 (by omega) 17376357 rfl), if_neg (PR_b p2).2]
  exact ⟨_, rfl, p2, MF_u (by omega)⟩
theorem item_ok {B L b v w} (p : PR B L true b v w) (T : TWN v w) : ∃ g' b' v' w', f_X2_readItem 33 v = some v' ∧ f_X5_item w = some w' ∧ IT B L g' b' v' w' ∧ b ≤ b' ∧ (g' = true → b < b') ∧ IX v v' ∧ IM w w' := by
  obtain ⟨hh, e, c⟩ := m_word p
  have EX : f_X2_readItem 33 v = _ := ax_ri (kw := f_X2_kindOfWord) (i11 := f_X2_isWord 11) (i15 := f_X2_isWord 15) (i16 := f_X2_isWord 16) (fh := f_X2_failHere) (rc := f_X2_readClear 33) (rp := f_X2_readPrice 33) (rw1 := f_X2_readWindow 33) (rt := f_X2_readThing 33) (x_kind p) (x_isw p (by omega)) (x_isw p (by omega)) (x_isw p (by omega)) (fun q => by
    have m : mt B L b 11 = true := by
      by_cases m : mt B L b 11 = true
      · exact m
      · rw [if_neg m] at q; exact absurd rfl q
    exact ⟨if_neg (mt_len m (by decide)), if_neg (mt_len m (by decide))⟩)
  have mk := m_kind p
  rw [kdf_g] at mk
  rw [EX]
  have EM : ∀ w2 w3, (if lg_cmp hh 3544114 = 0 then f_X5_needs 1 w else f_X5_needs 0 w) = some w2 → (if w2 0 16 = 0 then f_X5_lotTold 0 w2 else some w2) = some w3 → f_X5_item w = _ := fun w2 w3 q1 q2 => ax_it (wi := f_X5_windowItem) (pi := f_X5_priceItem) (ti := f_X5_thingItem) (kh := f_X5_kindHere) (wd := f_X5_word) (n1 := f_X5_needs 1) (n0 := f_X5_needs 0) (lo := f_X5_lotTold 0) (at_ := f_X5_at) (xw := 781652471) (xp := 17376357) (xc := 3544114) mk e q1 q2
  have cw := c 11 (by omega) 781652471 rfl
  have cp := c 15 (by omega) 17376357 rfl
  have cc := c 16 (by omega) 3544114 rfl
  obtain ⟨vb, wb, f1, f2, pb, f3, f4, _⟩ := step_bad p
  have toks : ∀ k, mt B L b k = true → sr B L b = 1 := fun k h => mt_1 h
  by_cases m16 : mt B L b 16 = true
  · -- the word clear
    have s := mt_1 m16
    obtain ⟨v1, w1, b1, a1, a2, _⟩ := step_ok p (by rw [s]; decide)
    obtain ⟨g', b', v', w3, w', d1, d2, d3, d4, d5, d6, d7⟩ := it_clear p s T a2
    rw [EM w1 w3 (by rw [if_pos (show lg_cmp hh 3544114 = 0 by rw [cc]; exact ⟨rfl, m16⟩)]; exact a2) d2]
    by_cases k0 : kdf (mt B L b) < 0
    · rw [if_pos k0, if_pos k0]
      by_cases m11 : mt B L b 11 = true
      · exact absurd m16 (mt_len m11 (by decide))
      · rw [if_neg m11, if_pos i00, if_neg (show ¬ lg_cmp hh 781652471 = 0 by rw [cw]; exact fun q => m11 q.2)]
        by_cases m15 : mt B L b 15 = true
        · obtain ⟨g', b', v', w', h1, h2, h3, h4, h5, h6⟩ := it_price p s T
          rw [if_pos m15, if_neg i10, if_pos (show lg_cmp hh 17376357 = 0 by rw [cp]; exact ⟨rfl, m15⟩)]
          exact ⟨g', b', v', w', h1, h2, h3, by omega, fun _ => h4, h5, h6⟩
        · rw [if_neg m15, if_pos i00, if_pos m16, if_neg i10, if_neg (show ¬ lg_cmp hh 17376357 = 0 by rw [cp]; exact fun q => m15 q.2)]
          exact ⟨g', b', v', w', d1, d3, d4, by omega, fun _ => d5, d6, d7⟩
    · rw [if_neg k0, if_neg k0]
      rcases kdf_r (m := mt B L b) with q | ⟨q, _, _⟩
      · exact absurd q k0
      · obtain ⟨g', b', v', w', h1, h2, h3, h4, h5, h6⟩ := it_thing q p s T
        exact ⟨g', b', v', w', h1, h2, h3, by omega, fun _ => h4, h5, h6⟩
  · rw [EM wb wb (by rw [if_neg (show ¬ lg_cmp hh 3544114 = 0 by rw [cc]; exact fun q => m16 q.2)]; exact f2) (if_neg (PR_b pb).2)]
    by_cases k0 : kdf (mt B L b) < 0
    · rw [if_pos k0, if_pos k0]
      by_cases m11 : mt B L b 11 = true
      · have s := mt_1 m11
        rw [if_pos m11, if_neg i10, if_pos (show lg_cmp hh 781652471 = 0 by rw [cw]; exact ⟨rfl, m11⟩)]
        have en : v 33 5 = w 1 1 := congrArg Tn.n T.1
        by_cases cN : 10 ≤ v 33 5
        · rw [if_pos cN, f1]
          obtain ⟨w', g1, g2, g3⟩ := wi_f (w := w) (w1 := wb) (by rw [if_pos (by rw [← en]; exact cN)]; exact f2) pb
          exact ⟨false, b, vb, w', rfl, g1, ⟨g2, fun q => absurd q (by decide)⟩, Nat.le_refl _, fun q => absurd q (by decide), XI f3, MI (MF_t f4 g3)⟩
        · rw [if_neg cN]
          obtain ⟨g', b', v', w', h1, h2, h3, h4, h5, h6⟩ := it_win p s T cN
          exact ⟨g', b', v', w', h1, h2, h3, by omega, fun _ => h4, h5, h6⟩
      · rw [if_neg m11, if_pos i00, if_neg (show ¬ lg_cmp hh 781652471 = 0 by rw [cw]; exact fun q => m11 q.2)]
        by_cases m15 : mt B L b 15 = true
        · obtain ⟨g', b', v', w', h1, h2, h3, h4, h5, h6⟩ := it_price p (mt_1 m15) T
          rw [if_pos m15, if_neg i10, if_pos (show lg_cmp hh 17376357 = 0 by rw [cp]; exact ⟨rfl, m15⟩)]
          exact ⟨g', b', v', w', h1, h2, h3, by omega, fun _ => h4, h5, h6⟩
        · rw [if_neg m15, if_pos i00, if_neg m16, if_pos i00, if_neg (show ¬ lg_cmp hh 17376357 = 0 by rw [cp]; exact fun q => m15 q.2), f1, if_neg (PR_b pb).2]
          exact ⟨false, b, vb, wb, rfl, rfl, ⟨pb, fun q => absurd q (by decide)⟩, Nat.le_refl _, fun q => absurd q (by decide), XI f3, MI f4⟩
    · rw [if_neg k0, if_neg k0]
      rcases kdf_r (m := mt B L b) with q | ⟨q, _, k, _, hm⟩
      · exact absurd q k0
      · obtain ⟨g', b', v', w', h1, h2, h3, h4, h5, h6⟩ := it_thing q p (mt_1 hm) T
        exact ⟨g', b', v', w', h1, h2, h3, by omega, fun _ => h4, h5, h6⟩
