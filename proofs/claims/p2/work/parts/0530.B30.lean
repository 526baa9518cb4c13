theorem nb_aux {wd : Option (Int64 × jx_V)} {n1 n0 nu : jx_V → Option jx_V} {w u u' : jx_V} {hh x : Int64} (hw : wd = some (hh, w)) (hn : (if lg_cmp hh x = 0 then n1 w else n0 w) = some u) (hu : nu u = some u') : (wd.bind (fun (r1, v1) => if lg_cmp r1 x = 0 then (n1 v1).bind (fun v5 => (nu v5).bind (fun v6 => some (v6 0 15, v6))) else (n0 v1).bind (fun v3 => (nu v3).bind (fun v4 => some (v4 0 15, v4))))) = some (u' 0 15, u') := by
  rw [hw, Option.bind_some]; simp only []; rw [ibo, hn, Option.bind_some, hu, Option.bind_some]
theorem nb {B L g b v w k lim} {x : Int64} {y z : Int32} (hk : k < 17) (hl : lim ≤ 1000) (hl0 : 0 < lim) (hx : x = Int64.ofNat (cdn.getD k 0)) (hy : y = nI (lim - 1)) (hz : z = nI lim) (p : PR B L g b v w) : ∃ r r' g' b' v1 v' w', f_X2_takeWord k v = some v1 ∧ f_X2_takeNumber z v1 = some (r, v') ∧ f_X5_numberBehind x y w = some (r', w') ∧ PR B L g' b' v' w' ∧ (g' = true → g = true ∧ r' = r ∧ ∃ q, q < lim ∧ r = nI q) ∧ b ≤ b' ∧ XF v v' ∧ MF w w' := by
  subst hy; subst hz
  obtain ⟨hh, ew, _⟩ := m_word p
  obtain ⟨g1, b1, v1, w1, e1, e2, p1, k1, k2, k3, k4, _⟩ := tw hk p
  obtain ⟨r, g', b', v', w', f1, f2, p', l1, l2, l3, l4⟩ := tnm hl hl0 p1
  refine ⟨r, w' 0 15, g', b', v1, v', w', e1, f1, ?_, p', fun q => ?_, by omega, XF_t k3 l3, MF_t k4 l4⟩
  · unfold f_X5_numberBehind
    exact nb_aux ew (e2 x hh hx ew) f2
  · obtain ⟨a, c, d, e, f⟩ := l1 q
    exact ⟨k1 a, by rw [e, f], c, d, e⟩
theorem nb_f {B L b v w} (p : PR B L false b v w) (x : Int64) (y : Int32) : ∃ r w', f_X5_numberBehind x y w = some (r, w') ∧ PR B L false b v w' ∧ MF w w' := by
  obtain ⟨hh, ew, _⟩ := m_word p
  have e16 := (p.2.2.2.2.2.2.2.2.2.2 rfl).2
  refine ⟨jx_up w 0 16 1 0 15, jx_up w 0 16 1, ?_, PR_n p, MF_u (by omega)⟩
  unfold f_X5_numberBehind
  refine nb_aux (n1 := f_X5_needs 1) (n0 := f_X5_needs 0) (u := jx_up w 0 16 1) ew ?_ ?_
  · rw [n_bad 1 e16, n_bad 0 e16, ite_self]
  · unfold f_X5_number; rw [if_neg (by rw [up_s]; decide)]
theorem bso {a : Option jx_V} : a.bind (fun v => some v) = a := by cases a <;> rfl
theorem le_aux {byt dg : Int32 → jx_V → Option (Int32 × jx_V)} {il it : jx_V → Option (Int32 × jx_V)} {n0 n1 : jx_V → Option jx_V} {w : jx_V} {y q l t x1 : Int32} (hb : byt (w 0 13) w = some (y, w)) (hd : dg y w = some (q, w)) (hl : il w = some (l, w)) (ht : l ≠ 0 → it w = some (t, w)) :
    ((byt (w 0 13) w).bind (fun (r2, v2) => (dg r2 v2).bind (fun (r3, v3) => if r3 = 0 then (n0 v3).bind (fun v5 => some v5) else (il v3).bind (fun (r6, v6) => if r6 = 0 then (n0 v6).bind (fun v8 => some v8) else (it v6).bind (fun (r9, v9) => if r9 = x1 then (n0 v9).bind (fun v11 => some v11) else (n1 v9).bind (fun v12 => some v12))))))
    = if q = 0 then n0 w else if l = 0 then n0 w else if t = x1 then n0 w else n1 w := by
  rw [hb]
  simp only [Option.bind_some, hd, hl, bso]
  by_cases c : q = 0
  · rw [if_pos c, if_pos c]
  · rw [if_neg c, if_neg c]
    by_cases c2 : l = 0
    · rw [if_pos c2, if_pos c2]
    · rw [if_neg c2, if_neg c2, ht c2]
      simp only [Option.bind_some]
theorem le_step {byt dg : Int32 → jx_V → Option (Int32 × jx_V)} {E S : jx_V → Option jx_V} {w : jx_V} {y q : Int32} (hb : byt (w 0 13) w = some (y, w)) (hd : dg y w = some (q, w)) : ((byt (w 0 13) w).bind (fun (r2, v2) => (dg r2 v2).bind (fun (r3, v3) => if r3 = 0 then E v3 else S v3))) = if q = 0 then E w else S w := by
  rw [hb]
  simp only [Option.bind_some, hd]
theorem lo_by {B L b w} (h : TM B L w) (hb : b ≤ 120) (e13 : w 0 13 = nI b) : f_X5_byteAt (w 0 13) w = some (bte B L b, w) := by rw [e13]; exact m_byte h hb
theorem lo_end {B L b f w} {x1 x3 : Int32} {N : Nat} (h : TM B L w) (hb : b ≤ 120) (e13 : w 0 13 = nI b) (hN : N ≤ 9999) (hx : w 0 14 ≤ x3) : f_X5_lotTold_L (f+1) x1 (nI N) x3 w = if (if sr B L b = 2 then (1 : Int32) else 0) = 0 then f_X5_needs 0 (jx_up w 0 15 (nI N)) else if (if 0 ≤ nI N ∧ nI N ≤ 24 then (1 : Int32) else 0) = 0 then f_X5_needs 0 (jx_up w 0 15 (nI N)) else if (if w 1 (11 + 4 * N) < 0 then (0 : Int32) else 1) = x1 then f_X5_needs 0 (jx_up w 0 15 (nI N)) else f_X5_needs 1 (jx_up w 0 15 (nI N)) := by
  have e13' : jx_up w 0 15 (nI N) 0 13 = nI b := by rw [up_g, if_neg (by omega)]; exact e13
  rw [f_X5_lotTold_L, if_pos hx]
  exact le_aux (byt := f_X5_byteAt) (dg := f_X5_isDigit) (il := f_X5_isLot (nI N)) (it := f_X5_isThing (nI N)) (n0 := f_X5_needs 0) (n1 := f_X5_needs 1) (lo_by (TM_up h (by omega)) hb e13') i_dg m_isLot (fun q => by
    have c : 0 ≤ nI N ∧ nI N ≤ 24 := by
      by_cases c : 0 ≤ nI N ∧ nI N ≤ 24
      · exact c
      · rw [if_neg c] at q; exact absurd rfl q
    have hN' : N < 25 := by
      have := c.2
      rw [show (24 : Int32) = nI 24 from rfl, pI_le (by omega) (by omega)] at this
      omega
    rw [m_thing hN', jx_up_ne (by omega)])
theorem lo_s {B L b w} {x1 : Int32} (h : TM B L w) (hb : b ≤ L) (s : sr B L b = 2) (e13 : w 0 13 = nI b) (e14 : w 0 14 = nI (tm B L b)) : ∀ d i f n, i + d = tm B L b → b ≤ i → d < f → n ≤ 9999 →
    ∃ f2 N, f_X5_lotTold_L f x1 (nI n) (nI i) w = f_X5_lotTold_L (f2 + 1) x1 (nI N) (nI (tm B L b)) w ∧ N = rf B d i n ∧ N ≤ 9999 := by
  have hL := h.1
  obtain ⟨t1, t2⟩ := tm_r (B := B) hb
  have q := te_tm (B := B) (L := L) (b := b) (by rw [s]; decide)
  intro d
  induction d with
  | zero =>
    intro i f n hi hbi hf hn
    obtain ⟨f, rfl⟩ : ∃ q, f = q + 1 := ⟨f - 1, by omega⟩
    obtain rfl : i = tm B L b := by omega
    exact ⟨f, n, rfl, rfl, hn⟩
  | succ d ih =>
    intro i f n hi hbi hf hn
    obtain ⟨f, rfl⟩ : ∃ q, f = q + 1 := ⟨f - 1, by omega⟩
    obtain ⟨y, y1, y2, ey⟩ := sr2 (tok_s (Or.inr rfl) s i hbi (by omega))
    have st : f_X5_lotTold_L (f+1) x1 (nI n) (nI i) w = if nI n ≤ 999 then f_X5_lotTold_L f x1 (10 * nI n + nI y - 48) (nI (i+1)) w else f_X5_lotTold_L f x1 (nI n) (nI (i+1)) w := by
      rw [f_X5_lotTold_L, e14, if_neg (show ¬ nI (tm B L b) ≤ nI i by rw [pI_le (by omega) (by omega)]; omega)]
      refine (le_step (byt := f_X5_byteAt) (dg := f_X5_isDigit) (E := fun v14 => (f_X5_byteAt ((jx_up v14 0 15 (nI n)) 0 13) (jx_up v14 0 15 (nI n))).bind (fun (r16, v16) => (f_X5_isDigit r16 v16).bind (fun (r17, v17) => if r17 = 0 then (f_X5_needs 0 v17).bind (fun v19 => some v19) else (f_X5_isLot (nI n) v17).bind (fun (r20, v20) => if r20 = 0 then (f_X5_needs 0 v20).bind (fun v22 => some v22) else (f_X5_isThing (nI n) v20).bind (fun (r23, v23) => if r23 = x1 then (f_X5_needs 0 v23).bind (fun v25 => some v25) else (f_X5_needs 1 v23).bind (fun v26 => some v26)))))) (S := fun v14 => if (nI n) ≤ 999 then (if (nI i < 0 ∨ 120 ≤ (nI i).toNatClampNeg) then none else f_X5_lotTold_L f x1 (10 * (nI n) + v14 8 (nI i).toNatClampNeg - 48) (nI i + 1) v14) else f_X5_lotTold_L f x1 (nI n) (nI i + 1) v14) (lo_by h (by omega) e13) i_dg).trans ?_
      rw [if_pos s, if_neg i10, nI_add1]
      simp only [tn (show i < 2147483648 by omega), ib (show i < 120 by omega) (show 120 ≤ 100000 by omega), if_false, h.2.2 i (by omega), ey]
    rw [st, rf, ey, tn (show y < 2147483648 by omega)]
    by_cases c : 999 < n
    · rw [if_neg (show ¬ nI n ≤ 999 by rw [show (999 : Int32) = nI 999 from rfl, pI_le (by omega) (by omega)]; omega), if_pos c]
      exact ih (i+1) f n (by omega) (by omega) (by omega) hn
    · rw [if_pos (show nI n ≤ 999 by rw [show (999 : Int32) = nI 999 from rfl, pI_le (by omega) (by omega)]; omega), if_neg c, ten y1]
      exact ih (i+1) f (10 * n + (y - 48)) (by omega) (by omega) (by omega) (by omega)
theorem lo_n {B L b f w} {x1 : Int32} (h : TM B L w) (hb : b ≤ L) (s : ¬ sr B L b = 2) (e13 : w 0 13 = nI b) : f_X5_lotTold_L (f+1) x1 0 (nI b) w = f_X5_needs 0 (jx_up w 0 15 0) := by
  have hL := h.1
  have e13' : jx_up w 0 15 0 0 13 = nI b := by rw [up_g, if_neg (by omega)]; exact e13
  have en := le_step (byt := f_X5_byteAt) (dg := f_X5_isDigit) (E := fun v3 => (f_X5_needs 0 v3).bind (fun v5 => some v5)) (S := fun v3 => (f_X5_isLot 0 v3).bind (fun (r6, v6) => if r6 = 0 then (f_X5_needs 0 v6).bind (fun v8 => some v8) else (f_X5_isThing 0 v6).bind (fun (r9, v9) => if r9 = x1 then (f_X5_needs 0 v9).bind (fun v11 => some v11) else (f_X5_needs 1 v9).bind (fun v12 => some v12)))) (lo_by (TM_up (x := 0) (j := 15) h (by omega)) (by omega) e13') i_dg
  rw [if_neg s, if_pos i00, bso] at en
  rw [f_X5_lotTold_L]
  by_cases c : w 0 14 ≤ nI b
  · rw [if_pos c]; exact en
  · rw [if_neg c]
    refine (le_step (byt := f_X5_byteAt) (dg := f_X5_isDigit) (E := fun v14 => (f_X5_byteAt ((jx_up v14 0 15 0) 0 13) (jx_up v14 0 15 0)).bind (fun (r16, v16) => (f_X5_isDigit r16 v16).bind (fun (r17, v17) => if r17 = 0 then (f_X5_needs 0 v17).bind (fun v19 => some v19) else (f_X5_isLot 0 v17).bind (fun (r20, v20) => if r20 = 0 then (f_X5_needs 0 v20).bind (fun v22 => some v22) else (f_X5_isThing 0 v20).bind (fun (r23, v23) => if r23 = x1 then (f_X5_needs 0 v23).bind (fun v25 => some v25) else (f_X5_needs 1 v23).bind (fun v26 => some v26)))))) (S := fun v14 => if 0 ≤ 999 then (if (nI b < 0 ∨ 120 ≤ (nI b).toNatClampNeg) then none else f_X5_lotTold_L f x1 (10 * 0 + v14 8 (nI b).toNatClampNeg - 48) (nI b + 1) v14) else f_X5_lotTold_L f x1 0 (nI b + 1) v14) (lo_by h (by omega) e13) i_dg).trans ?_
    rw [if_neg s, if_pos i00]; exact en
theorem tlt {B L g b v w} {x1 x2 : Int32} (hx : (x2 = 0 ∧ x1 = 1) ∨ (x2 = 1 ∧ x1 = 0)) (p : PR B L g b v w) (ht : g = true → ∀ l, l < 25 → v 36 l = w 1 (11 + 4 * l)) : ∃ r g' b' v' w', f_X2_takeLot 33 x2 v = some (r, v') ∧ (if w 0 16 = 0 then f_X5_lotTold x1 w else some w) = some w' ∧ PR B L g' b' v' w' ∧ (g' = true → g = true ∧ ∃ q, q < 25 ∧ r = nI q ∧ w' 0 15 = nI q) ∧ b ≤ b' ∧ XF v v' ∧ MF w w' := by
  cases g with
  | false =>
    refine ⟨0, false, b, v, w, ?_, ?_, p, fun q => absurd q (by decide), Nat.le_refl _, XF_r, MF_r⟩
    · obtain ⟨a, b⟩ := PR_f p
      unfold f_X2_takeLot
      rw [if_pos b, a]; rfl
    · rw [if_neg (by rw [(p.2.2.2.2.2.2.2.2.2.2 rfl).2]; decide)]
  | true =>
    have p0 := p
    obtain ⟨h1, h2, h3, h4, h5, h6, h7, h8, h9, h10, _⟩ := p
    obtain ⟨f6, f16⟩ := h10 rfl
    have hL := h1.1
    obtain ⟨t1, t2⟩ := tm_r (B := B) h3
    rw [if_pos f16]
    by_cases s : sr B L b = 2
    · obtain ⟨f2, N, e1, eN, hN⟩ := lo_s (x1 := x1) h2 h3 s h5 h8 (tm B L b - b) b 100000 0 (by omega) (by omega) (by omega) (by omega)
      have M : f_X5_lotTold x1 w = (if N < 25 ∧ ¬ (if w 1 (11 + 4 * N) < 0 then (0 : Int32) else 1) = x1 then f_X5_needs 1 (jx_up w 0 15 (nI N)) else f_X5_needs 0 (jx_up w 0 15 (nI N))) := by
        unfold f_X5_lotTold
        rw [show nI 0 = 0 from rfl] at e1
        rw [h5, e1, lo_end h2 (by omega) h5 hN (by rw [h8]; exact Int32.le_refl _), if_pos s, if_neg i10]
        by_cases c : N < 25
        · have c' : 0 ≤ nI N ∧ nI N ≤ 24 := ⟨pI_pos (by omega), by rw [show (24 : Int32) = nI 24 from rfl, pI_le (by omega) (by omega)]; omega⟩
          rw [if_pos c', if_neg i10]
          by_cases c2 : (if w 1 (11 + 4 * N) < 0 then (0 : Int32) else 1) = x1
          · rw [if_pos c2, if_neg (fun k => k.2 c2)]
          · rw [if_neg c2, if_pos (And.intro c c2)]
        · have c' : ¬ (0 ≤ nI N ∧ nI N ≤ 24) := fun k => c (by have := k.2; rw [show (24 : Int32) = nI 24 from rfl, pI_le (by omega) (by omega)] at this; omega)
          rw [if_neg c', if_pos i00, if_neg (fun k => c k.1)]
      have X : f_X2_takeLot 33 x2 v = if N < 25 ∧ ¬ (if w 1 (11 + 4 * N) < 0 then (0 : Int32) else 1) = x1 then (f_X2_nextToken v).bind (fun v9 => some (nI N, v9)) else (f_X2_failHere v).bind (fun v10 => some (0, v10)) := by
        have e5 : v 53 5 = nI (min 1000 N) := by rw [h9, nm_2 s, ← eN]
        unfold f_X2_takeLot
        rw [if_neg (by rw [f6]; exact m1n), h6, if_pos s, e5]
        by_cases c : N < 25
        · rw [show min 1000 N = N by omega, if_neg (show ¬ (25 : Int32) ≤ nI N by rw [show (25 : Int32) = nI 25 from rfl, pI_le (by omega) (by omega)]; omega), x_taken (h := 33) c, Option.bind_some]
          simp only []
          have e36 : v (33 + 3) N = w 1 (11 + 4 * N) := ht rfl N c
          rw [e36, h9, nm_2 s, ← eN, show min 1000 N = N by omega]
          by_cases c2 : (if w 1 (11 + 4 * N) < 0 then (0 : Int32) else 1) = x1
          · have c3 : ¬ (if w 1 (11 + 4 * N) < 0 then (0 : Int32) else 1) = x2 := fun k => by
              rw [c2] at k
              rcases hx with ⟨a, d⟩ | ⟨a, d⟩ <;> rw [a, d] at k <;> exact absurd k (by decide)
            rw [if_neg c3, if_neg (show ¬ (N < 25 ∧ ¬ (if w 1 (11 + 4 * N) < 0 then (0 : Int32) else 1) = x1) from fun k => k.2 c2)]
          · have c3 : (if w 1 (11 + 4 * N) < 0 then (0 : Int32) else 1) = x2 := by
              by_cases t : w 1 (11 + 4 * N) < 0
              · rw [if_pos t] at c2 ⊢
                rcases hx with ⟨a, d⟩ | ⟨a, d⟩
                · exact a.symm
                · exact absurd d.symm c2
              · rw [if_neg t] at c2 ⊢
                rcases hx with ⟨a, d⟩ | ⟨a, d⟩
                · exact absurd d.symm c2
                · exact a.symm
            rw [if_pos c3, if_pos (And.intro c c2)]
        · rw [if_pos (show (25 : Int32) ≤ nI (min 1000 N) by rw [show (25 : Int32) = nI 25 from rfl, pI_le (by omega) (by omega)]; omega), if_neg (show ¬ (N < 25 ∧ ¬ (if w 1 (11 + 4 * N) < 0 then (0 : Int32) else 1) = x1) from fun k => c k.1)]
      rw [M, X]
      by_cases c : N < 25 ∧ ¬ (if w 1 (11 + 4 * N) < 0 then (0 : Int32) else 1) = x1
      · obtain ⟨v', w', b', k1, k2, k3, k4, k5, k6, k7⟩ := step_ok (PR_15 (x := nI N) p0) (by rw [s]; decide)
        have tg := te_gt (B := B) (L := L) (b := b) (Or.inr (Or.inl s))
        refine ⟨nI N, true, b', v', w', ?_, ?_, k3, fun _ => ⟨rfl, N, c.1, rfl, by rw [k7, up_s]⟩, by omega, k5, MF_t (MF_u (by omega)) k6⟩
        · rw [if_pos c, k1, Option.bind_some]
        · rw [if_pos c]; exact k2
      · obtain ⟨v', w', k1, k2, k3, k5, k6, k7⟩ := step_bad (PR_15 (x := nI N) p0)
        refine ⟨0, false, b, v', w', ?_, ?_, k3, fun q => absurd q (by decide), Nat.le_refl _, k5, MF_t (MF_u (by omega)) k6⟩
        · rw [if_neg c, k1, Option.bind_some]
        · rw [if_neg c]; exact k2
    · obtain ⟨v', w', k1, k2, k3, k5, k6, k7⟩ := step_bad (PR_15 (x := 0) p0)
      refine ⟨0, false, b, v', w', ?_, ?_, k3, fun q => absurd q (by decide), Nat.le_refl _, k5, MF_t (MF_u (by omega)) k6⟩
      · unfold f_X2_takeLot
        rw [if_neg (by rw [f6]; exact m1n), h6, if_neg s, k1, Option.bind_some]
      · unfold f_X5_lotTold
        rw [h5, show (100000 : Nat) = 99999 + 1 from rfl, lo_n h2 h3 s h5]; exact k2
