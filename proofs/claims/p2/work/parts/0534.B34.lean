theorem sm_bt {B L b} : bte B L b = 59 ↔ sr B L b = 3 := by
  unfold bte sr
  by_cases c : b < L
  · rw [if_pos c, if_pos c]
    by_cases a : 97 ≤ B b ∧ B b ≤ 122
    · rw [if_pos a]
      exact ⟨fun k => by rw [k] at a; exact absurd a (by decide), fun k => absurd k (by decide)⟩
    · rw [if_neg a]
      by_cases d : 48 ≤ B b ∧ B b ≤ 57
      · rw [if_pos d]
        exact ⟨fun k => by rw [k] at d; exact absurd d (by decide), fun k => absurd k (by decide)⟩
      · rw [if_neg d]
        by_cases e : B b = 59
        · rw [if_pos e]; exact ⟨fun _ => rfl, fun _ => e⟩
        · rw [if_neg e]; exact ⟨fun k => absurd k e, fun k => absurd k (by decide)⟩
  · rw [if_neg c, if_neg c]; exact ⟨fun k => absurd k (by decide), fun k => absurd k (by decide)⟩
theorem tx_aux {byt : Option (Int32 × jx_V)} {n1 n0 it : jx_V → Option jx_V} {K : jx_V → Option (Int32 × jx_V)} {w w1 w2 : jx_V} {y : Int32} (hb : byt = some (y, w)) (hn : (if y = 59 then n1 w else n0 w) = some w1) (hi : it w1 = some w2) : (byt.bind (fun (r10, v10) => if r10 = 59 then (n1 v10).bind (fun v14 => (it v14).bind (fun v15 => K v15)) else (n0 v10).bind (fun v12 => (it v12).bind (fun v13 => K v13)))) = K w2 := by
  rw [hb, Option.bind_some]
  simp only []
  by_cases c : y = 59
  · rw [if_pos c] at hn
    rw [if_pos c, hn, Option.bind_some, hi, Option.bind_some]
  · rw [if_neg c] at hn
    rw [if_neg c, hn, Option.bind_some, hi, Option.bind_some]
def fnl (x : Int32) (w : jx_V) : Option (Int32 × jx_V) := if jx_up w 0 12 0 0 16 = 0 then some (x, jx_up w 0 12 0) else (f_X5_putsBack (jx_up w 0 12 0)).bind (fun v9 => some (-1 - v9 0 13, v9))
theorem tx_f {F x} {w : jx_V} (h : ¬ w 0 16 = 0) : f_X5_text_L (F+1) x w = fnl x w := by
  rw [f_X5_text_L, if_neg h]; rfl
theorem tx_e {F x} {w : jx_V} (h : w 0 16 = 0) (h2 : w 0 12 ≤ w 0 13) : f_X5_text_L (F+1) x w = fnl x w := by
  rw [f_X5_text_L, if_pos h, if_pos h2]; rfl
theorem tx_s {F x y} {w w1 w2 : jx_V} (h : w 0 16 = 0) (h2 : ¬ w 0 12 ≤ w 0 13) (hb : f_X5_byteAt (w 0 13) w = some (y, w)) (hn : (if y = 59 then f_X5_needs 1 w else f_X5_needs 0 w) = some w1) (hi : f_X5_item w1 = some w2) : f_X5_text_L (F+1) x w = f_X5_text_L F (x + 1) w2 := by
  rw [f_X5_text_L, if_pos h, if_neg h2]
  exact tx_aux (n1 := f_X5_needs 1) (n0 := f_X5_needs 0) (it := f_X5_item) (K := fun u => f_X5_text_L F (x + 1) u) hb hn hi
theorem rd_f {B L b v w f x} (p : PR B L false b v w) : f_X2_readText_L 33 (f+1) x v = some (x, v) := by
  rw [f_X2_readText_L, if_pos (PR_f p).2, (PR_f p).1, Option.bind_some, ite_self]
theorem tx_L {B L} : ∀ d n f F b v w, IT B L true b v w → L ≤ b + d → n ≤ b → d + 1 < f → d + 2 < F →
    ∃ r x g' b' v' w', f_X2_readText_L 33 f (nI n) v = some (r, v') ∧ f_X5_text_L F (nI n) w = fnl x w' ∧ (g' = true → r = x) ∧ IT B L g' b' v' w' ∧ IX v v' ∧ IM w w' := by
  intro d
  induction d with
  | zero =>
    intro n f F b v w i hd hn hf hF
    obtain ⟨f, rfl⟩ : ∃ q, f = q + 1 := ⟨f - 1, by omega⟩
    obtain ⟨F, rfl⟩ : ∃ q, F = q + 1 := ⟨F - 1, by omega⟩
    have p := i.1
    have hL := p.1.1
    have hb := p.2.2.1
    have s0 : sr B L b = 0 := sr_z (by omega)
    refine ⟨nI n, nI n, true, b, v, w, ?_, ?_, fun _ => rfl, i, IX_r, IM_r⟩
    · rw [f_X2_readText_L, if_neg (PR_g p).1, p.2.2.2.2.2.1, s0, if_neg (by decide), if_pos rfl]
    · exact tx_e (PR_g p).2 (by rw [p.2.1.2.1, p.2.2.2.2.1, pI_le (by omega) (by omega)]; exact hd)
  | succ d ih =>
    intro n f F b v w i hd hn hf hF
    obtain ⟨f, rfl⟩ : ∃ q, f = q + 1 := ⟨f - 1, by omega⟩
    obtain ⟨F, rfl⟩ : ∃ q, F = q + 1 := ⟨F - 1, by omega⟩
    have p := i.1
    have hL := p.1.1
    have hb := p.2.2.1
    by_cases c : b < L
    · have h2 : ¬ w 0 12 ≤ w 0 13 := by rw [p.2.1.2.1, p.2.2.2.2.1, pI_le (by omega) (by omega)]; omega
      have by1 : f_X5_byteAt (w 0 13) w = some (bte B L b, w) := lo_by p.2.1 (by omega) p.2.2.2.2.1
      have s0 := sr_0 (B := B) c
      by_cases s3 : sr B L b = 3
      · obtain ⟨v1, w1, b1, a1, a2, p1, a3, a4, a5, _⟩ := step_ok p (by rw [s3]; decide)
        have tg := te_gt (B := B) (L := L) (b := b) (Or.inr (Or.inr s3))
        have T1 := TWN_t (i.2 rfl) a4 a5
        obtain ⟨g2, b2, v2, w2, c1, c2, i2, c3, c4, c5, c6⟩ := item_ok p1 T1
        have eX : f_X2_readText_L 33 (f+1) (nI n) v = f_X2_readText_L 33 f (nI (n+1)) v2 := by
          rw [f_X2_readText_L, if_neg (PR_g p).1, p.2.2.2.2.2.1, if_pos s3, if_neg (show ¬ (120 : Int32) ≤ nI n by rw [show (120 : Int32) = nI 120 from rfl, pI_le (by omega) (by omega)]; omega), a1, Option.bind_some, c1, Option.bind_some, nI_add1]
        have eM : f_X5_text_L (F+1) (nI n) w = f_X5_text_L F (nI (n+1)) w2 := by
          rw [tx_s (F := F) (x := nI n) (PR_g p).2 h2 by1 (by rw [if_pos (sm_bt.mpr s3)]; exact a2) c2, nI_add1]
        rw [eX, eM]
        cases g2 with
        | true =>
          have := c4 rfl
          obtain ⟨r, x, g', b', v', w', k1, k2, k3, k4, k5, k6⟩ := ih (n+1) f F b2 v2 w2 i2 (by omega) (by omega) (by omega) (by omega)
          exact ⟨r, x, g', b', v', w', k1, k2, k3, k4, IX_t (XI a4) (IX_t c5 k5), IM_t (MI a5) (IM_t c6 k6)⟩
        | false =>
          obtain ⟨f, rfl⟩ : ∃ q, f = q + 1 := ⟨f - 1, by omega⟩
          obtain ⟨F, rfl⟩ : ∃ q, F = q + 1 := ⟨F - 1, by omega⟩
          exact ⟨nI (n+1), nI (n+1), false, b2, v2, w2, rd_f i2.1, tx_f (PR_b i2.1).2, fun _ => rfl, i2, IX_t (XI a4) c5, IM_t (MI a5) c6⟩
      · obtain ⟨v1, w1, a1, a2, p1, a4, a5, _⟩ := step_bad p
        obtain ⟨w2, c1, p2, c2⟩ := item_bad p1
        obtain ⟨F, rfl⟩ : ∃ q, F = q + 1 := ⟨F - 1, by omega⟩
        refine ⟨nI n, nI n + 1, false, b, v1, w2, ?_, ?_, fun q => absurd q (by decide), ⟨p2, fun q => absurd q (by decide)⟩, XI a4, MI (MF_t a5 c2)⟩
        · rw [f_X2_readText_L, if_neg (PR_g p).1, p.2.2.2.2.2.1, if_neg s3, if_neg s0, a1, Option.bind_some]
        · rw [tx_s (F := F+1) (x := nI n) (PR_g p).2 h2 by1 (by rw [if_neg (fun q => s3 (sm_bt.mp q))]; exact a2) c1]
          exact tx_f (PR_b p2).2
    · have s0 : sr B L b = 0 := sr_z c
      refine ⟨nI n, nI n, true, b, v, w, ?_, ?_, fun _ => rfl, i, IX_r, IM_r⟩
      · rw [f_X2_readText_L, if_neg (PR_g p).1, p.2.2.2.2.2.1, s0, if_neg (by decide), if_pos rfl]
      · exact tx_e (PR_g p).2 (by rw [p.2.1.2.1, p.2.2.2.2.1, pI_le (by omega) (by omega)]; omega)
theorem ct_aux {bec : Option jx_V} {rt : jx_V → Option (Int32 × jx_V)} {bk : jx_V → Option jx_V} {v1 v2 : jx_V} {r2 : Int32} (h1 : bec = some v1) (h2 : rt v1 = some (r2, v2)) : (bec.bind (fun v1 => ((rt v1).bind (fun (r2, v2) => (if ((jx_up v2 53 1 0) 53 6) < 0 then ((bk (jx_up v2 53 1 0)).bind (fun v4 => (some (r2, v4)))) else (some (((-1) - ((jx_up v2 53 1 0) 53 6)), (jx_up v2 53 1 0)))))))) = if ((jx_up v2 53 1 0) 53 6) < 0 then ((bk (jx_up v2 53 1 0)).bind (fun v4 => (some (r2, v4)))) else (some (((-1) - ((jx_up v2 53 1 0) 53 6)), (jx_up v2 53 1 0))) := by
  simp only [h1, h2, Option.bind_some]
theorem m_back1 {w : jx_V} : ∃ w', f_X5_putsBack w = some w' ∧ CP 3 1 181 w w' := m_back
theorem q_text {v w} (h : R v w) : Q (f_X4_text v) (f_X5_text w) := by
  obtain ⟨L, hL, eL⟩ := h.tr
  obtain ⟨N, hN, eN, eN2⟩ := cn h.ok
  obtain ⟨v1, b1, bf, bT⟩ := x_become (h0 := 33) (h1 := 1) (v := v) (Or.inr (by omega)) (by omega)
  obtain ⟨w1, p1, pc⟩ := m_puts (w := w)
  have x53 : v1 53 = v 53 := bf 53 (by omega)
  have x54 : v1 54 = v 54 := bf 54 (by omega)
  have TX1 : TX (v 54) L (jx_up (jx_up v1 53 6 (-1)) 53 4 0) := TX_up (TX_up ⟨hL, by rw [x53]; exact eL, fun i _ => by rw [x54]⟩ (by omega)) (by omega)
  have TM1 : TM (v 54) L (jx_up (jx_up w1 0 14 0) 0 16 0) := TM_up (TM_up ⟨hL, by rw [pc.1 0 (by omega), ← h.tl]; exact eL, fun i hi => by rw [pc.1 8 (by omega)]; exact (h.tb i hi).symm⟩ (by omega)) (by omega)
  obtain ⟨v2, a1, a2, a3, a4, a5, a6, a7, a8⟩ := x_nxt (e := 0) TX1 (by omega) up_s
  obtain ⟨w2, c1, c2, c3, c4, c5⟩ := m_nxt (e := 0) TM1 (by omega) (by rw [up_g, if_neg (by omega)]; exact up_s)
  obtain ⟨k1, k2, _⟩ := skb_r (B := v 54) (L - 0) 0
  generalize skb (v 54) (L - 0) 0 = b at *
  have MF1 : MF w1 w2 := ⟨fun c hc => by rw [c2 c hc, jx_up_ne hc, jx_up_ne hc], fun j hj => by rw [c3 j (by omega) (by omega), up_g, if_neg (by omega), up_g, if_neg (by omega)]⟩
  have XF1 : XF v1 v2 := fun c hc => by rw [a2 c hc, jx_up_ne hc, jx_up_ne hc]
  have P2 : PR (v 54) L true b v2 w2 := ⟨⟨hL, by rw [a3]; exact TX1.2.1, fun i hi => by rw [a2 54 (by omega)]; exact TX1.2.2 i hi⟩, ⟨hL, by rw [c3 12 (by omega) (by omega)]; exact TM1.2.1, fun i hi => by rw [c2 8 (by omega)]; exact TM1.2.2 i hi⟩, by omega, a5, c4, a6, a7, c5, a8, fun _ => ⟨by rw [a4, up_g, if_neg (by omega)]; exact up_s, by rw [c3 16 (by omega) (by omega)]; exact up_s⟩, fun q => absurd q (by decide)⟩
  have T1 : TWN v1 w1 := ⟨by rw [bT, pc.1 1 (by omega)]; exact h.t, by rw [bT]; exact h.ok⟩
  have T2 : TWN v2 w2 := TWN_t T1 XF1 MF1
  obtain ⟨g3, b3, v3, w3, d1, d2, i3, d3, d4, d5, d6⟩ := item_ok P2 T2
  have main : ∀ F, F = 100000 → ∃ r x g' b' v' w', f_X2_readText_L 33 F 1 v3 = some (r, v') ∧ f_X5_text_L F 1 w3 = fnl x w' ∧ (g' = true → r = x) ∧ IT (v 54) L g' b' v' w' ∧ IX v3 v' ∧ IM w3 w' := by
    intro F hF
    cases g3 with
    | true =>
      have := d4 rfl
      exact tx_L L 1 F F b3 v3 w3 i3 (by omega) (by omega) (by omega) (by omega)
    | false =>
      obtain ⟨F, rfl⟩ : ∃ q, F = q + 1 := ⟨F - 1, by omega⟩
      exact ⟨1, 1, false, b3, v3, w3, rd_f i3.1, tx_f (PR_b i3.1).2, fun _ => rfl, i3, IX_r, IM_r⟩
  obtain ⟨r, x, g', b', v', w', e1, e2, e3, i4, e4, e5⟩ := main 100000 rfl
  have rT : f_X2_readText 33 v1 = some (r, v') := by
    unfold f_X2_readText
    rw [a1, Option.bind_some, d1, Option.bind_some]; exact e1
  have eX : f_X4_text v = _ := ct_aux (bec := f_X3_become 33 1 v) (rt := f_X2_readText 33) (bk := f_X3_become 1 33) b1 rT
  have eM : f_X5_text w = fnl x w' := by
    unfold f_X5_text
    rw [p1, Option.bind_some, c1, Option.bind_some, d2, Option.bind_some]; exact e2
  rw [eX, eM]
  have FX : ∀ c, c ≠ 53 → (c < 33 ∨ 49 ≤ c) → v' c = v c := fun c h1 h2 => by rw [e4 c h1 h2, d5 c h1 h2, XF1 c h1, bf c (by omega)]
  have FMc : ∀ c, c ≠ 0 → c ≠ 1 → w' c = w1 c := fun c h1 h2 => by rw [e5.1 c h1 h2, d6.1 c h1 h2, MF1.1 c h1]
  have FM0 : ∀ j, j < 13 → w' 0 j = w 0 j := fun j hj => by rw [e5.2 j hj, d6.2 j hj, MF1.2 j hj, pc.1 0 (by omega)]
  have q6 : jx_up v' 53 1 0 53 6 = v' 53 6 := by rw [up_g, if_neg (by omega)]
  have q16 : jx_up w' 0 12 0 0 16 = w' 0 16 := by rw [up_g, if_neg (by omega)]
  cases g' with
  | true =>
    obtain ⟨P, T⟩ := i4
    have T := T rfl
    have f6 := (P.2.2.2.2.2.2.2.2.2.1 rfl).1
    obtain ⟨N', hN', eN'⟩ := T.2.n
    have eN'' : jx_up v' 53 1 0 33 5 = nI N' := by rw [jx_up_ne (by omega)]; exact eN'
    obtain ⟨v4, y1, y2, y3⟩ := x_become (h0 := 1) (h1 := 33) (v := jx_up v' 53 1 0) (Or.inl (by omega)) (by rw [eN'', tn (by omega)]; exact hN')
    have y3' : cT 1 v4 = cT 33 v' := by rw [y3]; exact cT_congr (fun c _ _ => jx_up_ne (by omega))
    rw [q6, f6, if_pos (by decide), y1, Option.bind_some]
    unfold fnl
    rw [q16, (PR_g P).2, if_pos rfl, e3 rfl]
    have V4 : ∀ c, (c < 1 ∨ 16 < c) → c ≠ 53 → (c < 33 ∨ 49 ≤ c) → v4 c = v c := fun c h1 h2 h3 => by rw [y2 c (by omega), jx_up_ne h2, FX c h2 h3]
    have e17 : cT 17 v4 = cT 17 v := cT_congr (fun c h1 h2 => V4 c (by omega) (by omega) (by omega))
    refine Q_i (R.mk ?_ ?_ ?_ ?_ ?_ ?_ ?_ ?_ ?_)
    · rw [y3', T.1, jx_up_ne (by omega)]
    · rw [y3']; exact T.2
    · rw [V4 0 (by omega) (by omega) (by omega), up_g, if_neg (by omega), FM0 4 (by omega)]; exact h.k
    · rw [V4 0 (by omega) (by omega) (by omega)]; exact h.kb
    · rw [V4 0 (by omega) (by omega) (by omega), e17, jx_up_ne (by omega), FMc 2 (by omega) (by omega), pc.1 2 (by omega)]; exact h.kt
    · rw [y2 53 (by omega), up_s, up_s]
    · exact ⟨0, by omega, by rw [y2 53 (by omega), up_s]; rfl⟩
    · rw [V4 54 (by omega) (by omega) (by omega), jx_up_ne (by omega), FMc 8 (by omega) (by omega), pc.1 8 (by omega)]; exact h.tb
    · intro s hs
      rw [V4 61 (by omega) (by omega) (by omega), V4 62 (by omega) (by omega) (by omega), V4 (57+s) (by omega) (by omega) (by omega), jx_up_ne (by omega), jx_up_ne (by omega), jx_up_ne (by omega), FMc 9 (by omega) (by omega), FMc 10 (by omega) (by omega), FMc 11 (by omega) (by omega), pc.1 9 (by omega), pc.1 10 (by omega), pc.1 11 (by omega)]
      exact h.s s hs
  | false =>
    obtain ⟨P, _⟩ := i4
    have f6 := (P.2.2.2.2.2.2.2.2.2.2 rfl).1
    have hb' := P.2.2.1
    rw [q6, f6, if_neg (nI_neg (by omega))]
    unfold fnl
    rw [q16, if_neg (PR_b P).2]
    obtain ⟨w5, z1, z2⟩ := m_back (w := jx_up w' 0 12 0)
    have z0 : w5 0 = jx_up w' 0 12 0 0 := z2.1 0 (by omega)
    have ec : ∀ c, c ≠ 0 → c ≠ 1 → w5 c = w1 c := fun c h1 h2 => by rw [z2.1 c h2, jx_up_ne h1, FMc c h1 h2]
    have e13 : w5 0 13 = nI b' := by rw [z0, up_g, if_neg (by omega)]; exact P.2.2.2.2.1
    rw [z1, Option.bind_some, e13]
    have e1' : cT 1 (jx_up v' 53 1 0) = cT 1 v := cT_congr (fun c h1 h2 => by rw [jx_up_ne (by omega), FX c (by omega) (by omega)])
    have e17 : cT 17 (jx_up v' 53 1 0) = cT 17 v := cT_congr (fun c h1 h2 => by rw [jx_up_ne (by omega), FX c (by omega) (by omega)])
    obtain ⟨M, hM, eM1, eM2⟩ := mn h.ok'
    have em : mT (w5 1) = mT (w 1) := mT_eq (fun k hk => by rw [z2.2 k hk, jx_up_ne (by omega), FMc 3 (by omega) (by omega), pc.2 k hk]) (by omega)
    refine Q_i (R.mk ?_ ?_ ?_ ?_ ?_ ?_ ?_ ?_ ?_)
    · rw [e1', em]; exact h.t
    · rw [e1']; exact h.ok
    · rw [jx_up_ne (by omega), FX 0 (by omega) (by omega), z0, up_g, if_neg (by omega), FM0 4 (by omega)]; exact h.k
    · rw [jx_up_ne (by omega), FX 0 (by omega) (by omega)]; exact h.kb
    · rw [jx_up_ne (by omega), FX 0 (by omega) (by omega), e17, ec 2 (by omega) (by omega), pc.1 2 (by omega)]; exact h.kt
    · rw [up_s, z0, up_s]
    · exact ⟨0, by omega, up_s⟩
    · rw [jx_up_ne (by omega), FX 54 (by omega) (by omega), ec 8 (by omega) (by omega), pc.1 8 (by omega)]; exact h.tb
    · intro s hs
      rw [jx_up_ne (by omega), jx_up_ne (by omega), jx_up_ne (by omega), FX 61 (by omega) (by omega), FX 62 (by omega) (by omega), FX (57+s) (by omega) (by omega), ec 9 (by omega) (by omega), ec 10 (by omega) (by omega), ec 11 (by omega) (by omega), pc.1 9 (by omega), pc.1 10 (by omega), pc.1 11 (by omega)]
      exact h.s s hs
