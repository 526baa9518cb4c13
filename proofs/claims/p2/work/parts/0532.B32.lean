def IX (v v' : jx_V) : Prop := ∀ c, c ≠ 53 → (c < 33 ∨ 49 ≤ c) → v' c = v c
def IM (w w' : jx_V) : Prop := (∀ c, c ≠ 0 → c ≠ 1 → w' c = w c) ∧ ∀ j, j < 13 → w' 0 j = w 0 j
theorem IX_r {v} : IX v v := fun _ _ _ => rfl
theorem IX_t {u v w} (a : IX u v) (b : IX v w) : IX u w := fun c h k => (b c h k).trans (a c h k)
theorem IM_r {v} : IM v v := ⟨fun _ _ _ => rfl, fun _ _ => rfl⟩
theorem IM_t {u v w} (a : IM u v) (b : IM v w) : IM u w := ⟨fun c h k => (b.1 c h k).trans (a.1 c h k), fun c h => (b.2 c h).trans (a.2 c h)⟩
theorem XI {v v'} (a : XF v v') : IX v v' := fun c h _ => a c h
theorem MI {w w'} (a : MF w w') : IM w w' := ⟨fun c h _ => a.1 c h, a.2⟩
def TWN (v w : jx_V) : Prop := cT 33 v = mT (w 1) ∧ OK (cT 33 v)
def IT (B : Nat → Int32) (L : Nat) (g : Bool) (b : Nat) (v w : jx_V) : Prop := PR B L g b v w ∧ (g = true → TWN v w)
theorem TWN_t {v w v' w'} (t : TWN v w) (x : XF v v') (y : MF w w') : TWN v' w' := by
  have e : cT 33 v' = cT 33 v := cT_congr (fun c h1 h2 => x c (by omega))
  unfold TWN
  rw [e, y.1 1 (by omega)]; exact t
theorem TWN_k {v w} (t : TWN v w) : ∀ l, l < 25 → v 36 l = w 1 (11 + 4 * l) := by
  intro l hl
  have := congrFun (congrArg Tn.K t.1) l
  rw [cK hl, mK hl] at this
  exact this
theorem PR_fr {B L g b v w v' w'} (p : PR B L g b v w) (a53 : v' 53 = v 53) (a54 : v' 54 = v 54) (b0 : w' 0 = w 0) (b8 : w' 8 = w 8) : PR B L g b v' w' := by
  unfold PR TX TM at p ⊢
  rw [a53, a54, b0, b8]; exact p
theorem PR_g {B L b v w} (p : PR B L true b v w) : ¬ 0 ≤ v 53 6 ∧ w 0 16 = 0 := ⟨by rw [(p.2.2.2.2.2.2.2.2.2.1 rfl).1]; exact m1n, (p.2.2.2.2.2.2.2.2.2.1 rfl).2⟩
theorem PR_b {B L b v w} (p : PR B L false b v w) : 0 ≤ v 53 6 ∧ ¬ w 0 16 = 0 := ⟨(PR_f p).2, by rw [(p.2.2.2.2.2.2.2.2.2.2 rfl).2]; decide⟩
theorem fin_put {B L b v w} {kd : Int32} {q o h pp : Nat} (p : PR B L true b v w) (T : TWN v w) (hk : 0 ≤ kd) (hq : q < 25) (ho : o < 4) (hh : h < 10) (hp : pp < 4) : ∃ v' w', f_X3_put 33 (nI q) kd (nI o) (nI h) (nI pp) v = some v' ∧ f_X5_builds (nI q) kd (nI o) (nI h) (nI pp) w = some w' ∧ IT B L true b v' w' ∧ IX v v' ∧ IM w w' := by
  refine ⟨_, _, x_put (h := 33) hq, m_builds hq, ⟨PR_fr p ?_ ?_ ?_ ?_, fun _ => ⟨?_, ?_⟩⟩, fun c h1 h2 => ?_, ⟨fun c h1 h2 => ?_, fun j hj => ?_⟩⟩
  · rw [jx_up_ne (by omega), jx_up_ne (by omega), jx_up_ne (by omega), jx_up_ne (by omega)]
  · rw [jx_up_ne (by omega), jx_up_ne (by omega), jx_up_ne (by omega), jx_up_ne (by omega)]
  · rw [jx_up_ne (by omega), jx_up_ne (by omega), jx_up_ne (by omega), jx_up_ne (by omega)]
  · rw [jx_up_ne (by omega), jx_up_ne (by omega), jx_up_ne (by omega), jx_up_ne (by omega)]
  · rw [c_put (h := 33) hq hk]; simp only [up_c]; rw [m_put hq hk, T.1]
  · rw [c_put (h := 33) hq hk]; exact OK_bld T.2 hk ⟨o, ho, rfl⟩ ⟨h, hh, rfl⟩ ⟨pp, hp, rfl⟩
  · rw [jx_up_ne (by omega), jx_up_ne (by omega), jx_up_ne (by omega), jx_up_ne (by omega)]
  · rw [jx_up_ne h2, jx_up_ne h2, jx_up_ne h2, jx_up_ne h2]
  · rw [jx_up_ne (by omega), jx_up_ne (by omega), jx_up_ne (by omega), jx_up_ne (by omega)]
theorem ax_p2 {t10 : jx_V → Option jx_V} {n4 : jx_V → Option (Int32 × jx_V)} {pt : Int32 → jx_V → Option jx_V} {v v1 v2 : jx_V} {r : Int32} (h1 : t10 v = some v1) (h2 : n4 v1 = some (r, v2)) : ((t10 v).bind (fun v12 => (n4 v12).bind (fun (r13, v13) => if 0 ≤ v13 53 6 then some v13 else pt r13 v13))) = if 0 ≤ v2 53 6 then some v2 else pt r v2 := by
  simp only [h1, h2, Option.bind_some]
theorem ax_p3 {nbp : jx_V → Option (Int32 × jx_V)} {bd : Int32 → jx_V → Option jx_V} {v v1 : jx_V} {r : Int32} (h1 : nbp v = some (r, v1)) : ((nbp v).bind (fun (r43, v43) => if v43 0 16 = 0 then bd r43 v43 else some v43)) = if v1 0 16 = 0 then bd r v1 else some v1 := by
  simp only [h1, Option.bind_some]
theorem it_thing {B L b v w} {kd : Int32} (hk : 0 ≤ kd) (p : PR B L true b v w) (s : sr B L b = 1) (T : TWN v w) : ∃ g' b' v' w', f_X2_readThing 33 kd v = some v' ∧ f_X5_thingItem kd w = some w' ∧ IT B L g' b' v' w' ∧ b < b' ∧ IX v v' ∧ IM w w' := by
  obtain ⟨v1, w1, b1, a1, a2, p1, a3, a4, a5, _⟩ := step_ok p (by rw [s]; decide)
  have tg := te_gt (B := B) (L := L) (b := b) (Or.inl s)
  have T1 := TWN_t T a4 a5
  obtain ⟨h1, m1, _⟩ := m_word p1
  obtain ⟨g2, b2, v2, w2, c1, c2, p2, c3, c4, c5, c6, _⟩ := tw (k := 7) (by omega) p1
  have T2 := TWN_t T1 c5 c6
  obtain ⟨r3, g3, b3, v3, w3, d1, d2, p3, d3, d4, d5, d6⟩ := tlt (Or.inl ⟨rfl, rfl⟩) p2 (fun _ => TWN_k T2)
  have T3 := TWN_t T2 d5 d6
  obtain ⟨r5, r5', g5, b5, v4, v5, w5, e1, e2, e3, p5, e4, e5, e6, e7⟩ := nb (k := 8) (lim := 4) (x := 486) (y := 3) (z := 4) (by omega) (by omega) (by omega) rfl rfl rfl p3
  have T5 := TWN_t T3 e6 e7
  obtain ⟨r7, r7', g7, b7, v6, v7, w7, f1, f2, f3, p7, f4, f5, f6, f7⟩ := nb (k := 9) (lim := 10) (x := 271592) (y := 9) (z := 10) (by omega) (by omega) (by omega) rfl rfl rfl p5
  have T7 := TWN_t T5 f6 f7
  obtain ⟨h7, m7, q7⟩ := m_word p7
  have iw := x_isw p7 (k := 10) (by omega)
  have c10 := q7 10 (by omega) 16819668 rfl
  have X7 : XF v v7 := XF_t a4 (XF_t c5 (XF_t d5 (XF_t e6 f6)))
  have M7 : MF w w7 := MF_t a5 (MF_t c6 (MF_t d6 (MF_t e7 f7)))
  have EX : f_X2_readThing 33 kd v = _ := ax_rt (nt := f_X2_nextToken) (t7 := f_X2_takeWord 7) (tl := f_X2_takeLot 33 0) (t8 := f_X2_takeWord 8) (n4 := f_X2_takeNumber 4) (t9 := f_X2_takeWord 9) (n10v := f_X2_takeNumber 10) (iw := f_X2_isWord 10) (pt := f_X3_put 33) (t10 := f_X2_takeWord 10) (x2 := kd) a1 c1 d1 e1 e2 f1 f2 iw
  have EM : f_X5_thingItem kd w = _ := ax_ti (n1 := f_X5_needs 1) (n0 := f_X5_needs 0) (wd := f_X5_word) (lo := f_X5_lotTold 1) (nbo := f_X5_numberBehind 486 3) (nbh := f_X5_numberBehind 271592 9) (nbp := f_X5_numberBehind 16819668 3) (bd := f_X5_builds) (x52 := 52) (xp := 16819668) (x1 := kd) a2 m1 (c2 52 h1 rfl m1) d2 e3 f3 m7
  rw [EX, EM]
  have good : g7 = true → (∃ q, q < 25 ∧ r3 = nI q ∧ w3 0 15 = nI q) ∧ (r5' = r5 ∧ ∃ q, q < 4 ∧ r5 = nI q) ∧ (r7' = r7 ∧ ∃ q, q < 10 ∧ r7 = nI q) := fun q => by
    obtain ⟨y1, y2, y3⟩ := f4 q
    obtain ⟨z1, z2, z3⟩ := e4 y1
    exact ⟨(d3 z1).2, ⟨z2, z3⟩, ⟨y2, y3⟩⟩
  by_cases m : mt B L b7 10 = true
  · rw [if_pos m, if_neg i10]
    cases g7 with
    | true =>
      obtain ⟨r13, r13', g13, b13, v12, v13, w13, k1, k2, k3, p13, k4, k5, k6, k7⟩ := nb (k := 10) (lim := 4) (x := 16819668) (y := 3) (z := 4) (by omega) (by omega) (by omega) rfl rfl rfl p7
      have T13 := TWN_t T7 k6 k7
      rw [ax_p2 (pt := fun r v => f_X3_put 33 r3 kd r5 r7 r v) k1 k2, if_pos (show lg_cmp h7 16819668 = 0 by rw [c10]; exact ⟨rfl, m⟩), ax_p3 (bd := fun r v => f_X5_builds (w3 0 15) kd r5' r7' r v) k3]
      cases g13 with
      | true =>
        obtain ⟨⟨q, hq, eq, eq'⟩, ⟨eo', o, ho, eo⟩, ⟨eh', hh, hh', eh⟩⟩ := good rfl
        obtain ⟨_, ep', pp, hp, ep⟩ := k4 rfl
        obtain ⟨v', w', s1, s2, s3, s4, s5⟩ := fin_put (kd := kd) (q := q) (o := o) (h := hh) (pp := pp) p13 T13 hk hq ho hh' hp
        rw [if_neg (PR_g p13).1, if_pos (PR_g p13).2, eq', eo', eh', ep', eq, eo, eh, ep]
        exact ⟨true, b13, v', w', s1, s2, s3, by omega, IX_t (XI (XF_t X7 k6)) s4, IM_t (MI (MF_t M7 k7)) s5⟩
      | false =>
        rw [if_pos (PR_b p13).1, if_neg (PR_b p13).2]
        exact ⟨false, b13, v13, w13, rfl, rfl, ⟨p13, fun q => absurd q (by decide)⟩, by omega, XI (XF_t X7 k6), MI (MF_t M7 k7)⟩
    | false =>
      rw [ax_p2 (pt := fun r v => f_X3_put 33 r3 kd r5 r7 r v) (tw_f p7) (tn_f p7), if_neg (show ¬ lg_cmp h7 16819668 = 0 by rw [c10]; exact fun k => absurd k.1 (by decide)), if_pos (PR_b p7).1, if_neg (PR_b p7).2]
      exact ⟨false, b7, v7, w7, rfl, rfl, ⟨p7, fun q => absurd q (by decide)⟩, by omega, XI X7, MI M7⟩
  · rw [if_neg m, if_pos i00, if_neg (show ¬ lg_cmp h7 16819668 = 0 by rw [c10]; exact fun k => m k.2)]
    cases g7 with
    | true =>
      obtain ⟨⟨q, hq, eq, eq'⟩, ⟨eo', o, ho, eo⟩, ⟨eh', hh, hh', eh⟩⟩ := good rfl
      obtain ⟨v', w', s1, s2, s3, s4, s5⟩ := fin_put (kd := kd) (q := q) (o := o) (h := hh) (pp := 0) p7 T7 hk hq ho hh' (by omega)
      rw [show nI 0 = 0 from rfl] at s1 s2
      rw [if_neg (PR_g p7).1, if_pos (PR_g p7).2, eq', eo', eh', eq, eo, eh]
      exact ⟨true, b7, v', w', s1, s2, s3, by omega, IX_t (XI X7) s4, IM_t (MI M7) s5⟩
    | false =>
      rw [if_pos (PR_b p7).1, if_neg (PR_b p7).2]
      exact ⟨false, b7, v7, w7, rfl, rfl, ⟨p7, fun q => absurd q (by decide)⟩, by omega, XI X7, MI M7⟩
