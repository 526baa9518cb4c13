def CI (v v1 : jx_V) : Prop := (∀ c, c = 0 ∨ (17 ≤ c ∧ c < 33) ∨ (54 ≤ c ∧ c < 63) → v1 c = v c) ∧ v1 53 1 = v 53 1 ∧ cT 1 v1 = cT 1 v
theorem CI_R {v w v' w'} (h : R v w) (a : CI v v') (b : BI w w') : R v' w' := by
  obtain ⟨M, hM, eM, eM2⟩ := mn h.ok'
  have e : mT (w' 1) = mT (w 1) := mT_eq b.1 (by omega)
  exact R_town h (T := cT 1 v) a.1 a.2.1 (fun c hc => b.2.2.1 c (by omega) (by omega) (by omega) (by omega) (by omega)) (b.2.2.2 4 (by omega) (by omega) (by omega)) (b.2.2.2 12 (by omega) (by omega) (by omega)) a.2.2 (by rw [e, h.t]) h.ok
theorem rem_id {h l : Nat} {v : jx_V} (e : (cT h v).K l = -1) : rem (cT h v) l = cT h v := by
  have hk : l < 25 → ¬ 0 ≤ v (h+3) l := fun hl c => by rw [cK hl] at e; rw [e] at c; exact absurd c (by decide)
  refine Tx ?_ ?_ ?_ ?_ rfl rfl rfl rfl rfl rfl rfl
  · funext q
    show (if q = l then -1 else (cT h v).K q) = (cT h v).K q
    by_cases c : q = l
    · rw [if_pos c, c, e]
    · rw [if_neg c]
  · funext q
    show (if q = l then 0 else (cT h v).O q) = (cT h v).O q
    by_cases c : q = l
    · rw [if_pos c, c]; exact (if_neg (fun q => hk q.1 q.2)).symm
    · rw [if_neg c]
  · funext q
    show (if q = l then 0 else (cT h v).H q) = (cT h v).H q
    by_cases c : q = l
    · rw [if_pos c, c]; exact (if_neg (fun q => hk q.1 q.2)).symm
    · rw [if_neg c]
  · funext q
    show (if q = l then 0 else (cT h v).P q) = (cT h v).P q
    by_cases c : q = l
    · rw [if_pos c, c]; exact (if_neg (fun q => hk q.1 q.2)).symm
    · rw [if_neg c]
theorem rem_bld {T l k o h p} : rem (bld T l k o h p) l = rem T l := by
  refine Tx ?_ ?_ ?_ ?_ rfl rfl rfl rfl rfl rfl rfl
  · funext q; show (if q = l then -1 else if q = l then k else T.K q) = if q = l then -1 else T.K q
    by_cases c : q = l
    · rw [if_pos c, if_pos c]
    · rw [if_neg c, if_neg c, if_neg c]
  · funext q; show (if q = l then 0 else if q = l then o else T.O q) = if q = l then 0 else T.O q
    by_cases c : q = l
    · rw [if_pos c, if_pos c]
    · rw [if_neg c, if_neg c, if_neg c]
  · funext q; show (if q = l then 0 else if q = l then h else T.H q) = if q = l then 0 else T.H q
    by_cases c : q = l
    · rw [if_pos c, if_pos c]
    · rw [if_neg c, if_neg c, if_neg c]
  · funext q; show (if q = l then 0 else if q = l then p else T.P q) = if q = l then 0 else T.P q
    by_cases c : q = l
    · rw [if_pos c, if_pos c]
    · rw [if_neg c, if_neg c, if_neg c]
theorem q_site {v w a b c} (h : R v w) : Q (f_X4_site a b c v) (f_X5_site a b c w) := by
  unfold f_X4_site f_X5_site
  generalize hG4 : f_X4_site_L 100000 = g4
  generalize hG5 : f_X5_site_L 100000 = g5
  simp only [x_w7, x_w4, x_w10, m_in_0_6, m_isOwner, m_isHeight, Option.bind_some, x_f0, m_f0]
  by_cases c1 : 0 ≤ a ∧ a ≤ 6
  · by_cases c3 : 0 ≤ b ∧ b ≤ 3
    · by_cases c4 : 0 ≤ c ∧ c ≤ 9
      · simp only [if_pos c1, if_pos c3, if_pos c4, o10, if_false]
        obtain ⟨o, ho, rfl⟩ := ix (n := 3) rfl (by omega) c3
        have L : ∀ d l f x m v1 w1, l + d = 25 → d < f → CI v v1 → BI w w1 → Q (f_X4_site_L f a (nI o) c x m (nI l) v1) (f_X5_site_L f a (nI o) c x m (nI l) w1) := by
          intro d
          induction d with
          | zero =>
            intro l f x m v1 w1 hl hf ci bi
            obtain ⟨f, rfl⟩ : ∃ q, f = q + 1 := ⟨f - 1, by omega⟩
            rw [f_X4_site_L, f_X5_site_L, if_pos (show (25 : Int32) ≤ nI l by rw [show (25 : Int32) = nI 25 from rfl, pI_le (by omega) (by omega)]; omega), if_pos (show (25 : Int32) ≤ nI l by rw [show (25 : Int32) = nI 25 from rfl, pI_le (by omega) (by omega)]; omega)]
            simp only [x_f3, m_f3, Option.bind_some]
            split
            · exact Q_i (CI_R h ci bi)
            · exact Q_f (CI_R h ci bi)
          | succ d ih =>
            intro l f x m v1 w1 hl hf ci bi
            obtain ⟨f, rfl⟩ : ∃ q, f = q + 1 := ⟨f - 1, by omega⟩
            have hl' : l < 25 := by omega
            have r := CI_R h ci bi
            rw [f_X4_site_L, f_X5_site_L, if_neg (show ¬ (25 : Int32) ≤ nI l by rw [show (25 : Int32) = nI 25 from rfl, pI_le (by omega) (by omega)]; omega), if_neg (show ¬ (25 : Int32) ≤ nI l by rw [show (25 : Int32) = nI 25 from rfl, pI_le (by omega) (by omega)]; omega), x_taken hl', m_thing hl']
            simp only [Option.bind_some, Nat.reduceAdd, tk r hl', nI_add1]
            by_cases ht : w1 1 (11 + 4 * l) < 0
            · simp only [if_pos ht, z00, if_true]
              have rb := R_bld r hl' c1.1 ⟨o, ho, rfl⟩ (ix (n := 9) rfl (by omega) c4) ⟨0, by omega, rfl⟩ (k := a) (o := nI o) (hh := c) (p := 0)
              obtain ⟨v3, e3, g3, hg⟩ := x_gains (h := 1) (r := 65) (by omega) (by omega) rb.ok
              obtain ⟨w3, e4, g4', _⟩ := m_gainOf rb.ok' ho
              obtain ⟨w5, d5, p5⟩ := m_back (w := w3)
              have hg' := hg o ho
              rw [rb.t] at e3 hg'
              simp only [x_put hl', m_builds hl', Option.bind_some, Nat.reduceAdd, e3, e4, d5, x_off hl', tn (show o < 2147483648 by omega), ib ho (by omega), if_false]
              rw [jx_up_ne (show 65 ≠ 4 by omega), hg']
              have bi5 : BI w w5 := BI_b bi (FY_t up_FY (FY_t up_FY (FY_t up_FY (FY_t up_FY (FM_FY g4'))))) p5
              have ek : (cT 1 v).K l = -1 := by
                rcases (cT 1 v1 |> fun _ => h.ok.k l) with e | e
                · exact e
                · exfalso
                  rw [← ci.2.2, r.t, mK hl'] at e
                  exact absurd ht (Int32.not_lt.mpr e)
              have ci5 : CI v (jx_up v3 4 l (-1)) := by
                refine ⟨fun q hq => ?_, ?_, ?_⟩
                · rw [jx_up_ne (by omega), g3 q (by omega) (by omega), jx_up_ne (by omega), jx_up_ne (by omega), jx_up_ne (by omega), jx_up_ne (by omega)]; exact ci.1 q hq
                · rw [jx_up_ne (by omega), g3 53 (by omega) (by omega), jx_up_ne (by omega), jx_up_ne (by omega), jx_up_ne (by omega), jx_up_ne (by omega)]; exact ci.2.1
                · have x1 : cT 1 (jx_up v3 4 l (-1)) = rem (cT 1 v3) l := c_off (h := 1) hl'
                  have x2 : cT 1 v3 = bld (cT 1 v1) l a (nI o) c 0 := by
                    rw [cT_congr (h := 1) (fun q hq1 hq2 => g3 q (by omega) (by omega))]
                    exact c_put (h := 1) hl' c1.1
                  rw [x1, x2, rem_bld, ci.2.2, rem_id ek]
              split
              · exact ih (l+1) f _ _ _ _ (by omega) (by omega) ci5 bi5
              · split
                · exact ih (l+1) f _ _ _ _ (by omega) (by omega) ci5 bi5
                · exact ih (l+1) f _ _ _ _ (by omega) (by omega) ci5 bi5
            · simp only [if_neg ht, o10, if_false]
              exact ih (l+1) f x m v1 w1 (by omega) (by omega) ci bi
        obtain ⟨w1, d1, p1⟩ := m_puts (w := w)
        rw [d1, Option.bind_some]
        subst hG4 hG5
        exact L 25 0 100000 (-1) 0 v w1 (by omega) (by omega) ⟨fun _ _ => rfl, rfl, rfl⟩ (BI_p p1)
      · simp only [if_pos c1, if_pos c3, if_neg c4, o10, z00, if_true, if_false]; exact Q_f h
    · simp only [if_pos c1, if_neg c3, o10, z00, if_true, if_false]; exact Q_f h
  · simp only [if_neg c1, z00, if_true]; exact Q_f h
-- swap
def exch (T : Tn) (a b : Nat) : Tn := (fun l => if l = b then T.K a else if l = a then T.K b else T.K l, fun l => if l = b then T.O a else if l = a then T.O b else T.O l, fun l => if l = b then T.H a else if l = a then T.H b else T.H l, fun l => if l = b then T.P a else if l = a then T.P b else T.P l, T.W, T.C, T.U, T.S, T.n, T.m, T.z)
theorem OK_exch {T a b} (hT : OK T) : OK (exch T a b) := by
  refine OK.mk (fun l => ?_) (fun l => ?_) (fun l => ?_) (fun l => ?_) hT.w0 hT.w1 hT.w2 hT.w3 hT.w4 hT.n hT.s
  · show (if l = b then T.K a else if l = a then T.K b else T.K l) = -1 ∨ 0 ≤ (if l = b then T.K a else if l = a then T.K b else T.K l)
    (repeat' split) <;> exact hT.k _
  · show ∃ q, q < 4 ∧ (if l = b then T.O a else if l = a then T.O b else T.O l) = nI q
    (repeat' split) <;> exact hT.o _
  · show ∃ q, q < 10 ∧ (if l = b then T.H a else if l = a then T.H b else T.H l) = nI q
    (repeat' split) <;> exact hT.h _
  · show ∃ q, q < 4 ∧ (if l = b then T.P a else if l = a then T.P b else T.P l) = nI q
    (repeat' split) <;> exact hT.p _
def sw (a b : Nat) (f : Nat → Int32) : Nat → Int32 := fun l => if l = b then f a else if l = a then f b else f l
theorem sw_sw {a b f} : sw a b (sw a b f) = f := by
  funext l; unfold sw
  by_cases e1 : l = b
  · subst e1
    by_cases e2 : a = l
    · subst e2; simp
    · simp [e2]
  · by_cases e2 : l = a
    · subst e2; simp [e1]
    · simp [e1, e2]
theorem x_exch {h a b : Nat} {v : jx_V} (ha : a < 25) (hb : b < 25) : ∃ v', f_X3_exchange h (nI a) (nI b) v = some v' ∧ (∀ c, (c < h + 3 ∨ h + 7 ≤ c) → v' c = v c) ∧ ∀ r, r < 4 → v' (h+3+r) = sw a b (v (h+3+r)) := by
  have : ∀ d q f v1, q + d = 4 → d < f → (∀ c, (c < h + 3 ∨ h + 3 + q ≤ c) → v1 c = v c) → (∀ r, r < q → v1 (h+3+r) = sw a b (v (h+3+r))) → ∃ v', f_X3_exchange_L h f (nI a) (nI b) (nI q) v1 = some v' ∧ (∀ c, (c < h + 3 ∨ h + 7 ≤ c) → v' c = v c) ∧ ∀ r, r < 4 → v' (h+3+r) = sw a b (v (h+3+r)) := by
    intro d
    induction d with
    | zero =>
      intro q f v1 hq hf h1 h2
      obtain ⟨f, rfl⟩ : ∃ q, f = q + 1 := ⟨f - 1, by omega⟩
      refine ⟨v1, ?_, fun c hc => h1 c (by omega), fun r hr => h2 r (by omega)⟩
      rw [f_X3_exchange_L, if_pos (by rw [← n4, pI_le (by omega) (by omega)]; omega)]
    | succ d ih =>
      intro q f v1 hq hf h1 h2
      obtain ⟨f, rfl⟩ : ∃ q, f = q + 1 := ⟨f - 1, by omega⟩
      rw [f_X3_exchange_L, if_neg (by rw [← n4, pI_le (by omega) (by omega)]; omega)]
      simp only [tn (show q < 2147483648 by omega), ib (show q < 4 by omega) (by omega), tn (show a < 2147483648 by omega), ib ha (by omega), tn (show b < 2147483648 by omega), ib hb (by omega), if_false, nI_add1]
      refine ih (q+1) f _ (by omega) (by omega) (fun c hc => by rw [jx_up_ne (by omega), jx_up_ne (by omega)]; exact h1 c (by omega)) (fun r hr => ?_)
      by_cases e : r = q
      · subst e
        rw [up_c, up_c, h1 (h+3+r) (by omega)]
        funext l
        unfold upd sw
        rfl
      · rw [jx_up_ne (by omega), jx_up_ne (by omega)]; exact h2 r (by omega)
  exact this 4 0 100000 v (by omega) (by omega) (fun _ _ => rfl) (fun r hr => by omega)
theorem c_exch {h a b : Nat} {v v' : jx_V} (ha : a < 25) (hb : b < 25) (ta : 0 ≤ v (h+3) a) (tb : 0 ≤ v (h+3) b) (h1 : ∀ c, (c < h + 3 ∨ h + 7 ≤ c) → v' c = v c) (h2 : ∀ r, r < 4 → v' (h+3+r) = sw a b (v (h+3+r))) : cT h v' = exch (cT h v) a b := by
  have e0 : v' (h+3) = sw a b (v (h+3)) := h2 0 (by omega)
  have e1 : v' (h+4) = sw a b (v (h+4)) := h2 1 (by omega)
  have e2 : v' (h+5) = sw a b (v (h+5)) := h2 2 (by omega)
  have e3 : v' (h+6) = sw a b (v (h+6)) := h2 3 (by omega)
  have eh : v' h = v h := h1 h (by omega)
  refine Tx ?_ ?_ ?_ ?_ ?_ ?_ ?_ ?_ (by show v' h 5 = v h 5; rw [eh]) (by show v' h 6 = v h 6; rw [eh]) (by show v' h 7 = v h 7; rw [eh])
  · funext l
    show (if l < 25 then v' (h+3) l else -1) = (if l = b then (cT h v).K a else if l = a then (cT h v).K b else (cT h v).K l)
    rw [e0, cK ha, cK hb]; unfold sw
    by_cases x1 : l = b
    · rw [if_pos x1, if_pos x1, x1, if_pos hb]
    · by_cases x2 : l = a
      · rw [if_neg x1, if_pos x2, if_neg x1, if_pos x2, x2, if_pos ha]
      · rw [if_neg x1, if_neg x2, if_neg x1, if_neg x2]; rfl
  · funext l
    show (if l < 25 ∧ 0 ≤ v' (h+3) l then v' (h+4) l else 0) = (if l = b then (cT h v).O a else if l = a then (cT h v).O b else (cT h v).O l)
    rw [e0, e1, cO ha ta, cO hb tb]; unfold sw
    by_cases x1 : l = b
    · rw [if_pos x1, if_pos x1, if_pos x1, x1, if_pos ⟨hb, ta⟩]
    · by_cases x2 : l = a
      · rw [if_neg x1, if_pos x2, if_neg x1, if_pos x2, if_neg x1, if_pos x2, x2, if_pos ⟨ha, tb⟩]
      · rw [if_neg x1, if_neg x2, if_neg x1, if_neg x2, if_neg x1, if_neg x2]; rfl
  · funext l
    show (if l < 25 ∧ 0 ≤ v' (h+3) l then v' (h+5) l else 0) = (if l = b then (cT h v).H a else if l = a then (cT h v).H b else (cT h v).H l)
    rw [e0, e2, cH ha ta, cH hb tb]; unfold sw
    by_cases x1 : l = b
    · rw [if_pos x1, if_pos x1, if_pos x1, x1, if_pos ⟨hb, ta⟩]
    · by_cases x2 : l = a
      · rw [if_neg x1, if_pos x2, if_neg x1, if_pos x2, if_neg x1, if_pos x2, x2, if_pos ⟨ha, tb⟩]
      · rw [if_neg x1, if_neg x2, if_neg x1, if_neg x2, if_neg x1, if_neg x2]; rfl
  · funext l
    show (if l < 25 ∧ 0 ≤ v' (h+3) l then v' (h+6) l else 0) = (if l = b then (cT h v).P a else if l = a then (cT h v).P b else (cT h v).P l)
    rw [e0, e3, cP ha ta, cP hb tb]; unfold sw
    by_cases x1 : l = b
    · rw [if_pos x1, if_pos x1, if_pos x1, x1, if_pos ⟨hb, ta⟩]
    · by_cases x2 : l = a
      · rw [if_neg x1, if_pos x2, if_neg x1, if_pos x2, if_neg x1, if_pos x2, x2, if_pos ⟨ha, tb⟩]
      · rw [if_neg x1, if_neg x2, if_neg x1, if_neg x2, if_neg x1, if_neg x2]; rfl
  · funext k i
    show (if k < 6 ∧ i < (v' h 5).toNatClampNeg then v' (h+7+k) i else 0) = if k < 6 ∧ i < (v h 5).toNatClampNeg then v (h+7+k) i else 0
    rw [eh, h1 (h+7+k) (by omega)]
  · funext l
    show (if l < 4 then v' (h+13) l else 0) = if l < 4 then v (h+13) l else 0
    rw [h1 (h+13) (by omega)]
  · funext l
    show (if l < 4 then v' (h+14) l else 0) = if l < 4 then v (h+14) l else 0
    rw [h1 (h+14) (by omega)]
  · funext l
    show (if l < 10 then v' (h+15) l else 0) = if l < 10 then v (h+15) l else 0
    rw [h1 (h+15) (by omega)]

def pm (q a b k : Nat) : Nat := if 11 + 4 * b ≤ k ∧ k < 11 + 4 * b + q then k - 4 * b + 4 * a else if 11 + 4 * a ≤ k ∧ k < 11 + 4 * a + q then k - 4 * a + 4 * b else k
theorem m_exch {s s' : Nat → Int32} {a b : Nat} (ha : a < 25) (hb : b < 25) (hn : (s 1).toNatClampNeg ≤ 10) (ta : 0 ≤ s (11 + 4 * a)) (tb : 0 ≤ s (11 + 4 * b)) (e : ∀ k, k < 181 → s' k = s (pm 4 a b k)) : mT s' = exch (mT s) a b := by
  have eo : ∀ k, k < 181 → ¬ (11 ≤ k ∧ k < 111) → s' k = s k := fun k hk hc => by
    rw [e k hk]; unfold pm; rw [if_neg (by omega), if_neg (by omega)]
  have el : ∀ l r, l < 25 → r < 4 → s' (11 + 4 * l + r) = if l = b then s (11 + 4 * a + r) else if l = a then s (11 + 4 * b + r) else s (11 + 4 * l + r) := fun l r hl hr => by
    rw [e _ (by omega)]
    unfold pm
    by_cases x1 : l = b
    · subst x1; rw [if_pos (by omega), if_pos rfl, show 11 + 4 * l + r - 4 * l + 4 * a = 11 + 4 * a + r by omega]
    · by_cases x2 : l = a
      · subst x2; rw [if_neg (by omega), if_pos (by omega), if_neg x1, if_pos rfl, show 11 + 4 * l + r - 4 * l + 4 * b = 11 + 4 * b + r by omega]
      · rw [if_neg (by omega), if_neg (by omega), if_neg x1, if_neg x2]
  have e0 : ∀ l, l < 25 → s' (11 + 4 * l) = if l = b then s (11 + 4 * a) else if l = a then s (11 + 4 * b) else s (11 + 4 * l) := fun l hl => el l 0 hl (by omega)
  have i1 : ∀ l, 12 + 4 * l = 11 + 4 * l + 1 := fun l => by omega
  have i2 : ∀ l, 13 + 4 * l = 11 + 4 * l + 2 := fun l => by omega
  have i3 : ∀ l, 14 + 4 * l = 11 + 4 * l + 3 := fun l => by omega
  have n1 := eo 1 (by omega) (by omega)
  refine Tx ?_ ?_ ?_ ?_ ?_ ?_ ?_ ?_ n1 (eo 0 (by omega) (by omega)) (eo 2 (by omega) (by omega))
  · funext l
    show (if l < 25 then s' (11 + 4 * l) else -1) = (if l = b then (mT s).K a else if l = a then (mT s).K b else (mT s).K l)
    rw [mK ha, mK hb]
    by_cases hl : l < 25
    · rw [if_pos hl, e0 l hl, mK hl]
    · rw [if_neg hl, if_neg (by omega), if_neg (by omega)]; exact (if_neg hl).symm
  · funext l
    show (if l < 25 ∧ 0 ≤ s' (11 + 4 * l) then s' (12 + 4 * l) else 0) = (if l = b then (mT s).O a else if l = a then (mT s).O b else (mT s).O l)
    rw [mO ha ta, mO hb tb]
    by_cases hl : l < 25
    · rw [e0 l hl, i1 l, el l 1 hl (by omega), i1 a, i1 b]
      by_cases x1 : l = b
      · rw [if_pos x1, if_pos x1, if_pos x1, if_pos ⟨hl, ta⟩]
      · by_cases x2 : l = a
        · rw [if_neg x1, if_pos x2, if_neg x1, if_pos x2, if_neg x1, if_pos x2, if_pos ⟨hl, tb⟩]
        · rw [if_neg x1, if_neg x2, if_neg x1, if_neg x2, if_neg x1, if_neg x2, ← i1 l]; rfl
    · rw [if_neg (by simp [hl]), if_neg (by omega), if_neg (by omega)]; exact (if_neg (by simp [hl])).symm
  · funext l
    show (if l < 25 ∧ 0 ≤ s' (11 + 4 * l) then s' (13 + 4 * l) else 0) = (if l = b then (mT s).H a else if l = a then (mT s).H b else (mT s).H l)
    rw [mH ha ta, mH hb tb]
    by_cases hl : l < 25
    · rw [e0 l hl, i2 l, el l 2 hl (by omega), i2 a, i2 b]
      by_cases x1 : l = b
      · rw [if_pos x1, if_pos x1, if_pos x1, if_pos ⟨hl, ta⟩]
      · by_cases x2 : l = a
        · rw [if_neg x1, if_pos x2, if_neg x1, if_pos x2, if_neg x1, if_pos x2, if_pos ⟨hl, tb⟩]
        · rw [if_neg x1, if_neg x2, if_neg x1, if_neg x2, if_neg x1, if_neg x2, ← i2 l]; rfl
    · rw [if_neg (by simp [hl]), if_neg (by omega), if_neg (by omega)]; exact (if_neg (by simp [hl])).symm
  · funext l
    show (if l < 25 ∧ 0 ≤ s' (11 + 4 * l) then s' (14 + 4 * l) else 0) = (if l = b then (mT s).P a else if l = a then (mT s).P b else (mT s).P l)
    rw [mP ha ta, mP hb tb]
    by_cases hl : l < 25
    · rw [e0 l hl, i3 l, el l 3 hl (by omega), i3 a, i3 b]
      by_cases x1 : l = b
      · rw [if_pos x1, if_pos x1, if_pos x1, if_pos ⟨hl, ta⟩]
      · by_cases x2 : l = a
        · rw [if_neg x1, if_pos x2, if_neg x1, if_pos x2, if_neg x1, if_pos x2, if_pos ⟨hl, tb⟩]
        · rw [if_neg x1, if_neg x2, if_neg x1, if_neg x2, if_neg x1, if_neg x2, ← i3 l]; rfl
    · rw [if_neg (by simp [hl]), if_neg (by omega), if_neg (by omega)]; exact (if_neg (by simp [hl])).symm
  · funext k i
    show (if k < 6 ∧ i < (s' 1).toNatClampNeg then s' (111 + 6 * i + k) else 0) = if k < 6 ∧ i < (s 1).toNatClampNeg then s (111 + 6 * i + k) else 0
    rw [n1]
    by_cases hl : k < 6 ∧ i < (s 1).toNatClampNeg
    · rw [if_pos hl, if_pos hl, eo _ (by omega) (by omega)]
    · rw [if_neg hl, if_neg hl]
  · funext l
    show (if l < 4 then s' (3 + l) else 0) = if l < 4 then s (3 + l) else 0
    by_cases hl : l < 4
    · rw [if_pos hl, if_pos hl, eo _ (by omega) (by omega)]
    · rw [if_neg hl, if_neg hl]
  · funext l
    show (if l < 4 then s' (7 + l) else 0) = if l < 4 then s (7 + l) else 0
    by_cases hl : l < 4
    · rw [if_pos hl, if_pos hl, eo _ (by omega) (by omega)]
    · rw [if_neg hl, if_neg hl]
  · funext l
    show (if l < 10 then s' (171 + l) else 0) = if l < 10 then s (171 + l) else 0
    by_cases hl : l < 10
    · rw [if_pos hl, if_pos hl, eo _ (by omega) (by omega)]
    · rw [if_neg hl, if_neg hl]
theorem m_sw0 {a b x3 x4 : Int32} {w : jx_V} : ∀ d o f w1, o + d = 4 → (∀ c, c ≠ 7 → w1 c = w c) → (∀ q, q < o → w1 7 q = w 6 q) → ∃ w2, f_X5_swap_L (f+d+1) 0 a b x3 x4 (nI o) 0 w1 = (f_X5_puts w2).bind (fun v25 => f_X5_swap_L f 1 a b x3 x4 0 0 v25) ∧ (∀ c, c ≠ 7 → w2 c = w c) ∧ (∀ q, q < 4 → w2 7 q = w 6 q)
  | 0, o, f, w1, ho, h1, h2 => by
    refine ⟨w1, ?_, h1, fun q hq => h2 q (by omega)⟩
    rw [f_X5_swap_L, if_pos rfl, if_pos (by rw [← n4, pI_le (by omega) (by omega)]; omega)]
  | d + 1, o, f, w1, ho, h1, h2 => by
    obtain ⟨w2, e, g1, g2⟩ := m_sw0 (a := a) (b := b) (x3 := x3) (x4 := x4) (w := w) d (o+1) f (jx_up w1 7 o (w1 6 o)) (by omega) (fun c hc => by rw [jx_up_ne hc]; exact h1 c hc) (fun q hq => by
      rw [up_g]
      by_cases e : q = o
      · rw [if_pos ⟨rfl, e⟩, e, h1 6 (by omega)]
      · rw [if_neg (by omega)]; exact h2 q (by omega))
    refine ⟨w2, ?_, g1, g2⟩
    rw [show f + (d + 1) + 1 = (f + d + 1) + 1 by omega, f_X5_swap_L, if_pos rfl, if_neg (by rw [← n4, pI_le (by omega) (by omega)]; omega)]
    simp only [tn (show o < 2147483648 by omega), ib (show o < 4 by omega) (by omega), if_false, nI_add1]
    exact e
theorem m_sw1 {a b : Nat} {x3 x4 : Int32} {w : jx_V} (ha : a < 25) (hb : b < 25) (h3 : ∀ k, k < 181 → w 3 k = w 1 k) : ∀ d q f w1, q + d = 4 → (∀ c, c ≠ 1 → w1 c = w c) → (∀ k, k < 181 → w1 1 k = w 1 (pm q a b k)) → ∃ w2, f_X5_swap_L (f+d+1) 1 (nI a) (nI b) x3 x4 (nI q) 0 w1 = (f_X5_findGains w2).bind (fun (r29, v29) => (f_X5_putsBack v29).bind (fun v30 => f_X5_swap_L f 2 (nI a) (nI b) x3 r29 0 0 v30)) ∧ (∀ c, c ≠ 1 → w2 c = w c) ∧ (∀ k, k < 181 → w2 1 k = w 1 (pm 4 a b k))
  | 0, q, f, w1, hq, h1, h2 => by
    refine ⟨w1, ?_, h1, fun k hk => by rw [← show q = 4 by omega]; exact h2 k hk⟩
    rw [f_X5_swap_L, if_neg (by decide), if_pos rfl, if_pos (by rw [← n4, pI_le (by omega) (by omega)]; omega)]
  | d + 1, q, f, w1, hq, h1, h2 => by
    obtain ⟨w2, e, g1, g2⟩ := m_sw1 (x3 := x3) (x4 := x4) (w := w) ha hb h3 d (q+1) f (jx_up (jx_up w1 1 (11+4*a+q) (w1 3 (11+4*b+q))) 1 (11+4*b+q) ((jx_up w1 1 (11+4*a+q) (w1 3 (11+4*b+q))) 3 (11+4*a+q))) (by omega) (fun c hc => by rw [jx_up_ne hc, jx_up_ne hc]; exact h1 c hc) (fun k hk => by
      rw [jx_up_ne (show 3 ≠ 1 by omega), up_g, up_g, h1 3 (by omega)]
      unfold pm
      by_cases x1 : k = 11 + 4 * b + q
      · rw [if_pos ⟨rfl, x1⟩, if_pos (by omega), h3 _ (by omega), x1, show 11 + 4 * b + q - 4 * b + 4 * a = 11 + 4 * a + q by omega]
      · by_cases x2 : k = 11 + 4 * a + q
        · rw [if_neg (by omega), if_pos ⟨rfl, x2⟩, if_neg (by omega), if_pos (by omega), h3 _ (by omega), x2, show 11 + 4 * a + q - 4 * a + 4 * b = 11 + 4 * b + q by omega]
        · rw [if_neg (by omega), if_neg (by omega), h2 k hk]
          unfold pm
          by_cases x3 : 11 + 4 * b ≤ k ∧ k < 11 + 4 * b + q
          · rw [if_pos x3, if_pos (by omega)]
          · rw [if_neg x3, if_neg (show ¬ (11 + 4 * b ≤ k ∧ k < 11 + 4 * b + (q + 1)) by omega)]
            by_cases x4 : 11 + 4 * a ≤ k ∧ k < 11 + 4 * a + q
            · rw [if_pos x4, if_pos (by omega)]
            · rw [if_neg x4, if_neg (show ¬ (11 + 4 * a ≤ k ∧ k < 11 + 4 * a + (q + 1)) by omega)])
    refine ⟨w2, ?_, g1, g2⟩
    rw [show f + (d + 1) + 1 = (f + d + 1) + 1 by omega, f_X5_swap_L, if_neg (by decide), if_pos rfl, if_neg (by rw [← n4, pI_le (by omega) (by omega)]; omega)]
    simp only [f_X5_at, at_n, Option.bind_some, tn (show 11 + 4 * a + q < 2147483648 by omega), ib (show 11 + 4 * a + q < 181 by omega) (by omega), tn (show 11 + 4 * b + q < 2147483648 by omega), ib (show 11 + 4 * b + q < 181 by omega) (by omega), if_false, nI_add1]
    exact e
theorem cmp_L {v w : jx_V} {a b a' b' x3 x4 : Int32} (hg : ∀ o, o < 4 → v 65 o = w 6 o) (hh : ∀ o, o < 4 → v 64 o = w 7 o) : ∀ d o f f' n, o + d = 4 → d < f → d < f' → ∃ r, f_X4_swap_L f a b n (nI o) v = some (r, v) ∧ f_X5_swap_L f' 2 a' b' x3 x4 n (nI o) w = some (r, w) := by
  intro d
  induction d with
  | zero =>
    intro o f f' n ho hf hf'
    obtain ⟨f, rfl⟩ : ∃ q, f = q + 1 := ⟨f - 1, by omega⟩
    obtain ⟨f', rfl⟩ : ∃ q, f' = q + 1 := ⟨f' - 1, by omega⟩
    refine ⟨n, ?_, ?_⟩
    · rw [f_X4_swap_L, if_pos (by rw [← n4, pI_le (by omega) (by omega)]; omega)]
    · rw [f_X5_swap_L, if_neg (by decide), if_neg (by decide), if_pos rfl, if_pos (by rw [← n4, pI_le (by omega) (by omega)]; omega)]
  | succ d ih =>
    intro o f f' n ho hf hf'
    obtain ⟨f, rfl⟩ : ∃ q, f = q + 1 := ⟨f - 1, by omega⟩
    obtain ⟨f', rfl⟩ : ∃ q, f' = q + 1 := ⟨f' - 1, by omega⟩
    rw [f_X4_swap_L, if_neg (by rw [← n4, pI_le (by omega) (by omega)]; omega), f_X5_swap_L, if_neg (show ¬ (2 : Nat) = 0 by decide), if_neg (show ¬ (2 : Nat) = 1 by decide), if_pos (show (2 : Nat) = 2 from rfl), if_neg (show ¬ (4 : Int32) ≤ nI o by rw [← n4, pI_le (by omega) (by omega)]; omega)]
    have j : ∀ x y, f_J6_compare_7cf53 x y v = some (if y ≤ x then (if x = y then 0 else 1) else -1, v) := by
      intro x y; unfold f_J6_compare_7cf53; grind
    simp only [tn (show o < 2147483648 by omega), ib (show o < 4 by omega) (by omega), if_false, nI_add1, j, Option.bind_some, hg o (by omega), hh o (by omega)]
    by_cases c1 : w 6 o ≤ w 7 o
    · rw [if_pos c1]
      by_cases c2 : w 7 o ≤ w 6 o
      · rw [if_pos c2, if_pos c2, if_pos (show w 6 o = w 7 o by grind)]
        exact ih (o+1) f f' (n+0) (by omega) (by omega) (by omega)
      · rw [if_neg c2, if_neg c2]
        exact ih (o+1) f f' (n+(-1)) (by omega) (by omega) (by omega)
    · rw [if_neg c1, if_pos (show w 7 o ≤ w 6 o by grind), if_neg (show ¬ w 6 o = w 7 o by grind)]
      exact ih (o+1) f f' (n+1) (by omega) (by omega) (by omega)

theorem q_swap {v w a b} (h : R v w) : Q (f_X4_swap a b v) (f_X5_swap a b w) := by
  unfold f_X4_swap f_X5_swap
  generalize hG4 : f_X4_swap_L 100000 = g4
  generalize hG5 : f_X5_swap_L 100000 = g5
  simp only [x_w25, m_isLot, Option.bind_some, x_f0, m_f0]
  by_cases c1 : 0 ≤ a ∧ a ≤ 24
  · by_cases c2 : 0 ≤ b ∧ b ≤ 24
    · obtain ⟨i, hi, rfl⟩ := ix (n := 24) rfl (by omega) c1
      obtain ⟨j, hj, rfl⟩ := ix (n := 24) rfl (by omega) c2
      simp only [if_pos c1, if_pos c2, o10, if_false, x_taken hi, x_taken hj, m_thing hi, m_thing hj, Option.bind_some, Nat.reduceAdd, tk h hi, tk h hj, x_f3, m_f3]
      by_cases ta : w 1 (11 + 4 * i) < 0
      · simp only [if_pos ta, z00, if_true, b40, if_false]; exact Q_f h
      · by_cases tb : w 1 (11 + 4 * j) < 0
        · simp only [if_neg ta, if_pos tb, z00, o10, if_true, b40, if_false]; exact Q_f h
        · simp only [if_neg ta, if_neg tb, z00, o10, if_true, if_false]
          have ta' := Int32.not_lt.mp ta
          have tb' := Int32.not_lt.mp tb
          obtain ⟨M, hM, eM, eM2⟩ := mn h.ok'
          obtain ⟨v1, e1, g1, hg1⟩ := x_gains (h := 1) (r := 64) (by omega) (by omega) h.ok
          obtain ⟨w1, d1, f1, hf1⟩ := m_gains h.ok'
          have r1 := R_fr h (GR_SX (by omega) g1) (FM_SM f1)
          have k1 : w1 1 = w 1 := FM_1 f1
          have ta1 : 0 ≤ v1 (1 + 3) i := by show 0 ≤ v1 4 i; rw [tk r1 hi, k1]; exact ta'
          have tb1 : 0 ≤ v1 (1 + 3) j := by show 0 ≤ v1 4 j; rw [tk r1 hj, k1]; exact tb'
          obtain ⟨v2, e2, h2a, h2b⟩ := x_exch (h := 1) (v := v1) hi hj
          have t2 : cT 1 v2 = exch (cT 1 v1) i j := c_exch hi hj ta1 tb1 h2a h2b
          obtain ⟨v3, e3, g3, hg3⟩ := x_gains (h := 1) (r := 65) (v := v2) (by omega) (by omega) (by rw [t2]; exact OK_exch r1.ok)
          obtain ⟨v4, e4, h4a, h4b⟩ := x_exch (h := 1) (v := v3) hi hj
          obtain ⟨w2, d2, a2, b2⟩ := m_sw0 (a := nI i) (b := nI j) (x3 := 0) (x4 := rs (mT (w 1))) (w := w1) 4 0 99995 w1 (by omega) (fun _ _ => rfl) (fun q hq => by omega)
          obtain ⟨w3, d3, p3⟩ := m_puts (w := w2)
          have k3 : w3 1 = w 1 := by rw [p3.1 1 (by omega), a2 1 (by omega), k1]
          obtain ⟨w4, d4, a4, b4⟩ := m_sw1 (a := i) (b := j) (x3 := 0) (x4 := rs (mT (w 1))) (w := w3) hi hj (fun k hk => by rw [p3.2 k hk, p3.1 1 (by omega)]) 4 0 99990 w3 (by omega) (fun _ _ => rfl) (fun k hk => by unfold pm; rw [if_neg (by omega), if_neg (by omega)])
          have t4 : mT (w4 1) = exch (mT (w 1)) i j := by
            rw [← k3]
            exact m_exch hi hj (by rw [k3]; omega) (by rw [k3]; exact ta') (by rw [k3]; exact tb') b4
          obtain ⟨w5, d5, f5, hf5⟩ := m_gains (w := w4) (by rw [t4]; exact OK_exch h.ok')
          obtain ⟨w6, d6, p6⟩ := m_back (w := w5)
          -- its rows
          have sx : SX v v4 := by
            refine SX_t (GR_SX (by omega) g1) ⟨fun c hc => ?_, ?_⟩
            · by_cases x : c < 1 + 3 ∨ 1 + 7 ≤ c
              · rw [h4a c x, g3 c (by omega) (by omega), h2a c x]
              · obtain ⟨r, hr, rfl⟩ : ∃ r, r < 4 ∧ c = 1 + 3 + r := ⟨c - 4, by omega, by omega⟩
                rw [h4b r hr, g3 (1 + 3 + r) (by omega) (by omega), h2b r hr, sw_sw]
            · rw [h4a 53 (by omega), g3 53 (by omega) (by omega), h2a 53 (by omega)]
          have e6 : mT (w6 1) = cT 1 v := by
            rw [h.t]
            exact mT_eq (fun k hk => by rw [p6.2 k hk, f5.1 3 (by omega) (by omega) (by omega), a4 3 (by omega), p3.2 k hk, a2 1 (by omega), k1]) (by omega)
          have c6 : ∀ c, (c = 2 ∨ (8 ≤ c ∧ c < 12)) → w6 c = w c := fun c hc => by
            rw [p6.1 c (by omega), f5.1 c (by omega) (by omega) (by omega), a4 c (by omega), p3.1 c (by omega), a2 c (by omega), f1.1 c (by omega) (by omega) (by omega)]
          have c0 : ∀ q, q ≠ 6 → q ≠ 7 → q ≠ 8 → w6 0 q = w 0 q := fun q q6 q7 q8 => by
            rw [p6.1 0 (by omega), f5.2 q q6 q7 q8, a4 0 (by omega), p3.1 0 (by omega), a2 0 (by omega), f1.2 q q6 q7 q8]
          have r6 : R v4 w6 := R_town h (T := cT 1 v) (fun c hc => sx.1 c (by omega)) sx.2 c6 (c0 4 (by omega) (by omega) (by omega)) (c0 12 (by omega) (by omega) (by omega)) (SX_c (by omega) sx) e6 h.ok
          have et : exch (cT 1 v1) i j = exch (mT (w 1)) i j := by rw [r1.t, k1]
          have hg : ∀ o, o < 4 → v4 65 o = w6 6 o := fun o ho => by
            rw [h4a 65 (by omega), hg3 o ho, t2, et, p6.1 6 (by omega), hf5 o ho, t4]
          have hh : ∀ o, o < 4 → v4 64 o = w6 7 o := fun o ho => by
            rw [h4a 64 (by omega), g3 64 (by omega) (by omega), h2a 64 (by omega), hg1 o ho, h.t, p6.1 7 (by omega), f5.1 7 (by omega) (by omega) (by omega), a4 7 (by omega), p3.1 7 (by omega), b2 o ho, hf1 o ho]
          rw [d3, Option.bind_some] at d2
          rw [d5, Option.bind_some] at d4
          dsimp only at d2 d4
          rw [d6, Option.bind_some] at d4
          obtain ⟨r, x1, x2⟩ := cmp_L (v := v4) (w := w6) (a := nI i) (b := nI j) (a' := nI i) (b' := nI j) (x3 := 0) (x4 := rs (mT (w4 1))) hg hh 4 0 100000 99990 0 (by omega) (by omega) (by omega)
          simp only [e1, e2, e3, e4, Option.bind_some]
          rw [d1, Option.bind_some]
          dsimp only
          subst hG4 hG5
          exact ⟨r, v4, w6, x1, d2.trans (d4.trans x2), r6⟩
    · simp only [if_pos c1, if_neg c2, o10, z00, if_true, if_false, b10]; exact Q_f h
  · simp only [if_neg c1, z00, if_true, b10, if_false]; exact Q_f h
