def co (T : Tn) : Tn := (T.K, T.O, T.H, T.P, T.W, T.C, fun _ => 0, T.S, T.n, T.m, T.z)
theorem lt_co {T i} : ∀ k, lt (co T) i k = lt T i k
  | 0 => rfl
  | k + 1 => by show nl (lt (co T) i k) (T.W 2 i) = nl (lt T i k) (T.W 2 i); rw [lt_co k]
theorem ln_co {T i k} : ln (co T) i k = ln T i k := by unfold ln; rw [lt_co]; rfl
theorem tp_co {T i k} : tp (co T) i k = tp T i k := by unfold tp; rw [ln_co]; rfl
theorem lws_co {T i k} : ∀ c, lws (co T) i k c = lws T i k c
  | 0 => rfl
  | c + 1 => by rw [lws, lws, ln_co, tp_co, lws_co c]; rfl
theorem lw_co {T i k} : lw (co T) i k = lw T i k := by unfold lw; rw [ln_co, lws_co]
theorem sq_co {T i k} : sq (co T) i k = sq T i k := by unfold sq; rw [tp_co, lw_co]
theorem ow_co {T i k} : ow (co T) i k = ow T i k := by unfold ow; rw [ln_co]; rfl
theorem pt_co {T i k} : pt (co T) i k = pt T i k := by unfold pt; rw [ln_co, ow_co, sq_co]; rfl
theorem rn_co {T i} : rn (co T) i = rn T i := by unfold rn; rw [pt_co, pt_co, pt_co, pt_co]
theorem gp_co {T i k o} : gp (co T) i k o = gp T i k o := by unfold gp; rw [ln_co, ow_co, pt_co]; rfl
theorem gw_co {T i o} : gw (co T) i o = gw T i o := by unfold gw; rw [gp_co, gp_co, gp_co, gp_co, rn_co]; rfl
theorem sh1_co {T i o k a} : sh1 (co T) i o k a = sh1 T i o k a := by unfold sh1; rw [ln_co, ow_co, sq_co]
theorem shr_co {T i o} : shr (co T) i o = shr T i o := by unfold shr; simp only [sh1_co]
theorem al_co {T i} : al (co T) i = al T i := by unfold al; simp only [sq_co]
theorem OK_co {T} : OK (co T) ↔ OK T := ⟨fun h => OK.mk h.k h.o h.h h.p h.w0 h.w1 h.w2 h.w3 h.w4 h.n h.s, fun h => OK.mk h.k h.o h.h h.p h.w0 h.w1 h.w2 h.w3 h.w4 h.n h.s⟩
theorem cT_co {h r : Nat} {v v1 : jx_V} (hh : h + 15 < 50) (hr : Rw h r) (g : GR r v v1) : co (cT h v1) = co (cT h v) := by
  have hs : v1 (h + 15) = v (h + 15) := g _ (by omega) (by rcases hr with e | e <;> omega)
  have e0 : v1 h = v h := GRk hh hr g 0 (by omega)
  unfold cT
  rw [GRk hh hr g 3 (by omega), GRk hh hr g 4 (by omega), GRk hh hr g 5 (by omega), GRk hh hr g 6 (by omega), GRk hh hr g 13 (by omega), hs, e0]
  refine Tx rfl rfl rfl rfl ?_ rfl rfl rfl rfl rfl rfl
  funext a i
  show (if a < 6 ∧ _ then v1 (h+7+a) i else 0) = if a < 6 ∧ _ then v (h+7+a) i else 0
  by_cases ha : a < 6
  · have := GRk hh hr g (7 + a) (by omega)
    rw [← Nat.add_assoc] at this
    simp only [ha, true_and, this]
  · simp [ha]
theorem x_pay' {h i r : Nat} {v v1 : jx_V} (hh : h + 15 < 50) (hr : Rw h r) (g : GR r v v1) (hT : OK (cT h v)) (hi : i < (v h 5).toNatClampNeg) :
    ∃ v', f_X0_pay h (nI i) r v1 = some (rn (cT h v) i, v') ∧ GR r v v' ∧ ∀ o, o < 4 → v' r o = v1 r o + gw (cT h v) i o := by
  have e := cT_co hh hr g
  have hT1 : OK (cT h v1) := by rw [← OK_co, e, OK_co]; exact hT
  obtain ⟨v', e1, g1, h1⟩ := x_pay hh hr hT1 (i := i) (by rw [show v1 h = v h from GRk hh hr g 0 (by omega)]; exact hi)
  refine ⟨v', ?_, fun c a b => (g1 c a b).trans (g c a b), ?_⟩
  · rw [e1, ← rn_co, e, rn_co]
  · intro o ho; rw [h1 o ho, ← gw_co, e, gw_co]
def rsum (T : Tn) : Nat → Int32
  | 0 => 0
  | i + 1 => rsum T i + rn T i
def gsum (T : Tn) (o : Nat) : Nat → Int32
  | 0 => 0
  | i + 1 => gsum T o i + gw T i o
def nw (T : Tn) : Nat := T.n.toNatClampNeg
def rs (T : Tn) : Int32 := rsum T (nw T)
def gs (T : Tn) (o : Nat) : Int32 := gsum T o (nw T)
theorem nwc {h v} : nw (cT h v) = (v h 5).toNatClampNeg := rfl
theorem x_gains_L {h r : Nat} {v : jx_V} (hh : h + 15 < 50) (hr : Rw h r) (hT : OK (cT h v)) :
    ∀ d i f v1, i + d = nw (cT h v) → d < f → GR r v v1 → (∀ o, o < 4 → v1 r o = gsum (cT h v) o i) →
    ∃ v', f_X0_gainsInto_L h r f 1 (rsum (cT h v) i) (nI i) v1 = some (rs (cT h v), v') ∧ GR r v v' ∧ ∀ o, o < 4 → v' r o = gs (cT h v) o := by
  obtain ⟨N, hN, eN, eN2⟩ := cn hT
  rw [nwc, eN2]
  intro d
  induction d with
  | zero =>
    intro i f v1 hi hf g hv
    obtain ⟨f, rfl⟩ : ∃ q, f = q + 1 := ⟨f - 1, by omega⟩
    refine ⟨v1, ?_, g, ?_⟩
    · rw [f_X0_gainsInto_L, if_neg (by decide), if_pos rfl, if_pos (by rw [show v1 h = v h from GRk hh hr g 0 (by omega), eN, pI_le (by omega) (by omega)]; omega)]
      unfold rs; rw [nwc, eN2, show i = N by omega]
    · intro o ho; unfold gs; rw [hv o ho, nwc, eN2, show i = N by omega]
  | succ d ih =>
    intro i f v1 hi hf g hv
    obtain ⟨f, rfl⟩ : ∃ q, f = q + 1 := ⟨f - 1, by omega⟩
    obtain ⟨v2, e, g2, h2⟩ := x_pay' (i := i) hh hr g hT (by omega)
    obtain ⟨v', e', g', h'⟩ := ih (i+1) f v2 (by omega) (by omega) g2 (fun o ho => by rw [h2 o ho, hv o ho]; rfl)
    refine ⟨v', ?_, g', h'⟩
    rw [f_X0_gainsInto_L, if_neg (by decide), if_pos rfl, if_neg (by rw [show v1 h = v h from GRk hh hr g 0 (by omega), eN, pI_le (by omega) (by omega)]; omega), e]
    simp only [Option.bind_some, nI_add1]
    exact e'
theorem x_gains {h r : Nat} {v : jx_V} (hh : h + 15 < 50) (hr : 63 < r ∧ r < 67) (hT : OK (cT h v)) :
    ∃ v', f_X0_gainsInto h r v = some (rs (cT h v), v') ∧ GR r v v' ∧ ∀ o, o < 4 → v' r o = gs (cT h v) o := by
  obtain ⟨N, hN, eN, eN2⟩ := cn hT
  obtain ⟨v', e, g, hv⟩ := x_gains_L (r := r) hh (Or.inr hr) hT N 0 99995 (jx_up (jx_up (jx_up (jx_up v r 0 0) r 1 0) r 2 0) r 3 0) (by rw [nwc, eN2]; omega) (by omega)
    (fun c _ hc => by rw [jx_up_ne hc, jx_up_ne hc, jx_up_ne hc, jx_up_ne hc])
    (fun o ho => by
      simp only [up_g]
      have : o = 0 ∨ o = 1 ∨ o = 2 ∨ o = 3 := by omega
      rcases this with rfl | rfl | rfl | rfl <;> simp [gsum])
  refine ⟨v', ?_, g, hv⟩
  unfold f_X0_gainsInto
  show f_X0_gainsInto_L h r (99999+1) 0 0 0 v = _
  rw [f_X0_gainsInto_L, if_pos rfl, if_neg (by decide), if_neg (by decide)]
  show f_X0_gainsInto_L h r (99998+1) 0 1 0 _ = _
  rw [f_X0_gainsInto_L, if_pos rfl, if_neg (by decide), if_neg (by decide)]
  show f_X0_gainsInto_L h r (99997+1) 0 2 0 _ = _
  rw [f_X0_gainsInto_L, if_pos rfl, if_neg (by decide), if_neg (by decide)]
  show f_X0_gainsInto_L h r (99996+1) 0 3 0 _ = _
  rw [f_X0_gainsInto_L, if_pos rfl, if_neg (by decide), if_neg (by decide)]
  show f_X0_gainsInto_L h r (99995+1) 0 4 0 _ = _
  rw [f_X0_gainsInto_L, if_pos rfl, if_pos (by decide)]
  exact e
theorem x_payAll_L {h : Nat} {v : jx_V} (hh : h + 15 < 50) (hT : OK (cT h v)) :
    ∀ d i f v1, i + d = nw (cT h v) → d < f → GR (h+14) v v1 → (∀ o, o < 4 → v1 (h+14) o = v (h+14) o + gsum (cT h v) o i) →
    ∃ v', f_X0_payAll_L h f (rsum (cT h v) i) (nI i) v1 = some (rs (cT h v), v') ∧ GR (h+14) v v' ∧ ∀ o, o < 4 → v' (h+14) o = v (h+14) o + gs (cT h v) o := by
  obtain ⟨N, hN, eN, eN2⟩ := cn hT
  have hr : Rw h (h+14) := Or.inl rfl
  rw [nwc, eN2]
  intro d
  induction d with
  | zero =>
    intro i f v1 hi hf g hv
    obtain ⟨f, rfl⟩ : ∃ q, f = q + 1 := ⟨f - 1, by omega⟩
    refine ⟨v1, ?_, g, ?_⟩
    · rw [f_X0_payAll_L, if_pos (by rw [show v1 h = v h from GRk hh hr g 0 (by omega), eN, pI_le (by omega) (by omega)]; omega)]
      unfold rs; rw [nwc, eN2, show i = N by omega]
    · intro o ho; unfold gs; rw [hv o ho, nwc, eN2, show i = N by omega]
  | succ d ih =>
    intro i f v1 hi hf g hv
    obtain ⟨f, rfl⟩ : ∃ q, f = q + 1 := ⟨f - 1, by omega⟩
    obtain ⟨v2, e, g2, h2⟩ := x_pay' (i := i) hh hr g hT (by omega)
    obtain ⟨v', e', g', h'⟩ := ih (i+1) f v2 (by omega) (by omega) g2 (fun o ho => by rw [h2 o ho, hv o ho]; show _ = _ + (gsum _ _ _ + _); rw [Int32.add_assoc])
    refine ⟨v', ?_, g', h'⟩
    rw [f_X0_payAll_L, if_neg (by rw [show v1 h = v h from GRk hh hr g 0 (by omega), eN, pI_le (by omega) (by omega)]; omega), e]
    simp only [Option.bind_some, nI_add1]
    exact e'
def paid (T : Tn) : Tn := (T.K, T.O, T.H, T.P, T.W, T.C, fun o => if o < 4 then T.U o + gs T o else 0, T.S, T.n, T.m, T.z)
theorem co_eq {A B : Tn} {u : Nat → Int32} (e : co A = co B) (hu : A.U = u) : A = ((B.K, B.O, B.H, B.P, B.W, B.C, u, B.S, B.n, B.m, B.z) : Tn) := by
  have k := fun (α : Type) (f : Tn → α) => congrArg f e
  exact Tx (k _ Tn.K) (k _ Tn.O) (k _ Tn.H) (k _ Tn.P) (k _ Tn.W) (k _ Tn.C) hu (k _ Tn.S) (k _ Tn.n) (k _ Tn.m) (k _ Tn.z)
theorem x_payAll {h : Nat} {v : jx_V} (hh : h + 15 < 50) (hT : OK (cT h v)) :
    ∃ v', f_X0_payAll h v = some (rs (cT h v), v') ∧ GR (h+14) v v' ∧ cT h v' = paid (cT h v) := by
  obtain ⟨N, hN, eN, eN2⟩ := cn hT
  have hr : Rw h (h+14) := Or.inl rfl
  obtain ⟨v', e, g, hv⟩ := x_payAll_L hh hT N 0 100000 v (by rw [nwc, eN2]; omega) (by omega) (fun _ _ _ => rfl) (fun o _ => by simp [gsum])
  refine ⟨v', e, g, ?_⟩
  have ec := cT_co hh hr g
  refine co_eq ec ?_
  funext o
  show (if o < 4 then v' (h+14) o else 0) = if o < 4 then (if o < 4 then v (h+14) o else 0) + gs (cT h v) o else 0
  by_cases ho : o < 4
  · simp [ho, hv o ho]
  · simp [ho]
-- broken
def br (T : Tn) (i : Nat) : Bool := decide (0 ≤ T.W 4 i ∧ shr T i (T.W 4 i) < T.W 5 i)
theorem x_broken {h i : Nat} {v : jx_V} (hh : h + 15 < 50) (hT : OK (cT h v)) (hi : i < (v h 5).toNatClampNeg) :
    ∃ v', f_X0_isBroken h (nI i) v = some (if br (cT h v) i then 1 else 0, v') ∧ G v v' := by
  obtain ⟨N, hN, eN, eN2⟩ := cn hT
  unfold f_X0_isBroken br
  simp only [tn (show i < 2147483648 by omega), ib (show i < 10 by omega) (by omega), if_false, show v (h + 11) i = (cT h v).W 4 i from (cW (a := 4) (by omega) hi).symm]
  by_cases c : 0 ≤ (cT h v).W 4 i
  · obtain ⟨v', e, g⟩ := x_share (o := (cT h v).W 4 i) hh hT hi
    refine ⟨v', ?_, g⟩
    rw [if_neg (Int32.not_lt.mpr c), e]
    simp only [Option.bind_some, c, true_and, g (h+12) (by omega), show v (h + 12) i = (cT h v).W 5 i from (cW (a := 5) (by omega) hi).symm]
    grind
  · exact ⟨v, by rw [if_pos (Int32.not_le.mp c)]; simp [c], fun _ _ => rfl⟩
def bset (T : Tn) : Nat → Int32
  | 0 => 0
  | i + 1 => if br T i then bset T i ||| (1 <<< (nI i &&& 31)) else bset T i
def bs (T : Tn) : Int32 := bset T (nw T)
theorem G_tr {u v w : jx_V} (h1 : G u v) (h2 : G v w) : G u w := fun c hc => (h2 c hc).trans (h1 c hc)
theorem x_bset {h : Nat} {v : jx_V} (hh : h + 15 < 50) (hT : OK (cT h v)) :
    ∃ v', f_X0_brokenSet h v = some (bs (cT h v), v') ∧ G v v' := by
  obtain ⟨N, hN, eN, eN2⟩ := cn hT
  have : ∀ d i f v1, i + d = N → d < f → G v v1 → ∃ v', f_X0_brokenSet_L h f (bset (cT h v) i) (nI i) v1 = some (bs (cT h v), v') ∧ G v v' := by
    intro d
    induction d with
    | zero =>
      intro i f v1 hi hf g
      obtain ⟨f, rfl⟩ : ∃ q, f = q + 1 := ⟨f - 1, by omega⟩
      refine ⟨v1, ?_, g⟩
      rw [f_X0_brokenSet_L, if_pos (by rw [g h (by omega), eN, pI_le (by omega) (by omega)]; omega)]
      unfold bs; rw [nwc, eN2, show i = N by omega]
    | succ d ih =>
      intro i f v1 hi hf g
      obtain ⟨f, rfl⟩ : ∃ q, f = q + 1 := ⟨f - 1, by omega⟩
      obtain ⟨v2, e, g2⟩ := x_broken (i := i) (v := v1) hh (by rw [Gc hh g]; exact hT) (by rw [g h (by omega)]; omega)
      rw [Gc hh g] at e
      obtain ⟨v', e', g'⟩ := ih (i+1) f v2 (by omega) (by omega) (G_tr g g2)
      refine ⟨v', ?_, g'⟩
      rw [f_X0_brokenSet_L, if_neg (by rw [g h (by omega), eN, pI_le (by omega) (by omega)]; omega), e]
      simp only [Option.bind_some, nI_add1]
      rw [bset] at e'
      cases c : br (cT h v) i
      · rw [c] at e'; exact e'
      · rw [c] at e'; exact e'
  exact this N 0 100000 v (by omega) (by omega) (fun _ _ => rfl)
def alls (T : Tn) : Nat → Int32
  | 0 => 0
  | i + 1 => alls T i + al T i
theorem x_alls {h : Nat} {v : jx_V} (hh : h + 15 < 50) (hT : OK (cT h v)) :
    ∃ v', f_X0_squaresInAllViews h v = some (alls (cT h v) (nw (cT h v)), v') ∧ G v v' := by
  obtain ⟨N, hN, eN, eN2⟩ := cn hT
  have : ∀ d i f v1, i + d = N → d < f → G v v1 → ∃ v', f_X0_squaresInAllViews_L h f (alls (cT h v) i) (nI i) v1 = some (alls (cT h v) (nw (cT h v)), v') ∧ G v v' := by
    intro d
    induction d with
    | zero =>
      intro i f v1 hi hf g
      obtain ⟨f, rfl⟩ : ∃ q, f = q + 1 := ⟨f - 1, by omega⟩
      refine ⟨v1, ?_, g⟩
      rw [f_X0_squaresInAllViews_L, if_pos (by rw [g h (by omega), eN, pI_le (by omega) (by omega)]; omega)]
      rw [nwc, eN2, show i = N by omega]
    | succ d ih =>
      intro i f v1 hi hf g
      obtain ⟨f, rfl⟩ : ∃ q, f = q + 1 := ⟨f - 1, by omega⟩
      obtain ⟨v2, e, g2⟩ := x_view (i := i) (v := v1) hh (by rw [Gc hh g]; exact hT) (by rw [g h (by omega)]; omega)
      rw [Gc hh g] at e
      obtain ⟨v', e', g'⟩ := ih (i+1) f v2 (by omega) (by omega) (G_tr g g2)
      refine ⟨v', ?_, g'⟩
      rw [f_X0_squaresInAllViews_L, if_neg (by rw [g h (by omega), eN, pI_le (by omega) (by omega)]; omega), e]
      simp only [Option.bind_some, nI_add1]
      exact e'
  exact this N 0 100000 v (by omega) (by omega) (fun _ _ => rfl)
