def FM (w w' : jx_V) : Prop := (∀ c, c ≠ 0 → c ≠ 5 → c ≠ 6 → w' c = w c) ∧ ∀ i, i ≠ 6 → i ≠ 7 → i ≠ 8 → w' 0 i = w 0 i
theorem FM_r {w} : FM w w := ⟨fun _ _ _ _ => rfl, fun _ _ _ _ => rfl⟩
theorem FM_t {u v w} (a : FM u v) (b : FM v w) : FM u w := ⟨fun c x y z => (b.1 c x y z).trans (a.1 c x y z), fun c x y z => (b.2 c x y z).trans (a.2 c x y z)⟩
theorem FM_u0 {w w' : jx_V} {i x} (a : FM w w') (h : i = 6 ∨ i = 7 ∨ i = 8) : FM w (jx_up w' 0 i x) :=
  ⟨fun c hc h5 h6 => by rw [jx_up_ne hc]; exact a.1 c hc h5 h6, fun j h1 h2 h3 => by rw [up_g, if_neg (by omega)]; exact a.2 j h1 h2 h3⟩
theorem FM_u5 {w w' : jx_V} {i x} (a : FM w w') : FM w (jx_up w' 5 i x) :=
  ⟨fun c hc h5 h6 => by rw [jx_up_ne h5]; exact a.1 c hc h5 h6, fun j h1 h2 h3 => by rw [up_g, if_neg (by omega)]; exact a.2 j h1 h2 h3⟩
theorem FM_u6 {w w' : jx_V} {i x} (a : FM w w') : FM w (jx_up w' 6 i x) :=
  ⟨fun c hc h5 h6 => by rw [jx_up_ne h6]; exact a.1 c hc h5 h6, fun j h1 h2 h3 => by rw [up_g, if_neg (by omega)]; exact a.2 j h1 h2 h3⟩
theorem FM_1 {w w' : jx_V} (a : FM w w') : w' 1 = w 1 := a.1 1 (by decide) (by decide) (by decide)
abbrev LSp (w w1 : jx_V) (A5 A6 : Nat → Int32) (a6 a7 a8 : Int32) : Prop := FM w w1 ∧ (∀ o, o < 4 → w1 5 o = A5 o) ∧ (∀ o, o < 4 → w1 6 o = w 6 o + A6 o) ∧ w1 0 6 = a6 ∧ w1 0 7 = a7 ∧ w1 0 8 = a8
theorem LSp.f {w w1 : jx_V} {A5 A6 : Nat → Int32} {a6 a7 a8 : Int32} (p : LSp w w1 A5 A6 a6 a7 a8) : FM w w1 := p.1
theorem LSp.s {w w1 : jx_V} {A5 A6 : Nat → Int32} {a6 a7 a8 : Int32} (p : LSp w w1 A5 A6 a6 a7 a8) : ∀ o, o < 4 → w1 5 o = A5 o := p.2.1
theorem LSp.g {w w1 : jx_V} {A5 A6 : Nat → Int32} {a6 a7 a8 : Int32} (p : LSp w w1 A5 A6 a6 a7 a8) : ∀ o, o < 4 → w1 6 o = w 6 o + A6 o := p.2.2.1
theorem LSp.a {w w1 : jx_V} {A5 A6 : Nat → Int32} {a6 a7 a8 : Int32} (p : LSp w w1 A5 A6 a6 a7 a8) : w1 0 6 = a6 := p.2.2.2.1
theorem LSp.r {w w1 : jx_V} {A5 A6 : Nat → Int32} {a6 a7 a8 : Int32} (p : LSp w w1 A5 A6 a6 a7 a8) : w1 0 7 = a7 := p.2.2.2.2.1
theorem LSp.l {w w1 : jx_V} {A5 A6 : Nat → Int32} {a6 a7 a8 : Int32} (p : LSp w w1 A5 A6 a6 a7 a8) : w1 0 8 = a8 := p.2.2.2.2.2
theorem m_looks_s {i k f : Nat} {w w1 : jx_V} {A5 A6 : Nat → Int32} {a6 a7 a8 : Int32} (hT : OK (mT (w 1))) (hi : i < (w 1 1).toNatClampNeg) (p : LSp w w1 A5 A6 a6 a7 a8) (h1 : 1 ≤ k) (h2 : k < 5) :
    ∃ w2, f_X5_looks_L (f+1) 1 (nI i) ((mT (w 1)).W 3 i) (nI k) w1 = f_X5_looks_L f 1 (nI i) ((mT (w 1)).W 3 i) (nI (k+1)) w2 ∧
      LSp w w2 (fun o => sh1 (mT (w 1)) i (nI o) k (A5 o)) (fun o => A6 o + gp (mT (w 1)) i k o - (if (mT (w 1)).W 3 i = nI o then pt (mT (w 1)) i k else 0)) (a6 + sq (mT (w 1)) i k) (a7 + pt (mT (w 1)) i k) (ls1 (mT (w 1)) i k a8) := by
  obtain ⟨N, hN, eN⟩ := hT.n
  have eN' : (w 1 1).toNatClampNeg = N := by rw [show w 1 1 = nI N from eN, tn (by omega)]
  have ew : w1 1 = w 1 := FM_1 p.f
  have hi1 : i < (w1 1 1).toNatClampNeg := by rw [ew]; exact hi
  have hT1 : OK (mT (w1 1)) := by rw [ew]; exact hT
  have e0 : w 1 (111 + 6 * i + 0) = (mT (w 1)).W 0 i := (mW (by omega) hi).symm
  have e2 : w 1 (111 + 6 * i + 2) = (mT (w 1)).W 2 i := (mW (by omega) hi).symm
  have es := m_seen hT1 hi1 h1 h2
  rw [ew] at es
  rw [f_X5_looks_L, if_neg (by decide), if_pos rfl, if_neg (by rw [show (5 : Int32) = nI 5 from rfl, pI_le (by omega) (by omega)]; omega), es]
  simp only [Option.bind_some, m_ones_ss hT h2, nI_add1]
  by_cases c : sq (mT (w 1)) i k ≤ 0
  · rw [if_pos c]
    have ez : sq (mT (w 1)) i k = 0 := by
      have : 0 ≤ sq (mT (w 1)) i k := by unfold sq mx; split <;> grind
      grind
    have ep : pt (mT (w 1)) i k = 0 := by unfold pt; rw [ez]; split <;> simp
    refine ⟨w1, rfl, p.f, fun o ho => ?_, fun o ho => ?_, ?_, ?_, ?_⟩
    · rw [p.s o ho]; unfold sh1; rw [ez]; simp
    · rw [p.g o ho]; unfold gp; rw [ep]; simp
    · rw [p.a, ez, Int32.add_zero]
    · rw [p.r, ep, Int32.add_zero]
    · rw [p.l]; unfold ls1; rw [ez]; simp
  · rw [if_neg c]
    simp only [m_told0 (show i < 10 by omega), m_told2 (show i < 10 by omega), Option.bind_some, ew, e0, e2, m_lotAt, lat_T hT h2]
    rcases ln_r hT (i := i) k with e | ⟨q, hq, e, ht, elt⟩
    · exact absurd (by rw [(sq_0 e).2.2.1]; decide) c
    · rw [mK hq] at ht
      obtain ⟨o, ho, eo⟩ := hT.o q
      obtain ⟨t, ht3, et⟩ := hT.w3 i
      have eow : ow (mT (w 1)) i k = nI o := by unfold ow; rw [e, tn (by omega), eo]
      have eO : w 1 (12 + 4 * q) = nI o := by rw [← mO hq ht, eo]
      have c' : 0 < sq (mT (w 1)) i k := Int32.not_le.mp c
      have hs1 : ∀ o', o' < 4 → sh1 (mT (w 1)) i (nI o') k (A5 o') = if o' = o then A5 o + sq (mT (w 1)) i k else A5 o' := by
        intro o' ho'
        unfold sh1
        simp only [e, eow, pI_pos (show q < 2147483648 by omega), true_and, pI_eq (show o < 2147483648 by omega) (show o' < 2147483648 by omega)]
        by_cases c2 : o' = o
        · subst c2; simp
        · have c3 : ¬ o = o' := fun q => c2 q.symm
          simp [c2, c3]
      have hl1 : ls1 (mT (w 1)) i k a8 = a8 ||| (1 <<< (nI q &&& 31)) := by
        unfold ls1; rw [e, if_pos ⟨pI_pos (by omega), c'⟩]
      rw [elt]
      simp only [m_its1 hq, Option.bind_some, ew, eO, tn (show o < 2147483648 by omega), ib ho (by omega), if_false]
      by_cases c4 : nI o = (mT (w 1)).W 3 i
      · rw [if_pos c4]
        have ep : pt (mT (w 1)) i k = 0 := by unfold pt; rw [eow]; simp [c4]
        refine ⟨_, rfl, FM_u0 (FM_u0 (FM_u5 p.f) (by simp)) (by simp), fun o' ho' => ?_, fun o' ho' => ?_, ?_, ?_, ?_⟩
        · show _ = sh1 (mT (w 1)) i (nI o') k (A5 o'); rw [hs1 o' ho']; simp only [up_g]
          by_cases c2 : o' = o
          · subst c2; simp [p.s o' ho']
          · simp [c2, p.s o' ho']
        · simp only [up_g]; simp [p.g o' ho', gp, ep]
        · simp only [up_g]; simp [p.a]
        · simp only [up_g]; simp [p.r, ep]
        · simp only [up_g]; simp [p.l, hl1]
      · rw [if_neg c4]
        have fq : FM w (jx_up (jx_up (jx_up w1 5 o (w1 5 o + sq (mT (w 1)) i k)) 0 6 (jx_up w1 5 o (w1 5 o + sq (mT (w 1)) i k) 0 6 + sq (mT (w 1)) i k)) 0 8 (jx_up (jx_up w1 5 o (w1 5 o + sq (mT (w 1)) i k)) 0 6 (jx_up w1 5 o (w1 5 o + sq (mT (w 1)) i k) 0 6 + sq (mT (w 1)) i k) 0 8 ||| 1 <<< (nI q &&& 31))) :=
          FM_u0 (FM_u0 (FM_u5 p.f) (by simp)) (by simp)
        have epr := m_price (w := (jx_up (jx_up (jx_up w1 5 o (w1 5 o + sq (mT (w 1)) i k)) 0 6 (jx_up w1 5 o (w1 5 o + sq (mT (w 1)) i k) 0 6 + sq (mT (w 1)) i k)) 0 8 (jx_up (jx_up w1 5 o (w1 5 o + sq (mT (w 1)) i k)) 0 6 (jx_up w1 5 o (w1 5 o + sq (mT (w 1)) i k) 0 6 + sq (mT (w 1)) i k) 0 8 ||| 1 <<< (nI q &&& 31)))) (by rw [FM_1 fq]; exact hT) hq (by rw [FM_1 fq]; exact ht)
        rw [FM_1 fq] at epr
        rw [epr, et]
        simp only [Option.bind_some, tn (show t < 2147483648 by omega), ib ht3 (by omega), if_false]
        have ep : pt (mT (w 1)) i k = sq (mT (w 1)) i k * pc (mT (w 1)) q := by unfold pt; rw [eow, e, tn (by omega), if_pos ⟨pI_pos (by omega), c4⟩]
        rw [et, pI_eq (by omega) (by omega)] at c4
        refine ⟨_, rfl, FM_u6 (FM_u6 (FM_u0 fq (by simp))), fun o' ho' => ?_, fun o' ho' => ?_, ?_, ?_, ?_⟩
        · show _ = sh1 (mT (w 1)) i (nI o') k (A5 o'); rw [hs1 o' ho']; simp only [up_g]
          by_cases c2 : o' = o
          · subst c2; simp [p.s o' ho']
          · simp [c2, p.s o' ho']
        · simp only [gp, eow, et, e, ep, pI_eq (show o < 2147483648 by omega) (show o' < 2147483648 by omega), pI_eq (show t < 2147483648 by omega) (show o' < 2147483648 by omega), pI_eq (show o < 2147483648 by omega) (show t < 2147483648 by omega), ne_eq, up_g, pI_pos (show q < 2147483648 by omega)]
          by_cases c2 : o' = o
          · subst c2
            have c3 : ¬ t = o' := fun q => c4 q.symm
            simp [p.g o' ho', c4, c3]
            grind
          · by_cases c3 : o' = t
            · subst c3
              simp [p.g o' ho', c4, c2]
              grind
            · have c5 : ¬ o = o' := fun q => c2 q.symm
              have c6 : ¬ t = o' := fun q => c3 q.symm
              simp [p.g o' ho', c2, c3, c5, c6]
        · simp only [up_g]; simp [p.a]
        · simp only [up_g]; simp [p.r, ep]
        · simp only [up_g]; simp [p.l, hl1]
theorem m_looks {i : Nat} {w : jx_V} (hT : OK (mT (w 1))) (hi : i < (w 1 1).toNatClampNeg) :
    ∃ w', f_X5_looks (nI i) w = some w' ∧ FM w w' ∧ (∀ o, o < 4 → w' 5 o = shr (mT (w 1)) i (nI o)) ∧ (∀ o, o < 4 → w' 6 o = w 6 o + gw (mT (w 1)) i o) ∧ w' 0 6 = al (mT (w 1)) i ∧ w' 0 7 = rn (mT (w 1)) i ∧ w' 0 8 = lsT (mT (w 1)) i := by
  obtain ⟨N, hN, eN⟩ := hT.n
  have eN' : (w 1 1).toNatClampNeg = N := by rw [show w 1 1 = nI N from eN, tn (by omega)]
  have p0 : LSp w (jx_up (jx_up (jx_up (jx_up (jx_up (jx_up (jx_up w 5 0 0) 5 1 0) 5 2 0) 5 3 0) 0 6 0) 0 7 0) 0 8 0) (fun _ => 0) (fun _ => 0) 0 0 0 := by
    refine ⟨FM_u0 (FM_u0 (FM_u0 (FM_u5 (FM_u5 (FM_u5 (FM_u5 FM_r)))) (by simp)) (by simp)) (by simp), fun o ho => ?_, fun o ho => ?_, ?_, ?_, ?_⟩
    · have : o = 0 ∨ o = 1 ∨ o = 2 ∨ o = 3 := by omega
      rcases this with rfl | rfl | rfl | rfl <;> simp [up_g]
    · simp [up_g]
    · simp [up_g]
    · simp [up_g]
    · simp [up_g]
  obtain ⟨w1, q1, p1⟩ := m_looks_s (k := 1) (f := 99994) hT hi p0 (by omega) (by omega)
  obtain ⟨w2, q2, p2⟩ := m_looks_s (k := 2) (f := 99993) hT hi p1 (by omega) (by omega)
  obtain ⟨w3, q3, p3⟩ := m_looks_s (k := 3) (f := 99992) hT hi p2 (by omega) (by omega)
  obtain ⟨w4, q4, p4⟩ := m_looks_s (k := 4) (f := 99991) hT hi p3 (by omega) (by omega)
  refine ⟨w4, ?_, p4.f, ?_, ?_, ?_, ?_, ?_⟩
  · unfold f_X5_looks
    show f_X5_looks_L (99999+1) 0 (nI i) 0 0 w = _
    rw [f_X5_looks_L, if_pos rfl, if_neg (by decide), if_neg (by decide)]
    show f_X5_looks_L (99998+1) 0 (nI i) 1 0 _ = _
    rw [f_X5_looks_L, if_pos rfl, if_neg (by decide), if_neg (by decide)]
    show f_X5_looks_L (99997+1) 0 (nI i) 2 0 _ = _
    rw [f_X5_looks_L, if_pos rfl, if_neg (by decide), if_neg (by decide)]
    show f_X5_looks_L (99996+1) 0 (nI i) 3 0 _ = _
    rw [f_X5_looks_L, if_pos rfl, if_neg (by decide), if_neg (by decide)]
    show f_X5_looks_L (99995+1) 0 (nI i) 4 0 _ = _
    rw [f_X5_looks_L, if_pos rfl, if_pos (by decide), m_told3 (by omega), Option.bind_some]
    refine Eq.trans ?_ (q1.trans (q2.trans (q3.trans (q4.trans ?_))))
    · have e3 : (jx_up (jx_up (jx_up (jx_up (jx_up (jx_up (jx_up w 5 0 0) 5 1 0) 5 2 0) 5 3 0) 0 6 0) 0 7 0) 0 8 0) 1 (111 + 6 * i + 3) = (mT (w 1)).W 3 i := by
        rw [FM_1 p0.f]; exact (mW (by omega) hi).symm
      show f_X5_looks_L 99995 1 (nI i) ((jx_up (jx_up (jx_up (jx_up (jx_up (jx_up (jx_up w 5 0 0) 5 1 0) 5 2 0) 5 3 0) 0 6 0) 0 7 0) 0 8 0) 1 (111 + 6 * i + 3)) 1 _ = _
      rw [e3]; rfl
    · show f_X5_looks_L (99990+1) 1 _ _ (nI 5) _ = _
      rw [f_X5_looks_L, if_neg (by decide), if_pos rfl, if_pos (by decide)]
  · intro o ho; rw [p4.s o ho]; rfl
  · intro o ho; rw [p4.g o ho]; unfold gw rn; by_cases c : (mT (w 1)).W 3 i = nI o <;> simp only [c, if_true, if_false] <;> grind
  · rw [p4.a]; unfold al; rw [Int32.zero_add]
  · rw [p4.r]; unfold rn; rw [Int32.zero_add]
  · rw [p4.l]; rfl
theorem mn {w : jx_V} (hT : OK (mT (w 1))) : ∃ N, N ≤ 10 ∧ w 1 1 = nI N ∧ (w 1 1).toNatClampNeg = N := by
  obtain ⟨N, h1, h2⟩ := hT.n
  have h3 : w 1 1 = nI N := h2
  exact ⟨N, h1, h3, by rw [h3, tn (by omega)]⟩
theorem nwm {w : jx_V} : nw (mT (w 1)) = (w 1 1).toNatClampNeg := rfl
theorem m_gains {w : jx_V} (hT : OK (mT (w 1))) :
    ∃ w', f_X5_findGains w = some (rs (mT (w 1)), w') ∧ FM w w' ∧ ∀ o, o < 4 → w' 6 o = gs (mT (w 1)) o := by
  obtain ⟨N, hN, eN, eN2⟩ := mn hT
  have L : ∀ d i f w1, i + d = N → d < f → FM w w1 → (∀ o, o < 4 → w1 6 o = gsum (mT (w 1)) o i) →
      ∃ w', f_X5_findGains_L f 1 (rsum (mT (w 1)) i) (nI i) w1 = some (rs (mT (w 1)), w') ∧ FM w w' ∧ ∀ o, o < 4 → w' 6 o = gs (mT (w 1)) o := by
    intro d
    induction d with
    | zero =>
      intro i f w1 hi hf g hv
      obtain ⟨f, rfl⟩ : ∃ q, f = q + 1 := ⟨f - 1, by omega⟩
      refine ⟨w1, ?_, g, ?_⟩
      · rw [f_X5_findGains_L, if_neg (by decide), if_pos rfl, if_pos (by rw [FM_1 g, eN, pI_le (by omega) (by omega)]; omega)]
        unfold rs; rw [nwm, eN2, show i = N by omega]
      · intro o ho; unfold gs; rw [hv o ho, nwm, eN2, show i = N by omega]
    | succ d ih =>
      intro i f w1 hi hf g hv
      obtain ⟨f, rfl⟩ : ∃ q, f = q + 1 := ⟨f - 1, by omega⟩
      obtain ⟨w2, e, g2, _, h2, _, h7, _⟩ := m_looks (i := i) (w := w1) (by rw [FM_1 g]; exact hT) (by rw [FM_1 g]; omega)
      rw [FM_1 g] at h2 h7
      obtain ⟨w', e', g', h'⟩ := ih (i+1) f w2 (by omega) (by omega) (FM_t g g2) (fun o ho => by rw [h2 o ho, hv o ho]; rfl)
      refine ⟨w', ?_, g', h'⟩
      rw [f_X5_findGains_L, if_neg (by decide), if_pos rfl, if_neg (by rw [FM_1 g, eN, pI_le (by omega) (by omega)]; omega), e]
      simp only [Option.bind_some, nI_add1, h7]
      exact e'
  obtain ⟨w', e, g, hv⟩ := L N 0 99995 (jx_up (jx_up (jx_up (jx_up w 6 0 0) 6 1 0) 6 2 0) 6 3 0) (by omega) (by omega) (FM_u6 (FM_u6 (FM_u6 (FM_u6 FM_r))))
    (fun o ho => by
      simp only [up_g]
      have : o = 0 ∨ o = 1 ∨ o = 2 ∨ o = 3 := by omega
      rcases this with rfl | rfl | rfl | rfl <;> simp [gsum])
  refine ⟨w', ?_, g, hv⟩
  unfold f_X5_findGains
  show f_X5_findGains_L (99999+1) 0 0 0 w = _
  rw [f_X5_findGains_L, if_pos rfl, if_neg (by decide), if_neg (by decide)]
  show f_X5_findGains_L (99998+1) 0 1 0 _ = _
  rw [f_X5_findGains_L, if_pos rfl, if_neg (by decide), if_neg (by decide)]
  show f_X5_findGains_L (99997+1) 0 2 0 _ = _
  rw [f_X5_findGains_L, if_pos rfl, if_neg (by decide), if_neg (by decide)]
  show f_X5_findGains_L (99996+1) 0 3 0 _ = _
  rw [f_X5_findGains_L, if_pos rfl, if_neg (by decide), if_neg (by decide)]
  show f_X5_findGains_L (99995+1) 0 4 0 _ = _
  rw [f_X5_findGains_L, if_pos rfl, if_pos (by decide)]
  exact e
theorem m_gainOf {w : jx_V} {o : Nat} (hT : OK (mT (w 1))) (ho : o < 4) :
    ∃ w', f_X5_gainOf (nI o) w = some (gs (mT (w 1)) o, w') ∧ FM w w' ∧ ∀ o, o < 4 → w' 6 o = gs (mT (w 1)) o := by
  obtain ⟨w', e, g, h⟩ := m_gains hT
  refine ⟨w', ?_, g, h⟩
  unfold f_X5_gainOf
  rw [e, Option.bind_some]
  simp only [tn (show o < 2147483648 by omega), ib ho (by omega), if_false, h o ho]
theorem m_broken {i : Nat} {w : jx_V} (hT : OK (mT (w 1))) (hi : i < (w 1 1).toNatClampNeg) :
    ∃ w', f_X5_isBroken (nI i) w = some (if br (mT (w 1)) i then 1 else 0, w') ∧ FM w w' := by
  obtain ⟨N, hN, eN, eN2⟩ := mn hT
  obtain ⟨w', e, g, h5, _⟩ := m_looks hT hi
  refine ⟨w', ?_, g⟩
  unfold f_X5_isBroken
  rw [e, Option.bind_some]
  simp only [m_told4 (show i < 10 by omega), m_told5 (show i < 10 by omega), Option.bind_some, FM_1 g, show w 1 (111 + 6 * i + 4) = (mT (w 1)).W 4 i from (mW (by omega) hi).symm, show w 1 (111 + 6 * i + 5) = (mT (w 1)).W 5 i from (mW (by omega) hi).symm]
  rcases hT.w4 i with e4 | ⟨o, ho, e4⟩
  · rw [show br (mT (w 1)) i = false from decide_eq_false (fun q => by have := q.1; rw [e4] at this; exact absurd this (by decide)), e4, if_pos (by decide)]; rfl
  · rw [e4]
    simp only [nI_neg (show o < 2147483648 by omega), if_false, tn (show o < 2147483648 by omega), nl0 ho, or_false, h5 o ho]
    by_cases c : shr (mT (w 1)) i (nI o) < (mT (w 1)).W 5 i
    · rw [show br (mT (w 1)) i = true from decide_eq_true ⟨by rw [e4]; exact pI_pos (by omega), by rw [e4]; exact c⟩, if_neg (by grind)]; rfl
    · rw [show br (mT (w 1)) i = false from decide_eq_false (fun q => c (by have := q.2; rw [e4] at this; exact this)), if_pos (by grind)]; rfl
theorem m_bset {w : jx_V} (hT : OK (mT (w 1))) : ∃ w', f_X5_brokenSet w = some (bs (mT (w 1)), w') ∧ FM w w' := by
  obtain ⟨N, hN, eN, eN2⟩ := mn hT
  have : ∀ d i f w1, i + d = N → d < f → FM w w1 → ∃ w', f_X5_brokenSet_L f (bset (mT (w 1)) i) (nI i) w1 = some (bs (mT (w 1)), w') ∧ FM w w' := by
    intro d
    induction d with
    | zero =>
      intro i f v1 hi hf g
      obtain ⟨f, rfl⟩ : ∃ q, f = q + 1 := ⟨f - 1, by omega⟩
      refine ⟨v1, ?_, g⟩
      rw [f_X5_brokenSet_L, if_pos (by rw [FM_1 g, eN, pI_le (by omega) (by omega)]; omega)]
      unfold bs; rw [nwm, eN2, show i = N by omega]
    | succ d ih =>
      intro i f v1 hi hf g
      obtain ⟨f, rfl⟩ : ∃ q, f = q + 1 := ⟨f - 1, by omega⟩
      obtain ⟨v2, e, g2⟩ := m_broken (i := i) (w := v1) (by rw [FM_1 g]; exact hT) (by rw [FM_1 g]; omega)
      rw [FM_1 g] at e
      obtain ⟨v', e', g'⟩ := ih (i+1) f v2 (by omega) (by omega) (FM_t g g2)
      refine ⟨v', ?_, g'⟩
      rw [f_X5_brokenSet_L, if_neg (by rw [FM_1 g, eN, pI_le (by omega) (by omega)]; omega), e]
      simp only [Option.bind_some, nI_add1]
      rw [bset] at e'
      cases c : br (mT (w 1)) i
      · rw [c] at e'; simp only [if_true, if_false, Bool.false_eq_true, show bset (mT (w 1)) i ||| 0 = bset (mT (w 1)) i by simp]; exact e'
      · rw [c] at e'; exact e'
  exact this N 0 100000 w (by omega) (by omega) FM_r
theorem m_alls {w : jx_V} (hT : OK (mT (w 1))) : ∃ w', f_X5_allViews w = some (alls (mT (w 1)) (nw (mT (w 1))), w') ∧ FM w w' := by
  obtain ⟨N, hN, eN, eN2⟩ := mn hT
  have : ∀ d i f w1, i + d = N → d < f → FM w w1 → ∃ w', f_X5_allViews_L f (alls (mT (w 1)) i) (nI i) w1 = some (alls (mT (w 1)) (nw (mT (w 1))), w') ∧ FM w w' := by
    intro d
    induction d with
    | zero =>
      intro i f v1 hi hf g
      obtain ⟨f, rfl⟩ : ∃ q, f = q + 1 := ⟨f - 1, by omega⟩
      refine ⟨v1, ?_, g⟩
      rw [f_X5_allViews_L, if_pos (by rw [FM_1 g, eN, pI_le (by omega) (by omega)]; omega)]
      rw [nwm, eN2, show i = N by omega]
    | succ d ih =>
      intro i f v1 hi hf g
      obtain ⟨f, rfl⟩ : ∃ q, f = q + 1 := ⟨f - 1, by omega⟩
      obtain ⟨v2, e, g2, _, _, h6, _⟩ := m_looks (i := i) (w := v1) (by rw [FM_1 g]; exact hT) (by rw [FM_1 g]; omega)
      rw [FM_1 g] at h6
      obtain ⟨v', e', g'⟩ := ih (i+1) f v2 (by omega) (by omega) (FM_t g g2)
      refine ⟨v', ?_, g'⟩
      rw [f_X5_allViews_L, if_neg (by rw [FM_1 g, eN, pI_le (by omega) (by omega)]; omega), e]
      simp only [Option.bind_some, nI_add1, h6]
      exact e'
  exact this N 0 100000 w (by omega) (by omega) FM_r
