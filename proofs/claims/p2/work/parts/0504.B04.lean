theorem nl0 {j b : Nat} (h : j < b) : (b ≤ j) = False := by simp; omega
def sq (T : Tn) (i k : Nat) : Int32 := mx 0 (tp T i k - lw T i k)
def ss (T : Tn) (i k : Nat) : Int32 := if sq T i k = 0 then 0 else (1 <<< (tp T i k &&& 31)) - (1 <<< (lw T i k &&& 31))
theorem x_sq {T : Tn} {i k : Nat} {v : jx_V} (hL : Lk T i v 5) (h1 : 1 ≤ k) (h2 : k < 5) : f_X0_squares (nI k) v = some (sq T i k, v) := by
  obtain ⟨_, e1, e2⟩ := hL k h1 h2
  unfold f_X0_squares
  simp only [tn (show k < 2147483648 by omega), ib (show k < 5 by omega) (by omega), if_false, j_max, Option.bind_some, e1, e2]
  rfl
theorem x_ss {T : Tn} {i k : Nat} {v : jx_V} (hL : Lk T i v 5) (h1 : 1 ≤ k) (h2 : k < 5) : f_X0_squareSet (nI k) v = some (ss T i k, v) := by
  obtain ⟨_, e1, e2⟩ := hL k h1 h2
  unfold f_X0_squareSet ss
  simp only [x_sq hL h1 h2, Option.bind_some, tn (show k < 2147483648 by omega), ib (show k < 5 by omega) (by omega), if_false, e1, e2]
  split <;> rfl
theorem x_sq1 {T : Tn} {i : Nat} {v : jx_V} (hL : Lk T i v 5) : f_X0_squares 1 v = some (sq T i 1, v) := x_sq (k := 1) hL (by omega) (by omega)
theorem x_sq2 {T : Tn} {i : Nat} {v : jx_V} (hL : Lk T i v 5) : f_X0_squares 2 v = some (sq T i 2, v) := x_sq (k := 2) hL (by omega) (by omega)
theorem x_sq3 {T : Tn} {i : Nat} {v : jx_V} (hL : Lk T i v 5) : f_X0_squares 3 v = some (sq T i 3, v) := x_sq (k := 3) hL (by omega) (by omega)
theorem x_sq4 {T : Tn} {i : Nat} {v : jx_V} (hL : Lk T i v 5) : f_X0_squares 4 v = some (sq T i 4, v) := x_sq (k := 4) hL (by omega) (by omega)
def al (T : Tn) (i : Nat) : Int32 := sq T i 1 + sq T i 2 + sq T i 3 + sq T i 4
theorem n1 : nI 1 = 1 := rfl
theorem n2 : nI 2 = 2 := rfl
theorem n3 : nI 3 = 3 := rfl
theorem n4 : nI 4 = 4 := rfl
theorem a12 : (1 : Int32) + 1 = 2 := rfl
theorem a23 : (2 : Int32) + 1 = 3 := rfl
theorem a34 : (3 : Int32) + 1 = 4 := rfl
theorem a45 : (4 : Int32) + 1 = 5 := rfl
theorem l41 : ¬ (4 : Int32) < 1 := by decide
theorem l42 : ¬ (4 : Int32) < 2 := by decide
theorem l43 : ¬ (4 : Int32) < 3 := by decide
theorem l44 : ¬ (4 : Int32) < 4 := by decide
theorem l45 : (4 : Int32) < 5 := by decide
theorem x_view {h i : Nat} {v : jx_V} (hh : h + 15 < 50) (hT : OK (cT h v)) (hi : i < (v h 5).toNatClampNeg) :
    ∃ v', f_X0_squaresInView h (nI i) v = some (al (cT h v) i, v') ∧ G v v' := by
  obtain ⟨v', e, g, hL⟩ := x_look hh hT hi
  refine ⟨v', ?_, g⟩
  unfold f_X0_squaresInView
  rw [e, Option.bind_some]
  rw [f_X0_squaresInView_L, if_neg l41, x_sq1 hL, Option.bind_some, a12]
  simp only []
  rw [f_X0_squaresInView_L, if_neg l42, x_sq2 hL, Option.bind_some, a23]
  simp only []
  rw [f_X0_squaresInView_L, if_neg l43, x_sq3 hL, Option.bind_some, a34]
  simp only []
  rw [f_X0_squaresInView_L, if_neg l44, x_sq4 hL, Option.bind_some, a45]
  simp only []
  rw [f_X0_squaresInView_L, if_pos l45, Int32.zero_add]
  rfl
-- what a place k away gives
def ow (T : Tn) (i k : Nat) : Int32 := T.O (ln T i k).toNatClampNeg
def sh1 (T : Tn) (i : Nat) (o : Int32) (k : Nat) (a : Int32) : Int32 := if 0 ≤ ln T i k ∧ ow T i k = o then a + sq T i k else a
def shr (T : Tn) (i : Nat) (o : Int32) : Int32 := sh1 T i o 4 (sh1 T i o 3 (sh1 T i o 2 (sh1 T i o 1 0)))
theorem Gc {h : Nat} {v v' : jx_V} (hh : h + 15 < 50) (g : G v v') : cT h v' = cT h v := cT_congr (fun c _ _ => g c (by omega))
theorem Gk {h : Nat} {v v' : jx_V} (hh : h + 15 < 50) (g : G v v') (c : Nat) (hc : c ≤ 15) : v' (h + c) = v (h + c) := g _ (by omega)
/-- facts at place k after a look -/
theorem Lk_f {h i k : Nat} {v v' : jx_V} (hh : h + 15 < 50) (hT : OK (cT h v)) (g : G v v') (hL : Lk (cT h v) i v' 5) (h1 : 1 ≤ k) (h2 : k < 5) :
    (v' 50 k = -1 ∧ ln (cT h v) i k = -1) ∨ ∃ q, q < 25 ∧ v' 50 k = nI q ∧ ln (cT h v) i k = nI q ∧ 0 ≤ v (h+3) q ∧ 0 ≤ v' (h+3) q ∧ v' (h+4) q = ow (cT h v) i k ∧ ∃ o, o < 4 ∧ ow (cT h v) i k = nI o := by
  obtain ⟨e0, _, _⟩ := hL k h1 h2
  rcases ln_r hT (i := i) k with e | ⟨q, hq, e, ht, _⟩
  · left; exact ⟨e0.trans e, e⟩
  · right
    rw [cK hq] at ht
    refine ⟨q, hq, e0.trans e, e, ht, by rw [Gk hh g 3 (by omega)]; exact ht, ?_, hT.o _⟩
    unfold ow
    rw [e, tn (by omega), cO hq ht, Gk hh g 4 (by omega)]
theorem x_share_s {h i k f : Nat} {v v' : jx_V} {o a x2 : Int32} (hh : h + 15 < 50) (hT : OK (cT h v)) (g : G v v') (hL : Lk (cT h v) i v' 5) (h1 : 1 ≤ k) (h2 : k < 5) :
    f_X0_squaresOfOwner_L h (f+1) x2 o a (nI k) v' = f_X0_squaresOfOwner_L h f x2 o (sh1 (cT h v) i o k a) (nI (k+1)) v' := by
  rw [f_X0_squaresOfOwner_L, if_neg (by rw [← n4, pI_lt (by omega) (by omega)]; omega)]
  simp only [tn (show k < 2147483648 by omega), ib (show k < 5 by omega) (by omega), if_false, nI_add1, x_sq hL h1 h2, Option.bind_some]
  unfold sh1
  rcases Lk_f hh hT g hL h1 h2 with ⟨e0, e⟩ | ⟨q, hq, e0, e, ht, ht', eo, _⟩
  · rw [e0, e]; simp
  · simp only [e0, e, nI_neg (show q < 2147483648 by omega), pI_pos (show q < 2147483648 by omega), if_false, tn (show q < 2147483648 by omega), eo, true_and, nl0 hq, or_false]
    split <;> rfl
theorem x_share {h i : Nat} {v : jx_V} {o : Int32} (hh : h + 15 < 50) (hT : OK (cT h v)) (hi : i < (v h 5).toNatClampNeg) :
    ∃ v', f_X0_squaresOfOwner h (nI i) o v = some (shr (cT h v) i o, v') ∧ G v v' := by
  obtain ⟨v', e, g, hL⟩ := x_look hh hT hi
  refine ⟨v', ?_, g⟩
  unfold f_X0_squaresOfOwner
  rw [e, Option.bind_some]
  have s := fun k f a (h1 : 1 ≤ k) (h2 : k < 5) => x_share_s (f := f) (o := o) (a := a) (x2 := nI i) hh hT g hL h1 h2
  show f_X0_squaresOfOwner_L h (99999+1) (nI i) o 0 (nI 1) v' = _
  rw [s 1 _ _ (by omega) (by omega)]
  show f_X0_squaresOfOwner_L h (99998+1) (nI i) o _ (nI 2) v' = _
  rw [s 2 _ _ (by omega) (by omega)]
  show f_X0_squaresOfOwner_L h (99997+1) (nI i) o _ (nI 3) v' = _
  rw [s 3 _ _ (by omega) (by omega)]
  show f_X0_squaresOfOwner_L h (99996+1) (nI i) o _ (nI 4) v' = _
  rw [s 4 _ _ (by omega) (by omega)]
  show f_X0_squaresOfOwner_L h (99995+1) (nI i) o _ (nI 5) v' = _
  rw [f_X0_squaresOfOwner_L, if_pos (by decide)]
  rfl
def ls1 (T : Tn) (i : Nat) (k : Nat) (a : Int32) : Int32 := if 0 ≤ ln T i k ∧ 0 < sq T i k then a ||| (1 <<< (ln T i k &&& 31)) else a
def lsT (T : Tn) (i : Nat) : Int32 := ls1 T i 4 (ls1 T i 3 (ls1 T i 2 (ls1 T i 1 0)))
theorem x_lots_s {h i k f : Nat} {v v' : jx_V} {a x2 : Int32} (hh : h + 15 < 50) (hT : OK (cT h v)) (g : G v v') (hL : Lk (cT h v) i v' 5) (h1 : 1 ≤ k) (h2 : k < 5) :
    f_X0_lotSet_L h (f+1) x2 a (nI k) v' = f_X0_lotSet_L h f x2 (ls1 (cT h v) i k a) (nI (k+1)) v' := by
  rw [f_X0_lotSet_L, if_neg (by rw [← n4, pI_lt (by omega) (by omega)]; omega)]
  simp only [tn (show k < 2147483648 by omega), ib (show k < 5 by omega) (by omega), if_false, nI_add1, x_sq hL h1 h2, Option.bind_some]
  unfold ls1
  rcases Lk_f hh hT g hL h1 h2 with ⟨e0, e⟩ | ⟨q, hq, e0, e, ht, ht', eo, _⟩
  · rw [e0, e]; simp
  · simp only [e0, e, nI_neg (show q < 2147483648 by omega), pI_pos (show q < 2147483648 by omega), if_false, tn (show q < 2147483648 by omega), eo, true_and]
    by_cases c : sq (cT h v) i k ≤ 0
    · rw [if_pos c, if_neg (Int32.not_lt.mpr c)]
    · rw [if_neg c, if_pos (Int32.not_le.mp c)]
theorem x_lots {h i : Nat} {v : jx_V} (hh : h + 15 < 50) (hT : OK (cT h v)) (hi : i < (v h 5).toNatClampNeg) :
    ∃ v', f_X0_lotSet h (nI i) v = some (lsT (cT h v) i, v') ∧ G v v' := by
  obtain ⟨v', e, g, hL⟩ := x_look hh hT hi
  refine ⟨v', ?_, g⟩
  unfold f_X0_lotSet
  rw [e, Option.bind_some]
  have s := fun k f a (h1 : 1 ≤ k) (h2 : k < 5) => x_lots_s (f := f) (a := a) (x2 := nI i) hh hT g hL h1 h2
  show f_X0_lotSet_L h (99999+1) (nI i) 0 (nI 1) v' = _
  rw [s 1 _ _ (by omega) (by omega)]
  show f_X0_lotSet_L h (99998+1) (nI i) _ (nI 2) v' = _
  rw [s 2 _ _ (by omega) (by omega)]
  show f_X0_lotSet_L h (99997+1) (nI i) _ (nI 3) v' = _
  rw [s 3 _ _ (by omega) (by omega)]
  show f_X0_lotSet_L h (99996+1) (nI i) _ (nI 4) v' = _
  rw [s 4 _ _ (by omega) (by omega)]
  show f_X0_lotSet_L h (99995+1) (nI i) _ (nI 5) v' = _
  rw [f_X0_lotSet_L, if_pos (by decide)]
  rfl
-- pay
def pt (T : Tn) (i k : Nat) : Int32 := if 0 ≤ ln T i k ∧ ow T i k ≠ T.W 3 i then sq T i k * pc T (ln T i k).toNatClampNeg else 0
def gp (T : Tn) (i k o : Nat) : Int32 := if 0 ≤ ln T i k ∧ ow T i k = nI o ∧ ow T i k ≠ T.W 3 i then pt T i k else 0
def rn (T : Tn) (i : Nat) : Int32 := pt T i 1 + pt T i 2 + pt T i 3 + pt T i 4
def gw (T : Tn) (i o : Nat) : Int32 := gp T i 1 o + gp T i 2 o + gp T i 3 o + gp T i 4 o - (if T.W 3 i = nI o then rn T i else 0)
/-- frame of a pay into row r -/
def GR (r : Nat) (v v' : jx_V) : Prop := ∀ c, (c < 50 ∨ 53 ≤ c) → c ≠ r → v' c = v c
def Rw (h r : Nat) : Prop := r = h + 14 ∨ (63 < r ∧ r < 67)
theorem GRk {h r : Nat} {v v' : jx_V} (hh : h + 15 < 50) (hr : Rw h r) (g : GR r v v') (c : Nat) (hc : c ≤ 13) : v' (h + c) = v (h + c) := g _ (by omega) (by rcases hr with e | e <;> omega)
theorem x_price' {h j v v'} (hT : OK (cT h v)) (hj : j < 25) (ht : 0 ≤ v (h+3) j) (e3 : v' (h+3) = v (h+3)) (e6 : v' (h+6) = v (h+6)) (e13 : v' (h+13) = v (h+13)) (em : v' h = v h) : f_X3_squarePrice h (nI j) v' = some (pc (cT h v) j, v') := by
  obtain ⟨q, hq, e⟩ := hT.p j
  have e1 := e
  rw [cP hj ht] at e1
  unfold f_X3_squarePrice pc
  simp only [ib hj (by omega), if_false, tn (show j < 2147483648 by omega), x_summer, Option.bind_some, cK hj, e, e3, e6, e13, em, e1, ib hq (by omega), tn (show q < 2147483648 by omega), cC hq, Int32.add_zero]
  have e : (cT h v).m = v h 6 := rfl
  rw [e]
  cases s : su (v h 6) <;> simp only [s, if_true, if_false, Bool.false_eq_true, Int32.add_zero] <;> grind
/-- the state of pay's loop before place k -/
abbrev PS (h i r : Nat) (v v1 : jx_V) (k : Nat) (S : Nat → Int32) : Prop := GR r v v1 ∧ Lk (cT h v) i v1 5 ∧ ∀ o, o < 4 → v1 r o = v r o + S o
theorem PS.f {h i r : Nat} {v v1 : jx_V} {k : Nat} {S : Nat → Int32} (p : PS h i r v v1 k S) : GR r v v1 := p.1
theorem PS.l {h i r : Nat} {v v1 : jx_V} {k : Nat} {S : Nat → Int32} (p : PS h i r v v1 k S) : Lk (cT h v) i v1 5 := p.2.1
theorem PS.r {h i r : Nat} {v v1 : jx_V} {k : Nat} {S : Nat → Int32} (p : PS h i r v v1 k S) : ∀ o, o < 4 → v1 r o = v r o + S o := p.2.2
theorem x_pay_s {h i r k f : Nat} {v v1 : jx_V} {a x2 : Int32} {S : Nat → Int32} (hh : h + 15 < 50) (hr : Rw h r) (hT : OK (cT h v)) (p : PS h i r v v1 k S) (h1 : 1 ≤ k) (h2 : k < 5) :
    ∃ v2, f_X0_pay_L h r (f+1) x2 ((cT h v).W 3 i) a (nI k) v1 = f_X0_pay_L h r f x2 ((cT h v).W 3 i) (a + pt (cT h v) i k) (nI (k+1)) v2 ∧ PS h i r v v2 (k+1) (fun o => S o + gp (cT h v) i k o) := by
  obtain ⟨e0, _, _⟩ := p.l k h1 h2
  rw [f_X0_pay_L, if_neg (by rw [← n4, pI_lt (by omega) (by omega)]; omega)]
  simp only [tn (show k < 2147483648 by omega), ib (show k < 5 by omega) (by omega), if_false, nI_add1, x_sq p.l h1 h2, Option.bind_some]
  rcases ln_r hT (i := i) k with e | ⟨q, hq, e, ht, _⟩
  · refine ⟨v1, ?_, ⟨p.f, p.l, fun o ho => ?_⟩⟩
    · rw [e0, e]; unfold pt; rw [e]; simp
    · rw [p.r o ho]; unfold gp; rw [e]; simp
  · rw [cK hq] at ht
    obtain ⟨o, ho, eo⟩ := hT.o q
    have eow : ow (cT h v) i k = nI o := by unfold ow; rw [e, tn (by omega), eo]
    have eO : v1 (h+4) q = nI o := by rw [GRk hh hr p.f 4 (by omega), ← cO hq ht, eo]
    simp only [e0, e, nI_neg (show q < 2147483648 by omega), if_false, tn (show q < 2147483648 by omega), nl0 hq, or_false, eO]
    by_cases c : nI o = (cT h v).W 3 i
    · refine ⟨v1, ?_, ⟨p.f, p.l, fun o' ho' => ?_⟩⟩
      · rw [if_pos c]; unfold pt; rw [eow]; simp [c]
      · rw [p.r o' ho']; unfold gp; rw [eow]; simp [c]
    · rw [if_neg c]
      simp only [x_price' (v := v) hT hq ht (GRk hh hr p.f 3 (by omega)) (GRk hh hr p.f 6 (by omega)) (GRk hh hr p.f 13 (by omega)) (p.f h (by omega) (by rcases hr with e | e <;> omega)), Option.bind_some, eO, ib ho (by omega), if_false, tn (show o < 2147483648 by omega)]
      have ept : pt (cT h v) i k = sq (cT h v) i k * pc (cT h v) q := by unfold pt; rw [eow, e, tn (by omega)]; simp [c, pI_pos (show q < 2147483648 by omega)]
      refine ⟨_, by rw [ept], ⟨fun x hx hx2 => by rw [jx_up_ne hx2]; exact p.f x hx hx2, fun x hx hx2 => ?_, fun o' ho' => ?_⟩⟩
      · have c50 : (50 : Nat) ≠ r := by rcases hr with e | e <;> omega
        have c51 : (51 : Nat) ≠ r := by rcases hr with e | e <;> omega
        have c52 : (52 : Nat) ≠ r := by rcases hr with e | e <;> omega
        rw [jx_up_ne c50, jx_up_ne c51, jx_up_ne c52]
        exact p.l x hx hx2
      · rw [up_g]
        unfold gp
        simp only [eow, e, ept, pI_eq (show o < 2147483648 by omega) (show o' < 2147483648 by omega)]
        by_cases c2 : o' = o
        · subst c2
          simp [p.r o' ho', c, pI_pos (show q < 2147483648 by omega)]
          grind
        · have c3 : ¬ o = o' := fun q => c2 q.symm
          simp [p.r o' ho', c2, c3]
theorem x_pay {h i r : Nat} {v : jx_V} (hh : h + 15 < 50) (hr : Rw h r) (hT : OK (cT h v)) (hi : i < (v h 5).toNatClampNeg) :
    ∃ v', f_X0_pay h (nI i) r v = some (rn (cT h v) i, v') ∧ GR r v v' ∧ ∀ o, o < 4 → v' r o = v r o + gw (cT h v) i o := by
  obtain ⟨N, hN, _, eN⟩ := cn hT
  obtain ⟨v1, e, g, hL⟩ := x_look hh hT hi
  have p0 : PS h i r v v1 1 (fun _ => 0) := ⟨fun c hc _ => g c hc, hL, fun o _ => by rw [g r (by rcases hr with e | e <;> omega), Int32.add_zero]⟩
  obtain ⟨v2, e1, p1⟩ := x_pay_s (f := 99999) (a := 0) (x2 := nI i) hh hr hT p0 (by omega) (by omega)
  obtain ⟨v3, e2, p2⟩ := x_pay_s (f := 99998) (a := 0 + pt (cT h v) i 1) (x2 := nI i) hh hr hT p1 (by omega) (by omega)
  obtain ⟨v4, e3, p3⟩ := x_pay_s (f := 99997) (a := 0 + pt (cT h v) i 1 + pt (cT h v) i 2) (x2 := nI i) hh hr hT p2 (by omega) (by omega)
  obtain ⟨v5, e4, p4⟩ := x_pay_s (f := 99996) (a := 0 + pt (cT h v) i 1 + pt (cT h v) i 2 + pt (cT h v) i 3) (x2 := nI i) hh hr hT p3 (by omega) (by omega)
  obtain ⟨t, ht, et⟩ := hT.w3 i
  have er : 0 + pt (cT h v) i 1 + pt (cT h v) i 2 + pt (cT h v) i 3 + pt (cT h v) i 4 = rn (cT h v) i := by unfold rn; rw [Int32.zero_add]
  refine ⟨jx_up v5 r t (v5 r t - rn (cT h v) i), ?_, ?_, ?_⟩
  · unfold f_X0_pay
    rw [e, Option.bind_some]
    simp only [tn (show i < 2147483648 by omega), ib (show i < 10 by omega) (by omega), if_false]
    rw [g (h+10) (by omega), show v (h + 10) i = (cT h v).W 3 i from (cW (a := 3) (by omega) hi).symm]
    refine e1.trans (e2.trans (e3.trans (e4.trans ?_)))
    show f_X0_pay_L h r (99995+1) (nI i) _ _ (nI 5) v5 = _
    rw [f_X0_pay_L, if_pos (by decide), er, et]
    simp only [tn (show t < 2147483648 by omega), ib ht (by omega), if_false]
  · intro c hc hc2
    rw [jx_up_ne hc2]; exact p4.f c hc hc2
  · intro o ho
    rw [up_g]
    unfold gw
    simp only [et, pI_eq (show t < 2147483648 by omega) (show o < 2147483648 by omega)]
    by_cases c : o = t
    · subst c
      simp [p4.r o ho]
      grind
    · have c3 : ¬ t = o := fun q => c q.symm
      simp [p4.r o ho, c, c3]
