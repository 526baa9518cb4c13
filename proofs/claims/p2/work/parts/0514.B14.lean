theorem set_g (v : jx_V) (h : Nat) (f : Nat → Int32) (c : Nat) : jx_set v h f c = if c = h then f else v c := rfl
theorem cpy_g (f g : Nat → Int32) (n k : Nat) : va_cpy f g 0 0 n k = if k < n then f k else g k := by
  unfold va_cpy; by_cases h : k < n <;> simp [h]
def Far (h0 h1 : Nat) : Prop := h0 + 15 < h1 ∨ h1 + 15 < h0
def BF (h0 : Nat) (v v1 : jx_V) : Prop := ∀ c, (c < h0 ∨ h0 + 15 < c) → v1 c = v c
theorem t0 : Int32.toNatClampNeg 0 = 0 := rfl
theorem t4 : Int32.toNatClampNeg 4 = 4 := rfl
theorem t10 : Int32.toNatClampNeg 10 = 10 := rfl
theorem t25 : Int32.toNatClampNeg 25 = 25 := rfl
def B0 (h0 h1 q : Nat) (v v1 : jx_V) : Prop := BF h0 v v1 ∧ ∀ r, r < q → ∀ l, l < 25 → v1 (h0+3+r) l = v (h1+3+r) l
def B1 (h0 h1 q : Nat) (v v1 : jx_V) : Prop := B0 h0 h1 4 v v1 ∧ ∀ r, r < q → ∀ l, l < 10 → v1 (h0+7+r) l = v (h1+7+r) l
theorem x_bec0 {h0 h1 : Nat} {v : jx_V} (hf : Far h0 h1) : ∀ d q f v1, q + d = 4 → B0 h0 h1 q v v1 → ∃ v2, f_X3_become_L h0 h1 (f+d+1) 0 (nI q) v1 = f_X3_become_L h0 h1 f 1 0 v2 ∧ B0 h0 h1 4 v v2
  | 0, q, f, v1, hq, hb => by
    refine ⟨v1, ?_, by rw [← show q = 4 by omega]; exact hb⟩
    rw [f_X3_become_L, if_pos rfl, if_pos (by rw [← n4, pI_le (by omega) (by omega)]; omega)]
  | d + 1, q, f, v1, hq, hb => by
    have hb' : B0 h0 h1 (q+1) v (jx_set v1 (h0+3+q) (va_cpy (v1 (h1+3+q)) (v1 (h0+3+q)) 0 0 25)) := by
      refine ⟨fun c hc => ?_, fun r hr l hl => ?_⟩
      · rw [set_g, if_neg (by omega)]; exact hb.1 c hc
      · rw [set_g]
        by_cases e : h0 + 3 + r = h0 + 3 + q
        · rw [if_pos e, cpy_g, if_pos hl, show r = q by omega, hb.1 (h1+3+q) (by unfold Far at hf; omega)]
        · rw [if_neg e]; exact hb.2 r (by omega) l hl
    obtain ⟨v2, e, h2⟩ := x_bec0 hf d (q+1) f _ (by omega) hb'
    refine ⟨v2, ?_, h2⟩
    rw [show f + (d + 1) + 1 = (f + d + 1) + 1 by omega, f_X3_become_L, if_pos rfl, if_neg (by rw [← n4, pI_le (by omega) (by omega)]; omega)]
    simp only [tn (show q < 2147483648 by omega), ib (show q < 4 by omega) (by omega), if_false, t0, t25, nI_add1]
    exact e
theorem x_bec1 {h0 h1 : Nat} {v : jx_V} (hf : Far h0 h1) : ∀ d q f v1, q + d = 6 → B1 h0 h1 q v v1 → ∃ v2, f_X3_become_L h0 h1 (f+d) 1 (nI q) v1 = f_X3_become_L h0 h1 f 1 6 v2 ∧ B1 h0 h1 6 v v2
  | 0, q, f, v1, hq, hb => ⟨v1, by rw [show q = 6 by omega]; rfl, by rw [← show q = 6 by omega]; exact hb⟩
  | d + 1, q, f, v1, hq, hb => by
    have hb' : B1 h0 h1 (q+1) v (jx_set v1 (h0+7+q) (va_cpy (v1 (h1+7+q)) (v1 (h0+7+q)) 0 0 10)) := by
      refine ⟨⟨fun c hc => ?_, fun r hr l hl => ?_⟩, fun r hr l hl => ?_⟩
      · rw [set_g, if_neg (by omega)]; exact hb.1.1 c hc
      · rw [set_g, if_neg (by omega)]; exact hb.1.2 r hr l hl
      · rw [set_g]
        by_cases e : h0 + 7 + r = h0 + 7 + q
        · rw [if_pos e, cpy_g, if_pos hl, show r = q by omega, hb.1.1 (h1+7+q) (by unfold Far at hf; omega)]
        · rw [if_neg e]; exact hb.2 r (by omega) l hl
    obtain ⟨v2, e, h2⟩ := x_bec1 hf d (q+1) f _ (by omega) hb'
    refine ⟨v2, ?_, h2⟩
    rw [show f + (d + 1) = (f + d) + 1 by omega, f_X3_become_L, if_neg (by decide), if_pos rfl, if_neg (by rw [show (6 : Int32) = nI 6 from rfl, pI_le (by omega) (by omega)]; omega)]
    simp only [tn (show q < 2147483648 by omega), ib (show q < 6 by omega) (by omega), if_false, t0, t10, nI_add1]
    exact e
theorem cT_eq {h0 h1 : Nat} {v v' : jx_V} (a : ∀ r, r < 4 → ∀ l, l < 25 → v' (h0+3+r) l = v (h1+3+r) l) (b : ∀ r, r < 6 → ∀ l, l < 10 → v' (h0+7+r) l = v (h1+7+r) l) (c : ∀ l, l < 4 → v' (h0+13) l = v (h1+13) l) (u : ∀ l, l < 4 → v' (h0+14) l = v (h1+14) l) (s : ∀ l, l < 10 → v' (h0+15) l = v (h1+15) l) (n : v' h0 5 = v h1 5) (m : v' h0 6 = v h1 6) (z : v' h0 7 = v h1 7) (hn : (v h1 5).toNatClampNeg ≤ 10) : cT h0 v' = cT h1 v := by
  have a0 := a 0 (by omega)
  have a1 := a 1 (by omega)
  have a2 := a 2 (by omega)
  have a3 := a 3 (by omega)
  refine Tx ?_ ?_ ?_ ?_ ?_ ?_ ?_ ?_ n m z
  · funext l; show (if l < 25 then v' (h0+3+0) l else -1) = if l < 25 then v (h1+3+0) l else -1
    by_cases hl : l < 25
    · rw [if_pos hl, if_pos hl, a0 l hl]
    · rw [if_neg hl, if_neg hl]
  · funext l; show (if l < 25 ∧ 0 ≤ v' (h0+3+0) l then v' (h0+3+1) l else 0) = if l < 25 ∧ 0 ≤ v (h1+3+0) l then v (h1+3+1) l else 0
    by_cases hl : l < 25
    · rw [a0 l hl, a1 l hl]
    · rw [if_neg (by simp [hl]), if_neg (by simp [hl])]
  · funext l; show (if l < 25 ∧ 0 ≤ v' (h0+3+0) l then v' (h0+3+2) l else 0) = if l < 25 ∧ 0 ≤ v (h1+3+0) l then v (h1+3+2) l else 0
    by_cases hl : l < 25
    · rw [a0 l hl, a2 l hl]
    · rw [if_neg (by simp [hl]), if_neg (by simp [hl])]
  · funext l; show (if l < 25 ∧ 0 ≤ v' (h0+3+0) l then v' (h0+3+3) l else 0) = if l < 25 ∧ 0 ≤ v (h1+3+0) l then v (h1+3+3) l else 0
    by_cases hl : l < 25
    · rw [a0 l hl, a3 l hl]
    · rw [if_neg (by simp [hl]), if_neg (by simp [hl])]
  · funext k i; show (if k < 6 ∧ i < (v' h0 5).toNatClampNeg then v' (h0+7+k) i else 0) = if k < 6 ∧ i < (v h1 5).toNatClampNeg then v (h1+7+k) i else 0
    rw [n]
    by_cases hl : k < 6 ∧ i < (v h1 5).toNatClampNeg
    · rw [if_pos hl, if_pos hl, b k hl.1 i (by omega)]
    · rw [if_neg hl, if_neg hl]
  · funext l; show (if l < 4 then v' (h0+13) l else 0) = if l < 4 then v (h1+13) l else 0
    by_cases hl : l < 4
    · rw [if_pos hl, if_pos hl, c l hl]
    · rw [if_neg hl, if_neg hl]
  · funext l; show (if l < 4 then v' (h0+14) l else 0) = if l < 4 then v (h1+14) l else 0
    by_cases hl : l < 4
    · rw [if_pos hl, if_pos hl, u l hl]
    · rw [if_neg hl, if_neg hl]
  · funext l; show (if l < 10 then v' (h0+15) l else 0) = if l < 10 then v (h1+15) l else 0
    by_cases hl : l < 10
    · rw [if_pos hl, if_pos hl, s l hl]
    · rw [if_neg hl, if_neg hl]
theorem x_become {h0 h1 : Nat} {v : jx_V} (hf : Far h0 h1) (hn : (v h1 5).toNatClampNeg ≤ 10) : ∃ v', f_X3_become h0 h1 v = some v' ∧ BF h0 v v' ∧ cT h0 v' = cT h1 v := by
  obtain ⟨v2, e2, b2⟩ := x_bec0 (v := v) hf 4 0 99995 v (by omega) ⟨fun _ _ => rfl, fun r hr => by omega⟩
  obtain ⟨v3, e3, b3⟩ := x_bec1 (v := v) hf 6 0 99989 v2 (by omega) ⟨b2, fun r hr => by omega⟩
  have e : f_X3_become h0 h1 v = f_X3_become_L h0 h1 (99988+1) 1 6 v3 := e2.trans e3
  rw [e, f_X3_become_L, if_neg (by decide), if_pos rfl, if_pos (by decide)]
  have f1 : ∀ c, h1 ≤ c → c ≤ h1 + 15 → v3 c = v c := fun c _ _ => b3.1.1 c (by unfold Far at hf; omega)
  unfold Far at hf
  refine ⟨_, rfl, fun c hc => ?_, ?_⟩
  · rw [jx_up_ne (by omega), jx_up_ne (by omega), jx_up_ne (by omega), set_g, if_neg (by omega), set_g, if_neg (by omega), set_g, if_neg (by omega)]
    exact b3.1.1 c hc
  · simp only [t0, t4, t10]
    refine cT_eq (fun r hr l hl => ?_) (fun r hr l hl => ?_) (fun l hl => ?_) (fun l hl => ?_) (fun l hl => ?_) ?_ ?_ ?_ hn
    · rw [jx_up_ne (by omega), jx_up_ne (by omega), jx_up_ne (by omega), set_g, if_neg (by omega), set_g, if_neg (by omega), set_g, if_neg (by omega)]
      exact b3.1.2 r hr l hl
    · rw [jx_up_ne (by omega), jx_up_ne (by omega), jx_up_ne (by omega), set_g, if_neg (by omega), set_g, if_neg (by omega), set_g, if_neg (by omega)]
      exact b3.2 r hr l hl
    · rw [jx_up_ne (by omega), jx_up_ne (by omega), jx_up_ne (by omega), set_g, if_neg (by omega), set_g, if_neg (by omega), set_g, if_pos rfl, cpy_g, if_pos hl, f1 _ (by omega) (by omega)]
    · rw [jx_up_ne (by omega), jx_up_ne (by omega), jx_up_ne (by omega), set_g, if_neg (by omega), set_g, if_pos rfl, cpy_g, if_pos hl, set_g, if_neg (by omega), f1 _ (by omega) (by omega)]
    · rw [jx_up_ne (by omega), jx_up_ne (by omega), jx_up_ne (by omega), set_g, if_pos rfl, cpy_g, if_pos hl, set_g, if_neg (by omega), set_g, if_neg (by omega), f1 _ (by omega) (by omega)]
    · rw [up_g, if_neg (by omega), up_g, if_neg (by omega), up_s, set_g, if_neg (by omega), set_g, if_neg (by omega), set_g, if_neg (by omega), f1 _ (by omega) (by omega)]
    · rw [up_g, if_neg (by omega), up_s, jx_up_ne (by omega), set_g, if_neg (by omega), set_g, if_neg (by omega), set_g, if_neg (by omega), f1 _ (by omega) (by omega)]
    · rw [up_s, jx_up_ne (by omega), jx_up_ne (by omega), set_g, if_neg (by omega), set_g, if_neg (by omega), set_g, if_neg (by omega), f1 _ (by omega) (by omega)]
theorem mT_eq {s s' : Nat → Int32} (e : ∀ k, k < 181 → s' k = s k) (hn : (s 1).toNatClampNeg ≤ 10) : mT s' = mT s := by
  have e1 := e 1 (by omega)
  refine Tx ?_ ?_ ?_ ?_ ?_ ?_ ?_ ?_ e1 (e 0 (by omega)) (e 2 (by omega))
  · funext l; show (if l < 25 then s' (11+4*l) else -1) = if l < 25 then s (11+4*l) else -1
    by_cases hl : l < 25
    · rw [if_pos hl, if_pos hl, e _ (by omega)]
    · rw [if_neg hl, if_neg hl]
  · funext l; show (if l < 25 ∧ 0 ≤ s' (11+4*l) then s' (12+4*l) else 0) = if l < 25 ∧ 0 ≤ s (11+4*l) then s (12+4*l) else 0
    by_cases hl : l < 25
    · rw [e (11+4*l) (by omega), e (12+4*l) (by omega)]
    · rw [if_neg (by simp [hl]), if_neg (by simp [hl])]
  · funext l; show (if l < 25 ∧ 0 ≤ s' (11+4*l) then s' (13+4*l) else 0) = if l < 25 ∧ 0 ≤ s (11+4*l) then s (13+4*l) else 0
    by_cases hl : l < 25
    · rw [e (11+4*l) (by omega), e (13+4*l) (by omega)]
    · rw [if_neg (by simp [hl]), if_neg (by simp [hl])]
  · funext l; show (if l < 25 ∧ 0 ≤ s' (11+4*l) then s' (14+4*l) else 0) = if l < 25 ∧ 0 ≤ s (11+4*l) then s (14+4*l) else 0
    by_cases hl : l < 25
    · rw [e (11+4*l) (by omega), e (14+4*l) (by omega)]
    · rw [if_neg (by simp [hl]), if_neg (by simp [hl])]
  · funext k i; show (if k < 6 ∧ i < (s' 1).toNatClampNeg then s' (111+6*i+k) else 0) = if k < 6 ∧ i < (s 1).toNatClampNeg then s (111+6*i+k) else 0
    rw [e1]
    by_cases hl : k < 6 ∧ i < (s 1).toNatClampNeg
    · rw [if_pos hl, if_pos hl, e _ (by omega)]
    · rw [if_neg hl, if_neg hl]
  · funext l; show (if l < 4 then s' (3+l) else 0) = if l < 4 then s (3+l) else 0
    by_cases hl : l < 4
    · rw [if_pos hl, if_pos hl, e _ (by omega)]
    · rw [if_neg hl, if_neg hl]
  · funext l; show (if l < 4 then s' (7+l) else 0) = if l < 4 then s (7+l) else 0
    by_cases hl : l < 4
    · rw [if_pos hl, if_pos hl, e _ (by omega)]
    · rw [if_neg hl, if_neg hl]
  · funext l; show (if l < 10 then s' (171+l) else 0) = if l < 10 then s (171+l) else 0
    by_cases hl : l < 10
    · rw [if_pos hl, if_pos hl, e _ (by omega)]
    · rw [if_neg hl, if_neg hl]
/-- rows a copied onto row b, to k -/
def CP (a b k : Nat) (w w1 : jx_V) : Prop := (∀ c, c ≠ b → w1 c = w c) ∧ ∀ i, i < k → w1 b i = w a i
theorem CP_s {a b k w w1} (hab : a ≠ b) (h : CP a b k w w1) : CP a b (k+1) w (jx_up w1 b k (w1 a k)) := by
  refine ⟨fun c hc => by rw [jx_up_ne hc]; exact h.1 c hc, fun i hi => ?_⟩
  rw [up_g]
  by_cases e : i = k
  · rw [if_pos ⟨rfl, e⟩, e, h.1 a hab]
  · rw [if_neg (by omega)]; exact h.2 i (by omega)
theorem m_puts {w : jx_V} : ∃ w', f_X5_puts w = some w' ∧ CP 1 3 181 w w' := by
  have : ∀ d k f w1, k + d = 181 → d < f → CP 1 3 k w w1 → ∃ w', f_X5_puts_L f (nI k) w1 = some w' ∧ CP 1 3 181 w w' := by
    intro d
    induction d with
    | zero =>
      intro k f w1 hk hf h
      obtain ⟨f, rfl⟩ : ∃ q, f = q + 1 := ⟨f - 1, by omega⟩
      refine ⟨w1, ?_, by rw [← show k = 181 by omega]; exact h⟩
      rw [f_X5_puts_L, if_pos (by rw [show (181 : Int32) = nI 181 from rfl, pI_le (by omega) (by omega)]; omega)]
    | succ d ih =>
      intro k f w1 hk hf h
      obtain ⟨f, rfl⟩ : ∃ q, f = q + 1 := ⟨f - 1, by omega⟩
      obtain ⟨w', e, h'⟩ := ih (k+1) f _ (by omega) (by omega) (CP_s (by omega) h)
      refine ⟨w', ?_, h'⟩
      rw [f_X5_puts_L, if_neg (by rw [show (181 : Int32) = nI 181 from rfl, pI_le (by omega) (by omega)]; omega)]
      simp only [tn (show k < 2147483648 by omega), ib (show k < 181 by omega) (by omega), if_false, nI_add1]
      exact e
  exact this 181 0 100000 w (by omega) (by omega) ⟨fun _ _ => rfl, fun i hi => by omega⟩
theorem m_back {w : jx_V} : ∃ w', f_X5_putsBack w = some w' ∧ CP 3 1 181 w w' := by
  have : ∀ d k f w1, k + d = 181 → d < f → CP 3 1 k w w1 → ∃ w', f_X5_putsBack_L f (nI k) w1 = some w' ∧ CP 3 1 181 w w' := by
    intro d
    induction d with
    | zero =>
      intro k f w1 hk hf h
      obtain ⟨f, rfl⟩ : ∃ q, f = q + 1 := ⟨f - 1, by omega⟩
      refine ⟨w1, ?_, by rw [← show k = 181 by omega]; exact h⟩
      rw [f_X5_putsBack_L, if_pos (by rw [show (181 : Int32) = nI 181 from rfl, pI_le (by omega) (by omega)]; omega)]
    | succ d ih =>
      intro k f w1 hk hf h
      obtain ⟨f, rfl⟩ : ∃ q, f = q + 1 := ⟨f - 1, by omega⟩
      obtain ⟨w', e, h'⟩ := ih (k+1) f _ (by omega) (by omega) (CP_s (by omega) h)
      refine ⟨w', ?_, h'⟩
      rw [f_X5_putsBack_L, if_neg (by rw [show (181 : Int32) = nI 181 from rfl, pI_le (by omega) (by omega)]; omega)]
      simp only [tn (show k < 2147483648 by omega), ib (show k < 181 by omega) (by omega), if_false, nI_add1]
      exact e
  exact this 181 0 100000 w (by omega) (by omega) ⟨fun _ _ => rfl, fun i hi => by omega⟩
theorem m_image {w : jx_V} : ∃ w', f_X5_image w = some (1, jx_up w' 0 4 1) ∧ CP 1 2 181 w w' := by
  have : ∀ d k f w1, k + d = 181 → d < f → CP 1 2 k w w1 → ∃ w', f_X5_image_L f (nI k) w1 = some (1, jx_up w' 0 4 1) ∧ CP 1 2 181 w w' := by
    intro d
    induction d with
    | zero =>
      intro k f w1 hk hf h
      obtain ⟨f, rfl⟩ : ∃ q, f = q + 1 := ⟨f - 1, by omega⟩
      refine ⟨w1, ?_, by rw [← show k = 181 by omega]; exact h⟩
      rw [f_X5_image_L, if_pos (by rw [show (181 : Int32) = nI 181 from rfl, pI_le (by omega) (by omega)]; omega)]
    | succ d ih =>
      intro k f w1 hk hf h
      obtain ⟨f, rfl⟩ : ∃ q, f = q + 1 := ⟨f - 1, by omega⟩
      obtain ⟨w', e, h'⟩ := ih (k+1) f _ (by omega) (by omega) (CP_s (by omega) h)
      refine ⟨w', ?_, h'⟩
      rw [f_X5_image_L, if_neg (by rw [show (181 : Int32) = nI 181 from rfl, pI_le (by omega) (by omega)]; omega)]
      simp only [tn (show k < 2147483648 by omega), ib (show k < 181 by omega) (by omega), if_false, nI_add1]
      exact e
  exact this 181 0 100000 w (by omega) (by omega) ⟨fun _ _ => rfl, fun i hi => by omega⟩
theorem m_undo {F : Nat} {w : jx_V} (hF : 181 < F) : ∃ w', f_X5_undo_L F 0 w = some (w' 1 0, w') ∧ CP 2 1 181 w w' := by
  have : ∀ d k f w1, k + d = 181 → d < f → CP 2 1 k w w1 → ∃ w', f_X5_undo_L f (nI k) w1 = some (w' 1 0, w') ∧ CP 2 1 181 w w' := by
    intro d
    induction d with
    | zero =>
      intro k f w1 hk hf h
      obtain ⟨f, rfl⟩ : ∃ q, f = q + 1 := ⟨f - 1, by omega⟩
      refine ⟨w1, ?_, by rw [← show k = 181 by omega]; exact h⟩
      rw [f_X5_undo_L, if_pos (by rw [show (181 : Int32) = nI 181 from rfl, pI_le (by omega) (by omega)]; omega)]
    | succ d ih =>
      intro k f w1 hk hf h
      obtain ⟨f, rfl⟩ : ∃ q, f = q + 1 := ⟨f - 1, by omega⟩
      obtain ⟨w', e, h'⟩ := ih (k+1) f _ (by omega) (by omega) (CP_s (by omega) h)
      refine ⟨w', ?_, h'⟩
      rw [f_X5_undo_L, if_neg (by rw [show (181 : Int32) = nI 181 from rfl, pI_le (by omega) (by omega)]; omega)]
      simp only [tn (show k < 2147483648 by omega), ib (show k < 181 by omega) (by omega), if_false, nI_add1]
      exact e
  exact this 181 0 F w (by omega) (by omega) ⟨fun _ _ => rfl, fun i hi => by omega⟩
theorem q_image {v w} (h : R v w) : Q (f_X4_image v) (f_X5_image w) := by
  obtain ⟨N, hN, eN, eN2⟩ := cn h.ok
  obtain ⟨M, hM, eM, eM2⟩ := mn h.ok'
  obtain ⟨v', e1, b, et⟩ := x_become (v := v) (h0 := 17) (h1 := 1) (Or.inr (by omega)) (by omega)
  obtain ⟨w', e2, c⟩ := m_image (w := w)
  unfold f_X4_image
  rw [e1, e2]
  simp only [Option.bind_some]
  refine Q_i (R.mk ?_ ?_ ?_ ?_ ?_ ?_ ?_ ?_ ?_)
  · rw [cT_congr (v := v) (fun q _ _ => by rw [jx_up_ne (by omega), b q (by omega)]), jx_up_ne (by omega), c.1 1 (by omega)]; exact h.t
  · rw [cT_congr (v := v) (fun q _ _ => by rw [jx_up_ne (by omega), b q (by omega)])]; exact h.ok
  · rw [up_s, up_s]
  · exact Or.inr up_s
  · intro _
    rw [cT_congr (v := v') (fun q _ _ => by rw [jx_up_ne (by omega)]), jx_up_ne (by omega), et]
    refine ⟨?_, h.ok⟩
    rw [h.t]
    exact (mT_eq (fun k hk => c.2 k hk) (by omega)).symm
  · rw [jx_up_ne (by omega), b 53 (by omega), up_g, if_neg (by omega), c.1 0 (by omega)]; exact h.tl
  · rw [jx_up_ne (by omega), b 53 (by omega)]; exact h.tr
  · rw [jx_up_ne (by omega), b 54 (by omega), jx_up_ne (by omega), c.1 8 (by omega)]; exact h.tb
  · intro s hs
    rw [jx_up_ne (show 61 ≠ 0 by omega), jx_up_ne (show 62 ≠ 0 by omega), jx_up_ne (show 57 + s ≠ 0 by omega), jx_up_ne (show 9 ≠ 0 by omega), jx_up_ne (show 10 ≠ 0 by omega), jx_up_ne (show 11 ≠ 0 by omega), b 61 (by omega), b 62 (by omega), b (57+s) (by omega), c.1 9 (by omega), c.1 10 (by omega), c.1 11 (by omega)]
    exact h.s s hs
theorem q_undo {v w} (h : R v w) : Q (f_X4_undo v) (f_X5_undo w) := by
  unfold f_X4_undo f_X5_undo
  rw [← h.k]
  rcases h.kb with k0 | k1
  · rw [if_pos k0, if_pos k0]
    simp only [x_f3, m_f3, Option.bind_some]; exact Q_f h
  · rw [if_neg (by rw [k1]; decide), if_neg (by rw [k1]; decide)]
    obtain ⟨ek, ok⟩ := h.kt k1
    obtain ⟨N, hN, eN, eN2⟩ := cn ok
    obtain ⟨v', e1, b, et⟩ := x_become (v := v) (h0 := 1) (h1 := 17) (Or.inl (by omega)) (by omega)
    obtain ⟨w', e2, c⟩ := m_undo (F := 100000) (w := w) (by omega)
    have eM : (w 2 1).toNatClampNeg ≤ 10 := by
      have : v 17 5 = w 2 1 := congrArg Tn.n ek
      rw [← this]; omega
    have em : mT (w' 1) = cT 17 v := by rw [ek]; exact mT_eq (fun k hk => c.2 k hk) eM
    rw [e1, e2]
    simp only [Option.bind_some]
    rw [show v' 1 6 = w' 1 0 from (congrArg Tn.m et).trans (congrArg Tn.m em).symm]
    exact Q_i (R_town h (T := cT 17 v) (fun q hq => b q (by omega)) (by rw [b 53 (by omega)]) (fun q hq => c.1 q (by omega)) (by rw [c.1 0 (by omega)]) (by rw [c.1 0 (by omega)]) et em ok)
