def sr (B : Nat → Int32) (L b : Nat) : Int32 := if b < L then (if 97 ≤ B b ∧ B b ≤ 122 then 1 else if 48 ≤ B b ∧ B b ≤ 57 then 2 else if B b = 59 then 3 else 4) else 0
def TX (B : Nat → Int32) (L : Nat) (v : jx_V) : Prop := L ≤ 120 ∧ v 53 1 = nI L ∧ ∀ i, i < 120 → v 54 i = B i
def TM (B : Nat → Int32) (L : Nat) (w : jx_V) : Prop := L ≤ 120 ∧ w 0 12 = nI L ∧ ∀ i, i < 120 → w 8 i = B i
theorem TX_up {B L v j x} (h : TX B L v) (hj : j ≠ 1) : TX B L (jx_up v 53 j x) := ⟨h.1, by rw [up_g, if_neg (by omega)]; exact h.2.1, fun i hi => by rw [jx_up_ne (by omega)]; exact h.2.2 i hi⟩
theorem TM_up {B L w j x} (h : TM B L w) (hj : 13 ≤ j) : TM B L (jx_up w 0 j x) := ⟨h.1, by rw [up_g, if_neg (by omega)]; exact h.2.1, fun i hi => by rw [jx_up_ne (by omega)]; exact h.2.2 i hi⟩
theorem up_up {v : jx_V} {c j : Nat} {x y : Int32} : jx_up (jx_up v c j x) c j y = jx_up v c j y := by
  funext a b; simp only [up_g]; by_cases e : a = c ∧ b = j
  · rw [if_pos e, if_pos e]
  · rw [if_neg e, if_neg e, if_neg e]
theorem x_sort {B L i v} (h : TX B L v) (hi : i ≤ 120) : f_X2_sortAt (nI i) v = some (sr B L i, v) := by
  have hL := h.1
  unfold f_X2_sortAt sr
  rw [if_neg (nI_neg (by omega)), h.2.1]
  by_cases c : i < L
  · rw [if_pos (show nI i < nI L by rw [pI_lt (by omega) (by omega)]; exact c), if_pos c]
    simp only [tn (show i < 2147483648 by omega), ib (show i < 120 by omega) (show 120 ≤ 100000 by omega), if_false, h.2.2 i (by omega)]
    generalize B i = y
    have fin : (if y < 48 then (if y = 59 then some ((3 : Int32), v) else some (4, v)) else if 57 < y then (if y = 59 then some (3, v) else some (4, v)) else some (2, v)) = some (if 48 ≤ y ∧ y ≤ 57 then 2 else if y = 59 then 3 else 4, v) := by
      by_cases d : y < 48
      · have n : ¬ (48 ≤ y ∧ y ≤ 57) := fun k => Int32.not_lt.mpr k.1 d
        rw [if_pos d, if_neg n]; split <;> rfl
      · rw [if_neg d]
        by_cases f : 57 < y
        · have n : ¬ (48 ≤ y ∧ y ≤ 57) := fun k => Int32.not_lt.mpr k.2 f
          rw [if_pos f, if_neg n]; split <;> rfl
        · have n : 48 ≤ y ∧ y ≤ 57 := ⟨Int32.not_lt.mp d, Int32.not_lt.mp f⟩
          rw [if_neg f, if_pos n]
    rw [fin]
    by_cases a : y < 97
    · have n : ¬ (97 ≤ y ∧ y ≤ 122) := fun k => Int32.not_lt.mpr k.1 a
      rw [if_pos a, if_neg n]
    · rw [if_neg a]
      by_cases b : 122 < y
      · have n : ¬ (97 ≤ y ∧ y ≤ 122) := fun k => Int32.not_lt.mpr k.2 b
        rw [if_pos b, if_neg n]
      · have n : 97 ≤ y ∧ y ≤ 122 := ⟨Int32.not_lt.mp a, Int32.not_lt.mp b⟩
        rw [if_neg b, if_pos n]
  · rw [if_neg (show ¬ nI i < nI L by rw [pI_lt (by omega) (by omega)]; exact c), if_neg c]
def bte (B : Nat → Int32) (L i : Nat) : Int32 := if i < L then B i else -1
theorem m_byte {B L i w} (h : TM B L w) (hi : i ≤ 120) : f_X5_byteAt (nI i) w = some (bte B L i, w) := by
  have hL := h.1
  unfold f_X5_byteAt bte
  rw [h.2.1]
  by_cases c : i < L
  · rw [if_neg (show ¬ nI L ≤ nI i by rw [pI_le (by omega) (by omega)]; omega), if_pos c]
    simp only [tn (show i < 2147483648 by omega), ib (show i < 120 by omega) (show 120 ≤ 100000 by omega), if_false, h.2.2 i (by omega)]
  · rw [if_pos (show nI L ≤ nI i by rw [pI_le (by omega) (by omega)]; omega), if_neg c]
theorem sr_0 {B L b} (h : b < L) : sr B L b ≠ 0 := by
  unfold sr; rw [if_pos h]
  split
  · decide
  · split
    · decide
    · split <;> decide
theorem sr_z {B L b} (h : ¬ b < L) : sr B L b = 0 := by unfold sr; rw [if_neg h]
theorem sr_lt {B L b} (h : sr B L b ≠ 0) : b < L := by
  by_cases c : b < L
  · exact c
  · exact absurd (sr_z c) h
theorem lt_bt {B L b} : (97 ≤ bte B L b ∧ bte B L b ≤ 122) ↔ sr B L b = 1 := by
  unfold bte sr
  by_cases c : b < L
  · rw [if_pos c, if_pos c]
    by_cases a : 97 ≤ B b ∧ B b ≤ 122
    · rw [if_pos a]; exact ⟨fun _ => rfl, fun _ => a⟩
    · rw [if_neg a]
      refine ⟨fun k => absurd k a, fun k => ?_⟩
      split at k
      · exact absurd k (by decide)
      · split at k <;> exact absurd k (by decide)
  · rw [if_neg c, if_neg c]; exact ⟨fun k => absurd k (by decide), fun k => absurd k (by decide)⟩
theorem dg_bt {B L b} : (48 ≤ bte B L b ∧ bte B L b ≤ 57) ↔ sr B L b = 2 := by
  unfold bte sr
  by_cases c : b < L
  · rw [if_pos c, if_pos c]
    by_cases a : 97 ≤ B b ∧ B b ≤ 122
    · rw [if_pos a]
      refine ⟨fun k => ?_, fun k => absurd k (by decide)⟩
      have k2 := Int32.le_trans a.1 k.2
      exact absurd k2 (by decide)
    · rw [if_neg a]
      by_cases d : 48 ≤ B b ∧ B b ≤ 57
      · rw [if_pos d]; exact ⟨fun _ => rfl, fun _ => d⟩
      · rw [if_neg d]
        refine ⟨fun k => absurd k d, fun k => ?_⟩
        split at k <;> exact absurd k (by decide)
  · rw [if_neg c, if_neg c]; exact ⟨fun k => absurd k (by decide), fun k => absurd k (by decide)⟩
def skb (B : Nat → Int32) : Nat → Nat → Nat
  | 0, i => i
  | d + 1, i => if B i = 32 then skb B d (i+1) else i
theorem skb_r {B} : ∀ d i, i ≤ skb B d i ∧ skb B d i ≤ i + d ∧ (skb B d i < i + d → B (skb B d i) ≠ 32)
  | 0, i => ⟨Nat.le_refl _, Nat.le_refl _, fun h => absurd h (Nat.lt_irrefl _)⟩
  | d + 1, i => by
    rw [skb]
    by_cases c : B i = 32
    · rw [if_pos c]
      obtain ⟨a, b, e⟩ := skb_r (B := B) d (i+1)
      exact ⟨by omega, by omega, fun h => e (by omega)⟩
    · rw [if_neg c]; exact ⟨Nat.le_refl _, by omega, fun _ => c⟩
theorem x_nt0 {B L} : ∀ d i f v, i + d = L → d < f → TX B L v → v 53 4 = nI i → ∃ f2, f ≤ f2 + d ∧ f_X2_nextToken_L f 0 v = f_X2_nextToken_L f2 0 (jx_up v 53 4 (nI (skb B d i))) := by
  intro d
  induction d with
  | zero =>
    intro i f v hi hf h e
    refine ⟨f, by omega, ?_⟩
    rw [skb, ← e, up_id]
  | succ d ih =>
    intro i f v hi hf h e
    have hL := h.1
    rw [skb]
    by_cases c : B i = 32
    · rw [if_pos c]
      obtain ⟨f, rfl⟩ : ∃ q, f = q + 1 := ⟨f - 1, by omega⟩
      obtain ⟨f2, g1, g2⟩ := ih (i+1) f (jx_up v 53 4 (nI (i+1))) (by omega) (by omega) (TX_up h (by omega)) up_s
      refine ⟨f2, by omega, ?_⟩
      rw [up_up] at g2
      rw [← g2, f_X2_nextToken_L, if_pos rfl, h.2.1, e, if_neg (show ¬ nI L ≤ nI i by rw [pI_le (by omega) (by omega)]; omega)]
      simp only [tn (show i < 2147483648 by omega), ib (show i < 120 by omega) (show 120 ≤ 100000 by omega), if_false, h.2.2 i (by omega), if_pos c, nI_add1]
    · rw [if_neg c, ← e, up_id]; exact ⟨f, by omega, rfl⟩
def VV (B : Nat → Int32) (L b : Nat) (v : jx_V) : jx_V := jx_up (jx_up (jx_up v 53 3 (nI b)) 53 2 (sr B L b)) 53 5 0
theorem x_nt1 {B L b f v} (h : TX B L v) (hb : b ≤ L) (e : v 53 4 = nI b) (hB : b < L → B b ≠ 32) : f_X2_nextToken_L (f+1) 0 v = (if sr B L b = 3 then some (jx_up (VV B L b v) 53 4 (nI (b+1))) else if sr B L b = 1 then f_X2_nextToken_L f 1 (VV B L b v) else if sr B L b = 2 then f_X2_nextToken_L f 1 (VV B L b v) else some (VV B L b v)) := by
  have hL := h.1
  have es : f_X2_sortAt (jx_up v 53 3 (v 53 4) 53 3) (jx_up v 53 3 (v 53 4)) = some (sr B L b, jx_up v 53 3 (nI b)) := by rw [up_s, e]; exact x_sort (TX_up h (by omega)) (by omega)
  have e2 : jx_up (jx_up (jx_up v 53 3 (nI b)) 53 2 (sr B L b)) 53 5 0 53 2 = sr B L b := by rw [up_g, if_neg (by omega), up_s]
  have e4 : jx_up (jx_up (jx_up v 53 3 (nI b)) 53 2 (sr B L b)) 53 5 0 53 4 = nI b := by rw [up_g, if_neg (by omega), up_g, if_neg (by omega), up_g, if_neg (by omega)]; exact e
  rw [f_X2_nextToken_L, if_pos rfl]
  simp only [es, Option.bind_some, e2, e4, nI_add1]
  unfold VV
  rw [h.2.1, e]
  by_cases c : b < L
  · rw [if_neg (show ¬ nI L ≤ nI b by rw [pI_le (by omega) (by omega)]; omega)]
    simp only [tn (show b < 2147483648 by omega), ib (show b < 120 by omega) (show 120 ≤ 100000 by omega), if_false, h.2.2 b (by omega), if_neg (hB c)]
  · rw [if_pos (show nI L ≤ nI b by rw [pI_le (by omega) (by omega)]; omega)]
def rne (q : Nat → Bool) : Nat → Nat → Nat
  | 0, i => i
  | d + 1, i => if q i then rne q d (i+1) else i
theorem rne_r {q} : ∀ d i, i ≤ rne q d i ∧ rne q d i ≤ i + d ∧ ∀ k, i ≤ k → k < rne q d i → q k = true
  | 0, i => ⟨Nat.le_refl _, Nat.le_refl _, fun k a b => absurd b (Nat.not_lt.mpr a)⟩
  | d + 1, i => by
    rw [rne]
    by_cases c : q i = true
    · rw [if_pos c]
      obtain ⟨a, b, e⟩ := rne_r (q := q) d (i+1)
      refine ⟨by omega, by omega, fun k h1 h2 => ?_⟩
      by_cases x : k = i
      · rw [x]; exact c
      · exact e k (by omega) h2
    · rw [if_neg c]; exact ⟨Nat.le_refl _, by omega, fun k a b => absurd b (Nat.not_lt.mpr a)⟩
def cf (B : Nat → Int32) (s : Int32) : Nat → Nat → Nat → Nat
  | 0, _, n => n
  | k + 1, i, n => cf B s k (i+1) (if s = 2 then min 1000 (10 * n + ((B i).toNatClampNeg - 48)) else 0)
theorem dgt {x : Int32} (h : 48 ≤ x ∧ x ≤ 57) : ∃ y, 48 ≤ y ∧ y ≤ 57 ∧ x = nI y := by
  obtain ⟨y, hy, e⟩ := ix (n := 57) rfl (by omega) ⟨Int32.le_trans (by decide) h.1, h.2⟩
  subst e
  have h1 := h.1
  rw [show (48 : Int32) = nI 48 from rfl, pI_le (by omega) (by omega)] at h1
  exact ⟨y, h1, by omega, rfl⟩
theorem ltr {x : Int32} (h : 97 ≤ x ∧ x ≤ 122) : ∃ y, 97 ≤ y ∧ y ≤ 122 ∧ x = nI y := by
  obtain ⟨y, hy, e⟩ := ix (n := 122) rfl (by omega) ⟨Int32.le_trans (by decide) h.1, h.2⟩
  subst e
  have h1 := h.1
  rw [show (97 : Int32) = nI 97 from rfl, pI_le (by omega) (by omega)] at h1
  exact ⟨y, h1, by omega, rfl⟩
theorem sr2 {B L i} (h : sr B L i = 2) : ∃ y, 48 ≤ y ∧ y ≤ 57 ∧ B i = nI y := by
  have h1 := dg_bt.mpr h
  have h2 := sr_lt (B := B) (L := L) (b := i) (by rw [h]; decide)
  unfold bte at h1
  rw [if_pos h2] at h1
  exact dgt h1
theorem sr1 {B L i} (h : sr B L i = 1) : ∃ y, 97 ≤ y ∧ y ≤ 122 ∧ B i = nI y := by
  have h1 := lt_bt.mpr h
  have h2 := sr_lt (B := B) (L := L) (b := i) (by rw [h]; decide)
  unfold bte at h1
  rw [if_pos h2] at h1
  exact ltr h1
theorem ten {n y : Nat} (h : 48 ≤ y) : 10 * nI n + nI y - 48 = nI (10 * n + (y - 48)) := by
  rw [show (10 : Int32) = nI 10 from rfl, nI_mul, pI_add, show (48 : Int32) = nI 48 from rfl, nI_sub (by omega)]
  congr 1; omega
theorem mn1000 {x : Nat} (h : x < 100000) : (if (1000 : Int32) ≤ nI x then (1000 : Int32) else nI x) = nI (min 1000 x) := by
  by_cases c : 1000 ≤ x
  · rw [if_pos (show (1000 : Int32) ≤ nI x by rw [show (1000 : Int32) = nI 1000 from rfl, pI_le (by omega) (by omega)]; exact c), show min 1000 x = 1000 by omega]; rfl
  · rw [if_neg (show ¬ (1000 : Int32) ≤ nI x by rw [show (1000 : Int32) = nI 1000 from rfl, pI_le (by omega) (by omega)]; exact c), show min 1000 x = x by omega]
theorem x_nt2 {B L s} (hs : s = 1 ∨ s = 2) : ∀ d i f v n, i + d = L → d < f → TX B L v → v 53 4 = nI i → v 53 2 = s → v 53 5 = nI n → n ≤ 1000 →
    ∃ v', f_X2_nextToken_L f 1 v = some v' ∧ (∀ c, c ≠ 53 → v' c = v c) ∧ (∀ j, j ≠ 4 → j ≠ 5 → v' 53 j = v 53 j) ∧ v' 53 4 = nI (rne (fun k => decide (sr B L k = s)) d i) ∧ v' 53 5 = nI (cf B s (rne (fun k => decide (sr B L k = s)) d i - i) i n) := by
  intro d
  induction d with
  | zero =>
    intro i f v n hi hf h e4 e2 e5 hn
    have hL := h.1
    obtain ⟨f, rfl⟩ : ∃ q, f = q + 1 := ⟨f - 1, by omega⟩
    refine ⟨v, ?_, fun _ _ => rfl, fun _ _ _ => rfl, e4, ?_⟩
    · rw [f_X2_nextToken_L, if_neg (by omega), if_pos rfl, h.2.1, e4, if_pos (show nI L ≤ nI i by rw [pI_le (by omega) (by omega)]; omega)]
    · rw [rne, Nat.sub_self, cf]; exact e5
  | succ d ih =>
    intro i f v n hi hf h e4 e2 e5 hn
    have hL := h.1
    obtain ⟨f, rfl⟩ : ∃ q, f = q + 1 := ⟨f - 1, by omega⟩
    rw [f_X2_nextToken_L, if_neg (by omega), if_pos rfl, h.2.1, e4, if_neg (show ¬ nI L ≤ nI i by rw [pI_le (by omega) (by omega)]; omega), x_sort h (by omega), Option.bind_some]
    simp only [e2]
    by_cases c : sr B L i = s
    · rw [if_pos c]
      have rs1 : rne (fun k => decide (sr B L k = s)) (d+1) i = rne (fun k => decide (sr B L k = s)) d (i+1) := by
        rw [rne, if_pos (by simp [c])]
      obtain ⟨r1, r2, _⟩ := rne_r (q := fun k => decide (sr B L k = s)) d (i+1)
      have step : ∀ n' v1, v1 = jx_up (jx_up v 53 5 (nI n')) 53 4 (nI (i+1)) → n' = (if s = 2 then min 1000 (10 * n + ((B i).toNatClampNeg - 48)) else 0) → 
          ∃ v', f_X2_nextToken_L f 1 v1 = some v' ∧ (∀ c, c ≠ 53 → v' c = v c) ∧ (∀ j, j ≠ 4 → j ≠ 5 → v' 53 j = v 53 j) ∧ v' 53 4 = nI (rne (fun k => decide (sr B L k = s)) (d+1) i) ∧ v' 53 5 = nI (cf B s (rne (fun k => decide (sr B L k = s)) (d+1) i - i) i n) := by
        intro n' v1 e1 en
        obtain ⟨v', g1, g2, g3, g4, g5⟩ := ih (i+1) f v1 n' (by omega) (by omega) (by rw [e1]; exact TX_up (TX_up h (by omega)) (by omega)) (by rw [e1]; exact up_s) (by rw [e1, up_g, if_neg (by omega), up_g, if_neg (by omega)]; exact e2) (by rw [e1, up_g, if_neg (by omega)]; exact up_s) (by rw [en]; split <;> omega)
        refine ⟨v', g1, fun c hc => by rw [g2 c hc, e1, jx_up_ne hc, jx_up_ne hc], fun j h4 h5 => by rw [g3 j h4 h5, e1, up_g, if_neg (by omega), up_g, if_neg (by omega)], by rw [rs1]; exact g4, ?_⟩
        rw [rs1, g5, show rne (fun k => decide (sr B L k = s)) d (i+1) - i = (rne (fun k => decide (sr B L k = s)) d (i+1) - (i+1)) + 1 by omega, cf, en]
      by_cases s2 : s = 2
      · obtain ⟨y, hy1, hy2, ey⟩ := sr2 (c.trans s2)
        rw [if_pos s2, e4]
        simp only [tn (show i < 2147483648 by omega), ib (show i < 120 by omega) (show 120 ≤ 100000 by omega), if_false, h.2.2 i (by omega), ey, e5, ten hy1, j_min, Option.bind_some, mn1000 (show 10 * n + (y - 48) < 100000 by omega)]
        refine step (min 1000 (10 * n + (y - 48))) _ ?_ ?_
        · rw [up_g, if_neg (by omega), e4, nI_add1]
        · rw [if_pos s2, ey, tn (by omega)]
      · rw [if_neg s2]
        refine step 0 _ ?_ ?_
        · rw [up_g, if_neg (by omega), e4, nI_add1]; rfl
        · rw [if_neg s2]
    · rw [if_neg c]
      have rs0 : rne (fun k => decide (sr B L k = s)) (d+1) i = i := by
        rw [rne, if_neg (by simp [c])]
      refine ⟨v, rfl, fun _ _ => rfl, fun _ _ _ => rfl, by rw [rs0]; exact e4, ?_⟩
      rw [rs0, Nat.sub_self, cf]; exact e5
theorem m_tk0 {B L} : ∀ d i f w, i + d = L → d < f → TM B L w → w 0 13 = nI i → ∃ f2, f ≤ f2 + d ∧ f_X5_token_L f 0 0 0 w = f_X5_token_L f2 0 0 0 (jx_up w 0 13 (nI (skb B d i))) := by
  intro d
  induction d with
  | zero =>
    intro i f w hi hf h e
    refine ⟨f, by omega, ?_⟩
    rw [skb, ← e, up_id]
  | succ d ih =>
    intro i f w hi hf h e
    have hL := h.1
    rw [skb]
    by_cases c : B i = 32
    · rw [if_pos c]
      obtain ⟨f, rfl⟩ : ∃ q, f = q + 1 := ⟨f - 1, by omega⟩
      obtain ⟨f2, g1, g2⟩ := ih (i+1) f (jx_up w 0 13 (nI (i+1))) (by omega) (by omega) (TM_up h (by omega)) up_s
      refine ⟨f2, by omega, ?_⟩
      rw [up_up] at g2
      have eb : bte B L i = 32 := by unfold bte; rw [if_pos (by omega)]; exact c
      rw [← g2, f_X5_token_L, if_pos rfl, e, m_byte h (by omega), Option.bind_some]
      simp only [eb, if_true, e, nI_add1]
    · rw [if_neg c, ← e, up_id]; exact ⟨f, by omega, rfl⟩
theorem m_tk1 {B L b f w} (h : TM B L w) (hb : b ≤ L) (e : w 0 13 = nI b) (hB : b < L → B b ≠ 32) : f_X5_token_L (f+1) 0 0 0 w = f_X5_token_L f 1 (if sr B L b = 1 then 1 else 0) (if sr B L b = 2 then 1 else 0) (jx_up w 0 14 (nI (if b < L then b + 1 else b))) := by
  have hL := h.1
  have eb : ¬ bte B L b = 32 := by
    unfold bte
    by_cases c : b < L
    · rw [if_pos c]; exact hB c
    · rw [if_neg c]; decide
  have i1 : (if 97 ≤ bte B L b ∧ bte B L b ≤ 122 then (1 : Int32) else 0) = if sr B L b = 1 then 1 else 0 := by simp only [lt_bt]
  have i2 : (if 48 ≤ bte B L b ∧ bte B L b ≤ 57 then (1 : Int32) else 0) = if sr B L b = 2 then 1 else 0 := by simp only [dg_bt]
  rw [f_X5_token_L, if_pos rfl, e]
  simp only [m_byte h (show b ≤ 120 by omega), Option.bind_some, if_neg eb, e, m_isLetter, m_isDigit, i1, i2, h.2.1, nI_add1]
  by_cases c : b < L
  · rw [if_neg (show ¬ nI L ≤ nI b by rw [pI_le (by omega) (by omega)]; omega), if_pos c]
  · rw [if_pos (show nI L ≤ nI b by rw [pI_le (by omega) (by omega)]; omega), if_neg c]
theorem m_tk2 {B L s} {x1 x2 : Int32} (hs : (s = 1 ∧ x1 = 1 ∧ x2 = 0) ∨ (s = 2 ∧ x1 = 0 ∧ x2 = 1)) : ∀ d i f w, i + d = L → d < f → TM B L w → w 0 14 = nI i → f_X5_token_L f 1 x1 x2 w = some (jx_up w 0 14 (nI (rne (fun k => decide (sr B L k = s)) d i))) := by
  have i1 : ∀ i, (if 97 ≤ bte B L i ∧ bte B L i ≤ 122 then (1 : Int32) else 0) = if sr B L i = 1 then 1 else 0 := fun i => by simp only [lt_bt]
  have i2 : ∀ i, (if 48 ≤ bte B L i ∧ bte B L i ≤ 57 then (1 : Int32) else 0) = if sr B L i = 2 then 1 else 0 := fun i => by simp only [dg_bt]
  intro d
  induction d with
  | zero =>
    intro i f w hi hf h e
    have hL := h.1
    obtain ⟨f, rfl⟩ : ∃ q, f = q + 1 := ⟨f - 1, by omega⟩
    have n1 : ¬ sr B L i = 1 := by rw [sr_z (by omega)]; decide
    have n2 : ¬ sr B L i = 2 := by rw [sr_z (by omega)]; decide
    rw [rne, ← e, up_id, f_X5_token_L, if_neg (by omega), if_pos rfl, e]
    rcases hs with ⟨rfl, rfl, rfl⟩ | ⟨rfl, rfl, rfl⟩
    · simp only [o10, z00, if_true, if_false, m_byte h (show i ≤ 120 by omega), Option.bind_some, m_isLetter, i1, if_neg n1]
    · simp only [o10, z00, if_true, if_false, m_byte h (show i ≤ 120 by omega), Option.bind_some, m_isDigit, i2, if_neg n2]
  | succ d ih =>
    intro i f w hi hf h e
    have hL := h.1
    obtain ⟨f, rfl⟩ : ∃ q, f = q + 1 := ⟨f - 1, by omega⟩
    have g := ih (i+1) f (jx_up w 0 14 (nI (i+1))) (by omega) (by omega) (TM_up h (by omega)) up_s
    rw [up_up] at g
    rw [rne, f_X5_token_L, if_neg (by omega), if_pos rfl, e]
    by_cases c : sr B L i = s
    · rw [if_pos (show decide (sr B L i = s) = true by simp [c])]
      rcases hs with ⟨rfl, rfl, rfl⟩ | ⟨rfl, rfl, rfl⟩
      · simp only [o10, z00, if_true, if_false, m_byte h (show i ≤ 120 by omega), Option.bind_some, m_isLetter, i1, if_pos c, e, nI_add1]; exact g
      · simp only [o10, z00, if_true, if_false, m_byte h (show i ≤ 120 by omega), Option.bind_some, m_isDigit, i2, if_pos c, e, nI_add1]; exact g
    · rw [if_neg (show ¬ decide (sr B L i = s) = true by simp [c]), ← e, up_id]
      rw [e]
      rcases hs with ⟨rfl, rfl, rfl⟩ | ⟨rfl, rfl, rfl⟩
      · simp only [o10, z00, if_true, if_false, m_byte h (show i ≤ 120 by omega), Option.bind_some, m_isLetter, i1, if_neg c]
      · simp only [o10, z00, if_true, if_false, m_byte h (show i ≤ 120 by omega), Option.bind_some, m_isDigit, i2, if_neg c]
def te (B : Nat → Int32) (L b : Nat) : Nat := if sr B L b = 3 then b + 1 else if sr B L b = 1 ∨ sr B L b = 2 then rne (fun k => decide (sr B L k = sr B L b)) (L - b) b else b
def tm (B : Nat → Int32) (L b : Nat) : Nat := if sr B L b = 1 ∨ sr B L b = 2 then rne (fun k => decide (sr B L k = sr B L b)) (L - b) b else if b < L then b + 1 else b
def nm (B : Nat → Int32) (L b : Nat) : Nat := if sr B L b = 1 ∨ sr B L b = 2 then cf B (sr B L b) (te B L b - b) b 0 else 0
theorem te_r {B L b} (h : b ≤ L) : b ≤ te B L b ∧ te B L b ≤ L := by
  unfold te
  by_cases c : sr B L b = 3
  · rw [if_pos c]
    have := sr_lt (B := B) (L := L) (b := b) (by rw [c]; decide)
    omega
  · rw [if_neg c]
    split
    · obtain ⟨a, d, _⟩ := rne_r (q := fun k => decide (sr B L k = sr B L b)) (L - b) b
      omega
    · omega
theorem tm_r {B L b} (h : b ≤ L) : b ≤ tm B L b ∧ tm B L b ≤ L := by
  unfold tm
  split
  · obtain ⟨a, d, _⟩ := rne_r (q := fun k => decide (sr B L k = sr B L b)) (L - b) b
    omega
  · split <;> omega
theorem te_tm {B L b} (h : sr B L b ≠ 4) : te B L b = tm B L b := by
  unfold te tm
  by_cases c : sr B L b = 3
  · have := sr_lt (B := B) (L := L) (b := b) (by rw [c]; decide)
    rw [if_pos c, if_neg (by rw [c]; decide), if_pos this]
  · rw [if_neg c]
    by_cases d : sr B L b = 1 ∨ sr B L b = 2
    · rw [if_pos d, if_pos d]
    · rw [if_neg d, if_neg d]
      by_cases f : b < L
      · exfalso
        unfold sr at h c d
        rw [if_pos f] at h c d
        split at h
        · rename_i x; rw [if_pos x] at d; exact d (Or.inl rfl)
        · rename_i x
          rw [if_neg x] at c d
          split at h
          · rename_i y; rw [if_pos y] at d; exact d (Or.inr rfl)
          · rename_i y
            rw [if_neg y] at c
            split at h
            · rename_i z; rw [if_pos z] at c; exact c rfl
            · exact h rfl
      · rw [if_neg f]
theorem rne_s {q : Nat → Bool} {L b : Nat} (h : b < L) (hq : q b = true) : rne q (L - b) b = rne q (L - (b + 1)) (b + 1) := by
  rw [show L - b = (L - (b + 1)) + 1 by omega, rne, if_pos hq]
theorem te_gt {B L b} (h : sr B L b = 1 ∨ sr B L b = 2 ∨ sr B L b = 3) : b < te B L b := by
  have hl : b < L := sr_lt (by rcases h with c | c | c <;> rw [c] <;> decide)
  unfold te
  by_cases c : sr B L b = 3
  · rw [if_pos c]; omega
  · rw [if_neg c]
    have d : sr B L b = 1 ∨ sr B L b = 2 := by
      rcases h with x | x | x
      · exact Or.inl x
      · exact Or.inr x
      · exact absurd x c
    rw [if_pos d, rne_s hl (by simp)]
    have := (rne_r (q := fun k => decide (sr B L k = sr B L b)) (L - (b + 1)) (b + 1)).1
    omega
theorem x_nxt {B L e v} (h : TX B L v) (he : e ≤ L) (e4 : v 53 4 = nI e) : ∃ v', f_X2_nextToken v = some v' ∧ (∀ c, c ≠ 53 → v' c = v c) ∧ v' 53 1 = v 53 1 ∧ v' 53 6 = v 53 6 ∧ v' 53 3 = nI (skb B (L - e) e) ∧ v' 53 2 = sr B L (skb B (L - e) e) ∧ v' 53 4 = nI (te B L (skb B (L - e) e)) ∧ v' 53 5 = nI (nm B L (skb B (L - e) e)) := by
  have hL := h.1
  obtain ⟨f2, g1, g2⟩ := x_nt0 (B := B) (L := L) (L - e) e 100000 v (by omega) (by omega) h e4
  obtain ⟨s1, s2, s3⟩ := skb_r (B := B) (L - e) e
  obtain ⟨f2, rfl⟩ : ∃ q, f2 = q + 1 := ⟨f2 - 1, by omega⟩
  unfold f_X2_nextToken
  generalize skb B (L - e) e = b at *
  have h1 : TX B L (jx_up v 53 4 (nI b)) := TX_up h (by omega)
  rw [g2, x_nt1 h1 (by omega) up_s (fun k => s3 (by omega))]
  have V2 : VV B L b (jx_up v 53 4 (nI b)) 53 2 = sr B L b := by unfold VV; rw [up_g, if_neg (by omega), up_s]
  have V3 : VV B L b (jx_up v 53 4 (nI b)) 53 3 = nI b := by unfold VV; rw [up_g, if_neg (by omega), up_g, if_neg (by omega), up_s]
  have V4 : VV B L b (jx_up v 53 4 (nI b)) 53 4 = nI b := by unfold VV; rw [up_g, if_neg (by omega), up_g, if_neg (by omega), up_g, if_neg (by omega), up_s]
  have V5 : VV B L b (jx_up v 53 4 (nI b)) 53 5 = 0 := by unfold VV; rw [up_s]
  have V1 : VV B L b (jx_up v 53 4 (nI b)) 53 1 = v 53 1 := by unfold VV; rw [up_g, if_neg (by omega), up_g, if_neg (by omega), up_g, if_neg (by omega), up_g, if_neg (by omega)]
  have V6 : VV B L b (jx_up v 53 4 (nI b)) 53 6 = v 53 6 := by unfold VV; rw [up_g, if_neg (by omega), up_g, if_neg (by omega), up_g, if_neg (by omega), up_g, if_neg (by omega)]
  have Vc : ∀ c, c ≠ 53 → VV B L b (jx_up v 53 4 (nI b)) c = v c := fun c hc => by unfold VV; rw [jx_up_ne hc, jx_up_ne hc, jx_up_ne hc, jx_up_ne hc]
  have VT : TX B L (VV B L b (jx_up v 53 4 (nI b))) := TX_up (TX_up (TX_up h1 (by omega)) (by omega)) (by omega)
  generalize VV B L b (jx_up v 53 4 (nI b)) = V at *
  by_cases c3 : sr B L b = 3
  · rw [if_pos c3]
    refine ⟨_, rfl, fun c hc => by rw [jx_up_ne hc]; exact Vc c hc, by rw [up_g, if_neg (by omega)]; exact V1, by rw [up_g, if_neg (by omega)]; exact V6, by rw [up_g, if_neg (by omega)]; exact V3, by rw [up_g, if_neg (by omega)]; exact V2, ?_, ?_⟩
    · rw [up_s]; unfold te; rw [if_pos c3]
    · rw [up_g, if_neg (by omega), V5]; unfold nm; rw [if_neg (by rw [c3]; decide)]; rfl
  · rw [if_neg c3]
    by_cases c12 : sr B L b = 1 ∨ sr B L b = 2
    · obtain ⟨v', r1, r2, r3, r4, r5⟩ := x_nt2 (B := B) (L := L) (s := sr B L b) c12 (L - b) b f2 V 0 (by omega) (by omega) VT V4 V2 V5 (by omega)
      refine ⟨v', ?_, fun c hc => by rw [r2 c hc]; exact Vc c hc, by rw [r3 1 (by omega) (by omega)]; exact V1, by rw [r3 6 (by omega) (by omega)]; exact V6, by rw [r3 3 (by omega) (by omega)]; exact V3, by rw [r3 2 (by omega) (by omega)]; exact V2, ?_, ?_⟩
      · rcases c12 with x | x
        · rw [if_pos x]; exact r1
        · rw [if_neg (by rw [x]; decide), if_pos x]; exact r1
      · rw [r4]; unfold te; rw [if_neg c3, if_pos c12]
      · rw [r5]; unfold nm te; rw [if_pos c12, if_neg c3, if_pos c12]
    · rw [if_neg (fun k => c12 (Or.inl k)), if_neg (fun k => c12 (Or.inr k))]
      refine ⟨V, rfl, Vc, V1, V6, V3, V2, ?_, ?_⟩
      · rw [V4]; unfold te; rw [if_neg c3, if_neg c12]
      · rw [V5]; unfold nm; rw [if_neg c12]; rfl
theorem m_nxt {B L e w} (h : TM B L w) (he : e ≤ L) (e4 : w 0 14 = nI e) : ∃ w', f_X5_token w = some w' ∧ (∀ c, c ≠ 0 → w' c = w c) ∧ (∀ j, j ≠ 13 → j ≠ 14 → w' 0 j = w 0 j) ∧ w' 0 13 = nI (skb B (L - e) e) ∧ w' 0 14 = nI (tm B L (skb B (L - e) e)) := by
  have hL := h.1
  have h0 : TM B L (jx_up w 0 13 (nI e)) := TM_up h (by omega)
  obtain ⟨f2, g1, g2⟩ := m_tk0 (B := B) (L := L) (L - e) e 100000 (jx_up w 0 13 (nI e)) (by omega) (by omega) h0 up_s
  obtain ⟨s1, s2, s3⟩ := skb_r (B := B) (L - e) e
  obtain ⟨f2, rfl⟩ : ∃ q, f2 = q + 1 := ⟨f2 - 1, by omega⟩
  unfold f_X5_token
  rw [e4]
  generalize skb B (L - e) e = b at *
  rw [up_up] at g2
  have h1 : TM B L (jx_up w 0 13 (nI b)) := TM_up h (by omega)
  rw [g2, m_tk1 h1 (by omega) up_s (fun k => s3 (by omega))]
  by_cases c12 : sr B L b = 1 ∨ sr B L b = 2
  · have hb : b < L := sr_lt (by rcases c12 with x | x <;> rw [x] <;> decide)
    rw [if_pos hb]
    rw [m_tk2 (B := B) (L := L) (s := sr B L b) (by
      rcases c12 with x | x
      · exact Or.inl ⟨x, if_pos x, if_neg (by rw [x]; decide)⟩
      · exact Or.inr ⟨x, if_neg (by rw [x]; decide), if_pos x⟩) (L - (b+1)) (b+1) f2 _ (by omega) (by omega) (TM_up h1 (by omega)) up_s, up_up]
    refine ⟨_, rfl, fun c hc => by rw [jx_up_ne hc, jx_up_ne hc], fun j a b => by rw [up_g, if_neg (by omega), up_g, if_neg (by omega)], by rw [up_g, if_neg (by omega), up_s], ?_⟩
    rw [up_s]; unfold tm; rw [if_pos c12, rne_s hb (by simp)]
  · obtain ⟨f2, rfl⟩ : ∃ q, f2 = q + 1 := ⟨f2 - 1, by omega⟩
    rw [if_neg (fun k => c12 (Or.inl k)), if_neg (fun k => c12 (Or.inr k)), f_X5_token_L, if_neg (by omega), if_pos rfl, if_pos rfl, if_pos rfl]
    refine ⟨_, rfl, fun c hc => by rw [jx_up_ne hc, jx_up_ne hc], fun j a b => by rw [up_g, if_neg (by omega), up_g, if_neg (by omega)], by rw [up_g, if_neg (by omega), up_s], ?_⟩
    rw [up_s]; unfold tm; rw [if_neg c12]
