theorem tok_s {B L b s} (hs : s = 1 ∨ s = 2) (h : sr B L b = s) : ∀ i, b ≤ i → i < te B L b → sr B L i = s := by
  intro i h1 h2
  unfold te at h2
  rw [if_neg (by rw [h]; rcases hs with x | x <;> rw [x] <;> decide), if_pos (by rw [h]; exact hs), h] at h2
  have := (rne_r (q := fun k => decide (sr B L k = s)) (L - b) b).2.2 i h1 h2
  exact of_decide_eq_true this
def hN (C : Nat → Nat) : Nat → Nat
  | 0 => 0
  | m + 1 => if 36028797018963967 < hN C m then hN C m else 32 * hN C m + C m
theorem hN_b {C} : ∀ m, (∀ i, i < m → C i ≤ 26) → hN C m ≤ 1152921504606846970
  | 0, _ => Nat.zero_le _
  | m + 1, h => by
    rw [hN]
    have h1 := hN_b (C := C) m (fun i hi => h i (by omega))
    have h2 := h m (by omega)
    split <;> omega
def cdL : List Nat → Nat
  | [] => 0
  | c :: l => 32 * cdL l + c
theorem hN_c {C : Nat → Nat} : ∀ (l : List Nat) (m : Nat), (∀ c ∈ l, 1 ≤ c ∧ c ≤ 26) → cdL l < 36028797018963967 → (∀ i, i < m → 1 ≤ C i ∧ C i ≤ 26) → (hN C m = cdL l ↔ m = l.length ∧ ∀ i, i < m → C i = l.getD (m - 1 - i) 0)
  | [], 0, _, _, _ => ⟨fun _ => ⟨rfl, fun i hi => by omega⟩, fun _ => rfl⟩
  | [], m + 1, _, _, hC => by
    have := (hC m (by omega)).1
    rw [hN, cdL]
    constructor
    · intro h
      split at h <;> omega
    · intro h; exact absurd h.1 (by simp)
  | c :: l, 0, hl, _, _ => by
    have := (hl c (by simp)).1
    rw [hN, cdL]
    constructor
    · intro h; omega
    · intro h; exact absurd h.1 (by simp)
  | c :: l, m + 1, hl, hb, hC => by
    have hc := hl c (by simp)
    have hm := hC m (by omega)
    rw [cdL] at hb
    have ih := hN_c (C := C) l m (fun x hx => hl x (by simp [hx])) (by omega) (fun i hi => hC i (by omega))
    have key : (m + 1 = (c :: l).length ∧ ∀ i, i < m + 1 → C i = (c :: l).getD (m + 1 - 1 - i) 0) ↔ (C m = c ∧ m = l.length ∧ ∀ i, i < m → C i = l.getD (m - 1 - i) 0) := by
      constructor
      · intro ⟨h1, h2⟩
        refine ⟨?_, by simpa using h1, fun i hi => ?_⟩
        · have := h2 m (by omega)
          rw [show m + 1 - 1 - m = 0 by omega, List.getD_cons_zero] at this
          exact this
        · have := h2 i (by omega)
          rw [show m + 1 - 1 - i = (m - 1 - i) + 1 by omega, List.getD_cons_succ] at this
          exact this
      · intro ⟨h0, h1, h2⟩
        refine ⟨by simp [h1], fun i hi => ?_⟩
        by_cases e : i = m
        · rw [e, show m + 1 - 1 - m = 0 by omega, List.getD_cons_zero]; exact h0
        · rw [show m + 1 - 1 - i = (m - 1 - i) + 1 by omega, List.getD_cons_succ]; exact h2 i (by omega)
    rw [key, ← ih, hN, cdL]
    by_cases big : 36028797018963967 < hN C m
    · rw [if_pos big]; constructor
      · intro h; omega
      · intro h; omega
    · rw [if_neg big]; constructor
      · intro h; constructor <;> omega
      · intro h; omega
def cdn : List Nat := [2552, 673957, 630948, 553136178, 24749811143, 8902245, 21486770, 52, 486, 271592, 16819668, 781652471, 12769452, 23609, 6642, 17376357, 3544114]
def lk (k : Nat) : List Nat := ((ex_byt.getD k []).map (fun x => x.toNatClampNeg - 96)).reverse
theorem lk_1 : ∀ k, k < 17 → ∀ c ∈ lk k, 1 ≤ c ∧ c ≤ 26 := by decide +kernel
theorem lk_2 : ∀ k, k < 17 → cdL (lk k) = cdn.getD k 0 ∧ cdL (lk k) < 36028797018963967 ∧ (lk k).length = ex_len.getD k 0 ∧ ex_len.getD k 0 ≤ 7 ∧ 0 < cdn.getD k 0 := by decide +kernel
theorem lk_3 : ∀ k, k < 17 → ∀ i, i < ex_len.getD k 0 → (lk k).getD (ex_len.getD k 0 - 1 - i) 0 = ((ex_byt.getD k []).getD i 0).toNatClampNeg - 96 ∧ 97 ≤ (ex_byt.getD k []).getD i 0 ∧ (ex_byt.getD k []).getD i 0 ≤ 122 := by decide +kernel
def mt (B : Nat → Int32) (L b k : Nat) : Bool := decide (sr B L b = 1 ∧ te B L b - b = ex_len.getD k 0 ∧ ∀ i, i < ex_len.getD k 0 → B (b + i) = (ex_byt.getD k []).getD i 0)
def PR (B : Nat → Int32) (L : Nat) (g : Bool) (b : Nat) (v w : jx_V) : Prop := TX B L v ∧ TM B L w ∧ b ≤ L ∧ v 53 3 = nI b ∧ w 0 13 = nI b ∧ v 53 2 = sr B L b ∧ v 53 4 = nI (te B L b) ∧ w 0 14 = nI (tm B L b) ∧ v 53 5 = nI (nm B L b) ∧ (g = true → v 53 6 = -1 ∧ w 0 16 = 0) ∧ (g = false → v 53 6 = nI b ∧ w 0 16 = 1)
theorem x_isw_L {B L b k v} (hk : k < 17) (h : TX B L v) (e3 : v 53 3 = nI b) (hb : b + ex_len.getD k 0 ≤ 120) : ∀ d i f, i + d = ex_len.getD k 0 → d < f → (∀ j, j < i → B (b + j) = (ex_byt.getD k []).getD j 0) → f_X2_isWord_L k f (nI i) v = some (if ∀ j, j < ex_len.getD k 0 → B (b + j) = (ex_byt.getD k []).getD j 0 then 1 else 0, v) := by
  obtain ⟨_, _, _, l7, _⟩ := lk_2 k hk
  intro d
  induction d with
  | zero =>
    intro i f hi hf hj
    obtain ⟨f, rfl⟩ : ∃ q, f = q + 1 := ⟨f - 1, by omega⟩
    rw [f_X2_isWord_L]
    unfold f_J0_length_8abf5
    rw [Option.bind_some]
    simp only []
    rw [if_pos (show nI (ex_len.getD k 0) ≤ nI i by rw [pI_le (by omega) (by omega)]; omega), if_pos (fun j hj' => hj j (by omega))]
  | succ d ih =>
    intro i f hi hf hj
    obtain ⟨f, rfl⟩ : ∃ q, f = q + 1 := ⟨f - 1, by omega⟩
    rw [f_X2_isWord_L]
    unfold f_J0_length_8abf5 f_J0_charAt_5068e
    rw [Option.bind_some]
    simp only [e3, pI_add, tn (show b + i < 2147483648 by omega), ib (show b + i < 120 by omega) (show 120 ≤ 100000 by omega), tn (show i < 2147483648 by omega), ib (show i < ex_len.getD k 0 by omega) (show ex_len.getD k 0 ≤ 100000 by omega), if_false, Option.bind_some, h.2.2 (b + i) (by omega), nI_add1]
    rw [if_neg (show ¬ nI (ex_len.getD k 0) ≤ nI i by rw [pI_le (by omega) (by omega)]; omega)]
    by_cases c : B (b + i) = (ex_byt.getD k []).getD i 0
    · rw [if_pos c]
      refine ih (i+1) f (by omega) (by omega) (fun j hj' => ?_)
      by_cases e : j = i
      · rw [e]; exact c
      · exact hj j (by omega)
    · rw [if_neg c, if_neg (fun q => c (q i (by omega)))]
theorem x_isw {B L g b v w} (p : PR B L g b v w) {k : Nat} (hk : k < 17) : f_X2_isWord k v = some (if mt B L b k = true then 1 else 0, v) := by
  obtain ⟨h, _, hb, e3, _, e2, e4, _⟩ := p
  obtain ⟨_, _, _, l7, _⟩ := lk_2 k hk
  obtain ⟨t1, t2⟩ := te_r (B := B) hb
  have hL := h.1
  unfold f_X2_isWord
  rw [e2]
  by_cases c : sr B L b = 1
  · rw [if_pos c]
    unfold f_J0_length_8abf5
    rw [Option.bind_some]
    simp only [e3, e4, nI_sub t1]
    by_cases c2 : te B L b - b = ex_len.getD k 0
    · rw [if_pos (by rw [c2])]
      have := x_isw_L hk h e3 (by omega) (ex_len.getD k 0) 0 100000 (by omega) (by omega) (fun j hj => by omega)
      rw [show nI 0 = 0 from rfl] at this
      rw [this]
      by_cases c3 : ∀ j, j < ex_len.getD k 0 → B (b + j) = (ex_byt.getD k []).getD j 0
      · rw [if_pos c3, if_pos (show mt B L b k = true from decide_eq_true ⟨c, c2, c3⟩)]
      · rw [if_neg c3, if_neg (show ¬ mt B L b k = true from fun q => c3 (of_decide_eq_true q).2.2)]
    · rw [if_neg (show ¬ nI (te B L b - b) = nI (ex_len.getD k 0) by rw [pI_eq (by omega) (by omega)]; exact c2), if_neg (show ¬ mt B L b k = true from fun q => c2 (of_decide_eq_true q).2.1)]
  · rw [if_neg c, if_neg (show ¬ mt B L b k = true from fun q => c (of_decide_eq_true q).1)]
theorem lgc {a K : Nat} (ha : a < 4611686018427387904) (hK : K < 4611686018427387904) : lg_cmp (Int64.ofNat a) (Int64.ofNat K) = if K < a then 1 else if a = K then 0 else -1 := by
  have i1 : (Int64.ofNat a).toInt = a := Int64.toInt_ofNat_of_lt (by omega)
  have i2 : (Int64.ofNat K).toInt = K := Int64.toInt_ofNat_of_lt (by omega)
  have e1 : (Int64.ofNat a > Int64.ofNat K) = (K < a) := by
    apply propext
    show (Int64.ofNat K < Int64.ofNat a) ↔ _
    rw [Int64.lt_iff_toInt_lt, i1, i2]; omega
  have e2 : (Int64.ofNat a = Int64.ofNat K) = (a = K) := by
    apply propext
    constructor
    · intro h
      have := congrArg Int64.toInt h
      rw [i1, i2] at this; omega
    · intro h; rw [h]
  unfold lg_cmp
  simp only [e1, e2]
theorem lgc0 {a K : Nat} (ha : a < 4611686018427387904) (hK : K < 4611686018427387904) : (lg_cmp (Int64.ofNat a) (Int64.ofNat K) = 0) = (a = K) := by
  rw [lgc ha hK]
  apply propext
  by_cases c : K < a
  · rw [if_pos c]; exact ⟨fun k => absurd k (by decide), fun k => by omega⟩
  · rw [if_neg c]
    by_cases d : a = K
    · rw [if_pos d]; exact ⟨fun _ => d, fun _ => rfl⟩
    · rw [if_neg d]; exact ⟨fun k => absurd k (by decide), fun k => absurd k d⟩
theorem lgcl {a K : Nat} (ha : a < 4611686018427387904) (hK : K < 4611686018427387904) : (lg_cmp (Int64.ofNat a) (Int64.ofNat K) ≤ 0) = (a ≤ K) := by
  rw [lgc ha hK]
  apply propext
  by_cases c : K < a
  · rw [if_pos c]; exact ⟨fun k => absurd k (by decide), fun k => by omega⟩
  · rw [if_neg c]
    split
    · exact ⟨fun _ => by omega, fun _ => by decide⟩
    · exact ⟨fun _ => by omega, fun _ => by decide⟩
theorem t64 {c : Nat} (hc : c < 2147483648) : Int32.toInt64 (nI c) = Int64.ofNat c := by
  apply Int64.toInt_inj.mp
  rw [Int32.toInt_toInt64, pI_toInt hc, Int64.toInt_ofNat_of_lt (by omega)]
theorem hstep {h y : Nat} (hy : 97 ≤ y) (hy2 : y ≤ 122) : 32 * Int64.ofNat h + Int32.toInt64 (nI y - 96) = Int64.ofNat (32 * h + (y - 96)) := by
  rw [show (96 : Int32) = nI 96 from rfl, nI_sub (by omega), t64 (by omega), show (32 : Int64) = Int64.ofNat 32 from rfl, ← Int64.ofNat_mul, ← Int64.ofNat_add]
def Cb (B : Nat → Int32) (b i : Nat) : Nat := (B (b + i)).toNatClampNeg - 96
theorem Cb_r {B L b} (h : sr B L b = 1) : ∀ i, i < te B L b - b → 1 ≤ Cb B b i ∧ Cb B b i ≤ 26 := by
  intro i hi
  obtain ⟨y, h1, h2, e⟩ := sr1 (tok_s (Or.inl rfl) h (b + i) (by omega) (by omega))
  unfold Cb
  rw [e, tn (by omega)]; omega
theorem m_wl {B L b w} (h : TM B L w) (hb : b ≤ L) (e13 : w 0 13 = nI b) (e14 : w 0 14 = nI (tm B L b)) : ∀ d i f x, i + d = tm B L b → b ≤ i → d < f →
    ∃ y, f_X5_word_L f x (nI i) w = some (if w 0 16 = 0 ∧ sr B L b = 1 then y else 0, w) ∧ (sr B L b = 1 → x = Int64.ofNat (hN (Cb B b) (i - b)) → y = Int64.ofNat (hN (Cb B b) (tm B L b - b))) := by
  have hL := h.1
  obtain ⟨t1, t2⟩ := tm_r (B := B) hb
  intro d
  induction d with
  | zero =>
    intro i f x hi hbi hf
    obtain ⟨f, rfl⟩ : ∃ q, f = q + 1 := ⟨f - 1, by omega⟩
    obtain rfl : i = tm B L b := by omega
    refine ⟨x, ?_, fun _ e => e⟩
    rw [f_X5_word_L, e14, if_pos (Int32.le_refl _)]
    by_cases c : w 0 16 = 0
    · rw [if_pos c, e13, m_byte h (by omega), Option.bind_some]
      simp only [m_isLetter, Option.bind_some, lt_bt]
      by_cases c2 : sr B L b = 1
      · rw [if_pos c2, if_neg i10, if_pos ⟨c, c2⟩]
      · rw [if_neg c2, if_pos i00, if_neg (fun k => c2 k.2)]
    · rw [if_neg c, if_neg (fun k => c k.1)]
  | succ d ih =>
    intro i f x hi hbi hf
    obtain ⟨f, rfl⟩ : ∃ q, f = q + 1 := ⟨f - 1, by omega⟩
    rw [f_X5_word_L, e14, if_neg (show ¬ nI (tm B L b) ≤ nI i by rw [pI_le (by omega) (by omega)]; omega)]
    simp only [tn (show i < 2147483648 by omega), ib (show i < 120 by omega) (show 120 ≤ 100000 by omega), if_false, h.2.2 i (by omega), nI_add1]
    have bnd : sr B L b = 1 → hN (Cb B b) (i - b) < 4611686018427387904 := fun s => by
      have q := te_tm (B := B) (L := L) (b := b) (by rw [s]; decide)
      have := hN_b (C := Cb B b) (i - b) (fun j hj => (Cb_r s j (by omega)).2)
      omega
    by_cases c : lg_cmp x 36028797018963967 ≤ 0
    · rw [if_pos c]
      obtain ⟨y, g1, g2⟩ := ih (i+1) f (32 * x + Int32.toInt64 (B i - 96)) (by omega) (by omega) (by omega)
      refine ⟨y, g1, fun s e => g2 s ?_⟩
      have q := te_tm (B := B) (L := L) (b := b) (by rw [s]; decide)
      obtain ⟨z, hz1, hz2, ez⟩ := sr1 (tok_s (Or.inl rfl) s i hbi (by omega))
      rw [e, show (36028797018963967 : Int64) = Int64.ofNat 36028797018963967 from rfl, lgcl (bnd s) (by omega)] at c
      rw [e, ez, hstep hz1 hz2, show i + 1 - b = (i - b) + 1 by omega, hN, if_neg (by omega)]
      congr 2
      unfold Cb
      rw [show b + (i - b) = i by omega, ez, tn (by omega)]
    · rw [if_neg c]
      obtain ⟨y, g1, g2⟩ := ih (i+1) f x (by omega) (by omega) (by omega)
      refine ⟨y, g1, fun s e => g2 s ?_⟩
      rw [e, show (36028797018963967 : Int64) = Int64.ofNat 36028797018963967 from rfl, lgcl (bnd s) (by omega)] at c
      rw [e, show i + 1 - b = (i - b) + 1 by omega, hN, if_pos (by omega)]
theorem mt_h {B L b k} (hk : k < 17) (s : sr B L b = 1) : (hN (Cb B b) (tm B L b - b) = cdn.getD k 0) ↔ mt B L b k = true := by
  obtain ⟨k1, k2, k3, k4, k5⟩ := lk_2 k hk
  rw [← te_tm (B := B) (L := L) (b := b) (by rw [s]; decide), ← k1, hN_c (lk k) (te B L b - b) (lk_1 k hk) k2 (Cb_r s), k3]
  have key : ∀ i, i < te B L b - b → i < ex_len.getD k 0 → ((Cb B b i = (lk k).getD (ex_len.getD k 0 - 1 - i) 0) ↔ B (b + i) = (ex_byt.getD k []).getD i 0) := by
    intro i h1 h2
    obtain ⟨l1, l2⟩ := lk_3 k hk i h2
    obtain ⟨z, hz1, hz2, ez⟩ := ltr l2
    obtain ⟨y, hy1, hy2, ey⟩ := sr1 (tok_s (Or.inl rfl) s (b + i) (by omega) (by omega))
    unfold Cb
    rw [l1, ez, ey, tn (by omega), tn (by omega), pI_eq (by omega) (by omega)]
    omega
  constructor
  · intro ⟨h1, h2⟩
    refine decide_eq_true ⟨s, h1, fun i hi => (key i (by omega) hi).mp ?_⟩
    have := h2 i (by omega)
    rw [h1] at this
    exact this
  · intro h
    obtain ⟨_, h1, h2⟩ := of_decide_eq_true h
    refine ⟨h1, fun i hi => ?_⟩
    rw [h1]
    exact (key i hi (by omega)).mpr (h2 i (by omega))
theorem m_word {B L g b v w} (p : PR B L g b v w) : ∃ hh, f_X5_word w = some (hh, w) ∧ ∀ k, k < 17 → ∀ x : Int64, x = Int64.ofNat (cdn.getD k 0) → ((lg_cmp hh x = 0) = (g = true ∧ mt B L b k = true)) := by
  obtain ⟨_, h, hb, _, e13, _, _, e14, _, g1, g0⟩ := p
  obtain ⟨t1, t2⟩ := tm_r (B := B) hb
  have hL := h.1
  obtain ⟨y, w1, w2⟩ := m_wl h hb e13 e14 (tm B L b - b) b 100000 0 (by omega) (by omega) (by omega)
  unfold f_X5_word
  rw [e13, w1]
  refine ⟨_, rfl, fun k hk x ex => ?_⟩
  subst ex
  obtain ⟨k1, k2, k3, k4, k5⟩ := lk_2 k hk
  apply propext
  cases g with
  | false =>
    have e := (g0 rfl).2
    rw [if_neg (by rw [e]; exact fun k => absurd k.1 (by decide)), show (0 : Int64) = Int64.ofNat 0 from rfl, lgc0 (by omega) (by omega)]
    exact ⟨fun q => by omega, fun q => absurd q.1 (by decide)⟩
  | true =>
    have e := (g1 rfl).2
    by_cases s : sr B L b = 1
    · have q := te_tm (B := B) (L := L) (b := b) (by rw [s]; decide)
      have hy := w2 s (by rw [Nat.sub_self]; rfl)
      have bd := hN_b (C := Cb B b) (tm B L b - b) (fun j hj => (Cb_r s j (by omega)).2)
      rw [if_pos ⟨e, s⟩, hy, lgc0 (by omega) (by omega), mt_h hk s]
      exact ⟨fun q => ⟨rfl, q⟩, fun q => q.2⟩
    · rw [if_neg (fun q => s q.2), show (0 : Int64) = Int64.ofNat 0 from rfl, lgc0 (by omega) (by omega)]
      exact ⟨fun q => by omega, fun q => absurd (of_decide_eq_true q.2).1 s⟩
