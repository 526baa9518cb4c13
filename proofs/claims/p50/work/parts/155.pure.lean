def R (v w : jx_V) : Prop := (cT 1 v = mT (w 1)) ∧ OK (cT 1 v) ∧ (v 0 10 = w 0 4) ∧ (v 0 10 = 0 ∨ v 0 10 = 1) ∧ (v 0 10 = 1 → cT 17 v = mT (w 2) ∧ OK (cT 17 v)) ∧ (v 53 1 = w 0 12) ∧ (∃ L, L ≤ 120 ∧ v 53 1 = nI L) ∧ (∀ i, i < 120 → v 54 i = w 8 i) ∧ (∀ s, s < 4 → v 61 s = w 9 s ∧ v 62 s = w 10 s ∧ (∃ L, L ≤ 40 ∧ v 62 s = nI L) ∧ ∀ i, i < 40 → v (57 + s) i = w 11 (40 * s + i))
theorem R.mk {v w : jx_V} (x0 : cT 1 v = mT (w 1)) (x1 : OK (cT 1 v)) (x2 : v 0 10 = w 0 4) (x3 : v 0 10 = 0 ∨ v 0 10 = 1) (x4 : v 0 10 = 1 → cT 17 v = mT (w 2) ∧ OK (cT 17 v)) (x5 : v 53 1 = w 0 12) (x6 : ∃ L, L ≤ 120 ∧ v 53 1 = nI L) (x7 : ∀ i, i < 120 → v 54 i = w 8 i) (x8 : ∀ s, s < 4 → v 61 s = w 9 s ∧ v 62 s = w 10 s ∧ (∃ L, L ≤ 40 ∧ v 62 s = nI L) ∧ ∀ i, i < 40 → v (57 + s) i = w 11 (40 * s + i)) : R v w := And.intro x0 (And.intro x1 (And.intro x2 (And.intro x3 (And.intro x4 (And.intro x5 (And.intro x6 (And.intro x7 x8)))))))
theorem R.t {v w} (h : R v w) : cT 1 v = mT (w 1) := h.1
theorem R.ok {v w} (h : R v w) : OK (cT 1 v) := h.2.1
theorem R.ok' {v w} (h : R v w) : OK (mT (w 1)) := h.t ▸ h.ok
theorem R.k {v w} (h : R v w) : v 0 10 = w 0 4 := h.2.2.1
theorem R.kb {v w} (h : R v w) : v 0 10 = 0 ∨ v 0 10 = 1 := h.2.2.2.1
theorem R.kt {v w} (h : R v w) : v 0 10 = 1 → cT 17 v = mT (w 2) ∧ OK (cT 17 v) := h.2.2.2.2.1
theorem R.tl {v w} (h : R v w) : v 53 1 = w 0 12 := h.2.2.2.2.2.1
theorem R.tr {v w} (h : R v w) : ∃ L, L ≤ 120 ∧ v 53 1 = nI L := h.2.2.2.2.2.2.1
theorem R.tb {v w} (h : R v w) : ∀ i, i < 120 → v 54 i = w 8 i := h.2.2.2.2.2.2.2.1
theorem R.s {v w} (h : R v w) : ∀ s, s < 4 → v 61 s = w 9 s ∧ v 62 s = w 10 s ∧ (∃ L, L ≤ 40 ∧ v 62 s = nI L) ∧ ∀ i, i < 40 → v (57 + s) i = w 11 (40 * s + i) := h.2.2.2.2.2.2.2.2
/-- what is not scratch stays -/
def SX (v v' : jx_V) : Prop := (∀ c, (c < 33 ∨ (54 ≤ c ∧ c < 63)) → v' c = v c) ∧ v' 53 1 = v 53 1
def SM (w w' : jx_V) : Prop := (∀ c, (c = 1 ∨ c = 2 ∨ (8 ≤ c ∧ c < 12)) → w' c = w c) ∧ w' 0 4 = w 0 4 ∧ w' 0 12 = w 0 12
theorem SX_r {v} : SX v v := ⟨fun _ _ => rfl, rfl⟩
theorem SM_r {v} : SM v v := ⟨fun _ _ => rfl, rfl, rfl⟩
theorem SX_t {u v w} (a : SX u v) (b : SX v w) : SX u w := ⟨fun c h => (b.1 c h).trans (a.1 c h), b.2.trans a.2⟩
theorem SM_t {u v w} (a : SM u v) (b : SM v w) : SM u w := ⟨fun c h => (b.1 c h).trans (a.1 c h), b.2.1.trans a.2.1, b.2.2.trans a.2.2⟩
theorem G_SX {v v'} (g : G v v') : SX v v' := ⟨fun c h => g c (by omega), by rw [g 53 (by omega)]⟩
theorem GR_SX {r v v'} (hr : 63 < r) (g : GR r v v') : SX v v' := ⟨fun c h => g c (by omega) (by omega), by rw [g 53 (by omega) (by omega)]⟩
theorem FM_SM {w w'} (g : FM w w') : SM w w' := ⟨fun c h => g.1 c (by omega) (by omega) (by omega), g.2 4 (by decide) (by decide) (by decide), g.2 12 (by decide) (by decide) (by decide)⟩
theorem up_SX {v c i x} (h : (33 ≤ c ∧ c < 53) ∨ 63 ≤ c) : SX v (jx_up v c i x) := ⟨fun q hq => jx_up_ne (by omega), by rw [jx_up_ne (by omega)]⟩
theorem up_SM {v c i x} (h : c = 3 ∨ c = 4 ∨ c = 5 ∨ c = 6 ∨ c = 7 ∨ 12 ≤ c) : SM v (jx_up v c i x) := ⟨fun q hq => jx_up_ne (by omega), by rw [jx_up_ne (by omega)], by rw [jx_up_ne (by omega)]⟩
theorem SX_c {h v v'} (hh : h + 15 < 33) (g : SX v v') : cT h v' = cT h v := cT_congr (fun c _ _ => g.1 c (by omega))
theorem R_fr {v w v' w'} (h : R v w) (a : SX v v') (b : SM w w') : R v' w' := by
  have e0 : v' 0 = v 0 := a.1 0 (by omega)
  refine R.mk ?_ ?_ ?_ ?_ ?_ ?_ ?_ ?_ ?_
  · rw [SX_c (by omega) a, b.1 1 (by omega)]; exact h.t
  · rw [SX_c (by omega) a]; exact h.ok
  · rw [e0, b.2.1]; exact h.k
  · rw [e0]; exact h.kb
  · rw [e0, SX_c (by omega) a, b.1 2 (by omega)]; exact h.kt
  · rw [a.2, b.2.2]; exact h.tl
  · rw [a.2]; exact h.tr
  · rw [a.1 54 (by omega), b.1 8 (by omega)]; exact h.tb
  · intro s hs
    rw [a.1 61 (by omega), a.1 62 (by omega), a.1 (57+s) (by omega), b.1 9 (by omega), b.1 10 (by omega), b.1 11 (by omega)]
    exact h.s s hs
/-- a new town on both sides, the rest as before -/
theorem R_town {v w v' w'} (h : R v w) (a : ∀ c, c = 0 ∨ (17 ≤ c ∧ c < 33) ∨ (54 ≤ c ∧ c < 63) → v' c = v c) (a2 : v' 53 1 = v 53 1) (b : ∀ c, (c = 2 ∨ (8 ≤ c ∧ c < 12)) → w' c = w c) (b2 : w' 0 4 = w 0 4) (b3 : w' 0 12 = w 0 12) {T : Tn} (e1 : cT 1 v' = T) (e2 : mT (w' 1) = T) (hT : OK T) : R v' w' := by
  have e0 : v' 0 = v 0 := a 0 (by omega)
  have ek : cT 17 v' = cT 17 v := cT_congr (fun c _ _ => a c (by omega))
  refine R.mk ?_ ?_ ?_ ?_ ?_ ?_ ?_ ?_ ?_
  · rw [e1, e2]
  · rw [e1]; exact hT
  · rw [e0, b2]; exact h.k
  · rw [e0]; exact h.kb
  · rw [e0, ek, b 2 (by omega)]; exact h.kt
  · rw [a2, b3]; exact h.tl
  · rw [a2]; exact h.tr
  · rw [a 54 (by omega), b 8 (by omega)]; exact h.tb
  · intro s hs
    rw [a 61 (by omega), a 62 (by omega), a (57+s) (by omega), b 9 (by omega), b 10 (by omega), b 11 (by omega)]
    exact h.s s hs
def Q (x y : Option (Int32 × jx_V)) : Prop := ∃ r v' w', x = some (r, v') ∧ y = some (r, w') ∧ R v' w'
theorem Q_i {r v w} (h : R v w) : Q (some (r, v)) (some (r, w)) := ⟨r, v, w, rfl, rfl, h⟩
theorem Q_f {r v w i j x y} (h : R v w) : Q (some (r, jx_up v 63 i x)) (some (r, jx_up w 4 j y)) := Q_i (R_fr h (up_SX (by omega)) (up_SM (by omega)))
theorem x_f0 {v} : f_X4_finding 0 v = some (-1000001, jx_up v 63 0 (v 63 0 + 1)) := rfl
theorem x_f1 {v} : f_X4_finding 1 v = some (-1000002, jx_up v 63 1 (v 63 1 + 1)) := rfl
theorem x_f2 {v} : f_X4_finding 2 v = some (-1000003, jx_up v 63 2 (v 63 2 + 1)) := rfl
theorem x_f3 {v} : f_X4_finding 3 v = some (-1000004, jx_up v 63 3 (v 63 3 + 1)) := rfl
theorem x_f4 {v} : f_X4_finding 4 v = some (-1000005, jx_up v 63 4 (v 63 4 + 1)) := rfl
theorem x_f5 {v} : f_X4_finding 5 v = some (-1000006, jx_up v 63 5 (v 63 5 + 1)) := rfl
theorem x_f6 {v} : f_X4_finding 6 v = some (-1000007, jx_up v 63 6 (v 63 6 + 1)) := rfl
theorem m_f0 {v} : f_X5_finds (-1000001) v = some (-1000001, jx_up v 4 0 (v 4 0 + 1)) := rfl
theorem m_f1 {v} : f_X5_finds (-1000002) v = some (-1000002, jx_up v 4 1 (v 4 1 + 1)) := rfl
theorem m_f2 {v} : f_X5_finds (-1000003) v = some (-1000003, jx_up v 4 2 (v 4 2 + 1)) := rfl
theorem m_f3 {v} : f_X5_finds (-1000004) v = some (-1000004, jx_up v 4 3 (v 4 3 + 1)) := rfl
theorem m_f4 {v} : f_X5_finds (-1000005) v = some (-1000005, jx_up v 4 4 (v 4 4 + 1)) := rfl
theorem m_f5 {v} : f_X5_finds (-1000006) v = some (-1000006, jx_up v 4 5 (v 4 5 + 1)) := rfl
theorem m_f6 {v} : f_X5_finds (-1000007) v = some (-1000007, jx_up v 4 6 (v 4 6 + 1)) := rfl
theorem x_wi {x n v} : f_X4_within x n v = some (if 0 ≤ x ∧ x < n then 1 else 0, v) := by unfold f_X4_within; grind
theorem x_w4 {x v} : f_X4_within x 4 v = some (if 0 ≤ x ∧ x ≤ 3 then 1 else 0, v) := by rw [x_wi]; grind
theorem x_w5 {x v} : f_X4_within x 5 v = some (if 0 ≤ x ∧ x ≤ 4 then 1 else 0, v) := by rw [x_wi]; grind
theorem x_w6 {x v} : f_X4_within x 6 v = some (if 0 ≤ x ∧ x ≤ 5 then 1 else 0, v) := by rw [x_wi]; grind
theorem x_w7 {x v} : f_X4_within x 7 v = some (if 0 ≤ x ∧ x ≤ 6 then 1 else 0, v) := by rw [x_wi]; grind
theorem x_w10 {x v} : f_X4_within x 10 v = some (if 0 ≤ x ∧ x ≤ 9 then 1 else 0, v) := by rw [x_wi]; grind
theorem x_w25 {x v} : f_X4_within x 25 v = some (if 0 ≤ x ∧ x ≤ 24 then 1 else 0, v) := by rw [x_wi]; grind
theorem x_w37 {x v} : f_X4_within x 37 v = some (if 0 ≤ x ∧ x ≤ 36 then 1 else 0, v) := by rw [x_wi]; grind
theorem x_w100 {x v} : f_X4_within x 100 v = some (if 0 ≤ x ∧ x ≤ 99 then 1 else 0, v) := by rw [x_wi]; grind
theorem x_w121 {x v} : f_X4_within x 121 v = some (if 0 ≤ x ∧ x ≤ 120 then 1 else 0, v) := by rw [x_wi]; grind
theorem o10 : ((1 : Int32) = 0) = False := by decide
theorem z00 : ((0 : Int32) = 0) = True := by decide
theorem ix {x b : Int32} {n : Nat} (hb : b = nI n) (hn : n < 100000) (c : 0 ≤ x ∧ x ≤ b) : ∃ j, j < n + 1 ∧ x = nI j := by
  refine nI_ex (by omega) c.1 ?_
  have := c.2
  rw [hb] at this
  rw [Int32.lt_iff_toInt_lt, pI_toInt (by omega)]
  have h := Int32.le_iff_toInt_le.mp this
  rw [pI_toInt (by omega)] at h
  omega
theorem tk {v w : jx_V} {j : Nat} (h : R v w) (hj : j < 25) : v 4 j = w 1 (11 + 4 * j) := by
  have e := cK (h := 1) (v := v) hj
  rw [h.t, mK hj] at e; exact e.symm
theorem tkO {v w : jx_V} {j : Nat} (h : R v w) (hj : j < 25) (ht : 0 ≤ w 1 (11 + 4 * j)) : v 5 j = w 1 (12 + 4 * j) := by
  have e := cO (h := 1) (v := v) hj (by have := tk h hj; show 0 ≤ v 4 j; rw [this]; exact ht)
  rw [h.t, mO hj ht] at e; exact e.symm
theorem tkH {v w : jx_V} {j : Nat} (h : R v w) (hj : j < 25) (ht : 0 ≤ w 1 (11 + 4 * j)) : v 6 j = w 1 (13 + 4 * j) := by
  have e := cH (h := 1) (v := v) hj (by have := tk h hj; show 0 ≤ v 4 j; rw [this]; exact ht)
  rw [h.t, mH hj ht] at e; exact e.symm
theorem tkP {v w : jx_V} {j : Nat} (h : R v w) (hj : j < 25) (ht : 0 ≤ w 1 (11 + 4 * j)) : v 7 j = w 1 (14 + 4 * j) := by
  have e := cP (h := 1) (v := v) hj (by have := tk h hj; show 0 ≤ v 4 j; rw [this]; exact ht)
  rw [h.t, mP hj ht] at e; exact e.symm
theorem tkW {v w : jx_V} {a i : Nat} (h : R v w) (ha : a < 6) (hi : i < (w 1 1).toNatClampNeg) : v (8+a) i = w 1 (111 + 6 * i + a) := by
  have e1 : v 1 5 = w 1 1 := congrArg Tn.n h.t
  have e := cW (h := 1) (v := v) ha (by rw [e1]; exact hi)
  rw [h.t, mW ha hi] at e; exact e.symm
theorem tkn {v w} (h : R v w) : v 1 5 = w 1 1 := congrArg Tn.n h.t
theorem tkm {v w} (h : R v w) : v 1 6 = w 1 0 := congrArg Tn.m h.t
theorem tkz {v w} (h : R v w) : v 1 7 = w 1 2 := congrArg Tn.z h.t
theorem tkC {v w : jx_V} {p : Nat} (h : R v w) (hp : p < 4) : v 14 p = w 1 (3 + p) := by
  have e := cC (h := 1) (v := v) hp
  rw [h.t, mC hp] at e; exact e.symm
theorem tkU {v w : jx_V} {p : Nat} (h : R v w) (hp : p < 4) : v 15 p = w 1 (7 + p) := by
  have e1 : (cT 1 v).U p = v 15 p := if_pos hp
  have e2 : (mT (w 1)).U p = w 1 (7 + p) := if_pos hp
  rw [← e1, ← e2, h.t]
theorem tkS {v w : jx_V} {p : Nat} (h : R v w) (hp : p < 10) : v 16 p = w 1 (171 + p) := by
  have e1 : (cT 1 v).S p = v 16 p := if_pos hp
  have e2 : (mT (w 1)).S p = w 1 (171 + p) := if_pos hp
  rw [← e1, ← e2, h.t]
-- changes of a town
def bld (T : Tn) (j : Nat) (k o h p : Int32) : Tn := (fun l => if l = j then k else T.K l, fun l => if l = j then o else T.O l, fun l => if l = j then h else T.H l, fun l => if l = j then p else T.P l, T.W, T.C, T.U, T.S, T.n, T.m, T.z)
def rem (T : Tn) (j : Nat) : Tn := (fun l => if l = j then -1 else T.K l, fun l => if l = j then 0 else T.O l, fun l => if l = j then 0 else T.H l, fun l => if l = j then 0 else T.P l, T.W, T.C, T.U, T.S, T.n, T.m, T.z)
def sK (T : Tn) (j : Nat) (k : Int32) : Tn := (fun l => if l = j then k else T.K l, T.O, T.H, T.P, T.W, T.C, T.U, T.S, T.n, T.m, T.z)
def sO (T : Tn) (j : Nat) (k : Int32) : Tn := (T.K, fun l => if l = j then k else T.O l, T.H, T.P, T.W, T.C, T.U, T.S, T.n, T.m, T.z)
def sH (T : Tn) (j : Nat) (k : Int32) : Tn := (T.K, T.O, fun l => if l = j then k else T.H l, T.P, T.W, T.C, T.U, T.S, T.n, T.m, T.z)
def sP (T : Tn) (j : Nat) (k : Int32) : Tn := (T.K, T.O, T.H, fun l => if l = j then k else T.P l, T.W, T.C, T.U, T.S, T.n, T.m, T.z)
def sC (T : Tn) (j : Nat) (k : Int32) : Tn := (T.K, T.O, T.H, T.P, T.W, fun l => if l = j then k else T.C l, T.U, T.S, T.n, T.m, T.z)
def sS (T : Tn) (j : Nat) (k : Int32) : Tn := (T.K, T.O, T.H, T.P, T.W, T.C, T.U, fun l => if l = j then k else T.S l, T.n, T.m, T.z)
def sW (T : Tn) (a i : Nat) (k : Int32) : Tn := (T.K, T.O, T.H, T.P, fun b l => if b = a ∧ l = i then k else T.W b l, T.C, T.U, T.S, T.n, T.m, T.z)
def sm (T : Tn) (k : Int32) : Tn := (T.K, T.O, T.H, T.P, T.W, T.C, T.U, T.S, T.n, k, T.z)
def sz (T : Tn) (k : Int32) : Tn := (T.K, T.O, T.H, T.P, T.W, T.C, T.U, T.S, T.n, T.m, k)
def nwin (T : Tn) (p l a t : Int32) : Tn := (T.K, T.O, T.H, T.P, fun b i => if i = nw T ∧ b < 6 then (if b = 0 then p else if b = 1 then l else if b = 2 then a else if b = 3 then t else if b = 4 then -1 else 0) else T.W b i, T.C, T.U, T.S, T.n + 1, T.m, T.z)

theorem c_put {h j : Nat} {v : jx_V} {k o hh p : Int32} (hj : j < 25) (hk : 0 ≤ k) : cT h (jx_up (jx_up (jx_up (jx_up v (h+3) j k) (h+4) j o) (h+5) j hh) (h+6) j p) = bld (cT h v) j k o hh p := by
  refine Tx ?_ ?_ ?_ ?_ ?_ ?_ ?_ ?_ ?_ ?_ ?_
  · funext l; (try simp only [cT, mT, mkT, bld, rem, sK, sO, sH, sP, sC, sS, sW, sm, sz, nwin, nw, Tn.K, Tn.O, Tn.H, Tn.P, Tn.W, Tn.C, Tn.U, Tn.S, Tn.n, Tn.m, Tn.z, up_g, upd]) <;> grind
  · funext l; (try simp only [cT, mT, mkT, bld, rem, sK, sO, sH, sP, sC, sS, sW, sm, sz, nwin, nw, Tn.K, Tn.O, Tn.H, Tn.P, Tn.W, Tn.C, Tn.U, Tn.S, Tn.n, Tn.m, Tn.z, up_g, upd]) <;> grind
  · funext l; (try simp only [cT, mT, mkT, bld, rem, sK, sO, sH, sP, sC, sS, sW, sm, sz, nwin, nw, Tn.K, Tn.O, Tn.H, Tn.P, Tn.W, Tn.C, Tn.U, Tn.S, Tn.n, Tn.m, Tn.z, up_g, upd]) <;> grind
  · funext l; (try simp only [cT, mT, mkT, bld, rem, sK, sO, sH, sP, sC, sS, sW, sm, sz, nwin, nw, Tn.K, Tn.O, Tn.H, Tn.P, Tn.W, Tn.C, Tn.U, Tn.S, Tn.n, Tn.m, Tn.z, up_g, upd]) <;> grind
  · funext a i; (try simp only [cT, mT, mkT, bld, rem, sK, sO, sH, sP, sC, sS, sW, sm, sz, nwin, nw, Tn.K, Tn.O, Tn.H, Tn.P, Tn.W, Tn.C, Tn.U, Tn.S, Tn.n, Tn.m, Tn.z, up_g, upd]) <;> grind
  · funext l; (try simp only [cT, mT, mkT, bld, rem, sK, sO, sH, sP, sC, sS, sW, sm, sz, nwin, nw, Tn.K, Tn.O, Tn.H, Tn.P, Tn.W, Tn.C, Tn.U, Tn.S, Tn.n, Tn.m, Tn.z, up_g, upd]) <;> grind
  · funext l; (try simp only [cT, mT, mkT, bld, rem, sK, sO, sH, sP, sC, sS, sW, sm, sz, nwin, nw, Tn.K, Tn.O, Tn.H, Tn.P, Tn.W, Tn.C, Tn.U, Tn.S, Tn.n, Tn.m, Tn.z, up_g, upd]) <;> grind
  · funext l; (try simp only [cT, mT, mkT, bld, rem, sK, sO, sH, sP, sC, sS, sW, sm, sz, nwin, nw, Tn.K, Tn.O, Tn.H, Tn.P, Tn.W, Tn.C, Tn.U, Tn.S, Tn.n, Tn.m, Tn.z, up_g, upd]) <;> grind
  · (try simp only [cT, mT, mkT, bld, rem, sK, sO, sH, sP, sC, sS, sW, sm, sz, nwin, nw, Tn.K, Tn.O, Tn.H, Tn.P, Tn.W, Tn.C, Tn.U, Tn.S, Tn.n, Tn.m, Tn.z, up_g, upd]) <;> grind
  · (try simp only [cT, mT, mkT, bld, rem, sK, sO, sH, sP, sC, sS, sW, sm, sz, nwin, nw, Tn.K, Tn.O, Tn.H, Tn.P, Tn.W, Tn.C, Tn.U, Tn.S, Tn.n, Tn.m, Tn.z, up_g, upd]) <;> grind
  · (try simp only [cT, mT, mkT, bld, rem, sK, sO, sH, sP, sC, sS, sW, sm, sz, nwin, nw, Tn.K, Tn.O, Tn.H, Tn.P, Tn.W, Tn.C, Tn.U, Tn.S, Tn.n, Tn.m, Tn.z, up_g, upd]) <;> grind
theorem c_off {h j : Nat} {v : jx_V} (hj : j < 25) : cT h (jx_up v (h+3) j (-1)) = rem (cT h v) j := by
  refine Tx ?_ ?_ ?_ ?_ ?_ ?_ ?_ ?_ ?_ ?_ ?_
  · funext l; (try simp only [cT, mT, mkT, bld, rem, sK, sO, sH, sP, sC, sS, sW, sm, sz, nwin, nw, Tn.K, Tn.O, Tn.H, Tn.P, Tn.W, Tn.C, Tn.U, Tn.S, Tn.n, Tn.m, Tn.z, up_g, upd]) <;> grind
  · funext l; (try simp only [cT, mT, mkT, bld, rem, sK, sO, sH, sP, sC, sS, sW, sm, sz, nwin, nw, Tn.K, Tn.O, Tn.H, Tn.P, Tn.W, Tn.C, Tn.U, Tn.S, Tn.n, Tn.m, Tn.z, up_g, upd]) <;> grind
  · funext l; (try simp only [cT, mT, mkT, bld, rem, sK, sO, sH, sP, sC, sS, sW, sm, sz, nwin, nw, Tn.K, Tn.O, Tn.H, Tn.P, Tn.W, Tn.C, Tn.U, Tn.S, Tn.n, Tn.m, Tn.z, up_g, upd]) <;> grind
  · funext l; (try simp only [cT, mT, mkT, bld, rem, sK, sO, sH, sP, sC, sS, sW, sm, sz, nwin, nw, Tn.K, Tn.O, Tn.H, Tn.P, Tn.W, Tn.C, Tn.U, Tn.S, Tn.n, Tn.m, Tn.z, up_g, upd]) <;> grind
  · funext a i; (try simp only [cT, mT, mkT, bld, rem, sK, sO, sH, sP, sC, sS, sW, sm, sz, nwin, nw, Tn.K, Tn.O, Tn.H, Tn.P, Tn.W, Tn.C, Tn.U, Tn.S, Tn.n, Tn.m, Tn.z, up_g, upd]) <;> grind
  · funext l; (try simp only [cT, mT, mkT, bld, rem, sK, sO, sH, sP, sC, sS, sW, sm, sz, nwin, nw, Tn.K, Tn.O, Tn.H, Tn.P, Tn.W, Tn.C, Tn.U, Tn.S, Tn.n, Tn.m, Tn.z, up_g, upd]) <;> grind
  · funext l; (try simp only [cT, mT, mkT, bld, rem, sK, sO, sH, sP, sC, sS, sW, sm, sz, nwin, nw, Tn.K, Tn.O, Tn.H, Tn.P, Tn.W, Tn.C, Tn.U, Tn.S, Tn.n, Tn.m, Tn.z, up_g, upd]) <;> grind
  · funext l; (try simp only [cT, mT, mkT, bld, rem, sK, sO, sH, sP, sC, sS, sW, sm, sz, nwin, nw, Tn.K, Tn.O, Tn.H, Tn.P, Tn.W, Tn.C, Tn.U, Tn.S, Tn.n, Tn.m, Tn.z, up_g, upd]) <;> grind
  · (try simp only [cT, mT, mkT, bld, rem, sK, sO, sH, sP, sC, sS, sW, sm, sz, nwin, nw, Tn.K, Tn.O, Tn.H, Tn.P, Tn.W, Tn.C, Tn.U, Tn.S, Tn.n, Tn.m, Tn.z, up_g, upd]) <;> grind
  · (try simp only [cT, mT, mkT, bld, rem, sK, sO, sH, sP, sC, sS, sW, sm, sz, nwin, nw, Tn.K, Tn.O, Tn.H, Tn.P, Tn.W, Tn.C, Tn.U, Tn.S, Tn.n, Tn.m, Tn.z, up_g, upd]) <;> grind
  · (try simp only [cT, mT, mkT, bld, rem, sK, sO, sH, sP, sC, sS, sW, sm, sz, nwin, nw, Tn.K, Tn.O, Tn.H, Tn.P, Tn.W, Tn.C, Tn.U, Tn.S, Tn.n, Tn.m, Tn.z, up_g, upd]) <;> grind
theorem c_sK {h j : Nat} {v : jx_V} {x : Int32} (hj : j < 25) (ht : 0 ≤ v (h+3) j) (hk : 0 ≤ x) : cT h (jx_up v (h+3) j x) = sK (cT h v) j x := by
  refine Tx ?_ ?_ ?_ ?_ ?_ ?_ ?_ ?_ ?_ ?_ ?_
  · funext l; (try simp only [cT, mT, mkT, bld, rem, sK, sO, sH, sP, sC, sS, sW, sm, sz, nwin, nw, Tn.K, Tn.O, Tn.H, Tn.P, Tn.W, Tn.C, Tn.U, Tn.S, Tn.n, Tn.m, Tn.z, up_g, upd]) <;> grind
  · funext l; (try simp only [cT, mT, mkT, bld, rem, sK, sO, sH, sP, sC, sS, sW, sm, sz, nwin, nw, Tn.K, Tn.O, Tn.H, Tn.P, Tn.W, Tn.C, Tn.U, Tn.S, Tn.n, Tn.m, Tn.z, up_g, upd]) <;> grind
  · funext l; (try simp only [cT, mT, mkT, bld, rem, sK, sO, sH, sP, sC, sS, sW, sm, sz, nwin, nw, Tn.K, Tn.O, Tn.H, Tn.P, Tn.W, Tn.C, Tn.U, Tn.S, Tn.n, Tn.m, Tn.z, up_g, upd]) <;> grind
  · funext l; (try simp only [cT, mT, mkT, bld, rem, sK, sO, sH, sP, sC, sS, sW, sm, sz, nwin, nw, Tn.K, Tn.O, Tn.H, Tn.P, Tn.W, Tn.C, Tn.U, Tn.S, Tn.n, Tn.m, Tn.z, up_g, upd]) <;> grind
  · funext a i; (try simp only [cT, mT, mkT, bld, rem, sK, sO, sH, sP, sC, sS, sW, sm, sz, nwin, nw, Tn.K, Tn.O, Tn.H, Tn.P, Tn.W, Tn.C, Tn.U, Tn.S, Tn.n, Tn.m, Tn.z, up_g, upd]) <;> grind
  · funext l; (try simp only [cT, mT, mkT, bld, rem, sK, sO, sH, sP, sC, sS, sW, sm, sz, nwin, nw, Tn.K, Tn.O, Tn.H, Tn.P, Tn.W, Tn.C, Tn.U, Tn.S, Tn.n, Tn.m, Tn.z, up_g, upd]) <;> grind
  · funext l; (try simp only [cT, mT, mkT, bld, rem, sK, sO, sH, sP, sC, sS, sW, sm, sz, nwin, nw, Tn.K, Tn.O, Tn.H, Tn.P, Tn.W, Tn.C, Tn.U, Tn.S, Tn.n, Tn.m, Tn.z, up_g, upd]) <;> grind
  · funext l; (try simp only [cT, mT, mkT, bld, rem, sK, sO, sH, sP, sC, sS, sW, sm, sz, nwin, nw, Tn.K, Tn.O, Tn.H, Tn.P, Tn.W, Tn.C, Tn.U, Tn.S, Tn.n, Tn.m, Tn.z, up_g, upd]) <;> grind
  · (try simp only [cT, mT, mkT, bld, rem, sK, sO, sH, sP, sC, sS, sW, sm, sz, nwin, nw, Tn.K, Tn.O, Tn.H, Tn.P, Tn.W, Tn.C, Tn.U, Tn.S, Tn.n, Tn.m, Tn.z, up_g, upd]) <;> grind
  · (try simp only [cT, mT, mkT, bld, rem, sK, sO, sH, sP, sC, sS, sW, sm, sz, nwin, nw, Tn.K, Tn.O, Tn.H, Tn.P, Tn.W, Tn.C, Tn.U, Tn.S, Tn.n, Tn.m, Tn.z, up_g, upd]) <;> grind
  · (try simp only [cT, mT, mkT, bld, rem, sK, sO, sH, sP, sC, sS, sW, sm, sz, nwin, nw, Tn.K, Tn.O, Tn.H, Tn.P, Tn.W, Tn.C, Tn.U, Tn.S, Tn.n, Tn.m, Tn.z, up_g, upd]) <;> grind
theorem m_sK {j : Nat} {s : Nat → Int32} {x : Int32} (hj : j < 25) (ht : 0 ≤ s (11+4*j)) (hk : 0 ≤ x) : mT (upd s (11+4*j) x) = sK (mT s) j x := by
  refine Tx ?_ ?_ ?_ ?_ ?_ ?_ ?_ ?_ ?_ ?_ ?_
  · funext l; (try simp only [cT, mT, mkT, bld, rem, sK, sO, sH, sP, sC, sS, sW, sm, sz, nwin, nw, Tn.K, Tn.O, Tn.H, Tn.P, Tn.W, Tn.C, Tn.U, Tn.S, Tn.n, Tn.m, Tn.z, up_g, upd]) <;> grind
  · funext l; (try simp only [cT, mT, mkT, bld, rem, sK, sO, sH, sP, sC, sS, sW, sm, sz, nwin, nw, Tn.K, Tn.O, Tn.H, Tn.P, Tn.W, Tn.C, Tn.U, Tn.S, Tn.n, Tn.m, Tn.z, up_g, upd]) <;> grind
  · funext l; (try simp only [cT, mT, mkT, bld, rem, sK, sO, sH, sP, sC, sS, sW, sm, sz, nwin, nw, Tn.K, Tn.O, Tn.H, Tn.P, Tn.W, Tn.C, Tn.U, Tn.S, Tn.n, Tn.m, Tn.z, up_g, upd]) <;> grind
  · funext l; (try simp only [cT, mT, mkT, bld, rem, sK, sO, sH, sP, sC, sS, sW, sm, sz, nwin, nw, Tn.K, Tn.O, Tn.H, Tn.P, Tn.W, Tn.C, Tn.U, Tn.S, Tn.n, Tn.m, Tn.z, up_g, upd]) <;> grind
  · funext a i; (try simp only [cT, mT, mkT, bld, rem, sK, sO, sH, sP, sC, sS, sW, sm, sz, nwin, nw, Tn.K, Tn.O, Tn.H, Tn.P, Tn.W, Tn.C, Tn.U, Tn.S, Tn.n, Tn.m, Tn.z, up_g, upd]) <;> grind
  · funext l; (try simp only [cT, mT, mkT, bld, rem, sK, sO, sH, sP, sC, sS, sW, sm, sz, nwin, nw, Tn.K, Tn.O, Tn.H, Tn.P, Tn.W, Tn.C, Tn.U, Tn.S, Tn.n, Tn.m, Tn.z, up_g, upd]) <;> grind
  · funext l; (try simp only [cT, mT, mkT, bld, rem, sK, sO, sH, sP, sC, sS, sW, sm, sz, nwin, nw, Tn.K, Tn.O, Tn.H, Tn.P, Tn.W, Tn.C, Tn.U, Tn.S, Tn.n, Tn.m, Tn.z, up_g, upd]) <;> grind
  · funext l; (try simp only [cT, mT, mkT, bld, rem, sK, sO, sH, sP, sC, sS, sW, sm, sz, nwin, nw, Tn.K, Tn.O, Tn.H, Tn.P, Tn.W, Tn.C, Tn.U, Tn.S, Tn.n, Tn.m, Tn.z, up_g, upd]) <;> grind
  · (try simp only [cT, mT, mkT, bld, rem, sK, sO, sH, sP, sC, sS, sW, sm, sz, nwin, nw, Tn.K, Tn.O, Tn.H, Tn.P, Tn.W, Tn.C, Tn.U, Tn.S, Tn.n, Tn.m, Tn.z, up_g, upd]) <;> grind
  · (try simp only [cT, mT, mkT, bld, rem, sK, sO, sH, sP, sC, sS, sW, sm, sz, nwin, nw, Tn.K, Tn.O, Tn.H, Tn.P, Tn.W, Tn.C, Tn.U, Tn.S, Tn.n, Tn.m, Tn.z, up_g, upd]) <;> grind
  · (try simp only [cT, mT, mkT, bld, rem, sK, sO, sH, sP, sC, sS, sW, sm, sz, nwin, nw, Tn.K, Tn.O, Tn.H, Tn.P, Tn.W, Tn.C, Tn.U, Tn.S, Tn.n, Tn.m, Tn.z, up_g, upd]) <;> grind
theorem c_sO {h j : Nat} {v : jx_V} {x : Int32} (hj : j < 25) (ht : 0 ≤ v (h+3) j) : cT h (jx_up v (h+4) j x) = sO (cT h v) j x := by
  refine Tx ?_ ?_ ?_ ?_ ?_ ?_ ?_ ?_ ?_ ?_ ?_
  · funext l; (try simp only [cT, mT, mkT, bld, rem, sK, sO, sH, sP, sC, sS, sW, sm, sz, nwin, nw, Tn.K, Tn.O, Tn.H, Tn.P, Tn.W, Tn.C, Tn.U, Tn.S, Tn.n, Tn.m, Tn.z, up_g, upd]) <;> grind
  · funext l; (try simp only [cT, mT, mkT, bld, rem, sK, sO, sH, sP, sC, sS, sW, sm, sz, nwin, nw, Tn.K, Tn.O, Tn.H, Tn.P, Tn.W, Tn.C, Tn.U, Tn.S, Tn.n, Tn.m, Tn.z, up_g, upd]) <;> grind
  · funext l; (try simp only [cT, mT, mkT, bld, rem, sK, sO, sH, sP, sC, sS, sW, sm, sz, nwin, nw, Tn.K, Tn.O, Tn.H, Tn.P, Tn.W, Tn.C, Tn.U, Tn.S, Tn.n, Tn.m, Tn.z, up_g, upd]) <;> grind
  · funext l; (try simp only [cT, mT, mkT, bld, rem, sK, sO, sH, sP, sC, sS, sW, sm, sz, nwin, nw, Tn.K, Tn.O, Tn.H, Tn.P, Tn.W, Tn.C, Tn.U, Tn.S, Tn.n, Tn.m, Tn.z, up_g, upd]) <;> grind
  · funext a i; (try simp only [cT, mT, mkT, bld, rem, sK, sO, sH, sP, sC, sS, sW, sm, sz, nwin, nw, Tn.K, Tn.O, Tn.H, Tn.P, Tn.W, Tn.C, Tn.U, Tn.S, Tn.n, Tn.m, Tn.z, up_g, upd]) <;> grind
  · funext l; (try simp only [cT, mT, mkT, bld, rem, sK, sO, sH, sP, sC, sS, sW, sm, sz, nwin, nw, Tn.K, Tn.O, Tn.H, Tn.P, Tn.W, Tn.C, Tn.U, Tn.S, Tn.n, Tn.m, Tn.z, up_g, upd]) <;> grind
  · funext l; (try simp only [cT, mT, mkT, bld, rem, sK, sO, sH, sP, sC, sS, sW, sm, sz, nwin, nw, Tn.K, Tn.O, Tn.H, Tn.P, Tn.W, Tn.C, Tn.U, Tn.S, Tn.n, Tn.m, Tn.z, up_g, upd]) <;> grind
  · funext l; (try simp only [cT, mT, mkT, bld, rem, sK, sO, sH, sP, sC, sS, sW, sm, sz, nwin, nw, Tn.K, Tn.O, Tn.H, Tn.P, Tn.W, Tn.C, Tn.U, Tn.S, Tn.n, Tn.m, Tn.z, up_g, upd]) <;> grind
  · (try simp only [cT, mT, mkT, bld, rem, sK, sO, sH, sP, sC, sS, sW, sm, sz, nwin, nw, Tn.K, Tn.O, Tn.H, Tn.P, Tn.W, Tn.C, Tn.U, Tn.S, Tn.n, Tn.m, Tn.z, up_g, upd]) <;> grind
  · (try simp only [cT, mT, mkT, bld, rem, sK, sO, sH, sP, sC, sS, sW, sm, sz, nwin, nw, Tn.K, Tn.O, Tn.H, Tn.P, Tn.W, Tn.C, Tn.U, Tn.S, Tn.n, Tn.m, Tn.z, up_g, upd]) <;> grind
  · (try simp only [cT, mT, mkT, bld, rem, sK, sO, sH, sP, sC, sS, sW, sm, sz, nwin, nw, Tn.K, Tn.O, Tn.H, Tn.P, Tn.W, Tn.C, Tn.U, Tn.S, Tn.n, Tn.m, Tn.z, up_g, upd]) <;> grind
theorem m_sO {j : Nat} {s : Nat → Int32} {x : Int32} (hj : j < 25) (ht : 0 ≤ s (11+4*j)) : mT (upd s (12+4*j) x) = sO (mT s) j x := by
  refine Tx ?_ ?_ ?_ ?_ ?_ ?_ ?_ ?_ ?_ ?_ ?_
  · funext l; (try simp only [cT, mT, mkT, bld, rem, sK, sO, sH, sP, sC, sS, sW, sm, sz, nwin, nw, Tn.K, Tn.O, Tn.H, Tn.P, Tn.W, Tn.C, Tn.U, Tn.S, Tn.n, Tn.m, Tn.z, up_g, upd]) <;> grind
  · funext l; (try simp only [cT, mT, mkT, bld, rem, sK, sO, sH, sP, sC, sS, sW, sm, sz, nwin, nw, Tn.K, Tn.O, Tn.H, Tn.P, Tn.W, Tn.C, Tn.U, Tn.S, Tn.n, Tn.m, Tn.z, up_g, upd]) <;> grind
  · funext l; (try simp only [cT, mT, mkT, bld, rem, sK, sO, sH, sP, sC, sS, sW, sm, sz, nwin, nw, Tn.K, Tn.O, Tn.H, Tn.P, Tn.W, Tn.C, Tn.U, Tn.S, Tn.n, Tn.m, Tn.z, up_g, upd]) <;> grind
  · funext l; (try simp only [cT, mT, mkT, bld, rem, sK, sO, sH, sP, sC, sS, sW, sm, sz, nwin, nw, Tn.K, Tn.O, Tn.H, Tn.P, Tn.W, Tn.C, Tn.U, Tn.S, Tn.n, Tn.m, Tn.z, up_g, upd]) <;> grind
  · funext a i; (try simp only [cT, mT, mkT, bld, rem, sK, sO, sH, sP, sC, sS, sW, sm, sz, nwin, nw, Tn.K, Tn.O, Tn.H, Tn.P, Tn.W, Tn.C, Tn.U, Tn.S, Tn.n, Tn.m, Tn.z, up_g, upd]) <;> grind
  · funext l; (try simp only [cT, mT, mkT, bld, rem, sK, sO, sH, sP, sC, sS, sW, sm, sz, nwin, nw, Tn.K, Tn.O, Tn.H, Tn.P, Tn.W, Tn.C, Tn.U, Tn.S, Tn.n, Tn.m, Tn.z, up_g, upd]) <;> grind
  · funext l; (try simp only [cT, mT, mkT, bld, rem, sK, sO, sH, sP, sC, sS, sW, sm, sz, nwin, nw, Tn.K, Tn.O, Tn.H, Tn.P, Tn.W, Tn.C, Tn.U, Tn.S, Tn.n, Tn.m, Tn.z, up_g, upd]) <;> grind
  · funext l; (try simp only [cT, mT, mkT, bld, rem, sK, sO, sH, sP, sC, sS, sW, sm, sz, nwin, nw, Tn.K, Tn.O, Tn.H, Tn.P, Tn.W, Tn.C, Tn.U, Tn.S, Tn.n, Tn.m, Tn.z, up_g, upd]) <;> grind
  · (try simp only [cT, mT, mkT, bld, rem, sK, sO, sH, sP, sC, sS, sW, sm, sz, nwin, nw, Tn.K, Tn.O, Tn.H, Tn.P, Tn.W, Tn.C, Tn.U, Tn.S, Tn.n, Tn.m, Tn.z, up_g, upd]) <;> grind
  · (try simp only [cT, mT, mkT, bld, rem, sK, sO, sH, sP, sC, sS, sW, sm, sz, nwin, nw, Tn.K, Tn.O, Tn.H, Tn.P, Tn.W, Tn.C, Tn.U, Tn.S, Tn.n, Tn.m, Tn.z, up_g, upd]) <;> grind
  · (try simp only [cT, mT, mkT, bld, rem, sK, sO, sH, sP, sC, sS, sW, sm, sz, nwin, nw, Tn.K, Tn.O, Tn.H, Tn.P, Tn.W, Tn.C, Tn.U, Tn.S, Tn.n, Tn.m, Tn.z, up_g, upd]) <;> grind
theorem c_sH {h j : Nat} {v : jx_V} {x : Int32} (hj : j < 25) (ht : 0 ≤ v (h+3) j) : cT h (jx_up v (h+5) j x) = sH (cT h v) j x := by
  refine Tx ?_ ?_ ?_ ?_ ?_ ?_ ?_ ?_ ?_ ?_ ?_
  · funext l; (try simp only [cT, mT, mkT, bld, rem, sK, sO, sH, sP, sC, sS, sW, sm, sz, nwin, nw, Tn.K, Tn.O, Tn.H, Tn.P, Tn.W, Tn.C, Tn.U, Tn.S, Tn.n, Tn.m, Tn.z, up_g, upd]) <;> grind
  · funext l; (try simp only [cT, mT, mkT, bld, rem, sK, sO, sH, sP, sC, sS, sW, sm, sz, nwin, nw, Tn.K, Tn.O, Tn.H, Tn.P, Tn.W, Tn.C, Tn.U, Tn.S, Tn.n, Tn.m, Tn.z, up_g, upd]) <;> grind
  · funext l; (try simp only [cT, mT, mkT, bld, rem, sK, sO, sH, sP, sC, sS, sW, sm, sz, nwin, nw, Tn.K, Tn.O, Tn.H, Tn.P, Tn.W, Tn.C, Tn.U, Tn.S, Tn.n, Tn.m, Tn.z, up_g, upd]) <;> grind
  · funext l; (try simp only [cT, mT, mkT, bld, rem, sK, sO, sH, sP, sC, sS, sW, sm, sz, nwin, nw, Tn.K, Tn.O, Tn.H, Tn.P, Tn.W, Tn.C, Tn.U, Tn.S, Tn.n, Tn.m, Tn.z, up_g, upd]) <;> grind
  · funext a i; (try simp only [cT, mT, mkT, bld, rem, sK, sO, sH, sP, sC, sS, sW, sm, sz, nwin, nw, Tn.K, Tn.O, Tn.H, Tn.P, Tn.W, Tn.C, Tn.U, Tn.S, Tn.n, Tn.m, Tn.z, up_g, upd]) <;> grind
  · funext l; (try simp only [cT, mT, mkT, bld, rem, sK, sO, sH, sP, sC, sS, sW, sm, sz, nwin, nw, Tn.K, Tn.O, Tn.H, Tn.P, Tn.W, Tn.C, Tn.U, Tn.S, Tn.n, Tn.m, Tn.z, up_g, upd]) <;> grind
  · funext l; (try simp only [cT, mT, mkT, bld, rem, sK, sO, sH, sP, sC, sS, sW, sm, sz, nwin, nw, Tn.K, Tn.O, Tn.H, Tn.P, Tn.W, Tn.C, Tn.U, Tn.S, Tn.n, Tn.m, Tn.z, up_g, upd]) <;> grind
  · funext l; (try simp only [cT, mT, mkT, bld, rem, sK, sO, sH, sP, sC, sS, sW, sm, sz, nwin, nw, Tn.K, Tn.O, Tn.H, Tn.P, Tn.W, Tn.C, Tn.U, Tn.S, Tn.n, Tn.m, Tn.z, up_g, upd]) <;> grind
  · (try simp only [cT, mT, mkT, bld, rem, sK, sO, sH, sP, sC, sS, sW, sm, sz, nwin, nw, Tn.K, Tn.O, Tn.H, Tn.P, Tn.W, Tn.C, Tn.U, Tn.S, Tn.n, Tn.m, Tn.z, up_g, upd]) <;> grind
  · (try simp only [cT, mT, mkT, bld, rem, sK, sO, sH, sP, sC, sS, sW, sm, sz, nwin, nw, Tn.K, Tn.O, Tn.H, Tn.P, Tn.W, Tn.C, Tn.U, Tn.S, Tn.n, Tn.m, Tn.z, up_g, upd]) <;> grind
  · (try simp only [cT, mT, mkT, bld, rem, sK, sO, sH, sP, sC, sS, sW, sm, sz, nwin, nw, Tn.K, Tn.O, Tn.H, Tn.P, Tn.W, Tn.C, Tn.U, Tn.S, Tn.n, Tn.m, Tn.z, up_g, upd]) <;> grind
theorem m_sH {j : Nat} {s : Nat → Int32} {x : Int32} (hj : j < 25) (ht : 0 ≤ s (11+4*j)) : mT (upd s (13+4*j) x) = sH (mT s) j x := by
  refine Tx ?_ ?_ ?_ ?_ ?_ ?_ ?_ ?_ ?_ ?_ ?_
  · funext l; (try simp only [cT, mT, mkT, bld, rem, sK, sO, sH, sP, sC, sS, sW, sm, sz, nwin, nw, Tn.K, Tn.O, Tn.H, Tn.P, Tn.W, Tn.C, Tn.U, Tn.S, Tn.n, Tn.m, Tn.z, up_g, upd]) <;> grind
  · funext l; (try simp only [cT, mT, mkT, bld, rem, sK, sO, sH, sP, sC, sS, sW, sm, sz, nwin, nw, Tn.K, Tn.O, Tn.H, Tn.P, Tn.W, Tn.C, Tn.U, Tn.S, Tn.n, Tn.m, Tn.z, up_g, upd]) <;> grind
  · funext l; (try simp only [cT, mT, mkT, bld, rem, sK, sO, sH, sP, sC, sS, sW, sm, sz, nwin, nw, Tn.K, Tn.O, Tn.H, Tn.P, Tn.W, Tn.C, Tn.U, Tn.S, Tn.n, Tn.m, Tn.z, up_g, upd]) <;> grind
  · funext l; (try simp only [cT, mT, mkT, bld, rem, sK, sO, sH, sP, sC, sS, sW, sm, sz, nwin, nw, Tn.K, Tn.O, Tn.H, Tn.P, Tn.W, Tn.C, Tn.U, Tn.S, Tn.n, Tn.m, Tn.z, up_g, upd]) <;> grind
  · funext a i; (try simp only [cT, mT, mkT, bld, rem, sK, sO, sH, sP, sC, sS, sW, sm, sz, nwin, nw, Tn.K, Tn.O, Tn.H, Tn.P, Tn.W, Tn.C, Tn.U, Tn.S, Tn.n, Tn.m, Tn.z, up_g, upd]) <;> grind
  · funext l; (try simp only [cT, mT, mkT, bld, rem, sK, sO, sH, sP, sC, sS, sW, sm, sz, nwin, nw, Tn.K, Tn.O, Tn.H, Tn.P, Tn.W, Tn.C, Tn.U, Tn.S, Tn.n, Tn.m, Tn.z, up_g, upd]) <;> grind
  · funext l; (try simp only [cT, mT, mkT, bld, rem, sK, sO, sH, sP, sC, sS, sW, sm, sz, nwin, nw, Tn.K, Tn.O, Tn.H, Tn.P, Tn.W, Tn.C, Tn.U, Tn.S, Tn.n, Tn.m, Tn.z, up_g, upd]) <;> grind
  · funext l; (try simp only [cT, mT, mkT, bld, rem, sK, sO, sH, sP, sC, sS, sW, sm, sz, nwin, nw, Tn.K, Tn.O, Tn.H, Tn.P, Tn.W, Tn.C, Tn.U, Tn.S, Tn.n, Tn.m, Tn.z, up_g, upd]) <;> grind
  · (try simp only [cT, mT, mkT, bld, rem, sK, sO, sH, sP, sC, sS, sW, sm, sz, nwin, nw, Tn.K, Tn.O, Tn.H, Tn.P, Tn.W, Tn.C, Tn.U, Tn.S, Tn.n, Tn.m, Tn.z, up_g, upd]) <;> grind
  · (try simp only [cT, mT, mkT, bld, rem, sK, sO, sH, sP, sC, sS, sW, sm, sz, nwin, nw, Tn.K, Tn.O, Tn.H, Tn.P, Tn.W, Tn.C, Tn.U, Tn.S, Tn.n, Tn.m, Tn.z, up_g, upd]) <;> grind
  · (try simp only [cT, mT, mkT, bld, rem, sK, sO, sH, sP, sC, sS, sW, sm, sz, nwin, nw, Tn.K, Tn.O, Tn.H, Tn.P, Tn.W, Tn.C, Tn.U, Tn.S, Tn.n, Tn.m, Tn.z, up_g, upd]) <;> grind
theorem c_sP {h j : Nat} {v : jx_V} {x : Int32} (hj : j < 25) (ht : 0 ≤ v (h+3) j) : cT h (jx_up v (h+6) j x) = sP (cT h v) j x := by
  refine Tx ?_ ?_ ?_ ?_ ?_ ?_ ?_ ?_ ?_ ?_ ?_
  · funext l; (try simp only [cT, mT, mkT, bld, rem, sK, sO, sH, sP, sC, sS, sW, sm, sz, nwin, nw, Tn.K, Tn.O, Tn.H, Tn.P, Tn.W, Tn.C, Tn.U, Tn.S, Tn.n, Tn.m, Tn.z, up_g, upd]) <;> grind
  · funext l; (try simp only [cT, mT, mkT, bld, rem, sK, sO, sH, sP, sC, sS, sW, sm, sz, nwin, nw, Tn.K, Tn.O, Tn.H, Tn.P, Tn.W, Tn.C, Tn.U, Tn.S, Tn.n, Tn.m, Tn.z, up_g, upd]) <;> grind
  · funext l; (try simp only [cT, mT, mkT, bld, rem, sK, sO, sH, sP, sC, sS, sW, sm, sz, nwin, nw, Tn.K, Tn.O, Tn.H, Tn.P, Tn.W, Tn.C, Tn.U, Tn.S, Tn.n, Tn.m, Tn.z, up_g, upd]) <;> grind
  · funext l; (try simp only [cT, mT, mkT, bld, rem, sK, sO, sH, sP, sC, sS, sW, sm, sz, nwin, nw, Tn.K, Tn.O, Tn.H, Tn.P, Tn.W, Tn.C, Tn.U, Tn.S, Tn.n, Tn.m, Tn.z, up_g, upd]) <;> grind
  · funext a i; (try simp only [cT, mT, mkT, bld, rem, sK, sO, sH, sP, sC, sS, sW, sm, sz, nwin, nw, Tn.K, Tn.O, Tn.H, Tn.P, Tn.W, Tn.C, Tn.U, Tn.S, Tn.n, Tn.m, Tn.z, up_g, upd]) <;> grind
  · funext l; (try simp only [cT, mT, mkT, bld, rem, sK, sO, sH, sP, sC, sS, sW, sm, sz, nwin, nw, Tn.K, Tn.O, Tn.H, Tn.P, Tn.W, Tn.C, Tn.U, Tn.S, Tn.n, Tn.m, Tn.z, up_g, upd]) <;> grind
  · funext l; (try simp only [cT, mT, mkT, bld, rem, sK, sO, sH, sP, sC, sS, sW, sm, sz, nwin, nw, Tn.K, Tn.O, Tn.H, Tn.P, Tn.W, Tn.C, Tn.U, Tn.S, Tn.n, Tn.m, Tn.z, up_g, upd]) <;> grind
  · funext l; (try simp only [cT, mT, mkT, bld, rem, sK, sO, sH, sP, sC, sS, sW, sm, sz, nwin, nw, Tn.K, Tn.O, Tn.H, Tn.P, Tn.W, Tn.C, Tn.U, Tn.S, Tn.n, Tn.m, Tn.z, up_g, upd]) <;> grind
  · (try simp only [cT, mT, mkT, bld, rem, sK, sO, sH, sP, sC, sS, sW, sm, sz, nwin, nw, Tn.K, Tn.O, Tn.H, Tn.P, Tn.W, Tn.C, Tn.U, Tn.S, Tn.n, Tn.m, Tn.z, up_g, upd]) <;> grind
  · (try simp only [cT, mT, mkT, bld, rem, sK, sO, sH, sP, sC, sS, sW, sm, sz, nwin, nw, Tn.K, Tn.O, Tn.H, Tn.P, Tn.W, Tn.C, Tn.U, Tn.S, Tn.n, Tn.m, Tn.z, up_g, upd]) <;> grind
  · (try simp only [cT, mT, mkT, bld, rem, sK, sO, sH, sP, sC, sS, sW, sm, sz, nwin, nw, Tn.K, Tn.O, Tn.H, Tn.P, Tn.W, Tn.C, Tn.U, Tn.S, Tn.n, Tn.m, Tn.z, up_g, upd]) <;> grind
theorem m_sP {j : Nat} {s : Nat → Int32} {x : Int32} (hj : j < 25) (ht : 0 ≤ s (11+4*j)) : mT (upd s (14+4*j) x) = sP (mT s) j x := by
  refine Tx ?_ ?_ ?_ ?_ ?_ ?_ ?_ ?_ ?_ ?_ ?_
  · funext l; (try simp only [cT, mT, mkT, bld, rem, sK, sO, sH, sP, sC, sS, sW, sm, sz, nwin, nw, Tn.K, Tn.O, Tn.H, Tn.P, Tn.W, Tn.C, Tn.U, Tn.S, Tn.n, Tn.m, Tn.z, up_g, upd]) <;> grind
  · funext l; (try simp only [cT, mT, mkT, bld, rem, sK, sO, sH, sP, sC, sS, sW, sm, sz, nwin, nw, Tn.K, Tn.O, Tn.H, Tn.P, Tn.W, Tn.C, Tn.U, Tn.S, Tn.n, Tn.m, Tn.z, up_g, upd]) <;> grind
  · funext l; (try simp only [cT, mT, mkT, bld, rem, sK, sO, sH, sP, sC, sS, sW, sm, sz, nwin, nw, Tn.K, Tn.O, Tn.H, Tn.P, Tn.W, Tn.C, Tn.U, Tn.S, Tn.n, Tn.m, Tn.z, up_g, upd]) <;> grind
  · funext l; (try simp only [cT, mT, mkT, bld, rem, sK, sO, sH, sP, sC, sS, sW, sm, sz, nwin, nw, Tn.K, Tn.O, Tn.H, Tn.P, Tn.W, Tn.C, Tn.U, Tn.S, Tn.n, Tn.m, Tn.z, up_g, upd]) <;> grind
  · funext a i; (try simp only [cT, mT, mkT, bld, rem, sK, sO, sH, sP, sC, sS, sW, sm, sz, nwin, nw, Tn.K, Tn.O, Tn.H, Tn.P, Tn.W, Tn.C, Tn.U, Tn.S, Tn.n, Tn.m, Tn.z, up_g, upd]) <;> grind
  · funext l; (try simp only [cT, mT, mkT, bld, rem, sK, sO, sH, sP, sC, sS, sW, sm, sz, nwin, nw, Tn.K, Tn.O, Tn.H, Tn.P, Tn.W, Tn.C, Tn.U, Tn.S, Tn.n, Tn.m, Tn.z, up_g, upd]) <;> grind
  · funext l; (try simp only [cT, mT, mkT, bld, rem, sK, sO, sH, sP, sC, sS, sW, sm, sz, nwin, nw, Tn.K, Tn.O, Tn.H, Tn.P, Tn.W, Tn.C, Tn.U, Tn.S, Tn.n, Tn.m, Tn.z, up_g, upd]) <;> grind
  · funext l; (try simp only [cT, mT, mkT, bld, rem, sK, sO, sH, sP, sC, sS, sW, sm, sz, nwin, nw, Tn.K, Tn.O, Tn.H, Tn.P, Tn.W, Tn.C, Tn.U, Tn.S, Tn.n, Tn.m, Tn.z, up_g, upd]) <;> grind
  · (try simp only [cT, mT, mkT, bld, rem, sK, sO, sH, sP, sC, sS, sW, sm, sz, nwin, nw, Tn.K, Tn.O, Tn.H, Tn.P, Tn.W, Tn.C, Tn.U, Tn.S, Tn.n, Tn.m, Tn.z, up_g, upd]) <;> grind
  · (try simp only [cT, mT, mkT, bld, rem, sK, sO, sH, sP, sC, sS, sW, sm, sz, nwin, nw, Tn.K, Tn.O, Tn.H, Tn.P, Tn.W, Tn.C, Tn.U, Tn.S, Tn.n, Tn.m, Tn.z, up_g, upd]) <;> grind
  · (try simp only [cT, mT, mkT, bld, rem, sK, sO, sH, sP, sC, sS, sW, sm, sz, nwin, nw, Tn.K, Tn.O, Tn.H, Tn.P, Tn.W, Tn.C, Tn.U, Tn.S, Tn.n, Tn.m, Tn.z, up_g, upd]) <;> grind
theorem m_put {j : Nat} {s : Nat → Int32} {k o hh p : Int32} (hj : j < 25) (hk : 0 ≤ k) : mT (upd (upd (upd (upd s (11+4*j) k) (12+4*j) o) (13+4*j) hh) (14+4*j) p) = bld (mT s) j k o hh p := by
  refine Tx ?_ ?_ ?_ ?_ ?_ ?_ ?_ ?_ ?_ ?_ ?_
  · funext l; (try simp only [cT, mT, mkT, bld, rem, sK, sO, sH, sP, sC, sS, sW, sm, sz, nwin, nw, Tn.K, Tn.O, Tn.H, Tn.P, Tn.W, Tn.C, Tn.U, Tn.S, Tn.n, Tn.m, Tn.z, up_g, upd]) <;> grind
  · funext l; (try simp only [cT, mT, mkT, bld, rem, sK, sO, sH, sP, sC, sS, sW, sm, sz, nwin, nw, Tn.K, Tn.O, Tn.H, Tn.P, Tn.W, Tn.C, Tn.U, Tn.S, Tn.n, Tn.m, Tn.z, up_g, upd]) <;> grind
  · funext l; (try simp only [cT, mT, mkT, bld, rem, sK, sO, sH, sP, sC, sS, sW, sm, sz, nwin, nw, Tn.K, Tn.O, Tn.H, Tn.P, Tn.W, Tn.C, Tn.U, Tn.S, Tn.n, Tn.m, Tn.z, up_g, upd]) <;> grind
  · funext l; (try simp only [cT, mT, mkT, bld, rem, sK, sO, sH, sP, sC, sS, sW, sm, sz, nwin, nw, Tn.K, Tn.O, Tn.H, Tn.P, Tn.W, Tn.C, Tn.U, Tn.S, Tn.n, Tn.m, Tn.z, up_g, upd]) <;> grind
  · funext a i; (try simp only [cT, mT, mkT, bld, rem, sK, sO, sH, sP, sC, sS, sW, sm, sz, nwin, nw, Tn.K, Tn.O, Tn.H, Tn.P, Tn.W, Tn.C, Tn.U, Tn.S, Tn.n, Tn.m, Tn.z, up_g, upd]) <;> grind
  · funext l; (try simp only [cT, mT, mkT, bld, rem, sK, sO, sH, sP, sC, sS, sW, sm, sz, nwin, nw, Tn.K, Tn.O, Tn.H, Tn.P, Tn.W, Tn.C, Tn.U, Tn.S, Tn.n, Tn.m, Tn.z, up_g, upd]) <;> grind
  · funext l; (try simp only [cT, mT, mkT, bld, rem, sK, sO, sH, sP, sC, sS, sW, sm, sz, nwin, nw, Tn.K, Tn.O, Tn.H, Tn.P, Tn.W, Tn.C, Tn.U, Tn.S, Tn.n, Tn.m, Tn.z, up_g, upd]) <;> grind
  · funext l; (try simp only [cT, mT, mkT, bld, rem, sK, sO, sH, sP, sC, sS, sW, sm, sz, nwin, nw, Tn.K, Tn.O, Tn.H, Tn.P, Tn.W, Tn.C, Tn.U, Tn.S, Tn.n, Tn.m, Tn.z, up_g, upd]) <;> grind
  · (try simp only [cT, mT, mkT, bld, rem, sK, sO, sH, sP, sC, sS, sW, sm, sz, nwin, nw, Tn.K, Tn.O, Tn.H, Tn.P, Tn.W, Tn.C, Tn.U, Tn.S, Tn.n, Tn.m, Tn.z, up_g, upd]) <;> grind
  · (try simp only [cT, mT, mkT, bld, rem, sK, sO, sH, sP, sC, sS, sW, sm, sz, nwin, nw, Tn.K, Tn.O, Tn.H, Tn.P, Tn.W, Tn.C, Tn.U, Tn.S, Tn.n, Tn.m, Tn.z, up_g, upd]) <;> grind
  · (try simp only [cT, mT, mkT, bld, rem, sK, sO, sH, sP, sC, sS, sW, sm, sz, nwin, nw, Tn.K, Tn.O, Tn.H, Tn.P, Tn.W, Tn.C, Tn.U, Tn.S, Tn.n, Tn.m, Tn.z, up_g, upd]) <;> grind
theorem m_off {j : Nat} {s : Nat → Int32} (hj : j < 25) : mT (upd s (11+4*j) (-1)) = rem (mT s) j := by
  refine Tx ?_ ?_ ?_ ?_ ?_ ?_ ?_ ?_ ?_ ?_ ?_
  · funext l; (try simp only [cT, mT, mkT, bld, rem, sK, sO, sH, sP, sC, sS, sW, sm, sz, nwin, nw, Tn.K, Tn.O, Tn.H, Tn.P, Tn.W, Tn.C, Tn.U, Tn.S, Tn.n, Tn.m, Tn.z, up_g, upd]) <;> grind
  · funext l; (try simp only [cT, mT, mkT, bld, rem, sK, sO, sH, sP, sC, sS, sW, sm, sz, nwin, nw, Tn.K, Tn.O, Tn.H, Tn.P, Tn.W, Tn.C, Tn.U, Tn.S, Tn.n, Tn.m, Tn.z, up_g, upd]) <;> grind
  · funext l; (try simp only [cT, mT, mkT, bld, rem, sK, sO, sH, sP, sC, sS, sW, sm, sz, nwin, nw, Tn.K, Tn.O, Tn.H, Tn.P, Tn.W, Tn.C, Tn.U, Tn.S, Tn.n, Tn.m, Tn.z, up_g, upd]) <;> grind
  · funext l; (try simp only [cT, mT, mkT, bld, rem, sK, sO, sH, sP, sC, sS, sW, sm, sz, nwin, nw, Tn.K, Tn.O, Tn.H, Tn.P, Tn.W, Tn.C, Tn.U, Tn.S, Tn.n, Tn.m, Tn.z, up_g, upd]) <;> grind
  · funext a i; (try simp only [cT, mT, mkT, bld, rem, sK, sO, sH, sP, sC, sS, sW, sm, sz, nwin, nw, Tn.K, Tn.O, Tn.H, Tn.P, Tn.W, Tn.C, Tn.U, Tn.S, Tn.n, Tn.m, Tn.z, up_g, upd]) <;> grind
  · funext l; (try simp only [cT, mT, mkT, bld, rem, sK, sO, sH, sP, sC, sS, sW, sm, sz, nwin, nw, Tn.K, Tn.O, Tn.H, Tn.P, Tn.W, Tn.C, Tn.U, Tn.S, Tn.n, Tn.m, Tn.z, up_g, upd]) <;> grind
  · funext l; (try simp only [cT, mT, mkT, bld, rem, sK, sO, sH, sP, sC, sS, sW, sm, sz, nwin, nw, Tn.K, Tn.O, Tn.H, Tn.P, Tn.W, Tn.C, Tn.U, Tn.S, Tn.n, Tn.m, Tn.z, up_g, upd]) <;> grind
  · funext l; (try simp only [cT, mT, mkT, bld, rem, sK, sO, sH, sP, sC, sS, sW, sm, sz, nwin, nw, Tn.K, Tn.O, Tn.H, Tn.P, Tn.W, Tn.C, Tn.U, Tn.S, Tn.n, Tn.m, Tn.z, up_g, upd]) <;> grind
  · (try simp only [cT, mT, mkT, bld, rem, sK, sO, sH, sP, sC, sS, sW, sm, sz, nwin, nw, Tn.K, Tn.O, Tn.H, Tn.P, Tn.W, Tn.C, Tn.U, Tn.S, Tn.n, Tn.m, Tn.z, up_g, upd]) <;> grind
  · (try simp only [cT, mT, mkT, bld, rem, sK, sO, sH, sP, sC, sS, sW, sm, sz, nwin, nw, Tn.K, Tn.O, Tn.H, Tn.P, Tn.W, Tn.C, Tn.U, Tn.S, Tn.n, Tn.m, Tn.z, up_g, upd]) <;> grind
  · (try simp only [cT, mT, mkT, bld, rem, sK, sO, sH, sP, sC, sS, sW, sm, sz, nwin, nw, Tn.K, Tn.O, Tn.H, Tn.P, Tn.W, Tn.C, Tn.U, Tn.S, Tn.n, Tn.m, Tn.z, up_g, upd]) <;> grind
theorem c_sC {h j : Nat} {v : jx_V} {x : Int32} (hj : j < 4) : cT h (jx_up v (h+13) j x) = sC (cT h v) j x := by
  refine Tx ?_ ?_ ?_ ?_ ?_ ?_ ?_ ?_ ?_ ?_ ?_
  · funext l; (try simp only [cT, mT, mkT, bld, rem, sK, sO, sH, sP, sC, sS, sW, sm, sz, nwin, nw, Tn.K, Tn.O, Tn.H, Tn.P, Tn.W, Tn.C, Tn.U, Tn.S, Tn.n, Tn.m, Tn.z, up_g, upd]) <;> grind
  · funext l; (try simp only [cT, mT, mkT, bld, rem, sK, sO, sH, sP, sC, sS, sW, sm, sz, nwin, nw, Tn.K, Tn.O, Tn.H, Tn.P, Tn.W, Tn.C, Tn.U, Tn.S, Tn.n, Tn.m, Tn.z, up_g, upd]) <;> grind
  · funext l; (try simp only [cT, mT, mkT, bld, rem, sK, sO, sH, sP, sC, sS, sW, sm, sz, nwin, nw, Tn.K, Tn.O, Tn.H, Tn.P, Tn.W, Tn.C, Tn.U, Tn.S, Tn.n, Tn.m, Tn.z, up_g, upd]) <;> grind
  · funext l; (try simp only [cT, mT, mkT, bld, rem, sK, sO, sH, sP, sC, sS, sW, sm, sz, nwin, nw, Tn.K, Tn.O, Tn.H, Tn.P, Tn.W, Tn.C, Tn.U, Tn.S, Tn.n, Tn.m, Tn.z, up_g, upd]) <;> grind
  · funext a i; (try simp only [cT, mT, mkT, bld, rem, sK, sO, sH, sP, sC, sS, sW, sm, sz, nwin, nw, Tn.K, Tn.O, Tn.H, Tn.P, Tn.W, Tn.C, Tn.U, Tn.S, Tn.n, Tn.m, Tn.z, up_g, upd]) <;> grind
  · funext l; (try simp only [cT, mT, mkT, bld, rem, sK, sO, sH, sP, sC, sS, sW, sm, sz, nwin, nw, Tn.K, Tn.O, Tn.H, Tn.P, Tn.W, Tn.C, Tn.U, Tn.S, Tn.n, Tn.m, Tn.z, up_g, upd]) <;> grind
  · funext l; (try simp only [cT, mT, mkT, bld, rem, sK, sO, sH, sP, sC, sS, sW, sm, sz, nwin, nw, Tn.K, Tn.O, Tn.H, Tn.P, Tn.W, Tn.C, Tn.U, Tn.S, Tn.n, Tn.m, Tn.z, up_g, upd]) <;> grind
  · funext l; (try simp only [cT, mT, mkT, bld, rem, sK, sO, sH, sP, sC, sS, sW, sm, sz, nwin, nw, Tn.K, Tn.O, Tn.H, Tn.P, Tn.W, Tn.C, Tn.U, Tn.S, Tn.n, Tn.m, Tn.z, up_g, upd]) <;> grind
  · (try simp only [cT, mT, mkT, bld, rem, sK, sO, sH, sP, sC, sS, sW, sm, sz, nwin, nw, Tn.K, Tn.O, Tn.H, Tn.P, Tn.W, Tn.C, Tn.U, Tn.S, Tn.n, Tn.m, Tn.z, up_g, upd]) <;> grind
  · (try simp only [cT, mT, mkT, bld, rem, sK, sO, sH, sP, sC, sS, sW, sm, sz, nwin, nw, Tn.K, Tn.O, Tn.H, Tn.P, Tn.W, Tn.C, Tn.U, Tn.S, Tn.n, Tn.m, Tn.z, up_g, upd]) <;> grind
  · (try simp only [cT, mT, mkT, bld, rem, sK, sO, sH, sP, sC, sS, sW, sm, sz, nwin, nw, Tn.K, Tn.O, Tn.H, Tn.P, Tn.W, Tn.C, Tn.U, Tn.S, Tn.n, Tn.m, Tn.z, up_g, upd]) <;> grind
theorem m_sC {j : Nat} {s : Nat → Int32} {x : Int32} (hj : j < 4) : mT (upd s (3+j) x) = sC (mT s) j x := by
  refine Tx ?_ ?_ ?_ ?_ ?_ ?_ ?_ ?_ ?_ ?_ ?_
  · funext l; (try simp only [cT, mT, mkT, bld, rem, sK, sO, sH, sP, sC, sS, sW, sm, sz, nwin, nw, Tn.K, Tn.O, Tn.H, Tn.P, Tn.W, Tn.C, Tn.U, Tn.S, Tn.n, Tn.m, Tn.z, up_g, upd]) <;> grind
  · funext l; (try simp only [cT, mT, mkT, bld, rem, sK, sO, sH, sP, sC, sS, sW, sm, sz, nwin, nw, Tn.K, Tn.O, Tn.H, Tn.P, Tn.W, Tn.C, Tn.U, Tn.S, Tn.n, Tn.m, Tn.z, up_g, upd]) <;> grind
  · funext l; (try simp only [cT, mT, mkT, bld, rem, sK, sO, sH, sP, sC, sS, sW, sm, sz, nwin, nw, Tn.K, Tn.O, Tn.H, Tn.P, Tn.W, Tn.C, Tn.U, Tn.S, Tn.n, Tn.m, Tn.z, up_g, upd]) <;> grind
  · funext l; (try simp only [cT, mT, mkT, bld, rem, sK, sO, sH, sP, sC, sS, sW, sm, sz, nwin, nw, Tn.K, Tn.O, Tn.H, Tn.P, Tn.W, Tn.C, Tn.U, Tn.S, Tn.n, Tn.m, Tn.z, up_g, upd]) <;> grind
  · funext a i; (try simp only [cT, mT, mkT, bld, rem, sK, sO, sH, sP, sC, sS, sW, sm, sz, nwin, nw, Tn.K, Tn.O, Tn.H, Tn.P, Tn.W, Tn.C, Tn.U, Tn.S, Tn.n, Tn.m, Tn.z, up_g, upd]) <;> grind
  · funext l; (try simp only [cT, mT, mkT, bld, rem, sK, sO, sH, sP, sC, sS, sW, sm, sz, nwin, nw, Tn.K, Tn.O, Tn.H, Tn.P, Tn.W, Tn.C, Tn.U, Tn.S, Tn.n, Tn.m, Tn.z, up_g, upd]) <;> grind
  · funext l; (try simp only [cT, mT, mkT, bld, rem, sK, sO, sH, sP, sC, sS, sW, sm, sz, nwin, nw, Tn.K, Tn.O, Tn.H, Tn.P, Tn.W, Tn.C, Tn.U, Tn.S, Tn.n, Tn.m, Tn.z, up_g, upd]) <;> grind
  · funext l; (try simp only [cT, mT, mkT, bld, rem, sK, sO, sH, sP, sC, sS, sW, sm, sz, nwin, nw, Tn.K, Tn.O, Tn.H, Tn.P, Tn.W, Tn.C, Tn.U, Tn.S, Tn.n, Tn.m, Tn.z, up_g, upd]) <;> grind
  · (try simp only [cT, mT, mkT, bld, rem, sK, sO, sH, sP, sC, sS, sW, sm, sz, nwin, nw, Tn.K, Tn.O, Tn.H, Tn.P, Tn.W, Tn.C, Tn.U, Tn.S, Tn.n, Tn.m, Tn.z, up_g, upd]) <;> grind
  · (try simp only [cT, mT, mkT, bld, rem, sK, sO, sH, sP, sC, sS, sW, sm, sz, nwin, nw, Tn.K, Tn.O, Tn.H, Tn.P, Tn.W, Tn.C, Tn.U, Tn.S, Tn.n, Tn.m, Tn.z, up_g, upd]) <;> grind
  · (try simp only [cT, mT, mkT, bld, rem, sK, sO, sH, sP, sC, sS, sW, sm, sz, nwin, nw, Tn.K, Tn.O, Tn.H, Tn.P, Tn.W, Tn.C, Tn.U, Tn.S, Tn.n, Tn.m, Tn.z, up_g, upd]) <;> grind
theorem c_sS {h j : Nat} {v : jx_V} {x : Int32} (hj : j < 10) : cT h (jx_up v (h+15) j x) = sS (cT h v) j x := by
  refine Tx ?_ ?_ ?_ ?_ ?_ ?_ ?_ ?_ ?_ ?_ ?_
  · funext l; (try simp only [cT, mT, mkT, bld, rem, sK, sO, sH, sP, sC, sS, sW, sm, sz, nwin, nw, Tn.K, Tn.O, Tn.H, Tn.P, Tn.W, Tn.C, Tn.U, Tn.S, Tn.n, Tn.m, Tn.z, up_g, upd]) <;> grind
  · funext l; (try simp only [cT, mT, mkT, bld, rem, sK, sO, sH, sP, sC, sS, sW, sm, sz, nwin, nw, Tn.K, Tn.O, Tn.H, Tn.P, Tn.W, Tn.C, Tn.U, Tn.S, Tn.n, Tn.m, Tn.z, up_g, upd]) <;> grind
  · funext l; (try simp only [cT, mT, mkT, bld, rem, sK, sO, sH, sP, sC, sS, sW, sm, sz, nwin, nw, Tn.K, Tn.O, Tn.H, Tn.P, Tn.W, Tn.C, Tn.U, Tn.S, Tn.n, Tn.m, Tn.z, up_g, upd]) <;> grind
  · funext l; (try simp only [cT, mT, mkT, bld, rem, sK, sO, sH, sP, sC, sS, sW, sm, sz, nwin, nw, Tn.K, Tn.O, Tn.H, Tn.P, Tn.W, Tn.C, Tn.U, Tn.S, Tn.n, Tn.m, Tn.z, up_g, upd]) <;> grind
  · funext a i; (try simp only [cT, mT, mkT, bld, rem, sK, sO, sH, sP, sC, sS, sW, sm, sz, nwin, nw, Tn.K, Tn.O, Tn.H, Tn.P, Tn.W, Tn.C, Tn.U, Tn.S, Tn.n, Tn.m, Tn.z, up_g, upd]) <;> grind
  · funext l; (try simp only [cT, mT, mkT, bld, rem, sK, sO, sH, sP, sC, sS, sW, sm, sz, nwin, nw, Tn.K, Tn.O, Tn.H, Tn.P, Tn.W, Tn.C, Tn.U, Tn.S, Tn.n, Tn.m, Tn.z, up_g, upd]) <;> grind
  · funext l; (try simp only [cT, mT, mkT, bld, rem, sK, sO, sH, sP, sC, sS, sW, sm, sz, nwin, nw, Tn.K, Tn.O, Tn.H, Tn.P, Tn.W, Tn.C, Tn.U, Tn.S, Tn.n, Tn.m, Tn.z, up_g, upd]) <;> grind
  · funext l; (try simp only [cT, mT, mkT, bld, rem, sK, sO, sH, sP, sC, sS, sW, sm, sz, nwin, nw, Tn.K, Tn.O, Tn.H, Tn.P, Tn.W, Tn.C, Tn.U, Tn.S, Tn.n, Tn.m, Tn.z, up_g, upd]) <;> grind
  · (try simp only [cT, mT, mkT, bld, rem, sK, sO, sH, sP, sC, sS, sW, sm, sz, nwin, nw, Tn.K, Tn.O, Tn.H, Tn.P, Tn.W, Tn.C, Tn.U, Tn.S, Tn.n, Tn.m, Tn.z, up_g, upd]) <;> grind
  · (try simp only [cT, mT, mkT, bld, rem, sK, sO, sH, sP, sC, sS, sW, sm, sz, nwin, nw, Tn.K, Tn.O, Tn.H, Tn.P, Tn.W, Tn.C, Tn.U, Tn.S, Tn.n, Tn.m, Tn.z, up_g, upd]) <;> grind
  · (try simp only [cT, mT, mkT, bld, rem, sK, sO, sH, sP, sC, sS, sW, sm, sz, nwin, nw, Tn.K, Tn.O, Tn.H, Tn.P, Tn.W, Tn.C, Tn.U, Tn.S, Tn.n, Tn.m, Tn.z, up_g, upd]) <;> grind
theorem m_sS {j : Nat} {s : Nat → Int32} {x : Int32} (hj : j < 10) (hn : (s 1).toNatClampNeg ≤ 10) : mT (upd s (171+j) x) = sS (mT s) j x := by
  refine Tx ?_ ?_ ?_ ?_ ?_ ?_ ?_ ?_ ?_ ?_ ?_
  · funext l; (try simp only [cT, mT, mkT, bld, rem, sK, sO, sH, sP, sC, sS, sW, sm, sz, nwin, nw, Tn.K, Tn.O, Tn.H, Tn.P, Tn.W, Tn.C, Tn.U, Tn.S, Tn.n, Tn.m, Tn.z, up_g, upd]) <;> grind
  · funext l; (try simp only [cT, mT, mkT, bld, rem, sK, sO, sH, sP, sC, sS, sW, sm, sz, nwin, nw, Tn.K, Tn.O, Tn.H, Tn.P, Tn.W, Tn.C, Tn.U, Tn.S, Tn.n, Tn.m, Tn.z, up_g, upd]) <;> grind
  · funext l; (try simp only [cT, mT, mkT, bld, rem, sK, sO, sH, sP, sC, sS, sW, sm, sz, nwin, nw, Tn.K, Tn.O, Tn.H, Tn.P, Tn.W, Tn.C, Tn.U, Tn.S, Tn.n, Tn.m, Tn.z, up_g, upd]) <;> grind
  · funext l; (try simp only [cT, mT, mkT, bld, rem, sK, sO, sH, sP, sC, sS, sW, sm, sz, nwin, nw, Tn.K, Tn.O, Tn.H, Tn.P, Tn.W, Tn.C, Tn.U, Tn.S, Tn.n, Tn.m, Tn.z, up_g, upd]) <;> grind
  · funext a i; (try simp only [cT, mT, mkT, bld, rem, sK, sO, sH, sP, sC, sS, sW, sm, sz, nwin, nw, Tn.K, Tn.O, Tn.H, Tn.P, Tn.W, Tn.C, Tn.U, Tn.S, Tn.n, Tn.m, Tn.z, up_g, upd]) <;> grind
  · funext l; (try simp only [cT, mT, mkT, bld, rem, sK, sO, sH, sP, sC, sS, sW, sm, sz, nwin, nw, Tn.K, Tn.O, Tn.H, Tn.P, Tn.W, Tn.C, Tn.U, Tn.S, Tn.n, Tn.m, Tn.z, up_g, upd]) <;> grind
  · funext l; (try simp only [cT, mT, mkT, bld, rem, sK, sO, sH, sP, sC, sS, sW, sm, sz, nwin, nw, Tn.K, Tn.O, Tn.H, Tn.P, Tn.W, Tn.C, Tn.U, Tn.S, Tn.n, Tn.m, Tn.z, up_g, upd]) <;> grind
  · funext l; (try simp only [cT, mT, mkT, bld, rem, sK, sO, sH, sP, sC, sS, sW, sm, sz, nwin, nw, Tn.K, Tn.O, Tn.H, Tn.P, Tn.W, Tn.C, Tn.U, Tn.S, Tn.n, Tn.m, Tn.z, up_g, upd]) <;> grind
  · (try simp only [cT, mT, mkT, bld, rem, sK, sO, sH, sP, sC, sS, sW, sm, sz, nwin, nw, Tn.K, Tn.O, Tn.H, Tn.P, Tn.W, Tn.C, Tn.U, Tn.S, Tn.n, Tn.m, Tn.z, up_g, upd]) <;> grind
  · (try simp only [cT, mT, mkT, bld, rem, sK, sO, sH, sP, sC, sS, sW, sm, sz, nwin, nw, Tn.K, Tn.O, Tn.H, Tn.P, Tn.W, Tn.C, Tn.U, Tn.S, Tn.n, Tn.m, Tn.z, up_g, upd]) <;> grind
  · (try simp only [cT, mT, mkT, bld, rem, sK, sO, sH, sP, sC, sS, sW, sm, sz, nwin, nw, Tn.K, Tn.O, Tn.H, Tn.P, Tn.W, Tn.C, Tn.U, Tn.S, Tn.n, Tn.m, Tn.z, up_g, upd]) <;> grind
theorem c_sm {h j : Nat} {v : jx_V} {x : Int32} : cT h (jx_up v h 6 x) = sm (cT h v) x := by
  refine Tx ?_ ?_ ?_ ?_ ?_ ?_ ?_ ?_ ?_ ?_ ?_
  · funext l; (try simp only [cT, mT, mkT, bld, rem, sK, sO, sH, sP, sC, sS, sW, sm, sz, nwin, nw, Tn.K, Tn.O, Tn.H, Tn.P, Tn.W, Tn.C, Tn.U, Tn.S, Tn.n, Tn.m, Tn.z, up_g, upd]) <;> grind
  · funext l; (try simp only [cT, mT, mkT, bld, rem, sK, sO, sH, sP, sC, sS, sW, sm, sz, nwin, nw, Tn.K, Tn.O, Tn.H, Tn.P, Tn.W, Tn.C, Tn.U, Tn.S, Tn.n, Tn.m, Tn.z, up_g, upd]) <;> grind
  · funext l; (try simp only [cT, mT, mkT, bld, rem, sK, sO, sH, sP, sC, sS, sW, sm, sz, nwin, nw, Tn.K, Tn.O, Tn.H, Tn.P, Tn.W, Tn.C, Tn.U, Tn.S, Tn.n, Tn.m, Tn.z, up_g, upd]) <;> grind
  · funext l; (try simp only [cT, mT, mkT, bld, rem, sK, sO, sH, sP, sC, sS, sW, sm, sz, nwin, nw, Tn.K, Tn.O, Tn.H, Tn.P, Tn.W, Tn.C, Tn.U, Tn.S, Tn.n, Tn.m, Tn.z, up_g, upd]) <;> grind
  · funext a i; (try simp only [cT, mT, mkT, bld, rem, sK, sO, sH, sP, sC, sS, sW, sm, sz, nwin, nw, Tn.K, Tn.O, Tn.H, Tn.P, Tn.W, Tn.C, Tn.U, Tn.S, Tn.n, Tn.m, Tn.z, up_g, upd]) <;> grind
  · funext l; (try simp only [cT, mT, mkT, bld, rem, sK, sO, sH, sP, sC, sS, sW, sm, sz, nwin, nw, Tn.K, Tn.O, Tn.H, Tn.P, Tn.W, Tn.C, Tn.U, Tn.S, Tn.n, Tn.m, Tn.z, up_g, upd]) <;> grind
  · funext l; (try simp only [cT, mT, mkT, bld, rem, sK, sO, sH, sP, sC, sS, sW, sm, sz, nwin, nw, Tn.K, Tn.O, Tn.H, Tn.P, Tn.W, Tn.C, Tn.U, Tn.S, Tn.n, Tn.m, Tn.z, up_g, upd]) <;> grind
  · funext l; (try simp only [cT, mT, mkT, bld, rem, sK, sO, sH, sP, sC, sS, sW, sm, sz, nwin, nw, Tn.K, Tn.O, Tn.H, Tn.P, Tn.W, Tn.C, Tn.U, Tn.S, Tn.n, Tn.m, Tn.z, up_g, upd]) <;> grind
  · (try simp only [cT, mT, mkT, bld, rem, sK, sO, sH, sP, sC, sS, sW, sm, sz, nwin, nw, Tn.K, Tn.O, Tn.H, Tn.P, Tn.W, Tn.C, Tn.U, Tn.S, Tn.n, Tn.m, Tn.z, up_g, upd]) <;> grind
  · (try simp only [cT, mT, mkT, bld, rem, sK, sO, sH, sP, sC, sS, sW, sm, sz, nwin, nw, Tn.K, Tn.O, Tn.H, Tn.P, Tn.W, Tn.C, Tn.U, Tn.S, Tn.n, Tn.m, Tn.z, up_g, upd]) <;> grind
  · (try simp only [cT, mT, mkT, bld, rem, sK, sO, sH, sP, sC, sS, sW, sm, sz, nwin, nw, Tn.K, Tn.O, Tn.H, Tn.P, Tn.W, Tn.C, Tn.U, Tn.S, Tn.n, Tn.m, Tn.z, up_g, upd]) <;> grind
theorem m_sm {j : Nat} {s : Nat → Int32} {x : Int32} : mT (upd s 0 x) = sm (mT s) x := by
  refine Tx ?_ ?_ ?_ ?_ ?_ ?_ ?_ ?_ ?_ ?_ ?_
  · funext l; (try simp only [cT, mT, mkT, bld, rem, sK, sO, sH, sP, sC, sS, sW, sm, sz, nwin, nw, Tn.K, Tn.O, Tn.H, Tn.P, Tn.W, Tn.C, Tn.U, Tn.S, Tn.n, Tn.m, Tn.z, up_g, upd]) <;> grind
  · funext l; (try simp only [cT, mT, mkT, bld, rem, sK, sO, sH, sP, sC, sS, sW, sm, sz, nwin, nw, Tn.K, Tn.O, Tn.H, Tn.P, Tn.W, Tn.C, Tn.U, Tn.S, Tn.n, Tn.m, Tn.z, up_g, upd]) <;> grind
  · funext l; (try simp only [cT, mT, mkT, bld, rem, sK, sO, sH, sP, sC, sS, sW, sm, sz, nwin, nw, Tn.K, Tn.O, Tn.H, Tn.P, Tn.W, Tn.C, Tn.U, Tn.S, Tn.n, Tn.m, Tn.z, up_g, upd]) <;> grind
  · funext l; (try simp only [cT, mT, mkT, bld, rem, sK, sO, sH, sP, sC, sS, sW, sm, sz, nwin, nw, Tn.K, Tn.O, Tn.H, Tn.P, Tn.W, Tn.C, Tn.U, Tn.S, Tn.n, Tn.m, Tn.z, up_g, upd]) <;> grind
  · funext a i; (try simp only [cT, mT, mkT, bld, rem, sK, sO, sH, sP, sC, sS, sW, sm, sz, nwin, nw, Tn.K, Tn.O, Tn.H, Tn.P, Tn.W, Tn.C, Tn.U, Tn.S, Tn.n, Tn.m, Tn.z, up_g, upd]) <;> grind
  · funext l; (try simp only [cT, mT, mkT, bld, rem, sK, sO, sH, sP, sC, sS, sW, sm, sz, nwin, nw, Tn.K, Tn.O, Tn.H, Tn.P, Tn.W, Tn.C, Tn.U, Tn.S, Tn.n, Tn.m, Tn.z, up_g, upd]) <;> grind
  · funext l; (try simp only [cT, mT, mkT, bld, rem, sK, sO, sH, sP, sC, sS, sW, sm, sz, nwin, nw, Tn.K, Tn.O, Tn.H, Tn.P, Tn.W, Tn.C, Tn.U, Tn.S, Tn.n, Tn.m, Tn.z, up_g, upd]) <;> grind
  · funext l; (try simp only [cT, mT, mkT, bld, rem, sK, sO, sH, sP, sC, sS, sW, sm, sz, nwin, nw, Tn.K, Tn.O, Tn.H, Tn.P, Tn.W, Tn.C, Tn.U, Tn.S, Tn.n, Tn.m, Tn.z, up_g, upd]) <;> grind
  · (try simp only [cT, mT, mkT, bld, rem, sK, sO, sH, sP, sC, sS, sW, sm, sz, nwin, nw, Tn.K, Tn.O, Tn.H, Tn.P, Tn.W, Tn.C, Tn.U, Tn.S, Tn.n, Tn.m, Tn.z, up_g, upd]) <;> grind
  · (try simp only [cT, mT, mkT, bld, rem, sK, sO, sH, sP, sC, sS, sW, sm, sz, nwin, nw, Tn.K, Tn.O, Tn.H, Tn.P, Tn.W, Tn.C, Tn.U, Tn.S, Tn.n, Tn.m, Tn.z, up_g, upd]) <;> grind
  · (try simp only [cT, mT, mkT, bld, rem, sK, sO, sH, sP, sC, sS, sW, sm, sz, nwin, nw, Tn.K, Tn.O, Tn.H, Tn.P, Tn.W, Tn.C, Tn.U, Tn.S, Tn.n, Tn.m, Tn.z, up_g, upd]) <;> grind
theorem c_sz {h j : Nat} {v : jx_V} {x : Int32} : cT h (jx_up v h 7 x) = sz (cT h v) x := by
  refine Tx ?_ ?_ ?_ ?_ ?_ ?_ ?_ ?_ ?_ ?_ ?_
  · funext l; (try simp only [cT, mT, mkT, bld, rem, sK, sO, sH, sP, sC, sS, sW, sm, sz, nwin, nw, Tn.K, Tn.O, Tn.H, Tn.P, Tn.W, Tn.C, Tn.U, Tn.S, Tn.n, Tn.m, Tn.z, up_g, upd]) <;> grind
  · funext l; (try simp only [cT, mT, mkT, bld, rem, sK, sO, sH, sP, sC, sS, sW, sm, sz, nwin, nw, Tn.K, Tn.O, Tn.H, Tn.P, Tn.W, Tn.C, Tn.U, Tn.S, Tn.n, Tn.m, Tn.z, up_g, upd]) <;> grind
  · funext l; (try simp only [cT, mT, mkT, bld, rem, sK, sO, sH, sP, sC, sS, sW, sm, sz, nwin, nw, Tn.K, Tn.O, Tn.H, Tn.P, Tn.W, Tn.C, Tn.U, Tn.S, Tn.n, Tn.m, Tn.z, up_g, upd]) <;> grind
  · funext l; (try simp only [cT, mT, mkT, bld, rem, sK, sO, sH, sP, sC, sS, sW, sm, sz, nwin, nw, Tn.K, Tn.O, Tn.H, Tn.P, Tn.W, Tn.C, Tn.U, Tn.S, Tn.n, Tn.m, Tn.z, up_g, upd]) <;> grind
  · funext a i; (try simp only [cT, mT, mkT, bld, rem, sK, sO, sH, sP, sC, sS, sW, sm, sz, nwin, nw, Tn.K, Tn.O, Tn.H, Tn.P, Tn.W, Tn.C, Tn.U, Tn.S, Tn.n, Tn.m, Tn.z, up_g, upd]) <;> grind
  · funext l; (try simp only [cT, mT, mkT, bld, rem, sK, sO, sH, sP, sC, sS, sW, sm, sz, nwin, nw, Tn.K, Tn.O, Tn.H, Tn.P, Tn.W, Tn.C, Tn.U, Tn.S, Tn.n, Tn.m, Tn.z, up_g, upd]) <;> grind
  · funext l; (try simp only [cT, mT, mkT, bld, rem, sK, sO, sH, sP, sC, sS, sW, sm, sz, nwin, nw, Tn.K, Tn.O, Tn.H, Tn.P, Tn.W, Tn.C, Tn.U, Tn.S, Tn.n, Tn.m, Tn.z, up_g, upd]) <;> grind
  · funext l; (try simp only [cT, mT, mkT, bld, rem, sK, sO, sH, sP, sC, sS, sW, sm, sz, nwin, nw, Tn.K, Tn.O, Tn.H, Tn.P, Tn.W, Tn.C, Tn.U, Tn.S, Tn.n, Tn.m, Tn.z, up_g, upd]) <;> grind
  · (try simp only [cT, mT, mkT, bld, rem, sK, sO, sH, sP, sC, sS, sW, sm, sz, nwin, nw, Tn.K, Tn.O, Tn.H, Tn.P, Tn.W, Tn.C, Tn.U, Tn.S, Tn.n, Tn.m, Tn.z, up_g, upd]) <;> grind
  · (try simp only [cT, mT, mkT, bld, rem, sK, sO, sH, sP, sC, sS, sW, sm, sz, nwin, nw, Tn.K, Tn.O, Tn.H, Tn.P, Tn.W, Tn.C, Tn.U, Tn.S, Tn.n, Tn.m, Tn.z, up_g, upd]) <;> grind
  · (try simp only [cT, mT, mkT, bld, rem, sK, sO, sH, sP, sC, sS, sW, sm, sz, nwin, nw, Tn.K, Tn.O, Tn.H, Tn.P, Tn.W, Tn.C, Tn.U, Tn.S, Tn.n, Tn.m, Tn.z, up_g, upd]) <;> grind
theorem m_sz {j : Nat} {s : Nat → Int32} {x : Int32} : mT (upd s 2 x) = sz (mT s) x := by
  refine Tx ?_ ?_ ?_ ?_ ?_ ?_ ?_ ?_ ?_ ?_ ?_
  · funext l; (try simp only [cT, mT, mkT, bld, rem, sK, sO, sH, sP, sC, sS, sW, sm, sz, nwin, nw, Tn.K, Tn.O, Tn.H, Tn.P, Tn.W, Tn.C, Tn.U, Tn.S, Tn.n, Tn.m, Tn.z, up_g, upd]) <;> grind
  · funext l; (try simp only [cT, mT, mkT, bld, rem, sK, sO, sH, sP, sC, sS, sW, sm, sz, nwin, nw, Tn.K, Tn.O, Tn.H, Tn.P, Tn.W, Tn.C, Tn.U, Tn.S, Tn.n, Tn.m, Tn.z, up_g, upd]) <;> grind
  · funext l; (try simp only [cT, mT, mkT, bld, rem, sK, sO, sH, sP, sC, sS, sW, sm, sz, nwin, nw, Tn.K, Tn.O, Tn.H, Tn.P, Tn.W, Tn.C, Tn.U, Tn.S, Tn.n, Tn.m, Tn.z, up_g, upd]) <;> grind
  · funext l; (try simp only [cT, mT, mkT, bld, rem, sK, sO, sH, sP, sC, sS, sW, sm, sz, nwin, nw, Tn.K, Tn.O, Tn.H, Tn.P, Tn.W, Tn.C, Tn.U, Tn.S, Tn.n, Tn.m, Tn.z, up_g, upd]) <;> grind
  · funext a i; (try simp only [cT, mT, mkT, bld, rem, sK, sO, sH, sP, sC, sS, sW, sm, sz, nwin, nw, Tn.K, Tn.O, Tn.H, Tn.P, Tn.W, Tn.C, Tn.U, Tn.S, Tn.n, Tn.m, Tn.z, up_g, upd]) <;> grind
  · funext l; (try simp only [cT, mT, mkT, bld, rem, sK, sO, sH, sP, sC, sS, sW, sm, sz, nwin, nw, Tn.K, Tn.O, Tn.H, Tn.P, Tn.W, Tn.C, Tn.U, Tn.S, Tn.n, Tn.m, Tn.z, up_g, upd]) <;> grind
  · funext l; (try simp only [cT, mT, mkT, bld, rem, sK, sO, sH, sP, sC, sS, sW, sm, sz, nwin, nw, Tn.K, Tn.O, Tn.H, Tn.P, Tn.W, Tn.C, Tn.U, Tn.S, Tn.n, Tn.m, Tn.z, up_g, upd]) <;> grind
  · funext l; (try simp only [cT, mT, mkT, bld, rem, sK, sO, sH, sP, sC, sS, sW, sm, sz, nwin, nw, Tn.K, Tn.O, Tn.H, Tn.P, Tn.W, Tn.C, Tn.U, Tn.S, Tn.n, Tn.m, Tn.z, up_g, upd]) <;> grind
  · (try simp only [cT, mT, mkT, bld, rem, sK, sO, sH, sP, sC, sS, sW, sm, sz, nwin, nw, Tn.K, Tn.O, Tn.H, Tn.P, Tn.W, Tn.C, Tn.U, Tn.S, Tn.n, Tn.m, Tn.z, up_g, upd]) <;> grind
  · (try simp only [cT, mT, mkT, bld, rem, sK, sO, sH, sP, sC, sS, sW, sm, sz, nwin, nw, Tn.K, Tn.O, Tn.H, Tn.P, Tn.W, Tn.C, Tn.U, Tn.S, Tn.n, Tn.m, Tn.z, up_g, upd]) <;> grind
  · (try simp only [cT, mT, mkT, bld, rem, sK, sO, sH, sP, sC, sS, sW, sm, sz, nwin, nw, Tn.K, Tn.O, Tn.H, Tn.P, Tn.W, Tn.C, Tn.U, Tn.S, Tn.n, Tn.m, Tn.z, up_g, upd]) <;> grind
theorem c_sW {a0 : Nat} {h j : Nat} {v : jx_V} {x : Int32} (ha : a0 < 6) (hi : j < (v h 5).toNatClampNeg) : cT h (jx_up v (h+7+a0) j x) = sW (cT h v) a0 j x := by
  refine Tx ?_ ?_ ?_ ?_ ?_ ?_ ?_ ?_ ?_ ?_ ?_
  · funext l; (try simp only [cT, mT, mkT, bld, rem, sK, sO, sH, sP, sC, sS, sW, sm, sz, nwin, nw, Tn.K, Tn.O, Tn.H, Tn.P, Tn.W, Tn.C, Tn.U, Tn.S, Tn.n, Tn.m, Tn.z, up_g, upd]) <;> grind
  · funext l; (try simp only [cT, mT, mkT, bld, rem, sK, sO, sH, sP, sC, sS, sW, sm, sz, nwin, nw, Tn.K, Tn.O, Tn.H, Tn.P, Tn.W, Tn.C, Tn.U, Tn.S, Tn.n, Tn.m, Tn.z, up_g, upd]) <;> grind
  · funext l; (try simp only [cT, mT, mkT, bld, rem, sK, sO, sH, sP, sC, sS, sW, sm, sz, nwin, nw, Tn.K, Tn.O, Tn.H, Tn.P, Tn.W, Tn.C, Tn.U, Tn.S, Tn.n, Tn.m, Tn.z, up_g, upd]) <;> grind
  · funext l; (try simp only [cT, mT, mkT, bld, rem, sK, sO, sH, sP, sC, sS, sW, sm, sz, nwin, nw, Tn.K, Tn.O, Tn.H, Tn.P, Tn.W, Tn.C, Tn.U, Tn.S, Tn.n, Tn.m, Tn.z, up_g, upd]) <;> grind
  · funext a i; (try simp only [cT, mT, mkT, bld, rem, sK, sO, sH, sP, sC, sS, sW, sm, sz, nwin, nw, Tn.K, Tn.O, Tn.H, Tn.P, Tn.W, Tn.C, Tn.U, Tn.S, Tn.n, Tn.m, Tn.z, up_g, upd]) <;> grind
  · funext l; (try simp only [cT, mT, mkT, bld, rem, sK, sO, sH, sP, sC, sS, sW, sm, sz, nwin, nw, Tn.K, Tn.O, Tn.H, Tn.P, Tn.W, Tn.C, Tn.U, Tn.S, Tn.n, Tn.m, Tn.z, up_g, upd]) <;> grind
  · funext l; (try simp only [cT, mT, mkT, bld, rem, sK, sO, sH, sP, sC, sS, sW, sm, sz, nwin, nw, Tn.K, Tn.O, Tn.H, Tn.P, Tn.W, Tn.C, Tn.U, Tn.S, Tn.n, Tn.m, Tn.z, up_g, upd]) <;> grind
  · funext l; (try simp only [cT, mT, mkT, bld, rem, sK, sO, sH, sP, sC, sS, sW, sm, sz, nwin, nw, Tn.K, Tn.O, Tn.H, Tn.P, Tn.W, Tn.C, Tn.U, Tn.S, Tn.n, Tn.m, Tn.z, up_g, upd]) <;> grind
  · (try simp only [cT, mT, mkT, bld, rem, sK, sO, sH, sP, sC, sS, sW, sm, sz, nwin, nw, Tn.K, Tn.O, Tn.H, Tn.P, Tn.W, Tn.C, Tn.U, Tn.S, Tn.n, Tn.m, Tn.z, up_g, upd]) <;> grind
  · (try simp only [cT, mT, mkT, bld, rem, sK, sO, sH, sP, sC, sS, sW, sm, sz, nwin, nw, Tn.K, Tn.O, Tn.H, Tn.P, Tn.W, Tn.C, Tn.U, Tn.S, Tn.n, Tn.m, Tn.z, up_g, upd]) <;> grind
  · (try simp only [cT, mT, mkT, bld, rem, sK, sO, sH, sP, sC, sS, sW, sm, sz, nwin, nw, Tn.K, Tn.O, Tn.H, Tn.P, Tn.W, Tn.C, Tn.U, Tn.S, Tn.n, Tn.m, Tn.z, up_g, upd]) <;> grind
theorem m_sW {a0 : Nat} {j : Nat} {s : Nat → Int32} {x : Int32} (ha : a0 < 6) (hi : j < (s 1).toNatClampNeg) (hn : (s 1).toNatClampNeg ≤ 10) : mT (upd s (111+6*j+a0) x) = sW (mT s) a0 j x := by
  refine Tx ?_ ?_ ?_ ?_ ?_ ?_ ?_ ?_ ?_ ?_ ?_
  · funext l; (try simp only [cT, mT, mkT, bld, rem, sK, sO, sH, sP, sC, sS, sW, sm, sz, nwin, nw, Tn.K, Tn.O, Tn.H, Tn.P, Tn.W, Tn.C, Tn.U, Tn.S, Tn.n, Tn.m, Tn.z, up_g, upd]) <;> grind
  · funext l; (try simp only [cT, mT, mkT, bld, rem, sK, sO, sH, sP, sC, sS, sW, sm, sz, nwin, nw, Tn.K, Tn.O, Tn.H, Tn.P, Tn.W, Tn.C, Tn.U, Tn.S, Tn.n, Tn.m, Tn.z, up_g, upd]) <;> grind
  · funext l; (try simp only [cT, mT, mkT, bld, rem, sK, sO, sH, sP, sC, sS, sW, sm, sz, nwin, nw, Tn.K, Tn.O, Tn.H, Tn.P, Tn.W, Tn.C, Tn.U, Tn.S, Tn.n, Tn.m, Tn.z, up_g, upd]) <;> grind
  · funext l; (try simp only [cT, mT, mkT, bld, rem, sK, sO, sH, sP, sC, sS, sW, sm, sz, nwin, nw, Tn.K, Tn.O, Tn.H, Tn.P, Tn.W, Tn.C, Tn.U, Tn.S, Tn.n, Tn.m, Tn.z, up_g, upd]) <;> grind
  · funext a i; (try simp only [cT, mT, mkT, bld, rem, sK, sO, sH, sP, sC, sS, sW, sm, sz, nwin, nw, Tn.K, Tn.O, Tn.H, Tn.P, Tn.W, Tn.C, Tn.U, Tn.S, Tn.n, Tn.m, Tn.z, up_g, upd]) <;> grind
  · funext l; (try simp only [cT, mT, mkT, bld, rem, sK, sO, sH, sP, sC, sS, sW, sm, sz, nwin, nw, Tn.K, Tn.O, Tn.H, Tn.P, Tn.W, Tn.C, Tn.U, Tn.S, Tn.n, Tn.m, Tn.z, up_g, upd]) <;> grind
  · funext l; (try simp only [cT, mT, mkT, bld, rem, sK, sO, sH, sP, sC, sS, sW, sm, sz, nwin, nw, Tn.K, Tn.O, Tn.H, Tn.P, Tn.W, Tn.C, Tn.U, Tn.S, Tn.n, Tn.m, Tn.z, up_g, upd]) <;> grind
  · funext l; (try simp only [cT, mT, mkT, bld, rem, sK, sO, sH, sP, sC, sS, sW, sm, sz, nwin, nw, Tn.K, Tn.O, Tn.H, Tn.P, Tn.W, Tn.C, Tn.U, Tn.S, Tn.n, Tn.m, Tn.z, up_g, upd]) <;> grind
  · (try simp only [cT, mT, mkT, bld, rem, sK, sO, sH, sP, sC, sS, sW, sm, sz, nwin, nw, Tn.K, Tn.O, Tn.H, Tn.P, Tn.W, Tn.C, Tn.U, Tn.S, Tn.n, Tn.m, Tn.z, up_g, upd]) <;> grind
  · (try simp only [cT, mT, mkT, bld, rem, sK, sO, sH, sP, sC, sS, sW, sm, sz, nwin, nw, Tn.K, Tn.O, Tn.H, Tn.P, Tn.W, Tn.C, Tn.U, Tn.S, Tn.n, Tn.m, Tn.z, up_g, upd]) <;> grind
  · (try simp only [cT, mT, mkT, bld, rem, sK, sO, sH, sP, sC, sS, sW, sm, sz, nwin, nw, Tn.K, Tn.O, Tn.H, Tn.P, Tn.W, Tn.C, Tn.U, Tn.S, Tn.n, Tn.m, Tn.z, up_g, upd]) <;> grind
