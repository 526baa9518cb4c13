def v0_X3 : jx_V := fun h k => if h = 0 ∧ k = 7 then 1 else if h = 3 then -1 else if h = 13 then Int32.ofNat (k + 1) else if h = 15 then -1 else 0
def v0_X0 : jx_V := fun _ _ => 0
def v0_X1 : jx_V := fun _ _ => 0
def v0_X2 : jx_V := fun h k => if h = 0 ∧ k = 6 then -1 else 0
def v0_X4 : jx_V := fun h => if h < 1 then (fun _ => 0) else if h < 17 then v0_X3 (h - 1) else if h < 33 then v0_X3 (h - 17) else if h < 49 then v0_X3 (h - 33) else if h < 53 then v0_X0 (h - 49) else if h < 55 then v0_X2 (h - 53) else if h < 63 then v0_X1 (h - 55) else fun _ => 0
def v0_X5 : jx_V := fun h k => if h = 1 then (if k = 2 then 1 else if 3 ≤ k ∧ k < 7 then Int32.ofNat (k - 2) else if 11 ≤ k ∧ k < 111 ∧ (k - 11) % 4 = 0 then -1 else if 171 ≤ k then -1 else 0) else 0
def vs_X3 : jx_V := fun h k => if h = 0 ∧ k = 7 then 1 else 0
def vs_X5 : jx_V := fun _ _ => 0
theorem jn_outer {hs hs' : List Nat} {a b : Nat → Nat} (h : hs.map a = hs'.map b) : (fun i : Nat => (hs[i]?).map a) = (fun i : Nat => (hs'[i]?).map b) := by
  funext i
  rw [← List.getElem?_map, ← List.getElem?_map, h]
theorem jn_run {f : Option jx_V} {N : Nat} {sh : Nat → jx_Sh} {w : jx_V} (h : (match f with | some v => decide (∀ h, h < N → ∀ k, k < jx_len (sh h) → v h k = w h k) | none => false) = true) : ∃ v, f = some v ∧ ∀ h, h < N → ∀ k, k < jx_len (sh h) → v h k = w h k := by
  cases f with
  | none => cases h
  | some v => exact ⟨v, rfl, of_decide_eq_true h⟩
theorem jn_vret {p : Program} {l : Launch} {e : Env} {R : Room} {s : State} {m : MethodId} {args : Array Value} {below : List Frame} {meth : Method} {c : Code} {D : va_G} {cl : List vw_C} {cI cJ : ClassId} {A : Nat → Prop} {kc ks nL : Nat} {cc : ByteArray} {own : String} {Ts : List Cond} {ws : va_W} {pc q n : Nat} {lv : List (Nat × Value)} {sh : Nat → jx_Sh} {v0 : jx_V} (E : jn_E p s m args meth c cc nL own Ts D cl cI cJ A) (a : Nat → Nat) (ha : a 0 = q) (hd : decode cc pc = .ok (.return_, 1)) (hI : va_D A ws → jx_inj n a A) (h : ∀ H, va_P D cl ws H → va_P D cl (jx_ws n cI cJ a sh v0) H) : jn_N p l e R s m args below meth c D cl A kc ks nL (MQ below (va_Qv (fun (_ : Unit) => True) (fun _ t => ∃ a : Nat → Nat, a 0 = q ∧ va_P D cl (jx_ws n cI cJ a sh v0) t.heap ∧ va_D A (jx_ws n cI cJ a sh v0)) A) args s kc ks A) ws pc lv [] :=
  fun H locs ls hP hD hS hl => W.vret E.1 E.2.1 E.2.2.2.2.2.1 (fun t ht hW => ⟨⟨(), rfl, trivial, ⟨a, ha, by rw [ht]; exact h H hP, jx_D (hI hD)⟩⟩, hS.F ht⟩) hS.2.2 hd E.2.2.2.2.2.2.1
